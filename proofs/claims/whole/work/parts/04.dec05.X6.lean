theorem dX6_init_0 : decode cX6_init 0 = .ok (.aload_n 0, 1) := by decide +kernel
theorem dX6_init_1 : decode cX6_init 1 = .ok (.invokespecial 3, 3) := by decide +kernel
theorem dX6_init_4 : decode cX6_init 4 = .ok (.aload_n 0, 1) := by decide +kernel
theorem dX6_init_5 : decode cX6_init 5 = .ok (.bipush 12, 2) := by decide +kernel
theorem dX6_init_7 : decode cX6_init 7 = .ok (.putfield 9, 3) := by decide +kernel
theorem dX6_init_10 : decode cX6_init 10 = .ok (.aload_n 0, 1) := by decide +kernel
theorem dX6_init_11 : decode cX6_init 11 = .ok (.bipush 9, 2) := by decide +kernel
theorem dX6_init_13 : decode cX6_init 13 = .ok (.newarray .int, 2) := by decide +kernel
theorem dX6_init_15 : decode cX6_init 15 = .ok (.putfield 15, 3) := by decide +kernel
theorem dX6_init_18 : decode cX6_init 18 = .ok (.aload_n 0, 1) := by decide +kernel
theorem dX6_init_19 : decode cX6_init 19 = .ok (.bipush 9, 2) := by decide +kernel
theorem dX6_init_21 : decode cX6_init 21 = .ok (.newarray .long, 2) := by decide +kernel
theorem dX6_init_23 : decode cX6_init 23 = .ok (.putfield 19, 3) := by decide +kernel
theorem dX6_init_26 : decode cX6_init 26 = .ok (.return_, 1) := by decide +kernel
theorem dX6_lay_0 : decode cX6_lay 0 = .ok (.aload_n 0, 1) := by decide +kernel
theorem dX6_lay_1 : decode cX6_lay 1 = .ok (.iload_n 1, 1) := by decide +kernel
theorem dX6_lay_2 : decode cX6_lay 2 = .ok (.putfield 9, 3) := by decide +kernel
theorem dX6_lay_5 : decode cX6_lay 5 = .ok (.aload_n 0, 1) := by decide +kernel
theorem dX6_lay_6 : decode cX6_lay 6 = .ok (.iload_n 2, 1) := by decide +kernel
theorem dX6_lay_7 : decode cX6_lay 7 = .ok (.putfield 23, 3) := by decide +kernel
theorem dX6_lay_10 : decode cX6_lay 10 = .ok (.aload_n 0, 1) := by decide +kernel
theorem dX6_lay_11 : decode cX6_lay 11 = .ok (.iconst 0, 1) := by decide +kernel
theorem dX6_lay_12 : decode cX6_lay 12 = .ok (.invokevirtual 26, 3) := by decide +kernel
theorem dX6_lay_15 : decode cX6_lay 15 = .ok (.return_, 1) := by decide +kernel
theorem dX6_blankFrom_0 : decode cX6_blankFrom 0 = .ok (.iload_n 1, 1) := by decide +kernel
theorem dX6_blankFrom_1 : decode cX6_blankFrom 1 = .ok (.istore_n 2, 1) := by decide +kernel
theorem dX6_blankFrom_2 : decode cX6_blankFrom 2 = .ok (.iload_n 2, 1) := by decide +kernel
theorem dX6_blankFrom_3 : decode cX6_blankFrom 3 = .ok (.bipush 9, 2) := by decide +kernel
theorem dX6_blankFrom_5 : decode cX6_blankFrom 5 = .ok (.if_icmp .ge 39, 3) := by decide +kernel
theorem dX6_blankFrom_8 : decode cX6_blankFrom 8 = .ok (.aload_n 0, 1) := by decide +kernel
theorem dX6_blankFrom_9 : decode cX6_blankFrom 9 = .ok (.getfield 15, 3) := by decide +kernel
theorem dX6_blankFrom_12 : decode cX6_blankFrom 12 = .ok (.iload_n 2, 1) := by decide +kernel
theorem dX6_blankFrom_13 : decode cX6_blankFrom 13 = .ok (.aload_n 0, 1) := by decide +kernel
theorem dX6_blankFrom_14 : decode cX6_blankFrom 14 = .ok (.getfield 9, 3) := by decide +kernel
theorem dX6_blankFrom_17 : decode cX6_blankFrom 17 = .ok (.bipush 8, 2) := by decide +kernel
theorem dX6_blankFrom_19 : decode cX6_blankFrom 19 = .ok (.if_icmp .ge 10, 3) := by decide +kernel
theorem dX6_blankFrom_22 : decode cX6_blankFrom 22 = .ok (.aload_n 0, 1) := by decide +kernel
theorem dX6_blankFrom_23 : decode cX6_blankFrom 23 = .ok (.getfield 9, 3) := by decide +kernel
theorem dX6_blankFrom_26 : decode cX6_blankFrom 26 = .ok (.goto 4, 3) := by decide +kernel
theorem dX6_blankFrom_29 : decode cX6_blankFrom 29 = .ok (.iconst (-1), 1) := by decide +kernel
theorem dX6_blankFrom_30 : decode cX6_blankFrom 30 = .ok (.iastore, 1) := by decide +kernel
theorem dX6_blankFrom_31 : decode cX6_blankFrom 31 = .ok (.aload_n 0, 1) := by decide +kernel
theorem dX6_blankFrom_32 : decode cX6_blankFrom 32 = .ok (.getfield 19, 3) := by decide +kernel
theorem dX6_blankFrom_35 : decode cX6_blankFrom 35 = .ok (.iload_n 2, 1) := by decide +kernel
theorem dX6_blankFrom_36 : decode cX6_blankFrom 36 = .ok (.lconst 0, 1) := by decide +kernel
theorem dX6_blankFrom_37 : decode cX6_blankFrom 37 = .ok (.lastore, 1) := by decide +kernel
theorem dX6_blankFrom_38 : decode cX6_blankFrom 38 = .ok (.iinc 2 1, 3) := by decide +kernel
theorem dX6_blankFrom_41 : decode cX6_blankFrom 41 = .ok (.goto (-39), 3) := by decide +kernel
theorem dX6_blankFrom_44 : decode cX6_blankFrom 44 = .ok (.return_, 1) := by decide +kernel
theorem dX6_copyFrom_0 : decode cX6_copyFrom 0 = .ok (.aload_n 0, 1) := by decide +kernel
theorem dX6_copyFrom_1 : decode cX6_copyFrom 1 = .ok (.aload_n 1, 1) := by decide +kernel
theorem dX6_copyFrom_2 : decode cX6_copyFrom 2 = .ok (.getfield 9, 3) := by decide +kernel
theorem dX6_copyFrom_5 : decode cX6_copyFrom 5 = .ok (.putfield 9, 3) := by decide +kernel
theorem dX6_copyFrom_8 : decode cX6_copyFrom 8 = .ok (.aload_n 0, 1) := by decide +kernel
theorem dX6_copyFrom_9 : decode cX6_copyFrom 9 = .ok (.aload_n 1, 1) := by decide +kernel
theorem dX6_copyFrom_10 : decode cX6_copyFrom 10 = .ok (.getfield 23, 3) := by decide +kernel
theorem dX6_copyFrom_13 : decode cX6_copyFrom 13 = .ok (.putfield 23, 3) := by decide +kernel
theorem dX6_copyFrom_16 : decode cX6_copyFrom 16 = .ok (.aload_n 1, 1) := by decide +kernel
theorem dX6_copyFrom_17 : decode cX6_copyFrom 17 = .ok (.getfield 15, 3) := by decide +kernel
theorem dX6_copyFrom_20 : decode cX6_copyFrom 20 = .ok (.iconst 0, 1) := by decide +kernel
theorem dX6_copyFrom_21 : decode cX6_copyFrom 21 = .ok (.aload_n 0, 1) := by decide +kernel
theorem dX6_copyFrom_22 : decode cX6_copyFrom 22 = .ok (.getfield 15, 3) := by decide +kernel
theorem dX6_copyFrom_25 : decode cX6_copyFrom 25 = .ok (.iconst 0, 1) := by decide +kernel
theorem dX6_copyFrom_26 : decode cX6_copyFrom 26 = .ok (.bipush 9, 2) := by decide +kernel
theorem dX6_copyFrom_28 : decode cX6_copyFrom 28 = .ok (.invokestatic 30, 3) := by decide +kernel
theorem dX6_copyFrom_31 : decode cX6_copyFrom 31 = .ok (.aload_n 1, 1) := by decide +kernel
theorem dX6_copyFrom_32 : decode cX6_copyFrom 32 = .ok (.getfield 19, 3) := by decide +kernel
theorem dX6_copyFrom_35 : decode cX6_copyFrom 35 = .ok (.iconst 0, 1) := by decide +kernel
theorem dX6_copyFrom_36 : decode cX6_copyFrom 36 = .ok (.aload_n 0, 1) := by decide +kernel
theorem dX6_copyFrom_37 : decode cX6_copyFrom 37 = .ok (.getfield 19, 3) := by decide +kernel
theorem dX6_copyFrom_40 : decode cX6_copyFrom 40 = .ok (.iconst 0, 1) := by decide +kernel
theorem dX6_copyFrom_41 : decode cX6_copyFrom 41 = .ok (.bipush 9, 2) := by decide +kernel
theorem dX6_copyFrom_43 : decode cX6_copyFrom 43 = .ok (.invokestatic 30, 3) := by decide +kernel
theorem dX6_copyFrom_46 : decode cX6_copyFrom 46 = .ok (.return_, 1) := by decide +kernel
theorem dX6_isRow_0 : decode cX6_isRow 0 = .ok (.aload_n 0, 1) := by decide +kernel
theorem dX6_isRow_1 : decode cX6_isRow 1 = .ok (.getfield 9, 3) := by decide +kernel
theorem dX6_isRow_4 : decode cX6_isRow 4 = .ok (.bipush 11, 2) := by decide +kernel
theorem dX6_isRow_6 : decode cX6_isRow 6 = .ok (.if_icmp .ge 7, 3) := by decide +kernel
theorem dX6_isRow_9 : decode cX6_isRow 9 = .ok (.iconst 1, 1) := by decide +kernel
theorem dX6_isRow_10 : decode cX6_isRow 10 = .ok (.goto 4, 3) := by decide +kernel
theorem dX6_isRow_13 : decode cX6_isRow 13 = .ok (.iconst 0, 1) := by decide +kernel
theorem dX6_isRow_14 : decode cX6_isRow 14 = .ok (.ireturn, 1) := by decide +kernel
theorem dX6_trapOfNumbers_0 : decode cX6_trapOfNumbers 0 = .ok (.aload_n 0, 1) := by decide +kernel
theorem dX6_trapOfNumbers_1 : decode cX6_trapOfNumbers 1 = .ok (.getfield 9, 3) := by decide +kernel
theorem dX6_trapOfNumbers_4 : decode cX6_trapOfNumbers 4 = .ok (.bipush 12, 2) := by decide +kernel
theorem dX6_trapOfNumbers_6 : decode cX6_trapOfNumbers 6 = .ok (.if_icmp .ne 5, 3) := by decide +kernel
theorem dX6_trapOfNumbers_9 : decode cX6_trapOfNumbers 9 = .ok (.iconst 3, 1) := by decide +kernel
theorem dX6_trapOfNumbers_10 : decode cX6_trapOfNumbers 10 = .ok (.ireturn, 1) := by decide +kernel
theorem dX6_trapOfNumbers_11 : decode cX6_trapOfNumbers 11 = .ok (.aload_n 0, 1) := by decide +kernel
theorem dX6_trapOfNumbers_12 : decode cX6_trapOfNumbers 12 = .ok (.getfield 9, 3) := by decide +kernel
theorem dX6_trapOfNumbers_15 : decode cX6_trapOfNumbers 15 = .ok (.bipush 8, 2) := by decide +kernel
theorem dX6_trapOfNumbers_17 : decode cX6_trapOfNumbers 17 = .ok (.if_icmp .lt 5, 3) := by decide +kernel
theorem dX6_trapOfNumbers_20 : decode cX6_trapOfNumbers 20 = .ok (.iconst 2, 1) := by decide +kernel
theorem dX6_trapOfNumbers_21 : decode cX6_trapOfNumbers 21 = .ok (.ireturn, 1) := by decide +kernel
theorem dX6_trapOfNumbers_22 : decode cX6_trapOfNumbers 22 = .ok (.iload_n 1, 1) := by decide +kernel
theorem dX6_trapOfNumbers_23 : decode cX6_trapOfNumbers 23 = .ok (.aload_n 0, 1) := by decide +kernel
theorem dX6_trapOfNumbers_24 : decode cX6_trapOfNumbers 24 = .ok (.getfield 23, 3) := by decide +kernel
theorem dX6_trapOfNumbers_27 : decode cX6_trapOfNumbers 27 = .ok (.invokestatic 36, 3) := by decide +kernel
theorem dX6_trapOfNumbers_30 : decode cX6_trapOfNumbers 30 = .ok (.ifCond .eq 7, 3) := by decide +kernel
theorem dX6_trapOfNumbers_33 : decode cX6_trapOfNumbers 33 = .ok (.iconst 0, 1) := by decide +kernel
theorem dX6_trapOfNumbers_34 : decode cX6_trapOfNumbers 34 = .ok (.goto 4, 3) := by decide +kernel
theorem dX6_trapOfNumbers_37 : decode cX6_trapOfNumbers 37 = .ok (.iconst 1, 1) := by decide +kernel
theorem dX6_trapOfNumbers_38 : decode cX6_trapOfNumbers 38 = .ok (.ireturn, 1) := by decide +kernel
theorem dX6_readAs_0 : decode cX6_readAs 0 = .ok (.aload_n 0, 1) := by decide +kernel
theorem dX6_readAs_1 : decode cX6_readAs 1 = .ok (.iload_n 2, 1) := by decide +kernel
theorem dX6_readAs_2 : decode cX6_readAs 2 = .ok (.invokevirtual 40, 3) := by decide +kernel
theorem dX6_readAs_5 : decode cX6_readAs 5 = .ok (.istore 4, 2) := by decide +kernel
theorem dX6_readAs_7 : decode cX6_readAs 7 = .ok (.iload 4, 2) := by decide +kernel
theorem dX6_readAs_9 : decode cX6_readAs 9 = .ok (.ifCond .eq 6, 3) := by decide +kernel
theorem dX6_readAs_12 : decode cX6_readAs 12 = .ok (.iload 4, 2) := by decide +kernel
theorem dX6_readAs_14 : decode cX6_readAs 14 = .ok (.ireturn, 1) := by decide +kernel
theorem dX6_readAs_15 : decode cX6_readAs 15 = .ok (.aload_n 0, 1) := by decide +kernel
theorem dX6_readAs_16 : decode cX6_readAs 16 = .ok (.getfield 9, 3) := by decide +kernel
theorem dX6_readAs_19 : decode cX6_readAs 19 = .ok (.iload_n 1, 1) := by decide +kernel
theorem dX6_readAs_20 : decode cX6_readAs 20 = .ok (.invokestatic 44, 3) := by decide +kernel
theorem dX6_readAs_23 : decode cX6_readAs 23 = .ok (.ifCond .ne 5, 3) := by decide +kernel
theorem dX6_readAs_26 : decode cX6_readAs 26 = .ok (.iconst 2, 1) := by decide +kernel
theorem dX6_readAs_27 : decode cX6_readAs 27 = .ok (.ireturn, 1) := by decide +kernel
theorem dX6_readAs_28 : decode cX6_readAs 28 = .ok (.aload_n 3, 1) := by decide +kernel
theorem dX6_readAs_29 : decode cX6_readAs 29 = .ok (.iload_n 1, 1) := by decide +kernel
theorem dX6_readAs_30 : decode cX6_readAs 30 = .ok (.aload_n 0, 1) := by decide +kernel
theorem dX6_readAs_31 : decode cX6_readAs 31 = .ok (.getfield 19, 3) := by decide +kernel
theorem dX6_readAs_34 : decode cX6_readAs 34 = .ok (.iload_n 2, 1) := by decide +kernel
theorem dX6_readAs_35 : decode cX6_readAs 35 = .ok (.laload, 1) := by decide +kernel
theorem dX6_readAs_36 : decode cX6_readAs 36 = .ok (.aload_n 0, 1) := by decide +kernel
theorem dX6_readAs_37 : decode cX6_readAs 37 = .ok (.getfield 9, 3) := by decide +kernel
theorem dX6_readAs_40 : decode cX6_readAs 40 = .ok (.iload_n 1, 1) := by decide +kernel
theorem dX6_readAs_41 : decode cX6_readAs 41 = .ok (.invokestatic 47, 3) := by decide +kernel
theorem dX6_readAs_44 : decode cX6_readAs 44 = .ok (.invokevirtual 51, 3) := by decide +kernel
theorem dX6_readAs_47 : decode cX6_readAs 47 = .ok (.iconst 0, 1) := by decide +kernel
theorem dX6_readAs_48 : decode cX6_readAs 48 = .ok (.ireturn, 1) := by decide +kernel
theorem dX6_writeAs_0 : decode cX6_writeAs 0 = .ok (.aload_n 0, 1) := by decide +kernel
theorem dX6_writeAs_1 : decode cX6_writeAs 1 = .ok (.iload_n 2, 1) := by decide +kernel
theorem dX6_writeAs_2 : decode cX6_writeAs 2 = .ok (.invokevirtual 40, 3) := by decide +kernel
theorem dX6_writeAs_5 : decode cX6_writeAs 5 = .ok (.istore 4, 2) := by decide +kernel
theorem dX6_writeAs_7 : decode cX6_writeAs 7 = .ok (.iload 4, 2) := by decide +kernel
theorem dX6_writeAs_9 : decode cX6_writeAs 9 = .ok (.ifCond .eq 6, 3) := by decide +kernel
theorem dX6_writeAs_12 : decode cX6_writeAs 12 = .ok (.iload 4, 2) := by decide +kernel
theorem dX6_writeAs_14 : decode cX6_writeAs 14 = .ok (.ireturn, 1) := by decide +kernel
theorem dX6_writeAs_15 : decode cX6_writeAs 15 = .ok (.iload_n 1, 1) := by decide +kernel
theorem dX6_writeAs_16 : decode cX6_writeAs 16 = .ok (.aload_n 0, 1) := by decide +kernel
theorem dX6_writeAs_17 : decode cX6_writeAs 17 = .ok (.getfield 9, 3) := by decide +kernel
theorem dX6_writeAs_20 : decode cX6_writeAs 20 = .ok (.invokestatic 44, 3) := by decide +kernel
theorem dX6_writeAs_23 : decode cX6_writeAs 23 = .ok (.ifCond .ne 5, 3) := by decide +kernel
theorem dX6_writeAs_26 : decode cX6_writeAs 26 = .ok (.iconst 2, 1) := by decide +kernel
theorem dX6_writeAs_27 : decode cX6_writeAs 27 = .ok (.ireturn, 1) := by decide +kernel
theorem dX6_writeAs_28 : decode cX6_writeAs 28 = .ok (.aload_n 0, 1) := by decide +kernel
theorem dX6_writeAs_29 : decode cX6_writeAs 29 = .ok (.getfield 19, 3) := by decide +kernel
theorem dX6_writeAs_32 : decode cX6_writeAs 32 = .ok (.iload_n 2, 1) := by decide +kernel
theorem dX6_writeAs_33 : decode cX6_writeAs 33 = .ok (.iload_n 1, 1) := by decide +kernel
theorem dX6_writeAs_34 : decode cX6_writeAs 34 = .ok (.iload_n 3, 1) := by decide +kernel
theorem dX6_writeAs_35 : decode cX6_writeAs 35 = .ok (.invokestatic 57, 3) := by decide +kernel
theorem dX6_writeAs_38 : decode cX6_writeAs 38 = .ok (.iload_n 1, 1) := by decide +kernel
theorem dX6_writeAs_39 : decode cX6_writeAs 39 = .ok (.aload_n 0, 1) := by decide +kernel
theorem dX6_writeAs_40 : decode cX6_writeAs 40 = .ok (.getfield 9, 3) := by decide +kernel
theorem dX6_writeAs_43 : decode cX6_writeAs 43 = .ok (.invokestatic 47, 3) := by decide +kernel
theorem dX6_writeAs_46 : decode cX6_writeAs 46 = .ok (.lastore, 1) := by decide +kernel
theorem dX6_writeAs_47 : decode cX6_writeAs 47 = .ok (.iconst 0, 1) := by decide +kernel
theorem dX6_writeAs_48 : decode cX6_writeAs 48 = .ok (.ireturn, 1) := by decide +kernel
theorem dX6_box_0 : decode cX6_box 0 = .ok (.aload_n 0, 1) := by decide +kernel
theorem dX6_box_1 : decode cX6_box 1 = .ok (.getfield 9, 3) := by decide +kernel
theorem dX6_box_4 : decode cX6_box 4 = .ok (.bipush 12, 2) := by decide +kernel
theorem dX6_box_6 : decode cX6_box 6 = .ok (.if_icmp .ne 5, 3) := by decide +kernel
theorem dX6_box_9 : decode cX6_box 9 = .ok (.iconst 3, 1) := by decide +kernel
theorem dX6_box_10 : decode cX6_box 10 = .ok (.ireturn, 1) := by decide +kernel
theorem dX6_box_11 : decode cX6_box 11 = .ok (.aload_n 0, 1) := by decide +kernel
theorem dX6_box_12 : decode cX6_box 12 = .ok (.getfield 9, 3) := by decide +kernel
theorem dX6_box_15 : decode cX6_box 15 = .ok (.bipush 11, 2) := by decide +kernel
theorem dX6_box_17 : decode cX6_box 17 = .ok (.if_icmp .ne 5, 3) := by decide +kernel
theorem dX6_box_20 : decode cX6_box 20 = .ok (.iconst 2, 1) := by decide +kernel
theorem dX6_box_21 : decode cX6_box 21 = .ok (.ireturn, 1) := by decide +kernel
theorem dX6_box_22 : decode cX6_box 22 = .ok (.iload_n 1, 1) := by decide +kernel
theorem dX6_box_23 : decode cX6_box 23 = .ok (.aload_n 0, 1) := by decide +kernel
theorem dX6_box_24 : decode cX6_box 24 = .ok (.getfield 23, 3) := by decide +kernel
theorem dX6_box_27 : decode cX6_box 27 = .ok (.invokestatic 36, 3) := by decide +kernel
theorem dX6_box_30 : decode cX6_box 30 = .ok (.ifCond .ne 5, 3) := by decide +kernel
theorem dX6_box_33 : decode cX6_box 33 = .ok (.iconst 1, 1) := by decide +kernel
theorem dX6_box_34 : decode cX6_box 34 = .ok (.ireturn, 1) := by decide +kernel
theorem dX6_box_35 : decode cX6_box 35 = .ok (.aload_n 2, 1) := by decide +kernel
theorem dX6_box_36 : decode cX6_box 36 = .ok (.aload_n 0, 1) := by decide +kernel
theorem dX6_box_37 : decode cX6_box 37 = .ok (.getfield 15, 3) := by decide +kernel
theorem dX6_box_40 : decode cX6_box 40 = .ok (.iload_n 1, 1) := by decide +kernel
theorem dX6_box_41 : decode cX6_box 41 = .ok (.iaload, 1) := by decide +kernel
theorem dX6_box_42 : decode cX6_box 42 = .ok (.aload_n 0, 1) := by decide +kernel
theorem dX6_box_43 : decode cX6_box 43 = .ok (.getfield 19, 3) := by decide +kernel
theorem dX6_box_46 : decode cX6_box 46 = .ok (.iload_n 1, 1) := by decide +kernel
theorem dX6_box_47 : decode cX6_box 47 = .ok (.laload, 1) := by decide +kernel
theorem dX6_box_48 : decode cX6_box 48 = .ok (.invokevirtual 51, 3) := by decide +kernel
theorem dX6_box_51 : decode cX6_box 51 = .ok (.iconst 0, 1) := by decide +kernel
theorem dX6_box_52 : decode cX6_box 52 = .ok (.ireturn, 1) := by decide +kernel
theorem dX6_put_0 : decode cX6_put 0 = .ok (.aload_n 0, 1) := by decide +kernel
theorem dX6_put_1 : decode cX6_put 1 = .ok (.getfield 9, 3) := by decide +kernel
theorem dX6_put_4 : decode cX6_put 4 = .ok (.bipush 12, 2) := by decide +kernel
theorem dX6_put_6 : decode cX6_put 6 = .ok (.if_icmp .ne 5, 3) := by decide +kernel
theorem dX6_put_9 : decode cX6_put 9 = .ok (.iconst 3, 1) := by decide +kernel
theorem dX6_put_10 : decode cX6_put 10 = .ok (.ireturn, 1) := by decide +kernel
theorem dX6_put_11 : decode cX6_put 11 = .ok (.aload_n 0, 1) := by decide +kernel
theorem dX6_put_12 : decode cX6_put 12 = .ok (.getfield 9, 3) := by decide +kernel
theorem dX6_put_15 : decode cX6_put 15 = .ok (.bipush 11, 2) := by decide +kernel
theorem dX6_put_17 : decode cX6_put 17 = .ok (.if_icmp .eq 24, 3) := by decide +kernel
theorem dX6_put_20 : decode cX6_put 20 = .ok (.aload_n 0, 1) := by decide +kernel
theorem dX6_put_21 : decode cX6_put 21 = .ok (.getfield 9, 3) := by decide +kernel
theorem dX6_put_24 : decode cX6_put 24 = .ok (.bipush 8, 2) := by decide +kernel
theorem dX6_put_26 : decode cX6_put 26 = .ok (.if_icmp .ge 17, 3) := by decide +kernel
theorem dX6_put_29 : decode cX6_put 29 = .ok (.aload_n 2, 1) := by decide +kernel
theorem dX6_put_30 : decode cX6_put 30 = .ok (.getfield 61, 3) := by decide +kernel
theorem dX6_put_33 : decode cX6_put 33 = .ok (.bipush 8, 2) := by decide +kernel
theorem dX6_put_35 : decode cX6_put 35 = .ok (.invokestatic 36, 3) := by decide +kernel
theorem dX6_put_38 : decode cX6_put 38 = .ok (.ifCond .ne 5, 3) := by decide +kernel
theorem dX6_put_41 : decode cX6_put 41 = .ok (.iconst 2, 1) := by decide +kernel
theorem dX6_put_42 : decode cX6_put 42 = .ok (.ireturn, 1) := by decide +kernel
theorem dX6_put_43 : decode cX6_put 43 = .ok (.iload_n 1, 1) := by decide +kernel
theorem dX6_put_44 : decode cX6_put 44 = .ok (.aload_n 0, 1) := by decide +kernel
theorem dX6_put_45 : decode cX6_put 45 = .ok (.getfield 23, 3) := by decide +kernel
theorem dX6_put_48 : decode cX6_put 48 = .ok (.invokestatic 36, 3) := by decide +kernel
theorem dX6_put_51 : decode cX6_put 51 = .ok (.ifCond .ne 5, 3) := by decide +kernel
theorem dX6_put_54 : decode cX6_put 54 = .ok (.iconst 1, 1) := by decide +kernel
theorem dX6_put_55 : decode cX6_put 55 = .ok (.ireturn, 1) := by decide +kernel
theorem dX6_put_56 : decode cX6_put 56 = .ok (.aload_n 2, 1) := by decide +kernel
theorem dX6_put_57 : decode cX6_put 57 = .ok (.getfield 61, 3) := by decide +kernel
theorem dX6_put_60 : decode cX6_put 60 = .ok (.aload_n 0, 1) := by decide +kernel
theorem dX6_put_61 : decode cX6_put 61 = .ok (.getfield 9, 3) := by decide +kernel
theorem dX6_put_64 : decode cX6_put 64 = .ok (.invokestatic 44, 3) := by decide +kernel
theorem dX6_put_67 : decode cX6_put 67 = .ok (.ifCond .ne 5, 3) := by decide +kernel
theorem dX6_put_70 : decode cX6_put 70 = .ok (.iconst 2, 1) := by decide +kernel
theorem dX6_put_71 : decode cX6_put 71 = .ok (.ireturn, 1) := by decide +kernel
theorem dX6_put_72 : decode cX6_put 72 = .ok (.aload_n 0, 1) := by decide +kernel
theorem dX6_put_73 : decode cX6_put 73 = .ok (.iload_n 1, 1) := by decide +kernel
theorem dX6_put_74 : decode cX6_put 74 = .ok (.aload_n 2, 1) := by decide +kernel
theorem dX6_put_75 : decode cX6_put 75 = .ok (.getfield 61, 3) := by decide +kernel
theorem dX6_put_78 : decode cX6_put 78 = .ok (.aload_n 2, 1) := by decide +kernel
theorem dX6_put_79 : decode cX6_put 79 = .ok (.getfield 62, 3) := by decide +kernel
theorem dX6_put_82 : decode cX6_put 82 = .ok (.invokevirtual 66, 3) := by decide +kernel
theorem dX6_put_85 : decode cX6_put 85 = .ok (.iconst 0, 1) := by decide +kernel
theorem dX6_put_86 : decode cX6_put 86 = .ok (.ireturn, 1) := by decide +kernel
theorem dX6_stand_0 : decode cX6_stand 0 = .ok (.aload_n 0, 1) := by decide +kernel
theorem dX6_stand_1 : decode cX6_stand 1 = .ok (.getfield 9, 3) := by decide +kernel
theorem dX6_stand_4 : decode cX6_stand 4 = .ok (.bipush 8, 2) := by decide +kernel
theorem dX6_stand_6 : decode cX6_stand 6 = .ok (.if_icmp .ge 7, 3) := by decide +kernel
theorem dX6_stand_9 : decode cX6_stand 9 = .ok (.iconst 1, 1) := by decide +kernel
theorem dX6_stand_10 : decode cX6_stand 10 = .ok (.goto 4, 3) := by decide +kernel
theorem dX6_stand_13 : decode cX6_stand 13 = .ok (.iconst 0, 1) := by decide +kernel
theorem dX6_stand_14 : decode cX6_stand 14 = .ok (.istore 5, 2) := by decide +kernel
theorem dX6_stand_16 : decode cX6_stand 16 = .ok (.aload_n 0, 1) := by decide +kernel
theorem dX6_stand_17 : decode cX6_stand 17 = .ok (.getfield 15, 3) := by decide +kernel
theorem dX6_stand_20 : decode cX6_stand 20 = .ok (.iload_n 1, 1) := by decide +kernel
theorem dX6_stand_21 : decode cX6_stand 21 = .ok (.iload 5, 2) := by decide +kernel
theorem dX6_stand_23 : decode cX6_stand 23 = .ok (.ifCond .eq 10, 3) := by decide +kernel
theorem dX6_stand_26 : decode cX6_stand 26 = .ok (.aload_n 0, 1) := by decide +kernel
theorem dX6_stand_27 : decode cX6_stand 27 = .ok (.getfield 9, 3) := by decide +kernel
theorem dX6_stand_30 : decode cX6_stand 30 = .ok (.goto 4, 3) := by decide +kernel
theorem dX6_stand_33 : decode cX6_stand 33 = .ok (.iload_n 2, 1) := by decide +kernel
theorem dX6_stand_34 : decode cX6_stand 34 = .ok (.iastore, 1) := by decide +kernel
theorem dX6_stand_35 : decode cX6_stand 35 = .ok (.aload_n 0, 1) := by decide +kernel
theorem dX6_stand_36 : decode cX6_stand 36 = .ok (.getfield 19, 3) := by decide +kernel
theorem dX6_stand_39 : decode cX6_stand 39 = .ok (.iload_n 1, 1) := by decide +kernel
theorem dX6_stand_40 : decode cX6_stand 40 = .ok (.iload 5, 2) := by decide +kernel
theorem dX6_stand_42 : decode cX6_stand 42 = .ok (.ifCond .eq 15, 3) := by decide +kernel
theorem dX6_stand_45 : decode cX6_stand 45 = .ok (.lload_n 3, 1) := by decide +kernel
theorem dX6_stand_46 : decode cX6_stand 46 = .ok (.iload_n 2, 1) := by decide +kernel
theorem dX6_stand_47 : decode cX6_stand 47 = .ok (.aload_n 0, 1) := by decide +kernel
theorem dX6_stand_48 : decode cX6_stand 48 = .ok (.getfield 9, 3) := by decide +kernel
theorem dX6_stand_51 : decode cX6_stand 51 = .ok (.invokestatic 47, 3) := by decide +kernel
theorem dX6_stand_54 : decode cX6_stand 54 = .ok (.goto 4, 3) := by decide +kernel
theorem dX6_stand_57 : decode cX6_stand 57 = .ok (.lload_n 3, 1) := by decide +kernel
theorem dX6_stand_58 : decode cX6_stand 58 = .ok (.lastore, 1) := by decide +kernel
theorem dX6_stand_59 : decode cX6_stand 59 = .ok (.return_, 1) := by decide +kernel
theorem dX6_reshape_0 : decode cX6_reshape 0 = .ok (.aload_n 0, 1) := by decide +kernel
theorem dX6_reshape_1 : decode cX6_reshape 1 = .ok (.getfield 9, 3) := by decide +kernel
theorem dX6_reshape_4 : decode cX6_reshape 4 = .ok (.bipush 12, 2) := by decide +kernel
theorem dX6_reshape_6 : decode cX6_reshape 6 = .ok (.if_icmp .ne 5, 3) := by decide +kernel
theorem dX6_reshape_9 : decode cX6_reshape 9 = .ok (.iconst 3, 1) := by decide +kernel
theorem dX6_reshape_10 : decode cX6_reshape 10 = .ok (.ireturn, 1) := by decide +kernel
theorem dX6_reshape_11 : decode cX6_reshape 11 = .ok (.aload_n 0, 1) := by decide +kernel
theorem dX6_reshape_12 : decode cX6_reshape 12 = .ok (.getfield 23, 3) := by decide +kernel
theorem dX6_reshape_15 : decode cX6_reshape 15 = .ok (.iload_n 2, 1) := by decide +kernel
theorem dX6_reshape_16 : decode cX6_reshape 16 = .ok (.invokestatic 70, 3) := by decide +kernel
theorem dX6_reshape_19 : decode cX6_reshape 19 = .ok (.istore_n 3, 1) := by decide +kernel
theorem dX6_reshape_20 : decode cX6_reshape 20 = .ok (.aload_n 0, 1) := by decide +kernel
theorem dX6_reshape_21 : decode cX6_reshape 21 = .ok (.getfield 9, 3) := by decide +kernel
theorem dX6_reshape_24 : decode cX6_reshape 24 = .ok (.bipush 11, 2) := by decide +kernel
theorem dX6_reshape_26 : decode cX6_reshape 26 = .ok (.if_icmp .eq 12, 3) := by decide +kernel
theorem dX6_reshape_29 : decode cX6_reshape 29 = .ok (.aload_n 0, 1) := by decide +kernel
theorem dX6_reshape_30 : decode cX6_reshape 30 = .ok (.iload_n 1, 1) := by decide +kernel
theorem dX6_reshape_31 : decode cX6_reshape 31 = .ok (.iload_n 3, 1) := by decide +kernel
theorem dX6_reshape_32 : decode cX6_reshape 32 = .ok (.invokevirtual 76, 3) := by decide +kernel
theorem dX6_reshape_35 : decode cX6_reshape 35 = .ok (.ifCond .ne 5, 3) := by decide +kernel
theorem dX6_reshape_38 : decode cX6_reshape 38 = .ok (.iconst 2, 1) := by decide +kernel
theorem dX6_reshape_39 : decode cX6_reshape 39 = .ok (.ireturn, 1) := by decide +kernel
theorem dX6_reshape_40 : decode cX6_reshape 40 = .ok (.aload_n 0, 1) := by decide +kernel
theorem dX6_reshape_41 : decode cX6_reshape 41 = .ok (.iload_n 1, 1) := by decide +kernel
theorem dX6_reshape_42 : decode cX6_reshape 42 = .ok (.putfield 9, 3) := by decide +kernel
theorem dX6_reshape_45 : decode cX6_reshape 45 = .ok (.aload_n 0, 1) := by decide +kernel
theorem dX6_reshape_46 : decode cX6_reshape 46 = .ok (.iload_n 2, 1) := by decide +kernel
theorem dX6_reshape_47 : decode cX6_reshape 47 = .ok (.putfield 23, 3) := by decide +kernel
theorem dX6_reshape_50 : decode cX6_reshape 50 = .ok (.iconst 0, 1) := by decide +kernel
theorem dX6_reshape_51 : decode cX6_reshape 51 = .ok (.istore 4, 2) := by decide +kernel
theorem dX6_reshape_53 : decode cX6_reshape 53 = .ok (.iload 4, 2) := by decide +kernel
theorem dX6_reshape_55 : decode cX6_reshape 55 = .ok (.iload_n 3, 1) := by decide +kernel
theorem dX6_reshape_56 : decode cX6_reshape 56 = .ok (.if_icmp .ge 29, 3) := by decide +kernel
theorem dX6_reshape_59 : decode cX6_reshape 59 = .ok (.aload_n 0, 1) := by decide +kernel
theorem dX6_reshape_60 : decode cX6_reshape 60 = .ok (.iload 4, 2) := by decide +kernel
theorem dX6_reshape_62 : decode cX6_reshape 62 = .ok (.aload_n 0, 1) := by decide +kernel
theorem dX6_reshape_63 : decode cX6_reshape 63 = .ok (.getfield 15, 3) := by decide +kernel
theorem dX6_reshape_66 : decode cX6_reshape 66 = .ok (.iload 4, 2) := by decide +kernel
theorem dX6_reshape_68 : decode cX6_reshape 68 = .ok (.iaload, 1) := by decide +kernel
theorem dX6_reshape_69 : decode cX6_reshape 69 = .ok (.aload_n 0, 1) := by decide +kernel
theorem dX6_reshape_70 : decode cX6_reshape 70 = .ok (.getfield 19, 3) := by decide +kernel
theorem dX6_reshape_73 : decode cX6_reshape 73 = .ok (.iload 4, 2) := by decide +kernel
theorem dX6_reshape_75 : decode cX6_reshape 75 = .ok (.laload, 1) := by decide +kernel
theorem dX6_reshape_76 : decode cX6_reshape 76 = .ok (.invokevirtual 66, 3) := by decide +kernel
theorem dX6_reshape_79 : decode cX6_reshape 79 = .ok (.iinc 4 1, 3) := by decide +kernel
theorem dX6_reshape_82 : decode cX6_reshape 82 = .ok (.goto (-29), 3) := by decide +kernel
theorem dX6_reshape_85 : decode cX6_reshape 85 = .ok (.aload_n 0, 1) := by decide +kernel
theorem dX6_reshape_86 : decode cX6_reshape 86 = .ok (.iload_n 3, 1) := by decide +kernel
theorem dX6_reshape_87 : decode cX6_reshape 87 = .ok (.invokevirtual 26, 3) := by decide +kernel
theorem dX6_reshape_90 : decode cX6_reshape 90 = .ok (.iconst 0, 1) := by decide +kernel
theorem dX6_reshape_91 : decode cX6_reshape 91 = .ok (.ireturn, 1) := by decide +kernel
theorem dX6_fitsAs_0 : decode cX6_fitsAs 0 = .ok (.iconst 1, 1) := by decide +kernel
theorem dX6_fitsAs_1 : decode cX6_fitsAs 1 = .ok (.istore_n 3, 1) := by decide +kernel
theorem dX6_fitsAs_2 : decode cX6_fitsAs 2 = .ok (.iconst 0, 1) := by decide +kernel
theorem dX6_fitsAs_3 : decode cX6_fitsAs 3 = .ok (.istore 4, 2) := by decide +kernel
theorem dX6_fitsAs_5 : decode cX6_fitsAs 5 = .ok (.iload 4, 2) := by decide +kernel
theorem dX6_fitsAs_7 : decode cX6_fitsAs 7 = .ok (.iload_n 2, 1) := by decide +kernel
theorem dX6_fitsAs_8 : decode cX6_fitsAs 8 = .ok (.if_icmp .ge 30, 3) := by decide +kernel
theorem dX6_fitsAs_11 : decode cX6_fitsAs 11 = .ok (.iload 4, 2) := by decide +kernel
theorem dX6_fitsAs_13 : decode cX6_fitsAs 13 = .ok (.bipush 9, 2) := by decide +kernel
theorem dX6_fitsAs_15 : decode cX6_fitsAs 15 = .ok (.if_icmp .ge 23, 3) := by decide +kernel
theorem dX6_fitsAs_18 : decode cX6_fitsAs 18 = .ok (.iload_n 3, 1) := by decide +kernel
theorem dX6_fitsAs_19 : decode cX6_fitsAs 19 = .ok (.aload_n 0, 1) := by decide +kernel
theorem dX6_fitsAs_20 : decode cX6_fitsAs 20 = .ok (.getfield 15, 3) := by decide +kernel
theorem dX6_fitsAs_23 : decode cX6_fitsAs 23 = .ok (.iload 4, 2) := by decide +kernel
theorem dX6_fitsAs_25 : decode cX6_fitsAs 25 = .ok (.iaload, 1) := by decide +kernel
theorem dX6_fitsAs_26 : decode cX6_fitsAs 26 = .ok (.iload_n 1, 1) := by decide +kernel
theorem dX6_fitsAs_27 : decode cX6_fitsAs 27 = .ok (.invokestatic 44, 3) := by decide +kernel
theorem dX6_fitsAs_30 : decode cX6_fitsAs 30 = .ok (.iand, 1) := by decide +kernel
theorem dX6_fitsAs_31 : decode cX6_fitsAs 31 = .ok (.istore_n 3, 1) := by decide +kernel
theorem dX6_fitsAs_32 : decode cX6_fitsAs 32 = .ok (.iinc 4 1, 3) := by decide +kernel
theorem dX6_fitsAs_35 : decode cX6_fitsAs 35 = .ok (.goto (-30), 3) := by decide +kernel
theorem dX6_fitsAs_38 : decode cX6_fitsAs 38 = .ok (.iload_n 3, 1) := by decide +kernel
theorem dX6_fitsAs_39 : decode cX6_fitsAs 39 = .ok (.ireturn, 1) := by decide +kernel
theorem dX6_alikePlaces_0 : decode cX6_alikePlaces 0 = .ok (.iconst 0, 1) := by decide +kernel
theorem dX6_alikePlaces_1 : decode cX6_alikePlaces 1 = .ok (.istore_n 2, 1) := by decide +kernel
theorem dX6_alikePlaces_2 : decode cX6_alikePlaces 2 = .ok (.iconst 0, 1) := by decide +kernel
theorem dX6_alikePlaces_3 : decode cX6_alikePlaces 3 = .ok (.istore_n 3, 1) := by decide +kernel
theorem dX6_alikePlaces_4 : decode cX6_alikePlaces 4 = .ok (.iload_n 3, 1) := by decide +kernel
theorem dX6_alikePlaces_5 : decode cX6_alikePlaces 5 = .ok (.aload_n 0, 1) := by decide +kernel
theorem dX6_alikePlaces_6 : decode cX6_alikePlaces 6 = .ok (.getfield 23, 3) := by decide +kernel
theorem dX6_alikePlaces_9 : decode cX6_alikePlaces 9 = .ok (.if_icmp .ge 155, 3) := by decide +kernel
theorem dX6_alikePlaces_12 : decode cX6_alikePlaces 12 = .ok (.iload_n 3, 1) := by decide +kernel
theorem dX6_alikePlaces_13 : decode cX6_alikePlaces 13 = .ok (.aload_n 1, 1) := by decide +kernel
theorem dX6_alikePlaces_14 : decode cX6_alikePlaces 14 = .ok (.getfield 23, 3) := by decide +kernel
theorem dX6_alikePlaces_17 : decode cX6_alikePlaces 17 = .ok (.if_icmp .ge 147, 3) := by decide +kernel
theorem dX6_alikePlaces_20 : decode cX6_alikePlaces 20 = .ok (.iload_n 3, 1) := by decide +kernel
theorem dX6_alikePlaces_21 : decode cX6_alikePlaces 21 = .ok (.bipush 9, 2) := by decide +kernel
theorem dX6_alikePlaces_23 : decode cX6_alikePlaces 23 = .ok (.if_icmp .ge 141, 3) := by decide +kernel
theorem dX6_alikePlaces_26 : decode cX6_alikePlaces 26 = .ok (.aload_n 0, 1) := by decide +kernel
theorem dX6_alikePlaces_27 : decode cX6_alikePlaces 27 = .ok (.getfield 15, 3) := by decide +kernel
theorem dX6_alikePlaces_30 : decode cX6_alikePlaces 30 = .ok (.iload_n 3, 1) := by decide +kernel
theorem dX6_alikePlaces_31 : decode cX6_alikePlaces 31 = .ok (.iaload, 1) := by decide +kernel
theorem dX6_alikePlaces_32 : decode cX6_alikePlaces 32 = .ok (.bipush 8, 2) := by decide +kernel
theorem dX6_alikePlaces_34 : decode cX6_alikePlaces 34 = .ok (.invokestatic 36, 3) := by decide +kernel
theorem dX6_alikePlaces_37 : decode cX6_alikePlaces 37 = .ok (.ifCond .eq 21, 3) := by decide +kernel
theorem dX6_alikePlaces_40 : decode cX6_alikePlaces 40 = .ok (.aload_n 1, 1) := by decide +kernel
theorem dX6_alikePlaces_41 : decode cX6_alikePlaces 41 = .ok (.getfield 15, 3) := by decide +kernel
theorem dX6_alikePlaces_44 : decode cX6_alikePlaces 44 = .ok (.iload_n 3, 1) := by decide +kernel
theorem dX6_alikePlaces_45 : decode cX6_alikePlaces 45 = .ok (.iaload, 1) := by decide +kernel
theorem dX6_alikePlaces_46 : decode cX6_alikePlaces 46 = .ok (.bipush 8, 2) := by decide +kernel
theorem dX6_alikePlaces_48 : decode cX6_alikePlaces 48 = .ok (.invokestatic 36, 3) := by decide +kernel
theorem dX6_alikePlaces_51 : decode cX6_alikePlaces 51 = .ok (.ifCond .eq 7, 3) := by decide +kernel
theorem dX6_alikePlaces_54 : decode cX6_alikePlaces 54 = .ok (.iconst 1, 1) := by decide +kernel
theorem dX6_alikePlaces_55 : decode cX6_alikePlaces 55 = .ok (.goto 4, 3) := by decide +kernel
theorem dX6_alikePlaces_58 : decode cX6_alikePlaces 58 = .ok (.iconst 0, 1) := by decide +kernel
theorem dX6_alikePlaces_59 : decode cX6_alikePlaces 59 = .ok (.istore 4, 2) := by decide +kernel
theorem dX6_alikePlaces_61 : decode cX6_alikePlaces 61 = .ok (.iload 4, 2) := by decide +kernel
theorem dX6_alikePlaces_63 : decode cX6_alikePlaces 63 = .ok (.ifCond .eq 49, 3) := by decide +kernel
theorem dX6_alikePlaces_66 : decode cX6_alikePlaces 66 = .ok (.aload_n 0, 1) := by decide +kernel
theorem dX6_alikePlaces_67 : decode cX6_alikePlaces 67 = .ok (.getfield 19, 3) := by decide +kernel
theorem dX6_alikePlaces_70 : decode cX6_alikePlaces 70 = .ok (.iload_n 3, 1) := by decide +kernel
theorem dX6_alikePlaces_71 : decode cX6_alikePlaces 71 = .ok (.laload, 1) := by decide +kernel
theorem dX6_alikePlaces_72 : decode cX6_alikePlaces 72 = .ok (.aload_n 0, 1) := by decide +kernel
theorem dX6_alikePlaces_73 : decode cX6_alikePlaces 73 = .ok (.getfield 15, 3) := by decide +kernel
theorem dX6_alikePlaces_76 : decode cX6_alikePlaces 76 = .ok (.iload_n 3, 1) := by decide +kernel
theorem dX6_alikePlaces_77 : decode cX6_alikePlaces 77 = .ok (.iaload, 1) := by decide +kernel
theorem dX6_alikePlaces_78 : decode cX6_alikePlaces 78 = .ok (.bipush 6, 2) := by decide +kernel
theorem dX6_alikePlaces_80 : decode cX6_alikePlaces 80 = .ok (.invokestatic 47, 3) := by decide +kernel
theorem dX6_alikePlaces_83 : decode cX6_alikePlaces 83 = .ok (.aload_n 1, 1) := by decide +kernel
theorem dX6_alikePlaces_84 : decode cX6_alikePlaces 84 = .ok (.getfield 19, 3) := by decide +kernel
theorem dX6_alikePlaces_87 : decode cX6_alikePlaces 87 = .ok (.iload_n 3, 1) := by decide +kernel
theorem dX6_alikePlaces_88 : decode cX6_alikePlaces 88 = .ok (.laload, 1) := by decide +kernel
theorem dX6_alikePlaces_89 : decode cX6_alikePlaces 89 = .ok (.aload_n 1, 1) := by decide +kernel
theorem dX6_alikePlaces_90 : decode cX6_alikePlaces 90 = .ok (.getfield 15, 3) := by decide +kernel
theorem dX6_alikePlaces_93 : decode cX6_alikePlaces 93 = .ok (.iload_n 3, 1) := by decide +kernel
theorem dX6_alikePlaces_94 : decode cX6_alikePlaces 94 = .ok (.iaload, 1) := by decide +kernel
theorem dX6_alikePlaces_95 : decode cX6_alikePlaces 95 = .ok (.bipush 6, 2) := by decide +kernel
theorem dX6_alikePlaces_97 : decode cX6_alikePlaces 97 = .ok (.invokestatic 47, 3) := by decide +kernel
theorem dX6_alikePlaces_100 : decode cX6_alikePlaces 100 = .ok (.lcmp, 1) := by decide +kernel
theorem dX6_alikePlaces_101 : decode cX6_alikePlaces 101 = .ok (.ifCond .ne 7, 3) := by decide +kernel
theorem dX6_alikePlaces_104 : decode cX6_alikePlaces 104 = .ok (.iconst 1, 1) := by decide +kernel
theorem dX6_alikePlaces_105 : decode cX6_alikePlaces 105 = .ok (.goto 43, 3) := by decide +kernel
theorem dX6_alikePlaces_108 : decode cX6_alikePlaces 108 = .ok (.iconst 0, 1) := by decide +kernel
theorem dX6_alikePlaces_109 : decode cX6_alikePlaces 109 = .ok (.goto 39, 3) := by decide +kernel
theorem dX6_alikePlaces_112 : decode cX6_alikePlaces 112 = .ok (.aload_n 0, 1) := by decide +kernel
theorem dX6_alikePlaces_113 : decode cX6_alikePlaces 113 = .ok (.getfield 15, 3) := by decide +kernel
theorem dX6_alikePlaces_116 : decode cX6_alikePlaces 116 = .ok (.iload_n 3, 1) := by decide +kernel
theorem dX6_alikePlaces_117 : decode cX6_alikePlaces 117 = .ok (.iaload, 1) := by decide +kernel
theorem dX6_alikePlaces_118 : decode cX6_alikePlaces 118 = .ok (.aload_n 1, 1) := by decide +kernel
theorem dX6_alikePlaces_119 : decode cX6_alikePlaces 119 = .ok (.getfield 15, 3) := by decide +kernel
theorem dX6_alikePlaces_122 : decode cX6_alikePlaces 122 = .ok (.iload_n 3, 1) := by decide +kernel
theorem dX6_alikePlaces_123 : decode cX6_alikePlaces 123 = .ok (.iaload, 1) := by decide +kernel
theorem dX6_alikePlaces_124 : decode cX6_alikePlaces 124 = .ok (.if_icmp .ne 23, 3) := by decide +kernel
theorem dX6_alikePlaces_127 : decode cX6_alikePlaces 127 = .ok (.aload_n 0, 1) := by decide +kernel
theorem dX6_alikePlaces_128 : decode cX6_alikePlaces 128 = .ok (.getfield 19, 3) := by decide +kernel
theorem dX6_alikePlaces_131 : decode cX6_alikePlaces 131 = .ok (.iload_n 3, 1) := by decide +kernel
theorem dX6_alikePlaces_132 : decode cX6_alikePlaces 132 = .ok (.laload, 1) := by decide +kernel
theorem dX6_alikePlaces_133 : decode cX6_alikePlaces 133 = .ok (.aload_n 1, 1) := by decide +kernel
theorem dX6_alikePlaces_134 : decode cX6_alikePlaces 134 = .ok (.getfield 19, 3) := by decide +kernel
theorem dX6_alikePlaces_137 : decode cX6_alikePlaces 137 = .ok (.iload_n 3, 1) := by decide +kernel
theorem dX6_alikePlaces_138 : decode cX6_alikePlaces 138 = .ok (.laload, 1) := by decide +kernel
theorem dX6_alikePlaces_139 : decode cX6_alikePlaces 139 = .ok (.lcmp, 1) := by decide +kernel
theorem dX6_alikePlaces_140 : decode cX6_alikePlaces 140 = .ok (.ifCond .ne 7, 3) := by decide +kernel
theorem dX6_alikePlaces_143 : decode cX6_alikePlaces 143 = .ok (.iconst 1, 1) := by decide +kernel
theorem dX6_alikePlaces_144 : decode cX6_alikePlaces 144 = .ok (.goto 4, 3) := by decide +kernel
theorem dX6_alikePlaces_147 : decode cX6_alikePlaces 147 = .ok (.iconst 0, 1) := by decide +kernel
theorem dX6_alikePlaces_148 : decode cX6_alikePlaces 148 = .ok (.istore 5, 2) := by decide +kernel
theorem dX6_alikePlaces_150 : decode cX6_alikePlaces 150 = .ok (.iload 5, 2) := by decide +kernel
theorem dX6_alikePlaces_152 : decode cX6_alikePlaces 152 = .ok (.ifCond .eq 6, 3) := by decide +kernel
theorem dX6_alikePlaces_155 : decode cX6_alikePlaces 155 = .ok (.iinc 2 1, 3) := by decide +kernel
theorem dX6_alikePlaces_158 : decode cX6_alikePlaces 158 = .ok (.iinc 3 1, 3) := by decide +kernel
theorem dX6_alikePlaces_161 : decode cX6_alikePlaces 161 = .ok (.goto (-157), 3) := by decide +kernel
theorem dX6_alikePlaces_164 : decode cX6_alikePlaces 164 = .ok (.iload_n 2, 1) := by decide +kernel
theorem dX6_alikePlaces_165 : decode cX6_alikePlaces 165 = .ok (.ireturn, 1) := by decide +kernel
