theorem dX0_init_0 : decode cX0_init 0 = .ok (.aload_n 0, 1) := by decide +kernel
theorem dX0_init_1 : decode cX0_init 1 = .ok (.invokespecial 3, 3) := by decide +kernel
theorem dX0_init_4 : decode cX0_init 4 = .ok (.aload_n 0, 1) := by decide +kernel
theorem dX0_init_5 : decode cX0_init 5 = .ok (.aload_n 1, 1) := by decide +kernel
theorem dX0_init_6 : decode cX0_init 6 = .ok (.putfield 9, 3) := by decide +kernel
theorem dX0_init_9 : decode cX0_init 9 = .ok (.aload_n 0, 1) := by decide +kernel
theorem dX0_init_10 : decode cX0_init 10 = .ok (.iload_n 2, 1) := by decide +kernel
theorem dX0_init_11 : decode cX0_init 11 = .ok (.putfield 15, 3) := by decide +kernel
theorem dX0_init_14 : decode cX0_init 14 = .ok (.return_, 1) := by decide +kernel
theorem dX0_add_0 : decode cX0_add 0 = .ok (.aload_n 0, 1) := by decide +kernel
theorem dX0_add_1 : decode cX0_add 1 = .ok (.getfield 15, 3) := by decide +kernel
theorem dX0_add_4 : decode cX0_add 4 = .ok (.ifCond .lt 15, 3) := by decide +kernel
theorem dX0_add_7 : decode cX0_add 7 = .ok (.aload_n 0, 1) := by decide +kernel
theorem dX0_add_8 : decode cX0_add 8 = .ok (.getfield 15, 3) := by decide +kernel
theorem dX0_add_11 : decode cX0_add 11 = .ok (.aload_n 0, 1) := by decide +kernel
theorem dX0_add_12 : decode cX0_add 12 = .ok (.getfield 9, 3) := by decide +kernel
theorem dX0_add_15 : decode cX0_add 15 = .ok (.arraylength, 1) := by decide +kernel
theorem dX0_add_16 : decode cX0_add 16 = .ok (.if_icmp .lt 5, 3) := by decide +kernel
theorem dX0_add_19 : decode cX0_add 19 = .ok (.iconst 0, 1) := by decide +kernel
theorem dX0_add_20 : decode cX0_add 20 = .ok (.ireturn, 1) := by decide +kernel
theorem dX0_add_21 : decode cX0_add 21 = .ok (.aload_n 0, 1) := by decide +kernel
theorem dX0_add_22 : decode cX0_add 22 = .ok (.getfield 9, 3) := by decide +kernel
theorem dX0_add_25 : decode cX0_add 25 = .ok (.aload_n 0, 1) := by decide +kernel
theorem dX0_add_26 : decode cX0_add 26 = .ok (.getfield 15, 3) := by decide +kernel
theorem dX0_add_29 : decode cX0_add 29 = .ok (.iload_n 1, 1) := by decide +kernel
theorem dX0_add_30 : decode cX0_add 30 = .ok (.iastore, 1) := by decide +kernel
theorem dX0_add_31 : decode cX0_add 31 = .ok (.aload_n 0, 1) := by decide +kernel
theorem dX0_add_32 : decode cX0_add 32 = .ok (.dup, 1) := by decide +kernel
theorem dX0_add_33 : decode cX0_add 33 = .ok (.getfield 15, 3) := by decide +kernel
theorem dX0_add_36 : decode cX0_add 36 = .ok (.iconst 1, 1) := by decide +kernel
theorem dX0_add_37 : decode cX0_add 37 = .ok (.iadd, 1) := by decide +kernel
theorem dX0_add_38 : decode cX0_add 38 = .ok (.putfield 15, 3) := by decide +kernel
theorem dX0_add_41 : decode cX0_add 41 = .ok (.iconst 1, 1) := by decide +kernel
theorem dX0_add_42 : decode cX0_add 42 = .ok (.ireturn, 1) := by decide +kernel
theorem dX0_clear_0 : decode cX0_clear 0 = .ok (.aload_n 0, 1) := by decide +kernel
theorem dX0_clear_1 : decode cX0_clear 1 = .ok (.iconst 0, 1) := by decide +kernel
theorem dX0_clear_2 : decode cX0_clear 2 = .ok (.putfield 15, 3) := by decide +kernel
theorem dX0_clear_5 : decode cX0_clear 5 = .ok (.return_, 1) := by decide +kernel
theorem dX0_byteAt_0 : decode cX0_byteAt 0 = .ok (.iload_n 1, 1) := by decide +kernel
theorem dX0_byteAt_1 : decode cX0_byteAt 1 = .ok (.ifCond .lt 29, 3) := by decide +kernel
theorem dX0_byteAt_4 : decode cX0_byteAt 4 = .ok (.iload_n 1, 1) := by decide +kernel
theorem dX0_byteAt_5 : decode cX0_byteAt 5 = .ok (.aload_n 0, 1) := by decide +kernel
theorem dX0_byteAt_6 : decode cX0_byteAt 6 = .ok (.getfield 15, 3) := by decide +kernel
theorem dX0_byteAt_9 : decode cX0_byteAt 9 = .ok (.if_icmp .ge 21, 3) := by decide +kernel
theorem dX0_byteAt_12 : decode cX0_byteAt 12 = .ok (.iload_n 1, 1) := by decide +kernel
theorem dX0_byteAt_13 : decode cX0_byteAt 13 = .ok (.aload_n 0, 1) := by decide +kernel
theorem dX0_byteAt_14 : decode cX0_byteAt 14 = .ok (.getfield 9, 3) := by decide +kernel
theorem dX0_byteAt_17 : decode cX0_byteAt 17 = .ok (.arraylength, 1) := by decide +kernel
theorem dX0_byteAt_18 : decode cX0_byteAt 18 = .ok (.if_icmp .ge 12, 3) := by decide +kernel
theorem dX0_byteAt_21 : decode cX0_byteAt 21 = .ok (.aload_n 0, 1) := by decide +kernel
theorem dX0_byteAt_22 : decode cX0_byteAt 22 = .ok (.getfield 9, 3) := by decide +kernel
theorem dX0_byteAt_25 : decode cX0_byteAt 25 = .ok (.iload_n 1, 1) := by decide +kernel
theorem dX0_byteAt_26 : decode cX0_byteAt 26 = .ok (.iaload, 1) := by decide +kernel
theorem dX0_byteAt_27 : decode cX0_byteAt 27 = .ok (.goto 4, 3) := by decide +kernel
theorem dX0_byteAt_30 : decode cX0_byteAt 30 = .ok (.iconst (-1), 1) := by decide +kernel
theorem dX0_byteAt_31 : decode cX0_byteAt 31 = .ok (.ireturn, 1) := by decide +kernel
theorem dX0_sum_0 : decode cX0_sum 0 = .ok (.iconst 0, 1) := by decide +kernel
theorem dX0_sum_1 : decode cX0_sum 1 = .ok (.istore_n 1, 1) := by decide +kernel
theorem dX0_sum_2 : decode cX0_sum 2 = .ok (.iconst 0, 1) := by decide +kernel
theorem dX0_sum_3 : decode cX0_sum 3 = .ok (.istore_n 2, 1) := by decide +kernel
theorem dX0_sum_4 : decode cX0_sum 4 = .ok (.iload_n 2, 1) := by decide +kernel
theorem dX0_sum_5 : decode cX0_sum 5 = .ok (.aload_n 0, 1) := by decide +kernel
theorem dX0_sum_6 : decode cX0_sum 6 = .ok (.getfield 15, 3) := by decide +kernel
theorem dX0_sum_9 : decode cX0_sum 9 = .ok (.if_icmp .ge 17, 3) := by decide +kernel
theorem dX0_sum_12 : decode cX0_sum 12 = .ok (.iload_n 1, 1) := by decide +kernel
theorem dX0_sum_13 : decode cX0_sum 13 = .ok (.aload_n 0, 1) := by decide +kernel
theorem dX0_sum_14 : decode cX0_sum 14 = .ok (.iload_n 2, 1) := by decide +kernel
theorem dX0_sum_15 : decode cX0_sum 15 = .ok (.invokevirtual 19, 3) := by decide +kernel
theorem dX0_sum_18 : decode cX0_sum 18 = .ok (.iadd, 1) := by decide +kernel
theorem dX0_sum_19 : decode cX0_sum 19 = .ok (.istore_n 1, 1) := by decide +kernel
theorem dX0_sum_20 : decode cX0_sum 20 = .ok (.iinc 2 1, 3) := by decide +kernel
theorem dX0_sum_23 : decode cX0_sum 23 = .ok (.goto (-19), 3) := by decide +kernel
theorem dX0_sum_26 : decode cX0_sum 26 = .ok (.iload_n 1, 1) := by decide +kernel
theorem dX0_sum_27 : decode cX0_sum 27 = .ok (.sipush 255, 3) := by decide +kernel
theorem dX0_sum_30 : decode cX0_sum 30 = .ok (.iand, 1) := by decide +kernel
theorem dX0_sum_31 : decode cX0_sum 31 = .ok (.ireturn, 1) := by decide +kernel
theorem dX0_copy_0 : decode cX0_copy 0 = .ok (.iconst 0, 1) := by decide +kernel
theorem dX0_copy_1 : decode cX0_copy 1 = .ok (.aload_n 0, 1) := by decide +kernel
theorem dX0_copy_2 : decode cX0_copy 2 = .ok (.getfield 15, 3) := by decide +kernel
theorem dX0_copy_5 : decode cX0_copy 5 = .ok (.aload_n 0, 1) := by decide +kernel
theorem dX0_copy_6 : decode cX0_copy 6 = .ok (.getfield 9, 3) := by decide +kernel
theorem dX0_copy_9 : decode cX0_copy 9 = .ok (.arraylength, 1) := by decide +kernel
theorem dX0_copy_10 : decode cX0_copy 10 = .ok (.invokestatic 23, 3) := by decide +kernel
theorem dX0_copy_13 : decode cX0_copy 13 = .ok (.invokestatic 29, 3) := by decide +kernel
theorem dX0_copy_16 : decode cX0_copy 16 = .ok (.istore_n 1, 1) := by decide +kernel
theorem dX0_copy_17 : decode cX0_copy 17 = .ok (.new 10, 3) := by decide +kernel
theorem dX0_copy_20 : decode cX0_copy 20 = .ok (.dup, 1) := by decide +kernel
theorem dX0_copy_21 : decode cX0_copy 21 = .ok (.aload_n 0, 1) := by decide +kernel
theorem dX0_copy_22 : decode cX0_copy 22 = .ok (.getfield 9, 3) := by decide +kernel
theorem dX0_copy_25 : decode cX0_copy 25 = .ok (.iload_n 1, 1) := by decide +kernel
theorem dX0_copy_26 : decode cX0_copy 26 = .ok (.invokestatic 32, 3) := by decide +kernel
theorem dX0_copy_29 : decode cX0_copy 29 = .ok (.iload_n 1, 1) := by decide +kernel
theorem dX0_copy_30 : decode cX0_copy 30 = .ok (.invokespecial 38, 3) := by decide +kernel
theorem dX0_copy_33 : decode cX0_copy 33 = .ok (.areturn, 1) := by decide +kernel
theorem dX1_init_0 : decode cX1_init 0 = .ok (.aload_n 0, 1) := by decide +kernel
theorem dX1_init_1 : decode cX1_init 1 = .ok (.invokespecial 3, 3) := by decide +kernel
theorem dX1_init_4 : decode cX1_init 4 = .ok (.aload_n 0, 1) := by decide +kernel
theorem dX1_init_5 : decode cX1_init 5 = .ok (.iconst 4, 1) := by decide +kernel
theorem dX1_init_6 : decode cX1_init 6 = .ok (.newarray .int, 2) := by decide +kernel
theorem dX1_init_8 : decode cX1_init 8 = .ok (.putfield 9, 3) := by decide +kernel
theorem dX1_init_11 : decode cX1_init 11 = .ok (.aload_n 0, 1) := by decide +kernel
theorem dX1_init_12 : decode cX1_init 12 = .ok (.iconst 4, 1) := by decide +kernel
theorem dX1_init_13 : decode cX1_init 13 = .ok (.newarray .int, 2) := by decide +kernel
theorem dX1_init_15 : decode cX1_init 15 = .ok (.putfield 15, 3) := by decide +kernel
theorem dX1_init_18 : decode cX1_init 18 = .ok (.aload_n 0, 1) := by decide +kernel
theorem dX1_init_19 : decode cX1_init 19 = .ok (.iconst 0, 1) := by decide +kernel
theorem dX1_init_20 : decode cX1_init 20 = .ok (.putfield 18, 3) := by decide +kernel
theorem dX1_init_23 : decode cX1_init 23 = .ok (.return_, 1) := by decide +kernel
theorem dX1_add_0 : decode cX1_add 0 = .ok (.aload_n 0, 1) := by decide +kernel
theorem dX1_add_1 : decode cX1_add 1 = .ok (.getfield 18, 3) := by decide +kernel
theorem dX1_add_4 : decode cX1_add 4 = .ok (.iconst 4, 1) := by decide +kernel
theorem dX1_add_5 : decode cX1_add 5 = .ok (.if_icmp .lt 6, 3) := by decide +kernel
theorem dX1_add_8 : decode cX1_add 8 = .ok (.bipush (-4), 2) := by decide +kernel
theorem dX1_add_10 : decode cX1_add 10 = .ok (.ireturn, 1) := by decide +kernel
theorem dX1_add_11 : decode cX1_add 11 = .ok (.aload_n 0, 1) := by decide +kernel
theorem dX1_add_12 : decode cX1_add 12 = .ok (.getfield 9, 3) := by decide +kernel
theorem dX1_add_15 : decode cX1_add 15 = .ok (.aload_n 0, 1) := by decide +kernel
theorem dX1_add_16 : decode cX1_add 16 = .ok (.getfield 18, 3) := by decide +kernel
theorem dX1_add_19 : decode cX1_add 19 = .ok (.iload_n 1, 1) := by decide +kernel
theorem dX1_add_20 : decode cX1_add 20 = .ok (.iastore, 1) := by decide +kernel
theorem dX1_add_21 : decode cX1_add 21 = .ok (.aload_n 0, 1) := by decide +kernel
theorem dX1_add_22 : decode cX1_add 22 = .ok (.getfield 15, 3) := by decide +kernel
theorem dX1_add_25 : decode cX1_add 25 = .ok (.aload_n 0, 1) := by decide +kernel
theorem dX1_add_26 : decode cX1_add 26 = .ok (.getfield 18, 3) := by decide +kernel
theorem dX1_add_29 : decode cX1_add 29 = .ok (.iload_n 2, 1) := by decide +kernel
theorem dX1_add_30 : decode cX1_add 30 = .ok (.iastore, 1) := by decide +kernel
theorem dX1_add_31 : decode cX1_add 31 = .ok (.aload_n 0, 1) := by decide +kernel
theorem dX1_add_32 : decode cX1_add 32 = .ok (.dup, 1) := by decide +kernel
theorem dX1_add_33 : decode cX1_add 33 = .ok (.getfield 18, 3) := by decide +kernel
theorem dX1_add_36 : decode cX1_add 36 = .ok (.iconst 1, 1) := by decide +kernel
theorem dX1_add_37 : decode cX1_add 37 = .ok (.iadd, 1) := by decide +kernel
theorem dX1_add_38 : decode cX1_add 38 = .ok (.putfield 18, 3) := by decide +kernel
theorem dX1_add_41 : decode cX1_add 41 = .ok (.aload_n 0, 1) := by decide +kernel
theorem dX1_add_42 : decode cX1_add 42 = .ok (.getfield 18, 3) := by decide +kernel
theorem dX1_add_45 : decode cX1_add 45 = .ok (.ireturn, 1) := by decide +kernel
theorem dX1_hold_0 : decode cX1_hold 0 = .ok (.iconst 0, 1) := by decide +kernel
theorem dX1_hold_1 : decode cX1_hold 1 = .ok (.istore_n 2, 1) := by decide +kernel
theorem dX1_hold_2 : decode cX1_hold 2 = .ok (.iload_n 2, 1) := by decide +kernel
theorem dX1_hold_3 : decode cX1_hold 3 = .ok (.aload_n 0, 1) := by decide +kernel
theorem dX1_hold_4 : decode cX1_hold 4 = .ok (.getfield 18, 3) := by decide +kernel
theorem dX1_hold_7 : decode cX1_hold 7 = .ok (.if_icmp .ge 35, 3) := by decide +kernel
theorem dX1_hold_10 : decode cX1_hold 10 = .ok (.iload_n 2, 1) := by decide +kernel
theorem dX1_hold_11 : decode cX1_hold 11 = .ok (.iconst 4, 1) := by decide +kernel
theorem dX1_hold_12 : decode cX1_hold 12 = .ok (.if_icmp .ge 30, 3) := by decide +kernel
theorem dX1_hold_15 : decode cX1_hold 15 = .ok (.aload_n 0, 1) := by decide +kernel
theorem dX1_hold_16 : decode cX1_hold 16 = .ok (.getfield 9, 3) := by decide +kernel
theorem dX1_hold_19 : decode cX1_hold 19 = .ok (.iload_n 2, 1) := by decide +kernel
theorem dX1_hold_20 : decode cX1_hold 20 = .ok (.iaload, 1) := by decide +kernel
theorem dX1_hold_21 : decode cX1_hold 21 = .ok (.aload_n 0, 1) := by decide +kernel
theorem dX1_hold_22 : decode cX1_hold 22 = .ok (.getfield 15, 3) := by decide +kernel
theorem dX1_hold_25 : decode cX1_hold 25 = .ok (.iload_n 2, 1) := by decide +kernel
theorem dX1_hold_26 : decode cX1_hold 26 = .ok (.iaload, 1) := by decide +kernel
theorem dX1_hold_27 : decode cX1_hold 27 = .ok (.aload_n 1, 1) := by decide +kernel
theorem dX1_hold_28 : decode cX1_hold 28 = .ok (.invokestatic 22, 3) := by decide +kernel
theorem dX1_hold_31 : decode cX1_hold 31 = .ok (.ifCond .ne 5, 3) := by decide +kernel
theorem dX1_hold_34 : decode cX1_hold 34 = .ok (.iconst 0, 1) := by decide +kernel
theorem dX1_hold_35 : decode cX1_hold 35 = .ok (.ireturn, 1) := by decide +kernel
theorem dX1_hold_36 : decode cX1_hold 36 = .ok (.iinc 2 1, 3) := by decide +kernel
theorem dX1_hold_39 : decode cX1_hold 39 = .ok (.goto (-37), 3) := by decide +kernel
theorem dX1_hold_42 : decode cX1_hold 42 = .ok (.iconst 1, 1) := by decide +kernel
theorem dX1_hold_43 : decode cX1_hold 43 = .ok (.ireturn, 1) := by decide +kernel
theorem dX1_holds_0 : decode cX1_holds 0 = .ok (.iload_n 0, 1) := by decide +kernel
theorem dX1_holds_1 : decode cX1_holds 1 = .ok (.tableswitch 70 0 2 #[27, 41, 55], 27) := by decide +kernel
theorem dX1_holds_28 : decode cX1_holds 28 = .ok (.aload_n 2, 1) := by decide +kernel
theorem dX1_holds_29 : decode cX1_holds 29 = .ok (.getfield 26, 3) := by decide +kernel
theorem dX1_holds_32 : decode cX1_holds 32 = .ok (.iload_n 1, 1) := by decide +kernel
theorem dX1_holds_33 : decode cX1_holds 33 = .ok (.if_icmp .lt 7, 3) := by decide +kernel
theorem dX1_holds_36 : decode cX1_holds 36 = .ok (.iconst 1, 1) := by decide +kernel
theorem dX1_holds_37 : decode cX1_holds 37 = .ok (.goto 4, 3) := by decide +kernel
theorem dX1_holds_40 : decode cX1_holds 40 = .ok (.iconst 0, 1) := by decide +kernel
theorem dX1_holds_41 : decode cX1_holds 41 = .ok (.ireturn, 1) := by decide +kernel
theorem dX1_holds_42 : decode cX1_holds 42 = .ok (.aload_n 2, 1) := by decide +kernel
theorem dX1_holds_43 : decode cX1_holds 43 = .ok (.getfield 26, 3) := by decide +kernel
theorem dX1_holds_46 : decode cX1_holds 46 = .ok (.iload_n 1, 1) := by decide +kernel
theorem dX1_holds_47 : decode cX1_holds 47 = .ok (.if_icmp .gt 7, 3) := by decide +kernel
theorem dX1_holds_50 : decode cX1_holds 50 = .ok (.iconst 1, 1) := by decide +kernel
theorem dX1_holds_51 : decode cX1_holds 51 = .ok (.goto 4, 3) := by decide +kernel
theorem dX1_holds_54 : decode cX1_holds 54 = .ok (.iconst 0, 1) := by decide +kernel
theorem dX1_holds_55 : decode cX1_holds 55 = .ok (.ireturn, 1) := by decide +kernel
theorem dX1_holds_56 : decode cX1_holds 56 = .ok (.aload_n 2, 1) := by decide +kernel
theorem dX1_holds_57 : decode cX1_holds 57 = .ok (.iconst 0, 1) := by decide +kernel
theorem dX1_holds_58 : decode cX1_holds 58 = .ok (.invokevirtual 31, 3) := by decide +kernel
theorem dX1_holds_61 : decode cX1_holds 61 = .ok (.iload_n 1, 1) := by decide +kernel
theorem dX1_holds_62 : decode cX1_holds 62 = .ok (.if_icmp .ne 7, 3) := by decide +kernel
theorem dX1_holds_65 : decode cX1_holds 65 = .ok (.iconst 1, 1) := by decide +kernel
theorem dX1_holds_66 : decode cX1_holds 66 = .ok (.goto 4, 3) := by decide +kernel
theorem dX1_holds_69 : decode cX1_holds 69 = .ok (.iconst 0, 1) := by decide +kernel
theorem dX1_holds_70 : decode cX1_holds 70 = .ok (.ireturn, 1) := by decide +kernel
theorem dX1_holds_71 : decode cX1_holds 71 = .ok (.aload_n 2, 1) := by decide +kernel
theorem dX1_holds_72 : decode cX1_holds 72 = .ok (.invokevirtual 35, 3) := by decide +kernel
theorem dX1_holds_75 : decode cX1_holds 75 = .ok (.iload_n 1, 1) := by decide +kernel
theorem dX1_holds_76 : decode cX1_holds 76 = .ok (.if_icmp .ne 7, 3) := by decide +kernel
theorem dX1_holds_79 : decode cX1_holds 79 = .ok (.iconst 1, 1) := by decide +kernel
theorem dX1_holds_80 : decode cX1_holds 80 = .ok (.goto 4, 3) := by decide +kernel
theorem dX1_holds_83 : decode cX1_holds 83 = .ok (.iconst 0, 1) := by decide +kernel
theorem dX1_holds_84 : decode cX1_holds 84 = .ok (.ireturn, 1) := by decide +kernel
theorem dX2_init_0 : decode cX2_init 0 = .ok (.aload_n 0, 1) := by decide +kernel
theorem dX2_init_1 : decode cX2_init 1 = .ok (.invokespecial 3, 3) := by decide +kernel
theorem dX2_init_4 : decode cX2_init 4 = .ok (.aload_n 0, 1) := by decide +kernel
theorem dX2_init_5 : decode cX2_init 5 = .ok (.iconst (-1), 1) := by decide +kernel
theorem dX2_init_6 : decode cX2_init 6 = .ok (.putfield 9, 3) := by decide +kernel
theorem dX2_init_9 : decode cX2_init 9 = .ok (.aload_n 0, 1) := by decide +kernel
theorem dX2_init_10 : decode cX2_init 10 = .ok (.iconst 0, 1) := by decide +kernel
theorem dX2_init_11 : decode cX2_init 11 = .ok (.putfield 15, 3) := by decide +kernel
theorem dX2_init_14 : decode cX2_init 14 = .ok (.aload_n 0, 1) := by decide +kernel
theorem dX2_init_15 : decode cX2_init 15 = .ok (.aload_n 1, 1) := by decide +kernel
theorem dX2_init_16 : decode cX2_init 16 = .ok (.putfield 19, 3) := by decide +kernel
theorem dX2_init_19 : decode cX2_init 19 = .ok (.aload_n 0, 1) := by decide +kernel
theorem dX2_init_20 : decode cX2_init 20 = .ok (.iload_n 2, 1) := by decide +kernel
theorem dX2_init_21 : decode cX2_init 21 = .ok (.putfield 23, 3) := by decide +kernel
theorem dX2_init_24 : decode cX2_init 24 = .ok (.aload_n 0, 1) := by decide +kernel
theorem dX2_init_25 : decode cX2_init 25 = .ok (.iload_n 3, 1) := by decide +kernel
theorem dX2_init_26 : decode cX2_init 26 = .ok (.putfield 26, 3) := by decide +kernel
theorem dX2_init_29 : decode cX2_init 29 = .ok (.aload_n 0, 1) := by decide +kernel
theorem dX2_init_30 : decode cX2_init 30 = .ok (.iload 4, 2) := by decide +kernel
theorem dX2_init_32 : decode cX2_init 32 = .ok (.putfield 29, 3) := by decide +kernel
theorem dX2_init_35 : decode cX2_init 35 = .ok (.return_, 1) := by decide +kernel
theorem dX3_init_0 : decode cX3_init 0 = .ok (.aload_n 0, 1) := by decide +kernel
theorem dX3_init_1 : decode cX3_init 1 = .ok (.invokespecial 3, 3) := by decide +kernel
theorem dX3_init_4 : decode cX3_init 4 = .ok (.aload_n 0, 1) := by decide +kernel
theorem dX3_init_5 : decode cX3_init 5 = .ok (.new 9, 3) := by decide +kernel
theorem dX3_init_8 : decode cX3_init 8 = .ok (.dup, 1) := by decide +kernel
theorem dX3_init_9 : decode cX3_init 9 = .ok (.bipush 40, 2) := by decide +kernel
theorem dX3_init_11 : decode cX3_init 11 = .ok (.newarray .int, 2) := by decide +kernel
theorem dX3_init_13 : decode cX3_init 13 = .ok (.iconst 0, 1) := by decide +kernel
theorem dX3_init_14 : decode cX3_init 14 = .ok (.invokespecial 11, 3) := by decide +kernel
theorem dX3_init_17 : decode cX3_init 17 = .ok (.putfield 14, 3) := by decide +kernel
theorem dX3_init_20 : decode cX3_init 20 = .ok (.aload_n 0, 1) := by decide +kernel
theorem dX3_init_21 : decode cX3_init 21 = .ok (.iconst 0, 1) := by decide +kernel
theorem dX3_init_22 : decode cX3_init 22 = .ok (.putfield 20, 3) := by decide +kernel
theorem dX3_init_25 : decode cX3_init 25 = .ok (.aload_n 0, 1) := by decide +kernel
theorem dX3_init_26 : decode cX3_init 26 = .ok (.iconst 0, 1) := by decide +kernel
theorem dX3_init_27 : decode cX3_init 27 = .ok (.putfield 24, 3) := by decide +kernel
theorem dX3_init_30 : decode cX3_init 30 = .ok (.aload_n 0, 1) := by decide +kernel
theorem dX3_init_31 : decode cX3_init 31 = .ok (.iconst 0, 1) := by decide +kernel
theorem dX3_init_32 : decode cX3_init 32 = .ok (.putfield 27, 3) := by decide +kernel
theorem dX3_init_35 : decode cX3_init 35 = .ok (.aload_n 0, 1) := by decide +kernel
theorem dX3_init_36 : decode cX3_init 36 = .ok (.iconst 0, 1) := by decide +kernel
theorem dX3_init_37 : decode cX3_init 37 = .ok (.putfield 30, 3) := by decide +kernel
theorem dX3_init_40 : decode cX3_init 40 = .ok (.aload_n 0, 1) := by decide +kernel
theorem dX3_init_41 : decode cX3_init 41 = .ok (.iconst (-1), 1) := by decide +kernel
theorem dX3_init_42 : decode cX3_init 42 = .ok (.putfield 33, 3) := by decide +kernel
theorem dX3_init_45 : decode cX3_init 45 = .ok (.aload_n 0, 1) := by decide +kernel
theorem dX3_init_46 : decode cX3_init 46 = .ok (.lconst 0, 1) := by decide +kernel
theorem dX3_init_47 : decode cX3_init 47 = .ok (.putfield 36, 3) := by decide +kernel
theorem dX3_init_50 : decode cX3_init 50 = .ok (.aload_n 0, 1) := by decide +kernel
theorem dX3_init_51 : decode cX3_init 51 = .ok (.iload_n 1, 1) := by decide +kernel
theorem dX3_init_52 : decode cX3_init 52 = .ok (.putfield 40, 3) := by decide +kernel
theorem dX3_init_55 : decode cX3_init 55 = .ok (.aload_n 0, 1) := by decide +kernel
theorem dX3_init_56 : decode cX3_init 56 = .ok (.aload_n 2, 1) := by decide +kernel
theorem dX3_init_57 : decode cX3_init 57 = .ok (.putfield 43, 3) := by decide +kernel
theorem dX3_init_60 : decode cX3_init 60 = .ok (.return_, 1) := by decide +kernel
theorem dX3_run_0 : decode cX3_run 0 = .ok (.aload_n 0, 1) := by decide +kernel
theorem dX3_run_1 : decode cX3_run 1 = .ok (.invokevirtual 47, 3) := by decide +kernel
theorem dX3_run_4 : decode cX3_run 4 = .ok (.aload_n 1, 1) := by decide +kernel
theorem dX3_run_5 : decode cX3_run 5 = .ok (.invokevirtual 50, 3) := by decide +kernel
theorem dX3_run_8 : decode cX3_run 8 = .ok (.istore_n 3, 1) := by decide +kernel
theorem dX3_run_9 : decode cX3_run 9 = .ok (.iconst 0, 1) := by decide +kernel
theorem dX3_run_10 : decode cX3_run 10 = .ok (.istore 4, 2) := by decide +kernel
theorem dX3_run_12 : decode cX3_run 12 = .ok (.iload 4, 2) := by decide +kernel
theorem dX3_run_14 : decode cX3_run 14 = .ok (.aload_n 0, 1) := by decide +kernel
theorem dX3_run_15 : decode cX3_run 15 = .ok (.getfield 40, 3) := by decide +kernel
theorem dX3_run_18 : decode cX3_run 18 = .ok (.if_icmp .ge 79, 3) := by decide +kernel
theorem dX3_run_21 : decode cX3_run 21 = .ok (.aload_n 0, 1) := by decide +kernel
theorem dX3_run_22 : decode cX3_run 22 = .ok (.getfield 27, 3) := by decide +kernel
theorem dX3_run_25 : decode cX3_run 25 = .ok (.ifCond .lt 72, 3) := by decide +kernel
theorem dX3_run_28 : decode cX3_run 28 = .ok (.aload_n 0, 1) := by decide +kernel
theorem dX3_run_29 : decode cX3_run 29 = .ok (.getfield 27, 3) := by decide +kernel
theorem dX3_run_32 : decode cX3_run 32 = .ok (.iload_n 3, 1) := by decide +kernel
theorem dX3_run_33 : decode cX3_run 33 = .ok (.if_icmp .ge 64, 3) := by decide +kernel
theorem dX3_run_36 : decode cX3_run 36 = .ok (.aload_n 0, 1) := by decide +kernel
theorem dX3_run_37 : decode cX3_run 37 = .ok (.getfield 30, 3) := by decide +kernel
theorem dX3_run_40 : decode cX3_run 40 = .ok (.ifCond .ne 57, 3) := by decide +kernel
theorem dX3_run_43 : decode cX3_run 43 = .ok (.aload_n 0, 1) := by decide +kernel
theorem dX3_run_44 : decode cX3_run 44 = .ok (.getfield 27, 3) := by decide +kernel
theorem dX3_run_47 : decode cX3_run 47 = .ok (.istore 5, 2) := by decide +kernel
theorem dX3_run_49 : decode cX3_run 49 = .ok (.aload_n 0, 1) := by decide +kernel
theorem dX3_run_50 : decode cX3_run 50 = .ok (.dup, 1) := by decide +kernel
theorem dX3_run_51 : decode cX3_run 51 = .ok (.getfield 27, 3) := by decide +kernel
theorem dX3_run_54 : decode cX3_run 54 = .ok (.iconst 1, 1) := by decide +kernel
theorem dX3_run_55 : decode cX3_run 55 = .ok (.iadd, 1) := by decide +kernel
theorem dX3_run_56 : decode cX3_run 56 = .ok (.putfield 27, 3) := by decide +kernel
theorem dX3_run_59 : decode cX3_run 59 = .ok (.iinc 4 1, 3) := by decide +kernel
theorem dX3_run_62 : decode cX3_run 62 = .ok (.aload_n 0, 1) := by decide +kernel
theorem dX3_run_63 : decode cX3_run 63 = .ok (.aload_n 1, 1) := by decide +kernel
theorem dX3_run_64 : decode cX3_run 64 = .ok (.getfield 56, 3) := by decide +kernel
theorem dX3_run_67 : decode cX3_run 67 = .ok (.iload 5, 2) := by decide +kernel
theorem dX3_run_69 : decode cX3_run 69 = .ok (.iaload, 1) := by decide +kernel
theorem dX3_run_70 : decode cX3_run 70 = .ok (.aload_n 1, 1) := by decide +kernel
theorem dX3_run_71 : decode cX3_run 71 = .ok (.getfield 59, 3) := by decide +kernel
theorem dX3_run_74 : decode cX3_run 74 = .ok (.iload 5, 2) := by decide +kernel
theorem dX3_run_76 : decode cX3_run 76 = .ok (.iaload, 1) := by decide +kernel
theorem dX3_run_77 : decode cX3_run 77 = .ok (.aload_n 2, 1) := by decide +kernel
theorem dX3_run_78 : decode cX3_run 78 = .ok (.invokevirtual 62, 3) := by decide +kernel
theorem dX3_run_81 : decode cX3_run 81 = .ok (.aload_n 0, 1) := by decide +kernel
theorem dX3_run_82 : decode cX3_run 82 = .ok (.getfield 30, 3) := by decide +kernel
theorem dX3_run_85 : decode cX3_run 85 = .ok (.ifCond .eq 9, 3) := by decide +kernel
theorem dX3_run_88 : decode cX3_run 88 = .ok (.aload_n 0, 1) := by decide +kernel
theorem dX3_run_89 : decode cX3_run 89 = .ok (.iload 5, 2) := by decide +kernel
theorem dX3_run_91 : decode cX3_run 91 = .ok (.putfield 33, 3) := by decide +kernel
theorem dX3_run_94 : decode cX3_run 94 = .ok (.goto (-82), 3) := by decide +kernel
theorem dX3_run_97 : decode cX3_run 97 = .ok (.aload_n 0, 1) := by decide +kernel
theorem dX3_run_98 : decode cX3_run 98 = .ok (.dup, 1) := by decide +kernel
theorem dX3_run_99 : decode cX3_run 99 = .ok (.getfield 36, 3) := by decide +kernel
theorem dX3_run_102 : decode cX3_run 102 = .ok (.iload 4, 2) := by decide +kernel
theorem dX3_run_104 : decode cX3_run 104 = .ok (.i2l, 1) := by decide +kernel
theorem dX3_run_105 : decode cX3_run 105 = .ok (.ladd, 1) := by decide +kernel
theorem dX3_run_106 : decode cX3_run 106 = .ok (.putfield 36, 3) := by decide +kernel
theorem dX3_run_109 : decode cX3_run 109 = .ok (.aload_n 0, 1) := by decide +kernel
theorem dX3_run_110 : decode cX3_run 110 = .ok (.getfield 30, 3) := by decide +kernel
theorem dX3_run_113 : decode cX3_run 113 = .ok (.ifCond .ne 24, 3) := by decide +kernel
theorem dX3_run_116 : decode cX3_run 116 = .ok (.aload_n 0, 1) := by decide +kernel
theorem dX3_run_117 : decode cX3_run 117 = .ok (.getfield 27, 3) := by decide +kernel
theorem dX3_run_120 : decode cX3_run 120 = .ok (.iload_n 3, 1) := by decide +kernel
theorem dX3_run_121 : decode cX3_run 121 = .ok (.if_icmp .ge 16, 3) := by decide +kernel
theorem dX3_run_124 : decode cX3_run 124 = .ok (.aload_n 0, 1) := by decide +kernel
theorem dX3_run_125 : decode cX3_run 125 = .ok (.iconst 4, 1) := by decide +kernel
theorem dX3_run_126 : decode cX3_run 126 = .ok (.putfield 30, 3) := by decide +kernel
theorem dX3_run_129 : decode cX3_run 129 = .ok (.aload_n 0, 1) := by decide +kernel
theorem dX3_run_130 : decode cX3_run 130 = .ok (.aload_n 0, 1) := by decide +kernel
theorem dX3_run_131 : decode cX3_run 131 = .ok (.getfield 27, 3) := by decide +kernel
theorem dX3_run_134 : decode cX3_run 134 = .ok (.putfield 33, 3) := by decide +kernel
theorem dX3_run_137 : decode cX3_run 137 = .ok (.aload_n 0, 1) := by decide +kernel
theorem dX3_run_138 : decode cX3_run 138 = .ok (.getfield 30, 3) := by decide +kernel
theorem dX3_run_141 : decode cX3_run 141 = .ok (.ireturn, 1) := by decide +kernel
theorem dX3_begin_0 : decode cX3_begin 0 = .ok (.aload_n 0, 1) := by decide +kernel
theorem dX3_begin_1 : decode cX3_begin 1 = .ok (.getfield 43, 3) := by decide +kernel
theorem dX3_begin_4 : decode cX3_begin 4 = .ok (.iconst 0, 1) := by decide +kernel
theorem dX3_begin_5 : decode cX3_begin 5 = .ok (.invokestatic 66, 3) := by decide +kernel
theorem dX3_begin_8 : decode cX3_begin 8 = .ok (.aload_n 0, 1) := by decide +kernel
theorem dX3_begin_9 : decode cX3_begin 9 = .ok (.getfield 14, 3) := by decide +kernel
theorem dX3_begin_12 : decode cX3_begin 12 = .ok (.invokevirtual 71, 3) := by decide +kernel
theorem dX3_begin_15 : decode cX3_begin 15 = .ok (.aload_n 0, 1) := by decide +kernel
theorem dX3_begin_16 : decode cX3_begin 16 = .ok (.iconst 0, 1) := by decide +kernel
theorem dX3_begin_17 : decode cX3_begin 17 = .ok (.putfield 20, 3) := by decide +kernel
theorem dX3_begin_20 : decode cX3_begin 20 = .ok (.aload_n 0, 1) := by decide +kernel
theorem dX3_begin_21 : decode cX3_begin 21 = .ok (.iconst 0, 1) := by decide +kernel
theorem dX3_begin_22 : decode cX3_begin 22 = .ok (.putfield 24, 3) := by decide +kernel
theorem dX3_begin_25 : decode cX3_begin 25 = .ok (.aload_n 0, 1) := by decide +kernel
theorem dX3_begin_26 : decode cX3_begin 26 = .ok (.iconst 0, 1) := by decide +kernel
theorem dX3_begin_27 : decode cX3_begin 27 = .ok (.putfield 27, 3) := by decide +kernel
theorem dX3_begin_30 : decode cX3_begin 30 = .ok (.aload_n 0, 1) := by decide +kernel
theorem dX3_begin_31 : decode cX3_begin 31 = .ok (.iconst 0, 1) := by decide +kernel
theorem dX3_begin_32 : decode cX3_begin 32 = .ok (.putfield 30, 3) := by decide +kernel
theorem dX3_begin_35 : decode cX3_begin 35 = .ok (.aload_n 0, 1) := by decide +kernel
theorem dX3_begin_36 : decode cX3_begin 36 = .ok (.iconst (-1), 1) := by decide +kernel
theorem dX3_begin_37 : decode cX3_begin 37 = .ok (.putfield 33, 3) := by decide +kernel
theorem dX3_begin_40 : decode cX3_begin 40 = .ok (.return_, 1) := by decide +kernel
theorem dX3_step_0 : decode cX3_step 0 = .ok (.iload_n 1, 1) := by decide +kernel
theorem dX3_step_1 : decode cX3_step 1 = .ok (.lookupswitch 116 #[(101, 92), (103, 84), (114, 51), (115, 76), (119, 68)], 51) := by decide +kernel
theorem dX3_step_52 : decode cX3_step 52 = .ok (.aload_n 0, 1) := by decide +kernel
theorem dX3_step_53 : decode cX3_step 53 = .ok (.aload_n 3, 1) := by decide +kernel
theorem dX3_step_54 : decode cX3_step 54 = .ok (.aload_n 0, 1) := by decide +kernel
theorem dX3_step_55 : decode cX3_step 55 = .ok (.getfield 24, 3) := by decide +kernel
theorem dX3_step_58 : decode cX3_step 58 = .ok (.iload_n 2, 1) := by decide +kernel
theorem dX3_step_59 : decode cX3_step 59 = .ok (.iadd, 1) := by decide +kernel
theorem dX3_step_60 : decode cX3_step 60 = .ok (.invokevirtual 74, 3) := by decide +kernel
theorem dX3_step_63 : decode cX3_step 63 = .ok (.invokevirtual 78, 3) := by decide +kernel
theorem dX3_step_66 : decode cX3_step 66 = .ok (.goto 57, 3) := by decide +kernel
theorem dX3_step_69 : decode cX3_step 69 = .ok (.aload_n 0, 1) := by decide +kernel
theorem dX3_step_70 : decode cX3_step 70 = .ok (.iload_n 2, 1) := by decide +kernel
theorem dX3_step_71 : decode cX3_step 71 = .ok (.invokevirtual 82, 3) := by decide +kernel
theorem dX3_step_74 : decode cX3_step 74 = .ok (.goto 49, 3) := by decide +kernel
theorem dX3_step_77 : decode cX3_step 77 = .ok (.aload_n 0, 1) := by decide +kernel
theorem dX3_step_78 : decode cX3_step 78 = .ok (.iload_n 2, 1) := by decide +kernel
theorem dX3_step_79 : decode cX3_step 79 = .ok (.invokevirtual 85, 3) := by decide +kernel
theorem dX3_step_82 : decode cX3_step 82 = .ok (.goto 41, 3) := by decide +kernel
theorem dX3_step_85 : decode cX3_step 85 = .ok (.aload_n 0, 1) := by decide +kernel
theorem dX3_step_86 : decode cX3_step 86 = .ok (.iload_n 2, 1) := by decide +kernel
theorem dX3_step_87 : decode cX3_step 87 = .ok (.invokevirtual 88, 3) := by decide +kernel
theorem dX3_step_90 : decode cX3_step 90 = .ok (.goto 33, 3) := by decide +kernel
theorem dX3_step_93 : decode cX3_step 93 = .ok (.aload_n 0, 1) := by decide +kernel
theorem dX3_step_94 : decode cX3_step 94 = .ok (.aload_n 0, 1) := by decide +kernel
theorem dX3_step_95 : decode cX3_step 95 = .ok (.getfield 24, 3) := by decide +kernel
theorem dX3_step_98 : decode cX3_step 98 = .ok (.aload_n 3, 1) := by decide +kernel
theorem dX3_step_99 : decode cX3_step 99 = .ok (.getfield 91, 3) := by decide +kernel
theorem dX3_step_102 : decode cX3_step 102 = .ok (.if_icmp .lt 7, 3) := by decide +kernel
theorem dX3_step_105 : decode cX3_step 105 = .ok (.iconst 1, 1) := by decide +kernel
theorem dX3_step_106 : decode cX3_step 106 = .ok (.goto 4, 3) := by decide +kernel
theorem dX3_step_109 : decode cX3_step 109 = .ok (.iconst 0, 1) := by decide +kernel
theorem dX3_step_110 : decode cX3_step 110 = .ok (.iload_n 2, 1) := by decide +kernel
theorem dX3_step_111 : decode cX3_step 111 = .ok (.invokevirtual 93, 3) := by decide +kernel
theorem dX3_step_114 : decode cX3_step 114 = .ok (.goto 9, 3) := by decide +kernel
theorem dX3_step_117 : decode cX3_step 117 = .ok (.aload_n 0, 1) := by decide +kernel
theorem dX3_step_118 : decode cX3_step 118 = .ok (.iload_n 1, 1) := by decide +kernel
theorem dX3_step_119 : decode cX3_step 119 = .ok (.iload_n 2, 1) := by decide +kernel
theorem dX3_step_120 : decode cX3_step 120 = .ok (.invokevirtual 97, 3) := by decide +kernel
theorem dX3_step_123 : decode cX3_step 123 = .ok (.return_, 1) := by decide +kernel
theorem dX3_stepWithin_0 : decode cX3_stepWithin 0 = .ok (.iload_n 1, 1) := by decide +kernel
theorem dX3_stepWithin_1 : decode cX3_stepWithin 1 = .ok (.tableswitch 245 97 122 #[119, 215, 245, 245, 245, 224, 245, 245, 149, 175, 167, 245, 245, 245, 245, 245, 245, 245, 245, 245, 245, 245, 245, 136, 245, 195], 119) := by decide +kernel
theorem dX3_stepWithin_120 : decode cX3_stepWithin 120 = .ok (.aload_n 0, 1) := by decide +kernel
theorem dX3_stepWithin_121 : decode cX3_stepWithin 121 = .ok (.aload_n 0, 1) := by decide +kernel
theorem dX3_stepWithin_122 : decode cX3_stepWithin 122 = .ok (.getfield 20, 3) := by decide +kernel
theorem dX3_stepWithin_125 : decode cX3_stepWithin 125 = .ok (.iload_n 2, 1) := by decide +kernel
theorem dX3_stepWithin_126 : decode cX3_stepWithin 126 = .ok (.iadd, 1) := by decide +kernel
theorem dX3_stepWithin_127 : decode cX3_stepWithin 127 = .ok (.sipush 255, 3) := by decide +kernel
theorem dX3_stepWithin_130 : decode cX3_stepWithin 130 = .ok (.iand, 1) := by decide +kernel
theorem dX3_stepWithin_131 : decode cX3_stepWithin 131 = .ok (.putfield 20, 3) := by decide +kernel
theorem dX3_stepWithin_134 : decode cX3_stepWithin 134 = .ok (.goto 119, 3) := by decide +kernel
theorem dX3_stepWithin_137 : decode cX3_stepWithin 137 = .ok (.aload_n 0, 1) := by decide +kernel
theorem dX3_stepWithin_138 : decode cX3_stepWithin 138 = .ok (.aload_n 0, 1) := by decide +kernel
theorem dX3_stepWithin_139 : decode cX3_stepWithin 139 = .ok (.getfield 20, 3) := by decide +kernel
theorem dX3_stepWithin_142 : decode cX3_stepWithin 142 = .ok (.iload_n 2, 1) := by decide +kernel
theorem dX3_stepWithin_143 : decode cX3_stepWithin 143 = .ok (.ixor, 1) := by decide +kernel
theorem dX3_stepWithin_144 : decode cX3_stepWithin 144 = .ok (.putfield 20, 3) := by decide +kernel
theorem dX3_stepWithin_147 : decode cX3_stepWithin 147 = .ok (.goto 106, 3) := by decide +kernel
theorem dX3_stepWithin_150 : decode cX3_stepWithin 150 = .ok (.aload_n 0, 1) := by decide +kernel
theorem dX3_stepWithin_151 : decode cX3_stepWithin 151 = .ok (.aload_n 0, 1) := by decide +kernel
theorem dX3_stepWithin_152 : decode cX3_stepWithin 152 = .ok (.getfield 24, 3) := by decide +kernel
theorem dX3_stepWithin_155 : decode cX3_stepWithin 155 = .ok (.iload_n 2, 1) := by decide +kernel
theorem dX3_stepWithin_156 : decode cX3_stepWithin 156 = .ok (.iadd, 1) := by decide +kernel
theorem dX3_stepWithin_157 : decode cX3_stepWithin 157 = .ok (.ldc 101, 2) := by decide +kernel
theorem dX3_stepWithin_159 : decode cX3_stepWithin 159 = .ok (.invokestatic 102, 3) := by decide +kernel
theorem dX3_stepWithin_162 : decode cX3_stepWithin 162 = .ok (.putfield 24, 3) := by decide +kernel
theorem dX3_stepWithin_165 : decode cX3_stepWithin 165 = .ok (.goto 88, 3) := by decide +kernel
theorem dX3_stepWithin_168 : decode cX3_stepWithin 168 = .ok (.aload_n 0, 1) := by decide +kernel
theorem dX3_stepWithin_169 : decode cX3_stepWithin 169 = .ok (.iload_n 2, 1) := by decide +kernel
theorem dX3_stepWithin_170 : decode cX3_stepWithin 170 = .ok (.putfield 24, 3) := by decide +kernel
theorem dX3_stepWithin_173 : decode cX3_stepWithin 173 = .ok (.goto 80, 3) := by decide +kernel
theorem dX3_stepWithin_176 : decode cX3_stepWithin 176 = .ok (.aload_n 0, 1) := by decide +kernel
theorem dX3_stepWithin_177 : decode cX3_stepWithin 177 = .ok (.aload_n 0, 1) := by decide +kernel
theorem dX3_stepWithin_178 : decode cX3_stepWithin 178 = .ok (.getfield 20, 3) := by decide +kernel
theorem dX3_stepWithin_181 : decode cX3_stepWithin 181 = .ok (.ifCond .eq 7, 3) := by decide +kernel
theorem dX3_stepWithin_184 : decode cX3_stepWithin 184 = .ok (.iconst 1, 1) := by decide +kernel
theorem dX3_stepWithin_185 : decode cX3_stepWithin 185 = .ok (.goto 4, 3) := by decide +kernel
theorem dX3_stepWithin_188 : decode cX3_stepWithin 188 = .ok (.iconst 0, 1) := by decide +kernel
theorem dX3_stepWithin_189 : decode cX3_stepWithin 189 = .ok (.iload_n 2, 1) := by decide +kernel
theorem dX3_stepWithin_190 : decode cX3_stepWithin 190 = .ok (.invokevirtual 93, 3) := by decide +kernel
theorem dX3_stepWithin_193 : decode cX3_stepWithin 193 = .ok (.goto 60, 3) := by decide +kernel
theorem dX3_stepWithin_196 : decode cX3_stepWithin 196 = .ok (.aload_n 0, 1) := by decide +kernel
theorem dX3_stepWithin_197 : decode cX3_stepWithin 197 = .ok (.aload_n 0, 1) := by decide +kernel
theorem dX3_stepWithin_198 : decode cX3_stepWithin 198 = .ok (.getfield 20, 3) := by decide +kernel
theorem dX3_stepWithin_201 : decode cX3_stepWithin 201 = .ok (.ifCond .ne 7, 3) := by decide +kernel
theorem dX3_stepWithin_204 : decode cX3_stepWithin 204 = .ok (.iconst 1, 1) := by decide +kernel
theorem dX3_stepWithin_205 : decode cX3_stepWithin 205 = .ok (.goto 4, 3) := by decide +kernel
theorem dX3_stepWithin_208 : decode cX3_stepWithin 208 = .ok (.iconst 0, 1) := by decide +kernel
theorem dX3_stepWithin_209 : decode cX3_stepWithin 209 = .ok (.iload_n 2, 1) := by decide +kernel
theorem dX3_stepWithin_210 : decode cX3_stepWithin 210 = .ok (.invokevirtual 93, 3) := by decide +kernel
theorem dX3_stepWithin_213 : decode cX3_stepWithin 213 = .ok (.goto 40, 3) := by decide +kernel
theorem dX3_stepWithin_216 : decode cX3_stepWithin 216 = .ok (.aload_n 0, 1) := by decide +kernel
theorem dX3_stepWithin_217 : decode cX3_stepWithin 217 = .ok (.iconst 1, 1) := by decide +kernel
theorem dX3_stepWithin_218 : decode cX3_stepWithin 218 = .ok (.iload_n 2, 1) := by decide +kernel
theorem dX3_stepWithin_219 : decode cX3_stepWithin 219 = .ok (.invokevirtual 93, 3) := by decide +kernel
theorem dX3_stepWithin_222 : decode cX3_stepWithin 222 = .ok (.goto 31, 3) := by decide +kernel
theorem dX3_stepWithin_225 : decode cX3_stepWithin 225 = .ok (.aload_n 0, 1) := by decide +kernel
theorem dX3_stepWithin_226 : decode cX3_stepWithin 226 = .ok (.aload_n 0, 1) := by decide +kernel
theorem dX3_stepWithin_227 : decode cX3_stepWithin 227 = .ok (.getfield 20, 3) := by decide +kernel
theorem dX3_stepWithin_230 : decode cX3_stepWithin 230 = .ok (.iload_n 2, 1) := by decide +kernel
theorem dX3_stepWithin_231 : decode cX3_stepWithin 231 = .ok (.if_icmp .eq 7, 3) := by decide +kernel
theorem dX3_stepWithin_234 : decode cX3_stepWithin 234 = .ok (.iconst 1, 1) := by decide +kernel
theorem dX3_stepWithin_235 : decode cX3_stepWithin 235 = .ok (.goto 4, 3) := by decide +kernel
theorem dX3_stepWithin_238 : decode cX3_stepWithin 238 = .ok (.iconst 0, 1) := by decide +kernel
theorem dX3_stepWithin_239 : decode cX3_stepWithin 239 = .ok (.iconst 1, 1) := by decide +kernel
theorem dX3_stepWithin_240 : decode cX3_stepWithin 240 = .ok (.invokevirtual 108, 3) := by decide +kernel
theorem dX3_stepWithin_243 : decode cX3_stepWithin 243 = .ok (.goto 10, 3) := by decide +kernel
theorem dX3_stepWithin_246 : decode cX3_stepWithin 246 = .ok (.aload_n 0, 1) := by decide +kernel
theorem dX3_stepWithin_247 : decode cX3_stepWithin 247 = .ok (.iconst 1, 1) := by decide +kernel
theorem dX3_stepWithin_248 : decode cX3_stepWithin 248 = .ok (.bipush 40, 2) := by decide +kernel
theorem dX3_stepWithin_250 : decode cX3_stepWithin 250 = .ok (.invokevirtual 93, 3) := by decide +kernel
theorem dX3_stepWithin_253 : decode cX3_stepWithin 253 = .ok (.return_, 1) := by decide +kernel
theorem dX3_fetch_0 : decode cX3_fetch 0 = .ok (.iload_n 1, 1) := by decide +kernel
theorem dX3_fetch_1 : decode cX3_fetch 1 = .ok (.iconst (-1), 1) := by decide +kernel
theorem dX3_fetch_2 : decode cX3_fetch 2 = .ok (.if_icmp .ne 11, 3) := by decide +kernel
theorem dX3_fetch_5 : decode cX3_fetch 5 = .ok (.aload_n 0, 1) := by decide +kernel
theorem dX3_fetch_6 : decode cX3_fetch 6 = .ok (.iconst 2, 1) := by decide +kernel
theorem dX3_fetch_7 : decode cX3_fetch 7 = .ok (.putfield 30, 3) := by decide +kernel
theorem dX3_fetch_10 : decode cX3_fetch 10 = .ok (.goto 8, 3) := by decide +kernel
theorem dX3_fetch_13 : decode cX3_fetch 13 = .ok (.aload_n 0, 1) := by decide +kernel
theorem dX3_fetch_14 : decode cX3_fetch 14 = .ok (.iload_n 1, 1) := by decide +kernel
theorem dX3_fetch_15 : decode cX3_fetch 15 = .ok (.putfield 20, 3) := by decide +kernel
theorem dX3_fetch_18 : decode cX3_fetch 18 = .ok (.return_, 1) := by decide +kernel
theorem dX3_putOut_0 : decode cX3_putOut 0 = .ok (.iconst 1, 1) := by decide +kernel
theorem dX3_putOut_1 : decode cX3_putOut 1 = .ok (.istore_n 2, 1) := by decide +kernel
theorem dX3_putOut_2 : decode cX3_putOut 2 = .ok (.iconst 0, 1) := by decide +kernel
theorem dX3_putOut_3 : decode cX3_putOut 3 = .ok (.istore_n 3, 1) := by decide +kernel
theorem dX3_putOut_4 : decode cX3_putOut 4 = .ok (.iload_n 3, 1) := by decide +kernel
theorem dX3_putOut_5 : decode cX3_putOut 5 = .ok (.iload_n 1, 1) := by decide +kernel
theorem dX3_putOut_6 : decode cX3_putOut 6 = .ok (.if_icmp .ge 25, 3) := by decide +kernel
theorem dX3_putOut_9 : decode cX3_putOut 9 = .ok (.iload_n 2, 1) := by decide +kernel
theorem dX3_putOut_10 : decode cX3_putOut 10 = .ok (.ifCond .eq 21, 3) := by decide +kernel
theorem dX3_putOut_13 : decode cX3_putOut 13 = .ok (.aload_n 0, 1) := by decide +kernel
theorem dX3_putOut_14 : decode cX3_putOut 14 = .ok (.getfield 14, 3) := by decide +kernel
theorem dX3_putOut_17 : decode cX3_putOut 17 = .ok (.aload_n 0, 1) := by decide +kernel
theorem dX3_putOut_18 : decode cX3_putOut 18 = .ok (.getfield 20, 3) := by decide +kernel
theorem dX3_putOut_21 : decode cX3_putOut 21 = .ok (.invokevirtual 111, 3) := by decide +kernel
theorem dX3_putOut_24 : decode cX3_putOut 24 = .ok (.istore_n 2, 1) := by decide +kernel
theorem dX3_putOut_25 : decode cX3_putOut 25 = .ok (.iinc 3 1, 3) := by decide +kernel
theorem dX3_putOut_28 : decode cX3_putOut 28 = .ok (.goto (-24), 3) := by decide +kernel
theorem dX3_putOut_31 : decode cX3_putOut 31 = .ok (.aload_n 0, 1) := by decide +kernel
theorem dX3_putOut_32 : decode cX3_putOut 32 = .ok (.iload_n 2, 1) := by decide +kernel
theorem dX3_putOut_33 : decode cX3_putOut 33 = .ok (.ifCond .ne 7, 3) := by decide +kernel
theorem dX3_putOut_36 : decode cX3_putOut 36 = .ok (.iconst 1, 1) := by decide +kernel
theorem dX3_putOut_37 : decode cX3_putOut 37 = .ok (.goto 4, 3) := by decide +kernel
theorem dX3_putOut_40 : decode cX3_putOut 40 = .ok (.iconst 0, 1) := by decide +kernel
theorem dX3_putOut_41 : decode cX3_putOut 41 = .ok (.iconst 3, 1) := by decide +kernel
theorem dX3_putOut_42 : decode cX3_putOut 42 = .ok (.invokevirtual 108, 3) := by decide +kernel
theorem dX3_putOut_45 : decode cX3_putOut 45 = .ok (.return_, 1) := by decide +kernel
theorem dX3_store_0 : decode cX3_store 0 = .ok (.iload_n 1, 1) := by decide +kernel
theorem dX3_store_1 : decode cX3_store 1 = .ok (.ifCond .lt 12, 3) := by decide +kernel
theorem dX3_store_4 : decode cX3_store 4 = .ok (.iload_n 1, 1) := by decide +kernel
theorem dX3_store_5 : decode cX3_store 5 = .ok (.aload_n 0, 1) := by decide +kernel
theorem dX3_store_6 : decode cX3_store 6 = .ok (.getfield 43, 3) := by decide +kernel
theorem dX3_store_9 : decode cX3_store 9 = .ok (.arraylength, 1) := by decide +kernel
theorem dX3_store_10 : decode cX3_store 10 = .ok (.if_icmp .lt 11, 3) := by decide +kernel
theorem dX3_store_13 : decode cX3_store 13 = .ok (.aload_n 0, 1) := by decide +kernel
theorem dX3_store_14 : decode cX3_store 14 = .ok (.iconst 3, 1) := by decide +kernel
theorem dX3_store_15 : decode cX3_store 15 = .ok (.putfield 30, 3) := by decide +kernel
theorem dX3_store_18 : decode cX3_store 18 = .ok (.goto 13, 3) := by decide +kernel
theorem dX3_store_21 : decode cX3_store 21 = .ok (.aload_n 0, 1) := by decide +kernel
theorem dX3_store_22 : decode cX3_store 22 = .ok (.getfield 43, 3) := by decide +kernel
theorem dX3_store_25 : decode cX3_store 25 = .ok (.iload_n 1, 1) := by decide +kernel
theorem dX3_store_26 : decode cX3_store 26 = .ok (.aload_n 0, 1) := by decide +kernel
theorem dX3_store_27 : decode cX3_store 27 = .ok (.getfield 20, 3) := by decide +kernel
theorem dX3_store_30 : decode cX3_store 30 = .ok (.iastore, 1) := by decide +kernel
theorem dX3_store_31 : decode cX3_store 31 = .ok (.return_, 1) := by decide +kernel
theorem dX3_recall_0 : decode cX3_recall 0 = .ok (.iload_n 1, 1) := by decide +kernel
theorem dX3_recall_1 : decode cX3_recall 1 = .ok (.ifCond .lt 12, 3) := by decide +kernel
theorem dX3_recall_4 : decode cX3_recall 4 = .ok (.iload_n 1, 1) := by decide +kernel
theorem dX3_recall_5 : decode cX3_recall 5 = .ok (.aload_n 0, 1) := by decide +kernel
theorem dX3_recall_6 : decode cX3_recall 6 = .ok (.getfield 43, 3) := by decide +kernel
theorem dX3_recall_9 : decode cX3_recall 9 = .ok (.arraylength, 1) := by decide +kernel
theorem dX3_recall_10 : decode cX3_recall 10 = .ok (.if_icmp .lt 11, 3) := by decide +kernel
theorem dX3_recall_13 : decode cX3_recall 13 = .ok (.aload_n 0, 1) := by decide +kernel
theorem dX3_recall_14 : decode cX3_recall 14 = .ok (.iconst 3, 1) := by decide +kernel
theorem dX3_recall_15 : decode cX3_recall 15 = .ok (.putfield 30, 3) := by decide +kernel
theorem dX3_recall_18 : decode cX3_recall 18 = .ok (.goto 13, 3) := by decide +kernel
theorem dX3_recall_21 : decode cX3_recall 21 = .ok (.aload_n 0, 1) := by decide +kernel
theorem dX3_recall_22 : decode cX3_recall 22 = .ok (.aload_n 0, 1) := by decide +kernel
theorem dX3_recall_23 : decode cX3_recall 23 = .ok (.getfield 43, 3) := by decide +kernel
theorem dX3_recall_26 : decode cX3_recall 26 = .ok (.iload_n 1, 1) := by decide +kernel
theorem dX3_recall_27 : decode cX3_recall 27 = .ok (.iaload, 1) := by decide +kernel
theorem dX3_recall_28 : decode cX3_recall 28 = .ok (.putfield 20, 3) := by decide +kernel
theorem dX3_recall_31 : decode cX3_recall 31 = .ok (.return_, 1) := by decide +kernel
theorem dX3_jumpIf_0 : decode cX3_jumpIf 0 = .ok (.iload_n 1, 1) := by decide +kernel
theorem dX3_jumpIf_1 : decode cX3_jumpIf 1 = .ok (.ifCond .eq 8, 3) := by decide +kernel
theorem dX3_jumpIf_4 : decode cX3_jumpIf 4 = .ok (.aload_n 0, 1) := by decide +kernel
theorem dX3_jumpIf_5 : decode cX3_jumpIf 5 = .ok (.iload_n 2, 1) := by decide +kernel
theorem dX3_jumpIf_6 : decode cX3_jumpIf 6 = .ok (.putfield 27, 3) := by decide +kernel
theorem dX3_jumpIf_9 : decode cX3_jumpIf 9 = .ok (.return_, 1) := by decide +kernel
theorem dX3_failIf_0 : decode cX3_failIf 0 = .ok (.iload_n 1, 1) := by decide +kernel
theorem dX3_failIf_1 : decode cX3_failIf 1 = .ok (.ifCond .eq 8, 3) := by decide +kernel
theorem dX3_failIf_4 : decode cX3_failIf 4 = .ok (.aload_n 0, 1) := by decide +kernel
theorem dX3_failIf_5 : decode cX3_failIf 5 = .ok (.iload_n 2, 1) := by decide +kernel
theorem dX3_failIf_6 : decode cX3_failIf 6 = .ok (.putfield 30, 3) := by decide +kernel
theorem dX3_failIf_9 : decode cX3_failIf 9 = .ok (.return_, 1) := by decide +kernel
theorem dX4_init_0 : decode cX4_init 0 = .ok (.aload_n 0, 1) := by decide +kernel
theorem dX4_init_1 : decode cX4_init 1 = .ok (.invokespecial 3, 3) := by decide +kernel
theorem dX4_init_4 : decode cX4_init 4 = .ok (.aload_n 0, 1) := by decide +kernel
theorem dX4_init_5 : decode cX4_init 5 = .ok (.new 9, 3) := by decide +kernel
theorem dX4_init_8 : decode cX4_init 8 = .ok (.dup, 1) := by decide +kernel
theorem dX4_init_9 : decode cX4_init 9 = .ok (.invokespecial 11, 3) := by decide +kernel
theorem dX4_init_12 : decode cX4_init 12 = .ok (.putfield 12, 3) := by decide +kernel
theorem dX4_init_15 : decode cX4_init 15 = .ok (.aload_n 0, 1) := by decide +kernel
theorem dX4_init_16 : decode cX4_init 16 = .ok (.new 9, 3) := by decide +kernel
theorem dX4_init_19 : decode cX4_init 19 = .ok (.dup, 1) := by decide +kernel
theorem dX4_init_20 : decode cX4_init 20 = .ok (.invokespecial 11, 3) := by decide +kernel
theorem dX4_init_23 : decode cX4_init 23 = .ok (.putfield 18, 3) := by decide +kernel
theorem dX4_init_26 : decode cX4_init 26 = .ok (.aload_n 0, 1) := by decide +kernel
theorem dX4_init_27 : decode cX4_init 27 = .ok (.iconst (-1), 1) := by decide +kernel
theorem dX4_init_28 : decode cX4_init 28 = .ok (.putfield 21, 3) := by decide +kernel
theorem dX4_init_31 : decode cX4_init 31 = .ok (.aload_n 0, 1) := by decide +kernel
theorem dX4_init_32 : decode cX4_init 32 = .ok (.aload_n 1, 1) := by decide +kernel
theorem dX4_init_33 : decode cX4_init 33 = .ok (.putfield 25, 3) := by decide +kernel
theorem dX4_init_36 : decode cX4_init 36 = .ok (.aload_n 0, 1) := by decide +kernel
theorem dX4_init_37 : decode cX4_init 37 = .ok (.aload_n 2, 1) := by decide +kernel
theorem dX4_init_38 : decode cX4_init 38 = .ok (.putfield 29, 3) := by decide +kernel
theorem dX4_init_41 : decode cX4_init 41 = .ok (.return_, 1) := by decide +kernel
theorem dX4_size_0 : decode cX4_size 0 = .ok (.aload_n 0, 1) := by decide +kernel
theorem dX4_size_1 : decode cX4_size 1 = .ok (.getfield 25, 3) := by decide +kernel
theorem dX4_size_4 : decode cX4_size 4 = .ok (.arraylength, 1) := by decide +kernel
theorem dX4_size_5 : decode cX4_size 5 = .ok (.aload_n 0, 1) := by decide +kernel
theorem dX4_size_6 : decode cX4_size 6 = .ok (.getfield 29, 3) := by decide +kernel
theorem dX4_size_9 : decode cX4_size 9 = .ok (.arraylength, 1) := by decide +kernel
theorem dX4_size_10 : decode cX4_size 10 = .ok (.invokestatic 32, 3) := by decide +kernel
theorem dX4_size_13 : decode cX4_size 13 = .ok (.ireturn, 1) := by decide +kernel
theorem dX5_init_0 : decode cX5_init 0 = .ok (.aload_n 0, 1) := by decide +kernel
theorem dX5_init_1 : decode cX5_init 1 = .ok (.invokespecial 3, 3) := by decide +kernel
theorem dX5_init_4 : decode cX5_init 4 = .ok (.aload_n 0, 1) := by decide +kernel
theorem dX5_init_5 : decode cX5_init 5 = .ok (.sipush 200, 3) := by decide +kernel
theorem dX5_init_8 : decode cX5_init 8 = .ok (.newarray .int, 2) := by decide +kernel
theorem dX5_init_10 : decode cX5_init 10 = .ok (.putfield 9, 3) := by decide +kernel
theorem dX5_init_13 : decode cX5_init 13 = .ok (.aload_n 0, 1) := by decide +kernel
theorem dX5_init_14 : decode cX5_init 14 = .ok (.bipush 40, 2) := by decide +kernel
theorem dX5_init_16 : decode cX5_init 16 = .ok (.newarray .int, 2) := by decide +kernel
theorem dX5_init_18 : decode cX5_init 18 = .ok (.putfield 15, 3) := by decide +kernel
theorem dX5_init_21 : decode cX5_init 21 = .ok (.aload_n 0, 1) := by decide +kernel
theorem dX5_init_22 : decode cX5_init 22 = .ok (.bipush 40, 2) := by decide +kernel
theorem dX5_init_24 : decode cX5_init 24 = .ok (.newarray .int, 2) := by decide +kernel
theorem dX5_init_26 : decode cX5_init 26 = .ok (.putfield 18, 3) := by decide +kernel
theorem dX5_init_29 : decode cX5_init 29 = .ok (.aload_n 0, 1) := by decide +kernel
theorem dX5_init_30 : decode cX5_init 30 = .ok (.iconst 0, 1) := by decide +kernel
theorem dX5_init_31 : decode cX5_init 31 = .ok (.putfield 21, 3) := by decide +kernel
theorem dX5_init_34 : decode cX5_init 34 = .ok (.aload_n 0, 1) := by decide +kernel
theorem dX5_init_35 : decode cX5_init 35 = .ok (.iconst 0, 1) := by decide +kernel
theorem dX5_init_36 : decode cX5_init 36 = .ok (.putfield 25, 3) := by decide +kernel
theorem dX5_init_39 : decode cX5_init 39 = .ok (.return_, 1) := by decide +kernel
theorem dX5_add_0 : decode cX5_add 0 = .ok (.aload_n 0, 1) := by decide +kernel
theorem dX5_add_1 : decode cX5_add 1 = .ok (.getfield 21, 3) := by decide +kernel
theorem dX5_add_4 : decode cX5_add 4 = .ok (.sipush 200, 3) := by decide +kernel
theorem dX5_add_7 : decode cX5_add 7 = .ok (.if_icmp .ge 23, 3) := by decide +kernel
theorem dX5_add_10 : decode cX5_add 10 = .ok (.aload_n 0, 1) := by decide +kernel
theorem dX5_add_11 : decode cX5_add 11 = .ok (.getfield 9, 3) := by decide +kernel
theorem dX5_add_14 : decode cX5_add 14 = .ok (.aload_n 0, 1) := by decide +kernel
theorem dX5_add_15 : decode cX5_add 15 = .ok (.getfield 21, 3) := by decide +kernel
theorem dX5_add_18 : decode cX5_add 18 = .ok (.iload_n 1, 1) := by decide +kernel
theorem dX5_add_19 : decode cX5_add 19 = .ok (.iastore, 1) := by decide +kernel
theorem dX5_add_20 : decode cX5_add 20 = .ok (.aload_n 0, 1) := by decide +kernel
theorem dX5_add_21 : decode cX5_add 21 = .ok (.dup, 1) := by decide +kernel
theorem dX5_add_22 : decode cX5_add 22 = .ok (.getfield 21, 3) := by decide +kernel
theorem dX5_add_25 : decode cX5_add 25 = .ok (.iconst 1, 1) := by decide +kernel
theorem dX5_add_26 : decode cX5_add 26 = .ok (.iadd, 1) := by decide +kernel
theorem dX5_add_27 : decode cX5_add 27 = .ok (.putfield 21, 3) := by decide +kernel
theorem dX5_add_30 : decode cX5_add 30 = .ok (.return_, 1) := by decide +kernel
theorem dX5_clear_0 : decode cX5_clear 0 = .ok (.aload_n 0, 1) := by decide +kernel
theorem dX5_clear_1 : decode cX5_clear 1 = .ok (.iconst 0, 1) := by decide +kernel
theorem dX5_clear_2 : decode cX5_clear 2 = .ok (.putfield 21, 3) := by decide +kernel
theorem dX5_clear_5 : decode cX5_clear 5 = .ok (.return_, 1) := by decide +kernel
theorem dX5_parsed_0 : decode cX5_parsed 0 = .ok (.iconst 0, 1) := by decide +kernel
theorem dX5_parsed_1 : decode cX5_parsed 1 = .ok (.aload_n 0, 1) := by decide +kernel
theorem dX5_parsed_2 : decode cX5_parsed 2 = .ok (.getfield 25, 3) := by decide +kernel
theorem dX5_parsed_5 : decode cX5_parsed 5 = .ok (.bipush 40, 2) := by decide +kernel
theorem dX5_parsed_7 : decode cX5_parsed 7 = .ok (.invokestatic 28, 3) := by decide +kernel
theorem dX5_parsed_10 : decode cX5_parsed 10 = .ok (.invokestatic 34, 3) := by decide +kernel
theorem dX5_parsed_13 : decode cX5_parsed 13 = .ok (.istore_n 1, 1) := by decide +kernel
theorem dX5_parsed_14 : decode cX5_parsed 14 = .ok (.new 37, 3) := by decide +kernel
theorem dX5_parsed_17 : decode cX5_parsed 17 = .ok (.dup, 1) := by decide +kernel
theorem dX5_parsed_18 : decode cX5_parsed 18 = .ok (.aload_n 0, 1) := by decide +kernel
theorem dX5_parsed_19 : decode cX5_parsed 19 = .ok (.getfield 15, 3) := by decide +kernel
theorem dX5_parsed_22 : decode cX5_parsed 22 = .ok (.iload_n 1, 1) := by decide +kernel
theorem dX5_parsed_23 : decode cX5_parsed 23 = .ok (.invokestatic 39, 3) := by decide +kernel
theorem dX5_parsed_26 : decode cX5_parsed 26 = .ok (.aload_n 0, 1) := by decide +kernel
theorem dX5_parsed_27 : decode cX5_parsed 27 = .ok (.getfield 18, 3) := by decide +kernel
theorem dX5_parsed_30 : decode cX5_parsed 30 = .ok (.iload_n 1, 1) := by decide +kernel
theorem dX5_parsed_31 : decode cX5_parsed 31 = .ok (.invokestatic 39, 3) := by decide +kernel
theorem dX5_parsed_34 : decode cX5_parsed 34 = .ok (.invokespecial 45, 3) := by decide +kernel
theorem dX5_parsed_37 : decode cX5_parsed 37 = .ok (.areturn, 1) := by decide +kernel
theorem dX5_parse_0 : decode cX5_parse 0 = .ok (.aload_n 0, 1) := by decide +kernel
theorem dX5_parse_1 : decode cX5_parse 1 = .ok (.iconst 0, 1) := by decide +kernel
theorem dX5_parse_2 : decode cX5_parse 2 = .ok (.putfield 25, 3) := by decide +kernel
theorem dX5_parse_5 : decode cX5_parse 5 = .ok (.iconst 0, 1) := by decide +kernel
theorem dX5_parse_6 : decode cX5_parse 6 = .ok (.istore_n 1, 1) := by decide +kernel
theorem dX5_parse_7 : decode cX5_parse 7 = .ok (.aload_n 0, 1) := by decide +kernel
theorem dX5_parse_8 : decode cX5_parse 8 = .ok (.getfield 25, 3) := by decide +kernel
theorem dX5_parse_11 : decode cX5_parse 11 = .ok (.bipush 40, 2) := by decide +kernel
theorem dX5_parse_13 : decode cX5_parse 13 = .ok (.if_icmp .ge 117, 3) := by decide +kernel
theorem dX5_parse_16 : decode cX5_parse 16 = .ok (.aload_n 0, 1) := by decide +kernel
theorem dX5_parse_17 : decode cX5_parse 17 = .ok (.iload_n 1, 1) := by decide +kernel
theorem dX5_parse_18 : decode cX5_parse 18 = .ok (.invokevirtual 48, 3) := by decide +kernel
theorem dX5_parse_21 : decode cX5_parse 21 = .ok (.istore_n 2, 1) := by decide +kernel
theorem dX5_parse_22 : decode cX5_parse 22 = .ok (.iload_n 2, 1) := by decide +kernel
theorem dX5_parse_23 : decode cX5_parse 23 = .ok (.invokestatic 52, 3) := by decide +kernel
theorem dX5_parse_26 : decode cX5_parse 26 = .ok (.ifCond .ne 5, 3) := by decide +kernel
theorem dX5_parse_29 : decode cX5_parse 29 = .ok (.iload_n 1, 1) := by decide +kernel
theorem dX5_parse_30 : decode cX5_parse 30 = .ok (.ireturn, 1) := by decide +kernel
theorem dX5_parse_31 : decode cX5_parse 31 = .ok (.aload_n 0, 1) := by decide +kernel
theorem dX5_parse_32 : decode cX5_parse 32 = .ok (.iload_n 1, 1) := by decide +kernel
theorem dX5_parse_33 : decode cX5_parse 33 = .ok (.iconst 1, 1) := by decide +kernel
theorem dX5_parse_34 : decode cX5_parse 34 = .ok (.iadd, 1) := by decide +kernel
theorem dX5_parse_35 : decode cX5_parse 35 = .ok (.invokevirtual 56, 3) := by decide +kernel
theorem dX5_parse_38 : decode cX5_parse 38 = .ok (.istore_n 3, 1) := by decide +kernel
theorem dX5_parse_39 : decode cX5_parse 39 = .ok (.aload_n 0, 1) := by decide +kernel
theorem dX5_parse_40 : decode cX5_parse 40 = .ok (.iload_n 1, 1) := by decide +kernel
theorem dX5_parse_41 : decode cX5_parse 41 = .ok (.iconst 1, 1) := by decide +kernel
theorem dX5_parse_42 : decode cX5_parse 42 = .ok (.iadd, 1) := by decide +kernel
theorem dX5_parse_43 : decode cX5_parse 43 = .ok (.iload_n 3, 1) := by decide +kernel
theorem dX5_parse_44 : decode cX5_parse 44 = .ok (.invokevirtual 59, 3) := by decide +kernel
theorem dX5_parse_47 : decode cX5_parse 47 = .ok (.istore 4, 2) := by decide +kernel
theorem dX5_parse_49 : decode cX5_parse 49 = .ok (.iload_n 3, 1) := by decide +kernel
theorem dX5_parse_50 : decode cX5_parse 50 = .ok (.ifCond .eq 11, 3) := by decide +kernel
theorem dX5_parse_53 : decode cX5_parse 53 = .ok (.iload 4, 2) := by decide +kernel
theorem dX5_parse_55 : decode cX5_parse 55 = .ok (.sipush 255, 3) := by decide +kernel
theorem dX5_parse_58 : decode cX5_parse 58 = .ok (.if_icmp .le 7, 3) := by decide +kernel
theorem dX5_parse_61 : decode cX5_parse 61 = .ok (.iload_n 1, 1) := by decide +kernel
theorem dX5_parse_62 : decode cX5_parse 62 = .ok (.iconst 1, 1) := by decide +kernel
theorem dX5_parse_63 : decode cX5_parse 63 = .ok (.iadd, 1) := by decide +kernel
theorem dX5_parse_64 : decode cX5_parse 64 = .ok (.ireturn, 1) := by decide +kernel
theorem dX5_parse_65 : decode cX5_parse 65 = .ok (.aload_n 0, 1) := by decide +kernel
theorem dX5_parse_66 : decode cX5_parse 66 = .ok (.getfield 15, 3) := by decide +kernel
theorem dX5_parse_69 : decode cX5_parse 69 = .ok (.aload_n 0, 1) := by decide +kernel
theorem dX5_parse_70 : decode cX5_parse 70 = .ok (.getfield 25, 3) := by decide +kernel
theorem dX5_parse_73 : decode cX5_parse 73 = .ok (.iload_n 2, 1) := by decide +kernel
theorem dX5_parse_74 : decode cX5_parse 74 = .ok (.iastore, 1) := by decide +kernel
theorem dX5_parse_75 : decode cX5_parse 75 = .ok (.aload_n 0, 1) := by decide +kernel
theorem dX5_parse_76 : decode cX5_parse 76 = .ok (.getfield 18, 3) := by decide +kernel
theorem dX5_parse_79 : decode cX5_parse 79 = .ok (.aload_n 0, 1) := by decide +kernel
theorem dX5_parse_80 : decode cX5_parse 80 = .ok (.getfield 25, 3) := by decide +kernel
theorem dX5_parse_83 : decode cX5_parse 83 = .ok (.iload 4, 2) := by decide +kernel
theorem dX5_parse_85 : decode cX5_parse 85 = .ok (.iastore, 1) := by decide +kernel
theorem dX5_parse_86 : decode cX5_parse 86 = .ok (.aload_n 0, 1) := by decide +kernel
theorem dX5_parse_87 : decode cX5_parse 87 = .ok (.dup, 1) := by decide +kernel
theorem dX5_parse_88 : decode cX5_parse 88 = .ok (.getfield 25, 3) := by decide +kernel
theorem dX5_parse_91 : decode cX5_parse 91 = .ok (.iconst 1, 1) := by decide +kernel
theorem dX5_parse_92 : decode cX5_parse 92 = .ok (.iadd, 1) := by decide +kernel
theorem dX5_parse_93 : decode cX5_parse 93 = .ok (.putfield 25, 3) := by decide +kernel
theorem dX5_parse_96 : decode cX5_parse 96 = .ok (.iload_n 1, 1) := by decide +kernel
theorem dX5_parse_97 : decode cX5_parse 97 = .ok (.iconst 1, 1) := by decide +kernel
theorem dX5_parse_98 : decode cX5_parse 98 = .ok (.iload_n 3, 1) := by decide +kernel
theorem dX5_parse_99 : decode cX5_parse 99 = .ok (.iadd, 1) := by decide +kernel
theorem dX5_parse_100 : decode cX5_parse 100 = .ok (.iadd, 1) := by decide +kernel
theorem dX5_parse_101 : decode cX5_parse 101 = .ok (.istore_n 1, 1) := by decide +kernel
theorem dX5_parse_102 : decode cX5_parse 102 = .ok (.iload_n 1, 1) := by decide +kernel
theorem dX5_parse_103 : decode cX5_parse 103 = .ok (.aload_n 0, 1) := by decide +kernel
theorem dX5_parse_104 : decode cX5_parse 104 = .ok (.getfield 21, 3) := by decide +kernel
theorem dX5_parse_107 : decode cX5_parse 107 = .ok (.if_icmp .lt 5, 3) := by decide +kernel
theorem dX5_parse_110 : decode cX5_parse 110 = .ok (.iconst (-1), 1) := by decide +kernel
theorem dX5_parse_111 : decode cX5_parse 111 = .ok (.ireturn, 1) := by decide +kernel
theorem dX5_parse_112 : decode cX5_parse 112 = .ok (.aload_n 0, 1) := by decide +kernel
theorem dX5_parse_113 : decode cX5_parse 113 = .ok (.iload_n 1, 1) := by decide +kernel
theorem dX5_parse_114 : decode cX5_parse 114 = .ok (.invokevirtual 48, 3) := by decide +kernel
theorem dX5_parse_117 : decode cX5_parse 117 = .ok (.bipush 32, 2) := by decide +kernel
theorem dX5_parse_119 : decode cX5_parse 119 = .ok (.if_icmp .eq 5, 3) := by decide +kernel
theorem dX5_parse_122 : decode cX5_parse 122 = .ok (.iload_n 1, 1) := by decide +kernel
theorem dX5_parse_123 : decode cX5_parse 123 = .ok (.ireturn, 1) := by decide +kernel
theorem dX5_parse_124 : decode cX5_parse 124 = .ok (.iinc 1 1, 3) := by decide +kernel
theorem dX5_parse_127 : decode cX5_parse 127 = .ok (.goto (-120), 3) := by decide +kernel
theorem dX5_parse_130 : decode cX5_parse 130 = .ok (.iload_n 1, 1) := by decide +kernel
theorem dX5_parse_131 : decode cX5_parse 131 = .ok (.ireturn, 1) := by decide +kernel
theorem dX5_signAt_0 : decode cX5_signAt 0 = .ok (.iload_n 1, 1) := by decide +kernel
theorem dX5_signAt_1 : decode cX5_signAt 1 = .ok (.ifCond .lt 27, 3) := by decide +kernel
theorem dX5_signAt_4 : decode cX5_signAt 4 = .ok (.iload_n 1, 1) := by decide +kernel
theorem dX5_signAt_5 : decode cX5_signAt 5 = .ok (.aload_n 0, 1) := by decide +kernel
theorem dX5_signAt_6 : decode cX5_signAt 6 = .ok (.getfield 21, 3) := by decide +kernel
theorem dX5_signAt_9 : decode cX5_signAt 9 = .ok (.if_icmp .ge 19, 3) := by decide +kernel
theorem dX5_signAt_12 : decode cX5_signAt 12 = .ok (.iload_n 1, 1) := by decide +kernel
theorem dX5_signAt_13 : decode cX5_signAt 13 = .ok (.sipush 200, 3) := by decide +kernel
theorem dX5_signAt_16 : decode cX5_signAt 16 = .ok (.if_icmp .ge 12, 3) := by decide +kernel
theorem dX5_signAt_19 : decode cX5_signAt 19 = .ok (.aload_n 0, 1) := by decide +kernel
theorem dX5_signAt_20 : decode cX5_signAt 20 = .ok (.getfield 9, 3) := by decide +kernel
theorem dX5_signAt_23 : decode cX5_signAt 23 = .ok (.iload_n 1, 1) := by decide +kernel
theorem dX5_signAt_24 : decode cX5_signAt 24 = .ok (.iaload, 1) := by decide +kernel
theorem dX5_signAt_25 : decode cX5_signAt 25 = .ok (.goto 4, 3) := by decide +kernel
theorem dX5_signAt_28 : decode cX5_signAt 28 = .ok (.iconst (-1), 1) := by decide +kernel
theorem dX5_signAt_29 : decode cX5_signAt 29 = .ok (.ireturn, 1) := by decide +kernel
theorem dX5_digitsFrom_0 : decode cX5_digitsFrom 0 = .ok (.iconst 0, 1) := by decide +kernel
theorem dX5_digitsFrom_1 : decode cX5_digitsFrom 1 = .ok (.istore_n 2, 1) := by decide +kernel
theorem dX5_digitsFrom_2 : decode cX5_digitsFrom 2 = .ok (.iload_n 2, 1) := by decide +kernel
theorem dX5_digitsFrom_3 : decode cX5_digitsFrom 3 = .ok (.iconst 3, 1) := by decide +kernel
theorem dX5_digitsFrom_4 : decode cX5_digitsFrom 4 = .ok (.if_icmp .ge 22, 3) := by decide +kernel
theorem dX5_digitsFrom_7 : decode cX5_digitsFrom 7 = .ok (.aload_n 0, 1) := by decide +kernel
theorem dX5_digitsFrom_8 : decode cX5_digitsFrom 8 = .ok (.iload_n 1, 1) := by decide +kernel
theorem dX5_digitsFrom_9 : decode cX5_digitsFrom 9 = .ok (.iload_n 2, 1) := by decide +kernel
theorem dX5_digitsFrom_10 : decode cX5_digitsFrom 10 = .ok (.iadd, 1) := by decide +kernel
theorem dX5_digitsFrom_11 : decode cX5_digitsFrom 11 = .ok (.invokevirtual 48, 3) := by decide +kernel
theorem dX5_digitsFrom_14 : decode cX5_digitsFrom 14 = .ok (.invokestatic 62, 3) := by decide +kernel
theorem dX5_digitsFrom_17 : decode cX5_digitsFrom 17 = .ok (.ifCond .eq 9, 3) := by decide +kernel
theorem dX5_digitsFrom_20 : decode cX5_digitsFrom 20 = .ok (.iinc 2 1, 3) := by decide +kernel
theorem dX5_digitsFrom_23 : decode cX5_digitsFrom 23 = .ok (.goto (-21), 3) := by decide +kernel
theorem dX5_digitsFrom_26 : decode cX5_digitsFrom 26 = .ok (.iload_n 2, 1) := by decide +kernel
theorem dX5_digitsFrom_27 : decode cX5_digitsFrom 27 = .ok (.ireturn, 1) := by decide +kernel
theorem dX5_numberFrom_0 : decode cX5_numberFrom 0 = .ok (.iconst 0, 1) := by decide +kernel
theorem dX5_numberFrom_1 : decode cX5_numberFrom 1 = .ok (.istore_n 3, 1) := by decide +kernel
theorem dX5_numberFrom_2 : decode cX5_numberFrom 2 = .ok (.iconst 0, 1) := by decide +kernel
theorem dX5_numberFrom_3 : decode cX5_numberFrom 3 = .ok (.istore 4, 2) := by decide +kernel
theorem dX5_numberFrom_5 : decode cX5_numberFrom 5 = .ok (.iload 4, 2) := by decide +kernel
theorem dX5_numberFrom_7 : decode cX5_numberFrom 7 = .ok (.iload_n 2, 1) := by decide +kernel
theorem dX5_numberFrom_8 : decode cX5_numberFrom 8 = .ok (.if_icmp .ge 26, 3) := by decide +kernel
theorem dX5_numberFrom_11 : decode cX5_numberFrom 11 = .ok (.iload_n 3, 1) := by decide +kernel
theorem dX5_numberFrom_12 : decode cX5_numberFrom 12 = .ok (.bipush 10, 2) := by decide +kernel
theorem dX5_numberFrom_14 : decode cX5_numberFrom 14 = .ok (.imul, 1) := by decide +kernel
theorem dX5_numberFrom_15 : decode cX5_numberFrom 15 = .ok (.aload_n 0, 1) := by decide +kernel
theorem dX5_numberFrom_16 : decode cX5_numberFrom 16 = .ok (.iload_n 1, 1) := by decide +kernel
theorem dX5_numberFrom_17 : decode cX5_numberFrom 17 = .ok (.iload 4, 2) := by decide +kernel
theorem dX5_numberFrom_19 : decode cX5_numberFrom 19 = .ok (.iadd, 1) := by decide +kernel
theorem dX5_numberFrom_20 : decode cX5_numberFrom 20 = .ok (.invokevirtual 48, 3) := by decide +kernel
theorem dX5_numberFrom_23 : decode cX5_numberFrom 23 = .ok (.bipush 48, 2) := by decide +kernel
theorem dX5_numberFrom_25 : decode cX5_numberFrom 25 = .ok (.isub, 1) := by decide +kernel
theorem dX5_numberFrom_26 : decode cX5_numberFrom 26 = .ok (.iadd, 1) := by decide +kernel
theorem dX5_numberFrom_27 : decode cX5_numberFrom 27 = .ok (.istore_n 3, 1) := by decide +kernel
theorem dX5_numberFrom_28 : decode cX5_numberFrom 28 = .ok (.iinc 4 1, 3) := by decide +kernel
theorem dX5_numberFrom_31 : decode cX5_numberFrom 31 = .ok (.goto (-26), 3) := by decide +kernel
theorem dX5_numberFrom_34 : decode cX5_numberFrom 34 = .ok (.iload_n 3, 1) := by decide +kernel
theorem dX5_numberFrom_35 : decode cX5_numberFrom 35 = .ok (.ireturn, 1) := by decide +kernel
theorem dX5_isLetter_0 : decode cX5_isLetter 0 = .ok (.iload_n 0, 1) := by decide +kernel
theorem dX5_isLetter_1 : decode cX5_isLetter 1 = .ok (.ifCond .lt 17, 3) := by decide +kernel
theorem dX5_isLetter_4 : decode cX5_isLetter 4 = .ok (.ldc 65, 2) := by decide +kernel
theorem dX5_isLetter_6 : decode cX5_isLetter 6 = .ok (.iload_n 0, 1) := by decide +kernel
theorem dX5_isLetter_7 : decode cX5_isLetter 7 = .ok (.i2c, 1) := by decide +kernel
theorem dX5_isLetter_8 : decode cX5_isLetter 8 = .ok (.invokevirtual 67, 3) := by decide +kernel
theorem dX5_isLetter_11 : decode cX5_isLetter 11 = .ok (.ifCond .lt 7, 3) := by decide +kernel
theorem dX5_isLetter_14 : decode cX5_isLetter 14 = .ok (.iconst 1, 1) := by decide +kernel
theorem dX5_isLetter_15 : decode cX5_isLetter 15 = .ok (.goto 4, 3) := by decide +kernel
theorem dX5_isLetter_18 : decode cX5_isLetter 18 = .ok (.iconst 0, 1) := by decide +kernel
theorem dX5_isLetter_19 : decode cX5_isLetter 19 = .ok (.ireturn, 1) := by decide +kernel
theorem dX5_isDigit_0 : decode cX5_isDigit 0 = .ok (.iload_n 0, 1) := by decide +kernel
theorem dX5_isDigit_1 : decode cX5_isDigit 1 = .ok (.bipush 48, 2) := by decide +kernel
theorem dX5_isDigit_3 : decode cX5_isDigit 3 = .ok (.if_icmp .lt 13, 3) := by decide +kernel
theorem dX5_isDigit_6 : decode cX5_isDigit 6 = .ok (.iload_n 0, 1) := by decide +kernel
theorem dX5_isDigit_7 : decode cX5_isDigit 7 = .ok (.bipush 57, 2) := by decide +kernel
theorem dX5_isDigit_9 : decode cX5_isDigit 9 = .ok (.if_icmp .gt 7, 3) := by decide +kernel
theorem dX5_isDigit_12 : decode cX5_isDigit 12 = .ok (.iconst 1, 1) := by decide +kernel
theorem dX5_isDigit_13 : decode cX5_isDigit 13 = .ok (.goto 4, 3) := by decide +kernel
theorem dX5_isDigit_16 : decode cX5_isDigit 16 = .ok (.iconst 0, 1) := by decide +kernel
theorem dX5_isDigit_17 : decode cX5_isDigit 17 = .ok (.ireturn, 1) := by decide +kernel
theorem dX6_init_0 : decode cX6_init 0 = .ok (.aload_n 0, 1) := by decide +kernel
theorem dX6_init_1 : decode cX6_init 1 = .ok (.invokespecial 1, 3) := by decide +kernel
theorem dX6_init_4 : decode cX6_init 4 = .ok (.aload_n 0, 1) := by decide +kernel
theorem dX6_init_5 : decode cX6_init 5 = .ok (.new 7, 3) := by decide +kernel
theorem dX6_init_8 : decode cX6_init 8 = .ok (.dup, 1) := by decide +kernel
theorem dX6_init_9 : decode cX6_init 9 = .ok (.invokespecial 9, 3) := by decide +kernel
theorem dX6_init_12 : decode cX6_init 12 = .ok (.putfield 10, 3) := by decide +kernel
theorem dX6_init_15 : decode cX6_init 15 = .ok (.aload_n 0, 1) := by decide +kernel
theorem dX6_init_16 : decode cX6_init 16 = .ok (.new 16, 3) := by decide +kernel
theorem dX6_init_19 : decode cX6_init 19 = .ok (.dup, 1) := by decide +kernel
theorem dX6_init_20 : decode cX6_init 20 = .ok (.bipush 40, 2) := by decide +kernel
theorem dX6_init_22 : decode cX6_init 22 = .ok (.newarray .int, 2) := by decide +kernel
theorem dX6_init_24 : decode cX6_init 24 = .ok (.iconst 0, 1) := by decide +kernel
theorem dX6_init_25 : decode cX6_init 25 = .ok (.invokespecial 18, 3) := by decide +kernel
theorem dX6_init_28 : decode cX6_init 28 = .ok (.putfield 21, 3) := by decide +kernel
theorem dX6_init_31 : decode cX6_init 31 = .ok (.aload_n 0, 1) := by decide +kernel
theorem dX6_init_32 : decode cX6_init 32 = .ok (.bipush 10, 2) := by decide +kernel
theorem dX6_init_34 : decode cX6_init 34 = .ok (.anewarray 25, 3) := by decide +kernel
theorem dX6_init_37 : decode cX6_init 37 = .ok (.putfield 27, 3) := by decide +kernel
theorem dX6_init_40 : decode cX6_init 40 = .ok (.aload_n 0, 1) := by decide +kernel
theorem dX6_init_41 : decode cX6_init 41 = .ok (.bipush 60, 2) := by decide +kernel
theorem dX6_init_43 : decode cX6_init 43 = .ok (.anewarray 31, 3) := by decide +kernel
theorem dX6_init_46 : decode cX6_init 46 = .ok (.putfield 33, 3) := by decide +kernel
theorem dX6_init_49 : decode cX6_init 49 = .ok (.aload_n 0, 1) := by decide +kernel
theorem dX6_init_50 : decode cX6_init 50 = .ok (.iconst 0, 1) := by decide +kernel
theorem dX6_init_51 : decode cX6_init 51 = .ok (.putfield 37, 3) := by decide +kernel
theorem dX6_init_54 : decode cX6_init 54 = .ok (.aload_n 0, 1) := by decide +kernel
theorem dX6_init_55 : decode cX6_init 55 = .ok (.iconst 0, 1) := by decide +kernel
theorem dX6_init_56 : decode cX6_init 56 = .ok (.putfield 41, 3) := by decide +kernel
theorem dX6_init_59 : decode cX6_init 59 = .ok (.aload_n 0, 1) := by decide +kernel
theorem dX6_init_60 : decode cX6_init 60 = .ok (.iconst 0, 1) := by decide +kernel
theorem dX6_init_61 : decode cX6_init 61 = .ok (.putfield 44, 3) := by decide +kernel
theorem dX6_init_64 : decode cX6_init 64 = .ok (.aload_n 0, 1) := by decide +kernel
theorem dX6_init_65 : decode cX6_init 65 = .ok (.iconst (-1), 1) := by decide +kernel
theorem dX6_init_66 : decode cX6_init 66 = .ok (.putfield 47, 3) := by decide +kernel
theorem dX6_init_69 : decode cX6_init 69 = .ok (.aload_n 0, 1) := by decide +kernel
theorem dX6_init_70 : decode cX6_init 70 = .ok (.iconst 0, 1) := by decide +kernel
theorem dX6_init_71 : decode cX6_init 71 = .ok (.putfield 50, 3) := by decide +kernel
theorem dX6_init_74 : decode cX6_init 74 = .ok (.aload_n 0, 1) := by decide +kernel
theorem dX6_init_75 : decode cX6_init 75 = .ok (.new 53, 3) := by decide +kernel
theorem dX6_init_78 : decode cX6_init 78 = .ok (.dup, 1) := by decide +kernel
theorem dX6_init_79 : decode cX6_init 79 = .ok (.iconst 0, 1) := by decide +kernel
theorem dX6_init_80 : decode cX6_init 80 = .ok (.iload_n 1, 1) := by decide +kernel
theorem dX6_init_81 : decode cX6_init 81 = .ok (.sipush 2000, 3) := by decide +kernel
theorem dX6_init_84 : decode cX6_init 84 = .ok (.invokestatic 55, 3) := by decide +kernel
theorem dX6_init_87 : decode cX6_init 87 = .ok (.invokestatic 61, 3) := by decide +kernel
theorem dX6_init_90 : decode cX6_init 90 = .ok (.iconst 0, 1) := by decide +kernel
theorem dX6_init_91 : decode cX6_init 91 = .ok (.iload_n 2, 1) := by decide +kernel
theorem dX6_init_92 : decode cX6_init 92 = .ok (.bipush 32, 2) := by decide +kernel
theorem dX6_init_94 : decode cX6_init 94 = .ok (.invokestatic 55, 3) := by decide +kernel
theorem dX6_init_97 : decode cX6_init 97 = .ok (.invokestatic 61, 3) := by decide +kernel
theorem dX6_init_100 : decode cX6_init 100 = .ok (.newarray .int, 2) := by decide +kernel
theorem dX6_init_102 : decode cX6_init 102 = .ok (.invokespecial 64, 3) := by decide +kernel
theorem dX6_init_105 : decode cX6_init 105 = .ok (.putfield 67, 3) := by decide +kernel
theorem dX6_init_108 : decode cX6_init 108 = .ok (.return_, 1) := by decide +kernel
theorem dX6_sign_0 : decode cX6_sign 0 = .ok (.aload_n 0, 1) := by decide +kernel
theorem dX6_sign_1 : decode cX6_sign 1 = .ok (.getfield 10, 3) := by decide +kernel
theorem dX6_sign_4 : decode cX6_sign 4 = .ok (.iload_n 1, 1) := by decide +kernel
theorem dX6_sign_5 : decode cX6_sign 5 = .ok (.sipush 255, 3) := by decide +kernel
theorem dX6_sign_8 : decode cX6_sign 8 = .ok (.iand, 1) := by decide +kernel
theorem dX6_sign_9 : decode cX6_sign 9 = .ok (.invokevirtual 71, 3) := by decide +kernel
theorem dX6_sign_12 : decode cX6_sign 12 = .ok (.return_, 1) := by decide +kernel
theorem dX6_read_0 : decode cX6_read 0 = .ok (.aload_n 0, 1) := by decide +kernel
theorem dX6_read_1 : decode cX6_read 1 = .ok (.aload_n 0, 1) := by decide +kernel
theorem dX6_read_2 : decode cX6_read 2 = .ok (.getfield 10, 3) := by decide +kernel
theorem dX6_read_5 : decode cX6_read 5 = .ok (.invokevirtual 75, 3) := by decide +kernel
theorem dX6_read_8 : decode cX6_read 8 = .ok (.putfield 47, 3) := by decide +kernel
theorem dX6_read_11 : decode cX6_read 11 = .ok (.aload_n 0, 1) := by decide +kernel
theorem dX6_read_12 : decode cX6_read 12 = .ok (.getfield 10, 3) := by decide +kernel
theorem dX6_read_15 : decode cX6_read 15 = .ok (.invokevirtual 79, 3) := by decide +kernel
theorem dX6_read_18 : decode cX6_read 18 = .ok (.aload_n 0, 1) := by decide +kernel
theorem dX6_read_19 : decode cX6_read 19 = .ok (.getfield 47, 3) := by decide +kernel
theorem dX6_read_22 : decode cX6_read 22 = .ok (.iconst (-1), 1) := by decide +kernel
theorem dX6_read_23 : decode cX6_read 23 = .ok (.if_icmp .eq 13, 3) := by decide +kernel
theorem dX6_read_26 : decode cX6_read 26 = .ok (.new 82, 3) := by decide +kernel
theorem dX6_read_29 : decode cX6_read 29 = .ok (.dup, 1) := by decide +kernel
theorem dX6_read_30 : decode cX6_read 30 = .ok (.ldc 84, 2) := by decide +kernel
theorem dX6_read_32 : decode cX6_read 32 = .ok (.invokespecial 86, 3) := by decide +kernel
theorem dX6_read_35 : decode cX6_read 35 = .ok (.athrow, 1) := by decide +kernel
theorem dX6_read_36 : decode cX6_read 36 = .ok (.aload_n 0, 1) := by decide +kernel
theorem dX6_read_37 : decode cX6_read 37 = .ok (.getfield 37, 3) := by decide +kernel
theorem dX6_read_40 : decode cX6_read 40 = .ok (.bipush 10, 2) := by decide +kernel
theorem dX6_read_42 : decode cX6_read 42 = .ok (.if_icmp .lt 6, 3) := by decide +kernel
theorem dX6_read_45 : decode cX6_read 45 = .ok (.bipush (-4), 2) := by decide +kernel
theorem dX6_read_47 : decode cX6_read 47 = .ok (.ireturn, 1) := by decide +kernel
theorem dX6_read_48 : decode cX6_read 48 = .ok (.aload_n 0, 1) := by decide +kernel
theorem dX6_read_49 : decode cX6_read 49 = .ok (.getfield 27, 3) := by decide +kernel
theorem dX6_read_52 : decode cX6_read 52 = .ok (.aload_n 0, 1) := by decide +kernel
theorem dX6_read_53 : decode cX6_read 53 = .ok (.getfield 37, 3) := by decide +kernel
theorem dX6_read_56 : decode cX6_read 56 = .ok (.aload_n 0, 1) := by decide +kernel
theorem dX6_read_57 : decode cX6_read 57 = .ok (.getfield 10, 3) := by decide +kernel
theorem dX6_read_60 : decode cX6_read 60 = .ok (.invokevirtual 89, 3) := by decide +kernel
theorem dX6_read_63 : decode cX6_read 63 = .ok (.aastore, 1) := by decide +kernel
theorem dX6_read_64 : decode cX6_read 64 = .ok (.aload_n 0, 1) := by decide +kernel
theorem dX6_read_65 : decode cX6_read 65 = .ok (.dup, 1) := by decide +kernel
theorem dX6_read_66 : decode cX6_read 66 = .ok (.getfield 37, 3) := by decide +kernel
theorem dX6_read_69 : decode cX6_read 69 = .ok (.iconst 1, 1) := by decide +kernel
theorem dX6_read_70 : decode cX6_read 70 = .ok (.iadd, 1) := by decide +kernel
theorem dX6_read_71 : decode cX6_read 71 = .ok (.putfield 37, 3) := by decide +kernel
theorem dX6_read_74 : decode cX6_read 74 = .ok (.aload_n 0, 1) := by decide +kernel
theorem dX6_read_75 : decode cX6_read 75 = .ok (.getfield 37, 3) := by decide +kernel
theorem dX6_read_78 : decode cX6_read 78 = .ok (.iconst 1, 1) := by decide +kernel
theorem dX6_read_79 : decode cX6_read 79 = .ok (.isub, 1) := by decide +kernel
theorem dX6_read_80 : decode cX6_read 80 = .ok (.ireturn, 1) := by decide +kernel
theorem dX6_place_0 : decode cX6_place 0 = .ok (.aload_n 0, 1) := by decide +kernel
theorem dX6_place_1 : decode cX6_place 1 = .ok (.getfield 47, 3) := by decide +kernel
theorem dX6_place_4 : decode cX6_place 4 = .ok (.ireturn, 1) := by decide +kernel
theorem dX6_octet_0 : decode cX6_octet 0 = .ok (.aload_n 0, 1) := by decide +kernel
theorem dX6_octet_1 : decode cX6_octet 1 = .ok (.getfield 21, 3) := by decide +kernel
theorem dX6_octet_4 : decode cX6_octet 4 = .ok (.iload_n 1, 1) := by decide +kernel
theorem dX6_octet_5 : decode cX6_octet 5 = .ok (.sipush 255, 3) := by decide +kernel
theorem dX6_octet_8 : decode cX6_octet 8 = .ok (.iand, 1) := by decide +kernel
theorem dX6_octet_9 : decode cX6_octet 9 = .ok (.invokevirtual 93, 3) := by decide +kernel
theorem dX6_octet_12 : decode cX6_octet 12 = .ok (.pop, 1) := by decide +kernel
theorem dX6_octet_13 : decode cX6_octet 13 = .ok (.return_, 1) := by decide +kernel
theorem dX6_original_0 : decode cX6_original 0 = .ok (.aload_n 0, 1) := by decide +kernel
theorem dX6_original_1 : decode cX6_original 1 = .ok (.getfield 41, 3) := by decide +kernel
theorem dX6_original_4 : decode cX6_original 4 = .ok (.bipush 60, 2) := by decide +kernel
theorem dX6_original_6 : decode cX6_original 6 = .ok (.if_icmp .lt 6, 3) := by decide +kernel
theorem dX6_original_9 : decode cX6_original 9 = .ok (.bipush (-4), 2) := by decide +kernel
theorem dX6_original_11 : decode cX6_original 11 = .ok (.ireturn, 1) := by decide +kernel
theorem dX6_original_12 : decode cX6_original 12 = .ok (.aload_n 0, 1) := by decide +kernel
theorem dX6_original_13 : decode cX6_original 13 = .ok (.new 31, 3) := by decide +kernel
theorem dX6_original_16 : decode cX6_original 16 = .ok (.dup, 1) := by decide +kernel
theorem dX6_original_17 : decode cX6_original 17 = .ok (.aload_n 0, 1) := by decide +kernel
theorem dX6_original_18 : decode cX6_original 18 = .ok (.getfield 21, 3) := by decide +kernel
theorem dX6_original_21 : decode cX6_original 21 = .ok (.invokevirtual 96, 3) := by decide +kernel
theorem dX6_original_24 : decode cX6_original 24 = .ok (.iconst (-1), 1) := by decide +kernel
theorem dX6_original_25 : decode cX6_original 25 = .ok (.iconst (-1), 1) := by decide +kernel
theorem dX6_original_26 : decode cX6_original 26 = .ok (.aload_n 0, 1) := by decide +kernel
theorem dX6_original_27 : decode cX6_original 27 = .ok (.getfield 41, 3) := by decide +kernel
theorem dX6_original_30 : decode cX6_original 30 = .ok (.invokespecial 100, 3) := by decide +kernel
theorem dX6_original_33 : decode cX6_original 33 = .ok (.invokevirtual 103, 3) := by decide +kernel
theorem dX6_original_36 : decode cX6_original 36 = .ok (.istore_n 1, 1) := by decide +kernel
theorem dX6_original_37 : decode cX6_original 37 = .ok (.aload_n 0, 1) := by decide +kernel
theorem dX6_original_38 : decode cX6_original 38 = .ok (.getfield 21, 3) := by decide +kernel
theorem dX6_original_41 : decode cX6_original 41 = .ok (.invokevirtual 107, 3) := by decide +kernel
theorem dX6_original_44 : decode cX6_original 44 = .ok (.iload_n 1, 1) := by decide +kernel
theorem dX6_original_45 : decode cX6_original 45 = .ok (.ireturn, 1) := by decide +kernel
theorem dX6_check_0 : decode cX6_check 0 = .ok (.aload_n 0, 1) := by decide +kernel
theorem dX6_check_1 : decode cX6_check 1 = .ok (.iload_n 1, 1) := by decide +kernel
theorem dX6_check_2 : decode cX6_check 2 = .ok (.invokevirtual 108, 3) := by decide +kernel
theorem dX6_check_5 : decode cX6_check 5 = .ok (.astore 5, 2) := by decide +kernel
theorem dX6_check_7 : decode cX6_check 7 = .ok (.aload 5, 2) := by decide +kernel
theorem dX6_check_9 : decode cX6_check 9 = .ok (.ifnonnull 5, 3) := by decide +kernel
theorem dX6_check_12 : decode cX6_check 12 = .ok (.iconst (-1), 1) := by decide +kernel
theorem dX6_check_13 : decode cX6_check 13 = .ok (.ireturn, 1) := by decide +kernel
theorem dX6_check_14 : decode cX6_check 14 = .ok (.iload_n 3, 1) := by decide +kernel
theorem dX6_check_15 : decode cX6_check 15 = .ok (.ifCond .lt 21, 3) := by decide +kernel
theorem dX6_check_18 : decode cX6_check 18 = .ok (.iload_n 3, 1) := by decide +kernel
theorem dX6_check_19 : decode cX6_check 19 = .ok (.iconst 3, 1) := by decide +kernel
theorem dX6_check_20 : decode cX6_check 20 = .ok (.if_icmp .gt 16, 3) := by decide +kernel
theorem dX6_check_23 : decode cX6_check 23 = .ok (.iload 4, 2) := by decide +kernel
theorem dX6_check_25 : decode cX6_check 25 = .ok (.ifCond .lt 11, 3) := by decide +kernel
theorem dX6_check_28 : decode cX6_check 28 = .ok (.iload 4, 2) := by decide +kernel
theorem dX6_check_30 : decode cX6_check 30 = .ok (.sipush 255, 3) := by decide +kernel
theorem dX6_check_33 : decode cX6_check 33 = .ok (.if_icmp .le 6, 3) := by decide +kernel
theorem dX6_check_36 : decode cX6_check 36 = .ok (.bipush (-2), 2) := by decide +kernel
theorem dX6_check_38 : decode cX6_check 38 = .ok (.ireturn, 1) := by decide +kernel
theorem dX6_check_39 : decode cX6_check 39 = .ok (.iload_n 2, 1) := by decide +kernel
theorem dX6_check_40 : decode cX6_check 40 = .ok (.ifCond .eq 17, 3) := by decide +kernel
theorem dX6_check_43 : decode cX6_check 43 = .ok (.aload 5, 2) := by decide +kernel
theorem dX6_check_45 : decode cX6_check 45 = .ok (.getfield 112, 3) := by decide +kernel
theorem dX6_check_48 : decode cX6_check 48 = .ok (.iload_n 3, 1) := by decide +kernel
theorem dX6_check_49 : decode cX6_check 49 = .ok (.iload 4, 2) := by decide +kernel
theorem dX6_check_51 : decode cX6_check 51 = .ok (.invokevirtual 116, 3) := by decide +kernel
theorem dX6_check_54 : decode cX6_check 54 = .ok (.goto 14, 3) := by decide +kernel
theorem dX6_check_57 : decode cX6_check 57 = .ok (.aload 5, 2) := by decide +kernel
theorem dX6_check_59 : decode cX6_check 59 = .ok (.getfield 120, 3) := by decide +kernel
theorem dX6_check_62 : decode cX6_check 62 = .ok (.iload_n 3, 1) := by decide +kernel
theorem dX6_check_63 : decode cX6_check 63 = .ok (.iload 4, 2) := by decide +kernel
theorem dX6_check_65 : decode cX6_check 65 = .ok (.invokevirtual 116, 3) := by decide +kernel
theorem dX6_check_68 : decode cX6_check 68 = .ok (.ireturn, 1) := by decide +kernel
theorem dX6_migrate_0 : decode cX6_migrate 0 = .ok (.aload_n 0, 1) := by decide +kernel
theorem dX6_migrate_1 : decode cX6_migrate 1 = .ok (.iload_n 1, 1) := by decide +kernel
theorem dX6_migrate_2 : decode cX6_migrate 2 = .ok (.invokevirtual 123, 3) := by decide +kernel
theorem dX6_migrate_5 : decode cX6_migrate 5 = .ok (.ifnull 11, 3) := by decide +kernel
theorem dX6_migrate_8 : decode cX6_migrate 8 = .ok (.aload_n 0, 1) := by decide +kernel
theorem dX6_migrate_9 : decode cX6_migrate 9 = .ok (.iload_n 2, 1) := by decide +kernel
theorem dX6_migrate_10 : decode cX6_migrate 10 = .ok (.invokevirtual 108, 3) := by decide +kernel
theorem dX6_migrate_13 : decode cX6_migrate 13 = .ok (.ifnonnull 5, 3) := by decide +kernel
theorem dX6_migrate_16 : decode cX6_migrate 16 = .ok (.iconst (-1), 1) := by decide +kernel
theorem dX6_migrate_17 : decode cX6_migrate 17 = .ok (.ireturn, 1) := by decide +kernel
theorem dX6_migrate_18 : decode cX6_migrate 18 = .ok (.aload_n 0, 1) := by decide +kernel
theorem dX6_migrate_19 : decode cX6_migrate 19 = .ok (.iload_n 1, 1) := by decide +kernel
theorem dX6_migrate_20 : decode cX6_migrate 20 = .ok (.iload_n 2, 1) := by decide +kernel
theorem dX6_migrate_21 : decode cX6_migrate 21 = .ok (.invokevirtual 127, 3) := by decide +kernel
theorem dX6_migrate_24 : decode cX6_migrate 24 = .ok (.istore_n 3, 1) := by decide +kernel
theorem dX6_migrate_25 : decode cX6_migrate 25 = .ok (.aload_n 0, 1) := by decide +kernel
theorem dX6_migrate_26 : decode cX6_migrate 26 = .ok (.iload_n 3, 1) := by decide +kernel
theorem dX6_migrate_27 : decode cX6_migrate 27 = .ok (.invokestatic 130, 3) := by decide +kernel
theorem dX6_migrate_30 : decode cX6_migrate 30 = .ok (.putfield 50, 3) := by decide +kernel
theorem dX6_migrate_33 : decode cX6_migrate 33 = .ok (.iload_n 3, 1) := by decide +kernel
theorem dX6_migrate_34 : decode cX6_migrate 34 = .ok (.ireturn, 1) := by decide +kernel
theorem dX6_chain_0 : decode cX6_chain 0 = .ok (.aload_n 0, 1) := by decide +kernel
theorem dX6_chain_1 : decode cX6_chain 1 = .ok (.iload_n 1, 1) := by decide +kernel
theorem dX6_chain_2 : decode cX6_chain 2 = .ok (.invokevirtual 108, 3) := by decide +kernel
theorem dX6_chain_5 : decode cX6_chain 5 = .ok (.astore_n 3, 1) := by decide +kernel
theorem dX6_chain_6 : decode cX6_chain 6 = .ok (.aload_n 3, 1) := by decide +kernel
theorem dX6_chain_7 : decode cX6_chain 7 = .ok (.ifnull 16, 3) := by decide +kernel
theorem dX6_chain_10 : decode cX6_chain 10 = .ok (.iload_n 2, 1) := by decide +kernel
theorem dX6_chain_11 : decode cX6_chain 11 = .ok (.iconst (-1), 1) := by decide +kernel
theorem dX6_chain_12 : decode cX6_chain 12 = .ok (.if_icmp .eq 13, 3) := by decide +kernel
theorem dX6_chain_15 : decode cX6_chain 15 = .ok (.aload_n 0, 1) := by decide +kernel
theorem dX6_chain_16 : decode cX6_chain 16 = .ok (.iload_n 2, 1) := by decide +kernel
theorem dX6_chain_17 : decode cX6_chain 17 = .ok (.invokevirtual 108, 3) := by decide +kernel
theorem dX6_chain_20 : decode cX6_chain 20 = .ok (.ifnonnull 5, 3) := by decide +kernel
theorem dX6_chain_23 : decode cX6_chain 23 = .ok (.iconst (-1), 1) := by decide +kernel
theorem dX6_chain_24 : decode cX6_chain 24 = .ok (.ireturn, 1) := by decide +kernel
theorem dX6_chain_25 : decode cX6_chain 25 = .ok (.aload_n 0, 1) := by decide +kernel
theorem dX6_chain_26 : decode cX6_chain 26 = .ok (.iload_n 2, 1) := by decide +kernel
theorem dX6_chain_27 : decode cX6_chain 27 = .ok (.iload_n 1, 1) := by decide +kernel
theorem dX6_chain_28 : decode cX6_chain 28 = .ok (.invokevirtual 134, 3) := by decide +kernel
theorem dX6_chain_31 : decode cX6_chain 31 = .ok (.ifCond .eq 6, 3) := by decide +kernel
theorem dX6_chain_34 : decode cX6_chain 34 = .ok (.bipush (-3), 2) := by decide +kernel
theorem dX6_chain_36 : decode cX6_chain 36 = .ok (.ireturn, 1) := by decide +kernel
theorem dX6_chain_37 : decode cX6_chain 37 = .ok (.aload_n 3, 1) := by decide +kernel
theorem dX6_chain_38 : decode cX6_chain 38 = .ok (.iload_n 2, 1) := by decide +kernel
theorem dX6_chain_39 : decode cX6_chain 39 = .ok (.putfield 138, 3) := by decide +kernel
theorem dX6_chain_42 : decode cX6_chain 42 = .ok (.iconst 1, 1) := by decide +kernel
theorem dX6_chain_43 : decode cX6_chain 43 = .ok (.ireturn, 1) := by decide +kernel
theorem dX6_goesOn_0 : decode cX6_goesOn 0 = .ok (.aload_n 0, 1) := by decide +kernel
theorem dX6_goesOn_1 : decode cX6_goesOn 1 = .ok (.iload_n 1, 1) := by decide +kernel
theorem dX6_goesOn_2 : decode cX6_goesOn 2 = .ok (.invokevirtual 123, 3) := by decide +kernel
theorem dX6_goesOn_5 : decode cX6_goesOn 5 = .ok (.ifnull 11, 3) := by decide +kernel
theorem dX6_goesOn_8 : decode cX6_goesOn 8 = .ok (.aload_n 0, 1) := by decide +kernel
theorem dX6_goesOn_9 : decode cX6_goesOn 9 = .ok (.iload_n 2, 1) := by decide +kernel
theorem dX6_goesOn_10 : decode cX6_goesOn 10 = .ok (.invokevirtual 108, 3) := by decide +kernel
theorem dX6_goesOn_13 : decode cX6_goesOn 13 = .ok (.ifnonnull 5, 3) := by decide +kernel
theorem dX6_goesOn_16 : decode cX6_goesOn 16 = .ok (.iconst (-1), 1) := by decide +kernel
theorem dX6_goesOn_17 : decode cX6_goesOn 17 = .ok (.ireturn, 1) := by decide +kernel
theorem dX6_goesOn_18 : decode cX6_goesOn 18 = .ok (.iconst 0, 1) := by decide +kernel
theorem dX6_goesOn_19 : decode cX6_goesOn 19 = .ok (.istore_n 3, 1) := by decide +kernel
theorem dX6_goesOn_20 : decode cX6_goesOn 20 = .ok (.iload_n 1, 1) := by decide +kernel
theorem dX6_goesOn_21 : decode cX6_goesOn 21 = .ok (.istore 4, 2) := by decide +kernel
theorem dX6_goesOn_23 : decode cX6_goesOn 23 = .ok (.iload_n 2, 1) := by decide +kernel
theorem dX6_goesOn_24 : decode cX6_goesOn 24 = .ok (.istore 5, 2) := by decide +kernel
theorem dX6_goesOn_26 : decode cX6_goesOn 26 = .ok (.iconst 0, 1) := by decide +kernel
theorem dX6_goesOn_27 : decode cX6_goesOn 27 = .ok (.istore 6, 2) := by decide +kernel
theorem dX6_goesOn_29 : decode cX6_goesOn 29 = .ok (.iload 6, 2) := by decide +kernel
theorem dX6_goesOn_31 : decode cX6_goesOn 31 = .ok (.bipush 10, 2) := by decide +kernel
theorem dX6_goesOn_33 : decode cX6_goesOn 33 = .ok (.if_icmp .ge 53, 3) := by decide +kernel
theorem dX6_goesOn_36 : decode cX6_goesOn 36 = .ok (.iload 5, 2) := by decide +kernel
theorem dX6_goesOn_38 : decode cX6_goesOn 38 = .ok (.iconst (-1), 1) := by decide +kernel
theorem dX6_goesOn_39 : decode cX6_goesOn 39 = .ok (.if_icmp .eq 47, 3) := by decide +kernel
theorem dX6_goesOn_42 : decode cX6_goesOn 42 = .ok (.aload_n 0, 1) := by decide +kernel
theorem dX6_goesOn_43 : decode cX6_goesOn 43 = .ok (.iload 4, 2) := by decide +kernel
theorem dX6_goesOn_45 : decode cX6_goesOn 45 = .ok (.iload 5, 2) := by decide +kernel
theorem dX6_goesOn_47 : decode cX6_goesOn 47 = .ok (.invokevirtual 127, 3) := by decide +kernel
theorem dX6_goesOn_50 : decode cX6_goesOn 50 = .ok (.istore 4, 2) := by decide +kernel
theorem dX6_goesOn_52 : decode cX6_goesOn 52 = .ok (.aload_n 0, 1) := by decide +kernel
theorem dX6_goesOn_53 : decode cX6_goesOn 53 = .ok (.iload 4, 2) := by decide +kernel
theorem dX6_goesOn_55 : decode cX6_goesOn 55 = .ok (.invokestatic 130, 3) := by decide +kernel
theorem dX6_goesOn_58 : decode cX6_goesOn 58 = .ok (.putfield 50, 3) := by decide +kernel
theorem dX6_goesOn_61 : decode cX6_goesOn 61 = .ok (.iload 4, 2) := by decide +kernel
theorem dX6_goesOn_63 : decode cX6_goesOn 63 = .ok (.ifCond .ge 6, 3) := by decide +kernel
theorem dX6_goesOn_66 : decode cX6_goesOn 66 = .ok (.goto 20, 3) := by decide +kernel
theorem dX6_goesOn_69 : decode cX6_goesOn 69 = .ok (.iinc 3 1, 3) := by decide +kernel
theorem dX6_goesOn_72 : decode cX6_goesOn 72 = .ok (.aload_n 0, 1) := by decide +kernel
theorem dX6_goesOn_73 : decode cX6_goesOn 73 = .ok (.iload 5, 2) := by decide +kernel
theorem dX6_goesOn_75 : decode cX6_goesOn 75 = .ok (.invokevirtual 141, 3) := by decide +kernel
theorem dX6_goesOn_78 : decode cX6_goesOn 78 = .ok (.istore 5, 2) := by decide +kernel
theorem dX6_goesOn_80 : decode cX6_goesOn 80 = .ok (.iinc 6 1, 3) := by decide +kernel
theorem dX6_goesOn_83 : decode cX6_goesOn 83 = .ok (.goto (-54), 3) := by decide +kernel
theorem dX6_goesOn_86 : decode cX6_goesOn 86 = .ok (.iload_n 3, 1) := by decide +kernel
theorem dX6_goesOn_87 : decode cX6_goesOn 87 = .ok (.ireturn, 1) := by decide +kernel
theorem dX6_what_0 : decode cX6_what 0 = .ok (.aload_n 0, 1) := by decide +kernel
theorem dX6_what_1 : decode cX6_what 1 = .ok (.getfield 50, 3) := by decide +kernel
theorem dX6_what_4 : decode cX6_what 4 = .ok (.ireturn, 1) := by decide +kernel
theorem dX6_failed_0 : decode cX6_failed 0 = .ok (.aload_n 0, 1) := by decide +kernel
theorem dX6_failed_1 : decode cX6_failed 1 = .ok (.getfield 67, 3) := by decide +kernel
theorem dX6_failed_4 : decode cX6_failed 4 = .ok (.getfield 144, 3) := by decide +kernel
theorem dX6_failed_7 : decode cX6_failed 7 = .ok (.ireturn, 1) := by decide +kernel
theorem dX6_counted_0 : decode cX6_counted 0 = .ok (.aload_n 0, 1) := by decide +kernel
theorem dX6_counted_1 : decode cX6_counted 1 = .ok (.getfield 67, 3) := by decide +kernel
theorem dX6_counted_4 : decode cX6_counted 4 = .ok (.getfield 147, 3) := by decide +kernel
theorem dX6_counted_7 : decode cX6_counted 7 = .ok (.lreturn, 1) := by decide +kernel
theorem dX6_batch_0 : decode cX6_batch 0 = .ok (.aload_n 0, 1) := by decide +kernel
theorem dX6_batch_1 : decode cX6_batch 1 = .ok (.iload_n 1, 1) := by decide +kernel
theorem dX6_batch_2 : decode cX6_batch 2 = .ok (.invokevirtual 108, 3) := by decide +kernel
theorem dX6_batch_5 : decode cX6_batch 5 = .ok (.ifnonnull 5, 3) := by decide +kernel
theorem dX6_batch_8 : decode cX6_batch 8 = .ok (.iconst (-1), 1) := by decide +kernel
theorem dX6_batch_9 : decode cX6_batch 9 = .ok (.ireturn, 1) := by decide +kernel
theorem dX6_batch_10 : decode cX6_batch 10 = .ok (.iconst 0, 1) := by decide +kernel
theorem dX6_batch_11 : decode cX6_batch 11 = .ok (.istore_n 2, 1) := by decide +kernel
theorem dX6_batch_12 : decode cX6_batch 12 = .ok (.aload_n 0, 1) := by decide +kernel
theorem dX6_batch_13 : decode cX6_batch 13 = .ok (.getfield 41, 3) := by decide +kernel
theorem dX6_batch_16 : decode cX6_batch 16 = .ok (.istore_n 3, 1) := by decide +kernel
theorem dX6_batch_17 : decode cX6_batch 17 = .ok (.iconst 0, 1) := by decide +kernel
theorem dX6_batch_18 : decode cX6_batch 18 = .ok (.istore 4, 2) := by decide +kernel
theorem dX6_batch_20 : decode cX6_batch 20 = .ok (.iload 4, 2) := by decide +kernel
theorem dX6_batch_22 : decode cX6_batch 22 = .ok (.iload_n 3, 1) := by decide +kernel
theorem dX6_batch_23 : decode cX6_batch 23 = .ok (.if_icmp .ge 35, 3) := by decide +kernel
theorem dX6_batch_26 : decode cX6_batch 26 = .ok (.aload_n 0, 1) := by decide +kernel
theorem dX6_batch_27 : decode cX6_batch 27 = .ok (.iload 4, 2) := by decide +kernel
theorem dX6_batch_29 : decode cX6_batch 29 = .ok (.invokevirtual 151, 3) := by decide +kernel
theorem dX6_batch_32 : decode cX6_batch 32 = .ok (.ifCond .eq 20, 3) := by decide +kernel
theorem dX6_batch_35 : decode cX6_batch 35 = .ok (.aload_n 0, 1) := by decide +kernel
theorem dX6_batch_36 : decode cX6_batch 36 = .ok (.aload_n 0, 1) := by decide +kernel
theorem dX6_batch_37 : decode cX6_batch 37 = .ok (.iload 4, 2) := by decide +kernel
theorem dX6_batch_39 : decode cX6_batch 39 = .ok (.iload_n 1, 1) := by decide +kernel
theorem dX6_batch_40 : decode cX6_batch 40 = .ok (.invokevirtual 127, 3) := by decide +kernel
theorem dX6_batch_43 : decode cX6_batch 43 = .ok (.invokevirtual 154, 3) := by decide +kernel
theorem dX6_batch_46 : decode cX6_batch 46 = .ok (.ifCond .eq 6, 3) := by decide +kernel
theorem dX6_batch_49 : decode cX6_batch 49 = .ok (.iinc 2 1, 3) := by decide +kernel
theorem dX6_batch_52 : decode cX6_batch 52 = .ok (.iinc 4 1, 3) := by decide +kernel
theorem dX6_batch_55 : decode cX6_batch 55 = .ok (.goto (-35), 3) := by decide +kernel
theorem dX6_batch_58 : decode cX6_batch 58 = .ok (.iload_n 2, 1) := by decide +kernel
theorem dX6_batch_59 : decode cX6_batch 59 = .ok (.ifCond .le 13, 3) := by decide +kernel
theorem dX6_batch_62 : decode cX6_batch 62 = .ok (.aload_n 0, 1) := by decide +kernel
theorem dX6_batch_63 : decode cX6_batch 63 = .ok (.dup, 1) := by decide +kernel
theorem dX6_batch_64 : decode cX6_batch 64 = .ok (.getfield 44, 3) := by decide +kernel
theorem dX6_batch_67 : decode cX6_batch 67 = .ok (.iconst 1, 1) := by decide +kernel
theorem dX6_batch_68 : decode cX6_batch 68 = .ok (.iadd, 1) := by decide +kernel
theorem dX6_batch_69 : decode cX6_batch 69 = .ok (.putfield 44, 3) := by decide +kernel
theorem dX6_batch_72 : decode cX6_batch 72 = .ok (.iload_n 2, 1) := by decide +kernel
theorem dX6_batch_73 : decode cX6_batch 73 = .ok (.ireturn, 1) := by decide +kernel
theorem dX6_undo_0 : decode cX6_undo 0 = .ok (.aload_n 0, 1) := by decide +kernel
theorem dX6_undo_1 : decode cX6_undo 1 = .ok (.getfield 44, 3) := by decide +kernel
theorem dX6_undo_4 : decode cX6_undo 4 = .ok (.ifCond .ne 5, 3) := by decide +kernel
theorem dX6_undo_7 : decode cX6_undo 7 = .ok (.iconst (-1), 1) := by decide +kernel
theorem dX6_undo_8 : decode cX6_undo 8 = .ok (.ireturn, 1) := by decide +kernel
theorem dX6_undo_9 : decode cX6_undo 9 = .ok (.aload_n 0, 1) := by decide +kernel
theorem dX6_undo_10 : decode cX6_undo 10 = .ok (.dup, 1) := by decide +kernel
theorem dX6_undo_11 : decode cX6_undo 11 = .ok (.getfield 44, 3) := by decide +kernel
theorem dX6_undo_14 : decode cX6_undo 14 = .ok (.iconst 1, 1) := by decide +kernel
theorem dX6_undo_15 : decode cX6_undo 15 = .ok (.isub, 1) := by decide +kernel
theorem dX6_undo_16 : decode cX6_undo 16 = .ok (.putfield 44, 3) := by decide +kernel
theorem dX6_undo_19 : decode cX6_undo 19 = .ok (.iconst 0, 1) := by decide +kernel
theorem dX6_undo_20 : decode cX6_undo 20 = .ok (.istore_n 1, 1) := by decide +kernel
theorem dX6_undo_21 : decode cX6_undo 21 = .ok (.aload_n 0, 1) := by decide +kernel
theorem dX6_undo_22 : decode cX6_undo 22 = .ok (.getfield 41, 3) := by decide +kernel
theorem dX6_undo_25 : decode cX6_undo 25 = .ok (.iconst 1, 1) := by decide +kernel
theorem dX6_undo_26 : decode cX6_undo 26 = .ok (.isub, 1) := by decide +kernel
theorem dX6_undo_27 : decode cX6_undo 27 = .ok (.istore_n 2, 1) := by decide +kernel
theorem dX6_undo_28 : decode cX6_undo 28 = .ok (.iload_n 2, 1) := by decide +kernel
theorem dX6_undo_29 : decode cX6_undo 29 = .ok (.ifCond .lt 33, 3) := by decide +kernel
theorem dX6_undo_32 : decode cX6_undo 32 = .ok (.aload_n 0, 1) := by decide +kernel
theorem dX6_undo_33 : decode cX6_undo 33 = .ok (.iload_n 2, 1) := by decide +kernel
theorem dX6_undo_34 : decode cX6_undo 34 = .ok (.invokevirtual 157, 3) := by decide +kernel
theorem dX6_undo_37 : decode cX6_undo 37 = .ok (.ifCond .eq 19, 3) := by decide +kernel
theorem dX6_undo_40 : decode cX6_undo 40 = .ok (.aload_n 0, 1) := by decide +kernel
theorem dX6_undo_41 : decode cX6_undo 41 = .ok (.iload_n 2, 1) := by decide +kernel
theorem dX6_undo_42 : decode cX6_undo 42 = .ok (.invokevirtual 160, 3) := by decide +kernel
theorem dX6_undo_45 : decode cX6_undo 45 = .ok (.ifCond .ne 11, 3) := by decide +kernel
theorem dX6_undo_48 : decode cX6_undo 48 = .ok (.iload_n 1, 1) := by decide +kernel
theorem dX6_undo_49 : decode cX6_undo 49 = .ok (.aload_n 0, 1) := by decide +kernel
theorem dX6_undo_50 : decode cX6_undo 50 = .ok (.iload_n 2, 1) := by decide +kernel
theorem dX6_undo_51 : decode cX6_undo 51 = .ok (.invokevirtual 163, 3) := by decide +kernel
theorem dX6_undo_54 : decode cX6_undo 54 = .ok (.iadd, 1) := by decide +kernel
theorem dX6_undo_55 : decode cX6_undo 55 = .ok (.istore_n 1, 1) := by decide +kernel
theorem dX6_undo_56 : decode cX6_undo 56 = .ok (.iinc 2 (-1), 3) := by decide +kernel
theorem dX6_undo_59 : decode cX6_undo 59 = .ok (.goto (-31), 3) := by decide +kernel
theorem dX6_undo_62 : decode cX6_undo 62 = .ok (.iload_n 1, 1) := by decide +kernel
theorem dX6_undo_63 : decode cX6_undo 63 = .ok (.ireturn, 1) := by decide +kernel
theorem dX6_drop_0 : decode cX6_drop 0 = .ok (.aload_n 0, 1) := by decide +kernel
theorem dX6_drop_1 : decode cX6_drop 1 = .ok (.iload_n 1, 1) := by decide +kernel
theorem dX6_drop_2 : decode cX6_drop 2 = .ok (.invokevirtual 123, 3) := by decide +kernel
theorem dX6_drop_5 : decode cX6_drop 5 = .ok (.ifnonnull 5, 3) := by decide +kernel
theorem dX6_drop_8 : decode cX6_drop 8 = .ok (.iconst (-1), 1) := by decide +kernel
theorem dX6_drop_9 : decode cX6_drop 9 = .ok (.ireturn, 1) := by decide +kernel
theorem dX6_drop_10 : decode cX6_drop 10 = .ok (.aload_n 0, 1) := by decide +kernel
theorem dX6_drop_11 : decode cX6_drop 11 = .ok (.iload_n 1, 1) := by decide +kernel
theorem dX6_drop_12 : decode cX6_drop 12 = .ok (.invokevirtual 151, 3) := by decide +kernel
theorem dX6_drop_15 : decode cX6_drop 15 = .ok (.ifCond .ne 11, 3) := by decide +kernel
theorem dX6_drop_18 : decode cX6_drop 18 = .ok (.aload_n 0, 1) := by decide +kernel
theorem dX6_drop_19 : decode cX6_drop 19 = .ok (.iload_n 1, 1) := by decide +kernel
theorem dX6_drop_20 : decode cX6_drop 20 = .ok (.invokevirtual 160, 3) := by decide +kernel
theorem dX6_drop_23 : decode cX6_drop 23 = .ok (.ifCond .eq 6, 3) := by decide +kernel
theorem dX6_drop_26 : decode cX6_drop 26 = .ok (.bipush (-3), 2) := by decide +kernel
theorem dX6_drop_28 : decode cX6_drop 28 = .ok (.ireturn, 1) := by decide +kernel
theorem dX6_drop_29 : decode cX6_drop 29 = .ok (.aload_n 0, 1) := by decide +kernel
theorem dX6_drop_30 : decode cX6_drop 30 = .ok (.iload_n 1, 1) := by decide +kernel
theorem dX6_drop_31 : decode cX6_drop 31 = .ok (.invokevirtual 163, 3) := by decide +kernel
theorem dX6_drop_34 : decode cX6_drop 34 = .ok (.ireturn, 1) := by decide +kernel
theorem dX6_about_0 : decode cX6_about 0 = .ok (.aload_n 0, 1) := by decide +kernel
theorem dX6_about_1 : decode cX6_about 1 = .ok (.iload_n 1, 1) := by decide +kernel
theorem dX6_about_2 : decode cX6_about 2 = .ok (.invokevirtual 166, 3) := by decide +kernel
theorem dX6_about_5 : decode cX6_about 5 = .ok (.astore_n 3, 1) := by decide +kernel
theorem dX6_about_6 : decode cX6_about 6 = .ok (.aload_n 3, 1) := by decide +kernel
theorem dX6_about_7 : decode cX6_about 7 = .ok (.ifnonnull 5, 3) := by decide +kernel
theorem dX6_about_10 : decode cX6_about 10 = .ok (.iconst (-1), 1) := by decide +kernel
theorem dX6_about_11 : decode cX6_about 11 = .ok (.ireturn, 1) := by decide +kernel
theorem dX6_about_12 : decode cX6_about 12 = .ok (.iload_n 2, 1) := by decide +kernel
theorem dX6_about_13 : decode cX6_about 13 = .ok (.tableswitch 71 0 4 #[35, 43, 48, 53, 66], 35) := by decide +kernel
theorem dX6_about_48 : decode cX6_about 48 = .ok (.aload_n 3, 1) := by decide +kernel
theorem dX6_about_49 : decode cX6_about 49 = .ok (.getfield 169, 3) := by decide +kernel
theorem dX6_about_52 : decode cX6_about 52 = .ok (.getfield 172, 3) := by decide +kernel
theorem dX6_about_55 : decode cX6_about 55 = .ok (.ireturn, 1) := by decide +kernel
theorem dX6_about_56 : decode cX6_about 56 = .ok (.aload_n 3, 1) := by decide +kernel
theorem dX6_about_57 : decode cX6_about 57 = .ok (.getfield 175, 3) := by decide +kernel
theorem dX6_about_60 : decode cX6_about 60 = .ok (.ireturn, 1) := by decide +kernel
theorem dX6_about_61 : decode cX6_about 61 = .ok (.aload_n 3, 1) := by decide +kernel
theorem dX6_about_62 : decode cX6_about 62 = .ok (.getfield 178, 3) := by decide +kernel
theorem dX6_about_65 : decode cX6_about 65 = .ok (.ireturn, 1) := by decide +kernel
theorem dX6_about_66 : decode cX6_about 66 = .ok (.aload_n 3, 1) := by decide +kernel
theorem dX6_about_67 : decode cX6_about 67 = .ok (.getfield 181, 3) := by decide +kernel
theorem dX6_about_70 : decode cX6_about 70 = .ok (.ifCond .eq 7, 3) := by decide +kernel
theorem dX6_about_73 : decode cX6_about 73 = .ok (.iconst 1, 1) := by decide +kernel
theorem dX6_about_74 : decode cX6_about 74 = .ok (.goto 4, 3) := by decide +kernel
theorem dX6_about_77 : decode cX6_about 77 = .ok (.iconst 0, 1) := by decide +kernel
theorem dX6_about_78 : decode cX6_about 78 = .ok (.ireturn, 1) := by decide +kernel
theorem dX6_about_79 : decode cX6_about 79 = .ok (.aload_n 3, 1) := by decide +kernel
theorem dX6_about_80 : decode cX6_about 80 = .ok (.getfield 185, 3) := by decide +kernel
theorem dX6_about_83 : decode cX6_about 83 = .ok (.ireturn, 1) := by decide +kernel
theorem dX6_about_84 : decode cX6_about 84 = .ok (.iconst (-1), 1) := by decide +kernel
theorem dX6_about_85 : decode cX6_about 85 = .ok (.ireturn, 1) := by decide +kernel
theorem dX6_at_0 : decode cX6_at 0 = .ok (.aload_n 0, 1) := by decide +kernel
theorem dX6_at_1 : decode cX6_at 1 = .ok (.iload_n 1, 1) := by decide +kernel
theorem dX6_at_2 : decode cX6_at 2 = .ok (.invokevirtual 166, 3) := by decide +kernel
theorem dX6_at_5 : decode cX6_at 5 = .ok (.astore_n 3, 1) := by decide +kernel
theorem dX6_at_6 : decode cX6_at 6 = .ok (.aload_n 3, 1) := by decide +kernel
theorem dX6_at_7 : decode cX6_at 7 = .ok (.ifnonnull 5, 3) := by decide +kernel
theorem dX6_at_10 : decode cX6_at 10 = .ok (.iconst (-1), 1) := by decide +kernel
theorem dX6_at_11 : decode cX6_at 11 = .ok (.ireturn, 1) := by decide +kernel
theorem dX6_at_12 : decode cX6_at 12 = .ok (.aload_n 3, 1) := by decide +kernel
theorem dX6_at_13 : decode cX6_at 13 = .ok (.getfield 169, 3) := by decide +kernel
theorem dX6_at_16 : decode cX6_at 16 = .ok (.iload_n 2, 1) := by decide +kernel
theorem dX6_at_17 : decode cX6_at 17 = .ok (.invokevirtual 188, 3) := by decide +kernel
theorem dX6_at_20 : decode cX6_at 20 = .ok (.istore 4, 2) := by decide +kernel
theorem dX6_at_22 : decode cX6_at 22 = .ok (.iload 4, 2) := by decide +kernel
theorem dX6_at_24 : decode cX6_at 24 = .ok (.iconst (-1), 1) := by decide +kernel
theorem dX6_at_25 : decode cX6_at 25 = .ok (.if_icmp .ne 13, 3) := by decide +kernel
theorem dX6_at_28 : decode cX6_at 28 = .ok (.new 191, 3) := by decide +kernel
theorem dX6_at_31 : decode cX6_at 31 = .ok (.dup, 1) := by decide +kernel
theorem dX6_at_32 : decode cX6_at 32 = .ok (.ldc 193, 2) := by decide +kernel
theorem dX6_at_34 : decode cX6_at 34 = .ok (.invokespecial 195, 3) := by decide +kernel
theorem dX6_at_37 : decode cX6_at 37 = .ok (.athrow, 1) := by decide +kernel
theorem dX6_at_38 : decode cX6_at 38 = .ok (.iload 4, 2) := by decide +kernel
theorem dX6_at_40 : decode cX6_at 40 = .ok (.ireturn, 1) := by decide +kernel
theorem dX6_tried_0 : decode cX6_tried 0 = .ok (.aload_n 0, 1) := by decide +kernel
theorem dX6_tried_1 : decode cX6_tried 1 = .ok (.getfield 67, 3) := by decide +kernel
theorem dX6_tried_4 : decode cX6_tried 4 = .ok (.getfield 196, 3) := by decide +kernel
theorem dX6_tried_7 : decode cX6_tried 7 = .ok (.iload_n 1, 1) := by decide +kernel
theorem dX6_tried_8 : decode cX6_tried 8 = .ok (.invokevirtual 188, 3) := by decide +kernel
theorem dX6_tried_11 : decode cX6_tried 11 = .ok (.ireturn, 1) := by decide +kernel
theorem dX6_scriptOf_0 : decode cX6_scriptOf 0 = .ok (.iload_n 1, 1) := by decide +kernel
theorem dX6_scriptOf_1 : decode cX6_scriptOf 1 = .ok (.ifCond .lt 20, 3) := by decide +kernel
theorem dX6_scriptOf_4 : decode cX6_scriptOf 4 = .ok (.iload_n 1, 1) := by decide +kernel
theorem dX6_scriptOf_5 : decode cX6_scriptOf 5 = .ok (.aload_n 0, 1) := by decide +kernel
theorem dX6_scriptOf_6 : decode cX6_scriptOf 6 = .ok (.getfield 37, 3) := by decide +kernel
theorem dX6_scriptOf_9 : decode cX6_scriptOf 9 = .ok (.if_icmp .ge 12, 3) := by decide +kernel
theorem dX6_scriptOf_12 : decode cX6_scriptOf 12 = .ok (.aload_n 0, 1) := by decide +kernel
theorem dX6_scriptOf_13 : decode cX6_scriptOf 13 = .ok (.getfield 27, 3) := by decide +kernel
theorem dX6_scriptOf_16 : decode cX6_scriptOf 16 = .ok (.iload_n 1, 1) := by decide +kernel
theorem dX6_scriptOf_17 : decode cX6_scriptOf 17 = .ok (.aaload, 1) := by decide +kernel
theorem dX6_scriptOf_18 : decode cX6_scriptOf 18 = .ok (.goto 4, 3) := by decide +kernel
theorem dX6_scriptOf_21 : decode cX6_scriptOf 21 = .ok (.aconst_null, 1) := by decide +kernel
theorem dX6_scriptOf_22 : decode cX6_scriptOf 22 = .ok (.areturn, 1) := by decide +kernel
theorem dX6_itemOf_0 : decode cX6_itemOf 0 = .ok (.iload_n 1, 1) := by decide +kernel
theorem dX6_itemOf_1 : decode cX6_itemOf 1 = .ok (.ifCond .lt 20, 3) := by decide +kernel
theorem dX6_itemOf_4 : decode cX6_itemOf 4 = .ok (.iload_n 1, 1) := by decide +kernel
theorem dX6_itemOf_5 : decode cX6_itemOf 5 = .ok (.aload_n 0, 1) := by decide +kernel
theorem dX6_itemOf_6 : decode cX6_itemOf 6 = .ok (.getfield 41, 3) := by decide +kernel
theorem dX6_itemOf_9 : decode cX6_itemOf 9 = .ok (.if_icmp .ge 12, 3) := by decide +kernel
theorem dX6_itemOf_12 : decode cX6_itemOf 12 = .ok (.aload_n 0, 1) := by decide +kernel
theorem dX6_itemOf_13 : decode cX6_itemOf 13 = .ok (.getfield 33, 3) := by decide +kernel
theorem dX6_itemOf_16 : decode cX6_itemOf 16 = .ok (.iload_n 1, 1) := by decide +kernel
theorem dX6_itemOf_17 : decode cX6_itemOf 17 = .ok (.aaload, 1) := by decide +kernel
theorem dX6_itemOf_18 : decode cX6_itemOf 18 = .ok (.goto 4, 3) := by decide +kernel
theorem dX6_itemOf_21 : decode cX6_itemOf 21 = .ok (.aconst_null, 1) := by decide +kernel
theorem dX6_itemOf_22 : decode cX6_itemOf 22 = .ok (.areturn, 1) := by decide +kernel
theorem dX6_liveItem_0 : decode cX6_liveItem 0 = .ok (.aload_n 0, 1) := by decide +kernel
theorem dX6_liveItem_1 : decode cX6_liveItem 1 = .ok (.iload_n 1, 1) := by decide +kernel
theorem dX6_liveItem_2 : decode cX6_liveItem 2 = .ok (.invokevirtual 166, 3) := by decide +kernel
theorem dX6_liveItem_5 : decode cX6_liveItem 5 = .ok (.astore_n 2, 1) := by decide +kernel
theorem dX6_liveItem_6 : decode cX6_liveItem 6 = .ok (.aload_n 2, 1) := by decide +kernel
theorem dX6_liveItem_7 : decode cX6_liveItem 7 = .ok (.ifnull 14, 3) := by decide +kernel
theorem dX6_liveItem_10 : decode cX6_liveItem 10 = .ok (.aload_n 2, 1) := by decide +kernel
theorem dX6_liveItem_11 : decode cX6_liveItem 11 = .ok (.getfield 181, 3) := by decide +kernel
theorem dX6_liveItem_14 : decode cX6_liveItem 14 = .ok (.ifCond .ne 7, 3) := by decide +kernel
theorem dX6_liveItem_17 : decode cX6_liveItem 17 = .ok (.aload_n 2, 1) := by decide +kernel
theorem dX6_liveItem_18 : decode cX6_liveItem 18 = .ok (.goto 4, 3) := by decide +kernel
theorem dX6_liveItem_21 : decode cX6_liveItem 21 = .ok (.aconst_null, 1) := by decide +kernel
theorem dX6_liveItem_22 : decode cX6_liveItem 22 = .ok (.areturn, 1) := by decide +kernel
theorem dX6_isOriginal_0 : decode cX6_isOriginal 0 = .ok (.aload_n 0, 1) := by decide +kernel
theorem dX6_isOriginal_1 : decode cX6_isOriginal 1 = .ok (.iload_n 1, 1) := by decide +kernel
theorem dX6_isOriginal_2 : decode cX6_isOriginal 2 = .ok (.invokevirtual 166, 3) := by decide +kernel
theorem dX6_isOriginal_5 : decode cX6_isOriginal 5 = .ok (.astore_n 2, 1) := by decide +kernel
theorem dX6_isOriginal_6 : decode cX6_isOriginal 6 = .ok (.aload_n 2, 1) := by decide +kernel
theorem dX6_isOriginal_7 : decode cX6_isOriginal 7 = .ok (.ifnull 15, 3) := by decide +kernel
theorem dX6_isOriginal_10 : decode cX6_isOriginal 10 = .ok (.aload_n 2, 1) := by decide +kernel
theorem dX6_isOriginal_11 : decode cX6_isOriginal 11 = .ok (.getfield 175, 3) := by decide +kernel
theorem dX6_isOriginal_14 : decode cX6_isOriginal 14 = .ok (.iconst (-1), 1) := by decide +kernel
theorem dX6_isOriginal_15 : decode cX6_isOriginal 15 = .ok (.if_icmp .ne 7, 3) := by decide +kernel
theorem dX6_isOriginal_18 : decode cX6_isOriginal 18 = .ok (.iconst 1, 1) := by decide +kernel
theorem dX6_isOriginal_19 : decode cX6_isOriginal 19 = .ok (.goto 4, 3) := by decide +kernel
theorem dX6_isOriginal_22 : decode cX6_isOriginal 22 = .ok (.iconst 0, 1) := by decide +kernel
theorem dX6_isOriginal_23 : decode cX6_isOriginal 23 = .ok (.ireturn, 1) := by decide +kernel
theorem dX6_hasDerived_0 : decode cX6_hasDerived 0 = .ok (.iconst 0, 1) := by decide +kernel
theorem dX6_hasDerived_1 : decode cX6_hasDerived 1 = .ok (.istore_n 2, 1) := by decide +kernel
theorem dX6_hasDerived_2 : decode cX6_hasDerived 2 = .ok (.iload_n 2, 1) := by decide +kernel
theorem dX6_hasDerived_3 : decode cX6_hasDerived 3 = .ok (.aload_n 0, 1) := by decide +kernel
theorem dX6_hasDerived_4 : decode cX6_hasDerived 4 = .ok (.getfield 41, 3) := by decide +kernel
theorem dX6_hasDerived_7 : decode cX6_hasDerived 7 = .ok (.if_icmp .ge 29, 3) := by decide +kernel
theorem dX6_hasDerived_10 : decode cX6_hasDerived 10 = .ok (.aload_n 0, 1) := by decide +kernel
theorem dX6_hasDerived_11 : decode cX6_hasDerived 11 = .ok (.iload_n 2, 1) := by decide +kernel
theorem dX6_hasDerived_12 : decode cX6_hasDerived 12 = .ok (.invokevirtual 123, 3) := by decide +kernel
theorem dX6_hasDerived_15 : decode cX6_hasDerived 15 = .ok (.astore_n 3, 1) := by decide +kernel
theorem dX6_hasDerived_16 : decode cX6_hasDerived 16 = .ok (.aload_n 3, 1) := by decide +kernel
theorem dX6_hasDerived_17 : decode cX6_hasDerived 17 = .ok (.ifnull 13, 3) := by decide +kernel
theorem dX6_hasDerived_20 : decode cX6_hasDerived 20 = .ok (.aload_n 3, 1) := by decide +kernel
theorem dX6_hasDerived_21 : decode cX6_hasDerived 21 = .ok (.getfield 175, 3) := by decide +kernel
theorem dX6_hasDerived_24 : decode cX6_hasDerived 24 = .ok (.iload_n 1, 1) := by decide +kernel
theorem dX6_hasDerived_25 : decode cX6_hasDerived 25 = .ok (.if_icmp .ne 5, 3) := by decide +kernel
theorem dX6_hasDerived_28 : decode cX6_hasDerived 28 = .ok (.iconst 1, 1) := by decide +kernel
theorem dX6_hasDerived_29 : decode cX6_hasDerived 29 = .ok (.ireturn, 1) := by decide +kernel
