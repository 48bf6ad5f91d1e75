theorem dX6_hasDerived_30 : decode cX6_hasDerived 30 = .ok (.iinc 2 1, 3) := by decide +kernel
theorem dX6_hasDerived_33 : decode cX6_hasDerived 33 = .ok (.goto (-31), 3) := by decide +kernel
theorem dX6_hasDerived_36 : decode cX6_hasDerived 36 = .ok (.iconst 0, 1) := by decide +kernel
theorem dX6_hasDerived_37 : decode cX6_hasDerived 37 = .ok (.ireturn, 1) := by decide +kernel
theorem dX6_hasDerivedBy_0 : decode cX6_hasDerivedBy 0 = .ok (.iconst 0, 1) := by decide +kernel
theorem dX6_hasDerivedBy_1 : decode cX6_hasDerivedBy 1 = .ok (.istore_n 3, 1) := by decide +kernel
theorem dX6_hasDerivedBy_2 : decode cX6_hasDerivedBy 2 = .ok (.iload_n 3, 1) := by decide +kernel
theorem dX6_hasDerivedBy_3 : decode cX6_hasDerivedBy 3 = .ok (.aload_n 0, 1) := by decide +kernel
theorem dX6_hasDerivedBy_4 : decode cX6_hasDerivedBy 4 = .ok (.getfield 41, 3) := by decide +kernel
theorem dX6_hasDerivedBy_7 : decode cX6_hasDerivedBy 7 = .ok (.if_icmp .ge 41, 3) := by decide +kernel
theorem dX6_hasDerivedBy_10 : decode cX6_hasDerivedBy 10 = .ok (.aload_n 0, 1) := by decide +kernel
theorem dX6_hasDerivedBy_11 : decode cX6_hasDerivedBy 11 = .ok (.iload_n 3, 1) := by decide +kernel
theorem dX6_hasDerivedBy_12 : decode cX6_hasDerivedBy 12 = .ok (.invokevirtual 123, 3) := by decide +kernel
theorem dX6_hasDerivedBy_15 : decode cX6_hasDerivedBy 15 = .ok (.astore 4, 2) := by decide +kernel
theorem dX6_hasDerivedBy_17 : decode cX6_hasDerivedBy 17 = .ok (.aload 4, 2) := by decide +kernel
theorem dX6_hasDerivedBy_19 : decode cX6_hasDerivedBy 19 = .ok (.ifnull 23, 3) := by decide +kernel
theorem dX6_hasDerivedBy_22 : decode cX6_hasDerivedBy 22 = .ok (.aload 4, 2) := by decide +kernel
theorem dX6_hasDerivedBy_24 : decode cX6_hasDerivedBy 24 = .ok (.getfield 175, 3) := by decide +kernel
theorem dX6_hasDerivedBy_27 : decode cX6_hasDerivedBy 27 = .ok (.iload_n 1, 1) := by decide +kernel
theorem dX6_hasDerivedBy_28 : decode cX6_hasDerivedBy 28 = .ok (.if_icmp .ne 14, 3) := by decide +kernel
theorem dX6_hasDerivedBy_31 : decode cX6_hasDerivedBy 31 = .ok (.aload 4, 2) := by decide +kernel
theorem dX6_hasDerivedBy_33 : decode cX6_hasDerivedBy 33 = .ok (.getfield 178, 3) := by decide +kernel
theorem dX6_hasDerivedBy_36 : decode cX6_hasDerivedBy 36 = .ok (.iload_n 2, 1) := by decide +kernel
theorem dX6_hasDerivedBy_37 : decode cX6_hasDerivedBy 37 = .ok (.if_icmp .ne 5, 3) := by decide +kernel
theorem dX6_hasDerivedBy_40 : decode cX6_hasDerivedBy 40 = .ok (.iconst 1, 1) := by decide +kernel
theorem dX6_hasDerivedBy_41 : decode cX6_hasDerivedBy 41 = .ok (.ireturn, 1) := by decide +kernel
theorem dX6_hasDerivedBy_42 : decode cX6_hasDerivedBy 42 = .ok (.iinc 3 1, 3) := by decide +kernel
theorem dX6_hasDerivedBy_45 : decode cX6_hasDerivedBy 45 = .ok (.goto (-43), 3) := by decide +kernel
theorem dX6_hasDerivedBy_48 : decode cX6_hasDerivedBy 48 = .ok (.iconst 0, 1) := by decide +kernel
theorem dX6_hasDerivedBy_49 : decode cX6_hasDerivedBy 49 = .ok (.ireturn, 1) := by decide +kernel
theorem dX6_derive_0 : decode cX6_derive 0 = .ok (.aload_n 0, 1) := by decide +kernel
theorem dX6_derive_1 : decode cX6_derive 1 = .ok (.iload_n 1, 1) := by decide +kernel
theorem dX6_derive_2 : decode cX6_derive 2 = .ok (.invokevirtual 123, 3) := by decide +kernel
theorem dX6_derive_5 : decode cX6_derive 5 = .ok (.astore_n 3, 1) := by decide +kernel
theorem dX6_derive_6 : decode cX6_derive 6 = .ok (.aload_n 0, 1) := by decide +kernel
theorem dX6_derive_7 : decode cX6_derive 7 = .ok (.iload_n 2, 1) := by decide +kernel
theorem dX6_derive_8 : decode cX6_derive 8 = .ok (.invokevirtual 108, 3) := by decide +kernel
theorem dX6_derive_11 : decode cX6_derive 11 = .ok (.astore 4, 2) := by decide +kernel
theorem dX6_derive_13 : decode cX6_derive 13 = .ok (.aload_n 3, 1) := by decide +kernel
theorem dX6_derive_14 : decode cX6_derive 14 = .ok (.ifnull 8, 3) := by decide +kernel
theorem dX6_derive_17 : decode cX6_derive 17 = .ok (.aload 4, 2) := by decide +kernel
theorem dX6_derive_19 : decode cX6_derive 19 = .ok (.ifnonnull 5, 3) := by decide +kernel
theorem dX6_derive_22 : decode cX6_derive 22 = .ok (.iconst (-1), 1) := by decide +kernel
theorem dX6_derive_23 : decode cX6_derive 23 = .ok (.ireturn, 1) := by decide +kernel
theorem dX6_derive_24 : decode cX6_derive 24 = .ok (.aload_n 0, 1) := by decide +kernel
theorem dX6_derive_25 : decode cX6_derive 25 = .ok (.iload_n 1, 1) := by decide +kernel
theorem dX6_derive_26 : decode cX6_derive 26 = .ok (.iload_n 2, 1) := by decide +kernel
theorem dX6_derive_27 : decode cX6_derive 27 = .ok (.invokevirtual 199, 3) := by decide +kernel
theorem dX6_derive_30 : decode cX6_derive 30 = .ok (.ifCond .eq 6, 3) := by decide +kernel
theorem dX6_derive_33 : decode cX6_derive 33 = .ok (.bipush (-11), 2) := by decide +kernel
theorem dX6_derive_35 : decode cX6_derive 35 = .ok (.ireturn, 1) := by decide +kernel
theorem dX6_derive_36 : decode cX6_derive 36 = .ok (.aload 4, 2) := by decide +kernel
theorem dX6_derive_38 : decode cX6_derive 38 = .ok (.getfield 120, 3) := by decide +kernel
theorem dX6_derive_41 : decode cX6_derive 41 = .ok (.aload_n 3, 1) := by decide +kernel
theorem dX6_derive_42 : decode cX6_derive 42 = .ok (.getfield 169, 3) := by decide +kernel
theorem dX6_derive_45 : decode cX6_derive 45 = .ok (.invokevirtual 202, 3) := by decide +kernel
theorem dX6_derive_48 : decode cX6_derive 48 = .ok (.ifCond .ne 6, 3) := by decide +kernel
theorem dX6_derive_51 : decode cX6_derive 51 = .ok (.bipush (-12), 2) := by decide +kernel
theorem dX6_derive_53 : decode cX6_derive 53 = .ok (.ireturn, 1) := by decide +kernel
theorem dX6_derive_54 : decode cX6_derive 54 = .ok (.aload_n 0, 1) := by decide +kernel
theorem dX6_derive_55 : decode cX6_derive 55 = .ok (.getfield 67, 3) := by decide +kernel
theorem dX6_derive_58 : decode cX6_derive 58 = .ok (.aload 4, 2) := by decide +kernel
theorem dX6_derive_60 : decode cX6_derive 60 = .ok (.aload_n 3, 1) := by decide +kernel
theorem dX6_derive_61 : decode cX6_derive 61 = .ok (.getfield 169, 3) := by decide +kernel
theorem dX6_derive_64 : decode cX6_derive 64 = .ok (.invokevirtual 206, 3) := by decide +kernel
theorem dX6_derive_67 : decode cX6_derive 67 = .ok (.istore 5, 2) := by decide +kernel
theorem dX6_derive_69 : decode cX6_derive 69 = .ok (.iload 5, 2) := by decide +kernel
theorem dX6_derive_71 : decode cX6_derive 71 = .ok (.ifCond .eq 9, 3) := by decide +kernel
theorem dX6_derive_74 : decode cX6_derive 74 = .ok (.bipush (-12), 2) := by decide +kernel
theorem dX6_derive_76 : decode cX6_derive 76 = .ok (.iload 5, 2) := by decide +kernel
theorem dX6_derive_78 : decode cX6_derive 78 = .ok (.isub, 1) := by decide +kernel
theorem dX6_derive_79 : decode cX6_derive 79 = .ok (.ireturn, 1) := by decide +kernel
theorem dX6_derive_80 : decode cX6_derive 80 = .ok (.aload 4, 2) := by decide +kernel
theorem dX6_derive_82 : decode cX6_derive 82 = .ok (.getfield 112, 3) := by decide +kernel
theorem dX6_derive_85 : decode cX6_derive 85 = .ok (.aload_n 0, 1) := by decide +kernel
theorem dX6_derive_86 : decode cX6_derive 86 = .ok (.getfield 67, 3) := by decide +kernel
theorem dX6_derive_89 : decode cX6_derive 89 = .ok (.getfield 196, 3) := by decide +kernel
theorem dX6_derive_92 : decode cX6_derive 92 = .ok (.invokevirtual 202, 3) := by decide +kernel
theorem dX6_derive_95 : decode cX6_derive 95 = .ok (.ifCond .ne 6, 3) := by decide +kernel
theorem dX6_derive_98 : decode cX6_derive 98 = .ok (.bipush (-17), 2) := by decide +kernel
theorem dX6_derive_100 : decode cX6_derive 100 = .ok (.ireturn, 1) := by decide +kernel
theorem dX6_derive_101 : decode cX6_derive 101 = .ok (.aload_n 0, 1) := by decide +kernel
theorem dX6_derive_102 : decode cX6_derive 102 = .ok (.getfield 41, 3) := by decide +kernel
theorem dX6_derive_105 : decode cX6_derive 105 = .ok (.bipush 60, 2) := by decide +kernel
theorem dX6_derive_107 : decode cX6_derive 107 = .ok (.if_icmp .lt 6, 3) := by decide +kernel
theorem dX6_derive_110 : decode cX6_derive 110 = .ok (.bipush (-4), 2) := by decide +kernel
theorem dX6_derive_112 : decode cX6_derive 112 = .ok (.ireturn, 1) := by decide +kernel
theorem dX6_derive_113 : decode cX6_derive 113 = .ok (.aload_n 0, 1) := by decide +kernel
theorem dX6_derive_114 : decode cX6_derive 114 = .ok (.new 31, 3) := by decide +kernel
theorem dX6_derive_117 : decode cX6_derive 117 = .ok (.dup, 1) := by decide +kernel
theorem dX6_derive_118 : decode cX6_derive 118 = .ok (.aload_n 0, 1) := by decide +kernel
theorem dX6_derive_119 : decode cX6_derive 119 = .ok (.getfield 67, 3) := by decide +kernel
theorem dX6_derive_122 : decode cX6_derive 122 = .ok (.getfield 196, 3) := by decide +kernel
theorem dX6_derive_125 : decode cX6_derive 125 = .ok (.invokevirtual 96, 3) := by decide +kernel
theorem dX6_derive_128 : decode cX6_derive 128 = .ok (.iload_n 1, 1) := by decide +kernel
theorem dX6_derive_129 : decode cX6_derive 129 = .ok (.iload_n 2, 1) := by decide +kernel
theorem dX6_derive_130 : decode cX6_derive 130 = .ok (.aload_n 3, 1) := by decide +kernel
theorem dX6_derive_131 : decode cX6_derive 131 = .ok (.getfield 185, 3) := by decide +kernel
theorem dX6_derive_134 : decode cX6_derive 134 = .ok (.invokespecial 100, 3) := by decide +kernel
theorem dX6_derive_137 : decode cX6_derive 137 = .ok (.invokevirtual 103, 3) := by decide +kernel
theorem dX6_derive_140 : decode cX6_derive 140 = .ok (.ireturn, 1) := by decide +kernel
theorem dX6_against_0 : decode cX6_against 0 = .ok (.iload_n 0, 1) := by decide +kernel
theorem dX6_against_1 : decode cX6_against 1 = .ok (.ifCond .lt 7, 3) := by decide +kernel
theorem dX6_against_4 : decode cX6_against 4 = .ok (.iconst 0, 1) := by decide +kernel
theorem dX6_against_5 : decode cX6_against 5 = .ok (.goto 4, 3) := by decide +kernel
theorem dX6_against_8 : decode cX6_against 8 = .ok (.iload_n 0, 1) := by decide +kernel
theorem dX6_against_9 : decode cX6_against 9 = .ok (.ireturn, 1) := by decide +kernel
theorem dX6_keep_0 : decode cX6_keep 0 = .ok (.aload_n 0, 1) := by decide +kernel
theorem dX6_keep_1 : decode cX6_keep 1 = .ok (.getfield 41, 3) := by decide +kernel
theorem dX6_keep_4 : decode cX6_keep 4 = .ok (.bipush 60, 2) := by decide +kernel
theorem dX6_keep_6 : decode cX6_keep 6 = .ok (.if_icmp .lt 6, 3) := by decide +kernel
theorem dX6_keep_9 : decode cX6_keep 9 = .ok (.bipush (-4), 2) := by decide +kernel
theorem dX6_keep_11 : decode cX6_keep 11 = .ok (.ireturn, 1) := by decide +kernel
theorem dX6_keep_12 : decode cX6_keep 12 = .ok (.aload_n 0, 1) := by decide +kernel
theorem dX6_keep_13 : decode cX6_keep 13 = .ok (.getfield 33, 3) := by decide +kernel
theorem dX6_keep_16 : decode cX6_keep 16 = .ok (.aload_n 0, 1) := by decide +kernel
theorem dX6_keep_17 : decode cX6_keep 17 = .ok (.getfield 41, 3) := by decide +kernel
theorem dX6_keep_20 : decode cX6_keep 20 = .ok (.aload_n 1, 1) := by decide +kernel
theorem dX6_keep_21 : decode cX6_keep 21 = .ok (.aastore, 1) := by decide +kernel
theorem dX6_keep_22 : decode cX6_keep 22 = .ok (.aload_n 0, 1) := by decide +kernel
theorem dX6_keep_23 : decode cX6_keep 23 = .ok (.dup, 1) := by decide +kernel
theorem dX6_keep_24 : decode cX6_keep 24 = .ok (.getfield 41, 3) := by decide +kernel
theorem dX6_keep_27 : decode cX6_keep 27 = .ok (.iconst 1, 1) := by decide +kernel
theorem dX6_keep_28 : decode cX6_keep 28 = .ok (.iadd, 1) := by decide +kernel
theorem dX6_keep_29 : decode cX6_keep 29 = .ok (.putfield 41, 3) := by decide +kernel
theorem dX6_keep_32 : decode cX6_keep 32 = .ok (.aload_n 0, 1) := by decide +kernel
theorem dX6_keep_33 : decode cX6_keep 33 = .ok (.getfield 41, 3) := by decide +kernel
theorem dX6_keep_36 : decode cX6_keep 36 = .ok (.iconst 1, 1) := by decide +kernel
theorem dX6_keep_37 : decode cX6_keep 37 = .ok (.isub, 1) := by decide +kernel
theorem dX6_keep_38 : decode cX6_keep 38 = .ok (.ireturn, 1) := by decide +kernel
theorem dX6_dismiss_0 : decode cX6_dismiss 0 = .ok (.aload_n 0, 1) := by decide +kernel
theorem dX6_dismiss_1 : decode cX6_dismiss 1 = .ok (.iload_n 1, 1) := by decide +kernel
theorem dX6_dismiss_2 : decode cX6_dismiss 2 = .ok (.invokevirtual 123, 3) := by decide +kernel
theorem dX6_dismiss_5 : decode cX6_dismiss 5 = .ok (.astore_n 2, 1) := by decide +kernel
theorem dX6_dismiss_6 : decode cX6_dismiss 6 = .ok (.aload_n 2, 1) := by decide +kernel
theorem dX6_dismiss_7 : decode cX6_dismiss 7 = .ok (.ifnonnull 5, 3) := by decide +kernel
theorem dX6_dismiss_10 : decode cX6_dismiss 10 = .ok (.iconst 0, 1) := by decide +kernel
theorem dX6_dismiss_11 : decode cX6_dismiss 11 = .ok (.ireturn, 1) := by decide +kernel
theorem dX6_dismiss_12 : decode cX6_dismiss 12 = .ok (.aload_n 2, 1) := by decide +kernel
theorem dX6_dismiss_13 : decode cX6_dismiss 13 = .ok (.iconst 1, 1) := by decide +kernel
theorem dX6_dismiss_14 : decode cX6_dismiss 14 = .ok (.putfield 181, 3) := by decide +kernel
theorem dX6_dismiss_17 : decode cX6_dismiss 17 = .ok (.iconst 1, 1) := by decide +kernel
theorem dX6_dismiss_18 : decode cX6_dismiss 18 = .ok (.ireturn, 1) := by decide +kernel
theorem dX6_nextOf_0 : decode cX6_nextOf 0 = .ok (.aload_n 0, 1) := by decide +kernel
theorem dX6_nextOf_1 : decode cX6_nextOf 1 = .ok (.iload_n 1, 1) := by decide +kernel
theorem dX6_nextOf_2 : decode cX6_nextOf 2 = .ok (.invokevirtual 108, 3) := by decide +kernel
theorem dX6_nextOf_5 : decode cX6_nextOf 5 = .ok (.astore_n 2, 1) := by decide +kernel
theorem dX6_nextOf_6 : decode cX6_nextOf 6 = .ok (.aload_n 2, 1) := by decide +kernel
theorem dX6_nextOf_7 : decode cX6_nextOf 7 = .ok (.ifnonnull 7, 3) := by decide +kernel
theorem dX6_nextOf_10 : decode cX6_nextOf 10 = .ok (.iconst (-1), 1) := by decide +kernel
theorem dX6_nextOf_11 : decode cX6_nextOf 11 = .ok (.goto 7, 3) := by decide +kernel
theorem dX6_nextOf_14 : decode cX6_nextOf 14 = .ok (.aload_n 2, 1) := by decide +kernel
theorem dX6_nextOf_15 : decode cX6_nextOf 15 = .ok (.getfield 138, 3) := by decide +kernel
theorem dX6_nextOf_18 : decode cX6_nextOf 18 = .ok (.ireturn, 1) := by decide +kernel
theorem dX6_comesTo_0 : decode cX6_comesTo 0 = .ok (.iload_n 1, 1) := by decide +kernel
theorem dX6_comesTo_1 : decode cX6_comesTo 1 = .ok (.istore_n 3, 1) := by decide +kernel
theorem dX6_comesTo_2 : decode cX6_comesTo 2 = .ok (.iconst 0, 1) := by decide +kernel
theorem dX6_comesTo_3 : decode cX6_comesTo 3 = .ok (.istore 4, 2) := by decide +kernel
theorem dX6_comesTo_5 : decode cX6_comesTo 5 = .ok (.iload 4, 2) := by decide +kernel
theorem dX6_comesTo_7 : decode cX6_comesTo 7 = .ok (.bipush 10, 2) := by decide +kernel
theorem dX6_comesTo_9 : decode cX6_comesTo 9 = .ok (.if_icmp .ge 27, 3) := by decide +kernel
theorem dX6_comesTo_12 : decode cX6_comesTo 12 = .ok (.iload_n 3, 1) := by decide +kernel
theorem dX6_comesTo_13 : decode cX6_comesTo 13 = .ok (.iconst (-1), 1) := by decide +kernel
theorem dX6_comesTo_14 : decode cX6_comesTo 14 = .ok (.if_icmp .eq 22, 3) := by decide +kernel
theorem dX6_comesTo_17 : decode cX6_comesTo 17 = .ok (.iload_n 3, 1) := by decide +kernel
theorem dX6_comesTo_18 : decode cX6_comesTo 18 = .ok (.iload_n 2, 1) := by decide +kernel
theorem dX6_comesTo_19 : decode cX6_comesTo 19 = .ok (.if_icmp .ne 5, 3) := by decide +kernel
theorem dX6_comesTo_22 : decode cX6_comesTo 22 = .ok (.iconst 1, 1) := by decide +kernel
theorem dX6_comesTo_23 : decode cX6_comesTo 23 = .ok (.ireturn, 1) := by decide +kernel
theorem dX6_comesTo_24 : decode cX6_comesTo 24 = .ok (.aload_n 0, 1) := by decide +kernel
theorem dX6_comesTo_25 : decode cX6_comesTo 25 = .ok (.iload_n 3, 1) := by decide +kernel
theorem dX6_comesTo_26 : decode cX6_comesTo 26 = .ok (.invokevirtual 141, 3) := by decide +kernel
theorem dX6_comesTo_29 : decode cX6_comesTo 29 = .ok (.istore_n 3, 1) := by decide +kernel
theorem dX6_comesTo_30 : decode cX6_comesTo 30 = .ok (.iinc 4 1, 3) := by decide +kernel
theorem dX6_comesTo_33 : decode cX6_comesTo 33 = .ok (.goto (-28), 3) := by decide +kernel
theorem dX6_comesTo_36 : decode cX6_comesTo 36 = .ok (.iconst 0, 1) := by decide +kernel
theorem dX6_comesTo_37 : decode cX6_comesTo 37 = .ok (.ireturn, 1) := by decide +kernel
theorem dX6_joinBatch_0 : decode cX6_joinBatch 0 = .ok (.aload_n 0, 1) := by decide +kernel
theorem dX6_joinBatch_1 : decode cX6_joinBatch 1 = .ok (.iload_n 1, 1) := by decide +kernel
theorem dX6_joinBatch_2 : decode cX6_joinBatch 2 = .ok (.invokevirtual 166, 3) := by decide +kernel
theorem dX6_joinBatch_5 : decode cX6_joinBatch 5 = .ok (.astore_n 2, 1) := by decide +kernel
theorem dX6_joinBatch_6 : decode cX6_joinBatch 6 = .ok (.aload_n 2, 1) := by decide +kernel
theorem dX6_joinBatch_7 : decode cX6_joinBatch 7 = .ok (.ifnonnull 5, 3) := by decide +kernel
theorem dX6_joinBatch_10 : decode cX6_joinBatch 10 = .ok (.iconst 0, 1) := by decide +kernel
theorem dX6_joinBatch_11 : decode cX6_joinBatch 11 = .ok (.ireturn, 1) := by decide +kernel
theorem dX6_joinBatch_12 : decode cX6_joinBatch 12 = .ok (.aload_n 2, 1) := by decide +kernel
theorem dX6_joinBatch_13 : decode cX6_joinBatch 13 = .ok (.aload_n 0, 1) := by decide +kernel
theorem dX6_joinBatch_14 : decode cX6_joinBatch 14 = .ok (.getfield 44, 3) := by decide +kernel
theorem dX6_joinBatch_17 : decode cX6_joinBatch 17 = .ok (.putfield 210, 3) := by decide +kernel
theorem dX6_joinBatch_20 : decode cX6_joinBatch 20 = .ok (.iconst 1, 1) := by decide +kernel
theorem dX6_joinBatch_21 : decode cX6_joinBatch 21 = .ok (.ireturn, 1) := by decide +kernel
theorem dX6_leaveBatch_0 : decode cX6_leaveBatch 0 = .ok (.aload_n 0, 1) := by decide +kernel
theorem dX6_leaveBatch_1 : decode cX6_leaveBatch 1 = .ok (.iload_n 1, 1) := by decide +kernel
theorem dX6_leaveBatch_2 : decode cX6_leaveBatch 2 = .ok (.invokevirtual 166, 3) := by decide +kernel
theorem dX6_leaveBatch_5 : decode cX6_leaveBatch 5 = .ok (.astore_n 2, 1) := by decide +kernel
theorem dX6_leaveBatch_6 : decode cX6_leaveBatch 6 = .ok (.aload_n 2, 1) := by decide +kernel
theorem dX6_leaveBatch_7 : decode cX6_leaveBatch 7 = .ok (.ifnull 14, 3) := by decide +kernel
theorem dX6_leaveBatch_10 : decode cX6_leaveBatch 10 = .ok (.aload_n 2, 1) := by decide +kernel
theorem dX6_leaveBatch_11 : decode cX6_leaveBatch 11 = .ok (.getfield 210, 3) := by decide +kernel
theorem dX6_leaveBatch_14 : decode cX6_leaveBatch 14 = .ok (.aload_n 0, 1) := by decide +kernel
theorem dX6_leaveBatch_15 : decode cX6_leaveBatch 15 = .ok (.getfield 44, 3) := by decide +kernel
theorem dX6_leaveBatch_18 : decode cX6_leaveBatch 18 = .ok (.if_icmp .eq 5, 3) := by decide +kernel
theorem dX6_leaveBatch_21 : decode cX6_leaveBatch 21 = .ok (.iconst 0, 1) := by decide +kernel
theorem dX6_leaveBatch_22 : decode cX6_leaveBatch 22 = .ok (.ireturn, 1) := by decide +kernel
theorem dX6_leaveBatch_23 : decode cX6_leaveBatch 23 = .ok (.aload_n 2, 1) := by decide +kernel
theorem dX6_leaveBatch_24 : decode cX6_leaveBatch 24 = .ok (.iconst (-1), 1) := by decide +kernel
theorem dX6_leaveBatch_25 : decode cX6_leaveBatch 25 = .ok (.putfield 210, 3) := by decide +kernel
theorem dX6_leaveBatch_28 : decode cX6_leaveBatch 28 = .ok (.iconst 1, 1) := by decide +kernel
theorem dX6_leaveBatch_29 : decode cX6_leaveBatch 29 = .ok (.ireturn, 1) := by decide +kernel
theorem dX7_init_0 : decode cX7_init 0 = .ok (.aload_n 0, 1) := by decide +kernel
theorem dX7_init_1 : decode cX7_init 1 = .ok (.invokespecial 1, 3) := by decide +kernel
theorem dX7_init_4 : decode cX7_init 4 = .ok (.aload_n 0, 1) := by decide +kernel
theorem dX7_init_5 : decode cX7_init 5 = .ok (.sipush 200, 3) := by decide +kernel
theorem dX7_init_8 : decode cX7_init 8 = .ok (.newarray .byte, 2) := by decide +kernel
theorem dX7_init_10 : decode cX7_init 10 = .ok (.putfield 7, 3) := by decide +kernel
theorem dX7_init_13 : decode cX7_init 13 = .ok (.aload_n 0, 1) := by decide +kernel
theorem dX7_init_14 : decode cX7_init 14 = .ok (.iconst (-1), 1) := by decide +kernel
theorem dX7_init_15 : decode cX7_init 15 = .ok (.putfield 13, 3) := by decide +kernel
theorem dX7_init_18 : decode cX7_init 18 = .ok (.aload_n 0, 1) := by decide +kernel
theorem dX7_init_19 : decode cX7_init 19 = .ok (.bipush 11, 2) := by decide +kernel
theorem dX7_init_21 : decode cX7_init 21 = .ok (.newarray .int, 2) := by decide +kernel
theorem dX7_init_23 : decode cX7_init 23 = .ok (.putfield 17, 3) := by decide +kernel
theorem dX7_init_26 : decode cX7_init 26 = .ok (.aload_n 0, 1) := by decide +kernel
theorem dX7_init_27 : decode cX7_init 27 = .ok (.sipush 440, 3) := by decide +kernel
theorem dX7_init_30 : decode cX7_init 30 = .ok (.newarray .int, 2) := by decide +kernel
theorem dX7_init_32 : decode cX7_init 32 = .ok (.putfield 21, 3) := by decide +kernel
theorem dX7_init_35 : decode cX7_init 35 = .ok (.aload_n 0, 1) := by decide +kernel
theorem dX7_init_36 : decode cX7_init 36 = .ok (.sipush 440, 3) := by decide +kernel
theorem dX7_init_39 : decode cX7_init 39 = .ok (.newarray .int, 2) := by decide +kernel
theorem dX7_init_41 : decode cX7_init 41 = .ok (.putfield 24, 3) := by decide +kernel
theorem dX7_init_44 : decode cX7_init 44 = .ok (.aload_n 0, 1) := by decide +kernel
theorem dX7_init_45 : decode cX7_init 45 = .ok (.bipush 10, 2) := by decide +kernel
theorem dX7_init_47 : decode cX7_init 47 = .ok (.newarray .int, 2) := by decide +kernel
theorem dX7_init_49 : decode cX7_init 49 = .ok (.putfield 27, 3) := by decide +kernel
theorem dX7_init_52 : decode cX7_init 52 = .ok (.aload_n 0, 1) := by decide +kernel
theorem dX7_init_53 : decode cX7_init 53 = .ok (.bipush 20, 2) := by decide +kernel
theorem dX7_init_55 : decode cX7_init 55 = .ok (.newarray .int, 2) := by decide +kernel
theorem dX7_init_57 : decode cX7_init 57 = .ok (.putfield 30, 3) := by decide +kernel
theorem dX7_init_60 : decode cX7_init 60 = .ok (.aload_n 0, 1) := by decide +kernel
theorem dX7_init_61 : decode cX7_init 61 = .ok (.bipush 80, 2) := by decide +kernel
theorem dX7_init_63 : decode cX7_init 63 = .ok (.newarray .int, 2) := by decide +kernel
theorem dX7_init_65 : decode cX7_init 65 = .ok (.putfield 33, 3) := by decide +kernel
theorem dX7_init_68 : decode cX7_init 68 = .ok (.aload_n 0, 1) := by decide +kernel
theorem dX7_init_69 : decode cX7_init 69 = .ok (.bipush 80, 2) := by decide +kernel
theorem dX7_init_71 : decode cX7_init 71 = .ok (.newarray .int, 2) := by decide +kernel
theorem dX7_init_73 : decode cX7_init 73 = .ok (.putfield 36, 3) := by decide +kernel
theorem dX7_init_76 : decode cX7_init 76 = .ok (.aload_n 0, 1) := by decide +kernel
theorem dX7_init_77 : decode cX7_init 77 = .ok (.bipush 40, 2) := by decide +kernel
theorem dX7_init_79 : decode cX7_init 79 = .ok (.newarray .byte, 2) := by decide +kernel
theorem dX7_init_81 : decode cX7_init 81 = .ok (.putfield 39, 3) := by decide +kernel
theorem dX7_init_84 : decode cX7_init 84 = .ok (.aload_n 0, 1) := by decide +kernel
theorem dX7_init_85 : decode cX7_init 85 = .ok (.bipush 60, 2) := by decide +kernel
theorem dX7_init_87 : decode cX7_init 87 = .ok (.newarray .int, 2) := by decide +kernel
theorem dX7_init_89 : decode cX7_init 89 = .ok (.putfield 42, 3) := by decide +kernel
theorem dX7_init_92 : decode cX7_init 92 = .ok (.aload_n 0, 1) := by decide +kernel
theorem dX7_init_93 : decode cX7_init 93 = .ok (.sipush 2400, 3) := by decide +kernel
theorem dX7_init_96 : decode cX7_init 96 = .ok (.newarray .byte, 2) := by decide +kernel
theorem dX7_init_98 : decode cX7_init 98 = .ok (.putfield 45, 3) := by decide +kernel
theorem dX7_init_101 : decode cX7_init 101 = .ok (.aload_n 0, 1) := by decide +kernel
theorem dX7_init_102 : decode cX7_init 102 = .ok (.bipush 60, 2) := by decide +kernel
theorem dX7_init_104 : decode cX7_init 104 = .ok (.newarray .int, 2) := by decide +kernel
theorem dX7_init_106 : decode cX7_init 106 = .ok (.putfield 48, 3) := by decide +kernel
theorem dX7_init_109 : decode cX7_init 109 = .ok (.aload_n 0, 1) := by decide +kernel
theorem dX7_init_110 : decode cX7_init 110 = .ok (.bipush 60, 2) := by decide +kernel
theorem dX7_init_112 : decode cX7_init 112 = .ok (.newarray .int, 2) := by decide +kernel
theorem dX7_init_114 : decode cX7_init 114 = .ok (.putfield 51, 3) := by decide +kernel
theorem dX7_init_117 : decode cX7_init 117 = .ok (.aload_n 0, 1) := by decide +kernel
theorem dX7_init_118 : decode cX7_init 118 = .ok (.bipush 60, 2) := by decide +kernel
theorem dX7_init_120 : decode cX7_init 120 = .ok (.newarray .boolean, 2) := by decide +kernel
theorem dX7_init_122 : decode cX7_init 122 = .ok (.putfield 54, 3) := by decide +kernel
theorem dX7_init_125 : decode cX7_init 125 = .ok (.aload_n 0, 1) := by decide +kernel
theorem dX7_init_126 : decode cX7_init 126 = .ok (.bipush 60, 2) := by decide +kernel
theorem dX7_init_128 : decode cX7_init 128 = .ok (.newarray .int, 2) := by decide +kernel
theorem dX7_init_130 : decode cX7_init 130 = .ok (.putfield 58, 3) := by decide +kernel
theorem dX7_init_133 : decode cX7_init 133 = .ok (.aload_n 0, 1) := by decide +kernel
theorem dX7_init_134 : decode cX7_init 134 = .ok (.sipush 600, 3) := by decide +kernel
theorem dX7_init_137 : decode cX7_init 137 = .ok (.newarray .boolean, 2) := by decide +kernel
theorem dX7_init_139 : decode cX7_init 139 = .ok (.putfield 61, 3) := by decide +kernel
theorem dX7_init_142 : decode cX7_init 142 = .ok (.aload_n 0, 1) := by decide +kernel
theorem dX7_init_143 : decode cX7_init 143 = .ok (.iconst (-1), 1) := by decide +kernel
theorem dX7_init_144 : decode cX7_init 144 = .ok (.putfield 64, 3) := by decide +kernel
theorem dX7_init_147 : decode cX7_init 147 = .ok (.aload_n 0, 1) := by decide +kernel
theorem dX7_init_148 : decode cX7_init 148 = .ok (.bipush 40, 2) := by decide +kernel
theorem dX7_init_150 : decode cX7_init 150 = .ok (.newarray .byte, 2) := by decide +kernel
theorem dX7_init_152 : decode cX7_init 152 = .ok (.putfield 67, 3) := by decide +kernel
theorem dX7_init_155 : decode cX7_init 155 = .ok (.aload_n 0, 1) := by decide +kernel
theorem dX7_init_156 : decode cX7_init 156 = .ok (.bipush 32, 2) := by decide +kernel
theorem dX7_init_158 : decode cX7_init 158 = .ok (.newarray .int, 2) := by decide +kernel
theorem dX7_init_160 : decode cX7_init 160 = .ok (.putfield 70, 3) := by decide +kernel
theorem dX7_init_163 : decode cX7_init 163 = .ok (.aload_n 0, 1) := by decide +kernel
theorem dX7_init_164 : decode cX7_init 164 = .ok (.iload_n 1, 1) := by decide +kernel
theorem dX7_init_165 : decode cX7_init 165 = .ok (.ifCond .ge 7, 3) := by decide +kernel
theorem dX7_init_168 : decode cX7_init 168 = .ok (.iconst 0, 1) := by decide +kernel
theorem dX7_init_169 : decode cX7_init 169 = .ok (.goto 17, 3) := by decide +kernel
theorem dX7_init_172 : decode cX7_init 172 = .ok (.iload_n 1, 1) := by decide +kernel
theorem dX7_init_173 : decode cX7_init 173 = .ok (.sipush 2000, 3) := by decide +kernel
theorem dX7_init_176 : decode cX7_init 176 = .ok (.if_icmp .le 9, 3) := by decide +kernel
theorem dX7_init_179 : decode cX7_init 179 = .ok (.sipush 2000, 3) := by decide +kernel
theorem dX7_init_182 : decode cX7_init 182 = .ok (.goto 4, 3) := by decide +kernel
theorem dX7_init_185 : decode cX7_init 185 = .ok (.iload_n 1, 1) := by decide +kernel
theorem dX7_init_186 : decode cX7_init 186 = .ok (.putfield 73, 3) := by decide +kernel
theorem dX7_init_189 : decode cX7_init 189 = .ok (.aload_n 0, 1) := by decide +kernel
theorem dX7_init_190 : decode cX7_init 190 = .ok (.iload_n 2, 1) := by decide +kernel
theorem dX7_init_191 : decode cX7_init 191 = .ok (.ifCond .ge 7, 3) := by decide +kernel
theorem dX7_init_194 : decode cX7_init 194 = .ok (.iconst 0, 1) := by decide +kernel
theorem dX7_init_195 : decode cX7_init 195 = .ok (.goto 15, 3) := by decide +kernel
theorem dX7_init_198 : decode cX7_init 198 = .ok (.iload_n 2, 1) := by decide +kernel
theorem dX7_init_199 : decode cX7_init 199 = .ok (.bipush 32, 2) := by decide +kernel
theorem dX7_init_201 : decode cX7_init 201 = .ok (.if_icmp .le 8, 3) := by decide +kernel
theorem dX7_init_204 : decode cX7_init 204 = .ok (.bipush 32, 2) := by decide +kernel
theorem dX7_init_206 : decode cX7_init 206 = .ok (.goto 4, 3) := by decide +kernel
theorem dX7_init_209 : decode cX7_init 209 = .ok (.iload_n 2, 1) := by decide +kernel
theorem dX7_init_210 : decode cX7_init 210 = .ok (.putfield 76, 3) := by decide +kernel
theorem dX7_init_213 : decode cX7_init 213 = .ok (.iconst 0, 1) := by decide +kernel
theorem dX7_init_214 : decode cX7_init 214 = .ok (.istore_n 3, 1) := by decide +kernel
theorem dX7_init_215 : decode cX7_init 215 = .ok (.iload_n 3, 1) := by decide +kernel
theorem dX7_init_216 : decode cX7_init 216 = .ok (.bipush 10, 2) := by decide +kernel
theorem dX7_init_218 : decode cX7_init 218 = .ok (.if_icmp .ge 16, 3) := by decide +kernel
theorem dX7_init_221 : decode cX7_init 221 = .ok (.aload_n 0, 1) := by decide +kernel
theorem dX7_init_222 : decode cX7_init 222 = .ok (.getfield 27, 3) := by decide +kernel
theorem dX7_init_225 : decode cX7_init 225 = .ok (.iload_n 3, 1) := by decide +kernel
theorem dX7_init_226 : decode cX7_init 226 = .ok (.iconst (-1), 1) := by decide +kernel
theorem dX7_init_227 : decode cX7_init 227 = .ok (.iastore, 1) := by decide +kernel
theorem dX7_init_228 : decode cX7_init 228 = .ok (.iinc 3 1, 3) := by decide +kernel
theorem dX7_init_231 : decode cX7_init 231 = .ok (.goto (-16), 3) := by decide +kernel
theorem dX7_init_234 : decode cX7_init 234 = .ok (.return_, 1) := by decide +kernel
theorem dX7_thrown_0 : decode cX7_thrown 0 = .ok (.aload_n 0, 1) := by decide +kernel
theorem dX7_thrown_1 : decode cX7_thrown 1 = .ok (.getfield 79, 3) := by decide +kernel
theorem dX7_thrown_4 : decode cX7_thrown 4 = .ok (.ireturn, 1) := by decide +kernel
theorem dX7_in_0 : decode cX7_in 0 = .ok (.iload_n 0, 1) := by decide +kernel
theorem dX7_in_1 : decode cX7_in 1 = .ok (.iload_n 1, 1) := by decide +kernel
theorem dX7_in_2 : decode cX7_in 2 = .ok (.if_icmp .lt 12, 3) := by decide +kernel
theorem dX7_in_5 : decode cX7_in 5 = .ok (.iload_n 0, 1) := by decide +kernel
theorem dX7_in_6 : decode cX7_in 6 = .ok (.iload_n 2, 1) := by decide +kernel
theorem dX7_in_7 : decode cX7_in 7 = .ok (.if_icmp .gt 7, 3) := by decide +kernel
theorem dX7_in_10 : decode cX7_in 10 = .ok (.iconst 1, 1) := by decide +kernel
theorem dX7_in_11 : decode cX7_in 11 = .ok (.goto 4, 3) := by decide +kernel
theorem dX7_in_14 : decode cX7_in 14 = .ok (.iconst 0, 1) := by decide +kernel
theorem dX7_in_15 : decode cX7_in 15 = .ok (.ireturn, 1) := by decide +kernel
theorem dX7_isScript_0 : decode cX7_isScript 0 = .ok (.iload_n 1, 1) := by decide +kernel
theorem dX7_isScript_1 : decode cX7_isScript 1 = .ok (.iconst 0, 1) := by decide +kernel
theorem dX7_isScript_2 : decode cX7_isScript 2 = .ok (.aload_n 0, 1) := by decide +kernel
theorem dX7_isScript_3 : decode cX7_isScript 3 = .ok (.getfield 82, 3) := by decide +kernel
theorem dX7_isScript_6 : decode cX7_isScript 6 = .ok (.iconst 1, 1) := by decide +kernel
theorem dX7_isScript_7 : decode cX7_isScript 7 = .ok (.isub, 1) := by decide +kernel
theorem dX7_isScript_8 : decode cX7_isScript 8 = .ok (.invokestatic 85, 3) := by decide +kernel
theorem dX7_isScript_11 : decode cX7_isScript 11 = .ok (.ireturn, 1) := by decide +kernel
theorem dX7_isItem_0 : decode cX7_isItem 0 = .ok (.iload_n 1, 1) := by decide +kernel
theorem dX7_isItem_1 : decode cX7_isItem 1 = .ok (.iconst 0, 1) := by decide +kernel
theorem dX7_isItem_2 : decode cX7_isItem 2 = .ok (.aload_n 0, 1) := by decide +kernel
theorem dX7_isItem_3 : decode cX7_isItem 3 = .ok (.getfield 89, 3) := by decide +kernel
theorem dX7_isItem_6 : decode cX7_isItem 6 = .ok (.iconst 1, 1) := by decide +kernel
theorem dX7_isItem_7 : decode cX7_isItem 7 = .ok (.isub, 1) := by decide +kernel
theorem dX7_isItem_8 : decode cX7_isItem 8 = .ok (.invokestatic 85, 3) := by decide +kernel
theorem dX7_isItem_11 : decode cX7_isItem 11 = .ok (.ireturn, 1) := by decide +kernel
theorem dX7_sign_0 : decode cX7_sign 0 = .ok (.aload_n 0, 1) := by decide +kernel
theorem dX7_sign_1 : decode cX7_sign 1 = .ok (.iconst 0, 1) := by decide +kernel
theorem dX7_sign_2 : decode cX7_sign 2 = .ok (.putfield 79, 3) := by decide +kernel
theorem dX7_sign_5 : decode cX7_sign 5 = .ok (.aload_n 0, 1) := by decide +kernel
theorem dX7_sign_6 : decode cX7_sign 6 = .ok (.getfield 92, 3) := by decide +kernel
theorem dX7_sign_9 : decode cX7_sign 9 = .ok (.sipush 200, 3) := by decide +kernel
theorem dX7_sign_12 : decode cX7_sign 12 = .ok (.if_icmp .ne 4, 3) := by decide +kernel
theorem dX7_sign_15 : decode cX7_sign 15 = .ok (.return_, 1) := by decide +kernel
theorem dX7_sign_16 : decode cX7_sign 16 = .ok (.aload_n 0, 1) := by decide +kernel
theorem dX7_sign_17 : decode cX7_sign 17 = .ok (.getfield 7, 3) := by decide +kernel
theorem dX7_sign_20 : decode cX7_sign 20 = .ok (.aload_n 0, 1) := by decide +kernel
theorem dX7_sign_21 : decode cX7_sign 21 = .ok (.getfield 92, 3) := by decide +kernel
theorem dX7_sign_24 : decode cX7_sign 24 = .ok (.iload_n 1, 1) := by decide +kernel
theorem dX7_sign_25 : decode cX7_sign 25 = .ok (.i2b, 1) := by decide +kernel
theorem dX7_sign_26 : decode cX7_sign 26 = .ok (.bastore, 1) := by decide +kernel
theorem dX7_sign_27 : decode cX7_sign 27 = .ok (.aload_n 0, 1) := by decide +kernel
theorem dX7_sign_28 : decode cX7_sign 28 = .ok (.dup, 1) := by decide +kernel
theorem dX7_sign_29 : decode cX7_sign 29 = .ok (.getfield 92, 3) := by decide +kernel
theorem dX7_sign_32 : decode cX7_sign 32 = .ok (.iconst 1, 1) := by decide +kernel
theorem dX7_sign_33 : decode cX7_sign 33 = .ok (.iadd, 1) := by decide +kernel
theorem dX7_sign_34 : decode cX7_sign 34 = .ok (.putfield 92, 3) := by decide +kernel
theorem dX7_sign_37 : decode cX7_sign 37 = .ok (.return_, 1) := by decide +kernel
theorem dX7_look_0 : decode cX7_look 0 = .ok (.aload_n 0, 1) := by decide +kernel
theorem dX7_look_1 : decode cX7_look 1 = .ok (.getfield 95, 3) := by decide +kernel
theorem dX7_look_4 : decode cX7_look 4 = .ok (.aload_n 0, 1) := by decide +kernel
theorem dX7_look_5 : decode cX7_look 5 = .ok (.getfield 92, 3) := by decide +kernel
theorem dX7_look_8 : decode cX7_look 8 = .ok (.if_icmp .ge 19, 3) := by decide +kernel
theorem dX7_look_11 : decode cX7_look 11 = .ok (.aload_n 0, 1) := by decide +kernel
theorem dX7_look_12 : decode cX7_look 12 = .ok (.getfield 7, 3) := by decide +kernel
theorem dX7_look_15 : decode cX7_look 15 = .ok (.aload_n 0, 1) := by decide +kernel
theorem dX7_look_16 : decode cX7_look 16 = .ok (.getfield 95, 3) := by decide +kernel
theorem dX7_look_19 : decode cX7_look 19 = .ok (.baload, 1) := by decide +kernel
theorem dX7_look_20 : decode cX7_look 20 = .ok (.sipush 255, 3) := by decide +kernel
theorem dX7_look_23 : decode cX7_look 23 = .ok (.iand, 1) := by decide +kernel
theorem dX7_look_24 : decode cX7_look 24 = .ok (.goto 4, 3) := by decide +kernel
theorem dX7_look_27 : decode cX7_look 27 = .ok (.iconst (-1), 1) := by decide +kernel
theorem dX7_look_28 : decode cX7_look 28 = .ok (.ireturn, 1) := by decide +kernel
theorem dX7_isLetter_0 : decode cX7_isLetter 0 = .ok (.iload_n 0, 1) := by decide +kernel
theorem dX7_isLetter_1 : decode cX7_isLetter 1 = .ok (.bipush 114, 2) := by decide +kernel
theorem dX7_isLetter_3 : decode cX7_isLetter 3 = .ok (.if_icmp .eq 81, 3) := by decide +kernel
theorem dX7_isLetter_6 : decode cX7_isLetter 6 = .ok (.iload_n 0, 1) := by decide +kernel
theorem dX7_isLetter_7 : decode cX7_isLetter 7 = .ok (.bipush 119, 2) := by decide +kernel
theorem dX7_isLetter_9 : decode cX7_isLetter 9 = .ok (.if_icmp .eq 75, 3) := by decide +kernel
theorem dX7_isLetter_12 : decode cX7_isLetter 12 = .ok (.iload_n 0, 1) := by decide +kernel
theorem dX7_isLetter_13 : decode cX7_isLetter 13 = .ok (.bipush 97, 2) := by decide +kernel
theorem dX7_isLetter_15 : decode cX7_isLetter 15 = .ok (.if_icmp .eq 69, 3) := by decide +kernel
theorem dX7_isLetter_18 : decode cX7_isLetter 18 = .ok (.iload_n 0, 1) := by decide +kernel
theorem dX7_isLetter_19 : decode cX7_isLetter 19 = .ok (.bipush 120, 2) := by decide +kernel
theorem dX7_isLetter_21 : decode cX7_isLetter 21 = .ok (.if_icmp .eq 63, 3) := by decide +kernel
theorem dX7_isLetter_24 : decode cX7_isLetter 24 = .ok (.iload_n 0, 1) := by decide +kernel
theorem dX7_isLetter_25 : decode cX7_isLetter 25 = .ok (.bipush 115, 2) := by decide +kernel
theorem dX7_isLetter_27 : decode cX7_isLetter 27 = .ok (.if_icmp .eq 57, 3) := by decide +kernel
theorem dX7_isLetter_30 : decode cX7_isLetter 30 = .ok (.iload_n 0, 1) := by decide +kernel
theorem dX7_isLetter_31 : decode cX7_isLetter 31 = .ok (.bipush 103, 2) := by decide +kernel
theorem dX7_isLetter_33 : decode cX7_isLetter 33 = .ok (.if_icmp .eq 51, 3) := by decide +kernel
theorem dX7_isLetter_36 : decode cX7_isLetter 36 = .ok (.iload_n 0, 1) := by decide +kernel
theorem dX7_isLetter_37 : decode cX7_isLetter 37 = .ok (.bipush 105, 2) := by decide +kernel
theorem dX7_isLetter_39 : decode cX7_isLetter 39 = .ok (.if_icmp .eq 45, 3) := by decide +kernel
theorem dX7_isLetter_42 : decode cX7_isLetter 42 = .ok (.iload_n 0, 1) := by decide +kernel
theorem dX7_isLetter_43 : decode cX7_isLetter 43 = .ok (.bipush 107, 2) := by decide +kernel
theorem dX7_isLetter_45 : decode cX7_isLetter 45 = .ok (.if_icmp .eq 39, 3) := by decide +kernel
theorem dX7_isLetter_48 : decode cX7_isLetter 48 = .ok (.iload_n 0, 1) := by decide +kernel
theorem dX7_isLetter_49 : decode cX7_isLetter 49 = .ok (.bipush 106, 2) := by decide +kernel
theorem dX7_isLetter_51 : decode cX7_isLetter 51 = .ok (.if_icmp .eq 33, 3) := by decide +kernel
theorem dX7_isLetter_54 : decode cX7_isLetter 54 = .ok (.iload_n 0, 1) := by decide +kernel
theorem dX7_isLetter_55 : decode cX7_isLetter 55 = .ok (.bipush 122, 2) := by decide +kernel
theorem dX7_isLetter_57 : decode cX7_isLetter 57 = .ok (.if_icmp .eq 27, 3) := by decide +kernel
theorem dX7_isLetter_60 : decode cX7_isLetter 60 = .ok (.iload_n 0, 1) := by decide +kernel
theorem dX7_isLetter_61 : decode cX7_isLetter 61 = .ok (.bipush 101, 2) := by decide +kernel
theorem dX7_isLetter_63 : decode cX7_isLetter 63 = .ok (.if_icmp .eq 21, 3) := by decide +kernel
theorem dX7_isLetter_66 : decode cX7_isLetter 66 = .ok (.iload_n 0, 1) := by decide +kernel
theorem dX7_isLetter_67 : decode cX7_isLetter 67 = .ok (.bipush 98, 2) := by decide +kernel
theorem dX7_isLetter_69 : decode cX7_isLetter 69 = .ok (.if_icmp .eq 15, 3) := by decide +kernel
theorem dX7_isLetter_72 : decode cX7_isLetter 72 = .ok (.iload_n 0, 1) := by decide +kernel
theorem dX7_isLetter_73 : decode cX7_isLetter 73 = .ok (.bipush 102, 2) := by decide +kernel
theorem dX7_isLetter_75 : decode cX7_isLetter 75 = .ok (.if_icmp .eq 9, 3) := by decide +kernel
theorem dX7_isLetter_78 : decode cX7_isLetter 78 = .ok (.iload_n 0, 1) := by decide +kernel
theorem dX7_isLetter_79 : decode cX7_isLetter 79 = .ok (.bipush 104, 2) := by decide +kernel
theorem dX7_isLetter_81 : decode cX7_isLetter 81 = .ok (.if_icmp .ne 7, 3) := by decide +kernel
theorem dX7_isLetter_84 : decode cX7_isLetter 84 = .ok (.iconst 1, 1) := by decide +kernel
theorem dX7_isLetter_85 : decode cX7_isLetter 85 = .ok (.goto 4, 3) := by decide +kernel
theorem dX7_isLetter_88 : decode cX7_isLetter 88 = .ok (.iconst 0, 1) := by decide +kernel
theorem dX7_isLetter_89 : decode cX7_isLetter 89 = .ok (.ireturn, 1) := by decide +kernel
theorem dX7_command_0 : decode cX7_command 0 = .ok (.aload_n 0, 1) := by decide +kernel
theorem dX7_command_1 : decode cX7_command 1 = .ok (.invokevirtual 98, 3) := by decide +kernel
theorem dX7_command_4 : decode cX7_command 4 = .ok (.invokestatic 102, 3) := by decide +kernel
theorem dX7_command_7 : decode cX7_command 7 = .ok (.ifCond .eq 9, 3) := by decide +kernel
theorem dX7_command_10 : decode cX7_command 10 = .ok (.iload_n 1, 1) := by decide +kernel
theorem dX7_command_11 : decode cX7_command 11 = .ok (.bipush 40, 2) := by decide +kernel
theorem dX7_command_13 : decode cX7_command 13 = .ok (.if_icmp .ne 5, 3) := by decide +kernel
theorem dX7_command_16 : decode cX7_command 16 = .ok (.iconst 0, 1) := by decide +kernel
theorem dX7_command_17 : decode cX7_command 17 = .ok (.ireturn, 1) := by decide +kernel
theorem dX7_command_18 : decode cX7_command 18 = .ok (.aload_n 0, 1) := by decide +kernel
theorem dX7_command_19 : decode cX7_command 19 = .ok (.getfield 21, 3) := by decide +kernel
theorem dX7_command_22 : decode cX7_command 22 = .ok (.bipush 40, 2) := by decide +kernel
theorem dX7_command_24 : decode cX7_command 24 = .ok (.aload_n 0, 1) := by decide +kernel
theorem dX7_command_25 : decode cX7_command 25 = .ok (.getfield 82, 3) := by decide +kernel
theorem dX7_command_28 : decode cX7_command 28 = .ok (.imul, 1) := by decide +kernel
theorem dX7_command_29 : decode cX7_command 29 = .ok (.iload_n 1, 1) := by decide +kernel
theorem dX7_command_30 : decode cX7_command 30 = .ok (.iadd, 1) := by decide +kernel
theorem dX7_command_31 : decode cX7_command 31 = .ok (.aload_n 0, 1) := by decide +kernel
theorem dX7_command_32 : decode cX7_command 32 = .ok (.invokevirtual 98, 3) := by decide +kernel
theorem dX7_command_35 : decode cX7_command 35 = .ok (.iastore, 1) := by decide +kernel
theorem dX7_command_36 : decode cX7_command 36 = .ok (.aload_n 0, 1) := by decide +kernel
theorem dX7_command_37 : decode cX7_command 37 = .ok (.dup, 1) := by decide +kernel
theorem dX7_command_38 : decode cX7_command 38 = .ok (.getfield 95, 3) := by decide +kernel
theorem dX7_command_41 : decode cX7_command 41 = .ok (.iconst 1, 1) := by decide +kernel
theorem dX7_command_42 : decode cX7_command 42 = .ok (.iadd, 1) := by decide +kernel
theorem dX7_command_43 : decode cX7_command 43 = .ok (.putfield 95, 3) := by decide +kernel
theorem dX7_command_46 : decode cX7_command 46 = .ok (.aload_n 0, 1) := by decide +kernel
theorem dX7_command_47 : decode cX7_command 47 = .ok (.getfield 95, 3) := by decide +kernel
theorem dX7_command_50 : decode cX7_command 50 = .ok (.istore_n 2, 1) := by decide +kernel
theorem dX7_command_51 : decode cX7_command 51 = .ok (.iconst 0, 1) := by decide +kernel
theorem dX7_command_52 : decode cX7_command 52 = .ok (.istore_n 3, 1) := by decide +kernel
theorem dX7_command_53 : decode cX7_command 53 = .ok (.aload_n 0, 1) := by decide +kernel
theorem dX7_command_54 : decode cX7_command 54 = .ok (.getfield 95, 3) := by decide +kernel
theorem dX7_command_57 : decode cX7_command 57 = .ok (.iload_n 2, 1) := by decide +kernel
theorem dX7_command_58 : decode cX7_command 58 = .ok (.iconst 3, 1) := by decide +kernel
theorem dX7_command_59 : decode cX7_command 59 = .ok (.iadd, 1) := by decide +kernel
theorem dX7_command_60 : decode cX7_command 60 = .ok (.if_icmp .ge 43, 3) := by decide +kernel
theorem dX7_command_63 : decode cX7_command 63 = .ok (.aload_n 0, 1) := by decide +kernel
theorem dX7_command_64 : decode cX7_command 64 = .ok (.invokevirtual 98, 3) := by decide +kernel
theorem dX7_command_67 : decode cX7_command 67 = .ok (.bipush 48, 2) := by decide +kernel
theorem dX7_command_69 : decode cX7_command 69 = .ok (.bipush 57, 2) := by decide +kernel
theorem dX7_command_71 : decode cX7_command 71 = .ok (.invokestatic 85, 3) := by decide +kernel
theorem dX7_command_74 : decode cX7_command 74 = .ok (.ifCond .eq 29, 3) := by decide +kernel
theorem dX7_command_77 : decode cX7_command 77 = .ok (.bipush 10, 2) := by decide +kernel
theorem dX7_command_79 : decode cX7_command 79 = .ok (.iload_n 3, 1) := by decide +kernel
theorem dX7_command_80 : decode cX7_command 80 = .ok (.imul, 1) := by decide +kernel
theorem dX7_command_81 : decode cX7_command 81 = .ok (.aload_n 0, 1) := by decide +kernel
theorem dX7_command_82 : decode cX7_command 82 = .ok (.invokevirtual 98, 3) := by decide +kernel
theorem dX7_command_85 : decode cX7_command 85 = .ok (.iadd, 1) := by decide +kernel
theorem dX7_command_86 : decode cX7_command 86 = .ok (.bipush 48, 2) := by decide +kernel
theorem dX7_command_88 : decode cX7_command 88 = .ok (.isub, 1) := by decide +kernel
theorem dX7_command_89 : decode cX7_command 89 = .ok (.istore_n 3, 1) := by decide +kernel
theorem dX7_command_90 : decode cX7_command 90 = .ok (.aload_n 0, 1) := by decide +kernel
theorem dX7_command_91 : decode cX7_command 91 = .ok (.dup, 1) := by decide +kernel
theorem dX7_command_92 : decode cX7_command 92 = .ok (.getfield 95, 3) := by decide +kernel
theorem dX7_command_95 : decode cX7_command 95 = .ok (.iconst 1, 1) := by decide +kernel
theorem dX7_command_96 : decode cX7_command 96 = .ok (.iadd, 1) := by decide +kernel
theorem dX7_command_97 : decode cX7_command 97 = .ok (.putfield 95, 3) := by decide +kernel
theorem dX7_command_100 : decode cX7_command 100 = .ok (.goto (-47), 3) := by decide +kernel
theorem dX7_command_103 : decode cX7_command 103 = .ok (.aload_n 0, 1) := by decide +kernel
theorem dX7_command_104 : decode cX7_command 104 = .ok (.getfield 95, 3) := by decide +kernel
theorem dX7_command_107 : decode cX7_command 107 = .ok (.iload_n 2, 1) := by decide +kernel
theorem dX7_command_108 : decode cX7_command 108 = .ok (.if_icmp .ne 5, 3) := by decide +kernel
theorem dX7_command_111 : decode cX7_command 111 = .ok (.iconst 0, 1) := by decide +kernel
theorem dX7_command_112 : decode cX7_command 112 = .ok (.ireturn, 1) := by decide +kernel
theorem dX7_command_113 : decode cX7_command 113 = .ok (.aload_n 0, 1) := by decide +kernel
theorem dX7_command_114 : decode cX7_command 114 = .ok (.getfield 24, 3) := by decide +kernel
theorem dX7_command_117 : decode cX7_command 117 = .ok (.bipush 40, 2) := by decide +kernel
theorem dX7_command_119 : decode cX7_command 119 = .ok (.aload_n 0, 1) := by decide +kernel
theorem dX7_command_120 : decode cX7_command 120 = .ok (.getfield 82, 3) := by decide +kernel
theorem dX7_command_123 : decode cX7_command 123 = .ok (.imul, 1) := by decide +kernel
theorem dX7_command_124 : decode cX7_command 124 = .ok (.iload_n 1, 1) := by decide +kernel
theorem dX7_command_125 : decode cX7_command 125 = .ok (.iadd, 1) := by decide +kernel
theorem dX7_command_126 : decode cX7_command 126 = .ok (.iload_n 3, 1) := by decide +kernel
theorem dX7_command_127 : decode cX7_command 127 = .ok (.iastore, 1) := by decide +kernel
theorem dX7_command_128 : decode cX7_command 128 = .ok (.iload_n 3, 1) := by decide +kernel
theorem dX7_command_129 : decode cX7_command 129 = .ok (.sipush 256, 3) := by decide +kernel
theorem dX7_command_132 : decode cX7_command 132 = .ok (.if_icmp .ge 5, 3) := by decide +kernel
theorem dX7_command_135 : decode cX7_command 135 = .ok (.iconst 1, 1) := by decide +kernel
theorem dX7_command_136 : decode cX7_command 136 = .ok (.ireturn, 1) := by decide +kernel
theorem dX7_command_137 : decode cX7_command 137 = .ok (.aload_n 0, 1) := by decide +kernel
theorem dX7_command_138 : decode cX7_command 138 = .ok (.iload_n 2, 1) := by decide +kernel
theorem dX7_command_139 : decode cX7_command 139 = .ok (.putfield 95, 3) := by decide +kernel
theorem dX7_command_142 : decode cX7_command 142 = .ok (.iconst 0, 1) := by decide +kernel
theorem dX7_command_143 : decode cX7_command 143 = .ok (.ireturn, 1) := by decide +kernel
theorem dX7_reads_0 : decode cX7_reads 0 = .ok (.aload_n 0, 1) := by decide +kernel
theorem dX7_reads_1 : decode cX7_reads 1 = .ok (.iconst 0, 1) := by decide +kernel
theorem dX7_reads_2 : decode cX7_reads 2 = .ok (.putfield 95, 3) := by decide +kernel
theorem dX7_reads_5 : decode cX7_reads 5 = .ok (.iconst 0, 1) := by decide +kernel
theorem dX7_reads_6 : decode cX7_reads 6 = .ok (.istore_n 1, 1) := by decide +kernel
theorem dX7_reads_7 : decode cX7_reads 7 = .ok (.iconst 1, 1) := by decide +kernel
theorem dX7_reads_8 : decode cX7_reads 8 = .ok (.istore_n 2, 1) := by decide +kernel
theorem dX7_reads_9 : decode cX7_reads 9 = .ok (.iload_n 2, 1) := by decide +kernel
theorem dX7_reads_10 : decode cX7_reads 10 = .ok (.ifCond .eq 69, 3) := by decide +kernel
theorem dX7_reads_13 : decode cX7_reads 13 = .ok (.aload_n 0, 1) := by decide +kernel
theorem dX7_reads_14 : decode cX7_reads 14 = .ok (.iload_n 1, 1) := by decide +kernel
theorem dX7_reads_15 : decode cX7_reads 15 = .ok (.invokevirtual 106, 3) := by decide +kernel
theorem dX7_reads_18 : decode cX7_reads 18 = .ok (.ifCond .ne 5, 3) := by decide +kernel
theorem dX7_reads_21 : decode cX7_reads 21 = .ok (.iconst 0, 1) := by decide +kernel
theorem dX7_reads_22 : decode cX7_reads 22 = .ok (.ireturn, 1) := by decide +kernel
theorem dX7_reads_23 : decode cX7_reads 23 = .ok (.iinc 1 1, 3) := by decide +kernel
theorem dX7_reads_26 : decode cX7_reads 26 = .ok (.aload_n 0, 1) := by decide +kernel
theorem dX7_reads_27 : decode cX7_reads 27 = .ok (.getfield 95, 3) := by decide +kernel
theorem dX7_reads_30 : decode cX7_reads 30 = .ok (.aload_n 0, 1) := by decide +kernel
theorem dX7_reads_31 : decode cX7_reads 31 = .ok (.getfield 92, 3) := by decide +kernel
theorem dX7_reads_34 : decode cX7_reads 34 = .ok (.if_icmp .ge 7, 3) := by decide +kernel
theorem dX7_reads_37 : decode cX7_reads 37 = .ok (.iconst 1, 1) := by decide +kernel
theorem dX7_reads_38 : decode cX7_reads 38 = .ok (.goto 4, 3) := by decide +kernel
theorem dX7_reads_41 : decode cX7_reads 41 = .ok (.iconst 0, 1) := by decide +kernel
theorem dX7_reads_42 : decode cX7_reads 42 = .ok (.istore_n 2, 1) := by decide +kernel
theorem dX7_reads_43 : decode cX7_reads 43 = .ok (.iload_n 2, 1) := by decide +kernel
theorem dX7_reads_44 : decode cX7_reads 44 = .ok (.ifCond .eq 14, 3) := by decide +kernel
theorem dX7_reads_47 : decode cX7_reads 47 = .ok (.aload_n 0, 1) := by decide +kernel
theorem dX7_reads_48 : decode cX7_reads 48 = .ok (.invokevirtual 98, 3) := by decide +kernel
theorem dX7_reads_51 : decode cX7_reads 51 = .ok (.bipush 32, 2) := by decide +kernel
theorem dX7_reads_53 : decode cX7_reads 53 = .ok (.if_icmp .eq 5, 3) := by decide +kernel
theorem dX7_reads_56 : decode cX7_reads 56 = .ok (.iconst 0, 1) := by decide +kernel
theorem dX7_reads_57 : decode cX7_reads 57 = .ok (.ireturn, 1) := by decide +kernel
theorem dX7_reads_58 : decode cX7_reads 58 = .ok (.aload_n 0, 1) := by decide +kernel
theorem dX7_reads_59 : decode cX7_reads 59 = .ok (.dup, 1) := by decide +kernel
theorem dX7_reads_60 : decode cX7_reads 60 = .ok (.getfield 95, 3) := by decide +kernel
theorem dX7_reads_63 : decode cX7_reads 63 = .ok (.iload_n 2, 1) := by decide +kernel
theorem dX7_reads_64 : decode cX7_reads 64 = .ok (.ifCond .eq 7, 3) := by decide +kernel
theorem dX7_reads_67 : decode cX7_reads 67 = .ok (.iconst 1, 1) := by decide +kernel
theorem dX7_reads_68 : decode cX7_reads 68 = .ok (.goto 4, 3) := by decide +kernel
theorem dX7_reads_71 : decode cX7_reads 71 = .ok (.iconst 0, 1) := by decide +kernel
theorem dX7_reads_72 : decode cX7_reads 72 = .ok (.iadd, 1) := by decide +kernel
theorem dX7_reads_73 : decode cX7_reads 73 = .ok (.putfield 95, 3) := by decide +kernel
theorem dX7_reads_76 : decode cX7_reads 76 = .ok (.goto (-67), 3) := by decide +kernel
theorem dX7_reads_79 : decode cX7_reads 79 = .ok (.aload_n 0, 1) := by decide +kernel
theorem dX7_reads_80 : decode cX7_reads 80 = .ok (.getfield 17, 3) := by decide +kernel
theorem dX7_reads_83 : decode cX7_reads 83 = .ok (.aload_n 0, 1) := by decide +kernel
theorem dX7_reads_84 : decode cX7_reads 84 = .ok (.getfield 82, 3) := by decide +kernel
theorem dX7_reads_87 : decode cX7_reads 87 = .ok (.iload_n 1, 1) := by decide +kernel
theorem dX7_reads_88 : decode cX7_reads 88 = .ok (.iastore, 1) := by decide +kernel
theorem dX7_reads_89 : decode cX7_reads 89 = .ok (.iconst 1, 1) := by decide +kernel
theorem dX7_reads_90 : decode cX7_reads 90 = .ok (.ireturn, 1) := by decide +kernel
theorem dX7_read_0 : decode cX7_read 0 = .ok (.aload_n 0, 1) := by decide +kernel
theorem dX7_read_1 : decode cX7_read 1 = .ok (.invokevirtual 109, 3) := by decide +kernel
theorem dX7_read_4 : decode cX7_read 4 = .ok (.istore_n 1, 1) := by decide +kernel
theorem dX7_read_5 : decode cX7_read 5 = .ok (.aload_n 0, 1) := by decide +kernel
theorem dX7_read_6 : decode cX7_read 6 = .ok (.iconst 0, 1) := by decide +kernel
theorem dX7_read_7 : decode cX7_read 7 = .ok (.putfield 92, 3) := by decide +kernel
theorem dX7_read_10 : decode cX7_read 10 = .ok (.aload_n 0, 1) := by decide +kernel
theorem dX7_read_11 : decode cX7_read 11 = .ok (.iload_n 1, 1) := by decide +kernel
theorem dX7_read_12 : decode cX7_read 12 = .ok (.ifCond .eq 7, 3) := by decide +kernel
theorem dX7_read_15 : decode cX7_read 15 = .ok (.iconst (-1), 1) := by decide +kernel
theorem dX7_read_16 : decode cX7_read 16 = .ok (.goto 7, 3) := by decide +kernel
theorem dX7_read_19 : decode cX7_read 19 = .ok (.aload_n 0, 1) := by decide +kernel
theorem dX7_read_20 : decode cX7_read 20 = .ok (.getfield 95, 3) := by decide +kernel
theorem dX7_read_23 : decode cX7_read 23 = .ok (.putfield 13, 3) := by decide +kernel
theorem dX7_read_26 : decode cX7_read 26 = .ok (.aload_n 0, 1) := by decide +kernel
theorem dX7_read_27 : decode cX7_read 27 = .ok (.iload_n 1, 1) := by decide +kernel
theorem dX7_read_28 : decode cX7_read 28 = .ok (.ifCond .eq 7, 3) := by decide +kernel
theorem dX7_read_31 : decode cX7_read 31 = .ok (.iconst 0, 1) := by decide +kernel
theorem dX7_read_32 : decode cX7_read 32 = .ok (.goto 4, 3) := by decide +kernel
theorem dX7_read_35 : decode cX7_read 35 = .ok (.iconst 1, 1) := by decide +kernel
theorem dX7_read_36 : decode cX7_read 36 = .ok (.putfield 79, 3) := by decide +kernel
theorem dX7_read_39 : decode cX7_read 39 = .ok (.iload_n 1, 1) := by decide +kernel
theorem dX7_read_40 : decode cX7_read 40 = .ok (.ifCond .ne 5, 3) := by decide +kernel
theorem dX7_read_43 : decode cX7_read 43 = .ok (.iconst 0, 1) := by decide +kernel
theorem dX7_read_44 : decode cX7_read 44 = .ok (.ireturn, 1) := by decide +kernel
theorem dX7_read_45 : decode cX7_read 45 = .ok (.aload_n 0, 1) := by decide +kernel
theorem dX7_read_46 : decode cX7_read 46 = .ok (.getfield 82, 3) := by decide +kernel
theorem dX7_read_49 : decode cX7_read 49 = .ok (.bipush 10, 2) := by decide +kernel
theorem dX7_read_51 : decode cX7_read 51 = .ok (.if_icmp .ne 6, 3) := by decide +kernel
theorem dX7_read_54 : decode cX7_read 54 = .ok (.bipush (-4), 2) := by decide +kernel
theorem dX7_read_56 : decode cX7_read 56 = .ok (.ireturn, 1) := by decide +kernel
theorem dX7_read_57 : decode cX7_read 57 = .ok (.aload_n 0, 1) := by decide +kernel
theorem dX7_read_58 : decode cX7_read 58 = .ok (.dup, 1) := by decide +kernel
theorem dX7_read_59 : decode cX7_read 59 = .ok (.getfield 82, 3) := by decide +kernel
theorem dX7_read_62 : decode cX7_read 62 = .ok (.iconst 1, 1) := by decide +kernel
theorem dX7_read_63 : decode cX7_read 63 = .ok (.iadd, 1) := by decide +kernel
theorem dX7_read_64 : decode cX7_read 64 = .ok (.putfield 82, 3) := by decide +kernel
theorem dX7_read_67 : decode cX7_read 67 = .ok (.aload_n 0, 1) := by decide +kernel
theorem dX7_read_68 : decode cX7_read 68 = .ok (.getfield 82, 3) := by decide +kernel
theorem dX7_read_71 : decode cX7_read 71 = .ok (.iconst 1, 1) := by decide +kernel
theorem dX7_read_72 : decode cX7_read 72 = .ok (.isub, 1) := by decide +kernel
theorem dX7_read_73 : decode cX7_read 73 = .ok (.ireturn, 1) := by decide +kernel
theorem dX7_place_0 : decode cX7_place 0 = .ok (.aload_n 0, 1) := by decide +kernel
theorem dX7_place_1 : decode cX7_place 1 = .ok (.iconst 0, 1) := by decide +kernel
theorem dX7_place_2 : decode cX7_place 2 = .ok (.putfield 79, 3) := by decide +kernel
theorem dX7_place_5 : decode cX7_place 5 = .ok (.aload_n 0, 1) := by decide +kernel
theorem dX7_place_6 : decode cX7_place 6 = .ok (.getfield 13, 3) := by decide +kernel
theorem dX7_place_9 : decode cX7_place 9 = .ok (.ireturn, 1) := by decide +kernel
theorem dX7_put_0 : decode cX7_put 0 = .ok (.iconst 0, 1) := by decide +kernel
theorem dX7_put_1 : decode cX7_put 1 = .ok (.istore_n 3, 1) := by decide +kernel
theorem dX7_put_2 : decode cX7_put 2 = .ok (.iload_n 3, 1) := by decide +kernel
theorem dX7_put_3 : decode cX7_put 3 = .ok (.iload_n 2, 1) := by decide +kernel
theorem dX7_put_4 : decode cX7_put 4 = .ok (.if_icmp .ge 39, 3) := by decide +kernel
theorem dX7_put_7 : decode cX7_put 7 = .ok (.aload_n 0, 1) := by decide +kernel
theorem dX7_put_8 : decode cX7_put 8 = .ok (.getfield 113, 3) := by decide +kernel
theorem dX7_put_11 : decode cX7_put 11 = .ok (.bipush 40, 2) := by decide +kernel
theorem dX7_put_13 : decode cX7_put 13 = .ok (.if_icmp .ge 30, 3) := by decide +kernel
theorem dX7_put_16 : decode cX7_put 16 = .ok (.aload_n 0, 1) := by decide +kernel
theorem dX7_put_17 : decode cX7_put 17 = .ok (.getfield 67, 3) := by decide +kernel
theorem dX7_put_20 : decode cX7_put 20 = .ok (.aload_n 0, 1) := by decide +kernel
theorem dX7_put_21 : decode cX7_put 21 = .ok (.getfield 113, 3) := by decide +kernel
theorem dX7_put_24 : decode cX7_put 24 = .ok (.iload_n 1, 1) := by decide +kernel
theorem dX7_put_25 : decode cX7_put 25 = .ok (.i2b, 1) := by decide +kernel
theorem dX7_put_26 : decode cX7_put 26 = .ok (.bastore, 1) := by decide +kernel
theorem dX7_put_27 : decode cX7_put 27 = .ok (.aload_n 0, 1) := by decide +kernel
theorem dX7_put_28 : decode cX7_put 28 = .ok (.dup, 1) := by decide +kernel
theorem dX7_put_29 : decode cX7_put 29 = .ok (.getfield 113, 3) := by decide +kernel
theorem dX7_put_32 : decode cX7_put 32 = .ok (.iconst 1, 1) := by decide +kernel
theorem dX7_put_33 : decode cX7_put 33 = .ok (.iadd, 1) := by decide +kernel
theorem dX7_put_34 : decode cX7_put 34 = .ok (.putfield 113, 3) := by decide +kernel
theorem dX7_put_37 : decode cX7_put 37 = .ok (.iinc 3 1, 3) := by decide +kernel
theorem dX7_put_40 : decode cX7_put 40 = .ok (.goto (-38), 3) := by decide +kernel
theorem dX7_put_43 : decode cX7_put 43 = .ok (.return_, 1) := by decide +kernel
theorem dX7_run_0 : decode cX7_run 0 = .ok (.iconst 0, 1) := by decide +kernel
theorem dX7_run_1 : decode cX7_run 1 = .ok (.istore_n 3, 1) := by decide +kernel
theorem dX7_run_2 : decode cX7_run 2 = .ok (.iconst 0, 1) := by decide +kernel
theorem dX7_run_3 : decode cX7_run 3 = .ok (.istore 4, 2) := by decide +kernel
theorem dX7_run_5 : decode cX7_run 5 = .ok (.iconst 0, 1) := by decide +kernel
theorem dX7_run_6 : decode cX7_run 6 = .ok (.istore 5, 2) := by decide +kernel
theorem dX7_run_8 : decode cX7_run 8 = .ok (.iconst 0, 1) := by decide +kernel
theorem dX7_run_9 : decode cX7_run 9 = .ok (.istore 6, 2) := by decide +kernel
theorem dX7_run_11 : decode cX7_run 11 = .ok (.aload_n 0, 1) := by decide +kernel
theorem dX7_run_12 : decode cX7_run 12 = .ok (.iconst 0, 1) := by decide +kernel
theorem dX7_run_13 : decode cX7_run 13 = .ok (.putfield 113, 3) := by decide +kernel
theorem dX7_run_16 : decode cX7_run 16 = .ok (.aload_n 0, 1) := by decide +kernel
theorem dX7_run_17 : decode cX7_run 17 = .ok (.iconst (-1), 1) := by decide +kernel
theorem dX7_run_18 : decode cX7_run 18 = .ok (.putfield 64, 3) := by decide +kernel
theorem dX7_run_21 : decode cX7_run 21 = .ok (.iconst 0, 1) := by decide +kernel
theorem dX7_run_22 : decode cX7_run 22 = .ok (.istore 7, 2) := by decide +kernel
theorem dX7_run_24 : decode cX7_run 24 = .ok (.iload 7, 2) := by decide +kernel
theorem dX7_run_26 : decode cX7_run 26 = .ok (.bipush 32, 2) := by decide +kernel
theorem dX7_run_28 : decode cX7_run 28 = .ok (.if_icmp .ge 17, 3) := by decide +kernel
theorem dX7_run_31 : decode cX7_run 31 = .ok (.aload_n 0, 1) := by decide +kernel
theorem dX7_run_32 : decode cX7_run 32 = .ok (.getfield 70, 3) := by decide +kernel
theorem dX7_run_35 : decode cX7_run 35 = .ok (.iload 7, 2) := by decide +kernel
theorem dX7_run_37 : decode cX7_run 37 = .ok (.iconst 0, 1) := by decide +kernel
theorem dX7_run_38 : decode cX7_run 38 = .ok (.iastore, 1) := by decide +kernel
theorem dX7_run_39 : decode cX7_run 39 = .ok (.iinc 7 1, 3) := by decide +kernel
theorem dX7_run_42 : decode cX7_run 42 = .ok (.goto (-18), 3) := by decide +kernel
theorem dX7_run_45 : decode cX7_run 45 = .ok (.iload 5, 2) := by decide +kernel
theorem dX7_run_47 : decode cX7_run 47 = .ok (.aload_n 0, 1) := by decide +kernel
theorem dX7_run_48 : decode cX7_run 48 = .ok (.getfield 17, 3) := by decide +kernel
theorem dX7_run_51 : decode cX7_run 51 = .ok (.iload_n 1, 1) := by decide +kernel
theorem dX7_run_52 : decode cX7_run 52 = .ok (.iaload, 1) := by decide +kernel
theorem dX7_run_53 : decode cX7_run 53 = .ok (.if_icmp .ge 429, 3) := by decide +kernel
theorem dX7_run_56 : decode cX7_run 56 = .ok (.aload_n 0, 1) := by decide +kernel
theorem dX7_run_57 : decode cX7_run 57 = .ok (.iload 5, 2) := by decide +kernel
theorem dX7_run_59 : decode cX7_run 59 = .ok (.putfield 64, 3) := by decide +kernel
theorem dX7_run_62 : decode cX7_run 62 = .ok (.iload 6, 2) := by decide +kernel
theorem dX7_run_64 : decode cX7_run 64 = .ok (.aload_n 0, 1) := by decide +kernel
theorem dX7_run_65 : decode cX7_run 65 = .ok (.getfield 73, 3) := by decide +kernel
theorem dX7_run_68 : decode cX7_run 68 = .ok (.if_icmp .ne 5, 3) := by decide +kernel
theorem dX7_run_71 : decode cX7_run 71 = .ok (.iconst 4, 1) := by decide +kernel
theorem dX7_run_72 : decode cX7_run 72 = .ok (.ireturn, 1) := by decide +kernel
theorem dX7_run_73 : decode cX7_run 73 = .ok (.iinc 6 1, 3) := by decide +kernel
theorem dX7_run_76 : decode cX7_run 76 = .ok (.aload_n 0, 1) := by decide +kernel
theorem dX7_run_77 : decode cX7_run 77 = .ok (.dup, 1) := by decide +kernel
theorem dX7_run_78 : decode cX7_run 78 = .ok (.getfield 116, 3) := by decide +kernel
theorem dX7_run_81 : decode cX7_run 81 = .ok (.lconst 1, 1) := by decide +kernel
theorem dX7_run_82 : decode cX7_run 82 = .ok (.ladd, 1) := by decide +kernel
theorem dX7_run_83 : decode cX7_run 83 = .ok (.putfield 116, 3) := by decide +kernel
theorem dX7_run_86 : decode cX7_run 86 = .ok (.aload_n 0, 1) := by decide +kernel
theorem dX7_run_87 : decode cX7_run 87 = .ok (.getfield 21, 3) := by decide +kernel
theorem dX7_run_90 : decode cX7_run 90 = .ok (.bipush 40, 2) := by decide +kernel
theorem dX7_run_92 : decode cX7_run 92 = .ok (.iload_n 1, 1) := by decide +kernel
theorem dX7_run_93 : decode cX7_run 93 = .ok (.imul, 1) := by decide +kernel
theorem dX7_run_94 : decode cX7_run 94 = .ok (.iload 5, 2) := by decide +kernel
theorem dX7_run_96 : decode cX7_run 96 = .ok (.iadd, 1) := by decide +kernel
theorem dX7_run_97 : decode cX7_run 97 = .ok (.iaload, 1) := by decide +kernel
theorem dX7_run_98 : decode cX7_run 98 = .ok (.istore 7, 2) := by decide +kernel
theorem dX7_run_100 : decode cX7_run 100 = .ok (.aload_n 0, 1) := by decide +kernel
theorem dX7_run_101 : decode cX7_run 101 = .ok (.getfield 24, 3) := by decide +kernel
theorem dX7_run_104 : decode cX7_run 104 = .ok (.bipush 40, 2) := by decide +kernel
theorem dX7_run_106 : decode cX7_run 106 = .ok (.iload_n 1, 1) := by decide +kernel
theorem dX7_run_107 : decode cX7_run 107 = .ok (.imul, 1) := by decide +kernel
theorem dX7_run_108 : decode cX7_run 108 = .ok (.iload 5, 2) := by decide +kernel
theorem dX7_run_110 : decode cX7_run 110 = .ok (.iadd, 1) := by decide +kernel
theorem dX7_run_111 : decode cX7_run 111 = .ok (.iaload, 1) := by decide +kernel
theorem dX7_run_112 : decode cX7_run 112 = .ok (.istore 8, 2) := by decide +kernel
theorem dX7_run_114 : decode cX7_run 114 = .ok (.iinc 5 1, 3) := by decide +kernel
theorem dX7_run_117 : decode cX7_run 117 = .ok (.iload 7, 2) := by decide +kernel
theorem dX7_run_119 : decode cX7_run 119 = .ok (.tableswitch 355 97 122 #[189, 340, 355, 355, 317, 347, 231, 355, 253, 285, 278, 355, 355, 355, 355, 355, 355, 117, 209, 355, 355, 355, 156, 201, 355, 301], 117) := by decide +kernel
theorem dX7_run_236 : decode cX7_run 236 = .ok (.iload 4, 2) := by decide +kernel
theorem dX7_run_238 : decode cX7_run 238 = .ok (.iload 8, 2) := by decide +kernel
theorem dX7_run_240 : decode cX7_run 240 = .ok (.iadd, 1) := by decide +kernel
theorem dX7_run_241 : decode cX7_run 241 = .ok (.aload_n 0, 1) := by decide +kernel
theorem dX7_run_242 : decode cX7_run 242 = .ok (.getfield 42, 3) := by decide +kernel
theorem dX7_run_245 : decode cX7_run 245 = .ok (.iload_n 2, 1) := by decide +kernel
theorem dX7_run_246 : decode cX7_run 246 = .ok (.iaload, 1) := by decide +kernel
theorem dX7_run_247 : decode cX7_run 247 = .ok (.if_icmp .lt 5, 3) := by decide +kernel
theorem dX7_run_250 : decode cX7_run 250 = .ok (.iconst 2, 1) := by decide +kernel
theorem dX7_run_251 : decode cX7_run 251 = .ok (.ireturn, 1) := by decide +kernel
theorem dX7_run_252 : decode cX7_run 252 = .ok (.aload_n 0, 1) := by decide +kernel
theorem dX7_run_253 : decode cX7_run 253 = .ok (.getfield 45, 3) := by decide +kernel
theorem dX7_run_256 : decode cX7_run 256 = .ok (.bipush 40, 2) := by decide +kernel
theorem dX7_run_258 : decode cX7_run 258 = .ok (.iload_n 2, 1) := by decide +kernel
theorem dX7_run_259 : decode cX7_run 259 = .ok (.imul, 1) := by decide +kernel
theorem dX7_run_260 : decode cX7_run 260 = .ok (.iload 4, 2) := by decide +kernel
theorem dX7_run_262 : decode cX7_run 262 = .ok (.iadd, 1) := by decide +kernel
theorem dX7_run_263 : decode cX7_run 263 = .ok (.iload 8, 2) := by decide +kernel
theorem dX7_run_265 : decode cX7_run 265 = .ok (.iadd, 1) := by decide +kernel
theorem dX7_run_266 : decode cX7_run 266 = .ok (.baload, 1) := by decide +kernel
theorem dX7_run_267 : decode cX7_run 267 = .ok (.sipush 255, 3) := by decide +kernel
theorem dX7_run_270 : decode cX7_run 270 = .ok (.iand, 1) := by decide +kernel
theorem dX7_run_271 : decode cX7_run 271 = .ok (.istore_n 3, 1) := by decide +kernel
theorem dX7_run_272 : decode cX7_run 272 = .ok (.goto 207, 3) := by decide +kernel
theorem dX7_run_275 : decode cX7_run 275 = .ok (.aload_n 0, 1) := by decide +kernel
theorem dX7_run_276 : decode cX7_run 276 = .ok (.getfield 113, 3) := by decide +kernel
theorem dX7_run_279 : decode cX7_run 279 = .ok (.iload 8, 2) := by decide +kernel
theorem dX7_run_281 : decode cX7_run 281 = .ok (.iadd, 1) := by decide +kernel
theorem dX7_run_282 : decode cX7_run 282 = .ok (.bipush 40, 2) := by decide +kernel
theorem dX7_run_284 : decode cX7_run 284 = .ok (.if_icmp .gt 7, 3) := by decide +kernel
theorem dX7_run_287 : decode cX7_run 287 = .ok (.iconst 1, 1) := by decide +kernel
theorem dX7_run_288 : decode cX7_run 288 = .ok (.goto 4, 3) := by decide +kernel
theorem dX7_run_291 : decode cX7_run 291 = .ok (.iconst 0, 1) := by decide +kernel
theorem dX7_run_292 : decode cX7_run 292 = .ok (.istore 9, 2) := by decide +kernel
theorem dX7_run_294 : decode cX7_run 294 = .ok (.aload_n 0, 1) := by decide +kernel
theorem dX7_run_295 : decode cX7_run 295 = .ok (.iload_n 3, 1) := by decide +kernel
theorem dX7_run_296 : decode cX7_run 296 = .ok (.iload 8, 2) := by decide +kernel
theorem dX7_run_298 : decode cX7_run 298 = .ok (.invokevirtual 120, 3) := by decide +kernel
theorem dX7_run_301 : decode cX7_run 301 = .ok (.iload 9, 2) := by decide +kernel
theorem dX7_run_303 : decode cX7_run 303 = .ok (.ifCond .ne 176, 3) := by decide +kernel
theorem dX7_run_306 : decode cX7_run 306 = .ok (.iconst 3, 1) := by decide +kernel
theorem dX7_run_307 : decode cX7_run 307 = .ok (.ireturn, 1) := by decide +kernel
theorem dX7_run_308 : decode cX7_run 308 = .ok (.iload_n 3, 1) := by decide +kernel
theorem dX7_run_309 : decode cX7_run 309 = .ok (.iload 8, 2) := by decide +kernel
theorem dX7_run_311 : decode cX7_run 311 = .ok (.iadd, 1) := by decide +kernel
theorem dX7_run_312 : decode cX7_run 312 = .ok (.sipush 256, 3) := by decide +kernel
theorem dX7_run_315 : decode cX7_run 315 = .ok (.irem, 1) := by decide +kernel
theorem dX7_run_316 : decode cX7_run 316 = .ok (.istore_n 3, 1) := by decide +kernel
theorem dX7_run_317 : decode cX7_run 317 = .ok (.goto 162, 3) := by decide +kernel
theorem dX7_run_320 : decode cX7_run 320 = .ok (.iload_n 3, 1) := by decide +kernel
theorem dX7_run_321 : decode cX7_run 321 = .ok (.iload 8, 2) := by decide +kernel
theorem dX7_run_323 : decode cX7_run 323 = .ok (.ixor, 1) := by decide +kernel
theorem dX7_run_324 : decode cX7_run 324 = .ok (.istore_n 3, 1) := by decide +kernel
theorem dX7_run_325 : decode cX7_run 325 = .ok (.goto 154, 3) := by decide +kernel
theorem dX7_run_328 : decode cX7_run 328 = .ok (.iload 8, 2) := by decide +kernel
theorem dX7_run_330 : decode cX7_run 330 = .ok (.aload_n 0, 1) := by decide +kernel
theorem dX7_run_331 : decode cX7_run 331 = .ok (.getfield 76, 3) := by decide +kernel
theorem dX7_run_334 : decode cX7_run 334 = .ok (.if_icmp .lt 5, 3) := by decide +kernel
theorem dX7_run_337 : decode cX7_run 337 = .ok (.iconst 3, 1) := by decide +kernel
theorem dX7_run_338 : decode cX7_run 338 = .ok (.ireturn, 1) := by decide +kernel
theorem dX7_run_339 : decode cX7_run 339 = .ok (.aload_n 0, 1) := by decide +kernel
theorem dX7_run_340 : decode cX7_run 340 = .ok (.getfield 70, 3) := by decide +kernel
theorem dX7_run_343 : decode cX7_run 343 = .ok (.iload 8, 2) := by decide +kernel
theorem dX7_run_345 : decode cX7_run 345 = .ok (.iload_n 3, 1) := by decide +kernel
theorem dX7_run_346 : decode cX7_run 346 = .ok (.iastore, 1) := by decide +kernel
theorem dX7_run_347 : decode cX7_run 347 = .ok (.goto 132, 3) := by decide +kernel
theorem dX7_run_350 : decode cX7_run 350 = .ok (.iload 8, 2) := by decide +kernel
theorem dX7_run_352 : decode cX7_run 352 = .ok (.aload_n 0, 1) := by decide +kernel
theorem dX7_run_353 : decode cX7_run 353 = .ok (.getfield 76, 3) := by decide +kernel
theorem dX7_run_356 : decode cX7_run 356 = .ok (.if_icmp .lt 5, 3) := by decide +kernel
theorem dX7_run_359 : decode cX7_run 359 = .ok (.iconst 3, 1) := by decide +kernel
theorem dX7_run_360 : decode cX7_run 360 = .ok (.ireturn, 1) := by decide +kernel
theorem dX7_run_361 : decode cX7_run 361 = .ok (.aload_n 0, 1) := by decide +kernel
theorem dX7_run_362 : decode cX7_run 362 = .ok (.getfield 70, 3) := by decide +kernel
theorem dX7_run_365 : decode cX7_run 365 = .ok (.iload 8, 2) := by decide +kernel
theorem dX7_run_367 : decode cX7_run 367 = .ok (.iaload, 1) := by decide +kernel
theorem dX7_run_368 : decode cX7_run 368 = .ok (.istore_n 3, 1) := by decide +kernel
theorem dX7_run_369 : decode cX7_run 369 = .ok (.goto 110, 3) := by decide +kernel
theorem dX7_run_372 : decode cX7_run 372 = .ok (.iload 4, 2) := by decide +kernel
theorem dX7_run_374 : decode cX7_run 374 = .ok (.iload 8, 2) := by decide +kernel
theorem dX7_run_376 : decode cX7_run 376 = .ok (.iadd, 1) := by decide +kernel
theorem dX7_run_377 : decode cX7_run 377 = .ok (.ldc 124, 2) := by decide +kernel
theorem dX7_run_379 : decode cX7_run 379 = .ok (.if_icmp .le 8, 3) := by decide +kernel
theorem dX7_run_382 : decode cX7_run 382 = .ok (.ldc 124, 2) := by decide +kernel
theorem dX7_run_384 : decode cX7_run 384 = .ok (.goto 8, 3) := by decide +kernel
theorem dX7_run_387 : decode cX7_run 387 = .ok (.iload 4, 2) := by decide +kernel
theorem dX7_run_389 : decode cX7_run 389 = .ok (.iload 8, 2) := by decide +kernel
theorem dX7_run_391 : decode cX7_run 391 = .ok (.iadd, 1) := by decide +kernel
theorem dX7_run_392 : decode cX7_run 392 = .ok (.istore 4, 2) := by decide +kernel
theorem dX7_run_394 : decode cX7_run 394 = .ok (.goto 85, 3) := by decide +kernel
theorem dX7_run_397 : decode cX7_run 397 = .ok (.iload 8, 2) := by decide +kernel
theorem dX7_run_399 : decode cX7_run 399 = .ok (.istore 4, 2) := by decide +kernel
theorem dX7_run_401 : decode cX7_run 401 = .ok (.goto 78, 3) := by decide +kernel
theorem dX7_run_404 : decode cX7_run 404 = .ok (.iload_n 3, 1) := by decide +kernel
theorem dX7_run_405 : decode cX7_run 405 = .ok (.ifCond .eq 8, 3) := by decide +kernel
theorem dX7_run_408 : decode cX7_run 408 = .ok (.iload 8, 2) := by decide +kernel
theorem dX7_run_410 : decode cX7_run 410 = .ok (.goto 5, 3) := by decide +kernel
theorem dX7_run_413 : decode cX7_run 413 = .ok (.iload 5, 2) := by decide +kernel
theorem dX7_run_415 : decode cX7_run 415 = .ok (.istore 5, 2) := by decide +kernel
theorem dX7_run_417 : decode cX7_run 417 = .ok (.goto 62, 3) := by decide +kernel
theorem dX7_run_420 : decode cX7_run 420 = .ok (.iload_n 3, 1) := by decide +kernel
theorem dX7_run_421 : decode cX7_run 421 = .ok (.ifCond .ne 8, 3) := by decide +kernel
theorem dX7_run_424 : decode cX7_run 424 = .ok (.iload 8, 2) := by decide +kernel
theorem dX7_run_426 : decode cX7_run 426 = .ok (.goto 5, 3) := by decide +kernel
theorem dX7_run_429 : decode cX7_run 429 = .ok (.iload 5, 2) := by decide +kernel
theorem dX7_run_431 : decode cX7_run 431 = .ok (.istore 5, 2) := by decide +kernel
theorem dX7_run_433 : decode cX7_run 433 = .ok (.goto 46, 3) := by decide +kernel
theorem dX7_run_436 : decode cX7_run 436 = .ok (.iload 4, 2) := by decide +kernel
theorem dX7_run_438 : decode cX7_run 438 = .ok (.aload_n 0, 1) := by decide +kernel
theorem dX7_run_439 : decode cX7_run 439 = .ok (.getfield 42, 3) := by decide +kernel
theorem dX7_run_442 : decode cX7_run 442 = .ok (.iload_n 2, 1) := by decide +kernel
theorem dX7_run_443 : decode cX7_run 443 = .ok (.iaload, 1) := by decide +kernel
theorem dX7_run_444 : decode cX7_run 444 = .ok (.if_icmp .lt 8, 3) := by decide +kernel
theorem dX7_run_447 : decode cX7_run 447 = .ok (.iload 8, 2) := by decide +kernel
theorem dX7_run_449 : decode cX7_run 449 = .ok (.goto 5, 3) := by decide +kernel
theorem dX7_run_452 : decode cX7_run 452 = .ok (.iload 5, 2) := by decide +kernel
theorem dX7_run_454 : decode cX7_run 454 = .ok (.istore 5, 2) := by decide +kernel
theorem dX7_run_456 : decode cX7_run 456 = .ok (.goto 23, 3) := by decide +kernel
theorem dX7_run_459 : decode cX7_run 459 = .ok (.iload 8, 2) := by decide +kernel
theorem dX7_run_461 : decode cX7_run 461 = .ok (.istore 5, 2) := by decide +kernel
theorem dX7_run_463 : decode cX7_run 463 = .ok (.goto 16, 3) := by decide +kernel
theorem dX7_run_466 : decode cX7_run 466 = .ok (.iload_n 3, 1) := by decide +kernel
theorem dX7_run_467 : decode cX7_run 467 = .ok (.iload 8, 2) := by decide +kernel
theorem dX7_run_469 : decode cX7_run 469 = .ok (.if_icmp .eq 10, 3) := by decide +kernel
theorem dX7_run_472 : decode cX7_run 472 = .ok (.iconst 1, 1) := by decide +kernel
theorem dX7_run_473 : decode cX7_run 473 = .ok (.ireturn, 1) := by decide +kernel
theorem dX7_run_474 : decode cX7_run 474 = .ok (.sipush 255, 3) := by decide +kernel
theorem dX7_run_477 : decode cX7_run 477 = .ok (.istore 5, 2) := by decide +kernel
theorem dX7_run_479 : decode cX7_run 479 = .ok (.goto (-434), 3) := by decide +kernel
theorem dX7_run_482 : decode cX7_run 482 = .ok (.aload_n 0, 1) := by decide +kernel
theorem dX7_run_483 : decode cX7_run 483 = .ok (.iconst (-1), 1) := by decide +kernel
theorem dX7_run_484 : decode cX7_run 484 = .ok (.putfield 64, 3) := by decide +kernel
theorem dX7_run_487 : decode cX7_run 487 = .ok (.iconst 0, 1) := by decide +kernel
theorem dX7_run_488 : decode cX7_run 488 = .ok (.ireturn, 1) := by decide +kernel
theorem dX7_octet_0 : decode cX7_octet 0 = .ok (.aload_n 0, 1) := by decide +kernel
theorem dX7_octet_1 : decode cX7_octet 1 = .ok (.iconst 0, 1) := by decide +kernel
theorem dX7_octet_2 : decode cX7_octet 2 = .ok (.putfield 79, 3) := by decide +kernel
theorem dX7_octet_5 : decode cX7_octet 5 = .ok (.aload_n 0, 1) := by decide +kernel
theorem dX7_octet_6 : decode cX7_octet 6 = .ok (.getfield 125, 3) := by decide +kernel
theorem dX7_octet_9 : decode cX7_octet 9 = .ok (.bipush 40, 2) := by decide +kernel
theorem dX7_octet_11 : decode cX7_octet 11 = .ok (.if_icmp .ne 4, 3) := by decide +kernel
theorem dX7_octet_14 : decode cX7_octet 14 = .ok (.return_, 1) := by decide +kernel
theorem dX7_octet_15 : decode cX7_octet 15 = .ok (.aload_n 0, 1) := by decide +kernel
theorem dX7_octet_16 : decode cX7_octet 16 = .ok (.getfield 39, 3) := by decide +kernel
theorem dX7_octet_19 : decode cX7_octet 19 = .ok (.aload_n 0, 1) := by decide +kernel
theorem dX7_octet_20 : decode cX7_octet 20 = .ok (.getfield 125, 3) := by decide +kernel
theorem dX7_octet_23 : decode cX7_octet 23 = .ok (.iload_n 1, 1) := by decide +kernel
theorem dX7_octet_24 : decode cX7_octet 24 = .ok (.i2b, 1) := by decide +kernel
theorem dX7_octet_25 : decode cX7_octet 25 = .ok (.bastore, 1) := by decide +kernel
theorem dX7_octet_26 : decode cX7_octet 26 = .ok (.aload_n 0, 1) := by decide +kernel
theorem dX7_octet_27 : decode cX7_octet 27 = .ok (.dup, 1) := by decide +kernel
theorem dX7_octet_28 : decode cX7_octet 28 = .ok (.getfield 125, 3) := by decide +kernel
theorem dX7_octet_31 : decode cX7_octet 31 = .ok (.iconst 1, 1) := by decide +kernel
theorem dX7_octet_32 : decode cX7_octet 32 = .ok (.iadd, 1) := by decide +kernel
theorem dX7_octet_33 : decode cX7_octet 33 = .ok (.putfield 125, 3) := by decide +kernel
theorem dX7_octet_36 : decode cX7_octet 36 = .ok (.return_, 1) := by decide +kernel
theorem dX7_original_0 : decode cX7_original 0 = .ok (.aload_n 0, 1) := by decide +kernel
theorem dX7_original_1 : decode cX7_original 1 = .ok (.iconst 0, 1) := by decide +kernel
theorem dX7_original_2 : decode cX7_original 2 = .ok (.putfield 79, 3) := by decide +kernel
theorem dX7_original_5 : decode cX7_original 5 = .ok (.aload_n 0, 1) := by decide +kernel
theorem dX7_original_6 : decode cX7_original 6 = .ok (.getfield 89, 3) := by decide +kernel
theorem dX7_original_9 : decode cX7_original 9 = .ok (.bipush 60, 2) := by decide +kernel
theorem dX7_original_11 : decode cX7_original 11 = .ok (.if_icmp .ne 6, 3) := by decide +kernel
theorem dX7_original_14 : decode cX7_original 14 = .ok (.bipush (-4), 2) := by decide +kernel
theorem dX7_original_16 : decode cX7_original 16 = .ok (.ireturn, 1) := by decide +kernel
theorem dX7_original_17 : decode cX7_original 17 = .ok (.aload_n 0, 1) := by decide +kernel
theorem dX7_original_18 : decode cX7_original 18 = .ok (.getfield 42, 3) := by decide +kernel
theorem dX7_original_21 : decode cX7_original 21 = .ok (.aload_n 0, 1) := by decide +kernel
theorem dX7_original_22 : decode cX7_original 22 = .ok (.getfield 89, 3) := by decide +kernel
theorem dX7_original_25 : decode cX7_original 25 = .ok (.aload_n 0, 1) := by decide +kernel
theorem dX7_original_26 : decode cX7_original 26 = .ok (.getfield 125, 3) := by decide +kernel
theorem dX7_original_29 : decode cX7_original 29 = .ok (.iastore, 1) := by decide +kernel
theorem dX7_original_30 : decode cX7_original 30 = .ok (.iconst 0, 1) := by decide +kernel
theorem dX7_original_31 : decode cX7_original 31 = .ok (.istore_n 1, 1) := by decide +kernel
theorem dX7_original_32 : decode cX7_original 32 = .ok (.iload_n 1, 1) := by decide +kernel
theorem dX7_original_33 : decode cX7_original 33 = .ok (.aload_n 0, 1) := by decide +kernel
theorem dX7_original_34 : decode cX7_original 34 = .ok (.getfield 125, 3) := by decide +kernel
theorem dX7_original_37 : decode cX7_original 37 = .ok (.if_icmp .ge 29, 3) := by decide +kernel
theorem dX7_original_40 : decode cX7_original 40 = .ok (.aload_n 0, 1) := by decide +kernel
theorem dX7_original_41 : decode cX7_original 41 = .ok (.getfield 45, 3) := by decide +kernel
theorem dX7_original_44 : decode cX7_original 44 = .ok (.bipush 40, 2) := by decide +kernel
theorem dX7_original_46 : decode cX7_original 46 = .ok (.aload_n 0, 1) := by decide +kernel
theorem dX7_original_47 : decode cX7_original 47 = .ok (.getfield 89, 3) := by decide +kernel
theorem dX7_original_50 : decode cX7_original 50 = .ok (.imul, 1) := by decide +kernel
theorem dX7_original_51 : decode cX7_original 51 = .ok (.iload_n 1, 1) := by decide +kernel
theorem dX7_original_52 : decode cX7_original 52 = .ok (.iadd, 1) := by decide +kernel
theorem dX7_original_53 : decode cX7_original 53 = .ok (.aload_n 0, 1) := by decide +kernel
theorem dX7_original_54 : decode cX7_original 54 = .ok (.getfield 39, 3) := by decide +kernel
theorem dX7_original_57 : decode cX7_original 57 = .ok (.iload_n 1, 1) := by decide +kernel
theorem dX7_original_58 : decode cX7_original 58 = .ok (.baload, 1) := by decide +kernel
theorem dX7_original_59 : decode cX7_original 59 = .ok (.bastore, 1) := by decide +kernel
theorem dX7_original_60 : decode cX7_original 60 = .ok (.iinc 1 1, 3) := by decide +kernel
theorem dX7_original_63 : decode cX7_original 63 = .ok (.goto (-31), 3) := by decide +kernel
theorem dX7_original_66 : decode cX7_original 66 = .ok (.aload_n 0, 1) := by decide +kernel
theorem dX7_original_67 : decode cX7_original 67 = .ok (.getfield 48, 3) := by decide +kernel
theorem dX7_original_70 : decode cX7_original 70 = .ok (.aload_n 0, 1) := by decide +kernel
theorem dX7_original_71 : decode cX7_original 71 = .ok (.getfield 89, 3) := by decide +kernel
theorem dX7_original_74 : decode cX7_original 74 = .ok (.iconst (-1), 1) := by decide +kernel
theorem dX7_original_75 : decode cX7_original 75 = .ok (.iastore, 1) := by decide +kernel
theorem dX7_original_76 : decode cX7_original 76 = .ok (.aload_n 0, 1) := by decide +kernel
theorem dX7_original_77 : decode cX7_original 77 = .ok (.getfield 51, 3) := by decide +kernel
theorem dX7_original_80 : decode cX7_original 80 = .ok (.aload_n 0, 1) := by decide +kernel
theorem dX7_original_81 : decode cX7_original 81 = .ok (.getfield 89, 3) := by decide +kernel
theorem dX7_original_84 : decode cX7_original 84 = .ok (.iconst (-1), 1) := by decide +kernel
theorem dX7_original_85 : decode cX7_original 85 = .ok (.iastore, 1) := by decide +kernel
theorem dX7_original_86 : decode cX7_original 86 = .ok (.aload_n 0, 1) := by decide +kernel
theorem dX7_original_87 : decode cX7_original 87 = .ok (.getfield 58, 3) := by decide +kernel
theorem dX7_original_90 : decode cX7_original 90 = .ok (.aload_n 0, 1) := by decide +kernel
theorem dX7_original_91 : decode cX7_original 91 = .ok (.getfield 89, 3) := by decide +kernel
theorem dX7_original_94 : decode cX7_original 94 = .ok (.iconst 0, 1) := by decide +kernel
theorem dX7_original_95 : decode cX7_original 95 = .ok (.iastore, 1) := by decide +kernel
theorem dX7_original_96 : decode cX7_original 96 = .ok (.aload_n 0, 1) := by decide +kernel
theorem dX7_original_97 : decode cX7_original 97 = .ok (.iconst 0, 1) := by decide +kernel
theorem dX7_original_98 : decode cX7_original 98 = .ok (.putfield 125, 3) := by decide +kernel
theorem dX7_original_101 : decode cX7_original 101 = .ok (.aload_n 0, 1) := by decide +kernel
theorem dX7_original_102 : decode cX7_original 102 = .ok (.dup, 1) := by decide +kernel
theorem dX7_original_103 : decode cX7_original 103 = .ok (.getfield 89, 3) := by decide +kernel
theorem dX7_original_106 : decode cX7_original 106 = .ok (.iconst 1, 1) := by decide +kernel
theorem dX7_original_107 : decode cX7_original 107 = .ok (.iadd, 1) := by decide +kernel
theorem dX7_original_108 : decode cX7_original 108 = .ok (.putfield 89, 3) := by decide +kernel
theorem dX7_original_111 : decode cX7_original 111 = .ok (.aload_n 0, 1) := by decide +kernel
theorem dX7_original_112 : decode cX7_original 112 = .ok (.getfield 89, 3) := by decide +kernel
theorem dX7_original_115 : decode cX7_original 115 = .ok (.iconst 1, 1) := by decide +kernel
theorem dX7_original_116 : decode cX7_original 116 = .ok (.isub, 1) := by decide +kernel
theorem dX7_original_117 : decode cX7_original 117 = .ok (.ireturn, 1) := by decide +kernel
theorem dX7_check_0 : decode cX7_check 0 = .ok (.aload_n 0, 1) := by decide +kernel
theorem dX7_check_1 : decode cX7_check 1 = .ok (.iconst 0, 1) := by decide +kernel
theorem dX7_check_2 : decode cX7_check 2 = .ok (.putfield 79, 3) := by decide +kernel
theorem dX7_check_5 : decode cX7_check 5 = .ok (.aload_n 0, 1) := by decide +kernel
theorem dX7_check_6 : decode cX7_check 6 = .ok (.iload_n 1, 1) := by decide +kernel
theorem dX7_check_7 : decode cX7_check 7 = .ok (.invokevirtual 128, 3) := by decide +kernel
theorem dX7_check_10 : decode cX7_check 10 = .ok (.ifCond .ne 5, 3) := by decide +kernel
theorem dX7_check_13 : decode cX7_check 13 = .ok (.iconst (-1), 1) := by decide +kernel
theorem dX7_check_14 : decode cX7_check 14 = .ok (.ireturn, 1) := by decide +kernel
theorem dX7_check_15 : decode cX7_check 15 = .ok (.iload_n 3, 1) := by decide +kernel
theorem dX7_check_16 : decode cX7_check 16 = .ok (.iconst 0, 1) := by decide +kernel
theorem dX7_check_17 : decode cX7_check 17 = .ok (.iconst 3, 1) := by decide +kernel
theorem dX7_check_18 : decode cX7_check 18 = .ok (.invokestatic 85, 3) := by decide +kernel
theorem dX7_check_21 : decode cX7_check 21 = .ok (.ifCond .eq 15, 3) := by decide +kernel
theorem dX7_check_24 : decode cX7_check 24 = .ok (.iload 4, 2) := by decide +kernel
theorem dX7_check_26 : decode cX7_check 26 = .ok (.iconst 0, 1) := by decide +kernel
theorem dX7_check_27 : decode cX7_check 27 = .ok (.sipush 255, 3) := by decide +kernel
theorem dX7_check_30 : decode cX7_check 30 = .ok (.invokestatic 85, 3) := by decide +kernel
theorem dX7_check_33 : decode cX7_check 33 = .ok (.ifCond .ne 6, 3) := by decide +kernel
theorem dX7_check_36 : decode cX7_check 36 = .ok (.bipush (-2), 2) := by decide +kernel
theorem dX7_check_38 : decode cX7_check 38 = .ok (.ireturn, 1) := by decide +kernel
theorem dX7_check_39 : decode cX7_check 39 = .ok (.iconst 2, 1) := by decide +kernel
theorem dX7_check_40 : decode cX7_check 40 = .ok (.iload_n 1, 1) := by decide +kernel
theorem dX7_check_41 : decode cX7_check 41 = .ok (.imul, 1) := by decide +kernel
theorem dX7_check_42 : decode cX7_check 42 = .ok (.iload_n 2, 1) := by decide +kernel
theorem dX7_check_43 : decode cX7_check 43 = .ok (.ifCond .eq 7, 3) := by decide +kernel
theorem dX7_check_46 : decode cX7_check 46 = .ok (.iconst 1, 1) := by decide +kernel
theorem dX7_check_47 : decode cX7_check 47 = .ok (.goto 4, 3) := by decide +kernel
theorem dX7_check_50 : decode cX7_check 50 = .ok (.iconst 0, 1) := by decide +kernel
theorem dX7_check_51 : decode cX7_check 51 = .ok (.iadd, 1) := by decide +kernel
theorem dX7_check_52 : decode cX7_check 52 = .ok (.istore 5, 2) := by decide +kernel
theorem dX7_check_54 : decode cX7_check 54 = .ok (.aload_n 0, 1) := by decide +kernel
theorem dX7_check_55 : decode cX7_check 55 = .ok (.getfield 30, 3) := by decide +kernel
theorem dX7_check_58 : decode cX7_check 58 = .ok (.iload 5, 2) := by decide +kernel
theorem dX7_check_60 : decode cX7_check 60 = .ok (.iaload, 1) := by decide +kernel
theorem dX7_check_61 : decode cX7_check 61 = .ok (.iconst 4, 1) := by decide +kernel
theorem dX7_check_62 : decode cX7_check 62 = .ok (.if_icmp .ne 6, 3) := by decide +kernel
theorem dX7_check_65 : decode cX7_check 65 = .ok (.bipush (-4), 2) := by decide +kernel
theorem dX7_check_67 : decode cX7_check 67 = .ok (.ireturn, 1) := by decide +kernel
theorem dX7_check_68 : decode cX7_check 68 = .ok (.aload_n 0, 1) := by decide +kernel
theorem dX7_check_69 : decode cX7_check 69 = .ok (.getfield 33, 3) := by decide +kernel
theorem dX7_check_72 : decode cX7_check 72 = .ok (.iconst 4, 1) := by decide +kernel
theorem dX7_check_73 : decode cX7_check 73 = .ok (.iload 5, 2) := by decide +kernel
theorem dX7_check_75 : decode cX7_check 75 = .ok (.imul, 1) := by decide +kernel
theorem dX7_check_76 : decode cX7_check 76 = .ok (.aload_n 0, 1) := by decide +kernel
theorem dX7_check_77 : decode cX7_check 77 = .ok (.getfield 30, 3) := by decide +kernel
theorem dX7_check_80 : decode cX7_check 80 = .ok (.iload 5, 2) := by decide +kernel
theorem dX7_check_82 : decode cX7_check 82 = .ok (.iaload, 1) := by decide +kernel
theorem dX7_check_83 : decode cX7_check 83 = .ok (.iadd, 1) := by decide +kernel
theorem dX7_check_84 : decode cX7_check 84 = .ok (.iload_n 3, 1) := by decide +kernel
theorem dX7_check_85 : decode cX7_check 85 = .ok (.iastore, 1) := by decide +kernel
theorem dX7_check_86 : decode cX7_check 86 = .ok (.aload_n 0, 1) := by decide +kernel
theorem dX7_check_87 : decode cX7_check 87 = .ok (.getfield 36, 3) := by decide +kernel
theorem dX7_check_90 : decode cX7_check 90 = .ok (.iconst 4, 1) := by decide +kernel
theorem dX7_check_91 : decode cX7_check 91 = .ok (.iload 5, 2) := by decide +kernel
theorem dX7_check_93 : decode cX7_check 93 = .ok (.imul, 1) := by decide +kernel
theorem dX7_check_94 : decode cX7_check 94 = .ok (.aload_n 0, 1) := by decide +kernel
theorem dX7_check_95 : decode cX7_check 95 = .ok (.getfield 30, 3) := by decide +kernel
theorem dX7_check_98 : decode cX7_check 98 = .ok (.iload 5, 2) := by decide +kernel
theorem dX7_check_100 : decode cX7_check 100 = .ok (.iaload, 1) := by decide +kernel
theorem dX7_check_101 : decode cX7_check 101 = .ok (.iadd, 1) := by decide +kernel
theorem dX7_check_102 : decode cX7_check 102 = .ok (.iload 4, 2) := by decide +kernel
theorem dX7_check_104 : decode cX7_check 104 = .ok (.iastore, 1) := by decide +kernel
theorem dX7_check_105 : decode cX7_check 105 = .ok (.aload_n 0, 1) := by decide +kernel
theorem dX7_check_106 : decode cX7_check 106 = .ok (.getfield 30, 3) := by decide +kernel
theorem dX7_check_109 : decode cX7_check 109 = .ok (.iload 5, 2) := by decide +kernel
theorem dX7_check_111 : decode cX7_check 111 = .ok (.dup2, 1) := by decide +kernel
theorem dX7_check_112 : decode cX7_check 112 = .ok (.iaload, 1) := by decide +kernel
theorem dX7_check_113 : decode cX7_check 113 = .ok (.iconst 1, 1) := by decide +kernel
theorem dX7_check_114 : decode cX7_check 114 = .ok (.iadd, 1) := by decide +kernel
theorem dX7_check_115 : decode cX7_check 115 = .ok (.iastore, 1) := by decide +kernel
theorem dX7_check_116 : decode cX7_check 116 = .ok (.aload_n 0, 1) := by decide +kernel
theorem dX7_check_117 : decode cX7_check 117 = .ok (.getfield 30, 3) := by decide +kernel
theorem dX7_check_120 : decode cX7_check 120 = .ok (.iload 5, 2) := by decide +kernel
theorem dX7_check_122 : decode cX7_check 122 = .ok (.iaload, 1) := by decide +kernel
theorem dX7_check_123 : decode cX7_check 123 = .ok (.ireturn, 1) := by decide +kernel
theorem dX7_holds_0 : decode cX7_holds 0 = .ok (.iload_n 0, 1) := by decide +kernel
theorem dX7_holds_1 : decode cX7_holds 1 = .ok (.tableswitch 64 0 2 #[27, 38, 49], 27) := by decide +kernel
theorem dX7_holds_28 : decode cX7_holds 28 = .ok (.iload_n 2, 1) := by decide +kernel
theorem dX7_holds_29 : decode cX7_holds 29 = .ok (.iload_n 1, 1) := by decide +kernel
theorem dX7_holds_30 : decode cX7_holds 30 = .ok (.if_icmp .lt 7, 3) := by decide +kernel
theorem dX7_holds_33 : decode cX7_holds 33 = .ok (.iconst 1, 1) := by decide +kernel
theorem dX7_holds_34 : decode cX7_holds 34 = .ok (.goto 4, 3) := by decide +kernel
theorem dX7_holds_37 : decode cX7_holds 37 = .ok (.iconst 0, 1) := by decide +kernel
theorem dX7_holds_38 : decode cX7_holds 38 = .ok (.ireturn, 1) := by decide +kernel
theorem dX7_holds_39 : decode cX7_holds 39 = .ok (.iload_n 2, 1) := by decide +kernel
theorem dX7_holds_40 : decode cX7_holds 40 = .ok (.iload_n 1, 1) := by decide +kernel
theorem dX7_holds_41 : decode cX7_holds 41 = .ok (.if_icmp .gt 7, 3) := by decide +kernel
theorem dX7_holds_44 : decode cX7_holds 44 = .ok (.iconst 1, 1) := by decide +kernel
theorem dX7_holds_45 : decode cX7_holds 45 = .ok (.goto 4, 3) := by decide +kernel
theorem dX7_holds_48 : decode cX7_holds 48 = .ok (.iconst 0, 1) := by decide +kernel
theorem dX7_holds_49 : decode cX7_holds 49 = .ok (.ireturn, 1) := by decide +kernel
theorem dX7_holds_50 : decode cX7_holds 50 = .ok (.iload_n 2, 1) := by decide +kernel
theorem dX7_holds_51 : decode cX7_holds 51 = .ok (.ifCond .le 12, 3) := by decide +kernel
theorem dX7_holds_54 : decode cX7_holds 54 = .ok (.iload_n 3, 1) := by decide +kernel
theorem dX7_holds_55 : decode cX7_holds 55 = .ok (.iload_n 1, 1) := by decide +kernel
theorem dX7_holds_56 : decode cX7_holds 56 = .ok (.if_icmp .ne 7, 3) := by decide +kernel
theorem dX7_holds_59 : decode cX7_holds 59 = .ok (.iconst 1, 1) := by decide +kernel
theorem dX7_holds_60 : decode cX7_holds 60 = .ok (.goto 4, 3) := by decide +kernel
theorem dX7_holds_63 : decode cX7_holds 63 = .ok (.iconst 0, 1) := by decide +kernel
theorem dX7_holds_64 : decode cX7_holds 64 = .ok (.ireturn, 1) := by decide +kernel
theorem dX7_holds_65 : decode cX7_holds 65 = .ok (.iload 4, 2) := by decide +kernel
theorem dX7_holds_67 : decode cX7_holds 67 = .ok (.sipush 256, 3) := by decide +kernel
theorem dX7_holds_70 : decode cX7_holds 70 = .ok (.irem, 1) := by decide +kernel
theorem dX7_holds_71 : decode cX7_holds 71 = .ok (.iload_n 1, 1) := by decide +kernel
theorem dX7_holds_72 : decode cX7_holds 72 = .ok (.if_icmp .ne 7, 3) := by decide +kernel
theorem dX7_holds_75 : decode cX7_holds 75 = .ok (.iconst 1, 1) := by decide +kernel
theorem dX7_holds_76 : decode cX7_holds 76 = .ok (.goto 4, 3) := by decide +kernel
theorem dX7_holds_79 : decode cX7_holds 79 = .ok (.iconst 0, 1) := by decide +kernel
theorem dX7_holds_80 : decode cX7_holds 80 = .ok (.ireturn, 1) := by decide +kernel
theorem dX7_allHold_0 : decode cX7_allHold 0 = .ok (.iload_n 2, 1) := by decide +kernel
theorem dX7_allHold_1 : decode cX7_allHold 1 = .ok (.ifCond .ge 10, 3) := by decide +kernel
theorem dX7_allHold_4 : decode cX7_allHold 4 = .ok (.aload_n 0, 1) := by decide +kernel
theorem dX7_allHold_5 : decode cX7_allHold 5 = .ok (.getfield 113, 3) := by decide +kernel
theorem dX7_allHold_8 : decode cX7_allHold 8 = .ok (.goto 9, 3) := by decide +kernel
theorem dX7_allHold_11 : decode cX7_allHold 11 = .ok (.aload_n 0, 1) := by decide +kernel
theorem dX7_allHold_12 : decode cX7_allHold 12 = .ok (.getfield 42, 3) := by decide +kernel
theorem dX7_allHold_15 : decode cX7_allHold 15 = .ok (.iload_n 2, 1) := by decide +kernel
theorem dX7_allHold_16 : decode cX7_allHold 16 = .ok (.iaload, 1) := by decide +kernel
theorem dX7_allHold_17 : decode cX7_allHold 17 = .ok (.istore_n 3, 1) := by decide +kernel
theorem dX7_allHold_18 : decode cX7_allHold 18 = .ok (.iconst 0, 1) := by decide +kernel
theorem dX7_allHold_19 : decode cX7_allHold 19 = .ok (.istore 4, 2) := by decide +kernel
theorem dX7_allHold_21 : decode cX7_allHold 21 = .ok (.iconst 0, 1) := by decide +kernel
theorem dX7_allHold_22 : decode cX7_allHold 22 = .ok (.istore 5, 2) := by decide +kernel
theorem dX7_allHold_24 : decode cX7_allHold 24 = .ok (.iload_n 3, 1) := by decide +kernel
theorem dX7_allHold_25 : decode cX7_allHold 25 = .ok (.iconst 1, 1) := by decide +kernel
theorem dX7_allHold_26 : decode cX7_allHold 26 = .ok (.isub, 1) := by decide +kernel
theorem dX7_allHold_27 : decode cX7_allHold 27 = .ok (.istore 6, 2) := by decide +kernel
theorem dX7_allHold_29 : decode cX7_allHold 29 = .ok (.iload 6, 2) := by decide +kernel
theorem dX7_allHold_31 : decode cX7_allHold 31 = .ok (.ifCond .lt 48, 3) := by decide +kernel
theorem dX7_allHold_34 : decode cX7_allHold 34 = .ok (.iload_n 2, 1) := by decide +kernel
theorem dX7_allHold_35 : decode cX7_allHold 35 = .ok (.ifCond .ge 13, 3) := by decide +kernel
theorem dX7_allHold_38 : decode cX7_allHold 38 = .ok (.aload_n 0, 1) := by decide +kernel
theorem dX7_allHold_39 : decode cX7_allHold 39 = .ok (.getfield 67, 3) := by decide +kernel
theorem dX7_allHold_42 : decode cX7_allHold 42 = .ok (.iload 6, 2) := by decide +kernel
theorem dX7_allHold_44 : decode cX7_allHold 44 = .ok (.baload, 1) := by decide +kernel
theorem dX7_allHold_45 : decode cX7_allHold 45 = .ok (.goto 15, 3) := by decide +kernel
theorem dX7_allHold_48 : decode cX7_allHold 48 = .ok (.aload_n 0, 1) := by decide +kernel
theorem dX7_allHold_49 : decode cX7_allHold 49 = .ok (.getfield 45, 3) := by decide +kernel
theorem dX7_allHold_52 : decode cX7_allHold 52 = .ok (.bipush 40, 2) := by decide +kernel
theorem dX7_allHold_54 : decode cX7_allHold 54 = .ok (.iload_n 2, 1) := by decide +kernel
theorem dX7_allHold_55 : decode cX7_allHold 55 = .ok (.imul, 1) := by decide +kernel
theorem dX7_allHold_56 : decode cX7_allHold 56 = .ok (.iload 6, 2) := by decide +kernel
theorem dX7_allHold_58 : decode cX7_allHold 58 = .ok (.iadd, 1) := by decide +kernel
theorem dX7_allHold_59 : decode cX7_allHold 59 = .ok (.baload, 1) := by decide +kernel
theorem dX7_allHold_60 : decode cX7_allHold 60 = .ok (.sipush 255, 3) := by decide +kernel
theorem dX7_allHold_63 : decode cX7_allHold 63 = .ok (.iand, 1) := by decide +kernel
theorem dX7_allHold_64 : decode cX7_allHold 64 = .ok (.istore 5, 2) := by decide +kernel
theorem dX7_allHold_66 : decode cX7_allHold 66 = .ok (.iload 4, 2) := by decide +kernel
theorem dX7_allHold_68 : decode cX7_allHold 68 = .ok (.iload 5, 2) := by decide +kernel
theorem dX7_allHold_70 : decode cX7_allHold 70 = .ok (.iadd, 1) := by decide +kernel
theorem dX7_allHold_71 : decode cX7_allHold 71 = .ok (.istore 4, 2) := by decide +kernel
theorem dX7_allHold_73 : decode cX7_allHold 73 = .ok (.iinc 6 (-1), 3) := by decide +kernel
theorem dX7_allHold_76 : decode cX7_allHold 76 = .ok (.goto (-47), 3) := by decide +kernel
theorem dX7_allHold_79 : decode cX7_allHold 79 = .ok (.iconst 1, 1) := by decide +kernel
theorem dX7_allHold_80 : decode cX7_allHold 80 = .ok (.istore 6, 2) := by decide +kernel
theorem dX7_allHold_82 : decode cX7_allHold 82 = .ok (.iconst 4, 1) := by decide +kernel
theorem dX7_allHold_83 : decode cX7_allHold 83 = .ok (.iload_n 1, 1) := by decide +kernel
theorem dX7_allHold_84 : decode cX7_allHold 84 = .ok (.imul, 1) := by decide +kernel
theorem dX7_allHold_85 : decode cX7_allHold 85 = .ok (.istore 7, 2) := by decide +kernel
theorem dX7_allHold_87 : decode cX7_allHold 87 = .ok (.iload 7, 2) := by decide +kernel
theorem dX7_allHold_89 : decode cX7_allHold 89 = .ok (.iconst 4, 1) := by decide +kernel
theorem dX7_allHold_90 : decode cX7_allHold 90 = .ok (.iload_n 1, 1) := by decide +kernel
theorem dX7_allHold_91 : decode cX7_allHold 91 = .ok (.imul, 1) := by decide +kernel
theorem dX7_allHold_92 : decode cX7_allHold 92 = .ok (.aload_n 0, 1) := by decide +kernel
theorem dX7_allHold_93 : decode cX7_allHold 93 = .ok (.getfield 30, 3) := by decide +kernel
theorem dX7_allHold_96 : decode cX7_allHold 96 = .ok (.iload_n 1, 1) := by decide +kernel
theorem dX7_allHold_97 : decode cX7_allHold 97 = .ok (.iaload, 1) := by decide +kernel
theorem dX7_allHold_98 : decode cX7_allHold 98 = .ok (.iadd, 1) := by decide +kernel
theorem dX7_allHold_99 : decode cX7_allHold 99 = .ok (.if_icmp .ge 46, 3) := by decide +kernel
theorem dX7_allHold_102 : decode cX7_allHold 102 = .ok (.iload 6, 2) := by decide +kernel
theorem dX7_allHold_104 : decode cX7_allHold 104 = .ok (.ifCond .eq 32, 3) := by decide +kernel
theorem dX7_allHold_107 : decode cX7_allHold 107 = .ok (.aload_n 0, 1) := by decide +kernel
theorem dX7_allHold_108 : decode cX7_allHold 108 = .ok (.getfield 33, 3) := by decide +kernel
theorem dX7_allHold_111 : decode cX7_allHold 111 = .ok (.iload 7, 2) := by decide +kernel
theorem dX7_allHold_113 : decode cX7_allHold 113 = .ok (.iaload, 1) := by decide +kernel
theorem dX7_allHold_114 : decode cX7_allHold 114 = .ok (.aload_n 0, 1) := by decide +kernel
theorem dX7_allHold_115 : decode cX7_allHold 115 = .ok (.getfield 36, 3) := by decide +kernel
theorem dX7_allHold_118 : decode cX7_allHold 118 = .ok (.iload 7, 2) := by decide +kernel
theorem dX7_allHold_120 : decode cX7_allHold 120 = .ok (.iaload, 1) := by decide +kernel
theorem dX7_allHold_121 : decode cX7_allHold 121 = .ok (.iload_n 3, 1) := by decide +kernel
theorem dX7_allHold_122 : decode cX7_allHold 122 = .ok (.iload 5, 2) := by decide +kernel
theorem dX7_allHold_124 : decode cX7_allHold 124 = .ok (.iload 4, 2) := by decide +kernel
theorem dX7_allHold_126 : decode cX7_allHold 126 = .ok (.invokestatic 131, 3) := by decide +kernel
theorem dX7_allHold_129 : decode cX7_allHold 129 = .ok (.ifCond .eq 7, 3) := by decide +kernel
theorem dX7_allHold_132 : decode cX7_allHold 132 = .ok (.iconst 1, 1) := by decide +kernel
theorem dX7_allHold_133 : decode cX7_allHold 133 = .ok (.goto 4, 3) := by decide +kernel
theorem dX7_allHold_136 : decode cX7_allHold 136 = .ok (.iconst 0, 1) := by decide +kernel
theorem dX7_allHold_137 : decode cX7_allHold 137 = .ok (.istore 6, 2) := by decide +kernel
theorem dX7_allHold_139 : decode cX7_allHold 139 = .ok (.iinc 7 1, 3) := by decide +kernel
theorem dX7_allHold_142 : decode cX7_allHold 142 = .ok (.goto (-55), 3) := by decide +kernel
theorem dX7_allHold_145 : decode cX7_allHold 145 = .ok (.iload 6, 2) := by decide +kernel
theorem dX7_allHold_147 : decode cX7_allHold 147 = .ok (.ireturn, 1) := by decide +kernel
theorem dX7_hasDerived_0 : decode cX7_hasDerived 0 = .ok (.iconst 0, 1) := by decide +kernel
theorem dX7_hasDerived_1 : decode cX7_hasDerived 1 = .ok (.istore_n 3, 1) := by decide +kernel
theorem dX7_hasDerived_2 : decode cX7_hasDerived 2 = .ok (.iconst 0, 1) := by decide +kernel
theorem dX7_hasDerived_3 : decode cX7_hasDerived 3 = .ok (.istore 4, 2) := by decide +kernel
theorem dX7_hasDerived_5 : decode cX7_hasDerived 5 = .ok (.iload 4, 2) := by decide +kernel
theorem dX7_hasDerived_7 : decode cX7_hasDerived 7 = .ok (.aload_n 0, 1) := by decide +kernel
theorem dX7_hasDerived_8 : decode cX7_hasDerived 8 = .ok (.getfield 89, 3) := by decide +kernel
theorem dX7_hasDerived_11 : decode cX7_hasDerived 11 = .ok (.if_icmp .ge 55, 3) := by decide +kernel
theorem dX7_hasDerived_14 : decode cX7_hasDerived 14 = .ok (.iload_n 3, 1) := by decide +kernel
theorem dX7_hasDerived_15 : decode cX7_hasDerived 15 = .ok (.ifCond .ne 39, 3) := by decide +kernel
theorem dX7_hasDerived_18 : decode cX7_hasDerived 18 = .ok (.aload_n 0, 1) := by decide +kernel
theorem dX7_hasDerived_19 : decode cX7_hasDerived 19 = .ok (.getfield 54, 3) := by decide +kernel
theorem dX7_hasDerived_22 : decode cX7_hasDerived 22 = .ok (.iload 4, 2) := by decide +kernel
theorem dX7_hasDerived_24 : decode cX7_hasDerived 24 = .ok (.baload, 1) := by decide +kernel
theorem dX7_hasDerived_25 : decode cX7_hasDerived 25 = .ok (.ifCond .ne 33, 3) := by decide +kernel
theorem dX7_hasDerived_28 : decode cX7_hasDerived 28 = .ok (.aload_n 0, 1) := by decide +kernel
theorem dX7_hasDerived_29 : decode cX7_hasDerived 29 = .ok (.getfield 48, 3) := by decide +kernel
theorem dX7_hasDerived_32 : decode cX7_hasDerived 32 = .ok (.iload 4, 2) := by decide +kernel
theorem dX7_hasDerived_34 : decode cX7_hasDerived 34 = .ok (.iaload, 1) := by decide +kernel
theorem dX7_hasDerived_35 : decode cX7_hasDerived 35 = .ok (.iload_n 1, 1) := by decide +kernel
theorem dX7_hasDerived_36 : decode cX7_hasDerived 36 = .ok (.if_icmp .ne 22, 3) := by decide +kernel
theorem dX7_hasDerived_39 : decode cX7_hasDerived 39 = .ok (.iload_n 2, 1) := by decide +kernel
theorem dX7_hasDerived_40 : decode cX7_hasDerived 40 = .ok (.ifCond .lt 14, 3) := by decide +kernel
theorem dX7_hasDerived_43 : decode cX7_hasDerived 43 = .ok (.aload_n 0, 1) := by decide +kernel
theorem dX7_hasDerived_44 : decode cX7_hasDerived 44 = .ok (.getfield 51, 3) := by decide +kernel
theorem dX7_hasDerived_47 : decode cX7_hasDerived 47 = .ok (.iload 4, 2) := by decide +kernel
theorem dX7_hasDerived_49 : decode cX7_hasDerived 49 = .ok (.iaload, 1) := by decide +kernel
theorem dX7_hasDerived_50 : decode cX7_hasDerived 50 = .ok (.iload_n 2, 1) := by decide +kernel
theorem dX7_hasDerived_51 : decode cX7_hasDerived 51 = .ok (.if_icmp .ne 7, 3) := by decide +kernel
theorem dX7_hasDerived_54 : decode cX7_hasDerived 54 = .ok (.iconst 1, 1) := by decide +kernel
theorem dX7_hasDerived_55 : decode cX7_hasDerived 55 = .ok (.goto 4, 3) := by decide +kernel
theorem dX7_hasDerived_58 : decode cX7_hasDerived 58 = .ok (.iconst 0, 1) := by decide +kernel
theorem dX7_hasDerived_59 : decode cX7_hasDerived 59 = .ok (.istore_n 3, 1) := by decide +kernel
theorem dX7_hasDerived_60 : decode cX7_hasDerived 60 = .ok (.iinc 4 1, 3) := by decide +kernel
theorem dX7_hasDerived_63 : decode cX7_hasDerived 63 = .ok (.goto (-58), 3) := by decide +kernel
theorem dX7_hasDerived_66 : decode cX7_hasDerived 66 = .ok (.iload_n 3, 1) := by decide +kernel
theorem dX7_hasDerived_67 : decode cX7_hasDerived 67 = .ok (.ireturn, 1) := by decide +kernel
theorem dX7_derive_0 : decode cX7_derive 0 = .ok (.aload_n 0, 1) := by decide +kernel
theorem dX7_derive_1 : decode cX7_derive 1 = .ok (.iload_n 1, 1) := by decide +kernel
theorem dX7_derive_2 : decode cX7_derive 2 = .ok (.iload_n 2, 1) := by decide +kernel
theorem dX7_derive_3 : decode cX7_derive 3 = .ok (.invokevirtual 135, 3) := by decide +kernel
theorem dX7_derive_6 : decode cX7_derive 6 = .ok (.ifCond .eq 6, 3) := by decide +kernel
theorem dX7_derive_9 : decode cX7_derive 9 = .ok (.bipush (-11), 2) := by decide +kernel
theorem dX7_derive_11 : decode cX7_derive 11 = .ok (.ireturn, 1) := by decide +kernel
theorem dX7_derive_12 : decode cX7_derive 12 = .ok (.aload_n 0, 1) := by decide +kernel
theorem dX7_derive_13 : decode cX7_derive 13 = .ok (.iconst 2, 1) := by decide +kernel
theorem dX7_derive_14 : decode cX7_derive 14 = .ok (.iload_n 2, 1) := by decide +kernel
theorem dX7_derive_15 : decode cX7_derive 15 = .ok (.imul, 1) := by decide +kernel
theorem dX7_derive_16 : decode cX7_derive 16 = .ok (.iload_n 1, 1) := by decide +kernel
theorem dX7_derive_17 : decode cX7_derive 17 = .ok (.invokevirtual 139, 3) := by decide +kernel
theorem dX7_derive_20 : decode cX7_derive 20 = .ok (.ifCond .ne 6, 3) := by decide +kernel
theorem dX7_derive_23 : decode cX7_derive 23 = .ok (.bipush (-12), 2) := by decide +kernel
theorem dX7_derive_25 : decode cX7_derive 25 = .ok (.ireturn, 1) := by decide +kernel
theorem dX7_derive_26 : decode cX7_derive 26 = .ok (.aload_n 0, 1) := by decide +kernel
theorem dX7_derive_27 : decode cX7_derive 27 = .ok (.iload_n 2, 1) := by decide +kernel
theorem dX7_derive_28 : decode cX7_derive 28 = .ok (.iload_n 1, 1) := by decide +kernel
theorem dX7_derive_29 : decode cX7_derive 29 = .ok (.invokevirtual 142, 3) := by decide +kernel
theorem dX7_derive_32 : decode cX7_derive 32 = .ok (.istore_n 3, 1) := by decide +kernel
theorem dX7_derive_33 : decode cX7_derive 33 = .ok (.iload_n 3, 1) := by decide +kernel
theorem dX7_derive_34 : decode cX7_derive 34 = .ok (.ifCond .le 8, 3) := by decide +kernel
theorem dX7_derive_37 : decode cX7_derive 37 = .ok (.bipush (-12), 2) := by decide +kernel
theorem dX7_derive_39 : decode cX7_derive 39 = .ok (.iload_n 3, 1) := by decide +kernel
theorem dX7_derive_40 : decode cX7_derive 40 = .ok (.isub, 1) := by decide +kernel
theorem dX7_derive_41 : decode cX7_derive 41 = .ok (.ireturn, 1) := by decide +kernel
theorem dX7_derive_42 : decode cX7_derive 42 = .ok (.aload_n 0, 1) := by decide +kernel
theorem dX7_derive_43 : decode cX7_derive 43 = .ok (.iconst 2, 1) := by decide +kernel
theorem dX7_derive_44 : decode cX7_derive 44 = .ok (.iload_n 2, 1) := by decide +kernel
theorem dX7_derive_45 : decode cX7_derive 45 = .ok (.imul, 1) := by decide +kernel
theorem dX7_derive_46 : decode cX7_derive 46 = .ok (.iconst 1, 1) := by decide +kernel
theorem dX7_derive_47 : decode cX7_derive 47 = .ok (.iadd, 1) := by decide +kernel
theorem dX7_derive_48 : decode cX7_derive 48 = .ok (.iconst (-1), 1) := by decide +kernel
theorem dX7_derive_49 : decode cX7_derive 49 = .ok (.invokevirtual 139, 3) := by decide +kernel
theorem dX7_derive_52 : decode cX7_derive 52 = .ok (.ifCond .ne 6, 3) := by decide +kernel
theorem dX7_derive_55 : decode cX7_derive 55 = .ok (.bipush (-17), 2) := by decide +kernel
theorem dX7_derive_57 : decode cX7_derive 57 = .ok (.ireturn, 1) := by decide +kernel
theorem dX7_derive_58 : decode cX7_derive 58 = .ok (.aload_n 0, 1) := by decide +kernel
theorem dX7_derive_59 : decode cX7_derive 59 = .ok (.getfield 89, 3) := by decide +kernel
theorem dX7_derive_62 : decode cX7_derive 62 = .ok (.bipush 60, 2) := by decide +kernel
theorem dX7_derive_64 : decode cX7_derive 64 = .ok (.if_icmp .ne 6, 3) := by decide +kernel
theorem dX7_derive_67 : decode cX7_derive 67 = .ok (.bipush (-4), 2) := by decide +kernel
theorem dX7_derive_69 : decode cX7_derive 69 = .ok (.ireturn, 1) := by decide +kernel
theorem dX7_derive_70 : decode cX7_derive 70 = .ok (.aload_n 0, 1) := by decide +kernel
theorem dX7_derive_71 : decode cX7_derive 71 = .ok (.getfield 42, 3) := by decide +kernel
theorem dX7_derive_74 : decode cX7_derive 74 = .ok (.aload_n 0, 1) := by decide +kernel
theorem dX7_derive_75 : decode cX7_derive 75 = .ok (.getfield 89, 3) := by decide +kernel
theorem dX7_derive_78 : decode cX7_derive 78 = .ok (.aload_n 0, 1) := by decide +kernel
theorem dX7_derive_79 : decode cX7_derive 79 = .ok (.getfield 113, 3) := by decide +kernel
theorem dX7_derive_82 : decode cX7_derive 82 = .ok (.iastore, 1) := by decide +kernel
theorem dX7_derive_83 : decode cX7_derive 83 = .ok (.iconst 0, 1) := by decide +kernel
theorem dX7_derive_84 : decode cX7_derive 84 = .ok (.istore 4, 2) := by decide +kernel
theorem dX7_derive_86 : decode cX7_derive 86 = .ok (.iload 4, 2) := by decide +kernel
theorem dX7_derive_88 : decode cX7_derive 88 = .ok (.aload_n 0, 1) := by decide +kernel
theorem dX7_derive_89 : decode cX7_derive 89 = .ok (.getfield 113, 3) := by decide +kernel
theorem dX7_derive_92 : decode cX7_derive 92 = .ok (.if_icmp .ge 31, 3) := by decide +kernel
theorem dX7_derive_95 : decode cX7_derive 95 = .ok (.aload_n 0, 1) := by decide +kernel
theorem dX7_derive_96 : decode cX7_derive 96 = .ok (.getfield 45, 3) := by decide +kernel
theorem dX7_derive_99 : decode cX7_derive 99 = .ok (.bipush 40, 2) := by decide +kernel
theorem dX7_derive_101 : decode cX7_derive 101 = .ok (.aload_n 0, 1) := by decide +kernel
theorem dX7_derive_102 : decode cX7_derive 102 = .ok (.getfield 89, 3) := by decide +kernel
theorem dX7_derive_105 : decode cX7_derive 105 = .ok (.imul, 1) := by decide +kernel
theorem dX7_derive_106 : decode cX7_derive 106 = .ok (.iload 4, 2) := by decide +kernel
theorem dX7_derive_108 : decode cX7_derive 108 = .ok (.iadd, 1) := by decide +kernel
theorem dX7_derive_109 : decode cX7_derive 109 = .ok (.aload_n 0, 1) := by decide +kernel
theorem dX7_derive_110 : decode cX7_derive 110 = .ok (.getfield 67, 3) := by decide +kernel
theorem dX7_derive_113 : decode cX7_derive 113 = .ok (.iload 4, 2) := by decide +kernel
theorem dX7_derive_115 : decode cX7_derive 115 = .ok (.baload, 1) := by decide +kernel
theorem dX7_derive_116 : decode cX7_derive 116 = .ok (.bastore, 1) := by decide +kernel
theorem dX7_derive_117 : decode cX7_derive 117 = .ok (.iinc 4 1, 3) := by decide +kernel
theorem dX7_derive_120 : decode cX7_derive 120 = .ok (.goto (-34), 3) := by decide +kernel
theorem dX7_derive_123 : decode cX7_derive 123 = .ok (.aload_n 0, 1) := by decide +kernel
theorem dX7_derive_124 : decode cX7_derive 124 = .ok (.getfield 48, 3) := by decide +kernel
theorem dX7_derive_127 : decode cX7_derive 127 = .ok (.aload_n 0, 1) := by decide +kernel
theorem dX7_derive_128 : decode cX7_derive 128 = .ok (.getfield 89, 3) := by decide +kernel
theorem dX7_derive_131 : decode cX7_derive 131 = .ok (.iload_n 1, 1) := by decide +kernel
theorem dX7_derive_132 : decode cX7_derive 132 = .ok (.iastore, 1) := by decide +kernel
theorem dX7_derive_133 : decode cX7_derive 133 = .ok (.aload_n 0, 1) := by decide +kernel
theorem dX7_derive_134 : decode cX7_derive 134 = .ok (.getfield 51, 3) := by decide +kernel
theorem dX7_derive_137 : decode cX7_derive 137 = .ok (.aload_n 0, 1) := by decide +kernel
theorem dX7_derive_138 : decode cX7_derive 138 = .ok (.getfield 89, 3) := by decide +kernel
theorem dX7_derive_141 : decode cX7_derive 141 = .ok (.iload_n 2, 1) := by decide +kernel
theorem dX7_derive_142 : decode cX7_derive 142 = .ok (.iastore, 1) := by decide +kernel
theorem dX7_derive_143 : decode cX7_derive 143 = .ok (.aload_n 0, 1) := by decide +kernel
theorem dX7_derive_144 : decode cX7_derive 144 = .ok (.getfield 58, 3) := by decide +kernel
theorem dX7_derive_147 : decode cX7_derive 147 = .ok (.aload_n 0, 1) := by decide +kernel
theorem dX7_derive_148 : decode cX7_derive 148 = .ok (.getfield 89, 3) := by decide +kernel
theorem dX7_derive_151 : decode cX7_derive 151 = .ok (.iconst 0, 1) := by decide +kernel
theorem dX7_derive_152 : decode cX7_derive 152 = .ok (.iastore, 1) := by decide +kernel
theorem dX7_derive_153 : decode cX7_derive 153 = .ok (.aload_n 0, 1) := by decide +kernel
theorem dX7_derive_154 : decode cX7_derive 154 = .ok (.dup, 1) := by decide +kernel
theorem dX7_derive_155 : decode cX7_derive 155 = .ok (.getfield 89, 3) := by decide +kernel
theorem dX7_derive_158 : decode cX7_derive 158 = .ok (.iconst 1, 1) := by decide +kernel
theorem dX7_derive_159 : decode cX7_derive 159 = .ok (.iadd, 1) := by decide +kernel
theorem dX7_derive_160 : decode cX7_derive 160 = .ok (.putfield 89, 3) := by decide +kernel
theorem dX7_derive_163 : decode cX7_derive 163 = .ok (.aload_n 0, 1) := by decide +kernel
theorem dX7_derive_164 : decode cX7_derive 164 = .ok (.getfield 89, 3) := by decide +kernel
theorem dX7_derive_167 : decode cX7_derive 167 = .ok (.iconst 1, 1) := by decide +kernel
theorem dX7_derive_168 : decode cX7_derive 168 = .ok (.isub, 1) := by decide +kernel
theorem dX7_derive_169 : decode cX7_derive 169 = .ok (.ireturn, 1) := by decide +kernel
theorem dX7_can_0 : decode cX7_can 0 = .ok (.aload_n 0, 1) := by decide +kernel
theorem dX7_can_1 : decode cX7_can 1 = .ok (.iload_n 1, 1) := by decide +kernel
theorem dX7_can_2 : decode cX7_can 2 = .ok (.invokevirtual 146, 3) := by decide +kernel
theorem dX7_can_5 : decode cX7_can 5 = .ok (.ifCond .eq 24, 3) := by decide +kernel
theorem dX7_can_8 : decode cX7_can 8 = .ok (.aload_n 0, 1) := by decide +kernel
theorem dX7_can_9 : decode cX7_can 9 = .ok (.getfield 54, 3) := by decide +kernel
theorem dX7_can_12 : decode cX7_can 12 = .ok (.iload_n 1, 1) := by decide +kernel
theorem dX7_can_13 : decode cX7_can 13 = .ok (.baload, 1) := by decide +kernel
theorem dX7_can_14 : decode cX7_can 14 = .ok (.ifCond .ne 15, 3) := by decide +kernel
theorem dX7_can_17 : decode cX7_can 17 = .ok (.aload_n 0, 1) := by decide +kernel
theorem dX7_can_18 : decode cX7_can 18 = .ok (.iload_n 2, 1) := by decide +kernel
theorem dX7_can_19 : decode cX7_can 19 = .ok (.invokevirtual 128, 3) := by decide +kernel
theorem dX7_can_22 : decode cX7_can 22 = .ok (.ifCond .eq 7, 3) := by decide +kernel
theorem dX7_can_25 : decode cX7_can 25 = .ok (.iconst 1, 1) := by decide +kernel
theorem dX7_can_26 : decode cX7_can 26 = .ok (.goto 4, 3) := by decide +kernel
theorem dX7_can_29 : decode cX7_can 29 = .ok (.iconst 0, 1) := by decide +kernel
theorem dX7_can_30 : decode cX7_can 30 = .ok (.ireturn, 1) := by decide +kernel
theorem dX7_migrate_0 : decode cX7_migrate 0 = .ok (.aload_n 0, 1) := by decide +kernel
theorem dX7_migrate_1 : decode cX7_migrate 1 = .ok (.iconst 0, 1) := by decide +kernel
theorem dX7_migrate_2 : decode cX7_migrate 2 = .ok (.putfield 79, 3) := by decide +kernel
theorem dX7_migrate_5 : decode cX7_migrate 5 = .ok (.aload_n 0, 1) := by decide +kernel
theorem dX7_migrate_6 : decode cX7_migrate 6 = .ok (.iload_n 1, 1) := by decide +kernel
theorem dX7_migrate_7 : decode cX7_migrate 7 = .ok (.iload_n 2, 1) := by decide +kernel
theorem dX7_migrate_8 : decode cX7_migrate 8 = .ok (.invokevirtual 149, 3) := by decide +kernel
theorem dX7_migrate_11 : decode cX7_migrate 11 = .ok (.ifCond .ne 5, 3) := by decide +kernel
theorem dX7_migrate_14 : decode cX7_migrate 14 = .ok (.iconst (-1), 1) := by decide +kernel
theorem dX7_migrate_15 : decode cX7_migrate 15 = .ok (.ireturn, 1) := by decide +kernel
