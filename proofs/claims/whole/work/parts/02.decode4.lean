theorem dX9_white_26 : decode cX9_white 26 = .ok (.ireturn, 1) := by decide +kernel
theorem dX9_weights_0 : decode cX9_weights 0 = .ok (.iconst 0, 1) := by decide +kernel
theorem dX9_weights_1 : decode cX9_weights 1 = .ok (.istore_n 1, 1) := by decide +kernel
theorem dX9_weights_2 : decode cX9_weights 2 = .ok (.iconst 0, 1) := by decide +kernel
theorem dX9_weights_3 : decode cX9_weights 3 = .ok (.istore_n 2, 1) := by decide +kernel
theorem dX9_weights_4 : decode cX9_weights 4 = .ok (.iload_n 2, 1) := by decide +kernel
theorem dX9_weights_5 : decode cX9_weights 5 = .ok (.aload_n 0, 1) := by decide +kernel
theorem dX9_weights_6 : decode cX9_weights 6 = .ok (.invokevirtual 42, 3) := by decide +kernel
theorem dX9_weights_9 : decode cX9_weights 9 = .ok (.if_icmp .ge 29, 3) := by decide +kernel
theorem dX9_weights_12 : decode cX9_weights 12 = .ok (.iload_n 1, 1) := by decide +kernel
theorem dX9_weights_13 : decode cX9_weights 13 = .ok (.aload_n 0, 1) := by decide +kernel
theorem dX9_weights_14 : decode cX9_weights 14 = .ok (.iload_n 2, 1) := by decide +kernel
theorem dX9_weights_15 : decode cX9_weights 15 = .ok (.invokevirtual 82, 3) := by decide +kernel
theorem dX9_weights_18 : decode cX9_weights 18 = .ok (.ifCond .eq 11, 3) := by decide +kernel
theorem dX9_weights_21 : decode cX9_weights 21 = .ok (.aload_n 0, 1) := by decide +kernel
theorem dX9_weights_22 : decode cX9_weights 22 = .ok (.iload_n 2, 1) := by decide +kernel
theorem dX9_weights_23 : decode cX9_weights 23 = .ok (.invokevirtual 149, 3) := by decide +kernel
theorem dX9_weights_26 : decode cX9_weights 26 = .ok (.goto 4, 3) := by decide +kernel
theorem dX9_weights_29 : decode cX9_weights 29 = .ok (.iconst 0, 1) := by decide +kernel
theorem dX9_weights_30 : decode cX9_weights 30 = .ok (.iadd, 1) := by decide +kernel
theorem dX9_weights_31 : decode cX9_weights 31 = .ok (.istore_n 1, 1) := by decide +kernel
theorem dX9_weights_32 : decode cX9_weights 32 = .ok (.iinc 2 1, 3) := by decide +kernel
theorem dX9_weights_35 : decode cX9_weights 35 = .ok (.goto (-31), 3) := by decide +kernel
theorem dX9_weights_38 : decode cX9_weights 38 = .ok (.iload_n 1, 1) := by decide +kernel
theorem dX9_weights_39 : decode cX9_weights 39 = .ok (.ireturn, 1) := by decide +kernel
theorem dX9_centreOf_0 : decode cX9_centreOf 0 = .ok (.dconst 0, 1) := by decide +kernel
theorem dX9_centreOf_1 : decode cX9_centreOf 1 = .ok (.dstore_n 2, 1) := by decide +kernel
theorem dX9_centreOf_2 : decode cX9_centreOf 2 = .ok (.aload_n 0, 1) := by decide +kernel
theorem dX9_centreOf_3 : decode cX9_centreOf 3 = .ok (.invokevirtual 256, 3) := by decide +kernel
theorem dX9_centreOf_6 : decode cX9_centreOf 6 = .ok (.istore 4, 2) := by decide +kernel
theorem dX9_centreOf_8 : decode cX9_centreOf 8 = .ok (.iconst 0, 1) := by decide +kernel
theorem dX9_centreOf_9 : decode cX9_centreOf 9 = .ok (.istore 5, 2) := by decide +kernel
theorem dX9_centreOf_11 : decode cX9_centreOf 11 = .ok (.iload 5, 2) := by decide +kernel
theorem dX9_centreOf_13 : decode cX9_centreOf 13 = .ok (.aload_n 0, 1) := by decide +kernel
theorem dX9_centreOf_14 : decode cX9_centreOf 14 = .ok (.invokevirtual 42, 3) := by decide +kernel
theorem dX9_centreOf_17 : decode cX9_centreOf 17 = .ok (.if_icmp .ge 74, 3) := by decide +kernel
theorem dX9_centreOf_20 : decode cX9_centreOf 20 = .ok (.aload_n 0, 1) := by decide +kernel
theorem dX9_centreOf_21 : decode cX9_centreOf 21 = .ok (.iload 5, 2) := by decide +kernel
theorem dX9_centreOf_23 : decode cX9_centreOf 23 = .ok (.invokevirtual 82, 3) := by decide +kernel
theorem dX9_centreOf_26 : decode cX9_centreOf 26 = .ok (.ifCond .eq 59, 3) := by decide +kernel
theorem dX9_centreOf_29 : decode cX9_centreOf 29 = .ok (.iload_n 1, 1) := by decide +kernel
theorem dX9_centreOf_30 : decode cX9_centreOf 30 = .ok (.ifCond .eq 12, 3) := by decide +kernel
theorem dX9_centreOf_33 : decode cX9_centreOf 33 = .ok (.aload_n 0, 1) := by decide +kernel
theorem dX9_centreOf_34 : decode cX9_centreOf 34 = .ok (.iload 5, 2) := by decide +kernel
theorem dX9_centreOf_36 : decode cX9_centreOf 36 = .ok (.invokevirtual 68, 3) := by decide +kernel
theorem dX9_centreOf_39 : decode cX9_centreOf 39 = .ok (.goto 9, 3) := by decide +kernel
theorem dX9_centreOf_42 : decode cX9_centreOf 42 = .ok (.aload_n 0, 1) := by decide +kernel
theorem dX9_centreOf_43 : decode cX9_centreOf 43 = .ok (.iload 5, 2) := by decide +kernel
theorem dX9_centreOf_45 : decode cX9_centreOf 45 = .ok (.invokevirtual 64, 3) := by decide +kernel
theorem dX9_centreOf_48 : decode cX9_centreOf 48 = .ok (.i2d, 1) := by decide +kernel
theorem dX9_centreOf_49 : decode cX9_centreOf 49 = .ok (.ldc2_w 259, 3) := by decide +kernel
theorem dX9_centreOf_52 : decode cX9_centreOf 52 = .ok (.ddiv, 1) := by decide +kernel
theorem dX9_centreOf_53 : decode cX9_centreOf 53 = .ok (.dstore 6, 2) := by decide +kernel
theorem dX9_centreOf_55 : decode cX9_centreOf 55 = .ok (.dload_n 2, 1) := by decide +kernel
theorem dX9_centreOf_56 : decode cX9_centreOf 56 = .ok (.aload_n 0, 1) := by decide +kernel
theorem dX9_centreOf_57 : decode cX9_centreOf 57 = .ok (.iload 5, 2) := by decide +kernel
theorem dX9_centreOf_59 : decode cX9_centreOf 59 = .ok (.invokevirtual 149, 3) := by decide +kernel
theorem dX9_centreOf_62 : decode cX9_centreOf 62 = .ok (.i2d, 1) := by decide +kernel
theorem dX9_centreOf_63 : decode cX9_centreOf 63 = .ok (.aload_n 0, 1) := by decide +kernel
theorem dX9_centreOf_64 : decode cX9_centreOf 64 = .ok (.iload 5, 2) := by decide +kernel
theorem dX9_centreOf_66 : decode cX9_centreOf 66 = .ok (.iload_n 1, 1) := by decide +kernel
theorem dX9_centreOf_67 : decode cX9_centreOf 67 = .ok (.ifCond .eq 7, 3) := by decide +kernel
theorem dX9_centreOf_70 : decode cX9_centreOf 70 = .ok (.iconst 5, 1) := by decide +kernel
theorem dX9_centreOf_71 : decode cX9_centreOf 71 = .ok (.goto 4, 3) := by decide +kernel
theorem dX9_centreOf_74 : decode cX9_centreOf 74 = .ok (.iconst 4, 1) := by decide +kernel
theorem dX9_centreOf_75 : decode cX9_centreOf 75 = .ok (.invokevirtual 50, 3) := by decide +kernel
theorem dX9_centreOf_78 : decode cX9_centreOf 78 = .ok (.i2d, 1) := by decide +kernel
theorem dX9_centreOf_79 : decode cX9_centreOf 79 = .ok (.dload 6, 2) := by decide +kernel
theorem dX9_centreOf_81 : decode cX9_centreOf 81 = .ok (.dadd, 1) := by decide +kernel
theorem dX9_centreOf_82 : decode cX9_centreOf 82 = .ok (.dmul, 1) := by decide +kernel
theorem dX9_centreOf_83 : decode cX9_centreOf 83 = .ok (.dadd, 1) := by decide +kernel
theorem dX9_centreOf_84 : decode cX9_centreOf 84 = .ok (.dstore_n 2, 1) := by decide +kernel
theorem dX9_centreOf_85 : decode cX9_centreOf 85 = .ok (.iinc 5 1, 3) := by decide +kernel
theorem dX9_centreOf_88 : decode cX9_centreOf 88 = .ok (.goto (-77), 3) := by decide +kernel
theorem dX9_centreOf_91 : decode cX9_centreOf 91 = .ok (.iload 4, 2) := by decide +kernel
theorem dX9_centreOf_93 : decode cX9_centreOf 93 = .ok (.ifCond .ne 11, 3) := by decide +kernel
theorem dX9_centreOf_96 : decode cX9_centreOf 96 = .ok (.aload_n 0, 1) := by decide +kernel
theorem dX9_centreOf_97 : decode cX9_centreOf 97 = .ok (.iload_n 1, 1) := by decide +kernel
theorem dX9_centreOf_98 : decode cX9_centreOf 98 = .ok (.invokevirtual 261, 3) := by decide +kernel
theorem dX9_centreOf_101 : decode cX9_centreOf 101 = .ok (.goto 8, 3) := by decide +kernel
theorem dX9_centreOf_104 : decode cX9_centreOf 104 = .ok (.dload_n 2, 1) := by decide +kernel
theorem dX9_centreOf_105 : decode cX9_centreOf 105 = .ok (.iload 4, 2) := by decide +kernel
theorem dX9_centreOf_107 : decode cX9_centreOf 107 = .ok (.i2d, 1) := by decide +kernel
theorem dX9_centreOf_108 : decode cX9_centreOf 108 = .ok (.ddiv, 1) := by decide +kernel
theorem dX9_centreOf_109 : decode cX9_centreOf 109 = .ok (.dreturn, 1) := by decide +kernel
theorem dX9_middle_0 : decode cX9_middle 0 = .ok (.iload_n 1, 1) := by decide +kernel
theorem dX9_middle_1 : decode cX9_middle 1 = .ok (.ifCond .eq 12, 3) := by decide +kernel
theorem dX9_middle_4 : decode cX9_middle 4 = .ok (.aload_n 0, 1) := by decide +kernel
theorem dX9_middle_5 : decode cX9_middle 5 = .ok (.getfield 7, 3) := by decide +kernel
theorem dX9_middle_8 : decode cX9_middle 8 = .ok (.iconst 1, 1) := by decide +kernel
theorem dX9_middle_9 : decode cX9_middle 9 = .ok (.iaload, 1) := by decide +kernel
theorem dX9_middle_10 : decode cX9_middle 10 = .ok (.goto 9, 3) := by decide +kernel
theorem dX9_middle_13 : decode cX9_middle 13 = .ok (.aload_n 0, 1) := by decide +kernel
theorem dX9_middle_14 : decode cX9_middle 14 = .ok (.getfield 7, 3) := by decide +kernel
theorem dX9_middle_17 : decode cX9_middle 17 = .ok (.iconst 0, 1) := by decide +kernel
theorem dX9_middle_18 : decode cX9_middle 18 = .ok (.iaload, 1) := by decide +kernel
theorem dX9_middle_19 : decode cX9_middle 19 = .ok (.i2d, 1) := by decide +kernel
theorem dX9_middle_20 : decode cX9_middle 20 = .ok (.ldc2_w 259, 3) := by decide +kernel
theorem dX9_middle_23 : decode cX9_middle 23 = .ok (.ddiv, 1) := by decide +kernel
theorem dX9_middle_24 : decode cX9_middle 24 = .ok (.dreturn, 1) := by decide +kernel
theorem dX9_balance_0 : decode cX9_balance 0 = .ok (.aload_n 0, 1) := by decide +kernel
theorem dX9_balance_1 : decode cX9_balance 1 = .ok (.iconst 0, 1) := by decide +kernel
theorem dX9_balance_2 : decode cX9_balance 2 = .ok (.invokevirtual 265, 3) := by decide +kernel
theorem dX9_balance_5 : decode cX9_balance 5 = .ok (.aload_n 0, 1) := by decide +kernel
theorem dX9_balance_6 : decode cX9_balance 6 = .ok (.iconst 0, 1) := by decide +kernel
theorem dX9_balance_7 : decode cX9_balance 7 = .ok (.invokevirtual 261, 3) := by decide +kernel
theorem dX9_balance_10 : decode cX9_balance 10 = .ok (.dsub, 1) := by decide +kernel
theorem dX9_balance_11 : decode cX9_balance 11 = .ok (.dstore_n 1, 1) := by decide +kernel
theorem dX9_balance_12 : decode cX9_balance 12 = .ok (.aload_n 0, 1) := by decide +kernel
theorem dX9_balance_13 : decode cX9_balance 13 = .ok (.iconst 1, 1) := by decide +kernel
theorem dX9_balance_14 : decode cX9_balance 14 = .ok (.invokevirtual 265, 3) := by decide +kernel
theorem dX9_balance_17 : decode cX9_balance 17 = .ok (.aload_n 0, 1) := by decide +kernel
theorem dX9_balance_18 : decode cX9_balance 18 = .ok (.iconst 1, 1) := by decide +kernel
theorem dX9_balance_19 : decode cX9_balance 19 = .ok (.invokevirtual 261, 3) := by decide +kernel
theorem dX9_balance_22 : decode cX9_balance 22 = .ok (.dsub, 1) := by decide +kernel
theorem dX9_balance_23 : decode cX9_balance 23 = .ok (.dstore_n 3, 1) := by decide +kernel
theorem dX9_balance_24 : decode cX9_balance 24 = .ok (.dload_n 1, 1) := by decide +kernel
theorem dX9_balance_25 : decode cX9_balance 25 = .ok (.dload_n 1, 1) := by decide +kernel
theorem dX9_balance_26 : decode cX9_balance 26 = .ok (.dmul, 1) := by decide +kernel
theorem dX9_balance_27 : decode cX9_balance 27 = .ok (.dload_n 3, 1) := by decide +kernel
theorem dX9_balance_28 : decode cX9_balance 28 = .ok (.dload_n 3, 1) := by decide +kernel
theorem dX9_balance_29 : decode cX9_balance 29 = .ok (.dmul, 1) := by decide +kernel
theorem dX9_balance_30 : decode cX9_balance 30 = .ok (.dadd, 1) := by decide +kernel
theorem dX9_balance_31 : decode cX9_balance 31 = .ok (.dreturn, 1) := by decide +kernel
theorem dX9_centreBits_0 : decode cX9_centreBits 0 = .ok (.iload_n 1, 1) := by decide +kernel
theorem dX9_centreBits_1 : decode cX9_centreBits 1 = .ok (.ifCond .ne 11, 3) := by decide +kernel
theorem dX9_centreBits_4 : decode cX9_centreBits 4 = .ok (.aload_n 0, 1) := by decide +kernel
theorem dX9_centreBits_5 : decode cX9_centreBits 5 = .ok (.iconst 0, 1) := by decide +kernel
theorem dX9_centreBits_6 : decode cX9_centreBits 6 = .ok (.invokevirtual 265, 3) := by decide +kernel
theorem dX9_centreBits_9 : decode cX9_centreBits 9 = .ok (.goto 20, 3) := by decide +kernel
theorem dX9_centreBits_12 : decode cX9_centreBits 12 = .ok (.iload_n 1, 1) := by decide +kernel
theorem dX9_centreBits_13 : decode cX9_centreBits 13 = .ok (.iconst 1, 1) := by decide +kernel
theorem dX9_centreBits_14 : decode cX9_centreBits 14 = .ok (.if_icmp .ne 11, 3) := by decide +kernel
theorem dX9_centreBits_17 : decode cX9_centreBits 17 = .ok (.aload_n 0, 1) := by decide +kernel
theorem dX9_centreBits_18 : decode cX9_centreBits 18 = .ok (.iconst 1, 1) := by decide +kernel
theorem dX9_centreBits_19 : decode cX9_centreBits 19 = .ok (.invokevirtual 265, 3) := by decide +kernel
theorem dX9_centreBits_22 : decode cX9_centreBits 22 = .ok (.goto 7, 3) := by decide +kernel
theorem dX9_centreBits_25 : decode cX9_centreBits 25 = .ok (.aload_n 0, 1) := by decide +kernel
theorem dX9_centreBits_26 : decode cX9_centreBits 26 = .ok (.invokevirtual 184, 3) := by decide +kernel
theorem dX9_centreBits_29 : decode cX9_centreBits 29 = .ok (.invokestatic 268, 3) := by decide +kernel
theorem dX9_centreBits_32 : decode cX9_centreBits 32 = .ok (.lreturn, 1) := by decide +kernel
theorem dX9_centre_0 : decode cX9_centre 0 = .ok (.iload_n 1, 1) := by decide +kernel
theorem dX9_centre_1 : decode cX9_centre 1 = .ok (.i2l, 1) := by decide +kernel
theorem dX9_centre_2 : decode cX9_centre 2 = .ok (.lconst 0, 1) := by decide +kernel
theorem dX9_centre_3 : decode cX9_centre 3 = .ok (.ldc2_w 117, 3) := by decide +kernel
theorem dX9_centre_6 : decode cX9_centre 6 = .ok (.invokestatic 46, 3) := by decide +kernel
theorem dX9_centre_9 : decode cX9_centre 9 = .ok (.ifCond .eq 11, 3) := by decide +kernel
theorem dX9_centre_12 : decode cX9_centre 12 = .ok (.aload_n 0, 1) := by decide +kernel
theorem dX9_centre_13 : decode cX9_centre 13 = .ok (.iload_n 1, 1) := by decide +kernel
theorem dX9_centre_14 : decode cX9_centre 14 = .ok (.invokevirtual 274, 3) := by decide +kernel
theorem dX9_centre_17 : decode cX9_centre 17 = .ok (.goto 10, 3) := by decide +kernel
theorem dX9_centre_20 : decode cX9_centre 20 = .ok (.aload_n 0, 1) := by decide +kernel
theorem dX9_centre_21 : decode cX9_centre 21 = .ok (.bipush (-2), 2) := by decide +kernel
theorem dX9_centre_23 : decode cX9_centre 23 = .ok (.invokevirtual 101, 3) := by decide +kernel
theorem dX9_centre_26 : decode cX9_centre 26 = .ok (.i2l, 1) := by decide +kernel
theorem dX9_centre_27 : decode cX9_centre 27 = .ok (.lreturn, 1) := by decide +kernel
theorem dX9_cells_0 : decode cX9_cells 0 = .ok (.aload_n 0, 1) := by decide +kernel
theorem dX9_cells_1 : decode cX9_cells 1 = .ok (.iload_n 1, 1) := by decide +kernel
theorem dX9_cells_2 : decode cX9_cells 2 = .ok (.invokevirtual 64, 3) := by decide +kernel
theorem dX9_cells_5 : decode cX9_cells 5 = .ok (.aload_n 0, 1) := by decide +kernel
theorem dX9_cells_6 : decode cX9_cells 6 = .ok (.iload_n 1, 1) := by decide +kernel
theorem dX9_cells_7 : decode cX9_cells 7 = .ok (.invokevirtual 68, 3) := by decide +kernel
theorem dX9_cells_10 : decode cX9_cells 10 = .ok (.imul, 1) := by decide +kernel
theorem dX9_cells_11 : decode cX9_cells 11 = .ok (.ireturn, 1) := by decide +kernel
theorem dX9_smallPairs_0 : decode cX9_smallPairs 0 = .ok (.iconst 0, 1) := by decide +kernel
theorem dX9_smallPairs_1 : decode cX9_smallPairs 1 = .ok (.istore_n 1, 1) := by decide +kernel
theorem dX9_smallPairs_2 : decode cX9_smallPairs 2 = .ok (.iconst 0, 1) := by decide +kernel
theorem dX9_smallPairs_3 : decode cX9_smallPairs 3 = .ok (.istore_n 2, 1) := by decide +kernel
theorem dX9_smallPairs_4 : decode cX9_smallPairs 4 = .ok (.iload_n 2, 1) := by decide +kernel
theorem dX9_smallPairs_5 : decode cX9_smallPairs 5 = .ok (.aload_n 0, 1) := by decide +kernel
theorem dX9_smallPairs_6 : decode cX9_smallPairs 6 = .ok (.invokevirtual 42, 3) := by decide +kernel
theorem dX9_smallPairs_9 : decode cX9_smallPairs 9 = .ok (.if_icmp .ge 61, 3) := by decide +kernel
theorem dX9_smallPairs_12 : decode cX9_smallPairs 12 = .ok (.iconst 0, 1) := by decide +kernel
theorem dX9_smallPairs_13 : decode cX9_smallPairs 13 = .ok (.istore_n 3, 1) := by decide +kernel
theorem dX9_smallPairs_14 : decode cX9_smallPairs 14 = .ok (.iload_n 3, 1) := by decide +kernel
theorem dX9_smallPairs_15 : decode cX9_smallPairs 15 = .ok (.aload_n 0, 1) := by decide +kernel
theorem dX9_smallPairs_16 : decode cX9_smallPairs 16 = .ok (.invokevirtual 42, 3) := by decide +kernel
theorem dX9_smallPairs_19 : decode cX9_smallPairs 19 = .ok (.if_icmp .ge 45, 3) := by decide +kernel
theorem dX9_smallPairs_22 : decode cX9_smallPairs 22 = .ok (.iload_n 1, 1) := by decide +kernel
theorem dX9_smallPairs_23 : decode cX9_smallPairs 23 = .ok (.aload_n 0, 1) := by decide +kernel
theorem dX9_smallPairs_24 : decode cX9_smallPairs 24 = .ok (.iload_n 2, 1) := by decide +kernel
theorem dX9_smallPairs_25 : decode cX9_smallPairs 25 = .ok (.iconst 1, 1) := by decide +kernel
theorem dX9_smallPairs_26 : decode cX9_smallPairs 26 = .ok (.invokevirtual 50, 3) := by decide +kernel
theorem dX9_smallPairs_29 : decode cX9_smallPairs 29 = .ok (.aload_n 0, 1) := by decide +kernel
theorem dX9_smallPairs_30 : decode cX9_smallPairs 30 = .ok (.iload_n 3, 1) := by decide +kernel
theorem dX9_smallPairs_31 : decode cX9_smallPairs 31 = .ok (.iconst 1, 1) := by decide +kernel
theorem dX9_smallPairs_32 : decode cX9_smallPairs 32 = .ok (.invokevirtual 50, 3) := by decide +kernel
theorem dX9_smallPairs_35 : decode cX9_smallPairs 35 = .ok (.if_icmp .ge 20, 3) := by decide +kernel
theorem dX9_smallPairs_38 : decode cX9_smallPairs 38 = .ok (.aload_n 0, 1) := by decide +kernel
theorem dX9_smallPairs_39 : decode cX9_smallPairs 39 = .ok (.iload_n 2, 1) := by decide +kernel
theorem dX9_smallPairs_40 : decode cX9_smallPairs 40 = .ok (.invokevirtual 278, 3) := by decide +kernel
theorem dX9_smallPairs_43 : decode cX9_smallPairs 43 = .ok (.aload_n 0, 1) := by decide +kernel
theorem dX9_smallPairs_44 : decode cX9_smallPairs 44 = .ok (.iload_n 3, 1) := by decide +kernel
theorem dX9_smallPairs_45 : decode cX9_smallPairs 45 = .ok (.invokevirtual 278, 3) := by decide +kernel
theorem dX9_smallPairs_48 : decode cX9_smallPairs 48 = .ok (.if_icmp .gt 7, 3) := by decide +kernel
theorem dX9_smallPairs_51 : decode cX9_smallPairs 51 = .ok (.iconst 1, 1) := by decide +kernel
theorem dX9_smallPairs_52 : decode cX9_smallPairs 52 = .ok (.goto 4, 3) := by decide +kernel
theorem dX9_smallPairs_55 : decode cX9_smallPairs 55 = .ok (.iconst 0, 1) := by decide +kernel
theorem dX9_smallPairs_56 : decode cX9_smallPairs 56 = .ok (.iadd, 1) := by decide +kernel
theorem dX9_smallPairs_57 : decode cX9_smallPairs 57 = .ok (.istore_n 1, 1) := by decide +kernel
theorem dX9_smallPairs_58 : decode cX9_smallPairs 58 = .ok (.iinc 3 1, 3) := by decide +kernel
theorem dX9_smallPairs_61 : decode cX9_smallPairs 61 = .ok (.goto (-47), 3) := by decide +kernel
theorem dX9_smallPairs_64 : decode cX9_smallPairs 64 = .ok (.iinc 2 1, 3) := by decide +kernel
theorem dX9_smallPairs_67 : decode cX9_smallPairs 67 = .ok (.goto (-63), 3) := by decide +kernel
theorem dX9_smallPairs_70 : decode cX9_smallPairs 70 = .ok (.iload_n 1, 1) := by decide +kernel
theorem dX9_smallPairs_71 : decode cX9_smallPairs 71 = .ok (.ireturn, 1) := by decide +kernel
theorem dX9_allNow_0 : decode cX9_allNow 0 = .ok (.iload_n 1, 1) := by decide +kernel
theorem dX9_allNow_1 : decode cX9_allNow 1 = .ok (.iconst 1, 1) := by decide +kernel
theorem dX9_allNow_2 : decode cX9_allNow 2 = .ok (.if_icmp .le 20, 3) := by decide +kernel
theorem dX9_allNow_5 : decode cX9_allNow 5 = .ok (.iload_n 1, 1) := by decide +kernel
theorem dX9_allNow_6 : decode cX9_allNow 6 = .ok (.iconst 2, 1) := by decide +kernel
theorem dX9_allNow_7 : decode cX9_allNow 7 = .ok (.if_icmp .ne 10, 3) := by decide +kernel
theorem dX9_allNow_10 : decode cX9_allNow 10 = .ok (.aload_n 0, 1) := by decide +kernel
theorem dX9_allNow_11 : decode cX9_allNow 11 = .ok (.invokevirtual 256, 3) := by decide +kernel
theorem dX9_allNow_14 : decode cX9_allNow 14 = .ok (.goto 7, 3) := by decide +kernel
theorem dX9_allNow_17 : decode cX9_allNow 17 = .ok (.aload_n 0, 1) := by decide +kernel
theorem dX9_allNow_18 : decode cX9_allNow 18 = .ok (.invokevirtual 281, 3) := by decide +kernel
theorem dX9_allNow_21 : decode cX9_allNow 21 = .ok (.ireturn, 1) := by decide +kernel
theorem dX9_allNow_22 : decode cX9_allNow 22 = .ok (.iconst 0, 1) := by decide +kernel
theorem dX9_allNow_23 : decode cX9_allNow 23 = .ok (.istore_n 2, 1) := by decide +kernel
theorem dX9_allNow_24 : decode cX9_allNow 24 = .ok (.iconst 0, 1) := by decide +kernel
theorem dX9_allNow_25 : decode cX9_allNow 25 = .ok (.istore_n 3, 1) := by decide +kernel
theorem dX9_allNow_26 : decode cX9_allNow 26 = .ok (.iload_n 3, 1) := by decide +kernel
theorem dX9_allNow_27 : decode cX9_allNow 27 = .ok (.aload_n 0, 1) := by decide +kernel
theorem dX9_allNow_28 : decode cX9_allNow 28 = .ok (.invokevirtual 42, 3) := by decide +kernel
theorem dX9_allNow_31 : decode cX9_allNow 31 = .ok (.if_icmp .ge 39, 3) := by decide +kernel
theorem dX9_allNow_34 : decode cX9_allNow 34 = .ok (.iload_n 2, 1) := by decide +kernel
theorem dX9_allNow_35 : decode cX9_allNow 35 = .ok (.aload_n 0, 1) := by decide +kernel
theorem dX9_allNow_36 : decode cX9_allNow 36 = .ok (.iload_n 3, 1) := by decide +kernel
theorem dX9_allNow_37 : decode cX9_allNow 37 = .ok (.invokevirtual 82, 3) := by decide +kernel
theorem dX9_allNow_40 : decode cX9_allNow 40 = .ok (.ifCond .eq 21, 3) := by decide +kernel
theorem dX9_allNow_43 : decode cX9_allNow 43 = .ok (.iload_n 1, 1) := by decide +kernel
theorem dX9_allNow_44 : decode cX9_allNow 44 = .ok (.ifCond .eq 11, 3) := by decide +kernel
theorem dX9_allNow_47 : decode cX9_allNow 47 = .ok (.aload_n 0, 1) := by decide +kernel
theorem dX9_allNow_48 : decode cX9_allNow 48 = .ok (.iload_n 3, 1) := by decide +kernel
theorem dX9_allNow_49 : decode cX9_allNow 49 = .ok (.invokevirtual 152, 3) := by decide +kernel
theorem dX9_allNow_52 : decode cX9_allNow 52 = .ok (.ifCond .ne 9, 3) := by decide +kernel
theorem dX9_allNow_55 : decode cX9_allNow 55 = .ok (.iconst 1, 1) := by decide +kernel
theorem dX9_allNow_56 : decode cX9_allNow 56 = .ok (.iload_n 3, 1) := by decide +kernel
theorem dX9_allNow_57 : decode cX9_allNow 57 = .ok (.ishl, 1) := by decide +kernel
theorem dX9_allNow_58 : decode cX9_allNow 58 = .ok (.goto 4, 3) := by decide +kernel
theorem dX9_allNow_61 : decode cX9_allNow 61 = .ok (.iconst 0, 1) := by decide +kernel
theorem dX9_allNow_62 : decode cX9_allNow 62 = .ok (.ior, 1) := by decide +kernel
theorem dX9_allNow_63 : decode cX9_allNow 63 = .ok (.istore_n 2, 1) := by decide +kernel
theorem dX9_allNow_64 : decode cX9_allNow 64 = .ok (.iinc 3 1, 3) := by decide +kernel
theorem dX9_allNow_67 : decode cX9_allNow 67 = .ok (.goto (-41), 3) := by decide +kernel
theorem dX9_allNow_70 : decode cX9_allNow 70 = .ok (.iload_n 2, 1) := by decide +kernel
theorem dX9_allNow_71 : decode cX9_allNow 71 = .ok (.ireturn, 1) := by decide +kernel
theorem dX9_all_0 : decode cX9_all 0 = .ok (.iload_n 1, 1) := by decide +kernel
theorem dX9_all_1 : decode cX9_all 1 = .ok (.i2l, 1) := by decide +kernel
theorem dX9_all_2 : decode cX9_all 2 = .ok (.lconst 0, 1) := by decide +kernel
theorem dX9_all_3 : decode cX9_all 3 = .ok (.ldc2_w 131, 3) := by decide +kernel
theorem dX9_all_6 : decode cX9_all 6 = .ok (.invokestatic 46, 3) := by decide +kernel
theorem dX9_all_9 : decode cX9_all 9 = .ok (.ifCond .eq 11, 3) := by decide +kernel
theorem dX9_all_12 : decode cX9_all 12 = .ok (.aload_n 0, 1) := by decide +kernel
theorem dX9_all_13 : decode cX9_all 13 = .ok (.iload_n 1, 1) := by decide +kernel
theorem dX9_all_14 : decode cX9_all 14 = .ok (.invokevirtual 284, 3) := by decide +kernel
theorem dX9_all_17 : decode cX9_all 17 = .ok (.goto 9, 3) := by decide +kernel
theorem dX9_all_20 : decode cX9_all 20 = .ok (.aload_n 0, 1) := by decide +kernel
theorem dX9_all_21 : decode cX9_all 21 = .ok (.bipush (-2), 2) := by decide +kernel
theorem dX9_all_23 : decode cX9_all 23 = .ok (.invokevirtual 101, 3) := by decide +kernel
theorem dX9_all_26 : decode cX9_all 26 = .ok (.ireturn, 1) := by decide +kernel
theorem dX9_aheadOf_0 : decode cX9_aheadOf 0 = .ok (.iconst 0, 1) := by decide +kernel
theorem dX9_aheadOf_1 : decode cX9_aheadOf 1 = .ok (.istore_n 2, 1) := by decide +kernel
theorem dX9_aheadOf_2 : decode cX9_aheadOf 2 = .ok (.iconst 0, 1) := by decide +kernel
theorem dX9_aheadOf_3 : decode cX9_aheadOf 3 = .ok (.istore_n 3, 1) := by decide +kernel
theorem dX9_aheadOf_4 : decode cX9_aheadOf 4 = .ok (.iload_n 3, 1) := by decide +kernel
theorem dX9_aheadOf_5 : decode cX9_aheadOf 5 = .ok (.aload_n 0, 1) := by decide +kernel
theorem dX9_aheadOf_6 : decode cX9_aheadOf 6 = .ok (.invokevirtual 42, 3) := by decide +kernel
theorem dX9_aheadOf_9 : decode cX9_aheadOf 9 = .ok (.if_icmp .ge 75, 3) := by decide +kernel
theorem dX9_aheadOf_12 : decode cX9_aheadOf 12 = .ok (.aload_n 0, 1) := by decide +kernel
theorem dX9_aheadOf_13 : decode cX9_aheadOf 13 = .ok (.iload_n 3, 1) := by decide +kernel
theorem dX9_aheadOf_14 : decode cX9_aheadOf 14 = .ok (.invokevirtual 149, 3) := by decide +kernel
theorem dX9_aheadOf_17 : decode cX9_aheadOf 17 = .ok (.aload_n 0, 1) := by decide +kernel
theorem dX9_aheadOf_18 : decode cX9_aheadOf 18 = .ok (.iload_n 1, 1) := by decide +kernel
theorem dX9_aheadOf_19 : decode cX9_aheadOf 19 = .ok (.invokevirtual 149, 3) := by decide +kernel
theorem dX9_aheadOf_22 : decode cX9_aheadOf 22 = .ok (.if_icmp .gt 21, 3) := by decide +kernel
theorem dX9_aheadOf_25 : decode cX9_aheadOf 25 = .ok (.aload_n 0, 1) := by decide +kernel
theorem dX9_aheadOf_26 : decode cX9_aheadOf 26 = .ok (.iload_n 3, 1) := by decide +kernel
theorem dX9_aheadOf_27 : decode cX9_aheadOf 27 = .ok (.invokevirtual 149, 3) := by decide +kernel
theorem dX9_aheadOf_30 : decode cX9_aheadOf 30 = .ok (.aload_n 0, 1) := by decide +kernel
theorem dX9_aheadOf_31 : decode cX9_aheadOf 31 = .ok (.iload_n 1, 1) := by decide +kernel
theorem dX9_aheadOf_32 : decode cX9_aheadOf 32 = .ok (.invokevirtual 149, 3) := by decide +kernel
theorem dX9_aheadOf_35 : decode cX9_aheadOf 35 = .ok (.if_icmp .ne 12, 3) := by decide +kernel
theorem dX9_aheadOf_38 : decode cX9_aheadOf 38 = .ok (.iload_n 3, 1) := by decide +kernel
theorem dX9_aheadOf_39 : decode cX9_aheadOf 39 = .ok (.iload_n 1, 1) := by decide +kernel
theorem dX9_aheadOf_40 : decode cX9_aheadOf 40 = .ok (.if_icmp .ge 7, 3) := by decide +kernel
theorem dX9_aheadOf_43 : decode cX9_aheadOf 43 = .ok (.iconst 1, 1) := by decide +kernel
theorem dX9_aheadOf_44 : decode cX9_aheadOf 44 = .ok (.goto 4, 3) := by decide +kernel
theorem dX9_aheadOf_47 : decode cX9_aheadOf 47 = .ok (.iconst 0, 1) := by decide +kernel
theorem dX9_aheadOf_48 : decode cX9_aheadOf 48 = .ok (.istore 4, 2) := by decide +kernel
theorem dX9_aheadOf_50 : decode cX9_aheadOf 50 = .ok (.iload_n 2, 1) := by decide +kernel
theorem dX9_aheadOf_51 : decode cX9_aheadOf 51 = .ok (.aload_n 0, 1) := by decide +kernel
theorem dX9_aheadOf_52 : decode cX9_aheadOf 52 = .ok (.iload_n 3, 1) := by decide +kernel
theorem dX9_aheadOf_53 : decode cX9_aheadOf 53 = .ok (.iconst 0, 1) := by decide +kernel
theorem dX9_aheadOf_54 : decode cX9_aheadOf 54 = .ok (.invokevirtual 50, 3) := by decide +kernel
theorem dX9_aheadOf_57 : decode cX9_aheadOf 57 = .ok (.aload_n 0, 1) := by decide +kernel
theorem dX9_aheadOf_58 : decode cX9_aheadOf 58 = .ok (.iload_n 1, 1) := by decide +kernel
theorem dX9_aheadOf_59 : decode cX9_aheadOf 59 = .ok (.iconst 0, 1) := by decide +kernel
theorem dX9_aheadOf_60 : decode cX9_aheadOf 60 = .ok (.invokevirtual 50, 3) := by decide +kernel
theorem dX9_aheadOf_63 : decode cX9_aheadOf 63 = .ok (.if_icmp .ne 12, 3) := by decide +kernel
theorem dX9_aheadOf_66 : decode cX9_aheadOf 66 = .ok (.iload 4, 2) := by decide +kernel
theorem dX9_aheadOf_68 : decode cX9_aheadOf 68 = .ok (.ifCond .eq 7, 3) := by decide +kernel
theorem dX9_aheadOf_71 : decode cX9_aheadOf 71 = .ok (.iconst 1, 1) := by decide +kernel
theorem dX9_aheadOf_72 : decode cX9_aheadOf 72 = .ok (.goto 4, 3) := by decide +kernel
theorem dX9_aheadOf_75 : decode cX9_aheadOf 75 = .ok (.iconst 0, 1) := by decide +kernel
theorem dX9_aheadOf_76 : decode cX9_aheadOf 76 = .ok (.iadd, 1) := by decide +kernel
theorem dX9_aheadOf_77 : decode cX9_aheadOf 77 = .ok (.istore_n 2, 1) := by decide +kernel
theorem dX9_aheadOf_78 : decode cX9_aheadOf 78 = .ok (.iinc 3 1, 3) := by decide +kernel
theorem dX9_aheadOf_81 : decode cX9_aheadOf 81 = .ok (.goto (-77), 3) := by decide +kernel
theorem dX9_aheadOf_84 : decode cX9_aheadOf 84 = .ok (.iload_n 2, 1) := by decide +kernel
theorem dX9_aheadOf_85 : decode cX9_aheadOf 85 = .ok (.ireturn, 1) := by decide +kernel
theorem dX9_sorted_0 : decode cX9_sorted 0 = .ok (.iload_n 1, 1) := by decide +kernel
theorem dX9_sorted_1 : decode cX9_sorted 1 = .ok (.i2l, 1) := by decide +kernel
theorem dX9_sorted_2 : decode cX9_sorted 2 = .ok (.lconst 0, 1) := by decide +kernel
theorem dX9_sorted_3 : decode cX9_sorted 3 = .ok (.lconst 1, 1) := by decide +kernel
theorem dX9_sorted_4 : decode cX9_sorted 4 = .ok (.invokestatic 46, 3) := by decide +kernel
theorem dX9_sorted_7 : decode cX9_sorted 7 = .ok (.ifCond .eq 7, 3) := by decide +kernel
theorem dX9_sorted_10 : decode cX9_sorted 10 = .ok (.iload_n 2, 1) := by decide +kernel
theorem dX9_sorted_11 : decode cX9_sorted 11 = .ok (.ifCond .ge 10, 3) := by decide +kernel
theorem dX9_sorted_14 : decode cX9_sorted 14 = .ok (.aload_n 0, 1) := by decide +kernel
theorem dX9_sorted_15 : decode cX9_sorted 15 = .ok (.bipush (-2), 2) := by decide +kernel
theorem dX9_sorted_17 : decode cX9_sorted 17 = .ok (.invokevirtual 101, 3) := by decide +kernel
theorem dX9_sorted_20 : decode cX9_sorted 20 = .ok (.ireturn, 1) := by decide +kernel
theorem dX9_sorted_21 : decode cX9_sorted 21 = .ok (.iconst 0, 1) := by decide +kernel
theorem dX9_sorted_22 : decode cX9_sorted 22 = .ok (.istore_n 3, 1) := by decide +kernel
theorem dX9_sorted_23 : decode cX9_sorted 23 = .ok (.iload_n 3, 1) := by decide +kernel
theorem dX9_sorted_24 : decode cX9_sorted 24 = .ok (.aload_n 0, 1) := by decide +kernel
theorem dX9_sorted_25 : decode cX9_sorted 25 = .ok (.invokevirtual 42, 3) := by decide +kernel
theorem dX9_sorted_28 : decode cX9_sorted 28 = .ok (.if_icmp .ge 30, 3) := by decide +kernel
theorem dX9_sorted_31 : decode cX9_sorted 31 = .ok (.aload_n 0, 1) := by decide +kernel
theorem dX9_sorted_32 : decode cX9_sorted 32 = .ok (.iload_n 3, 1) := by decide +kernel
theorem dX9_sorted_33 : decode cX9_sorted 33 = .ok (.iconst 0, 1) := by decide +kernel
theorem dX9_sorted_34 : decode cX9_sorted 34 = .ok (.invokevirtual 50, 3) := by decide +kernel
theorem dX9_sorted_37 : decode cX9_sorted 37 = .ok (.iload_n 1, 1) := by decide +kernel
theorem dX9_sorted_38 : decode cX9_sorted 38 = .ok (.if_icmp .ne 14, 3) := by decide +kernel
theorem dX9_sorted_41 : decode cX9_sorted 41 = .ok (.aload_n 0, 1) := by decide +kernel
theorem dX9_sorted_42 : decode cX9_sorted 42 = .ok (.iload_n 3, 1) := by decide +kernel
theorem dX9_sorted_43 : decode cX9_sorted 43 = .ok (.invokevirtual 287, 3) := by decide +kernel
theorem dX9_sorted_46 : decode cX9_sorted 46 = .ok (.iload_n 2, 1) := by decide +kernel
theorem dX9_sorted_47 : decode cX9_sorted 47 = .ok (.if_icmp .ne 5, 3) := by decide +kernel
theorem dX9_sorted_50 : decode cX9_sorted 50 = .ok (.iload_n 3, 1) := by decide +kernel
theorem dX9_sorted_51 : decode cX9_sorted 51 = .ok (.ireturn, 1) := by decide +kernel
theorem dX9_sorted_52 : decode cX9_sorted 52 = .ok (.iinc 3 1, 3) := by decide +kernel
theorem dX9_sorted_55 : decode cX9_sorted 55 = .ok (.goto (-32), 3) := by decide +kernel
theorem dX9_sorted_58 : decode cX9_sorted 58 = .ok (.iconst (-1), 1) := by decide +kernel
theorem dX9_sorted_59 : decode cX9_sorted 59 = .ok (.ireturn, 1) := by decide +kernel
theorem dX9_kept_0 : decode cX9_kept 0 = .ok (.aload_n 0, 1) := by decide +kernel
theorem dX9_kept_1 : decode cX9_kept 1 = .ok (.getfield 7, 3) := by decide +kernel
theorem dX9_kept_4 : decode cX9_kept 4 = .ok (.bipush 56, 2) := by decide +kernel
theorem dX9_kept_6 : decode cX9_kept 6 = .ok (.bipush 33, 2) := by decide +kernel
theorem dX9_kept_8 : decode cX9_kept 8 = .ok (.iload_n 1, 1) := by decide +kernel
theorem dX9_kept_9 : decode cX9_kept 9 = .ok (.imul, 1) := by decide +kernel
theorem dX9_kept_10 : decode cX9_kept 10 = .ok (.iadd, 1) := by decide +kernel
theorem dX9_kept_11 : decode cX9_kept 11 = .ok (.iconst 1, 1) := by decide +kernel
theorem dX9_kept_12 : decode cX9_kept 12 = .ok (.iadd, 1) := by decide +kernel
theorem dX9_kept_13 : decode cX9_kept 13 = .ok (.iconst 4, 1) := by decide +kernel
theorem dX9_kept_14 : decode cX9_kept 14 = .ok (.iload_n 2, 1) := by decide +kernel
theorem dX9_kept_15 : decode cX9_kept 15 = .ok (.imul, 1) := by decide +kernel
theorem dX9_kept_16 : decode cX9_kept 16 = .ok (.iadd, 1) := by decide +kernel
theorem dX9_kept_17 : decode cX9_kept 17 = .ok (.iload_n 3, 1) := by decide +kernel
theorem dX9_kept_18 : decode cX9_kept 18 = .ok (.iadd, 1) := by decide +kernel
theorem dX9_kept_19 : decode cX9_kept 19 = .ok (.iaload, 1) := by decide +kernel
theorem dX9_kept_20 : decode cX9_kept 20 = .ok (.ireturn, 1) := by decide +kernel
theorem dX9_isKept_0 : decode cX9_isKept 0 = .ok (.aload_n 0, 1) := by decide +kernel
theorem dX9_isKept_1 : decode cX9_isKept 1 = .ok (.getfield 7, 3) := by decide +kernel
theorem dX9_isKept_4 : decode cX9_isKept 4 = .ok (.bipush 56, 2) := by decide +kernel
theorem dX9_isKept_6 : decode cX9_isKept 6 = .ok (.bipush 33, 2) := by decide +kernel
theorem dX9_isKept_8 : decode cX9_isKept 8 = .ok (.iload_n 1, 1) := by decide +kernel
theorem dX9_isKept_9 : decode cX9_isKept 9 = .ok (.imul, 1) := by decide +kernel
theorem dX9_isKept_10 : decode cX9_isKept 10 = .ok (.iadd, 1) := by decide +kernel
theorem dX9_isKept_11 : decode cX9_isKept 11 = .ok (.iaload, 1) := by decide +kernel
theorem dX9_isKept_12 : decode cX9_isKept 12 = .ok (.iconst 1, 1) := by decide +kernel
theorem dX9_isKept_13 : decode cX9_isKept 13 = .ok (.if_icmp .ne 7, 3) := by decide +kernel
theorem dX9_isKept_16 : decode cX9_isKept 16 = .ok (.iconst 1, 1) := by decide +kernel
theorem dX9_isKept_17 : decode cX9_isKept 17 = .ok (.goto 4, 3) := by decide +kernel
theorem dX9_isKept_20 : decode cX9_isKept 20 = .ok (.iconst 0, 1) := by decide +kernel
theorem dX9_isKept_21 : decode cX9_isKept 21 = .ok (.ireturn, 1) := by decide +kernel
theorem dX9_keeps_0 : decode cX9_keeps 0 = .ok (.iload_n 1, 1) := by decide +kernel
theorem dX9_keeps_1 : decode cX9_keeps 1 = .ok (.i2l, 1) := by decide +kernel
theorem dX9_keeps_2 : decode cX9_keeps 2 = .ok (.lconst 0, 1) := by decide +kernel
theorem dX9_keeps_3 : decode cX9_keeps 3 = .ok (.ldc2_w 117, 3) := by decide +kernel
theorem dX9_keeps_6 : decode cX9_keeps 6 = .ok (.invokestatic 46, 3) := by decide +kernel
theorem dX9_keeps_9 : decode cX9_keeps 9 = .ok (.ifCond .ne 10, 3) := by decide +kernel
theorem dX9_keeps_12 : decode cX9_keeps 12 = .ok (.aload_n 0, 1) := by decide +kernel
theorem dX9_keeps_13 : decode cX9_keeps 13 = .ok (.bipush (-2), 2) := by decide +kernel
theorem dX9_keeps_15 : decode cX9_keeps 15 = .ok (.invokevirtual 101, 3) := by decide +kernel
theorem dX9_keeps_18 : decode cX9_keeps 18 = .ok (.ireturn, 1) := by decide +kernel
theorem dX9_keeps_19 : decode cX9_keeps 19 = .ok (.aload_n 0, 1) := by decide +kernel
theorem dX9_keeps_20 : decode cX9_keeps 20 = .ok (.invokevirtual 111, 3) := by decide +kernel
theorem dX9_keeps_23 : decode cX9_keeps 23 = .ok (.bipush 56, 2) := by decide +kernel
theorem dX9_keeps_25 : decode cX9_keeps 25 = .ok (.bipush 33, 2) := by decide +kernel
theorem dX9_keeps_27 : decode cX9_keeps 27 = .ok (.iload_n 1, 1) := by decide +kernel
theorem dX9_keeps_28 : decode cX9_keeps 28 = .ok (.imul, 1) := by decide +kernel
theorem dX9_keeps_29 : decode cX9_keeps 29 = .ok (.iadd, 1) := by decide +kernel
theorem dX9_keeps_30 : decode cX9_keeps 30 = .ok (.istore_n 2, 1) := by decide +kernel
theorem dX9_keeps_31 : decode cX9_keeps 31 = .ok (.aload_n 0, 1) := by decide +kernel
theorem dX9_keeps_32 : decode cX9_keeps 32 = .ok (.getfield 7, 3) := by decide +kernel
theorem dX9_keeps_35 : decode cX9_keeps 35 = .ok (.iload_n 2, 1) := by decide +kernel
theorem dX9_keeps_36 : decode cX9_keeps 36 = .ok (.iconst 1, 1) := by decide +kernel
theorem dX9_keeps_37 : decode cX9_keeps 37 = .ok (.iastore, 1) := by decide +kernel
theorem dX9_keeps_38 : decode cX9_keeps 38 = .ok (.iconst 0, 1) := by decide +kernel
theorem dX9_keeps_39 : decode cX9_keeps 39 = .ok (.istore_n 3, 1) := by decide +kernel
theorem dX9_keeps_40 : decode cX9_keeps 40 = .ok (.iload_n 3, 1) := by decide +kernel
theorem dX9_keeps_41 : decode cX9_keeps 41 = .ok (.bipush 8, 2) := by decide +kernel
theorem dX9_keeps_43 : decode cX9_keeps 43 = .ok (.if_icmp .ge 138, 3) := by decide +kernel
theorem dX9_keeps_46 : decode cX9_keeps 46 = .ok (.iload_n 3, 1) := by decide +kernel
theorem dX9_keeps_47 : decode cX9_keeps 47 = .ok (.aload_n 0, 1) := by decide +kernel
theorem dX9_keeps_48 : decode cX9_keeps 48 = .ok (.invokevirtual 42, 3) := by decide +kernel
theorem dX9_keeps_51 : decode cX9_keeps 51 = .ok (.if_icmp .ge 15, 3) := by decide +kernel
theorem dX9_keeps_54 : decode cX9_keeps 54 = .ok (.aload_n 0, 1) := by decide +kernel
theorem dX9_keeps_55 : decode cX9_keeps 55 = .ok (.iload_n 3, 1) := by decide +kernel
theorem dX9_keeps_56 : decode cX9_keeps 56 = .ok (.invokevirtual 82, 3) := by decide +kernel
theorem dX9_keeps_59 : decode cX9_keeps 59 = .ok (.ifCond .eq 7, 3) := by decide +kernel
theorem dX9_keeps_62 : decode cX9_keeps 62 = .ok (.iconst 1, 1) := by decide +kernel
theorem dX9_keeps_63 : decode cX9_keeps 63 = .ok (.goto 4, 3) := by decide +kernel
theorem dX9_keeps_66 : decode cX9_keeps 66 = .ok (.iconst 0, 1) := by decide +kernel
theorem dX9_keeps_67 : decode cX9_keeps 67 = .ok (.istore 4, 2) := by decide +kernel
theorem dX9_keeps_69 : decode cX9_keeps 69 = .ok (.aload_n 0, 1) := by decide +kernel
theorem dX9_keeps_70 : decode cX9_keeps 70 = .ok (.getfield 7, 3) := by decide +kernel
theorem dX9_keeps_73 : decode cX9_keeps 73 = .ok (.iload_n 2, 1) := by decide +kernel
theorem dX9_keeps_74 : decode cX9_keeps 74 = .ok (.iconst 1, 1) := by decide +kernel
theorem dX9_keeps_75 : decode cX9_keeps 75 = .ok (.iadd, 1) := by decide +kernel
theorem dX9_keeps_76 : decode cX9_keeps 76 = .ok (.iconst 4, 1) := by decide +kernel
theorem dX9_keeps_77 : decode cX9_keeps 77 = .ok (.iload_n 3, 1) := by decide +kernel
theorem dX9_keeps_78 : decode cX9_keeps 78 = .ok (.imul, 1) := by decide +kernel
theorem dX9_keeps_79 : decode cX9_keeps 79 = .ok (.iadd, 1) := by decide +kernel
theorem dX9_keeps_80 : decode cX9_keeps 80 = .ok (.iload 4, 2) := by decide +kernel
theorem dX9_keeps_82 : decode cX9_keeps 82 = .ok (.ifCond .eq 12, 3) := by decide +kernel
theorem dX9_keeps_85 : decode cX9_keeps 85 = .ok (.aload_n 0, 1) := by decide +kernel
theorem dX9_keeps_86 : decode cX9_keeps 86 = .ok (.iload_n 3, 1) := by decide +kernel
theorem dX9_keeps_87 : decode cX9_keeps 87 = .ok (.iconst 4, 1) := by decide +kernel
theorem dX9_keeps_88 : decode cX9_keeps 88 = .ok (.invokevirtual 50, 3) := by decide +kernel
theorem dX9_keeps_91 : decode cX9_keeps 91 = .ok (.goto 4, 3) := by decide +kernel
theorem dX9_keeps_94 : decode cX9_keeps 94 = .ok (.iconst (-1), 1) := by decide +kernel
theorem dX9_keeps_95 : decode cX9_keeps 95 = .ok (.iastore, 1) := by decide +kernel
theorem dX9_keeps_96 : decode cX9_keeps 96 = .ok (.aload_n 0, 1) := by decide +kernel
theorem dX9_keeps_97 : decode cX9_keeps 97 = .ok (.getfield 7, 3) := by decide +kernel
theorem dX9_keeps_100 : decode cX9_keeps 100 = .ok (.iload_n 2, 1) := by decide +kernel
theorem dX9_keeps_101 : decode cX9_keeps 101 = .ok (.iconst 2, 1) := by decide +kernel
theorem dX9_keeps_102 : decode cX9_keeps 102 = .ok (.iadd, 1) := by decide +kernel
theorem dX9_keeps_103 : decode cX9_keeps 103 = .ok (.iconst 4, 1) := by decide +kernel
theorem dX9_keeps_104 : decode cX9_keeps 104 = .ok (.iload_n 3, 1) := by decide +kernel
theorem dX9_keeps_105 : decode cX9_keeps 105 = .ok (.imul, 1) := by decide +kernel
theorem dX9_keeps_106 : decode cX9_keeps 106 = .ok (.iadd, 1) := by decide +kernel
theorem dX9_keeps_107 : decode cX9_keeps 107 = .ok (.iload 4, 2) := by decide +kernel
theorem dX9_keeps_109 : decode cX9_keeps 109 = .ok (.ifCond .eq 12, 3) := by decide +kernel
theorem dX9_keeps_112 : decode cX9_keeps 112 = .ok (.aload_n 0, 1) := by decide +kernel
theorem dX9_keeps_113 : decode cX9_keeps 113 = .ok (.iload_n 3, 1) := by decide +kernel
theorem dX9_keeps_114 : decode cX9_keeps 114 = .ok (.iconst 5, 1) := by decide +kernel
theorem dX9_keeps_115 : decode cX9_keeps 115 = .ok (.invokevirtual 50, 3) := by decide +kernel
theorem dX9_keeps_118 : decode cX9_keeps 118 = .ok (.goto 4, 3) := by decide +kernel
theorem dX9_keeps_121 : decode cX9_keeps 121 = .ok (.iconst (-1), 1) := by decide +kernel
theorem dX9_keeps_122 : decode cX9_keeps 122 = .ok (.iastore, 1) := by decide +kernel
theorem dX9_keeps_123 : decode cX9_keeps 123 = .ok (.aload_n 0, 1) := by decide +kernel
theorem dX9_keeps_124 : decode cX9_keeps 124 = .ok (.getfield 7, 3) := by decide +kernel
theorem dX9_keeps_127 : decode cX9_keeps 127 = .ok (.iload_n 2, 1) := by decide +kernel
theorem dX9_keeps_128 : decode cX9_keeps 128 = .ok (.iconst 3, 1) := by decide +kernel
theorem dX9_keeps_129 : decode cX9_keeps 129 = .ok (.iadd, 1) := by decide +kernel
theorem dX9_keeps_130 : decode cX9_keeps 130 = .ok (.iconst 4, 1) := by decide +kernel
theorem dX9_keeps_131 : decode cX9_keeps 131 = .ok (.iload_n 3, 1) := by decide +kernel
theorem dX9_keeps_132 : decode cX9_keeps 132 = .ok (.imul, 1) := by decide +kernel
theorem dX9_keeps_133 : decode cX9_keeps 133 = .ok (.iadd, 1) := by decide +kernel
theorem dX9_keeps_134 : decode cX9_keeps 134 = .ok (.iload 4, 2) := by decide +kernel
theorem dX9_keeps_136 : decode cX9_keeps 136 = .ok (.ifCond .eq 11, 3) := by decide +kernel
theorem dX9_keeps_139 : decode cX9_keeps 139 = .ok (.aload_n 0, 1) := by decide +kernel
theorem dX9_keeps_140 : decode cX9_keeps 140 = .ok (.iload_n 3, 1) := by decide +kernel
theorem dX9_keeps_141 : decode cX9_keeps 141 = .ok (.invokevirtual 64, 3) := by decide +kernel
theorem dX9_keeps_144 : decode cX9_keeps 144 = .ok (.goto 4, 3) := by decide +kernel
theorem dX9_keeps_147 : decode cX9_keeps 147 = .ok (.iconst 0, 1) := by decide +kernel
theorem dX9_keeps_148 : decode cX9_keeps 148 = .ok (.iastore, 1) := by decide +kernel
theorem dX9_keeps_149 : decode cX9_keeps 149 = .ok (.aload_n 0, 1) := by decide +kernel
theorem dX9_keeps_150 : decode cX9_keeps 150 = .ok (.getfield 7, 3) := by decide +kernel
theorem dX9_keeps_153 : decode cX9_keeps 153 = .ok (.iload_n 2, 1) := by decide +kernel
theorem dX9_keeps_154 : decode cX9_keeps 154 = .ok (.iconst 4, 1) := by decide +kernel
theorem dX9_keeps_155 : decode cX9_keeps 155 = .ok (.iadd, 1) := by decide +kernel
theorem dX9_keeps_156 : decode cX9_keeps 156 = .ok (.iconst 4, 1) := by decide +kernel
theorem dX9_keeps_157 : decode cX9_keeps 157 = .ok (.iload_n 3, 1) := by decide +kernel
theorem dX9_keeps_158 : decode cX9_keeps 158 = .ok (.imul, 1) := by decide +kernel
theorem dX9_keeps_159 : decode cX9_keeps 159 = .ok (.iadd, 1) := by decide +kernel
theorem dX9_keeps_160 : decode cX9_keeps 160 = .ok (.iload 4, 2) := by decide +kernel
theorem dX9_keeps_162 : decode cX9_keeps 162 = .ok (.ifCond .eq 11, 3) := by decide +kernel
theorem dX9_keeps_165 : decode cX9_keeps 165 = .ok (.aload_n 0, 1) := by decide +kernel
theorem dX9_keeps_166 : decode cX9_keeps 166 = .ok (.iload_n 3, 1) := by decide +kernel
theorem dX9_keeps_167 : decode cX9_keeps 167 = .ok (.invokevirtual 68, 3) := by decide +kernel
theorem dX9_keeps_170 : decode cX9_keeps 170 = .ok (.goto 4, 3) := by decide +kernel
theorem dX9_keeps_173 : decode cX9_keeps 173 = .ok (.iconst 0, 1) := by decide +kernel
theorem dX9_keeps_174 : decode cX9_keeps 174 = .ok (.iastore, 1) := by decide +kernel
theorem dX9_keeps_175 : decode cX9_keeps 175 = .ok (.iinc 3 1, 3) := by decide +kernel
theorem dX9_keeps_178 : decode cX9_keeps 178 = .ok (.goto (-138), 3) := by decide +kernel
theorem dX9_keeps_181 : decode cX9_keeps 181 = .ok (.aload_n 0, 1) := by decide +kernel
theorem dX9_keeps_182 : decode cX9_keeps 182 = .ok (.invokevirtual 175, 3) := by decide +kernel
theorem dX9_keeps_185 : decode cX9_keeps 185 = .ok (.ireturn, 1) := by decide +kernel
theorem dX9_takes_0 : decode cX9_takes 0 = .ok (.iload_n 1, 1) := by decide +kernel
theorem dX9_takes_1 : decode cX9_takes 1 = .ok (.i2l, 1) := by decide +kernel
theorem dX9_takes_2 : decode cX9_takes 2 = .ok (.lconst 0, 1) := by decide +kernel
theorem dX9_takes_3 : decode cX9_takes 3 = .ok (.ldc2_w 117, 3) := by decide +kernel
theorem dX9_takes_6 : decode cX9_takes 6 = .ok (.invokestatic 46, 3) := by decide +kernel
theorem dX9_takes_9 : decode cX9_takes 9 = .ok (.ifCond .ne 10, 3) := by decide +kernel
theorem dX9_takes_12 : decode cX9_takes 12 = .ok (.aload_n 0, 1) := by decide +kernel
theorem dX9_takes_13 : decode cX9_takes 13 = .ok (.bipush (-2), 2) := by decide +kernel
theorem dX9_takes_15 : decode cX9_takes 15 = .ok (.invokevirtual 101, 3) := by decide +kernel
theorem dX9_takes_18 : decode cX9_takes 18 = .ok (.ireturn, 1) := by decide +kernel
theorem dX9_takes_19 : decode cX9_takes 19 = .ok (.aload_n 0, 1) := by decide +kernel
theorem dX9_takes_20 : decode cX9_takes 20 = .ok (.iload_n 1, 1) := by decide +kernel
theorem dX9_takes_21 : decode cX9_takes 21 = .ok (.invokevirtual 290, 3) := by decide +kernel
theorem dX9_takes_24 : decode cX9_takes 24 = .ok (.ifCond .ne 10, 3) := by decide +kernel
theorem dX9_takes_27 : decode cX9_takes 27 = .ok (.aload_n 0, 1) := by decide +kernel
theorem dX9_takes_28 : decode cX9_takes 28 = .ok (.bipush (-3), 2) := by decide +kernel
theorem dX9_takes_30 : decode cX9_takes 30 = .ok (.invokevirtual 101, 3) := by decide +kernel
theorem dX9_takes_33 : decode cX9_takes 33 = .ok (.ireturn, 1) := by decide +kernel
theorem dX9_takes_34 : decode cX9_takes 34 = .ok (.aload_n 0, 1) := by decide +kernel
theorem dX9_takes_35 : decode cX9_takes 35 = .ok (.invokevirtual 111, 3) := by decide +kernel
theorem dX9_takes_38 : decode cX9_takes 38 = .ok (.iconst 0, 1) := by decide +kernel
theorem dX9_takes_39 : decode cX9_takes 39 = .ok (.istore_n 2, 1) := by decide +kernel
theorem dX9_takes_40 : decode cX9_takes 40 = .ok (.iload_n 2, 1) := by decide +kernel
theorem dX9_takes_41 : decode cX9_takes 41 = .ok (.aload_n 0, 1) := by decide +kernel
theorem dX9_takes_42 : decode cX9_takes 42 = .ok (.invokevirtual 42, 3) := by decide +kernel
theorem dX9_takes_45 : decode cX9_takes 45 = .ok (.if_icmp .ge 35, 3) := by decide +kernel
theorem dX9_takes_48 : decode cX9_takes 48 = .ok (.aload_n 0, 1) := by decide +kernel
theorem dX9_takes_49 : decode cX9_takes 49 = .ok (.iload_n 2, 1) := by decide +kernel
theorem dX9_takes_50 : decode cX9_takes 50 = .ok (.iconst 4, 1) := by decide +kernel
theorem dX9_takes_51 : decode cX9_takes 51 = .ok (.aload_n 0, 1) := by decide +kernel
theorem dX9_takes_52 : decode cX9_takes 52 = .ok (.iload_n 1, 1) := by decide +kernel
theorem dX9_takes_53 : decode cX9_takes 53 = .ok (.iload_n 2, 1) := by decide +kernel
theorem dX9_takes_54 : decode cX9_takes 54 = .ok (.iconst 0, 1) := by decide +kernel
theorem dX9_takes_55 : decode cX9_takes 55 = .ok (.invokevirtual 293, 3) := by decide +kernel
theorem dX9_takes_58 : decode cX9_takes 58 = .ok (.invokevirtual 138, 3) := by decide +kernel
theorem dX9_takes_61 : decode cX9_takes 61 = .ok (.aload_n 0, 1) := by decide +kernel
theorem dX9_takes_62 : decode cX9_takes 62 = .ok (.iload_n 2, 1) := by decide +kernel
theorem dX9_takes_63 : decode cX9_takes 63 = .ok (.iconst 5, 1) := by decide +kernel
theorem dX9_takes_64 : decode cX9_takes 64 = .ok (.aload_n 0, 1) := by decide +kernel
theorem dX9_takes_65 : decode cX9_takes 65 = .ok (.iload_n 1, 1) := by decide +kernel
theorem dX9_takes_66 : decode cX9_takes 66 = .ok (.iload_n 2, 1) := by decide +kernel
theorem dX9_takes_67 : decode cX9_takes 67 = .ok (.iconst 1, 1) := by decide +kernel
theorem dX9_takes_68 : decode cX9_takes 68 = .ok (.invokevirtual 293, 3) := by decide +kernel
theorem dX9_takes_71 : decode cX9_takes 71 = .ok (.invokevirtual 138, 3) := by decide +kernel
theorem dX9_takes_74 : decode cX9_takes 74 = .ok (.iinc 2 1, 3) := by decide +kernel
theorem dX9_takes_77 : decode cX9_takes 77 = .ok (.goto (-37), 3) := by decide +kernel
theorem dX9_takes_80 : decode cX9_takes 80 = .ok (.aload_n 0, 1) := by decide +kernel
theorem dX9_takes_81 : decode cX9_takes 81 = .ok (.invokevirtual 175, 3) := by decide +kernel
theorem dX9_takes_84 : decode cX9_takes 84 = .ok (.ireturn, 1) := by decide +kernel
theorem dX9_otherwiseNow_0 : decode cX9_otherwiseNow 0 = .ok (.iconst 0, 1) := by decide +kernel
theorem dX9_otherwiseNow_1 : decode cX9_otherwiseNow 1 = .ok (.istore_n 3, 1) := by decide +kernel
theorem dX9_otherwiseNow_2 : decode cX9_otherwiseNow 2 = .ok (.iconst 0, 1) := by decide +kernel
theorem dX9_otherwiseNow_3 : decode cX9_otherwiseNow 3 = .ok (.istore 4, 2) := by decide +kernel
theorem dX9_otherwiseNow_5 : decode cX9_otherwiseNow 5 = .ok (.iconst 0, 1) := by decide +kernel
theorem dX9_otherwiseNow_6 : decode cX9_otherwiseNow 6 = .ok (.istore 5, 2) := by decide +kernel
theorem dX9_otherwiseNow_8 : decode cX9_otherwiseNow 8 = .ok (.iload 5, 2) := by decide +kernel
theorem dX9_otherwiseNow_10 : decode cX9_otherwiseNow 10 = .ok (.bipush 8, 2) := by decide +kernel
theorem dX9_otherwiseNow_12 : decode cX9_otherwiseNow 12 = .ok (.if_icmp .ge 179, 3) := by decide +kernel
theorem dX9_otherwiseNow_15 : decode cX9_otherwiseNow 15 = .ok (.iload 5, 2) := by decide +kernel
theorem dX9_otherwiseNow_17 : decode cX9_otherwiseNow 17 = .ok (.aload_n 0, 1) := by decide +kernel
theorem dX9_otherwiseNow_18 : decode cX9_otherwiseNow 18 = .ok (.invokevirtual 42, 3) := by decide +kernel
theorem dX9_otherwiseNow_21 : decode cX9_otherwiseNow 21 = .ok (.if_icmp .ge 16, 3) := by decide +kernel
theorem dX9_otherwiseNow_24 : decode cX9_otherwiseNow 24 = .ok (.aload_n 0, 1) := by decide +kernel
theorem dX9_otherwiseNow_25 : decode cX9_otherwiseNow 25 = .ok (.iload 5, 2) := by decide +kernel
theorem dX9_otherwiseNow_27 : decode cX9_otherwiseNow 27 = .ok (.invokevirtual 82, 3) := by decide +kernel
theorem dX9_otherwiseNow_30 : decode cX9_otherwiseNow 30 = .ok (.ifCond .eq 7, 3) := by decide +kernel
theorem dX9_otherwiseNow_33 : decode cX9_otherwiseNow 33 = .ok (.iconst 1, 1) := by decide +kernel
theorem dX9_otherwiseNow_34 : decode cX9_otherwiseNow 34 = .ok (.goto 4, 3) := by decide +kernel
theorem dX9_otherwiseNow_37 : decode cX9_otherwiseNow 37 = .ok (.iconst 0, 1) := by decide +kernel
theorem dX9_otherwiseNow_38 : decode cX9_otherwiseNow 38 = .ok (.istore 6, 2) := by decide +kernel
theorem dX9_otherwiseNow_40 : decode cX9_otherwiseNow 40 = .ok (.aload_n 0, 1) := by decide +kernel
theorem dX9_otherwiseNow_41 : decode cX9_otherwiseNow 41 = .ok (.iload_n 1, 1) := by decide +kernel
theorem dX9_otherwiseNow_42 : decode cX9_otherwiseNow 42 = .ok (.iload 5, 2) := by decide +kernel
theorem dX9_otherwiseNow_44 : decode cX9_otherwiseNow 44 = .ok (.iconst 0, 1) := by decide +kernel
theorem dX9_otherwiseNow_45 : decode cX9_otherwiseNow 45 = .ok (.invokevirtual 293, 3) := by decide +kernel
theorem dX9_otherwiseNow_48 : decode cX9_otherwiseNow 48 = .ok (.iconst (-1), 1) := by decide +kernel
theorem dX9_otherwiseNow_49 : decode cX9_otherwiseNow 49 = .ok (.if_icmp .eq 7, 3) := by decide +kernel
theorem dX9_otherwiseNow_52 : decode cX9_otherwiseNow 52 = .ok (.iconst 1, 1) := by decide +kernel
theorem dX9_otherwiseNow_53 : decode cX9_otherwiseNow 53 = .ok (.goto 4, 3) := by decide +kernel
theorem dX9_otherwiseNow_56 : decode cX9_otherwiseNow 56 = .ok (.iconst 0, 1) := by decide +kernel
theorem dX9_otherwiseNow_57 : decode cX9_otherwiseNow 57 = .ok (.istore 7, 2) := by decide +kernel
theorem dX9_otherwiseNow_59 : decode cX9_otherwiseNow 59 = .ok (.iload 6, 2) := by decide +kernel
theorem dX9_otherwiseNow_61 : decode cX9_otherwiseNow 61 = .ok (.ifCond .eq 106, 3) := by decide +kernel
theorem dX9_otherwiseNow_64 : decode cX9_otherwiseNow 64 = .ok (.iload 7, 2) := by decide +kernel
theorem dX9_otherwiseNow_66 : decode cX9_otherwiseNow 66 = .ok (.ifCond .eq 101, 3) := by decide +kernel
theorem dX9_otherwiseNow_69 : decode cX9_otherwiseNow 69 = .ok (.aload_n 0, 1) := by decide +kernel
theorem dX9_otherwiseNow_70 : decode cX9_otherwiseNow 70 = .ok (.iload 5, 2) := by decide +kernel
theorem dX9_otherwiseNow_72 : decode cX9_otherwiseNow 72 = .ok (.iconst 4, 1) := by decide +kernel
theorem dX9_otherwiseNow_73 : decode cX9_otherwiseNow 73 = .ok (.invokevirtual 50, 3) := by decide +kernel
theorem dX9_otherwiseNow_76 : decode cX9_otherwiseNow 76 = .ok (.aload_n 0, 1) := by decide +kernel
theorem dX9_otherwiseNow_77 : decode cX9_otherwiseNow 77 = .ok (.iload_n 1, 1) := by decide +kernel
theorem dX9_otherwiseNow_78 : decode cX9_otherwiseNow 78 = .ok (.iload 5, 2) := by decide +kernel
theorem dX9_otherwiseNow_80 : decode cX9_otherwiseNow 80 = .ok (.iconst 0, 1) := by decide +kernel
theorem dX9_otherwiseNow_81 : decode cX9_otherwiseNow 81 = .ok (.invokevirtual 293, 3) := by decide +kernel
theorem dX9_otherwiseNow_84 : decode cX9_otherwiseNow 84 = .ok (.isub, 1) := by decide +kernel
theorem dX9_otherwiseNow_85 : decode cX9_otherwiseNow 85 = .ok (.invokestatic 215, 3) := by decide +kernel
theorem dX9_otherwiseNow_88 : decode cX9_otherwiseNow 88 = .ok (.aload_n 0, 1) := by decide +kernel
theorem dX9_otherwiseNow_89 : decode cX9_otherwiseNow 89 = .ok (.iload 5, 2) := by decide +kernel
theorem dX9_otherwiseNow_91 : decode cX9_otherwiseNow 91 = .ok (.iconst 5, 1) := by decide +kernel
theorem dX9_otherwiseNow_92 : decode cX9_otherwiseNow 92 = .ok (.invokevirtual 50, 3) := by decide +kernel
theorem dX9_otherwiseNow_95 : decode cX9_otherwiseNow 95 = .ok (.aload_n 0, 1) := by decide +kernel
theorem dX9_otherwiseNow_96 : decode cX9_otherwiseNow 96 = .ok (.iload_n 1, 1) := by decide +kernel
theorem dX9_otherwiseNow_97 : decode cX9_otherwiseNow 97 = .ok (.iload 5, 2) := by decide +kernel
theorem dX9_otherwiseNow_99 : decode cX9_otherwiseNow 99 = .ok (.iconst 1, 1) := by decide +kernel
theorem dX9_otherwiseNow_100 : decode cX9_otherwiseNow 100 = .ok (.invokevirtual 293, 3) := by decide +kernel
theorem dX9_otherwiseNow_103 : decode cX9_otherwiseNow 103 = .ok (.isub, 1) := by decide +kernel
theorem dX9_otherwiseNow_104 : decode cX9_otherwiseNow 104 = .ok (.invokestatic 215, 3) := by decide +kernel
theorem dX9_otherwiseNow_107 : decode cX9_otherwiseNow 107 = .ok (.iadd, 1) := by decide +kernel
theorem dX9_otherwiseNow_108 : decode cX9_otherwiseNow 108 = .ok (.istore 8, 2) := by decide +kernel
theorem dX9_otherwiseNow_110 : decode cX9_otherwiseNow 110 = .ok (.iload 4, 2) := by decide +kernel
theorem dX9_otherwiseNow_112 : decode cX9_otherwiseNow 112 = .ok (.iload 8, 2) := by decide +kernel
theorem dX9_otherwiseNow_114 : decode cX9_otherwiseNow 114 = .ok (.iadd, 1) := by decide +kernel
theorem dX9_otherwiseNow_115 : decode cX9_otherwiseNow 115 = .ok (.istore 4, 2) := by decide +kernel
theorem dX9_otherwiseNow_117 : decode cX9_otherwiseNow 117 = .ok (.iload_n 3, 1) := by decide +kernel
theorem dX9_otherwiseNow_118 : decode cX9_otherwiseNow 118 = .ok (.iload 8, 2) := by decide +kernel
theorem dX9_otherwiseNow_120 : decode cX9_otherwiseNow 120 = .ok (.ifCond .ne 41, 3) := by decide +kernel
theorem dX9_otherwiseNow_123 : decode cX9_otherwiseNow 123 = .ok (.aload_n 0, 1) := by decide +kernel
theorem dX9_otherwiseNow_124 : decode cX9_otherwiseNow 124 = .ok (.iload 5, 2) := by decide +kernel
theorem dX9_otherwiseNow_126 : decode cX9_otherwiseNow 126 = .ok (.invokevirtual 64, 3) := by decide +kernel
theorem dX9_otherwiseNow_129 : decode cX9_otherwiseNow 129 = .ok (.aload_n 0, 1) := by decide +kernel
theorem dX9_otherwiseNow_130 : decode cX9_otherwiseNow 130 = .ok (.iload_n 1, 1) := by decide +kernel
theorem dX9_otherwiseNow_131 : decode cX9_otherwiseNow 131 = .ok (.iload 5, 2) := by decide +kernel
theorem dX9_otherwiseNow_133 : decode cX9_otherwiseNow 133 = .ok (.iconst 2, 1) := by decide +kernel
theorem dX9_otherwiseNow_134 : decode cX9_otherwiseNow 134 = .ok (.invokevirtual 293, 3) := by decide +kernel
theorem dX9_otherwiseNow_137 : decode cX9_otherwiseNow 137 = .ok (.if_icmp .ne 24, 3) := by decide +kernel
theorem dX9_otherwiseNow_140 : decode cX9_otherwiseNow 140 = .ok (.aload_n 0, 1) := by decide +kernel
theorem dX9_otherwiseNow_141 : decode cX9_otherwiseNow 141 = .ok (.iload 5, 2) := by decide +kernel
theorem dX9_otherwiseNow_143 : decode cX9_otherwiseNow 143 = .ok (.invokevirtual 68, 3) := by decide +kernel
theorem dX9_otherwiseNow_146 : decode cX9_otherwiseNow 146 = .ok (.aload_n 0, 1) := by decide +kernel
theorem dX9_otherwiseNow_147 : decode cX9_otherwiseNow 147 = .ok (.iload_n 1, 1) := by decide +kernel
theorem dX9_otherwiseNow_148 : decode cX9_otherwiseNow 148 = .ok (.iload 5, 2) := by decide +kernel
theorem dX9_otherwiseNow_150 : decode cX9_otherwiseNow 150 = .ok (.iconst 3, 1) := by decide +kernel
theorem dX9_otherwiseNow_151 : decode cX9_otherwiseNow 151 = .ok (.invokevirtual 293, 3) := by decide +kernel
theorem dX9_otherwiseNow_154 : decode cX9_otherwiseNow 154 = .ok (.if_icmp .ne 7, 3) := by decide +kernel
theorem dX9_otherwiseNow_157 : decode cX9_otherwiseNow 157 = .ok (.iconst 0, 1) := by decide +kernel
theorem dX9_otherwiseNow_158 : decode cX9_otherwiseNow 158 = .ok (.goto 4, 3) := by decide +kernel
theorem dX9_otherwiseNow_161 : decode cX9_otherwiseNow 161 = .ok (.iconst 1, 1) := by decide +kernel
theorem dX9_otherwiseNow_162 : decode cX9_otherwiseNow 162 = .ok (.iadd, 1) := by decide +kernel
theorem dX9_otherwiseNow_163 : decode cX9_otherwiseNow 163 = .ok (.istore_n 3, 1) := by decide +kernel
theorem dX9_otherwiseNow_164 : decode cX9_otherwiseNow 164 = .ok (.goto 21, 3) := by decide +kernel
theorem dX9_otherwiseNow_167 : decode cX9_otherwiseNow 167 = .ok (.iload_n 3, 1) := by decide +kernel
theorem dX9_otherwiseNow_168 : decode cX9_otherwiseNow 168 = .ok (.iload 6, 2) := by decide +kernel
theorem dX9_otherwiseNow_170 : decode cX9_otherwiseNow 170 = .ok (.ifCond .ne 8, 3) := by decide +kernel
theorem dX9_otherwiseNow_173 : decode cX9_otherwiseNow 173 = .ok (.iload 7, 2) := by decide +kernel
theorem dX9_otherwiseNow_175 : decode cX9_otherwiseNow 175 = .ok (.ifCond .eq 7, 3) := by decide +kernel
theorem dX9_otherwiseNow_178 : decode cX9_otherwiseNow 178 = .ok (.iconst 1, 1) := by decide +kernel
theorem dX9_otherwiseNow_179 : decode cX9_otherwiseNow 179 = .ok (.goto 4, 3) := by decide +kernel
theorem dX9_otherwiseNow_182 : decode cX9_otherwiseNow 182 = .ok (.iconst 0, 1) := by decide +kernel
theorem dX9_otherwiseNow_183 : decode cX9_otherwiseNow 183 = .ok (.iadd, 1) := by decide +kernel
theorem dX9_otherwiseNow_184 : decode cX9_otherwiseNow 184 = .ok (.istore_n 3, 1) := by decide +kernel
theorem dX9_otherwiseNow_185 : decode cX9_otherwiseNow 185 = .ok (.iinc 5 1, 3) := by decide +kernel
theorem dX9_otherwiseNow_188 : decode cX9_otherwiseNow 188 = .ok (.goto (-180), 3) := by decide +kernel
theorem dX9_otherwiseNow_191 : decode cX9_otherwiseNow 191 = .ok (.iload_n 2, 1) := by decide +kernel
theorem dX9_otherwiseNow_192 : decode cX9_otherwiseNow 192 = .ok (.ifCond .ne 7, 3) := by decide +kernel
theorem dX9_otherwiseNow_195 : decode cX9_otherwiseNow 195 = .ok (.iload_n 3, 1) := by decide +kernel
theorem dX9_otherwiseNow_196 : decode cX9_otherwiseNow 196 = .ok (.goto 5, 3) := by decide +kernel
theorem dX9_otherwiseNow_199 : decode cX9_otherwiseNow 199 = .ok (.iload 4, 2) := by decide +kernel
theorem dX9_otherwiseNow_201 : decode cX9_otherwiseNow 201 = .ok (.ireturn, 1) := by decide +kernel
theorem dX9_otherwise_0 : decode cX9_otherwise 0 = .ok (.iload_n 1, 1) := by decide +kernel
theorem dX9_otherwise_1 : decode cX9_otherwise 1 = .ok (.i2l, 1) := by decide +kernel
theorem dX9_otherwise_2 : decode cX9_otherwise 2 = .ok (.lconst 0, 1) := by decide +kernel
theorem dX9_otherwise_3 : decode cX9_otherwise 3 = .ok (.ldc2_w 117, 3) := by decide +kernel
theorem dX9_otherwise_6 : decode cX9_otherwise 6 = .ok (.invokestatic 46, 3) := by decide +kernel
theorem dX9_otherwise_9 : decode cX9_otherwise 9 = .ok (.ifCond .eq 13, 3) := by decide +kernel
theorem dX9_otherwise_12 : decode cX9_otherwise 12 = .ok (.iload_n 2, 1) := by decide +kernel
theorem dX9_otherwise_13 : decode cX9_otherwise 13 = .ok (.i2l, 1) := by decide +kernel
theorem dX9_otherwise_14 : decode cX9_otherwise 14 = .ok (.lconst 0, 1) := by decide +kernel
theorem dX9_otherwise_15 : decode cX9_otherwise 15 = .ok (.lconst 1, 1) := by decide +kernel
theorem dX9_otherwise_16 : decode cX9_otherwise 16 = .ok (.invokestatic 46, 3) := by decide +kernel
theorem dX9_otherwise_19 : decode cX9_otherwise 19 = .ok (.ifCond .ne 10, 3) := by decide +kernel
theorem dX9_otherwise_22 : decode cX9_otherwise 22 = .ok (.aload_n 0, 1) := by decide +kernel
theorem dX9_otherwise_23 : decode cX9_otherwise 23 = .ok (.bipush (-2), 2) := by decide +kernel
theorem dX9_otherwise_25 : decode cX9_otherwise 25 = .ok (.invokevirtual 101, 3) := by decide +kernel
theorem dX9_otherwise_28 : decode cX9_otherwise 28 = .ok (.ireturn, 1) := by decide +kernel
theorem dX9_otherwise_29 : decode cX9_otherwise 29 = .ok (.aload_n 0, 1) := by decide +kernel
theorem dX9_otherwise_30 : decode cX9_otherwise 30 = .ok (.iload_n 1, 1) := by decide +kernel
theorem dX9_otherwise_31 : decode cX9_otherwise 31 = .ok (.invokevirtual 290, 3) := by decide +kernel
theorem dX9_otherwise_34 : decode cX9_otherwise 34 = .ok (.ifCond .eq 12, 3) := by decide +kernel
theorem dX9_otherwise_37 : decode cX9_otherwise 37 = .ok (.aload_n 0, 1) := by decide +kernel
theorem dX9_otherwise_38 : decode cX9_otherwise 38 = .ok (.iload_n 1, 1) := by decide +kernel
theorem dX9_otherwise_39 : decode cX9_otherwise 39 = .ok (.iload_n 2, 1) := by decide +kernel
theorem dX9_otherwise_40 : decode cX9_otherwise 40 = .ok (.invokevirtual 296, 3) := by decide +kernel
theorem dX9_otherwise_43 : decode cX9_otherwise 43 = .ok (.goto 9, 3) := by decide +kernel
theorem dX9_otherwise_46 : decode cX9_otherwise 46 = .ok (.aload_n 0, 1) := by decide +kernel
theorem dX9_otherwise_47 : decode cX9_otherwise 47 = .ok (.bipush (-3), 2) := by decide +kernel
theorem dX9_otherwise_49 : decode cX9_otherwise 49 = .ok (.invokevirtual 101, 3) := by decide +kernel
theorem dX9_otherwise_52 : decode cX9_otherwise 52 = .ok (.ireturn, 1) := by decide +kernel
theorem dX9_type_0 : decode cX9_type 0 = .ok (.iload_n 1, 1) := by decide +kernel
theorem dX9_type_1 : decode cX9_type 1 = .ok (.i2l, 1) := by decide +kernel
theorem dX9_type_2 : decode cX9_type 2 = .ok (.lconst 0, 1) := by decide +kernel
theorem dX9_type_3 : decode cX9_type 3 = .ok (.ldc2_w 299, 3) := by decide +kernel
theorem dX9_type_6 : decode cX9_type 6 = .ok (.invokestatic 46, 3) := by decide +kernel
theorem dX9_type_9 : decode cX9_type 9 = .ok (.ifCond .ne 10, 3) := by decide +kernel
theorem dX9_type_12 : decode cX9_type 12 = .ok (.aload_n 0, 1) := by decide +kernel
theorem dX9_type_13 : decode cX9_type 13 = .ok (.bipush (-2), 2) := by decide +kernel
theorem dX9_type_15 : decode cX9_type 15 = .ok (.invokevirtual 101, 3) := by decide +kernel
theorem dX9_type_18 : decode cX9_type 18 = .ok (.ireturn, 1) := by decide +kernel
theorem dX9_type_19 : decode cX9_type 19 = .ok (.aload_n 0, 1) := by decide +kernel
theorem dX9_type_20 : decode cX9_type 20 = .ok (.getfield 301, 3) := by decide +kernel
theorem dX9_type_23 : decode cX9_type 23 = .ok (.bipush 120, 2) := by decide +kernel
theorem dX9_type_25 : decode cX9_type 25 = .ok (.if_icmp .ne 10, 3) := by decide +kernel
theorem dX9_type_28 : decode cX9_type 28 = .ok (.aload_n 0, 1) := by decide +kernel
theorem dX9_type_29 : decode cX9_type 29 = .ok (.bipush (-4), 2) := by decide +kernel
theorem dX9_type_31 : decode cX9_type 31 = .ok (.invokevirtual 101, 3) := by decide +kernel
theorem dX9_type_34 : decode cX9_type 34 = .ok (.ireturn, 1) := by decide +kernel
theorem dX9_type_35 : decode cX9_type 35 = .ok (.aload_n 0, 1) := by decide +kernel
theorem dX9_type_36 : decode cX9_type 36 = .ok (.getfield 32, 3) := by decide +kernel
theorem dX9_type_39 : decode cX9_type 39 = .ok (.aload_n 0, 1) := by decide +kernel
theorem dX9_type_40 : decode cX9_type 40 = .ok (.getfield 301, 3) := by decide +kernel
theorem dX9_type_43 : decode cX9_type 43 = .ok (.iload_n 1, 1) := by decide +kernel
theorem dX9_type_44 : decode cX9_type 44 = .ok (.iastore, 1) := by decide +kernel
theorem dX9_type_45 : decode cX9_type 45 = .ok (.aload_n 0, 1) := by decide +kernel
theorem dX9_type_46 : decode cX9_type 46 = .ok (.dup, 1) := by decide +kernel
theorem dX9_type_47 : decode cX9_type 47 = .ok (.getfield 301, 3) := by decide +kernel
theorem dX9_type_50 : decode cX9_type 50 = .ok (.iconst 1, 1) := by decide +kernel
theorem dX9_type_51 : decode cX9_type 51 = .ok (.iadd, 1) := by decide +kernel
theorem dX9_type_52 : decode cX9_type 52 = .ok (.putfield 301, 3) := by decide +kernel
theorem dX9_type_55 : decode cX9_type 55 = .ok (.aload_n 0, 1) := by decide +kernel
theorem dX9_type_56 : decode cX9_type 56 = .ok (.getfield 301, 3) := by decide +kernel
theorem dX9_type_59 : decode cX9_type 59 = .ok (.ireturn, 1) := by decide +kernel
theorem dX9_clear_0 : decode cX9_clear 0 = .ok (.aload_n 0, 1) := by decide +kernel
theorem dX9_clear_1 : decode cX9_clear 1 = .ok (.getfield 301, 3) := by decide +kernel
theorem dX9_clear_4 : decode cX9_clear 4 = .ok (.istore_n 1, 1) := by decide +kernel
theorem dX9_clear_5 : decode cX9_clear 5 = .ok (.aload_n 0, 1) := by decide +kernel
theorem dX9_clear_6 : decode cX9_clear 6 = .ok (.iconst 0, 1) := by decide +kernel
theorem dX9_clear_7 : decode cX9_clear 7 = .ok (.putfield 301, 3) := by decide +kernel
theorem dX9_clear_10 : decode cX9_clear 10 = .ok (.iload_n 1, 1) := by decide +kernel
theorem dX9_clear_11 : decode cX9_clear 11 = .ok (.ireturn, 1) := by decide +kernel
theorem dX9_here_0 : decode cX9_here 0 = .ok (.aload_n 0, 1) := by decide +kernel
theorem dX9_here_1 : decode cX9_here 1 = .ok (.getfield 304, 3) := by decide +kernel
theorem dX9_here_4 : decode cX9_here 4 = .ok (.aload_n 0, 1) := by decide +kernel
theorem dX9_here_5 : decode cX9_here 5 = .ok (.getfield 301, 3) := by decide +kernel
theorem dX9_here_8 : decode cX9_here 8 = .ok (.if_icmp .ge 30, 3) := by decide +kernel
theorem dX9_here_11 : decode cX9_here 11 = .ok (.aload_n 0, 1) := by decide +kernel
theorem dX9_here_12 : decode cX9_here 12 = .ok (.getfield 32, 3) := by decide +kernel
theorem dX9_here_15 : decode cX9_here 15 = .ok (.aload_n 0, 1) := by decide +kernel
theorem dX9_here_16 : decode cX9_here 16 = .ok (.getfield 304, 3) := by decide +kernel
theorem dX9_here_19 : decode cX9_here 19 = .ok (.iaload, 1) := by decide +kernel
theorem dX9_here_20 : decode cX9_here 20 = .ok (.bipush 32, 2) := by decide +kernel
theorem dX9_here_22 : decode cX9_here 22 = .ok (.if_icmp .ne 16, 3) := by decide +kernel
theorem dX9_here_25 : decode cX9_here 25 = .ok (.aload_n 0, 1) := by decide +kernel
theorem dX9_here_26 : decode cX9_here 26 = .ok (.dup, 1) := by decide +kernel
theorem dX9_here_27 : decode cX9_here 27 = .ok (.getfield 304, 3) := by decide +kernel
theorem dX9_here_30 : decode cX9_here 30 = .ok (.iconst 1, 1) := by decide +kernel
theorem dX9_here_31 : decode cX9_here 31 = .ok (.iadd, 1) := by decide +kernel
theorem dX9_here_32 : decode cX9_here 32 = .ok (.putfield 304, 3) := by decide +kernel
theorem dX9_here_35 : decode cX9_here 35 = .ok (.goto (-35), 3) := by decide +kernel
theorem dX9_here_38 : decode cX9_here 38 = .ok (.aload_n 0, 1) := by decide +kernel
theorem dX9_here_39 : decode cX9_here 39 = .ok (.getfield 304, 3) := by decide +kernel
theorem dX9_here_42 : decode cX9_here 42 = .ok (.aload_n 0, 1) := by decide +kernel
theorem dX9_here_43 : decode cX9_here 43 = .ok (.getfield 301, 3) := by decide +kernel
theorem dX9_here_46 : decode cX9_here 46 = .ok (.if_icmp .ge 15, 3) := by decide +kernel
theorem dX9_here_49 : decode cX9_here 49 = .ok (.aload_n 0, 1) := by decide +kernel
theorem dX9_here_50 : decode cX9_here 50 = .ok (.getfield 32, 3) := by decide +kernel
theorem dX9_here_53 : decode cX9_here 53 = .ok (.aload_n 0, 1) := by decide +kernel
theorem dX9_here_54 : decode cX9_here 54 = .ok (.getfield 304, 3) := by decide +kernel
theorem dX9_here_57 : decode cX9_here 57 = .ok (.iaload, 1) := by decide +kernel
theorem dX9_here_58 : decode cX9_here 58 = .ok (.goto 4, 3) := by decide +kernel
theorem dX9_here_61 : decode cX9_here 61 = .ok (.iconst (-1), 1) := by decide +kernel
theorem dX9_here_62 : decode cX9_here 62 = .ok (.ireturn, 1) := by decide +kernel
theorem dX9_isFigure_0 : decode cX9_isFigure 0 = .ok (.iload_n 1, 1) := by decide +kernel
theorem dX9_isFigure_1 : decode cX9_isFigure 1 = .ok (.aload_n 0, 1) := by decide +kernel
theorem dX9_isFigure_2 : decode cX9_isFigure 2 = .ok (.getfield 301, 3) := by decide +kernel
theorem dX9_isFigure_5 : decode cX9_isFigure 5 = .ok (.if_icmp .ge 26, 3) := by decide +kernel
theorem dX9_isFigure_8 : decode cX9_isFigure 8 = .ok (.aload_n 0, 1) := by decide +kernel
theorem dX9_isFigure_9 : decode cX9_isFigure 9 = .ok (.getfield 32, 3) := by decide +kernel
theorem dX9_isFigure_12 : decode cX9_isFigure 12 = .ok (.iload_n 1, 1) := by decide +kernel
theorem dX9_isFigure_13 : decode cX9_isFigure 13 = .ok (.iaload, 1) := by decide +kernel
theorem dX9_isFigure_14 : decode cX9_isFigure 14 = .ok (.i2l, 1) := by decide +kernel
theorem dX9_isFigure_15 : decode cX9_isFigure 15 = .ok (.ldc2_w 307, 3) := by decide +kernel
theorem dX9_isFigure_18 : decode cX9_isFigure 18 = .ok (.ldc2_w 309, 3) := by decide +kernel
theorem dX9_isFigure_21 : decode cX9_isFigure 21 = .ok (.invokestatic 46, 3) := by decide +kernel
theorem dX9_isFigure_24 : decode cX9_isFigure 24 = .ok (.ifCond .eq 7, 3) := by decide +kernel
theorem dX9_isFigure_27 : decode cX9_isFigure 27 = .ok (.iconst 1, 1) := by decide +kernel
theorem dX9_isFigure_28 : decode cX9_isFigure 28 = .ok (.goto 4, 3) := by decide +kernel
theorem dX9_isFigure_31 : decode cX9_isFigure 31 = .ok (.iconst 0, 1) := by decide +kernel
theorem dX9_isFigure_32 : decode cX9_isFigure 32 = .ok (.ireturn, 1) := by decide +kernel
theorem dX9_takesAll_0 : decode cX9_takesAll 0 = .ok (.iconst 0, 1) := by decide +kernel
theorem dX9_takesAll_1 : decode cX9_takesAll 1 = .ok (.istore_n 2, 1) := by decide +kernel
theorem dX9_takesAll_2 : decode cX9_takesAll 2 = .ok (.iload_n 2, 1) := by decide +kernel
theorem dX9_takesAll_3 : decode cX9_takesAll 3 = .ok (.iload_n 1, 1) := by decide +kernel
theorem dX9_takesAll_4 : decode cX9_takesAll 4 = .ok (.if_icmp .ge 108, 3) := by decide +kernel
theorem dX9_takesAll_7 : decode cX9_takesAll 7 = .ok (.aload_n 0, 1) := by decide +kernel
theorem dX9_takesAll_8 : decode cX9_takesAll 8 = .ok (.invokevirtual 311, 3) := by decide +kernel
theorem dX9_takesAll_11 : decode cX9_takesAll 11 = .ok (.istore_n 3, 1) := by decide +kernel
theorem dX9_takesAll_12 : decode cX9_takesAll 12 = .ok (.iconst 0, 1) := by decide +kernel
theorem dX9_takesAll_13 : decode cX9_takesAll 13 = .ok (.istore 4, 2) := by decide +kernel
theorem dX9_takesAll_15 : decode cX9_takesAll 15 = .ok (.aload_n 0, 1) := by decide +kernel
theorem dX9_takesAll_16 : decode cX9_takesAll 16 = .ok (.getfield 35, 3) := by decide +kernel
theorem dX9_takesAll_19 : decode cX9_takesAll 19 = .ok (.iload_n 2, 1) := by decide +kernel
theorem dX9_takesAll_20 : decode cX9_takesAll 20 = .ok (.iconst 0, 1) := by decide +kernel
theorem dX9_takesAll_21 : decode cX9_takesAll 21 = .ok (.iastore, 1) := by decide +kernel
theorem dX9_takesAll_22 : decode cX9_takesAll 22 = .ok (.aload_n 0, 1) := by decide +kernel
theorem dX9_takesAll_23 : decode cX9_takesAll 23 = .ok (.aload_n 0, 1) := by decide +kernel
theorem dX9_takesAll_24 : decode cX9_takesAll 24 = .ok (.getfield 304, 3) := by decide +kernel
theorem dX9_takesAll_27 : decode cX9_takesAll 27 = .ok (.invokevirtual 314, 3) := by decide +kernel
theorem dX9_takesAll_30 : decode cX9_takesAll 30 = .ok (.ifCond .eq 53, 3) := by decide +kernel
theorem dX9_takesAll_33 : decode cX9_takesAll 33 = .ok (.iload 4, 2) := by decide +kernel
theorem dX9_takesAll_35 : decode cX9_takesAll 35 = .ok (.iconst 2, 1) := by decide +kernel
theorem dX9_takesAll_36 : decode cX9_takesAll 36 = .ok (.if_icmp .ge 47, 3) := by decide +kernel
theorem dX9_takesAll_39 : decode cX9_takesAll 39 = .ok (.aload_n 0, 1) := by decide +kernel
theorem dX9_takesAll_40 : decode cX9_takesAll 40 = .ok (.getfield 35, 3) := by decide +kernel
theorem dX9_takesAll_43 : decode cX9_takesAll 43 = .ok (.iload_n 2, 1) := by decide +kernel
theorem dX9_takesAll_44 : decode cX9_takesAll 44 = .ok (.bipush 10, 2) := by decide +kernel
theorem dX9_takesAll_46 : decode cX9_takesAll 46 = .ok (.aload_n 0, 1) := by decide +kernel
theorem dX9_takesAll_47 : decode cX9_takesAll 47 = .ok (.getfield 35, 3) := by decide +kernel
theorem dX9_takesAll_50 : decode cX9_takesAll 50 = .ok (.iload_n 2, 1) := by decide +kernel
theorem dX9_takesAll_51 : decode cX9_takesAll 51 = .ok (.iaload, 1) := by decide +kernel
theorem dX9_takesAll_52 : decode cX9_takesAll 52 = .ok (.imul, 1) := by decide +kernel
theorem dX9_takesAll_53 : decode cX9_takesAll 53 = .ok (.aload_n 0, 1) := by decide +kernel
theorem dX9_takesAll_54 : decode cX9_takesAll 54 = .ok (.getfield 32, 3) := by decide +kernel
theorem dX9_takesAll_57 : decode cX9_takesAll 57 = .ok (.aload_n 0, 1) := by decide +kernel
theorem dX9_takesAll_58 : decode cX9_takesAll 58 = .ok (.getfield 304, 3) := by decide +kernel
theorem dX9_takesAll_61 : decode cX9_takesAll 61 = .ok (.iaload, 1) := by decide +kernel
theorem dX9_takesAll_62 : decode cX9_takesAll 62 = .ok (.iadd, 1) := by decide +kernel
theorem dX9_takesAll_63 : decode cX9_takesAll 63 = .ok (.bipush 48, 2) := by decide +kernel
theorem dX9_takesAll_65 : decode cX9_takesAll 65 = .ok (.isub, 1) := by decide +kernel
theorem dX9_takesAll_66 : decode cX9_takesAll 66 = .ok (.iastore, 1) := by decide +kernel
theorem dX9_takesAll_67 : decode cX9_takesAll 67 = .ok (.aload_n 0, 1) := by decide +kernel
theorem dX9_takesAll_68 : decode cX9_takesAll 68 = .ok (.dup, 1) := by decide +kernel
theorem dX9_takesAll_69 : decode cX9_takesAll 69 = .ok (.getfield 304, 3) := by decide +kernel
theorem dX9_takesAll_72 : decode cX9_takesAll 72 = .ok (.iconst 1, 1) := by decide +kernel
theorem dX9_takesAll_73 : decode cX9_takesAll 73 = .ok (.iadd, 1) := by decide +kernel
theorem dX9_takesAll_74 : decode cX9_takesAll 74 = .ok (.putfield 304, 3) := by decide +kernel
theorem dX9_takesAll_77 : decode cX9_takesAll 77 = .ok (.iinc 4 1, 3) := by decide +kernel
theorem dX9_takesAll_80 : decode cX9_takesAll 80 = .ok (.goto (-58), 3) := by decide +kernel
theorem dX9_takesAll_83 : decode cX9_takesAll 83 = .ok (.iload_n 3, 1) := by decide +kernel
theorem dX9_takesAll_84 : decode cX9_takesAll 84 = .ok (.iconst (-1), 1) := by decide +kernel
theorem dX9_takesAll_85 : decode cX9_takesAll 85 = .ok (.if_icmp .eq 19, 3) := by decide +kernel
theorem dX9_takesAll_88 : decode cX9_takesAll 88 = .ok (.iload 4, 2) := by decide +kernel
theorem dX9_takesAll_90 : decode cX9_takesAll 90 = .ok (.ifCond .eq 14, 3) := by decide +kernel
theorem dX9_takesAll_93 : decode cX9_takesAll 93 = .ok (.aload_n 0, 1) := by decide +kernel
theorem dX9_takesAll_94 : decode cX9_takesAll 94 = .ok (.aload_n 0, 1) := by decide +kernel
theorem dX9_takesAll_95 : decode cX9_takesAll 95 = .ok (.getfield 304, 3) := by decide +kernel
theorem dX9_takesAll_98 : decode cX9_takesAll 98 = .ok (.invokevirtual 314, 3) := by decide +kernel
theorem dX9_takesAll_101 : decode cX9_takesAll 101 = .ok (.ifCond .eq 5, 3) := by decide +kernel
theorem dX9_takesAll_104 : decode cX9_takesAll 104 = .ok (.iconst 0, 1) := by decide +kernel
theorem dX9_takesAll_105 : decode cX9_takesAll 105 = .ok (.ireturn, 1) := by decide +kernel
theorem dX9_takesAll_106 : decode cX9_takesAll 106 = .ok (.iinc 2 1, 3) := by decide +kernel
theorem dX9_takesAll_109 : decode cX9_takesAll 109 = .ok (.goto (-107), 3) := by decide +kernel
theorem dX9_takesAll_112 : decode cX9_takesAll 112 = .ok (.iconst 1, 1) := by decide +kernel
theorem dX9_takesAll_113 : decode cX9_takesAll 113 = .ok (.ireturn, 1) := by decide +kernel
theorem dX9_numbersOf_0 : decode cX9_numbersOf 0 = .ok (.iload_n 0, 1) := by decide +kernel
theorem dX9_numbersOf_1 : decode cX9_numbersOf 1 = .ok (.lookupswitch 51 #[(97, 49), (105, 43), (112, 45), (119, 47)], 43) := by decide +kernel
theorem dX9_numbersOf_44 : decode cX9_numbersOf 44 = .ok (.iconst 4, 1) := by decide +kernel
theorem dX9_numbersOf_45 : decode cX9_numbersOf 45 = .ok (.ireturn, 1) := by decide +kernel
theorem dX9_numbersOf_46 : decode cX9_numbersOf 46 = .ok (.iconst 3, 1) := by decide +kernel
theorem dX9_numbersOf_47 : decode cX9_numbersOf 47 = .ok (.ireturn, 1) := by decide +kernel
theorem dX9_numbersOf_48 : decode cX9_numbersOf 48 = .ok (.iconst 2, 1) := by decide +kernel
theorem dX9_numbersOf_49 : decode cX9_numbersOf 49 = .ok (.ireturn, 1) := by decide +kernel
theorem dX9_numbersOf_50 : decode cX9_numbersOf 50 = .ok (.iconst 0, 1) := by decide +kernel
theorem dX9_numbersOf_51 : decode cX9_numbersOf 51 = .ok (.ireturn, 1) := by decide +kernel
theorem dX9_numbersOf_52 : decode cX9_numbersOf 52 = .ok (.iconst 1, 1) := by decide +kernel
theorem dX9_numbersOf_53 : decode cX9_numbersOf 53 = .ok (.ireturn, 1) := by decide +kernel
theorem dX9_settingOf_0 : decode cX9_settingOf 0 = .ok (.iload_n 0, 1) := by decide +kernel
theorem dX9_settingOf_1 : decode cX9_settingOf 1 = .ok (.bipush 109, 2) := by decide +kernel
theorem dX9_settingOf_3 : decode cX9_settingOf 3 = .ok (.if_icmp .ne 7, 3) := by decide +kernel
theorem dX9_settingOf_6 : decode cX9_settingOf 6 = .ok (.iconst 0, 1) := by decide +kernel
theorem dX9_settingOf_7 : decode cX9_settingOf 7 = .ok (.goto 34, 3) := by decide +kernel
theorem dX9_settingOf_10 : decode cX9_settingOf 10 = .ok (.iload_n 0, 1) := by decide +kernel
theorem dX9_settingOf_11 : decode cX9_settingOf 11 = .ok (.bipush 103, 2) := by decide +kernel
theorem dX9_settingOf_13 : decode cX9_settingOf 13 = .ok (.if_icmp .ne 7, 3) := by decide +kernel
theorem dX9_settingOf_16 : decode cX9_settingOf 16 = .ok (.iconst 1, 1) := by decide +kernel
theorem dX9_settingOf_17 : decode cX9_settingOf 17 = .ok (.goto 24, 3) := by decide +kernel
theorem dX9_settingOf_20 : decode cX9_settingOf 20 = .ok (.iload_n 0, 1) := by decide +kernel
theorem dX9_settingOf_21 : decode cX9_settingOf 21 = .ok (.bipush 98, 2) := by decide +kernel
theorem dX9_settingOf_23 : decode cX9_settingOf 23 = .ok (.if_icmp .ne 7, 3) := by decide +kernel
theorem dX9_settingOf_26 : decode cX9_settingOf 26 = .ok (.iconst 2, 1) := by decide +kernel
theorem dX9_settingOf_27 : decode cX9_settingOf 27 = .ok (.goto 14, 3) := by decide +kernel
theorem dX9_settingOf_30 : decode cX9_settingOf 30 = .ok (.iload_n 0, 1) := by decide +kernel
theorem dX9_settingOf_31 : decode cX9_settingOf 31 = .ok (.bipush 114, 2) := by decide +kernel
theorem dX9_settingOf_33 : decode cX9_settingOf 33 = .ok (.if_icmp .ne 7, 3) := by decide +kernel
theorem dX9_settingOf_36 : decode cX9_settingOf 36 = .ok (.iconst 3, 1) := by decide +kernel
theorem dX9_settingOf_37 : decode cX9_settingOf 37 = .ok (.goto 4, 3) := by decide +kernel
theorem dX9_settingOf_40 : decode cX9_settingOf 40 = .ok (.iconst 4, 1) := by decide +kernel
theorem dX9_settingOf_41 : decode cX9_settingOf 41 = .ok (.ireturn, 1) := by decide +kernel
theorem dX9_isOrder_0 : decode cX9_isOrder 0 = .ok (.iload_n 0, 1) := by decide +kernel
theorem dX9_isOrder_1 : decode cX9_isOrder 1 = .ok (.bipush 105, 2) := by decide +kernel
theorem dX9_isOrder_3 : decode cX9_isOrder 3 = .ok (.if_icmp .eq 57, 3) := by decide +kernel
theorem dX9_isOrder_6 : decode cX9_isOrder 6 = .ok (.iload_n 0, 1) := by decide +kernel
theorem dX9_isOrder_7 : decode cX9_isOrder 7 = .ok (.bipush 119, 2) := by decide +kernel
theorem dX9_isOrder_9 : decode cX9_isOrder 9 = .ok (.if_icmp .eq 51, 3) := by decide +kernel
theorem dX9_isOrder_12 : decode cX9_isOrder 12 = .ok (.iload_n 0, 1) := by decide +kernel
theorem dX9_isOrder_13 : decode cX9_isOrder 13 = .ok (.bipush 109, 2) := by decide +kernel
theorem dX9_isOrder_15 : decode cX9_isOrder 15 = .ok (.if_icmp .eq 45, 3) := by decide +kernel
theorem dX9_isOrder_18 : decode cX9_isOrder 18 = .ok (.iload_n 0, 1) := by decide +kernel
theorem dX9_isOrder_19 : decode cX9_isOrder 19 = .ok (.bipush 103, 2) := by decide +kernel
theorem dX9_isOrder_21 : decode cX9_isOrder 21 = .ok (.if_icmp .eq 39, 3) := by decide +kernel
theorem dX9_isOrder_24 : decode cX9_isOrder 24 = .ok (.iload_n 0, 1) := by decide +kernel
theorem dX9_isOrder_25 : decode cX9_isOrder 25 = .ok (.bipush 98, 2) := by decide +kernel
theorem dX9_isOrder_27 : decode cX9_isOrder 27 = .ok (.if_icmp .eq 33, 3) := by decide +kernel
theorem dX9_isOrder_30 : decode cX9_isOrder 30 = .ok (.iload_n 0, 1) := by decide +kernel
theorem dX9_isOrder_31 : decode cX9_isOrder 31 = .ok (.bipush 114, 2) := by decide +kernel
theorem dX9_isOrder_33 : decode cX9_isOrder 33 = .ok (.if_icmp .eq 27, 3) := by decide +kernel
theorem dX9_isOrder_36 : decode cX9_isOrder 36 = .ok (.iload_n 0, 1) := by decide +kernel
theorem dX9_isOrder_37 : decode cX9_isOrder 37 = .ok (.bipush 99, 2) := by decide +kernel
theorem dX9_isOrder_39 : decode cX9_isOrder 39 = .ok (.if_icmp .eq 21, 3) := by decide +kernel
theorem dX9_isOrder_42 : decode cX9_isOrder 42 = .ok (.iload_n 0, 1) := by decide +kernel
theorem dX9_isOrder_43 : decode cX9_isOrder 43 = .ok (.bipush 112, 2) := by decide +kernel
theorem dX9_isOrder_45 : decode cX9_isOrder 45 = .ok (.if_icmp .eq 15, 3) := by decide +kernel
theorem dX9_isOrder_48 : decode cX9_isOrder 48 = .ok (.iload_n 0, 1) := by decide +kernel
theorem dX9_isOrder_49 : decode cX9_isOrder 49 = .ok (.bipush 111, 2) := by decide +kernel
theorem dX9_isOrder_51 : decode cX9_isOrder 51 = .ok (.if_icmp .eq 9, 3) := by decide +kernel
theorem dX9_isOrder_54 : decode cX9_isOrder 54 = .ok (.iload_n 0, 1) := by decide +kernel
theorem dX9_isOrder_55 : decode cX9_isOrder 55 = .ok (.bipush 97, 2) := by decide +kernel
theorem dX9_isOrder_57 : decode cX9_isOrder 57 = .ok (.if_icmp .ne 7, 3) := by decide +kernel
theorem dX9_isOrder_60 : decode cX9_isOrder 60 = .ok (.iconst 1, 1) := by decide +kernel
theorem dX9_isOrder_61 : decode cX9_isOrder 61 = .ok (.goto 4, 3) := by decide +kernel
theorem dX9_isOrder_64 : decode cX9_isOrder 64 = .ok (.iconst 0, 1) := by decide +kernel
theorem dX9_isOrder_65 : decode cX9_isOrder 65 = .ok (.ireturn, 1) := by decide +kernel
theorem dX9_can_0 : decode cX9_can 0 = .ok (.iload_n 1, 1) := by decide +kernel
theorem dX9_can_1 : decode cX9_can 1 = .ok (.lookupswitch 141 #[(97, 139), (105, 51), (111, 128), (112, 105), (119, 80)], 51) := by decide +kernel
theorem dX9_can_52 : decode cX9_can 52 = .ok (.aload_n 0, 1) := by decide +kernel
theorem dX9_can_53 : decode cX9_can 53 = .ok (.aload_n 0, 1) := by decide +kernel
theorem dX9_can_54 : decode cX9_can 54 = .ok (.getfield 35, 3) := by decide +kernel
theorem dX9_can_57 : decode cX9_can 57 = .ok (.iconst 0, 1) := by decide +kernel
theorem dX9_can_58 : decode cX9_can 58 = .ok (.iaload, 1) := by decide +kernel
theorem dX9_can_59 : decode cX9_can 59 = .ok (.aload_n 0, 1) := by decide +kernel
theorem dX9_can_60 : decode cX9_can 60 = .ok (.getfield 35, 3) := by decide +kernel
theorem dX9_can_63 : decode cX9_can 63 = .ok (.iconst 1, 1) := by decide +kernel
theorem dX9_can_64 : decode cX9_can 64 = .ok (.iaload, 1) := by decide +kernel
theorem dX9_can_65 : decode cX9_can 65 = .ok (.aload_n 0, 1) := by decide +kernel
theorem dX9_can_66 : decode cX9_can 66 = .ok (.getfield 35, 3) := by decide +kernel
theorem dX9_can_69 : decode cX9_can 69 = .ok (.iconst 2, 1) := by decide +kernel
theorem dX9_can_70 : decode cX9_can 70 = .ok (.iaload, 1) := by decide +kernel
theorem dX9_can_71 : decode cX9_can 71 = .ok (.aload_n 0, 1) := by decide +kernel
theorem dX9_can_72 : decode cX9_can 72 = .ok (.getfield 35, 3) := by decide +kernel
theorem dX9_can_75 : decode cX9_can 75 = .ok (.iconst 3, 1) := by decide +kernel
theorem dX9_can_76 : decode cX9_can 76 = .ok (.iaload, 1) := by decide +kernel
theorem dX9_can_77 : decode cX9_can 77 = .ok (.invokevirtual 142, 3) := by decide +kernel
theorem dX9_can_80 : decode cX9_can 80 = .ok (.ireturn, 1) := by decide +kernel
theorem dX9_can_81 : decode cX9_can 81 = .ok (.aload_n 0, 1) := by decide +kernel
theorem dX9_can_82 : decode cX9_can 82 = .ok (.getfield 35, 3) := by decide +kernel
theorem dX9_can_85 : decode cX9_can 85 = .ok (.iconst 0, 1) := by decide +kernel
theorem dX9_can_86 : decode cX9_can 86 = .ok (.iaload, 1) := by decide +kernel
theorem dX9_can_87 : decode cX9_can 87 = .ok (.aload_n 0, 1) := by decide +kernel
theorem dX9_can_88 : decode cX9_can 88 = .ok (.getfield 35, 3) := by decide +kernel
theorem dX9_can_91 : decode cX9_can 91 = .ok (.iconst 1, 1) := by decide +kernel
theorem dX9_can_92 : decode cX9_can 92 = .ok (.iaload, 1) := by decide +kernel
theorem dX9_can_93 : decode cX9_can 93 = .ok (.invokestatic 108, 3) := by decide +kernel
theorem dX9_can_96 : decode cX9_can 96 = .ok (.ifCond .eq 7, 3) := by decide +kernel
theorem dX9_can_99 : decode cX9_can 99 = .ok (.iconst 0, 1) := by decide +kernel
theorem dX9_can_100 : decode cX9_can 100 = .ok (.goto 5, 3) := by decide +kernel
theorem dX9_can_103 : decode cX9_can 103 = .ok (.bipush (-2), 2) := by decide +kernel
theorem dX9_can_105 : decode cX9_can 105 = .ok (.ireturn, 1) := by decide +kernel
theorem dX9_can_106 : decode cX9_can 106 = .ok (.aload_n 0, 1) := by decide +kernel
theorem dX9_can_107 : decode cX9_can 107 = .ok (.aload_n 0, 1) := by decide +kernel
theorem dX9_can_108 : decode cX9_can 108 = .ok (.getfield 35, 3) := by decide +kernel
theorem dX9_can_111 : decode cX9_can 111 = .ok (.iconst 0, 1) := by decide +kernel
theorem dX9_can_112 : decode cX9_can 112 = .ok (.iaload, 1) := by decide +kernel
theorem dX9_can_113 : decode cX9_can 113 = .ok (.aload_n 0, 1) := by decide +kernel
theorem dX9_can_114 : decode cX9_can 114 = .ok (.getfield 35, 3) := by decide +kernel
theorem dX9_can_117 : decode cX9_can 117 = .ok (.iconst 1, 1) := by decide +kernel
theorem dX9_can_118 : decode cX9_can 118 = .ok (.iaload, 1) := by decide +kernel
theorem dX9_can_119 : decode cX9_can 119 = .ok (.aload_n 0, 1) := by decide +kernel
theorem dX9_can_120 : decode cX9_can 120 = .ok (.getfield 35, 3) := by decide +kernel
theorem dX9_can_123 : decode cX9_can 123 = .ok (.iconst 2, 1) := by decide +kernel
theorem dX9_can_124 : decode cX9_can 124 = .ok (.iaload, 1) := by decide +kernel
theorem dX9_can_125 : decode cX9_can 125 = .ok (.invokevirtual 168, 3) := by decide +kernel
theorem dX9_can_128 : decode cX9_can 128 = .ok (.ireturn, 1) := by decide +kernel
theorem dX9_can_129 : decode cX9_can 129 = .ok (.aload_n 0, 1) := by decide +kernel
theorem dX9_can_130 : decode cX9_can 130 = .ok (.aload_n 0, 1) := by decide +kernel
theorem dX9_can_131 : decode cX9_can 131 = .ok (.getfield 35, 3) := by decide +kernel
theorem dX9_can_134 : decode cX9_can 134 = .ok (.iconst 0, 1) := by decide +kernel
theorem dX9_can_135 : decode cX9_can 135 = .ok (.iaload, 1) := by decide +kernel
theorem dX9_can_136 : decode cX9_can 136 = .ok (.invokevirtual 178, 3) := by decide +kernel
theorem dX9_can_139 : decode cX9_can 139 = .ok (.ireturn, 1) := by decide +kernel
theorem dX9_can_140 : decode cX9_can 140 = .ok (.iconst 0, 1) := by decide +kernel
theorem dX9_can_141 : decode cX9_can 141 = .ok (.ireturn, 1) := by decide +kernel
theorem dX9_can_142 : decode cX9_can 142 = .ok (.iload_n 1, 1) := by decide +kernel
theorem dX9_can_143 : decode cX9_can 143 = .ok (.invokestatic 317, 3) := by decide +kernel
theorem dX9_can_146 : decode cX9_can 146 = .ok (.aload_n 0, 1) := by decide +kernel
theorem dX9_can_147 : decode cX9_can 147 = .ok (.getfield 35, 3) := by decide +kernel
theorem dX9_can_150 : decode cX9_can 150 = .ok (.iconst 0, 1) := by decide +kernel
theorem dX9_can_151 : decode cX9_can 151 = .ok (.iaload, 1) := by decide +kernel
theorem dX9_can_152 : decode cX9_can 152 = .ok (.invokestatic 125, 3) := by decide +kernel
theorem dX9_can_155 : decode cX9_can 155 = .ok (.ifCond .eq 7, 3) := by decide +kernel
theorem dX9_can_158 : decode cX9_can 158 = .ok (.iconst 0, 1) := by decide +kernel
theorem dX9_can_159 : decode cX9_can 159 = .ok (.goto 5, 3) := by decide +kernel
theorem dX9_can_162 : decode cX9_can 162 = .ok (.bipush (-2), 2) := by decide +kernel
theorem dX9_can_164 : decode cX9_can 164 = .ok (.ireturn, 1) := by decide +kernel
theorem dX9_does_0 : decode cX9_does 0 = .ok (.iload_n 1, 1) := by decide +kernel
theorem dX9_does_1 : decode cX9_does 1 = .ok (.lookupswitch 136 #[(97, 131), (105, 51), (111, 120), (112, 97), (119, 80)], 51) := by decide +kernel
theorem dX9_does_52 : decode cX9_does 52 = .ok (.aload_n 0, 1) := by decide +kernel
theorem dX9_does_53 : decode cX9_does 53 = .ok (.aload_n 0, 1) := by decide +kernel
theorem dX9_does_54 : decode cX9_does 54 = .ok (.getfield 35, 3) := by decide +kernel
theorem dX9_does_57 : decode cX9_does 57 = .ok (.iconst 0, 1) := by decide +kernel
theorem dX9_does_58 : decode cX9_does 58 = .ok (.iaload, 1) := by decide +kernel
theorem dX9_does_59 : decode cX9_does 59 = .ok (.aload_n 0, 1) := by decide +kernel
theorem dX9_does_60 : decode cX9_does 60 = .ok (.getfield 35, 3) := by decide +kernel
theorem dX9_does_63 : decode cX9_does 63 = .ok (.iconst 1, 1) := by decide +kernel
theorem dX9_does_64 : decode cX9_does 64 = .ok (.iaload, 1) := by decide +kernel
theorem dX9_does_65 : decode cX9_does 65 = .ok (.aload_n 0, 1) := by decide +kernel
theorem dX9_does_66 : decode cX9_does 66 = .ok (.getfield 35, 3) := by decide +kernel
theorem dX9_does_69 : decode cX9_does 69 = .ok (.iconst 2, 1) := by decide +kernel
theorem dX9_does_70 : decode cX9_does 70 = .ok (.iaload, 1) := by decide +kernel
theorem dX9_does_71 : decode cX9_does 71 = .ok (.aload_n 0, 1) := by decide +kernel
theorem dX9_does_72 : decode cX9_does 72 = .ok (.getfield 35, 3) := by decide +kernel
theorem dX9_does_75 : decode cX9_does 75 = .ok (.iconst 3, 1) := by decide +kernel
theorem dX9_does_76 : decode cX9_does 76 = .ok (.iaload, 1) := by decide +kernel
theorem dX9_does_77 : decode cX9_does 77 = .ok (.invokevirtual 146, 3) := by decide +kernel
theorem dX9_does_80 : decode cX9_does 80 = .ok (.ireturn, 1) := by decide +kernel
theorem dX9_does_81 : decode cX9_does 81 = .ok (.aload_n 0, 1) := by decide +kernel
theorem dX9_does_82 : decode cX9_does 82 = .ok (.aload_n 0, 1) := by decide +kernel
theorem dX9_does_83 : decode cX9_does 83 = .ok (.getfield 35, 3) := by decide +kernel
theorem dX9_does_86 : decode cX9_does 86 = .ok (.iconst 0, 1) := by decide +kernel
theorem dX9_does_87 : decode cX9_does 87 = .ok (.iaload, 1) := by decide +kernel
theorem dX9_does_88 : decode cX9_does 88 = .ok (.aload_n 0, 1) := by decide +kernel
theorem dX9_does_89 : decode cX9_does 89 = .ok (.getfield 35, 3) := by decide +kernel
theorem dX9_does_92 : decode cX9_does 92 = .ok (.iconst 1, 1) := by decide +kernel
theorem dX9_does_93 : decode cX9_does 93 = .ok (.iaload, 1) := by decide +kernel
theorem dX9_does_94 : decode cX9_does 94 = .ok (.invokevirtual 114, 3) := by decide +kernel
theorem dX9_does_97 : decode cX9_does 97 = .ok (.ireturn, 1) := by decide +kernel
theorem dX9_does_98 : decode cX9_does 98 = .ok (.aload_n 0, 1) := by decide +kernel
theorem dX9_does_99 : decode cX9_does 99 = .ok (.aload_n 0, 1) := by decide +kernel
theorem dX9_does_100 : decode cX9_does 100 = .ok (.getfield 35, 3) := by decide +kernel
theorem dX9_does_103 : decode cX9_does 103 = .ok (.iconst 0, 1) := by decide +kernel
theorem dX9_does_104 : decode cX9_does 104 = .ok (.iaload, 1) := by decide +kernel
theorem dX9_does_105 : decode cX9_does 105 = .ok (.aload_n 0, 1) := by decide +kernel
theorem dX9_does_106 : decode cX9_does 106 = .ok (.getfield 35, 3) := by decide +kernel
theorem dX9_does_109 : decode cX9_does 109 = .ok (.iconst 1, 1) := by decide +kernel
theorem dX9_does_110 : decode cX9_does 110 = .ok (.iaload, 1) := by decide +kernel
theorem dX9_does_111 : decode cX9_does 111 = .ok (.aload_n 0, 1) := by decide +kernel
theorem dX9_does_112 : decode cX9_does 112 = .ok (.getfield 35, 3) := by decide +kernel
theorem dX9_does_115 : decode cX9_does 115 = .ok (.iconst 2, 1) := by decide +kernel
theorem dX9_does_116 : decode cX9_does 116 = .ok (.iaload, 1) := by decide +kernel
theorem dX9_does_117 : decode cX9_does 117 = .ok (.invokevirtual 172, 3) := by decide +kernel
theorem dX9_does_120 : decode cX9_does 120 = .ok (.ireturn, 1) := by decide +kernel
theorem dX9_does_121 : decode cX9_does 121 = .ok (.aload_n 0, 1) := by decide +kernel
theorem dX9_does_122 : decode cX9_does 122 = .ok (.aload_n 0, 1) := by decide +kernel
theorem dX9_does_123 : decode cX9_does 123 = .ok (.getfield 35, 3) := by decide +kernel
theorem dX9_does_126 : decode cX9_does 126 = .ok (.iconst 0, 1) := by decide +kernel
theorem dX9_does_127 : decode cX9_does 127 = .ok (.iaload, 1) := by decide +kernel
theorem dX9_does_128 : decode cX9_does 128 = .ok (.invokevirtual 181, 3) := by decide +kernel
theorem dX9_does_131 : decode cX9_does 131 = .ok (.ireturn, 1) := by decide +kernel
theorem dX9_does_132 : decode cX9_does 132 = .ok (.aload_n 0, 1) := by decide +kernel
theorem dX9_does_133 : decode cX9_does 133 = .ok (.invokevirtual 203, 3) := by decide +kernel
theorem dX9_does_136 : decode cX9_does 136 = .ok (.ireturn, 1) := by decide +kernel
theorem dX9_does_137 : decode cX9_does 137 = .ok (.aload_n 0, 1) := by decide +kernel
theorem dX9_does_138 : decode cX9_does 138 = .ok (.iload_n 1, 1) := by decide +kernel
theorem dX9_does_139 : decode cX9_does 139 = .ok (.invokestatic 317, 3) := by decide +kernel
theorem dX9_does_142 : decode cX9_does 142 = .ok (.aload_n 0, 1) := by decide +kernel
theorem dX9_does_143 : decode cX9_does 143 = .ok (.getfield 35, 3) := by decide +kernel
theorem dX9_does_146 : decode cX9_does 146 = .ok (.iconst 0, 1) := by decide +kernel
theorem dX9_does_147 : decode cX9_does 147 = .ok (.iaload, 1) := by decide +kernel
theorem dX9_does_148 : decode cX9_does 148 = .ok (.invokevirtual 128, 3) := by decide +kernel
theorem dX9_does_151 : decode cX9_does 151 = .ok (.ireturn, 1) := by decide +kernel
theorem dX9_readsOrder_0 : decode cX9_readsOrder 0 = .ok (.aload_n 0, 1) := by decide +kernel
theorem dX9_readsOrder_1 : decode cX9_readsOrder 1 = .ok (.invokevirtual 311, 3) := by decide +kernel
theorem dX9_readsOrder_4 : decode cX9_readsOrder 4 = .ok (.istore_n 2, 1) := by decide +kernel
theorem dX9_readsOrder_5 : decode cX9_readsOrder 5 = .ok (.iload_n 2, 1) := by decide +kernel
theorem dX9_readsOrder_6 : decode cX9_readsOrder 6 = .ok (.invokestatic 320, 3) := by decide +kernel
theorem dX9_readsOrder_9 : decode cX9_readsOrder 9 = .ok (.ifCond .ne 5, 3) := by decide +kernel
theorem dX9_readsOrder_12 : decode cX9_readsOrder 12 = .ok (.iconst 0, 1) := by decide +kernel
theorem dX9_readsOrder_13 : decode cX9_readsOrder 13 = .ok (.ireturn, 1) := by decide +kernel
theorem dX9_readsOrder_14 : decode cX9_readsOrder 14 = .ok (.aload_n 0, 1) := by decide +kernel
theorem dX9_readsOrder_15 : decode cX9_readsOrder 15 = .ok (.dup, 1) := by decide +kernel
theorem dX9_readsOrder_16 : decode cX9_readsOrder 16 = .ok (.getfield 304, 3) := by decide +kernel
theorem dX9_readsOrder_19 : decode cX9_readsOrder 19 = .ok (.iconst 1, 1) := by decide +kernel
theorem dX9_readsOrder_20 : decode cX9_readsOrder 20 = .ok (.iadd, 1) := by decide +kernel
theorem dX9_readsOrder_21 : decode cX9_readsOrder 21 = .ok (.putfield 304, 3) := by decide +kernel
theorem dX9_readsOrder_24 : decode cX9_readsOrder 24 = .ok (.aload_n 0, 1) := by decide +kernel
theorem dX9_readsOrder_25 : decode cX9_readsOrder 25 = .ok (.iload_n 2, 1) := by decide +kernel
theorem dX9_readsOrder_26 : decode cX9_readsOrder 26 = .ok (.invokestatic 323, 3) := by decide +kernel
theorem dX9_readsOrder_29 : decode cX9_readsOrder 29 = .ok (.invokevirtual 326, 3) := by decide +kernel
theorem dX9_readsOrder_32 : decode cX9_readsOrder 32 = .ok (.ifCond .eq 12, 3) := by decide +kernel
theorem dX9_readsOrder_35 : decode cX9_readsOrder 35 = .ok (.aload_n 0, 1) := by decide +kernel
theorem dX9_readsOrder_36 : decode cX9_readsOrder 36 = .ok (.invokevirtual 311, 3) := by decide +kernel
theorem dX9_readsOrder_39 : decode cX9_readsOrder 39 = .ok (.bipush 59, 2) := by decide +kernel
theorem dX9_readsOrder_41 : decode cX9_readsOrder 41 = .ok (.if_icmp .eq 5, 3) := by decide +kernel
theorem dX9_readsOrder_44 : decode cX9_readsOrder 44 = .ok (.iconst 0, 1) := by decide +kernel
theorem dX9_readsOrder_45 : decode cX9_readsOrder 45 = .ok (.ireturn, 1) := by decide +kernel
theorem dX9_readsOrder_46 : decode cX9_readsOrder 46 = .ok (.aload_n 0, 1) := by decide +kernel
theorem dX9_readsOrder_47 : decode cX9_readsOrder 47 = .ok (.dup, 1) := by decide +kernel
theorem dX9_readsOrder_48 : decode cX9_readsOrder 48 = .ok (.getfield 304, 3) := by decide +kernel
theorem dX9_readsOrder_51 : decode cX9_readsOrder 51 = .ok (.iconst 1, 1) := by decide +kernel
theorem dX9_readsOrder_52 : decode cX9_readsOrder 52 = .ok (.iadd, 1) := by decide +kernel
theorem dX9_readsOrder_53 : decode cX9_readsOrder 53 = .ok (.putfield 304, 3) := by decide +kernel
theorem dX9_readsOrder_56 : decode cX9_readsOrder 56 = .ok (.iload_n 1, 1) := by decide +kernel
theorem dX9_readsOrder_57 : decode cX9_readsOrder 57 = .ok (.ifCond .eq 29, 3) := by decide +kernel
theorem dX9_readsOrder_60 : decode cX9_readsOrder 60 = .ok (.aload_n 0, 1) := by decide +kernel
theorem dX9_readsOrder_61 : decode cX9_readsOrder 61 = .ok (.aload_n 0, 1) := by decide +kernel
theorem dX9_readsOrder_62 : decode cX9_readsOrder 62 = .ok (.iload_n 2, 1) := by decide +kernel
theorem dX9_readsOrder_63 : decode cX9_readsOrder 63 = .ok (.invokevirtual 329, 3) := by decide +kernel
theorem dX9_readsOrder_66 : decode cX9_readsOrder 66 = .ok (.putfield 332, 3) := by decide +kernel
theorem dX9_readsOrder_69 : decode cX9_readsOrder 69 = .ok (.aload_n 0, 1) := by decide +kernel
theorem dX9_readsOrder_70 : decode cX9_readsOrder 70 = .ok (.getfield 332, 3) := by decide +kernel
theorem dX9_readsOrder_73 : decode cX9_readsOrder 73 = .ok (.ifCond .ne 11, 3) := by decide +kernel
theorem dX9_readsOrder_76 : decode cX9_readsOrder 76 = .ok (.aload_n 0, 1) := by decide +kernel
theorem dX9_readsOrder_77 : decode cX9_readsOrder 77 = .ok (.iload_n 2, 1) := by decide +kernel
theorem dX9_readsOrder_78 : decode cX9_readsOrder 78 = .ok (.invokevirtual 335, 3) := by decide +kernel
theorem dX9_readsOrder_81 : decode cX9_readsOrder 81 = .ok (.goto 4, 3) := by decide +kernel
theorem dX9_readsOrder_84 : decode cX9_readsOrder 84 = .ok (.iconst 0, 1) := by decide +kernel
theorem dX9_readsOrder_85 : decode cX9_readsOrder 85 = .ok (.istore_n 3, 1) := by decide +kernel
theorem dX9_readsOrder_86 : decode cX9_readsOrder 86 = .ok (.iconst 1, 1) := by decide +kernel
theorem dX9_readsOrder_87 : decode cX9_readsOrder 87 = .ok (.ireturn, 1) := by decide +kernel
theorem dX9_reads_0 : decode cX9_reads 0 = .ok (.aload_n 0, 1) := by decide +kernel
theorem dX9_reads_1 : decode cX9_reads 1 = .ok (.iconst 0, 1) := by decide +kernel
theorem dX9_reads_2 : decode cX9_reads 2 = .ok (.putfield 304, 3) := by decide +kernel
theorem dX9_reads_5 : decode cX9_reads 5 = .ok (.aload_n 0, 1) := by decide +kernel
theorem dX9_reads_6 : decode cX9_reads 6 = .ok (.iconst 0, 1) := by decide +kernel
theorem dX9_reads_7 : decode cX9_reads 7 = .ok (.invokevirtual 338, 3) := by decide +kernel
theorem dX9_reads_10 : decode cX9_reads 10 = .ok (.istore_n 1, 1) := by decide +kernel
theorem dX9_reads_11 : decode cX9_reads 11 = .ok (.iload_n 1, 1) := by decide +kernel
theorem dX9_reads_12 : decode cX9_reads 12 = .ok (.ifCond .eq 20, 3) := by decide +kernel
theorem dX9_reads_15 : decode cX9_reads 15 = .ok (.aload_n 0, 1) := by decide +kernel
theorem dX9_reads_16 : decode cX9_reads 16 = .ok (.invokevirtual 311, 3) := by decide +kernel
theorem dX9_reads_19 : decode cX9_reads 19 = .ok (.iconst (-1), 1) := by decide +kernel
theorem dX9_reads_20 : decode cX9_reads 20 = .ok (.if_icmp .eq 12, 3) := by decide +kernel
theorem dX9_reads_23 : decode cX9_reads 23 = .ok (.aload_n 0, 1) := by decide +kernel
theorem dX9_reads_24 : decode cX9_reads 24 = .ok (.iconst 0, 1) := by decide +kernel
theorem dX9_reads_25 : decode cX9_reads 25 = .ok (.invokevirtual 338, 3) := by decide +kernel
theorem dX9_reads_28 : decode cX9_reads 28 = .ok (.istore_n 1, 1) := by decide +kernel
theorem dX9_reads_29 : decode cX9_reads 29 = .ok (.goto (-18), 3) := by decide +kernel
theorem dX9_reads_32 : decode cX9_reads 32 = .ok (.iload_n 1, 1) := by decide +kernel
theorem dX9_reads_33 : decode cX9_reads 33 = .ok (.ifCond .ne 11, 3) := by decide +kernel
theorem dX9_reads_36 : decode cX9_reads 36 = .ok (.bipush (-10), 2) := by decide +kernel
theorem dX9_reads_38 : decode cX9_reads 38 = .ok (.aload_n 0, 1) := by decide +kernel
theorem dX9_reads_39 : decode cX9_reads 39 = .ok (.getfield 304, 3) := by decide +kernel
theorem dX9_reads_42 : decode cX9_reads 42 = .ok (.isub, 1) := by decide +kernel
theorem dX9_reads_43 : decode cX9_reads 43 = .ok (.ireturn, 1) := by decide +kernel
theorem dX9_reads_44 : decode cX9_reads 44 = .ok (.iconst 0, 1) := by decide +kernel
theorem dX9_reads_45 : decode cX9_reads 45 = .ok (.istore_n 2, 1) := by decide +kernel
theorem dX9_reads_46 : decode cX9_reads 46 = .ok (.iload_n 2, 1) := by decide +kernel
theorem dX9_reads_47 : decode cX9_reads 47 = .ok (.sipush 155, 3) := by decide +kernel
theorem dX9_reads_50 : decode cX9_reads 50 = .ok (.if_icmp .ge 21, 3) := by decide +kernel
theorem dX9_reads_53 : decode cX9_reads 53 = .ok (.aload_n 0, 1) := by decide +kernel
theorem dX9_reads_54 : decode cX9_reads 54 = .ok (.getfield 16, 3) := by decide +kernel
theorem dX9_reads_57 : decode cX9_reads 57 = .ok (.iload_n 2, 1) := by decide +kernel
theorem dX9_reads_58 : decode cX9_reads 58 = .ok (.aload_n 0, 1) := by decide +kernel
theorem dX9_reads_59 : decode cX9_reads 59 = .ok (.getfield 7, 3) := by decide +kernel
theorem dX9_reads_62 : decode cX9_reads 62 = .ok (.iload_n 2, 1) := by decide +kernel
theorem dX9_reads_63 : decode cX9_reads 63 = .ok (.iaload, 1) := by decide +kernel
theorem dX9_reads_64 : decode cX9_reads 64 = .ok (.iastore, 1) := by decide +kernel
theorem dX9_reads_65 : decode cX9_reads 65 = .ok (.iinc 2 1, 3) := by decide +kernel
theorem dX9_reads_68 : decode cX9_reads 68 = .ok (.goto (-22), 3) := by decide +kernel
theorem dX9_reads_71 : decode cX9_reads 71 = .ok (.iconst 0, 1) := by decide +kernel
theorem dX9_reads_72 : decode cX9_reads 72 = .ok (.istore_n 2, 1) := by decide +kernel
theorem dX9_reads_73 : decode cX9_reads 73 = .ok (.aload_n 0, 1) := by decide +kernel
theorem dX9_reads_74 : decode cX9_reads 74 = .ok (.iconst 0, 1) := by decide +kernel
theorem dX9_reads_75 : decode cX9_reads 75 = .ok (.putfield 304, 3) := by decide +kernel
theorem dX9_reads_78 : decode cX9_reads 78 = .ok (.aload_n 0, 1) := by decide +kernel
theorem dX9_reads_79 : decode cX9_reads 79 = .ok (.iconst 0, 1) := by decide +kernel
theorem dX9_reads_80 : decode cX9_reads 80 = .ok (.putfield 332, 3) := by decide +kernel
theorem dX9_reads_83 : decode cX9_reads 83 = .ok (.aload_n 0, 1) := by decide +kernel
theorem dX9_reads_84 : decode cX9_reads 84 = .ok (.invokevirtual 311, 3) := by decide +kernel
theorem dX9_reads_87 : decode cX9_reads 87 = .ok (.iconst (-1), 1) := by decide +kernel
theorem dX9_reads_88 : decode cX9_reads 88 = .ok (.if_icmp .eq 55, 3) := by decide +kernel
theorem dX9_reads_91 : decode cX9_reads 91 = .ok (.aload_n 0, 1) := by decide +kernel
theorem dX9_reads_92 : decode cX9_reads 92 = .ok (.iconst 1, 1) := by decide +kernel
theorem dX9_reads_93 : decode cX9_reads 93 = .ok (.invokevirtual 338, 3) := by decide +kernel
theorem dX9_reads_96 : decode cX9_reads 96 = .ok (.istore_n 1, 1) := by decide +kernel
theorem dX9_reads_97 : decode cX9_reads 97 = .ok (.aload_n 0, 1) := by decide +kernel
theorem dX9_reads_98 : decode cX9_reads 98 = .ok (.getfield 332, 3) := by decide +kernel
theorem dX9_reads_101 : decode cX9_reads 101 = .ok (.ifCond .ge 36, 3) := by decide +kernel
theorem dX9_reads_104 : decode cX9_reads 104 = .ok (.iconst 0, 1) := by decide +kernel
theorem dX9_reads_105 : decode cX9_reads 105 = .ok (.istore_n 3, 1) := by decide +kernel
theorem dX9_reads_106 : decode cX9_reads 106 = .ok (.iload_n 3, 1) := by decide +kernel
theorem dX9_reads_107 : decode cX9_reads 107 = .ok (.sipush 155, 3) := by decide +kernel
theorem dX9_reads_110 : decode cX9_reads 110 = .ok (.if_icmp .ge 21, 3) := by decide +kernel
theorem dX9_reads_113 : decode cX9_reads 113 = .ok (.aload_n 0, 1) := by decide +kernel
theorem dX9_reads_114 : decode cX9_reads 114 = .ok (.getfield 7, 3) := by decide +kernel
theorem dX9_reads_117 : decode cX9_reads 117 = .ok (.iload_n 3, 1) := by decide +kernel
theorem dX9_reads_118 : decode cX9_reads 118 = .ok (.aload_n 0, 1) := by decide +kernel
theorem dX9_reads_119 : decode cX9_reads 119 = .ok (.getfield 16, 3) := by decide +kernel
theorem dX9_reads_122 : decode cX9_reads 122 = .ok (.iload_n 3, 1) := by decide +kernel
theorem dX9_reads_123 : decode cX9_reads 123 = .ok (.iaload, 1) := by decide +kernel
theorem dX9_reads_124 : decode cX9_reads 124 = .ok (.iastore, 1) := by decide +kernel
theorem dX9_reads_125 : decode cX9_reads 125 = .ok (.iinc 3 1, 3) := by decide +kernel
theorem dX9_reads_128 : decode cX9_reads 128 = .ok (.goto (-22), 3) := by decide +kernel
theorem dX9_reads_131 : decode cX9_reads 131 = .ok (.sipush (-1000), 3) := by decide +kernel
theorem dX9_reads_134 : decode cX9_reads 134 = .ok (.iload_n 2, 1) := by decide +kernel
theorem dX9_reads_135 : decode cX9_reads 135 = .ok (.isub, 1) := by decide +kernel
theorem dX9_reads_136 : decode cX9_reads 136 = .ok (.ireturn, 1) := by decide +kernel
theorem dX9_reads_137 : decode cX9_reads 137 = .ok (.iinc 2 1, 3) := by decide +kernel
theorem dX9_reads_140 : decode cX9_reads 140 = .ok (.goto (-57), 3) := by decide +kernel
theorem dX9_reads_143 : decode cX9_reads 143 = .ok (.aload_n 0, 1) := by decide +kernel
theorem dX9_reads_144 : decode cX9_reads 144 = .ok (.invokevirtual 342, 3) := by decide +kernel
theorem dX9_reads_147 : decode cX9_reads 147 = .ok (.iload_n 2, 1) := by decide +kernel
theorem dX9_reads_148 : decode cX9_reads 148 = .ok (.ireturn, 1) := by decide +kernel
theorem dX9_keepsAside_0 : decode cX9_keepsAside 0 = .ok (.iconst 0, 1) := by decide +kernel
theorem dX9_keepsAside_1 : decode cX9_keepsAside 1 = .ok (.istore_n 1, 1) := by decide +kernel
theorem dX9_keepsAside_2 : decode cX9_keepsAside 2 = .ok (.iload_n 1, 1) := by decide +kernel
theorem dX9_keepsAside_3 : decode cX9_keepsAside 3 = .ok (.sipush 155, 3) := by decide +kernel
theorem dX9_keepsAside_6 : decode cX9_keepsAside 6 = .ok (.if_icmp .ge 35, 3) := by decide +kernel
theorem dX9_keepsAside_9 : decode cX9_keepsAside 9 = .ok (.aload_n 0, 1) := by decide +kernel
theorem dX9_keepsAside_10 : decode cX9_keepsAside 10 = .ok (.getfield 7, 3) := by decide +kernel
theorem dX9_keepsAside_13 : decode cX9_keepsAside 13 = .ok (.iload_n 1, 1) := by decide +kernel
theorem dX9_keepsAside_14 : decode cX9_keepsAside 14 = .ok (.iaload, 1) := by decide +kernel
theorem dX9_keepsAside_15 : decode cX9_keepsAside 15 = .ok (.istore_n 2, 1) := by decide +kernel
theorem dX9_keepsAside_16 : decode cX9_keepsAside 16 = .ok (.aload_n 0, 1) := by decide +kernel
theorem dX9_keepsAside_17 : decode cX9_keepsAside 17 = .ok (.getfield 7, 3) := by decide +kernel
theorem dX9_keepsAside_20 : decode cX9_keepsAside 20 = .ok (.iload_n 1, 1) := by decide +kernel
theorem dX9_keepsAside_21 : decode cX9_keepsAside 21 = .ok (.aload_n 0, 1) := by decide +kernel
theorem dX9_keepsAside_22 : decode cX9_keepsAside 22 = .ok (.getfield 16, 3) := by decide +kernel
theorem dX9_keepsAside_25 : decode cX9_keepsAside 25 = .ok (.iload_n 1, 1) := by decide +kernel
theorem dX9_keepsAside_26 : decode cX9_keepsAside 26 = .ok (.iaload, 1) := by decide +kernel
theorem dX9_keepsAside_27 : decode cX9_keepsAside 27 = .ok (.iastore, 1) := by decide +kernel
theorem dX9_keepsAside_28 : decode cX9_keepsAside 28 = .ok (.aload_n 0, 1) := by decide +kernel
theorem dX9_keepsAside_29 : decode cX9_keepsAside 29 = .ok (.getfield 16, 3) := by decide +kernel
theorem dX9_keepsAside_32 : decode cX9_keepsAside 32 = .ok (.iload_n 1, 1) := by decide +kernel
theorem dX9_keepsAside_33 : decode cX9_keepsAside 33 = .ok (.iload_n 2, 1) := by decide +kernel
theorem dX9_keepsAside_34 : decode cX9_keepsAside 34 = .ok (.iastore, 1) := by decide +kernel
theorem dX9_keepsAside_35 : decode cX9_keepsAside 35 = .ok (.iinc 1 1, 3) := by decide +kernel
theorem dX9_keepsAside_38 : decode cX9_keepsAside 38 = .ok (.goto (-36), 3) := by decide +kernel
theorem dX9_keepsAside_41 : decode cX9_keepsAside 41 = .ok (.aload_n 0, 1) := by decide +kernel
theorem dX9_keepsAside_42 : decode cX9_keepsAside 42 = .ok (.invokevirtual 111, 3) := by decide +kernel
theorem dX9_keepsAside_45 : decode cX9_keepsAside 45 = .ok (.iconst 0, 1) := by decide +kernel
theorem dX9_keepsAside_46 : decode cX9_keepsAside 46 = .ok (.istore_n 1, 1) := by decide +kernel
theorem dX9_keepsAside_47 : decode cX9_keepsAside 47 = .ok (.iload_n 1, 1) := by decide +kernel
theorem dX9_keepsAside_48 : decode cX9_keepsAside 48 = .ok (.sipush 155, 3) := by decide +kernel
theorem dX9_keepsAside_51 : decode cX9_keepsAside 51 = .ok (.if_icmp .ge 21, 3) := by decide +kernel
theorem dX9_keepsAside_54 : decode cX9_keepsAside 54 = .ok (.aload_n 0, 1) := by decide +kernel
theorem dX9_keepsAside_55 : decode cX9_keepsAside 55 = .ok (.getfield 7, 3) := by decide +kernel
theorem dX9_keepsAside_58 : decode cX9_keepsAside 58 = .ok (.iload_n 1, 1) := by decide +kernel
theorem dX9_keepsAside_59 : decode cX9_keepsAside 59 = .ok (.aload_n 0, 1) := by decide +kernel
theorem dX9_keepsAside_60 : decode cX9_keepsAside 60 = .ok (.getfield 16, 3) := by decide +kernel
theorem dX9_keepsAside_63 : decode cX9_keepsAside 63 = .ok (.iload_n 1, 1) := by decide +kernel
theorem dX9_keepsAside_64 : decode cX9_keepsAside 64 = .ok (.iaload, 1) := by decide +kernel
theorem dX9_keepsAside_65 : decode cX9_keepsAside 65 = .ok (.iastore, 1) := by decide +kernel
theorem dX9_keepsAside_66 : decode cX9_keepsAside 66 = .ok (.iinc 1 1, 3) := by decide +kernel
theorem dX9_keepsAside_69 : decode cX9_keepsAside 69 = .ok (.goto (-22), 3) := by decide +kernel
theorem dX9_keepsAside_72 : decode cX9_keepsAside 72 = .ok (.return_, 1) := by decide +kernel
theorem dX9_back_0 : decode cX9_back 0 = .ok (.aload_n 0, 1) := by decide +kernel
theorem dX9_back_1 : decode cX9_back 1 = .ok (.getfield 38, 3) := by decide +kernel
theorem dX9_back_4 : decode cX9_back 4 = .ok (.ifCond .ne 10, 3) := by decide +kernel
theorem dX9_back_7 : decode cX9_back 7 = .ok (.aload_n 0, 1) := by decide +kernel
theorem dX9_back_8 : decode cX9_back 8 = .ok (.bipush (-3), 2) := by decide +kernel
theorem dX9_back_10 : decode cX9_back 10 = .ok (.invokevirtual 101, 3) := by decide +kernel
theorem dX9_back_13 : decode cX9_back 13 = .ok (.ireturn, 1) := by decide +kernel
theorem dX9_back_14 : decode cX9_back 14 = .ok (.aload_n 0, 1) := by decide +kernel
theorem dX9_back_15 : decode cX9_back 15 = .ok (.dup, 1) := by decide +kernel
theorem dX9_back_16 : decode cX9_back 16 = .ok (.getfield 38, 3) := by decide +kernel
theorem dX9_back_19 : decode cX9_back 19 = .ok (.iconst 1, 1) := by decide +kernel
theorem dX9_back_20 : decode cX9_back 20 = .ok (.isub, 1) := by decide +kernel
theorem dX9_back_21 : decode cX9_back 21 = .ok (.putfield 38, 3) := by decide +kernel
theorem dX9_back_24 : decode cX9_back 24 = .ok (.iconst 0, 1) := by decide +kernel
theorem dX9_back_25 : decode cX9_back 25 = .ok (.istore_n 1, 1) := by decide +kernel
theorem dX9_back_26 : decode cX9_back 26 = .ok (.iload_n 1, 1) := by decide +kernel
theorem dX9_back_27 : decode cX9_back 27 = .ok (.sipush 155, 3) := by decide +kernel
theorem dX9_back_30 : decode cX9_back 30 = .ok (.if_icmp .ge 30, 3) := by decide +kernel
theorem dX9_back_33 : decode cX9_back 33 = .ok (.aload_n 0, 1) := by decide +kernel
theorem dX9_back_34 : decode cX9_back 34 = .ok (.getfield 7, 3) := by decide +kernel
theorem dX9_back_37 : decode cX9_back 37 = .ok (.iload_n 1, 1) := by decide +kernel
theorem dX9_back_38 : decode cX9_back 38 = .ok (.aload_n 0, 1) := by decide +kernel
theorem dX9_back_39 : decode cX9_back 39 = .ok (.getfield 13, 3) := by decide +kernel
theorem dX9_back_42 : decode cX9_back 42 = .ok (.sipush 155, 3) := by decide +kernel
theorem dX9_back_45 : decode cX9_back 45 = .ok (.aload_n 0, 1) := by decide +kernel
theorem dX9_back_46 : decode cX9_back 46 = .ok (.getfield 38, 3) := by decide +kernel
theorem dX9_back_49 : decode cX9_back 49 = .ok (.imul, 1) := by decide +kernel
theorem dX9_back_50 : decode cX9_back 50 = .ok (.iload_n 1, 1) := by decide +kernel
theorem dX9_back_51 : decode cX9_back 51 = .ok (.iadd, 1) := by decide +kernel
theorem dX9_back_52 : decode cX9_back 52 = .ok (.iaload, 1) := by decide +kernel
theorem dX9_back_53 : decode cX9_back 53 = .ok (.iastore, 1) := by decide +kernel
theorem dX9_back_54 : decode cX9_back 54 = .ok (.iinc 1 1, 3) := by decide +kernel
theorem dX9_back_57 : decode cX9_back 57 = .ok (.goto (-31), 3) := by decide +kernel
theorem dX9_back_60 : decode cX9_back 60 = .ok (.aload_n 0, 1) := by decide +kernel
theorem dX9_back_61 : decode cX9_back 61 = .ok (.getfield 38, 3) := by decide +kernel
theorem dX9_back_64 : decode cX9_back 64 = .ok (.ireturn, 1) := by decide +kernel
theorem dX9_keptSet_0 : decode cX9_keptSet 0 = .ok (.aload_n 0, 1) := by decide +kernel
theorem dX9_keptSet_1 : decode cX9_keptSet 1 = .ok (.iconst 0, 1) := by decide +kernel
theorem dX9_keptSet_2 : decode cX9_keptSet 2 = .ok (.invokevirtual 290, 3) := by decide +kernel
theorem dX9_keptSet_5 : decode cX9_keptSet 5 = .ok (.ifCond .eq 7, 3) := by decide +kernel
theorem dX9_keptSet_8 : decode cX9_keptSet 8 = .ok (.iconst 1, 1) := by decide +kernel
theorem dX9_keptSet_9 : decode cX9_keptSet 9 = .ok (.goto 4, 3) := by decide +kernel
theorem dX9_keptSet_12 : decode cX9_keptSet 12 = .ok (.iconst 0, 1) := by decide +kernel
theorem dX9_keptSet_13 : decode cX9_keptSet 13 = .ok (.aload_n 0, 1) := by decide +kernel
theorem dX9_keptSet_14 : decode cX9_keptSet 14 = .ok (.iconst 1, 1) := by decide +kernel
theorem dX9_keptSet_15 : decode cX9_keptSet 15 = .ok (.invokevirtual 290, 3) := by decide +kernel
theorem dX9_keptSet_18 : decode cX9_keptSet 18 = .ok (.ifCond .eq 7, 3) := by decide +kernel
theorem dX9_keptSet_21 : decode cX9_keptSet 21 = .ok (.iconst 2, 1) := by decide +kernel
theorem dX9_keptSet_22 : decode cX9_keptSet 22 = .ok (.goto 4, 3) := by decide +kernel
theorem dX9_keptSet_25 : decode cX9_keptSet 25 = .ok (.iconst 0, 1) := by decide +kernel
theorem dX9_keptSet_26 : decode cX9_keptSet 26 = .ok (.ior, 1) := by decide +kernel
theorem dX9_keptSet_27 : decode cX9_keptSet 27 = .ok (.aload_n 0, 1) := by decide +kernel
theorem dX9_keptSet_28 : decode cX9_keptSet 28 = .ok (.iconst 2, 1) := by decide +kernel
theorem dX9_keptSet_29 : decode cX9_keptSet 29 = .ok (.invokevirtual 290, 3) := by decide +kernel
theorem dX9_keptSet_32 : decode cX9_keptSet 32 = .ok (.ifCond .eq 7, 3) := by decide +kernel
theorem dX9_keptSet_35 : decode cX9_keptSet 35 = .ok (.iconst 4, 1) := by decide +kernel
theorem dX9_keptSet_36 : decode cX9_keptSet 36 = .ok (.goto 4, 3) := by decide +kernel
theorem dX9_keptSet_39 : decode cX9_keptSet 39 = .ok (.iconst 0, 1) := by decide +kernel
theorem dX9_keptSet_40 : decode cX9_keptSet 40 = .ok (.ior, 1) := by decide +kernel
theorem dX9_keptSet_41 : decode cX9_keptSet 41 = .ok (.ireturn, 1) := by decide +kernel
theorem dX9_toldOf_0 : decode cX9_toldOf 0 = .ok (.iload_n 1, 1) := by decide +kernel
theorem dX9_toldOf_1 : decode cX9_toldOf 1 = .ok (.lookupswitch 63 #[(3, 43), (4, 48), (12, 53), (13, 58)], 43) := by decide +kernel
theorem dX9_toldOf_44 : decode cX9_toldOf 44 = .ok (.aload_n 0, 1) := by decide +kernel
theorem dX9_toldOf_45 : decode cX9_toldOf 45 = .ok (.getfield 301, 3) := by decide +kernel
theorem dX9_toldOf_48 : decode cX9_toldOf 48 = .ok (.ireturn, 1) := by decide +kernel
theorem dX9_toldOf_49 : decode cX9_toldOf 49 = .ok (.aload_n 0, 1) := by decide +kernel
theorem dX9_toldOf_50 : decode cX9_toldOf 50 = .ok (.invokevirtual 42, 3) := by decide +kernel
theorem dX9_toldOf_53 : decode cX9_toldOf 53 = .ok (.ireturn, 1) := by decide +kernel
theorem dX9_toldOf_54 : decode cX9_toldOf 54 = .ok (.aload_n 0, 1) := by decide +kernel
theorem dX9_toldOf_55 : decode cX9_toldOf 55 = .ok (.invokevirtual 345, 3) := by decide +kernel
theorem dX9_toldOf_58 : decode cX9_toldOf 58 = .ok (.ireturn, 1) := by decide +kernel
theorem dX9_toldOf_59 : decode cX9_toldOf 59 = .ok (.aload_n 0, 1) := by decide +kernel
theorem dX9_toldOf_60 : decode cX9_toldOf 60 = .ok (.getfield 38, 3) := by decide +kernel
theorem dX9_toldOf_63 : decode cX9_toldOf 63 = .ok (.ireturn, 1) := by decide +kernel
theorem dX9_toldOf_64 : decode cX9_toldOf 64 = .ok (.iload_n 1, 1) := by decide +kernel
theorem dX9_toldOf_65 : decode cX9_toldOf 65 = .ok (.iconst 3, 1) := by decide +kernel
theorem dX9_toldOf_66 : decode cX9_toldOf 66 = .ok (.if_icmp .ge 12, 3) := by decide +kernel
theorem dX9_toldOf_69 : decode cX9_toldOf 69 = .ok (.aload_n 0, 1) := by decide +kernel
theorem dX9_toldOf_70 : decode cX9_toldOf 70 = .ok (.getfield 19, 3) := by decide +kernel
theorem dX9_toldOf_73 : decode cX9_toldOf 73 = .ok (.iload_n 1, 1) := by decide +kernel
theorem dX9_toldOf_74 : decode cX9_toldOf 74 = .ok (.iaload, 1) := by decide +kernel
theorem dX9_toldOf_75 : decode cX9_toldOf 75 = .ok (.goto 11, 3) := by decide +kernel
theorem dX9_toldOf_78 : decode cX9_toldOf 78 = .ok (.aload_n 0, 1) := by decide +kernel
theorem dX9_toldOf_79 : decode cX9_toldOf 79 = .ok (.getfield 7, 3) := by decide +kernel
theorem dX9_toldOf_82 : decode cX9_toldOf 82 = .ok (.iload_n 1, 1) := by decide +kernel
theorem dX9_toldOf_83 : decode cX9_toldOf 83 = .ok (.iconst 5, 1) := by decide +kernel
theorem dX9_toldOf_84 : decode cX9_toldOf 84 = .ok (.isub, 1) := by decide +kernel
theorem dX9_toldOf_85 : decode cX9_toldOf 85 = .ok (.iaload, 1) := by decide +kernel
theorem dX9_toldOf_86 : decode cX9_toldOf 86 = .ok (.ireturn, 1) := by decide +kernel
theorem dX9_told_0 : decode cX9_told 0 = .ok (.iload_n 1, 1) := by decide +kernel
theorem dX9_told_1 : decode cX9_told 1 = .ok (.i2l, 1) := by decide +kernel
theorem dX9_told_2 : decode cX9_told 2 = .ok (.lconst 0, 1) := by decide +kernel
theorem dX9_told_3 : decode cX9_told 3 = .ok (.ldc2_w 348, 3) := by decide +kernel
theorem dX9_told_6 : decode cX9_told 6 = .ok (.invokestatic 46, 3) := by decide +kernel
theorem dX9_told_9 : decode cX9_told 9 = .ok (.ifCond .eq 11, 3) := by decide +kernel
theorem dX9_told_12 : decode cX9_told 12 = .ok (.aload_n 0, 1) := by decide +kernel
theorem dX9_told_13 : decode cX9_told 13 = .ok (.iload_n 1, 1) := by decide +kernel
theorem dX9_told_14 : decode cX9_told 14 = .ok (.invokevirtual 350, 3) := by decide +kernel
theorem dX9_told_17 : decode cX9_told 17 = .ok (.goto 9, 3) := by decide +kernel
theorem dX9_told_20 : decode cX9_told 20 = .ok (.aload_n 0, 1) := by decide +kernel
theorem dX9_told_21 : decode cX9_told 21 = .ok (.bipush (-2), 2) := by decide +kernel
theorem dX9_told_23 : decode cX9_told 23 = .ok (.invokevirtual 101, 3) := by decide +kernel
theorem dX9_told_26 : decode cX9_told 26 = .ok (.ireturn, 1) := by decide +kernel
theorem dX9_digest_0 : decode cX9_digest 0 = .ok (.ldc2_w 353, 3) := by decide +kernel
theorem dX9_digest_3 : decode cX9_digest 3 = .ok (.lstore_n 1, 1) := by decide +kernel
theorem dX9_digest_4 : decode cX9_digest 4 = .ok (.iconst 0, 1) := by decide +kernel
theorem dX9_digest_5 : decode cX9_digest 5 = .ok (.istore_n 3, 1) := by decide +kernel
theorem dX9_digest_6 : decode cX9_digest 6 = .ok (.iload_n 3, 1) := by decide +kernel
theorem dX9_digest_7 : decode cX9_digest 7 = .ok (.bipush 14, 2) := by decide +kernel
theorem dX9_digest_9 : decode cX9_digest 9 = .ok (.if_icmp .ge 22, 3) := by decide +kernel
theorem dX9_digest_12 : decode cX9_digest 12 = .ok (.ldc2_w 355, 3) := by decide +kernel
theorem dX9_digest_15 : decode cX9_digest 15 = .ok (.lload_n 1, 1) := by decide +kernel
theorem dX9_digest_16 : decode cX9_digest 16 = .ok (.lmul, 1) := by decide +kernel
theorem dX9_digest_17 : decode cX9_digest 17 = .ok (.aload_n 0, 1) := by decide +kernel
theorem dX9_digest_18 : decode cX9_digest 18 = .ok (.iload_n 3, 1) := by decide +kernel
theorem dX9_digest_19 : decode cX9_digest 19 = .ok (.invokevirtual 350, 3) := by decide +kernel
theorem dX9_digest_22 : decode cX9_digest 22 = .ok (.i2l, 1) := by decide +kernel
theorem dX9_digest_23 : decode cX9_digest 23 = .ok (.ladd, 1) := by decide +kernel
theorem dX9_digest_24 : decode cX9_digest 24 = .ok (.lstore_n 1, 1) := by decide +kernel
theorem dX9_digest_25 : decode cX9_digest 25 = .ok (.iinc 3 1, 3) := by decide +kernel
theorem dX9_digest_28 : decode cX9_digest 28 = .ok (.goto (-22), 3) := by decide +kernel
theorem dX9_digest_31 : decode cX9_digest 31 = .ok (.iconst 0, 1) := by decide +kernel
theorem dX9_digest_32 : decode cX9_digest 32 = .ok (.istore_n 3, 1) := by decide +kernel
theorem dX9_digest_33 : decode cX9_digest 33 = .ok (.iload_n 3, 1) := by decide +kernel
theorem dX9_digest_34 : decode cX9_digest 34 = .ok (.bipush 10, 2) := by decide +kernel
theorem dX9_digest_36 : decode cX9_digest 36 = .ok (.aload_n 0, 1) := by decide +kernel
theorem dX9_digest_37 : decode cX9_digest 37 = .ok (.invokevirtual 42, 3) := by decide +kernel
theorem dX9_digest_40 : decode cX9_digest 40 = .ok (.imul, 1) := by decide +kernel
theorem dX9_digest_41 : decode cX9_digest 41 = .ok (.if_icmp .ge 29, 3) := by decide +kernel
theorem dX9_digest_44 : decode cX9_digest 44 = .ok (.ldc2_w 355, 3) := by decide +kernel
theorem dX9_digest_47 : decode cX9_digest 47 = .ok (.lload_n 1, 1) := by decide +kernel
theorem dX9_digest_48 : decode cX9_digest 48 = .ok (.lmul, 1) := by decide +kernel
theorem dX9_digest_49 : decode cX9_digest 49 = .ok (.aload_n 0, 1) := by decide +kernel
theorem dX9_digest_50 : decode cX9_digest 50 = .ok (.iload_n 3, 1) := by decide +kernel
theorem dX9_digest_51 : decode cX9_digest 51 = .ok (.bipush 10, 2) := by decide +kernel
theorem dX9_digest_53 : decode cX9_digest 53 = .ok (.idiv, 1) := by decide +kernel
theorem dX9_digest_54 : decode cX9_digest 54 = .ok (.iload_n 3, 1) := by decide +kernel
theorem dX9_digest_55 : decode cX9_digest 55 = .ok (.bipush 10, 2) := by decide +kernel
theorem dX9_digest_57 : decode cX9_digest 57 = .ok (.irem, 1) := by decide +kernel
theorem dX9_digest_58 : decode cX9_digest 58 = .ok (.invokevirtual 157, 3) := by decide +kernel
theorem dX9_digest_61 : decode cX9_digest 61 = .ok (.i2l, 1) := by decide +kernel
theorem dX9_digest_62 : decode cX9_digest 62 = .ok (.ladd, 1) := by decide +kernel
theorem dX9_digest_63 : decode cX9_digest 63 = .ok (.lstore_n 1, 1) := by decide +kernel
theorem dX9_digest_64 : decode cX9_digest 64 = .ok (.iinc 3 1, 3) := by decide +kernel
theorem dX9_digest_67 : decode cX9_digest 67 = .ok (.goto (-34), 3) := by decide +kernel
theorem dX9_digest_70 : decode cX9_digest 70 = .ok (.iconst 1, 1) := by decide +kernel
theorem dX9_digest_71 : decode cX9_digest 71 = .ok (.istore_n 3, 1) := by decide +kernel
theorem dX9_digest_72 : decode cX9_digest 72 = .ok (.iload_n 3, 1) := by decide +kernel
theorem dX9_digest_73 : decode cX9_digest 73 = .ok (.bipush 6, 2) := by decide +kernel
theorem dX9_digest_75 : decode cX9_digest 75 = .ok (.if_icmp .gt 22, 3) := by decide +kernel
theorem dX9_digest_78 : decode cX9_digest 78 = .ok (.ldc2_w 355, 3) := by decide +kernel
theorem dX9_digest_81 : decode cX9_digest 81 = .ok (.lload_n 1, 1) := by decide +kernel
theorem dX9_digest_82 : decode cX9_digest 82 = .ok (.lmul, 1) := by decide +kernel
theorem dX9_digest_83 : decode cX9_digest 83 = .ok (.aload_n 0, 1) := by decide +kernel
theorem dX9_digest_84 : decode cX9_digest 84 = .ok (.iload_n 3, 1) := by decide +kernel
theorem dX9_digest_85 : decode cX9_digest 85 = .ok (.invokevirtual 165, 3) := by decide +kernel
theorem dX9_digest_88 : decode cX9_digest 88 = .ok (.i2l, 1) := by decide +kernel
theorem dX9_digest_89 : decode cX9_digest 89 = .ok (.ladd, 1) := by decide +kernel
theorem dX9_digest_90 : decode cX9_digest 90 = .ok (.lstore_n 1, 1) := by decide +kernel
theorem dX9_digest_91 : decode cX9_digest 91 = .ok (.iinc 3 1, 3) := by decide +kernel
theorem dX9_digest_94 : decode cX9_digest 94 = .ok (.goto (-22), 3) := by decide +kernel
theorem dX9_digest_97 : decode cX9_digest 97 = .ok (.ldc2_w 355, 3) := by decide +kernel
theorem dX9_digest_100 : decode cX9_digest 100 = .ok (.ldc2_w 355, 3) := by decide +kernel
theorem dX9_digest_103 : decode cX9_digest 103 = .ok (.ldc2_w 355, 3) := by decide +kernel
theorem dX9_digest_106 : decode cX9_digest 106 = .ok (.lload_n 1, 1) := by decide +kernel
theorem dX9_digest_107 : decode cX9_digest 107 = .ok (.lmul, 1) := by decide +kernel
theorem dX9_digest_108 : decode cX9_digest 108 = .ok (.aload_n 0, 1) := by decide +kernel
theorem dX9_digest_109 : decode cX9_digest 109 = .ok (.iconst 0, 1) := by decide +kernel
theorem dX9_digest_110 : decode cX9_digest 110 = .ok (.invokevirtual 253, 3) := by decide +kernel
theorem dX9_digest_113 : decode cX9_digest 113 = .ok (.i2l, 1) := by decide +kernel
theorem dX9_digest_114 : decode cX9_digest 114 = .ok (.ladd, 1) := by decide +kernel
theorem dX9_digest_115 : decode cX9_digest 115 = .ok (.lmul, 1) := by decide +kernel
theorem dX9_digest_116 : decode cX9_digest 116 = .ok (.aload_n 0, 1) := by decide +kernel
theorem dX9_digest_117 : decode cX9_digest 117 = .ok (.iconst 1, 1) := by decide +kernel
theorem dX9_digest_118 : decode cX9_digest 118 = .ok (.invokevirtual 253, 3) := by decide +kernel
theorem dX9_digest_121 : decode cX9_digest 121 = .ok (.i2l, 1) := by decide +kernel
theorem dX9_digest_122 : decode cX9_digest 122 = .ok (.ladd, 1) := by decide +kernel
theorem dX9_digest_123 : decode cX9_digest 123 = .ok (.lmul, 1) := by decide +kernel
theorem dX9_digest_124 : decode cX9_digest 124 = .ok (.aload_n 0, 1) := by decide +kernel
theorem dX9_digest_125 : decode cX9_digest 125 = .ok (.iconst 4, 1) := by decide +kernel
theorem dX9_digest_126 : decode cX9_digest 126 = .ok (.invokevirtual 253, 3) := by decide +kernel
theorem dX9_digest_129 : decode cX9_digest 129 = .ok (.i2l, 1) := by decide +kernel
theorem dX9_digest_130 : decode cX9_digest 130 = .ok (.ladd, 1) := by decide +kernel
theorem dX9_digest_131 : decode cX9_digest 131 = .ok (.lstore_n 1, 1) := by decide +kernel
theorem dX9_digest_132 : decode cX9_digest 132 = .ok (.iconst 0, 1) := by decide +kernel
theorem dX9_digest_133 : decode cX9_digest 133 = .ok (.istore_n 3, 1) := by decide +kernel
theorem dX9_digest_134 : decode cX9_digest 134 = .ok (.iload_n 3, 1) := by decide +kernel
theorem dX9_digest_135 : decode cX9_digest 135 = .ok (.iconst 3, 1) := by decide +kernel
theorem dX9_digest_136 : decode cX9_digest 136 = .ok (.if_icmp .ge 21, 3) := by decide +kernel
theorem dX9_digest_139 : decode cX9_digest 139 = .ok (.ldc2_w 355, 3) := by decide +kernel
theorem dX9_digest_142 : decode cX9_digest 142 = .ok (.lload_n 1, 1) := by decide +kernel
theorem dX9_digest_143 : decode cX9_digest 143 = .ok (.lmul, 1) := by decide +kernel
theorem dX9_digest_144 : decode cX9_digest 144 = .ok (.aload_n 0, 1) := by decide +kernel
theorem dX9_digest_145 : decode cX9_digest 145 = .ok (.iload_n 3, 1) := by decide +kernel
theorem dX9_digest_146 : decode cX9_digest 146 = .ok (.invokevirtual 274, 3) := by decide +kernel
theorem dX9_digest_149 : decode cX9_digest 149 = .ok (.ladd, 1) := by decide +kernel
theorem dX9_digest_150 : decode cX9_digest 150 = .ok (.lstore_n 1, 1) := by decide +kernel
theorem dX9_digest_151 : decode cX9_digest 151 = .ok (.iinc 3 1, 3) := by decide +kernel
theorem dX9_digest_154 : decode cX9_digest 154 = .ok (.goto (-20), 3) := by decide +kernel
theorem dX9_digest_157 : decode cX9_digest 157 = .ok (.ldc2_w 355, 3) := by decide +kernel
theorem dX9_digest_160 : decode cX9_digest 160 = .ok (.lload_n 1, 1) := by decide +kernel
theorem dX9_digest_161 : decode cX9_digest 161 = .ok (.lmul, 1) := by decide +kernel
theorem dX9_digest_162 : decode cX9_digest 162 = .ok (.aload_n 0, 1) := by decide +kernel
theorem dX9_digest_163 : decode cX9_digest 163 = .ok (.invokevirtual 212, 3) := by decide +kernel
theorem dX9_digest_166 : decode cX9_digest 166 = .ok (.i2l, 1) := by decide +kernel
theorem dX9_digest_167 : decode cX9_digest 167 = .ok (.ladd, 1) := by decide +kernel
theorem dX9_digest_168 : decode cX9_digest 168 = .ok (.lreturn, 1) := by decide +kernel
theorem dJxe99ae_isNaN_b9ae7_0 : decode cJxe99ae_isNaN_b9ae7 0 = .ok (.dload_n 0, 1) := by decide +kernel
theorem dJxe99ae_isNaN_b9ae7_1 : decode cJxe99ae_isNaN_b9ae7 1 = .ok (.dload_n 0, 1) := by decide +kernel
theorem dJxe99ae_isNaN_b9ae7_2 : decode cJxe99ae_isNaN_b9ae7 2 = .ok (.dcmp .l, 1) := by decide +kernel
theorem dJxe99ae_isNaN_b9ae7_3 : decode cJxe99ae_isNaN_b9ae7 3 = .ok (.ifCond .eq 7, 3) := by decide +kernel
theorem dJxe99ae_isNaN_b9ae7_6 : decode cJxe99ae_isNaN_b9ae7 6 = .ok (.iconst 1, 1) := by decide +kernel
theorem dJxe99ae_isNaN_b9ae7_7 : decode cJxe99ae_isNaN_b9ae7 7 = .ok (.goto 4, 3) := by decide +kernel
theorem dJxe99ae_isNaN_b9ae7_10 : decode cJxe99ae_isNaN_b9ae7 10 = .ok (.iconst 0, 1) := by decide +kernel
theorem dJxe99ae_isNaN_b9ae7_11 : decode cJxe99ae_isNaN_b9ae7 11 = .ok (.ireturn, 1) := by decide +kernel
theorem dJxe99ae_doubleToLongBits_ccdee_0 : decode cJxe99ae_doubleToLongBits_ccdee 0 = .ok (.dload_n 0, 1) := by decide +kernel
theorem dJxe99ae_doubleToLongBits_ccdee_1 : decode cJxe99ae_doubleToLongBits_ccdee 1 = .ok (.invokestatic 122, 3) := by decide +kernel
theorem dJxe99ae_doubleToLongBits_ccdee_4 : decode cJxe99ae_doubleToLongBits_ccdee 4 = .ok (.ifCond .ne 8, 3) := by decide +kernel
theorem dJxe99ae_doubleToLongBits_ccdee_7 : decode cJxe99ae_doubleToLongBits_ccdee 7 = .ok (.dload_n 0, 1) := by decide +kernel
theorem dJxe99ae_doubleToLongBits_ccdee_8 : decode cJxe99ae_doubleToLongBits_ccdee 8 = .ok (.invokestatic 134, 3) := by decide +kernel
theorem dJxe99ae_doubleToLongBits_ccdee_11 : decode cJxe99ae_doubleToLongBits_ccdee 11 = .ok (.lreturn, 1) := by decide +kernel
theorem dJxe99ae_doubleToLongBits_ccdee_12 : decode cJxe99ae_doubleToLongBits_ccdee 12 = .ok (.ldc2_w 137, 3) := by decide +kernel
theorem dJxe99ae_doubleToLongBits_ccdee_15 : decode cJxe99ae_doubleToLongBits_ccdee 15 = .ok (.lreturn, 1) := by decide +kernel
theorem dJxf58ca_isNaN_12338_0 : decode cJxf58ca_isNaN_12338 0 = .ok (.fload_n 0, 1) := by decide +kernel
theorem dJxf58ca_isNaN_12338_1 : decode cJxf58ca_isNaN_12338 1 = .ok (.fload_n 0, 1) := by decide +kernel
theorem dJxf58ca_isNaN_12338_2 : decode cJxf58ca_isNaN_12338 2 = .ok (.fcmp .l, 1) := by decide +kernel
theorem dJxf58ca_isNaN_12338_3 : decode cJxf58ca_isNaN_12338 3 = .ok (.ifCond .eq 7, 3) := by decide +kernel
theorem dJxf58ca_isNaN_12338_6 : decode cJxf58ca_isNaN_12338 6 = .ok (.iconst 1, 1) := by decide +kernel
theorem dJxf58ca_isNaN_12338_7 : decode cJxf58ca_isNaN_12338 7 = .ok (.goto 4, 3) := by decide +kernel
theorem dJxf58ca_isNaN_12338_10 : decode cJxf58ca_isNaN_12338 10 = .ok (.iconst 0, 1) := by decide +kernel
theorem dJxf58ca_isNaN_12338_11 : decode cJxf58ca_isNaN_12338 11 = .ok (.ireturn, 1) := by decide +kernel
theorem dJxf58ca_floatToIntBits_5c35a_0 : decode cJxf58ca_floatToIntBits_5c35a 0 = .ok (.fload_n 0, 1) := by decide +kernel
theorem dJxf58ca_floatToIntBits_5c35a_1 : decode cJxf58ca_floatToIntBits_5c35a 1 = .ok (.invokestatic 59, 3) := by decide +kernel
theorem dJxf58ca_floatToIntBits_5c35a_4 : decode cJxf58ca_floatToIntBits_5c35a 4 = .ok (.ifCond .ne 8, 3) := by decide +kernel
theorem dJxf58ca_floatToIntBits_5c35a_7 : decode cJxf58ca_floatToIntBits_5c35a 7 = .ok (.fload_n 0, 1) := by decide +kernel
theorem dJxf58ca_floatToIntBits_5c35a_8 : decode cJxf58ca_floatToIntBits_5c35a 8 = .ok (.invokestatic 74, 3) := by decide +kernel
theorem dJxf58ca_floatToIntBits_5c35a_11 : decode cJxf58ca_floatToIntBits_5c35a 11 = .ok (.ireturn, 1) := by decide +kernel
theorem dJxf58ca_floatToIntBits_5c35a_12 : decode cJxf58ca_floatToIntBits_5c35a 12 = .ok (.ldc 77, 2) := by decide +kernel
theorem dJxf58ca_floatToIntBits_5c35a_14 : decode cJxf58ca_floatToIntBits_5c35a 14 = .ok (.ireturn, 1) := by decide +kernel
theorem dJ6_bitCount_0f7a4_0 : decode cJ6_bitCount_0f7a4 0 = .ok (.iload_n 0, 1) := by decide +kernel
theorem dJ6_bitCount_0f7a4_1 : decode cJ6_bitCount_0f7a4 1 = .ok (.iload_n 0, 1) := by decide +kernel
theorem dJ6_bitCount_0f7a4_2 : decode cJ6_bitCount_0f7a4 2 = .ok (.iconst 1, 1) := by decide +kernel
theorem dJ6_bitCount_0f7a4_3 : decode cJ6_bitCount_0f7a4 3 = .ok (.iushr, 1) := by decide +kernel
theorem dJ6_bitCount_0f7a4_4 : decode cJ6_bitCount_0f7a4 4 = .ok (.ldc_w 265, 3) := by decide +kernel
theorem dJ6_bitCount_0f7a4_7 : decode cJ6_bitCount_0f7a4 7 = .ok (.iand, 1) := by decide +kernel
theorem dJ6_bitCount_0f7a4_8 : decode cJ6_bitCount_0f7a4 8 = .ok (.isub, 1) := by decide +kernel
theorem dJ6_bitCount_0f7a4_9 : decode cJ6_bitCount_0f7a4 9 = .ok (.istore_n 0, 1) := by decide +kernel
theorem dJ6_bitCount_0f7a4_10 : decode cJ6_bitCount_0f7a4 10 = .ok (.iload_n 0, 1) := by decide +kernel
theorem dJ6_bitCount_0f7a4_11 : decode cJ6_bitCount_0f7a4 11 = .ok (.ldc_w 266, 3) := by decide +kernel
theorem dJ6_bitCount_0f7a4_14 : decode cJ6_bitCount_0f7a4 14 = .ok (.iand, 1) := by decide +kernel
theorem dJ6_bitCount_0f7a4_15 : decode cJ6_bitCount_0f7a4 15 = .ok (.iload_n 0, 1) := by decide +kernel
theorem dJ6_bitCount_0f7a4_16 : decode cJ6_bitCount_0f7a4 16 = .ok (.iconst 2, 1) := by decide +kernel
theorem dJ6_bitCount_0f7a4_17 : decode cJ6_bitCount_0f7a4 17 = .ok (.iushr, 1) := by decide +kernel
theorem dJ6_bitCount_0f7a4_18 : decode cJ6_bitCount_0f7a4 18 = .ok (.ldc_w 266, 3) := by decide +kernel
theorem dJ6_bitCount_0f7a4_21 : decode cJ6_bitCount_0f7a4 21 = .ok (.iand, 1) := by decide +kernel
theorem dJ6_bitCount_0f7a4_22 : decode cJ6_bitCount_0f7a4 22 = .ok (.iadd, 1) := by decide +kernel
theorem dJ6_bitCount_0f7a4_23 : decode cJ6_bitCount_0f7a4 23 = .ok (.istore_n 0, 1) := by decide +kernel
theorem dJ6_bitCount_0f7a4_24 : decode cJ6_bitCount_0f7a4 24 = .ok (.iload_n 0, 1) := by decide +kernel
theorem dJ6_bitCount_0f7a4_25 : decode cJ6_bitCount_0f7a4 25 = .ok (.iload_n 0, 1) := by decide +kernel
theorem dJ6_bitCount_0f7a4_26 : decode cJ6_bitCount_0f7a4 26 = .ok (.iconst 4, 1) := by decide +kernel
theorem dJ6_bitCount_0f7a4_27 : decode cJ6_bitCount_0f7a4 27 = .ok (.iushr, 1) := by decide +kernel
theorem dJ6_bitCount_0f7a4_28 : decode cJ6_bitCount_0f7a4 28 = .ok (.iadd, 1) := by decide +kernel
theorem dJ6_bitCount_0f7a4_29 : decode cJ6_bitCount_0f7a4 29 = .ok (.ldc_w 267, 3) := by decide +kernel
theorem dJ6_bitCount_0f7a4_32 : decode cJ6_bitCount_0f7a4 32 = .ok (.iand, 1) := by decide +kernel
theorem dJ6_bitCount_0f7a4_33 : decode cJ6_bitCount_0f7a4 33 = .ok (.istore_n 0, 1) := by decide +kernel
theorem dJ6_bitCount_0f7a4_34 : decode cJ6_bitCount_0f7a4 34 = .ok (.iload_n 0, 1) := by decide +kernel
theorem dJ6_bitCount_0f7a4_35 : decode cJ6_bitCount_0f7a4 35 = .ok (.iload_n 0, 1) := by decide +kernel
theorem dJ6_bitCount_0f7a4_36 : decode cJ6_bitCount_0f7a4 36 = .ok (.bipush 8, 2) := by decide +kernel
theorem dJ6_bitCount_0f7a4_38 : decode cJ6_bitCount_0f7a4 38 = .ok (.iushr, 1) := by decide +kernel
theorem dJ6_bitCount_0f7a4_39 : decode cJ6_bitCount_0f7a4 39 = .ok (.iadd, 1) := by decide +kernel
theorem dJ6_bitCount_0f7a4_40 : decode cJ6_bitCount_0f7a4 40 = .ok (.istore_n 0, 1) := by decide +kernel
theorem dJ6_bitCount_0f7a4_41 : decode cJ6_bitCount_0f7a4 41 = .ok (.iload_n 0, 1) := by decide +kernel
theorem dJ6_bitCount_0f7a4_42 : decode cJ6_bitCount_0f7a4 42 = .ok (.iload_n 0, 1) := by decide +kernel
theorem dJ6_bitCount_0f7a4_43 : decode cJ6_bitCount_0f7a4 43 = .ok (.bipush 16, 2) := by decide +kernel
theorem dJ6_bitCount_0f7a4_45 : decode cJ6_bitCount_0f7a4 45 = .ok (.iushr, 1) := by decide +kernel
theorem dJ6_bitCount_0f7a4_46 : decode cJ6_bitCount_0f7a4 46 = .ok (.iadd, 1) := by decide +kernel
theorem dJ6_bitCount_0f7a4_47 : decode cJ6_bitCount_0f7a4 47 = .ok (.istore_n 0, 1) := by decide +kernel
theorem dJ6_bitCount_0f7a4_48 : decode cJ6_bitCount_0f7a4 48 = .ok (.iload_n 0, 1) := by decide +kernel
theorem dJ6_bitCount_0f7a4_49 : decode cJ6_bitCount_0f7a4 49 = .ok (.bipush 63, 2) := by decide +kernel
theorem dJ6_bitCount_0f7a4_51 : decode cJ6_bitCount_0f7a4 51 = .ok (.iand, 1) := by decide +kernel
theorem dJ6_bitCount_0f7a4_52 : decode cJ6_bitCount_0f7a4 52 = .ok (.ireturn, 1) := by decide +kernel
theorem dJ9_max_7cf53_0 : decode cJ9_max_7cf53 0 = .ok (.iload_n 0, 1) := by decide +kernel
theorem dJ9_max_7cf53_1 : decode cJ9_max_7cf53 1 = .ok (.iload_n 1, 1) := by decide +kernel
theorem dJ9_max_7cf53_2 : decode cJ9_max_7cf53 2 = .ok (.if_icmp .lt 7, 3) := by decide +kernel
theorem dJ9_max_7cf53_5 : decode cJ9_max_7cf53 5 = .ok (.iload_n 0, 1) := by decide +kernel
theorem dJ9_max_7cf53_6 : decode cJ9_max_7cf53 6 = .ok (.goto 4, 3) := by decide +kernel
theorem dJ9_max_7cf53_9 : decode cJ9_max_7cf53 9 = .ok (.iload_n 1, 1) := by decide +kernel
theorem dJ9_max_7cf53_10 : decode cJ9_max_7cf53 10 = .ok (.ireturn, 1) := by decide +kernel
theorem dJ9_min_7cf53_0 : decode cJ9_min_7cf53 0 = .ok (.iload_n 0, 1) := by decide +kernel
theorem dJ9_min_7cf53_1 : decode cJ9_min_7cf53 1 = .ok (.iload_n 1, 1) := by decide +kernel
theorem dJ9_min_7cf53_2 : decode cJ9_min_7cf53 2 = .ok (.if_icmp .gt 7, 3) := by decide +kernel
theorem dJ9_min_7cf53_5 : decode cJ9_min_7cf53 5 = .ok (.iload_n 0, 1) := by decide +kernel
theorem dJ9_min_7cf53_6 : decode cJ9_min_7cf53 6 = .ok (.goto 4, 3) := by decide +kernel
theorem dJ9_min_7cf53_9 : decode cJ9_min_7cf53 9 = .ok (.iload_n 1, 1) := by decide +kernel
theorem dJ9_min_7cf53_10 : decode cJ9_min_7cf53 10 = .ok (.ireturn, 1) := by decide +kernel
theorem dJ7_fill_53178_0 : decode cJ7_fill_53178 0 = .ok (.iconst 0, 1) := by decide +kernel
theorem dJ7_fill_53178_1 : decode cJ7_fill_53178 1 = .ok (.istore_n 2, 1) := by decide +kernel
theorem dJ7_fill_53178_2 : decode cJ7_fill_53178 2 = .ok (.aload_n 0, 1) := by decide +kernel
theorem dJ7_fill_53178_3 : decode cJ7_fill_53178 3 = .ok (.arraylength, 1) := by decide +kernel
theorem dJ7_fill_53178_4 : decode cJ7_fill_53178 4 = .ok (.istore_n 3, 1) := by decide +kernel
theorem dJ7_fill_53178_5 : decode cJ7_fill_53178 5 = .ok (.iload_n 2, 1) := by decide +kernel
theorem dJ7_fill_53178_6 : decode cJ7_fill_53178 6 = .ok (.iload_n 3, 1) := by decide +kernel
theorem dJ7_fill_53178_7 : decode cJ7_fill_53178 7 = .ok (.if_icmp .ge 13, 3) := by decide +kernel
theorem dJ7_fill_53178_10 : decode cJ7_fill_53178 10 = .ok (.aload_n 0, 1) := by decide +kernel
theorem dJ7_fill_53178_11 : decode cJ7_fill_53178 11 = .ok (.iload_n 2, 1) := by decide +kernel
theorem dJ7_fill_53178_12 : decode cJ7_fill_53178 12 = .ok (.iload_n 1, 1) := by decide +kernel
theorem dJ7_fill_53178_13 : decode cJ7_fill_53178 13 = .ok (.iastore, 1) := by decide +kernel
theorem dJ7_fill_53178_14 : decode cJ7_fill_53178 14 = .ok (.iinc 2 1, 3) := by decide +kernel
theorem dJ7_fill_53178_17 : decode cJ7_fill_53178 17 = .ok (.goto (-12), 3) := by decide +kernel
theorem dJ7_fill_53178_20 : decode cJ7_fill_53178 20 = .ok (.return_, 1) := by decide +kernel
theorem dL_law_0 : decode cL_law 0 = .ok (.new 7, 3) := by decide +kernel
theorem dL_law_3 : decode cL_law 3 = .ok (.dup, 1) := by decide +kernel
theorem dL_law_4 : decode cL_law 4 = .ok (.invokespecial 9, 3) := by decide +kernel
theorem dL_law_7 : decode cL_law 7 = .ok (.astore_n 1, 1) := by decide +kernel
theorem dL_law_8 : decode cL_law 8 = .ok (.new 10, 3) := by decide +kernel
theorem dL_law_11 : decode cL_law 11 = .ok (.dup, 1) := by decide +kernel
theorem dL_law_12 : decode cL_law 12 = .ok (.invokespecial 12, 3) := by decide +kernel
theorem dL_law_15 : decode cL_law 15 = .ok (.astore_n 2, 1) := by decide +kernel
theorem dL_law_16 : decode cL_law 16 = .ok (.iconst 0, 1) := by decide +kernel
theorem dL_law_17 : decode cL_law 17 = .ok (.istore_n 3, 1) := by decide +kernel
theorem dL_law_18 : decode cL_law 18 = .ok (.iload_n 3, 1) := by decide +kernel
theorem dL_law_19 : decode cL_law 19 = .ok (.aload_n 0, 1) := by decide +kernel
theorem dL_law_20 : decode cL_law 20 = .ok (.arraylength, 1) := by decide +kernel
theorem dL_law_21 : decode cL_law 21 = .ok (.iconst 5, 1) := by decide +kernel
theorem dL_law_22 : decode cL_law 22 = .ok (.isub, 1) := by decide +kernel
theorem dL_law_23 : decode cL_law 23 = .ok (.if_icmp .gt 943, 3) := by decide +kernel
theorem dL_law_26 : decode cL_law 26 = .ok (.aload_n 0, 1) := by decide +kernel
theorem dL_law_27 : decode cL_law 27 = .ok (.iload_n 3, 1) := by decide +kernel
theorem dL_law_28 : decode cL_law 28 = .ok (.iaload, 1) := by decide +kernel
theorem dL_law_29 : decode cL_law 29 = .ok (.bipush 31, 2) := by decide +kernel
theorem dL_law_31 : decode cL_law 31 = .ok (.iand, 1) := by decide +kernel
theorem dL_law_32 : decode cL_law 32 = .ok (.tableswitch 928 0 29 #[136, 169, 202, 255, 278, 321, 354, 377, 400, 443, 466, 499, 542, 575, 588, 601, 614, 647, 670, 694, 717, 750, 773, 796, 829, 852, 865, 878, 891, 914], 136) := by decide +kernel
theorem dL_law_168 : decode cL_law 168 = .ok (.aload_n 1, 1) := by decide +kernel
theorem dL_law_169 : decode cL_law 169 = .ok (.aload_n 0, 1) := by decide +kernel
theorem dL_law_170 : decode cL_law 170 = .ok (.iload_n 3, 1) := by decide +kernel
theorem dL_law_171 : decode cL_law 171 = .ok (.iconst 1, 1) := by decide +kernel
theorem dL_law_172 : decode cL_law 172 = .ok (.iadd, 1) := by decide +kernel
theorem dL_law_173 : decode cL_law 173 = .ok (.iaload, 1) := by decide +kernel
theorem dL_law_174 : decode cL_law 174 = .ok (.aload_n 0, 1) := by decide +kernel
theorem dL_law_175 : decode cL_law 175 = .ok (.iload_n 3, 1) := by decide +kernel
theorem dL_law_176 : decode cL_law 176 = .ok (.iconst 2, 1) := by decide +kernel
theorem dL_law_177 : decode cL_law 177 = .ok (.iadd, 1) := by decide +kernel
theorem dL_law_178 : decode cL_law 178 = .ok (.iaload, 1) := by decide +kernel
theorem dL_law_179 : decode cL_law 179 = .ok (.invokevirtual 13, 3) := by decide +kernel
theorem dL_law_182 : decode cL_law 182 = .ok (.aload_n 2, 1) := by decide +kernel
theorem dL_law_183 : decode cL_law 183 = .ok (.aload_n 0, 1) := by decide +kernel
theorem dL_law_184 : decode cL_law 184 = .ok (.iload_n 3, 1) := by decide +kernel
theorem dL_law_185 : decode cL_law 185 = .ok (.iconst 1, 1) := by decide +kernel
theorem dL_law_186 : decode cL_law 186 = .ok (.iadd, 1) := by decide +kernel
theorem dL_law_187 : decode cL_law 187 = .ok (.iaload, 1) := by decide +kernel
theorem dL_law_188 : decode cL_law 188 = .ok (.aload_n 0, 1) := by decide +kernel
theorem dL_law_189 : decode cL_law 189 = .ok (.iload_n 3, 1) := by decide +kernel
theorem dL_law_190 : decode cL_law 190 = .ok (.iconst 2, 1) := by decide +kernel
theorem dL_law_191 : decode cL_law 191 = .ok (.iadd, 1) := by decide +kernel
theorem dL_law_192 : decode cL_law 192 = .ok (.iaload, 1) := by decide +kernel
theorem dL_law_193 : decode cL_law 193 = .ok (.invokevirtual 17, 3) := by decide +kernel
theorem dL_law_196 : decode cL_law 196 = .ok (.if_icmp .eq 764, 3) := by decide +kernel
theorem dL_law_199 : decode cL_law 199 = .ok (.iconst 0, 1) := by decide +kernel
theorem dL_law_200 : decode cL_law 200 = .ok (.ireturn, 1) := by decide +kernel
theorem dL_law_201 : decode cL_law 201 = .ok (.aload_n 1, 1) := by decide +kernel
theorem dL_law_202 : decode cL_law 202 = .ok (.aload_n 0, 1) := by decide +kernel
theorem dL_law_203 : decode cL_law 203 = .ok (.iload_n 3, 1) := by decide +kernel
theorem dL_law_204 : decode cL_law 204 = .ok (.iconst 1, 1) := by decide +kernel
theorem dL_law_205 : decode cL_law 205 = .ok (.iadd, 1) := by decide +kernel
theorem dL_law_206 : decode cL_law 206 = .ok (.iaload, 1) := by decide +kernel
theorem dL_law_207 : decode cL_law 207 = .ok (.aload_n 0, 1) := by decide +kernel
theorem dL_law_208 : decode cL_law 208 = .ok (.iload_n 3, 1) := by decide +kernel
theorem dL_law_209 : decode cL_law 209 = .ok (.iconst 2, 1) := by decide +kernel
theorem dL_law_210 : decode cL_law 210 = .ok (.iadd, 1) := by decide +kernel
theorem dL_law_211 : decode cL_law 211 = .ok (.iaload, 1) := by decide +kernel
theorem dL_law_212 : decode cL_law 212 = .ok (.invokevirtual 18, 3) := by decide +kernel
theorem dL_law_215 : decode cL_law 215 = .ok (.aload_n 2, 1) := by decide +kernel
theorem dL_law_216 : decode cL_law 216 = .ok (.aload_n 0, 1) := by decide +kernel
theorem dL_law_217 : decode cL_law 217 = .ok (.iload_n 3, 1) := by decide +kernel
theorem dL_law_218 : decode cL_law 218 = .ok (.iconst 1, 1) := by decide +kernel
theorem dL_law_219 : decode cL_law 219 = .ok (.iadd, 1) := by decide +kernel
theorem dL_law_220 : decode cL_law 220 = .ok (.iaload, 1) := by decide +kernel
theorem dL_law_221 : decode cL_law 221 = .ok (.aload_n 0, 1) := by decide +kernel
theorem dL_law_222 : decode cL_law 222 = .ok (.iload_n 3, 1) := by decide +kernel
theorem dL_law_223 : decode cL_law 223 = .ok (.iconst 2, 1) := by decide +kernel
theorem dL_law_224 : decode cL_law 224 = .ok (.iadd, 1) := by decide +kernel
theorem dL_law_225 : decode cL_law 225 = .ok (.iaload, 1) := by decide +kernel
theorem dL_law_226 : decode cL_law 226 = .ok (.invokevirtual 21, 3) := by decide +kernel
theorem dL_law_229 : decode cL_law 229 = .ok (.if_icmp .eq 731, 3) := by decide +kernel
theorem dL_law_232 : decode cL_law 232 = .ok (.iconst 0, 1) := by decide +kernel
theorem dL_law_233 : decode cL_law 233 = .ok (.ireturn, 1) := by decide +kernel
theorem dL_law_234 : decode cL_law 234 = .ok (.aload_n 1, 1) := by decide +kernel
theorem dL_law_235 : decode cL_law 235 = .ok (.aload_n 0, 1) := by decide +kernel
theorem dL_law_236 : decode cL_law 236 = .ok (.iload_n 3, 1) := by decide +kernel
theorem dL_law_237 : decode cL_law 237 = .ok (.iconst 1, 1) := by decide +kernel
theorem dL_law_238 : decode cL_law 238 = .ok (.iadd, 1) := by decide +kernel
theorem dL_law_239 : decode cL_law 239 = .ok (.iaload, 1) := by decide +kernel
theorem dL_law_240 : decode cL_law 240 = .ok (.aload_n 0, 1) := by decide +kernel
theorem dL_law_241 : decode cL_law 241 = .ok (.iload_n 3, 1) := by decide +kernel
theorem dL_law_242 : decode cL_law 242 = .ok (.iconst 2, 1) := by decide +kernel
theorem dL_law_243 : decode cL_law 243 = .ok (.iadd, 1) := by decide +kernel
theorem dL_law_244 : decode cL_law 244 = .ok (.iaload, 1) := by decide +kernel
theorem dL_law_245 : decode cL_law 245 = .ok (.aload_n 0, 1) := by decide +kernel
theorem dL_law_246 : decode cL_law 246 = .ok (.iload_n 3, 1) := by decide +kernel
theorem dL_law_247 : decode cL_law 247 = .ok (.iconst 3, 1) := by decide +kernel
theorem dL_law_248 : decode cL_law 248 = .ok (.iadd, 1) := by decide +kernel
theorem dL_law_249 : decode cL_law 249 = .ok (.iaload, 1) := by decide +kernel
theorem dL_law_250 : decode cL_law 250 = .ok (.aload_n 0, 1) := by decide +kernel
theorem dL_law_251 : decode cL_law 251 = .ok (.iload_n 3, 1) := by decide +kernel
theorem dL_law_252 : decode cL_law 252 = .ok (.iconst 4, 1) := by decide +kernel
theorem dL_law_253 : decode cL_law 253 = .ok (.iadd, 1) := by decide +kernel
theorem dL_law_254 : decode cL_law 254 = .ok (.iaload, 1) := by decide +kernel
theorem dL_law_255 : decode cL_law 255 = .ok (.invokevirtual 22, 3) := by decide +kernel
theorem dL_law_258 : decode cL_law 258 = .ok (.aload_n 2, 1) := by decide +kernel
theorem dL_law_259 : decode cL_law 259 = .ok (.aload_n 0, 1) := by decide +kernel
theorem dL_law_260 : decode cL_law 260 = .ok (.iload_n 3, 1) := by decide +kernel
theorem dL_law_261 : decode cL_law 261 = .ok (.iconst 1, 1) := by decide +kernel
theorem dL_law_262 : decode cL_law 262 = .ok (.iadd, 1) := by decide +kernel
theorem dL_law_263 : decode cL_law 263 = .ok (.iaload, 1) := by decide +kernel
theorem dL_law_264 : decode cL_law 264 = .ok (.aload_n 0, 1) := by decide +kernel
theorem dL_law_265 : decode cL_law 265 = .ok (.iload_n 3, 1) := by decide +kernel
theorem dL_law_266 : decode cL_law 266 = .ok (.iconst 2, 1) := by decide +kernel
theorem dL_law_267 : decode cL_law 267 = .ok (.iadd, 1) := by decide +kernel
theorem dL_law_268 : decode cL_law 268 = .ok (.iaload, 1) := by decide +kernel
theorem dL_law_269 : decode cL_law 269 = .ok (.aload_n 0, 1) := by decide +kernel
theorem dL_law_270 : decode cL_law 270 = .ok (.iload_n 3, 1) := by decide +kernel
theorem dL_law_271 : decode cL_law 271 = .ok (.iconst 3, 1) := by decide +kernel
theorem dL_law_272 : decode cL_law 272 = .ok (.iadd, 1) := by decide +kernel
theorem dL_law_273 : decode cL_law 273 = .ok (.iaload, 1) := by decide +kernel
theorem dL_law_274 : decode cL_law 274 = .ok (.aload_n 0, 1) := by decide +kernel
theorem dL_law_275 : decode cL_law 275 = .ok (.iload_n 3, 1) := by decide +kernel
theorem dL_law_276 : decode cL_law 276 = .ok (.iconst 4, 1) := by decide +kernel
theorem dL_law_277 : decode cL_law 277 = .ok (.iadd, 1) := by decide +kernel
theorem dL_law_278 : decode cL_law 278 = .ok (.iaload, 1) := by decide +kernel
theorem dL_law_279 : decode cL_law 279 = .ok (.invokevirtual 26, 3) := by decide +kernel
theorem dL_law_282 : decode cL_law 282 = .ok (.if_icmp .eq 678, 3) := by decide +kernel
theorem dL_law_285 : decode cL_law 285 = .ok (.iconst 0, 1) := by decide +kernel
theorem dL_law_286 : decode cL_law 286 = .ok (.ireturn, 1) := by decide +kernel
theorem dL_law_287 : decode cL_law 287 = .ok (.aload_n 1, 1) := by decide +kernel
theorem dL_law_288 : decode cL_law 288 = .ok (.aload_n 0, 1) := by decide +kernel
theorem dL_law_289 : decode cL_law 289 = .ok (.iload_n 3, 1) := by decide +kernel
theorem dL_law_290 : decode cL_law 290 = .ok (.iconst 1, 1) := by decide +kernel
theorem dL_law_291 : decode cL_law 291 = .ok (.iadd, 1) := by decide +kernel
theorem dL_law_292 : decode cL_law 292 = .ok (.iaload, 1) := by decide +kernel
theorem dL_law_293 : decode cL_law 293 = .ok (.invokevirtual 27, 3) := by decide +kernel
theorem dL_law_296 : decode cL_law 296 = .ok (.aload_n 2, 1) := by decide +kernel
theorem dL_law_297 : decode cL_law 297 = .ok (.aload_n 0, 1) := by decide +kernel
theorem dL_law_298 : decode cL_law 298 = .ok (.iload_n 3, 1) := by decide +kernel
theorem dL_law_299 : decode cL_law 299 = .ok (.iconst 1, 1) := by decide +kernel
theorem dL_law_300 : decode cL_law 300 = .ok (.iadd, 1) := by decide +kernel
theorem dL_law_301 : decode cL_law 301 = .ok (.iaload, 1) := by decide +kernel
theorem dL_law_302 : decode cL_law 302 = .ok (.invokevirtual 31, 3) := by decide +kernel
theorem dL_law_305 : decode cL_law 305 = .ok (.if_icmp .eq 655, 3) := by decide +kernel
theorem dL_law_308 : decode cL_law 308 = .ok (.iconst 0, 1) := by decide +kernel
theorem dL_law_309 : decode cL_law 309 = .ok (.ireturn, 1) := by decide +kernel
theorem dL_law_310 : decode cL_law 310 = .ok (.aload_n 1, 1) := by decide +kernel
theorem dL_law_311 : decode cL_law 311 = .ok (.aload_n 0, 1) := by decide +kernel
theorem dL_law_312 : decode cL_law 312 = .ok (.iload_n 3, 1) := by decide +kernel
theorem dL_law_313 : decode cL_law 313 = .ok (.iconst 1, 1) := by decide +kernel
theorem dL_law_314 : decode cL_law 314 = .ok (.iadd, 1) := by decide +kernel
theorem dL_law_315 : decode cL_law 315 = .ok (.iaload, 1) := by decide +kernel
theorem dL_law_316 : decode cL_law 316 = .ok (.aload_n 0, 1) := by decide +kernel
theorem dL_law_317 : decode cL_law 317 = .ok (.iload_n 3, 1) := by decide +kernel
theorem dL_law_318 : decode cL_law 318 = .ok (.iconst 2, 1) := by decide +kernel
theorem dL_law_319 : decode cL_law 319 = .ok (.iadd, 1) := by decide +kernel
theorem dL_law_320 : decode cL_law 320 = .ok (.iaload, 1) := by decide +kernel
theorem dL_law_321 : decode cL_law 321 = .ok (.aload_n 0, 1) := by decide +kernel
theorem dL_law_322 : decode cL_law 322 = .ok (.iload_n 3, 1) := by decide +kernel
theorem dL_law_323 : decode cL_law 323 = .ok (.iconst 3, 1) := by decide +kernel
theorem dL_law_324 : decode cL_law 324 = .ok (.iadd, 1) := by decide +kernel
theorem dL_law_325 : decode cL_law 325 = .ok (.iaload, 1) := by decide +kernel
theorem dL_law_326 : decode cL_law 326 = .ok (.invokevirtual 32, 3) := by decide +kernel
theorem dL_law_329 : decode cL_law 329 = .ok (.aload_n 2, 1) := by decide +kernel
theorem dL_law_330 : decode cL_law 330 = .ok (.aload_n 0, 1) := by decide +kernel
theorem dL_law_331 : decode cL_law 331 = .ok (.iload_n 3, 1) := by decide +kernel
theorem dL_law_332 : decode cL_law 332 = .ok (.iconst 1, 1) := by decide +kernel
theorem dL_law_333 : decode cL_law 333 = .ok (.iadd, 1) := by decide +kernel
theorem dL_law_334 : decode cL_law 334 = .ok (.iaload, 1) := by decide +kernel
theorem dL_law_335 : decode cL_law 335 = .ok (.aload_n 0, 1) := by decide +kernel
theorem dL_law_336 : decode cL_law 336 = .ok (.iload_n 3, 1) := by decide +kernel
theorem dL_law_337 : decode cL_law 337 = .ok (.iconst 2, 1) := by decide +kernel
theorem dL_law_338 : decode cL_law 338 = .ok (.iadd, 1) := by decide +kernel
theorem dL_law_339 : decode cL_law 339 = .ok (.iaload, 1) := by decide +kernel
theorem dL_law_340 : decode cL_law 340 = .ok (.aload_n 0, 1) := by decide +kernel
theorem dL_law_341 : decode cL_law 341 = .ok (.iload_n 3, 1) := by decide +kernel
theorem dL_law_342 : decode cL_law 342 = .ok (.iconst 3, 1) := by decide +kernel
theorem dL_law_343 : decode cL_law 343 = .ok (.iadd, 1) := by decide +kernel
theorem dL_law_344 : decode cL_law 344 = .ok (.iaload, 1) := by decide +kernel
theorem dL_law_345 : decode cL_law 345 = .ok (.invokevirtual 36, 3) := by decide +kernel
theorem dL_law_348 : decode cL_law 348 = .ok (.if_icmp .eq 612, 3) := by decide +kernel
theorem dL_law_351 : decode cL_law 351 = .ok (.iconst 0, 1) := by decide +kernel
theorem dL_law_352 : decode cL_law 352 = .ok (.ireturn, 1) := by decide +kernel
theorem dL_law_353 : decode cL_law 353 = .ok (.aload_n 1, 1) := by decide +kernel
theorem dL_law_354 : decode cL_law 354 = .ok (.aload_n 0, 1) := by decide +kernel
theorem dL_law_355 : decode cL_law 355 = .ok (.iload_n 3, 1) := by decide +kernel
theorem dL_law_356 : decode cL_law 356 = .ok (.iconst 1, 1) := by decide +kernel
theorem dL_law_357 : decode cL_law 357 = .ok (.iadd, 1) := by decide +kernel
theorem dL_law_358 : decode cL_law 358 = .ok (.iaload, 1) := by decide +kernel
theorem dL_law_359 : decode cL_law 359 = .ok (.aload_n 0, 1) := by decide +kernel
theorem dL_law_360 : decode cL_law 360 = .ok (.iload_n 3, 1) := by decide +kernel
theorem dL_law_361 : decode cL_law 361 = .ok (.iconst 2, 1) := by decide +kernel
theorem dL_law_362 : decode cL_law 362 = .ok (.iadd, 1) := by decide +kernel
theorem dL_law_363 : decode cL_law 363 = .ok (.iaload, 1) := by decide +kernel
theorem dL_law_364 : decode cL_law 364 = .ok (.invokevirtual 37, 3) := by decide +kernel
theorem dL_law_367 : decode cL_law 367 = .ok (.aload_n 2, 1) := by decide +kernel
theorem dL_law_368 : decode cL_law 368 = .ok (.aload_n 0, 1) := by decide +kernel
theorem dL_law_369 : decode cL_law 369 = .ok (.iload_n 3, 1) := by decide +kernel
theorem dL_law_370 : decode cL_law 370 = .ok (.iconst 1, 1) := by decide +kernel
theorem dL_law_371 : decode cL_law 371 = .ok (.iadd, 1) := by decide +kernel
theorem dL_law_372 : decode cL_law 372 = .ok (.iaload, 1) := by decide +kernel
theorem dL_law_373 : decode cL_law 373 = .ok (.aload_n 0, 1) := by decide +kernel
theorem dL_law_374 : decode cL_law 374 = .ok (.iload_n 3, 1) := by decide +kernel
theorem dL_law_375 : decode cL_law 375 = .ok (.iconst 2, 1) := by decide +kernel
theorem dL_law_376 : decode cL_law 376 = .ok (.iadd, 1) := by decide +kernel
theorem dL_law_377 : decode cL_law 377 = .ok (.iaload, 1) := by decide +kernel
theorem dL_law_378 : decode cL_law 378 = .ok (.invokevirtual 40, 3) := by decide +kernel
theorem dL_law_381 : decode cL_law 381 = .ok (.if_icmp .eq 579, 3) := by decide +kernel
theorem dL_law_384 : decode cL_law 384 = .ok (.iconst 0, 1) := by decide +kernel
theorem dL_law_385 : decode cL_law 385 = .ok (.ireturn, 1) := by decide +kernel
theorem dL_law_386 : decode cL_law 386 = .ok (.aload_n 1, 1) := by decide +kernel
theorem dL_law_387 : decode cL_law 387 = .ok (.aload_n 0, 1) := by decide +kernel
theorem dL_law_388 : decode cL_law 388 = .ok (.iload_n 3, 1) := by decide +kernel
theorem dL_law_389 : decode cL_law 389 = .ok (.iconst 1, 1) := by decide +kernel
theorem dL_law_390 : decode cL_law 390 = .ok (.iadd, 1) := by decide +kernel
theorem dL_law_391 : decode cL_law 391 = .ok (.iaload, 1) := by decide +kernel
theorem dL_law_392 : decode cL_law 392 = .ok (.invokevirtual 41, 3) := by decide +kernel
theorem dL_law_395 : decode cL_law 395 = .ok (.aload_n 2, 1) := by decide +kernel
theorem dL_law_396 : decode cL_law 396 = .ok (.aload_n 0, 1) := by decide +kernel
theorem dL_law_397 : decode cL_law 397 = .ok (.iload_n 3, 1) := by decide +kernel
theorem dL_law_398 : decode cL_law 398 = .ok (.iconst 1, 1) := by decide +kernel
theorem dL_law_399 : decode cL_law 399 = .ok (.iadd, 1) := by decide +kernel
theorem dL_law_400 : decode cL_law 400 = .ok (.iaload, 1) := by decide +kernel
theorem dL_law_401 : decode cL_law 401 = .ok (.invokevirtual 44, 3) := by decide +kernel
theorem dL_law_404 : decode cL_law 404 = .ok (.if_icmp .eq 556, 3) := by decide +kernel
theorem dL_law_407 : decode cL_law 407 = .ok (.iconst 0, 1) := by decide +kernel
theorem dL_law_408 : decode cL_law 408 = .ok (.ireturn, 1) := by decide +kernel
theorem dL_law_409 : decode cL_law 409 = .ok (.aload_n 1, 1) := by decide +kernel
theorem dL_law_410 : decode cL_law 410 = .ok (.aload_n 0, 1) := by decide +kernel
theorem dL_law_411 : decode cL_law 411 = .ok (.iload_n 3, 1) := by decide +kernel
theorem dL_law_412 : decode cL_law 412 = .ok (.iconst 1, 1) := by decide +kernel
theorem dL_law_413 : decode cL_law 413 = .ok (.iadd, 1) := by decide +kernel
theorem dL_law_414 : decode cL_law 414 = .ok (.iaload, 1) := by decide +kernel
theorem dL_law_415 : decode cL_law 415 = .ok (.invokevirtual 45, 3) := by decide +kernel
theorem dL_law_418 : decode cL_law 418 = .ok (.aload_n 2, 1) := by decide +kernel
theorem dL_law_419 : decode cL_law 419 = .ok (.aload_n 0, 1) := by decide +kernel
theorem dL_law_420 : decode cL_law 420 = .ok (.iload_n 3, 1) := by decide +kernel
theorem dL_law_421 : decode cL_law 421 = .ok (.iconst 1, 1) := by decide +kernel
theorem dL_law_422 : decode cL_law 422 = .ok (.iadd, 1) := by decide +kernel
theorem dL_law_423 : decode cL_law 423 = .ok (.iaload, 1) := by decide +kernel
theorem dL_law_424 : decode cL_law 424 = .ok (.invokevirtual 48, 3) := by decide +kernel
theorem dL_law_427 : decode cL_law 427 = .ok (.if_icmp .eq 533, 3) := by decide +kernel
theorem dL_law_430 : decode cL_law 430 = .ok (.iconst 0, 1) := by decide +kernel
theorem dL_law_431 : decode cL_law 431 = .ok (.ireturn, 1) := by decide +kernel
theorem dL_law_432 : decode cL_law 432 = .ok (.aload_n 1, 1) := by decide +kernel
theorem dL_law_433 : decode cL_law 433 = .ok (.aload_n 0, 1) := by decide +kernel
theorem dL_law_434 : decode cL_law 434 = .ok (.iload_n 3, 1) := by decide +kernel
theorem dL_law_435 : decode cL_law 435 = .ok (.iconst 1, 1) := by decide +kernel
theorem dL_law_436 : decode cL_law 436 = .ok (.iadd, 1) := by decide +kernel
theorem dL_law_437 : decode cL_law 437 = .ok (.iaload, 1) := by decide +kernel
theorem dL_law_438 : decode cL_law 438 = .ok (.aload_n 0, 1) := by decide +kernel
theorem dL_law_439 : decode cL_law 439 = .ok (.iload_n 3, 1) := by decide +kernel
theorem dL_law_440 : decode cL_law 440 = .ok (.iconst 2, 1) := by decide +kernel
theorem dL_law_441 : decode cL_law 441 = .ok (.iadd, 1) := by decide +kernel
theorem dL_law_442 : decode cL_law 442 = .ok (.iaload, 1) := by decide +kernel
theorem dL_law_443 : decode cL_law 443 = .ok (.aload_n 0, 1) := by decide +kernel
theorem dL_law_444 : decode cL_law 444 = .ok (.iload_n 3, 1) := by decide +kernel
theorem dL_law_445 : decode cL_law 445 = .ok (.iconst 3, 1) := by decide +kernel
theorem dL_law_446 : decode cL_law 446 = .ok (.iadd, 1) := by decide +kernel
theorem dL_law_447 : decode cL_law 447 = .ok (.iaload, 1) := by decide +kernel
theorem dL_law_448 : decode cL_law 448 = .ok (.invokevirtual 49, 3) := by decide +kernel
theorem dL_law_451 : decode cL_law 451 = .ok (.aload_n 2, 1) := by decide +kernel
theorem dL_law_452 : decode cL_law 452 = .ok (.aload_n 0, 1) := by decide +kernel
theorem dL_law_453 : decode cL_law 453 = .ok (.iload_n 3, 1) := by decide +kernel
theorem dL_law_454 : decode cL_law 454 = .ok (.iconst 1, 1) := by decide +kernel
theorem dL_law_455 : decode cL_law 455 = .ok (.iadd, 1) := by decide +kernel
theorem dL_law_456 : decode cL_law 456 = .ok (.iaload, 1) := by decide +kernel
theorem dL_law_457 : decode cL_law 457 = .ok (.aload_n 0, 1) := by decide +kernel
theorem dL_law_458 : decode cL_law 458 = .ok (.iload_n 3, 1) := by decide +kernel
theorem dL_law_459 : decode cL_law 459 = .ok (.iconst 2, 1) := by decide +kernel
theorem dL_law_460 : decode cL_law 460 = .ok (.iadd, 1) := by decide +kernel
theorem dL_law_461 : decode cL_law 461 = .ok (.iaload, 1) := by decide +kernel
theorem dL_law_462 : decode cL_law 462 = .ok (.aload_n 0, 1) := by decide +kernel
theorem dL_law_463 : decode cL_law 463 = .ok (.iload_n 3, 1) := by decide +kernel
theorem dL_law_464 : decode cL_law 464 = .ok (.iconst 3, 1) := by decide +kernel
theorem dL_law_465 : decode cL_law 465 = .ok (.iadd, 1) := by decide +kernel
theorem dL_law_466 : decode cL_law 466 = .ok (.iaload, 1) := by decide +kernel
theorem dL_law_467 : decode cL_law 467 = .ok (.invokevirtual 52, 3) := by decide +kernel
theorem dL_law_470 : decode cL_law 470 = .ok (.if_icmp .eq 490, 3) := by decide +kernel
theorem dL_law_473 : decode cL_law 473 = .ok (.iconst 0, 1) := by decide +kernel
theorem dL_law_474 : decode cL_law 474 = .ok (.ireturn, 1) := by decide +kernel
theorem dL_law_475 : decode cL_law 475 = .ok (.aload_n 1, 1) := by decide +kernel
theorem dL_law_476 : decode cL_law 476 = .ok (.aload_n 0, 1) := by decide +kernel
theorem dL_law_477 : decode cL_law 477 = .ok (.iload_n 3, 1) := by decide +kernel
theorem dL_law_478 : decode cL_law 478 = .ok (.iconst 1, 1) := by decide +kernel
theorem dL_law_479 : decode cL_law 479 = .ok (.iadd, 1) := by decide +kernel
theorem dL_law_480 : decode cL_law 480 = .ok (.iaload, 1) := by decide +kernel
theorem dL_law_481 : decode cL_law 481 = .ok (.invokevirtual 53, 3) := by decide +kernel
theorem dL_law_484 : decode cL_law 484 = .ok (.aload_n 2, 1) := by decide +kernel
theorem dL_law_485 : decode cL_law 485 = .ok (.aload_n 0, 1) := by decide +kernel
theorem dL_law_486 : decode cL_law 486 = .ok (.iload_n 3, 1) := by decide +kernel
theorem dL_law_487 : decode cL_law 487 = .ok (.iconst 1, 1) := by decide +kernel
theorem dL_law_488 : decode cL_law 488 = .ok (.iadd, 1) := by decide +kernel
theorem dL_law_489 : decode cL_law 489 = .ok (.iaload, 1) := by decide +kernel
theorem dL_law_490 : decode cL_law 490 = .ok (.invokevirtual 56, 3) := by decide +kernel
theorem dL_law_493 : decode cL_law 493 = .ok (.if_icmp .eq 467, 3) := by decide +kernel
theorem dL_law_496 : decode cL_law 496 = .ok (.iconst 0, 1) := by decide +kernel
theorem dL_law_497 : decode cL_law 497 = .ok (.ireturn, 1) := by decide +kernel
theorem dL_law_498 : decode cL_law 498 = .ok (.aload_n 1, 1) := by decide +kernel
theorem dL_law_499 : decode cL_law 499 = .ok (.aload_n 0, 1) := by decide +kernel
theorem dL_law_500 : decode cL_law 500 = .ok (.iload_n 3, 1) := by decide +kernel
theorem dL_law_501 : decode cL_law 501 = .ok (.iconst 1, 1) := by decide +kernel
theorem dL_law_502 : decode cL_law 502 = .ok (.iadd, 1) := by decide +kernel
theorem dL_law_503 : decode cL_law 503 = .ok (.iaload, 1) := by decide +kernel
theorem dL_law_504 : decode cL_law 504 = .ok (.aload_n 0, 1) := by decide +kernel
theorem dL_law_505 : decode cL_law 505 = .ok (.iload_n 3, 1) := by decide +kernel
theorem dL_law_506 : decode cL_law 506 = .ok (.iconst 2, 1) := by decide +kernel
theorem dL_law_507 : decode cL_law 507 = .ok (.iadd, 1) := by decide +kernel
theorem dL_law_508 : decode cL_law 508 = .ok (.iaload, 1) := by decide +kernel
theorem dL_law_509 : decode cL_law 509 = .ok (.invokevirtual 57, 3) := by decide +kernel
theorem dL_law_512 : decode cL_law 512 = .ok (.aload_n 2, 1) := by decide +kernel
theorem dL_law_513 : decode cL_law 513 = .ok (.aload_n 0, 1) := by decide +kernel
theorem dL_law_514 : decode cL_law 514 = .ok (.iload_n 3, 1) := by decide +kernel
theorem dL_law_515 : decode cL_law 515 = .ok (.iconst 1, 1) := by decide +kernel
theorem dL_law_516 : decode cL_law 516 = .ok (.iadd, 1) := by decide +kernel
theorem dL_law_517 : decode cL_law 517 = .ok (.iaload, 1) := by decide +kernel
theorem dL_law_518 : decode cL_law 518 = .ok (.aload_n 0, 1) := by decide +kernel
theorem dL_law_519 : decode cL_law 519 = .ok (.iload_n 3, 1) := by decide +kernel
theorem dL_law_520 : decode cL_law 520 = .ok (.iconst 2, 1) := by decide +kernel
theorem dL_law_521 : decode cL_law 521 = .ok (.iadd, 1) := by decide +kernel
theorem dL_law_522 : decode cL_law 522 = .ok (.iaload, 1) := by decide +kernel
theorem dL_law_523 : decode cL_law 523 = .ok (.invokevirtual 60, 3) := by decide +kernel
theorem dL_law_526 : decode cL_law 526 = .ok (.if_icmp .eq 434, 3) := by decide +kernel
theorem dL_law_529 : decode cL_law 529 = .ok (.iconst 0, 1) := by decide +kernel
theorem dL_law_530 : decode cL_law 530 = .ok (.ireturn, 1) := by decide +kernel
theorem dL_law_531 : decode cL_law 531 = .ok (.aload_n 1, 1) := by decide +kernel
theorem dL_law_532 : decode cL_law 532 = .ok (.aload_n 0, 1) := by decide +kernel
theorem dL_law_533 : decode cL_law 533 = .ok (.iload_n 3, 1) := by decide +kernel
theorem dL_law_534 : decode cL_law 534 = .ok (.iconst 1, 1) := by decide +kernel
theorem dL_law_535 : decode cL_law 535 = .ok (.iadd, 1) := by decide +kernel
theorem dL_law_536 : decode cL_law 536 = .ok (.iaload, 1) := by decide +kernel
theorem dL_law_537 : decode cL_law 537 = .ok (.aload_n 0, 1) := by decide +kernel
theorem dL_law_538 : decode cL_law 538 = .ok (.iload_n 3, 1) := by decide +kernel
theorem dL_law_539 : decode cL_law 539 = .ok (.iconst 2, 1) := by decide +kernel
theorem dL_law_540 : decode cL_law 540 = .ok (.iadd, 1) := by decide +kernel
theorem dL_law_541 : decode cL_law 541 = .ok (.iaload, 1) := by decide +kernel
theorem dL_law_542 : decode cL_law 542 = .ok (.aload_n 0, 1) := by decide +kernel
theorem dL_law_543 : decode cL_law 543 = .ok (.iload_n 3, 1) := by decide +kernel
theorem dL_law_544 : decode cL_law 544 = .ok (.iconst 3, 1) := by decide +kernel
theorem dL_law_545 : decode cL_law 545 = .ok (.iadd, 1) := by decide +kernel
theorem dL_law_546 : decode cL_law 546 = .ok (.iaload, 1) := by decide +kernel
theorem dL_law_547 : decode cL_law 547 = .ok (.invokevirtual 61, 3) := by decide +kernel
theorem dL_law_550 : decode cL_law 550 = .ok (.aload_n 2, 1) := by decide +kernel
theorem dL_law_551 : decode cL_law 551 = .ok (.aload_n 0, 1) := by decide +kernel
theorem dL_law_552 : decode cL_law 552 = .ok (.iload_n 3, 1) := by decide +kernel
theorem dL_law_553 : decode cL_law 553 = .ok (.iconst 1, 1) := by decide +kernel
theorem dL_law_554 : decode cL_law 554 = .ok (.iadd, 1) := by decide +kernel
theorem dL_law_555 : decode cL_law 555 = .ok (.iaload, 1) := by decide +kernel
theorem dL_law_556 : decode cL_law 556 = .ok (.aload_n 0, 1) := by decide +kernel
theorem dL_law_557 : decode cL_law 557 = .ok (.iload_n 3, 1) := by decide +kernel
theorem dL_law_558 : decode cL_law 558 = .ok (.iconst 2, 1) := by decide +kernel
theorem dL_law_559 : decode cL_law 559 = .ok (.iadd, 1) := by decide +kernel
theorem dL_law_560 : decode cL_law 560 = .ok (.iaload, 1) := by decide +kernel
theorem dL_law_561 : decode cL_law 561 = .ok (.aload_n 0, 1) := by decide +kernel
theorem dL_law_562 : decode cL_law 562 = .ok (.iload_n 3, 1) := by decide +kernel
theorem dL_law_563 : decode cL_law 563 = .ok (.iconst 3, 1) := by decide +kernel
theorem dL_law_564 : decode cL_law 564 = .ok (.iadd, 1) := by decide +kernel
theorem dL_law_565 : decode cL_law 565 = .ok (.iaload, 1) := by decide +kernel
theorem dL_law_566 : decode cL_law 566 = .ok (.invokevirtual 64, 3) := by decide +kernel
theorem dL_law_569 : decode cL_law 569 = .ok (.if_icmp .eq 391, 3) := by decide +kernel
theorem dL_law_572 : decode cL_law 572 = .ok (.iconst 0, 1) := by decide +kernel
theorem dL_law_573 : decode cL_law 573 = .ok (.ireturn, 1) := by decide +kernel
theorem dL_law_574 : decode cL_law 574 = .ok (.aload_n 1, 1) := by decide +kernel
theorem dL_law_575 : decode cL_law 575 = .ok (.aload_n 0, 1) := by decide +kernel
theorem dL_law_576 : decode cL_law 576 = .ok (.iload_n 3, 1) := by decide +kernel
theorem dL_law_577 : decode cL_law 577 = .ok (.iconst 1, 1) := by decide +kernel
theorem dL_law_578 : decode cL_law 578 = .ok (.iadd, 1) := by decide +kernel
theorem dL_law_579 : decode cL_law 579 = .ok (.iaload, 1) := by decide +kernel
theorem dL_law_580 : decode cL_law 580 = .ok (.aload_n 0, 1) := by decide +kernel
theorem dL_law_581 : decode cL_law 581 = .ok (.iload_n 3, 1) := by decide +kernel
theorem dL_law_582 : decode cL_law 582 = .ok (.iconst 2, 1) := by decide +kernel
theorem dL_law_583 : decode cL_law 583 = .ok (.iadd, 1) := by decide +kernel
theorem dL_law_584 : decode cL_law 584 = .ok (.iaload, 1) := by decide +kernel
theorem dL_law_585 : decode cL_law 585 = .ok (.invokevirtual 65, 3) := by decide +kernel
theorem dL_law_588 : decode cL_law 588 = .ok (.aload_n 2, 1) := by decide +kernel
theorem dL_law_589 : decode cL_law 589 = .ok (.aload_n 0, 1) := by decide +kernel
theorem dL_law_590 : decode cL_law 590 = .ok (.iload_n 3, 1) := by decide +kernel
theorem dL_law_591 : decode cL_law 591 = .ok (.iconst 1, 1) := by decide +kernel
theorem dL_law_592 : decode cL_law 592 = .ok (.iadd, 1) := by decide +kernel
theorem dL_law_593 : decode cL_law 593 = .ok (.iaload, 1) := by decide +kernel
theorem dL_law_594 : decode cL_law 594 = .ok (.aload_n 0, 1) := by decide +kernel
theorem dL_law_595 : decode cL_law 595 = .ok (.iload_n 3, 1) := by decide +kernel
theorem dL_law_596 : decode cL_law 596 = .ok (.iconst 2, 1) := by decide +kernel
theorem dL_law_597 : decode cL_law 597 = .ok (.iadd, 1) := by decide +kernel
theorem dL_law_598 : decode cL_law 598 = .ok (.iaload, 1) := by decide +kernel
theorem dL_law_599 : decode cL_law 599 = .ok (.invokevirtual 68, 3) := by decide +kernel
theorem dL_law_602 : decode cL_law 602 = .ok (.if_icmp .eq 358, 3) := by decide +kernel
theorem dL_law_605 : decode cL_law 605 = .ok (.iconst 0, 1) := by decide +kernel
theorem dL_law_606 : decode cL_law 606 = .ok (.ireturn, 1) := by decide +kernel
theorem dL_law_607 : decode cL_law 607 = .ok (.aload_n 1, 1) := by decide +kernel
theorem dL_law_608 : decode cL_law 608 = .ok (.invokevirtual 69, 3) := by decide +kernel
theorem dL_law_611 : decode cL_law 611 = .ok (.aload_n 2, 1) := by decide +kernel
theorem dL_law_612 : decode cL_law 612 = .ok (.invokevirtual 73, 3) := by decide +kernel
theorem dL_law_615 : decode cL_law 615 = .ok (.if_icmp .eq 345, 3) := by decide +kernel
theorem dL_law_618 : decode cL_law 618 = .ok (.iconst 0, 1) := by decide +kernel
theorem dL_law_619 : decode cL_law 619 = .ok (.ireturn, 1) := by decide +kernel
theorem dL_law_620 : decode cL_law 620 = .ok (.aload_n 1, 1) := by decide +kernel
theorem dL_law_621 : decode cL_law 621 = .ok (.invokevirtual 74, 3) := by decide +kernel
theorem dL_law_624 : decode cL_law 624 = .ok (.aload_n 2, 1) := by decide +kernel
theorem dL_law_625 : decode cL_law 625 = .ok (.invokevirtual 77, 3) := by decide +kernel
theorem dL_law_628 : decode cL_law 628 = .ok (.if_icmp .eq 332, 3) := by decide +kernel
theorem dL_law_631 : decode cL_law 631 = .ok (.iconst 0, 1) := by decide +kernel
theorem dL_law_632 : decode cL_law 632 = .ok (.ireturn, 1) := by decide +kernel
theorem dL_law_633 : decode cL_law 633 = .ok (.aload_n 1, 1) := by decide +kernel
theorem dL_law_634 : decode cL_law 634 = .ok (.invokevirtual 78, 3) := by decide +kernel
theorem dL_law_637 : decode cL_law 637 = .ok (.aload_n 2, 1) := by decide +kernel
theorem dL_law_638 : decode cL_law 638 = .ok (.invokevirtual 81, 3) := by decide +kernel
theorem dL_law_641 : decode cL_law 641 = .ok (.if_icmp .eq 319, 3) := by decide +kernel
theorem dL_law_644 : decode cL_law 644 = .ok (.iconst 0, 1) := by decide +kernel
theorem dL_law_645 : decode cL_law 645 = .ok (.ireturn, 1) := by decide +kernel
theorem dL_law_646 : decode cL_law 646 = .ok (.aload_n 1, 1) := by decide +kernel
theorem dL_law_647 : decode cL_law 647 = .ok (.aload_n 0, 1) := by decide +kernel
theorem dL_law_648 : decode cL_law 648 = .ok (.iload_n 3, 1) := by decide +kernel
theorem dL_law_649 : decode cL_law 649 = .ok (.iconst 1, 1) := by decide +kernel
theorem dL_law_650 : decode cL_law 650 = .ok (.iadd, 1) := by decide +kernel
theorem dL_law_651 : decode cL_law 651 = .ok (.iaload, 1) := by decide +kernel
theorem dL_law_652 : decode cL_law 652 = .ok (.aload_n 0, 1) := by decide +kernel
theorem dL_law_653 : decode cL_law 653 = .ok (.iload_n 3, 1) := by decide +kernel
theorem dL_law_654 : decode cL_law 654 = .ok (.iconst 2, 1) := by decide +kernel
theorem dL_law_655 : decode cL_law 655 = .ok (.iadd, 1) := by decide +kernel
theorem dL_law_656 : decode cL_law 656 = .ok (.iaload, 1) := by decide +kernel
theorem dL_law_657 : decode cL_law 657 = .ok (.invokevirtual 82, 3) := by decide +kernel
theorem dL_law_660 : decode cL_law 660 = .ok (.aload_n 2, 1) := by decide +kernel
theorem dL_law_661 : decode cL_law 661 = .ok (.aload_n 0, 1) := by decide +kernel
theorem dL_law_662 : decode cL_law 662 = .ok (.iload_n 3, 1) := by decide +kernel
theorem dL_law_663 : decode cL_law 663 = .ok (.iconst 1, 1) := by decide +kernel
theorem dL_law_664 : decode cL_law 664 = .ok (.iadd, 1) := by decide +kernel
theorem dL_law_665 : decode cL_law 665 = .ok (.iaload, 1) := by decide +kernel
theorem dL_law_666 : decode cL_law 666 = .ok (.aload_n 0, 1) := by decide +kernel
theorem dL_law_667 : decode cL_law 667 = .ok (.iload_n 3, 1) := by decide +kernel
theorem dL_law_668 : decode cL_law 668 = .ok (.iconst 2, 1) := by decide +kernel
theorem dL_law_669 : decode cL_law 669 = .ok (.iadd, 1) := by decide +kernel
theorem dL_law_670 : decode cL_law 670 = .ok (.iaload, 1) := by decide +kernel
theorem dL_law_671 : decode cL_law 671 = .ok (.invokevirtual 85, 3) := by decide +kernel
theorem dL_law_674 : decode cL_law 674 = .ok (.if_icmp .eq 286, 3) := by decide +kernel
theorem dL_law_677 : decode cL_law 677 = .ok (.iconst 0, 1) := by decide +kernel
theorem dL_law_678 : decode cL_law 678 = .ok (.ireturn, 1) := by decide +kernel
theorem dL_law_679 : decode cL_law 679 = .ok (.aload_n 1, 1) := by decide +kernel
theorem dL_law_680 : decode cL_law 680 = .ok (.aload_n 0, 1) := by decide +kernel
theorem dL_law_681 : decode cL_law 681 = .ok (.iload_n 3, 1) := by decide +kernel
theorem dL_law_682 : decode cL_law 682 = .ok (.iconst 1, 1) := by decide +kernel
theorem dL_law_683 : decode cL_law 683 = .ok (.iadd, 1) := by decide +kernel
theorem dL_law_684 : decode cL_law 684 = .ok (.iaload, 1) := by decide +kernel
theorem dL_law_685 : decode cL_law 685 = .ok (.invokevirtual 86, 3) := by decide +kernel
theorem dL_law_688 : decode cL_law 688 = .ok (.aload_n 2, 1) := by decide +kernel
theorem dL_law_689 : decode cL_law 689 = .ok (.aload_n 0, 1) := by decide +kernel
theorem dL_law_690 : decode cL_law 690 = .ok (.iload_n 3, 1) := by decide +kernel
theorem dL_law_691 : decode cL_law 691 = .ok (.iconst 1, 1) := by decide +kernel
theorem dL_law_692 : decode cL_law 692 = .ok (.iadd, 1) := by decide +kernel
theorem dL_law_693 : decode cL_law 693 = .ok (.iaload, 1) := by decide +kernel
theorem dL_law_694 : decode cL_law 694 = .ok (.invokevirtual 89, 3) := by decide +kernel
theorem dL_law_697 : decode cL_law 697 = .ok (.if_icmp .eq 263, 3) := by decide +kernel
theorem dL_law_700 : decode cL_law 700 = .ok (.iconst 0, 1) := by decide +kernel
theorem dL_law_701 : decode cL_law 701 = .ok (.ireturn, 1) := by decide +kernel
theorem dL_law_702 : decode cL_law 702 = .ok (.aload_n 1, 1) := by decide +kernel
theorem dL_law_703 : decode cL_law 703 = .ok (.aload_n 0, 1) := by decide +kernel
theorem dL_law_704 : decode cL_law 704 = .ok (.iload_n 3, 1) := by decide +kernel
theorem dL_law_705 : decode cL_law 705 = .ok (.iconst 1, 1) := by decide +kernel
theorem dL_law_706 : decode cL_law 706 = .ok (.iadd, 1) := by decide +kernel
theorem dL_law_707 : decode cL_law 707 = .ok (.iaload, 1) := by decide +kernel
theorem dL_law_708 : decode cL_law 708 = .ok (.invokevirtual 90, 3) := by decide +kernel
theorem dL_law_711 : decode cL_law 711 = .ok (.aload_n 2, 1) := by decide +kernel
theorem dL_law_712 : decode cL_law 712 = .ok (.aload_n 0, 1) := by decide +kernel
theorem dL_law_713 : decode cL_law 713 = .ok (.iload_n 3, 1) := by decide +kernel
theorem dL_law_714 : decode cL_law 714 = .ok (.iconst 1, 1) := by decide +kernel
theorem dL_law_715 : decode cL_law 715 = .ok (.iadd, 1) := by decide +kernel
theorem dL_law_716 : decode cL_law 716 = .ok (.iaload, 1) := by decide +kernel
theorem dL_law_717 : decode cL_law 717 = .ok (.invokevirtual 94, 3) := by decide +kernel
theorem dL_law_720 : decode cL_law 720 = .ok (.lcmp, 1) := by decide +kernel
theorem dL_law_721 : decode cL_law 721 = .ok (.ifCond .eq 239, 3) := by decide +kernel
theorem dL_law_724 : decode cL_law 724 = .ok (.iconst 0, 1) := by decide +kernel
theorem dL_law_725 : decode cL_law 725 = .ok (.ireturn, 1) := by decide +kernel
theorem dL_law_726 : decode cL_law 726 = .ok (.aload_n 1, 1) := by decide +kernel
theorem dL_law_727 : decode cL_law 727 = .ok (.aload_n 0, 1) := by decide +kernel
theorem dL_law_728 : decode cL_law 728 = .ok (.iload_n 3, 1) := by decide +kernel
theorem dL_law_729 : decode cL_law 729 = .ok (.iconst 1, 1) := by decide +kernel
theorem dL_law_730 : decode cL_law 730 = .ok (.iadd, 1) := by decide +kernel
theorem dL_law_731 : decode cL_law 731 = .ok (.iaload, 1) := by decide +kernel
theorem dL_law_732 : decode cL_law 732 = .ok (.invokevirtual 95, 3) := by decide +kernel
theorem dL_law_735 : decode cL_law 735 = .ok (.aload_n 2, 1) := by decide +kernel
theorem dL_law_736 : decode cL_law 736 = .ok (.aload_n 0, 1) := by decide +kernel
theorem dL_law_737 : decode cL_law 737 = .ok (.iload_n 3, 1) := by decide +kernel
theorem dL_law_738 : decode cL_law 738 = .ok (.iconst 1, 1) := by decide +kernel
theorem dL_law_739 : decode cL_law 739 = .ok (.iadd, 1) := by decide +kernel
theorem dL_law_740 : decode cL_law 740 = .ok (.iaload, 1) := by decide +kernel
theorem dL_law_741 : decode cL_law 741 = .ok (.invokevirtual 98, 3) := by decide +kernel
theorem dL_law_744 : decode cL_law 744 = .ok (.if_icmp .eq 216, 3) := by decide +kernel
theorem dL_law_747 : decode cL_law 747 = .ok (.iconst 0, 1) := by decide +kernel
theorem dL_law_748 : decode cL_law 748 = .ok (.ireturn, 1) := by decide +kernel
theorem dL_law_749 : decode cL_law 749 = .ok (.aload_n 1, 1) := by decide +kernel
theorem dL_law_750 : decode cL_law 750 = .ok (.aload_n 0, 1) := by decide +kernel
theorem dL_law_751 : decode cL_law 751 = .ok (.iload_n 3, 1) := by decide +kernel
theorem dL_law_752 : decode cL_law 752 = .ok (.iconst 1, 1) := by decide +kernel
theorem dL_law_753 : decode cL_law 753 = .ok (.iadd, 1) := by decide +kernel
theorem dL_law_754 : decode cL_law 754 = .ok (.iaload, 1) := by decide +kernel
theorem dL_law_755 : decode cL_law 755 = .ok (.aload_n 0, 1) := by decide +kernel
theorem dL_law_756 : decode cL_law 756 = .ok (.iload_n 3, 1) := by decide +kernel
theorem dL_law_757 : decode cL_law 757 = .ok (.iconst 2, 1) := by decide +kernel
theorem dL_law_758 : decode cL_law 758 = .ok (.iadd, 1) := by decide +kernel
theorem dL_law_759 : decode cL_law 759 = .ok (.iaload, 1) := by decide +kernel
theorem dL_law_760 : decode cL_law 760 = .ok (.invokevirtual 99, 3) := by decide +kernel
theorem dL_law_763 : decode cL_law 763 = .ok (.aload_n 2, 1) := by decide +kernel
theorem dL_law_764 : decode cL_law 764 = .ok (.aload_n 0, 1) := by decide +kernel
theorem dL_law_765 : decode cL_law 765 = .ok (.iload_n 3, 1) := by decide +kernel
theorem dL_law_766 : decode cL_law 766 = .ok (.iconst 1, 1) := by decide +kernel
theorem dL_law_767 : decode cL_law 767 = .ok (.iadd, 1) := by decide +kernel
theorem dL_law_768 : decode cL_law 768 = .ok (.iaload, 1) := by decide +kernel
theorem dL_law_769 : decode cL_law 769 = .ok (.aload_n 0, 1) := by decide +kernel
theorem dL_law_770 : decode cL_law 770 = .ok (.iload_n 3, 1) := by decide +kernel
theorem dL_law_771 : decode cL_law 771 = .ok (.iconst 2, 1) := by decide +kernel
theorem dL_law_772 : decode cL_law 772 = .ok (.iadd, 1) := by decide +kernel
theorem dL_law_773 : decode cL_law 773 = .ok (.iaload, 1) := by decide +kernel
theorem dL_law_774 : decode cL_law 774 = .ok (.invokevirtual 102, 3) := by decide +kernel
theorem dL_law_777 : decode cL_law 777 = .ok (.if_icmp .eq 183, 3) := by decide +kernel
theorem dL_law_780 : decode cL_law 780 = .ok (.iconst 0, 1) := by decide +kernel
theorem dL_law_781 : decode cL_law 781 = .ok (.ireturn, 1) := by decide +kernel
theorem dL_law_782 : decode cL_law 782 = .ok (.aload_n 1, 1) := by decide +kernel
theorem dL_law_783 : decode cL_law 783 = .ok (.aload_n 0, 1) := by decide +kernel
theorem dL_law_784 : decode cL_law 784 = .ok (.iload_n 3, 1) := by decide +kernel
theorem dL_law_785 : decode cL_law 785 = .ok (.iconst 1, 1) := by decide +kernel
theorem dL_law_786 : decode cL_law 786 = .ok (.iadd, 1) := by decide +kernel
theorem dL_law_787 : decode cL_law 787 = .ok (.iaload, 1) := by decide +kernel
theorem dL_law_788 : decode cL_law 788 = .ok (.invokevirtual 103, 3) := by decide +kernel
theorem dL_law_791 : decode cL_law 791 = .ok (.aload_n 2, 1) := by decide +kernel
theorem dL_law_792 : decode cL_law 792 = .ok (.aload_n 0, 1) := by decide +kernel
theorem dL_law_793 : decode cL_law 793 = .ok (.iload_n 3, 1) := by decide +kernel
theorem dL_law_794 : decode cL_law 794 = .ok (.iconst 1, 1) := by decide +kernel
theorem dL_law_795 : decode cL_law 795 = .ok (.iadd, 1) := by decide +kernel
theorem dL_law_796 : decode cL_law 796 = .ok (.iaload, 1) := by decide +kernel
theorem dL_law_797 : decode cL_law 797 = .ok (.invokevirtual 106, 3) := by decide +kernel
theorem dL_law_800 : decode cL_law 800 = .ok (.if_icmp .eq 160, 3) := by decide +kernel
theorem dL_law_803 : decode cL_law 803 = .ok (.iconst 0, 1) := by decide +kernel
theorem dL_law_804 : decode cL_law 804 = .ok (.ireturn, 1) := by decide +kernel
theorem dL_law_805 : decode cL_law 805 = .ok (.aload_n 1, 1) := by decide +kernel
theorem dL_law_806 : decode cL_law 806 = .ok (.aload_n 0, 1) := by decide +kernel
theorem dL_law_807 : decode cL_law 807 = .ok (.iload_n 3, 1) := by decide +kernel
theorem dL_law_808 : decode cL_law 808 = .ok (.iconst 1, 1) := by decide +kernel
theorem dL_law_809 : decode cL_law 809 = .ok (.iadd, 1) := by decide +kernel
theorem dL_law_810 : decode cL_law 810 = .ok (.iaload, 1) := by decide +kernel
theorem dL_law_811 : decode cL_law 811 = .ok (.invokevirtual 107, 3) := by decide +kernel
theorem dL_law_814 : decode cL_law 814 = .ok (.aload_n 2, 1) := by decide +kernel
theorem dL_law_815 : decode cL_law 815 = .ok (.aload_n 0, 1) := by decide +kernel
theorem dL_law_816 : decode cL_law 816 = .ok (.iload_n 3, 1) := by decide +kernel
theorem dL_law_817 : decode cL_law 817 = .ok (.iconst 1, 1) := by decide +kernel
theorem dL_law_818 : decode cL_law 818 = .ok (.iadd, 1) := by decide +kernel
theorem dL_law_819 : decode cL_law 819 = .ok (.iaload, 1) := by decide +kernel
theorem dL_law_820 : decode cL_law 820 = .ok (.invokevirtual 110, 3) := by decide +kernel
theorem dL_law_823 : decode cL_law 823 = .ok (.if_icmp .eq 137, 3) := by decide +kernel
theorem dL_law_826 : decode cL_law 826 = .ok (.iconst 0, 1) := by decide +kernel
theorem dL_law_827 : decode cL_law 827 = .ok (.ireturn, 1) := by decide +kernel
theorem dL_law_828 : decode cL_law 828 = .ok (.aload_n 1, 1) := by decide +kernel
theorem dL_law_829 : decode cL_law 829 = .ok (.aload_n 0, 1) := by decide +kernel
theorem dL_law_830 : decode cL_law 830 = .ok (.iload_n 3, 1) := by decide +kernel
theorem dL_law_831 : decode cL_law 831 = .ok (.iconst 1, 1) := by decide +kernel
theorem dL_law_832 : decode cL_law 832 = .ok (.iadd, 1) := by decide +kernel
theorem dL_law_833 : decode cL_law 833 = .ok (.iaload, 1) := by decide +kernel
theorem dL_law_834 : decode cL_law 834 = .ok (.aload_n 0, 1) := by decide +kernel
theorem dL_law_835 : decode cL_law 835 = .ok (.iload_n 3, 1) := by decide +kernel
theorem dL_law_836 : decode cL_law 836 = .ok (.iconst 2, 1) := by decide +kernel
theorem dL_law_837 : decode cL_law 837 = .ok (.iadd, 1) := by decide +kernel
theorem dL_law_838 : decode cL_law 838 = .ok (.iaload, 1) := by decide +kernel
theorem dL_law_839 : decode cL_law 839 = .ok (.invokevirtual 111, 3) := by decide +kernel
theorem dL_law_842 : decode cL_law 842 = .ok (.aload_n 2, 1) := by decide +kernel
theorem dL_law_843 : decode cL_law 843 = .ok (.aload_n 0, 1) := by decide +kernel
theorem dL_law_844 : decode cL_law 844 = .ok (.iload_n 3, 1) := by decide +kernel
theorem dL_law_845 : decode cL_law 845 = .ok (.iconst 1, 1) := by decide +kernel
theorem dL_law_846 : decode cL_law 846 = .ok (.iadd, 1) := by decide +kernel
theorem dL_law_847 : decode cL_law 847 = .ok (.iaload, 1) := by decide +kernel
theorem dL_law_848 : decode cL_law 848 = .ok (.aload_n 0, 1) := by decide +kernel
theorem dL_law_849 : decode cL_law 849 = .ok (.iload_n 3, 1) := by decide +kernel
theorem dL_law_850 : decode cL_law 850 = .ok (.iconst 2, 1) := by decide +kernel
theorem dL_law_851 : decode cL_law 851 = .ok (.iadd, 1) := by decide +kernel
theorem dL_law_852 : decode cL_law 852 = .ok (.iaload, 1) := by decide +kernel
theorem dL_law_853 : decode cL_law 853 = .ok (.invokevirtual 114, 3) := by decide +kernel
theorem dL_law_856 : decode cL_law 856 = .ok (.if_icmp .eq 104, 3) := by decide +kernel
theorem dL_law_859 : decode cL_law 859 = .ok (.iconst 0, 1) := by decide +kernel
theorem dL_law_860 : decode cL_law 860 = .ok (.ireturn, 1) := by decide +kernel
theorem dL_law_861 : decode cL_law 861 = .ok (.aload_n 1, 1) := by decide +kernel
theorem dL_law_862 : decode cL_law 862 = .ok (.aload_n 0, 1) := by decide +kernel
theorem dL_law_863 : decode cL_law 863 = .ok (.iload_n 3, 1) := by decide +kernel
theorem dL_law_864 : decode cL_law 864 = .ok (.iconst 1, 1) := by decide +kernel
theorem dL_law_865 : decode cL_law 865 = .ok (.iadd, 1) := by decide +kernel
theorem dL_law_866 : decode cL_law 866 = .ok (.iaload, 1) := by decide +kernel
theorem dL_law_867 : decode cL_law 867 = .ok (.invokevirtual 115, 3) := by decide +kernel
theorem dL_law_870 : decode cL_law 870 = .ok (.aload_n 2, 1) := by decide +kernel
theorem dL_law_871 : decode cL_law 871 = .ok (.aload_n 0, 1) := by decide +kernel
theorem dL_law_872 : decode cL_law 872 = .ok (.iload_n 3, 1) := by decide +kernel
theorem dL_law_873 : decode cL_law 873 = .ok (.iconst 1, 1) := by decide +kernel
theorem dL_law_874 : decode cL_law 874 = .ok (.iadd, 1) := by decide +kernel
theorem dL_law_875 : decode cL_law 875 = .ok (.iaload, 1) := by decide +kernel
theorem dL_law_876 : decode cL_law 876 = .ok (.invokevirtual 118, 3) := by decide +kernel
theorem dL_law_879 : decode cL_law 879 = .ok (.if_icmp .eq 81, 3) := by decide +kernel
theorem dL_law_882 : decode cL_law 882 = .ok (.iconst 0, 1) := by decide +kernel
theorem dL_law_883 : decode cL_law 883 = .ok (.ireturn, 1) := by decide +kernel
theorem dL_law_884 : decode cL_law 884 = .ok (.aload_n 1, 1) := by decide +kernel
theorem dL_law_885 : decode cL_law 885 = .ok (.invokevirtual 119, 3) := by decide +kernel
theorem dL_law_888 : decode cL_law 888 = .ok (.aload_n 2, 1) := by decide +kernel
theorem dL_law_889 : decode cL_law 889 = .ok (.invokevirtual 122, 3) := by decide +kernel
theorem dL_law_892 : decode cL_law 892 = .ok (.if_icmp .eq 68, 3) := by decide +kernel
theorem dL_law_895 : decode cL_law 895 = .ok (.iconst 0, 1) := by decide +kernel
theorem dL_law_896 : decode cL_law 896 = .ok (.ireturn, 1) := by decide +kernel
theorem dL_law_897 : decode cL_law 897 = .ok (.aload_n 1, 1) := by decide +kernel
theorem dL_law_898 : decode cL_law 898 = .ok (.invokevirtual 123, 3) := by decide +kernel
theorem dL_law_901 : decode cL_law 901 = .ok (.aload_n 2, 1) := by decide +kernel
theorem dL_law_902 : decode cL_law 902 = .ok (.invokevirtual 126, 3) := by decide +kernel
theorem dL_law_905 : decode cL_law 905 = .ok (.if_icmp .eq 55, 3) := by decide +kernel
theorem dL_law_908 : decode cL_law 908 = .ok (.iconst 0, 1) := by decide +kernel
theorem dL_law_909 : decode cL_law 909 = .ok (.ireturn, 1) := by decide +kernel
theorem dL_law_910 : decode cL_law 910 = .ok (.aload_n 1, 1) := by decide +kernel
theorem dL_law_911 : decode cL_law 911 = .ok (.invokevirtual 127, 3) := by decide +kernel
theorem dL_law_914 : decode cL_law 914 = .ok (.aload_n 2, 1) := by decide +kernel
theorem dL_law_915 : decode cL_law 915 = .ok (.invokevirtual 130, 3) := by decide +kernel
theorem dL_law_918 : decode cL_law 918 = .ok (.if_icmp .eq 42, 3) := by decide +kernel
theorem dL_law_921 : decode cL_law 921 = .ok (.iconst 0, 1) := by decide +kernel
theorem dL_law_922 : decode cL_law 922 = .ok (.ireturn, 1) := by decide +kernel
theorem dL_law_923 : decode cL_law 923 = .ok (.aload_n 1, 1) := by decide +kernel
theorem dL_law_924 : decode cL_law 924 = .ok (.aload_n 0, 1) := by decide +kernel
theorem dL_law_925 : decode cL_law 925 = .ok (.iload_n 3, 1) := by decide +kernel
theorem dL_law_926 : decode cL_law 926 = .ok (.iconst 1, 1) := by decide +kernel
theorem dL_law_927 : decode cL_law 927 = .ok (.iadd, 1) := by decide +kernel
theorem dL_law_928 : decode cL_law 928 = .ok (.iaload, 1) := by decide +kernel
theorem dL_law_929 : decode cL_law 929 = .ok (.invokevirtual 131, 3) := by decide +kernel
theorem dL_law_932 : decode cL_law 932 = .ok (.aload_n 2, 1) := by decide +kernel
theorem dL_law_933 : decode cL_law 933 = .ok (.aload_n 0, 1) := by decide +kernel
theorem dL_law_934 : decode cL_law 934 = .ok (.iload_n 3, 1) := by decide +kernel
theorem dL_law_935 : decode cL_law 935 = .ok (.iconst 1, 1) := by decide +kernel
theorem dL_law_936 : decode cL_law 936 = .ok (.iadd, 1) := by decide +kernel
theorem dL_law_937 : decode cL_law 937 = .ok (.iaload, 1) := by decide +kernel
theorem dL_law_938 : decode cL_law 938 = .ok (.invokevirtual 134, 3) := by decide +kernel
theorem dL_law_941 : decode cL_law 941 = .ok (.if_icmp .eq 19, 3) := by decide +kernel
theorem dL_law_944 : decode cL_law 944 = .ok (.iconst 0, 1) := by decide +kernel
theorem dL_law_945 : decode cL_law 945 = .ok (.ireturn, 1) := by decide +kernel
theorem dL_law_946 : decode cL_law 946 = .ok (.aload_n 1, 1) := by decide +kernel
theorem dL_law_947 : decode cL_law 947 = .ok (.invokevirtual 135, 3) := by decide +kernel
theorem dL_law_950 : decode cL_law 950 = .ok (.aload_n 2, 1) := by decide +kernel
theorem dL_law_951 : decode cL_law 951 = .ok (.invokevirtual 139, 3) := by decide +kernel
theorem dL_law_954 : decode cL_law 954 = .ok (.lcmp, 1) := by decide +kernel
theorem dL_law_955 : decode cL_law 955 = .ok (.ifCond .eq 5, 3) := by decide +kernel
theorem dL_law_958 : decode cL_law 958 = .ok (.iconst 0, 1) := by decide +kernel
theorem dL_law_959 : decode cL_law 959 = .ok (.ireturn, 1) := by decide +kernel
theorem dL_law_960 : decode cL_law 960 = .ok (.iinc 3 5, 3) := by decide +kernel
theorem dL_law_963 : decode cL_law 963 = .ok (.goto (-945), 3) := by decide +kernel
theorem dL_law_966 : decode cL_law 966 = .ok (.iconst 1, 1) := by decide +kernel
theorem dL_law_967 : decode cL_law 967 = .ok (.ireturn, 1) := by decide +kernel
