theorem dX4_then_26 : decode cX4_then 26 = .ok (.ifCond .eq 21, 3) := by decide +kernel
theorem dX4_then_29 : decode cX4_then 29 = .ok (.aload_n 0, 1) := by decide +kernel
theorem dX4_then_30 : decode cX4_then 30 = .ok (.getfield 11, 3) := by decide +kernel
theorem dX4_then_33 : decode cX4_then 33 = .ok (.iload_n 1, 1) := by decide +kernel
theorem dX4_then_34 : decode cX4_then 34 = .ok (.bipush 8, 2) := by decide +kernel
theorem dX4_then_36 : decode cX4_then 36 = .ok (.imul, 1) := by decide +kernel
theorem dX4_then_37 : decode cX4_then 37 = .ok (.iload_n 2, 1) := by decide +kernel
theorem dX4_then_38 : decode cX4_then 38 = .ok (.iadd, 1) := by decide +kernel
theorem dX4_then_39 : decode cX4_then 39 = .ok (.iconst 4, 1) := by decide +kernel
theorem dX4_then_40 : decode cX4_then 40 = .ok (.imul, 1) := by decide +kernel
theorem dX4_then_41 : decode cX4_then 41 = .ok (.iload_n 3, 1) := by decide +kernel
theorem dX4_then_42 : decode cX4_then 42 = .ok (.iadd, 1) := by decide +kernel
theorem dX4_then_43 : decode cX4_then 43 = .ok (.iaload, 1) := by decide +kernel
theorem dX4_then_44 : decode cX4_then 44 = .ok (.goto 4, 3) := by decide +kernel
theorem dX4_then_47 : decode cX4_then 47 = .ok (.iconst (-1), 1) := by decide +kernel
theorem dX4_then_48 : decode cX4_then 48 = .ok (.ireturn, 1) := by decide +kernel
theorem dX4_lay_0 : decode cX4_lay 0 = .ok (.aload_n 0, 1) := by decide +kernel
theorem dX4_lay_1 : decode cX4_lay 1 = .ok (.iload_n 1, 1) := by decide +kernel
theorem dX4_lay_2 : decode cX4_lay 2 = .ok (.iload_n 2, 1) := by decide +kernel
theorem dX4_lay_3 : decode cX4_lay 3 = .ok (.iconst 0, 1) := by decide +kernel
theorem dX4_lay_4 : decode cX4_lay 4 = .ok (.invokevirtual 33, 3) := by decide +kernel
theorem dX4_lay_7 : decode cX4_lay 7 = .ok (.iconst (-1), 1) := by decide +kernel
theorem dX4_lay_8 : decode cX4_lay 8 = .ok (.if_icmp .eq 7, 3) := by decide +kernel
theorem dX4_lay_11 : decode cX4_lay 11 = .ok (.iconst 1, 1) := by decide +kernel
theorem dX4_lay_12 : decode cX4_lay 12 = .ok (.goto 4, 3) := by decide +kernel
theorem dX4_lay_15 : decode cX4_lay 15 = .ok (.iconst 0, 1) := by decide +kernel
theorem dX4_lay_16 : decode cX4_lay 16 = .ok (.ireturn, 1) := by decide +kernel
theorem dX4_againstUse_0 : decode cX4_againstUse 0 = .ok (.iload_n 1, 1) := by decide +kernel
theorem dX4_againstUse_1 : decode cX4_againstUse 1 = .ok (.iconst 0, 1) := by decide +kernel
theorem dX4_againstUse_2 : decode cX4_againstUse 2 = .ok (.iconst 2, 1) := by decide +kernel
theorem dX4_againstUse_3 : decode cX4_againstUse 3 = .ok (.invokestatic 25, 3) := by decide +kernel
theorem dX4_againstUse_6 : decode cX4_againstUse 6 = .ok (.ifCond .ne 6, 3) := by decide +kernel
theorem dX4_againstUse_9 : decode cX4_againstUse 9 = .ok (.bipush (-2), 2) := by decide +kernel
theorem dX4_againstUse_11 : decode cX4_againstUse 11 = .ok (.ireturn, 1) := by decide +kernel
theorem dX4_againstUse_12 : decode cX4_againstUse 12 = .ok (.aload_n 0, 1) := by decide +kernel
theorem dX4_againstUse_13 : decode cX4_againstUse 13 = .ok (.getfield 15, 3) := by decide +kernel
theorem dX4_againstUse_16 : decode cX4_againstUse 16 = .ok (.iload_n 1, 1) := by decide +kernel
theorem dX4_againstUse_17 : decode cX4_againstUse 17 = .ok (.ishr, 1) := by decide +kernel
theorem dX4_againstUse_18 : decode cX4_againstUse 18 = .ok (.iconst 1, 1) := by decide +kernel
theorem dX4_againstUse_19 : decode cX4_againstUse 19 = .ok (.iand, 1) := by decide +kernel
theorem dX4_againstUse_20 : decode cX4_againstUse 20 = .ok (.iconst 1, 1) := by decide +kernel
theorem dX4_againstUse_21 : decode cX4_againstUse 21 = .ok (.if_icmp .ne 7, 3) := by decide +kernel
theorem dX4_againstUse_24 : decode cX4_againstUse 24 = .ok (.iconst 0, 1) := by decide +kernel
theorem dX4_againstUse_25 : decode cX4_againstUse 25 = .ok (.goto 5, 3) := by decide +kernel
theorem dX4_againstUse_28 : decode cX4_againstUse 28 = .ok (.bipush (-3), 2) := by decide +kernel
theorem dX4_againstUse_30 : decode cX4_againstUse 30 = .ok (.ireturn, 1) := by decide +kernel
theorem dX4_keep_0 : decode cX4_keep 0 = .ok (.iconst 0, 1) := by decide +kernel
theorem dX4_keep_1 : decode cX4_keep 1 = .ok (.istore_n 3, 1) := by decide +kernel
theorem dX4_keep_2 : decode cX4_keep 2 = .ok (.iload_n 3, 1) := by decide +kernel
theorem dX4_keep_3 : decode cX4_keep 3 = .ok (.bipush 8, 2) := by decide +kernel
theorem dX4_keep_5 : decode cX4_keep 5 = .ok (.if_icmp .ge 83, 3) := by decide +kernel
theorem dX4_keep_8 : decode cX4_keep 8 = .ok (.iload_n 2, 1) := by decide +kernel
theorem dX4_keep_9 : decode cX4_keep 9 = .ok (.iload_n 3, 1) := by decide +kernel
theorem dX4_keep_10 : decode cX4_keep 10 = .ok (.invokestatic 29, 3) := by decide +kernel
theorem dX4_keep_13 : decode cX4_keep 13 = .ok (.ifCond .eq 75, 3) := by decide +kernel
theorem dX4_keep_16 : decode cX4_keep 16 = .ok (.iload_n 2, 1) := by decide +kernel
theorem dX4_keep_17 : decode cX4_keep 17 = .ok (.bipush 8, 2) := by decide +kernel
theorem dX4_keep_19 : decode cX4_keep 19 = .ok (.imul, 1) := by decide +kernel
theorem dX4_keep_20 : decode cX4_keep 20 = .ok (.iload_n 3, 1) := by decide +kernel
theorem dX4_keep_21 : decode cX4_keep 21 = .ok (.iadd, 1) := by decide +kernel
theorem dX4_keep_22 : decode cX4_keep 22 = .ok (.iconst 4, 1) := by decide +kernel
theorem dX4_keep_23 : decode cX4_keep 23 = .ok (.imul, 1) := by decide +kernel
theorem dX4_keep_24 : decode cX4_keep 24 = .ok (.istore 4, 2) := by decide +kernel
theorem dX4_keep_26 : decode cX4_keep 26 = .ok (.aload_n 0, 1) := by decide +kernel
theorem dX4_keep_27 : decode cX4_keep 27 = .ok (.getfield 11, 3) := by decide +kernel
theorem dX4_keep_30 : decode cX4_keep 30 = .ok (.iload 4, 2) := by decide +kernel
theorem dX4_keep_32 : decode cX4_keep 32 = .ok (.iconst 0, 1) := by decide +kernel
theorem dX4_keep_33 : decode cX4_keep 33 = .ok (.iadd, 1) := by decide +kernel
theorem dX4_keep_34 : decode cX4_keep 34 = .ok (.aload_n 1, 1) := by decide +kernel
theorem dX4_keep_35 : decode cX4_keep 35 = .ok (.iload_n 3, 1) := by decide +kernel
theorem dX4_keep_36 : decode cX4_keep 36 = .ok (.invokevirtual 37, 3) := by decide +kernel
theorem dX4_keep_39 : decode cX4_keep 39 = .ok (.iastore, 1) := by decide +kernel
theorem dX4_keep_40 : decode cX4_keep 40 = .ok (.aload_n 0, 1) := by decide +kernel
theorem dX4_keep_41 : decode cX4_keep 41 = .ok (.getfield 11, 3) := by decide +kernel
theorem dX4_keep_44 : decode cX4_keep 44 = .ok (.iload 4, 2) := by decide +kernel
theorem dX4_keep_46 : decode cX4_keep 46 = .ok (.iconst 1, 1) := by decide +kernel
theorem dX4_keep_47 : decode cX4_keep 47 = .ok (.iadd, 1) := by decide +kernel
theorem dX4_keep_48 : decode cX4_keep 48 = .ok (.aload_n 1, 1) := by decide +kernel
theorem dX4_keep_49 : decode cX4_keep 49 = .ok (.iload_n 3, 1) := by decide +kernel
theorem dX4_keep_50 : decode cX4_keep 50 = .ok (.invokevirtual 43, 3) := by decide +kernel
theorem dX4_keep_53 : decode cX4_keep 53 = .ok (.iastore, 1) := by decide +kernel
theorem dX4_keep_54 : decode cX4_keep 54 = .ok (.aload_n 0, 1) := by decide +kernel
theorem dX4_keep_55 : decode cX4_keep 55 = .ok (.getfield 11, 3) := by decide +kernel
theorem dX4_keep_58 : decode cX4_keep 58 = .ok (.iload 4, 2) := by decide +kernel
theorem dX4_keep_60 : decode cX4_keep 60 = .ok (.iconst 2, 1) := by decide +kernel
theorem dX4_keep_61 : decode cX4_keep 61 = .ok (.iadd, 1) := by decide +kernel
theorem dX4_keep_62 : decode cX4_keep 62 = .ok (.aload_n 1, 1) := by decide +kernel
theorem dX4_keep_63 : decode cX4_keep 63 = .ok (.iload_n 3, 1) := by decide +kernel
theorem dX4_keep_64 : decode cX4_keep 64 = .ok (.invokevirtual 46, 3) := by decide +kernel
theorem dX4_keep_67 : decode cX4_keep 67 = .ok (.iastore, 1) := by decide +kernel
theorem dX4_keep_68 : decode cX4_keep 68 = .ok (.aload_n 0, 1) := by decide +kernel
theorem dX4_keep_69 : decode cX4_keep 69 = .ok (.getfield 11, 3) := by decide +kernel
theorem dX4_keep_72 : decode cX4_keep 72 = .ok (.iload 4, 2) := by decide +kernel
theorem dX4_keep_74 : decode cX4_keep 74 = .ok (.iconst 3, 1) := by decide +kernel
theorem dX4_keep_75 : decode cX4_keep 75 = .ok (.iadd, 1) := by decide +kernel
theorem dX4_keep_76 : decode cX4_keep 76 = .ok (.aload_n 1, 1) := by decide +kernel
theorem dX4_keep_77 : decode cX4_keep 77 = .ok (.iload_n 3, 1) := by decide +kernel
theorem dX4_keep_78 : decode cX4_keep 78 = .ok (.invokevirtual 49, 3) := by decide +kernel
theorem dX4_keep_81 : decode cX4_keep 81 = .ok (.iastore, 1) := by decide +kernel
theorem dX4_keep_82 : decode cX4_keep 82 = .ok (.iinc 3 1, 3) := by decide +kernel
theorem dX4_keep_85 : decode cX4_keep 85 = .ok (.goto (-83), 3) := by decide +kernel
theorem dX4_keep_88 : decode cX4_keep 88 = .ok (.aload_n 0, 1) := by decide +kernel
theorem dX4_keep_89 : decode cX4_keep 89 = .ok (.dup, 1) := by decide +kernel
theorem dX4_keep_90 : decode cX4_keep 90 = .ok (.getfield 15, 3) := by decide +kernel
theorem dX4_keep_93 : decode cX4_keep 93 = .ok (.iconst 1, 1) := by decide +kernel
theorem dX4_keep_94 : decode cX4_keep 94 = .ok (.iload_n 2, 1) := by decide +kernel
theorem dX4_keep_95 : decode cX4_keep 95 = .ok (.ishl, 1) := by decide +kernel
theorem dX4_keep_96 : decode cX4_keep 96 = .ok (.ior, 1) := by decide +kernel
theorem dX4_keep_97 : decode cX4_keep 97 = .ok (.putfield 15, 3) := by decide +kernel
theorem dX4_keep_100 : decode cX4_keep 100 = .ok (.aload_n 1, 1) := by decide +kernel
theorem dX4_keep_101 : decode cX4_keep 101 = .ok (.invokevirtual 52, 3) := by decide +kernel
theorem dX4_keep_104 : decode cX4_keep 104 = .ok (.ireturn, 1) := by decide +kernel
theorem dX4_layAgain_0 : decode cX4_layAgain 0 = .ok (.iconst 0, 1) := by decide +kernel
theorem dX4_layAgain_1 : decode cX4_layAgain 1 = .ok (.istore_n 3, 1) := by decide +kernel
theorem dX4_layAgain_2 : decode cX4_layAgain 2 = .ok (.iload_n 3, 1) := by decide +kernel
theorem dX4_layAgain_3 : decode cX4_layAgain 3 = .ok (.aload_n 1, 1) := by decide +kernel
theorem dX4_layAgain_4 : decode cX4_layAgain 4 = .ok (.getfield 56, 3) := by decide +kernel
theorem dX4_layAgain_7 : decode cX4_layAgain 7 = .ok (.if_icmp .ge 28, 3) := by decide +kernel
theorem dX4_layAgain_10 : decode cX4_layAgain 10 = .ok (.aload_n 1, 1) := by decide +kernel
theorem dX4_layAgain_11 : decode cX4_layAgain 11 = .ok (.iload_n 3, 1) := by decide +kernel
theorem dX4_layAgain_12 : decode cX4_layAgain 12 = .ok (.aload_n 0, 1) := by decide +kernel
theorem dX4_layAgain_13 : decode cX4_layAgain 13 = .ok (.iload_n 2, 1) := by decide +kernel
theorem dX4_layAgain_14 : decode cX4_layAgain 14 = .ok (.iload_n 3, 1) := by decide +kernel
theorem dX4_layAgain_15 : decode cX4_layAgain 15 = .ok (.iconst 0, 1) := by decide +kernel
theorem dX4_layAgain_16 : decode cX4_layAgain 16 = .ok (.invokevirtual 33, 3) := by decide +kernel
theorem dX4_layAgain_19 : decode cX4_layAgain 19 = .ok (.aload_n 0, 1) := by decide +kernel
theorem dX4_layAgain_20 : decode cX4_layAgain 20 = .ok (.iload_n 2, 1) := by decide +kernel
theorem dX4_layAgain_21 : decode cX4_layAgain 21 = .ok (.iload_n 3, 1) := by decide +kernel
theorem dX4_layAgain_22 : decode cX4_layAgain 22 = .ok (.iconst 1, 1) := by decide +kernel
theorem dX4_layAgain_23 : decode cX4_layAgain 23 = .ok (.invokevirtual 33, 3) := by decide +kernel
theorem dX4_layAgain_26 : decode cX4_layAgain 26 = .ok (.invokevirtual 59, 3) := by decide +kernel
theorem dX4_layAgain_29 : decode cX4_layAgain 29 = .ok (.iinc 3 1, 3) := by decide +kernel
theorem dX4_layAgain_32 : decode cX4_layAgain 32 = .ok (.goto (-30), 3) := by decide +kernel
theorem dX4_layAgain_35 : decode cX4_layAgain 35 = .ok (.aload_n 1, 1) := by decide +kernel
theorem dX4_layAgain_36 : decode cX4_layAgain 36 = .ok (.invokevirtual 52, 3) := by decide +kernel
theorem dX4_layAgain_39 : decode cX4_layAgain 39 = .ok (.ireturn, 1) := by decide +kernel
theorem dX4_isAlike_0 : decode cX4_isAlike 0 = .ok (.aload_n 1, 1) := by decide +kernel
theorem dX4_isAlike_1 : decode cX4_isAlike 1 = .ok (.iload_n 3, 1) := by decide +kernel
theorem dX4_isAlike_2 : decode cX4_isAlike 2 = .ok (.invokevirtual 37, 3) := by decide +kernel
theorem dX4_isAlike_5 : decode cX4_isAlike 5 = .ok (.aload_n 0, 1) := by decide +kernel
theorem dX4_isAlike_6 : decode cX4_isAlike 6 = .ok (.iload_n 2, 1) := by decide +kernel
theorem dX4_isAlike_7 : decode cX4_isAlike 7 = .ok (.iload_n 3, 1) := by decide +kernel
theorem dX4_isAlike_8 : decode cX4_isAlike 8 = .ok (.iconst 0, 1) := by decide +kernel
theorem dX4_isAlike_9 : decode cX4_isAlike 9 = .ok (.invokevirtual 33, 3) := by decide +kernel
theorem dX4_isAlike_12 : decode cX4_isAlike 12 = .ok (.if_icmp .ne 52, 3) := by decide +kernel
theorem dX4_isAlike_15 : decode cX4_isAlike 15 = .ok (.aload_n 1, 1) := by decide +kernel
theorem dX4_isAlike_16 : decode cX4_isAlike 16 = .ok (.iload_n 3, 1) := by decide +kernel
theorem dX4_isAlike_17 : decode cX4_isAlike 17 = .ok (.invokevirtual 43, 3) := by decide +kernel
theorem dX4_isAlike_20 : decode cX4_isAlike 20 = .ok (.aload_n 0, 1) := by decide +kernel
theorem dX4_isAlike_21 : decode cX4_isAlike 21 = .ok (.iload_n 2, 1) := by decide +kernel
theorem dX4_isAlike_22 : decode cX4_isAlike 22 = .ok (.iload_n 3, 1) := by decide +kernel
theorem dX4_isAlike_23 : decode cX4_isAlike 23 = .ok (.iconst 1, 1) := by decide +kernel
theorem dX4_isAlike_24 : decode cX4_isAlike 24 = .ok (.invokevirtual 33, 3) := by decide +kernel
theorem dX4_isAlike_27 : decode cX4_isAlike 27 = .ok (.if_icmp .ne 37, 3) := by decide +kernel
theorem dX4_isAlike_30 : decode cX4_isAlike 30 = .ok (.aload_n 1, 1) := by decide +kernel
theorem dX4_isAlike_31 : decode cX4_isAlike 31 = .ok (.iload_n 3, 1) := by decide +kernel
theorem dX4_isAlike_32 : decode cX4_isAlike 32 = .ok (.invokevirtual 46, 3) := by decide +kernel
theorem dX4_isAlike_35 : decode cX4_isAlike 35 = .ok (.aload_n 0, 1) := by decide +kernel
theorem dX4_isAlike_36 : decode cX4_isAlike 36 = .ok (.iload_n 2, 1) := by decide +kernel
theorem dX4_isAlike_37 : decode cX4_isAlike 37 = .ok (.iload_n 3, 1) := by decide +kernel
theorem dX4_isAlike_38 : decode cX4_isAlike 38 = .ok (.iconst 2, 1) := by decide +kernel
theorem dX4_isAlike_39 : decode cX4_isAlike 39 = .ok (.invokevirtual 33, 3) := by decide +kernel
theorem dX4_isAlike_42 : decode cX4_isAlike 42 = .ok (.if_icmp .ne 22, 3) := by decide +kernel
theorem dX4_isAlike_45 : decode cX4_isAlike 45 = .ok (.aload_n 1, 1) := by decide +kernel
theorem dX4_isAlike_46 : decode cX4_isAlike 46 = .ok (.iload_n 3, 1) := by decide +kernel
theorem dX4_isAlike_47 : decode cX4_isAlike 47 = .ok (.invokevirtual 49, 3) := by decide +kernel
theorem dX4_isAlike_50 : decode cX4_isAlike 50 = .ok (.aload_n 0, 1) := by decide +kernel
theorem dX4_isAlike_51 : decode cX4_isAlike 51 = .ok (.iload_n 2, 1) := by decide +kernel
theorem dX4_isAlike_52 : decode cX4_isAlike 52 = .ok (.iload_n 3, 1) := by decide +kernel
theorem dX4_isAlike_53 : decode cX4_isAlike 53 = .ok (.iconst 3, 1) := by decide +kernel
theorem dX4_isAlike_54 : decode cX4_isAlike 54 = .ok (.invokevirtual 33, 3) := by decide +kernel
theorem dX4_isAlike_57 : decode cX4_isAlike 57 = .ok (.if_icmp .ne 7, 3) := by decide +kernel
theorem dX4_isAlike_60 : decode cX4_isAlike 60 = .ok (.iconst 1, 1) := by decide +kernel
theorem dX4_isAlike_61 : decode cX4_isAlike 61 = .ok (.goto 4, 3) := by decide +kernel
theorem dX4_isAlike_64 : decode cX4_isAlike 64 = .ok (.iconst 0, 1) := by decide +kernel
theorem dX4_isAlike_65 : decode cX4_isAlike 65 = .ok (.ireturn, 1) := by decide +kernel
theorem dX4_unlike_0 : decode cX4_unlike 0 = .ok (.iconst 0, 1) := by decide +kernel
theorem dX4_unlike_1 : decode cX4_unlike 1 = .ok (.istore_n 3, 1) := by decide +kernel
theorem dX4_unlike_2 : decode cX4_unlike 2 = .ok (.iconst 0, 1) := by decide +kernel
theorem dX4_unlike_3 : decode cX4_unlike 3 = .ok (.istore 4, 2) := by decide +kernel
theorem dX4_unlike_5 : decode cX4_unlike 5 = .ok (.iload 4, 2) := by decide +kernel
theorem dX4_unlike_7 : decode cX4_unlike 7 = .ok (.bipush 8, 2) := by decide +kernel
theorem dX4_unlike_9 : decode cX4_unlike 9 = .ok (.if_icmp .ge 42, 3) := by decide +kernel
theorem dX4_unlike_12 : decode cX4_unlike 12 = .ok (.aload_n 1, 1) := by decide +kernel
theorem dX4_unlike_13 : decode cX4_unlike 13 = .ok (.iload 4, 2) := by decide +kernel
theorem dX4_unlike_15 : decode cX4_unlike 15 = .ok (.invokevirtual 63, 3) := by decide +kernel
theorem dX4_unlike_18 : decode cX4_unlike 18 = .ok (.ifCond .ne 13, 3) := by decide +kernel
theorem dX4_unlike_21 : decode cX4_unlike 21 = .ok (.aload_n 0, 1) := by decide +kernel
theorem dX4_unlike_22 : decode cX4_unlike 22 = .ok (.iload_n 2, 1) := by decide +kernel
theorem dX4_unlike_23 : decode cX4_unlike 23 = .ok (.iload 4, 2) := by decide +kernel
theorem dX4_unlike_25 : decode cX4_unlike 25 = .ok (.invokevirtual 67, 3) := by decide +kernel
theorem dX4_unlike_28 : decode cX4_unlike 28 = .ok (.ifCond .eq 17, 3) := by decide +kernel
theorem dX4_unlike_31 : decode cX4_unlike 31 = .ok (.aload_n 0, 1) := by decide +kernel
theorem dX4_unlike_32 : decode cX4_unlike 32 = .ok (.aload_n 1, 1) := by decide +kernel
theorem dX4_unlike_33 : decode cX4_unlike 33 = .ok (.iload_n 2, 1) := by decide +kernel
theorem dX4_unlike_34 : decode cX4_unlike 34 = .ok (.iload 4, 2) := by decide +kernel
theorem dX4_unlike_36 : decode cX4_unlike 36 = .ok (.invokevirtual 70, 3) := by decide +kernel
theorem dX4_unlike_39 : decode cX4_unlike 39 = .ok (.ifCond .ne 6, 3) := by decide +kernel
theorem dX4_unlike_42 : decode cX4_unlike 42 = .ok (.iinc 3 1, 3) := by decide +kernel
theorem dX4_unlike_45 : decode cX4_unlike 45 = .ok (.iinc 4 1, 3) := by decide +kernel
theorem dX4_unlike_48 : decode cX4_unlike 48 = .ok (.goto (-43), 3) := by decide +kernel
theorem dX4_unlike_51 : decode cX4_unlike 51 = .ok (.iload_n 3, 1) := by decide +kernel
theorem dX4_unlike_52 : decode cX4_unlike 52 = .ok (.ireturn, 1) := by decide +kernel
theorem dX4_far_0 : decode cX4_far 0 = .ok (.iconst 0, 1) := by decide +kernel
theorem dX4_far_1 : decode cX4_far 1 = .ok (.istore_n 3, 1) := by decide +kernel
theorem dX4_far_2 : decode cX4_far 2 = .ok (.iconst 0, 1) := by decide +kernel
theorem dX4_far_3 : decode cX4_far 3 = .ok (.istore 4, 2) := by decide +kernel
theorem dX4_far_5 : decode cX4_far 5 = .ok (.iload 4, 2) := by decide +kernel
theorem dX4_far_7 : decode cX4_far 7 = .ok (.bipush 8, 2) := by decide +kernel
theorem dX4_far_9 : decode cX4_far 9 = .ok (.if_icmp .ge 66, 3) := by decide +kernel
theorem dX4_far_12 : decode cX4_far 12 = .ok (.aload_n 1, 1) := by decide +kernel
theorem dX4_far_13 : decode cX4_far 13 = .ok (.iload 4, 2) := by decide +kernel
theorem dX4_far_15 : decode cX4_far 15 = .ok (.invokevirtual 63, 3) := by decide +kernel
theorem dX4_far_18 : decode cX4_far 18 = .ok (.ifCond .eq 51, 3) := by decide +kernel
theorem dX4_far_21 : decode cX4_far 21 = .ok (.aload_n 0, 1) := by decide +kernel
theorem dX4_far_22 : decode cX4_far 22 = .ok (.iload_n 2, 1) := by decide +kernel
theorem dX4_far_23 : decode cX4_far 23 = .ok (.iload 4, 2) := by decide +kernel
theorem dX4_far_25 : decode cX4_far 25 = .ok (.invokevirtual 67, 3) := by decide +kernel
theorem dX4_far_28 : decode cX4_far 28 = .ok (.ifCond .eq 41, 3) := by decide +kernel
theorem dX4_far_31 : decode cX4_far 31 = .ok (.iload_n 3, 1) := by decide +kernel
theorem dX4_far_32 : decode cX4_far 32 = .ok (.aload_n 1, 1) := by decide +kernel
theorem dX4_far_33 : decode cX4_far 33 = .ok (.iload 4, 2) := by decide +kernel
theorem dX4_far_35 : decode cX4_far 35 = .ok (.invokevirtual 37, 3) := by decide +kernel
theorem dX4_far_38 : decode cX4_far 38 = .ok (.aload_n 0, 1) := by decide +kernel
theorem dX4_far_39 : decode cX4_far 39 = .ok (.iload_n 2, 1) := by decide +kernel
theorem dX4_far_40 : decode cX4_far 40 = .ok (.iload 4, 2) := by decide +kernel
theorem dX4_far_42 : decode cX4_far 42 = .ok (.iconst 0, 1) := by decide +kernel
theorem dX4_far_43 : decode cX4_far 43 = .ok (.invokevirtual 33, 3) := by decide +kernel
theorem dX4_far_46 : decode cX4_far 46 = .ok (.invokestatic 74, 3) := by decide +kernel
theorem dX4_far_49 : decode cX4_far 49 = .ok (.aload_n 1, 1) := by decide +kernel
theorem dX4_far_50 : decode cX4_far 50 = .ok (.iload 4, 2) := by decide +kernel
theorem dX4_far_52 : decode cX4_far 52 = .ok (.invokevirtual 43, 3) := by decide +kernel
theorem dX4_far_55 : decode cX4_far 55 = .ok (.aload_n 0, 1) := by decide +kernel
theorem dX4_far_56 : decode cX4_far 56 = .ok (.iload_n 2, 1) := by decide +kernel
theorem dX4_far_57 : decode cX4_far 57 = .ok (.iload 4, 2) := by decide +kernel
theorem dX4_far_59 : decode cX4_far 59 = .ok (.iconst 1, 1) := by decide +kernel
theorem dX4_far_60 : decode cX4_far 60 = .ok (.invokevirtual 33, 3) := by decide +kernel
theorem dX4_far_63 : decode cX4_far 63 = .ok (.invokestatic 74, 3) := by decide +kernel
theorem dX4_far_66 : decode cX4_far 66 = .ok (.iadd, 1) := by decide +kernel
theorem dX4_far_67 : decode cX4_far 67 = .ok (.iadd, 1) := by decide +kernel
theorem dX4_far_68 : decode cX4_far 68 = .ok (.istore_n 3, 1) := by decide +kernel
theorem dX4_far_69 : decode cX4_far 69 = .ok (.iinc 4 1, 3) := by decide +kernel
theorem dX4_far_72 : decode cX4_far 72 = .ok (.goto (-67), 3) := by decide +kernel
theorem dX4_far_75 : decode cX4_far 75 = .ok (.iload_n 3, 1) := by decide +kernel
theorem dX4_far_76 : decode cX4_far 76 = .ok (.ireturn, 1) := by decide +kernel
theorem dX5_init_0 : decode cX5_init 0 = .ok (.aload_n 0, 1) := by decide +kernel
theorem dX5_init_1 : decode cX5_init 1 = .ok (.invokespecial 3, 3) := by decide +kernel
theorem dX5_init_4 : decode cX5_init 4 = .ok (.aload_n 0, 1) := by decide +kernel
theorem dX5_init_5 : decode cX5_init 5 = .ok (.iconst 5, 1) := by decide +kernel
theorem dX5_init_6 : decode cX5_init 6 = .ok (.anewarray 9, 3) := by decide +kernel
theorem dX5_init_9 : decode cX5_init 9 = .ok (.putfield 11, 3) := by decide +kernel
theorem dX5_init_12 : decode cX5_init 12 = .ok (.iconst 0, 1) := by decide +kernel
theorem dX5_init_13 : decode cX5_init 13 = .ok (.istore_n 1, 1) := by decide +kernel
theorem dX5_init_14 : decode cX5_init 14 = .ok (.iload_n 1, 1) := by decide +kernel
theorem dX5_init_15 : decode cX5_init 15 = .ok (.iconst 5, 1) := by decide +kernel
theorem dX5_init_16 : decode cX5_init 16 = .ok (.if_icmp .ge 22, 3) := by decide +kernel
theorem dX5_init_19 : decode cX5_init 19 = .ok (.aload_n 0, 1) := by decide +kernel
theorem dX5_init_20 : decode cX5_init 20 = .ok (.getfield 11, 3) := by decide +kernel
theorem dX5_init_23 : decode cX5_init 23 = .ok (.iload_n 1, 1) := by decide +kernel
theorem dX5_init_24 : decode cX5_init 24 = .ok (.new 9, 3) := by decide +kernel
theorem dX5_init_27 : decode cX5_init 27 = .ok (.dup, 1) := by decide +kernel
theorem dX5_init_28 : decode cX5_init 28 = .ok (.invokespecial 17, 3) := by decide +kernel
theorem dX5_init_31 : decode cX5_init 31 = .ok (.aastore, 1) := by decide +kernel
theorem dX5_init_32 : decode cX5_init 32 = .ok (.iinc 1 1, 3) := by decide +kernel
theorem dX5_init_35 : decode cX5_init 35 = .ok (.goto (-21), 3) := by decide +kernel
theorem dX5_init_38 : decode cX5_init 38 = .ok (.return_, 1) := by decide +kernel
theorem dX5_push_0 : decode cX5_push 0 = .ok (.aload_n 0, 1) := by decide +kernel
theorem dX5_push_1 : decode cX5_push 1 = .ok (.getfield 18, 3) := by decide +kernel
theorem dX5_push_4 : decode cX5_push 4 = .ok (.iconst 5, 1) := by decide +kernel
theorem dX5_push_5 : decode cX5_push 5 = .ok (.if_icmp .ne 25, 3) := by decide +kernel
theorem dX5_push_8 : decode cX5_push 8 = .ok (.aload_n 0, 1) := by decide +kernel
theorem dX5_push_9 : decode cX5_push 9 = .ok (.aload_n 0, 1) := by decide +kernel
theorem dX5_push_10 : decode cX5_push 10 = .ok (.getfield 22, 3) := by decide +kernel
theorem dX5_push_13 : decode cX5_push 13 = .ok (.iconst 1, 1) := by decide +kernel
theorem dX5_push_14 : decode cX5_push 14 = .ok (.iadd, 1) := by decide +kernel
theorem dX5_push_15 : decode cX5_push 15 = .ok (.iconst 5, 1) := by decide +kernel
theorem dX5_push_16 : decode cX5_push 16 = .ok (.irem, 1) := by decide +kernel
theorem dX5_push_17 : decode cX5_push 17 = .ok (.putfield 22, 3) := by decide +kernel
theorem dX5_push_20 : decode cX5_push 20 = .ok (.aload_n 0, 1) := by decide +kernel
theorem dX5_push_21 : decode cX5_push 21 = .ok (.dup, 1) := by decide +kernel
theorem dX5_push_22 : decode cX5_push 22 = .ok (.getfield 18, 3) := by decide +kernel
theorem dX5_push_25 : decode cX5_push 25 = .ok (.iconst 1, 1) := by decide +kernel
theorem dX5_push_26 : decode cX5_push 26 = .ok (.isub, 1) := by decide +kernel
theorem dX5_push_27 : decode cX5_push 27 = .ok (.putfield 18, 3) := by decide +kernel
theorem dX5_push_30 : decode cX5_push 30 = .ok (.aload_n 0, 1) := by decide +kernel
theorem dX5_push_31 : decode cX5_push 31 = .ok (.getfield 11, 3) := by decide +kernel
theorem dX5_push_34 : decode cX5_push 34 = .ok (.aload_n 0, 1) := by decide +kernel
theorem dX5_push_35 : decode cX5_push 35 = .ok (.getfield 22, 3) := by decide +kernel
theorem dX5_push_38 : decode cX5_push 38 = .ok (.aload_n 0, 1) := by decide +kernel
theorem dX5_push_39 : decode cX5_push 39 = .ok (.getfield 18, 3) := by decide +kernel
theorem dX5_push_42 : decode cX5_push 42 = .ok (.iadd, 1) := by decide +kernel
theorem dX5_push_43 : decode cX5_push 43 = .ok (.iconst 5, 1) := by decide +kernel
theorem dX5_push_44 : decode cX5_push 44 = .ok (.irem, 1) := by decide +kernel
theorem dX5_push_45 : decode cX5_push 45 = .ok (.aaload, 1) := by decide +kernel
theorem dX5_push_46 : decode cX5_push 46 = .ok (.astore_n 2, 1) := by decide +kernel
theorem dX5_push_47 : decode cX5_push 47 = .ok (.aload_n 2, 1) := by decide +kernel
theorem dX5_push_48 : decode cX5_push 48 = .ok (.ifnull 18, 3) := by decide +kernel
theorem dX5_push_51 : decode cX5_push 51 = .ok (.aload_n 2, 1) := by decide +kernel
theorem dX5_push_52 : decode cX5_push 52 = .ok (.aload_n 1, 1) := by decide +kernel
theorem dX5_push_53 : decode cX5_push 53 = .ok (.invokevirtual 25, 3) := by decide +kernel
theorem dX5_push_56 : decode cX5_push 56 = .ok (.aload_n 0, 1) := by decide +kernel
theorem dX5_push_57 : decode cX5_push 57 = .ok (.dup, 1) := by decide +kernel
theorem dX5_push_58 : decode cX5_push 58 = .ok (.getfield 18, 3) := by decide +kernel
theorem dX5_push_61 : decode cX5_push 61 = .ok (.iconst 1, 1) := by decide +kernel
theorem dX5_push_62 : decode cX5_push 62 = .ok (.iadd, 1) := by decide +kernel
theorem dX5_push_63 : decode cX5_push 63 = .ok (.putfield 18, 3) := by decide +kernel
theorem dX5_push_66 : decode cX5_push 66 = .ok (.return_, 1) := by decide +kernel
theorem dX5_pop_0 : decode cX5_pop 0 = .ok (.aload_n 0, 1) := by decide +kernel
theorem dX5_pop_1 : decode cX5_pop 1 = .ok (.getfield 18, 3) := by decide +kernel
theorem dX5_pop_4 : decode cX5_pop 4 = .ok (.ifCond .le 33, 3) := by decide +kernel
theorem dX5_pop_7 : decode cX5_pop 7 = .ok (.aload_n 0, 1) := by decide +kernel
theorem dX5_pop_8 : decode cX5_pop 8 = .ok (.dup, 1) := by decide +kernel
theorem dX5_pop_9 : decode cX5_pop 9 = .ok (.getfield 18, 3) := by decide +kernel
theorem dX5_pop_12 : decode cX5_pop 12 = .ok (.iconst 1, 1) := by decide +kernel
theorem dX5_pop_13 : decode cX5_pop 13 = .ok (.isub, 1) := by decide +kernel
theorem dX5_pop_14 : decode cX5_pop 14 = .ok (.putfield 18, 3) := by decide +kernel
theorem dX5_pop_17 : decode cX5_pop 17 = .ok (.aload_n 1, 1) := by decide +kernel
theorem dX5_pop_18 : decode cX5_pop 18 = .ok (.aload_n 0, 1) := by decide +kernel
theorem dX5_pop_19 : decode cX5_pop 19 = .ok (.getfield 11, 3) := by decide +kernel
theorem dX5_pop_22 : decode cX5_pop 22 = .ok (.aload_n 0, 1) := by decide +kernel
theorem dX5_pop_23 : decode cX5_pop 23 = .ok (.getfield 22, 3) := by decide +kernel
theorem dX5_pop_26 : decode cX5_pop 26 = .ok (.aload_n 0, 1) := by decide +kernel
theorem dX5_pop_27 : decode cX5_pop 27 = .ok (.getfield 18, 3) := by decide +kernel
theorem dX5_pop_30 : decode cX5_pop 30 = .ok (.iadd, 1) := by decide +kernel
theorem dX5_pop_31 : decode cX5_pop 31 = .ok (.iconst 5, 1) := by decide +kernel
theorem dX5_pop_32 : decode cX5_pop 32 = .ok (.irem, 1) := by decide +kernel
theorem dX5_pop_33 : decode cX5_pop 33 = .ok (.aaload, 1) := by decide +kernel
theorem dX5_pop_34 : decode cX5_pop 34 = .ok (.invokevirtual 25, 3) := by decide +kernel
theorem dX5_pop_37 : decode cX5_pop 37 = .ok (.aload_n 0, 1) := by decide +kernel
theorem dX5_pop_38 : decode cX5_pop 38 = .ok (.getfield 18, 3) := by decide +kernel
theorem dX5_pop_41 : decode cX5_pop 41 = .ok (.ireturn, 1) := by decide +kernel
theorem dX6_init_0 : decode cX6_init 0 = .ok (.aload_n 0, 1) := by decide +kernel
theorem dX6_init_1 : decode cX6_init 1 = .ok (.invokespecial 5, 3) := by decide +kernel
theorem dX6_init_4 : decode cX6_init 4 = .ok (.aload_n 0, 1) := by decide +kernel
theorem dX6_init_5 : decode cX6_init 5 = .ok (.bipush 120, 2) := by decide +kernel
theorem dX6_init_7 : decode cX6_init 7 = .ok (.newarray .int, 2) := by decide +kernel
theorem dX6_init_9 : decode cX6_init 9 = .ok (.putfield 11, 3) := by decide +kernel
theorem dX6_init_12 : decode cX6_init 12 = .ok (.aload_n 0, 1) := by decide +kernel
theorem dX6_init_13 : decode cX6_init 13 = .ok (.bipush 60, 2) := by decide +kernel
theorem dX6_init_15 : decode cX6_init 15 = .ok (.newarray .int, 2) := by decide +kernel
theorem dX6_init_17 : decode cX6_init 17 = .ok (.putfield 15, 3) := by decide +kernel
theorem dX6_init_20 : decode cX6_init 20 = .ok (.aload_n 0, 1) := by decide +kernel
theorem dX6_init_21 : decode cX6_init 21 = .ok (.sipush 240, 3) := by decide +kernel
theorem dX6_init_24 : decode cX6_init 24 = .ok (.newarray .int, 2) := by decide +kernel
theorem dX6_init_26 : decode cX6_init 26 = .ok (.putfield 18, 3) := by decide +kernel
theorem dX6_init_29 : decode cX6_init 29 = .ok (.return_, 1) := by decide +kernel
theorem dX6_againstByte_0 : decode cX6_againstByte 0 = .ok (.iload_n 1, 1) := by decide +kernel
theorem dX6_againstByte_1 : decode cX6_againstByte 1 = .ok (.iconst 0, 1) := by decide +kernel
theorem dX6_againstByte_2 : decode cX6_againstByte 2 = .ok (.bipush 127, 2) := by decide +kernel
theorem dX6_againstByte_4 : decode cX6_againstByte 4 = .ok (.invokestatic 21, 3) := by decide +kernel
theorem dX6_againstByte_7 : decode cX6_againstByte 7 = .ok (.ifCond .ne 6, 3) := by decide +kernel
theorem dX6_againstByte_10 : decode cX6_againstByte 10 = .ok (.bipush (-2), 2) := by decide +kernel
theorem dX6_againstByte_12 : decode cX6_againstByte 12 = .ok (.ireturn, 1) := by decide +kernel
theorem dX6_againstByte_13 : decode cX6_againstByte 13 = .ok (.aload_n 0, 1) := by decide +kernel
theorem dX6_againstByte_14 : decode cX6_againstByte 14 = .ok (.getfield 25, 3) := by decide +kernel
theorem dX6_againstByte_17 : decode cX6_againstByte 17 = .ok (.bipush 120, 2) := by decide +kernel
theorem dX6_againstByte_19 : decode cX6_againstByte 19 = .ok (.if_icmp .ge 7, 3) := by decide +kernel
theorem dX6_againstByte_22 : decode cX6_againstByte 22 = .ok (.iconst 0, 1) := by decide +kernel
theorem dX6_againstByte_23 : decode cX6_againstByte 23 = .ok (.goto 5, 3) := by decide +kernel
theorem dX6_againstByte_26 : decode cX6_againstByte 26 = .ok (.bipush (-4), 2) := by decide +kernel
theorem dX6_againstByte_28 : decode cX6_againstByte 28 = .ok (.ireturn, 1) := by decide +kernel
theorem dX6_append_0 : decode cX6_append 0 = .ok (.aload_n 0, 1) := by decide +kernel
theorem dX6_append_1 : decode cX6_append 1 = .ok (.getfield 25, 3) := by decide +kernel
theorem dX6_append_4 : decode cX6_append 4 = .ok (.ifCond .lt 32, 3) := by decide +kernel
theorem dX6_append_7 : decode cX6_append 7 = .ok (.aload_n 0, 1) := by decide +kernel
theorem dX6_append_8 : decode cX6_append 8 = .ok (.getfield 25, 3) := by decide +kernel
theorem dX6_append_11 : decode cX6_append 11 = .ok (.bipush 120, 2) := by decide +kernel
theorem dX6_append_13 : decode cX6_append 13 = .ok (.if_icmp .ge 23, 3) := by decide +kernel
theorem dX6_append_16 : decode cX6_append 16 = .ok (.aload_n 0, 1) := by decide +kernel
theorem dX6_append_17 : decode cX6_append 17 = .ok (.getfield 11, 3) := by decide +kernel
theorem dX6_append_20 : decode cX6_append 20 = .ok (.aload_n 0, 1) := by decide +kernel
theorem dX6_append_21 : decode cX6_append 21 = .ok (.getfield 25, 3) := by decide +kernel
theorem dX6_append_24 : decode cX6_append 24 = .ok (.iload_n 1, 1) := by decide +kernel
theorem dX6_append_25 : decode cX6_append 25 = .ok (.iastore, 1) := by decide +kernel
theorem dX6_append_26 : decode cX6_append 26 = .ok (.aload_n 0, 1) := by decide +kernel
theorem dX6_append_27 : decode cX6_append 27 = .ok (.dup, 1) := by decide +kernel
theorem dX6_append_28 : decode cX6_append 28 = .ok (.getfield 25, 3) := by decide +kernel
theorem dX6_append_31 : decode cX6_append 31 = .ok (.iconst 1, 1) := by decide +kernel
theorem dX6_append_32 : decode cX6_append 32 = .ok (.iadd, 1) := by decide +kernel
theorem dX6_append_33 : decode cX6_append 33 = .ok (.putfield 25, 3) := by decide +kernel
theorem dX6_append_36 : decode cX6_append 36 = .ok (.aload_n 0, 1) := by decide +kernel
theorem dX6_append_37 : decode cX6_append 37 = .ok (.getfield 25, 3) := by decide +kernel
theorem dX6_append_40 : decode cX6_append 40 = .ok (.ireturn, 1) := by decide +kernel
theorem dX6_empty_0 : decode cX6_empty 0 = .ok (.aload_n 0, 1) := by decide +kernel
theorem dX6_empty_1 : decode cX6_empty 1 = .ok (.getfield 25, 3) := by decide +kernel
theorem dX6_empty_4 : decode cX6_empty 4 = .ok (.istore_n 1, 1) := by decide +kernel
theorem dX6_empty_5 : decode cX6_empty 5 = .ok (.aload_n 0, 1) := by decide +kernel
theorem dX6_empty_6 : decode cX6_empty 6 = .ok (.iconst 0, 1) := by decide +kernel
theorem dX6_empty_7 : decode cX6_empty 7 = .ok (.putfield 25, 3) := by decide +kernel
theorem dX6_empty_10 : decode cX6_empty 10 = .ok (.iload_n 1, 1) := by decide +kernel
theorem dX6_empty_11 : decode cX6_empty 11 = .ok (.ireturn, 1) := by decide +kernel
theorem dX6_letter_0 : decode cX6_letter 0 = .ok (.iload_n 1, 1) := by decide +kernel
theorem dX6_letter_1 : decode cX6_letter 1 = .ok (.iconst 0, 1) := by decide +kernel
theorem dX6_letter_2 : decode cX6_letter 2 = .ok (.bipush 59, 2) := by decide +kernel
theorem dX6_letter_4 : decode cX6_letter 4 = .ok (.invokestatic 21, 3) := by decide +kernel
theorem dX6_letter_7 : decode cX6_letter 7 = .ok (.ifCond .eq 12, 3) := by decide +kernel
theorem dX6_letter_10 : decode cX6_letter 10 = .ok (.aload_n 0, 1) := by decide +kernel
theorem dX6_letter_11 : decode cX6_letter 11 = .ok (.getfield 15, 3) := by decide +kernel
theorem dX6_letter_14 : decode cX6_letter 14 = .ok (.iload_n 1, 1) := by decide +kernel
theorem dX6_letter_15 : decode cX6_letter 15 = .ok (.iaload, 1) := by decide +kernel
theorem dX6_letter_16 : decode cX6_letter 16 = .ok (.goto 4, 3) := by decide +kernel
theorem dX6_letter_19 : decode cX6_letter 19 = .ok (.iconst (-1), 1) := by decide +kernel
theorem dX6_letter_20 : decode cX6_letter 20 = .ok (.ireturn, 1) := by decide +kernel
theorem dX6_number_0 : decode cX6_number 0 = .ok (.iload_n 1, 1) := by decide +kernel
theorem dX6_number_1 : decode cX6_number 1 = .ok (.iconst 0, 1) := by decide +kernel
theorem dX6_number_2 : decode cX6_number 2 = .ok (.bipush 59, 2) := by decide +kernel
theorem dX6_number_4 : decode cX6_number 4 = .ok (.invokestatic 21, 3) := by decide +kernel
theorem dX6_number_7 : decode cX6_number 7 = .ok (.ifCond .eq 16, 3) := by decide +kernel
theorem dX6_number_10 : decode cX6_number 10 = .ok (.iload_n 2, 1) := by decide +kernel
theorem dX6_number_11 : decode cX6_number 11 = .ok (.iconst 0, 1) := by decide +kernel
theorem dX6_number_12 : decode cX6_number 12 = .ok (.iconst 3, 1) := by decide +kernel
theorem dX6_number_13 : decode cX6_number 13 = .ok (.invokestatic 21, 3) := by decide +kernel
theorem dX6_number_16 : decode cX6_number 16 = .ok (.ifCond .eq 7, 3) := by decide +kernel
theorem dX6_number_19 : decode cX6_number 19 = .ok (.iconst 1, 1) := by decide +kernel
theorem dX6_number_20 : decode cX6_number 20 = .ok (.goto 4, 3) := by decide +kernel
theorem dX6_number_23 : decode cX6_number 23 = .ok (.iconst 0, 1) := by decide +kernel
theorem dX6_number_24 : decode cX6_number 24 = .ok (.istore_n 3, 1) := by decide +kernel
theorem dX6_number_25 : decode cX6_number 25 = .ok (.iload_n 3, 1) := by decide +kernel
theorem dX6_number_26 : decode cX6_number 26 = .ok (.ifCond .eq 16, 3) := by decide +kernel
theorem dX6_number_29 : decode cX6_number 29 = .ok (.aload_n 0, 1) := by decide +kernel
theorem dX6_number_30 : decode cX6_number 30 = .ok (.getfield 18, 3) := by decide +kernel
theorem dX6_number_33 : decode cX6_number 33 = .ok (.iload_n 1, 1) := by decide +kernel
theorem dX6_number_34 : decode cX6_number 34 = .ok (.iconst 4, 1) := by decide +kernel
theorem dX6_number_35 : decode cX6_number 35 = .ok (.imul, 1) := by decide +kernel
theorem dX6_number_36 : decode cX6_number 36 = .ok (.iload_n 2, 1) := by decide +kernel
theorem dX6_number_37 : decode cX6_number 37 = .ok (.iadd, 1) := by decide +kernel
theorem dX6_number_38 : decode cX6_number 38 = .ok (.iaload, 1) := by decide +kernel
theorem dX6_number_39 : decode cX6_number 39 = .ok (.goto 4, 3) := by decide +kernel
theorem dX6_number_42 : decode cX6_number 42 = .ok (.iconst (-1), 1) := by decide +kernel
theorem dX6_number_43 : decode cX6_number 43 = .ok (.ireturn, 1) := by decide +kernel
theorem dX6_settingOf_0 : decode cX6_settingOf 0 = .ok (.iload_n 0, 1) := by decide +kernel
theorem dX6_settingOf_1 : decode cX6_settingOf 1 = .ok (.lookupswitch 61 #[(98, 55), (99, 59), (103, 53), (109, 51), (114, 57)], 51) := by decide +kernel
theorem dX6_settingOf_52 : decode cX6_settingOf 52 = .ok (.iconst 0, 1) := by decide +kernel
theorem dX6_settingOf_53 : decode cX6_settingOf 53 = .ok (.ireturn, 1) := by decide +kernel
theorem dX6_settingOf_54 : decode cX6_settingOf 54 = .ok (.iconst 1, 1) := by decide +kernel
theorem dX6_settingOf_55 : decode cX6_settingOf 55 = .ok (.ireturn, 1) := by decide +kernel
theorem dX6_settingOf_56 : decode cX6_settingOf 56 = .ok (.iconst 2, 1) := by decide +kernel
theorem dX6_settingOf_57 : decode cX6_settingOf 57 = .ok (.ireturn, 1) := by decide +kernel
theorem dX6_settingOf_58 : decode cX6_settingOf 58 = .ok (.iconst 3, 1) := by decide +kernel
theorem dX6_settingOf_59 : decode cX6_settingOf 59 = .ok (.ireturn, 1) := by decide +kernel
theorem dX6_settingOf_60 : decode cX6_settingOf 60 = .ok (.iconst 4, 1) := by decide +kernel
theorem dX6_settingOf_61 : decode cX6_settingOf 61 = .ok (.ireturn, 1) := by decide +kernel
theorem dX6_settingOf_62 : decode cX6_settingOf 62 = .ok (.iconst (-1), 1) := by decide +kernel
theorem dX6_settingOf_63 : decode cX6_settingOf 63 = .ok (.ireturn, 1) := by decide +kernel
theorem dX6_numbersBehind_0 : decode cX6_numbersBehind 0 = .ok (.iload_n 0, 1) := by decide +kernel
theorem dX6_numbersBehind_1 : decode cX6_numbersBehind 1 = .ok (.lookupswitch 61 #[(97, 59), (105, 51), (111, 57), (112, 53), (119, 55)], 51) := by decide +kernel
theorem dX6_numbersBehind_52 : decode cX6_numbersBehind 52 = .ok (.iconst 4, 1) := by decide +kernel
theorem dX6_numbersBehind_53 : decode cX6_numbersBehind 53 = .ok (.ireturn, 1) := by decide +kernel
theorem dX6_numbersBehind_54 : decode cX6_numbersBehind 54 = .ok (.iconst 3, 1) := by decide +kernel
theorem dX6_numbersBehind_55 : decode cX6_numbersBehind 55 = .ok (.ireturn, 1) := by decide +kernel
theorem dX6_numbersBehind_56 : decode cX6_numbersBehind 56 = .ok (.iconst 2, 1) := by decide +kernel
theorem dX6_numbersBehind_57 : decode cX6_numbersBehind 57 = .ok (.ireturn, 1) := by decide +kernel
theorem dX6_numbersBehind_58 : decode cX6_numbersBehind 58 = .ok (.iconst 1, 1) := by decide +kernel
theorem dX6_numbersBehind_59 : decode cX6_numbersBehind 59 = .ok (.ireturn, 1) := by decide +kernel
theorem dX6_numbersBehind_60 : decode cX6_numbersBehind 60 = .ok (.iconst 0, 1) := by decide +kernel
theorem dX6_numbersBehind_61 : decode cX6_numbersBehind 61 = .ok (.ireturn, 1) := by decide +kernel
theorem dX6_numbersBehind_62 : decode cX6_numbersBehind 62 = .ok (.iload_n 0, 1) := by decide +kernel
theorem dX6_numbersBehind_63 : decode cX6_numbersBehind 63 = .ok (.invokestatic 29, 3) := by decide +kernel
theorem dX6_numbersBehind_66 : decode cX6_numbersBehind 66 = .ok (.iconst (-1), 1) := by decide +kernel
theorem dX6_numbersBehind_67 : decode cX6_numbersBehind 67 = .ok (.if_icmp .ne 7, 3) := by decide +kernel
theorem dX6_numbersBehind_70 : decode cX6_numbersBehind 70 = .ok (.iconst (-1), 1) := by decide +kernel
theorem dX6_numbersBehind_71 : decode cX6_numbersBehind 71 = .ok (.goto 4, 3) := by decide +kernel
theorem dX6_numbersBehind_74 : decode cX6_numbersBehind 74 = .ok (.iconst 1, 1) := by decide +kernel
theorem dX6_numbersBehind_75 : decode cX6_numbersBehind 75 = .ok (.ireturn, 1) := by decide +kernel
theorem dX6_findFault_0 : decode cX6_findFault 0 = .ok (.aload_n 0, 1) := by decide +kernel
theorem dX6_findFault_1 : decode cX6_findFault 1 = .ok (.iconst 0, 1) := by decide +kernel
theorem dX6_findFault_2 : decode cX6_findFault 2 = .ok (.putfield 33, 3) := by decide +kernel
theorem dX6_findFault_5 : decode cX6_findFault 5 = .ok (.aload_n 0, 1) := by decide +kernel
theorem dX6_findFault_6 : decode cX6_findFault 6 = .ok (.iconst 0, 1) := by decide +kernel
theorem dX6_findFault_7 : decode cX6_findFault 7 = .ok (.putfield 36, 3) := by decide +kernel
theorem dX6_findFault_10 : decode cX6_findFault 10 = .ok (.aload_n 0, 1) := by decide +kernel
theorem dX6_findFault_11 : decode cX6_findFault 11 = .ok (.invokevirtual 39, 3) := by decide +kernel
theorem dX6_findFault_14 : decode cX6_findFault 14 = .ok (.aload_n 0, 1) := by decide +kernel
theorem dX6_findFault_15 : decode cX6_findFault 15 = .ok (.getfield 33, 3) := by decide +kernel
theorem dX6_findFault_18 : decode cX6_findFault 18 = .ok (.aload_n 0, 1) := by decide +kernel
theorem dX6_findFault_19 : decode cX6_findFault 19 = .ok (.getfield 25, 3) := by decide +kernel
theorem dX6_findFault_22 : decode cX6_findFault 22 = .ok (.if_icmp .lt 8, 3) := by decide +kernel
theorem dX6_findFault_25 : decode cX6_findFault 25 = .ok (.aload_n 0, 1) := by decide +kernel
theorem dX6_findFault_26 : decode cX6_findFault 26 = .ok (.getfield 25, 3) := by decide +kernel
theorem dX6_findFault_29 : decode cX6_findFault 29 = .ok (.ireturn, 1) := by decide +kernel
theorem dX6_findFault_30 : decode cX6_findFault 30 = .ok (.iconst 0, 1) := by decide +kernel
theorem dX6_findFault_31 : decode cX6_findFault 31 = .ok (.istore_n 1, 1) := by decide +kernel
theorem dX6_findFault_32 : decode cX6_findFault 32 = .ok (.iload_n 1, 1) := by decide +kernel
theorem dX6_findFault_33 : decode cX6_findFault 33 = .ok (.bipush 60, 2) := by decide +kernel
theorem dX6_findFault_35 : decode cX6_findFault 35 = .ok (.if_icmp .ge 47, 3) := by decide +kernel
theorem dX6_findFault_38 : decode cX6_findFault 38 = .ok (.aload_n 0, 1) := by decide +kernel
theorem dX6_findFault_39 : decode cX6_findFault 39 = .ok (.getfield 33, 3) := by decide +kernel
theorem dX6_findFault_42 : decode cX6_findFault 42 = .ok (.aload_n 0, 1) := by decide +kernel
theorem dX6_findFault_43 : decode cX6_findFault 43 = .ok (.getfield 25, 3) := by decide +kernel
theorem dX6_findFault_46 : decode cX6_findFault 46 = .ok (.if_icmp .ge 36, 3) := by decide +kernel
theorem dX6_findFault_49 : decode cX6_findFault 49 = .ok (.aload_n 0, 1) := by decide +kernel
theorem dX6_findFault_50 : decode cX6_findFault 50 = .ok (.iload_n 1, 1) := by decide +kernel
theorem dX6_findFault_51 : decode cX6_findFault 51 = .ok (.invokevirtual 42, 3) := by decide +kernel
theorem dX6_findFault_54 : decode cX6_findFault 54 = .ok (.ifCond .ne 8, 3) := by decide +kernel
theorem dX6_findFault_57 : decode cX6_findFault 57 = .ok (.aload_n 0, 1) := by decide +kernel
theorem dX6_findFault_58 : decode cX6_findFault 58 = .ok (.getfield 33, 3) := by decide +kernel
theorem dX6_findFault_61 : decode cX6_findFault 61 = .ok (.ireturn, 1) := by decide +kernel
theorem dX6_findFault_62 : decode cX6_findFault 62 = .ok (.aload_n 0, 1) := by decide +kernel
theorem dX6_findFault_63 : decode cX6_findFault 63 = .ok (.dup, 1) := by decide +kernel
theorem dX6_findFault_64 : decode cX6_findFault 64 = .ok (.getfield 36, 3) := by decide +kernel
theorem dX6_findFault_67 : decode cX6_findFault 67 = .ok (.iconst 1, 1) := by decide +kernel
theorem dX6_findFault_68 : decode cX6_findFault 68 = .ok (.iadd, 1) := by decide +kernel
theorem dX6_findFault_69 : decode cX6_findFault 69 = .ok (.putfield 36, 3) := by decide +kernel
theorem dX6_findFault_72 : decode cX6_findFault 72 = .ok (.aload_n 0, 1) := by decide +kernel
theorem dX6_findFault_73 : decode cX6_findFault 73 = .ok (.invokevirtual 39, 3) := by decide +kernel
theorem dX6_findFault_76 : decode cX6_findFault 76 = .ok (.iinc 1 1, 3) := by decide +kernel
theorem dX6_findFault_79 : decode cX6_findFault 79 = .ok (.goto (-47), 3) := by decide +kernel
theorem dX6_findFault_82 : decode cX6_findFault 82 = .ok (.iconst (-1), 1) := by decide +kernel
theorem dX6_findFault_83 : decode cX6_findFault 83 = .ok (.ireturn, 1) := by decide +kernel
theorem dX6_here_0 : decode cX6_here 0 = .ok (.aload_n 0, 1) := by decide +kernel
theorem dX6_here_1 : decode cX6_here 1 = .ok (.getfield 33, 3) := by decide +kernel
theorem dX6_here_4 : decode cX6_here 4 = .ok (.ifCond .lt 35, 3) := by decide +kernel
theorem dX6_here_7 : decode cX6_here 7 = .ok (.aload_n 0, 1) := by decide +kernel
theorem dX6_here_8 : decode cX6_here 8 = .ok (.getfield 33, 3) := by decide +kernel
theorem dX6_here_11 : decode cX6_here 11 = .ok (.aload_n 0, 1) := by decide +kernel
theorem dX6_here_12 : decode cX6_here 12 = .ok (.getfield 25, 3) := by decide +kernel
theorem dX6_here_15 : decode cX6_here 15 = .ok (.if_icmp .ge 24, 3) := by decide +kernel
theorem dX6_here_18 : decode cX6_here 18 = .ok (.aload_n 0, 1) := by decide +kernel
theorem dX6_here_19 : decode cX6_here 19 = .ok (.getfield 33, 3) := by decide +kernel
theorem dX6_here_22 : decode cX6_here 22 = .ok (.bipush 120, 2) := by decide +kernel
theorem dX6_here_24 : decode cX6_here 24 = .ok (.if_icmp .ge 15, 3) := by decide +kernel
theorem dX6_here_27 : decode cX6_here 27 = .ok (.aload_n 0, 1) := by decide +kernel
theorem dX6_here_28 : decode cX6_here 28 = .ok (.getfield 11, 3) := by decide +kernel
theorem dX6_here_31 : decode cX6_here 31 = .ok (.aload_n 0, 1) := by decide +kernel
theorem dX6_here_32 : decode cX6_here 32 = .ok (.getfield 33, 3) := by decide +kernel
theorem dX6_here_35 : decode cX6_here 35 = .ok (.iaload, 1) := by decide +kernel
theorem dX6_here_36 : decode cX6_here 36 = .ok (.goto 4, 3) := by decide +kernel
theorem dX6_here_39 : decode cX6_here 39 = .ok (.iconst (-1), 1) := by decide +kernel
theorem dX6_here_40 : decode cX6_here 40 = .ok (.ireturn, 1) := by decide +kernel
theorem dX6_isFigureHere_0 : decode cX6_isFigureHere 0 = .ok (.aload_n 0, 1) := by decide +kernel
theorem dX6_isFigureHere_1 : decode cX6_isFigureHere 1 = .ok (.invokevirtual 46, 3) := by decide +kernel
theorem dX6_isFigureHere_4 : decode cX6_isFigureHere 4 = .ok (.bipush 48, 2) := by decide +kernel
theorem dX6_isFigureHere_6 : decode cX6_isFigureHere 6 = .ok (.bipush 57, 2) := by decide +kernel
theorem dX6_isFigureHere_8 : decode cX6_isFigureHere 8 = .ok (.invokestatic 21, 3) := by decide +kernel
theorem dX6_isFigureHere_11 : decode cX6_isFigureHere 11 = .ok (.ireturn, 1) := by decide +kernel
theorem dX6_skipBlanks_0 : decode cX6_skipBlanks 0 = .ok (.iconst 0, 1) := by decide +kernel
theorem dX6_skipBlanks_1 : decode cX6_skipBlanks 1 = .ok (.istore_n 1, 1) := by decide +kernel
theorem dX6_skipBlanks_2 : decode cX6_skipBlanks 2 = .ok (.iload_n 1, 1) := by decide +kernel
theorem dX6_skipBlanks_3 : decode cX6_skipBlanks 3 = .ok (.bipush 120, 2) := by decide +kernel
theorem dX6_skipBlanks_5 : decode cX6_skipBlanks 5 = .ok (.if_icmp .ge 28, 3) := by decide +kernel
theorem dX6_skipBlanks_8 : decode cX6_skipBlanks 8 = .ok (.aload_n 0, 1) := by decide +kernel
theorem dX6_skipBlanks_9 : decode cX6_skipBlanks 9 = .ok (.invokevirtual 46, 3) := by decide +kernel
theorem dX6_skipBlanks_12 : decode cX6_skipBlanks 12 = .ok (.bipush 32, 2) := by decide +kernel
theorem dX6_skipBlanks_14 : decode cX6_skipBlanks 14 = .ok (.if_icmp .ne 19, 3) := by decide +kernel
theorem dX6_skipBlanks_17 : decode cX6_skipBlanks 17 = .ok (.aload_n 0, 1) := by decide +kernel
theorem dX6_skipBlanks_18 : decode cX6_skipBlanks 18 = .ok (.dup, 1) := by decide +kernel
theorem dX6_skipBlanks_19 : decode cX6_skipBlanks 19 = .ok (.getfield 33, 3) := by decide +kernel
theorem dX6_skipBlanks_22 : decode cX6_skipBlanks 22 = .ok (.iconst 1, 1) := by decide +kernel
theorem dX6_skipBlanks_23 : decode cX6_skipBlanks 23 = .ok (.iadd, 1) := by decide +kernel
theorem dX6_skipBlanks_24 : decode cX6_skipBlanks 24 = .ok (.putfield 33, 3) := by decide +kernel
theorem dX6_skipBlanks_27 : decode cX6_skipBlanks 27 = .ok (.iinc 1 1, 3) := by decide +kernel
theorem dX6_skipBlanks_30 : decode cX6_skipBlanks 30 = .ok (.goto (-28), 3) := by decide +kernel
theorem dX6_skipBlanks_33 : decode cX6_skipBlanks 33 = .ok (.return_, 1) := by decide +kernel
theorem dX6_findOrder_0 : decode cX6_findOrder 0 = .ok (.aload_n 0, 1) := by decide +kernel
theorem dX6_findOrder_1 : decode cX6_findOrder 1 = .ok (.invokevirtual 46, 3) := by decide +kernel
theorem dX6_findOrder_4 : decode cX6_findOrder 4 = .ok (.istore_n 2, 1) := by decide +kernel
theorem dX6_findOrder_5 : decode cX6_findOrder 5 = .ok (.iload_n 2, 1) := by decide +kernel
theorem dX6_findOrder_6 : decode cX6_findOrder 6 = .ok (.invokestatic 50, 3) := by decide +kernel
theorem dX6_findOrder_9 : decode cX6_findOrder 9 = .ok (.istore_n 3, 1) := by decide +kernel
theorem dX6_findOrder_10 : decode cX6_findOrder 10 = .ok (.iload_n 3, 1) := by decide +kernel
theorem dX6_findOrder_11 : decode cX6_findOrder 11 = .ok (.iconst (-1), 1) := by decide +kernel
theorem dX6_findOrder_12 : decode cX6_findOrder 12 = .ok (.if_icmp .eq 13, 3) := by decide +kernel
theorem dX6_findOrder_15 : decode cX6_findOrder 15 = .ok (.iload_n 1, 1) := by decide +kernel
theorem dX6_findOrder_16 : decode cX6_findOrder 16 = .ok (.iconst 0, 1) := by decide +kernel
theorem dX6_findOrder_17 : decode cX6_findOrder 17 = .ok (.bipush 59, 2) := by decide +kernel
theorem dX6_findOrder_19 : decode cX6_findOrder 19 = .ok (.invokestatic 21, 3) := by decide +kernel
theorem dX6_findOrder_22 : decode cX6_findOrder 22 = .ok (.ifCond .ne 5, 3) := by decide +kernel
theorem dX6_findOrder_25 : decode cX6_findOrder 25 = .ok (.iconst 0, 1) := by decide +kernel
theorem dX6_findOrder_26 : decode cX6_findOrder 26 = .ok (.ireturn, 1) := by decide +kernel
theorem dX6_findOrder_27 : decode cX6_findOrder 27 = .ok (.aload_n 0, 1) := by decide +kernel
theorem dX6_findOrder_28 : decode cX6_findOrder 28 = .ok (.getfield 15, 3) := by decide +kernel
theorem dX6_findOrder_31 : decode cX6_findOrder 31 = .ok (.iload_n 1, 1) := by decide +kernel
theorem dX6_findOrder_32 : decode cX6_findOrder 32 = .ok (.iload_n 2, 1) := by decide +kernel
theorem dX6_findOrder_33 : decode cX6_findOrder 33 = .ok (.iastore, 1) := by decide +kernel
theorem dX6_findOrder_34 : decode cX6_findOrder 34 = .ok (.aload_n 0, 1) := by decide +kernel
theorem dX6_findOrder_35 : decode cX6_findOrder 35 = .ok (.dup, 1) := by decide +kernel
theorem dX6_findOrder_36 : decode cX6_findOrder 36 = .ok (.getfield 33, 3) := by decide +kernel
theorem dX6_findOrder_39 : decode cX6_findOrder 39 = .ok (.iconst 1, 1) := by decide +kernel
theorem dX6_findOrder_40 : decode cX6_findOrder 40 = .ok (.iadd, 1) := by decide +kernel
theorem dX6_findOrder_41 : decode cX6_findOrder 41 = .ok (.putfield 33, 3) := by decide +kernel
theorem dX6_findOrder_44 : decode cX6_findOrder 44 = .ok (.iconst 0, 1) := by decide +kernel
theorem dX6_findOrder_45 : decode cX6_findOrder 45 = .ok (.istore 4, 2) := by decide +kernel
theorem dX6_findOrder_47 : decode cX6_findOrder 47 = .ok (.iload 4, 2) := by decide +kernel
theorem dX6_findOrder_49 : decode cX6_findOrder 49 = .ok (.iload_n 3, 1) := by decide +kernel
theorem dX6_findOrder_50 : decode cX6_findOrder 50 = .ok (.if_icmp .ge 34, 3) := by decide +kernel
theorem dX6_findOrder_53 : decode cX6_findOrder 53 = .ok (.iload 4, 2) := by decide +kernel
theorem dX6_findOrder_55 : decode cX6_findOrder 55 = .ok (.iconst 4, 1) := by decide +kernel
theorem dX6_findOrder_56 : decode cX6_findOrder 56 = .ok (.if_icmp .ge 28, 3) := by decide +kernel
theorem dX6_findOrder_59 : decode cX6_findOrder 59 = .ok (.aload_n 0, 1) := by decide +kernel
theorem dX6_findOrder_60 : decode cX6_findOrder 60 = .ok (.invokevirtual 39, 3) := by decide +kernel
theorem dX6_findOrder_63 : decode cX6_findOrder 63 = .ok (.aload_n 0, 1) := by decide +kernel
theorem dX6_findOrder_64 : decode cX6_findOrder 64 = .ok (.iload_n 1, 1) := by decide +kernel
theorem dX6_findOrder_65 : decode cX6_findOrder 65 = .ok (.iconst 4, 1) := by decide +kernel
theorem dX6_findOrder_66 : decode cX6_findOrder 66 = .ok (.imul, 1) := by decide +kernel
theorem dX6_findOrder_67 : decode cX6_findOrder 67 = .ok (.iload 4, 2) := by decide +kernel
theorem dX6_findOrder_69 : decode cX6_findOrder 69 = .ok (.iadd, 1) := by decide +kernel
theorem dX6_findOrder_70 : decode cX6_findOrder 70 = .ok (.invokevirtual 53, 3) := by decide +kernel
theorem dX6_findOrder_73 : decode cX6_findOrder 73 = .ok (.ifCond .ne 5, 3) := by decide +kernel
theorem dX6_findOrder_76 : decode cX6_findOrder 76 = .ok (.iconst 0, 1) := by decide +kernel
theorem dX6_findOrder_77 : decode cX6_findOrder 77 = .ok (.ireturn, 1) := by decide +kernel
theorem dX6_findOrder_78 : decode cX6_findOrder 78 = .ok (.iinc 4 1, 3) := by decide +kernel
theorem dX6_findOrder_81 : decode cX6_findOrder 81 = .ok (.goto (-34), 3) := by decide +kernel
theorem dX6_findOrder_84 : decode cX6_findOrder 84 = .ok (.aload_n 0, 1) := by decide +kernel
theorem dX6_findOrder_85 : decode cX6_findOrder 85 = .ok (.invokevirtual 39, 3) := by decide +kernel
theorem dX6_findOrder_88 : decode cX6_findOrder 88 = .ok (.aload_n 0, 1) := by decide +kernel
theorem dX6_findOrder_89 : decode cX6_findOrder 89 = .ok (.invokevirtual 46, 3) := by decide +kernel
theorem dX6_findOrder_92 : decode cX6_findOrder 92 = .ok (.bipush 59, 2) := by decide +kernel
theorem dX6_findOrder_94 : decode cX6_findOrder 94 = .ok (.if_icmp .eq 5, 3) := by decide +kernel
theorem dX6_findOrder_97 : decode cX6_findOrder 97 = .ok (.iconst 0, 1) := by decide +kernel
theorem dX6_findOrder_98 : decode cX6_findOrder 98 = .ok (.ireturn, 1) := by decide +kernel
theorem dX6_findOrder_99 : decode cX6_findOrder 99 = .ok (.aload_n 0, 1) := by decide +kernel
theorem dX6_findOrder_100 : decode cX6_findOrder 100 = .ok (.dup, 1) := by decide +kernel
theorem dX6_findOrder_101 : decode cX6_findOrder 101 = .ok (.getfield 33, 3) := by decide +kernel
theorem dX6_findOrder_104 : decode cX6_findOrder 104 = .ok (.iconst 1, 1) := by decide +kernel
theorem dX6_findOrder_105 : decode cX6_findOrder 105 = .ok (.iadd, 1) := by decide +kernel
theorem dX6_findOrder_106 : decode cX6_findOrder 106 = .ok (.putfield 33, 3) := by decide +kernel
theorem dX6_findOrder_109 : decode cX6_findOrder 109 = .ok (.iconst 1, 1) := by decide +kernel
theorem dX6_findOrder_110 : decode cX6_findOrder 110 = .ok (.ireturn, 1) := by decide +kernel
theorem dX6_findNumber_0 : decode cX6_findNumber 0 = .ok (.aload_n 0, 1) := by decide +kernel
theorem dX6_findNumber_1 : decode cX6_findNumber 1 = .ok (.invokevirtual 56, 3) := by decide +kernel
theorem dX6_findNumber_4 : decode cX6_findNumber 4 = .ok (.ifCond .eq 14, 3) := by decide +kernel
theorem dX6_findNumber_7 : decode cX6_findNumber 7 = .ok (.iload_n 1, 1) := by decide +kernel
theorem dX6_findNumber_8 : decode cX6_findNumber 8 = .ok (.iconst 0, 1) := by decide +kernel
theorem dX6_findNumber_9 : decode cX6_findNumber 9 = .ok (.sipush 239, 3) := by decide +kernel
theorem dX6_findNumber_12 : decode cX6_findNumber 12 = .ok (.invokestatic 21, 3) := by decide +kernel
theorem dX6_findNumber_15 : decode cX6_findNumber 15 = .ok (.ifCond .ne 5, 3) := by decide +kernel
theorem dX6_findNumber_18 : decode cX6_findNumber 18 = .ok (.iconst 0, 1) := by decide +kernel
theorem dX6_findNumber_19 : decode cX6_findNumber 19 = .ok (.ireturn, 1) := by decide +kernel
theorem dX6_findNumber_20 : decode cX6_findNumber 20 = .ok (.aload_n 0, 1) := by decide +kernel
theorem dX6_findNumber_21 : decode cX6_findNumber 21 = .ok (.invokevirtual 46, 3) := by decide +kernel
theorem dX6_findNumber_24 : decode cX6_findNumber 24 = .ok (.bipush 48, 2) := by decide +kernel
theorem dX6_findNumber_26 : decode cX6_findNumber 26 = .ok (.isub, 1) := by decide +kernel
theorem dX6_findNumber_27 : decode cX6_findNumber 27 = .ok (.istore_n 2, 1) := by decide +kernel
theorem dX6_findNumber_28 : decode cX6_findNumber 28 = .ok (.aload_n 0, 1) := by decide +kernel
theorem dX6_findNumber_29 : decode cX6_findNumber 29 = .ok (.dup, 1) := by decide +kernel
theorem dX6_findNumber_30 : decode cX6_findNumber 30 = .ok (.getfield 33, 3) := by decide +kernel
theorem dX6_findNumber_33 : decode cX6_findNumber 33 = .ok (.iconst 1, 1) := by decide +kernel
theorem dX6_findNumber_34 : decode cX6_findNumber 34 = .ok (.iadd, 1) := by decide +kernel
theorem dX6_findNumber_35 : decode cX6_findNumber 35 = .ok (.putfield 33, 3) := by decide +kernel
theorem dX6_findNumber_38 : decode cX6_findNumber 38 = .ok (.aload_n 0, 1) := by decide +kernel
theorem dX6_findNumber_39 : decode cX6_findNumber 39 = .ok (.invokevirtual 56, 3) := by decide +kernel
theorem dX6_findNumber_42 : decode cX6_findNumber 42 = .ok (.ifCond .eq 26, 3) := by decide +kernel
theorem dX6_findNumber_45 : decode cX6_findNumber 45 = .ok (.bipush 10, 2) := by decide +kernel
theorem dX6_findNumber_47 : decode cX6_findNumber 47 = .ok (.iload_n 2, 1) := by decide +kernel
theorem dX6_findNumber_48 : decode cX6_findNumber 48 = .ok (.imul, 1) := by decide +kernel
theorem dX6_findNumber_49 : decode cX6_findNumber 49 = .ok (.aload_n 0, 1) := by decide +kernel
theorem dX6_findNumber_50 : decode cX6_findNumber 50 = .ok (.invokevirtual 46, 3) := by decide +kernel
theorem dX6_findNumber_53 : decode cX6_findNumber 53 = .ok (.iadd, 1) := by decide +kernel
theorem dX6_findNumber_54 : decode cX6_findNumber 54 = .ok (.bipush 48, 2) := by decide +kernel
theorem dX6_findNumber_56 : decode cX6_findNumber 56 = .ok (.isub, 1) := by decide +kernel
theorem dX6_findNumber_57 : decode cX6_findNumber 57 = .ok (.istore_n 2, 1) := by decide +kernel
theorem dX6_findNumber_58 : decode cX6_findNumber 58 = .ok (.aload_n 0, 1) := by decide +kernel
theorem dX6_findNumber_59 : decode cX6_findNumber 59 = .ok (.dup, 1) := by decide +kernel
theorem dX6_findNumber_60 : decode cX6_findNumber 60 = .ok (.getfield 33, 3) := by decide +kernel
theorem dX6_findNumber_63 : decode cX6_findNumber 63 = .ok (.iconst 1, 1) := by decide +kernel
theorem dX6_findNumber_64 : decode cX6_findNumber 64 = .ok (.iadd, 1) := by decide +kernel
theorem dX6_findNumber_65 : decode cX6_findNumber 65 = .ok (.putfield 33, 3) := by decide +kernel
theorem dX6_findNumber_68 : decode cX6_findNumber 68 = .ok (.aload_n 0, 1) := by decide +kernel
theorem dX6_findNumber_69 : decode cX6_findNumber 69 = .ok (.getfield 18, 3) := by decide +kernel
theorem dX6_findNumber_72 : decode cX6_findNumber 72 = .ok (.iload_n 1, 1) := by decide +kernel
theorem dX6_findNumber_73 : decode cX6_findNumber 73 = .ok (.iload_n 2, 1) := by decide +kernel
theorem dX6_findNumber_74 : decode cX6_findNumber 74 = .ok (.iastore, 1) := by decide +kernel
theorem dX6_findNumber_75 : decode cX6_findNumber 75 = .ok (.aload_n 0, 1) := by decide +kernel
theorem dX6_findNumber_76 : decode cX6_findNumber 76 = .ok (.invokevirtual 56, 3) := by decide +kernel
theorem dX6_findNumber_79 : decode cX6_findNumber 79 = .ok (.ifCond .ne 7, 3) := by decide +kernel
theorem dX6_findNumber_82 : decode cX6_findNumber 82 = .ok (.iconst 1, 1) := by decide +kernel
theorem dX6_findNumber_83 : decode cX6_findNumber 83 = .ok (.goto 4, 3) := by decide +kernel
theorem dX6_findNumber_86 : decode cX6_findNumber 86 = .ok (.iconst 0, 1) := by decide +kernel
theorem dX6_findNumber_87 : decode cX6_findNumber 87 = .ok (.ireturn, 1) := by decide +kernel
theorem dX7_init_0 : decode cX7_init 0 = .ok (.aload_n 0, 1) := by decide +kernel
theorem dX7_init_1 : decode cX7_init 1 = .ok (.invokespecial 3, 3) := by decide +kernel
theorem dX7_init_4 : decode cX7_init 4 = .ok (.aload_n 0, 1) := by decide +kernel
theorem dX7_init_5 : decode cX7_init 5 = .ok (.sipush 256, 3) := by decide +kernel
theorem dX7_init_8 : decode cX7_init 8 = .ok (.newarray .int, 2) := by decide +kernel
theorem dX7_init_10 : decode cX7_init 10 = .ok (.putfield 9, 3) := by decide +kernel
theorem dX7_init_13 : decode cX7_init 13 = .ok (.aload_n 0, 1) := by decide +kernel
theorem dX7_init_14 : decode cX7_init 14 = .ok (.sipush 256, 3) := by decide +kernel
theorem dX7_init_17 : decode cX7_init 17 = .ok (.newarray .int, 2) := by decide +kernel
theorem dX7_init_19 : decode cX7_init 19 = .ok (.putfield 15, 3) := by decide +kernel
theorem dX7_init_22 : decode cX7_init 22 = .ok (.aload_n 0, 1) := by decide +kernel
theorem dX7_init_23 : decode cX7_init 23 = .ok (.sipush 256, 3) := by decide +kernel
theorem dX7_init_26 : decode cX7_init 26 = .ok (.newarray .int, 2) := by decide +kernel
theorem dX7_init_28 : decode cX7_init 28 = .ok (.putfield 18, 3) := by decide +kernel
theorem dX7_init_31 : decode cX7_init 31 = .ok (.return_, 1) := by decide +kernel
theorem dX7_look_0 : decode cX7_look 0 = .ok (.aload_n 0, 1) := by decide +kernel
theorem dX7_look_1 : decode cX7_look 1 = .ok (.bipush 16, 2) := by decide +kernel
theorem dX7_look_3 : decode cX7_look 3 = .ok (.aload_n 1, 1) := by decide +kernel
theorem dX7_look_4 : decode cX7_look 4 = .ok (.getfield 21, 3) := by decide +kernel
theorem dX7_look_7 : decode cX7_look 7 = .ok (.invokestatic 27, 3) := by decide +kernel
theorem dX7_look_10 : decode cX7_look 10 = .ok (.putfield 33, 3) := by decide +kernel
theorem dX7_look_13 : decode cX7_look 13 = .ok (.aload_n 0, 1) := by decide +kernel
theorem dX7_look_14 : decode cX7_look 14 = .ok (.bipush 16, 2) := by decide +kernel
theorem dX7_look_16 : decode cX7_look 16 = .ok (.aload_n 1, 1) := by decide +kernel
theorem dX7_look_17 : decode cX7_look 17 = .ok (.getfield 34, 3) := by decide +kernel
theorem dX7_look_20 : decode cX7_look 20 = .ok (.invokestatic 27, 3) := by decide +kernel
theorem dX7_look_23 : decode cX7_look 23 = .ok (.putfield 37, 3) := by decide +kernel
theorem dX7_look_26 : decode cX7_look 26 = .ok (.aload_n 0, 1) := by decide +kernel
theorem dX7_look_27 : decode cX7_look 27 = .ok (.getfield 15, 3) := by decide +kernel
theorem dX7_look_30 : decode cX7_look 30 = .ok (.iconst 1, 1) := by decide +kernel
theorem dX7_look_31 : decode cX7_look 31 = .ok (.invokestatic 38, 3) := by decide +kernel
theorem dX7_look_34 : decode cX7_look 34 = .ok (.iconst 0, 1) := by decide +kernel
theorem dX7_look_35 : decode cX7_look 35 = .ok (.istore_n 2, 1) := by decide +kernel
theorem dX7_look_36 : decode cX7_look 36 = .ok (.iload_n 2, 1) := by decide +kernel
theorem dX7_look_37 : decode cX7_look 37 = .ok (.aload_n 1, 1) := by decide +kernel
theorem dX7_look_38 : decode cX7_look 38 = .ok (.getfield 44, 3) := by decide +kernel
theorem dX7_look_41 : decode cX7_look 41 = .ok (.if_icmp .ge 23, 3) := by decide +kernel
theorem dX7_look_44 : decode cX7_look 44 = .ok (.aload_n 1, 1) := by decide +kernel
theorem dX7_look_45 : decode cX7_look 45 = .ok (.iload_n 2, 1) := by decide +kernel
theorem dX7_look_46 : decode cX7_look 46 = .ok (.invokevirtual 47, 3) := by decide +kernel
theorem dX7_look_49 : decode cX7_look 49 = .ok (.ifCond .eq 9, 3) := by decide +kernel
theorem dX7_look_52 : decode cX7_look 52 = .ok (.aload_n 0, 1) := by decide +kernel
theorem dX7_look_53 : decode cX7_look 53 = .ok (.aload_n 1, 1) := by decide +kernel
theorem dX7_look_54 : decode cX7_look 54 = .ok (.iload_n 2, 1) := by decide +kernel
theorem dX7_look_55 : decode cX7_look 55 = .ok (.invokevirtual 51, 3) := by decide +kernel
theorem dX7_look_58 : decode cX7_look 58 = .ok (.iinc 2 1, 3) := by decide +kernel
theorem dX7_look_61 : decode cX7_look 61 = .ok (.goto (-25), 3) := by decide +kernel
theorem dX7_look_64 : decode cX7_look 64 = .ok (.aload_n 0, 1) := by decide +kernel
theorem dX7_look_65 : decode cX7_look 65 = .ok (.invokevirtual 55, 3) := by decide +kernel
theorem dX7_look_68 : decode cX7_look 68 = .ok (.aload_n 0, 1) := by decide +kernel
theorem dX7_look_69 : decode cX7_look 69 = .ok (.invokevirtual 58, 3) := by decide +kernel
theorem dX7_look_72 : decode cX7_look 72 = .ok (.aload_n 0, 1) := by decide +kernel
theorem dX7_look_73 : decode cX7_look 73 = .ok (.invokevirtual 61, 3) := by decide +kernel
theorem dX7_look_76 : decode cX7_look 76 = .ok (.return_, 1) := by decide +kernel
theorem dX7_tell_0 : decode cX7_tell 0 = .ok (.iload_n 1, 1) := by decide +kernel
theorem dX7_tell_1 : decode cX7_tell 1 = .ok (.tableswitch 60 0 4 #[35, 40, 45, 50, 55], 35) := by decide +kernel
theorem dX7_tell_36 : decode cX7_tell 36 = .ok (.aload_n 0, 1) := by decide +kernel
theorem dX7_tell_37 : decode cX7_tell 37 = .ok (.getfield 64, 3) := by decide +kernel
theorem dX7_tell_40 : decode cX7_tell 40 = .ok (.ireturn, 1) := by decide +kernel
theorem dX7_tell_41 : decode cX7_tell 41 = .ok (.aload_n 0, 1) := by decide +kernel
theorem dX7_tell_42 : decode cX7_tell 42 = .ok (.getfield 67, 3) := by decide +kernel
theorem dX7_tell_45 : decode cX7_tell 45 = .ok (.ireturn, 1) := by decide +kernel
theorem dX7_tell_46 : decode cX7_tell 46 = .ok (.aload_n 0, 1) := by decide +kernel
theorem dX7_tell_47 : decode cX7_tell 47 = .ok (.getfield 70, 3) := by decide +kernel
theorem dX7_tell_50 : decode cX7_tell 50 = .ok (.ireturn, 1) := by decide +kernel
theorem dX7_tell_51 : decode cX7_tell 51 = .ok (.aload_n 0, 1) := by decide +kernel
theorem dX7_tell_52 : decode cX7_tell 52 = .ok (.getfield 73, 3) := by decide +kernel
theorem dX7_tell_55 : decode cX7_tell 55 = .ok (.ireturn, 1) := by decide +kernel
theorem dX7_tell_56 : decode cX7_tell 56 = .ok (.aload_n 0, 1) := by decide +kernel
theorem dX7_tell_57 : decode cX7_tell 57 = .ok (.getfield 76, 3) := by decide +kernel
theorem dX7_tell_60 : decode cX7_tell 60 = .ok (.ireturn, 1) := by decide +kernel
theorem dX7_tell_61 : decode cX7_tell 61 = .ok (.aload_n 0, 1) := by decide +kernel
theorem dX7_tell_62 : decode cX7_tell 62 = .ok (.invokevirtual 79, 3) := by decide +kernel
theorem dX7_tell_65 : decode cX7_tell 65 = .ok (.invokestatic 83, 3) := by decide +kernel
theorem dX7_tell_68 : decode cX7_tell 68 = .ok (.ireturn, 1) := by decide +kernel
theorem dX7_share_0 : decode cX7_share 0 = .ok (.aload_n 0, 1) := by decide +kernel
theorem dX7_share_1 : decode cX7_share 1 = .ok (.getfield 33, 3) := by decide +kernel
theorem dX7_share_4 : decode cX7_share 4 = .ok (.aload_n 0, 1) := by decide +kernel
theorem dX7_share_5 : decode cX7_share 5 = .ok (.getfield 37, 3) := by decide +kernel
theorem dX7_share_8 : decode cX7_share 8 = .ok (.imul, 1) := by decide +kernel
theorem dX7_share_9 : decode cX7_share 9 = .ok (.istore_n 1, 1) := by decide +kernel
theorem dX7_share_10 : decode cX7_share 10 = .ok (.iload_n 1, 1) := by decide +kernel
theorem dX7_share_11 : decode cX7_share 11 = .ok (.ifCond .le 14, 3) := by decide +kernel
theorem dX7_share_14 : decode cX7_share 14 = .ok (.aload_n 0, 1) := by decide +kernel
theorem dX7_share_15 : decode cX7_share 15 = .ok (.getfield 64, 3) := by decide +kernel
theorem dX7_share_18 : decode cX7_share 18 = .ok (.i2f, 1) := by decide +kernel
theorem dX7_share_19 : decode cX7_share 19 = .ok (.iload_n 1, 1) := by decide +kernel
theorem dX7_share_20 : decode cX7_share 20 = .ok (.i2f, 1) := by decide +kernel
theorem dX7_share_21 : decode cX7_share 21 = .ok (.fdiv, 1) := by decide +kernel
theorem dX7_share_22 : decode cX7_share 22 = .ok (.goto 4, 3) := by decide +kernel
theorem dX7_share_25 : decode cX7_share 25 = .ok (.fconst 0, 1) := by decide +kernel
theorem dX7_share_26 : decode cX7_share 26 = .ok (.freturn, 1) := by decide +kernel
theorem dX7_cover_0 : decode cX7_cover 0 = .ok (.aload_n 0, 1) := by decide +kernel
theorem dX7_cover_1 : decode cX7_cover 1 = .ok (.getfield 33, 3) := by decide +kernel
theorem dX7_cover_4 : decode cX7_cover 4 = .ok (.aload_n 1, 1) := by decide +kernel
theorem dX7_cover_5 : decode cX7_cover 5 = .ok (.iload_n 2, 1) := by decide +kernel
theorem dX7_cover_6 : decode cX7_cover 6 = .ok (.invokevirtual 89, 3) := by decide +kernel
theorem dX7_cover_9 : decode cX7_cover 9 = .ok (.aload_n 1, 1) := by decide +kernel
theorem dX7_cover_10 : decode cX7_cover 10 = .ok (.iload_n 2, 1) := by decide +kernel
theorem dX7_cover_11 : decode cX7_cover 11 = .ok (.invokevirtual 93, 3) := by decide +kernel
theorem dX7_cover_14 : decode cX7_cover 14 = .ok (.iadd, 1) := by decide +kernel
theorem dX7_cover_15 : decode cX7_cover 15 = .ok (.invokestatic 27, 3) := by decide +kernel
theorem dX7_cover_18 : decode cX7_cover 18 = .ok (.istore_n 3, 1) := by decide +kernel
theorem dX7_cover_19 : decode cX7_cover 19 = .ok (.aload_n 0, 1) := by decide +kernel
theorem dX7_cover_20 : decode cX7_cover 20 = .ok (.getfield 37, 3) := by decide +kernel
theorem dX7_cover_23 : decode cX7_cover 23 = .ok (.aload_n 1, 1) := by decide +kernel
theorem dX7_cover_24 : decode cX7_cover 24 = .ok (.iload_n 2, 1) := by decide +kernel
theorem dX7_cover_25 : decode cX7_cover 25 = .ok (.invokevirtual 96, 3) := by decide +kernel
theorem dX7_cover_28 : decode cX7_cover 28 = .ok (.aload_n 1, 1) := by decide +kernel
theorem dX7_cover_29 : decode cX7_cover 29 = .ok (.iload_n 2, 1) := by decide +kernel
theorem dX7_cover_30 : decode cX7_cover 30 = .ok (.invokevirtual 99, 3) := by decide +kernel
theorem dX7_cover_33 : decode cX7_cover 33 = .ok (.iadd, 1) := by decide +kernel
theorem dX7_cover_34 : decode cX7_cover 34 = .ok (.invokestatic 27, 3) := by decide +kernel
theorem dX7_cover_37 : decode cX7_cover 37 = .ok (.istore 4, 2) := by decide +kernel
theorem dX7_cover_39 : decode cX7_cover 39 = .ok (.iconst 0, 1) := by decide +kernel
theorem dX7_cover_40 : decode cX7_cover 40 = .ok (.aload_n 1, 1) := by decide +kernel
theorem dX7_cover_41 : decode cX7_cover 41 = .ok (.iload_n 2, 1) := by decide +kernel
theorem dX7_cover_42 : decode cX7_cover 42 = .ok (.invokevirtual 96, 3) := by decide +kernel
theorem dX7_cover_45 : decode cX7_cover 45 = .ok (.invokestatic 102, 3) := by decide +kernel
theorem dX7_cover_48 : decode cX7_cover 48 = .ok (.istore 5, 2) := by decide +kernel
theorem dX7_cover_50 : decode cX7_cover 50 = .ok (.iload 5, 2) := by decide +kernel
theorem dX7_cover_52 : decode cX7_cover 52 = .ok (.iload 4, 2) := by decide +kernel
theorem dX7_cover_54 : decode cX7_cover 54 = .ok (.if_icmp .ge 45, 3) := by decide +kernel
theorem dX7_cover_57 : decode cX7_cover 57 = .ok (.iconst 0, 1) := by decide +kernel
theorem dX7_cover_58 : decode cX7_cover 58 = .ok (.aload_n 1, 1) := by decide +kernel
theorem dX7_cover_59 : decode cX7_cover 59 = .ok (.iload_n 2, 1) := by decide +kernel
theorem dX7_cover_60 : decode cX7_cover 60 = .ok (.invokevirtual 89, 3) := by decide +kernel
theorem dX7_cover_63 : decode cX7_cover 63 = .ok (.invokestatic 102, 3) := by decide +kernel
theorem dX7_cover_66 : decode cX7_cover 66 = .ok (.istore 6, 2) := by decide +kernel
theorem dX7_cover_68 : decode cX7_cover 68 = .ok (.iload 6, 2) := by decide +kernel
theorem dX7_cover_70 : decode cX7_cover 70 = .ok (.iload_n 3, 1) := by decide +kernel
theorem dX7_cover_71 : decode cX7_cover 71 = .ok (.if_icmp .ge 22, 3) := by decide +kernel
theorem dX7_cover_74 : decode cX7_cover 74 = .ok (.aload_n 0, 1) := by decide +kernel
theorem dX7_cover_75 : decode cX7_cover 75 = .ok (.getfield 15, 3) := by decide +kernel
theorem dX7_cover_78 : decode cX7_cover 78 = .ok (.iload 6, 2) := by decide +kernel
theorem dX7_cover_80 : decode cX7_cover 80 = .ok (.iload 5, 2) := by decide +kernel
theorem dX7_cover_82 : decode cX7_cover 82 = .ok (.invokestatic 105, 3) := by decide +kernel
theorem dX7_cover_85 : decode cX7_cover 85 = .ok (.iconst 0, 1) := by decide +kernel
theorem dX7_cover_86 : decode cX7_cover 86 = .ok (.iastore, 1) := by decide +kernel
theorem dX7_cover_87 : decode cX7_cover 87 = .ok (.iinc 6 1, 3) := by decide +kernel
theorem dX7_cover_90 : decode cX7_cover 90 = .ok (.goto (-22), 3) := by decide +kernel
theorem dX7_cover_93 : decode cX7_cover 93 = .ok (.iinc 5 1, 3) := by decide +kernel
theorem dX7_cover_96 : decode cX7_cover 96 = .ok (.goto (-46), 3) := by decide +kernel
theorem dX7_cover_99 : decode cX7_cover 99 = .ok (.return_, 1) := by decide +kernel
theorem dX7_countCells_0 : decode cX7_countCells 0 = .ok (.aload_n 0, 1) := by decide +kernel
theorem dX7_countCells_1 : decode cX7_countCells 1 = .ok (.iconst 0, 1) := by decide +kernel
theorem dX7_countCells_2 : decode cX7_countCells 2 = .ok (.putfield 64, 3) := by decide +kernel
theorem dX7_countCells_5 : decode cX7_countCells 5 = .ok (.iconst 0, 1) := by decide +kernel
theorem dX7_countCells_6 : decode cX7_countCells 6 = .ok (.istore_n 1, 1) := by decide +kernel
theorem dX7_countCells_7 : decode cX7_countCells 7 = .ok (.iload_n 1, 1) := by decide +kernel
theorem dX7_countCells_8 : decode cX7_countCells 8 = .ok (.aload_n 0, 1) := by decide +kernel
theorem dX7_countCells_9 : decode cX7_countCells 9 = .ok (.getfield 37, 3) := by decide +kernel
theorem dX7_countCells_12 : decode cX7_countCells 12 = .ok (.if_icmp .ge 78, 3) := by decide +kernel
theorem dX7_countCells_15 : decode cX7_countCells 15 = .ok (.iconst 0, 1) := by decide +kernel
theorem dX7_countCells_16 : decode cX7_countCells 16 = .ok (.istore_n 2, 1) := by decide +kernel
theorem dX7_countCells_17 : decode cX7_countCells 17 = .ok (.aload_n 0, 1) := by decide +kernel
theorem dX7_countCells_18 : decode cX7_countCells 18 = .ok (.getfield 33, 3) := by decide +kernel
theorem dX7_countCells_21 : decode cX7_countCells 21 = .ok (.iconst 1, 1) := by decide +kernel
theorem dX7_countCells_22 : decode cX7_countCells 22 = .ok (.isub, 1) := by decide +kernel
theorem dX7_countCells_23 : decode cX7_countCells 23 = .ok (.istore_n 3, 1) := by decide +kernel
theorem dX7_countCells_24 : decode cX7_countCells 24 = .ok (.iload_n 3, 1) := by decide +kernel
theorem dX7_countCells_25 : decode cX7_countCells 25 = .ok (.ifCond .lt 59, 3) := by decide +kernel
theorem dX7_countCells_28 : decode cX7_countCells 28 = .ok (.iload_n 3, 1) := by decide +kernel
theorem dX7_countCells_29 : decode cX7_countCells 29 = .ok (.iload_n 1, 1) := by decide +kernel
theorem dX7_countCells_30 : decode cX7_countCells 30 = .ok (.invokestatic 105, 3) := by decide +kernel
theorem dX7_countCells_33 : decode cX7_countCells 33 = .ok (.istore 4, 2) := by decide +kernel
theorem dX7_countCells_35 : decode cX7_countCells 35 = .ok (.aload_n 0, 1) := by decide +kernel
theorem dX7_countCells_36 : decode cX7_countCells 36 = .ok (.getfield 15, 3) := by decide +kernel
theorem dX7_countCells_39 : decode cX7_countCells 39 = .ok (.iload 4, 2) := by decide +kernel
theorem dX7_countCells_41 : decode cX7_countCells 41 = .ok (.iaload, 1) := by decide +kernel
theorem dX7_countCells_42 : decode cX7_countCells 42 = .ok (.iconst 1, 1) := by decide +kernel
theorem dX7_countCells_43 : decode cX7_countCells 43 = .ok (.if_icmp .ne 9, 3) := by decide +kernel
theorem dX7_countCells_46 : decode cX7_countCells 46 = .ok (.iload_n 2, 1) := by decide +kernel
theorem dX7_countCells_47 : decode cX7_countCells 47 = .ok (.iconst 1, 1) := by decide +kernel
theorem dX7_countCells_48 : decode cX7_countCells 48 = .ok (.iadd, 1) := by decide +kernel
theorem dX7_countCells_49 : decode cX7_countCells 49 = .ok (.goto 4, 3) := by decide +kernel
theorem dX7_countCells_52 : decode cX7_countCells 52 = .ok (.iconst 0, 1) := by decide +kernel
theorem dX7_countCells_53 : decode cX7_countCells 53 = .ok (.istore_n 2, 1) := by decide +kernel
theorem dX7_countCells_54 : decode cX7_countCells 54 = .ok (.aload_n 0, 1) := by decide +kernel
theorem dX7_countCells_55 : decode cX7_countCells 55 = .ok (.getfield 9, 3) := by decide +kernel
theorem dX7_countCells_58 : decode cX7_countCells 58 = .ok (.iload 4, 2) := by decide +kernel
theorem dX7_countCells_60 : decode cX7_countCells 60 = .ok (.iload_n 2, 1) := by decide +kernel
theorem dX7_countCells_61 : decode cX7_countCells 61 = .ok (.iastore, 1) := by decide +kernel
theorem dX7_countCells_62 : decode cX7_countCells 62 = .ok (.aload_n 0, 1) := by decide +kernel
theorem dX7_countCells_63 : decode cX7_countCells 63 = .ok (.dup, 1) := by decide +kernel
theorem dX7_countCells_64 : decode cX7_countCells 64 = .ok (.getfield 64, 3) := by decide +kernel
theorem dX7_countCells_67 : decode cX7_countCells 67 = .ok (.aload_n 0, 1) := by decide +kernel
theorem dX7_countCells_68 : decode cX7_countCells 68 = .ok (.getfield 15, 3) := by decide +kernel
theorem dX7_countCells_71 : decode cX7_countCells 71 = .ok (.iload 4, 2) := by decide +kernel
theorem dX7_countCells_73 : decode cX7_countCells 73 = .ok (.iaload, 1) := by decide +kernel
theorem dX7_countCells_74 : decode cX7_countCells 74 = .ok (.iadd, 1) := by decide +kernel
theorem dX7_countCells_75 : decode cX7_countCells 75 = .ok (.putfield 64, 3) := by decide +kernel
theorem dX7_countCells_78 : decode cX7_countCells 78 = .ok (.iinc 3 (-1), 3) := by decide +kernel
theorem dX7_countCells_81 : decode cX7_countCells 81 = .ok (.goto (-57), 3) := by decide +kernel
theorem dX7_countCells_84 : decode cX7_countCells 84 = .ok (.iinc 1 1, 3) := by decide +kernel
theorem dX7_countCells_87 : decode cX7_countCells 87 = .ok (.goto (-80), 3) := by decide +kernel
theorem dX7_countCells_90 : decode cX7_countCells 90 = .ok (.return_, 1) := by decide +kernel
theorem dX7_findBlock_0 : decode cX7_findBlock 0 = .ok (.aload_n 0, 1) := by decide +kernel
theorem dX7_findBlock_1 : decode cX7_findBlock 1 = .ok (.iconst 0, 1) := by decide +kernel
theorem dX7_findBlock_2 : decode cX7_findBlock 2 = .ok (.putfield 67, 3) := by decide +kernel
theorem dX7_findBlock_5 : decode cX7_findBlock 5 = .ok (.aload_n 0, 1) := by decide +kernel
theorem dX7_findBlock_6 : decode cX7_findBlock 6 = .ok (.iconst (-1), 1) := by decide +kernel
theorem dX7_findBlock_7 : decode cX7_findBlock 7 = .ok (.putfield 70, 3) := by decide +kernel
theorem dX7_findBlock_10 : decode cX7_findBlock 10 = .ok (.aload_n 0, 1) := by decide +kernel
theorem dX7_findBlock_11 : decode cX7_findBlock 11 = .ok (.iconst (-1), 1) := by decide +kernel
theorem dX7_findBlock_12 : decode cX7_findBlock 12 = .ok (.putfield 73, 3) := by decide +kernel
theorem dX7_findBlock_15 : decode cX7_findBlock 15 = .ok (.iconst 0, 1) := by decide +kernel
theorem dX7_findBlock_16 : decode cX7_findBlock 16 = .ok (.istore_n 1, 1) := by decide +kernel
theorem dX7_findBlock_17 : decode cX7_findBlock 17 = .ok (.iload_n 1, 1) := by decide +kernel
theorem dX7_findBlock_18 : decode cX7_findBlock 18 = .ok (.aload_n 0, 1) := by decide +kernel
theorem dX7_findBlock_19 : decode cX7_findBlock 19 = .ok (.getfield 37, 3) := by decide +kernel
theorem dX7_findBlock_22 : decode cX7_findBlock 22 = .ok (.if_icmp .ge 31, 3) := by decide +kernel
theorem dX7_findBlock_25 : decode cX7_findBlock 25 = .ok (.iconst 0, 1) := by decide +kernel
theorem dX7_findBlock_26 : decode cX7_findBlock 26 = .ok (.istore_n 2, 1) := by decide +kernel
theorem dX7_findBlock_27 : decode cX7_findBlock 27 = .ok (.iload_n 2, 1) := by decide +kernel
theorem dX7_findBlock_28 : decode cX7_findBlock 28 = .ok (.aload_n 0, 1) := by decide +kernel
theorem dX7_findBlock_29 : decode cX7_findBlock 29 = .ok (.getfield 33, 3) := by decide +kernel
theorem dX7_findBlock_32 : decode cX7_findBlock 32 = .ok (.if_icmp .ge 15, 3) := by decide +kernel
theorem dX7_findBlock_35 : decode cX7_findBlock 35 = .ok (.aload_n 0, 1) := by decide +kernel
theorem dX7_findBlock_36 : decode cX7_findBlock 36 = .ok (.iload_n 2, 1) := by decide +kernel
theorem dX7_findBlock_37 : decode cX7_findBlock 37 = .ok (.iload_n 1, 1) := by decide +kernel
theorem dX7_findBlock_38 : decode cX7_findBlock 38 = .ok (.invokevirtual 108, 3) := by decide +kernel
theorem dX7_findBlock_41 : decode cX7_findBlock 41 = .ok (.iinc 2 1, 3) := by decide +kernel
theorem dX7_findBlock_44 : decode cX7_findBlock 44 = .ok (.goto (-17), 3) := by decide +kernel
theorem dX7_findBlock_47 : decode cX7_findBlock 47 = .ok (.iinc 1 1, 3) := by decide +kernel
theorem dX7_findBlock_50 : decode cX7_findBlock 50 = .ok (.goto (-33), 3) := by decide +kernel
theorem dX7_findBlock_53 : decode cX7_findBlock 53 = .ok (.return_, 1) := by decide +kernel
theorem dX7_tryBlocks_0 : decode cX7_tryBlocks 0 = .ok (.aload_n 0, 1) := by decide +kernel
theorem dX7_tryBlocks_1 : decode cX7_tryBlocks 1 = .ok (.getfield 33, 3) := by decide +kernel
theorem dX7_tryBlocks_4 : decode cX7_tryBlocks 4 = .ok (.istore_n 3, 1) := by decide +kernel
theorem dX7_tryBlocks_5 : decode cX7_tryBlocks 5 = .ok (.iload_n 2, 1) := by decide +kernel
theorem dX7_tryBlocks_6 : decode cX7_tryBlocks 6 = .ok (.istore 4, 2) := by decide +kernel
theorem dX7_tryBlocks_8 : decode cX7_tryBlocks 8 = .ok (.iload 4, 2) := by decide +kernel
theorem dX7_tryBlocks_10 : decode cX7_tryBlocks 10 = .ok (.aload_n 0, 1) := by decide +kernel
theorem dX7_tryBlocks_11 : decode cX7_tryBlocks 11 = .ok (.getfield 37, 3) := by decide +kernel
theorem dX7_tryBlocks_14 : decode cX7_tryBlocks 14 = .ok (.if_icmp .ge 68, 3) := by decide +kernel
theorem dX7_tryBlocks_17 : decode cX7_tryBlocks 17 = .ok (.iload_n 3, 1) := by decide +kernel
theorem dX7_tryBlocks_18 : decode cX7_tryBlocks 18 = .ok (.ifCond .le 64, 3) := by decide +kernel
theorem dX7_tryBlocks_21 : decode cX7_tryBlocks 21 = .ok (.iload_n 3, 1) := by decide +kernel
theorem dX7_tryBlocks_22 : decode cX7_tryBlocks 22 = .ok (.aload_n 0, 1) := by decide +kernel
theorem dX7_tryBlocks_23 : decode cX7_tryBlocks 23 = .ok (.getfield 9, 3) := by decide +kernel
theorem dX7_tryBlocks_26 : decode cX7_tryBlocks 26 = .ok (.iload_n 1, 1) := by decide +kernel
theorem dX7_tryBlocks_27 : decode cX7_tryBlocks 27 = .ok (.iload 4, 2) := by decide +kernel
theorem dX7_tryBlocks_29 : decode cX7_tryBlocks 29 = .ok (.invokestatic 105, 3) := by decide +kernel
theorem dX7_tryBlocks_32 : decode cX7_tryBlocks 32 = .ok (.iaload, 1) := by decide +kernel
theorem dX7_tryBlocks_33 : decode cX7_tryBlocks 33 = .ok (.invokestatic 27, 3) := by decide +kernel
theorem dX7_tryBlocks_36 : decode cX7_tryBlocks 36 = .ok (.istore_n 3, 1) := by decide +kernel
theorem dX7_tryBlocks_37 : decode cX7_tryBlocks 37 = .ok (.iload_n 3, 1) := by decide +kernel
theorem dX7_tryBlocks_38 : decode cX7_tryBlocks 38 = .ok (.iload 4, 2) := by decide +kernel
theorem dX7_tryBlocks_40 : decode cX7_tryBlocks 40 = .ok (.iload_n 2, 1) := by decide +kernel
theorem dX7_tryBlocks_41 : decode cX7_tryBlocks 41 = .ok (.isub, 1) := by decide +kernel
theorem dX7_tryBlocks_42 : decode cX7_tryBlocks 42 = .ok (.iconst 1, 1) := by decide +kernel
theorem dX7_tryBlocks_43 : decode cX7_tryBlocks 43 = .ok (.iadd, 1) := by decide +kernel
theorem dX7_tryBlocks_44 : decode cX7_tryBlocks 44 = .ok (.imul, 1) := by decide +kernel
theorem dX7_tryBlocks_45 : decode cX7_tryBlocks 45 = .ok (.istore 5, 2) := by decide +kernel
theorem dX7_tryBlocks_47 : decode cX7_tryBlocks 47 = .ok (.iload 5, 2) := by decide +kernel
theorem dX7_tryBlocks_49 : decode cX7_tryBlocks 49 = .ok (.aload_n 0, 1) := by decide +kernel
theorem dX7_tryBlocks_50 : decode cX7_tryBlocks 50 = .ok (.getfield 67, 3) := by decide +kernel
theorem dX7_tryBlocks_53 : decode cX7_tryBlocks 53 = .ok (.if_icmp .le 23, 3) := by decide +kernel
theorem dX7_tryBlocks_56 : decode cX7_tryBlocks 56 = .ok (.aload_n 0, 1) := by decide +kernel
theorem dX7_tryBlocks_57 : decode cX7_tryBlocks 57 = .ok (.iload 5, 2) := by decide +kernel
theorem dX7_tryBlocks_59 : decode cX7_tryBlocks 59 = .ok (.putfield 67, 3) := by decide +kernel
theorem dX7_tryBlocks_62 : decode cX7_tryBlocks 62 = .ok (.aload_n 0, 1) := by decide +kernel
theorem dX7_tryBlocks_63 : decode cX7_tryBlocks 63 = .ok (.iload_n 1, 1) := by decide +kernel
theorem dX7_tryBlocks_64 : decode cX7_tryBlocks 64 = .ok (.iload_n 2, 1) := by decide +kernel
theorem dX7_tryBlocks_65 : decode cX7_tryBlocks 65 = .ok (.invokestatic 105, 3) := by decide +kernel
theorem dX7_tryBlocks_68 : decode cX7_tryBlocks 68 = .ok (.putfield 70, 3) := by decide +kernel
theorem dX7_tryBlocks_71 : decode cX7_tryBlocks 71 = .ok (.aload_n 0, 1) := by decide +kernel
theorem dX7_tryBlocks_72 : decode cX7_tryBlocks 72 = .ok (.iload_n 3, 1) := by decide +kernel
theorem dX7_tryBlocks_73 : decode cX7_tryBlocks 73 = .ok (.putfield 73, 3) := by decide +kernel
theorem dX7_tryBlocks_76 : decode cX7_tryBlocks 76 = .ok (.iinc 4 1, 3) := by decide +kernel
theorem dX7_tryBlocks_79 : decode cX7_tryBlocks 79 = .ok (.goto (-71), 3) := by decide +kernel
theorem dX7_tryBlocks_82 : decode cX7_tryBlocks 82 = .ok (.return_, 1) := by decide +kernel
theorem dX7_countParts_0 : decode cX7_countParts 0 = .ok (.aload_n 0, 1) := by decide +kernel
theorem dX7_countParts_1 : decode cX7_countParts 1 = .ok (.iconst 0, 1) := by decide +kernel
theorem dX7_countParts_2 : decode cX7_countParts 2 = .ok (.putfield 76, 3) := by decide +kernel
theorem dX7_countParts_5 : decode cX7_countParts 5 = .ok (.aload_n 0, 1) := by decide +kernel
theorem dX7_countParts_6 : decode cX7_countParts 6 = .ok (.iconst 0, 1) := by decide +kernel
theorem dX7_countParts_7 : decode cX7_countParts 7 = .ok (.putfield 112, 3) := by decide +kernel
theorem dX7_countParts_10 : decode cX7_countParts 10 = .ok (.iconst 0, 1) := by decide +kernel
theorem dX7_countParts_11 : decode cX7_countParts 11 = .ok (.istore_n 1, 1) := by decide +kernel
theorem dX7_countParts_12 : decode cX7_countParts 12 = .ok (.iload_n 1, 1) := by decide +kernel
theorem dX7_countParts_13 : decode cX7_countParts 13 = .ok (.aload_n 0, 1) := by decide +kernel
theorem dX7_countParts_14 : decode cX7_countParts 14 = .ok (.getfield 37, 3) := by decide +kernel
theorem dX7_countParts_17 : decode cX7_countParts 17 = .ok (.if_icmp .ge 59, 3) := by decide +kernel
theorem dX7_countParts_20 : decode cX7_countParts 20 = .ok (.iconst 0, 1) := by decide +kernel
theorem dX7_countParts_21 : decode cX7_countParts 21 = .ok (.istore_n 2, 1) := by decide +kernel
theorem dX7_countParts_22 : decode cX7_countParts 22 = .ok (.iload_n 2, 1) := by decide +kernel
theorem dX7_countParts_23 : decode cX7_countParts 23 = .ok (.aload_n 0, 1) := by decide +kernel
theorem dX7_countParts_24 : decode cX7_countParts 24 = .ok (.getfield 33, 3) := by decide +kernel
theorem dX7_countParts_27 : decode cX7_countParts 27 = .ok (.if_icmp .ge 43, 3) := by decide +kernel
theorem dX7_countParts_30 : decode cX7_countParts 30 = .ok (.aload_n 0, 1) := by decide +kernel
theorem dX7_countParts_31 : decode cX7_countParts 31 = .ok (.getfield 112, 3) := by decide +kernel
theorem dX7_countParts_34 : decode cX7_countParts 34 = .ok (.istore_n 3, 1) := by decide +kernel
theorem dX7_countParts_35 : decode cX7_countParts 35 = .ok (.aload_n 0, 1) := by decide +kernel
theorem dX7_countParts_36 : decode cX7_countParts 36 = .ok (.iload_n 2, 1) := by decide +kernel
theorem dX7_countParts_37 : decode cX7_countParts 37 = .ok (.iload_n 1, 1) := by decide +kernel
theorem dX7_countParts_38 : decode cX7_countParts 38 = .ok (.invokevirtual 115, 3) := by decide +kernel
theorem dX7_countParts_41 : decode cX7_countParts 41 = .ok (.aload_n 0, 1) := by decide +kernel
theorem dX7_countParts_42 : decode cX7_countParts 42 = .ok (.getfield 112, 3) := by decide +kernel
theorem dX7_countParts_45 : decode cX7_countParts 45 = .ok (.iload_n 3, 1) := by decide +kernel
theorem dX7_countParts_46 : decode cX7_countParts 46 = .ok (.if_icmp .le 18, 3) := by decide +kernel
theorem dX7_countParts_49 : decode cX7_countParts 49 = .ok (.aload_n 0, 1) := by decide +kernel
theorem dX7_countParts_50 : decode cX7_countParts 50 = .ok (.dup, 1) := by decide +kernel
theorem dX7_countParts_51 : decode cX7_countParts 51 = .ok (.getfield 76, 3) := by decide +kernel
theorem dX7_countParts_54 : decode cX7_countParts 54 = .ok (.iconst 1, 1) := by decide +kernel
theorem dX7_countParts_55 : decode cX7_countParts 55 = .ok (.iadd, 1) := by decide +kernel
theorem dX7_countParts_56 : decode cX7_countParts 56 = .ok (.putfield 76, 3) := by decide +kernel
theorem dX7_countParts_59 : decode cX7_countParts 59 = .ok (.aload_n 0, 1) := by decide +kernel
theorem dX7_countParts_60 : decode cX7_countParts 60 = .ok (.iload_n 3, 1) := by decide +kernel
theorem dX7_countParts_61 : decode cX7_countParts 61 = .ok (.invokevirtual 118, 3) := by decide +kernel
theorem dX7_countParts_64 : decode cX7_countParts 64 = .ok (.iinc 2 1, 3) := by decide +kernel
theorem dX7_countParts_67 : decode cX7_countParts 67 = .ok (.goto (-45), 3) := by decide +kernel
theorem dX7_countParts_70 : decode cX7_countParts 70 = .ok (.iinc 1 1, 3) := by decide +kernel
theorem dX7_countParts_73 : decode cX7_countParts 73 = .ok (.goto (-61), 3) := by decide +kernel
theorem dX7_countParts_76 : decode cX7_countParts 76 = .ok (.return_, 1) := by decide +kernel
theorem dX7_spread_0 : decode cX7_spread 0 = .ok (.iload_n 1, 1) := by decide +kernel
theorem dX7_spread_1 : decode cX7_spread 1 = .ok (.istore_n 2, 1) := by decide +kernel
theorem dX7_spread_2 : decode cX7_spread 2 = .ok (.iload_n 2, 1) := by decide +kernel
theorem dX7_spread_3 : decode cX7_spread 3 = .ok (.ifCond .lt 81, 3) := by decide +kernel
theorem dX7_spread_6 : decode cX7_spread 6 = .ok (.iload_n 2, 1) := by decide +kernel
theorem dX7_spread_7 : decode cX7_spread 7 = .ok (.aload_n 0, 1) := by decide +kernel
theorem dX7_spread_8 : decode cX7_spread 8 = .ok (.getfield 112, 3) := by decide +kernel
theorem dX7_spread_11 : decode cX7_spread 11 = .ok (.if_icmp .ge 73, 3) := by decide +kernel
theorem dX7_spread_14 : decode cX7_spread 14 = .ok (.iload_n 2, 1) := by decide +kernel
theorem dX7_spread_15 : decode cX7_spread 15 = .ok (.sipush 256, 3) := by decide +kernel
theorem dX7_spread_18 : decode cX7_spread 18 = .ok (.if_icmp .ge 66, 3) := by decide +kernel
theorem dX7_spread_21 : decode cX7_spread 21 = .ok (.aload_n 0, 1) := by decide +kernel
theorem dX7_spread_22 : decode cX7_spread 22 = .ok (.getfield 18, 3) := by decide +kernel
theorem dX7_spread_25 : decode cX7_spread 25 = .ok (.iload_n 2, 1) := by decide +kernel
theorem dX7_spread_26 : decode cX7_spread 26 = .ok (.iaload, 1) := by decide +kernel
theorem dX7_spread_27 : decode cX7_spread 27 = .ok (.bipush 16, 2) := by decide +kernel
theorem dX7_spread_29 : decode cX7_spread 29 = .ok (.irem, 1) := by decide +kernel
theorem dX7_spread_30 : decode cX7_spread 30 = .ok (.istore_n 3, 1) := by decide +kernel
theorem dX7_spread_31 : decode cX7_spread 31 = .ok (.aload_n 0, 1) := by decide +kernel
theorem dX7_spread_32 : decode cX7_spread 32 = .ok (.getfield 18, 3) := by decide +kernel
theorem dX7_spread_35 : decode cX7_spread 35 = .ok (.iload_n 2, 1) := by decide +kernel
theorem dX7_spread_36 : decode cX7_spread 36 = .ok (.iaload, 1) := by decide +kernel
theorem dX7_spread_37 : decode cX7_spread 37 = .ok (.bipush 16, 2) := by decide +kernel
theorem dX7_spread_39 : decode cX7_spread 39 = .ok (.idiv, 1) := by decide +kernel
theorem dX7_spread_40 : decode cX7_spread 40 = .ok (.istore 4, 2) := by decide +kernel
theorem dX7_spread_42 : decode cX7_spread 42 = .ok (.aload_n 0, 1) := by decide +kernel
theorem dX7_spread_43 : decode cX7_spread 43 = .ok (.iload_n 3, 1) := by decide +kernel
theorem dX7_spread_44 : decode cX7_spread 44 = .ok (.iconst 1, 1) := by decide +kernel
theorem dX7_spread_45 : decode cX7_spread 45 = .ok (.isub, 1) := by decide +kernel
theorem dX7_spread_46 : decode cX7_spread 46 = .ok (.iload 4, 2) := by decide +kernel
theorem dX7_spread_48 : decode cX7_spread 48 = .ok (.invokevirtual 115, 3) := by decide +kernel
theorem dX7_spread_51 : decode cX7_spread 51 = .ok (.aload_n 0, 1) := by decide +kernel
theorem dX7_spread_52 : decode cX7_spread 52 = .ok (.iload_n 3, 1) := by decide +kernel
theorem dX7_spread_53 : decode cX7_spread 53 = .ok (.iconst 1, 1) := by decide +kernel
theorem dX7_spread_54 : decode cX7_spread 54 = .ok (.iadd, 1) := by decide +kernel
theorem dX7_spread_55 : decode cX7_spread 55 = .ok (.iload 4, 2) := by decide +kernel
theorem dX7_spread_57 : decode cX7_spread 57 = .ok (.invokevirtual 115, 3) := by decide +kernel
theorem dX7_spread_60 : decode cX7_spread 60 = .ok (.aload_n 0, 1) := by decide +kernel
theorem dX7_spread_61 : decode cX7_spread 61 = .ok (.iload_n 3, 1) := by decide +kernel
theorem dX7_spread_62 : decode cX7_spread 62 = .ok (.iload 4, 2) := by decide +kernel
theorem dX7_spread_64 : decode cX7_spread 64 = .ok (.iconst 1, 1) := by decide +kernel
theorem dX7_spread_65 : decode cX7_spread 65 = .ok (.isub, 1) := by decide +kernel
theorem dX7_spread_66 : decode cX7_spread 66 = .ok (.invokevirtual 115, 3) := by decide +kernel
theorem dX7_spread_69 : decode cX7_spread 69 = .ok (.aload_n 0, 1) := by decide +kernel
theorem dX7_spread_70 : decode cX7_spread 70 = .ok (.iload_n 3, 1) := by decide +kernel
theorem dX7_spread_71 : decode cX7_spread 71 = .ok (.iload 4, 2) := by decide +kernel
theorem dX7_spread_73 : decode cX7_spread 73 = .ok (.iconst 1, 1) := by decide +kernel
theorem dX7_spread_74 : decode cX7_spread 74 = .ok (.iadd, 1) := by decide +kernel
theorem dX7_spread_75 : decode cX7_spread 75 = .ok (.invokevirtual 115, 3) := by decide +kernel
theorem dX7_spread_78 : decode cX7_spread 78 = .ok (.iinc 2 1, 3) := by decide +kernel
theorem dX7_spread_81 : decode cX7_spread 81 = .ok (.goto (-79), 3) := by decide +kernel
theorem dX7_spread_84 : decode cX7_spread 84 = .ok (.return_, 1) := by decide +kernel
theorem dX7_reach_0 : decode cX7_reach 0 = .ok (.iload_n 1, 1) := by decide +kernel
theorem dX7_reach_1 : decode cX7_reach 1 = .ok (.iconst 0, 1) := by decide +kernel
theorem dX7_reach_2 : decode cX7_reach 2 = .ok (.aload_n 0, 1) := by decide +kernel
theorem dX7_reach_3 : decode cX7_reach 3 = .ok (.getfield 33, 3) := by decide +kernel
theorem dX7_reach_6 : decode cX7_reach 6 = .ok (.iconst 1, 1) := by decide +kernel
theorem dX7_reach_7 : decode cX7_reach 7 = .ok (.isub, 1) := by decide +kernel
theorem dX7_reach_8 : decode cX7_reach 8 = .ok (.invokestatic 122, 3) := by decide +kernel
theorem dX7_reach_11 : decode cX7_reach 11 = .ok (.ifCond .eq 27, 3) := by decide +kernel
theorem dX7_reach_14 : decode cX7_reach 14 = .ok (.iload_n 2, 1) := by decide +kernel
theorem dX7_reach_15 : decode cX7_reach 15 = .ok (.iconst 0, 1) := by decide +kernel
theorem dX7_reach_16 : decode cX7_reach 16 = .ok (.aload_n 0, 1) := by decide +kernel
theorem dX7_reach_17 : decode cX7_reach 17 = .ok (.getfield 37, 3) := by decide +kernel
theorem dX7_reach_20 : decode cX7_reach 20 = .ok (.iconst 1, 1) := by decide +kernel
theorem dX7_reach_21 : decode cX7_reach 21 = .ok (.isub, 1) := by decide +kernel
theorem dX7_reach_22 : decode cX7_reach 22 = .ok (.invokestatic 122, 3) := by decide +kernel
theorem dX7_reach_25 : decode cX7_reach 25 = .ok (.ifCond .eq 13, 3) := by decide +kernel
theorem dX7_reach_28 : decode cX7_reach 28 = .ok (.aload_n 0, 1) := by decide +kernel
theorem dX7_reach_29 : decode cX7_reach 29 = .ok (.getfield 112, 3) := by decide +kernel
theorem dX7_reach_32 : decode cX7_reach 32 = .ok (.sipush 256, 3) := by decide +kernel
theorem dX7_reach_35 : decode cX7_reach 35 = .ok (.if_icmp .lt 4, 3) := by decide +kernel
theorem dX7_reach_38 : decode cX7_reach 38 = .ok (.return_, 1) := by decide +kernel
theorem dX7_reach_39 : decode cX7_reach 39 = .ok (.iload_n 1, 1) := by decide +kernel
theorem dX7_reach_40 : decode cX7_reach 40 = .ok (.iload_n 2, 1) := by decide +kernel
theorem dX7_reach_41 : decode cX7_reach 41 = .ok (.invokestatic 105, 3) := by decide +kernel
theorem dX7_reach_44 : decode cX7_reach 44 = .ok (.istore_n 3, 1) := by decide +kernel
theorem dX7_reach_45 : decode cX7_reach 45 = .ok (.aload_n 0, 1) := by decide +kernel
theorem dX7_reach_46 : decode cX7_reach 46 = .ok (.getfield 15, 3) := by decide +kernel
theorem dX7_reach_49 : decode cX7_reach 49 = .ok (.iload_n 3, 1) := by decide +kernel
theorem dX7_reach_50 : decode cX7_reach 50 = .ok (.iaload, 1) := by decide +kernel
theorem dX7_reach_51 : decode cX7_reach 51 = .ok (.iconst 1, 1) := by decide +kernel
theorem dX7_reach_52 : decode cX7_reach 52 = .ok (.if_icmp .ne 30, 3) := by decide +kernel
theorem dX7_reach_55 : decode cX7_reach 55 = .ok (.aload_n 0, 1) := by decide +kernel
theorem dX7_reach_56 : decode cX7_reach 56 = .ok (.getfield 15, 3) := by decide +kernel
theorem dX7_reach_59 : decode cX7_reach 59 = .ok (.iload_n 3, 1) := by decide +kernel
theorem dX7_reach_60 : decode cX7_reach 60 = .ok (.iconst 0, 1) := by decide +kernel
theorem dX7_reach_61 : decode cX7_reach 61 = .ok (.iastore, 1) := by decide +kernel
theorem dX7_reach_62 : decode cX7_reach 62 = .ok (.aload_n 0, 1) := by decide +kernel
theorem dX7_reach_63 : decode cX7_reach 63 = .ok (.getfield 18, 3) := by decide +kernel
theorem dX7_reach_66 : decode cX7_reach 66 = .ok (.aload_n 0, 1) := by decide +kernel
theorem dX7_reach_67 : decode cX7_reach 67 = .ok (.getfield 112, 3) := by decide +kernel
theorem dX7_reach_70 : decode cX7_reach 70 = .ok (.iload_n 3, 1) := by decide +kernel
theorem dX7_reach_71 : decode cX7_reach 71 = .ok (.iastore, 1) := by decide +kernel
theorem dX7_reach_72 : decode cX7_reach 72 = .ok (.aload_n 0, 1) := by decide +kernel
theorem dX7_reach_73 : decode cX7_reach 73 = .ok (.dup, 1) := by decide +kernel
theorem dX7_reach_74 : decode cX7_reach 74 = .ok (.getfield 112, 3) := by decide +kernel
theorem dX7_reach_77 : decode cX7_reach 77 = .ok (.iconst 1, 1) := by decide +kernel
theorem dX7_reach_78 : decode cX7_reach 78 = .ok (.iadd, 1) := by decide +kernel
theorem dX7_reach_79 : decode cX7_reach 79 = .ok (.putfield 112, 3) := by decide +kernel
theorem dX7_reach_82 : decode cX7_reach 82 = .ok (.return_, 1) := by decide +kernel
theorem dX8_init_0 : decode cX8_init 0 = .ok (.aload_n 0, 1) := by decide +kernel
theorem dX8_init_1 : decode cX8_init 1 = .ok (.invokespecial 3, 3) := by decide +kernel
theorem dX8_init_4 : decode cX8_init 4 = .ok (.aload_n 0, 1) := by decide +kernel
theorem dX8_init_5 : decode cX8_init 5 = .ok (.new 9, 3) := by decide +kernel
theorem dX8_init_8 : decode cX8_init 8 = .ok (.dup, 1) := by decide +kernel
theorem dX8_init_9 : decode cX8_init 9 = .ok (.invokespecial 11, 3) := by decide +kernel
theorem dX8_init_12 : decode cX8_init 12 = .ok (.putfield 12, 3) := by decide +kernel
theorem dX8_init_15 : decode cX8_init 15 = .ok (.aload_n 0, 1) := by decide +kernel
theorem dX8_init_16 : decode cX8_init 16 = .ok (.new 9, 3) := by decide +kernel
theorem dX8_init_19 : decode cX8_init 19 = .ok (.dup, 1) := by decide +kernel
theorem dX8_init_20 : decode cX8_init 20 = .ok (.invokespecial 11, 3) := by decide +kernel
theorem dX8_init_23 : decode cX8_init 23 = .ok (.putfield 16, 3) := by decide +kernel
theorem dX8_init_26 : decode cX8_init 26 = .ok (.aload_n 0, 1) := by decide +kernel
theorem dX8_init_27 : decode cX8_init 27 = .ok (.new 19, 3) := by decide +kernel
theorem dX8_init_30 : decode cX8_init 30 = .ok (.dup, 1) := by decide +kernel
theorem dX8_init_31 : decode cX8_init 31 = .ok (.invokespecial 21, 3) := by decide +kernel
theorem dX8_init_34 : decode cX8_init 34 = .ok (.putfield 22, 3) := by decide +kernel
theorem dX8_init_37 : decode cX8_init 37 = .ok (.aload_n 0, 1) := by decide +kernel
theorem dX8_init_38 : decode cX8_init 38 = .ok (.new 26, 3) := by decide +kernel
theorem dX8_init_41 : decode cX8_init 41 = .ok (.dup, 1) := by decide +kernel
theorem dX8_init_42 : decode cX8_init 42 = .ok (.invokespecial 28, 3) := by decide +kernel
theorem dX8_init_45 : decode cX8_init 45 = .ok (.putfield 29, 3) := by decide +kernel
theorem dX8_init_48 : decode cX8_init 48 = .ok (.aload_n 0, 1) := by decide +kernel
theorem dX8_init_49 : decode cX8_init 49 = .ok (.new 33, 3) := by decide +kernel
theorem dX8_init_52 : decode cX8_init 52 = .ok (.dup, 1) := by decide +kernel
theorem dX8_init_53 : decode cX8_init 53 = .ok (.invokespecial 35, 3) := by decide +kernel
theorem dX8_init_56 : decode cX8_init 56 = .ok (.putfield 36, 3) := by decide +kernel
theorem dX8_init_59 : decode cX8_init 59 = .ok (.aload_n 0, 1) := by decide +kernel
theorem dX8_init_60 : decode cX8_init 60 = .ok (.new 40, 3) := by decide +kernel
theorem dX8_init_63 : decode cX8_init 63 = .ok (.dup, 1) := by decide +kernel
theorem dX8_init_64 : decode cX8_init 64 = .ok (.invokespecial 42, 3) := by decide +kernel
theorem dX8_init_67 : decode cX8_init 67 = .ok (.putfield 43, 3) := by decide +kernel
theorem dX8_init_70 : decode cX8_init 70 = .ok (.aload_n 0, 1) := by decide +kernel
theorem dX8_init_71 : decode cX8_init 71 = .ok (.new 47, 3) := by decide +kernel
theorem dX8_init_74 : decode cX8_init 74 = .ok (.dup, 1) := by decide +kernel
theorem dX8_init_75 : decode cX8_init 75 = .ok (.invokespecial 49, 3) := by decide +kernel
theorem dX8_init_78 : decode cX8_init 78 = .ok (.putfield 50, 3) := by decide +kernel
theorem dX8_init_81 : decode cX8_init 81 = .ok (.return_, 1) := by decide +kernel
theorem dX8_sheet_0 : decode cX8_sheet 0 = .ok (.aload_n 0, 1) := by decide +kernel
theorem dX8_sheet_1 : decode cX8_sheet 1 = .ok (.getfield 12, 3) := by decide +kernel
theorem dX8_sheet_4 : decode cX8_sheet 4 = .ok (.iload_n 1, 1) := by decide +kernel
theorem dX8_sheet_5 : decode cX8_sheet 5 = .ok (.iload_n 2, 1) := by decide +kernel
theorem dX8_sheet_6 : decode cX8_sheet 6 = .ok (.invokevirtual 54, 3) := by decide +kernel
theorem dX8_sheet_9 : decode cX8_sheet 9 = .ok (.istore_n 3, 1) := by decide +kernel
theorem dX8_sheet_10 : decode cX8_sheet 10 = .ok (.aload_n 0, 1) := by decide +kernel
theorem dX8_sheet_11 : decode cX8_sheet 11 = .ok (.iload_n 3, 1) := by decide +kernel
theorem dX8_sheet_12 : decode cX8_sheet 12 = .ok (.invokevirtual 58, 3) := by decide +kernel
theorem dX8_sheet_15 : decode cX8_sheet 15 = .ok (.ifCond .eq 15, 3) := by decide +kernel
theorem dX8_sheet_18 : decode cX8_sheet 18 = .ok (.aload_n 0, 1) := by decide +kernel
theorem dX8_sheet_19 : decode cX8_sheet 19 = .ok (.getfield 12, 3) := by decide +kernel
theorem dX8_sheet_22 : decode cX8_sheet 22 = .ok (.iload_n 1, 1) := by decide +kernel
theorem dX8_sheet_23 : decode cX8_sheet 23 = .ok (.iload_n 2, 1) := by decide +kernel
theorem dX8_sheet_24 : decode cX8_sheet 24 = .ok (.invokevirtual 62, 3) := by decide +kernel
theorem dX8_sheet_27 : decode cX8_sheet 27 = .ok (.goto 4, 3) := by decide +kernel
theorem dX8_sheet_30 : decode cX8_sheet 30 = .ok (.iload_n 3, 1) := by decide +kernel
theorem dX8_sheet_31 : decode cX8_sheet 31 = .ok (.ireturn, 1) := by decide +kernel
theorem dX8_sets_0 : decode cX8_sets 0 = .ok (.aload_n 0, 1) := by decide +kernel
theorem dX8_sets_1 : decode cX8_sets 1 = .ok (.getfield 12, 3) := by decide +kernel
theorem dX8_sets_4 : decode cX8_sets 4 = .ok (.iload_n 1, 1) := by decide +kernel
theorem dX8_sets_5 : decode cX8_sets 5 = .ok (.iload_n 2, 1) := by decide +kernel
theorem dX8_sets_6 : decode cX8_sets 6 = .ok (.invokevirtual 65, 3) := by decide +kernel
theorem dX8_sets_9 : decode cX8_sets 9 = .ok (.istore_n 3, 1) := by decide +kernel
theorem dX8_sets_10 : decode cX8_sets 10 = .ok (.aload_n 0, 1) := by decide +kernel
theorem dX8_sets_11 : decode cX8_sets 11 = .ok (.iload_n 3, 1) := by decide +kernel
theorem dX8_sets_12 : decode cX8_sets 12 = .ok (.invokevirtual 58, 3) := by decide +kernel
theorem dX8_sets_15 : decode cX8_sets 15 = .ok (.ifCond .eq 15, 3) := by decide +kernel
theorem dX8_sets_18 : decode cX8_sets 18 = .ok (.aload_n 0, 1) := by decide +kernel
theorem dX8_sets_19 : decode cX8_sets 19 = .ok (.getfield 12, 3) := by decide +kernel
theorem dX8_sets_22 : decode cX8_sets 22 = .ok (.iload_n 1, 1) := by decide +kernel
theorem dX8_sets_23 : decode cX8_sets 23 = .ok (.iload_n 2, 1) := by decide +kernel
theorem dX8_sets_24 : decode cX8_sets 24 = .ok (.invokevirtual 68, 3) := by decide +kernel
theorem dX8_sets_27 : decode cX8_sets 27 = .ok (.goto 4, 3) := by decide +kernel
theorem dX8_sets_30 : decode cX8_sets 30 = .ok (.iload_n 3, 1) := by decide +kernel
theorem dX8_sets_31 : decode cX8_sets 31 = .ok (.ireturn, 1) := by decide +kernel
theorem dX8_item_0 : decode cX8_item 0 = .ok (.aload_n 0, 1) := by decide +kernel
theorem dX8_item_1 : decode cX8_item 1 = .ok (.getfield 12, 3) := by decide +kernel
theorem dX8_item_4 : decode cX8_item 4 = .ok (.iload_n 1, 1) := by decide +kernel
theorem dX8_item_5 : decode cX8_item 5 = .ok (.iload_n 2, 1) := by decide +kernel
theorem dX8_item_6 : decode cX8_item 6 = .ok (.iload_n 3, 1) := by decide +kernel
theorem dX8_item_7 : decode cX8_item 7 = .ok (.iload 4, 2) := by decide +kernel
theorem dX8_item_9 : decode cX8_item 9 = .ok (.invokevirtual 71, 3) := by decide +kernel
theorem dX8_item_12 : decode cX8_item 12 = .ok (.istore 5, 2) := by decide +kernel
theorem dX8_item_14 : decode cX8_item 14 = .ok (.aload_n 0, 1) := by decide +kernel
theorem dX8_item_15 : decode cX8_item 15 = .ok (.iload 5, 2) := by decide +kernel
theorem dX8_item_17 : decode cX8_item 17 = .ok (.invokevirtual 58, 3) := by decide +kernel
theorem dX8_item_20 : decode cX8_item 20 = .ok (.ifCond .eq 18, 3) := by decide +kernel
theorem dX8_item_23 : decode cX8_item 23 = .ok (.aload_n 0, 1) := by decide +kernel
theorem dX8_item_24 : decode cX8_item 24 = .ok (.getfield 12, 3) := by decide +kernel
theorem dX8_item_27 : decode cX8_item 27 = .ok (.iload_n 1, 1) := by decide +kernel
theorem dX8_item_28 : decode cX8_item 28 = .ok (.iload_n 2, 1) := by decide +kernel
theorem dX8_item_29 : decode cX8_item 29 = .ok (.iload_n 3, 1) := by decide +kernel
theorem dX8_item_30 : decode cX8_item 30 = .ok (.iload 4, 2) := by decide +kernel
theorem dX8_item_32 : decode cX8_item 32 = .ok (.invokevirtual 75, 3) := by decide +kernel
theorem dX8_item_35 : decode cX8_item 35 = .ok (.goto 5, 3) := by decide +kernel
theorem dX8_item_38 : decode cX8_item 38 = .ok (.iload 5, 2) := by decide +kernel
theorem dX8_item_40 : decode cX8_item 40 = .ok (.ireturn, 1) := by decide +kernel
theorem dX8_drops_0 : decode cX8_drops 0 = .ok (.aload_n 0, 1) := by decide +kernel
theorem dX8_drops_1 : decode cX8_drops 1 = .ok (.getfield 12, 3) := by decide +kernel
theorem dX8_drops_4 : decode cX8_drops 4 = .ok (.iload_n 1, 1) := by decide +kernel
theorem dX8_drops_5 : decode cX8_drops 5 = .ok (.invokevirtual 78, 3) := by decide +kernel
theorem dX8_drops_8 : decode cX8_drops 8 = .ok (.invokestatic 81, 3) := by decide +kernel
theorem dX8_drops_11 : decode cX8_drops 11 = .ok (.istore_n 2, 1) := by decide +kernel
theorem dX8_drops_12 : decode cX8_drops 12 = .ok (.aload_n 0, 1) := by decide +kernel
theorem dX8_drops_13 : decode cX8_drops 13 = .ok (.iload_n 2, 1) := by decide +kernel
theorem dX8_drops_14 : decode cX8_drops 14 = .ok (.invokevirtual 58, 3) := by decide +kernel
theorem dX8_drops_17 : decode cX8_drops 17 = .ok (.ifCond .eq 14, 3) := by decide +kernel
theorem dX8_drops_20 : decode cX8_drops 20 = .ok (.aload_n 0, 1) := by decide +kernel
theorem dX8_drops_21 : decode cX8_drops 21 = .ok (.getfield 12, 3) := by decide +kernel
theorem dX8_drops_24 : decode cX8_drops 24 = .ok (.iload_n 1, 1) := by decide +kernel
theorem dX8_drops_25 : decode cX8_drops 25 = .ok (.invokevirtual 85, 3) := by decide +kernel
theorem dX8_drops_28 : decode cX8_drops 28 = .ok (.goto 4, 3) := by decide +kernel
theorem dX8_drops_31 : decode cX8_drops 31 = .ok (.iload_n 2, 1) := by decide +kernel
theorem dX8_drops_32 : decode cX8_drops 32 = .ok (.ireturn, 1) := by decide +kernel
theorem dX8_becomes_0 : decode cX8_becomes 0 = .ok (.aload_n 0, 1) := by decide +kernel
theorem dX8_becomes_1 : decode cX8_becomes 1 = .ok (.getfield 12, 3) := by decide +kernel
theorem dX8_becomes_4 : decode cX8_becomes 4 = .ok (.iload_n 1, 1) := by decide +kernel
theorem dX8_becomes_5 : decode cX8_becomes 5 = .ok (.iload_n 2, 1) := by decide +kernel
theorem dX8_becomes_6 : decode cX8_becomes 6 = .ok (.iload_n 3, 1) := by decide +kernel
theorem dX8_becomes_7 : decode cX8_becomes 7 = .ok (.invokevirtual 89, 3) := by decide +kernel
theorem dX8_becomes_10 : decode cX8_becomes 10 = .ok (.istore 4, 2) := by decide +kernel
theorem dX8_becomes_12 : decode cX8_becomes 12 = .ok (.aload_n 0, 1) := by decide +kernel
theorem dX8_becomes_13 : decode cX8_becomes 13 = .ok (.iload 4, 2) := by decide +kernel
theorem dX8_becomes_15 : decode cX8_becomes 15 = .ok (.invokevirtual 58, 3) := by decide +kernel
theorem dX8_becomes_18 : decode cX8_becomes 18 = .ok (.ifCond .eq 16, 3) := by decide +kernel
theorem dX8_becomes_21 : decode cX8_becomes 21 = .ok (.aload_n 0, 1) := by decide +kernel
theorem dX8_becomes_22 : decode cX8_becomes 22 = .ok (.getfield 12, 3) := by decide +kernel
theorem dX8_becomes_25 : decode cX8_becomes 25 = .ok (.iload_n 1, 1) := by decide +kernel
theorem dX8_becomes_26 : decode cX8_becomes 26 = .ok (.iload_n 2, 1) := by decide +kernel
theorem dX8_becomes_27 : decode cX8_becomes 27 = .ok (.iload_n 3, 1) := by decide +kernel
theorem dX8_becomes_28 : decode cX8_becomes 28 = .ok (.invokevirtual 93, 3) := by decide +kernel
theorem dX8_becomes_31 : decode cX8_becomes 31 = .ok (.goto 5, 3) := by decide +kernel
theorem dX8_becomes_34 : decode cX8_becomes 34 = .ok (.iload 4, 2) := by decide +kernel
theorem dX8_becomes_36 : decode cX8_becomes 36 = .ok (.ireturn, 1) := by decide +kernel
theorem dX8_of_0 : decode cX8_of 0 = .ok (.aload_n 0, 1) := by decide +kernel
theorem dX8_of_1 : decode cX8_of 1 = .ok (.getfield 12, 3) := by decide +kernel
theorem dX8_of_4 : decode cX8_of 4 = .ok (.iload_n 1, 1) := by decide +kernel
theorem dX8_of_5 : decode cX8_of 5 = .ok (.invokevirtual 78, 3) := by decide +kernel
theorem dX8_of_8 : decode cX8_of 8 = .ok (.ifCond .eq 17, 3) := by decide +kernel
theorem dX8_of_11 : decode cX8_of 11 = .ok (.iload_n 2, 1) := by decide +kernel
theorem dX8_of_12 : decode cX8_of 12 = .ok (.iconst 0, 1) := by decide +kernel
theorem dX8_of_13 : decode cX8_of 13 = .ok (.bipush 9, 2) := by decide +kernel
theorem dX8_of_15 : decode cX8_of 15 = .ok (.invokestatic 96, 3) := by decide +kernel
theorem dX8_of_18 : decode cX8_of 18 = .ok (.ifCond .eq 7, 3) := by decide +kernel
theorem dX8_of_21 : decode cX8_of 21 = .ok (.iconst 1, 1) := by decide +kernel
theorem dX8_of_22 : decode cX8_of 22 = .ok (.goto 4, 3) := by decide +kernel
theorem dX8_of_25 : decode cX8_of 25 = .ok (.iconst 0, 1) := by decide +kernel
theorem dX8_of_26 : decode cX8_of 26 = .ok (.invokestatic 81, 3) := by decide +kernel
theorem dX8_of_29 : decode cX8_of 29 = .ok (.istore_n 3, 1) := by decide +kernel
theorem dX8_of_30 : decode cX8_of 30 = .ok (.aload_n 0, 1) := by decide +kernel
theorem dX8_of_31 : decode cX8_of 31 = .ok (.iload_n 3, 1) := by decide +kernel
theorem dX8_of_32 : decode cX8_of 32 = .ok (.invokevirtual 100, 3) := by decide +kernel
theorem dX8_of_35 : decode cX8_of 35 = .ok (.ifCond .eq 15, 3) := by decide +kernel
theorem dX8_of_38 : decode cX8_of 38 = .ok (.aload_n 0, 1) := by decide +kernel
theorem dX8_of_39 : decode cX8_of 39 = .ok (.getfield 12, 3) := by decide +kernel
theorem dX8_of_42 : decode cX8_of 42 = .ok (.iload_n 1, 1) := by decide +kernel
theorem dX8_of_43 : decode cX8_of 43 = .ok (.iload_n 2, 1) := by decide +kernel
theorem dX8_of_44 : decode cX8_of 44 = .ok (.invokevirtual 103, 3) := by decide +kernel
theorem dX8_of_47 : decode cX8_of 47 = .ok (.goto 4, 3) := by decide +kernel
theorem dX8_of_50 : decode cX8_of 50 = .ok (.iload_n 3, 1) := by decide +kernel
theorem dX8_of_51 : decode cX8_of 51 = .ok (.ireturn, 1) := by decide +kernel
theorem dX8_side_0 : decode cX8_side 0 = .ok (.iload_n 1, 1) := by decide +kernel
theorem dX8_side_1 : decode cX8_side 1 = .ok (.iconst 1, 1) := by decide +kernel
theorem dX8_side_2 : decode cX8_side 2 = .ok (.bipush 6, 2) := by decide +kernel
theorem dX8_side_4 : decode cX8_side 4 = .ok (.invokestatic 96, 3) := by decide +kernel
theorem dX8_side_7 : decode cX8_side 7 = .ok (.invokestatic 81, 3) := by decide +kernel
theorem dX8_side_10 : decode cX8_side 10 = .ok (.istore_n 2, 1) := by decide +kernel
theorem dX8_side_11 : decode cX8_side 11 = .ok (.aload_n 0, 1) := by decide +kernel
theorem dX8_side_12 : decode cX8_side 12 = .ok (.iload_n 2, 1) := by decide +kernel
theorem dX8_side_13 : decode cX8_side 13 = .ok (.invokevirtual 100, 3) := by decide +kernel
theorem dX8_side_16 : decode cX8_side 16 = .ok (.ifCond .eq 17, 3) := by decide +kernel
theorem dX8_side_19 : decode cX8_side 19 = .ok (.aload_n 0, 1) := by decide +kernel
theorem dX8_side_20 : decode cX8_side 20 = .ok (.getfield 12, 3) := by decide +kernel
theorem dX8_side_23 : decode cX8_side 23 = .ok (.iload_n 1, 1) := by decide +kernel
theorem dX8_side_24 : decode cX8_side 24 = .ok (.invokevirtual 106, 3) := by decide +kernel
theorem dX8_side_27 : decode cX8_side 27 = .ok (.invokestatic 110, 3) := by decide +kernel
theorem dX8_side_30 : decode cX8_side 30 = .ok (.goto 4, 3) := by decide +kernel
theorem dX8_side_33 : decode cX8_side 33 = .ok (.iload_n 2, 1) := by decide +kernel
theorem dX8_side_34 : decode cX8_side 34 = .ok (.ireturn, 1) := by decide +kernel
theorem dX8_line_0 : decode cX8_line 0 = .ok (.iload_n 1, 1) := by decide +kernel
theorem dX8_line_1 : decode cX8_line 1 = .ok (.ifCond .lt 7, 3) := by decide +kernel
theorem dX8_line_4 : decode cX8_line 4 = .ok (.iconst 1, 1) := by decide +kernel
theorem dX8_line_5 : decode cX8_line 5 = .ok (.goto 4, 3) := by decide +kernel
theorem dX8_line_8 : decode cX8_line 8 = .ok (.iconst 0, 1) := by decide +kernel
theorem dX8_line_9 : decode cX8_line 9 = .ok (.invokestatic 81, 3) := by decide +kernel
theorem dX8_line_12 : decode cX8_line 12 = .ok (.istore_n 2, 1) := by decide +kernel
theorem dX8_line_13 : decode cX8_line 13 = .ok (.aload_n 0, 1) := by decide +kernel
theorem dX8_line_14 : decode cX8_line 14 = .ok (.iload_n 2, 1) := by decide +kernel
theorem dX8_line_15 : decode cX8_line 15 = .ok (.invokevirtual 100, 3) := by decide +kernel
theorem dX8_line_18 : decode cX8_line 18 = .ok (.ifCond .eq 14, 3) := by decide +kernel
theorem dX8_line_21 : decode cX8_line 21 = .ok (.aload_n 0, 1) := by decide +kernel
theorem dX8_line_22 : decode cX8_line 22 = .ok (.getfield 12, 3) := by decide +kernel
theorem dX8_line_25 : decode cX8_line 25 = .ok (.iload_n 1, 1) := by decide +kernel
theorem dX8_line_26 : decode cX8_line 26 = .ok (.invokevirtual 116, 3) := by decide +kernel
theorem dX8_line_29 : decode cX8_line 29 = .ok (.goto 4, 3) := by decide +kernel
theorem dX8_line_32 : decode cX8_line 32 = .ok (.iload_n 2, 1) := by decide +kernel
theorem dX8_line_33 : decode cX8_line 33 = .ok (.ireturn, 1) := by decide +kernel
theorem dX8_lays_0 : decode cX8_lays 0 = .ok (.aload_n 0, 1) := by decide +kernel
theorem dX8_lays_1 : decode cX8_lays 1 = .ok (.getfield 12, 3) := by decide +kernel
theorem dX8_lays_4 : decode cX8_lays 4 = .ok (.iload_n 1, 1) := by decide +kernel
theorem dX8_lays_5 : decode cX8_lays 5 = .ok (.iload_n 2, 1) := by decide +kernel
theorem dX8_lays_6 : decode cX8_lays 6 = .ok (.iload_n 3, 1) := by decide +kernel
theorem dX8_lays_7 : decode cX8_lays 7 = .ok (.invokevirtual 119, 3) := by decide +kernel
theorem dX8_lays_10 : decode cX8_lays 10 = .ok (.istore 4, 2) := by decide +kernel
theorem dX8_lays_12 : decode cX8_lays 12 = .ok (.aload_n 0, 1) := by decide +kernel
theorem dX8_lays_13 : decode cX8_lays 13 = .ok (.iload 4, 2) := by decide +kernel
theorem dX8_lays_15 : decode cX8_lays 15 = .ok (.invokevirtual 58, 3) := by decide +kernel
theorem dX8_lays_18 : decode cX8_lays 18 = .ok (.ifCond .eq 16, 3) := by decide +kernel
theorem dX8_lays_21 : decode cX8_lays 21 = .ok (.aload_n 0, 1) := by decide +kernel
theorem dX8_lays_22 : decode cX8_lays 22 = .ok (.getfield 12, 3) := by decide +kernel
theorem dX8_lays_25 : decode cX8_lays 25 = .ok (.iload_n 1, 1) := by decide +kernel
theorem dX8_lays_26 : decode cX8_lays 26 = .ok (.iload_n 2, 1) := by decide +kernel
theorem dX8_lays_27 : decode cX8_lays 27 = .ok (.iload_n 3, 1) := by decide +kernel
theorem dX8_lays_28 : decode cX8_lays 28 = .ok (.invokevirtual 122, 3) := by decide +kernel
theorem dX8_lays_31 : decode cX8_lays 31 = .ok (.goto 5, 3) := by decide +kernel
theorem dX8_lays_34 : decode cX8_lays 34 = .ok (.iload 4, 2) := by decide +kernel
theorem dX8_lays_36 : decode cX8_lays 36 = .ok (.ireturn, 1) := by decide +kernel
theorem dX8_off_0 : decode cX8_off 0 = .ok (.aload_n 0, 1) := by decide +kernel
theorem dX8_off_1 : decode cX8_off 1 = .ok (.getfield 12, 3) := by decide +kernel
theorem dX8_off_4 : decode cX8_off 4 = .ok (.iload_n 1, 1) := by decide +kernel
theorem dX8_off_5 : decode cX8_off 5 = .ok (.invokevirtual 125, 3) := by decide +kernel
theorem dX8_off_8 : decode cX8_off 8 = .ok (.istore_n 2, 1) := by decide +kernel
theorem dX8_off_9 : decode cX8_off 9 = .ok (.aload_n 0, 1) := by decide +kernel
theorem dX8_off_10 : decode cX8_off 10 = .ok (.iload_n 2, 1) := by decide +kernel
theorem dX8_off_11 : decode cX8_off 11 = .ok (.invokevirtual 58, 3) := by decide +kernel
theorem dX8_off_14 : decode cX8_off 14 = .ok (.ifCond .eq 14, 3) := by decide +kernel
theorem dX8_off_17 : decode cX8_off 17 = .ok (.aload_n 0, 1) := by decide +kernel
theorem dX8_off_18 : decode cX8_off 18 = .ok (.getfield 12, 3) := by decide +kernel
theorem dX8_off_21 : decode cX8_off 21 = .ok (.iload_n 1, 1) := by decide +kernel
theorem dX8_off_22 : decode cX8_off 22 = .ok (.invokevirtual 128, 3) := by decide +kernel
theorem dX8_off_25 : decode cX8_off 25 = .ok (.goto 4, 3) := by decide +kernel
theorem dX8_off_28 : decode cX8_off 28 = .ok (.iload_n 2, 1) := by decide +kernel
theorem dX8_off_29 : decode cX8_off 29 = .ok (.ireturn, 1) := by decide +kernel
theorem dX8_swaps_0 : decode cX8_swaps 0 = .ok (.aload_n 0, 1) := by decide +kernel
theorem dX8_swaps_1 : decode cX8_swaps 1 = .ok (.getfield 12, 3) := by decide +kernel
theorem dX8_swaps_4 : decode cX8_swaps 4 = .ok (.iload_n 1, 1) := by decide +kernel
theorem dX8_swaps_5 : decode cX8_swaps 5 = .ok (.iload_n 2, 1) := by decide +kernel
theorem dX8_swaps_6 : decode cX8_swaps 6 = .ok (.invokevirtual 131, 3) := by decide +kernel
theorem dX8_swaps_9 : decode cX8_swaps 9 = .ok (.istore_n 3, 1) := by decide +kernel
theorem dX8_swaps_10 : decode cX8_swaps 10 = .ok (.aload_n 0, 1) := by decide +kernel
theorem dX8_swaps_11 : decode cX8_swaps 11 = .ok (.iload_n 3, 1) := by decide +kernel
theorem dX8_swaps_12 : decode cX8_swaps 12 = .ok (.invokevirtual 58, 3) := by decide +kernel
theorem dX8_swaps_15 : decode cX8_swaps 15 = .ok (.ifCond .eq 15, 3) := by decide +kernel
theorem dX8_swaps_18 : decode cX8_swaps 18 = .ok (.aload_n 0, 1) := by decide +kernel
theorem dX8_swaps_19 : decode cX8_swaps 19 = .ok (.getfield 12, 3) := by decide +kernel
theorem dX8_swaps_22 : decode cX8_swaps 22 = .ok (.iload_n 1, 1) := by decide +kernel
theorem dX8_swaps_23 : decode cX8_swaps 23 = .ok (.iload_n 2, 1) := by decide +kernel
theorem dX8_swaps_24 : decode cX8_swaps 24 = .ok (.invokevirtual 134, 3) := by decide +kernel
theorem dX8_swaps_27 : decode cX8_swaps 27 = .ok (.goto 4, 3) := by decide +kernel
theorem dX8_swaps_30 : decode cX8_swaps 30 = .ok (.iload_n 3, 1) := by decide +kernel
theorem dX8_swaps_31 : decode cX8_swaps 31 = .ok (.ireturn, 1) := by decide +kernel
theorem dX8_fits_0 : decode cX8_fits 0 = .ok (.aload_n 0, 1) := by decide +kernel
theorem dX8_fits_1 : decode cX8_fits 1 = .ok (.getfield 12, 3) := by decide +kernel
theorem dX8_fits_4 : decode cX8_fits 4 = .ok (.iload_n 1, 1) := by decide +kernel
theorem dX8_fits_5 : decode cX8_fits 5 = .ok (.invokevirtual 78, 3) := by decide +kernel
theorem dX8_fits_8 : decode cX8_fits 8 = .ok (.ifCond .eq 15, 3) := by decide +kernel
theorem dX8_fits_11 : decode cX8_fits 11 = .ok (.iload_n 2, 1) := by decide +kernel
theorem dX8_fits_12 : decode cX8_fits 12 = .ok (.iload_n 3, 1) := by decide +kernel
theorem dX8_fits_13 : decode cX8_fits 13 = .ok (.invokestatic 137, 3) := by decide +kernel
theorem dX8_fits_16 : decode cX8_fits 16 = .ok (.ifCond .eq 7, 3) := by decide +kernel
theorem dX8_fits_19 : decode cX8_fits 19 = .ok (.iconst 1, 1) := by decide +kernel
theorem dX8_fits_20 : decode cX8_fits 20 = .ok (.goto 4, 3) := by decide +kernel
theorem dX8_fits_23 : decode cX8_fits 23 = .ok (.iconst 0, 1) := by decide +kernel
theorem dX8_fits_24 : decode cX8_fits 24 = .ok (.invokestatic 81, 3) := by decide +kernel
theorem dX8_fits_27 : decode cX8_fits 27 = .ok (.istore 4, 2) := by decide +kernel
theorem dX8_fits_29 : decode cX8_fits 29 = .ok (.aload_n 0, 1) := by decide +kernel
theorem dX8_fits_30 : decode cX8_fits 30 = .ok (.iload 4, 2) := by decide +kernel
theorem dX8_fits_32 : decode cX8_fits 32 = .ok (.invokevirtual 100, 3) := by decide +kernel
theorem dX8_fits_35 : decode cX8_fits 35 = .ok (.ifCond .ne 6, 3) := by decide +kernel
theorem dX8_fits_38 : decode cX8_fits 38 = .ok (.iload 4, 2) := by decide +kernel
theorem dX8_fits_40 : decode cX8_fits 40 = .ok (.ireturn, 1) := by decide +kernel
theorem dX8_fits_41 : decode cX8_fits 41 = .ok (.aload_n 0, 1) := by decide +kernel
theorem dX8_fits_42 : decode cX8_fits 42 = .ok (.getfield 12, 3) := by decide +kernel
theorem dX8_fits_45 : decode cX8_fits 45 = .ok (.iload_n 1, 1) := by decide +kernel
theorem dX8_fits_46 : decode cX8_fits 46 = .ok (.iload_n 2, 1) := by decide +kernel
theorem dX8_fits_47 : decode cX8_fits 47 = .ok (.iload_n 3, 1) := by decide +kernel
theorem dX8_fits_48 : decode cX8_fits 48 = .ok (.invokevirtual 141, 3) := by decide +kernel
theorem dX8_fits_51 : decode cX8_fits 51 = .ok (.ifCond .eq 7, 3) := by decide +kernel
theorem dX8_fits_54 : decode cX8_fits 54 = .ok (.iconst 1, 1) := by decide +kernel
theorem dX8_fits_55 : decode cX8_fits 55 = .ok (.goto 4, 3) := by decide +kernel
theorem dX8_fits_58 : decode cX8_fits 58 = .ok (.iconst 0, 1) := by decide +kernel
theorem dX8_fits_59 : decode cX8_fits 59 = .ok (.ireturn, 1) := by decide +kernel
theorem dX8_free_0 : decode cX8_free 0 = .ok (.aload_n 0, 1) := by decide +kernel
theorem dX8_free_1 : decode cX8_free 1 = .ok (.getfield 12, 3) := by decide +kernel
theorem dX8_free_4 : decode cX8_free 4 = .ok (.iload_n 1, 1) := by decide +kernel
theorem dX8_free_5 : decode cX8_free 5 = .ok (.invokevirtual 78, 3) := by decide +kernel
theorem dX8_free_8 : decode cX8_free 8 = .ok (.ifCond .eq 16, 3) := by decide +kernel
theorem dX8_free_11 : decode cX8_free 11 = .ok (.iload_n 2, 1) := by decide +kernel
theorem dX8_free_12 : decode cX8_free 12 = .ok (.iconst 0, 1) := by decide +kernel
theorem dX8_free_13 : decode cX8_free 13 = .ok (.iconst 3, 1) := by decide +kernel
theorem dX8_free_14 : decode cX8_free 14 = .ok (.invokestatic 96, 3) := by decide +kernel
theorem dX8_free_17 : decode cX8_free 17 = .ok (.ifCond .eq 7, 3) := by decide +kernel
theorem dX8_free_20 : decode cX8_free 20 = .ok (.iconst 1, 1) := by decide +kernel
theorem dX8_free_21 : decode cX8_free 21 = .ok (.goto 4, 3) := by decide +kernel
theorem dX8_free_24 : decode cX8_free 24 = .ok (.iconst 0, 1) := by decide +kernel
theorem dX8_free_25 : decode cX8_free 25 = .ok (.invokestatic 81, 3) := by decide +kernel
theorem dX8_free_28 : decode cX8_free 28 = .ok (.istore_n 3, 1) := by decide +kernel
theorem dX8_free_29 : decode cX8_free 29 = .ok (.aload_n 0, 1) := by decide +kernel
theorem dX8_free_30 : decode cX8_free 30 = .ok (.iload_n 3, 1) := by decide +kernel
theorem dX8_free_31 : decode cX8_free 31 = .ok (.invokevirtual 100, 3) := by decide +kernel
theorem dX8_free_34 : decode cX8_free 34 = .ok (.ifCond .ne 5, 3) := by decide +kernel
theorem dX8_free_37 : decode cX8_free 37 = .ok (.iload_n 3, 1) := by decide +kernel
theorem dX8_free_38 : decode cX8_free 38 = .ok (.ireturn, 1) := by decide +kernel
theorem dX8_free_39 : decode cX8_free 39 = .ok (.iload_n 2, 1) := by decide +kernel
theorem dX8_free_40 : decode cX8_free 40 = .ok (.iconst 1, 1) := by decide +kernel
theorem dX8_free_41 : decode cX8_free 41 = .ok (.if_icmp .ne 22, 3) := by decide +kernel
theorem dX8_free_44 : decode cX8_free 44 = .ok (.aload_n 0, 1) := by decide +kernel
theorem dX8_free_45 : decode cX8_free 45 = .ok (.getfield 36, 3) := by decide +kernel
theorem dX8_free_48 : decode cX8_free 48 = .ok (.aload_n 0, 1) := by decide +kernel
theorem dX8_free_49 : decode cX8_free 49 = .ok (.getfield 12, 3) := by decide +kernel
theorem dX8_free_52 : decode cX8_free 52 = .ok (.aload_n 0, 1) := by decide +kernel
theorem dX8_free_53 : decode cX8_free 53 = .ok (.getfield 29, 3) := by decide +kernel
theorem dX8_free_56 : decode cX8_free 56 = .ok (.iload_n 1, 1) := by decide +kernel
theorem dX8_free_57 : decode cX8_free 57 = .ok (.invokevirtual 144, 3) := by decide +kernel
theorem dX8_free_60 : decode cX8_free 60 = .ok (.goto 16, 3) := by decide +kernel
theorem dX8_free_63 : decode cX8_free 63 = .ok (.aload_n 0, 1) := by decide +kernel
theorem dX8_free_64 : decode cX8_free 64 = .ok (.getfield 36, 3) := by decide +kernel
theorem dX8_free_67 : decode cX8_free 67 = .ok (.aload_n 0, 1) := by decide +kernel
theorem dX8_free_68 : decode cX8_free 68 = .ok (.getfield 12, 3) := by decide +kernel
theorem dX8_free_71 : decode cX8_free 71 = .ok (.iload_n 1, 1) := by decide +kernel
theorem dX8_free_72 : decode cX8_free 72 = .ok (.iload_n 2, 1) := by decide +kernel
theorem dX8_free_73 : decode cX8_free 73 = .ok (.invokevirtual 148, 3) := by decide +kernel
theorem dX8_free_76 : decode cX8_free 76 = .ok (.ireturn, 1) := by decide +kernel
theorem dX8_packs_0 : decode cX8_packs 0 = .ok (.aload_n 0, 1) := by decide +kernel
theorem dX8_packs_1 : decode cX8_packs 1 = .ok (.getfield 22, 3) := by decide +kernel
theorem dX8_packs_4 : decode cX8_packs 4 = .ok (.aload_n 0, 1) := by decide +kernel
theorem dX8_packs_5 : decode cX8_packs 5 = .ok (.getfield 12, 3) := by decide +kernel
theorem dX8_packs_8 : decode cX8_packs 8 = .ok (.invokevirtual 152, 3) := by decide +kernel
theorem dX8_packs_11 : decode cX8_packs 11 = .ok (.aload_n 0, 1) := by decide +kernel
theorem dX8_packs_12 : decode cX8_packs 12 = .ok (.getfield 36, 3) := by decide +kernel
theorem dX8_packs_15 : decode cX8_packs 15 = .ok (.aload_n 0, 1) := by decide +kernel
theorem dX8_packs_16 : decode cX8_packs 16 = .ok (.getfield 12, 3) := by decide +kernel
theorem dX8_packs_19 : decode cX8_packs 19 = .ok (.invokevirtual 156, 3) := by decide +kernel
theorem dX8_packs_22 : decode cX8_packs 22 = .ok (.ireturn, 1) := by decide +kernel
theorem dX8_tidies_0 : decode cX8_tidies 0 = .ok (.aload_n 0, 1) := by decide +kernel
theorem dX8_tidies_1 : decode cX8_tidies 1 = .ok (.getfield 22, 3) := by decide +kernel
theorem dX8_tidies_4 : decode cX8_tidies 4 = .ok (.aload_n 0, 1) := by decide +kernel
theorem dX8_tidies_5 : decode cX8_tidies 5 = .ok (.getfield 12, 3) := by decide +kernel
theorem dX8_tidies_8 : decode cX8_tidies 8 = .ok (.invokevirtual 152, 3) := by decide +kernel
theorem dX8_tidies_11 : decode cX8_tidies 11 = .ok (.aload_n 0, 1) := by decide +kernel
theorem dX8_tidies_12 : decode cX8_tidies 12 = .ok (.getfield 36, 3) := by decide +kernel
theorem dX8_tidies_15 : decode cX8_tidies 15 = .ok (.aload_n 0, 1) := by decide +kernel
theorem dX8_tidies_16 : decode cX8_tidies 16 = .ok (.getfield 12, 3) := by decide +kernel
theorem dX8_tidies_19 : decode cX8_tidies 19 = .ok (.invokevirtual 160, 3) := by decide +kernel
theorem dX8_tidies_22 : decode cX8_tidies 22 = .ok (.ireturn, 1) := by decide +kernel
theorem dX8_stays_0 : decode cX8_stays 0 = .ok (.aload_n 0, 1) := by decide +kernel
theorem dX8_stays_1 : decode cX8_stays 1 = .ok (.getfield 36, 3) := by decide +kernel
theorem dX8_stays_4 : decode cX8_stays 4 = .ok (.aload_n 0, 1) := by decide +kernel
theorem dX8_stays_5 : decode cX8_stays 5 = .ok (.getfield 12, 3) := by decide +kernel
theorem dX8_stays_8 : decode cX8_stays 8 = .ok (.invokevirtual 163, 3) := by decide +kernel
theorem dX8_stays_11 : decode cX8_stays 11 = .ok (.ireturn, 1) := by decide +kernel
theorem dX8_at_0 : decode cX8_at 0 = .ok (.iload_n 1, 1) := by decide +kernel
theorem dX8_at_1 : decode cX8_at 1 = .ok (.iconst 0, 1) := by decide +kernel
theorem dX8_at_2 : decode cX8_at 2 = .ok (.aload_n 0, 1) := by decide +kernel
theorem dX8_at_3 : decode cX8_at 3 = .ok (.getfield 12, 3) := by decide +kernel
theorem dX8_at_6 : decode cX8_at 6 = .ok (.getfield 166, 3) := by decide +kernel
theorem dX8_at_9 : decode cX8_at 9 = .ok (.iconst 1, 1) := by decide +kernel
theorem dX8_at_10 : decode cX8_at 10 = .ok (.isub, 1) := by decide +kernel
theorem dX8_at_11 : decode cX8_at 11 = .ok (.invokestatic 96, 3) := by decide +kernel
theorem dX8_at_14 : decode cX8_at 14 = .ok (.ifCond .eq 24, 3) := by decide +kernel
theorem dX8_at_17 : decode cX8_at 17 = .ok (.iload_n 2, 1) := by decide +kernel
theorem dX8_at_18 : decode cX8_at 18 = .ok (.iconst 0, 1) := by decide +kernel
theorem dX8_at_19 : decode cX8_at 19 = .ok (.aload_n 0, 1) := by decide +kernel
theorem dX8_at_20 : decode cX8_at 20 = .ok (.getfield 12, 3) := by decide +kernel
theorem dX8_at_23 : decode cX8_at 23 = .ok (.getfield 170, 3) := by decide +kernel
theorem dX8_at_26 : decode cX8_at 26 = .ok (.iconst 1, 1) := by decide +kernel
theorem dX8_at_27 : decode cX8_at 27 = .ok (.isub, 1) := by decide +kernel
theorem dX8_at_28 : decode cX8_at 28 = .ok (.invokestatic 96, 3) := by decide +kernel
theorem dX8_at_31 : decode cX8_at 31 = .ok (.ifCond .eq 7, 3) := by decide +kernel
theorem dX8_at_34 : decode cX8_at 34 = .ok (.iconst 1, 1) := by decide +kernel
theorem dX8_at_35 : decode cX8_at 35 = .ok (.goto 4, 3) := by decide +kernel
theorem dX8_at_38 : decode cX8_at 38 = .ok (.iconst 0, 1) := by decide +kernel
theorem dX8_at_39 : decode cX8_at 39 = .ok (.invokestatic 81, 3) := by decide +kernel
theorem dX8_at_42 : decode cX8_at 42 = .ok (.istore_n 3, 1) := by decide +kernel
theorem dX8_at_43 : decode cX8_at 43 = .ok (.aload_n 0, 1) := by decide +kernel
theorem dX8_at_44 : decode cX8_at 44 = .ok (.iload_n 3, 1) := by decide +kernel
theorem dX8_at_45 : decode cX8_at 45 = .ok (.invokevirtual 100, 3) := by decide +kernel
theorem dX8_at_48 : decode cX8_at 48 = .ok (.ifCond .eq 15, 3) := by decide +kernel
theorem dX8_at_51 : decode cX8_at 51 = .ok (.aload_n 0, 1) := by decide +kernel
theorem dX8_at_52 : decode cX8_at 52 = .ok (.getfield 12, 3) := by decide +kernel
theorem dX8_at_55 : decode cX8_at 55 = .ok (.iload_n 1, 1) := by decide +kernel
theorem dX8_at_56 : decode cX8_at 56 = .ok (.iload_n 2, 1) := by decide +kernel
theorem dX8_at_57 : decode cX8_at 57 = .ok (.invokevirtual 173, 3) := by decide +kernel
theorem dX8_at_60 : decode cX8_at 60 = .ok (.goto 4, 3) := by decide +kernel
theorem dX8_at_63 : decode cX8_at 63 = .ok (.iload_n 3, 1) := by decide +kernel
theorem dX8_at_64 : decode cX8_at 64 = .ok (.ireturn, 1) := by decide +kernel
theorem dX8_white_0 : decode cX8_white 0 = .ok (.iload_n 1, 1) := by decide +kernel
theorem dX8_white_1 : decode cX8_white 1 = .ok (.iconst 0, 1) := by decide +kernel
theorem dX8_white_2 : decode cX8_white 2 = .ok (.iconst 5, 1) := by decide +kernel
theorem dX8_white_3 : decode cX8_white 3 = .ok (.invokestatic 96, 3) := by decide +kernel
theorem dX8_white_6 : decode cX8_white 6 = .ok (.invokestatic 81, 3) := by decide +kernel
theorem dX8_white_9 : decode cX8_white 9 = .ok (.istore_n 2, 1) := by decide +kernel
theorem dX8_white_10 : decode cX8_white 10 = .ok (.aload_n 0, 1) := by decide +kernel
theorem dX8_white_11 : decode cX8_white 11 = .ok (.iload_n 2, 1) := by decide +kernel
theorem dX8_white_12 : decode cX8_white 12 = .ok (.invokevirtual 100, 3) := by decide +kernel
theorem dX8_white_15 : decode cX8_white 15 = .ok (.ifCond .ne 5, 3) := by decide +kernel
theorem dX8_white_18 : decode cX8_white 18 = .ok (.iload_n 2, 1) := by decide +kernel
theorem dX8_white_19 : decode cX8_white 19 = .ok (.ireturn, 1) := by decide +kernel
theorem dX8_white_20 : decode cX8_white 20 = .ok (.aload_n 0, 1) := by decide +kernel
theorem dX8_white_21 : decode cX8_white 21 = .ok (.getfield 43, 3) := by decide +kernel
theorem dX8_white_24 : decode cX8_white 24 = .ok (.aload_n 0, 1) := by decide +kernel
theorem dX8_white_25 : decode cX8_white 25 = .ok (.getfield 12, 3) := by decide +kernel
theorem dX8_white_28 : decode cX8_white 28 = .ok (.invokevirtual 176, 3) := by decide +kernel
theorem dX8_white_31 : decode cX8_white 31 = .ok (.aload_n 0, 1) := by decide +kernel
theorem dX8_white_32 : decode cX8_white 32 = .ok (.getfield 43, 3) := by decide +kernel
theorem dX8_white_35 : decode cX8_white 35 = .ok (.iload_n 1, 1) := by decide +kernel
theorem dX8_white_36 : decode cX8_white 36 = .ok (.invokevirtual 179, 3) := by decide +kernel
theorem dX8_white_39 : decode cX8_white 39 = .ok (.ireturn, 1) := by decide +kernel
theorem dX8_centre_0 : decode cX8_centre 0 = .ok (.iload_n 1, 1) := by decide +kernel
theorem dX8_centre_1 : decode cX8_centre 1 = .ok (.iconst 0, 1) := by decide +kernel
theorem dX8_centre_2 : decode cX8_centre 2 = .ok (.iconst 2, 1) := by decide +kernel
theorem dX8_centre_3 : decode cX8_centre 3 = .ok (.invokestatic 96, 3) := by decide +kernel
theorem dX8_centre_6 : decode cX8_centre 6 = .ok (.invokestatic 81, 3) := by decide +kernel
theorem dX8_centre_9 : decode cX8_centre 9 = .ok (.istore_n 2, 1) := by decide +kernel
theorem dX8_centre_10 : decode cX8_centre 10 = .ok (.aload_n 0, 1) := by decide +kernel
theorem dX8_centre_11 : decode cX8_centre 11 = .ok (.iload_n 2, 1) := by decide +kernel
theorem dX8_centre_12 : decode cX8_centre 12 = .ok (.invokevirtual 100, 3) := by decide +kernel
theorem dX8_centre_15 : decode cX8_centre 15 = .ok (.ifCond .ne 6, 3) := by decide +kernel
theorem dX8_centre_18 : decode cX8_centre 18 = .ok (.iload_n 2, 1) := by decide +kernel
theorem dX8_centre_19 : decode cX8_centre 19 = .ok (.i2l, 1) := by decide +kernel
theorem dX8_centre_20 : decode cX8_centre 20 = .ok (.lreturn, 1) := by decide +kernel
theorem dX8_centre_21 : decode cX8_centre 21 = .ok (.aload_n 0, 1) := by decide +kernel
theorem dX8_centre_22 : decode cX8_centre 22 = .ok (.getfield 29, 3) := by decide +kernel
theorem dX8_centre_25 : decode cX8_centre 25 = .ok (.aload_n 0, 1) := by decide +kernel
theorem dX8_centre_26 : decode cX8_centre 26 = .ok (.getfield 12, 3) := by decide +kernel
theorem dX8_centre_29 : decode cX8_centre 29 = .ok (.iconst (-1), 1) := by decide +kernel
theorem dX8_centre_30 : decode cX8_centre 30 = .ok (.invokevirtual 181, 3) := by decide +kernel
theorem dX8_centre_33 : decode cX8_centre 33 = .ok (.aload_n 0, 1) := by decide +kernel
theorem dX8_centre_34 : decode cX8_centre 34 = .ok (.getfield 29, 3) := by decide +kernel
theorem dX8_centre_37 : decode cX8_centre 37 = .ok (.aload_n 0, 1) := by decide +kernel
theorem dX8_centre_38 : decode cX8_centre 38 = .ok (.getfield 12, 3) := by decide +kernel
theorem dX8_centre_41 : decode cX8_centre 41 = .ok (.iload_n 1, 1) := by decide +kernel
theorem dX8_centre_42 : decode cX8_centre 42 = .ok (.invokevirtual 185, 3) := by decide +kernel
theorem dX8_centre_45 : decode cX8_centre 45 = .ok (.invokestatic 188, 3) := by decide +kernel
theorem dX8_centre_48 : decode cX8_centre 48 = .ok (.lreturn, 1) := by decide +kernel
theorem dX8_all_0 : decode cX8_all 0 = .ok (.iload_n 1, 1) := by decide +kernel
theorem dX8_all_1 : decode cX8_all 1 = .ok (.iconst 0, 1) := by decide +kernel
theorem dX8_all_2 : decode cX8_all 2 = .ok (.iconst 3, 1) := by decide +kernel
theorem dX8_all_3 : decode cX8_all 3 = .ok (.invokestatic 96, 3) := by decide +kernel
theorem dX8_all_6 : decode cX8_all 6 = .ok (.invokestatic 81, 3) := by decide +kernel
theorem dX8_all_9 : decode cX8_all 9 = .ok (.istore_n 2, 1) := by decide +kernel
theorem dX8_all_10 : decode cX8_all 10 = .ok (.aload_n 0, 1) := by decide +kernel
theorem dX8_all_11 : decode cX8_all 11 = .ok (.iload_n 2, 1) := by decide +kernel
theorem dX8_all_12 : decode cX8_all 12 = .ok (.invokevirtual 100, 3) := by decide +kernel
theorem dX8_all_15 : decode cX8_all 15 = .ok (.ifCond .eq 14, 3) := by decide +kernel
theorem dX8_all_18 : decode cX8_all 18 = .ok (.aload_n 0, 1) := by decide +kernel
theorem dX8_all_19 : decode cX8_all 19 = .ok (.getfield 12, 3) := by decide +kernel
theorem dX8_all_22 : decode cX8_all 22 = .ok (.iload_n 1, 1) := by decide +kernel
theorem dX8_all_23 : decode cX8_all 23 = .ok (.invokevirtual 192, 3) := by decide +kernel
theorem dX8_all_26 : decode cX8_all 26 = .ok (.goto 4, 3) := by decide +kernel
theorem dX8_all_29 : decode cX8_all 29 = .ok (.iload_n 2, 1) := by decide +kernel
theorem dX8_all_30 : decode cX8_all 30 = .ok (.ireturn, 1) := by decide +kernel
theorem dX8_sorted_0 : decode cX8_sorted 0 = .ok (.iload_n 1, 1) := by decide +kernel
theorem dX8_sorted_1 : decode cX8_sorted 1 = .ok (.getstatic 195, 3) := by decide +kernel
theorem dX8_sorted_4 : decode cX8_sorted 4 = .ok (.iconst 0, 1) := by decide +kernel
theorem dX8_sorted_5 : decode cX8_sorted 5 = .ok (.iaload, 1) := by decide +kernel
theorem dX8_sorted_6 : decode cX8_sorted 6 = .ok (.getstatic 199, 3) := by decide +kernel
theorem dX8_sorted_9 : decode cX8_sorted 9 = .ok (.iconst 0, 1) := by decide +kernel
theorem dX8_sorted_10 : decode cX8_sorted 10 = .ok (.iaload, 1) := by decide +kernel
theorem dX8_sorted_11 : decode cX8_sorted 11 = .ok (.invokestatic 96, 3) := by decide +kernel
theorem dX8_sorted_14 : decode cX8_sorted 14 = .ok (.ifCond .eq 11, 3) := by decide +kernel
theorem dX8_sorted_17 : decode cX8_sorted 17 = .ok (.iload_n 2, 1) := by decide +kernel
theorem dX8_sorted_18 : decode cX8_sorted 18 = .ok (.ifCond .lt 7, 3) := by decide +kernel
theorem dX8_sorted_21 : decode cX8_sorted 21 = .ok (.iconst 1, 1) := by decide +kernel
theorem dX8_sorted_22 : decode cX8_sorted 22 = .ok (.goto 4, 3) := by decide +kernel
theorem dX8_sorted_25 : decode cX8_sorted 25 = .ok (.iconst 0, 1) := by decide +kernel
theorem dX8_sorted_26 : decode cX8_sorted 26 = .ok (.invokestatic 81, 3) := by decide +kernel
theorem dX8_sorted_29 : decode cX8_sorted 29 = .ok (.istore_n 3, 1) := by decide +kernel
theorem dX8_sorted_30 : decode cX8_sorted 30 = .ok (.aload_n 0, 1) := by decide +kernel
theorem dX8_sorted_31 : decode cX8_sorted 31 = .ok (.iload_n 3, 1) := by decide +kernel
theorem dX8_sorted_32 : decode cX8_sorted 32 = .ok (.invokevirtual 100, 3) := by decide +kernel
theorem dX8_sorted_35 : decode cX8_sorted 35 = .ok (.ifCond .eq 15, 3) := by decide +kernel
theorem dX8_sorted_38 : decode cX8_sorted 38 = .ok (.aload_n 0, 1) := by decide +kernel
theorem dX8_sorted_39 : decode cX8_sorted 39 = .ok (.getfield 12, 3) := by decide +kernel
theorem dX8_sorted_42 : decode cX8_sorted 42 = .ok (.iload_n 1, 1) := by decide +kernel
theorem dX8_sorted_43 : decode cX8_sorted 43 = .ok (.iload_n 2, 1) := by decide +kernel
theorem dX8_sorted_44 : decode cX8_sorted 44 = .ok (.invokevirtual 202, 3) := by decide +kernel
theorem dX8_sorted_47 : decode cX8_sorted 47 = .ok (.goto 4, 3) := by decide +kernel
theorem dX8_sorted_50 : decode cX8_sorted 50 = .ok (.iload_n 3, 1) := by decide +kernel
theorem dX8_sorted_51 : decode cX8_sorted 51 = .ok (.ireturn, 1) := by decide +kernel
theorem dX8_keeps_0 : decode cX8_keeps 0 = .ok (.iload_n 1, 1) := by decide +kernel
theorem dX8_keeps_1 : decode cX8_keeps 1 = .ok (.iconst 0, 1) := by decide +kernel
theorem dX8_keeps_2 : decode cX8_keeps 2 = .ok (.iconst 2, 1) := by decide +kernel
theorem dX8_keeps_3 : decode cX8_keeps 3 = .ok (.invokestatic 96, 3) := by decide +kernel
theorem dX8_keeps_6 : decode cX8_keeps 6 = .ok (.invokestatic 81, 3) := by decide +kernel
theorem dX8_keeps_9 : decode cX8_keeps 9 = .ok (.istore_n 2, 1) := by decide +kernel
theorem dX8_keeps_10 : decode cX8_keeps 10 = .ok (.aload_n 0, 1) := by decide +kernel
theorem dX8_keeps_11 : decode cX8_keeps 11 = .ok (.iload_n 2, 1) := by decide +kernel
theorem dX8_keeps_12 : decode cX8_keeps 12 = .ok (.invokevirtual 58, 3) := by decide +kernel
theorem dX8_keeps_15 : decode cX8_keeps 15 = .ok (.ifCond .eq 21, 3) := by decide +kernel
theorem dX8_keeps_18 : decode cX8_keeps 18 = .ok (.aload_n 0, 1) := by decide +kernel
theorem dX8_keeps_19 : decode cX8_keeps 19 = .ok (.getfield 12, 3) := by decide +kernel
theorem dX8_keeps_22 : decode cX8_keeps 22 = .ok (.getfield 205, 3) := by decide +kernel
theorem dX8_keeps_25 : decode cX8_keeps 25 = .ok (.aload_n 0, 1) := by decide +kernel
theorem dX8_keeps_26 : decode cX8_keeps 26 = .ok (.getfield 12, 3) := by decide +kernel
theorem dX8_keeps_29 : decode cX8_keeps 29 = .ok (.iload_n 1, 1) := by decide +kernel
theorem dX8_keeps_30 : decode cX8_keeps 30 = .ok (.invokevirtual 209, 3) := by decide +kernel
theorem dX8_keeps_33 : decode cX8_keeps 33 = .ok (.goto 4, 3) := by decide +kernel
theorem dX8_keeps_36 : decode cX8_keeps 36 = .ok (.iload_n 2, 1) := by decide +kernel
theorem dX8_keeps_37 : decode cX8_keeps 37 = .ok (.ireturn, 1) := by decide +kernel
theorem dX8_takes_0 : decode cX8_takes 0 = .ok (.aload_n 0, 1) := by decide +kernel
theorem dX8_takes_1 : decode cX8_takes 1 = .ok (.getfield 12, 3) := by decide +kernel
theorem dX8_takes_4 : decode cX8_takes 4 = .ok (.getfield 205, 3) := by decide +kernel
theorem dX8_takes_7 : decode cX8_takes 7 = .ok (.iload_n 1, 1) := by decide +kernel
theorem dX8_takes_8 : decode cX8_takes 8 = .ok (.invokevirtual 215, 3) := by decide +kernel
theorem dX8_takes_11 : decode cX8_takes 11 = .ok (.istore_n 2, 1) := by decide +kernel
theorem dX8_takes_12 : decode cX8_takes 12 = .ok (.aload_n 0, 1) := by decide +kernel
theorem dX8_takes_13 : decode cX8_takes 13 = .ok (.iload_n 2, 1) := by decide +kernel
theorem dX8_takes_14 : decode cX8_takes 14 = .ok (.invokevirtual 58, 3) := by decide +kernel
theorem dX8_takes_17 : decode cX8_takes 17 = .ok (.ifCond .eq 21, 3) := by decide +kernel
theorem dX8_takes_20 : decode cX8_takes 20 = .ok (.aload_n 0, 1) := by decide +kernel
theorem dX8_takes_21 : decode cX8_takes 21 = .ok (.getfield 12, 3) := by decide +kernel
theorem dX8_takes_24 : decode cX8_takes 24 = .ok (.getfield 205, 3) := by decide +kernel
theorem dX8_takes_27 : decode cX8_takes 27 = .ok (.aload_n 0, 1) := by decide +kernel
theorem dX8_takes_28 : decode cX8_takes 28 = .ok (.getfield 12, 3) := by decide +kernel
theorem dX8_takes_31 : decode cX8_takes 31 = .ok (.iload_n 1, 1) := by decide +kernel
theorem dX8_takes_32 : decode cX8_takes 32 = .ok (.invokevirtual 218, 3) := by decide +kernel
theorem dX8_takes_35 : decode cX8_takes 35 = .ok (.goto 4, 3) := by decide +kernel
theorem dX8_takes_38 : decode cX8_takes 38 = .ok (.iload_n 2, 1) := by decide +kernel
theorem dX8_takes_39 : decode cX8_takes 39 = .ok (.ireturn, 1) := by decide +kernel
theorem dX8_otherwise_0 : decode cX8_otherwise 0 = .ok (.iload_n 2, 1) := by decide +kernel
theorem dX8_otherwise_1 : decode cX8_otherwise 1 = .ok (.iconst 0, 1) := by decide +kernel
theorem dX8_otherwise_2 : decode cX8_otherwise 2 = .ok (.iconst 1, 1) := by decide +kernel
theorem dX8_otherwise_3 : decode cX8_otherwise 3 = .ok (.invokestatic 96, 3) := by decide +kernel
theorem dX8_otherwise_6 : decode cX8_otherwise 6 = .ok (.ifCond .eq 17, 3) := by decide +kernel
theorem dX8_otherwise_9 : decode cX8_otherwise 9 = .ok (.aload_n 0, 1) := by decide +kernel
theorem dX8_otherwise_10 : decode cX8_otherwise 10 = .ok (.getfield 12, 3) := by decide +kernel
theorem dX8_otherwise_13 : decode cX8_otherwise 13 = .ok (.getfield 205, 3) := by decide +kernel
theorem dX8_otherwise_16 : decode cX8_otherwise 16 = .ok (.iload_n 1, 1) := by decide +kernel
theorem dX8_otherwise_17 : decode cX8_otherwise 17 = .ok (.invokevirtual 215, 3) := by decide +kernel
theorem dX8_otherwise_20 : decode cX8_otherwise 20 = .ok (.goto 5, 3) := by decide +kernel
theorem dX8_otherwise_23 : decode cX8_otherwise 23 = .ok (.bipush (-2), 2) := by decide +kernel
theorem dX8_otherwise_25 : decode cX8_otherwise 25 = .ok (.istore_n 3, 1) := by decide +kernel
theorem dX8_otherwise_26 : decode cX8_otherwise 26 = .ok (.aload_n 0, 1) := by decide +kernel
theorem dX8_otherwise_27 : decode cX8_otherwise 27 = .ok (.iload_n 3, 1) := by decide +kernel
theorem dX8_otherwise_28 : decode cX8_otherwise 28 = .ok (.invokevirtual 100, 3) := by decide +kernel
theorem dX8_otherwise_31 : decode cX8_otherwise 31 = .ok (.ifCond .ne 5, 3) := by decide +kernel
theorem dX8_otherwise_34 : decode cX8_otherwise 34 = .ok (.iload_n 3, 1) := by decide +kernel
theorem dX8_otherwise_35 : decode cX8_otherwise 35 = .ok (.ireturn, 1) := by decide +kernel
theorem dX8_otherwise_36 : decode cX8_otherwise 36 = .ok (.iload_n 2, 1) := by decide +kernel
theorem dX8_otherwise_37 : decode cX8_otherwise 37 = .ok (.ifCond .ne 21, 3) := by decide +kernel
theorem dX8_otherwise_40 : decode cX8_otherwise 40 = .ok (.aload_n 0, 1) := by decide +kernel
theorem dX8_otherwise_41 : decode cX8_otherwise 41 = .ok (.getfield 12, 3) := by decide +kernel
theorem dX8_otherwise_44 : decode cX8_otherwise 44 = .ok (.getfield 205, 3) := by decide +kernel
theorem dX8_otherwise_47 : decode cX8_otherwise 47 = .ok (.aload_n 0, 1) := by decide +kernel
theorem dX8_otherwise_48 : decode cX8_otherwise 48 = .ok (.getfield 12, 3) := by decide +kernel
theorem dX8_otherwise_51 : decode cX8_otherwise 51 = .ok (.iload_n 1, 1) := by decide +kernel
theorem dX8_otherwise_52 : decode cX8_otherwise 52 = .ok (.invokevirtual 221, 3) := by decide +kernel
theorem dX8_otherwise_55 : decode cX8_otherwise 55 = .ok (.goto 18, 3) := by decide +kernel
theorem dX8_otherwise_58 : decode cX8_otherwise 58 = .ok (.aload_n 0, 1) := by decide +kernel
theorem dX8_otherwise_59 : decode cX8_otherwise 59 = .ok (.getfield 12, 3) := by decide +kernel
theorem dX8_otherwise_62 : decode cX8_otherwise 62 = .ok (.getfield 205, 3) := by decide +kernel
theorem dX8_otherwise_65 : decode cX8_otherwise 65 = .ok (.aload_n 0, 1) := by decide +kernel
theorem dX8_otherwise_66 : decode cX8_otherwise 66 = .ok (.getfield 12, 3) := by decide +kernel
theorem dX8_otherwise_69 : decode cX8_otherwise 69 = .ok (.iload_n 1, 1) := by decide +kernel
theorem dX8_otherwise_70 : decode cX8_otherwise 70 = .ok (.invokevirtual 224, 3) := by decide +kernel
theorem dX8_otherwise_73 : decode cX8_otherwise 73 = .ok (.ireturn, 1) := by decide +kernel
theorem dX8_type_0 : decode cX8_type 0 = .ok (.aload_n 0, 1) := by decide +kernel
theorem dX8_type_1 : decode cX8_type 1 = .ok (.getfield 50, 3) := by decide +kernel
theorem dX8_type_4 : decode cX8_type 4 = .ok (.iload_n 1, 1) := by decide +kernel
theorem dX8_type_5 : decode cX8_type 5 = .ok (.invokevirtual 227, 3) := by decide +kernel
theorem dX8_type_8 : decode cX8_type 8 = .ok (.istore_n 2, 1) := by decide +kernel
theorem dX8_type_9 : decode cX8_type 9 = .ok (.aload_n 0, 1) := by decide +kernel
theorem dX8_type_10 : decode cX8_type 10 = .ok (.iload_n 2, 1) := by decide +kernel
theorem dX8_type_11 : decode cX8_type 11 = .ok (.invokevirtual 100, 3) := by decide +kernel
theorem dX8_type_14 : decode cX8_type 14 = .ok (.ifCond .eq 14, 3) := by decide +kernel
theorem dX8_type_17 : decode cX8_type 17 = .ok (.aload_n 0, 1) := by decide +kernel
theorem dX8_type_18 : decode cX8_type 18 = .ok (.getfield 50, 3) := by decide +kernel
theorem dX8_type_21 : decode cX8_type 21 = .ok (.iload_n 1, 1) := by decide +kernel
theorem dX8_type_22 : decode cX8_type 22 = .ok (.invokevirtual 230, 3) := by decide +kernel
theorem dX8_type_25 : decode cX8_type 25 = .ok (.goto 4, 3) := by decide +kernel
theorem dX8_type_28 : decode cX8_type 28 = .ok (.iload_n 2, 1) := by decide +kernel
theorem dX8_type_29 : decode cX8_type 29 = .ok (.ireturn, 1) := by decide +kernel
theorem dX8_clear_0 : decode cX8_clear 0 = .ok (.aload_n 0, 1) := by decide +kernel
theorem dX8_clear_1 : decode cX8_clear 1 = .ok (.getfield 50, 3) := by decide +kernel
theorem dX8_clear_4 : decode cX8_clear 4 = .ok (.invokevirtual 233, 3) := by decide +kernel
theorem dX8_clear_7 : decode cX8_clear 7 = .ok (.ireturn, 1) := by decide +kernel
theorem dX8_reads_0 : decode cX8_reads 0 = .ok (.aload_n 0, 1) := by decide +kernel
theorem dX8_reads_1 : decode cX8_reads 1 = .ok (.getfield 50, 3) := by decide +kernel
theorem dX8_reads_4 : decode cX8_reads 4 = .ok (.invokevirtual 237, 3) := by decide +kernel
theorem dX8_reads_7 : decode cX8_reads 7 = .ok (.istore_n 1, 1) := by decide +kernel
theorem dX8_reads_8 : decode cX8_reads 8 = .ok (.iload_n 1, 1) := by decide +kernel
theorem dX8_reads_9 : decode cX8_reads 9 = .ok (.iconst (-1), 1) := by decide +kernel
theorem dX8_reads_10 : decode cX8_reads 10 = .ok (.if_icmp .eq 8, 3) := by decide +kernel
theorem dX8_reads_13 : decode cX8_reads 13 = .ok (.bipush (-10), 2) := by decide +kernel
theorem dX8_reads_15 : decode cX8_reads 15 = .ok (.iload_n 1, 1) := by decide +kernel
theorem dX8_reads_16 : decode cX8_reads 16 = .ok (.isub, 1) := by decide +kernel
theorem dX8_reads_17 : decode cX8_reads 17 = .ok (.ireturn, 1) := by decide +kernel
theorem dX8_reads_18 : decode cX8_reads 18 = .ok (.aload_n 0, 1) := by decide +kernel
theorem dX8_reads_19 : decode cX8_reads 19 = .ok (.getfield 16, 3) := by decide +kernel
theorem dX8_reads_22 : decode cX8_reads 22 = .ok (.aload_n 0, 1) := by decide +kernel
theorem dX8_reads_23 : decode cX8_reads 23 = .ok (.getfield 12, 3) := by decide +kernel
theorem dX8_reads_26 : decode cX8_reads 26 = .ok (.invokevirtual 240, 3) := by decide +kernel
theorem dX8_reads_29 : decode cX8_reads 29 = .ok (.aload_n 0, 1) := by decide +kernel
theorem dX8_reads_30 : decode cX8_reads 30 = .ok (.getfield 50, 3) := by decide +kernel
theorem dX8_reads_33 : decode cX8_reads 33 = .ok (.getfield 243, 3) := by decide +kernel
theorem dX8_reads_36 : decode cX8_reads 36 = .ok (.istore_n 2, 1) := by decide +kernel
theorem dX8_reads_37 : decode cX8_reads 37 = .ok (.iconst 0, 1) := by decide +kernel
theorem dX8_reads_38 : decode cX8_reads 38 = .ok (.istore_n 3, 1) := by decide +kernel
theorem dX8_reads_39 : decode cX8_reads 39 = .ok (.iload_n 3, 1) := by decide +kernel
theorem dX8_reads_40 : decode cX8_reads 40 = .ok (.iload_n 2, 1) := by decide +kernel
theorem dX8_reads_41 : decode cX8_reads 41 = .ok (.if_icmp .ge 23, 3) := by decide +kernel
theorem dX8_reads_44 : decode cX8_reads 44 = .ok (.aload_n 0, 1) := by decide +kernel
theorem dX8_reads_45 : decode cX8_reads 45 = .ok (.iload_n 3, 1) := by decide +kernel
theorem dX8_reads_46 : decode cX8_reads 46 = .ok (.invokevirtual 246, 3) := by decide +kernel
theorem dX8_reads_49 : decode cX8_reads 49 = .ok (.ifCond .ne 9, 3) := by decide +kernel
theorem dX8_reads_52 : decode cX8_reads 52 = .ok (.sipush (-1000), 3) := by decide +kernel
theorem dX8_reads_55 : decode cX8_reads 55 = .ok (.iload_n 3, 1) := by decide +kernel
theorem dX8_reads_56 : decode cX8_reads 56 = .ok (.isub, 1) := by decide +kernel
theorem dX8_reads_57 : decode cX8_reads 57 = .ok (.ireturn, 1) := by decide +kernel
theorem dX8_reads_58 : decode cX8_reads 58 = .ok (.iinc 3 1, 3) := by decide +kernel
theorem dX8_reads_61 : decode cX8_reads 61 = .ok (.goto (-22), 3) := by decide +kernel
theorem dX8_reads_64 : decode cX8_reads 64 = .ok (.aload_n 0, 1) := by decide +kernel
theorem dX8_reads_65 : decode cX8_reads 65 = .ok (.getfield 22, 3) := by decide +kernel
theorem dX8_reads_68 : decode cX8_reads 68 = .ok (.aload_n 0, 1) := by decide +kernel
theorem dX8_reads_69 : decode cX8_reads 69 = .ok (.getfield 12, 3) := by decide +kernel
theorem dX8_reads_72 : decode cX8_reads 72 = .ok (.invokevirtual 152, 3) := by decide +kernel
theorem dX8_reads_75 : decode cX8_reads 75 = .ok (.aload_n 0, 1) := by decide +kernel
theorem dX8_reads_76 : decode cX8_reads 76 = .ok (.getfield 12, 3) := by decide +kernel
theorem dX8_reads_79 : decode cX8_reads 79 = .ok (.aload_n 0, 1) := by decide +kernel
theorem dX8_reads_80 : decode cX8_reads 80 = .ok (.getfield 16, 3) := by decide +kernel
theorem dX8_reads_83 : decode cX8_reads 83 = .ok (.invokevirtual 240, 3) := by decide +kernel
theorem dX8_reads_86 : decode cX8_reads 86 = .ok (.iload_n 2, 1) := by decide +kernel
theorem dX8_reads_87 : decode cX8_reads 87 = .ok (.ireturn, 1) := by decide +kernel
theorem dX8_back_0 : decode cX8_back 0 = .ok (.aload_n 0, 1) := by decide +kernel
theorem dX8_back_1 : decode cX8_back 1 = .ok (.getfield 22, 3) := by decide +kernel
theorem dX8_back_4 : decode cX8_back 4 = .ok (.getfield 249, 3) := by decide +kernel
theorem dX8_back_7 : decode cX8_back 7 = .ok (.ifCond .le 7, 3) := by decide +kernel
theorem dX8_back_10 : decode cX8_back 10 = .ok (.iconst 0, 1) := by decide +kernel
theorem dX8_back_11 : decode cX8_back 11 = .ok (.goto 5, 3) := by decide +kernel
theorem dX8_back_14 : decode cX8_back 14 = .ok (.bipush (-3), 2) := by decide +kernel
theorem dX8_back_16 : decode cX8_back 16 = .ok (.istore_n 1, 1) := by decide +kernel
theorem dX8_back_17 : decode cX8_back 17 = .ok (.aload_n 0, 1) := by decide +kernel
theorem dX8_back_18 : decode cX8_back 18 = .ok (.iload_n 1, 1) := by decide +kernel
theorem dX8_back_19 : decode cX8_back 19 = .ok (.invokevirtual 100, 3) := by decide +kernel
theorem dX8_back_22 : decode cX8_back 22 = .ok (.ifCond .eq 17, 3) := by decide +kernel
theorem dX8_back_25 : decode cX8_back 25 = .ok (.aload_n 0, 1) := by decide +kernel
theorem dX8_back_26 : decode cX8_back 26 = .ok (.getfield 22, 3) := by decide +kernel
theorem dX8_back_29 : decode cX8_back 29 = .ok (.aload_n 0, 1) := by decide +kernel
theorem dX8_back_30 : decode cX8_back 30 = .ok (.getfield 12, 3) := by decide +kernel
theorem dX8_back_33 : decode cX8_back 33 = .ok (.invokevirtual 252, 3) := by decide +kernel
theorem dX8_back_36 : decode cX8_back 36 = .ok (.goto 4, 3) := by decide +kernel
theorem dX8_back_39 : decode cX8_back 39 = .ok (.iload_n 1, 1) := by decide +kernel
theorem dX8_back_40 : decode cX8_back 40 = .ok (.ireturn, 1) := by decide +kernel
theorem dX8_told_0 : decode cX8_told 0 = .ok (.iload_n 1, 1) := by decide +kernel
theorem dX8_told_1 : decode cX8_told 1 = .ok (.iconst 0, 1) := by decide +kernel
theorem dX8_told_2 : decode cX8_told 2 = .ok (.bipush 13, 2) := by decide +kernel
theorem dX8_told_4 : decode cX8_told 4 = .ok (.invokestatic 96, 3) := by decide +kernel
theorem dX8_told_7 : decode cX8_told 7 = .ok (.invokestatic 81, 3) := by decide +kernel
theorem dX8_told_10 : decode cX8_told 10 = .ok (.istore_n 2, 1) := by decide +kernel
theorem dX8_told_11 : decode cX8_told 11 = .ok (.aload_n 0, 1) := by decide +kernel
theorem dX8_told_12 : decode cX8_told 12 = .ok (.iload_n 2, 1) := by decide +kernel
theorem dX8_told_13 : decode cX8_told 13 = .ok (.invokevirtual 100, 3) := by decide +kernel
theorem dX8_told_16 : decode cX8_told 16 = .ok (.ifCond .ne 5, 3) := by decide +kernel
theorem dX8_told_19 : decode cX8_told 19 = .ok (.iload_n 2, 1) := by decide +kernel
theorem dX8_told_20 : decode cX8_told 20 = .ok (.ireturn, 1) := by decide +kernel
theorem dX8_told_21 : decode cX8_told 21 = .ok (.iload_n 1, 1) := by decide +kernel
theorem dX8_told_22 : decode cX8_told 22 = .ok (.tableswitch 136 0 13 #[70, 75, 80, 85, 93, 101, 109, 136, 136, 136, 136, 136, 117, 128], 70) := by decide +kernel
theorem dX8_told_92 : decode cX8_told 92 = .ok (.aload_n 0, 1) := by decide +kernel
theorem dX8_told_93 : decode cX8_told 93 = .ok (.getfield 255, 3) := by decide +kernel
theorem dX8_told_96 : decode cX8_told 96 = .ok (.ireturn, 1) := by decide +kernel
theorem dX8_told_97 : decode cX8_told 97 = .ok (.aload_n 0, 1) := by decide +kernel
theorem dX8_told_98 : decode cX8_told 98 = .ok (.getfield 258, 3) := by decide +kernel
theorem dX8_told_101 : decode cX8_told 101 = .ok (.ireturn, 1) := by decide +kernel
theorem dX8_told_102 : decode cX8_told 102 = .ok (.aload_n 0, 1) := by decide +kernel
theorem dX8_told_103 : decode cX8_told 103 = .ok (.getfield 261, 3) := by decide +kernel
theorem dX8_told_106 : decode cX8_told 106 = .ok (.ireturn, 1) := by decide +kernel
theorem dX8_told_107 : decode cX8_told 107 = .ok (.aload_n 0, 1) := by decide +kernel
theorem dX8_told_108 : decode cX8_told 108 = .ok (.getfield 50, 3) := by decide +kernel
theorem dX8_told_111 : decode cX8_told 111 = .ok (.getfield 264, 3) := by decide +kernel
theorem dX8_told_114 : decode cX8_told 114 = .ok (.ireturn, 1) := by decide +kernel
theorem dX8_told_115 : decode cX8_told 115 = .ok (.aload_n 0, 1) := by decide +kernel
theorem dX8_told_116 : decode cX8_told 116 = .ok (.getfield 12, 3) := by decide +kernel
theorem dX8_told_119 : decode cX8_told 119 = .ok (.getfield 267, 3) := by decide +kernel
theorem dX8_told_122 : decode cX8_told 122 = .ok (.ireturn, 1) := by decide +kernel
theorem dX8_told_123 : decode cX8_told 123 = .ok (.aload_n 0, 1) := by decide +kernel
theorem dX8_told_124 : decode cX8_told 124 = .ok (.getfield 12, 3) := by decide +kernel
theorem dX8_told_127 : decode cX8_told 127 = .ok (.getfield 166, 3) := by decide +kernel
theorem dX8_told_130 : decode cX8_told 130 = .ok (.ireturn, 1) := by decide +kernel
theorem dX8_told_131 : decode cX8_told 131 = .ok (.aload_n 0, 1) := by decide +kernel
theorem dX8_told_132 : decode cX8_told 132 = .ok (.getfield 12, 3) := by decide +kernel
theorem dX8_told_135 : decode cX8_told 135 = .ok (.getfield 170, 3) := by decide +kernel
theorem dX8_told_138 : decode cX8_told 138 = .ok (.ireturn, 1) := by decide +kernel
theorem dX8_told_139 : decode cX8_told 139 = .ok (.aload_n 0, 1) := by decide +kernel
theorem dX8_told_140 : decode cX8_told 140 = .ok (.getfield 12, 3) := by decide +kernel
theorem dX8_told_143 : decode cX8_told 143 = .ok (.getfield 205, 3) := by decide +kernel
theorem dX8_told_146 : decode cX8_told 146 = .ok (.getfield 268, 3) := by decide +kernel
theorem dX8_told_149 : decode cX8_told 149 = .ok (.ireturn, 1) := by decide +kernel
theorem dX8_told_150 : decode cX8_told 150 = .ok (.aload_n 0, 1) := by decide +kernel
theorem dX8_told_151 : decode cX8_told 151 = .ok (.getfield 22, 3) := by decide +kernel
theorem dX8_told_154 : decode cX8_told 154 = .ok (.getfield 249, 3) := by decide +kernel
theorem dX8_told_157 : decode cX8_told 157 = .ok (.ireturn, 1) := by decide +kernel
theorem dX8_told_158 : decode cX8_told 158 = .ok (.aload_n 0, 1) := by decide +kernel
theorem dX8_told_159 : decode cX8_told 159 = .ok (.getfield 12, 3) := by decide +kernel
theorem dX8_told_162 : decode cX8_told 162 = .ok (.iload_n 1, 1) := by decide +kernel
theorem dX8_told_163 : decode cX8_told 163 = .ok (.bipush 7, 2) := by decide +kernel
theorem dX8_told_165 : decode cX8_told 165 = .ok (.isub, 1) := by decide +kernel
theorem dX8_told_166 : decode cX8_told 166 = .ok (.invokevirtual 271, 3) := by decide +kernel
theorem dX8_told_169 : decode cX8_told 169 = .ok (.ireturn, 1) := by decide +kernel
theorem dX8_digest_0 : decode cX8_digest 0 = .ok (.ldc2_w 274, 3) := by decide +kernel
theorem dX8_digest_3 : decode cX8_digest 3 = .ok (.lstore_n 1, 1) := by decide +kernel
theorem dX8_digest_4 : decode cX8_digest 4 = .ok (.iconst 0, 1) := by decide +kernel
theorem dX8_digest_5 : decode cX8_digest 5 = .ok (.istore_n 3, 1) := by decide +kernel
theorem dX8_digest_6 : decode cX8_digest 6 = .ok (.iload_n 3, 1) := by decide +kernel
theorem dX8_digest_7 : decode cX8_digest 7 = .ok (.bipush 13, 2) := by decide +kernel
theorem dX8_digest_9 : decode cX8_digest 9 = .ok (.if_icmp .gt 22, 3) := by decide +kernel
theorem dX8_digest_12 : decode cX8_digest 12 = .ok (.ldc2_w 276, 3) := by decide +kernel
theorem dX8_digest_15 : decode cX8_digest 15 = .ok (.lload_n 1, 1) := by decide +kernel
theorem dX8_digest_16 : decode cX8_digest 16 = .ok (.lmul, 1) := by decide +kernel
theorem dX8_digest_17 : decode cX8_digest 17 = .ok (.aload_n 0, 1) := by decide +kernel
theorem dX8_digest_18 : decode cX8_digest 18 = .ok (.iload_n 3, 1) := by decide +kernel
theorem dX8_digest_19 : decode cX8_digest 19 = .ok (.invokevirtual 278, 3) := by decide +kernel
theorem dX8_digest_22 : decode cX8_digest 22 = .ok (.i2l, 1) := by decide +kernel
theorem dX8_digest_23 : decode cX8_digest 23 = .ok (.ladd, 1) := by decide +kernel
theorem dX8_digest_24 : decode cX8_digest 24 = .ok (.lstore_n 1, 1) := by decide +kernel
theorem dX8_digest_25 : decode cX8_digest 25 = .ok (.iinc 3 1, 3) := by decide +kernel
theorem dX8_digest_28 : decode cX8_digest 28 = .ok (.goto (-22), 3) := by decide +kernel
theorem dX8_digest_31 : decode cX8_digest 31 = .ok (.iconst 0, 1) := by decide +kernel
theorem dX8_digest_32 : decode cX8_digest 32 = .ok (.istore_n 3, 1) := by decide +kernel
theorem dX8_digest_33 : decode cX8_digest 33 = .ok (.iload_n 3, 1) := by decide +kernel
theorem dX8_digest_34 : decode cX8_digest 34 = .ok (.aload_n 0, 1) := by decide +kernel
theorem dX8_digest_35 : decode cX8_digest 35 = .ok (.getfield 12, 3) := by decide +kernel
theorem dX8_digest_38 : decode cX8_digest 38 = .ok (.getfield 267, 3) := by decide +kernel
theorem dX8_digest_41 : decode cX8_digest 41 = .ok (.if_icmp .ge 43, 3) := by decide +kernel
theorem dX8_digest_44 : decode cX8_digest 44 = .ok (.iconst 0, 1) := by decide +kernel
theorem dX8_digest_45 : decode cX8_digest 45 = .ok (.istore 4, 2) := by decide +kernel
theorem dX8_digest_47 : decode cX8_digest 47 = .ok (.iload 4, 2) := by decide +kernel
theorem dX8_digest_49 : decode cX8_digest 49 = .ok (.bipush 9, 2) := by decide +kernel
theorem dX8_digest_51 : decode cX8_digest 51 = .ok (.if_icmp .gt 27, 3) := by decide +kernel
theorem dX8_digest_54 : decode cX8_digest 54 = .ok (.ldc2_w 276, 3) := by decide +kernel
theorem dX8_digest_57 : decode cX8_digest 57 = .ok (.lload_n 1, 1) := by decide +kernel
theorem dX8_digest_58 : decode cX8_digest 58 = .ok (.lmul, 1) := by decide +kernel
theorem dX8_digest_59 : decode cX8_digest 59 = .ok (.aload_n 0, 1) := by decide +kernel
theorem dX8_digest_60 : decode cX8_digest 60 = .ok (.getfield 12, 3) := by decide +kernel
theorem dX8_digest_63 : decode cX8_digest 63 = .ok (.iload_n 3, 1) := by decide +kernel
theorem dX8_digest_64 : decode cX8_digest 64 = .ok (.iload 4, 2) := by decide +kernel
theorem dX8_digest_66 : decode cX8_digest 66 = .ok (.invokevirtual 103, 3) := by decide +kernel
theorem dX8_digest_69 : decode cX8_digest 69 = .ok (.i2l, 1) := by decide +kernel
theorem dX8_digest_70 : decode cX8_digest 70 = .ok (.ladd, 1) := by decide +kernel
theorem dX8_digest_71 : decode cX8_digest 71 = .ok (.lstore_n 1, 1) := by decide +kernel
theorem dX8_digest_72 : decode cX8_digest 72 = .ok (.iinc 4 1, 3) := by decide +kernel
theorem dX8_digest_75 : decode cX8_digest 75 = .ok (.goto (-28), 3) := by decide +kernel
theorem dX8_digest_78 : decode cX8_digest 78 = .ok (.iinc 3 1, 3) := by decide +kernel
theorem dX8_digest_81 : decode cX8_digest 81 = .ok (.goto (-48), 3) := by decide +kernel
theorem dX8_digest_84 : decode cX8_digest 84 = .ok (.iconst 1, 1) := by decide +kernel
theorem dX8_digest_85 : decode cX8_digest 85 = .ok (.istore_n 3, 1) := by decide +kernel
theorem dX8_digest_86 : decode cX8_digest 86 = .ok (.iload_n 3, 1) := by decide +kernel
theorem dX8_digest_87 : decode cX8_digest 87 = .ok (.bipush 6, 2) := by decide +kernel
theorem dX8_digest_89 : decode cX8_digest 89 = .ok (.if_icmp .gt 22, 3) := by decide +kernel
theorem dX8_digest_92 : decode cX8_digest 92 = .ok (.ldc2_w 276, 3) := by decide +kernel
theorem dX8_digest_95 : decode cX8_digest 95 = .ok (.lload_n 1, 1) := by decide +kernel
theorem dX8_digest_96 : decode cX8_digest 96 = .ok (.lmul, 1) := by decide +kernel
theorem dX8_digest_97 : decode cX8_digest 97 = .ok (.aload_n 0, 1) := by decide +kernel
theorem dX8_digest_98 : decode cX8_digest 98 = .ok (.iload_n 3, 1) := by decide +kernel
theorem dX8_digest_99 : decode cX8_digest 99 = .ok (.invokevirtual 281, 3) := by decide +kernel
theorem dX8_digest_102 : decode cX8_digest 102 = .ok (.i2l, 1) := by decide +kernel
theorem dX8_digest_103 : decode cX8_digest 103 = .ok (.ladd, 1) := by decide +kernel
theorem dX8_digest_104 : decode cX8_digest 104 = .ok (.lstore_n 1, 1) := by decide +kernel
theorem dX8_digest_105 : decode cX8_digest 105 = .ok (.iinc 3 1, 3) := by decide +kernel
theorem dX8_digest_108 : decode cX8_digest 108 = .ok (.goto (-22), 3) := by decide +kernel
theorem dX8_digest_111 : decode cX8_digest 111 = .ok (.aload_n 0, 1) := by decide +kernel
theorem dX8_digest_112 : decode cX8_digest 112 = .ok (.getfield 43, 3) := by decide +kernel
theorem dX8_digest_115 : decode cX8_digest 115 = .ok (.aload_n 0, 1) := by decide +kernel
theorem dX8_digest_116 : decode cX8_digest 116 = .ok (.getfield 12, 3) := by decide +kernel
theorem dX8_digest_119 : decode cX8_digest 119 = .ok (.invokevirtual 176, 3) := by decide +kernel
theorem dX8_digest_122 : decode cX8_digest 122 = .ok (.ldc2_w 276, 3) := by decide +kernel
theorem dX8_digest_125 : decode cX8_digest 125 = .ok (.lload_n 1, 1) := by decide +kernel
theorem dX8_digest_126 : decode cX8_digest 126 = .ok (.lmul, 1) := by decide +kernel
theorem dX8_digest_127 : decode cX8_digest 127 = .ok (.aload_n 0, 1) := by decide +kernel
theorem dX8_digest_128 : decode cX8_digest 128 = .ok (.getfield 43, 3) := by decide +kernel
theorem dX8_digest_131 : decode cX8_digest 131 = .ok (.iconst 0, 1) := by decide +kernel
theorem dX8_digest_132 : decode cX8_digest 132 = .ok (.invokevirtual 179, 3) := by decide +kernel
theorem dX8_digest_135 : decode cX8_digest 135 = .ok (.i2l, 1) := by decide +kernel
theorem dX8_digest_136 : decode cX8_digest 136 = .ok (.ladd, 1) := by decide +kernel
theorem dX8_digest_137 : decode cX8_digest 137 = .ok (.lstore_n 1, 1) := by decide +kernel
theorem dX8_digest_138 : decode cX8_digest 138 = .ok (.ldc2_w 276, 3) := by decide +kernel
theorem dX8_digest_141 : decode cX8_digest 141 = .ok (.lload_n 1, 1) := by decide +kernel
theorem dX8_digest_142 : decode cX8_digest 142 = .ok (.lmul, 1) := by decide +kernel
theorem dX8_digest_143 : decode cX8_digest 143 = .ok (.aload_n 0, 1) := by decide +kernel
theorem dX8_digest_144 : decode cX8_digest 144 = .ok (.getfield 43, 3) := by decide +kernel
theorem dX8_digest_147 : decode cX8_digest 147 = .ok (.iconst 1, 1) := by decide +kernel
theorem dX8_digest_148 : decode cX8_digest 148 = .ok (.invokevirtual 179, 3) := by decide +kernel
theorem dX8_digest_151 : decode cX8_digest 151 = .ok (.i2l, 1) := by decide +kernel
theorem dX8_digest_152 : decode cX8_digest 152 = .ok (.ladd, 1) := by decide +kernel
theorem dX8_digest_153 : decode cX8_digest 153 = .ok (.lstore_n 1, 1) := by decide +kernel
theorem dX8_digest_154 : decode cX8_digest 154 = .ok (.ldc2_w 276, 3) := by decide +kernel
theorem dX8_digest_157 : decode cX8_digest 157 = .ok (.lload_n 1, 1) := by decide +kernel
theorem dX8_digest_158 : decode cX8_digest 158 = .ok (.lmul, 1) := by decide +kernel
theorem dX8_digest_159 : decode cX8_digest 159 = .ok (.aload_n 0, 1) := by decide +kernel
theorem dX8_digest_160 : decode cX8_digest 160 = .ok (.getfield 43, 3) := by decide +kernel
theorem dX8_digest_163 : decode cX8_digest 163 = .ok (.iconst 4, 1) := by decide +kernel
theorem dX8_digest_164 : decode cX8_digest 164 = .ok (.invokevirtual 179, 3) := by decide +kernel
theorem dX8_digest_167 : decode cX8_digest 167 = .ok (.i2l, 1) := by decide +kernel
theorem dX8_digest_168 : decode cX8_digest 168 = .ok (.ladd, 1) := by decide +kernel
theorem dX8_digest_169 : decode cX8_digest 169 = .ok (.lstore_n 1, 1) := by decide +kernel
theorem dX8_digest_170 : decode cX8_digest 170 = .ok (.iconst 0, 1) := by decide +kernel
theorem dX8_digest_171 : decode cX8_digest 171 = .ok (.istore_n 3, 1) := by decide +kernel
theorem dX8_digest_172 : decode cX8_digest 172 = .ok (.iload_n 3, 1) := by decide +kernel
theorem dX8_digest_173 : decode cX8_digest 173 = .ok (.iconst 2, 1) := by decide +kernel
theorem dX8_digest_174 : decode cX8_digest 174 = .ok (.if_icmp .gt 21, 3) := by decide +kernel
theorem dX8_digest_177 : decode cX8_digest 177 = .ok (.ldc2_w 276, 3) := by decide +kernel
theorem dX8_digest_180 : decode cX8_digest 180 = .ok (.lload_n 1, 1) := by decide +kernel
theorem dX8_digest_181 : decode cX8_digest 181 = .ok (.lmul, 1) := by decide +kernel
theorem dX8_digest_182 : decode cX8_digest 182 = .ok (.aload_n 0, 1) := by decide +kernel
theorem dX8_digest_183 : decode cX8_digest 183 = .ok (.iload_n 3, 1) := by decide +kernel
theorem dX8_digest_184 : decode cX8_digest 184 = .ok (.invokevirtual 284, 3) := by decide +kernel
theorem dX8_digest_187 : decode cX8_digest 187 = .ok (.ladd, 1) := by decide +kernel
theorem dX8_digest_188 : decode cX8_digest 188 = .ok (.lstore_n 1, 1) := by decide +kernel
theorem dX8_digest_189 : decode cX8_digest 189 = .ok (.iinc 3 1, 3) := by decide +kernel
theorem dX8_digest_192 : decode cX8_digest 192 = .ok (.goto (-20), 3) := by decide +kernel
theorem dX8_digest_195 : decode cX8_digest 195 = .ok (.ldc2_w 276, 3) := by decide +kernel
theorem dX8_digest_198 : decode cX8_digest 198 = .ok (.lload_n 1, 1) := by decide +kernel
theorem dX8_digest_199 : decode cX8_digest 199 = .ok (.lmul, 1) := by decide +kernel
theorem dX8_digest_200 : decode cX8_digest 200 = .ok (.aload_n 0, 1) := by decide +kernel
theorem dX8_digest_201 : decode cX8_digest 201 = .ok (.invokevirtual 288, 3) := by decide +kernel
theorem dX8_digest_204 : decode cX8_digest 204 = .ok (.i2l, 1) := by decide +kernel
theorem dX8_digest_205 : decode cX8_digest 205 = .ok (.ladd, 1) := by decide +kernel
theorem dX8_digest_206 : decode cX8_digest 206 = .ok (.lreturn, 1) := by decide +kernel
theorem dX8_within_0 : decode cX8_within 0 = .ok (.iload_n 0, 1) := by decide +kernel
theorem dX8_within_1 : decode cX8_within 1 = .ok (.iload_n 1, 1) := by decide +kernel
theorem dX8_within_2 : decode cX8_within 2 = .ok (.if_icmp .lt 12, 3) := by decide +kernel
theorem dX8_within_5 : decode cX8_within 5 = .ok (.iload_n 0, 1) := by decide +kernel
theorem dX8_within_6 : decode cX8_within 6 = .ok (.iload_n 2, 1) := by decide +kernel
theorem dX8_within_7 : decode cX8_within 7 = .ok (.if_icmp .gt 7, 3) := by decide +kernel
theorem dX8_within_10 : decode cX8_within 10 = .ok (.iconst 1, 1) := by decide +kernel
theorem dX8_within_11 : decode cX8_within 11 = .ok (.goto 4, 3) := by decide +kernel
theorem dX8_within_14 : decode cX8_within 14 = .ok (.iconst 0, 1) := by decide +kernel
theorem dX8_within_15 : decode cX8_within 15 = .ok (.ireturn, 1) := by decide +kernel
theorem dX8_isPlace_0 : decode cX8_isPlace 0 = .ok (.iload_n 0, 1) := by decide +kernel
theorem dX8_isPlace_1 : decode cX8_isPlace 1 = .ok (.iconst 0, 1) := by decide +kernel
theorem dX8_isPlace_2 : decode cX8_isPlace 2 = .ok (.bipush 15, 2) := by decide +kernel
theorem dX8_isPlace_4 : decode cX8_isPlace 4 = .ok (.invokestatic 96, 3) := by decide +kernel
theorem dX8_isPlace_7 : decode cX8_isPlace 7 = .ok (.ifCond .eq 17, 3) := by decide +kernel
theorem dX8_isPlace_10 : decode cX8_isPlace 10 = .ok (.iload_n 1, 1) := by decide +kernel
theorem dX8_isPlace_11 : decode cX8_isPlace 11 = .ok (.iconst 0, 1) := by decide +kernel
theorem dX8_isPlace_12 : decode cX8_isPlace 12 = .ok (.bipush 15, 2) := by decide +kernel
theorem dX8_isPlace_14 : decode cX8_isPlace 14 = .ok (.invokestatic 96, 3) := by decide +kernel
theorem dX8_isPlace_17 : decode cX8_isPlace 17 = .ok (.ifCond .eq 7, 3) := by decide +kernel
theorem dX8_isPlace_20 : decode cX8_isPlace 20 = .ok (.iconst 1, 1) := by decide +kernel
theorem dX8_isPlace_21 : decode cX8_isPlace 21 = .ok (.goto 4, 3) := by decide +kernel
theorem dX8_isPlace_24 : decode cX8_isPlace 24 = .ok (.iconst 0, 1) := by decide +kernel
theorem dX8_isPlace_25 : decode cX8_isPlace 25 = .ok (.ireturn, 1) := by decide +kernel
theorem dX8_goodIf_0 : decode cX8_goodIf 0 = .ok (.iload_n 0, 1) := by decide +kernel
theorem dX8_goodIf_1 : decode cX8_goodIf 1 = .ok (.ifCond .eq 7, 3) := by decide +kernel
theorem dX8_goodIf_4 : decode cX8_goodIf 4 = .ok (.iconst 0, 1) := by decide +kernel
theorem dX8_goodIf_5 : decode cX8_goodIf 5 = .ok (.goto 5, 3) := by decide +kernel
theorem dX8_goodIf_8 : decode cX8_goodIf 8 = .ok (.bipush (-2), 2) := by decide +kernel
theorem dX8_goodIf_10 : decode cX8_goodIf 10 = .ok (.ireturn, 1) := by decide +kernel
theorem dX8_placeOf_0 : decode cX8_placeOf 0 = .ok (.bipush 16, 2) := by decide +kernel
theorem dX8_placeOf_2 : decode cX8_placeOf 2 = .ok (.iload_n 1, 1) := by decide +kernel
theorem dX8_placeOf_3 : decode cX8_placeOf 3 = .ok (.imul, 1) := by decide +kernel
theorem dX8_placeOf_4 : decode cX8_placeOf 4 = .ok (.iload_n 0, 1) := by decide +kernel
theorem dX8_placeOf_5 : decode cX8_placeOf 5 = .ok (.iadd, 1) := by decide +kernel
theorem dX8_placeOf_6 : decode cX8_placeOf 6 = .ok (.ireturn, 1) := by decide +kernel
theorem dX8_distance_0 : decode cX8_distance 0 = .ok (.iload_n 0, 1) := by decide +kernel
theorem dX8_distance_1 : decode cX8_distance 1 = .ok (.iload_n 1, 1) := by decide +kernel
theorem dX8_distance_2 : decode cX8_distance 2 = .ok (.if_icmp .ge 9, 3) := by decide +kernel
theorem dX8_distance_5 : decode cX8_distance 5 = .ok (.iload_n 1, 1) := by decide +kernel
theorem dX8_distance_6 : decode cX8_distance 6 = .ok (.iload_n 0, 1) := by decide +kernel
theorem dX8_distance_7 : decode cX8_distance 7 = .ok (.isub, 1) := by decide +kernel
theorem dX8_distance_8 : decode cX8_distance 8 = .ok (.goto 6, 3) := by decide +kernel
theorem dX8_distance_11 : decode cX8_distance 11 = .ok (.iload_n 0, 1) := by decide +kernel
theorem dX8_distance_12 : decode cX8_distance 12 = .ok (.iload_n 1, 1) := by decide +kernel
theorem dX8_distance_13 : decode cX8_distance 13 = .ok (.isub, 1) := by decide +kernel
theorem dX8_distance_14 : decode cX8_distance 14 = .ok (.ireturn, 1) := by decide +kernel
theorem dX8_mayAnswer_0 : decode cX8_mayAnswer 0 = .ok (.iload_n 1, 1) := by decide +kernel
theorem dX8_mayAnswer_1 : decode cX8_mayAnswer 1 = .ok (.tableswitch 66 (-4) (-2) #[53, 40, 27], 27) := by decide +kernel
theorem dX8_mayAnswer_28 : decode cX8_mayAnswer 28 = .ok (.aload_n 0, 1) := by decide +kernel
theorem dX8_mayAnswer_29 : decode cX8_mayAnswer 29 = .ok (.dup, 1) := by decide +kernel
theorem dX8_mayAnswer_30 : decode cX8_mayAnswer 30 = .ok (.getfield 255, 3) := by decide +kernel
theorem dX8_mayAnswer_33 : decode cX8_mayAnswer 33 = .ok (.iconst 1, 1) := by decide +kernel
theorem dX8_mayAnswer_34 : decode cX8_mayAnswer 34 = .ok (.iadd, 1) := by decide +kernel
theorem dX8_mayAnswer_35 : decode cX8_mayAnswer 35 = .ok (.putfield 255, 3) := by decide +kernel
theorem dX8_mayAnswer_38 : decode cX8_mayAnswer 38 = .ok (.goto 29, 3) := by decide +kernel
theorem dX8_mayAnswer_41 : decode cX8_mayAnswer 41 = .ok (.aload_n 0, 1) := by decide +kernel
theorem dX8_mayAnswer_42 : decode cX8_mayAnswer 42 = .ok (.dup, 1) := by decide +kernel
theorem dX8_mayAnswer_43 : decode cX8_mayAnswer 43 = .ok (.getfield 258, 3) := by decide +kernel
theorem dX8_mayAnswer_46 : decode cX8_mayAnswer 46 = .ok (.iconst 1, 1) := by decide +kernel
theorem dX8_mayAnswer_47 : decode cX8_mayAnswer 47 = .ok (.iadd, 1) := by decide +kernel
theorem dX8_mayAnswer_48 : decode cX8_mayAnswer 48 = .ok (.putfield 258, 3) := by decide +kernel
theorem dX8_mayAnswer_51 : decode cX8_mayAnswer 51 = .ok (.goto 16, 3) := by decide +kernel
theorem dX8_mayAnswer_54 : decode cX8_mayAnswer 54 = .ok (.aload_n 0, 1) := by decide +kernel
theorem dX8_mayAnswer_55 : decode cX8_mayAnswer 55 = .ok (.dup, 1) := by decide +kernel
theorem dX8_mayAnswer_56 : decode cX8_mayAnswer 56 = .ok (.getfield 261, 3) := by decide +kernel
theorem dX8_mayAnswer_59 : decode cX8_mayAnswer 59 = .ok (.iconst 1, 1) := by decide +kernel
theorem dX8_mayAnswer_60 : decode cX8_mayAnswer 60 = .ok (.iadd, 1) := by decide +kernel
theorem dX8_mayAnswer_61 : decode cX8_mayAnswer 61 = .ok (.putfield 261, 3) := by decide +kernel
theorem dX8_mayAnswer_64 : decode cX8_mayAnswer 64 = .ok (.goto 3, 3) := by decide +kernel
theorem dX8_mayAnswer_67 : decode cX8_mayAnswer 67 = .ok (.iload_n 1, 1) := by decide +kernel
theorem dX8_mayAnswer_68 : decode cX8_mayAnswer 68 = .ok (.ifCond .ne 7, 3) := by decide +kernel
theorem dX8_mayAnswer_71 : decode cX8_mayAnswer 71 = .ok (.iconst 1, 1) := by decide +kernel
theorem dX8_mayAnswer_72 : decode cX8_mayAnswer 72 = .ok (.goto 4, 3) := by decide +kernel
theorem dX8_mayAnswer_75 : decode cX8_mayAnswer 75 = .ok (.iconst 0, 1) := by decide +kernel
theorem dX8_mayAnswer_76 : decode cX8_mayAnswer 76 = .ok (.ireturn, 1) := by decide +kernel
theorem dX8_mayChange_0 : decode cX8_mayChange 0 = .ok (.aload_n 0, 1) := by decide +kernel
theorem dX8_mayChange_1 : decode cX8_mayChange 1 = .ok (.iload_n 1, 1) := by decide +kernel
theorem dX8_mayChange_2 : decode cX8_mayChange 2 = .ok (.invokevirtual 100, 3) := by decide +kernel
theorem dX8_mayChange_5 : decode cX8_mayChange 5 = .ok (.istore_n 2, 1) := by decide +kernel
theorem dX8_mayChange_6 : decode cX8_mayChange 6 = .ok (.iload_n 2, 1) := by decide +kernel
theorem dX8_mayChange_7 : decode cX8_mayChange 7 = .ok (.ifCond .eq 14, 3) := by decide +kernel
theorem dX8_mayChange_10 : decode cX8_mayChange 10 = .ok (.aload_n 0, 1) := by decide +kernel
theorem dX8_mayChange_11 : decode cX8_mayChange 11 = .ok (.getfield 22, 3) := by decide +kernel
theorem dX8_mayChange_14 : decode cX8_mayChange 14 = .ok (.aload_n 0, 1) := by decide +kernel
theorem dX8_mayChange_15 : decode cX8_mayChange 15 = .ok (.getfield 12, 3) := by decide +kernel
theorem dX8_mayChange_18 : decode cX8_mayChange 18 = .ok (.invokevirtual 152, 3) := by decide +kernel
theorem dX8_mayChange_21 : decode cX8_mayChange 21 = .ok (.iload_n 2, 1) := by decide +kernel
theorem dX8_mayChange_22 : decode cX8_mayChange 22 = .ok (.ireturn, 1) := by decide +kernel
theorem dX8_obeys_0 : decode cX8_obeys 0 = .ok (.aload_n 0, 1) := by decide +kernel
theorem dX8_obeys_1 : decode cX8_obeys 1 = .ok (.getfield 50, 3) := by decide +kernel
theorem dX8_obeys_4 : decode cX8_obeys 4 = .ok (.iload_n 1, 1) := by decide +kernel
theorem dX8_obeys_5 : decode cX8_obeys 5 = .ok (.iconst 0, 1) := by decide +kernel
theorem dX8_obeys_6 : decode cX8_obeys 6 = .ok (.invokevirtual 291, 3) := by decide +kernel
theorem dX8_obeys_9 : decode cX8_obeys 9 = .ok (.istore_n 2, 1) := by decide +kernel
theorem dX8_obeys_10 : decode cX8_obeys 10 = .ok (.aload_n 0, 1) := by decide +kernel
theorem dX8_obeys_11 : decode cX8_obeys 11 = .ok (.getfield 50, 3) := by decide +kernel
theorem dX8_obeys_14 : decode cX8_obeys 14 = .ok (.iload_n 1, 1) := by decide +kernel
theorem dX8_obeys_15 : decode cX8_obeys 15 = .ok (.iconst 1, 1) := by decide +kernel
theorem dX8_obeys_16 : decode cX8_obeys 16 = .ok (.invokevirtual 291, 3) := by decide +kernel
theorem dX8_obeys_19 : decode cX8_obeys 19 = .ok (.istore_n 3, 1) := by decide +kernel
theorem dX8_obeys_20 : decode cX8_obeys 20 = .ok (.aload_n 0, 1) := by decide +kernel
theorem dX8_obeys_21 : decode cX8_obeys 21 = .ok (.getfield 50, 3) := by decide +kernel
theorem dX8_obeys_24 : decode cX8_obeys 24 = .ok (.iload_n 1, 1) := by decide +kernel
theorem dX8_obeys_25 : decode cX8_obeys 25 = .ok (.iconst 2, 1) := by decide +kernel
theorem dX8_obeys_26 : decode cX8_obeys 26 = .ok (.invokevirtual 291, 3) := by decide +kernel
theorem dX8_obeys_29 : decode cX8_obeys 29 = .ok (.istore 4, 2) := by decide +kernel
theorem dX8_obeys_31 : decode cX8_obeys 31 = .ok (.aload_n 0, 1) := by decide +kernel
theorem dX8_obeys_32 : decode cX8_obeys 32 = .ok (.getfield 50, 3) := by decide +kernel
theorem dX8_obeys_35 : decode cX8_obeys 35 = .ok (.iload_n 1, 1) := by decide +kernel
theorem dX8_obeys_36 : decode cX8_obeys 36 = .ok (.iconst 3, 1) := by decide +kernel
theorem dX8_obeys_37 : decode cX8_obeys 37 = .ok (.invokevirtual 291, 3) := by decide +kernel
theorem dX8_obeys_40 : decode cX8_obeys 40 = .ok (.istore 5, 2) := by decide +kernel
theorem dX8_obeys_42 : decode cX8_obeys 42 = .ok (.aload_n 0, 1) := by decide +kernel
theorem dX8_obeys_43 : decode cX8_obeys 43 = .ok (.getfield 50, 3) := by decide +kernel
theorem dX8_obeys_46 : decode cX8_obeys 46 = .ok (.iload_n 1, 1) := by decide +kernel
theorem dX8_obeys_47 : decode cX8_obeys 47 = .ok (.invokevirtual 294, 3) := by decide +kernel
theorem dX8_obeys_50 : decode cX8_obeys 50 = .ok (.istore 6, 2) := by decide +kernel
theorem dX8_obeys_52 : decode cX8_obeys 52 = .ok (.iload 6, 2) := by decide +kernel
theorem dX8_obeys_54 : decode cX8_obeys 54 = .ok (.lookupswitch 200 #[(97, 180), (105, 50), (111, 152), (112, 118), (119, 88)], 50) := by decide +kernel
theorem dX8_obeys_104 : decode cX8_obeys 104 = .ok (.aload_n 0, 1) := by decide +kernel
theorem dX8_obeys_105 : decode cX8_obeys 105 = .ok (.getfield 16, 3) := by decide +kernel
theorem dX8_obeys_108 : decode cX8_obeys 108 = .ok (.iload_n 2, 1) := by decide +kernel
theorem dX8_obeys_109 : decode cX8_obeys 109 = .ok (.iload_n 3, 1) := by decide +kernel
theorem dX8_obeys_110 : decode cX8_obeys 110 = .ok (.iload 4, 2) := by decide +kernel
theorem dX8_obeys_112 : decode cX8_obeys 112 = .ok (.iload 5, 2) := by decide +kernel
theorem dX8_obeys_114 : decode cX8_obeys 114 = .ok (.invokevirtual 71, 3) := by decide +kernel
theorem dX8_obeys_117 : decode cX8_obeys 117 = .ok (.ifCond .ne 23, 3) := by decide +kernel
theorem dX8_obeys_120 : decode cX8_obeys 120 = .ok (.aload_n 0, 1) := by decide +kernel
theorem dX8_obeys_121 : decode cX8_obeys 121 = .ok (.getfield 16, 3) := by decide +kernel
theorem dX8_obeys_124 : decode cX8_obeys 124 = .ok (.iload_n 2, 1) := by decide +kernel
theorem dX8_obeys_125 : decode cX8_obeys 125 = .ok (.iload_n 3, 1) := by decide +kernel
theorem dX8_obeys_126 : decode cX8_obeys 126 = .ok (.iload 4, 2) := by decide +kernel
theorem dX8_obeys_128 : decode cX8_obeys 128 = .ok (.iload 5, 2) := by decide +kernel
theorem dX8_obeys_130 : decode cX8_obeys 130 = .ok (.invokevirtual 75, 3) := by decide +kernel
theorem dX8_obeys_133 : decode cX8_obeys 133 = .ok (.ifCond .lt 7, 3) := by decide +kernel
theorem dX8_obeys_136 : decode cX8_obeys 136 = .ok (.iconst 1, 1) := by decide +kernel
theorem dX8_obeys_137 : decode cX8_obeys 137 = .ok (.goto 4, 3) := by decide +kernel
theorem dX8_obeys_140 : decode cX8_obeys 140 = .ok (.iconst 0, 1) := by decide +kernel
theorem dX8_obeys_141 : decode cX8_obeys 141 = .ok (.ireturn, 1) := by decide +kernel
theorem dX8_obeys_142 : decode cX8_obeys 142 = .ok (.aload_n 0, 1) := by decide +kernel
theorem dX8_obeys_143 : decode cX8_obeys 143 = .ok (.getfield 16, 3) := by decide +kernel
theorem dX8_obeys_146 : decode cX8_obeys 146 = .ok (.iload_n 2, 1) := by decide +kernel
theorem dX8_obeys_147 : decode cX8_obeys 147 = .ok (.iload_n 3, 1) := by decide +kernel
theorem dX8_obeys_148 : decode cX8_obeys 148 = .ok (.invokevirtual 54, 3) := by decide +kernel
theorem dX8_obeys_151 : decode cX8_obeys 151 = .ok (.ifCond .ne 19, 3) := by decide +kernel
theorem dX8_obeys_154 : decode cX8_obeys 154 = .ok (.aload_n 0, 1) := by decide +kernel
theorem dX8_obeys_155 : decode cX8_obeys 155 = .ok (.getfield 16, 3) := by decide +kernel
theorem dX8_obeys_158 : decode cX8_obeys 158 = .ok (.iload_n 2, 1) := by decide +kernel
theorem dX8_obeys_159 : decode cX8_obeys 159 = .ok (.iload_n 3, 1) := by decide +kernel
theorem dX8_obeys_160 : decode cX8_obeys 160 = .ok (.invokevirtual 62, 3) := by decide +kernel
theorem dX8_obeys_163 : decode cX8_obeys 163 = .ok (.ifCond .lt 7, 3) := by decide +kernel
theorem dX8_obeys_166 : decode cX8_obeys 166 = .ok (.iconst 1, 1) := by decide +kernel
theorem dX8_obeys_167 : decode cX8_obeys 167 = .ok (.goto 4, 3) := by decide +kernel
theorem dX8_obeys_170 : decode cX8_obeys 170 = .ok (.iconst 0, 1) := by decide +kernel
theorem dX8_obeys_171 : decode cX8_obeys 171 = .ok (.ireturn, 1) := by decide +kernel
theorem dX8_obeys_172 : decode cX8_obeys 172 = .ok (.aload_n 0, 1) := by decide +kernel
theorem dX8_obeys_173 : decode cX8_obeys 173 = .ok (.getfield 16, 3) := by decide +kernel
theorem dX8_obeys_176 : decode cX8_obeys 176 = .ok (.iload_n 2, 1) := by decide +kernel
theorem dX8_obeys_177 : decode cX8_obeys 177 = .ok (.iload_n 3, 1) := by decide +kernel
theorem dX8_obeys_178 : decode cX8_obeys 178 = .ok (.iload 4, 2) := by decide +kernel
theorem dX8_obeys_180 : decode cX8_obeys 180 = .ok (.invokevirtual 119, 3) := by decide +kernel
theorem dX8_obeys_183 : decode cX8_obeys 183 = .ok (.ifCond .ne 21, 3) := by decide +kernel
theorem dX8_obeys_186 : decode cX8_obeys 186 = .ok (.aload_n 0, 1) := by decide +kernel
theorem dX8_obeys_187 : decode cX8_obeys 187 = .ok (.getfield 16, 3) := by decide +kernel
theorem dX8_obeys_190 : decode cX8_obeys 190 = .ok (.iload_n 2, 1) := by decide +kernel
theorem dX8_obeys_191 : decode cX8_obeys 191 = .ok (.iload_n 3, 1) := by decide +kernel
theorem dX8_obeys_192 : decode cX8_obeys 192 = .ok (.iload 4, 2) := by decide +kernel
theorem dX8_obeys_194 : decode cX8_obeys 194 = .ok (.invokevirtual 122, 3) := by decide +kernel
theorem dX8_obeys_197 : decode cX8_obeys 197 = .ok (.ifCond .lt 7, 3) := by decide +kernel
theorem dX8_obeys_200 : decode cX8_obeys 200 = .ok (.iconst 1, 1) := by decide +kernel
theorem dX8_obeys_201 : decode cX8_obeys 201 = .ok (.goto 4, 3) := by decide +kernel
theorem dX8_obeys_204 : decode cX8_obeys 204 = .ok (.iconst 0, 1) := by decide +kernel
theorem dX8_obeys_205 : decode cX8_obeys 205 = .ok (.ireturn, 1) := by decide +kernel
theorem dX8_obeys_206 : decode cX8_obeys 206 = .ok (.aload_n 0, 1) := by decide +kernel
theorem dX8_obeys_207 : decode cX8_obeys 207 = .ok (.getfield 16, 3) := by decide +kernel
theorem dX8_obeys_210 : decode cX8_obeys 210 = .ok (.iload_n 2, 1) := by decide +kernel
theorem dX8_obeys_211 : decode cX8_obeys 211 = .ok (.invokevirtual 125, 3) := by decide +kernel
theorem dX8_obeys_214 : decode cX8_obeys 214 = .ok (.ifCond .ne 18, 3) := by decide +kernel
theorem dX8_obeys_217 : decode cX8_obeys 217 = .ok (.aload_n 0, 1) := by decide +kernel
theorem dX8_obeys_218 : decode cX8_obeys 218 = .ok (.getfield 16, 3) := by decide +kernel
theorem dX8_obeys_221 : decode cX8_obeys 221 = .ok (.iload_n 2, 1) := by decide +kernel
theorem dX8_obeys_222 : decode cX8_obeys 222 = .ok (.invokevirtual 128, 3) := by decide +kernel
theorem dX8_obeys_225 : decode cX8_obeys 225 = .ok (.ifCond .lt 7, 3) := by decide +kernel
theorem dX8_obeys_228 : decode cX8_obeys 228 = .ok (.iconst 1, 1) := by decide +kernel
theorem dX8_obeys_229 : decode cX8_obeys 229 = .ok (.goto 4, 3) := by decide +kernel
theorem dX8_obeys_232 : decode cX8_obeys 232 = .ok (.iconst 0, 1) := by decide +kernel
theorem dX8_obeys_233 : decode cX8_obeys 233 = .ok (.ireturn, 1) := by decide +kernel
theorem dX8_obeys_234 : decode cX8_obeys 234 = .ok (.aload_n 0, 1) := by decide +kernel
theorem dX8_obeys_235 : decode cX8_obeys 235 = .ok (.getfield 36, 3) := by decide +kernel
theorem dX8_obeys_238 : decode cX8_obeys 238 = .ok (.aload_n 0, 1) := by decide +kernel
theorem dX8_obeys_239 : decode cX8_obeys 239 = .ok (.getfield 16, 3) := by decide +kernel
theorem dX8_obeys_242 : decode cX8_obeys 242 = .ok (.invokevirtual 156, 3) := by decide +kernel
theorem dX8_obeys_245 : decode cX8_obeys 245 = .ok (.ifCond .lt 7, 3) := by decide +kernel
theorem dX8_obeys_248 : decode cX8_obeys 248 = .ok (.iconst 1, 1) := by decide +kernel
theorem dX8_obeys_249 : decode cX8_obeys 249 = .ok (.goto 4, 3) := by decide +kernel
theorem dX8_obeys_252 : decode cX8_obeys 252 = .ok (.iconst 0, 1) := by decide +kernel
theorem dX8_obeys_253 : decode cX8_obeys 253 = .ok (.ireturn, 1) := by decide +kernel
theorem dX8_obeys_254 : decode cX8_obeys 254 = .ok (.iload 6, 2) := by decide +kernel
theorem dX8_obeys_256 : decode cX8_obeys 256 = .ok (.invokestatic 297, 3) := by decide +kernel
theorem dX8_obeys_259 : decode cX8_obeys 259 = .ok (.istore 7, 2) := by decide +kernel
theorem dX8_obeys_261 : decode cX8_obeys 261 = .ok (.aload_n 0, 1) := by decide +kernel
theorem dX8_obeys_262 : decode cX8_obeys 262 = .ok (.getfield 16, 3) := by decide +kernel
theorem dX8_obeys_265 : decode cX8_obeys 265 = .ok (.iload 7, 2) := by decide +kernel
theorem dX8_obeys_267 : decode cX8_obeys 267 = .ok (.iload_n 2, 1) := by decide +kernel
theorem dX8_obeys_268 : decode cX8_obeys 268 = .ok (.invokevirtual 65, 3) := by decide +kernel
theorem dX8_obeys_271 : decode cX8_obeys 271 = .ok (.ifCond .ne 20, 3) := by decide +kernel
theorem dX8_obeys_274 : decode cX8_obeys 274 = .ok (.aload_n 0, 1) := by decide +kernel
theorem dX8_obeys_275 : decode cX8_obeys 275 = .ok (.getfield 16, 3) := by decide +kernel
theorem dX8_obeys_278 : decode cX8_obeys 278 = .ok (.iload 7, 2) := by decide +kernel
theorem dX8_obeys_280 : decode cX8_obeys 280 = .ok (.iload_n 2, 1) := by decide +kernel
theorem dX8_obeys_281 : decode cX8_obeys 281 = .ok (.invokevirtual 68, 3) := by decide +kernel
theorem dX8_obeys_284 : decode cX8_obeys 284 = .ok (.ifCond .lt 7, 3) := by decide +kernel
theorem dX8_obeys_287 : decode cX8_obeys 287 = .ok (.iconst 1, 1) := by decide +kernel
theorem dX8_obeys_288 : decode cX8_obeys 288 = .ok (.goto 4, 3) := by decide +kernel
theorem dX8_obeys_291 : decode cX8_obeys 291 = .ok (.iconst 0, 1) := by decide +kernel
theorem dX8_obeys_292 : decode cX8_obeys 292 = .ok (.ireturn, 1) := by decide +kernel
theorem dX9_init_0 : decode cX9_init 0 = .ok (.aload_n 0, 1) := by decide +kernel
theorem dX9_init_1 : decode cX9_init 1 = .ok (.invokespecial 1, 3) := by decide +kernel
theorem dX9_init_4 : decode cX9_init 4 = .ok (.aload_n 0, 1) := by decide +kernel
theorem dX9_init_5 : decode cX9_init 5 = .ok (.sipush 155, 3) := by decide +kernel
theorem dX9_init_8 : decode cX9_init 8 = .ok (.newarray .int, 2) := by decide +kernel
theorem dX9_init_10 : decode cX9_init 10 = .ok (.putfield 7, 3) := by decide +kernel
theorem dX9_init_13 : decode cX9_init 13 = .ok (.aload_n 0, 1) := by decide +kernel
theorem dX9_init_14 : decode cX9_init 14 = .ok (.sipush 775, 3) := by decide +kernel
theorem dX9_init_17 : decode cX9_init 17 = .ok (.newarray .int, 2) := by decide +kernel
theorem dX9_init_19 : decode cX9_init 19 = .ok (.putfield 13, 3) := by decide +kernel
theorem dX9_init_22 : decode cX9_init 22 = .ok (.aload_n 0, 1) := by decide +kernel
theorem dX9_init_23 : decode cX9_init 23 = .ok (.sipush 155, 3) := by decide +kernel
theorem dX9_init_26 : decode cX9_init 26 = .ok (.newarray .int, 2) := by decide +kernel
theorem dX9_init_28 : decode cX9_init 28 = .ok (.putfield 16, 3) := by decide +kernel
theorem dX9_init_31 : decode cX9_init 31 = .ok (.aload_n 0, 1) := by decide +kernel
theorem dX9_init_32 : decode cX9_init 32 = .ok (.iconst 3, 1) := by decide +kernel
theorem dX9_init_33 : decode cX9_init 33 = .ok (.newarray .int, 2) := by decide +kernel
theorem dX9_init_35 : decode cX9_init 35 = .ok (.putfield 19, 3) := by decide +kernel
theorem dX9_init_38 : decode cX9_init 38 = .ok (.aload_n 0, 1) := by decide +kernel
theorem dX9_init_39 : decode cX9_init 39 = .ok (.bipush 8, 2) := by decide +kernel
theorem dX9_init_41 : decode cX9_init 41 = .ok (.newarray .int, 2) := by decide +kernel
theorem dX9_init_43 : decode cX9_init 43 = .ok (.putfield 22, 3) := by decide +kernel
theorem dX9_init_46 : decode cX9_init 46 = .ok (.aload_n 0, 1) := by decide +kernel
theorem dX9_init_47 : decode cX9_init 47 = .ok (.sipush 256, 3) := by decide +kernel
theorem dX9_init_50 : decode cX9_init 50 = .ok (.newarray .boolean, 2) := by decide +kernel
theorem dX9_init_52 : decode cX9_init 52 = .ok (.putfield 25, 3) := by decide +kernel
theorem dX9_init_55 : decode cX9_init 55 = .ok (.aload_n 0, 1) := by decide +kernel
theorem dX9_init_56 : decode cX9_init 56 = .ok (.sipush 256, 3) := by decide +kernel
theorem dX9_init_59 : decode cX9_init 59 = .ok (.newarray .int, 2) := by decide +kernel
theorem dX9_init_61 : decode cX9_init 61 = .ok (.putfield 29, 3) := by decide +kernel
theorem dX9_init_64 : decode cX9_init 64 = .ok (.aload_n 0, 1) := by decide +kernel
theorem dX9_init_65 : decode cX9_init 65 = .ok (.bipush 120, 2) := by decide +kernel
theorem dX9_init_67 : decode cX9_init 67 = .ok (.newarray .int, 2) := by decide +kernel
theorem dX9_init_69 : decode cX9_init 69 = .ok (.putfield 32, 3) := by decide +kernel
theorem dX9_init_72 : decode cX9_init 72 = .ok (.aload_n 0, 1) := by decide +kernel
theorem dX9_init_73 : decode cX9_init 73 = .ok (.iconst 4, 1) := by decide +kernel
theorem dX9_init_74 : decode cX9_init 74 = .ok (.newarray .int, 2) := by decide +kernel
theorem dX9_init_76 : decode cX9_init 76 = .ok (.putfield 35, 3) := by decide +kernel
theorem dX9_init_79 : decode cX9_init 79 = .ok (.aload_n 0, 1) := by decide +kernel
theorem dX9_init_80 : decode cX9_init 80 = .ok (.getfield 7, 3) := by decide +kernel
theorem dX9_init_83 : decode cX9_init 83 = .ok (.iconst 0, 1) := by decide +kernel
theorem dX9_init_84 : decode cX9_init 84 = .ok (.bipush 12, 2) := by decide +kernel
theorem dX9_init_86 : decode cX9_init 86 = .ok (.iastore, 1) := by decide +kernel
theorem dX9_init_87 : decode cX9_init 87 = .ok (.aload_n 0, 1) := by decide +kernel
