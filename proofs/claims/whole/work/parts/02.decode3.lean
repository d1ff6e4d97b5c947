theorem dX9_init_88 : decode cX9_init 88 = .ok (.getfield 7, 3) := by decide +kernel
theorem dX9_init_91 : decode cX9_init 91 = .ok (.iconst 1, 1) := by decide +kernel
theorem dX9_init_92 : decode cX9_init 92 = .ok (.bipush 12, 2) := by decide +kernel
theorem dX9_init_94 : decode cX9_init 94 = .ok (.iastore, 1) := by decide +kernel
theorem dX9_init_95 : decode cX9_init 95 = .ok (.aload_n 0, 1) := by decide +kernel
theorem dX9_init_96 : decode cX9_init 96 = .ok (.getfield 7, 3) := by decide +kernel
theorem dX9_init_99 : decode cX9_init 99 = .ok (.iconst 2, 1) := by decide +kernel
theorem dX9_init_100 : decode cX9_init 100 = .ok (.iconst 1, 1) := by decide +kernel
theorem dX9_init_101 : decode cX9_init 101 = .ok (.iastore, 1) := by decide +kernel
theorem dX9_init_102 : decode cX9_init 102 = .ok (.aload_n 0, 1) := by decide +kernel
theorem dX9_init_103 : decode cX9_init 103 = .ok (.getfield 7, 3) := by decide +kernel
theorem dX9_init_106 : decode cX9_init 106 = .ok (.iconst 4, 1) := by decide +kernel
theorem dX9_init_107 : decode cX9_init 107 = .ok (.bipush 40, 2) := by decide +kernel
theorem dX9_init_109 : decode cX9_init 109 = .ok (.iastore, 1) := by decide +kernel
theorem dX9_init_110 : decode cX9_init 110 = .ok (.aload_n 0, 1) := by decide +kernel
theorem dX9_init_111 : decode cX9_init 111 = .ok (.getfield 7, 3) := by decide +kernel
theorem dX9_init_114 : decode cX9_init 114 = .ok (.iconst 5, 1) := by decide +kernel
theorem dX9_init_115 : decode cX9_init 115 = .ok (.bipush 15, 2) := by decide +kernel
theorem dX9_init_117 : decode cX9_init 117 = .ok (.iastore, 1) := by decide +kernel
theorem dX9_init_118 : decode cX9_init 118 = .ok (.return_, 1) := by decide +kernel
theorem dX9_in_0 : decode cX9_in 0 = .ok (.lload_n 0, 1) := by decide +kernel
theorem dX9_in_1 : decode cX9_in 1 = .ok (.lload_n 2, 1) := by decide +kernel
theorem dX9_in_2 : decode cX9_in 2 = .ok (.lcmp, 1) := by decide +kernel
theorem dX9_in_3 : decode cX9_in 3 = .ok (.ifCond .lt 14, 3) := by decide +kernel
theorem dX9_in_6 : decode cX9_in 6 = .ok (.lload_n 0, 1) := by decide +kernel
theorem dX9_in_7 : decode cX9_in 7 = .ok (.lload 4, 2) := by decide +kernel
theorem dX9_in_9 : decode cX9_in 9 = .ok (.lcmp, 1) := by decide +kernel
theorem dX9_in_10 : decode cX9_in 10 = .ok (.ifCond .gt 7, 3) := by decide +kernel
theorem dX9_in_13 : decode cX9_in 13 = .ok (.iconst 1, 1) := by decide +kernel
theorem dX9_in_14 : decode cX9_in 14 = .ok (.goto 4, 3) := by decide +kernel
theorem dX9_in_17 : decode cX9_in 17 = .ok (.iconst 0, 1) := by decide +kernel
theorem dX9_in_18 : decode cX9_in 18 = .ok (.ireturn, 1) := by decide +kernel
theorem dX9_refuses_0 : decode cX9_refuses 0 = .ok (.aload_n 0, 1) := by decide +kernel
theorem dX9_refuses_1 : decode cX9_refuses 1 = .ok (.getfield 19, 3) := by decide +kernel
theorem dX9_refuses_4 : decode cX9_refuses 4 = .ok (.bipush (-2), 2) := by decide +kernel
theorem dX9_refuses_6 : decode cX9_refuses 6 = .ok (.iload_n 1, 1) := by decide +kernel
theorem dX9_refuses_7 : decode cX9_refuses 7 = .ok (.isub, 1) := by decide +kernel
theorem dX9_refuses_8 : decode cX9_refuses 8 = .ok (.dup2, 1) := by decide +kernel
theorem dX9_refuses_9 : decode cX9_refuses 9 = .ok (.iaload, 1) := by decide +kernel
theorem dX9_refuses_10 : decode cX9_refuses 10 = .ok (.iconst 1, 1) := by decide +kernel
theorem dX9_refuses_11 : decode cX9_refuses 11 = .ok (.iadd, 1) := by decide +kernel
theorem dX9_refuses_12 : decode cX9_refuses 12 = .ok (.iastore, 1) := by decide +kernel
theorem dX9_refuses_13 : decode cX9_refuses 13 = .ok (.iload_n 1, 1) := by decide +kernel
theorem dX9_refuses_14 : decode cX9_refuses 14 = .ok (.ireturn, 1) := by decide +kernel
theorem dX9_keep_0 : decode cX9_keep 0 = .ok (.aload_n 0, 1) := by decide +kernel
theorem dX9_keep_1 : decode cX9_keep 1 = .ok (.getfield 38, 3) := by decide +kernel
theorem dX9_keep_4 : decode cX9_keep 4 = .ok (.iconst 5, 1) := by decide +kernel
theorem dX9_keep_5 : decode cX9_keep 5 = .ok (.if_icmp .ne 44, 3) := by decide +kernel
theorem dX9_keep_8 : decode cX9_keep 8 = .ok (.iconst 0, 1) := by decide +kernel
theorem dX9_keep_9 : decode cX9_keep 9 = .ok (.istore_n 1, 1) := by decide +kernel
theorem dX9_keep_10 : decode cX9_keep 10 = .ok (.iload_n 1, 1) := by decide +kernel
theorem dX9_keep_11 : decode cX9_keep 11 = .ok (.sipush 620, 3) := by decide +kernel
theorem dX9_keep_14 : decode cX9_keep 14 = .ok (.if_icmp .ge 25, 3) := by decide +kernel
theorem dX9_keep_17 : decode cX9_keep 17 = .ok (.aload_n 0, 1) := by decide +kernel
theorem dX9_keep_18 : decode cX9_keep 18 = .ok (.getfield 13, 3) := by decide +kernel
theorem dX9_keep_21 : decode cX9_keep 21 = .ok (.iload_n 1, 1) := by decide +kernel
theorem dX9_keep_22 : decode cX9_keep 22 = .ok (.aload_n 0, 1) := by decide +kernel
theorem dX9_keep_23 : decode cX9_keep 23 = .ok (.getfield 13, 3) := by decide +kernel
theorem dX9_keep_26 : decode cX9_keep 26 = .ok (.iload_n 1, 1) := by decide +kernel
theorem dX9_keep_27 : decode cX9_keep 27 = .ok (.sipush 155, 3) := by decide +kernel
theorem dX9_keep_30 : decode cX9_keep 30 = .ok (.iadd, 1) := by decide +kernel
theorem dX9_keep_31 : decode cX9_keep 31 = .ok (.iaload, 1) := by decide +kernel
theorem dX9_keep_32 : decode cX9_keep 32 = .ok (.iastore, 1) := by decide +kernel
theorem dX9_keep_33 : decode cX9_keep 33 = .ok (.iinc 1 1, 3) := by decide +kernel
theorem dX9_keep_36 : decode cX9_keep 36 = .ok (.goto (-26), 3) := by decide +kernel
theorem dX9_keep_39 : decode cX9_keep 39 = .ok (.aload_n 0, 1) := by decide +kernel
theorem dX9_keep_40 : decode cX9_keep 40 = .ok (.dup, 1) := by decide +kernel
theorem dX9_keep_41 : decode cX9_keep 41 = .ok (.getfield 38, 3) := by decide +kernel
theorem dX9_keep_44 : decode cX9_keep 44 = .ok (.iconst 1, 1) := by decide +kernel
theorem dX9_keep_45 : decode cX9_keep 45 = .ok (.isub, 1) := by decide +kernel
theorem dX9_keep_46 : decode cX9_keep 46 = .ok (.putfield 38, 3) := by decide +kernel
theorem dX9_keep_49 : decode cX9_keep 49 = .ok (.iconst 0, 1) := by decide +kernel
theorem dX9_keep_50 : decode cX9_keep 50 = .ok (.istore_n 1, 1) := by decide +kernel
theorem dX9_keep_51 : decode cX9_keep 51 = .ok (.iload_n 1, 1) := by decide +kernel
theorem dX9_keep_52 : decode cX9_keep 52 = .ok (.sipush 155, 3) := by decide +kernel
theorem dX9_keep_55 : decode cX9_keep 55 = .ok (.if_icmp .ge 30, 3) := by decide +kernel
theorem dX9_keep_58 : decode cX9_keep 58 = .ok (.aload_n 0, 1) := by decide +kernel
theorem dX9_keep_59 : decode cX9_keep 59 = .ok (.getfield 13, 3) := by decide +kernel
theorem dX9_keep_62 : decode cX9_keep 62 = .ok (.sipush 155, 3) := by decide +kernel
theorem dX9_keep_65 : decode cX9_keep 65 = .ok (.aload_n 0, 1) := by decide +kernel
theorem dX9_keep_66 : decode cX9_keep 66 = .ok (.getfield 38, 3) := by decide +kernel
theorem dX9_keep_69 : decode cX9_keep 69 = .ok (.imul, 1) := by decide +kernel
theorem dX9_keep_70 : decode cX9_keep 70 = .ok (.iload_n 1, 1) := by decide +kernel
theorem dX9_keep_71 : decode cX9_keep 71 = .ok (.iadd, 1) := by decide +kernel
theorem dX9_keep_72 : decode cX9_keep 72 = .ok (.aload_n 0, 1) := by decide +kernel
theorem dX9_keep_73 : decode cX9_keep 73 = .ok (.getfield 7, 3) := by decide +kernel
theorem dX9_keep_76 : decode cX9_keep 76 = .ok (.iload_n 1, 1) := by decide +kernel
theorem dX9_keep_77 : decode cX9_keep 77 = .ok (.iaload, 1) := by decide +kernel
theorem dX9_keep_78 : decode cX9_keep 78 = .ok (.iastore, 1) := by decide +kernel
theorem dX9_keep_79 : decode cX9_keep 79 = .ok (.iinc 1 1, 3) := by decide +kernel
theorem dX9_keep_82 : decode cX9_keep 82 = .ok (.goto (-31), 3) := by decide +kernel
theorem dX9_keep_85 : decode cX9_keep 85 = .ok (.aload_n 0, 1) := by decide +kernel
theorem dX9_keep_86 : decode cX9_keep 86 = .ok (.dup, 1) := by decide +kernel
theorem dX9_keep_87 : decode cX9_keep 87 = .ok (.getfield 38, 3) := by decide +kernel
theorem dX9_keep_90 : decode cX9_keep 90 = .ok (.iconst 1, 1) := by decide +kernel
theorem dX9_keep_91 : decode cX9_keep 91 = .ok (.iadd, 1) := by decide +kernel
theorem dX9_keep_92 : decode cX9_keep 92 = .ok (.putfield 38, 3) := by decide +kernel
theorem dX9_keep_95 : decode cX9_keep 95 = .ok (.return_, 1) := by decide +kernel
theorem dX9_abs_0 : decode cX9_abs 0 = .ok (.iload_n 0, 1) := by decide +kernel
theorem dX9_abs_1 : decode cX9_abs 1 = .ok (.ifCond .ge 8, 3) := by decide +kernel
theorem dX9_abs_4 : decode cX9_abs 4 = .ok (.iload_n 0, 1) := by decide +kernel
theorem dX9_abs_5 : decode cX9_abs 5 = .ok (.ineg, 1) := by decide +kernel
theorem dX9_abs_6 : decode cX9_abs 6 = .ok (.goto 4, 3) := by decide +kernel
theorem dX9_abs_9 : decode cX9_abs 9 = .ok (.iload_n 0, 1) := by decide +kernel
theorem dX9_abs_10 : decode cX9_abs 10 = .ok (.ireturn, 1) := by decide +kernel
theorem dX9_many_0 : decode cX9_many 0 = .ok (.aload_n 0, 1) := by decide +kernel
theorem dX9_many_1 : decode cX9_many 1 = .ok (.getfield 7, 3) := by decide +kernel
theorem dX9_many_4 : decode cX9_many 4 = .ok (.bipush 7, 2) := by decide +kernel
theorem dX9_many_6 : decode cX9_many 6 = .ok (.iaload, 1) := by decide +kernel
theorem dX9_many_7 : decode cX9_many 7 = .ok (.ireturn, 1) := by decide +kernel
theorem dX9_isItem_0 : decode cX9_isItem 0 = .ok (.iload_n 1, 1) := by decide +kernel
theorem dX9_isItem_1 : decode cX9_isItem 1 = .ok (.i2l, 1) := by decide +kernel
theorem dX9_isItem_2 : decode cX9_isItem 2 = .ok (.lconst 0, 1) := by decide +kernel
theorem dX9_isItem_3 : decode cX9_isItem 3 = .ok (.aload_n 0, 1) := by decide +kernel
theorem dX9_isItem_4 : decode cX9_isItem 4 = .ok (.invokevirtual 42, 3) := by decide +kernel
theorem dX9_isItem_7 : decode cX9_isItem 7 = .ok (.iconst 1, 1) := by decide +kernel
theorem dX9_isItem_8 : decode cX9_isItem 8 = .ok (.isub, 1) := by decide +kernel
theorem dX9_isItem_9 : decode cX9_isItem 9 = .ok (.i2l, 1) := by decide +kernel
theorem dX9_isItem_10 : decode cX9_isItem 10 = .ok (.invokestatic 46, 3) := by decide +kernel
theorem dX9_isItem_13 : decode cX9_isItem 13 = .ok (.ireturn, 1) := by decide +kernel
theorem dX9_its_0 : decode cX9_its 0 = .ok (.aload_n 0, 1) := by decide +kernel
theorem dX9_its_1 : decode cX9_its 1 = .ok (.getfield 7, 3) := by decide +kernel
theorem dX9_its_4 : decode cX9_its 4 = .ok (.bipush 8, 2) := by decide +kernel
theorem dX9_its_6 : decode cX9_its 6 = .ok (.bipush 6, 2) := by decide +kernel
theorem dX9_its_8 : decode cX9_its 8 = .ok (.iload_n 1, 1) := by decide +kernel
theorem dX9_its_9 : decode cX9_its 9 = .ok (.imul, 1) := by decide +kernel
theorem dX9_its_10 : decode cX9_its 10 = .ok (.iadd, 1) := by decide +kernel
theorem dX9_its_11 : decode cX9_its 11 = .ok (.iload_n 2, 1) := by decide +kernel
theorem dX9_its_12 : decode cX9_its 12 = .ok (.iadd, 1) := by decide +kernel
theorem dX9_its_13 : decode cX9_its 13 = .ok (.iaload, 1) := by decide +kernel
theorem dX9_its_14 : decode cX9_its 14 = .ok (.ireturn, 1) := by decide +kernel
theorem dX9_puts_0 : decode cX9_puts 0 = .ok (.aload_n 0, 1) := by decide +kernel
theorem dX9_puts_1 : decode cX9_puts 1 = .ok (.getfield 7, 3) := by decide +kernel
theorem dX9_puts_4 : decode cX9_puts 4 = .ok (.bipush 8, 2) := by decide +kernel
theorem dX9_puts_6 : decode cX9_puts 6 = .ok (.bipush 6, 2) := by decide +kernel
theorem dX9_puts_8 : decode cX9_puts 8 = .ok (.iload_n 1, 1) := by decide +kernel
theorem dX9_puts_9 : decode cX9_puts 9 = .ok (.imul, 1) := by decide +kernel
theorem dX9_puts_10 : decode cX9_puts 10 = .ok (.iadd, 1) := by decide +kernel
theorem dX9_puts_11 : decode cX9_puts 11 = .ok (.iload_n 2, 1) := by decide +kernel
theorem dX9_puts_12 : decode cX9_puts 12 = .ok (.iadd, 1) := by decide +kernel
theorem dX9_puts_13 : decode cX9_puts 13 = .ok (.iload_n 3, 1) := by decide +kernel
theorem dX9_puts_14 : decode cX9_puts 14 = .ok (.iastore, 1) := by decide +kernel
theorem dX9_puts_15 : decode cX9_puts 15 = .ok (.return_, 1) := by decide +kernel
theorem dX9_lies_0 : decode cX9_lies 0 = .ok (.aload_n 0, 1) := by decide +kernel
theorem dX9_lies_1 : decode cX9_lies 1 = .ok (.iload_n 1, 1) := by decide +kernel
theorem dX9_lies_2 : decode cX9_lies 2 = .ok (.iconst 4, 1) := by decide +kernel
theorem dX9_lies_3 : decode cX9_lies 3 = .ok (.invokevirtual 50, 3) := by decide +kernel
theorem dX9_lies_6 : decode cX9_lies 6 = .ok (.iconst (-1), 1) := by decide +kernel
theorem dX9_lies_7 : decode cX9_lies 7 = .ok (.if_icmp .eq 7, 3) := by decide +kernel
theorem dX9_lies_10 : decode cX9_lies 10 = .ok (.iconst 1, 1) := by decide +kernel
theorem dX9_lies_11 : decode cX9_lies 11 = .ok (.goto 4, 3) := by decide +kernel
theorem dX9_lies_14 : decode cX9_lies 14 = .ok (.iconst 0, 1) := by decide +kernel
theorem dX9_lies_15 : decode cX9_lies 15 = .ok (.ireturn, 1) := by decide +kernel
theorem dX9_sideOf_0 : decode cX9_sideOf 0 = .ok (.aload_n 0, 1) := by decide +kernel
theorem dX9_sideOf_1 : decode cX9_sideOf 1 = .ok (.getfield 7, 3) := by decide +kernel
theorem dX9_sideOf_4 : decode cX9_sideOf 4 = .ok (.iconst 4, 1) := by decide +kernel
theorem dX9_sideOf_5 : decode cX9_sideOf 5 = .ok (.iaload, 1) := by decide +kernel
theorem dX9_sideOf_6 : decode cX9_sideOf 6 = .ok (.i2f, 1) := by decide +kernel
theorem dX9_sideOf_7 : decode cX9_sideOf 7 = .ok (.ldc 54, 2) := by decide +kernel
theorem dX9_sideOf_9 : decode cX9_sideOf 9 = .ok (.fdiv, 1) := by decide +kernel
theorem dX9_sideOf_10 : decode cX9_sideOf 10 = .ok (.fstore_n 2, 1) := by decide +kernel
theorem dX9_sideOf_11 : decode cX9_sideOf 11 = .ok (.aload_n 0, 1) := by decide +kernel
theorem dX9_sideOf_12 : decode cX9_sideOf 12 = .ok (.getfield 7, 3) := by decide +kernel
theorem dX9_sideOf_15 : decode cX9_sideOf 15 = .ok (.iconst 5, 1) := by decide +kernel
theorem dX9_sideOf_16 : decode cX9_sideOf 16 = .ok (.iaload, 1) := by decide +kernel
theorem dX9_sideOf_17 : decode cX9_sideOf 17 = .ok (.i2f, 1) := by decide +kernel
theorem dX9_sideOf_18 : decode cX9_sideOf 18 = .ok (.ldc 54, 2) := by decide +kernel
theorem dX9_sideOf_20 : decode cX9_sideOf 20 = .ok (.fdiv, 1) := by decide +kernel
theorem dX9_sideOf_21 : decode cX9_sideOf 21 = .ok (.fstore_n 3, 1) := by decide +kernel
theorem dX9_sideOf_22 : decode cX9_sideOf 22 = .ok (.iconst 1, 1) := by decide +kernel
theorem dX9_sideOf_23 : decode cX9_sideOf 23 = .ok (.istore 4, 2) := by decide +kernel
theorem dX9_sideOf_25 : decode cX9_sideOf 25 = .ok (.iload 4, 2) := by decide +kernel
theorem dX9_sideOf_27 : decode cX9_sideOf 27 = .ok (.iload_n 1, 1) := by decide +kernel
theorem dX9_sideOf_28 : decode cX9_sideOf 28 = .ok (.if_icmp .ge 13, 3) := by decide +kernel
theorem dX9_sideOf_31 : decode cX9_sideOf 31 = .ok (.fload_n 2, 1) := by decide +kernel
theorem dX9_sideOf_32 : decode cX9_sideOf 32 = .ok (.fload_n 3, 1) := by decide +kernel
theorem dX9_sideOf_33 : decode cX9_sideOf 33 = .ok (.fdiv, 1) := by decide +kernel
theorem dX9_sideOf_34 : decode cX9_sideOf 34 = .ok (.fstore_n 2, 1) := by decide +kernel
theorem dX9_sideOf_35 : decode cX9_sideOf 35 = .ok (.iinc 4 1, 3) := by decide +kernel
theorem dX9_sideOf_38 : decode cX9_sideOf 38 = .ok (.goto (-13), 3) := by decide +kernel
theorem dX9_sideOf_41 : decode cX9_sideOf 41 = .ok (.fload_n 2, 1) := by decide +kernel
theorem dX9_sideOf_42 : decode cX9_sideOf 42 = .ok (.freturn, 1) := by decide +kernel
theorem dX9_cut_0 : decode cX9_cut 0 = .ok (.fload_n 0, 1) := by decide +kernel
theorem dX9_cut_1 : decode cX9_cut 1 = .ok (.ldc 55, 2) := by decide +kernel
theorem dX9_cut_3 : decode cX9_cut 3 = .ok (.fadd, 1) := by decide +kernel
theorem dX9_cut_4 : decode cX9_cut 4 = .ok (.f2i, 1) := by decide +kernel
theorem dX9_cut_5 : decode cX9_cut 5 = .ok (.istore_n 1, 1) := by decide +kernel
theorem dX9_cut_6 : decode cX9_cut 6 = .ok (.iload_n 1, 1) := by decide +kernel
theorem dX9_cut_7 : decode cX9_cut 7 = .ok (.iconst 1, 1) := by decide +kernel
theorem dX9_cut_8 : decode cX9_cut 8 = .ok (.if_icmp .ge 7, 3) := by decide +kernel
theorem dX9_cut_11 : decode cX9_cut 11 = .ok (.iconst 1, 1) := by decide +kernel
theorem dX9_cut_12 : decode cX9_cut 12 = .ok (.goto 4, 3) := by decide +kernel
theorem dX9_cut_15 : decode cX9_cut 15 = .ok (.iload_n 1, 1) := by decide +kernel
theorem dX9_cut_16 : decode cX9_cut 16 = .ok (.ireturn, 1) := by decide +kernel
theorem dX9_high_0 : decode cX9_high 0 = .ok (.aload_n 0, 1) := by decide +kernel
theorem dX9_high_1 : decode cX9_high 1 = .ok (.aload_n 0, 1) := by decide +kernel
theorem dX9_high_2 : decode cX9_high 2 = .ok (.iload_n 1, 1) := by decide +kernel
theorem dX9_high_3 : decode cX9_high 3 = .ok (.iconst 1, 1) := by decide +kernel
theorem dX9_high_4 : decode cX9_high 4 = .ok (.invokevirtual 50, 3) := by decide +kernel
theorem dX9_high_7 : decode cX9_high 7 = .ok (.invokevirtual 56, 3) := by decide +kernel
theorem dX9_high_10 : decode cX9_high 10 = .ok (.invokestatic 60, 3) := by decide +kernel
theorem dX9_high_13 : decode cX9_high 13 = .ok (.ireturn, 1) := by decide +kernel
theorem dX9_wide_0 : decode cX9_wide 0 = .ok (.aload_n 0, 1) := by decide +kernel
theorem dX9_wide_1 : decode cX9_wide 1 = .ok (.aload_n 0, 1) := by decide +kernel
theorem dX9_wide_2 : decode cX9_wide 2 = .ok (.iload_n 1, 1) := by decide +kernel
theorem dX9_wide_3 : decode cX9_wide 3 = .ok (.iconst 1, 1) := by decide +kernel
theorem dX9_wide_4 : decode cX9_wide 4 = .ok (.invokevirtual 50, 3) := by decide +kernel
theorem dX9_wide_7 : decode cX9_wide 7 = .ok (.invokevirtual 56, 3) := by decide +kernel
theorem dX9_wide_10 : decode cX9_wide 10 = .ok (.aload_n 0, 1) := by decide +kernel
theorem dX9_wide_11 : decode cX9_wide 11 = .ok (.iload_n 1, 1) := by decide +kernel
theorem dX9_wide_12 : decode cX9_wide 12 = .ok (.iconst 2, 1) := by decide +kernel
theorem dX9_wide_13 : decode cX9_wide 13 = .ok (.invokevirtual 50, 3) := by decide +kernel
theorem dX9_wide_16 : decode cX9_wide 16 = .ok (.i2f, 1) := by decide +kernel
theorem dX9_wide_17 : decode cX9_wide 17 = .ok (.fmul, 1) := by decide +kernel
theorem dX9_wide_18 : decode cX9_wide 18 = .ok (.fstore_n 2, 1) := by decide +kernel
theorem dX9_wide_19 : decode cX9_wide 19 = .ok (.aload_n 0, 1) := by decide +kernel
theorem dX9_wide_20 : decode cX9_wide 20 = .ok (.iload_n 1, 1) := by decide +kernel
theorem dX9_wide_21 : decode cX9_wide 21 = .ok (.iconst 0, 1) := by decide +kernel
theorem dX9_wide_22 : decode cX9_wide 22 = .ok (.invokevirtual 50, 3) := by decide +kernel
theorem dX9_wide_25 : decode cX9_wide 25 = .ok (.iconst 1, 1) := by decide +kernel
theorem dX9_wide_26 : decode cX9_wide 26 = .ok (.if_icmp .ne 13, 3) := by decide +kernel
theorem dX9_wide_29 : decode cX9_wide 29 = .ok (.fload_n 2, 1) := by decide +kernel
theorem dX9_wide_30 : decode cX9_wide 30 = .ok (.aload_n 0, 1) := by decide +kernel
theorem dX9_wide_31 : decode cX9_wide 31 = .ok (.iload_n 1, 1) := by decide +kernel
theorem dX9_wide_32 : decode cX9_wide 32 = .ok (.iconst 3, 1) := by decide +kernel
theorem dX9_wide_33 : decode cX9_wide 33 = .ok (.invokevirtual 50, 3) := by decide +kernel
theorem dX9_wide_36 : decode cX9_wide 36 = .ok (.i2f, 1) := by decide +kernel
theorem dX9_wide_37 : decode cX9_wide 37 = .ok (.fdiv, 1) := by decide +kernel
theorem dX9_wide_38 : decode cX9_wide 38 = .ok (.fstore_n 2, 1) := by decide +kernel
theorem dX9_wide_39 : decode cX9_wide 39 = .ok (.fload_n 2, 1) := by decide +kernel
theorem dX9_wide_40 : decode cX9_wide 40 = .ok (.invokestatic 60, 3) := by decide +kernel
theorem dX9_wide_43 : decode cX9_wide 43 = .ok (.ireturn, 1) := by decide +kernel
theorem dX9_weight_0 : decode cX9_weight 0 = .ok (.aload_n 0, 1) := by decide +kernel
theorem dX9_weight_1 : decode cX9_weight 1 = .ok (.iload_n 1, 1) := by decide +kernel
theorem dX9_weight_2 : decode cX9_weight 2 = .ok (.invokevirtual 64, 3) := by decide +kernel
theorem dX9_weight_5 : decode cX9_weight 5 = .ok (.aload_n 0, 1) := by decide +kernel
theorem dX9_weight_6 : decode cX9_weight 6 = .ok (.iload_n 1, 1) := by decide +kernel
theorem dX9_weight_7 : decode cX9_weight 7 = .ok (.invokevirtual 68, 3) := by decide +kernel
theorem dX9_weight_10 : decode cX9_weight 10 = .ok (.imul, 1) := by decide +kernel
theorem dX9_weight_11 : decode cX9_weight 11 = .ok (.bipush 7, 2) := by decide +kernel
theorem dX9_weight_13 : decode cX9_weight 13 = .ok (.aload_n 0, 1) := by decide +kernel
theorem dX9_weight_14 : decode cX9_weight 14 = .ok (.iload_n 1, 1) := by decide +kernel
theorem dX9_weight_15 : decode cX9_weight 15 = .ok (.iconst 1, 1) := by decide +kernel
theorem dX9_weight_16 : decode cX9_weight 16 = .ok (.invokevirtual 50, 3) := by decide +kernel
theorem dX9_weight_19 : decode cX9_weight 19 = .ok (.isub, 1) := by decide +kernel
theorem dX9_weight_20 : decode cX9_weight 20 = .ok (.imul, 1) := by decide +kernel
theorem dX9_weight_21 : decode cX9_weight 21 = .ok (.ireturn, 1) := by decide +kernel
theorem dX9_lineAt_0 : decode cX9_lineAt 0 = .ok (.iload_n 1, 1) := by decide +kernel
theorem dX9_lineAt_1 : decode cX9_lineAt 1 = .ok (.aload_n 0, 1) := by decide +kernel
theorem dX9_lineAt_2 : decode cX9_lineAt 2 = .ok (.getfield 7, 3) := by decide +kernel
theorem dX9_lineAt_5 : decode cX9_lineAt 5 = .ok (.iconst 0, 1) := by decide +kernel
theorem dX9_lineAt_6 : decode cX9_lineAt 6 = .ok (.iaload, 1) := by decide +kernel
theorem dX9_lineAt_7 : decode cX9_lineAt 7 = .ok (.iconst 2, 1) := by decide +kernel
theorem dX9_lineAt_8 : decode cX9_lineAt 8 = .ok (.aload_n 0, 1) := by decide +kernel
theorem dX9_lineAt_9 : decode cX9_lineAt 9 = .ok (.getfield 7, 3) := by decide +kernel
theorem dX9_lineAt_12 : decode cX9_lineAt 12 = .ok (.iconst 2, 1) := by decide +kernel
theorem dX9_lineAt_13 : decode cX9_lineAt 13 = .ok (.iaload, 1) := by decide +kernel
theorem dX9_lineAt_14 : decode cX9_lineAt 14 = .ok (.imul, 1) := by decide +kernel
theorem dX9_lineAt_15 : decode cX9_lineAt 15 = .ok (.isub, 1) := by decide +kernel
theorem dX9_lineAt_16 : decode cX9_lineAt 16 = .ok (.imul, 1) := by decide +kernel
theorem dX9_lineAt_17 : decode cX9_lineAt 17 = .ok (.i2f, 1) := by decide +kernel
theorem dX9_lineAt_18 : decode cX9_lineAt 18 = .ok (.aload_n 0, 1) := by decide +kernel
theorem dX9_lineAt_19 : decode cX9_lineAt 19 = .ok (.getfield 7, 3) := by decide +kernel
theorem dX9_lineAt_22 : decode cX9_lineAt 22 = .ok (.bipush 6, 2) := by decide +kernel
theorem dX9_lineAt_24 : decode cX9_lineAt 24 = .ok (.iaload, 1) := by decide +kernel
theorem dX9_lineAt_25 : decode cX9_lineAt 25 = .ok (.i2f, 1) := by decide +kernel
theorem dX9_lineAt_26 : decode cX9_lineAt 26 = .ok (.fdiv, 1) := by decide +kernel
theorem dX9_lineAt_27 : decode cX9_lineAt 27 = .ok (.fstore_n 2, 1) := by decide +kernel
theorem dX9_lineAt_28 : decode cX9_lineAt 28 = .ok (.aload_n 0, 1) := by decide +kernel
theorem dX9_lineAt_29 : decode cX9_lineAt 29 = .ok (.getfield 7, 3) := by decide +kernel
theorem dX9_lineAt_32 : decode cX9_lineAt 32 = .ok (.iconst 2, 1) := by decide +kernel
theorem dX9_lineAt_33 : decode cX9_lineAt 33 = .ok (.iaload, 1) := by decide +kernel
theorem dX9_lineAt_34 : decode cX9_lineAt 34 = .ok (.fload_n 2, 1) := by decide +kernel
theorem dX9_lineAt_35 : decode cX9_lineAt 35 = .ok (.f2i, 1) := by decide +kernel
theorem dX9_lineAt_36 : decode cX9_lineAt 36 = .ok (.iadd, 1) := by decide +kernel
theorem dX9_lineAt_37 : decode cX9_lineAt 37 = .ok (.ireturn, 1) := by decide +kernel
theorem dX9_isLine_0 : decode cX9_isLine 0 = .ok (.aload_n 0, 1) := by decide +kernel
theorem dX9_isLine_1 : decode cX9_isLine 1 = .ok (.getfield 7, 3) := by decide +kernel
theorem dX9_isLine_4 : decode cX9_isLine 4 = .ok (.bipush 6, 2) := by decide +kernel
theorem dX9_isLine_6 : decode cX9_isLine 6 = .ok (.iaload, 1) := by decide +kernel
theorem dX9_isLine_7 : decode cX9_isLine 7 = .ok (.ifCond .ne 7, 3) := by decide +kernel
theorem dX9_isLine_10 : decode cX9_isLine 10 = .ok (.iconst 1, 1) := by decide +kernel
theorem dX9_isLine_11 : decode cX9_isLine 11 = .ok (.goto 4, 3) := by decide +kernel
theorem dX9_isLine_14 : decode cX9_isLine 14 = .ok (.iconst 0, 1) := by decide +kernel
theorem dX9_isLine_15 : decode cX9_isLine 15 = .ok (.istore_n 2, 1) := by decide +kernel
theorem dX9_isLine_16 : decode cX9_isLine 16 = .ok (.iconst 0, 1) := by decide +kernel
theorem dX9_isLine_17 : decode cX9_isLine 17 = .ok (.istore_n 3, 1) := by decide +kernel
theorem dX9_isLine_18 : decode cX9_isLine 18 = .ok (.iload_n 3, 1) := by decide +kernel
theorem dX9_isLine_19 : decode cX9_isLine 19 = .ok (.aload_n 0, 1) := by decide +kernel
theorem dX9_isLine_20 : decode cX9_isLine 20 = .ok (.getfield 7, 3) := by decide +kernel
theorem dX9_isLine_23 : decode cX9_isLine 23 = .ok (.bipush 6, 2) := by decide +kernel
theorem dX9_isLine_25 : decode cX9_isLine 25 = .ok (.iaload, 1) := by decide +kernel
theorem dX9_isLine_26 : decode cX9_isLine 26 = .ok (.if_icmp .ge 28, 3) := by decide +kernel
theorem dX9_isLine_29 : decode cX9_isLine 29 = .ok (.iload_n 2, 1) := by decide +kernel
theorem dX9_isLine_30 : decode cX9_isLine 30 = .ok (.ifCond .ne 12, 3) := by decide +kernel
theorem dX9_isLine_33 : decode cX9_isLine 33 = .ok (.aload_n 0, 1) := by decide +kernel
theorem dX9_isLine_34 : decode cX9_isLine 34 = .ok (.iload_n 3, 1) := by decide +kernel
theorem dX9_isLine_35 : decode cX9_isLine 35 = .ok (.invokevirtual 71, 3) := by decide +kernel
theorem dX9_isLine_38 : decode cX9_isLine 38 = .ok (.iload_n 1, 1) := by decide +kernel
theorem dX9_isLine_39 : decode cX9_isLine 39 = .ok (.if_icmp .ne 7, 3) := by decide +kernel
theorem dX9_isLine_42 : decode cX9_isLine 42 = .ok (.iconst 1, 1) := by decide +kernel
theorem dX9_isLine_43 : decode cX9_isLine 43 = .ok (.goto 4, 3) := by decide +kernel
theorem dX9_isLine_46 : decode cX9_isLine 46 = .ok (.iconst 0, 1) := by decide +kernel
theorem dX9_isLine_47 : decode cX9_isLine 47 = .ok (.istore_n 2, 1) := by decide +kernel
theorem dX9_isLine_48 : decode cX9_isLine 48 = .ok (.iinc 3 1, 3) := by decide +kernel
theorem dX9_isLine_51 : decode cX9_isLine 51 = .ok (.goto (-33), 3) := by decide +kernel
theorem dX9_isLine_54 : decode cX9_isLine 54 = .ok (.iload_n 2, 1) := by decide +kernel
theorem dX9_isLine_55 : decode cX9_isLine 55 = .ok (.ireturn, 1) := by decide +kernel
theorem dX9_isWithin_0 : decode cX9_isWithin 0 = .ok (.aload_n 0, 1) := by decide +kernel
theorem dX9_isWithin_1 : decode cX9_isWithin 1 = .ok (.getfield 7, 3) := by decide +kernel
theorem dX9_isWithin_4 : decode cX9_isWithin 4 = .ok (.iconst 2, 1) := by decide +kernel
theorem dX9_isWithin_5 : decode cX9_isWithin 5 = .ok (.iaload, 1) := by decide +kernel
theorem dX9_isWithin_6 : decode cX9_isWithin 6 = .ok (.istore 4, 2) := by decide +kernel
theorem dX9_isWithin_8 : decode cX9_isWithin 8 = .ok (.iload_n 2, 1) := by decide +kernel
theorem dX9_isWithin_9 : decode cX9_isWithin 9 = .ok (.iload 4, 2) := by decide +kernel
theorem dX9_isWithin_11 : decode cX9_isWithin 11 = .ok (.if_icmp .lt 59, 3) := by decide +kernel
theorem dX9_isWithin_14 : decode cX9_isWithin 14 = .ok (.iload_n 3, 1) := by decide +kernel
theorem dX9_isWithin_15 : decode cX9_isWithin 15 = .ok (.iload 4, 2) := by decide +kernel
theorem dX9_isWithin_17 : decode cX9_isWithin 17 = .ok (.if_icmp .lt 53, 3) := by decide +kernel
theorem dX9_isWithin_20 : decode cX9_isWithin 20 = .ok (.iload_n 2, 1) := by decide +kernel
theorem dX9_isWithin_21 : decode cX9_isWithin 21 = .ok (.aload_n 0, 1) := by decide +kernel
theorem dX9_isWithin_22 : decode cX9_isWithin 22 = .ok (.iload_n 1, 1) := by decide +kernel
theorem dX9_isWithin_23 : decode cX9_isWithin 23 = .ok (.invokevirtual 64, 3) := by decide +kernel
theorem dX9_isWithin_26 : decode cX9_isWithin 26 = .ok (.iadd, 1) := by decide +kernel
theorem dX9_isWithin_27 : decode cX9_isWithin 27 = .ok (.aload_n 0, 1) := by decide +kernel
theorem dX9_isWithin_28 : decode cX9_isWithin 28 = .ok (.getfield 7, 3) := by decide +kernel
theorem dX9_isWithin_31 : decode cX9_isWithin 31 = .ok (.iconst 0, 1) := by decide +kernel
theorem dX9_isWithin_32 : decode cX9_isWithin 32 = .ok (.iaload, 1) := by decide +kernel
theorem dX9_isWithin_33 : decode cX9_isWithin 33 = .ok (.iload 4, 2) := by decide +kernel
theorem dX9_isWithin_35 : decode cX9_isWithin 35 = .ok (.isub, 1) := by decide +kernel
theorem dX9_isWithin_36 : decode cX9_isWithin 36 = .ok (.if_icmp .gt 34, 3) := by decide +kernel
theorem dX9_isWithin_39 : decode cX9_isWithin 39 = .ok (.iload_n 3, 1) := by decide +kernel
theorem dX9_isWithin_40 : decode cX9_isWithin 40 = .ok (.aload_n 0, 1) := by decide +kernel
theorem dX9_isWithin_41 : decode cX9_isWithin 41 = .ok (.iload_n 1, 1) := by decide +kernel
theorem dX9_isWithin_42 : decode cX9_isWithin 42 = .ok (.invokevirtual 68, 3) := by decide +kernel
theorem dX9_isWithin_45 : decode cX9_isWithin 45 = .ok (.iadd, 1) := by decide +kernel
theorem dX9_isWithin_46 : decode cX9_isWithin 46 = .ok (.aload_n 0, 1) := by decide +kernel
theorem dX9_isWithin_47 : decode cX9_isWithin 47 = .ok (.getfield 7, 3) := by decide +kernel
theorem dX9_isWithin_50 : decode cX9_isWithin 50 = .ok (.iconst 1, 1) := by decide +kernel
theorem dX9_isWithin_51 : decode cX9_isWithin 51 = .ok (.iaload, 1) := by decide +kernel
theorem dX9_isWithin_52 : decode cX9_isWithin 52 = .ok (.iload 4, 2) := by decide +kernel
theorem dX9_isWithin_54 : decode cX9_isWithin 54 = .ok (.isub, 1) := by decide +kernel
theorem dX9_isWithin_55 : decode cX9_isWithin 55 = .ok (.if_icmp .gt 15, 3) := by decide +kernel
theorem dX9_isWithin_58 : decode cX9_isWithin 58 = .ok (.aload_n 0, 1) := by decide +kernel
theorem dX9_isWithin_59 : decode cX9_isWithin 59 = .ok (.iload_n 2, 1) := by decide +kernel
theorem dX9_isWithin_60 : decode cX9_isWithin 60 = .ok (.invokevirtual 74, 3) := by decide +kernel
theorem dX9_isWithin_63 : decode cX9_isWithin 63 = .ok (.ifCond .eq 7, 3) := by decide +kernel
theorem dX9_isWithin_66 : decode cX9_isWithin 66 = .ok (.iconst 1, 1) := by decide +kernel
theorem dX9_isWithin_67 : decode cX9_isWithin 67 = .ok (.goto 4, 3) := by decide +kernel
theorem dX9_isWithin_70 : decode cX9_isWithin 70 = .ok (.iconst 0, 1) := by decide +kernel
theorem dX9_isWithin_71 : decode cX9_isWithin 71 = .ok (.ireturn, 1) := by decide +kernel
theorem dX9_isApart_0 : decode cX9_isApart 0 = .ok (.aload_n 0, 1) := by decide +kernel
theorem dX9_isApart_1 : decode cX9_isApart 1 = .ok (.getfield 7, 3) := by decide +kernel
theorem dX9_isApart_4 : decode cX9_isApart 4 = .ok (.iconst 3, 1) := by decide +kernel
theorem dX9_isApart_5 : decode cX9_isApart 5 = .ok (.iaload, 1) := by decide +kernel
theorem dX9_isApart_6 : decode cX9_isApart 6 = .ok (.istore 5, 2) := by decide +kernel
theorem dX9_isApart_8 : decode cX9_isApart 8 = .ok (.aload_n 0, 1) := by decide +kernel
theorem dX9_isApart_9 : decode cX9_isApart 9 = .ok (.iload 4, 2) := by decide +kernel
theorem dX9_isApart_11 : decode cX9_isApart 11 = .ok (.iconst 4, 1) := by decide +kernel
theorem dX9_isApart_12 : decode cX9_isApart 12 = .ok (.invokevirtual 50, 3) := by decide +kernel
theorem dX9_isApart_15 : decode cX9_isApart 15 = .ok (.istore 6, 2) := by decide +kernel
theorem dX9_isApart_17 : decode cX9_isApart 17 = .ok (.aload_n 0, 1) := by decide +kernel
theorem dX9_isApart_18 : decode cX9_isApart 18 = .ok (.iload 4, 2) := by decide +kernel
theorem dX9_isApart_20 : decode cX9_isApart 20 = .ok (.iconst 5, 1) := by decide +kernel
theorem dX9_isApart_21 : decode cX9_isApart 21 = .ok (.invokevirtual 50, 3) := by decide +kernel
theorem dX9_isApart_24 : decode cX9_isApart 24 = .ok (.istore 7, 2) := by decide +kernel
theorem dX9_isApart_26 : decode cX9_isApart 26 = .ok (.iload_n 2, 1) := by decide +kernel
theorem dX9_isApart_27 : decode cX9_isApart 27 = .ok (.aload_n 0, 1) := by decide +kernel
theorem dX9_isApart_28 : decode cX9_isApart 28 = .ok (.iload_n 1, 1) := by decide +kernel
theorem dX9_isApart_29 : decode cX9_isApart 29 = .ok (.invokevirtual 64, 3) := by decide +kernel
theorem dX9_isApart_32 : decode cX9_isApart 32 = .ok (.iadd, 1) := by decide +kernel
theorem dX9_isApart_33 : decode cX9_isApart 33 = .ok (.iload 5, 2) := by decide +kernel
theorem dX9_isApart_35 : decode cX9_isApart 35 = .ok (.iadd, 1) := by decide +kernel
theorem dX9_isApart_36 : decode cX9_isApart 36 = .ok (.iload 6, 2) := by decide +kernel
theorem dX9_isApart_38 : decode cX9_isApart 38 = .ok (.if_icmp .le 50, 3) := by decide +kernel
theorem dX9_isApart_41 : decode cX9_isApart 41 = .ok (.iload 6, 2) := by decide +kernel
theorem dX9_isApart_43 : decode cX9_isApart 43 = .ok (.aload_n 0, 1) := by decide +kernel
theorem dX9_isApart_44 : decode cX9_isApart 44 = .ok (.iload 4, 2) := by decide +kernel
theorem dX9_isApart_46 : decode cX9_isApart 46 = .ok (.invokevirtual 64, 3) := by decide +kernel
theorem dX9_isApart_49 : decode cX9_isApart 49 = .ok (.iadd, 1) := by decide +kernel
theorem dX9_isApart_50 : decode cX9_isApart 50 = .ok (.iload 5, 2) := by decide +kernel
theorem dX9_isApart_52 : decode cX9_isApart 52 = .ok (.iadd, 1) := by decide +kernel
theorem dX9_isApart_53 : decode cX9_isApart 53 = .ok (.iload_n 2, 1) := by decide +kernel
theorem dX9_isApart_54 : decode cX9_isApart 54 = .ok (.if_icmp .le 34, 3) := by decide +kernel
theorem dX9_isApart_57 : decode cX9_isApart 57 = .ok (.iload_n 3, 1) := by decide +kernel
theorem dX9_isApart_58 : decode cX9_isApart 58 = .ok (.aload_n 0, 1) := by decide +kernel
theorem dX9_isApart_59 : decode cX9_isApart 59 = .ok (.iload_n 1, 1) := by decide +kernel
theorem dX9_isApart_60 : decode cX9_isApart 60 = .ok (.invokevirtual 68, 3) := by decide +kernel
theorem dX9_isApart_63 : decode cX9_isApart 63 = .ok (.iadd, 1) := by decide +kernel
theorem dX9_isApart_64 : decode cX9_isApart 64 = .ok (.iload 5, 2) := by decide +kernel
theorem dX9_isApart_66 : decode cX9_isApart 66 = .ok (.iadd, 1) := by decide +kernel
theorem dX9_isApart_67 : decode cX9_isApart 67 = .ok (.iload 7, 2) := by decide +kernel
theorem dX9_isApart_69 : decode cX9_isApart 69 = .ok (.if_icmp .le 19, 3) := by decide +kernel
theorem dX9_isApart_72 : decode cX9_isApart 72 = .ok (.iload 7, 2) := by decide +kernel
theorem dX9_isApart_74 : decode cX9_isApart 74 = .ok (.aload_n 0, 1) := by decide +kernel
theorem dX9_isApart_75 : decode cX9_isApart 75 = .ok (.iload 4, 2) := by decide +kernel
theorem dX9_isApart_77 : decode cX9_isApart 77 = .ok (.invokevirtual 68, 3) := by decide +kernel
theorem dX9_isApart_80 : decode cX9_isApart 80 = .ok (.iadd, 1) := by decide +kernel
theorem dX9_isApart_81 : decode cX9_isApart 81 = .ok (.iload 5, 2) := by decide +kernel
theorem dX9_isApart_83 : decode cX9_isApart 83 = .ok (.iadd, 1) := by decide +kernel
theorem dX9_isApart_84 : decode cX9_isApart 84 = .ok (.iload_n 3, 1) := by decide +kernel
theorem dX9_isApart_85 : decode cX9_isApart 85 = .ok (.if_icmp .gt 7, 3) := by decide +kernel
theorem dX9_isApart_88 : decode cX9_isApart 88 = .ok (.iconst 1, 1) := by decide +kernel
theorem dX9_isApart_89 : decode cX9_isApart 89 = .ok (.goto 4, 3) := by decide +kernel
theorem dX9_isApart_92 : decode cX9_isApart 92 = .ok (.iconst 0, 1) := by decide +kernel
theorem dX9_isApart_93 : decode cX9_isApart 93 = .ok (.ireturn, 1) := by decide +kernel
theorem dX9_isFit_0 : decode cX9_isFit 0 = .ok (.aload_n 0, 1) := by decide +kernel
theorem dX9_isFit_1 : decode cX9_isFit 1 = .ok (.iload_n 1, 1) := by decide +kernel
theorem dX9_isFit_2 : decode cX9_isFit 2 = .ok (.iload_n 2, 1) := by decide +kernel
theorem dX9_isFit_3 : decode cX9_isFit 3 = .ok (.iload_n 3, 1) := by decide +kernel
theorem dX9_isFit_4 : decode cX9_isFit 4 = .ok (.invokevirtual 78, 3) := by decide +kernel
theorem dX9_isFit_7 : decode cX9_isFit 7 = .ok (.istore 4, 2) := by decide +kernel
theorem dX9_isFit_9 : decode cX9_isFit 9 = .ok (.iconst 0, 1) := by decide +kernel
theorem dX9_isFit_10 : decode cX9_isFit 10 = .ok (.istore 5, 2) := by decide +kernel
theorem dX9_isFit_12 : decode cX9_isFit 12 = .ok (.iload 5, 2) := by decide +kernel
theorem dX9_isFit_14 : decode cX9_isFit 14 = .ok (.aload_n 0, 1) := by decide +kernel
theorem dX9_isFit_15 : decode cX9_isFit 15 = .ok (.invokevirtual 42, 3) := by decide +kernel
theorem dX9_isFit_18 : decode cX9_isFit 18 = .ok (.if_icmp .ge 48, 3) := by decide +kernel
theorem dX9_isFit_21 : decode cX9_isFit 21 = .ok (.iload 4, 2) := by decide +kernel
theorem dX9_isFit_23 : decode cX9_isFit 23 = .ok (.ifCond .eq 43, 3) := by decide +kernel
theorem dX9_isFit_26 : decode cX9_isFit 26 = .ok (.iload 5, 2) := by decide +kernel
theorem dX9_isFit_28 : decode cX9_isFit 28 = .ok (.iload_n 1, 1) := by decide +kernel
theorem dX9_isFit_29 : decode cX9_isFit 29 = .ok (.if_icmp .eq 24, 3) := by decide +kernel
theorem dX9_isFit_32 : decode cX9_isFit 32 = .ok (.aload_n 0, 1) := by decide +kernel
theorem dX9_isFit_33 : decode cX9_isFit 33 = .ok (.iload 5, 2) := by decide +kernel
theorem dX9_isFit_35 : decode cX9_isFit 35 = .ok (.invokevirtual 82, 3) := by decide +kernel
theorem dX9_isFit_38 : decode cX9_isFit 38 = .ok (.ifCond .eq 15, 3) := by decide +kernel
theorem dX9_isFit_41 : decode cX9_isFit 41 = .ok (.aload_n 0, 1) := by decide +kernel
theorem dX9_isFit_42 : decode cX9_isFit 42 = .ok (.iload_n 1, 1) := by decide +kernel
theorem dX9_isFit_43 : decode cX9_isFit 43 = .ok (.iload_n 2, 1) := by decide +kernel
theorem dX9_isFit_44 : decode cX9_isFit 44 = .ok (.iload_n 3, 1) := by decide +kernel
theorem dX9_isFit_45 : decode cX9_isFit 45 = .ok (.iload 5, 2) := by decide +kernel
theorem dX9_isFit_47 : decode cX9_isFit 47 = .ok (.invokevirtual 85, 3) := by decide +kernel
theorem dX9_isFit_50 : decode cX9_isFit 50 = .ok (.ifCond .eq 7, 3) := by decide +kernel
theorem dX9_isFit_53 : decode cX9_isFit 53 = .ok (.iconst 1, 1) := by decide +kernel
theorem dX9_isFit_54 : decode cX9_isFit 54 = .ok (.goto 4, 3) := by decide +kernel
theorem dX9_isFit_57 : decode cX9_isFit 57 = .ok (.iconst 0, 1) := by decide +kernel
theorem dX9_isFit_58 : decode cX9_isFit 58 = .ok (.istore 4, 2) := by decide +kernel
theorem dX9_isFit_60 : decode cX9_isFit 60 = .ok (.iinc 5 1, 3) := by decide +kernel
theorem dX9_isFit_63 : decode cX9_isFit 63 = .ok (.goto (-51), 3) := by decide +kernel
theorem dX9_isFit_66 : decode cX9_isFit 66 = .ok (.iload 4, 2) := by decide +kernel
theorem dX9_isFit_68 : decode cX9_isFit 68 = .ok (.ireturn, 1) := by decide +kernel
theorem dX9_isFitThere_0 : decode cX9_isFitThere 0 = .ok (.aload_n 0, 1) := by decide +kernel
theorem dX9_isFitThere_1 : decode cX9_isFitThere 1 = .ok (.iload_n 1, 1) := by decide +kernel
theorem dX9_isFitThere_2 : decode cX9_isFitThere 2 = .ok (.invokevirtual 82, 3) := by decide +kernel
theorem dX9_isFitThere_5 : decode cX9_isFitThere 5 = .ok (.ifCond .eq 27, 3) := by decide +kernel
theorem dX9_isFitThere_8 : decode cX9_isFitThere 8 = .ok (.aload_n 0, 1) := by decide +kernel
theorem dX9_isFitThere_9 : decode cX9_isFitThere 9 = .ok (.iload_n 1, 1) := by decide +kernel
theorem dX9_isFitThere_10 : decode cX9_isFitThere 10 = .ok (.aload_n 0, 1) := by decide +kernel
theorem dX9_isFitThere_11 : decode cX9_isFitThere 11 = .ok (.iload_n 1, 1) := by decide +kernel
theorem dX9_isFitThere_12 : decode cX9_isFitThere 12 = .ok (.iconst 4, 1) := by decide +kernel
theorem dX9_isFitThere_13 : decode cX9_isFitThere 13 = .ok (.invokevirtual 50, 3) := by decide +kernel
theorem dX9_isFitThere_16 : decode cX9_isFitThere 16 = .ok (.aload_n 0, 1) := by decide +kernel
theorem dX9_isFitThere_17 : decode cX9_isFitThere 17 = .ok (.iload_n 1, 1) := by decide +kernel
theorem dX9_isFitThere_18 : decode cX9_isFitThere 18 = .ok (.iconst 5, 1) := by decide +kernel
theorem dX9_isFitThere_19 : decode cX9_isFitThere 19 = .ok (.invokevirtual 50, 3) := by decide +kernel
theorem dX9_isFitThere_22 : decode cX9_isFitThere 22 = .ok (.invokevirtual 89, 3) := by decide +kernel
theorem dX9_isFitThere_25 : decode cX9_isFitThere 25 = .ok (.ifCond .eq 7, 3) := by decide +kernel
theorem dX9_isFitThere_28 : decode cX9_isFitThere 28 = .ok (.iconst 1, 1) := by decide +kernel
theorem dX9_isFitThere_29 : decode cX9_isFitThere 29 = .ok (.goto 4, 3) := by decide +kernel
theorem dX9_isFitThere_32 : decode cX9_isFitThere 32 = .ok (.iconst 0, 1) := by decide +kernel
theorem dX9_isFitThere_33 : decode cX9_isFitThere 33 = .ok (.ireturn, 1) := by decide +kernel
theorem dX9_isPlace_0 : decode cX9_isPlace 0 = .ok (.iload_n 0, 1) := by decide +kernel
theorem dX9_isPlace_1 : decode cX9_isPlace 1 = .ok (.i2l, 1) := by decide +kernel
theorem dX9_isPlace_2 : decode cX9_isPlace 2 = .ok (.lconst 0, 1) := by decide +kernel
theorem dX9_isPlace_3 : decode cX9_isPlace 3 = .ok (.ldc2_w 92, 3) := by decide +kernel
theorem dX9_isPlace_6 : decode cX9_isPlace 6 = .ok (.invokestatic 46, 3) := by decide +kernel
theorem dX9_isPlace_9 : decode cX9_isPlace 9 = .ok (.ifCond .eq 19, 3) := by decide +kernel
theorem dX9_isPlace_12 : decode cX9_isPlace 12 = .ok (.iload_n 1, 1) := by decide +kernel
theorem dX9_isPlace_13 : decode cX9_isPlace 13 = .ok (.i2l, 1) := by decide +kernel
theorem dX9_isPlace_14 : decode cX9_isPlace 14 = .ok (.lconst 0, 1) := by decide +kernel
theorem dX9_isPlace_15 : decode cX9_isPlace 15 = .ok (.ldc2_w 92, 3) := by decide +kernel
theorem dX9_isPlace_18 : decode cX9_isPlace 18 = .ok (.invokestatic 46, 3) := by decide +kernel
theorem dX9_isPlace_21 : decode cX9_isPlace 21 = .ok (.ifCond .eq 7, 3) := by decide +kernel
theorem dX9_isPlace_24 : decode cX9_isPlace 24 = .ok (.iconst 1, 1) := by decide +kernel
theorem dX9_isPlace_25 : decode cX9_isPlace 25 = .ok (.goto 4, 3) := by decide +kernel
theorem dX9_isPlace_28 : decode cX9_isPlace 28 = .ok (.iconst 0, 1) := by decide +kernel
theorem dX9_isPlace_29 : decode cX9_isPlace 29 = .ok (.ireturn, 1) := by decide +kernel
theorem dX9_fits_0 : decode cX9_fits 0 = .ok (.aload_n 0, 1) := by decide +kernel
theorem dX9_fits_1 : decode cX9_fits 1 = .ok (.iload_n 1, 1) := by decide +kernel
theorem dX9_fits_2 : decode cX9_fits 2 = .ok (.invokevirtual 94, 3) := by decide +kernel
theorem dX9_fits_5 : decode cX9_fits 5 = .ok (.ifCond .eq 29, 3) := by decide +kernel
theorem dX9_fits_8 : decode cX9_fits 8 = .ok (.iload_n 2, 1) := by decide +kernel
theorem dX9_fits_9 : decode cX9_fits 9 = .ok (.iload_n 3, 1) := by decide +kernel
theorem dX9_fits_10 : decode cX9_fits 10 = .ok (.invokestatic 97, 3) := by decide +kernel
theorem dX9_fits_13 : decode cX9_fits 13 = .ok (.ifCond .eq 21, 3) := by decide +kernel
theorem dX9_fits_16 : decode cX9_fits 16 = .ok (.aload_n 0, 1) := by decide +kernel
theorem dX9_fits_17 : decode cX9_fits 17 = .ok (.iload_n 1, 1) := by decide +kernel
theorem dX9_fits_18 : decode cX9_fits 18 = .ok (.iload_n 2, 1) := by decide +kernel
theorem dX9_fits_19 : decode cX9_fits 19 = .ok (.iload_n 3, 1) := by decide +kernel
theorem dX9_fits_20 : decode cX9_fits 20 = .ok (.invokevirtual 89, 3) := by decide +kernel
theorem dX9_fits_23 : decode cX9_fits 23 = .ok (.ifCond .eq 7, 3) := by decide +kernel
theorem dX9_fits_26 : decode cX9_fits 26 = .ok (.iconst 1, 1) := by decide +kernel
theorem dX9_fits_27 : decode cX9_fits 27 = .ok (.goto 13, 3) := by decide +kernel
theorem dX9_fits_30 : decode cX9_fits 30 = .ok (.iconst 0, 1) := by decide +kernel
theorem dX9_fits_31 : decode cX9_fits 31 = .ok (.goto 9, 3) := by decide +kernel
theorem dX9_fits_34 : decode cX9_fits 34 = .ok (.aload_n 0, 1) := by decide +kernel
theorem dX9_fits_35 : decode cX9_fits 35 = .ok (.bipush (-2), 2) := by decide +kernel
theorem dX9_fits_37 : decode cX9_fits 37 = .ok (.invokevirtual 101, 3) := by decide +kernel
theorem dX9_fits_40 : decode cX9_fits 40 = .ok (.ireturn, 1) := by decide +kernel
theorem dX9_isSheet_0 : decode cX9_isSheet 0 = .ok (.iload_n 0, 1) := by decide +kernel
theorem dX9_isSheet_1 : decode cX9_isSheet 1 = .ok (.i2l, 1) := by decide +kernel
theorem dX9_isSheet_2 : decode cX9_isSheet 2 = .ok (.ldc2_w 104, 3) := by decide +kernel
theorem dX9_isSheet_5 : decode cX9_isSheet 5 = .ok (.ldc2_w 106, 3) := by decide +kernel
theorem dX9_isSheet_8 : decode cX9_isSheet 8 = .ok (.invokestatic 46, 3) := by decide +kernel
theorem dX9_isSheet_11 : decode cX9_isSheet 11 = .ok (.ifCond .eq 21, 3) := by decide +kernel
theorem dX9_isSheet_14 : decode cX9_isSheet 14 = .ok (.iload_n 1, 1) := by decide +kernel
theorem dX9_isSheet_15 : decode cX9_isSheet 15 = .ok (.i2l, 1) := by decide +kernel
theorem dX9_isSheet_16 : decode cX9_isSheet 16 = .ok (.ldc2_w 104, 3) := by decide +kernel
theorem dX9_isSheet_19 : decode cX9_isSheet 19 = .ok (.ldc2_w 106, 3) := by decide +kernel
theorem dX9_isSheet_22 : decode cX9_isSheet 22 = .ok (.invokestatic 46, 3) := by decide +kernel
theorem dX9_isSheet_25 : decode cX9_isSheet 25 = .ok (.ifCond .eq 7, 3) := by decide +kernel
theorem dX9_isSheet_28 : decode cX9_isSheet 28 = .ok (.iconst 1, 1) := by decide +kernel
theorem dX9_isSheet_29 : decode cX9_isSheet 29 = .ok (.goto 4, 3) := by decide +kernel
theorem dX9_isSheet_32 : decode cX9_isSheet 32 = .ok (.iconst 0, 1) := by decide +kernel
theorem dX9_isSheet_33 : decode cX9_isSheet 33 = .ok (.ireturn, 1) := by decide +kernel
theorem dX9_sheetNow_0 : decode cX9_sheetNow 0 = .ok (.bipush 100, 2) := by decide +kernel
theorem dX9_sheetNow_2 : decode cX9_sheetNow 2 = .ok (.aload_n 0, 1) := by decide +kernel
theorem dX9_sheetNow_3 : decode cX9_sheetNow 3 = .ok (.getfield 7, 3) := by decide +kernel
theorem dX9_sheetNow_6 : decode cX9_sheetNow 6 = .ok (.iconst 0, 1) := by decide +kernel
theorem dX9_sheetNow_7 : decode cX9_sheetNow 7 = .ok (.iaload, 1) := by decide +kernel
theorem dX9_sheetNow_8 : decode cX9_sheetNow 8 = .ok (.imul, 1) := by decide +kernel
theorem dX9_sheetNow_9 : decode cX9_sheetNow 9 = .ok (.aload_n 0, 1) := by decide +kernel
theorem dX9_sheetNow_10 : decode cX9_sheetNow 10 = .ok (.getfield 7, 3) := by decide +kernel
theorem dX9_sheetNow_13 : decode cX9_sheetNow 13 = .ok (.iconst 1, 1) := by decide +kernel
theorem dX9_sheetNow_14 : decode cX9_sheetNow 14 = .ok (.iaload, 1) := by decide +kernel
theorem dX9_sheetNow_15 : decode cX9_sheetNow 15 = .ok (.iadd, 1) := by decide +kernel
theorem dX9_sheetNow_16 : decode cX9_sheetNow 16 = .ok (.istore_n 3, 1) := by decide +kernel
theorem dX9_sheetNow_17 : decode cX9_sheetNow 17 = .ok (.aload_n 0, 1) := by decide +kernel
theorem dX9_sheetNow_18 : decode cX9_sheetNow 18 = .ok (.getfield 7, 3) := by decide +kernel
theorem dX9_sheetNow_21 : decode cX9_sheetNow 21 = .ok (.iconst 0, 1) := by decide +kernel
theorem dX9_sheetNow_22 : decode cX9_sheetNow 22 = .ok (.iload_n 1, 1) := by decide +kernel
theorem dX9_sheetNow_23 : decode cX9_sheetNow 23 = .ok (.iastore, 1) := by decide +kernel
theorem dX9_sheetNow_24 : decode cX9_sheetNow 24 = .ok (.aload_n 0, 1) := by decide +kernel
theorem dX9_sheetNow_25 : decode cX9_sheetNow 25 = .ok (.getfield 7, 3) := by decide +kernel
theorem dX9_sheetNow_28 : decode cX9_sheetNow 28 = .ok (.iconst 1, 1) := by decide +kernel
theorem dX9_sheetNow_29 : decode cX9_sheetNow 29 = .ok (.iload_n 2, 1) := by decide +kernel
theorem dX9_sheetNow_30 : decode cX9_sheetNow 30 = .ok (.iastore, 1) := by decide +kernel
theorem dX9_sheetNow_31 : decode cX9_sheetNow 31 = .ok (.iload_n 3, 1) := by decide +kernel
theorem dX9_sheetNow_32 : decode cX9_sheetNow 32 = .ok (.ireturn, 1) := by decide +kernel
theorem dX9_sheet_0 : decode cX9_sheet 0 = .ok (.iload_n 1, 1) := by decide +kernel
theorem dX9_sheet_1 : decode cX9_sheet 1 = .ok (.iload_n 2, 1) := by decide +kernel
theorem dX9_sheet_2 : decode cX9_sheet 2 = .ok (.invokestatic 108, 3) := by decide +kernel
theorem dX9_sheet_5 : decode cX9_sheet 5 = .ok (.ifCond .ne 10, 3) := by decide +kernel
theorem dX9_sheet_8 : decode cX9_sheet 8 = .ok (.aload_n 0, 1) := by decide +kernel
theorem dX9_sheet_9 : decode cX9_sheet 9 = .ok (.bipush (-2), 2) := by decide +kernel
theorem dX9_sheet_11 : decode cX9_sheet 11 = .ok (.invokevirtual 101, 3) := by decide +kernel
theorem dX9_sheet_14 : decode cX9_sheet 14 = .ok (.ireturn, 1) := by decide +kernel
theorem dX9_sheet_15 : decode cX9_sheet 15 = .ok (.aload_n 0, 1) := by decide +kernel
theorem dX9_sheet_16 : decode cX9_sheet 16 = .ok (.invokevirtual 111, 3) := by decide +kernel
theorem dX9_sheet_19 : decode cX9_sheet 19 = .ok (.aload_n 0, 1) := by decide +kernel
theorem dX9_sheet_20 : decode cX9_sheet 20 = .ok (.iload_n 1, 1) := by decide +kernel
theorem dX9_sheet_21 : decode cX9_sheet 21 = .ok (.iload_n 2, 1) := by decide +kernel
theorem dX9_sheet_22 : decode cX9_sheet 22 = .ok (.invokevirtual 114, 3) := by decide +kernel
theorem dX9_sheet_25 : decode cX9_sheet 25 = .ok (.ireturn, 1) := by decide +kernel
theorem dX9_isSetting_0 : decode cX9_isSetting 0 = .ok (.iload_n 0, 1) := by decide +kernel
theorem dX9_isSetting_1 : decode cX9_isSetting 1 = .ok (.tableswitch 89 0 4 #[35, 45, 55, 67, 79], 35) := by decide +kernel
theorem dX9_isSetting_36 : decode cX9_isSetting 36 = .ok (.iload_n 1, 1) := by decide +kernel
theorem dX9_isSetting_37 : decode cX9_isSetting 37 = .ok (.i2l, 1) := by decide +kernel
theorem dX9_isSetting_38 : decode cX9_isSetting 38 = .ok (.lconst 0, 1) := by decide +kernel
theorem dX9_isSetting_39 : decode cX9_isSetting 39 = .ok (.ldc2_w 117, 3) := by decide +kernel
theorem dX9_isSetting_42 : decode cX9_isSetting 42 = .ok (.invokestatic 46, 3) := by decide +kernel
theorem dX9_isSetting_45 : decode cX9_isSetting 45 = .ok (.ireturn, 1) := by decide +kernel
theorem dX9_isSetting_46 : decode cX9_isSetting 46 = .ok (.iload_n 1, 1) := by decide +kernel
theorem dX9_isSetting_47 : decode cX9_isSetting 47 = .ok (.i2l, 1) := by decide +kernel
theorem dX9_isSetting_48 : decode cX9_isSetting 48 = .ok (.lconst 0, 1) := by decide +kernel
theorem dX9_isSetting_49 : decode cX9_isSetting 49 = .ok (.ldc2_w 117, 3) := by decide +kernel
theorem dX9_isSetting_52 : decode cX9_isSetting 52 = .ok (.invokestatic 46, 3) := by decide +kernel
theorem dX9_isSetting_55 : decode cX9_isSetting 55 = .ok (.ireturn, 1) := by decide +kernel
theorem dX9_isSetting_56 : decode cX9_isSetting 56 = .ok (.iload_n 1, 1) := by decide +kernel
theorem dX9_isSetting_57 : decode cX9_isSetting 57 = .ok (.i2l, 1) := by decide +kernel
theorem dX9_isSetting_58 : decode cX9_isSetting 58 = .ok (.ldc2_w 119, 3) := by decide +kernel
theorem dX9_isSetting_61 : decode cX9_isSetting 61 = .ok (.ldc2_w 121, 3) := by decide +kernel
theorem dX9_isSetting_64 : decode cX9_isSetting 64 = .ok (.invokestatic 46, 3) := by decide +kernel
theorem dX9_isSetting_67 : decode cX9_isSetting 67 = .ok (.ireturn, 1) := by decide +kernel
theorem dX9_isSetting_68 : decode cX9_isSetting 68 = .ok (.iload_n 1, 1) := by decide +kernel
theorem dX9_isSetting_69 : decode cX9_isSetting 69 = .ok (.i2l, 1) := by decide +kernel
theorem dX9_isSetting_70 : decode cX9_isSetting 70 = .ok (.ldc2_w 119, 3) := by decide +kernel
theorem dX9_isSetting_73 : decode cX9_isSetting 73 = .ok (.ldc2_w 123, 3) := by decide +kernel
theorem dX9_isSetting_76 : decode cX9_isSetting 76 = .ok (.invokestatic 46, 3) := by decide +kernel
theorem dX9_isSetting_79 : decode cX9_isSetting 79 = .ok (.ireturn, 1) := by decide +kernel
theorem dX9_isSetting_80 : decode cX9_isSetting 80 = .ok (.iload_n 1, 1) := by decide +kernel
theorem dX9_isSetting_81 : decode cX9_isSetting 81 = .ok (.i2l, 1) := by decide +kernel
theorem dX9_isSetting_82 : decode cX9_isSetting 82 = .ok (.lconst 0, 1) := by decide +kernel
theorem dX9_isSetting_83 : decode cX9_isSetting 83 = .ok (.ldc2_w 104, 3) := by decide +kernel
theorem dX9_isSetting_86 : decode cX9_isSetting 86 = .ok (.invokestatic 46, 3) := by decide +kernel
theorem dX9_isSetting_89 : decode cX9_isSetting 89 = .ok (.ireturn, 1) := by decide +kernel
theorem dX9_isSetting_90 : decode cX9_isSetting 90 = .ok (.iconst 0, 1) := by decide +kernel
theorem dX9_isSetting_91 : decode cX9_isSetting 91 = .ok (.ireturn, 1) := by decide +kernel
theorem dX9_setNow_0 : decode cX9_setNow 0 = .ok (.aload_n 0, 1) := by decide +kernel
theorem dX9_setNow_1 : decode cX9_setNow 1 = .ok (.getfield 7, 3) := by decide +kernel
theorem dX9_setNow_4 : decode cX9_setNow 4 = .ok (.iconst 2, 1) := by decide +kernel
theorem dX9_setNow_5 : decode cX9_setNow 5 = .ok (.iload_n 1, 1) := by decide +kernel
theorem dX9_setNow_6 : decode cX9_setNow 6 = .ok (.iadd, 1) := by decide +kernel
theorem dX9_setNow_7 : decode cX9_setNow 7 = .ok (.iaload, 1) := by decide +kernel
theorem dX9_setNow_8 : decode cX9_setNow 8 = .ok (.istore_n 3, 1) := by decide +kernel
theorem dX9_setNow_9 : decode cX9_setNow 9 = .ok (.aload_n 0, 1) := by decide +kernel
theorem dX9_setNow_10 : decode cX9_setNow 10 = .ok (.getfield 7, 3) := by decide +kernel
theorem dX9_setNow_13 : decode cX9_setNow 13 = .ok (.iconst 2, 1) := by decide +kernel
theorem dX9_setNow_14 : decode cX9_setNow 14 = .ok (.iload_n 1, 1) := by decide +kernel
theorem dX9_setNow_15 : decode cX9_setNow 15 = .ok (.iadd, 1) := by decide +kernel
theorem dX9_setNow_16 : decode cX9_setNow 16 = .ok (.iload_n 2, 1) := by decide +kernel
theorem dX9_setNow_17 : decode cX9_setNow 17 = .ok (.iastore, 1) := by decide +kernel
theorem dX9_setNow_18 : decode cX9_setNow 18 = .ok (.iload_n 3, 1) := by decide +kernel
theorem dX9_setNow_19 : decode cX9_setNow 19 = .ok (.ireturn, 1) := by decide +kernel
theorem dX9_sets_0 : decode cX9_sets 0 = .ok (.iload_n 1, 1) := by decide +kernel
theorem dX9_sets_1 : decode cX9_sets 1 = .ok (.iload_n 2, 1) := by decide +kernel
theorem dX9_sets_2 : decode cX9_sets 2 = .ok (.invokestatic 125, 3) := by decide +kernel
theorem dX9_sets_5 : decode cX9_sets 5 = .ok (.ifCond .ne 10, 3) := by decide +kernel
theorem dX9_sets_8 : decode cX9_sets 8 = .ok (.aload_n 0, 1) := by decide +kernel
theorem dX9_sets_9 : decode cX9_sets 9 = .ok (.bipush (-2), 2) := by decide +kernel
theorem dX9_sets_11 : decode cX9_sets 11 = .ok (.invokevirtual 101, 3) := by decide +kernel
theorem dX9_sets_14 : decode cX9_sets 14 = .ok (.ireturn, 1) := by decide +kernel
theorem dX9_sets_15 : decode cX9_sets 15 = .ok (.aload_n 0, 1) := by decide +kernel
theorem dX9_sets_16 : decode cX9_sets 16 = .ok (.invokevirtual 111, 3) := by decide +kernel
theorem dX9_sets_19 : decode cX9_sets 19 = .ok (.aload_n 0, 1) := by decide +kernel
theorem dX9_sets_20 : decode cX9_sets 20 = .ok (.iload_n 1, 1) := by decide +kernel
theorem dX9_sets_21 : decode cX9_sets 21 = .ok (.iload_n 2, 1) := by decide +kernel
theorem dX9_sets_22 : decode cX9_sets 22 = .ok (.invokevirtual 128, 3) := by decide +kernel
theorem dX9_sets_25 : decode cX9_sets 25 = .ok (.ireturn, 1) := by decide +kernel
theorem dX9_isOf_0 : decode cX9_isOf 0 = .ok (.iload_n 0, 1) := by decide +kernel
theorem dX9_isOf_1 : decode cX9_isOf 1 = .ok (.ifCond .ne 13, 3) := by decide +kernel
theorem dX9_isOf_4 : decode cX9_isOf 4 = .ok (.iload_n 1, 1) := by decide +kernel
theorem dX9_isOf_5 : decode cX9_isOf 5 = .ok (.i2l, 1) := by decide +kernel
theorem dX9_isOf_6 : decode cX9_isOf 6 = .ok (.lconst 0, 1) := by decide +kernel
theorem dX9_isOf_7 : decode cX9_isOf 7 = .ok (.lconst 1, 1) := by decide +kernel
theorem dX9_isOf_8 : decode cX9_isOf 8 = .ok (.invokestatic 46, 3) := by decide +kernel
theorem dX9_isOf_11 : decode cX9_isOf 11 = .ok (.goto 51, 3) := by decide +kernel
theorem dX9_isOf_14 : decode cX9_isOf 14 = .ok (.iload_n 0, 1) := by decide +kernel
theorem dX9_isOf_15 : decode cX9_isOf 15 = .ok (.iconst 1, 1) := by decide +kernel
theorem dX9_isOf_16 : decode cX9_isOf 16 = .ok (.if_icmp .ne 15, 3) := by decide +kernel
theorem dX9_isOf_19 : decode cX9_isOf 19 = .ok (.iload_n 1, 1) := by decide +kernel
theorem dX9_isOf_20 : decode cX9_isOf 20 = .ok (.i2l, 1) := by decide +kernel
theorem dX9_isOf_21 : decode cX9_isOf 21 = .ok (.lconst 1, 1) := by decide +kernel
theorem dX9_isOf_22 : decode cX9_isOf 22 = .ok (.ldc2_w 104, 3) := by decide +kernel
theorem dX9_isOf_25 : decode cX9_isOf 25 = .ok (.invokestatic 46, 3) := by decide +kernel
theorem dX9_isOf_28 : decode cX9_isOf 28 = .ok (.goto 34, 3) := by decide +kernel
theorem dX9_isOf_31 : decode cX9_isOf 31 = .ok (.iload_n 0, 1) := by decide +kernel
theorem dX9_isOf_32 : decode cX9_isOf 32 = .ok (.i2l, 1) := by decide +kernel
theorem dX9_isOf_33 : decode cX9_isOf 33 = .ok (.ldc2_w 117, 3) := by decide +kernel
theorem dX9_isOf_36 : decode cX9_isOf 36 = .ok (.ldc2_w 131, 3) := by decide +kernel
theorem dX9_isOf_39 : decode cX9_isOf 39 = .ok (.invokestatic 46, 3) := by decide +kernel
theorem dX9_isOf_42 : decode cX9_isOf 42 = .ok (.ifCond .eq 19, 3) := by decide +kernel
theorem dX9_isOf_45 : decode cX9_isOf 45 = .ok (.iload_n 1, 1) := by decide +kernel
theorem dX9_isOf_46 : decode cX9_isOf 46 = .ok (.i2l, 1) := by decide +kernel
theorem dX9_isOf_47 : decode cX9_isOf 47 = .ok (.lconst 1, 1) := by decide +kernel
theorem dX9_isOf_48 : decode cX9_isOf 48 = .ok (.ldc2_w 133, 3) := by decide +kernel
theorem dX9_isOf_51 : decode cX9_isOf 51 = .ok (.invokestatic 46, 3) := by decide +kernel
theorem dX9_isOf_54 : decode cX9_isOf 54 = .ok (.ifCond .eq 7, 3) := by decide +kernel
theorem dX9_isOf_57 : decode cX9_isOf 57 = .ok (.iconst 1, 1) := by decide +kernel
theorem dX9_isOf_58 : decode cX9_isOf 58 = .ok (.goto 4, 3) := by decide +kernel
theorem dX9_isOf_61 : decode cX9_isOf 61 = .ok (.iconst 0, 1) := by decide +kernel
theorem dX9_isOf_62 : decode cX9_isOf 62 = .ok (.ireturn, 1) := by decide +kernel
theorem dX9_canItem_0 : decode cX9_canItem 0 = .ok (.iconst 0, 1) := by decide +kernel
theorem dX9_canItem_1 : decode cX9_canItem 1 = .ok (.iload_n 1, 1) := by decide +kernel
theorem dX9_canItem_2 : decode cX9_canItem 2 = .ok (.invokestatic 135, 3) := by decide +kernel
theorem dX9_canItem_5 : decode cX9_canItem 5 = .ok (.ifCond .eq 28, 3) := by decide +kernel
theorem dX9_canItem_8 : decode cX9_canItem 8 = .ok (.iconst 1, 1) := by decide +kernel
theorem dX9_canItem_9 : decode cX9_canItem 9 = .ok (.iload_n 2, 1) := by decide +kernel
theorem dX9_canItem_10 : decode cX9_canItem 10 = .ok (.invokestatic 135, 3) := by decide +kernel
theorem dX9_canItem_13 : decode cX9_canItem 13 = .ok (.ifCond .eq 20, 3) := by decide +kernel
theorem dX9_canItem_16 : decode cX9_canItem 16 = .ok (.iconst 2, 1) := by decide +kernel
theorem dX9_canItem_17 : decode cX9_canItem 17 = .ok (.iload_n 3, 1) := by decide +kernel
theorem dX9_canItem_18 : decode cX9_canItem 18 = .ok (.invokestatic 135, 3) := by decide +kernel
theorem dX9_canItem_21 : decode cX9_canItem 21 = .ok (.ifCond .eq 12, 3) := by decide +kernel
theorem dX9_canItem_24 : decode cX9_canItem 24 = .ok (.iconst 3, 1) := by decide +kernel
theorem dX9_canItem_25 : decode cX9_canItem 25 = .ok (.iload 4, 2) := by decide +kernel
theorem dX9_canItem_27 : decode cX9_canItem 27 = .ok (.invokestatic 135, 3) := by decide +kernel
theorem dX9_canItem_30 : decode cX9_canItem 30 = .ok (.ifCond .ne 8, 3) := by decide +kernel
theorem dX9_canItem_33 : decode cX9_canItem 33 = .ok (.bipush (-2), 2) := by decide +kernel
theorem dX9_canItem_35 : decode cX9_canItem 35 = .ok (.goto 18, 3) := by decide +kernel
theorem dX9_canItem_38 : decode cX9_canItem 38 = .ok (.aload_n 0, 1) := by decide +kernel
theorem dX9_canItem_39 : decode cX9_canItem 39 = .ok (.invokevirtual 42, 3) := by decide +kernel
theorem dX9_canItem_42 : decode cX9_canItem 42 = .ok (.bipush 8, 2) := by decide +kernel
theorem dX9_canItem_44 : decode cX9_canItem 44 = .ok (.if_icmp .ne 8, 3) := by decide +kernel
theorem dX9_canItem_47 : decode cX9_canItem 47 = .ok (.bipush (-4), 2) := by decide +kernel
theorem dX9_canItem_49 : decode cX9_canItem 49 = .ok (.goto 4, 3) := by decide +kernel
theorem dX9_canItem_52 : decode cX9_canItem 52 = .ok (.iconst 0, 1) := by decide +kernel
theorem dX9_canItem_53 : decode cX9_canItem 53 = .ok (.ireturn, 1) := by decide +kernel
theorem dX9_itemNow_0 : decode cX9_itemNow 0 = .ok (.aload_n 0, 1) := by decide +kernel
theorem dX9_itemNow_1 : decode cX9_itemNow 1 = .ok (.invokevirtual 42, 3) := by decide +kernel
theorem dX9_itemNow_4 : decode cX9_itemNow 4 = .ok (.istore 5, 2) := by decide +kernel
theorem dX9_itemNow_6 : decode cX9_itemNow 6 = .ok (.aload_n 0, 1) := by decide +kernel
theorem dX9_itemNow_7 : decode cX9_itemNow 7 = .ok (.iload 5, 2) := by decide +kernel
theorem dX9_itemNow_9 : decode cX9_itemNow 9 = .ok (.iconst 0, 1) := by decide +kernel
theorem dX9_itemNow_10 : decode cX9_itemNow 10 = .ok (.iload_n 1, 1) := by decide +kernel
theorem dX9_itemNow_11 : decode cX9_itemNow 11 = .ok (.invokevirtual 138, 3) := by decide +kernel
theorem dX9_itemNow_14 : decode cX9_itemNow 14 = .ok (.aload_n 0, 1) := by decide +kernel
theorem dX9_itemNow_15 : decode cX9_itemNow 15 = .ok (.iload 5, 2) := by decide +kernel
theorem dX9_itemNow_17 : decode cX9_itemNow 17 = .ok (.iconst 1, 1) := by decide +kernel
theorem dX9_itemNow_18 : decode cX9_itemNow 18 = .ok (.iload_n 2, 1) := by decide +kernel
theorem dX9_itemNow_19 : decode cX9_itemNow 19 = .ok (.invokevirtual 138, 3) := by decide +kernel
theorem dX9_itemNow_22 : decode cX9_itemNow 22 = .ok (.aload_n 0, 1) := by decide +kernel
theorem dX9_itemNow_23 : decode cX9_itemNow 23 = .ok (.iload 5, 2) := by decide +kernel
theorem dX9_itemNow_25 : decode cX9_itemNow 25 = .ok (.iconst 2, 1) := by decide +kernel
theorem dX9_itemNow_26 : decode cX9_itemNow 26 = .ok (.iload_n 3, 1) := by decide +kernel
theorem dX9_itemNow_27 : decode cX9_itemNow 27 = .ok (.invokevirtual 138, 3) := by decide +kernel
theorem dX9_itemNow_30 : decode cX9_itemNow 30 = .ok (.aload_n 0, 1) := by decide +kernel
theorem dX9_itemNow_31 : decode cX9_itemNow 31 = .ok (.iload 5, 2) := by decide +kernel
theorem dX9_itemNow_33 : decode cX9_itemNow 33 = .ok (.iconst 3, 1) := by decide +kernel
theorem dX9_itemNow_34 : decode cX9_itemNow 34 = .ok (.iload 4, 2) := by decide +kernel
theorem dX9_itemNow_36 : decode cX9_itemNow 36 = .ok (.invokevirtual 138, 3) := by decide +kernel
theorem dX9_itemNow_39 : decode cX9_itemNow 39 = .ok (.aload_n 0, 1) := by decide +kernel
theorem dX9_itemNow_40 : decode cX9_itemNow 40 = .ok (.iload 5, 2) := by decide +kernel
theorem dX9_itemNow_42 : decode cX9_itemNow 42 = .ok (.iconst 4, 1) := by decide +kernel
theorem dX9_itemNow_43 : decode cX9_itemNow 43 = .ok (.iconst (-1), 1) := by decide +kernel
theorem dX9_itemNow_44 : decode cX9_itemNow 44 = .ok (.invokevirtual 138, 3) := by decide +kernel
theorem dX9_itemNow_47 : decode cX9_itemNow 47 = .ok (.aload_n 0, 1) := by decide +kernel
theorem dX9_itemNow_48 : decode cX9_itemNow 48 = .ok (.iload 5, 2) := by decide +kernel
theorem dX9_itemNow_50 : decode cX9_itemNow 50 = .ok (.iconst 5, 1) := by decide +kernel
theorem dX9_itemNow_51 : decode cX9_itemNow 51 = .ok (.iconst (-1), 1) := by decide +kernel
theorem dX9_itemNow_52 : decode cX9_itemNow 52 = .ok (.invokevirtual 138, 3) := by decide +kernel
theorem dX9_itemNow_55 : decode cX9_itemNow 55 = .ok (.aload_n 0, 1) := by decide +kernel
theorem dX9_itemNow_56 : decode cX9_itemNow 56 = .ok (.getfield 7, 3) := by decide +kernel
theorem dX9_itemNow_59 : decode cX9_itemNow 59 = .ok (.bipush 7, 2) := by decide +kernel
theorem dX9_itemNow_61 : decode cX9_itemNow 61 = .ok (.dup2, 1) := by decide +kernel
theorem dX9_itemNow_62 : decode cX9_itemNow 62 = .ok (.iaload, 1) := by decide +kernel
theorem dX9_itemNow_63 : decode cX9_itemNow 63 = .ok (.iconst 1, 1) := by decide +kernel
theorem dX9_itemNow_64 : decode cX9_itemNow 64 = .ok (.iadd, 1) := by decide +kernel
theorem dX9_itemNow_65 : decode cX9_itemNow 65 = .ok (.iastore, 1) := by decide +kernel
theorem dX9_itemNow_66 : decode cX9_itemNow 66 = .ok (.iload 5, 2) := by decide +kernel
theorem dX9_itemNow_68 : decode cX9_itemNow 68 = .ok (.ireturn, 1) := by decide +kernel
theorem dX9_item_0 : decode cX9_item 0 = .ok (.aload_n 0, 1) := by decide +kernel
theorem dX9_item_1 : decode cX9_item 1 = .ok (.iload_n 1, 1) := by decide +kernel
theorem dX9_item_2 : decode cX9_item 2 = .ok (.iload_n 2, 1) := by decide +kernel
theorem dX9_item_3 : decode cX9_item 3 = .ok (.iload_n 3, 1) := by decide +kernel
theorem dX9_item_4 : decode cX9_item 4 = .ok (.iload 4, 2) := by decide +kernel
theorem dX9_item_6 : decode cX9_item 6 = .ok (.invokevirtual 142, 3) := by decide +kernel
theorem dX9_item_9 : decode cX9_item 9 = .ok (.istore 5, 2) := by decide +kernel
theorem dX9_item_11 : decode cX9_item 11 = .ok (.iload 5, 2) := by decide +kernel
theorem dX9_item_13 : decode cX9_item 13 = .ok (.ifCond .ge 10, 3) := by decide +kernel
theorem dX9_item_16 : decode cX9_item 16 = .ok (.aload_n 0, 1) := by decide +kernel
theorem dX9_item_17 : decode cX9_item 17 = .ok (.iload 5, 2) := by decide +kernel
theorem dX9_item_19 : decode cX9_item 19 = .ok (.invokevirtual 101, 3) := by decide +kernel
theorem dX9_item_22 : decode cX9_item 22 = .ok (.ireturn, 1) := by decide +kernel
theorem dX9_item_23 : decode cX9_item 23 = .ok (.aload_n 0, 1) := by decide +kernel
theorem dX9_item_24 : decode cX9_item 24 = .ok (.invokevirtual 111, 3) := by decide +kernel
theorem dX9_item_27 : decode cX9_item 27 = .ok (.aload_n 0, 1) := by decide +kernel
theorem dX9_item_28 : decode cX9_item 28 = .ok (.iload_n 1, 1) := by decide +kernel
theorem dX9_item_29 : decode cX9_item 29 = .ok (.iload_n 2, 1) := by decide +kernel
theorem dX9_item_30 : decode cX9_item 30 = .ok (.iload_n 3, 1) := by decide +kernel
theorem dX9_item_31 : decode cX9_item 31 = .ok (.iload 4, 2) := by decide +kernel
theorem dX9_item_33 : decode cX9_item 33 = .ok (.invokevirtual 146, 3) := by decide +kernel
theorem dX9_item_36 : decode cX9_item 36 = .ok (.ireturn, 1) := by decide +kernel
theorem dX9_drops_0 : decode cX9_drops 0 = .ok (.aload_n 0, 1) := by decide +kernel
theorem dX9_drops_1 : decode cX9_drops 1 = .ok (.iload_n 1, 1) := by decide +kernel
theorem dX9_drops_2 : decode cX9_drops 2 = .ok (.invokevirtual 94, 3) := by decide +kernel
theorem dX9_drops_5 : decode cX9_drops 5 = .ok (.ifCond .ne 10, 3) := by decide +kernel
theorem dX9_drops_8 : decode cX9_drops 8 = .ok (.aload_n 0, 1) := by decide +kernel
theorem dX9_drops_9 : decode cX9_drops 9 = .ok (.bipush (-2), 2) := by decide +kernel
theorem dX9_drops_11 : decode cX9_drops 11 = .ok (.invokevirtual 101, 3) := by decide +kernel
theorem dX9_drops_14 : decode cX9_drops 14 = .ok (.ireturn, 1) := by decide +kernel
theorem dX9_drops_15 : decode cX9_drops 15 = .ok (.aload_n 0, 1) := by decide +kernel
theorem dX9_drops_16 : decode cX9_drops 16 = .ok (.invokevirtual 111, 3) := by decide +kernel
theorem dX9_drops_19 : decode cX9_drops 19 = .ok (.bipush 8, 2) := by decide +kernel
theorem dX9_drops_21 : decode cX9_drops 21 = .ok (.bipush 6, 2) := by decide +kernel
theorem dX9_drops_23 : decode cX9_drops 23 = .ok (.iload_n 1, 1) := by decide +kernel
theorem dX9_drops_24 : decode cX9_drops 24 = .ok (.imul, 1) := by decide +kernel
theorem dX9_drops_25 : decode cX9_drops 25 = .ok (.iadd, 1) := by decide +kernel
theorem dX9_drops_26 : decode cX9_drops 26 = .ok (.istore_n 2, 1) := by decide +kernel
theorem dX9_drops_27 : decode cX9_drops 27 = .ok (.iload_n 2, 1) := by decide +kernel
theorem dX9_drops_28 : decode cX9_drops 28 = .ok (.bipush 8, 2) := by decide +kernel
theorem dX9_drops_30 : decode cX9_drops 30 = .ok (.bipush 6, 2) := by decide +kernel
theorem dX9_drops_32 : decode cX9_drops 32 = .ok (.aload_n 0, 1) := by decide +kernel
theorem dX9_drops_33 : decode cX9_drops 33 = .ok (.invokevirtual 42, 3) := by decide +kernel
theorem dX9_drops_36 : decode cX9_drops 36 = .ok (.iconst 1, 1) := by decide +kernel
theorem dX9_drops_37 : decode cX9_drops 37 = .ok (.isub, 1) := by decide +kernel
theorem dX9_drops_38 : decode cX9_drops 38 = .ok (.imul, 1) := by decide +kernel
theorem dX9_drops_39 : decode cX9_drops 39 = .ok (.iadd, 1) := by decide +kernel
theorem dX9_drops_40 : decode cX9_drops 40 = .ok (.if_icmp .ge 24, 3) := by decide +kernel
theorem dX9_drops_43 : decode cX9_drops 43 = .ok (.aload_n 0, 1) := by decide +kernel
theorem dX9_drops_44 : decode cX9_drops 44 = .ok (.getfield 7, 3) := by decide +kernel
theorem dX9_drops_47 : decode cX9_drops 47 = .ok (.iload_n 2, 1) := by decide +kernel
theorem dX9_drops_48 : decode cX9_drops 48 = .ok (.aload_n 0, 1) := by decide +kernel
theorem dX9_drops_49 : decode cX9_drops 49 = .ok (.getfield 7, 3) := by decide +kernel
theorem dX9_drops_52 : decode cX9_drops 52 = .ok (.iload_n 2, 1) := by decide +kernel
theorem dX9_drops_53 : decode cX9_drops 53 = .ok (.bipush 6, 2) := by decide +kernel
theorem dX9_drops_55 : decode cX9_drops 55 = .ok (.iadd, 1) := by decide +kernel
theorem dX9_drops_56 : decode cX9_drops 56 = .ok (.iaload, 1) := by decide +kernel
theorem dX9_drops_57 : decode cX9_drops 57 = .ok (.iastore, 1) := by decide +kernel
theorem dX9_drops_58 : decode cX9_drops 58 = .ok (.iinc 2 1, 3) := by decide +kernel
theorem dX9_drops_61 : decode cX9_drops 61 = .ok (.goto (-34), 3) := by decide +kernel
theorem dX9_drops_64 : decode cX9_drops 64 = .ok (.aload_n 0, 1) := by decide +kernel
theorem dX9_drops_65 : decode cX9_drops 65 = .ok (.getfield 7, 3) := by decide +kernel
theorem dX9_drops_68 : decode cX9_drops 68 = .ok (.bipush 7, 2) := by decide +kernel
theorem dX9_drops_70 : decode cX9_drops 70 = .ok (.dup2, 1) := by decide +kernel
theorem dX9_drops_71 : decode cX9_drops 71 = .ok (.iaload, 1) := by decide +kernel
theorem dX9_drops_72 : decode cX9_drops 72 = .ok (.iconst 1, 1) := by decide +kernel
theorem dX9_drops_73 : decode cX9_drops 73 = .ok (.isub, 1) := by decide +kernel
theorem dX9_drops_74 : decode cX9_drops 74 = .ok (.iastore, 1) := by decide +kernel
theorem dX9_drops_75 : decode cX9_drops 75 = .ok (.aload_n 0, 1) := by decide +kernel
theorem dX9_drops_76 : decode cX9_drops 76 = .ok (.invokevirtual 42, 3) := by decide +kernel
theorem dX9_drops_79 : decode cX9_drops 79 = .ok (.ireturn, 1) := by decide +kernel
theorem dX9_becomes_0 : decode cX9_becomes 0 = .ok (.aload_n 0, 1) := by decide +kernel
theorem dX9_becomes_1 : decode cX9_becomes 1 = .ok (.iload_n 1, 1) := by decide +kernel
theorem dX9_becomes_2 : decode cX9_becomes 2 = .ok (.invokevirtual 94, 3) := by decide +kernel
theorem dX9_becomes_5 : decode cX9_becomes 5 = .ok (.ifCond .eq 11, 3) := by decide +kernel
theorem dX9_becomes_8 : decode cX9_becomes 8 = .ok (.iload_n 2, 1) := by decide +kernel
theorem dX9_becomes_9 : decode cX9_becomes 9 = .ok (.iload_n 3, 1) := by decide +kernel
theorem dX9_becomes_10 : decode cX9_becomes 10 = .ok (.invokestatic 135, 3) := by decide +kernel
theorem dX9_becomes_13 : decode cX9_becomes 13 = .ok (.ifCond .ne 10, 3) := by decide +kernel
theorem dX9_becomes_16 : decode cX9_becomes 16 = .ok (.aload_n 0, 1) := by decide +kernel
theorem dX9_becomes_17 : decode cX9_becomes 17 = .ok (.bipush (-2), 2) := by decide +kernel
theorem dX9_becomes_19 : decode cX9_becomes 19 = .ok (.invokevirtual 101, 3) := by decide +kernel
theorem dX9_becomes_22 : decode cX9_becomes 22 = .ok (.ireturn, 1) := by decide +kernel
theorem dX9_becomes_23 : decode cX9_becomes 23 = .ok (.aload_n 0, 1) := by decide +kernel
theorem dX9_becomes_24 : decode cX9_becomes 24 = .ok (.invokevirtual 111, 3) := by decide +kernel
theorem dX9_becomes_27 : decode cX9_becomes 27 = .ok (.aload_n 0, 1) := by decide +kernel
theorem dX9_becomes_28 : decode cX9_becomes 28 = .ok (.iload_n 1, 1) := by decide +kernel
theorem dX9_becomes_29 : decode cX9_becomes 29 = .ok (.iload_n 2, 1) := by decide +kernel
theorem dX9_becomes_30 : decode cX9_becomes 30 = .ok (.invokevirtual 50, 3) := by decide +kernel
theorem dX9_becomes_33 : decode cX9_becomes 33 = .ok (.istore 4, 2) := by decide +kernel
theorem dX9_becomes_35 : decode cX9_becomes 35 = .ok (.aload_n 0, 1) := by decide +kernel
theorem dX9_becomes_36 : decode cX9_becomes 36 = .ok (.iload_n 1, 1) := by decide +kernel
theorem dX9_becomes_37 : decode cX9_becomes 37 = .ok (.iload_n 2, 1) := by decide +kernel
theorem dX9_becomes_38 : decode cX9_becomes 38 = .ok (.iload_n 3, 1) := by decide +kernel
theorem dX9_becomes_39 : decode cX9_becomes 39 = .ok (.invokevirtual 138, 3) := by decide +kernel
theorem dX9_becomes_42 : decode cX9_becomes 42 = .ok (.iload 4, 2) := by decide +kernel
theorem dX9_becomes_44 : decode cX9_becomes 44 = .ok (.ireturn, 1) := by decide +kernel
theorem dX9_ofNow_0 : decode cX9_ofNow 0 = .ok (.iload_n 2, 1) := by decide +kernel
theorem dX9_ofNow_1 : decode cX9_ofNow 1 = .ok (.tableswitch 63 6 9 #[31, 37, 43, 49], 31) := by decide +kernel
theorem dX9_ofNow_32 : decode cX9_ofNow 32 = .ok (.aload_n 0, 1) := by decide +kernel
theorem dX9_ofNow_33 : decode cX9_ofNow 33 = .ok (.iload_n 1, 1) := by decide +kernel
theorem dX9_ofNow_34 : decode cX9_ofNow 34 = .ok (.invokevirtual 64, 3) := by decide +kernel
theorem dX9_ofNow_37 : decode cX9_ofNow 37 = .ok (.ireturn, 1) := by decide +kernel
theorem dX9_ofNow_38 : decode cX9_ofNow 38 = .ok (.aload_n 0, 1) := by decide +kernel
theorem dX9_ofNow_39 : decode cX9_ofNow 39 = .ok (.iload_n 1, 1) := by decide +kernel
theorem dX9_ofNow_40 : decode cX9_ofNow 40 = .ok (.invokevirtual 68, 3) := by decide +kernel
theorem dX9_ofNow_43 : decode cX9_ofNow 43 = .ok (.ireturn, 1) := by decide +kernel
theorem dX9_ofNow_44 : decode cX9_ofNow 44 = .ok (.aload_n 0, 1) := by decide +kernel
theorem dX9_ofNow_45 : decode cX9_ofNow 45 = .ok (.iload_n 1, 1) := by decide +kernel
theorem dX9_ofNow_46 : decode cX9_ofNow 46 = .ok (.invokevirtual 149, 3) := by decide +kernel
theorem dX9_ofNow_49 : decode cX9_ofNow 49 = .ok (.ireturn, 1) := by decide +kernel
theorem dX9_ofNow_50 : decode cX9_ofNow 50 = .ok (.aload_n 0, 1) := by decide +kernel
theorem dX9_ofNow_51 : decode cX9_ofNow 51 = .ok (.iload_n 1, 1) := by decide +kernel
theorem dX9_ofNow_52 : decode cX9_ofNow 52 = .ok (.invokevirtual 152, 3) := by decide +kernel
theorem dX9_ofNow_55 : decode cX9_ofNow 55 = .ok (.ifCond .eq 7, 3) := by decide +kernel
theorem dX9_ofNow_58 : decode cX9_ofNow 58 = .ok (.iconst 1, 1) := by decide +kernel
theorem dX9_ofNow_59 : decode cX9_ofNow 59 = .ok (.goto 4, 3) := by decide +kernel
theorem dX9_ofNow_62 : decode cX9_ofNow 62 = .ok (.iconst 0, 1) := by decide +kernel
theorem dX9_ofNow_63 : decode cX9_ofNow 63 = .ok (.ireturn, 1) := by decide +kernel
theorem dX9_ofNow_64 : decode cX9_ofNow 64 = .ok (.aload_n 0, 1) := by decide +kernel
theorem dX9_ofNow_65 : decode cX9_ofNow 65 = .ok (.iload_n 1, 1) := by decide +kernel
theorem dX9_ofNow_66 : decode cX9_ofNow 66 = .ok (.iload_n 2, 1) := by decide +kernel
theorem dX9_ofNow_67 : decode cX9_ofNow 67 = .ok (.invokevirtual 50, 3) := by decide +kernel
theorem dX9_ofNow_70 : decode cX9_ofNow 70 = .ok (.ireturn, 1) := by decide +kernel
theorem dX9_of_0 : decode cX9_of 0 = .ok (.aload_n 0, 1) := by decide +kernel
theorem dX9_of_1 : decode cX9_of 1 = .ok (.iload_n 1, 1) := by decide +kernel
theorem dX9_of_2 : decode cX9_of 2 = .ok (.invokevirtual 94, 3) := by decide +kernel
theorem dX9_of_5 : decode cX9_of 5 = .ok (.ifCond .eq 24, 3) := by decide +kernel
theorem dX9_of_8 : decode cX9_of 8 = .ok (.iload_n 2, 1) := by decide +kernel
theorem dX9_of_9 : decode cX9_of 9 = .ok (.i2l, 1) := by decide +kernel
theorem dX9_of_10 : decode cX9_of 10 = .ok (.lconst 0, 1) := by decide +kernel
theorem dX9_of_11 : decode cX9_of 11 = .ok (.ldc2_w 155, 3) := by decide +kernel
theorem dX9_of_14 : decode cX9_of 14 = .ok (.invokestatic 46, 3) := by decide +kernel
theorem dX9_of_17 : decode cX9_of 17 = .ok (.ifCond .eq 12, 3) := by decide +kernel
theorem dX9_of_20 : decode cX9_of 20 = .ok (.aload_n 0, 1) := by decide +kernel
theorem dX9_of_21 : decode cX9_of 21 = .ok (.iload_n 1, 1) := by decide +kernel
theorem dX9_of_22 : decode cX9_of 22 = .ok (.iload_n 2, 1) := by decide +kernel
theorem dX9_of_23 : decode cX9_of 23 = .ok (.invokevirtual 157, 3) := by decide +kernel
theorem dX9_of_26 : decode cX9_of 26 = .ok (.goto 9, 3) := by decide +kernel
theorem dX9_of_29 : decode cX9_of 29 = .ok (.aload_n 0, 1) := by decide +kernel
theorem dX9_of_30 : decode cX9_of 30 = .ok (.bipush (-2), 2) := by decide +kernel
theorem dX9_of_32 : decode cX9_of 32 = .ok (.invokevirtual 101, 3) := by decide +kernel
theorem dX9_of_35 : decode cX9_of 35 = .ok (.ireturn, 1) := by decide +kernel
theorem dX9_sideBits_0 : decode cX9_sideBits 0 = .ok (.aload_n 0, 1) := by decide +kernel
theorem dX9_sideBits_1 : decode cX9_sideBits 1 = .ok (.iload_n 1, 1) := by decide +kernel
theorem dX9_sideBits_2 : decode cX9_sideBits 2 = .ok (.invokevirtual 56, 3) := by decide +kernel
theorem dX9_sideBits_5 : decode cX9_sideBits 5 = .ok (.invokestatic 160, 3) := by decide +kernel
theorem dX9_sideBits_8 : decode cX9_sideBits 8 = .ok (.ireturn, 1) := by decide +kernel
theorem dX9_side_0 : decode cX9_side 0 = .ok (.iload_n 1, 1) := by decide +kernel
theorem dX9_side_1 : decode cX9_side 1 = .ok (.i2l, 1) := by decide +kernel
theorem dX9_side_2 : decode cX9_side 2 = .ok (.lconst 1, 1) := by decide +kernel
theorem dX9_side_3 : decode cX9_side 3 = .ok (.ldc2_w 104, 3) := by decide +kernel
theorem dX9_side_6 : decode cX9_side 6 = .ok (.invokestatic 46, 3) := by decide +kernel
theorem dX9_side_9 : decode cX9_side 9 = .ok (.ifCond .eq 11, 3) := by decide +kernel
theorem dX9_side_12 : decode cX9_side 12 = .ok (.aload_n 0, 1) := by decide +kernel
theorem dX9_side_13 : decode cX9_side 13 = .ok (.iload_n 1, 1) := by decide +kernel
theorem dX9_side_14 : decode cX9_side 14 = .ok (.invokevirtual 165, 3) := by decide +kernel
theorem dX9_side_17 : decode cX9_side 17 = .ok (.goto 9, 3) := by decide +kernel
theorem dX9_side_20 : decode cX9_side 20 = .ok (.aload_n 0, 1) := by decide +kernel
theorem dX9_side_21 : decode cX9_side 21 = .ok (.bipush (-2), 2) := by decide +kernel
theorem dX9_side_23 : decode cX9_side 23 = .ok (.invokevirtual 101, 3) := by decide +kernel
theorem dX9_side_26 : decode cX9_side 26 = .ok (.ireturn, 1) := by decide +kernel
theorem dX9_line_0 : decode cX9_line 0 = .ok (.iload_n 1, 1) := by decide +kernel
theorem dX9_line_1 : decode cX9_line 1 = .ok (.ifCond .ge 12, 3) := by decide +kernel
theorem dX9_line_4 : decode cX9_line 4 = .ok (.aload_n 0, 1) := by decide +kernel
theorem dX9_line_5 : decode cX9_line 5 = .ok (.bipush (-2), 2) := by decide +kernel
theorem dX9_line_7 : decode cX9_line 7 = .ok (.invokevirtual 101, 3) := by decide +kernel
theorem dX9_line_10 : decode cX9_line 10 = .ok (.goto 23, 3) := by decide +kernel
theorem dX9_line_13 : decode cX9_line 13 = .ok (.iload_n 1, 1) := by decide +kernel
theorem dX9_line_14 : decode cX9_line 14 = .ok (.aload_n 0, 1) := by decide +kernel
theorem dX9_line_15 : decode cX9_line 15 = .ok (.getfield 7, 3) := by decide +kernel
theorem dX9_line_18 : decode cX9_line 18 = .ok (.bipush 6, 2) := by decide +kernel
theorem dX9_line_20 : decode cX9_line 20 = .ok (.iaload, 1) := by decide +kernel
theorem dX9_line_21 : decode cX9_line 21 = .ok (.if_icmp .ge 11, 3) := by decide +kernel
theorem dX9_line_24 : decode cX9_line 24 = .ok (.aload_n 0, 1) := by decide +kernel
theorem dX9_line_25 : decode cX9_line 25 = .ok (.iload_n 1, 1) := by decide +kernel
theorem dX9_line_26 : decode cX9_line 26 = .ok (.invokevirtual 71, 3) := by decide +kernel
theorem dX9_line_29 : decode cX9_line 29 = .ok (.goto 4, 3) := by decide +kernel
theorem dX9_line_32 : decode cX9_line 32 = .ok (.iconst (-1), 1) := by decide +kernel
theorem dX9_line_33 : decode cX9_line 33 = .ok (.ireturn, 1) := by decide +kernel
theorem dX9_canLay_0 : decode cX9_canLay 0 = .ok (.aload_n 0, 1) := by decide +kernel
theorem dX9_canLay_1 : decode cX9_canLay 1 = .ok (.iload_n 1, 1) := by decide +kernel
theorem dX9_canLay_2 : decode cX9_canLay 2 = .ok (.invokevirtual 94, 3) := by decide +kernel
theorem dX9_canLay_5 : decode cX9_canLay 5 = .ok (.ifCond .eq 11, 3) := by decide +kernel
theorem dX9_canLay_8 : decode cX9_canLay 8 = .ok (.iload_n 2, 1) := by decide +kernel
theorem dX9_canLay_9 : decode cX9_canLay 9 = .ok (.iload_n 3, 1) := by decide +kernel
theorem dX9_canLay_10 : decode cX9_canLay 10 = .ok (.invokestatic 97, 3) := by decide +kernel
theorem dX9_canLay_13 : decode cX9_canLay 13 = .ok (.ifCond .ne 8, 3) := by decide +kernel
theorem dX9_canLay_16 : decode cX9_canLay 16 = .ok (.bipush (-2), 2) := by decide +kernel
theorem dX9_canLay_18 : decode cX9_canLay 18 = .ok (.goto 19, 3) := by decide +kernel
theorem dX9_canLay_21 : decode cX9_canLay 21 = .ok (.aload_n 0, 1) := by decide +kernel
theorem dX9_canLay_22 : decode cX9_canLay 22 = .ok (.iload_n 1, 1) := by decide +kernel
theorem dX9_canLay_23 : decode cX9_canLay 23 = .ok (.iload_n 2, 1) := by decide +kernel
theorem dX9_canLay_24 : decode cX9_canLay 24 = .ok (.iload_n 3, 1) := by decide +kernel
theorem dX9_canLay_25 : decode cX9_canLay 25 = .ok (.invokevirtual 89, 3) := by decide +kernel
theorem dX9_canLay_28 : decode cX9_canLay 28 = .ok (.ifCond .eq 7, 3) := by decide +kernel
theorem dX9_canLay_31 : decode cX9_canLay 31 = .ok (.iconst 0, 1) := by decide +kernel
theorem dX9_canLay_32 : decode cX9_canLay 32 = .ok (.goto 5, 3) := by decide +kernel
theorem dX9_canLay_35 : decode cX9_canLay 35 = .ok (.bipush (-3), 2) := by decide +kernel
theorem dX9_canLay_37 : decode cX9_canLay 37 = .ok (.ireturn, 1) := by decide +kernel
theorem dX9_layNow_0 : decode cX9_layNow 0 = .ok (.aload_n 0, 1) := by decide +kernel
theorem dX9_layNow_1 : decode cX9_layNow 1 = .ok (.iload_n 1, 1) := by decide +kernel
theorem dX9_layNow_2 : decode cX9_layNow 2 = .ok (.invokevirtual 82, 3) := by decide +kernel
theorem dX9_layNow_5 : decode cX9_layNow 5 = .ok (.ifCond .eq 7, 3) := by decide +kernel
theorem dX9_layNow_8 : decode cX9_layNow 8 = .ok (.iconst 1, 1) := by decide +kernel
theorem dX9_layNow_9 : decode cX9_layNow 9 = .ok (.goto 4, 3) := by decide +kernel
theorem dX9_layNow_12 : decode cX9_layNow 12 = .ok (.iconst 0, 1) := by decide +kernel
theorem dX9_layNow_13 : decode cX9_layNow 13 = .ok (.istore 4, 2) := by decide +kernel
theorem dX9_layNow_15 : decode cX9_layNow 15 = .ok (.aload_n 0, 1) := by decide +kernel
theorem dX9_layNow_16 : decode cX9_layNow 16 = .ok (.iload_n 1, 1) := by decide +kernel
theorem dX9_layNow_17 : decode cX9_layNow 17 = .ok (.iconst 4, 1) := by decide +kernel
theorem dX9_layNow_18 : decode cX9_layNow 18 = .ok (.iload_n 2, 1) := by decide +kernel
theorem dX9_layNow_19 : decode cX9_layNow 19 = .ok (.invokevirtual 138, 3) := by decide +kernel
theorem dX9_layNow_22 : decode cX9_layNow 22 = .ok (.aload_n 0, 1) := by decide +kernel
theorem dX9_layNow_23 : decode cX9_layNow 23 = .ok (.iload_n 1, 1) := by decide +kernel
theorem dX9_layNow_24 : decode cX9_layNow 24 = .ok (.iconst 5, 1) := by decide +kernel
theorem dX9_layNow_25 : decode cX9_layNow 25 = .ok (.iload_n 3, 1) := by decide +kernel
theorem dX9_layNow_26 : decode cX9_layNow 26 = .ok (.invokevirtual 138, 3) := by decide +kernel
theorem dX9_layNow_29 : decode cX9_layNow 29 = .ok (.iload 4, 2) := by decide +kernel
theorem dX9_layNow_31 : decode cX9_layNow 31 = .ok (.ireturn, 1) := by decide +kernel
theorem dX9_lays_0 : decode cX9_lays 0 = .ok (.aload_n 0, 1) := by decide +kernel
theorem dX9_lays_1 : decode cX9_lays 1 = .ok (.iload_n 1, 1) := by decide +kernel
theorem dX9_lays_2 : decode cX9_lays 2 = .ok (.iload_n 2, 1) := by decide +kernel
theorem dX9_lays_3 : decode cX9_lays 3 = .ok (.iload_n 3, 1) := by decide +kernel
theorem dX9_lays_4 : decode cX9_lays 4 = .ok (.invokevirtual 168, 3) := by decide +kernel
theorem dX9_lays_7 : decode cX9_lays 7 = .ok (.istore 4, 2) := by decide +kernel
theorem dX9_lays_9 : decode cX9_lays 9 = .ok (.iload 4, 2) := by decide +kernel
theorem dX9_lays_11 : decode cX9_lays 11 = .ok (.ifCond .ge 10, 3) := by decide +kernel
theorem dX9_lays_14 : decode cX9_lays 14 = .ok (.aload_n 0, 1) := by decide +kernel
theorem dX9_lays_15 : decode cX9_lays 15 = .ok (.iload 4, 2) := by decide +kernel
theorem dX9_lays_17 : decode cX9_lays 17 = .ok (.invokevirtual 101, 3) := by decide +kernel
theorem dX9_lays_20 : decode cX9_lays 20 = .ok (.ireturn, 1) := by decide +kernel
theorem dX9_lays_21 : decode cX9_lays 21 = .ok (.aload_n 0, 1) := by decide +kernel
theorem dX9_lays_22 : decode cX9_lays 22 = .ok (.invokevirtual 111, 3) := by decide +kernel
theorem dX9_lays_25 : decode cX9_lays 25 = .ok (.aload_n 0, 1) := by decide +kernel
theorem dX9_lays_26 : decode cX9_lays 26 = .ok (.iload_n 1, 1) := by decide +kernel
theorem dX9_lays_27 : decode cX9_lays 27 = .ok (.iload_n 2, 1) := by decide +kernel
theorem dX9_lays_28 : decode cX9_lays 28 = .ok (.iload_n 3, 1) := by decide +kernel
theorem dX9_lays_29 : decode cX9_lays 29 = .ok (.invokevirtual 172, 3) := by decide +kernel
theorem dX9_lays_32 : decode cX9_lays 32 = .ok (.ireturn, 1) := by decide +kernel
theorem dX9_liesMany_0 : decode cX9_liesMany 0 = .ok (.iconst 0, 1) := by decide +kernel
theorem dX9_liesMany_1 : decode cX9_liesMany 1 = .ok (.istore_n 1, 1) := by decide +kernel
theorem dX9_liesMany_2 : decode cX9_liesMany 2 = .ok (.iconst 0, 1) := by decide +kernel
theorem dX9_liesMany_3 : decode cX9_liesMany 3 = .ok (.istore_n 2, 1) := by decide +kernel
theorem dX9_liesMany_4 : decode cX9_liesMany 4 = .ok (.iload_n 2, 1) := by decide +kernel
theorem dX9_liesMany_5 : decode cX9_liesMany 5 = .ok (.aload_n 0, 1) := by decide +kernel
theorem dX9_liesMany_6 : decode cX9_liesMany 6 = .ok (.invokevirtual 42, 3) := by decide +kernel
theorem dX9_liesMany_9 : decode cX9_liesMany 9 = .ok (.if_icmp .ge 25, 3) := by decide +kernel
theorem dX9_liesMany_12 : decode cX9_liesMany 12 = .ok (.iload_n 1, 1) := by decide +kernel
theorem dX9_liesMany_13 : decode cX9_liesMany 13 = .ok (.aload_n 0, 1) := by decide +kernel
theorem dX9_liesMany_14 : decode cX9_liesMany 14 = .ok (.iload_n 2, 1) := by decide +kernel
theorem dX9_liesMany_15 : decode cX9_liesMany 15 = .ok (.invokevirtual 82, 3) := by decide +kernel
theorem dX9_liesMany_18 : decode cX9_liesMany 18 = .ok (.ifCond .eq 7, 3) := by decide +kernel
theorem dX9_liesMany_21 : decode cX9_liesMany 21 = .ok (.iconst 1, 1) := by decide +kernel
theorem dX9_liesMany_22 : decode cX9_liesMany 22 = .ok (.goto 4, 3) := by decide +kernel
theorem dX9_liesMany_25 : decode cX9_liesMany 25 = .ok (.iconst 0, 1) := by decide +kernel
theorem dX9_liesMany_26 : decode cX9_liesMany 26 = .ok (.iadd, 1) := by decide +kernel
theorem dX9_liesMany_27 : decode cX9_liesMany 27 = .ok (.istore_n 1, 1) := by decide +kernel
theorem dX9_liesMany_28 : decode cX9_liesMany 28 = .ok (.iinc 2 1, 3) := by decide +kernel
theorem dX9_liesMany_31 : decode cX9_liesMany 31 = .ok (.goto (-27), 3) := by decide +kernel
theorem dX9_liesMany_34 : decode cX9_liesMany 34 = .ok (.iload_n 1, 1) := by decide +kernel
theorem dX9_liesMany_35 : decode cX9_liesMany 35 = .ok (.ireturn, 1) := by decide +kernel
theorem dX9_canOff_0 : decode cX9_canOff 0 = .ok (.aload_n 0, 1) := by decide +kernel
theorem dX9_canOff_1 : decode cX9_canOff 1 = .ok (.iload_n 1, 1) := by decide +kernel
theorem dX9_canOff_2 : decode cX9_canOff 2 = .ok (.invokevirtual 94, 3) := by decide +kernel
theorem dX9_canOff_5 : decode cX9_canOff 5 = .ok (.ifCond .ne 8, 3) := by decide +kernel
theorem dX9_canOff_8 : decode cX9_canOff 8 = .ok (.bipush (-2), 2) := by decide +kernel
theorem dX9_canOff_10 : decode cX9_canOff 10 = .ok (.goto 17, 3) := by decide +kernel
theorem dX9_canOff_13 : decode cX9_canOff 13 = .ok (.aload_n 0, 1) := by decide +kernel
theorem dX9_canOff_14 : decode cX9_canOff 14 = .ok (.iload_n 1, 1) := by decide +kernel
theorem dX9_canOff_15 : decode cX9_canOff 15 = .ok (.invokevirtual 82, 3) := by decide +kernel
theorem dX9_canOff_18 : decode cX9_canOff 18 = .ok (.ifCond .eq 7, 3) := by decide +kernel
theorem dX9_canOff_21 : decode cX9_canOff 21 = .ok (.iconst 0, 1) := by decide +kernel
theorem dX9_canOff_22 : decode cX9_canOff 22 = .ok (.goto 5, 3) := by decide +kernel
theorem dX9_canOff_25 : decode cX9_canOff 25 = .ok (.bipush (-3), 2) := by decide +kernel
theorem dX9_canOff_27 : decode cX9_canOff 27 = .ok (.ireturn, 1) := by decide +kernel
theorem dX9_offNow_0 : decode cX9_offNow 0 = .ok (.aload_n 0, 1) := by decide +kernel
theorem dX9_offNow_1 : decode cX9_offNow 1 = .ok (.iload_n 1, 1) := by decide +kernel
theorem dX9_offNow_2 : decode cX9_offNow 2 = .ok (.iconst 4, 1) := by decide +kernel
theorem dX9_offNow_3 : decode cX9_offNow 3 = .ok (.iconst (-1), 1) := by decide +kernel
theorem dX9_offNow_4 : decode cX9_offNow 4 = .ok (.invokevirtual 138, 3) := by decide +kernel
theorem dX9_offNow_7 : decode cX9_offNow 7 = .ok (.aload_n 0, 1) := by decide +kernel
theorem dX9_offNow_8 : decode cX9_offNow 8 = .ok (.iload_n 1, 1) := by decide +kernel
theorem dX9_offNow_9 : decode cX9_offNow 9 = .ok (.iconst 5, 1) := by decide +kernel
theorem dX9_offNow_10 : decode cX9_offNow 10 = .ok (.iconst (-1), 1) := by decide +kernel
theorem dX9_offNow_11 : decode cX9_offNow 11 = .ok (.invokevirtual 138, 3) := by decide +kernel
theorem dX9_offNow_14 : decode cX9_offNow 14 = .ok (.aload_n 0, 1) := by decide +kernel
theorem dX9_offNow_15 : decode cX9_offNow 15 = .ok (.invokevirtual 175, 3) := by decide +kernel
theorem dX9_offNow_18 : decode cX9_offNow 18 = .ok (.ireturn, 1) := by decide +kernel
theorem dX9_off_0 : decode cX9_off 0 = .ok (.aload_n 0, 1) := by decide +kernel
theorem dX9_off_1 : decode cX9_off 1 = .ok (.iload_n 1, 1) := by decide +kernel
theorem dX9_off_2 : decode cX9_off 2 = .ok (.invokevirtual 178, 3) := by decide +kernel
theorem dX9_off_5 : decode cX9_off 5 = .ok (.istore_n 2, 1) := by decide +kernel
theorem dX9_off_6 : decode cX9_off 6 = .ok (.iload_n 2, 1) := by decide +kernel
theorem dX9_off_7 : decode cX9_off 7 = .ok (.ifCond .ge 9, 3) := by decide +kernel
theorem dX9_off_10 : decode cX9_off 10 = .ok (.aload_n 0, 1) := by decide +kernel
theorem dX9_off_11 : decode cX9_off 11 = .ok (.iload_n 2, 1) := by decide +kernel
theorem dX9_off_12 : decode cX9_off 12 = .ok (.invokevirtual 101, 3) := by decide +kernel
theorem dX9_off_15 : decode cX9_off 15 = .ok (.ireturn, 1) := by decide +kernel
theorem dX9_off_16 : decode cX9_off 16 = .ok (.aload_n 0, 1) := by decide +kernel
theorem dX9_off_17 : decode cX9_off 17 = .ok (.invokevirtual 111, 3) := by decide +kernel
theorem dX9_off_20 : decode cX9_off 20 = .ok (.aload_n 0, 1) := by decide +kernel
theorem dX9_off_21 : decode cX9_off 21 = .ok (.iload_n 1, 1) := by decide +kernel
theorem dX9_off_22 : decode cX9_off 22 = .ok (.invokevirtual 181, 3) := by decide +kernel
theorem dX9_off_25 : decode cX9_off 25 = .ok (.ireturn, 1) := by decide +kernel
theorem dX9_swaps_0 : decode cX9_swaps 0 = .ok (.aload_n 0, 1) := by decide +kernel
theorem dX9_swaps_1 : decode cX9_swaps 1 = .ok (.iload_n 1, 1) := by decide +kernel
theorem dX9_swaps_2 : decode cX9_swaps 2 = .ok (.invokevirtual 94, 3) := by decide +kernel
theorem dX9_swaps_5 : decode cX9_swaps 5 = .ok (.ifCond .eq 16, 3) := by decide +kernel
theorem dX9_swaps_8 : decode cX9_swaps 8 = .ok (.aload_n 0, 1) := by decide +kernel
theorem dX9_swaps_9 : decode cX9_swaps 9 = .ok (.iload_n 2, 1) := by decide +kernel
theorem dX9_swaps_10 : decode cX9_swaps 10 = .ok (.invokevirtual 94, 3) := by decide +kernel
theorem dX9_swaps_13 : decode cX9_swaps 13 = .ok (.ifCond .eq 8, 3) := by decide +kernel
theorem dX9_swaps_16 : decode cX9_swaps 16 = .ok (.iload_n 1, 1) := by decide +kernel
theorem dX9_swaps_17 : decode cX9_swaps 17 = .ok (.iload_n 2, 1) := by decide +kernel
theorem dX9_swaps_18 : decode cX9_swaps 18 = .ok (.if_icmp .ne 10, 3) := by decide +kernel
theorem dX9_swaps_21 : decode cX9_swaps 21 = .ok (.aload_n 0, 1) := by decide +kernel
theorem dX9_swaps_22 : decode cX9_swaps 22 = .ok (.bipush (-2), 2) := by decide +kernel
theorem dX9_swaps_24 : decode cX9_swaps 24 = .ok (.invokevirtual 101, 3) := by decide +kernel
theorem dX9_swaps_27 : decode cX9_swaps 27 = .ok (.ireturn, 1) := by decide +kernel
theorem dX9_swaps_28 : decode cX9_swaps 28 = .ok (.aload_n 0, 1) := by decide +kernel
theorem dX9_swaps_29 : decode cX9_swaps 29 = .ok (.iload_n 1, 1) := by decide +kernel
theorem dX9_swaps_30 : decode cX9_swaps 30 = .ok (.invokevirtual 82, 3) := by decide +kernel
theorem dX9_swaps_33 : decode cX9_swaps 33 = .ok (.ifCond .ne 18, 3) := by decide +kernel
theorem dX9_swaps_36 : decode cX9_swaps 36 = .ok (.aload_n 0, 1) := by decide +kernel
theorem dX9_swaps_37 : decode cX9_swaps 37 = .ok (.iload_n 2, 1) := by decide +kernel
theorem dX9_swaps_38 : decode cX9_swaps 38 = .ok (.invokevirtual 82, 3) := by decide +kernel
theorem dX9_swaps_41 : decode cX9_swaps 41 = .ok (.ifCond .ne 10, 3) := by decide +kernel
theorem dX9_swaps_44 : decode cX9_swaps 44 = .ok (.aload_n 0, 1) := by decide +kernel
theorem dX9_swaps_45 : decode cX9_swaps 45 = .ok (.bipush (-3), 2) := by decide +kernel
theorem dX9_swaps_47 : decode cX9_swaps 47 = .ok (.invokevirtual 101, 3) := by decide +kernel
theorem dX9_swaps_50 : decode cX9_swaps 50 = .ok (.ireturn, 1) := by decide +kernel
theorem dX9_swaps_51 : decode cX9_swaps 51 = .ok (.aload_n 0, 1) := by decide +kernel
theorem dX9_swaps_52 : decode cX9_swaps 52 = .ok (.invokevirtual 111, 3) := by decide +kernel
theorem dX9_swaps_55 : decode cX9_swaps 55 = .ok (.aload_n 0, 1) := by decide +kernel
theorem dX9_swaps_56 : decode cX9_swaps 56 = .ok (.iload_n 1, 1) := by decide +kernel
theorem dX9_swaps_57 : decode cX9_swaps 57 = .ok (.iconst 4, 1) := by decide +kernel
theorem dX9_swaps_58 : decode cX9_swaps 58 = .ok (.invokevirtual 50, 3) := by decide +kernel
theorem dX9_swaps_61 : decode cX9_swaps 61 = .ok (.istore_n 3, 1) := by decide +kernel
theorem dX9_swaps_62 : decode cX9_swaps 62 = .ok (.aload_n 0, 1) := by decide +kernel
theorem dX9_swaps_63 : decode cX9_swaps 63 = .ok (.iload_n 1, 1) := by decide +kernel
theorem dX9_swaps_64 : decode cX9_swaps 64 = .ok (.iconst 5, 1) := by decide +kernel
theorem dX9_swaps_65 : decode cX9_swaps 65 = .ok (.invokevirtual 50, 3) := by decide +kernel
theorem dX9_swaps_68 : decode cX9_swaps 68 = .ok (.istore 4, 2) := by decide +kernel
theorem dX9_swaps_70 : decode cX9_swaps 70 = .ok (.aload_n 0, 1) := by decide +kernel
theorem dX9_swaps_71 : decode cX9_swaps 71 = .ok (.iload_n 1, 1) := by decide +kernel
theorem dX9_swaps_72 : decode cX9_swaps 72 = .ok (.iconst 4, 1) := by decide +kernel
theorem dX9_swaps_73 : decode cX9_swaps 73 = .ok (.aload_n 0, 1) := by decide +kernel
theorem dX9_swaps_74 : decode cX9_swaps 74 = .ok (.iload_n 2, 1) := by decide +kernel
theorem dX9_swaps_75 : decode cX9_swaps 75 = .ok (.iconst 4, 1) := by decide +kernel
theorem dX9_swaps_76 : decode cX9_swaps 76 = .ok (.invokevirtual 50, 3) := by decide +kernel
theorem dX9_swaps_79 : decode cX9_swaps 79 = .ok (.invokevirtual 138, 3) := by decide +kernel
theorem dX9_swaps_82 : decode cX9_swaps 82 = .ok (.aload_n 0, 1) := by decide +kernel
theorem dX9_swaps_83 : decode cX9_swaps 83 = .ok (.iload_n 1, 1) := by decide +kernel
theorem dX9_swaps_84 : decode cX9_swaps 84 = .ok (.iconst 5, 1) := by decide +kernel
theorem dX9_swaps_85 : decode cX9_swaps 85 = .ok (.aload_n 0, 1) := by decide +kernel
theorem dX9_swaps_86 : decode cX9_swaps 86 = .ok (.iload_n 2, 1) := by decide +kernel
theorem dX9_swaps_87 : decode cX9_swaps 87 = .ok (.iconst 5, 1) := by decide +kernel
theorem dX9_swaps_88 : decode cX9_swaps 88 = .ok (.invokevirtual 50, 3) := by decide +kernel
theorem dX9_swaps_91 : decode cX9_swaps 91 = .ok (.invokevirtual 138, 3) := by decide +kernel
theorem dX9_swaps_94 : decode cX9_swaps 94 = .ok (.aload_n 0, 1) := by decide +kernel
theorem dX9_swaps_95 : decode cX9_swaps 95 = .ok (.iload_n 2, 1) := by decide +kernel
theorem dX9_swaps_96 : decode cX9_swaps 96 = .ok (.iconst 4, 1) := by decide +kernel
theorem dX9_swaps_97 : decode cX9_swaps 97 = .ok (.iload_n 3, 1) := by decide +kernel
theorem dX9_swaps_98 : decode cX9_swaps 98 = .ok (.invokevirtual 138, 3) := by decide +kernel
theorem dX9_swaps_101 : decode cX9_swaps 101 = .ok (.aload_n 0, 1) := by decide +kernel
theorem dX9_swaps_102 : decode cX9_swaps 102 = .ok (.iload_n 2, 1) := by decide +kernel
theorem dX9_swaps_103 : decode cX9_swaps 103 = .ok (.iconst 5, 1) := by decide +kernel
theorem dX9_swaps_104 : decode cX9_swaps 104 = .ok (.iload 4, 2) := by decide +kernel
theorem dX9_swaps_106 : decode cX9_swaps 106 = .ok (.invokevirtual 138, 3) := by decide +kernel
theorem dX9_swaps_109 : decode cX9_swaps 109 = .ok (.aload_n 0, 1) := by decide +kernel
theorem dX9_swaps_110 : decode cX9_swaps 110 = .ok (.iload_n 1, 1) := by decide +kernel
theorem dX9_swaps_111 : decode cX9_swaps 111 = .ok (.invokevirtual 152, 3) := by decide +kernel
theorem dX9_swaps_114 : decode cX9_swaps 114 = .ok (.ifCond .eq 7, 3) := by decide +kernel
theorem dX9_swaps_117 : decode cX9_swaps 117 = .ok (.iconst 1, 1) := by decide +kernel
theorem dX9_swaps_118 : decode cX9_swaps 118 = .ok (.goto 4, 3) := by decide +kernel
theorem dX9_swaps_121 : decode cX9_swaps 121 = .ok (.iconst 0, 1) := by decide +kernel
theorem dX9_swaps_122 : decode cX9_swaps 122 = .ok (.aload_n 0, 1) := by decide +kernel
theorem dX9_swaps_123 : decode cX9_swaps 123 = .ok (.iload_n 2, 1) := by decide +kernel
theorem dX9_swaps_124 : decode cX9_swaps 124 = .ok (.invokevirtual 152, 3) := by decide +kernel
theorem dX9_swaps_127 : decode cX9_swaps 127 = .ok (.ifCond .eq 7, 3) := by decide +kernel
theorem dX9_swaps_130 : decode cX9_swaps 130 = .ok (.iconst 1, 1) := by decide +kernel
theorem dX9_swaps_131 : decode cX9_swaps 131 = .ok (.goto 4, 3) := by decide +kernel
theorem dX9_swaps_134 : decode cX9_swaps 134 = .ok (.iconst 0, 1) := by decide +kernel
theorem dX9_swaps_135 : decode cX9_swaps 135 = .ok (.iadd, 1) := by decide +kernel
theorem dX9_swaps_136 : decode cX9_swaps 136 = .ok (.ireturn, 1) := by decide +kernel
theorem dX9_firstPlace_0 : decode cX9_firstPlace 0 = .ok (.iconst 0, 1) := by decide +kernel
theorem dX9_firstPlace_1 : decode cX9_firstPlace 1 = .ok (.istore_n 2, 1) := by decide +kernel
theorem dX9_firstPlace_2 : decode cX9_firstPlace 2 = .ok (.iload_n 2, 1) := by decide +kernel
theorem dX9_firstPlace_3 : decode cX9_firstPlace 3 = .ok (.sipush 256, 3) := by decide +kernel
theorem dX9_firstPlace_6 : decode cX9_firstPlace 6 = .ok (.if_icmp .ge 27, 3) := by decide +kernel
theorem dX9_firstPlace_9 : decode cX9_firstPlace 9 = .ok (.aload_n 0, 1) := by decide +kernel
theorem dX9_firstPlace_10 : decode cX9_firstPlace 10 = .ok (.iload_n 1, 1) := by decide +kernel
theorem dX9_firstPlace_11 : decode cX9_firstPlace 11 = .ok (.iload_n 2, 1) := by decide +kernel
theorem dX9_firstPlace_12 : decode cX9_firstPlace 12 = .ok (.bipush 16, 2) := by decide +kernel
theorem dX9_firstPlace_14 : decode cX9_firstPlace 14 = .ok (.irem, 1) := by decide +kernel
theorem dX9_firstPlace_15 : decode cX9_firstPlace 15 = .ok (.iload_n 2, 1) := by decide +kernel
theorem dX9_firstPlace_16 : decode cX9_firstPlace 16 = .ok (.bipush 16, 2) := by decide +kernel
theorem dX9_firstPlace_18 : decode cX9_firstPlace 18 = .ok (.idiv, 1) := by decide +kernel
theorem dX9_firstPlace_19 : decode cX9_firstPlace 19 = .ok (.invokevirtual 89, 3) := by decide +kernel
theorem dX9_firstPlace_22 : decode cX9_firstPlace 22 = .ok (.ifCond .eq 5, 3) := by decide +kernel
theorem dX9_firstPlace_25 : decode cX9_firstPlace 25 = .ok (.iload_n 2, 1) := by decide +kernel
theorem dX9_firstPlace_26 : decode cX9_firstPlace 26 = .ok (.ireturn, 1) := by decide +kernel
theorem dX9_firstPlace_27 : decode cX9_firstPlace 27 = .ok (.iinc 2 1, 3) := by decide +kernel
theorem dX9_firstPlace_30 : decode cX9_firstPlace 30 = .ok (.goto (-28), 3) := by decide +kernel
theorem dX9_firstPlace_33 : decode cX9_firstPlace 33 = .ok (.iconst (-1), 1) := by decide +kernel
theorem dX9_firstPlace_34 : decode cX9_firstPlace 34 = .ok (.ireturn, 1) := by decide +kernel
theorem dX9_lastPlace_0 : decode cX9_lastPlace 0 = .ok (.sipush 255, 3) := by decide +kernel
theorem dX9_lastPlace_3 : decode cX9_lastPlace 3 = .ok (.istore_n 2, 1) := by decide +kernel
theorem dX9_lastPlace_4 : decode cX9_lastPlace 4 = .ok (.iload_n 2, 1) := by decide +kernel
theorem dX9_lastPlace_5 : decode cX9_lastPlace 5 = .ok (.ifCond .lt 27, 3) := by decide +kernel
theorem dX9_lastPlace_8 : decode cX9_lastPlace 8 = .ok (.aload_n 0, 1) := by decide +kernel
theorem dX9_lastPlace_9 : decode cX9_lastPlace 9 = .ok (.iload_n 1, 1) := by decide +kernel
theorem dX9_lastPlace_10 : decode cX9_lastPlace 10 = .ok (.iload_n 2, 1) := by decide +kernel
theorem dX9_lastPlace_11 : decode cX9_lastPlace 11 = .ok (.bipush 16, 2) := by decide +kernel
theorem dX9_lastPlace_13 : decode cX9_lastPlace 13 = .ok (.irem, 1) := by decide +kernel
theorem dX9_lastPlace_14 : decode cX9_lastPlace 14 = .ok (.iload_n 2, 1) := by decide +kernel
theorem dX9_lastPlace_15 : decode cX9_lastPlace 15 = .ok (.bipush 16, 2) := by decide +kernel
theorem dX9_lastPlace_17 : decode cX9_lastPlace 17 = .ok (.idiv, 1) := by decide +kernel
theorem dX9_lastPlace_18 : decode cX9_lastPlace 18 = .ok (.invokevirtual 89, 3) := by decide +kernel
theorem dX9_lastPlace_21 : decode cX9_lastPlace 21 = .ok (.ifCond .eq 5, 3) := by decide +kernel
theorem dX9_lastPlace_24 : decode cX9_lastPlace 24 = .ok (.iload_n 2, 1) := by decide +kernel
theorem dX9_lastPlace_25 : decode cX9_lastPlace 25 = .ok (.ireturn, 1) := by decide +kernel
theorem dX9_lastPlace_26 : decode cX9_lastPlace 26 = .ok (.iinc 2 (-1), 3) := by decide +kernel
theorem dX9_lastPlace_29 : decode cX9_lastPlace 29 = .ok (.goto (-25), 3) := by decide +kernel
theorem dX9_lastPlace_32 : decode cX9_lastPlace 32 = .ok (.iconst (-1), 1) := by decide +kernel
theorem dX9_lastPlace_33 : decode cX9_lastPlace 33 = .ok (.ireturn, 1) := by decide +kernel
theorem dX9_bestPlace_0 : decode cX9_bestPlace 0 = .ok (.aload_n 0, 1) := by decide +kernel
theorem dX9_bestPlace_1 : decode cX9_bestPlace 1 = .ok (.iload_n 1, 1) := by decide +kernel
theorem dX9_bestPlace_2 : decode cX9_bestPlace 2 = .ok (.iconst 4, 1) := by decide +kernel
theorem dX9_bestPlace_3 : decode cX9_bestPlace 3 = .ok (.invokevirtual 50, 3) := by decide +kernel
theorem dX9_bestPlace_6 : decode cX9_bestPlace 6 = .ok (.istore_n 2, 1) := by decide +kernel
theorem dX9_bestPlace_7 : decode cX9_bestPlace 7 = .ok (.aload_n 0, 1) := by decide +kernel
theorem dX9_bestPlace_8 : decode cX9_bestPlace 8 = .ok (.iload_n 1, 1) := by decide +kernel
theorem dX9_bestPlace_9 : decode cX9_bestPlace 9 = .ok (.iconst 5, 1) := by decide +kernel
theorem dX9_bestPlace_10 : decode cX9_bestPlace 10 = .ok (.invokevirtual 50, 3) := by decide +kernel
theorem dX9_bestPlace_13 : decode cX9_bestPlace 13 = .ok (.istore_n 3, 1) := by decide +kernel
theorem dX9_bestPlace_14 : decode cX9_bestPlace 14 = .ok (.iconst (-1), 1) := by decide +kernel
theorem dX9_bestPlace_15 : decode cX9_bestPlace 15 = .ok (.istore 4, 2) := by decide +kernel
theorem dX9_bestPlace_17 : decode cX9_bestPlace 17 = .ok (.dconst 0, 1) := by decide +kernel
theorem dX9_bestPlace_18 : decode cX9_bestPlace 18 = .ok (.dstore 5, 2) := by decide +kernel
theorem dX9_bestPlace_20 : decode cX9_bestPlace 20 = .ok (.iconst 0, 1) := by decide +kernel
theorem dX9_bestPlace_21 : decode cX9_bestPlace 21 = .ok (.istore 7, 2) := by decide +kernel
theorem dX9_bestPlace_23 : decode cX9_bestPlace 23 = .ok (.iload 7, 2) := by decide +kernel
theorem dX9_bestPlace_25 : decode cX9_bestPlace 25 = .ok (.sipush 256, 3) := by decide +kernel
theorem dX9_bestPlace_28 : decode cX9_bestPlace 28 = .ok (.if_icmp .ge 91, 3) := by decide +kernel
theorem dX9_bestPlace_31 : decode cX9_bestPlace 31 = .ok (.aload_n 0, 1) := by decide +kernel
theorem dX9_bestPlace_32 : decode cX9_bestPlace 32 = .ok (.iload_n 1, 1) := by decide +kernel
theorem dX9_bestPlace_33 : decode cX9_bestPlace 33 = .ok (.iload 7, 2) := by decide +kernel
theorem dX9_bestPlace_35 : decode cX9_bestPlace 35 = .ok (.bipush 16, 2) := by decide +kernel
theorem dX9_bestPlace_37 : decode cX9_bestPlace 37 = .ok (.irem, 1) := by decide +kernel
theorem dX9_bestPlace_38 : decode cX9_bestPlace 38 = .ok (.iload 7, 2) := by decide +kernel
theorem dX9_bestPlace_40 : decode cX9_bestPlace 40 = .ok (.bipush 16, 2) := by decide +kernel
theorem dX9_bestPlace_42 : decode cX9_bestPlace 42 = .ok (.idiv, 1) := by decide +kernel
theorem dX9_bestPlace_43 : decode cX9_bestPlace 43 = .ok (.invokevirtual 89, 3) := by decide +kernel
theorem dX9_bestPlace_46 : decode cX9_bestPlace 46 = .ok (.ifCond .eq 67, 3) := by decide +kernel
theorem dX9_bestPlace_49 : decode cX9_bestPlace 49 = .ok (.aload_n 0, 1) := by decide +kernel
theorem dX9_bestPlace_50 : decode cX9_bestPlace 50 = .ok (.iload_n 1, 1) := by decide +kernel
theorem dX9_bestPlace_51 : decode cX9_bestPlace 51 = .ok (.iconst 4, 1) := by decide +kernel
theorem dX9_bestPlace_52 : decode cX9_bestPlace 52 = .ok (.iload 7, 2) := by decide +kernel
theorem dX9_bestPlace_54 : decode cX9_bestPlace 54 = .ok (.bipush 16, 2) := by decide +kernel
theorem dX9_bestPlace_56 : decode cX9_bestPlace 56 = .ok (.irem, 1) := by decide +kernel
theorem dX9_bestPlace_57 : decode cX9_bestPlace 57 = .ok (.invokevirtual 138, 3) := by decide +kernel
theorem dX9_bestPlace_60 : decode cX9_bestPlace 60 = .ok (.aload_n 0, 1) := by decide +kernel
theorem dX9_bestPlace_61 : decode cX9_bestPlace 61 = .ok (.iload_n 1, 1) := by decide +kernel
theorem dX9_bestPlace_62 : decode cX9_bestPlace 62 = .ok (.iconst 5, 1) := by decide +kernel
theorem dX9_bestPlace_63 : decode cX9_bestPlace 63 = .ok (.iload 7, 2) := by decide +kernel
theorem dX9_bestPlace_65 : decode cX9_bestPlace 65 = .ok (.bipush 16, 2) := by decide +kernel
theorem dX9_bestPlace_67 : decode cX9_bestPlace 67 = .ok (.idiv, 1) := by decide +kernel
theorem dX9_bestPlace_68 : decode cX9_bestPlace 68 = .ok (.invokevirtual 138, 3) := by decide +kernel
theorem dX9_bestPlace_71 : decode cX9_bestPlace 71 = .ok (.aload_n 0, 1) := by decide +kernel
theorem dX9_bestPlace_72 : decode cX9_bestPlace 72 = .ok (.invokevirtual 184, 3) := by decide +kernel
theorem dX9_bestPlace_75 : decode cX9_bestPlace 75 = .ok (.dstore 8, 2) := by decide +kernel
theorem dX9_bestPlace_77 : decode cX9_bestPlace 77 = .ok (.iload 4, 2) := by decide +kernel
theorem dX9_bestPlace_79 : decode cX9_bestPlace 79 = .ok (.iconst (-1), 1) := by decide +kernel
theorem dX9_bestPlace_80 : decode cX9_bestPlace 80 = .ok (.if_icmp .eq 11, 3) := by decide +kernel
theorem dX9_bestPlace_83 : decode cX9_bestPlace 83 = .ok (.dload 8, 2) := by decide +kernel
theorem dX9_bestPlace_85 : decode cX9_bestPlace 85 = .ok (.dload 5, 2) := by decide +kernel
theorem dX9_bestPlace_87 : decode cX9_bestPlace 87 = .ok (.dcmp .g, 1) := by decide +kernel
theorem dX9_bestPlace_88 : decode cX9_bestPlace 88 = .ok (.ifCond .ge 11, 3) := by decide +kernel
theorem dX9_bestPlace_91 : decode cX9_bestPlace 91 = .ok (.iload 7, 2) := by decide +kernel
theorem dX9_bestPlace_93 : decode cX9_bestPlace 93 = .ok (.istore 4, 2) := by decide +kernel
theorem dX9_bestPlace_95 : decode cX9_bestPlace 95 = .ok (.dload 8, 2) := by decide +kernel
theorem dX9_bestPlace_97 : decode cX9_bestPlace 97 = .ok (.dstore 5, 2) := by decide +kernel
theorem dX9_bestPlace_99 : decode cX9_bestPlace 99 = .ok (.aload_n 0, 1) := by decide +kernel
theorem dX9_bestPlace_100 : decode cX9_bestPlace 100 = .ok (.iload_n 1, 1) := by decide +kernel
theorem dX9_bestPlace_101 : decode cX9_bestPlace 101 = .ok (.iconst 4, 1) := by decide +kernel
theorem dX9_bestPlace_102 : decode cX9_bestPlace 102 = .ok (.iload_n 2, 1) := by decide +kernel
theorem dX9_bestPlace_103 : decode cX9_bestPlace 103 = .ok (.invokevirtual 138, 3) := by decide +kernel
theorem dX9_bestPlace_106 : decode cX9_bestPlace 106 = .ok (.aload_n 0, 1) := by decide +kernel
theorem dX9_bestPlace_107 : decode cX9_bestPlace 107 = .ok (.iload_n 1, 1) := by decide +kernel
theorem dX9_bestPlace_108 : decode cX9_bestPlace 108 = .ok (.iconst 5, 1) := by decide +kernel
theorem dX9_bestPlace_109 : decode cX9_bestPlace 109 = .ok (.iload_n 3, 1) := by decide +kernel
theorem dX9_bestPlace_110 : decode cX9_bestPlace 110 = .ok (.invokevirtual 138, 3) := by decide +kernel
theorem dX9_bestPlace_113 : decode cX9_bestPlace 113 = .ok (.iinc 7 1, 3) := by decide +kernel
theorem dX9_bestPlace_116 : decode cX9_bestPlace 116 = .ok (.goto (-93), 3) := by decide +kernel
theorem dX9_bestPlace_119 : decode cX9_bestPlace 119 = .ok (.iload 4, 2) := by decide +kernel
theorem dX9_bestPlace_121 : decode cX9_bestPlace 121 = .ok (.ireturn, 1) := by decide +kernel
theorem dX9_placesMany_0 : decode cX9_placesMany 0 = .ok (.iconst 0, 1) := by decide +kernel
theorem dX9_placesMany_1 : decode cX9_placesMany 1 = .ok (.istore_n 2, 1) := by decide +kernel
theorem dX9_placesMany_2 : decode cX9_placesMany 2 = .ok (.iconst 0, 1) := by decide +kernel
theorem dX9_placesMany_3 : decode cX9_placesMany 3 = .ok (.istore_n 3, 1) := by decide +kernel
theorem dX9_placesMany_4 : decode cX9_placesMany 4 = .ok (.iload_n 3, 1) := by decide +kernel
theorem dX9_placesMany_5 : decode cX9_placesMany 5 = .ok (.sipush 256, 3) := by decide +kernel
theorem dX9_placesMany_8 : decode cX9_placesMany 8 = .ok (.if_icmp .ge 33, 3) := by decide +kernel
theorem dX9_placesMany_11 : decode cX9_placesMany 11 = .ok (.iload_n 2, 1) := by decide +kernel
theorem dX9_placesMany_12 : decode cX9_placesMany 12 = .ok (.aload_n 0, 1) := by decide +kernel
theorem dX9_placesMany_13 : decode cX9_placesMany 13 = .ok (.iload_n 1, 1) := by decide +kernel
theorem dX9_placesMany_14 : decode cX9_placesMany 14 = .ok (.iload_n 3, 1) := by decide +kernel
theorem dX9_placesMany_15 : decode cX9_placesMany 15 = .ok (.bipush 16, 2) := by decide +kernel
theorem dX9_placesMany_17 : decode cX9_placesMany 17 = .ok (.irem, 1) := by decide +kernel
theorem dX9_placesMany_18 : decode cX9_placesMany 18 = .ok (.iload_n 3, 1) := by decide +kernel
theorem dX9_placesMany_19 : decode cX9_placesMany 19 = .ok (.bipush 16, 2) := by decide +kernel
theorem dX9_placesMany_21 : decode cX9_placesMany 21 = .ok (.idiv, 1) := by decide +kernel
theorem dX9_placesMany_22 : decode cX9_placesMany 22 = .ok (.invokevirtual 89, 3) := by decide +kernel
theorem dX9_placesMany_25 : decode cX9_placesMany 25 = .ok (.ifCond .eq 7, 3) := by decide +kernel
theorem dX9_placesMany_28 : decode cX9_placesMany 28 = .ok (.iconst 1, 1) := by decide +kernel
theorem dX9_placesMany_29 : decode cX9_placesMany 29 = .ok (.goto 4, 3) := by decide +kernel
theorem dX9_placesMany_32 : decode cX9_placesMany 32 = .ok (.iconst 0, 1) := by decide +kernel
theorem dX9_placesMany_33 : decode cX9_placesMany 33 = .ok (.iadd, 1) := by decide +kernel
theorem dX9_placesMany_34 : decode cX9_placesMany 34 = .ok (.istore_n 2, 1) := by decide +kernel
theorem dX9_placesMany_35 : decode cX9_placesMany 35 = .ok (.iinc 3 1, 3) := by decide +kernel
theorem dX9_placesMany_38 : decode cX9_placesMany 38 = .ok (.goto (-34), 3) := by decide +kernel
theorem dX9_placesMany_41 : decode cX9_placesMany 41 = .ok (.iload_n 2, 1) := by decide +kernel
theorem dX9_placesMany_42 : decode cX9_placesMany 42 = .ok (.ireturn, 1) := by decide +kernel
theorem dX9_freeNow_0 : decode cX9_freeNow 0 = .ok (.aload_n 0, 1) := by decide +kernel
theorem dX9_freeNow_1 : decode cX9_freeNow 1 = .ok (.iload_n 1, 1) := by decide +kernel
theorem dX9_freeNow_2 : decode cX9_freeNow 2 = .ok (.invokevirtual 188, 3) := by decide +kernel
theorem dX9_freeNow_5 : decode cX9_freeNow 5 = .ok (.istore_n 3, 1) := by decide +kernel
theorem dX9_freeNow_6 : decode cX9_freeNow 6 = .ok (.iload_n 2, 1) := by decide +kernel
theorem dX9_freeNow_7 : decode cX9_freeNow 7 = .ok (.iconst 3, 1) := by decide +kernel
theorem dX9_freeNow_8 : decode cX9_freeNow 8 = .ok (.if_icmp .ne 11, 3) := by decide +kernel
theorem dX9_freeNow_11 : decode cX9_freeNow 11 = .ok (.aload_n 0, 1) := by decide +kernel
theorem dX9_freeNow_12 : decode cX9_freeNow 12 = .ok (.iload_n 1, 1) := by decide +kernel
theorem dX9_freeNow_13 : decode cX9_freeNow 13 = .ok (.invokevirtual 191, 3) := by decide +kernel
theorem dX9_freeNow_16 : decode cX9_freeNow 16 = .ok (.goto 34, 3) := by decide +kernel
theorem dX9_freeNow_19 : decode cX9_freeNow 19 = .ok (.iload_n 3, 1) := by decide +kernel
theorem dX9_freeNow_20 : decode cX9_freeNow 20 = .ok (.iconst (-1), 1) := by decide +kernel
theorem dX9_freeNow_21 : decode cX9_freeNow 21 = .ok (.if_icmp .eq 7, 3) := by decide +kernel
theorem dX9_freeNow_24 : decode cX9_freeNow 24 = .ok (.iload_n 2, 1) := by decide +kernel
theorem dX9_freeNow_25 : decode cX9_freeNow 25 = .ok (.ifCond .ne 7, 3) := by decide +kernel
theorem dX9_freeNow_28 : decode cX9_freeNow 28 = .ok (.iload_n 3, 1) := by decide +kernel
theorem dX9_freeNow_29 : decode cX9_freeNow 29 = .ok (.goto 21, 3) := by decide +kernel
theorem dX9_freeNow_32 : decode cX9_freeNow 32 = .ok (.iload_n 2, 1) := by decide +kernel
theorem dX9_freeNow_33 : decode cX9_freeNow 33 = .ok (.iconst 1, 1) := by decide +kernel
theorem dX9_freeNow_34 : decode cX9_freeNow 34 = .ok (.if_icmp .ne 11, 3) := by decide +kernel
theorem dX9_freeNow_37 : decode cX9_freeNow 37 = .ok (.aload_n 0, 1) := by decide +kernel
theorem dX9_freeNow_38 : decode cX9_freeNow 38 = .ok (.iload_n 1, 1) := by decide +kernel
theorem dX9_freeNow_39 : decode cX9_freeNow 39 = .ok (.invokevirtual 194, 3) := by decide +kernel
theorem dX9_freeNow_42 : decode cX9_freeNow 42 = .ok (.goto 8, 3) := by decide +kernel
theorem dX9_freeNow_45 : decode cX9_freeNow 45 = .ok (.aload_n 0, 1) := by decide +kernel
theorem dX9_freeNow_46 : decode cX9_freeNow 46 = .ok (.iload_n 1, 1) := by decide +kernel
theorem dX9_freeNow_47 : decode cX9_freeNow 47 = .ok (.invokevirtual 197, 3) := by decide +kernel
theorem dX9_freeNow_50 : decode cX9_freeNow 50 = .ok (.ireturn, 1) := by decide +kernel
theorem dX9_free_0 : decode cX9_free 0 = .ok (.aload_n 0, 1) := by decide +kernel
theorem dX9_free_1 : decode cX9_free 1 = .ok (.iload_n 1, 1) := by decide +kernel
theorem dX9_free_2 : decode cX9_free 2 = .ok (.invokevirtual 94, 3) := by decide +kernel
theorem dX9_free_5 : decode cX9_free 5 = .ok (.ifCond .eq 24, 3) := by decide +kernel
theorem dX9_free_8 : decode cX9_free 8 = .ok (.iload_n 2, 1) := by decide +kernel
theorem dX9_free_9 : decode cX9_free 9 = .ok (.i2l, 1) := by decide +kernel
theorem dX9_free_10 : decode cX9_free 10 = .ok (.lconst 0, 1) := by decide +kernel
theorem dX9_free_11 : decode cX9_free 11 = .ok (.ldc2_w 131, 3) := by decide +kernel
theorem dX9_free_14 : decode cX9_free 14 = .ok (.invokestatic 46, 3) := by decide +kernel
theorem dX9_free_17 : decode cX9_free 17 = .ok (.ifCond .eq 12, 3) := by decide +kernel
theorem dX9_free_20 : decode cX9_free 20 = .ok (.aload_n 0, 1) := by decide +kernel
theorem dX9_free_21 : decode cX9_free 21 = .ok (.iload_n 1, 1) := by decide +kernel
theorem dX9_free_22 : decode cX9_free 22 = .ok (.iload_n 2, 1) := by decide +kernel
theorem dX9_free_23 : decode cX9_free 23 = .ok (.invokevirtual 200, 3) := by decide +kernel
theorem dX9_free_26 : decode cX9_free 26 = .ok (.goto 9, 3) := by decide +kernel
theorem dX9_free_29 : decode cX9_free 29 = .ok (.aload_n 0, 1) := by decide +kernel
theorem dX9_free_30 : decode cX9_free 30 = .ok (.bipush (-2), 2) := by decide +kernel
theorem dX9_free_32 : decode cX9_free 32 = .ok (.invokevirtual 101, 3) := by decide +kernel
theorem dX9_free_35 : decode cX9_free 35 = .ok (.ireturn, 1) := by decide +kernel
theorem dX9_packNow_0 : decode cX9_packNow 0 = .ok (.iconst 0, 1) := by decide +kernel
theorem dX9_packNow_1 : decode cX9_packNow 1 = .ok (.istore_n 1, 1) := by decide +kernel
theorem dX9_packNow_2 : decode cX9_packNow 2 = .ok (.iload_n 1, 1) := by decide +kernel
theorem dX9_packNow_3 : decode cX9_packNow 3 = .ok (.aload_n 0, 1) := by decide +kernel
theorem dX9_packNow_4 : decode cX9_packNow 4 = .ok (.invokevirtual 42, 3) := by decide +kernel
theorem dX9_packNow_7 : decode cX9_packNow 7 = .ok (.if_icmp .ge 15, 3) := by decide +kernel
theorem dX9_packNow_10 : decode cX9_packNow 10 = .ok (.aload_n 0, 1) := by decide +kernel
theorem dX9_packNow_11 : decode cX9_packNow 11 = .ok (.iload_n 1, 1) := by decide +kernel
theorem dX9_packNow_12 : decode cX9_packNow 12 = .ok (.invokevirtual 181, 3) := by decide +kernel
theorem dX9_packNow_15 : decode cX9_packNow 15 = .ok (.istore_n 2, 1) := by decide +kernel
theorem dX9_packNow_16 : decode cX9_packNow 16 = .ok (.iinc 1 1, 3) := by decide +kernel
theorem dX9_packNow_19 : decode cX9_packNow 19 = .ok (.goto (-17), 3) := by decide +kernel
theorem dX9_packNow_22 : decode cX9_packNow 22 = .ok (.iconst 1, 1) := by decide +kernel
theorem dX9_packNow_23 : decode cX9_packNow 23 = .ok (.istore_n 1, 1) := by decide +kernel
theorem dX9_packNow_24 : decode cX9_packNow 24 = .ok (.iload_n 1, 1) := by decide +kernel
theorem dX9_packNow_25 : decode cX9_packNow 25 = .ok (.bipush 6, 2) := by decide +kernel
theorem dX9_packNow_27 : decode cX9_packNow 27 = .ok (.if_icmp .gt 65, 3) := by decide +kernel
theorem dX9_packNow_30 : decode cX9_packNow 30 = .ok (.iconst 0, 1) := by decide +kernel
theorem dX9_packNow_31 : decode cX9_packNow 31 = .ok (.istore_n 2, 1) := by decide +kernel
theorem dX9_packNow_32 : decode cX9_packNow 32 = .ok (.iload_n 2, 1) := by decide +kernel
theorem dX9_packNow_33 : decode cX9_packNow 33 = .ok (.aload_n 0, 1) := by decide +kernel
theorem dX9_packNow_34 : decode cX9_packNow 34 = .ok (.invokevirtual 42, 3) := by decide +kernel
theorem dX9_packNow_37 : decode cX9_packNow 37 = .ok (.if_icmp .ge 49, 3) := by decide +kernel
theorem dX9_packNow_40 : decode cX9_packNow 40 = .ok (.aload_n 0, 1) := by decide +kernel
theorem dX9_packNow_41 : decode cX9_packNow 41 = .ok (.iload_n 2, 1) := by decide +kernel
theorem dX9_packNow_42 : decode cX9_packNow 42 = .ok (.iconst 1, 1) := by decide +kernel
theorem dX9_packNow_43 : decode cX9_packNow 43 = .ok (.invokevirtual 50, 3) := by decide +kernel
theorem dX9_packNow_46 : decode cX9_packNow 46 = .ok (.iload_n 1, 1) := by decide +kernel
theorem dX9_packNow_47 : decode cX9_packNow 47 = .ok (.if_icmp .ne 11, 3) := by decide +kernel
theorem dX9_packNow_50 : decode cX9_packNow 50 = .ok (.aload_n 0, 1) := by decide +kernel
theorem dX9_packNow_51 : decode cX9_packNow 51 = .ok (.iload_n 2, 1) := by decide +kernel
theorem dX9_packNow_52 : decode cX9_packNow 52 = .ok (.invokevirtual 188, 3) := by decide +kernel
theorem dX9_packNow_55 : decode cX9_packNow 55 = .ok (.goto 4, 3) := by decide +kernel
theorem dX9_packNow_58 : decode cX9_packNow 58 = .ok (.iconst (-1), 1) := by decide +kernel
theorem dX9_packNow_59 : decode cX9_packNow 59 = .ok (.istore_n 3, 1) := by decide +kernel
theorem dX9_packNow_60 : decode cX9_packNow 60 = .ok (.iload_n 3, 1) := by decide +kernel
theorem dX9_packNow_61 : decode cX9_packNow 61 = .ok (.iconst (-1), 1) := by decide +kernel
theorem dX9_packNow_62 : decode cX9_packNow 62 = .ok (.if_icmp .eq 18, 3) := by decide +kernel
theorem dX9_packNow_65 : decode cX9_packNow 65 = .ok (.aload_n 0, 1) := by decide +kernel
theorem dX9_packNow_66 : decode cX9_packNow 66 = .ok (.iload_n 2, 1) := by decide +kernel
theorem dX9_packNow_67 : decode cX9_packNow 67 = .ok (.iload_n 3, 1) := by decide +kernel
theorem dX9_packNow_68 : decode cX9_packNow 68 = .ok (.bipush 16, 2) := by decide +kernel
theorem dX9_packNow_70 : decode cX9_packNow 70 = .ok (.irem, 1) := by decide +kernel
theorem dX9_packNow_71 : decode cX9_packNow 71 = .ok (.iload_n 3, 1) := by decide +kernel
theorem dX9_packNow_72 : decode cX9_packNow 72 = .ok (.bipush 16, 2) := by decide +kernel
theorem dX9_packNow_74 : decode cX9_packNow 74 = .ok (.idiv, 1) := by decide +kernel
theorem dX9_packNow_75 : decode cX9_packNow 75 = .ok (.invokevirtual 172, 3) := by decide +kernel
theorem dX9_packNow_78 : decode cX9_packNow 78 = .ok (.istore 4, 2) := by decide +kernel
theorem dX9_packNow_80 : decode cX9_packNow 80 = .ok (.iinc 2 1, 3) := by decide +kernel
theorem dX9_packNow_83 : decode cX9_packNow 83 = .ok (.goto (-51), 3) := by decide +kernel
theorem dX9_packNow_86 : decode cX9_packNow 86 = .ok (.iinc 1 1, 3) := by decide +kernel
theorem dX9_packNow_89 : decode cX9_packNow 89 = .ok (.goto (-65), 3) := by decide +kernel
theorem dX9_packNow_92 : decode cX9_packNow 92 = .ok (.aload_n 0, 1) := by decide +kernel
theorem dX9_packNow_93 : decode cX9_packNow 93 = .ok (.invokevirtual 175, 3) := by decide +kernel
theorem dX9_packNow_96 : decode cX9_packNow 96 = .ok (.ireturn, 1) := by decide +kernel
theorem dX9_packs_0 : decode cX9_packs 0 = .ok (.aload_n 0, 1) := by decide +kernel
theorem dX9_packs_1 : decode cX9_packs 1 = .ok (.invokevirtual 111, 3) := by decide +kernel
theorem dX9_packs_4 : decode cX9_packs 4 = .ok (.aload_n 0, 1) := by decide +kernel
theorem dX9_packs_5 : decode cX9_packs 5 = .ok (.invokevirtual 203, 3) := by decide +kernel
theorem dX9_packs_8 : decode cX9_packs 8 = .ok (.ireturn, 1) := by decide +kernel
theorem dX9_areFit_0 : decode cX9_areFit 0 = .ok (.iconst 0, 1) := by decide +kernel
theorem dX9_areFit_1 : decode cX9_areFit 1 = .ok (.istore_n 2, 1) := by decide +kernel
theorem dX9_areFit_2 : decode cX9_areFit 2 = .ok (.iload_n 2, 1) := by decide +kernel
theorem dX9_areFit_3 : decode cX9_areFit 3 = .ok (.aload_n 0, 1) := by decide +kernel
theorem dX9_areFit_4 : decode cX9_areFit 4 = .ok (.invokevirtual 42, 3) := by decide +kernel
theorem dX9_areFit_7 : decode cX9_areFit 7 = .ok (.if_icmp .ge 93, 3) := by decide +kernel
theorem dX9_areFit_10 : decode cX9_areFit 10 = .ok (.iload_n 1, 1) := by decide +kernel
theorem dX9_areFit_11 : decode cX9_areFit 11 = .ok (.iload_n 2, 1) := by decide +kernel
theorem dX9_areFit_12 : decode cX9_areFit 12 = .ok (.ishr, 1) := by decide +kernel
theorem dX9_areFit_13 : decode cX9_areFit 13 = .ok (.iconst 1, 1) := by decide +kernel
theorem dX9_areFit_14 : decode cX9_areFit 14 = .ok (.iand, 1) := by decide +kernel
theorem dX9_areFit_15 : decode cX9_areFit 15 = .ok (.iconst 1, 1) := by decide +kernel
theorem dX9_areFit_16 : decode cX9_areFit 16 = .ok (.if_icmp .ne 78, 3) := by decide +kernel
theorem dX9_areFit_19 : decode cX9_areFit 19 = .ok (.aload_n 0, 1) := by decide +kernel
theorem dX9_areFit_20 : decode cX9_areFit 20 = .ok (.iload_n 2, 1) := by decide +kernel
theorem dX9_areFit_21 : decode cX9_areFit 21 = .ok (.invokevirtual 82, 3) := by decide +kernel
theorem dX9_areFit_24 : decode cX9_areFit 24 = .ok (.ifCond .eq 23, 3) := by decide +kernel
theorem dX9_areFit_27 : decode cX9_areFit 27 = .ok (.aload_n 0, 1) := by decide +kernel
theorem dX9_areFit_28 : decode cX9_areFit 28 = .ok (.iload_n 2, 1) := by decide +kernel
theorem dX9_areFit_29 : decode cX9_areFit 29 = .ok (.aload_n 0, 1) := by decide +kernel
theorem dX9_areFit_30 : decode cX9_areFit 30 = .ok (.iload_n 2, 1) := by decide +kernel
theorem dX9_areFit_31 : decode cX9_areFit 31 = .ok (.iconst 4, 1) := by decide +kernel
theorem dX9_areFit_32 : decode cX9_areFit 32 = .ok (.invokevirtual 50, 3) := by decide +kernel
theorem dX9_areFit_35 : decode cX9_areFit 35 = .ok (.aload_n 0, 1) := by decide +kernel
theorem dX9_areFit_36 : decode cX9_areFit 36 = .ok (.iload_n 2, 1) := by decide +kernel
theorem dX9_areFit_37 : decode cX9_areFit 37 = .ok (.iconst 5, 1) := by decide +kernel
theorem dX9_areFit_38 : decode cX9_areFit 38 = .ok (.invokevirtual 50, 3) := by decide +kernel
theorem dX9_areFit_41 : decode cX9_areFit 41 = .ok (.invokevirtual 78, 3) := by decide +kernel
theorem dX9_areFit_44 : decode cX9_areFit 44 = .ok (.ifCond .ne 5, 3) := by decide +kernel
theorem dX9_areFit_47 : decode cX9_areFit 47 = .ok (.iconst 0, 1) := by decide +kernel
theorem dX9_areFit_48 : decode cX9_areFit 48 = .ok (.ireturn, 1) := by decide +kernel
theorem dX9_areFit_49 : decode cX9_areFit 49 = .ok (.iconst 0, 1) := by decide +kernel
theorem dX9_areFit_50 : decode cX9_areFit 50 = .ok (.istore_n 3, 1) := by decide +kernel
theorem dX9_areFit_51 : decode cX9_areFit 51 = .ok (.iload_n 3, 1) := by decide +kernel
theorem dX9_areFit_52 : decode cX9_areFit 52 = .ok (.iload_n 2, 1) := by decide +kernel
theorem dX9_areFit_53 : decode cX9_areFit 53 = .ok (.if_icmp .ge 41, 3) := by decide +kernel
theorem dX9_areFit_56 : decode cX9_areFit 56 = .ok (.iload_n 1, 1) := by decide +kernel
theorem dX9_areFit_57 : decode cX9_areFit 57 = .ok (.iload_n 3, 1) := by decide +kernel
theorem dX9_areFit_58 : decode cX9_areFit 58 = .ok (.ishr, 1) := by decide +kernel
theorem dX9_areFit_59 : decode cX9_areFit 59 = .ok (.iconst 1, 1) := by decide +kernel
theorem dX9_areFit_60 : decode cX9_areFit 60 = .ok (.iand, 1) := by decide +kernel
theorem dX9_areFit_61 : decode cX9_areFit 61 = .ok (.iconst 1, 1) := by decide +kernel
theorem dX9_areFit_62 : decode cX9_areFit 62 = .ok (.if_icmp .ne 26, 3) := by decide +kernel
theorem dX9_areFit_65 : decode cX9_areFit 65 = .ok (.aload_n 0, 1) := by decide +kernel
theorem dX9_areFit_66 : decode cX9_areFit 66 = .ok (.iload_n 2, 1) := by decide +kernel
theorem dX9_areFit_67 : decode cX9_areFit 67 = .ok (.aload_n 0, 1) := by decide +kernel
theorem dX9_areFit_68 : decode cX9_areFit 68 = .ok (.iload_n 2, 1) := by decide +kernel
theorem dX9_areFit_69 : decode cX9_areFit 69 = .ok (.iconst 4, 1) := by decide +kernel
theorem dX9_areFit_70 : decode cX9_areFit 70 = .ok (.invokevirtual 50, 3) := by decide +kernel
theorem dX9_areFit_73 : decode cX9_areFit 73 = .ok (.aload_n 0, 1) := by decide +kernel
theorem dX9_areFit_74 : decode cX9_areFit 74 = .ok (.iload_n 2, 1) := by decide +kernel
theorem dX9_areFit_75 : decode cX9_areFit 75 = .ok (.iconst 5, 1) := by decide +kernel
theorem dX9_areFit_76 : decode cX9_areFit 76 = .ok (.invokevirtual 50, 3) := by decide +kernel
theorem dX9_areFit_79 : decode cX9_areFit 79 = .ok (.iload_n 3, 1) := by decide +kernel
theorem dX9_areFit_80 : decode cX9_areFit 80 = .ok (.invokevirtual 85, 3) := by decide +kernel
theorem dX9_areFit_83 : decode cX9_areFit 83 = .ok (.ifCond .ne 5, 3) := by decide +kernel
theorem dX9_areFit_86 : decode cX9_areFit 86 = .ok (.iconst 0, 1) := by decide +kernel
theorem dX9_areFit_87 : decode cX9_areFit 87 = .ok (.ireturn, 1) := by decide +kernel
theorem dX9_areFit_88 : decode cX9_areFit 88 = .ok (.iinc 3 1, 3) := by decide +kernel
theorem dX9_areFit_91 : decode cX9_areFit 91 = .ok (.goto (-40), 3) := by decide +kernel
theorem dX9_areFit_94 : decode cX9_areFit 94 = .ok (.iinc 2 1, 3) := by decide +kernel
theorem dX9_areFit_97 : decode cX9_areFit 97 = .ok (.goto (-95), 3) := by decide +kernel
theorem dX9_areFit_100 : decode cX9_areFit 100 = .ok (.iconst 1, 1) := by decide +kernel
theorem dX9_areFit_101 : decode cX9_areFit 101 = .ok (.ireturn, 1) := by decide +kernel
theorem dX9_size_0 : decode cX9_size 0 = .ok (.iconst 0, 1) := by decide +kernel
theorem dX9_size_1 : decode cX9_size 1 = .ok (.istore_n 1, 1) := by decide +kernel
theorem dX9_size_2 : decode cX9_size 2 = .ok (.iconst 0, 1) := by decide +kernel
theorem dX9_size_3 : decode cX9_size 3 = .ok (.istore_n 2, 1) := by decide +kernel
theorem dX9_size_4 : decode cX9_size 4 = .ok (.iload_n 2, 1) := by decide +kernel
theorem dX9_size_5 : decode cX9_size 5 = .ok (.bipush 8, 2) := by decide +kernel
theorem dX9_size_7 : decode cX9_size 7 = .ok (.if_icmp .ge 17, 3) := by decide +kernel
theorem dX9_size_10 : decode cX9_size 10 = .ok (.iload_n 1, 1) := by decide +kernel
theorem dX9_size_11 : decode cX9_size 11 = .ok (.iload_n 0, 1) := by decide +kernel
theorem dX9_size_12 : decode cX9_size 12 = .ok (.iload_n 2, 1) := by decide +kernel
theorem dX9_size_13 : decode cX9_size 13 = .ok (.ishr, 1) := by decide +kernel
theorem dX9_size_14 : decode cX9_size 14 = .ok (.iconst 1, 1) := by decide +kernel
theorem dX9_size_15 : decode cX9_size 15 = .ok (.iand, 1) := by decide +kernel
theorem dX9_size_16 : decode cX9_size 16 = .ok (.iadd, 1) := by decide +kernel
theorem dX9_size_17 : decode cX9_size 17 = .ok (.istore_n 1, 1) := by decide +kernel
theorem dX9_size_18 : decode cX9_size 18 = .ok (.iinc 2 1, 3) := by decide +kernel
theorem dX9_size_21 : decode cX9_size 21 = .ok (.goto (-17), 3) := by decide +kernel
theorem dX9_size_24 : decode cX9_size 24 = .ok (.iload_n 1, 1) := by decide +kernel
theorem dX9_size_25 : decode cX9_size 25 = .ok (.ireturn, 1) := by decide +kernel
theorem dX9_staying_0 : decode cX9_staying 0 = .ok (.iconst 0, 1) := by decide +kernel
theorem dX9_staying_1 : decode cX9_staying 1 = .ok (.istore_n 1, 1) := by decide +kernel
theorem dX9_staying_2 : decode cX9_staying 2 = .ok (.iconst 0, 1) := by decide +kernel
theorem dX9_staying_3 : decode cX9_staying 3 = .ok (.istore_n 2, 1) := by decide +kernel
theorem dX9_staying_4 : decode cX9_staying 4 = .ok (.iconst 1, 1) := by decide +kernel
theorem dX9_staying_5 : decode cX9_staying 5 = .ok (.istore_n 3, 1) := by decide +kernel
theorem dX9_staying_6 : decode cX9_staying 6 = .ok (.iload_n 3, 1) := by decide +kernel
theorem dX9_staying_7 : decode cX9_staying 7 = .ok (.iconst 1, 1) := by decide +kernel
theorem dX9_staying_8 : decode cX9_staying 8 = .ok (.aload_n 0, 1) := by decide +kernel
theorem dX9_staying_9 : decode cX9_staying 9 = .ok (.invokevirtual 42, 3) := by decide +kernel
theorem dX9_staying_12 : decode cX9_staying 12 = .ok (.ishl, 1) := by decide +kernel
theorem dX9_staying_13 : decode cX9_staying 13 = .ok (.if_icmp .ge 91, 3) := by decide +kernel
theorem dX9_staying_16 : decode cX9_staying 16 = .ok (.aload_n 0, 1) := by decide +kernel
theorem dX9_staying_17 : decode cX9_staying 17 = .ok (.iload_n 3, 1) := by decide +kernel
theorem dX9_staying_18 : decode cX9_staying 18 = .ok (.invokevirtual 206, 3) := by decide +kernel
theorem dX9_staying_21 : decode cX9_staying 21 = .ok (.ifCond .eq 77, 3) := by decide +kernel
theorem dX9_staying_24 : decode cX9_staying 24 = .ok (.iconst 0, 1) := by decide +kernel
theorem dX9_staying_25 : decode cX9_staying 25 = .ok (.istore 4, 2) := by decide +kernel
theorem dX9_staying_27 : decode cX9_staying 27 = .ok (.iconst 0, 1) := by decide +kernel
theorem dX9_staying_28 : decode cX9_staying 28 = .ok (.istore 5, 2) := by decide +kernel
theorem dX9_staying_30 : decode cX9_staying 30 = .ok (.iload 5, 2) := by decide +kernel
theorem dX9_staying_32 : decode cX9_staying 32 = .ok (.aload_n 0, 1) := by decide +kernel
theorem dX9_staying_33 : decode cX9_staying 33 = .ok (.invokevirtual 42, 3) := by decide +kernel
theorem dX9_staying_36 : decode cX9_staying 36 = .ok (.if_icmp .ge 34, 3) := by decide +kernel
theorem dX9_staying_39 : decode cX9_staying 39 = .ok (.iload 4, 2) := by decide +kernel
theorem dX9_staying_41 : decode cX9_staying 41 = .ok (.iload_n 3, 1) := by decide +kernel
theorem dX9_staying_42 : decode cX9_staying 42 = .ok (.iload 5, 2) := by decide +kernel
theorem dX9_staying_44 : decode cX9_staying 44 = .ok (.ishr, 1) := by decide +kernel
theorem dX9_staying_45 : decode cX9_staying 45 = .ok (.iconst 1, 1) := by decide +kernel
theorem dX9_staying_46 : decode cX9_staying 46 = .ok (.iand, 1) := by decide +kernel
theorem dX9_staying_47 : decode cX9_staying 47 = .ok (.iconst 1, 1) := by decide +kernel
theorem dX9_staying_48 : decode cX9_staying 48 = .ok (.if_icmp .ne 12, 3) := by decide +kernel
theorem dX9_staying_51 : decode cX9_staying 51 = .ok (.aload_n 0, 1) := by decide +kernel
theorem dX9_staying_52 : decode cX9_staying 52 = .ok (.iload 5, 2) := by decide +kernel
theorem dX9_staying_54 : decode cX9_staying 54 = .ok (.invokevirtual 149, 3) := by decide +kernel
theorem dX9_staying_57 : decode cX9_staying 57 = .ok (.goto 4, 3) := by decide +kernel
theorem dX9_staying_60 : decode cX9_staying 60 = .ok (.iconst 0, 1) := by decide +kernel
theorem dX9_staying_61 : decode cX9_staying 61 = .ok (.iadd, 1) := by decide +kernel
theorem dX9_staying_62 : decode cX9_staying 62 = .ok (.istore 4, 2) := by decide +kernel
theorem dX9_staying_64 : decode cX9_staying 64 = .ok (.iinc 5 1, 3) := by decide +kernel
theorem dX9_staying_67 : decode cX9_staying 67 = .ok (.goto (-37), 3) := by decide +kernel
theorem dX9_staying_70 : decode cX9_staying 70 = .ok (.iload 4, 2) := by decide +kernel
theorem dX9_staying_72 : decode cX9_staying 72 = .ok (.iload_n 2, 1) := by decide +kernel
theorem dX9_staying_73 : decode cX9_staying 73 = .ok (.if_icmp .gt 20, 3) := by decide +kernel
theorem dX9_staying_76 : decode cX9_staying 76 = .ok (.iload 4, 2) := by decide +kernel
theorem dX9_staying_78 : decode cX9_staying 78 = .ok (.iload_n 2, 1) := by decide +kernel
theorem dX9_staying_79 : decode cX9_staying 79 = .ok (.if_icmp .ne 19, 3) := by decide +kernel
theorem dX9_staying_82 : decode cX9_staying 82 = .ok (.iload_n 3, 1) := by decide +kernel
theorem dX9_staying_83 : decode cX9_staying 83 = .ok (.invokestatic 209, 3) := by decide +kernel
theorem dX9_staying_86 : decode cX9_staying 86 = .ok (.iload_n 1, 1) := by decide +kernel
theorem dX9_staying_87 : decode cX9_staying 87 = .ok (.invokestatic 209, 3) := by decide +kernel
theorem dX9_staying_90 : decode cX9_staying 90 = .ok (.if_icmp .le 8, 3) := by decide +kernel
theorem dX9_staying_93 : decode cX9_staying 93 = .ok (.iload_n 3, 1) := by decide +kernel
theorem dX9_staying_94 : decode cX9_staying 94 = .ok (.istore_n 1, 1) := by decide +kernel
theorem dX9_staying_95 : decode cX9_staying 95 = .ok (.iload 4, 2) := by decide +kernel
theorem dX9_staying_97 : decode cX9_staying 97 = .ok (.istore_n 2, 1) := by decide +kernel
theorem dX9_staying_98 : decode cX9_staying 98 = .ok (.iinc 3 1, 3) := by decide +kernel
theorem dX9_staying_101 : decode cX9_staying 101 = .ok (.goto (-95), 3) := by decide +kernel
theorem dX9_staying_104 : decode cX9_staying 104 = .ok (.iload_n 1, 1) := by decide +kernel
theorem dX9_staying_105 : decode cX9_staying 105 = .ok (.ireturn, 1) := by decide +kernel
theorem dX9_stays_0 : decode cX9_stays 0 = .ok (.aload_n 0, 1) := by decide +kernel
theorem dX9_stays_1 : decode cX9_stays 1 = .ok (.invokevirtual 212, 3) := by decide +kernel
theorem dX9_stays_4 : decode cX9_stays 4 = .ok (.ireturn, 1) := by decide +kernel
theorem dX9_nearest_0 : decode cX9_nearest 0 = .ok (.iconst (-1), 1) := by decide +kernel
theorem dX9_nearest_1 : decode cX9_nearest 1 = .ok (.istore 4, 2) := by decide +kernel
theorem dX9_nearest_3 : decode cX9_nearest 3 = .ok (.iconst 0, 1) := by decide +kernel
theorem dX9_nearest_4 : decode cX9_nearest 4 = .ok (.istore 5, 2) := by decide +kernel
theorem dX9_nearest_6 : decode cX9_nearest 6 = .ok (.iconst 0, 1) := by decide +kernel
theorem dX9_nearest_7 : decode cX9_nearest 7 = .ok (.istore 6, 2) := by decide +kernel
theorem dX9_nearest_9 : decode cX9_nearest 9 = .ok (.iload 6, 2) := by decide +kernel
theorem dX9_nearest_11 : decode cX9_nearest 11 = .ok (.sipush 256, 3) := by decide +kernel
theorem dX9_nearest_14 : decode cX9_nearest 14 = .ok (.if_icmp .ge 71, 3) := by decide +kernel
theorem dX9_nearest_17 : decode cX9_nearest 17 = .ok (.iload 6, 2) := by decide +kernel
theorem dX9_nearest_19 : decode cX9_nearest 19 = .ok (.bipush 16, 2) := by decide +kernel
theorem dX9_nearest_21 : decode cX9_nearest 21 = .ok (.irem, 1) := by decide +kernel
theorem dX9_nearest_22 : decode cX9_nearest 22 = .ok (.iload_n 2, 1) := by decide +kernel
theorem dX9_nearest_23 : decode cX9_nearest 23 = .ok (.isub, 1) := by decide +kernel
theorem dX9_nearest_24 : decode cX9_nearest 24 = .ok (.invokestatic 215, 3) := by decide +kernel
theorem dX9_nearest_27 : decode cX9_nearest 27 = .ok (.iload 6, 2) := by decide +kernel
theorem dX9_nearest_29 : decode cX9_nearest 29 = .ok (.bipush 16, 2) := by decide +kernel
theorem dX9_nearest_31 : decode cX9_nearest 31 = .ok (.idiv, 1) := by decide +kernel
theorem dX9_nearest_32 : decode cX9_nearest 32 = .ok (.iload_n 3, 1) := by decide +kernel
theorem dX9_nearest_33 : decode cX9_nearest 33 = .ok (.isub, 1) := by decide +kernel
theorem dX9_nearest_34 : decode cX9_nearest 34 = .ok (.invokestatic 215, 3) := by decide +kernel
theorem dX9_nearest_37 : decode cX9_nearest 37 = .ok (.iadd, 1) := by decide +kernel
theorem dX9_nearest_38 : decode cX9_nearest 38 = .ok (.istore 7, 2) := by decide +kernel
theorem dX9_nearest_40 : decode cX9_nearest 40 = .ok (.iload 4, 2) := by decide +kernel
theorem dX9_nearest_42 : decode cX9_nearest 42 = .ok (.iconst (-1), 1) := by decide +kernel
theorem dX9_nearest_43 : decode cX9_nearest 43 = .ok (.if_icmp .eq 10, 3) := by decide +kernel
theorem dX9_nearest_46 : decode cX9_nearest 46 = .ok (.iload 7, 2) := by decide +kernel
theorem dX9_nearest_48 : decode cX9_nearest 48 = .ok (.iload 5, 2) := by decide +kernel
theorem dX9_nearest_50 : decode cX9_nearest 50 = .ok (.if_icmp .ge 29, 3) := by decide +kernel
theorem dX9_nearest_53 : decode cX9_nearest 53 = .ok (.aload_n 0, 1) := by decide +kernel
theorem dX9_nearest_54 : decode cX9_nearest 54 = .ok (.iload_n 1, 1) := by decide +kernel
theorem dX9_nearest_55 : decode cX9_nearest 55 = .ok (.iload 6, 2) := by decide +kernel
theorem dX9_nearest_57 : decode cX9_nearest 57 = .ok (.bipush 16, 2) := by decide +kernel
theorem dX9_nearest_59 : decode cX9_nearest 59 = .ok (.irem, 1) := by decide +kernel
theorem dX9_nearest_60 : decode cX9_nearest 60 = .ok (.iload 6, 2) := by decide +kernel
theorem dX9_nearest_62 : decode cX9_nearest 62 = .ok (.bipush 16, 2) := by decide +kernel
theorem dX9_nearest_64 : decode cX9_nearest 64 = .ok (.idiv, 1) := by decide +kernel
theorem dX9_nearest_65 : decode cX9_nearest 65 = .ok (.invokevirtual 89, 3) := by decide +kernel
theorem dX9_nearest_68 : decode cX9_nearest 68 = .ok (.ifCond .eq 11, 3) := by decide +kernel
theorem dX9_nearest_71 : decode cX9_nearest 71 = .ok (.iload 6, 2) := by decide +kernel
theorem dX9_nearest_73 : decode cX9_nearest 73 = .ok (.istore 4, 2) := by decide +kernel
theorem dX9_nearest_75 : decode cX9_nearest 75 = .ok (.iload 7, 2) := by decide +kernel
theorem dX9_nearest_77 : decode cX9_nearest 77 = .ok (.istore 5, 2) := by decide +kernel
theorem dX9_nearest_79 : decode cX9_nearest 79 = .ok (.iinc 6 1, 3) := by decide +kernel
theorem dX9_nearest_82 : decode cX9_nearest 82 = .ok (.goto (-73), 3) := by decide +kernel
theorem dX9_nearest_85 : decode cX9_nearest 85 = .ok (.iload 4, 2) := by decide +kernel
theorem dX9_nearest_87 : decode cX9_nearest 87 = .ok (.ireturn, 1) := by decide +kernel
theorem dX9_tidies_0 : decode cX9_tidies 0 = .ok (.aload_n 0, 1) := by decide +kernel
theorem dX9_tidies_1 : decode cX9_tidies 1 = .ok (.invokevirtual 212, 3) := by decide +kernel
theorem dX9_tidies_4 : decode cX9_tidies 4 = .ok (.istore_n 1, 1) := by decide +kernel
theorem dX9_tidies_5 : decode cX9_tidies 5 = .ok (.aload_n 0, 1) := by decide +kernel
theorem dX9_tidies_6 : decode cX9_tidies 6 = .ok (.invokevirtual 111, 3) := by decide +kernel
theorem dX9_tidies_9 : decode cX9_tidies 9 = .ok (.iconst 0, 1) := by decide +kernel
theorem dX9_tidies_10 : decode cX9_tidies 10 = .ok (.istore_n 2, 1) := by decide +kernel
theorem dX9_tidies_11 : decode cX9_tidies 11 = .ok (.iload_n 2, 1) := by decide +kernel
theorem dX9_tidies_12 : decode cX9_tidies 12 = .ok (.aload_n 0, 1) := by decide +kernel
theorem dX9_tidies_13 : decode cX9_tidies 13 = .ok (.invokevirtual 42, 3) := by decide +kernel
theorem dX9_tidies_16 : decode cX9_tidies 16 = .ok (.if_icmp .ge 60, 3) := by decide +kernel
theorem dX9_tidies_19 : decode cX9_tidies 19 = .ok (.aload_n 0, 1) := by decide +kernel
theorem dX9_tidies_20 : decode cX9_tidies 20 = .ok (.getfield 22, 3) := by decide +kernel
theorem dX9_tidies_23 : decode cX9_tidies 23 = .ok (.iload_n 2, 1) := by decide +kernel
theorem dX9_tidies_24 : decode cX9_tidies 24 = .ok (.iconst (-1), 1) := by decide +kernel
theorem dX9_tidies_25 : decode cX9_tidies 25 = .ok (.iastore, 1) := by decide +kernel
theorem dX9_tidies_26 : decode cX9_tidies 26 = .ok (.aload_n 0, 1) := by decide +kernel
theorem dX9_tidies_27 : decode cX9_tidies 27 = .ok (.iload_n 2, 1) := by decide +kernel
theorem dX9_tidies_28 : decode cX9_tidies 28 = .ok (.invokevirtual 82, 3) := by decide +kernel
theorem dX9_tidies_31 : decode cX9_tidies 31 = .ok (.ifCond .eq 39, 3) := by decide +kernel
theorem dX9_tidies_34 : decode cX9_tidies 34 = .ok (.iload_n 1, 1) := by decide +kernel
theorem dX9_tidies_35 : decode cX9_tidies 35 = .ok (.iload_n 2, 1) := by decide +kernel
theorem dX9_tidies_36 : decode cX9_tidies 36 = .ok (.ishr, 1) := by decide +kernel
theorem dX9_tidies_37 : decode cX9_tidies 37 = .ok (.iconst 1, 1) := by decide +kernel
theorem dX9_tidies_38 : decode cX9_tidies 38 = .ok (.iand, 1) := by decide +kernel
theorem dX9_tidies_39 : decode cX9_tidies 39 = .ok (.ifCond .ne 31, 3) := by decide +kernel
theorem dX9_tidies_42 : decode cX9_tidies 42 = .ok (.aload_n 0, 1) := by decide +kernel
theorem dX9_tidies_43 : decode cX9_tidies 43 = .ok (.getfield 22, 3) := by decide +kernel
theorem dX9_tidies_46 : decode cX9_tidies 46 = .ok (.iload_n 2, 1) := by decide +kernel
theorem dX9_tidies_47 : decode cX9_tidies 47 = .ok (.bipush 16, 2) := by decide +kernel
theorem dX9_tidies_49 : decode cX9_tidies 49 = .ok (.aload_n 0, 1) := by decide +kernel
theorem dX9_tidies_50 : decode cX9_tidies 50 = .ok (.iload_n 2, 1) := by decide +kernel
theorem dX9_tidies_51 : decode cX9_tidies 51 = .ok (.iconst 5, 1) := by decide +kernel
theorem dX9_tidies_52 : decode cX9_tidies 52 = .ok (.invokevirtual 50, 3) := by decide +kernel
theorem dX9_tidies_55 : decode cX9_tidies 55 = .ok (.imul, 1) := by decide +kernel
theorem dX9_tidies_56 : decode cX9_tidies 56 = .ok (.aload_n 0, 1) := by decide +kernel
theorem dX9_tidies_57 : decode cX9_tidies 57 = .ok (.iload_n 2, 1) := by decide +kernel
theorem dX9_tidies_58 : decode cX9_tidies 58 = .ok (.iconst 4, 1) := by decide +kernel
theorem dX9_tidies_59 : decode cX9_tidies 59 = .ok (.invokevirtual 50, 3) := by decide +kernel
theorem dX9_tidies_62 : decode cX9_tidies 62 = .ok (.iadd, 1) := by decide +kernel
theorem dX9_tidies_63 : decode cX9_tidies 63 = .ok (.iastore, 1) := by decide +kernel
theorem dX9_tidies_64 : decode cX9_tidies 64 = .ok (.aload_n 0, 1) := by decide +kernel
theorem dX9_tidies_65 : decode cX9_tidies 65 = .ok (.iload_n 2, 1) := by decide +kernel
theorem dX9_tidies_66 : decode cX9_tidies 66 = .ok (.invokevirtual 181, 3) := by decide +kernel
theorem dX9_tidies_69 : decode cX9_tidies 69 = .ok (.istore_n 3, 1) := by decide +kernel
theorem dX9_tidies_70 : decode cX9_tidies 70 = .ok (.iinc 2 1, 3) := by decide +kernel
theorem dX9_tidies_73 : decode cX9_tidies 73 = .ok (.goto (-62), 3) := by decide +kernel
theorem dX9_tidies_76 : decode cX9_tidies 76 = .ok (.iconst 1, 1) := by decide +kernel
theorem dX9_tidies_77 : decode cX9_tidies 77 = .ok (.istore_n 2, 1) := by decide +kernel
theorem dX9_tidies_78 : decode cX9_tidies 78 = .ok (.iload_n 2, 1) := by decide +kernel
theorem dX9_tidies_79 : decode cX9_tidies 79 = .ok (.bipush 6, 2) := by decide +kernel
theorem dX9_tidies_81 : decode cX9_tidies 81 = .ok (.if_icmp .gt 109, 3) := by decide +kernel
theorem dX9_tidies_84 : decode cX9_tidies 84 = .ok (.iconst 0, 1) := by decide +kernel
theorem dX9_tidies_85 : decode cX9_tidies 85 = .ok (.istore_n 3, 1) := by decide +kernel
theorem dX9_tidies_86 : decode cX9_tidies 86 = .ok (.iload_n 3, 1) := by decide +kernel
theorem dX9_tidies_87 : decode cX9_tidies 87 = .ok (.aload_n 0, 1) := by decide +kernel
theorem dX9_tidies_88 : decode cX9_tidies 88 = .ok (.invokevirtual 42, 3) := by decide +kernel
theorem dX9_tidies_91 : decode cX9_tidies 91 = .ok (.if_icmp .ge 93, 3) := by decide +kernel
theorem dX9_tidies_94 : decode cX9_tidies 94 = .ok (.aload_n 0, 1) := by decide +kernel
theorem dX9_tidies_95 : decode cX9_tidies 95 = .ok (.iload_n 3, 1) := by decide +kernel
theorem dX9_tidies_96 : decode cX9_tidies 96 = .ok (.iconst 1, 1) := by decide +kernel
theorem dX9_tidies_97 : decode cX9_tidies 97 = .ok (.invokevirtual 50, 3) := by decide +kernel
theorem dX9_tidies_100 : decode cX9_tidies 100 = .ok (.iload_n 2, 1) := by decide +kernel
theorem dX9_tidies_101 : decode cX9_tidies 101 = .ok (.if_icmp .ne 17, 3) := by decide +kernel
theorem dX9_tidies_104 : decode cX9_tidies 104 = .ok (.aload_n 0, 1) := by decide +kernel
theorem dX9_tidies_105 : decode cX9_tidies 105 = .ok (.getfield 22, 3) := by decide +kernel
theorem dX9_tidies_108 : decode cX9_tidies 108 = .ok (.iload_n 3, 1) := by decide +kernel
theorem dX9_tidies_109 : decode cX9_tidies 109 = .ok (.iaload, 1) := by decide +kernel
theorem dX9_tidies_110 : decode cX9_tidies 110 = .ok (.iconst (-1), 1) := by decide +kernel
theorem dX9_tidies_111 : decode cX9_tidies 111 = .ok (.if_icmp .eq 7, 3) := by decide +kernel
theorem dX9_tidies_114 : decode cX9_tidies 114 = .ok (.iconst 1, 1) := by decide +kernel
theorem dX9_tidies_115 : decode cX9_tidies 115 = .ok (.goto 4, 3) := by decide +kernel
theorem dX9_tidies_118 : decode cX9_tidies 118 = .ok (.iconst 0, 1) := by decide +kernel
theorem dX9_tidies_119 : decode cX9_tidies 119 = .ok (.istore 4, 2) := by decide +kernel
theorem dX9_tidies_121 : decode cX9_tidies 121 = .ok (.iload 4, 2) := by decide +kernel
theorem dX9_tidies_123 : decode cX9_tidies 123 = .ok (.ifCond .eq 29, 3) := by decide +kernel
theorem dX9_tidies_126 : decode cX9_tidies 126 = .ok (.aload_n 0, 1) := by decide +kernel
theorem dX9_tidies_127 : decode cX9_tidies 127 = .ok (.iload_n 3, 1) := by decide +kernel
theorem dX9_tidies_128 : decode cX9_tidies 128 = .ok (.aload_n 0, 1) := by decide +kernel
theorem dX9_tidies_129 : decode cX9_tidies 129 = .ok (.getfield 22, 3) := by decide +kernel
theorem dX9_tidies_132 : decode cX9_tidies 132 = .ok (.iload_n 3, 1) := by decide +kernel
theorem dX9_tidies_133 : decode cX9_tidies 133 = .ok (.iaload, 1) := by decide +kernel
theorem dX9_tidies_134 : decode cX9_tidies 134 = .ok (.bipush 16, 2) := by decide +kernel
theorem dX9_tidies_136 : decode cX9_tidies 136 = .ok (.irem, 1) := by decide +kernel
theorem dX9_tidies_137 : decode cX9_tidies 137 = .ok (.aload_n 0, 1) := by decide +kernel
theorem dX9_tidies_138 : decode cX9_tidies 138 = .ok (.getfield 22, 3) := by decide +kernel
theorem dX9_tidies_141 : decode cX9_tidies 141 = .ok (.iload_n 3, 1) := by decide +kernel
theorem dX9_tidies_142 : decode cX9_tidies 142 = .ok (.iaload, 1) := by decide +kernel
theorem dX9_tidies_143 : decode cX9_tidies 143 = .ok (.bipush 16, 2) := by decide +kernel
theorem dX9_tidies_145 : decode cX9_tidies 145 = .ok (.idiv, 1) := by decide +kernel
theorem dX9_tidies_146 : decode cX9_tidies 146 = .ok (.invokevirtual 218, 3) := by decide +kernel
theorem dX9_tidies_149 : decode cX9_tidies 149 = .ok (.goto 4, 3) := by decide +kernel
theorem dX9_tidies_152 : decode cX9_tidies 152 = .ok (.iconst (-1), 1) := by decide +kernel
theorem dX9_tidies_153 : decode cX9_tidies 153 = .ok (.istore 5, 2) := by decide +kernel
theorem dX9_tidies_155 : decode cX9_tidies 155 = .ok (.iload 5, 2) := by decide +kernel
theorem dX9_tidies_157 : decode cX9_tidies 157 = .ok (.iconst (-1), 1) := by decide +kernel
theorem dX9_tidies_158 : decode cX9_tidies 158 = .ok (.if_icmp .eq 20, 3) := by decide +kernel
theorem dX9_tidies_161 : decode cX9_tidies 161 = .ok (.aload_n 0, 1) := by decide +kernel
theorem dX9_tidies_162 : decode cX9_tidies 162 = .ok (.iload_n 3, 1) := by decide +kernel
theorem dX9_tidies_163 : decode cX9_tidies 163 = .ok (.iload 5, 2) := by decide +kernel
theorem dX9_tidies_165 : decode cX9_tidies 165 = .ok (.bipush 16, 2) := by decide +kernel
theorem dX9_tidies_167 : decode cX9_tidies 167 = .ok (.irem, 1) := by decide +kernel
theorem dX9_tidies_168 : decode cX9_tidies 168 = .ok (.iload 5, 2) := by decide +kernel
theorem dX9_tidies_170 : decode cX9_tidies 170 = .ok (.bipush 16, 2) := by decide +kernel
theorem dX9_tidies_172 : decode cX9_tidies 172 = .ok (.idiv, 1) := by decide +kernel
theorem dX9_tidies_173 : decode cX9_tidies 173 = .ok (.invokevirtual 172, 3) := by decide +kernel
theorem dX9_tidies_176 : decode cX9_tidies 176 = .ok (.istore 6, 2) := by decide +kernel
theorem dX9_tidies_178 : decode cX9_tidies 178 = .ok (.iinc 3 1, 3) := by decide +kernel
theorem dX9_tidies_181 : decode cX9_tidies 181 = .ok (.goto (-95), 3) := by decide +kernel
theorem dX9_tidies_184 : decode cX9_tidies 184 = .ok (.iinc 2 1, 3) := by decide +kernel
theorem dX9_tidies_187 : decode cX9_tidies 187 = .ok (.goto (-109), 3) := by decide +kernel
theorem dX9_tidies_190 : decode cX9_tidies 190 = .ok (.iload_n 1, 1) := by decide +kernel
theorem dX9_tidies_191 : decode cX9_tidies 191 = .ok (.invokestatic 209, 3) := by decide +kernel
theorem dX9_tidies_194 : decode cX9_tidies 194 = .ok (.ireturn, 1) := by decide +kernel
theorem dX9_covers_0 : decode cX9_covers 0 = .ok (.aload_n 0, 1) := by decide +kernel
theorem dX9_covers_1 : decode cX9_covers 1 = .ok (.iload_n 1, 1) := by decide +kernel
theorem dX9_covers_2 : decode cX9_covers 2 = .ok (.invokevirtual 82, 3) := by decide +kernel
theorem dX9_covers_5 : decode cX9_covers 5 = .ok (.ifCond .eq 67, 3) := by decide +kernel
theorem dX9_covers_8 : decode cX9_covers 8 = .ok (.iload_n 2, 1) := by decide +kernel
theorem dX9_covers_9 : decode cX9_covers 9 = .ok (.i2l, 1) := by decide +kernel
theorem dX9_covers_10 : decode cX9_covers 10 = .ok (.aload_n 0, 1) := by decide +kernel
theorem dX9_covers_11 : decode cX9_covers 11 = .ok (.iload_n 1, 1) := by decide +kernel
theorem dX9_covers_12 : decode cX9_covers 12 = .ok (.iconst 4, 1) := by decide +kernel
theorem dX9_covers_13 : decode cX9_covers 13 = .ok (.invokevirtual 50, 3) := by decide +kernel
theorem dX9_covers_16 : decode cX9_covers 16 = .ok (.i2l, 1) := by decide +kernel
theorem dX9_covers_17 : decode cX9_covers 17 = .ok (.aload_n 0, 1) := by decide +kernel
theorem dX9_covers_18 : decode cX9_covers 18 = .ok (.iload_n 1, 1) := by decide +kernel
theorem dX9_covers_19 : decode cX9_covers 19 = .ok (.iconst 4, 1) := by decide +kernel
theorem dX9_covers_20 : decode cX9_covers 20 = .ok (.invokevirtual 50, 3) := by decide +kernel
theorem dX9_covers_23 : decode cX9_covers 23 = .ok (.aload_n 0, 1) := by decide +kernel
theorem dX9_covers_24 : decode cX9_covers 24 = .ok (.iload_n 1, 1) := by decide +kernel
theorem dX9_covers_25 : decode cX9_covers 25 = .ok (.invokevirtual 64, 3) := by decide +kernel
theorem dX9_covers_28 : decode cX9_covers 28 = .ok (.iadd, 1) := by decide +kernel
theorem dX9_covers_29 : decode cX9_covers 29 = .ok (.iconst 1, 1) := by decide +kernel
theorem dX9_covers_30 : decode cX9_covers 30 = .ok (.isub, 1) := by decide +kernel
theorem dX9_covers_31 : decode cX9_covers 31 = .ok (.i2l, 1) := by decide +kernel
theorem dX9_covers_32 : decode cX9_covers 32 = .ok (.invokestatic 46, 3) := by decide +kernel
theorem dX9_covers_35 : decode cX9_covers 35 = .ok (.ifCond .eq 37, 3) := by decide +kernel
theorem dX9_covers_38 : decode cX9_covers 38 = .ok (.iload_n 3, 1) := by decide +kernel
theorem dX9_covers_39 : decode cX9_covers 39 = .ok (.i2l, 1) := by decide +kernel
theorem dX9_covers_40 : decode cX9_covers 40 = .ok (.aload_n 0, 1) := by decide +kernel
theorem dX9_covers_41 : decode cX9_covers 41 = .ok (.iload_n 1, 1) := by decide +kernel
theorem dX9_covers_42 : decode cX9_covers 42 = .ok (.iconst 5, 1) := by decide +kernel
theorem dX9_covers_43 : decode cX9_covers 43 = .ok (.invokevirtual 50, 3) := by decide +kernel
theorem dX9_covers_46 : decode cX9_covers 46 = .ok (.i2l, 1) := by decide +kernel
theorem dX9_covers_47 : decode cX9_covers 47 = .ok (.aload_n 0, 1) := by decide +kernel
theorem dX9_covers_48 : decode cX9_covers 48 = .ok (.iload_n 1, 1) := by decide +kernel
theorem dX9_covers_49 : decode cX9_covers 49 = .ok (.iconst 5, 1) := by decide +kernel
theorem dX9_covers_50 : decode cX9_covers 50 = .ok (.invokevirtual 50, 3) := by decide +kernel
theorem dX9_covers_53 : decode cX9_covers 53 = .ok (.aload_n 0, 1) := by decide +kernel
theorem dX9_covers_54 : decode cX9_covers 54 = .ok (.iload_n 1, 1) := by decide +kernel
theorem dX9_covers_55 : decode cX9_covers 55 = .ok (.invokevirtual 68, 3) := by decide +kernel
theorem dX9_covers_58 : decode cX9_covers 58 = .ok (.iadd, 1) := by decide +kernel
theorem dX9_covers_59 : decode cX9_covers 59 = .ok (.iconst 1, 1) := by decide +kernel
theorem dX9_covers_60 : decode cX9_covers 60 = .ok (.isub, 1) := by decide +kernel
theorem dX9_covers_61 : decode cX9_covers 61 = .ok (.i2l, 1) := by decide +kernel
theorem dX9_covers_62 : decode cX9_covers 62 = .ok (.invokestatic 46, 3) := by decide +kernel
theorem dX9_covers_65 : decode cX9_covers 65 = .ok (.ifCond .eq 7, 3) := by decide +kernel
theorem dX9_covers_68 : decode cX9_covers 68 = .ok (.iconst 1, 1) := by decide +kernel
theorem dX9_covers_69 : decode cX9_covers 69 = .ok (.goto 4, 3) := by decide +kernel
theorem dX9_covers_72 : decode cX9_covers 72 = .ok (.iconst 0, 1) := by decide +kernel
theorem dX9_covers_73 : decode cX9_covers 73 = .ok (.ireturn, 1) := by decide +kernel
theorem dX9_covering_0 : decode cX9_covering 0 = .ok (.iconst 0, 1) := by decide +kernel
theorem dX9_covering_1 : decode cX9_covering 1 = .ok (.istore_n 3, 1) := by decide +kernel
theorem dX9_covering_2 : decode cX9_covering 2 = .ok (.iload_n 3, 1) := by decide +kernel
theorem dX9_covering_3 : decode cX9_covering 3 = .ok (.aload_n 0, 1) := by decide +kernel
theorem dX9_covering_4 : decode cX9_covering 4 = .ok (.invokevirtual 42, 3) := by decide +kernel
theorem dX9_covering_7 : decode cX9_covering 7 = .ok (.if_icmp .ge 21, 3) := by decide +kernel
theorem dX9_covering_10 : decode cX9_covering 10 = .ok (.aload_n 0, 1) := by decide +kernel
theorem dX9_covering_11 : decode cX9_covering 11 = .ok (.iload_n 3, 1) := by decide +kernel
theorem dX9_covering_12 : decode cX9_covering 12 = .ok (.iload_n 1, 1) := by decide +kernel
theorem dX9_covering_13 : decode cX9_covering 13 = .ok (.iload_n 2, 1) := by decide +kernel
theorem dX9_covering_14 : decode cX9_covering 14 = .ok (.invokevirtual 221, 3) := by decide +kernel
theorem dX9_covering_17 : decode cX9_covering 17 = .ok (.ifCond .eq 5, 3) := by decide +kernel
theorem dX9_covering_20 : decode cX9_covering 20 = .ok (.iload_n 3, 1) := by decide +kernel
theorem dX9_covering_21 : decode cX9_covering 21 = .ok (.ireturn, 1) := by decide +kernel
theorem dX9_covering_22 : decode cX9_covering 22 = .ok (.iinc 3 1, 3) := by decide +kernel
theorem dX9_covering_25 : decode cX9_covering 25 = .ok (.goto (-23), 3) := by decide +kernel
theorem dX9_covering_28 : decode cX9_covering 28 = .ok (.iconst (-1), 1) := by decide +kernel
theorem dX9_covering_29 : decode cX9_covering 29 = .ok (.ireturn, 1) := by decide +kernel
theorem dX9_isCell_0 : decode cX9_isCell 0 = .ok (.iload_n 1, 1) := by decide +kernel
theorem dX9_isCell_1 : decode cX9_isCell 1 = .ok (.i2l, 1) := by decide +kernel
theorem dX9_isCell_2 : decode cX9_isCell 2 = .ok (.lconst 0, 1) := by decide +kernel
theorem dX9_isCell_3 : decode cX9_isCell 3 = .ok (.aload_n 0, 1) := by decide +kernel
theorem dX9_isCell_4 : decode cX9_isCell 4 = .ok (.getfield 7, 3) := by decide +kernel
theorem dX9_isCell_7 : decode cX9_isCell 7 = .ok (.iconst 0, 1) := by decide +kernel
theorem dX9_isCell_8 : decode cX9_isCell 8 = .ok (.iaload, 1) := by decide +kernel
theorem dX9_isCell_9 : decode cX9_isCell 9 = .ok (.iconst 1, 1) := by decide +kernel
theorem dX9_isCell_10 : decode cX9_isCell 10 = .ok (.isub, 1) := by decide +kernel
theorem dX9_isCell_11 : decode cX9_isCell 11 = .ok (.i2l, 1) := by decide +kernel
theorem dX9_isCell_12 : decode cX9_isCell 12 = .ok (.invokestatic 46, 3) := by decide +kernel
theorem dX9_isCell_15 : decode cX9_isCell 15 = .ok (.ifCond .eq 25, 3) := by decide +kernel
theorem dX9_isCell_18 : decode cX9_isCell 18 = .ok (.iload_n 2, 1) := by decide +kernel
theorem dX9_isCell_19 : decode cX9_isCell 19 = .ok (.i2l, 1) := by decide +kernel
theorem dX9_isCell_20 : decode cX9_isCell 20 = .ok (.lconst 0, 1) := by decide +kernel
theorem dX9_isCell_21 : decode cX9_isCell 21 = .ok (.aload_n 0, 1) := by decide +kernel
theorem dX9_isCell_22 : decode cX9_isCell 22 = .ok (.getfield 7, 3) := by decide +kernel
theorem dX9_isCell_25 : decode cX9_isCell 25 = .ok (.iconst 1, 1) := by decide +kernel
theorem dX9_isCell_26 : decode cX9_isCell 26 = .ok (.iaload, 1) := by decide +kernel
theorem dX9_isCell_27 : decode cX9_isCell 27 = .ok (.iconst 1, 1) := by decide +kernel
theorem dX9_isCell_28 : decode cX9_isCell 28 = .ok (.isub, 1) := by decide +kernel
theorem dX9_isCell_29 : decode cX9_isCell 29 = .ok (.i2l, 1) := by decide +kernel
theorem dX9_isCell_30 : decode cX9_isCell 30 = .ok (.invokestatic 46, 3) := by decide +kernel
theorem dX9_isCell_33 : decode cX9_isCell 33 = .ok (.ifCond .eq 7, 3) := by decide +kernel
theorem dX9_isCell_36 : decode cX9_isCell 36 = .ok (.iconst 1, 1) := by decide +kernel
theorem dX9_isCell_37 : decode cX9_isCell 37 = .ok (.goto 4, 3) := by decide +kernel
theorem dX9_isCell_40 : decode cX9_isCell 40 = .ok (.iconst 0, 1) := by decide +kernel
theorem dX9_isCell_41 : decode cX9_isCell 41 = .ok (.ireturn, 1) := by decide +kernel
theorem dX9_at_0 : decode cX9_at 0 = .ok (.aload_n 0, 1) := by decide +kernel
theorem dX9_at_1 : decode cX9_at 1 = .ok (.iload_n 1, 1) := by decide +kernel
theorem dX9_at_2 : decode cX9_at 2 = .ok (.iload_n 2, 1) := by decide +kernel
theorem dX9_at_3 : decode cX9_at 3 = .ok (.invokevirtual 224, 3) := by decide +kernel
theorem dX9_at_6 : decode cX9_at 6 = .ok (.ifCond .eq 12, 3) := by decide +kernel
theorem dX9_at_9 : decode cX9_at 9 = .ok (.aload_n 0, 1) := by decide +kernel
theorem dX9_at_10 : decode cX9_at 10 = .ok (.iload_n 1, 1) := by decide +kernel
theorem dX9_at_11 : decode cX9_at 11 = .ok (.iload_n 2, 1) := by decide +kernel
theorem dX9_at_12 : decode cX9_at 12 = .ok (.invokevirtual 227, 3) := by decide +kernel
theorem dX9_at_15 : decode cX9_at 15 = .ok (.goto 9, 3) := by decide +kernel
theorem dX9_at_18 : decode cX9_at 18 = .ok (.aload_n 0, 1) := by decide +kernel
theorem dX9_at_19 : decode cX9_at 19 = .ok (.bipush (-2), 2) := by decide +kernel
theorem dX9_at_21 : decode cX9_at 21 = .ok (.invokevirtual 101, 3) := by decide +kernel
theorem dX9_at_24 : decode cX9_at 24 = .ok (.ireturn, 1) := by decide +kernel
theorem dX9_laysWhite_0 : decode cX9_laysWhite 0 = .ok (.iconst 0, 1) := by decide +kernel
theorem dX9_laysWhite_1 : decode cX9_laysWhite 1 = .ok (.istore_n 1, 1) := by decide +kernel
theorem dX9_laysWhite_2 : decode cX9_laysWhite 2 = .ok (.iconst 0, 1) := by decide +kernel
theorem dX9_laysWhite_3 : decode cX9_laysWhite 3 = .ok (.istore_n 2, 1) := by decide +kernel
theorem dX9_laysWhite_4 : decode cX9_laysWhite 4 = .ok (.iload_n 2, 1) := by decide +kernel
theorem dX9_laysWhite_5 : decode cX9_laysWhite 5 = .ok (.sipush 256, 3) := by decide +kernel
theorem dX9_laysWhite_8 : decode cX9_laysWhite 8 = .ok (.if_icmp .ge 68, 3) := by decide +kernel
theorem dX9_laysWhite_11 : decode cX9_laysWhite 11 = .ok (.aload_n 0, 1) := by decide +kernel
theorem dX9_laysWhite_12 : decode cX9_laysWhite 12 = .ok (.getfield 25, 3) := by decide +kernel
theorem dX9_laysWhite_15 : decode cX9_laysWhite 15 = .ok (.iload_n 2, 1) := by decide +kernel
theorem dX9_laysWhite_16 : decode cX9_laysWhite 16 = .ok (.aload_n 0, 1) := by decide +kernel
theorem dX9_laysWhite_17 : decode cX9_laysWhite 17 = .ok (.iload_n 2, 1) := by decide +kernel
theorem dX9_laysWhite_18 : decode cX9_laysWhite 18 = .ok (.bipush 16, 2) := by decide +kernel
theorem dX9_laysWhite_20 : decode cX9_laysWhite 20 = .ok (.irem, 1) := by decide +kernel
theorem dX9_laysWhite_21 : decode cX9_laysWhite 21 = .ok (.iload_n 2, 1) := by decide +kernel
theorem dX9_laysWhite_22 : decode cX9_laysWhite 22 = .ok (.bipush 16, 2) := by decide +kernel
theorem dX9_laysWhite_24 : decode cX9_laysWhite 24 = .ok (.idiv, 1) := by decide +kernel
theorem dX9_laysWhite_25 : decode cX9_laysWhite 25 = .ok (.invokevirtual 224, 3) := by decide +kernel
theorem dX9_laysWhite_28 : decode cX9_laysWhite 28 = .ok (.ifCond .eq 23, 3) := by decide +kernel
theorem dX9_laysWhite_31 : decode cX9_laysWhite 31 = .ok (.aload_n 0, 1) := by decide +kernel
theorem dX9_laysWhite_32 : decode cX9_laysWhite 32 = .ok (.iload_n 2, 1) := by decide +kernel
theorem dX9_laysWhite_33 : decode cX9_laysWhite 33 = .ok (.bipush 16, 2) := by decide +kernel
theorem dX9_laysWhite_35 : decode cX9_laysWhite 35 = .ok (.irem, 1) := by decide +kernel
theorem dX9_laysWhite_36 : decode cX9_laysWhite 36 = .ok (.iload_n 2, 1) := by decide +kernel
theorem dX9_laysWhite_37 : decode cX9_laysWhite 37 = .ok (.bipush 16, 2) := by decide +kernel
theorem dX9_laysWhite_39 : decode cX9_laysWhite 39 = .ok (.idiv, 1) := by decide +kernel
theorem dX9_laysWhite_40 : decode cX9_laysWhite 40 = .ok (.invokevirtual 227, 3) := by decide +kernel
theorem dX9_laysWhite_43 : decode cX9_laysWhite 43 = .ok (.iconst (-1), 1) := by decide +kernel
theorem dX9_laysWhite_44 : decode cX9_laysWhite 44 = .ok (.if_icmp .ne 7, 3) := by decide +kernel
theorem dX9_laysWhite_47 : decode cX9_laysWhite 47 = .ok (.iconst 1, 1) := by decide +kernel
theorem dX9_laysWhite_48 : decode cX9_laysWhite 48 = .ok (.goto 4, 3) := by decide +kernel
theorem dX9_laysWhite_51 : decode cX9_laysWhite 51 = .ok (.iconst 0, 1) := by decide +kernel
theorem dX9_laysWhite_52 : decode cX9_laysWhite 52 = .ok (.bastore, 1) := by decide +kernel
theorem dX9_laysWhite_53 : decode cX9_laysWhite 53 = .ok (.iload_n 1, 1) := by decide +kernel
theorem dX9_laysWhite_54 : decode cX9_laysWhite 54 = .ok (.aload_n 0, 1) := by decide +kernel
theorem dX9_laysWhite_55 : decode cX9_laysWhite 55 = .ok (.getfield 25, 3) := by decide +kernel
theorem dX9_laysWhite_58 : decode cX9_laysWhite 58 = .ok (.iload_n 2, 1) := by decide +kernel
theorem dX9_laysWhite_59 : decode cX9_laysWhite 59 = .ok (.baload, 1) := by decide +kernel
theorem dX9_laysWhite_60 : decode cX9_laysWhite 60 = .ok (.ifCond .eq 7, 3) := by decide +kernel
theorem dX9_laysWhite_63 : decode cX9_laysWhite 63 = .ok (.iconst 1, 1) := by decide +kernel
theorem dX9_laysWhite_64 : decode cX9_laysWhite 64 = .ok (.goto 4, 3) := by decide +kernel
theorem dX9_laysWhite_67 : decode cX9_laysWhite 67 = .ok (.iconst 0, 1) := by decide +kernel
theorem dX9_laysWhite_68 : decode cX9_laysWhite 68 = .ok (.iadd, 1) := by decide +kernel
theorem dX9_laysWhite_69 : decode cX9_laysWhite 69 = .ok (.istore_n 1, 1) := by decide +kernel
theorem dX9_laysWhite_70 : decode cX9_laysWhite 70 = .ok (.iinc 2 1, 3) := by decide +kernel
theorem dX9_laysWhite_73 : decode cX9_laysWhite 73 = .ok (.goto (-69), 3) := by decide +kernel
theorem dX9_laysWhite_76 : decode cX9_laysWhite 76 = .ok (.iload_n 1, 1) := by decide +kernel
theorem dX9_laysWhite_77 : decode cX9_laysWhite 77 = .ok (.ireturn, 1) := by decide +kernel
theorem dX9_findsBlock_0 : decode cX9_findsBlock 0 = .ok (.aload_n 0, 1) := by decide +kernel
theorem dX9_findsBlock_1 : decode cX9_findsBlock 1 = .ok (.iconst 0, 1) := by decide +kernel
theorem dX9_findsBlock_2 : decode cX9_findsBlock 2 = .ok (.putfield 230, 3) := by decide +kernel
theorem dX9_findsBlock_5 : decode cX9_findsBlock 5 = .ok (.aload_n 0, 1) := by decide +kernel
theorem dX9_findsBlock_6 : decode cX9_findsBlock 6 = .ok (.iconst (-1), 1) := by decide +kernel
theorem dX9_findsBlock_7 : decode cX9_findsBlock 7 = .ok (.putfield 233, 3) := by decide +kernel
theorem dX9_findsBlock_10 : decode cX9_findsBlock 10 = .ok (.aload_n 0, 1) := by decide +kernel
theorem dX9_findsBlock_11 : decode cX9_findsBlock 11 = .ok (.iconst (-1), 1) := by decide +kernel
theorem dX9_findsBlock_12 : decode cX9_findsBlock 12 = .ok (.putfield 236, 3) := by decide +kernel
theorem dX9_findsBlock_15 : decode cX9_findsBlock 15 = .ok (.iconst 0, 1) := by decide +kernel
theorem dX9_findsBlock_16 : decode cX9_findsBlock 16 = .ok (.istore_n 1, 1) := by decide +kernel
theorem dX9_findsBlock_17 : decode cX9_findsBlock 17 = .ok (.iload_n 1, 1) := by decide +kernel
theorem dX9_findsBlock_18 : decode cX9_findsBlock 18 = .ok (.sipush 256, 3) := by decide +kernel
theorem dX9_findsBlock_21 : decode cX9_findsBlock 21 = .ok (.if_icmp .ge 144, 3) := by decide +kernel
theorem dX9_findsBlock_24 : decode cX9_findsBlock 24 = .ok (.bipush 16, 2) := by decide +kernel
theorem dX9_findsBlock_26 : decode cX9_findsBlock 26 = .ok (.iload_n 1, 1) := by decide +kernel
theorem dX9_findsBlock_27 : decode cX9_findsBlock 27 = .ok (.bipush 16, 2) := by decide +kernel
theorem dX9_findsBlock_29 : decode cX9_findsBlock 29 = .ok (.irem, 1) := by decide +kernel
theorem dX9_findsBlock_30 : decode cX9_findsBlock 30 = .ok (.isub, 1) := by decide +kernel
theorem dX9_findsBlock_31 : decode cX9_findsBlock 31 = .ok (.istore_n 2, 1) := by decide +kernel
theorem dX9_findsBlock_32 : decode cX9_findsBlock 32 = .ok (.iload_n 1, 1) := by decide +kernel
theorem dX9_findsBlock_33 : decode cX9_findsBlock 33 = .ok (.istore_n 3, 1) := by decide +kernel
theorem dX9_findsBlock_34 : decode cX9_findsBlock 34 = .ok (.iload_n 3, 1) := by decide +kernel
theorem dX9_findsBlock_35 : decode cX9_findsBlock 35 = .ok (.sipush 256, 3) := by decide +kernel
theorem dX9_findsBlock_38 : decode cX9_findsBlock 38 = .ok (.if_icmp .ge 121, 3) := by decide +kernel
theorem dX9_findsBlock_41 : decode cX9_findsBlock 41 = .ok (.iconst 0, 1) := by decide +kernel
theorem dX9_findsBlock_42 : decode cX9_findsBlock 42 = .ok (.istore 4, 2) := by decide +kernel
theorem dX9_findsBlock_44 : decode cX9_findsBlock 44 = .ok (.iload 4, 2) := by decide +kernel
theorem dX9_findsBlock_46 : decode cX9_findsBlock 46 = .ok (.iload_n 2, 1) := by decide +kernel
theorem dX9_findsBlock_47 : decode cX9_findsBlock 47 = .ok (.if_icmp .ge 21, 3) := by decide +kernel
theorem dX9_findsBlock_50 : decode cX9_findsBlock 50 = .ok (.aload_n 0, 1) := by decide +kernel
theorem dX9_findsBlock_51 : decode cX9_findsBlock 51 = .ok (.getfield 25, 3) := by decide +kernel
theorem dX9_findsBlock_54 : decode cX9_findsBlock 54 = .ok (.iload_n 3, 1) := by decide +kernel
theorem dX9_findsBlock_55 : decode cX9_findsBlock 55 = .ok (.iload 4, 2) := by decide +kernel
theorem dX9_findsBlock_57 : decode cX9_findsBlock 57 = .ok (.iadd, 1) := by decide +kernel
theorem dX9_findsBlock_58 : decode cX9_findsBlock 58 = .ok (.baload, 1) := by decide +kernel
theorem dX9_findsBlock_59 : decode cX9_findsBlock 59 = .ok (.ifCond .eq 9, 3) := by decide +kernel
theorem dX9_findsBlock_62 : decode cX9_findsBlock 62 = .ok (.iinc 4 1, 3) := by decide +kernel
theorem dX9_findsBlock_65 : decode cX9_findsBlock 65 = .ok (.goto (-21), 3) := by decide +kernel
theorem dX9_findsBlock_68 : decode cX9_findsBlock 68 = .ok (.iload 4, 2) := by decide +kernel
theorem dX9_findsBlock_70 : decode cX9_findsBlock 70 = .ok (.istore_n 2, 1) := by decide +kernel
theorem dX9_findsBlock_71 : decode cX9_findsBlock 71 = .ok (.iload_n 3, 1) := by decide +kernel
theorem dX9_findsBlock_72 : decode cX9_findsBlock 72 = .ok (.iload_n 1, 1) := by decide +kernel
theorem dX9_findsBlock_73 : decode cX9_findsBlock 73 = .ok (.isub, 1) := by decide +kernel
theorem dX9_findsBlock_74 : decode cX9_findsBlock 74 = .ok (.bipush 16, 2) := by decide +kernel
theorem dX9_findsBlock_76 : decode cX9_findsBlock 76 = .ok (.idiv, 1) := by decide +kernel
theorem dX9_findsBlock_77 : decode cX9_findsBlock 77 = .ok (.iconst 1, 1) := by decide +kernel
theorem dX9_findsBlock_78 : decode cX9_findsBlock 78 = .ok (.iadd, 1) := by decide +kernel
theorem dX9_findsBlock_79 : decode cX9_findsBlock 79 = .ok (.istore 5, 2) := by decide +kernel
theorem dX9_findsBlock_81 : decode cX9_findsBlock 81 = .ok (.iload_n 2, 1) := by decide +kernel
theorem dX9_findsBlock_82 : decode cX9_findsBlock 82 = .ok (.iload 5, 2) := by decide +kernel
theorem dX9_findsBlock_84 : decode cX9_findsBlock 84 = .ok (.imul, 1) := by decide +kernel
theorem dX9_findsBlock_85 : decode cX9_findsBlock 85 = .ok (.aload_n 0, 1) := by decide +kernel
theorem dX9_findsBlock_86 : decode cX9_findsBlock 86 = .ok (.getfield 230, 3) := by decide +kernel
theorem dX9_findsBlock_89 : decode cX9_findsBlock 89 = .ok (.if_icmp .gt 30, 3) := by decide +kernel
theorem dX9_findsBlock_92 : decode cX9_findsBlock 92 = .ok (.iload_n 2, 1) := by decide +kernel
theorem dX9_findsBlock_93 : decode cX9_findsBlock 93 = .ok (.iload 5, 2) := by decide +kernel
theorem dX9_findsBlock_95 : decode cX9_findsBlock 95 = .ok (.imul, 1) := by decide +kernel
theorem dX9_findsBlock_96 : decode cX9_findsBlock 96 = .ok (.aload_n 0, 1) := by decide +kernel
theorem dX9_findsBlock_97 : decode cX9_findsBlock 97 = .ok (.getfield 230, 3) := by decide +kernel
theorem dX9_findsBlock_100 : decode cX9_findsBlock 100 = .ok (.if_icmp .ne 23, 3) := by decide +kernel
theorem dX9_findsBlock_103 : decode cX9_findsBlock 103 = .ok (.iload_n 1, 1) := by decide +kernel
theorem dX9_findsBlock_104 : decode cX9_findsBlock 104 = .ok (.aload_n 0, 1) := by decide +kernel
theorem dX9_findsBlock_105 : decode cX9_findsBlock 105 = .ok (.getfield 233, 3) := by decide +kernel
theorem dX9_findsBlock_108 : decode cX9_findsBlock 108 = .ok (.if_icmp .ne 15, 3) := by decide +kernel
theorem dX9_findsBlock_111 : decode cX9_findsBlock 111 = .ok (.iload_n 2, 1) := by decide +kernel
theorem dX9_findsBlock_112 : decode cX9_findsBlock 112 = .ok (.aload_n 0, 1) := by decide +kernel
theorem dX9_findsBlock_113 : decode cX9_findsBlock 113 = .ok (.getfield 236, 3) := by decide +kernel
theorem dX9_findsBlock_116 : decode cX9_findsBlock 116 = .ok (.if_icmp .le 7, 3) := by decide +kernel
theorem dX9_findsBlock_119 : decode cX9_findsBlock 119 = .ok (.iconst 1, 1) := by decide +kernel
theorem dX9_findsBlock_120 : decode cX9_findsBlock 120 = .ok (.goto 4, 3) := by decide +kernel
theorem dX9_findsBlock_123 : decode cX9_findsBlock 123 = .ok (.iconst 0, 1) := by decide +kernel
theorem dX9_findsBlock_124 : decode cX9_findsBlock 124 = .ok (.istore 6, 2) := by decide +kernel
theorem dX9_findsBlock_126 : decode cX9_findsBlock 126 = .ok (.iload_n 2, 1) := by decide +kernel
theorem dX9_findsBlock_127 : decode cX9_findsBlock 127 = .ok (.ifCond .le 26, 3) := by decide +kernel
theorem dX9_findsBlock_130 : decode cX9_findsBlock 130 = .ok (.iload 6, 2) := by decide +kernel
theorem dX9_findsBlock_132 : decode cX9_findsBlock 132 = .ok (.ifCond .eq 21, 3) := by decide +kernel
theorem dX9_findsBlock_135 : decode cX9_findsBlock 135 = .ok (.aload_n 0, 1) := by decide +kernel
theorem dX9_findsBlock_136 : decode cX9_findsBlock 136 = .ok (.iload_n 2, 1) := by decide +kernel
theorem dX9_findsBlock_137 : decode cX9_findsBlock 137 = .ok (.iload 5, 2) := by decide +kernel
theorem dX9_findsBlock_139 : decode cX9_findsBlock 139 = .ok (.imul, 1) := by decide +kernel
theorem dX9_findsBlock_140 : decode cX9_findsBlock 140 = .ok (.putfield 230, 3) := by decide +kernel
theorem dX9_findsBlock_143 : decode cX9_findsBlock 143 = .ok (.aload_n 0, 1) := by decide +kernel
theorem dX9_findsBlock_144 : decode cX9_findsBlock 144 = .ok (.iload_n 1, 1) := by decide +kernel
theorem dX9_findsBlock_145 : decode cX9_findsBlock 145 = .ok (.putfield 233, 3) := by decide +kernel
theorem dX9_findsBlock_148 : decode cX9_findsBlock 148 = .ok (.aload_n 0, 1) := by decide +kernel
theorem dX9_findsBlock_149 : decode cX9_findsBlock 149 = .ok (.iload_n 2, 1) := by decide +kernel
theorem dX9_findsBlock_150 : decode cX9_findsBlock 150 = .ok (.putfield 236, 3) := by decide +kernel
theorem dX9_findsBlock_153 : decode cX9_findsBlock 153 = .ok (.iinc 3 16, 3) := by decide +kernel
theorem dX9_findsBlock_156 : decode cX9_findsBlock 156 = .ok (.goto (-122), 3) := by decide +kernel
theorem dX9_findsBlock_159 : decode cX9_findsBlock 159 = .ok (.iinc 1 1, 3) := by decide +kernel
theorem dX9_findsBlock_162 : decode cX9_findsBlock 162 = .ok (.goto (-145), 3) := by decide +kernel
theorem dX9_findsBlock_165 : decode cX9_findsBlock 165 = .ok (.return_, 1) := by decide +kernel
theorem dX9_heapOf_0 : decode cX9_heapOf 0 = .ok (.aload_n 0, 1) := by decide +kernel
theorem dX9_heapOf_1 : decode cX9_heapOf 1 = .ok (.getfield 29, 3) := by decide +kernel
theorem dX9_heapOf_4 : decode cX9_heapOf 4 = .ok (.iload_n 1, 1) := by decide +kernel
theorem dX9_heapOf_5 : decode cX9_heapOf 5 = .ok (.iaload, 1) := by decide +kernel
theorem dX9_heapOf_6 : decode cX9_heapOf 6 = .ok (.istore_n 2, 1) := by decide +kernel
theorem dX9_heapOf_7 : decode cX9_heapOf 7 = .ok (.iload_n 1, 1) := by decide +kernel
theorem dX9_heapOf_8 : decode cX9_heapOf 8 = .ok (.bipush 16, 2) := by decide +kernel
theorem dX9_heapOf_10 : decode cX9_heapOf 10 = .ok (.irem, 1) := by decide +kernel
theorem dX9_heapOf_11 : decode cX9_heapOf 11 = .ok (.istore_n 3, 1) := by decide +kernel
theorem dX9_heapOf_12 : decode cX9_heapOf 12 = .ok (.iload_n 3, 1) := by decide +kernel
theorem dX9_heapOf_13 : decode cX9_heapOf 13 = .ok (.ifCond .le 37, 3) := by decide +kernel
theorem dX9_heapOf_16 : decode cX9_heapOf 16 = .ok (.aload_n 0, 1) := by decide +kernel
theorem dX9_heapOf_17 : decode cX9_heapOf 17 = .ok (.getfield 25, 3) := by decide +kernel
theorem dX9_heapOf_20 : decode cX9_heapOf 20 = .ok (.iload_n 1, 1) := by decide +kernel
theorem dX9_heapOf_21 : decode cX9_heapOf 21 = .ok (.iconst 1, 1) := by decide +kernel
theorem dX9_heapOf_22 : decode cX9_heapOf 22 = .ok (.isub, 1) := by decide +kernel
theorem dX9_heapOf_23 : decode cX9_heapOf 23 = .ok (.baload, 1) := by decide +kernel
theorem dX9_heapOf_24 : decode cX9_heapOf 24 = .ok (.ifCond .eq 26, 3) := by decide +kernel
theorem dX9_heapOf_27 : decode cX9_heapOf 27 = .ok (.aload_n 0, 1) := by decide +kernel
theorem dX9_heapOf_28 : decode cX9_heapOf 28 = .ok (.getfield 29, 3) := by decide +kernel
theorem dX9_heapOf_31 : decode cX9_heapOf 31 = .ok (.iload_n 1, 1) := by decide +kernel
theorem dX9_heapOf_32 : decode cX9_heapOf 32 = .ok (.iconst 1, 1) := by decide +kernel
theorem dX9_heapOf_33 : decode cX9_heapOf 33 = .ok (.isub, 1) := by decide +kernel
theorem dX9_heapOf_34 : decode cX9_heapOf 34 = .ok (.iaload, 1) := by decide +kernel
theorem dX9_heapOf_35 : decode cX9_heapOf 35 = .ok (.iload_n 2, 1) := by decide +kernel
theorem dX9_heapOf_36 : decode cX9_heapOf 36 = .ok (.if_icmp .ge 14, 3) := by decide +kernel
theorem dX9_heapOf_39 : decode cX9_heapOf 39 = .ok (.aload_n 0, 1) := by decide +kernel
theorem dX9_heapOf_40 : decode cX9_heapOf 40 = .ok (.getfield 29, 3) := by decide +kernel
theorem dX9_heapOf_43 : decode cX9_heapOf 43 = .ok (.iload_n 1, 1) := by decide +kernel
theorem dX9_heapOf_44 : decode cX9_heapOf 44 = .ok (.iconst 1, 1) := by decide +kernel
theorem dX9_heapOf_45 : decode cX9_heapOf 45 = .ok (.isub, 1) := by decide +kernel
theorem dX9_heapOf_46 : decode cX9_heapOf 46 = .ok (.iaload, 1) := by decide +kernel
theorem dX9_heapOf_47 : decode cX9_heapOf 47 = .ok (.goto 4, 3) := by decide +kernel
theorem dX9_heapOf_50 : decode cX9_heapOf 50 = .ok (.iload_n 2, 1) := by decide +kernel
theorem dX9_heapOf_51 : decode cX9_heapOf 51 = .ok (.istore_n 2, 1) := by decide +kernel
theorem dX9_heapOf_52 : decode cX9_heapOf 52 = .ok (.iload_n 3, 1) := by decide +kernel
theorem dX9_heapOf_53 : decode cX9_heapOf 53 = .ok (.bipush 15, 2) := by decide +kernel
theorem dX9_heapOf_55 : decode cX9_heapOf 55 = .ok (.if_icmp .ge 37, 3) := by decide +kernel
theorem dX9_heapOf_58 : decode cX9_heapOf 58 = .ok (.aload_n 0, 1) := by decide +kernel
theorem dX9_heapOf_59 : decode cX9_heapOf 59 = .ok (.getfield 25, 3) := by decide +kernel
theorem dX9_heapOf_62 : decode cX9_heapOf 62 = .ok (.iload_n 1, 1) := by decide +kernel
theorem dX9_heapOf_63 : decode cX9_heapOf 63 = .ok (.iconst 1, 1) := by decide +kernel
theorem dX9_heapOf_64 : decode cX9_heapOf 64 = .ok (.iadd, 1) := by decide +kernel
theorem dX9_heapOf_65 : decode cX9_heapOf 65 = .ok (.baload, 1) := by decide +kernel
theorem dX9_heapOf_66 : decode cX9_heapOf 66 = .ok (.ifCond .eq 26, 3) := by decide +kernel
theorem dX9_heapOf_69 : decode cX9_heapOf 69 = .ok (.aload_n 0, 1) := by decide +kernel
theorem dX9_heapOf_70 : decode cX9_heapOf 70 = .ok (.getfield 29, 3) := by decide +kernel
theorem dX9_heapOf_73 : decode cX9_heapOf 73 = .ok (.iload_n 1, 1) := by decide +kernel
theorem dX9_heapOf_74 : decode cX9_heapOf 74 = .ok (.iconst 1, 1) := by decide +kernel
theorem dX9_heapOf_75 : decode cX9_heapOf 75 = .ok (.iadd, 1) := by decide +kernel
theorem dX9_heapOf_76 : decode cX9_heapOf 76 = .ok (.iaload, 1) := by decide +kernel
theorem dX9_heapOf_77 : decode cX9_heapOf 77 = .ok (.iload_n 2, 1) := by decide +kernel
theorem dX9_heapOf_78 : decode cX9_heapOf 78 = .ok (.if_icmp .ge 14, 3) := by decide +kernel
theorem dX9_heapOf_81 : decode cX9_heapOf 81 = .ok (.aload_n 0, 1) := by decide +kernel
theorem dX9_heapOf_82 : decode cX9_heapOf 82 = .ok (.getfield 29, 3) := by decide +kernel
theorem dX9_heapOf_85 : decode cX9_heapOf 85 = .ok (.iload_n 1, 1) := by decide +kernel
theorem dX9_heapOf_86 : decode cX9_heapOf 86 = .ok (.iconst 1, 1) := by decide +kernel
theorem dX9_heapOf_87 : decode cX9_heapOf 87 = .ok (.iadd, 1) := by decide +kernel
theorem dX9_heapOf_88 : decode cX9_heapOf 88 = .ok (.iaload, 1) := by decide +kernel
theorem dX9_heapOf_89 : decode cX9_heapOf 89 = .ok (.goto 4, 3) := by decide +kernel
theorem dX9_heapOf_92 : decode cX9_heapOf 92 = .ok (.iload_n 2, 1) := by decide +kernel
theorem dX9_heapOf_93 : decode cX9_heapOf 93 = .ok (.istore_n 2, 1) := by decide +kernel
theorem dX9_heapOf_94 : decode cX9_heapOf 94 = .ok (.iload_n 1, 1) := by decide +kernel
theorem dX9_heapOf_95 : decode cX9_heapOf 95 = .ok (.bipush 16, 2) := by decide +kernel
theorem dX9_heapOf_97 : decode cX9_heapOf 97 = .ok (.if_icmp .lt 40, 3) := by decide +kernel
theorem dX9_heapOf_100 : decode cX9_heapOf 100 = .ok (.aload_n 0, 1) := by decide +kernel
theorem dX9_heapOf_101 : decode cX9_heapOf 101 = .ok (.getfield 25, 3) := by decide +kernel
theorem dX9_heapOf_104 : decode cX9_heapOf 104 = .ok (.iload_n 1, 1) := by decide +kernel
theorem dX9_heapOf_105 : decode cX9_heapOf 105 = .ok (.bipush 16, 2) := by decide +kernel
theorem dX9_heapOf_107 : decode cX9_heapOf 107 = .ok (.isub, 1) := by decide +kernel
theorem dX9_heapOf_108 : decode cX9_heapOf 108 = .ok (.baload, 1) := by decide +kernel
theorem dX9_heapOf_109 : decode cX9_heapOf 109 = .ok (.ifCond .eq 28, 3) := by decide +kernel
theorem dX9_heapOf_112 : decode cX9_heapOf 112 = .ok (.aload_n 0, 1) := by decide +kernel
theorem dX9_heapOf_113 : decode cX9_heapOf 113 = .ok (.getfield 29, 3) := by decide +kernel
theorem dX9_heapOf_116 : decode cX9_heapOf 116 = .ok (.iload_n 1, 1) := by decide +kernel
theorem dX9_heapOf_117 : decode cX9_heapOf 117 = .ok (.bipush 16, 2) := by decide +kernel
theorem dX9_heapOf_119 : decode cX9_heapOf 119 = .ok (.isub, 1) := by decide +kernel
theorem dX9_heapOf_120 : decode cX9_heapOf 120 = .ok (.iaload, 1) := by decide +kernel
theorem dX9_heapOf_121 : decode cX9_heapOf 121 = .ok (.iload_n 2, 1) := by decide +kernel
theorem dX9_heapOf_122 : decode cX9_heapOf 122 = .ok (.if_icmp .ge 15, 3) := by decide +kernel
theorem dX9_heapOf_125 : decode cX9_heapOf 125 = .ok (.aload_n 0, 1) := by decide +kernel
theorem dX9_heapOf_126 : decode cX9_heapOf 126 = .ok (.getfield 29, 3) := by decide +kernel
theorem dX9_heapOf_129 : decode cX9_heapOf 129 = .ok (.iload_n 1, 1) := by decide +kernel
theorem dX9_heapOf_130 : decode cX9_heapOf 130 = .ok (.bipush 16, 2) := by decide +kernel
theorem dX9_heapOf_132 : decode cX9_heapOf 132 = .ok (.isub, 1) := by decide +kernel
theorem dX9_heapOf_133 : decode cX9_heapOf 133 = .ok (.iaload, 1) := by decide +kernel
theorem dX9_heapOf_134 : decode cX9_heapOf 134 = .ok (.goto 4, 3) := by decide +kernel
theorem dX9_heapOf_137 : decode cX9_heapOf 137 = .ok (.iload_n 2, 1) := by decide +kernel
theorem dX9_heapOf_138 : decode cX9_heapOf 138 = .ok (.istore_n 2, 1) := by decide +kernel
theorem dX9_heapOf_139 : decode cX9_heapOf 139 = .ok (.iload_n 1, 1) := by decide +kernel
theorem dX9_heapOf_140 : decode cX9_heapOf 140 = .ok (.sipush 240, 3) := by decide +kernel
theorem dX9_heapOf_143 : decode cX9_heapOf 143 = .ok (.if_icmp .ge 40, 3) := by decide +kernel
theorem dX9_heapOf_146 : decode cX9_heapOf 146 = .ok (.aload_n 0, 1) := by decide +kernel
theorem dX9_heapOf_147 : decode cX9_heapOf 147 = .ok (.getfield 25, 3) := by decide +kernel
theorem dX9_heapOf_150 : decode cX9_heapOf 150 = .ok (.iload_n 1, 1) := by decide +kernel
theorem dX9_heapOf_151 : decode cX9_heapOf 151 = .ok (.bipush 16, 2) := by decide +kernel
theorem dX9_heapOf_153 : decode cX9_heapOf 153 = .ok (.iadd, 1) := by decide +kernel
theorem dX9_heapOf_154 : decode cX9_heapOf 154 = .ok (.baload, 1) := by decide +kernel
theorem dX9_heapOf_155 : decode cX9_heapOf 155 = .ok (.ifCond .eq 28, 3) := by decide +kernel
theorem dX9_heapOf_158 : decode cX9_heapOf 158 = .ok (.aload_n 0, 1) := by decide +kernel
theorem dX9_heapOf_159 : decode cX9_heapOf 159 = .ok (.getfield 29, 3) := by decide +kernel
theorem dX9_heapOf_162 : decode cX9_heapOf 162 = .ok (.iload_n 1, 1) := by decide +kernel
theorem dX9_heapOf_163 : decode cX9_heapOf 163 = .ok (.bipush 16, 2) := by decide +kernel
theorem dX9_heapOf_165 : decode cX9_heapOf 165 = .ok (.iadd, 1) := by decide +kernel
theorem dX9_heapOf_166 : decode cX9_heapOf 166 = .ok (.iaload, 1) := by decide +kernel
theorem dX9_heapOf_167 : decode cX9_heapOf 167 = .ok (.iload_n 2, 1) := by decide +kernel
theorem dX9_heapOf_168 : decode cX9_heapOf 168 = .ok (.if_icmp .ge 15, 3) := by decide +kernel
theorem dX9_heapOf_171 : decode cX9_heapOf 171 = .ok (.aload_n 0, 1) := by decide +kernel
theorem dX9_heapOf_172 : decode cX9_heapOf 172 = .ok (.getfield 29, 3) := by decide +kernel
theorem dX9_heapOf_175 : decode cX9_heapOf 175 = .ok (.iload_n 1, 1) := by decide +kernel
theorem dX9_heapOf_176 : decode cX9_heapOf 176 = .ok (.bipush 16, 2) := by decide +kernel
theorem dX9_heapOf_178 : decode cX9_heapOf 178 = .ok (.iadd, 1) := by decide +kernel
theorem dX9_heapOf_179 : decode cX9_heapOf 179 = .ok (.iaload, 1) := by decide +kernel
theorem dX9_heapOf_180 : decode cX9_heapOf 180 = .ok (.goto 4, 3) := by decide +kernel
theorem dX9_heapOf_183 : decode cX9_heapOf 183 = .ok (.iload_n 2, 1) := by decide +kernel
theorem dX9_heapOf_184 : decode cX9_heapOf 184 = .ok (.ireturn, 1) := by decide +kernel
theorem dX9_heaps_0 : decode cX9_heaps 0 = .ok (.iconst 1, 1) := by decide +kernel
theorem dX9_heaps_1 : decode cX9_heaps 1 = .ok (.istore_n 1, 1) := by decide +kernel
theorem dX9_heaps_2 : decode cX9_heaps 2 = .ok (.iconst 0, 1) := by decide +kernel
theorem dX9_heaps_3 : decode cX9_heaps 3 = .ok (.istore_n 2, 1) := by decide +kernel
theorem dX9_heaps_4 : decode cX9_heaps 4 = .ok (.iload_n 2, 1) := by decide +kernel
theorem dX9_heaps_5 : decode cX9_heaps 5 = .ok (.sipush 256, 3) := by decide +kernel
theorem dX9_heaps_8 : decode cX9_heaps 8 = .ok (.if_icmp .ge 16, 3) := by decide +kernel
theorem dX9_heaps_11 : decode cX9_heaps 11 = .ok (.aload_n 0, 1) := by decide +kernel
theorem dX9_heaps_12 : decode cX9_heaps 12 = .ok (.getfield 29, 3) := by decide +kernel
theorem dX9_heaps_15 : decode cX9_heaps 15 = .ok (.iload_n 2, 1) := by decide +kernel
theorem dX9_heaps_16 : decode cX9_heaps 16 = .ok (.iload_n 2, 1) := by decide +kernel
theorem dX9_heaps_17 : decode cX9_heaps 17 = .ok (.iastore, 1) := by decide +kernel
theorem dX9_heaps_18 : decode cX9_heaps 18 = .ok (.iinc 2 1, 3) := by decide +kernel
theorem dX9_heaps_21 : decode cX9_heaps 21 = .ok (.goto (-17), 3) := by decide +kernel
theorem dX9_heaps_24 : decode cX9_heaps 24 = .ok (.iload_n 1, 1) := by decide +kernel
theorem dX9_heaps_25 : decode cX9_heaps 25 = .ok (.ifCond .eq 59, 3) := by decide +kernel
theorem dX9_heaps_28 : decode cX9_heaps 28 = .ok (.iconst 0, 1) := by decide +kernel
theorem dX9_heaps_29 : decode cX9_heaps 29 = .ok (.istore_n 1, 1) := by decide +kernel
theorem dX9_heaps_30 : decode cX9_heaps 30 = .ok (.iconst 0, 1) := by decide +kernel
theorem dX9_heaps_31 : decode cX9_heaps 31 = .ok (.istore_n 2, 1) := by decide +kernel
theorem dX9_heaps_32 : decode cX9_heaps 32 = .ok (.iload_n 2, 1) := by decide +kernel
theorem dX9_heaps_33 : decode cX9_heaps 33 = .ok (.sipush 256, 3) := by decide +kernel
theorem dX9_heaps_36 : decode cX9_heaps 36 = .ok (.if_icmp .ge 45, 3) := by decide +kernel
theorem dX9_heaps_39 : decode cX9_heaps 39 = .ok (.aload_n 0, 1) := by decide +kernel
theorem dX9_heaps_40 : decode cX9_heaps 40 = .ok (.getfield 25, 3) := by decide +kernel
theorem dX9_heaps_43 : decode cX9_heaps 43 = .ok (.iload_n 2, 1) := by decide +kernel
theorem dX9_heaps_44 : decode cX9_heaps 44 = .ok (.baload, 1) := by decide +kernel
theorem dX9_heaps_45 : decode cX9_heaps 45 = .ok (.ifCond .eq 30, 3) := by decide +kernel
theorem dX9_heaps_48 : decode cX9_heaps 48 = .ok (.aload_n 0, 1) := by decide +kernel
theorem dX9_heaps_49 : decode cX9_heaps 49 = .ok (.iload_n 2, 1) := by decide +kernel
theorem dX9_heaps_50 : decode cX9_heaps 50 = .ok (.invokevirtual 239, 3) := by decide +kernel
theorem dX9_heaps_53 : decode cX9_heaps 53 = .ok (.aload_n 0, 1) := by decide +kernel
theorem dX9_heaps_54 : decode cX9_heaps 54 = .ok (.getfield 29, 3) := by decide +kernel
theorem dX9_heaps_57 : decode cX9_heaps 57 = .ok (.iload_n 2, 1) := by decide +kernel
theorem dX9_heaps_58 : decode cX9_heaps 58 = .ok (.iaload, 1) := by decide +kernel
theorem dX9_heaps_59 : decode cX9_heaps 59 = .ok (.if_icmp .ge 16, 3) := by decide +kernel
theorem dX9_heaps_62 : decode cX9_heaps 62 = .ok (.aload_n 0, 1) := by decide +kernel
theorem dX9_heaps_63 : decode cX9_heaps 63 = .ok (.getfield 29, 3) := by decide +kernel
theorem dX9_heaps_66 : decode cX9_heaps 66 = .ok (.iload_n 2, 1) := by decide +kernel
theorem dX9_heaps_67 : decode cX9_heaps 67 = .ok (.aload_n 0, 1) := by decide +kernel
theorem dX9_heaps_68 : decode cX9_heaps 68 = .ok (.iload_n 2, 1) := by decide +kernel
theorem dX9_heaps_69 : decode cX9_heaps 69 = .ok (.invokevirtual 239, 3) := by decide +kernel
theorem dX9_heaps_72 : decode cX9_heaps 72 = .ok (.iastore, 1) := by decide +kernel
theorem dX9_heaps_73 : decode cX9_heaps 73 = .ok (.iconst 1, 1) := by decide +kernel
theorem dX9_heaps_74 : decode cX9_heaps 74 = .ok (.istore_n 1, 1) := by decide +kernel
theorem dX9_heaps_75 : decode cX9_heaps 75 = .ok (.iinc 2 1, 3) := by decide +kernel
theorem dX9_heaps_78 : decode cX9_heaps 78 = .ok (.goto (-46), 3) := by decide +kernel
theorem dX9_heaps_81 : decode cX9_heaps 81 = .ok (.goto (-57), 3) := by decide +kernel
theorem dX9_heaps_84 : decode cX9_heaps 84 = .ok (.iconst 0, 1) := by decide +kernel
theorem dX9_heaps_85 : decode cX9_heaps 85 = .ok (.istore_n 2, 1) := by decide +kernel
theorem dX9_heaps_86 : decode cX9_heaps 86 = .ok (.iconst 0, 1) := by decide +kernel
theorem dX9_heaps_87 : decode cX9_heaps 87 = .ok (.istore_n 3, 1) := by decide +kernel
theorem dX9_heaps_88 : decode cX9_heaps 88 = .ok (.iload_n 3, 1) := by decide +kernel
theorem dX9_heaps_89 : decode cX9_heaps 89 = .ok (.sipush 256, 3) := by decide +kernel
theorem dX9_heaps_92 : decode cX9_heaps 92 = .ok (.if_icmp .ge 36, 3) := by decide +kernel
theorem dX9_heaps_95 : decode cX9_heaps 95 = .ok (.iload_n 2, 1) := by decide +kernel
theorem dX9_heaps_96 : decode cX9_heaps 96 = .ok (.aload_n 0, 1) := by decide +kernel
theorem dX9_heaps_97 : decode cX9_heaps 97 = .ok (.getfield 25, 3) := by decide +kernel
theorem dX9_heaps_100 : decode cX9_heaps 100 = .ok (.iload_n 3, 1) := by decide +kernel
theorem dX9_heaps_101 : decode cX9_heaps 101 = .ok (.baload, 1) := by decide +kernel
theorem dX9_heaps_102 : decode cX9_heaps 102 = .ok (.ifCond .eq 17, 3) := by decide +kernel
theorem dX9_heaps_105 : decode cX9_heaps 105 = .ok (.aload_n 0, 1) := by decide +kernel
theorem dX9_heaps_106 : decode cX9_heaps 106 = .ok (.getfield 29, 3) := by decide +kernel
theorem dX9_heaps_109 : decode cX9_heaps 109 = .ok (.iload_n 3, 1) := by decide +kernel
theorem dX9_heaps_110 : decode cX9_heaps 110 = .ok (.iaload, 1) := by decide +kernel
theorem dX9_heaps_111 : decode cX9_heaps 111 = .ok (.iload_n 3, 1) := by decide +kernel
theorem dX9_heaps_112 : decode cX9_heaps 112 = .ok (.if_icmp .ne 7, 3) := by decide +kernel
theorem dX9_heaps_115 : decode cX9_heaps 115 = .ok (.iconst 1, 1) := by decide +kernel
theorem dX9_heaps_116 : decode cX9_heaps 116 = .ok (.goto 4, 3) := by decide +kernel
theorem dX9_heaps_119 : decode cX9_heaps 119 = .ok (.iconst 0, 1) := by decide +kernel
theorem dX9_heaps_120 : decode cX9_heaps 120 = .ok (.iadd, 1) := by decide +kernel
theorem dX9_heaps_121 : decode cX9_heaps 121 = .ok (.istore_n 2, 1) := by decide +kernel
theorem dX9_heaps_122 : decode cX9_heaps 122 = .ok (.iinc 3 1, 3) := by decide +kernel
theorem dX9_heaps_125 : decode cX9_heaps 125 = .ok (.goto (-37), 3) := by decide +kernel
theorem dX9_heaps_128 : decode cX9_heaps 128 = .ok (.iload_n 2, 1) := by decide +kernel
theorem dX9_heaps_129 : decode cX9_heaps 129 = .ok (.ireturn, 1) := by decide +kernel
theorem dX9_whiteNow_0 : decode cX9_whiteNow 0 = .ok (.aload_n 0, 1) := by decide +kernel
theorem dX9_whiteNow_1 : decode cX9_whiteNow 1 = .ok (.invokevirtual 242, 3) := by decide +kernel
theorem dX9_whiteNow_4 : decode cX9_whiteNow 4 = .ok (.istore_n 2, 1) := by decide +kernel
theorem dX9_whiteNow_5 : decode cX9_whiteNow 5 = .ok (.iload_n 1, 1) := by decide +kernel
theorem dX9_whiteNow_6 : decode cX9_whiteNow 6 = .ok (.ifCond .ne 5, 3) := by decide +kernel
theorem dX9_whiteNow_9 : decode cX9_whiteNow 9 = .ok (.iload_n 2, 1) := by decide +kernel
theorem dX9_whiteNow_10 : decode cX9_whiteNow 10 = .ok (.ireturn, 1) := by decide +kernel
theorem dX9_whiteNow_11 : decode cX9_whiteNow 11 = .ok (.iload_n 1, 1) := by decide +kernel
theorem dX9_whiteNow_12 : decode cX9_whiteNow 12 = .ok (.iconst 4, 1) := by decide +kernel
theorem dX9_whiteNow_13 : decode cX9_whiteNow 13 = .ok (.if_icmp .ne 8, 3) := by decide +kernel
theorem dX9_whiteNow_16 : decode cX9_whiteNow 16 = .ok (.aload_n 0, 1) := by decide +kernel
theorem dX9_whiteNow_17 : decode cX9_whiteNow 17 = .ok (.invokevirtual 245, 3) := by decide +kernel
theorem dX9_whiteNow_20 : decode cX9_whiteNow 20 = .ok (.ireturn, 1) := by decide +kernel
theorem dX9_whiteNow_21 : decode cX9_whiteNow 21 = .ok (.iload_n 1, 1) := by decide +kernel
theorem dX9_whiteNow_22 : decode cX9_whiteNow 22 = .ok (.iconst 5, 1) := by decide +kernel
theorem dX9_whiteNow_23 : decode cX9_whiteNow 23 = .ok (.if_icmp .ne 24, 3) := by decide +kernel
theorem dX9_whiteNow_26 : decode cX9_whiteNow 26 = .ok (.iload_n 2, 1) := by decide +kernel
theorem dX9_whiteNow_27 : decode cX9_whiteNow 27 = .ok (.i2f, 1) := by decide +kernel
theorem dX9_whiteNow_28 : decode cX9_whiteNow 28 = .ok (.aload_n 0, 1) := by decide +kernel
theorem dX9_whiteNow_29 : decode cX9_whiteNow 29 = .ok (.getfield 7, 3) := by decide +kernel
theorem dX9_whiteNow_32 : decode cX9_whiteNow 32 = .ok (.iconst 0, 1) := by decide +kernel
theorem dX9_whiteNow_33 : decode cX9_whiteNow 33 = .ok (.iaload, 1) := by decide +kernel
theorem dX9_whiteNow_34 : decode cX9_whiteNow 34 = .ok (.aload_n 0, 1) := by decide +kernel
theorem dX9_whiteNow_35 : decode cX9_whiteNow 35 = .ok (.getfield 7, 3) := by decide +kernel
theorem dX9_whiteNow_38 : decode cX9_whiteNow 38 = .ok (.iconst 1, 1) := by decide +kernel
theorem dX9_whiteNow_39 : decode cX9_whiteNow 39 = .ok (.iaload, 1) := by decide +kernel
theorem dX9_whiteNow_40 : decode cX9_whiteNow 40 = .ok (.imul, 1) := by decide +kernel
theorem dX9_whiteNow_41 : decode cX9_whiteNow 41 = .ok (.i2f, 1) := by decide +kernel
theorem dX9_whiteNow_42 : decode cX9_whiteNow 42 = .ok (.fdiv, 1) := by decide +kernel
theorem dX9_whiteNow_43 : decode cX9_whiteNow 43 = .ok (.invokestatic 160, 3) := by decide +kernel
theorem dX9_whiteNow_46 : decode cX9_whiteNow 46 = .ok (.ireturn, 1) := by decide +kernel
theorem dX9_whiteNow_47 : decode cX9_whiteNow 47 = .ok (.aload_n 0, 1) := by decide +kernel
theorem dX9_whiteNow_48 : decode cX9_whiteNow 48 = .ok (.invokevirtual 248, 3) := by decide +kernel
theorem dX9_whiteNow_51 : decode cX9_whiteNow 51 = .ok (.iload_n 1, 1) := by decide +kernel
theorem dX9_whiteNow_52 : decode cX9_whiteNow 52 = .ok (.iconst 1, 1) := by decide +kernel
theorem dX9_whiteNow_53 : decode cX9_whiteNow 53 = .ok (.if_icmp .ne 10, 3) := by decide +kernel
theorem dX9_whiteNow_56 : decode cX9_whiteNow 56 = .ok (.aload_n 0, 1) := by decide +kernel
theorem dX9_whiteNow_57 : decode cX9_whiteNow 57 = .ok (.getfield 230, 3) := by decide +kernel
theorem dX9_whiteNow_60 : decode cX9_whiteNow 60 = .ok (.goto 19, 3) := by decide +kernel
theorem dX9_whiteNow_63 : decode cX9_whiteNow 63 = .ok (.iload_n 1, 1) := by decide +kernel
theorem dX9_whiteNow_64 : decode cX9_whiteNow 64 = .ok (.iconst 2, 1) := by decide +kernel
theorem dX9_whiteNow_65 : decode cX9_whiteNow 65 = .ok (.if_icmp .ne 10, 3) := by decide +kernel
theorem dX9_whiteNow_68 : decode cX9_whiteNow 68 = .ok (.aload_n 0, 1) := by decide +kernel
theorem dX9_whiteNow_69 : decode cX9_whiteNow 69 = .ok (.getfield 233, 3) := by decide +kernel
theorem dX9_whiteNow_72 : decode cX9_whiteNow 72 = .ok (.goto 7, 3) := by decide +kernel
theorem dX9_whiteNow_75 : decode cX9_whiteNow 75 = .ok (.aload_n 0, 1) := by decide +kernel
theorem dX9_whiteNow_76 : decode cX9_whiteNow 76 = .ok (.getfield 236, 3) := by decide +kernel
theorem dX9_whiteNow_79 : decode cX9_whiteNow 79 = .ok (.ireturn, 1) := by decide +kernel
theorem dX9_white_0 : decode cX9_white 0 = .ok (.iload_n 1, 1) := by decide +kernel
theorem dX9_white_1 : decode cX9_white 1 = .ok (.i2l, 1) := by decide +kernel
theorem dX9_white_2 : decode cX9_white 2 = .ok (.lconst 0, 1) := by decide +kernel
theorem dX9_white_3 : decode cX9_white 3 = .ok (.ldc2_w 251, 3) := by decide +kernel
theorem dX9_white_6 : decode cX9_white 6 = .ok (.invokestatic 46, 3) := by decide +kernel
theorem dX9_white_9 : decode cX9_white 9 = .ok (.ifCond .eq 11, 3) := by decide +kernel
theorem dX9_white_12 : decode cX9_white 12 = .ok (.aload_n 0, 1) := by decide +kernel
theorem dX9_white_13 : decode cX9_white 13 = .ok (.iload_n 1, 1) := by decide +kernel
theorem dX9_white_14 : decode cX9_white 14 = .ok (.invokevirtual 253, 3) := by decide +kernel
theorem dX9_white_17 : decode cX9_white 17 = .ok (.goto 9, 3) := by decide +kernel
theorem dX9_white_20 : decode cX9_white 20 = .ok (.aload_n 0, 1) := by decide +kernel
theorem dX9_white_21 : decode cX9_white 21 = .ok (.bipush (-2), 2) := by decide +kernel
theorem dX9_white_23 : decode cX9_white 23 = .ok (.invokevirtual 101, 3) := by decide +kernel
