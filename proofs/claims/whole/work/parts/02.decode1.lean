theorem dX0_ofFloat_0 : decode cX0_ofFloat 0 = .ok (.fload_n 0, 1) := by decide +kernel
theorem dX0_ofFloat_1 : decode cX0_ofFloat 1 = .ok (.fconst 0, 1) := by decide +kernel
theorem dX0_ofFloat_2 : decode cX0_ofFloat 2 = .ok (.fcmp .l, 1) := by decide +kernel
theorem dX0_ofFloat_3 : decode cX0_ofFloat 3 = .ok (.ifCond .gt 5, 3) := by decide +kernel
theorem dX0_ofFloat_6 : decode cX0_ofFloat 6 = .ok (.iconst 0, 1) := by decide +kernel
theorem dX0_ofFloat_7 : decode cX0_ofFloat 7 = .ok (.ireturn, 1) := by decide +kernel
theorem dX0_ofFloat_8 : decode cX0_ofFloat 8 = .ok (.fload_n 0, 1) := by decide +kernel
theorem dX0_ofFloat_9 : decode cX0_ofFloat 9 = .ok (.fstore_n 1, 1) := by decide +kernel
theorem dX0_ofFloat_10 : decode cX0_ofFloat 10 = .ok (.bipush 127, 2) := by decide +kernel
theorem dX0_ofFloat_12 : decode cX0_ofFloat 12 = .ok (.istore_n 2, 1) := by decide +kernel
theorem dX0_ofFloat_13 : decode cX0_ofFloat 13 = .ok (.iconst 0, 1) := by decide +kernel
theorem dX0_ofFloat_14 : decode cX0_ofFloat 14 = .ok (.istore_n 3, 1) := by decide +kernel
theorem dX0_ofFloat_15 : decode cX0_ofFloat 15 = .ok (.iload_n 3, 1) := by decide +kernel
theorem dX0_ofFloat_16 : decode cX0_ofFloat 16 = .ok (.bipush 127, 2) := by decide +kernel
theorem dX0_ofFloat_18 : decode cX0_ofFloat 18 = .ok (.if_icmp .ge 22, 3) := by decide +kernel
theorem dX0_ofFloat_21 : decode cX0_ofFloat 21 = .ok (.fload_n 1, 1) := by decide +kernel
theorem dX0_ofFloat_22 : decode cX0_ofFloat 22 = .ok (.fconst 2, 1) := by decide +kernel
theorem dX0_ofFloat_23 : decode cX0_ofFloat 23 = .ok (.fcmp .l, 1) := by decide +kernel
theorem dX0_ofFloat_24 : decode cX0_ofFloat 24 = .ok (.ifCond .lt 16, 3) := by decide +kernel
theorem dX0_ofFloat_27 : decode cX0_ofFloat 27 = .ok (.fload_n 1, 1) := by decide +kernel
theorem dX0_ofFloat_28 : decode cX0_ofFloat 28 = .ok (.fconst 2, 1) := by decide +kernel
theorem dX0_ofFloat_29 : decode cX0_ofFloat 29 = .ok (.fdiv, 1) := by decide +kernel
theorem dX0_ofFloat_30 : decode cX0_ofFloat 30 = .ok (.fstore_n 1, 1) := by decide +kernel
theorem dX0_ofFloat_31 : decode cX0_ofFloat 31 = .ok (.iinc 2 1, 3) := by decide +kernel
theorem dX0_ofFloat_34 : decode cX0_ofFloat 34 = .ok (.iinc 3 1, 3) := by decide +kernel
theorem dX0_ofFloat_37 : decode cX0_ofFloat 37 = .ok (.goto (-22), 3) := by decide +kernel
theorem dX0_ofFloat_40 : decode cX0_ofFloat 40 = .ok (.iconst 0, 1) := by decide +kernel
theorem dX0_ofFloat_41 : decode cX0_ofFloat 41 = .ok (.istore_n 3, 1) := by decide +kernel
theorem dX0_ofFloat_42 : decode cX0_ofFloat 42 = .ok (.iload_n 3, 1) := by decide +kernel
theorem dX0_ofFloat_43 : decode cX0_ofFloat 43 = .ok (.bipush 127, 2) := by decide +kernel
theorem dX0_ofFloat_45 : decode cX0_ofFloat 45 = .ok (.if_icmp .ge 22, 3) := by decide +kernel
theorem dX0_ofFloat_48 : decode cX0_ofFloat 48 = .ok (.fload_n 1, 1) := by decide +kernel
theorem dX0_ofFloat_49 : decode cX0_ofFloat 49 = .ok (.fconst 1, 1) := by decide +kernel
theorem dX0_ofFloat_50 : decode cX0_ofFloat 50 = .ok (.fcmp .g, 1) := by decide +kernel
theorem dX0_ofFloat_51 : decode cX0_ofFloat 51 = .ok (.ifCond .ge 16, 3) := by decide +kernel
theorem dX0_ofFloat_54 : decode cX0_ofFloat 54 = .ok (.fload_n 1, 1) := by decide +kernel
theorem dX0_ofFloat_55 : decode cX0_ofFloat 55 = .ok (.fconst 2, 1) := by decide +kernel
theorem dX0_ofFloat_56 : decode cX0_ofFloat 56 = .ok (.fmul, 1) := by decide +kernel
theorem dX0_ofFloat_57 : decode cX0_ofFloat 57 = .ok (.fstore_n 1, 1) := by decide +kernel
theorem dX0_ofFloat_58 : decode cX0_ofFloat 58 = .ok (.iinc 2 (-1), 3) := by decide +kernel
theorem dX0_ofFloat_61 : decode cX0_ofFloat 61 = .ok (.iinc 3 1, 3) := by decide +kernel
theorem dX0_ofFloat_64 : decode cX0_ofFloat 64 = .ok (.goto (-22), 3) := by decide +kernel
theorem dX0_ofFloat_67 : decode cX0_ofFloat 67 = .ok (.iload_n 2, 1) := by decide +kernel
theorem dX0_ofFloat_68 : decode cX0_ofFloat 68 = .ok (.bipush 23, 2) := by decide +kernel
theorem dX0_ofFloat_70 : decode cX0_ofFloat 70 = .ok (.ishl, 1) := by decide +kernel
theorem dX0_ofFloat_71 : decode cX0_ofFloat 71 = .ok (.fload_n 1, 1) := by decide +kernel
theorem dX0_ofFloat_72 : decode cX0_ofFloat 72 = .ok (.fconst 1, 1) := by decide +kernel
theorem dX0_ofFloat_73 : decode cX0_ofFloat 73 = .ok (.fsub, 1) := by decide +kernel
theorem dX0_ofFloat_74 : decode cX0_ofFloat 74 = .ok (.ldc 9, 2) := by decide +kernel
theorem dX0_ofFloat_76 : decode cX0_ofFloat 76 = .ok (.fmul, 1) := by decide +kernel
theorem dX0_ofFloat_77 : decode cX0_ofFloat 77 = .ok (.f2i, 1) := by decide +kernel
theorem dX0_ofFloat_78 : decode cX0_ofFloat 78 = .ok (.iadd, 1) := by decide +kernel
theorem dX0_ofFloat_79 : decode cX0_ofFloat 79 = .ok (.ireturn, 1) := by decide +kernel
theorem dX0_ofDouble_0 : decode cX0_ofDouble 0 = .ok (.dload_n 0, 1) := by decide +kernel
theorem dX0_ofDouble_1 : decode cX0_ofDouble 1 = .ok (.dconst 0, 1) := by decide +kernel
theorem dX0_ofDouble_2 : decode cX0_ofDouble 2 = .ok (.dcmp .l, 1) := by decide +kernel
theorem dX0_ofDouble_3 : decode cX0_ofDouble 3 = .ok (.ifCond .gt 5, 3) := by decide +kernel
theorem dX0_ofDouble_6 : decode cX0_ofDouble 6 = .ok (.lconst 0, 1) := by decide +kernel
theorem dX0_ofDouble_7 : decode cX0_ofDouble 7 = .ok (.lreturn, 1) := by decide +kernel
theorem dX0_ofDouble_8 : decode cX0_ofDouble 8 = .ok (.dload_n 0, 1) := by decide +kernel
theorem dX0_ofDouble_9 : decode cX0_ofDouble 9 = .ok (.dstore_n 2, 1) := by decide +kernel
theorem dX0_ofDouble_10 : decode cX0_ofDouble 10 = .ok (.ldc2_w 10, 3) := by decide +kernel
theorem dX0_ofDouble_13 : decode cX0_ofDouble 13 = .ok (.lstore 4, 2) := by decide +kernel
theorem dX0_ofDouble_15 : decode cX0_ofDouble 15 = .ok (.iconst 0, 1) := by decide +kernel
theorem dX0_ofDouble_16 : decode cX0_ofDouble 16 = .ok (.istore 6, 2) := by decide +kernel
theorem dX0_ofDouble_18 : decode cX0_ofDouble 18 = .ok (.iload 6, 2) := by decide +kernel
theorem dX0_ofDouble_20 : decode cX0_ofDouble 20 = .ok (.sipush 1023, 3) := by decide +kernel
theorem dX0_ofDouble_23 : decode cX0_ofDouble 23 = .ok (.if_icmp .ge 29, 3) := by decide +kernel
theorem dX0_ofDouble_26 : decode cX0_ofDouble 26 = .ok (.dload_n 2, 1) := by decide +kernel
theorem dX0_ofDouble_27 : decode cX0_ofDouble 27 = .ok (.ldc2_w 12, 3) := by decide +kernel
theorem dX0_ofDouble_30 : decode cX0_ofDouble 30 = .ok (.dcmp .l, 1) := by decide +kernel
theorem dX0_ofDouble_31 : decode cX0_ofDouble 31 = .ok (.ifCond .lt 21, 3) := by decide +kernel
theorem dX0_ofDouble_34 : decode cX0_ofDouble 34 = .ok (.dload_n 2, 1) := by decide +kernel
theorem dX0_ofDouble_35 : decode cX0_ofDouble 35 = .ok (.ldc2_w 12, 3) := by decide +kernel
theorem dX0_ofDouble_38 : decode cX0_ofDouble 38 = .ok (.ddiv, 1) := by decide +kernel
theorem dX0_ofDouble_39 : decode cX0_ofDouble 39 = .ok (.dstore_n 2, 1) := by decide +kernel
theorem dX0_ofDouble_40 : decode cX0_ofDouble 40 = .ok (.lload 4, 2) := by decide +kernel
theorem dX0_ofDouble_42 : decode cX0_ofDouble 42 = .ok (.lconst 1, 1) := by decide +kernel
theorem dX0_ofDouble_43 : decode cX0_ofDouble 43 = .ok (.ladd, 1) := by decide +kernel
theorem dX0_ofDouble_44 : decode cX0_ofDouble 44 = .ok (.lstore 4, 2) := by decide +kernel
theorem dX0_ofDouble_46 : decode cX0_ofDouble 46 = .ok (.iinc 6 1, 3) := by decide +kernel
theorem dX0_ofDouble_49 : decode cX0_ofDouble 49 = .ok (.goto (-31), 3) := by decide +kernel
theorem dX0_ofDouble_52 : decode cX0_ofDouble 52 = .ok (.iconst 0, 1) := by decide +kernel
theorem dX0_ofDouble_53 : decode cX0_ofDouble 53 = .ok (.istore 6, 2) := by decide +kernel
theorem dX0_ofDouble_55 : decode cX0_ofDouble 55 = .ok (.iload 6, 2) := by decide +kernel
theorem dX0_ofDouble_57 : decode cX0_ofDouble 57 = .ok (.sipush 1023, 3) := by decide +kernel
theorem dX0_ofDouble_60 : decode cX0_ofDouble 60 = .ok (.if_icmp .ge 27, 3) := by decide +kernel
theorem dX0_ofDouble_63 : decode cX0_ofDouble 63 = .ok (.dload_n 2, 1) := by decide +kernel
theorem dX0_ofDouble_64 : decode cX0_ofDouble 64 = .ok (.dconst 1, 1) := by decide +kernel
theorem dX0_ofDouble_65 : decode cX0_ofDouble 65 = .ok (.dcmp .g, 1) := by decide +kernel
theorem dX0_ofDouble_66 : decode cX0_ofDouble 66 = .ok (.ifCond .ge 21, 3) := by decide +kernel
theorem dX0_ofDouble_69 : decode cX0_ofDouble 69 = .ok (.dload_n 2, 1) := by decide +kernel
theorem dX0_ofDouble_70 : decode cX0_ofDouble 70 = .ok (.ldc2_w 12, 3) := by decide +kernel
theorem dX0_ofDouble_73 : decode cX0_ofDouble 73 = .ok (.dmul, 1) := by decide +kernel
theorem dX0_ofDouble_74 : decode cX0_ofDouble 74 = .ok (.dstore_n 2, 1) := by decide +kernel
theorem dX0_ofDouble_75 : decode cX0_ofDouble 75 = .ok (.lload 4, 2) := by decide +kernel
theorem dX0_ofDouble_77 : decode cX0_ofDouble 77 = .ok (.lconst 1, 1) := by decide +kernel
theorem dX0_ofDouble_78 : decode cX0_ofDouble 78 = .ok (.lsub, 1) := by decide +kernel
theorem dX0_ofDouble_79 : decode cX0_ofDouble 79 = .ok (.lstore 4, 2) := by decide +kernel
theorem dX0_ofDouble_81 : decode cX0_ofDouble 81 = .ok (.iinc 6 1, 3) := by decide +kernel
theorem dX0_ofDouble_84 : decode cX0_ofDouble 84 = .ok (.goto (-29), 3) := by decide +kernel
theorem dX0_ofDouble_87 : decode cX0_ofDouble 87 = .ok (.lload 4, 2) := by decide +kernel
theorem dX0_ofDouble_89 : decode cX0_ofDouble 89 = .ok (.bipush 52, 2) := by decide +kernel
theorem dX0_ofDouble_91 : decode cX0_ofDouble 91 = .ok (.lshl, 1) := by decide +kernel
theorem dX0_ofDouble_92 : decode cX0_ofDouble 92 = .ok (.dload_n 2, 1) := by decide +kernel
theorem dX0_ofDouble_93 : decode cX0_ofDouble 93 = .ok (.dconst 1, 1) := by decide +kernel
theorem dX0_ofDouble_94 : decode cX0_ofDouble 94 = .ok (.dsub, 1) := by decide +kernel
theorem dX0_ofDouble_95 : decode cX0_ofDouble 95 = .ok (.ldc2_w 14, 3) := by decide +kernel
theorem dX0_ofDouble_98 : decode cX0_ofDouble 98 = .ok (.dmul, 1) := by decide +kernel
theorem dX0_ofDouble_99 : decode cX0_ofDouble 99 = .ok (.d2l, 1) := by decide +kernel
theorem dX0_ofDouble_100 : decode cX0_ofDouble 100 = .ok (.ladd, 1) := by decide +kernel
theorem dX0_ofDouble_101 : decode cX0_ofDouble 101 = .ok (.lreturn, 1) := by decide +kernel
theorem dX1_init_0 : decode cX1_init 0 = .ok (.aload_n 0, 1) := by decide +kernel
theorem dX1_init_1 : decode cX1_init 1 = .ok (.invokespecial 3, 3) := by decide +kernel
theorem dX1_init_4 : decode cX1_init 4 = .ok (.aload_n 0, 1) := by decide +kernel
theorem dX1_init_5 : decode cX1_init 5 = .ok (.bipush 12, 2) := by decide +kernel
theorem dX1_init_7 : decode cX1_init 7 = .ok (.putfield 9, 3) := by decide +kernel
theorem dX1_init_10 : decode cX1_init 10 = .ok (.aload_n 0, 1) := by decide +kernel
theorem dX1_init_11 : decode cX1_init 11 = .ok (.bipush 12, 2) := by decide +kernel
theorem dX1_init_13 : decode cX1_init 13 = .ok (.putfield 15, 3) := by decide +kernel
theorem dX1_init_16 : decode cX1_init 16 = .ok (.aload_n 0, 1) := by decide +kernel
theorem dX1_init_17 : decode cX1_init 17 = .ok (.new 18, 3) := by decide +kernel
theorem dX1_init_20 : decode cX1_init 20 = .ok (.dup, 1) := by decide +kernel
theorem dX1_init_21 : decode cX1_init 21 = .ok (.invokespecial 20, 3) := by decide +kernel
theorem dX1_init_24 : decode cX1_init 24 = .ok (.putfield 21, 3) := by decide +kernel
theorem dX1_init_27 : decode cX1_init 27 = .ok (.aload_n 0, 1) := by decide +kernel
theorem dX1_init_28 : decode cX1_init 28 = .ok (.iconst 5, 1) := by decide +kernel
theorem dX1_init_29 : decode cX1_init 29 = .ok (.newarray .int, 2) := by decide +kernel
theorem dX1_init_31 : decode cX1_init 31 = .ok (.putfield 25, 3) := by decide +kernel
theorem dX1_init_34 : decode cX1_init 34 = .ok (.aload_n 0, 1) := by decide +kernel
theorem dX1_init_35 : decode cX1_init 35 = .ok (.getfield 25, 3) := by decide +kernel
theorem dX1_init_38 : decode cX1_init 38 = .ok (.iconst 0, 1) := by decide +kernel
theorem dX1_init_39 : decode cX1_init 39 = .ok (.iconst 1, 1) := by decide +kernel
theorem dX1_init_40 : decode cX1_init 40 = .ok (.iastore, 1) := by decide +kernel
theorem dX1_init_41 : decode cX1_init 41 = .ok (.aload_n 0, 1) := by decide +kernel
theorem dX1_init_42 : decode cX1_init 42 = .ok (.getfield 25, 3) := by decide +kernel
theorem dX1_init_45 : decode cX1_init 45 = .ok (.iconst 2, 1) := by decide +kernel
theorem dX1_init_46 : decode cX1_init 46 = .ok (.bipush 40, 2) := by decide +kernel
theorem dX1_init_48 : decode cX1_init 48 = .ok (.iastore, 1) := by decide +kernel
theorem dX1_init_49 : decode cX1_init 49 = .ok (.aload_n 0, 1) := by decide +kernel
theorem dX1_init_50 : decode cX1_init 50 = .ok (.getfield 25, 3) := by decide +kernel
theorem dX1_init_53 : decode cX1_init 53 = .ok (.iconst 3, 1) := by decide +kernel
theorem dX1_init_54 : decode cX1_init 54 = .ok (.bipush 15, 2) := by decide +kernel
theorem dX1_init_56 : decode cX1_init 56 = .ok (.iastore, 1) := by decide +kernel
theorem dX1_init_57 : decode cX1_init 57 = .ok (.aload_n 0, 1) := by decide +kernel
theorem dX1_init_58 : decode cX1_init 58 = .ok (.bipush 32, 2) := by decide +kernel
theorem dX1_init_60 : decode cX1_init 60 = .ok (.newarray .int, 2) := by decide +kernel
theorem dX1_init_62 : decode cX1_init 62 = .ok (.putfield 29, 3) := by decide +kernel
theorem dX1_init_65 : decode cX1_init 65 = .ok (.aload_n 0, 1) := by decide +kernel
theorem dX1_init_66 : decode cX1_init 66 = .ok (.bipush 8, 2) := by decide +kernel
theorem dX1_init_68 : decode cX1_init 68 = .ok (.newarray .int, 2) := by decide +kernel
theorem dX1_init_70 : decode cX1_init 70 = .ok (.putfield 32, 3) := by decide +kernel
theorem dX1_init_73 : decode cX1_init 73 = .ok (.aload_n 0, 1) := by decide +kernel
theorem dX1_init_74 : decode cX1_init 74 = .ok (.bipush 8, 2) := by decide +kernel
theorem dX1_init_76 : decode cX1_init 76 = .ok (.newarray .int, 2) := by decide +kernel
theorem dX1_init_78 : decode cX1_init 78 = .ok (.putfield 35, 3) := by decide +kernel
theorem dX1_init_81 : decode cX1_init 81 = .ok (.aload_n 0, 1) := by decide +kernel
theorem dX1_init_82 : decode cX1_init 82 = .ok (.bipush 8, 2) := by decide +kernel
theorem dX1_init_84 : decode cX1_init 84 = .ok (.newarray .int, 2) := by decide +kernel
theorem dX1_init_86 : decode cX1_init 86 = .ok (.putfield 38, 3) := by decide +kernel
theorem dX1_init_89 : decode cX1_init 89 = .ok (.aload_n 0, 1) := by decide +kernel
theorem dX1_init_90 : decode cX1_init 90 = .ok (.bipush 8, 2) := by decide +kernel
theorem dX1_init_92 : decode cX1_init 92 = .ok (.newarray .int, 2) := by decide +kernel
theorem dX1_init_94 : decode cX1_init 94 = .ok (.putfield 41, 3) := by decide +kernel
theorem dX1_init_97 : decode cX1_init 97 = .ok (.return_, 1) := by decide +kernel
theorem dX1_copyFrom_0 : decode cX1_copyFrom 0 = .ok (.aload_n 1, 1) := by decide +kernel
theorem dX1_copyFrom_1 : decode cX1_copyFrom 1 = .ok (.ifnonnull 4, 3) := by decide +kernel
theorem dX1_copyFrom_4 : decode cX1_copyFrom 4 = .ok (.return_, 1) := by decide +kernel
theorem dX1_copyFrom_5 : decode cX1_copyFrom 5 = .ok (.aload_n 0, 1) := by decide +kernel
theorem dX1_copyFrom_6 : decode cX1_copyFrom 6 = .ok (.aload_n 1, 1) := by decide +kernel
theorem dX1_copyFrom_7 : decode cX1_copyFrom 7 = .ok (.getfield 9, 3) := by decide +kernel
theorem dX1_copyFrom_10 : decode cX1_copyFrom 10 = .ok (.putfield 9, 3) := by decide +kernel
theorem dX1_copyFrom_13 : decode cX1_copyFrom 13 = .ok (.aload_n 0, 1) := by decide +kernel
theorem dX1_copyFrom_14 : decode cX1_copyFrom 14 = .ok (.aload_n 1, 1) := by decide +kernel
theorem dX1_copyFrom_15 : decode cX1_copyFrom 15 = .ok (.getfield 15, 3) := by decide +kernel
theorem dX1_copyFrom_18 : decode cX1_copyFrom 18 = .ok (.putfield 15, 3) := by decide +kernel
theorem dX1_copyFrom_21 : decode cX1_copyFrom 21 = .ok (.aload_n 0, 1) := by decide +kernel
theorem dX1_copyFrom_22 : decode cX1_copyFrom 22 = .ok (.aload_n 1, 1) := by decide +kernel
theorem dX1_copyFrom_23 : decode cX1_copyFrom 23 = .ok (.getfield 44, 3) := by decide +kernel
theorem dX1_copyFrom_26 : decode cX1_copyFrom 26 = .ok (.putfield 44, 3) := by decide +kernel
theorem dX1_copyFrom_29 : decode cX1_copyFrom 29 = .ok (.aload_n 0, 1) := by decide +kernel
theorem dX1_copyFrom_30 : decode cX1_copyFrom 30 = .ok (.aload_n 1, 1) := by decide +kernel
theorem dX1_copyFrom_31 : decode cX1_copyFrom 31 = .ok (.getfield 47, 3) := by decide +kernel
theorem dX1_copyFrom_34 : decode cX1_copyFrom 34 = .ok (.putfield 47, 3) := by decide +kernel
theorem dX1_copyFrom_37 : decode cX1_copyFrom 37 = .ok (.aload_n 0, 1) := by decide +kernel
theorem dX1_copyFrom_38 : decode cX1_copyFrom 38 = .ok (.getfield 21, 3) := by decide +kernel
theorem dX1_copyFrom_41 : decode cX1_copyFrom 41 = .ok (.aload_n 1, 1) := by decide +kernel
theorem dX1_copyFrom_42 : decode cX1_copyFrom 42 = .ok (.getfield 21, 3) := by decide +kernel
theorem dX1_copyFrom_45 : decode cX1_copyFrom 45 = .ok (.invokevirtual 50, 3) := by decide +kernel
theorem dX1_copyFrom_48 : decode cX1_copyFrom 48 = .ok (.aload_n 1, 1) := by decide +kernel
theorem dX1_copyFrom_49 : decode cX1_copyFrom 49 = .ok (.getfield 25, 3) := by decide +kernel
theorem dX1_copyFrom_52 : decode cX1_copyFrom 52 = .ok (.iconst 0, 1) := by decide +kernel
theorem dX1_copyFrom_53 : decode cX1_copyFrom 53 = .ok (.aload_n 0, 1) := by decide +kernel
theorem dX1_copyFrom_54 : decode cX1_copyFrom 54 = .ok (.getfield 25, 3) := by decide +kernel
theorem dX1_copyFrom_57 : decode cX1_copyFrom 57 = .ok (.iconst 0, 1) := by decide +kernel
theorem dX1_copyFrom_58 : decode cX1_copyFrom 58 = .ok (.iconst 5, 1) := by decide +kernel
theorem dX1_copyFrom_59 : decode cX1_copyFrom 59 = .ok (.invokestatic 54, 3) := by decide +kernel
theorem dX1_copyFrom_62 : decode cX1_copyFrom 62 = .ok (.aload_n 1, 1) := by decide +kernel
theorem dX1_copyFrom_63 : decode cX1_copyFrom 63 = .ok (.getfield 29, 3) := by decide +kernel
theorem dX1_copyFrom_66 : decode cX1_copyFrom 66 = .ok (.iconst 0, 1) := by decide +kernel
theorem dX1_copyFrom_67 : decode cX1_copyFrom 67 = .ok (.aload_n 0, 1) := by decide +kernel
theorem dX1_copyFrom_68 : decode cX1_copyFrom 68 = .ok (.getfield 29, 3) := by decide +kernel
theorem dX1_copyFrom_71 : decode cX1_copyFrom 71 = .ok (.iconst 0, 1) := by decide +kernel
theorem dX1_copyFrom_72 : decode cX1_copyFrom 72 = .ok (.bipush 32, 2) := by decide +kernel
theorem dX1_copyFrom_74 : decode cX1_copyFrom 74 = .ok (.invokestatic 54, 3) := by decide +kernel
theorem dX1_copyFrom_77 : decode cX1_copyFrom 77 = .ok (.aload_n 1, 1) := by decide +kernel
theorem dX1_copyFrom_78 : decode cX1_copyFrom 78 = .ok (.getfield 32, 3) := by decide +kernel
theorem dX1_copyFrom_81 : decode cX1_copyFrom 81 = .ok (.iconst 0, 1) := by decide +kernel
theorem dX1_copyFrom_82 : decode cX1_copyFrom 82 = .ok (.aload_n 0, 1) := by decide +kernel
theorem dX1_copyFrom_83 : decode cX1_copyFrom 83 = .ok (.getfield 32, 3) := by decide +kernel
theorem dX1_copyFrom_86 : decode cX1_copyFrom 86 = .ok (.iconst 0, 1) := by decide +kernel
theorem dX1_copyFrom_87 : decode cX1_copyFrom 87 = .ok (.bipush 8, 2) := by decide +kernel
theorem dX1_copyFrom_89 : decode cX1_copyFrom 89 = .ok (.invokestatic 54, 3) := by decide +kernel
theorem dX1_copyFrom_92 : decode cX1_copyFrom 92 = .ok (.aload_n 1, 1) := by decide +kernel
theorem dX1_copyFrom_93 : decode cX1_copyFrom 93 = .ok (.getfield 35, 3) := by decide +kernel
theorem dX1_copyFrom_96 : decode cX1_copyFrom 96 = .ok (.iconst 0, 1) := by decide +kernel
theorem dX1_copyFrom_97 : decode cX1_copyFrom 97 = .ok (.aload_n 0, 1) := by decide +kernel
theorem dX1_copyFrom_98 : decode cX1_copyFrom 98 = .ok (.getfield 35, 3) := by decide +kernel
theorem dX1_copyFrom_101 : decode cX1_copyFrom 101 = .ok (.iconst 0, 1) := by decide +kernel
theorem dX1_copyFrom_102 : decode cX1_copyFrom 102 = .ok (.bipush 8, 2) := by decide +kernel
theorem dX1_copyFrom_104 : decode cX1_copyFrom 104 = .ok (.invokestatic 54, 3) := by decide +kernel
theorem dX1_copyFrom_107 : decode cX1_copyFrom 107 = .ok (.aload_n 1, 1) := by decide +kernel
theorem dX1_copyFrom_108 : decode cX1_copyFrom 108 = .ok (.getfield 38, 3) := by decide +kernel
theorem dX1_copyFrom_111 : decode cX1_copyFrom 111 = .ok (.iconst 0, 1) := by decide +kernel
theorem dX1_copyFrom_112 : decode cX1_copyFrom 112 = .ok (.aload_n 0, 1) := by decide +kernel
theorem dX1_copyFrom_113 : decode cX1_copyFrom 113 = .ok (.getfield 38, 3) := by decide +kernel
theorem dX1_copyFrom_116 : decode cX1_copyFrom 116 = .ok (.iconst 0, 1) := by decide +kernel
theorem dX1_copyFrom_117 : decode cX1_copyFrom 117 = .ok (.bipush 8, 2) := by decide +kernel
theorem dX1_copyFrom_119 : decode cX1_copyFrom 119 = .ok (.invokestatic 54, 3) := by decide +kernel
theorem dX1_copyFrom_122 : decode cX1_copyFrom 122 = .ok (.aload_n 1, 1) := by decide +kernel
theorem dX1_copyFrom_123 : decode cX1_copyFrom 123 = .ok (.getfield 41, 3) := by decide +kernel
theorem dX1_copyFrom_126 : decode cX1_copyFrom 126 = .ok (.iconst 0, 1) := by decide +kernel
theorem dX1_copyFrom_127 : decode cX1_copyFrom 127 = .ok (.aload_n 0, 1) := by decide +kernel
theorem dX1_copyFrom_128 : decode cX1_copyFrom 128 = .ok (.getfield 41, 3) := by decide +kernel
theorem dX1_copyFrom_131 : decode cX1_copyFrom 131 = .ok (.iconst 0, 1) := by decide +kernel
theorem dX1_copyFrom_132 : decode cX1_copyFrom 132 = .ok (.bipush 8, 2) := by decide +kernel
theorem dX1_copyFrom_134 : decode cX1_copyFrom 134 = .ok (.invokestatic 54, 3) := by decide +kernel
theorem dX1_copyFrom_137 : decode cX1_copyFrom 137 = .ok (.return_, 1) := by decide +kernel
theorem dX1_hasItem_0 : decode cX1_hasItem 0 = .ok (.iload_n 1, 1) := by decide +kernel
theorem dX1_hasItem_1 : decode cX1_hasItem 1 = .ok (.ifCond .lt 21, 3) := by decide +kernel
theorem dX1_hasItem_4 : decode cX1_hasItem 4 = .ok (.iload_n 1, 1) := by decide +kernel
theorem dX1_hasItem_5 : decode cX1_hasItem 5 = .ok (.aload_n 0, 1) := by decide +kernel
theorem dX1_hasItem_6 : decode cX1_hasItem 6 = .ok (.getfield 44, 3) := by decide +kernel
theorem dX1_hasItem_9 : decode cX1_hasItem 9 = .ok (.if_icmp .ge 13, 3) := by decide +kernel
theorem dX1_hasItem_12 : decode cX1_hasItem 12 = .ok (.iload_n 1, 1) := by decide +kernel
theorem dX1_hasItem_13 : decode cX1_hasItem 13 = .ok (.bipush 8, 2) := by decide +kernel
theorem dX1_hasItem_15 : decode cX1_hasItem 15 = .ok (.if_icmp .ge 7, 3) := by decide +kernel
theorem dX1_hasItem_18 : decode cX1_hasItem 18 = .ok (.iconst 1, 1) := by decide +kernel
theorem dX1_hasItem_19 : decode cX1_hasItem 19 = .ok (.goto 4, 3) := by decide +kernel
theorem dX1_hasItem_22 : decode cX1_hasItem 22 = .ok (.iconst 0, 1) := by decide +kernel
theorem dX1_hasItem_23 : decode cX1_hasItem 23 = .ok (.ireturn, 1) := by decide +kernel
theorem dX1_setting_0 : decode cX1_setting 0 = .ok (.iload_n 1, 1) := by decide +kernel
theorem dX1_setting_1 : decode cX1_setting 1 = .ok (.iconst 0, 1) := by decide +kernel
theorem dX1_setting_2 : decode cX1_setting 2 = .ok (.iconst 4, 1) := by decide +kernel
theorem dX1_setting_3 : decode cX1_setting 3 = .ok (.invokestatic 60, 3) := by decide +kernel
theorem dX1_setting_6 : decode cX1_setting 6 = .ok (.ifCond .eq 12, 3) := by decide +kernel
theorem dX1_setting_9 : decode cX1_setting 9 = .ok (.aload_n 0, 1) := by decide +kernel
theorem dX1_setting_10 : decode cX1_setting 10 = .ok (.getfield 25, 3) := by decide +kernel
theorem dX1_setting_13 : decode cX1_setting 13 = .ok (.iload_n 1, 1) := by decide +kernel
theorem dX1_setting_14 : decode cX1_setting 14 = .ok (.iaload, 1) := by decide +kernel
theorem dX1_setting_15 : decode cX1_setting 15 = .ok (.goto 4, 3) := by decide +kernel
theorem dX1_setting_18 : decode cX1_setting 18 = .ok (.iconst (-1), 1) := by decide +kernel
theorem dX1_setting_19 : decode cX1_setting 19 = .ok (.ireturn, 1) := by decide +kernel
theorem dX1_trait_0 : decode cX1_trait 0 = .ok (.aload_n 0, 1) := by decide +kernel
theorem dX1_trait_1 : decode cX1_trait 1 = .ok (.iload_n 1, 1) := by decide +kernel
theorem dX1_trait_2 : decode cX1_trait 2 = .ok (.invokevirtual 64, 3) := by decide +kernel
theorem dX1_trait_5 : decode cX1_trait 5 = .ok (.ifCond .eq 25, 3) := by decide +kernel
theorem dX1_trait_8 : decode cX1_trait 8 = .ok (.iload_n 2, 1) := by decide +kernel
theorem dX1_trait_9 : decode cX1_trait 9 = .ok (.iconst 0, 1) := by decide +kernel
theorem dX1_trait_10 : decode cX1_trait 10 = .ok (.iconst 3, 1) := by decide +kernel
theorem dX1_trait_11 : decode cX1_trait 11 = .ok (.invokestatic 60, 3) := by decide +kernel
theorem dX1_trait_14 : decode cX1_trait 14 = .ok (.ifCond .eq 16, 3) := by decide +kernel
theorem dX1_trait_17 : decode cX1_trait 17 = .ok (.aload_n 0, 1) := by decide +kernel
theorem dX1_trait_18 : decode cX1_trait 18 = .ok (.getfield 29, 3) := by decide +kernel
theorem dX1_trait_21 : decode cX1_trait 21 = .ok (.iconst 4, 1) := by decide +kernel
theorem dX1_trait_22 : decode cX1_trait 22 = .ok (.iload_n 1, 1) := by decide +kernel
theorem dX1_trait_23 : decode cX1_trait 23 = .ok (.imul, 1) := by decide +kernel
theorem dX1_trait_24 : decode cX1_trait 24 = .ok (.iload_n 2, 1) := by decide +kernel
theorem dX1_trait_25 : decode cX1_trait 25 = .ok (.iadd, 1) := by decide +kernel
theorem dX1_trait_26 : decode cX1_trait 26 = .ok (.iaload, 1) := by decide +kernel
theorem dX1_trait_27 : decode cX1_trait 27 = .ok (.goto 4, 3) := by decide +kernel
theorem dX1_trait_30 : decode cX1_trait 30 = .ok (.iconst (-1), 1) := by decide +kernel
theorem dX1_trait_31 : decode cX1_trait 31 = .ok (.ireturn, 1) := by decide +kernel
theorem dX1_againstSize_0 : decode cX1_againstSize 0 = .ok (.iload_n 1, 1) := by decide +kernel
theorem dX1_againstSize_1 : decode cX1_againstSize 1 = .ok (.bipush 6, 2) := by decide +kernel
theorem dX1_againstSize_3 : decode cX1_againstSize 3 = .ok (.bipush 16, 2) := by decide +kernel
theorem dX1_againstSize_5 : decode cX1_againstSize 5 = .ok (.invokestatic 60, 3) := by decide +kernel
theorem dX1_againstSize_8 : decode cX1_againstSize 8 = .ok (.ifCond .eq 18, 3) := by decide +kernel
theorem dX1_againstSize_11 : decode cX1_againstSize 11 = .ok (.iload_n 2, 1) := by decide +kernel
theorem dX1_againstSize_12 : decode cX1_againstSize 12 = .ok (.bipush 6, 2) := by decide +kernel
theorem dX1_againstSize_14 : decode cX1_againstSize 14 = .ok (.bipush 16, 2) := by decide +kernel
theorem dX1_againstSize_16 : decode cX1_againstSize 16 = .ok (.invokestatic 60, 3) := by decide +kernel
theorem dX1_againstSize_19 : decode cX1_againstSize 19 = .ok (.ifCond .eq 7, 3) := by decide +kernel
theorem dX1_againstSize_22 : decode cX1_againstSize 22 = .ok (.iconst 1, 1) := by decide +kernel
theorem dX1_againstSize_23 : decode cX1_againstSize 23 = .ok (.goto 4, 3) := by decide +kernel
theorem dX1_againstSize_26 : decode cX1_againstSize 26 = .ok (.iconst 0, 1) := by decide +kernel
theorem dX1_againstSize_27 : decode cX1_againstSize 27 = .ok (.invokestatic 68, 3) := by decide +kernel
theorem dX1_againstSize_30 : decode cX1_againstSize 30 = .ok (.ireturn, 1) := by decide +kernel
theorem dX1_resize_0 : decode cX1_resize 0 = .ok (.bipush 100, 2) := by decide +kernel
theorem dX1_resize_2 : decode cX1_resize 2 = .ok (.aload_n 0, 1) := by decide +kernel
theorem dX1_resize_3 : decode cX1_resize 3 = .ok (.getfield 9, 3) := by decide +kernel
theorem dX1_resize_6 : decode cX1_resize 6 = .ok (.imul, 1) := by decide +kernel
theorem dX1_resize_7 : decode cX1_resize 7 = .ok (.aload_n 0, 1) := by decide +kernel
theorem dX1_resize_8 : decode cX1_resize 8 = .ok (.getfield 15, 3) := by decide +kernel
theorem dX1_resize_11 : decode cX1_resize 11 = .ok (.iadd, 1) := by decide +kernel
theorem dX1_resize_12 : decode cX1_resize 12 = .ok (.istore_n 3, 1) := by decide +kernel
theorem dX1_resize_13 : decode cX1_resize 13 = .ok (.aload_n 0, 1) := by decide +kernel
theorem dX1_resize_14 : decode cX1_resize 14 = .ok (.iload_n 1, 1) := by decide +kernel
theorem dX1_resize_15 : decode cX1_resize 15 = .ok (.putfield 9, 3) := by decide +kernel
theorem dX1_resize_18 : decode cX1_resize 18 = .ok (.aload_n 0, 1) := by decide +kernel
theorem dX1_resize_19 : decode cX1_resize 19 = .ok (.iload_n 2, 1) := by decide +kernel
theorem dX1_resize_20 : decode cX1_resize 20 = .ok (.putfield 15, 3) := by decide +kernel
theorem dX1_resize_23 : decode cX1_resize 23 = .ok (.aload_n 0, 1) := by decide +kernel
theorem dX1_resize_24 : decode cX1_resize 24 = .ok (.invokevirtual 72, 3) := by decide +kernel
theorem dX1_resize_27 : decode cX1_resize 27 = .ok (.iload_n 3, 1) := by decide +kernel
theorem dX1_resize_28 : decode cX1_resize 28 = .ok (.ireturn, 1) := by decide +kernel
theorem dX1_againstSetting_0 : decode cX1_againstSetting 0 = .ok (.iload_n 1, 1) := by decide +kernel
theorem dX1_againstSetting_1 : decode cX1_againstSetting 1 = .ok (.iconst 0, 1) := by decide +kernel
theorem dX1_againstSetting_2 : decode cX1_againstSetting 2 = .ok (.iconst 4, 1) := by decide +kernel
theorem dX1_againstSetting_3 : decode cX1_againstSetting 3 = .ok (.invokestatic 60, 3) := by decide +kernel
theorem dX1_againstSetting_6 : decode cX1_againstSetting 6 = .ok (.ifCond .eq 24, 3) := by decide +kernel
theorem dX1_againstSetting_9 : decode cX1_againstSetting 9 = .ok (.iload_n 2, 1) := by decide +kernel
theorem dX1_againstSetting_10 : decode cX1_againstSetting 10 = .ok (.getstatic 75, 3) := by decide +kernel
theorem dX1_againstSetting_13 : decode cX1_againstSetting 13 = .ok (.iload_n 1, 1) := by decide +kernel
theorem dX1_againstSetting_14 : decode cX1_againstSetting 14 = .ok (.iaload, 1) := by decide +kernel
theorem dX1_againstSetting_15 : decode cX1_againstSetting 15 = .ok (.getstatic 78, 3) := by decide +kernel
theorem dX1_againstSetting_18 : decode cX1_againstSetting 18 = .ok (.iload_n 1, 1) := by decide +kernel
theorem dX1_againstSetting_19 : decode cX1_againstSetting 19 = .ok (.iaload, 1) := by decide +kernel
theorem dX1_againstSetting_20 : decode cX1_againstSetting 20 = .ok (.invokestatic 60, 3) := by decide +kernel
theorem dX1_againstSetting_23 : decode cX1_againstSetting 23 = .ok (.ifCond .eq 7, 3) := by decide +kernel
theorem dX1_againstSetting_26 : decode cX1_againstSetting 26 = .ok (.iconst 1, 1) := by decide +kernel
theorem dX1_againstSetting_27 : decode cX1_againstSetting 27 = .ok (.goto 4, 3) := by decide +kernel
theorem dX1_againstSetting_30 : decode cX1_againstSetting 30 = .ok (.iconst 0, 1) := by decide +kernel
theorem dX1_againstSetting_31 : decode cX1_againstSetting 31 = .ok (.invokestatic 68, 3) := by decide +kernel
theorem dX1_againstSetting_34 : decode cX1_againstSetting 34 = .ok (.ireturn, 1) := by decide +kernel
theorem dX1_putSetting_0 : decode cX1_putSetting 0 = .ok (.iload_n 1, 1) := by decide +kernel
theorem dX1_putSetting_1 : decode cX1_putSetting 1 = .ok (.iconst 0, 1) := by decide +kernel
theorem dX1_putSetting_2 : decode cX1_putSetting 2 = .ok (.iconst 4, 1) := by decide +kernel
theorem dX1_putSetting_3 : decode cX1_putSetting 3 = .ok (.invokestatic 60, 3) := by decide +kernel
theorem dX1_putSetting_6 : decode cX1_putSetting 6 = .ok (.ifCond .ne 6, 3) := by decide +kernel
theorem dX1_putSetting_9 : decode cX1_putSetting 9 = .ok (.bipush (-2), 2) := by decide +kernel
theorem dX1_putSetting_11 : decode cX1_putSetting 11 = .ok (.ireturn, 1) := by decide +kernel
theorem dX1_putSetting_12 : decode cX1_putSetting 12 = .ok (.aload_n 0, 1) := by decide +kernel
theorem dX1_putSetting_13 : decode cX1_putSetting 13 = .ok (.getfield 25, 3) := by decide +kernel
theorem dX1_putSetting_16 : decode cX1_putSetting 16 = .ok (.iload_n 1, 1) := by decide +kernel
theorem dX1_putSetting_17 : decode cX1_putSetting 17 = .ok (.iaload, 1) := by decide +kernel
theorem dX1_putSetting_18 : decode cX1_putSetting 18 = .ok (.istore_n 3, 1) := by decide +kernel
theorem dX1_putSetting_19 : decode cX1_putSetting 19 = .ok (.aload_n 0, 1) := by decide +kernel
theorem dX1_putSetting_20 : decode cX1_putSetting 20 = .ok (.getfield 25, 3) := by decide +kernel
theorem dX1_putSetting_23 : decode cX1_putSetting 23 = .ok (.iload_n 1, 1) := by decide +kernel
theorem dX1_putSetting_24 : decode cX1_putSetting 24 = .ok (.iload_n 2, 1) := by decide +kernel
theorem dX1_putSetting_25 : decode cX1_putSetting 25 = .ok (.iastore, 1) := by decide +kernel
theorem dX1_putSetting_26 : decode cX1_putSetting 26 = .ok (.aload_n 0, 1) := by decide +kernel
theorem dX1_putSetting_27 : decode cX1_putSetting 27 = .ok (.invokevirtual 72, 3) := by decide +kernel
theorem dX1_putSetting_30 : decode cX1_putSetting 30 = .ok (.iload_n 3, 1) := by decide +kernel
theorem dX1_putSetting_31 : decode cX1_putSetting 31 = .ok (.ireturn, 1) := by decide +kernel
theorem dX1_isTrait_0 : decode cX1_isTrait 0 = .ok (.iload_n 1, 1) := by decide +kernel
theorem dX1_isTrait_1 : decode cX1_isTrait 1 = .ok (.iconst 0, 1) := by decide +kernel
theorem dX1_isTrait_2 : decode cX1_isTrait 2 = .ok (.iconst 3, 1) := by decide +kernel
theorem dX1_isTrait_3 : decode cX1_isTrait 3 = .ok (.invokestatic 60, 3) := by decide +kernel
theorem dX1_isTrait_6 : decode cX1_isTrait 6 = .ok (.ifCond .eq 24, 3) := by decide +kernel
theorem dX1_isTrait_9 : decode cX1_isTrait 9 = .ok (.iload_n 2, 1) := by decide +kernel
theorem dX1_isTrait_10 : decode cX1_isTrait 10 = .ok (.getstatic 81, 3) := by decide +kernel
theorem dX1_isTrait_13 : decode cX1_isTrait 13 = .ok (.iload_n 1, 1) := by decide +kernel
theorem dX1_isTrait_14 : decode cX1_isTrait 14 = .ok (.iaload, 1) := by decide +kernel
theorem dX1_isTrait_15 : decode cX1_isTrait 15 = .ok (.getstatic 84, 3) := by decide +kernel
theorem dX1_isTrait_18 : decode cX1_isTrait 18 = .ok (.iload_n 1, 1) := by decide +kernel
theorem dX1_isTrait_19 : decode cX1_isTrait 19 = .ok (.iaload, 1) := by decide +kernel
theorem dX1_isTrait_20 : decode cX1_isTrait 20 = .ok (.invokestatic 60, 3) := by decide +kernel
theorem dX1_isTrait_23 : decode cX1_isTrait 23 = .ok (.ifCond .eq 7, 3) := by decide +kernel
theorem dX1_isTrait_26 : decode cX1_isTrait 26 = .ok (.iconst 1, 1) := by decide +kernel
theorem dX1_isTrait_27 : decode cX1_isTrait 27 = .ok (.goto 4, 3) := by decide +kernel
theorem dX1_isTrait_30 : decode cX1_isTrait 30 = .ok (.iconst 0, 1) := by decide +kernel
theorem dX1_isTrait_31 : decode cX1_isTrait 31 = .ok (.ireturn, 1) := by decide +kernel
theorem dX1_againstItem_0 : decode cX1_againstItem 0 = .ok (.aload_n 0, 1) := by decide +kernel
theorem dX1_againstItem_1 : decode cX1_againstItem 1 = .ok (.iconst 0, 1) := by decide +kernel
theorem dX1_againstItem_2 : decode cX1_againstItem 2 = .ok (.iload_n 1, 1) := by decide +kernel
theorem dX1_againstItem_3 : decode cX1_againstItem 3 = .ok (.invokevirtual 87, 3) := by decide +kernel
theorem dX1_againstItem_6 : decode cX1_againstItem 6 = .ok (.ifCond .eq 31, 3) := by decide +kernel
theorem dX1_againstItem_9 : decode cX1_againstItem 9 = .ok (.aload_n 0, 1) := by decide +kernel
theorem dX1_againstItem_10 : decode cX1_againstItem 10 = .ok (.iconst 1, 1) := by decide +kernel
theorem dX1_againstItem_11 : decode cX1_againstItem 11 = .ok (.iload_n 2, 1) := by decide +kernel
theorem dX1_againstItem_12 : decode cX1_againstItem 12 = .ok (.invokevirtual 87, 3) := by decide +kernel
theorem dX1_againstItem_15 : decode cX1_againstItem 15 = .ok (.ifCond .eq 22, 3) := by decide +kernel
theorem dX1_againstItem_18 : decode cX1_againstItem 18 = .ok (.aload_n 0, 1) := by decide +kernel
theorem dX1_againstItem_19 : decode cX1_againstItem 19 = .ok (.iconst 2, 1) := by decide +kernel
theorem dX1_againstItem_20 : decode cX1_againstItem 20 = .ok (.iload_n 3, 1) := by decide +kernel
theorem dX1_againstItem_21 : decode cX1_againstItem 21 = .ok (.invokevirtual 87, 3) := by decide +kernel
theorem dX1_againstItem_24 : decode cX1_againstItem 24 = .ok (.ifCond .eq 13, 3) := by decide +kernel
theorem dX1_againstItem_27 : decode cX1_againstItem 27 = .ok (.aload_n 0, 1) := by decide +kernel
theorem dX1_againstItem_28 : decode cX1_againstItem 28 = .ok (.iconst 3, 1) := by decide +kernel
theorem dX1_againstItem_29 : decode cX1_againstItem 29 = .ok (.iload 4, 2) := by decide +kernel
theorem dX1_againstItem_31 : decode cX1_againstItem 31 = .ok (.invokevirtual 87, 3) := by decide +kernel
theorem dX1_againstItem_34 : decode cX1_againstItem 34 = .ok (.ifCond .ne 6, 3) := by decide +kernel
theorem dX1_againstItem_37 : decode cX1_againstItem 37 = .ok (.bipush (-2), 2) := by decide +kernel
theorem dX1_againstItem_39 : decode cX1_againstItem 39 = .ok (.ireturn, 1) := by decide +kernel
theorem dX1_againstItem_40 : decode cX1_againstItem 40 = .ok (.aload_n 0, 1) := by decide +kernel
theorem dX1_againstItem_41 : decode cX1_againstItem 41 = .ok (.getfield 44, 3) := by decide +kernel
theorem dX1_againstItem_44 : decode cX1_againstItem 44 = .ok (.bipush 8, 2) := by decide +kernel
theorem dX1_againstItem_46 : decode cX1_againstItem 46 = .ok (.if_icmp .ge 7, 3) := by decide +kernel
theorem dX1_againstItem_49 : decode cX1_againstItem 49 = .ok (.iconst 0, 1) := by decide +kernel
theorem dX1_againstItem_50 : decode cX1_againstItem 50 = .ok (.goto 5, 3) := by decide +kernel
theorem dX1_againstItem_53 : decode cX1_againstItem 53 = .ok (.bipush (-4), 2) := by decide +kernel
theorem dX1_againstItem_55 : decode cX1_againstItem 55 = .ok (.ireturn, 1) := by decide +kernel
theorem dX1_addItem_0 : decode cX1_addItem 0 = .ok (.aload_n 0, 1) := by decide +kernel
theorem dX1_addItem_1 : decode cX1_addItem 1 = .ok (.getfield 44, 3) := by decide +kernel
theorem dX1_addItem_4 : decode cX1_addItem 4 = .ok (.istore 5, 2) := by decide +kernel
theorem dX1_addItem_6 : decode cX1_addItem 6 = .ok (.iload 5, 2) := by decide +kernel
theorem dX1_addItem_8 : decode cX1_addItem 8 = .ok (.ifCond .lt 10, 3) := by decide +kernel
theorem dX1_addItem_11 : decode cX1_addItem 11 = .ok (.iload 5, 2) := by decide +kernel
theorem dX1_addItem_13 : decode cX1_addItem 13 = .ok (.bipush 8, 2) := by decide +kernel
theorem dX1_addItem_15 : decode cX1_addItem 15 = .ok (.if_icmp .lt 6, 3) := by decide +kernel
theorem dX1_addItem_18 : decode cX1_addItem 18 = .ok (.bipush (-4), 2) := by decide +kernel
theorem dX1_addItem_20 : decode cX1_addItem 20 = .ok (.ireturn, 1) := by decide +kernel
theorem dX1_addItem_21 : decode cX1_addItem 21 = .ok (.aload_n 0, 1) := by decide +kernel
theorem dX1_addItem_22 : decode cX1_addItem 22 = .ok (.getfield 29, 3) := by decide +kernel
theorem dX1_addItem_25 : decode cX1_addItem 25 = .ok (.iconst 4, 1) := by decide +kernel
theorem dX1_addItem_26 : decode cX1_addItem 26 = .ok (.iload 5, 2) := by decide +kernel
theorem dX1_addItem_28 : decode cX1_addItem 28 = .ok (.imul, 1) := by decide +kernel
theorem dX1_addItem_29 : decode cX1_addItem 29 = .ok (.iconst 0, 1) := by decide +kernel
theorem dX1_addItem_30 : decode cX1_addItem 30 = .ok (.iadd, 1) := by decide +kernel
theorem dX1_addItem_31 : decode cX1_addItem 31 = .ok (.iload_n 1, 1) := by decide +kernel
theorem dX1_addItem_32 : decode cX1_addItem 32 = .ok (.iastore, 1) := by decide +kernel
theorem dX1_addItem_33 : decode cX1_addItem 33 = .ok (.aload_n 0, 1) := by decide +kernel
theorem dX1_addItem_34 : decode cX1_addItem 34 = .ok (.getfield 29, 3) := by decide +kernel
theorem dX1_addItem_37 : decode cX1_addItem 37 = .ok (.iconst 4, 1) := by decide +kernel
theorem dX1_addItem_38 : decode cX1_addItem 38 = .ok (.iload 5, 2) := by decide +kernel
theorem dX1_addItem_40 : decode cX1_addItem 40 = .ok (.imul, 1) := by decide +kernel
theorem dX1_addItem_41 : decode cX1_addItem 41 = .ok (.iconst 1, 1) := by decide +kernel
theorem dX1_addItem_42 : decode cX1_addItem 42 = .ok (.iadd, 1) := by decide +kernel
theorem dX1_addItem_43 : decode cX1_addItem 43 = .ok (.iload_n 2, 1) := by decide +kernel
theorem dX1_addItem_44 : decode cX1_addItem 44 = .ok (.iastore, 1) := by decide +kernel
theorem dX1_addItem_45 : decode cX1_addItem 45 = .ok (.aload_n 0, 1) := by decide +kernel
theorem dX1_addItem_46 : decode cX1_addItem 46 = .ok (.getfield 29, 3) := by decide +kernel
theorem dX1_addItem_49 : decode cX1_addItem 49 = .ok (.iconst 4, 1) := by decide +kernel
theorem dX1_addItem_50 : decode cX1_addItem 50 = .ok (.iload 5, 2) := by decide +kernel
theorem dX1_addItem_52 : decode cX1_addItem 52 = .ok (.imul, 1) := by decide +kernel
theorem dX1_addItem_53 : decode cX1_addItem 53 = .ok (.iconst 2, 1) := by decide +kernel
theorem dX1_addItem_54 : decode cX1_addItem 54 = .ok (.iadd, 1) := by decide +kernel
theorem dX1_addItem_55 : decode cX1_addItem 55 = .ok (.iload_n 3, 1) := by decide +kernel
theorem dX1_addItem_56 : decode cX1_addItem 56 = .ok (.iastore, 1) := by decide +kernel
theorem dX1_addItem_57 : decode cX1_addItem 57 = .ok (.aload_n 0, 1) := by decide +kernel
theorem dX1_addItem_58 : decode cX1_addItem 58 = .ok (.getfield 29, 3) := by decide +kernel
theorem dX1_addItem_61 : decode cX1_addItem 61 = .ok (.iconst 4, 1) := by decide +kernel
theorem dX1_addItem_62 : decode cX1_addItem 62 = .ok (.iload 5, 2) := by decide +kernel
theorem dX1_addItem_64 : decode cX1_addItem 64 = .ok (.imul, 1) := by decide +kernel
theorem dX1_addItem_65 : decode cX1_addItem 65 = .ok (.iconst 3, 1) := by decide +kernel
theorem dX1_addItem_66 : decode cX1_addItem 66 = .ok (.iadd, 1) := by decide +kernel
theorem dX1_addItem_67 : decode cX1_addItem 67 = .ok (.iload 4, 2) := by decide +kernel
theorem dX1_addItem_69 : decode cX1_addItem 69 = .ok (.iastore, 1) := by decide +kernel
theorem dX1_addItem_70 : decode cX1_addItem 70 = .ok (.aload_n 0, 1) := by decide +kernel
theorem dX1_addItem_71 : decode cX1_addItem 71 = .ok (.getfield 32, 3) := by decide +kernel
theorem dX1_addItem_74 : decode cX1_addItem 74 = .ok (.iload 5, 2) := by decide +kernel
theorem dX1_addItem_76 : decode cX1_addItem 76 = .ok (.iconst (-1), 1) := by decide +kernel
theorem dX1_addItem_77 : decode cX1_addItem 77 = .ok (.iastore, 1) := by decide +kernel
theorem dX1_addItem_78 : decode cX1_addItem 78 = .ok (.aload_n 0, 1) := by decide +kernel
theorem dX1_addItem_79 : decode cX1_addItem 79 = .ok (.getfield 35, 3) := by decide +kernel
theorem dX1_addItem_82 : decode cX1_addItem 82 = .ok (.iload 5, 2) := by decide +kernel
theorem dX1_addItem_84 : decode cX1_addItem 84 = .ok (.iconst (-1), 1) := by decide +kernel
theorem dX1_addItem_85 : decode cX1_addItem 85 = .ok (.iastore, 1) := by decide +kernel
theorem dX1_addItem_86 : decode cX1_addItem 86 = .ok (.aload_n 0, 1) := by decide +kernel
theorem dX1_addItem_87 : decode cX1_addItem 87 = .ok (.iload 5, 2) := by decide +kernel
theorem dX1_addItem_89 : decode cX1_addItem 89 = .ok (.iconst 1, 1) := by decide +kernel
theorem dX1_addItem_90 : decode cX1_addItem 90 = .ok (.iadd, 1) := by decide +kernel
theorem dX1_addItem_91 : decode cX1_addItem 91 = .ok (.putfield 44, 3) := by decide +kernel
theorem dX1_addItem_94 : decode cX1_addItem 94 = .ok (.aload_n 0, 1) := by decide +kernel
theorem dX1_addItem_95 : decode cX1_addItem 95 = .ok (.invokevirtual 72, 3) := by decide +kernel
theorem dX1_addItem_98 : decode cX1_addItem 98 = .ok (.iload 5, 2) := by decide +kernel
theorem dX1_addItem_100 : decode cX1_addItem 100 = .ok (.ireturn, 1) := by decide +kernel
theorem dX1_removeItem_0 : decode cX1_removeItem 0 = .ok (.aload_n 0, 1) := by decide +kernel
theorem dX1_removeItem_1 : decode cX1_removeItem 1 = .ok (.iload_n 1, 1) := by decide +kernel
theorem dX1_removeItem_2 : decode cX1_removeItem 2 = .ok (.invokevirtual 64, 3) := by decide +kernel
theorem dX1_removeItem_5 : decode cX1_removeItem 5 = .ok (.ifCond .ne 6, 3) := by decide +kernel
theorem dX1_removeItem_8 : decode cX1_removeItem 8 = .ok (.bipush (-2), 2) := by decide +kernel
theorem dX1_removeItem_10 : decode cX1_removeItem 10 = .ok (.ireturn, 1) := by decide +kernel
theorem dX1_removeItem_11 : decode cX1_removeItem 11 = .ok (.aload_n 0, 1) := by decide +kernel
theorem dX1_removeItem_12 : decode cX1_removeItem 12 = .ok (.getfield 44, 3) := by decide +kernel
theorem dX1_removeItem_15 : decode cX1_removeItem 15 = .ok (.iconst 1, 1) := by decide +kernel
theorem dX1_removeItem_16 : decode cX1_removeItem 16 = .ok (.isub, 1) := by decide +kernel
theorem dX1_removeItem_17 : decode cX1_removeItem 17 = .ok (.iload_n 1, 1) := by decide +kernel
theorem dX1_removeItem_18 : decode cX1_removeItem 18 = .ok (.isub, 1) := by decide +kernel
theorem dX1_removeItem_19 : decode cX1_removeItem 19 = .ok (.istore_n 2, 1) := by decide +kernel
theorem dX1_removeItem_20 : decode cX1_removeItem 20 = .ok (.aload_n 0, 1) := by decide +kernel
theorem dX1_removeItem_21 : decode cX1_removeItem 21 = .ok (.getfield 29, 3) := by decide +kernel
theorem dX1_removeItem_24 : decode cX1_removeItem 24 = .ok (.iconst 4, 1) := by decide +kernel
theorem dX1_removeItem_25 : decode cX1_removeItem 25 = .ok (.iload_n 1, 1) := by decide +kernel
theorem dX1_removeItem_26 : decode cX1_removeItem 26 = .ok (.iconst 1, 1) := by decide +kernel
theorem dX1_removeItem_27 : decode cX1_removeItem 27 = .ok (.iadd, 1) := by decide +kernel
theorem dX1_removeItem_28 : decode cX1_removeItem 28 = .ok (.imul, 1) := by decide +kernel
theorem dX1_removeItem_29 : decode cX1_removeItem 29 = .ok (.aload_n 0, 1) := by decide +kernel
theorem dX1_removeItem_30 : decode cX1_removeItem 30 = .ok (.getfield 29, 3) := by decide +kernel
theorem dX1_removeItem_33 : decode cX1_removeItem 33 = .ok (.iconst 4, 1) := by decide +kernel
theorem dX1_removeItem_34 : decode cX1_removeItem 34 = .ok (.iload_n 1, 1) := by decide +kernel
theorem dX1_removeItem_35 : decode cX1_removeItem 35 = .ok (.imul, 1) := by decide +kernel
theorem dX1_removeItem_36 : decode cX1_removeItem 36 = .ok (.iconst 4, 1) := by decide +kernel
theorem dX1_removeItem_37 : decode cX1_removeItem 37 = .ok (.iload_n 2, 1) := by decide +kernel
theorem dX1_removeItem_38 : decode cX1_removeItem 38 = .ok (.imul, 1) := by decide +kernel
theorem dX1_removeItem_39 : decode cX1_removeItem 39 = .ok (.invokestatic 54, 3) := by decide +kernel
theorem dX1_removeItem_42 : decode cX1_removeItem 42 = .ok (.aload_n 0, 1) := by decide +kernel
theorem dX1_removeItem_43 : decode cX1_removeItem 43 = .ok (.getfield 32, 3) := by decide +kernel
theorem dX1_removeItem_46 : decode cX1_removeItem 46 = .ok (.iload_n 1, 1) := by decide +kernel
theorem dX1_removeItem_47 : decode cX1_removeItem 47 = .ok (.iconst 1, 1) := by decide +kernel
theorem dX1_removeItem_48 : decode cX1_removeItem 48 = .ok (.iadd, 1) := by decide +kernel
theorem dX1_removeItem_49 : decode cX1_removeItem 49 = .ok (.aload_n 0, 1) := by decide +kernel
theorem dX1_removeItem_50 : decode cX1_removeItem 50 = .ok (.getfield 32, 3) := by decide +kernel
theorem dX1_removeItem_53 : decode cX1_removeItem 53 = .ok (.iload_n 1, 1) := by decide +kernel
theorem dX1_removeItem_54 : decode cX1_removeItem 54 = .ok (.iload_n 2, 1) := by decide +kernel
theorem dX1_removeItem_55 : decode cX1_removeItem 55 = .ok (.invokestatic 54, 3) := by decide +kernel
theorem dX1_removeItem_58 : decode cX1_removeItem 58 = .ok (.aload_n 0, 1) := by decide +kernel
theorem dX1_removeItem_59 : decode cX1_removeItem 59 = .ok (.getfield 35, 3) := by decide +kernel
theorem dX1_removeItem_62 : decode cX1_removeItem 62 = .ok (.iload_n 1, 1) := by decide +kernel
theorem dX1_removeItem_63 : decode cX1_removeItem 63 = .ok (.iconst 1, 1) := by decide +kernel
theorem dX1_removeItem_64 : decode cX1_removeItem 64 = .ok (.iadd, 1) := by decide +kernel
theorem dX1_removeItem_65 : decode cX1_removeItem 65 = .ok (.aload_n 0, 1) := by decide +kernel
theorem dX1_removeItem_66 : decode cX1_removeItem 66 = .ok (.getfield 35, 3) := by decide +kernel
theorem dX1_removeItem_69 : decode cX1_removeItem 69 = .ok (.iload_n 1, 1) := by decide +kernel
theorem dX1_removeItem_70 : decode cX1_removeItem 70 = .ok (.iload_n 2, 1) := by decide +kernel
theorem dX1_removeItem_71 : decode cX1_removeItem 71 = .ok (.invokestatic 54, 3) := by decide +kernel
theorem dX1_removeItem_74 : decode cX1_removeItem 74 = .ok (.aload_n 0, 1) := by decide +kernel
theorem dX1_removeItem_75 : decode cX1_removeItem 75 = .ok (.dup, 1) := by decide +kernel
theorem dX1_removeItem_76 : decode cX1_removeItem 76 = .ok (.getfield 44, 3) := by decide +kernel
theorem dX1_removeItem_79 : decode cX1_removeItem 79 = .ok (.iconst 1, 1) := by decide +kernel
theorem dX1_removeItem_80 : decode cX1_removeItem 80 = .ok (.isub, 1) := by decide +kernel
theorem dX1_removeItem_81 : decode cX1_removeItem 81 = .ok (.putfield 44, 3) := by decide +kernel
theorem dX1_removeItem_84 : decode cX1_removeItem 84 = .ok (.aload_n 0, 1) := by decide +kernel
theorem dX1_removeItem_85 : decode cX1_removeItem 85 = .ok (.invokevirtual 72, 3) := by decide +kernel
theorem dX1_removeItem_88 : decode cX1_removeItem 88 = .ok (.aload_n 0, 1) := by decide +kernel
theorem dX1_removeItem_89 : decode cX1_removeItem 89 = .ok (.getfield 44, 3) := by decide +kernel
theorem dX1_removeItem_92 : decode cX1_removeItem 92 = .ok (.ireturn, 1) := by decide +kernel
theorem dX1_againstTrait_0 : decode cX1_againstTrait 0 = .ok (.aload_n 0, 1) := by decide +kernel
theorem dX1_againstTrait_1 : decode cX1_againstTrait 1 = .ok (.iload_n 1, 1) := by decide +kernel
theorem dX1_againstTrait_2 : decode cX1_againstTrait 2 = .ok (.invokevirtual 64, 3) := by decide +kernel
theorem dX1_againstTrait_5 : decode cX1_againstTrait 5 = .ok (.ifCond .eq 16, 3) := by decide +kernel
theorem dX1_againstTrait_8 : decode cX1_againstTrait 8 = .ok (.aload_n 0, 1) := by decide +kernel
theorem dX1_againstTrait_9 : decode cX1_againstTrait 9 = .ok (.iload_n 2, 1) := by decide +kernel
theorem dX1_againstTrait_10 : decode cX1_againstTrait 10 = .ok (.iload_n 3, 1) := by decide +kernel
theorem dX1_againstTrait_11 : decode cX1_againstTrait 11 = .ok (.invokevirtual 87, 3) := by decide +kernel
theorem dX1_againstTrait_14 : decode cX1_againstTrait 14 = .ok (.ifCond .eq 7, 3) := by decide +kernel
theorem dX1_againstTrait_17 : decode cX1_againstTrait 17 = .ok (.iconst 1, 1) := by decide +kernel
theorem dX1_againstTrait_18 : decode cX1_againstTrait 18 = .ok (.goto 4, 3) := by decide +kernel
theorem dX1_againstTrait_21 : decode cX1_againstTrait 21 = .ok (.iconst 0, 1) := by decide +kernel
theorem dX1_againstTrait_22 : decode cX1_againstTrait 22 = .ok (.invokestatic 68, 3) := by decide +kernel
theorem dX1_againstTrait_25 : decode cX1_againstTrait 25 = .ok (.ireturn, 1) := by decide +kernel
theorem dX1_putTrait_0 : decode cX1_putTrait 0 = .ok (.aload_n 0, 1) := by decide +kernel
theorem dX1_putTrait_1 : decode cX1_putTrait 1 = .ok (.iload_n 1, 1) := by decide +kernel
theorem dX1_putTrait_2 : decode cX1_putTrait 2 = .ok (.invokevirtual 64, 3) := by decide +kernel
theorem dX1_putTrait_5 : decode cX1_putTrait 5 = .ok (.ifCond .eq 12, 3) := by decide +kernel
theorem dX1_putTrait_8 : decode cX1_putTrait 8 = .ok (.iload_n 2, 1) := by decide +kernel
theorem dX1_putTrait_9 : decode cX1_putTrait 9 = .ok (.iconst 0, 1) := by decide +kernel
theorem dX1_putTrait_10 : decode cX1_putTrait 10 = .ok (.iconst 3, 1) := by decide +kernel
theorem dX1_putTrait_11 : decode cX1_putTrait 11 = .ok (.invokestatic 60, 3) := by decide +kernel
theorem dX1_putTrait_14 : decode cX1_putTrait 14 = .ok (.ifCond .ne 6, 3) := by decide +kernel
theorem dX1_putTrait_17 : decode cX1_putTrait 17 = .ok (.bipush (-2), 2) := by decide +kernel
theorem dX1_putTrait_19 : decode cX1_putTrait 19 = .ok (.ireturn, 1) := by decide +kernel
theorem dX1_putTrait_20 : decode cX1_putTrait 20 = .ok (.aload_n 0, 1) := by decide +kernel
theorem dX1_putTrait_21 : decode cX1_putTrait 21 = .ok (.getfield 29, 3) := by decide +kernel
theorem dX1_putTrait_24 : decode cX1_putTrait 24 = .ok (.iconst 4, 1) := by decide +kernel
theorem dX1_putTrait_25 : decode cX1_putTrait 25 = .ok (.iload_n 1, 1) := by decide +kernel
theorem dX1_putTrait_26 : decode cX1_putTrait 26 = .ok (.imul, 1) := by decide +kernel
theorem dX1_putTrait_27 : decode cX1_putTrait 27 = .ok (.iload_n 2, 1) := by decide +kernel
theorem dX1_putTrait_28 : decode cX1_putTrait 28 = .ok (.iadd, 1) := by decide +kernel
theorem dX1_putTrait_29 : decode cX1_putTrait 29 = .ok (.iaload, 1) := by decide +kernel
theorem dX1_putTrait_30 : decode cX1_putTrait 30 = .ok (.istore 4, 2) := by decide +kernel
theorem dX1_putTrait_32 : decode cX1_putTrait 32 = .ok (.aload_n 0, 1) := by decide +kernel
theorem dX1_putTrait_33 : decode cX1_putTrait 33 = .ok (.getfield 29, 3) := by decide +kernel
theorem dX1_putTrait_36 : decode cX1_putTrait 36 = .ok (.iconst 4, 1) := by decide +kernel
theorem dX1_putTrait_37 : decode cX1_putTrait 37 = .ok (.iload_n 1, 1) := by decide +kernel
theorem dX1_putTrait_38 : decode cX1_putTrait 38 = .ok (.imul, 1) := by decide +kernel
theorem dX1_putTrait_39 : decode cX1_putTrait 39 = .ok (.iload_n 2, 1) := by decide +kernel
theorem dX1_putTrait_40 : decode cX1_putTrait 40 = .ok (.iadd, 1) := by decide +kernel
theorem dX1_putTrait_41 : decode cX1_putTrait 41 = .ok (.iload_n 3, 1) := by decide +kernel
theorem dX1_putTrait_42 : decode cX1_putTrait 42 = .ok (.iastore, 1) := by decide +kernel
theorem dX1_putTrait_43 : decode cX1_putTrait 43 = .ok (.aload_n 0, 1) := by decide +kernel
theorem dX1_putTrait_44 : decode cX1_putTrait 44 = .ok (.invokevirtual 72, 3) := by decide +kernel
theorem dX1_putTrait_47 : decode cX1_putTrait 47 = .ok (.iload 4, 2) := by decide +kernel
theorem dX1_putTrait_49 : decode cX1_putTrait 49 = .ok (.ireturn, 1) := by decide +kernel
theorem dX1_sideOf_0 : decode cX1_sideOf 0 = .ok (.aload_n 0, 1) := by decide +kernel
theorem dX1_sideOf_1 : decode cX1_sideOf 1 = .ok (.getfield 25, 3) := by decide +kernel
theorem dX1_sideOf_4 : decode cX1_sideOf 4 = .ok (.iconst 2, 1) := by decide +kernel
theorem dX1_sideOf_5 : decode cX1_sideOf 5 = .ok (.iaload, 1) := by decide +kernel
theorem dX1_sideOf_6 : decode cX1_sideOf 6 = .ok (.i2f, 1) := by decide +kernel
theorem dX1_sideOf_7 : decode cX1_sideOf 7 = .ok (.ldc 91, 2) := by decide +kernel
theorem dX1_sideOf_9 : decode cX1_sideOf 9 = .ok (.fdiv, 1) := by decide +kernel
theorem dX1_sideOf_10 : decode cX1_sideOf 10 = .ok (.fstore_n 2, 1) := by decide +kernel
theorem dX1_sideOf_11 : decode cX1_sideOf 11 = .ok (.aload_n 0, 1) := by decide +kernel
theorem dX1_sideOf_12 : decode cX1_sideOf 12 = .ok (.getfield 25, 3) := by decide +kernel
theorem dX1_sideOf_15 : decode cX1_sideOf 15 = .ok (.iconst 3, 1) := by decide +kernel
theorem dX1_sideOf_16 : decode cX1_sideOf 16 = .ok (.iaload, 1) := by decide +kernel
theorem dX1_sideOf_17 : decode cX1_sideOf 17 = .ok (.i2f, 1) := by decide +kernel
theorem dX1_sideOf_18 : decode cX1_sideOf 18 = .ok (.ldc 91, 2) := by decide +kernel
theorem dX1_sideOf_20 : decode cX1_sideOf 20 = .ok (.fdiv, 1) := by decide +kernel
theorem dX1_sideOf_21 : decode cX1_sideOf 21 = .ok (.fstore_n 3, 1) := by decide +kernel
theorem dX1_sideOf_22 : decode cX1_sideOf 22 = .ok (.iconst 2, 1) := by decide +kernel
theorem dX1_sideOf_23 : decode cX1_sideOf 23 = .ok (.istore 4, 2) := by decide +kernel
theorem dX1_sideOf_25 : decode cX1_sideOf 25 = .ok (.iload 4, 2) := by decide +kernel
theorem dX1_sideOf_27 : decode cX1_sideOf 27 = .ok (.iload_n 1, 1) := by decide +kernel
theorem dX1_sideOf_28 : decode cX1_sideOf 28 = .ok (.if_icmp .gt 19, 3) := by decide +kernel
theorem dX1_sideOf_31 : decode cX1_sideOf 31 = .ok (.fload_n 3, 1) := by decide +kernel
theorem dX1_sideOf_32 : decode cX1_sideOf 32 = .ok (.fconst 0, 1) := by decide +kernel
theorem dX1_sideOf_33 : decode cX1_sideOf 33 = .ok (.fcmp .l, 1) := by decide +kernel
theorem dX1_sideOf_34 : decode cX1_sideOf 34 = .ok (.ifCond .le 13, 3) := by decide +kernel
theorem dX1_sideOf_37 : decode cX1_sideOf 37 = .ok (.fload_n 2, 1) := by decide +kernel
theorem dX1_sideOf_38 : decode cX1_sideOf 38 = .ok (.fload_n 3, 1) := by decide +kernel
theorem dX1_sideOf_39 : decode cX1_sideOf 39 = .ok (.fdiv, 1) := by decide +kernel
theorem dX1_sideOf_40 : decode cX1_sideOf 40 = .ok (.fstore_n 2, 1) := by decide +kernel
theorem dX1_sideOf_41 : decode cX1_sideOf 41 = .ok (.iinc 4 1, 3) := by decide +kernel
theorem dX1_sideOf_44 : decode cX1_sideOf 44 = .ok (.goto (-19), 3) := by decide +kernel
theorem dX1_sideOf_47 : decode cX1_sideOf 47 = .ok (.fload_n 2, 1) := by decide +kernel
theorem dX1_sideOf_48 : decode cX1_sideOf 48 = .ok (.freturn, 1) := by decide +kernel
theorem dX1_cutToCells_0 : decode cX1_cutToCells 0 = .ok (.iconst 1, 1) := by decide +kernel
theorem dX1_cutToCells_1 : decode cX1_cutToCells 1 = .ok (.fload_n 0, 1) := by decide +kernel
theorem dX1_cutToCells_2 : decode cX1_cutToCells 2 = .ok (.ldc 92, 2) := by decide +kernel
theorem dX1_cutToCells_4 : decode cX1_cutToCells 4 = .ok (.fadd, 1) := by decide +kernel
theorem dX1_cutToCells_5 : decode cX1_cutToCells 5 = .ok (.f2i, 1) := by decide +kernel
theorem dX1_cutToCells_6 : decode cX1_cutToCells 6 = .ok (.invokestatic 93, 3) := by decide +kernel
theorem dX1_cutToCells_9 : decode cX1_cutToCells 9 = .ok (.ireturn, 1) := by decide +kernel
theorem dX1_measure_0 : decode cX1_measure 0 = .ok (.iconst 0, 1) := by decide +kernel
theorem dX1_measure_1 : decode cX1_measure 1 = .ok (.istore_n 1, 1) := by decide +kernel
theorem dX1_measure_2 : decode cX1_measure 2 = .ok (.iload_n 1, 1) := by decide +kernel
theorem dX1_measure_3 : decode cX1_measure 3 = .ok (.aload_n 0, 1) := by decide +kernel
theorem dX1_measure_4 : decode cX1_measure 4 = .ok (.getfield 44, 3) := by decide +kernel
theorem dX1_measure_7 : decode cX1_measure 7 = .ok (.if_icmp .ge 86, 3) := by decide +kernel
theorem dX1_measure_10 : decode cX1_measure 10 = .ok (.iload_n 1, 1) := by decide +kernel
theorem dX1_measure_11 : decode cX1_measure 11 = .ok (.bipush 8, 2) := by decide +kernel
theorem dX1_measure_13 : decode cX1_measure 13 = .ok (.if_icmp .ge 80, 3) := by decide +kernel
theorem dX1_measure_16 : decode cX1_measure 16 = .ok (.aload_n 0, 1) := by decide +kernel
theorem dX1_measure_17 : decode cX1_measure 17 = .ok (.aload_n 0, 1) := by decide +kernel
theorem dX1_measure_18 : decode cX1_measure 18 = .ok (.iload_n 1, 1) := by decide +kernel
theorem dX1_measure_19 : decode cX1_measure 19 = .ok (.iconst 1, 1) := by decide +kernel
theorem dX1_measure_20 : decode cX1_measure 20 = .ok (.invokevirtual 99, 3) := by decide +kernel
theorem dX1_measure_23 : decode cX1_measure 23 = .ok (.invokevirtual 102, 3) := by decide +kernel
theorem dX1_measure_26 : decode cX1_measure 26 = .ok (.fstore_n 2, 1) := by decide +kernel
theorem dX1_measure_27 : decode cX1_measure 27 = .ok (.aload_n 0, 1) := by decide +kernel
theorem dX1_measure_28 : decode cX1_measure 28 = .ok (.iload_n 1, 1) := by decide +kernel
theorem dX1_measure_29 : decode cX1_measure 29 = .ok (.iconst 3, 1) := by decide +kernel
theorem dX1_measure_30 : decode cX1_measure 30 = .ok (.invokevirtual 99, 3) := by decide +kernel
theorem dX1_measure_33 : decode cX1_measure 33 = .ok (.istore_n 3, 1) := by decide +kernel
theorem dX1_measure_34 : decode cX1_measure 34 = .ok (.fload_n 2, 1) := by decide +kernel
theorem dX1_measure_35 : decode cX1_measure 35 = .ok (.aload_n 0, 1) := by decide +kernel
theorem dX1_measure_36 : decode cX1_measure 36 = .ok (.iload_n 1, 1) := by decide +kernel
theorem dX1_measure_37 : decode cX1_measure 37 = .ok (.iconst 2, 1) := by decide +kernel
theorem dX1_measure_38 : decode cX1_measure 38 = .ok (.invokevirtual 99, 3) := by decide +kernel
theorem dX1_measure_41 : decode cX1_measure 41 = .ok (.i2f, 1) := by decide +kernel
theorem dX1_measure_42 : decode cX1_measure 42 = .ok (.fmul, 1) := by decide +kernel
theorem dX1_measure_43 : decode cX1_measure 43 = .ok (.fstore 4, 2) := by decide +kernel
theorem dX1_measure_45 : decode cX1_measure 45 = .ok (.aload_n 0, 1) := by decide +kernel
theorem dX1_measure_46 : decode cX1_measure 46 = .ok (.iload_n 1, 1) := by decide +kernel
theorem dX1_measure_47 : decode cX1_measure 47 = .ok (.iconst 0, 1) := by decide +kernel
theorem dX1_measure_48 : decode cX1_measure 48 = .ok (.invokevirtual 99, 3) := by decide +kernel
theorem dX1_measure_51 : decode cX1_measure 51 = .ok (.iconst 1, 1) := by decide +kernel
theorem dX1_measure_52 : decode cX1_measure 52 = .ok (.if_icmp .ne 14, 3) := by decide +kernel
theorem dX1_measure_55 : decode cX1_measure 55 = .ok (.iload_n 3, 1) := by decide +kernel
theorem dX1_measure_56 : decode cX1_measure 56 = .ok (.ifCond .le 10, 3) := by decide +kernel
theorem dX1_measure_59 : decode cX1_measure 59 = .ok (.fload 4, 2) := by decide +kernel
theorem dX1_measure_61 : decode cX1_measure 61 = .ok (.iload_n 3, 1) := by decide +kernel
theorem dX1_measure_62 : decode cX1_measure 62 = .ok (.i2f, 1) := by decide +kernel
theorem dX1_measure_63 : decode cX1_measure 63 = .ok (.fdiv, 1) := by decide +kernel
theorem dX1_measure_64 : decode cX1_measure 64 = .ok (.fstore 4, 2) := by decide +kernel
theorem dX1_measure_66 : decode cX1_measure 66 = .ok (.aload_n 0, 1) := by decide +kernel
theorem dX1_measure_67 : decode cX1_measure 67 = .ok (.getfield 41, 3) := by decide +kernel
theorem dX1_measure_70 : decode cX1_measure 70 = .ok (.iload_n 1, 1) := by decide +kernel
theorem dX1_measure_71 : decode cX1_measure 71 = .ok (.fload_n 2, 1) := by decide +kernel
theorem dX1_measure_72 : decode cX1_measure 72 = .ok (.invokestatic 106, 3) := by decide +kernel
theorem dX1_measure_75 : decode cX1_measure 75 = .ok (.iastore, 1) := by decide +kernel
theorem dX1_measure_76 : decode cX1_measure 76 = .ok (.aload_n 0, 1) := by decide +kernel
theorem dX1_measure_77 : decode cX1_measure 77 = .ok (.getfield 38, 3) := by decide +kernel
theorem dX1_measure_80 : decode cX1_measure 80 = .ok (.iload_n 1, 1) := by decide +kernel
theorem dX1_measure_81 : decode cX1_measure 81 = .ok (.fload 4, 2) := by decide +kernel
theorem dX1_measure_83 : decode cX1_measure 83 = .ok (.invokestatic 106, 3) := by decide +kernel
theorem dX1_measure_86 : decode cX1_measure 86 = .ok (.iastore, 1) := by decide +kernel
theorem dX1_measure_87 : decode cX1_measure 87 = .ok (.iinc 1 1, 3) := by decide +kernel
theorem dX1_measure_90 : decode cX1_measure 90 = .ok (.goto (-88), 3) := by decide +kernel
theorem dX1_measure_93 : decode cX1_measure 93 = .ok (.aload_n 0, 1) := by decide +kernel
theorem dX1_measure_94 : decode cX1_measure 94 = .ok (.iconst 0, 1) := by decide +kernel
theorem dX1_measure_95 : decode cX1_measure 95 = .ok (.putfield 47, 3) := by decide +kernel
theorem dX1_measure_98 : decode cX1_measure 98 = .ok (.iconst 0, 1) := by decide +kernel
theorem dX1_measure_99 : decode cX1_measure 99 = .ok (.istore_n 1, 1) := by decide +kernel
theorem dX1_measure_100 : decode cX1_measure 100 = .ok (.iload_n 1, 1) := by decide +kernel
theorem dX1_measure_101 : decode cX1_measure 101 = .ok (.aload_n 0, 1) := by decide +kernel
theorem dX1_measure_102 : decode cX1_measure 102 = .ok (.getfield 25, 3) := by decide +kernel
theorem dX1_measure_105 : decode cX1_measure 105 = .ok (.iconst 4, 1) := by decide +kernel
theorem dX1_measure_106 : decode cX1_measure 106 = .ok (.iaload, 1) := by decide +kernel
theorem dX1_measure_107 : decode cX1_measure 107 = .ok (.if_icmp .ge 25, 3) := by decide +kernel
theorem dX1_measure_110 : decode cX1_measure 110 = .ok (.aload_n 0, 1) := by decide +kernel
theorem dX1_measure_111 : decode cX1_measure 111 = .ok (.dup, 1) := by decide +kernel
theorem dX1_measure_112 : decode cX1_measure 112 = .ok (.getfield 47, 3) := by decide +kernel
theorem dX1_measure_115 : decode cX1_measure 115 = .ok (.iconst 1, 1) := by decide +kernel
theorem dX1_measure_116 : decode cX1_measure 116 = .ok (.aload_n 0, 1) := by decide +kernel
theorem dX1_measure_117 : decode cX1_measure 117 = .ok (.iload_n 1, 1) := by decide +kernel
theorem dX1_measure_118 : decode cX1_measure 118 = .ok (.invokevirtual 110, 3) := by decide +kernel
theorem dX1_measure_121 : decode cX1_measure 121 = .ok (.ishl, 1) := by decide +kernel
theorem dX1_measure_122 : decode cX1_measure 122 = .ok (.ior, 1) := by decide +kernel
theorem dX1_measure_123 : decode cX1_measure 123 = .ok (.putfield 47, 3) := by decide +kernel
theorem dX1_measure_126 : decode cX1_measure 126 = .ok (.iinc 1 1, 3) := by decide +kernel
theorem dX1_measure_129 : decode cX1_measure 129 = .ok (.goto (-29), 3) := by decide +kernel
theorem dX1_measure_132 : decode cX1_measure 132 = .ok (.return_, 1) := by decide +kernel
theorem dX1_lineOf_0 : decode cX1_lineOf 0 = .ok (.aload_n 0, 1) := by decide +kernel
theorem dX1_lineOf_1 : decode cX1_lineOf 1 = .ok (.getfield 25, 3) := by decide +kernel
theorem dX1_lineOf_4 : decode cX1_lineOf 4 = .ok (.iconst 4, 1) := by decide +kernel
theorem dX1_lineOf_5 : decode cX1_lineOf 5 = .ok (.iaload, 1) := by decide +kernel
theorem dX1_lineOf_6 : decode cX1_lineOf 6 = .ok (.istore_n 2, 1) := by decide +kernel
theorem dX1_lineOf_7 : decode cX1_lineOf 7 = .ok (.iload_n 1, 1) := by decide +kernel
theorem dX1_lineOf_8 : decode cX1_lineOf 8 = .ok (.ifCond .lt 8, 3) := by decide +kernel
theorem dX1_lineOf_11 : decode cX1_lineOf 11 = .ok (.iload_n 1, 1) := by decide +kernel
theorem dX1_lineOf_12 : decode cX1_lineOf 12 = .ok (.iload_n 2, 1) := by decide +kernel
theorem dX1_lineOf_13 : decode cX1_lineOf 13 = .ok (.if_icmp .lt 5, 3) := by decide +kernel
theorem dX1_lineOf_16 : decode cX1_lineOf 16 = .ok (.iconst (-1), 1) := by decide +kernel
theorem dX1_lineOf_17 : decode cX1_lineOf 17 = .ok (.ireturn, 1) := by decide +kernel
theorem dX1_lineOf_18 : decode cX1_lineOf 18 = .ok (.iload_n 1, 1) := by decide +kernel
theorem dX1_lineOf_19 : decode cX1_lineOf 19 = .ok (.aload_n 0, 1) := by decide +kernel
theorem dX1_lineOf_20 : decode cX1_lineOf 20 = .ok (.getfield 9, 3) := by decide +kernel
theorem dX1_lineOf_23 : decode cX1_lineOf 23 = .ok (.iconst 2, 1) := by decide +kernel
theorem dX1_lineOf_24 : decode cX1_lineOf 24 = .ok (.aload_n 0, 1) := by decide +kernel
theorem dX1_lineOf_25 : decode cX1_lineOf 25 = .ok (.getfield 25, 3) := by decide +kernel
theorem dX1_lineOf_28 : decode cX1_lineOf 28 = .ok (.iconst 0, 1) := by decide +kernel
theorem dX1_lineOf_29 : decode cX1_lineOf 29 = .ok (.iaload, 1) := by decide +kernel
theorem dX1_lineOf_30 : decode cX1_lineOf 30 = .ok (.imul, 1) := by decide +kernel
theorem dX1_lineOf_31 : decode cX1_lineOf 31 = .ok (.isub, 1) := by decide +kernel
theorem dX1_lineOf_32 : decode cX1_lineOf 32 = .ok (.imul, 1) := by decide +kernel
theorem dX1_lineOf_33 : decode cX1_lineOf 33 = .ok (.i2f, 1) := by decide +kernel
theorem dX1_lineOf_34 : decode cX1_lineOf 34 = .ok (.fstore_n 3, 1) := by decide +kernel
theorem dX1_lineOf_35 : decode cX1_lineOf 35 = .ok (.aload_n 0, 1) := by decide +kernel
theorem dX1_lineOf_36 : decode cX1_lineOf 36 = .ok (.getfield 25, 3) := by decide +kernel
theorem dX1_lineOf_39 : decode cX1_lineOf 39 = .ok (.iconst 0, 1) := by decide +kernel
theorem dX1_lineOf_40 : decode cX1_lineOf 40 = .ok (.iaload, 1) := by decide +kernel
theorem dX1_lineOf_41 : decode cX1_lineOf 41 = .ok (.fload_n 3, 1) := by decide +kernel
theorem dX1_lineOf_42 : decode cX1_lineOf 42 = .ok (.iload_n 2, 1) := by decide +kernel
theorem dX1_lineOf_43 : decode cX1_lineOf 43 = .ok (.i2f, 1) := by decide +kernel
theorem dX1_lineOf_44 : decode cX1_lineOf 44 = .ok (.fdiv, 1) := by decide +kernel
theorem dX1_lineOf_45 : decode cX1_lineOf 45 = .ok (.f2i, 1) := by decide +kernel
theorem dX1_lineOf_46 : decode cX1_lineOf 46 = .ok (.iadd, 1) := by decide +kernel
theorem dX1_lineOf_47 : decode cX1_lineOf 47 = .ok (.ireturn, 1) := by decide +kernel
theorem dX1_wide_0 : decode cX1_wide 0 = .ok (.aload_n 0, 1) := by decide +kernel
theorem dX1_wide_1 : decode cX1_wide 1 = .ok (.iload_n 1, 1) := by decide +kernel
theorem dX1_wide_2 : decode cX1_wide 2 = .ok (.invokevirtual 64, 3) := by decide +kernel
theorem dX1_wide_5 : decode cX1_wide 5 = .ok (.ifCond .eq 12, 3) := by decide +kernel
theorem dX1_wide_8 : decode cX1_wide 8 = .ok (.aload_n 0, 1) := by decide +kernel
theorem dX1_wide_9 : decode cX1_wide 9 = .ok (.getfield 38, 3) := by decide +kernel
theorem dX1_wide_12 : decode cX1_wide 12 = .ok (.iload_n 1, 1) := by decide +kernel
theorem dX1_wide_13 : decode cX1_wide 13 = .ok (.iaload, 1) := by decide +kernel
theorem dX1_wide_14 : decode cX1_wide 14 = .ok (.goto 4, 3) := by decide +kernel
theorem dX1_wide_17 : decode cX1_wide 17 = .ok (.iconst (-1), 1) := by decide +kernel
theorem dX1_wide_18 : decode cX1_wide 18 = .ok (.ireturn, 1) := by decide +kernel
theorem dX1_high_0 : decode cX1_high 0 = .ok (.aload_n 0, 1) := by decide +kernel
theorem dX1_high_1 : decode cX1_high 1 = .ok (.iload_n 1, 1) := by decide +kernel
theorem dX1_high_2 : decode cX1_high 2 = .ok (.invokevirtual 64, 3) := by decide +kernel
theorem dX1_high_5 : decode cX1_high 5 = .ok (.ifCond .eq 12, 3) := by decide +kernel
theorem dX1_high_8 : decode cX1_high 8 = .ok (.aload_n 0, 1) := by decide +kernel
theorem dX1_high_9 : decode cX1_high 9 = .ok (.getfield 41, 3) := by decide +kernel
theorem dX1_high_12 : decode cX1_high 12 = .ok (.iload_n 1, 1) := by decide +kernel
theorem dX1_high_13 : decode cX1_high 13 = .ok (.iaload, 1) := by decide +kernel
theorem dX1_high_14 : decode cX1_high 14 = .ok (.goto 4, 3) := by decide +kernel
theorem dX1_high_17 : decode cX1_high 17 = .ok (.iconst (-1), 1) := by decide +kernel
theorem dX1_high_18 : decode cX1_high 18 = .ok (.ireturn, 1) := by decide +kernel
theorem dX1_weight_0 : decode cX1_weight 0 = .ok (.aload_n 0, 1) := by decide +kernel
theorem dX1_weight_1 : decode cX1_weight 1 = .ok (.iload_n 1, 1) := by decide +kernel
theorem dX1_weight_2 : decode cX1_weight 2 = .ok (.invokevirtual 64, 3) := by decide +kernel
theorem dX1_weight_5 : decode cX1_weight 5 = .ok (.ifCond .eq 29, 3) := by decide +kernel
theorem dX1_weight_8 : decode cX1_weight 8 = .ok (.aload_n 0, 1) := by decide +kernel
theorem dX1_weight_9 : decode cX1_weight 9 = .ok (.getfield 38, 3) := by decide +kernel
theorem dX1_weight_12 : decode cX1_weight 12 = .ok (.iload_n 1, 1) := by decide +kernel
theorem dX1_weight_13 : decode cX1_weight 13 = .ok (.iaload, 1) := by decide +kernel
theorem dX1_weight_14 : decode cX1_weight 14 = .ok (.aload_n 0, 1) := by decide +kernel
theorem dX1_weight_15 : decode cX1_weight 15 = .ok (.getfield 41, 3) := by decide +kernel
theorem dX1_weight_18 : decode cX1_weight 18 = .ok (.iload_n 1, 1) := by decide +kernel
theorem dX1_weight_19 : decode cX1_weight 19 = .ok (.iaload, 1) := by decide +kernel
theorem dX1_weight_20 : decode cX1_weight 20 = .ok (.imul, 1) := by decide +kernel
theorem dX1_weight_21 : decode cX1_weight 21 = .ok (.bipush 7, 2) := by decide +kernel
theorem dX1_weight_23 : decode cX1_weight 23 = .ok (.aload_n 0, 1) := by decide +kernel
theorem dX1_weight_24 : decode cX1_weight 24 = .ok (.iload_n 1, 1) := by decide +kernel
theorem dX1_weight_25 : decode cX1_weight 25 = .ok (.iconst 1, 1) := by decide +kernel
theorem dX1_weight_26 : decode cX1_weight 26 = .ok (.invokevirtual 99, 3) := by decide +kernel
theorem dX1_weight_29 : decode cX1_weight 29 = .ok (.isub, 1) := by decide +kernel
theorem dX1_weight_30 : decode cX1_weight 30 = .ok (.imul, 1) := by decide +kernel
theorem dX1_weight_31 : decode cX1_weight 31 = .ok (.goto 4, 3) := by decide +kernel
theorem dX1_weight_34 : decode cX1_weight 34 = .ok (.iconst 0, 1) := by decide +kernel
theorem dX1_weight_35 : decode cX1_weight 35 = .ok (.ireturn, 1) := by decide +kernel
theorem dX1_xOf_0 : decode cX1_xOf 0 = .ok (.aload_n 0, 1) := by decide +kernel
theorem dX1_xOf_1 : decode cX1_xOf 1 = .ok (.iload_n 1, 1) := by decide +kernel
theorem dX1_xOf_2 : decode cX1_xOf 2 = .ok (.invokevirtual 64, 3) := by decide +kernel
theorem dX1_xOf_5 : decode cX1_xOf 5 = .ok (.ifCond .eq 12, 3) := by decide +kernel
theorem dX1_xOf_8 : decode cX1_xOf 8 = .ok (.aload_n 0, 1) := by decide +kernel
theorem dX1_xOf_9 : decode cX1_xOf 9 = .ok (.getfield 32, 3) := by decide +kernel
theorem dX1_xOf_12 : decode cX1_xOf 12 = .ok (.iload_n 1, 1) := by decide +kernel
theorem dX1_xOf_13 : decode cX1_xOf 13 = .ok (.iaload, 1) := by decide +kernel
theorem dX1_xOf_14 : decode cX1_xOf 14 = .ok (.goto 4, 3) := by decide +kernel
theorem dX1_xOf_17 : decode cX1_xOf 17 = .ok (.iconst (-1), 1) := by decide +kernel
theorem dX1_xOf_18 : decode cX1_xOf 18 = .ok (.ireturn, 1) := by decide +kernel
theorem dX1_yOf_0 : decode cX1_yOf 0 = .ok (.aload_n 0, 1) := by decide +kernel
theorem dX1_yOf_1 : decode cX1_yOf 1 = .ok (.iload_n 1, 1) := by decide +kernel
theorem dX1_yOf_2 : decode cX1_yOf 2 = .ok (.invokevirtual 64, 3) := by decide +kernel
theorem dX1_yOf_5 : decode cX1_yOf 5 = .ok (.ifCond .eq 12, 3) := by decide +kernel
theorem dX1_yOf_8 : decode cX1_yOf 8 = .ok (.aload_n 0, 1) := by decide +kernel
theorem dX1_yOf_9 : decode cX1_yOf 9 = .ok (.getfield 35, 3) := by decide +kernel
theorem dX1_yOf_12 : decode cX1_yOf 12 = .ok (.iload_n 1, 1) := by decide +kernel
theorem dX1_yOf_13 : decode cX1_yOf 13 = .ok (.iaload, 1) := by decide +kernel
theorem dX1_yOf_14 : decode cX1_yOf 14 = .ok (.goto 4, 3) := by decide +kernel
theorem dX1_yOf_17 : decode cX1_yOf 17 = .ok (.iconst (-1), 1) := by decide +kernel
theorem dX1_yOf_18 : decode cX1_yOf 18 = .ok (.ireturn, 1) := by decide +kernel
theorem dX1_lies_0 : decode cX1_lies 0 = .ok (.aload_n 0, 1) := by decide +kernel
theorem dX1_lies_1 : decode cX1_lies 1 = .ok (.iload_n 1, 1) := by decide +kernel
theorem dX1_lies_2 : decode cX1_lies 2 = .ok (.invokevirtual 64, 3) := by decide +kernel
theorem dX1_lies_5 : decode cX1_lies 5 = .ok (.ifCond .eq 17, 3) := by decide +kernel
theorem dX1_lies_8 : decode cX1_lies 8 = .ok (.aload_n 0, 1) := by decide +kernel
theorem dX1_lies_9 : decode cX1_lies 9 = .ok (.getfield 32, 3) := by decide +kernel
theorem dX1_lies_12 : decode cX1_lies 12 = .ok (.iload_n 1, 1) := by decide +kernel
theorem dX1_lies_13 : decode cX1_lies 13 = .ok (.iaload, 1) := by decide +kernel
theorem dX1_lies_14 : decode cX1_lies 14 = .ok (.iconst (-1), 1) := by decide +kernel
theorem dX1_lies_15 : decode cX1_lies 15 = .ok (.if_icmp .eq 7, 3) := by decide +kernel
theorem dX1_lies_18 : decode cX1_lies 18 = .ok (.iconst 1, 1) := by decide +kernel
theorem dX1_lies_19 : decode cX1_lies 19 = .ok (.goto 4, 3) := by decide +kernel
theorem dX1_lies_22 : decode cX1_lies 22 = .ok (.iconst 0, 1) := by decide +kernel
theorem dX1_lies_23 : decode cX1_lies 23 = .ok (.ireturn, 1) := by decide +kernel
theorem dX1_lying_0 : decode cX1_lying 0 = .ok (.aload_n 0, 1) := by decide +kernel
theorem dX1_lying_1 : decode cX1_lying 1 = .ok (.invokevirtual 114, 3) := by decide +kernel
theorem dX1_lying_4 : decode cX1_lying 4 = .ok (.invokestatic 118, 3) := by decide +kernel
theorem dX1_lying_7 : decode cX1_lying 7 = .ok (.ireturn, 1) := by decide +kernel
theorem dX1_lyingBits_0 : decode cX1_lyingBits 0 = .ok (.iconst 0, 1) := by decide +kernel
theorem dX1_lyingBits_1 : decode cX1_lyingBits 1 = .ok (.istore_n 1, 1) := by decide +kernel
theorem dX1_lyingBits_2 : decode cX1_lyingBits 2 = .ok (.iconst 0, 1) := by decide +kernel
theorem dX1_lyingBits_3 : decode cX1_lyingBits 3 = .ok (.istore_n 2, 1) := by decide +kernel
theorem dX1_lyingBits_4 : decode cX1_lyingBits 4 = .ok (.iload_n 2, 1) := by decide +kernel
theorem dX1_lyingBits_5 : decode cX1_lyingBits 5 = .ok (.aload_n 0, 1) := by decide +kernel
theorem dX1_lyingBits_6 : decode cX1_lyingBits 6 = .ok (.getfield 44, 3) := by decide +kernel
theorem dX1_lyingBits_9 : decode cX1_lyingBits 9 = .ok (.if_icmp .ge 23, 3) := by decide +kernel
theorem dX1_lyingBits_12 : decode cX1_lyingBits 12 = .ok (.aload_n 0, 1) := by decide +kernel
theorem dX1_lyingBits_13 : decode cX1_lyingBits 13 = .ok (.iload_n 2, 1) := by decide +kernel
theorem dX1_lyingBits_14 : decode cX1_lyingBits 14 = .ok (.invokevirtual 123, 3) := by decide +kernel
theorem dX1_lyingBits_17 : decode cX1_lyingBits 17 = .ok (.ifCond .eq 9, 3) := by decide +kernel
theorem dX1_lyingBits_20 : decode cX1_lyingBits 20 = .ok (.iload_n 1, 1) := by decide +kernel
theorem dX1_lyingBits_21 : decode cX1_lyingBits 21 = .ok (.iconst 1, 1) := by decide +kernel
theorem dX1_lyingBits_22 : decode cX1_lyingBits 22 = .ok (.iload_n 2, 1) := by decide +kernel
theorem dX1_lyingBits_23 : decode cX1_lyingBits 23 = .ok (.ishl, 1) := by decide +kernel
theorem dX1_lyingBits_24 : decode cX1_lyingBits 24 = .ok (.ior, 1) := by decide +kernel
theorem dX1_lyingBits_25 : decode cX1_lyingBits 25 = .ok (.istore_n 1, 1) := by decide +kernel
theorem dX1_lyingBits_26 : decode cX1_lyingBits 26 = .ok (.iinc 2 1, 3) := by decide +kernel
theorem dX1_lyingBits_29 : decode cX1_lyingBits 29 = .ok (.goto (-25), 3) := by decide +kernel
theorem dX1_lyingBits_32 : decode cX1_lyingBits 32 = .ok (.iload_n 1, 1) := by decide +kernel
theorem dX1_lyingBits_33 : decode cX1_lyingBits 33 = .ok (.ireturn, 1) := by decide +kernel
theorem dX1_put_0 : decode cX1_put 0 = .ok (.aload_n 0, 1) := by decide +kernel
theorem dX1_put_1 : decode cX1_put 1 = .ok (.iload_n 1, 1) := by decide +kernel
theorem dX1_put_2 : decode cX1_put 2 = .ok (.invokevirtual 64, 3) := by decide +kernel
theorem dX1_put_5 : decode cX1_put 5 = .ok (.ifCond .eq 17, 3) := by decide +kernel
theorem dX1_put_8 : decode cX1_put 8 = .ok (.aload_n 0, 1) := by decide +kernel
theorem dX1_put_9 : decode cX1_put 9 = .ok (.getfield 32, 3) := by decide +kernel
theorem dX1_put_12 : decode cX1_put 12 = .ok (.iload_n 1, 1) := by decide +kernel
theorem dX1_put_13 : decode cX1_put 13 = .ok (.iload_n 2, 1) := by decide +kernel
theorem dX1_put_14 : decode cX1_put 14 = .ok (.iastore, 1) := by decide +kernel
theorem dX1_put_15 : decode cX1_put 15 = .ok (.aload_n 0, 1) := by decide +kernel
theorem dX1_put_16 : decode cX1_put 16 = .ok (.getfield 35, 3) := by decide +kernel
theorem dX1_put_19 : decode cX1_put 19 = .ok (.iload_n 1, 1) := by decide +kernel
theorem dX1_put_20 : decode cX1_put 20 = .ok (.iload_n 3, 1) := by decide +kernel
theorem dX1_put_21 : decode cX1_put 21 = .ok (.iastore, 1) := by decide +kernel
theorem dX1_put_22 : decode cX1_put 22 = .ok (.return_, 1) := by decide +kernel
theorem dX1_hasRoomAlone_0 : decode cX1_hasRoomAlone 0 = .ok (.aload_n 0, 1) := by decide +kernel
theorem dX1_hasRoomAlone_1 : decode cX1_hasRoomAlone 1 = .ok (.iload_n 1, 1) := by decide +kernel
theorem dX1_hasRoomAlone_2 : decode cX1_hasRoomAlone 2 = .ok (.invokevirtual 64, 3) := by decide +kernel
theorem dX1_hasRoomAlone_5 : decode cX1_hasRoomAlone 5 = .ok (.ifCond .ne 5, 3) := by decide +kernel
theorem dX1_hasRoomAlone_8 : decode cX1_hasRoomAlone 8 = .ok (.iconst 0, 1) := by decide +kernel
theorem dX1_hasRoomAlone_9 : decode cX1_hasRoomAlone 9 = .ok (.ireturn, 1) := by decide +kernel
theorem dX1_hasRoomAlone_10 : decode cX1_hasRoomAlone 10 = .ok (.aload_n 0, 1) := by decide +kernel
theorem dX1_hasRoomAlone_11 : decode cX1_hasRoomAlone 11 = .ok (.getfield 25, 3) := by decide +kernel
theorem dX1_hasRoomAlone_14 : decode cX1_hasRoomAlone 14 = .ok (.iconst 0, 1) := by decide +kernel
theorem dX1_hasRoomAlone_15 : decode cX1_hasRoomAlone 15 = .ok (.iaload, 1) := by decide +kernel
theorem dX1_hasRoomAlone_16 : decode cX1_hasRoomAlone 16 = .ok (.istore 4, 2) := by decide +kernel
theorem dX1_hasRoomAlone_18 : decode cX1_hasRoomAlone 18 = .ok (.iload_n 2, 1) := by decide +kernel
theorem dX1_hasRoomAlone_19 : decode cX1_hasRoomAlone 19 = .ok (.iload 4, 2) := by decide +kernel
theorem dX1_hasRoomAlone_21 : decode cX1_hasRoomAlone 21 = .ok (.if_icmp .lt 45, 3) := by decide +kernel
theorem dX1_hasRoomAlone_24 : decode cX1_hasRoomAlone 24 = .ok (.iload_n 3, 1) := by decide +kernel
theorem dX1_hasRoomAlone_25 : decode cX1_hasRoomAlone 25 = .ok (.iload 4, 2) := by decide +kernel
theorem dX1_hasRoomAlone_27 : decode cX1_hasRoomAlone 27 = .ok (.if_icmp .lt 39, 3) := by decide +kernel
theorem dX1_hasRoomAlone_30 : decode cX1_hasRoomAlone 30 = .ok (.iload_n 2, 1) := by decide +kernel
theorem dX1_hasRoomAlone_31 : decode cX1_hasRoomAlone 31 = .ok (.aload_n 0, 1) := by decide +kernel
theorem dX1_hasRoomAlone_32 : decode cX1_hasRoomAlone 32 = .ok (.getfield 38, 3) := by decide +kernel
theorem dX1_hasRoomAlone_35 : decode cX1_hasRoomAlone 35 = .ok (.iload_n 1, 1) := by decide +kernel
theorem dX1_hasRoomAlone_36 : decode cX1_hasRoomAlone 36 = .ok (.iaload, 1) := by decide +kernel
theorem dX1_hasRoomAlone_37 : decode cX1_hasRoomAlone 37 = .ok (.iadd, 1) := by decide +kernel
theorem dX1_hasRoomAlone_38 : decode cX1_hasRoomAlone 38 = .ok (.aload_n 0, 1) := by decide +kernel
theorem dX1_hasRoomAlone_39 : decode cX1_hasRoomAlone 39 = .ok (.getfield 9, 3) := by decide +kernel
theorem dX1_hasRoomAlone_42 : decode cX1_hasRoomAlone 42 = .ok (.iload 4, 2) := by decide +kernel
theorem dX1_hasRoomAlone_44 : decode cX1_hasRoomAlone 44 = .ok (.isub, 1) := by decide +kernel
theorem dX1_hasRoomAlone_45 : decode cX1_hasRoomAlone 45 = .ok (.if_icmp .gt 21, 3) := by decide +kernel
theorem dX1_hasRoomAlone_48 : decode cX1_hasRoomAlone 48 = .ok (.iload_n 3, 1) := by decide +kernel
theorem dX1_hasRoomAlone_49 : decode cX1_hasRoomAlone 49 = .ok (.aload_n 0, 1) := by decide +kernel
theorem dX1_hasRoomAlone_50 : decode cX1_hasRoomAlone 50 = .ok (.getfield 41, 3) := by decide +kernel
theorem dX1_hasRoomAlone_53 : decode cX1_hasRoomAlone 53 = .ok (.iload_n 1, 1) := by decide +kernel
theorem dX1_hasRoomAlone_54 : decode cX1_hasRoomAlone 54 = .ok (.iaload, 1) := by decide +kernel
theorem dX1_hasRoomAlone_55 : decode cX1_hasRoomAlone 55 = .ok (.iadd, 1) := by decide +kernel
theorem dX1_hasRoomAlone_56 : decode cX1_hasRoomAlone 56 = .ok (.aload_n 0, 1) := by decide +kernel
theorem dX1_hasRoomAlone_57 : decode cX1_hasRoomAlone 57 = .ok (.getfield 15, 3) := by decide +kernel
theorem dX1_hasRoomAlone_60 : decode cX1_hasRoomAlone 60 = .ok (.iload 4, 2) := by decide +kernel
theorem dX1_hasRoomAlone_62 : decode cX1_hasRoomAlone 62 = .ok (.isub, 1) := by decide +kernel
theorem dX1_hasRoomAlone_63 : decode cX1_hasRoomAlone 63 = .ok (.if_icmp .le 5, 3) := by decide +kernel
theorem dX1_hasRoomAlone_66 : decode cX1_hasRoomAlone 66 = .ok (.iconst 0, 1) := by decide +kernel
theorem dX1_hasRoomAlone_67 : decode cX1_hasRoomAlone 67 = .ok (.ireturn, 1) := by decide +kernel
theorem dX1_hasRoomAlone_68 : decode cX1_hasRoomAlone 68 = .ok (.aload_n 0, 1) := by decide +kernel
theorem dX1_hasRoomAlone_69 : decode cX1_hasRoomAlone 69 = .ok (.getfield 25, 3) := by decide +kernel
theorem dX1_hasRoomAlone_72 : decode cX1_hasRoomAlone 72 = .ok (.iconst 4, 1) := by decide +kernel
theorem dX1_hasRoomAlone_73 : decode cX1_hasRoomAlone 73 = .ok (.iaload, 1) := by decide +kernel
theorem dX1_hasRoomAlone_74 : decode cX1_hasRoomAlone 74 = .ok (.ifCond .eq 15, 3) := by decide +kernel
theorem dX1_hasRoomAlone_77 : decode cX1_hasRoomAlone 77 = .ok (.aload_n 0, 1) := by decide +kernel
theorem dX1_hasRoomAlone_78 : decode cX1_hasRoomAlone 78 = .ok (.getfield 47, 3) := by decide +kernel
theorem dX1_hasRoomAlone_81 : decode cX1_hasRoomAlone 81 = .ok (.iload_n 2, 1) := by decide +kernel
theorem dX1_hasRoomAlone_82 : decode cX1_hasRoomAlone 82 = .ok (.ishr, 1) := by decide +kernel
theorem dX1_hasRoomAlone_83 : decode cX1_hasRoomAlone 83 = .ok (.iconst 1, 1) := by decide +kernel
theorem dX1_hasRoomAlone_84 : decode cX1_hasRoomAlone 84 = .ok (.iand, 1) := by decide +kernel
theorem dX1_hasRoomAlone_85 : decode cX1_hasRoomAlone 85 = .ok (.iconst 1, 1) := by decide +kernel
theorem dX1_hasRoomAlone_86 : decode cX1_hasRoomAlone 86 = .ok (.if_icmp .ne 7, 3) := by decide +kernel
theorem dX1_hasRoomAlone_89 : decode cX1_hasRoomAlone 89 = .ok (.iconst 1, 1) := by decide +kernel
theorem dX1_hasRoomAlone_90 : decode cX1_hasRoomAlone 90 = .ok (.goto 4, 3) := by decide +kernel
theorem dX1_hasRoomAlone_93 : decode cX1_hasRoomAlone 93 = .ok (.iconst 0, 1) := by decide +kernel
theorem dX1_hasRoomAlone_94 : decode cX1_hasRoomAlone 94 = .ok (.ireturn, 1) := by decide +kernel
theorem dX1_isApart_0 : decode cX1_isApart 0 = .ok (.aload_n 0, 1) := by decide +kernel
theorem dX1_isApart_1 : decode cX1_isApart 1 = .ok (.iload_n 1, 1) := by decide +kernel
theorem dX1_isApart_2 : decode cX1_isApart 2 = .ok (.invokevirtual 64, 3) := by decide +kernel
theorem dX1_isApart_5 : decode cX1_isApart 5 = .ok (.ifCond .eq 12, 3) := by decide +kernel
theorem dX1_isApart_8 : decode cX1_isApart 8 = .ok (.aload_n 0, 1) := by decide +kernel
theorem dX1_isApart_9 : decode cX1_isApart 9 = .ok (.iload 4, 2) := by decide +kernel
theorem dX1_isApart_11 : decode cX1_isApart 11 = .ok (.invokevirtual 64, 3) := by decide +kernel
theorem dX1_isApart_14 : decode cX1_isApart 14 = .ok (.ifCond .ne 5, 3) := by decide +kernel
theorem dX1_isApart_17 : decode cX1_isApart 17 = .ok (.iconst 1, 1) := by decide +kernel
theorem dX1_isApart_18 : decode cX1_isApart 18 = .ok (.ireturn, 1) := by decide +kernel
theorem dX1_isApart_19 : decode cX1_isApart 19 = .ok (.aload_n 0, 1) := by decide +kernel
theorem dX1_isApart_20 : decode cX1_isApart 20 = .ok (.getfield 25, 3) := by decide +kernel
theorem dX1_isApart_23 : decode cX1_isApart 23 = .ok (.iconst 1, 1) := by decide +kernel
theorem dX1_isApart_24 : decode cX1_isApart 24 = .ok (.iaload, 1) := by decide +kernel
theorem dX1_isApart_25 : decode cX1_isApart 25 = .ok (.istore 5, 2) := by decide +kernel
theorem dX1_isApart_27 : decode cX1_isApart 27 = .ok (.iload_n 2, 1) := by decide +kernel
theorem dX1_isApart_28 : decode cX1_isApart 28 = .ok (.aload_n 0, 1) := by decide +kernel
theorem dX1_isApart_29 : decode cX1_isApart 29 = .ok (.getfield 38, 3) := by decide +kernel
theorem dX1_isApart_32 : decode cX1_isApart 32 = .ok (.iload_n 1, 1) := by decide +kernel
theorem dX1_isApart_33 : decode cX1_isApart 33 = .ok (.iaload, 1) := by decide +kernel
theorem dX1_isApart_34 : decode cX1_isApart 34 = .ok (.iadd, 1) := by decide +kernel
theorem dX1_isApart_35 : decode cX1_isApart 35 = .ok (.iload 5, 2) := by decide +kernel
theorem dX1_isApart_37 : decode cX1_isApart 37 = .ok (.iadd, 1) := by decide +kernel
theorem dX1_isApart_38 : decode cX1_isApart 38 = .ok (.aload_n 0, 1) := by decide +kernel
theorem dX1_isApart_39 : decode cX1_isApart 39 = .ok (.getfield 32, 3) := by decide +kernel
theorem dX1_isApart_42 : decode cX1_isApart 42 = .ok (.iload 4, 2) := by decide +kernel
theorem dX1_isApart_44 : decode cX1_isApart 44 = .ok (.iaload, 1) := by decide +kernel
theorem dX1_isApart_45 : decode cX1_isApart 45 = .ok (.if_icmp .le 68, 3) := by decide +kernel
theorem dX1_isApart_48 : decode cX1_isApart 48 = .ok (.aload_n 0, 1) := by decide +kernel
theorem dX1_isApart_49 : decode cX1_isApart 49 = .ok (.getfield 32, 3) := by decide +kernel
theorem dX1_isApart_52 : decode cX1_isApart 52 = .ok (.iload 4, 2) := by decide +kernel
theorem dX1_isApart_54 : decode cX1_isApart 54 = .ok (.iaload, 1) := by decide +kernel
theorem dX1_isApart_55 : decode cX1_isApart 55 = .ok (.aload_n 0, 1) := by decide +kernel
theorem dX1_isApart_56 : decode cX1_isApart 56 = .ok (.getfield 38, 3) := by decide +kernel
theorem dX1_isApart_59 : decode cX1_isApart 59 = .ok (.iload 4, 2) := by decide +kernel
theorem dX1_isApart_61 : decode cX1_isApart 61 = .ok (.iaload, 1) := by decide +kernel
theorem dX1_isApart_62 : decode cX1_isApart 62 = .ok (.iadd, 1) := by decide +kernel
theorem dX1_isApart_63 : decode cX1_isApart 63 = .ok (.iload 5, 2) := by decide +kernel
theorem dX1_isApart_65 : decode cX1_isApart 65 = .ok (.iadd, 1) := by decide +kernel
theorem dX1_isApart_66 : decode cX1_isApart 66 = .ok (.iload_n 2, 1) := by decide +kernel
theorem dX1_isApart_67 : decode cX1_isApart 67 = .ok (.if_icmp .le 46, 3) := by decide +kernel
theorem dX1_isApart_70 : decode cX1_isApart 70 = .ok (.iload_n 3, 1) := by decide +kernel
theorem dX1_isApart_71 : decode cX1_isApart 71 = .ok (.aload_n 0, 1) := by decide +kernel
theorem dX1_isApart_72 : decode cX1_isApart 72 = .ok (.getfield 41, 3) := by decide +kernel
theorem dX1_isApart_75 : decode cX1_isApart 75 = .ok (.iload_n 1, 1) := by decide +kernel
theorem dX1_isApart_76 : decode cX1_isApart 76 = .ok (.iaload, 1) := by decide +kernel
theorem dX1_isApart_77 : decode cX1_isApart 77 = .ok (.iadd, 1) := by decide +kernel
theorem dX1_isApart_78 : decode cX1_isApart 78 = .ok (.iload 5, 2) := by decide +kernel
theorem dX1_isApart_80 : decode cX1_isApart 80 = .ok (.iadd, 1) := by decide +kernel
theorem dX1_isApart_81 : decode cX1_isApart 81 = .ok (.aload_n 0, 1) := by decide +kernel
theorem dX1_isApart_82 : decode cX1_isApart 82 = .ok (.getfield 35, 3) := by decide +kernel
theorem dX1_isApart_85 : decode cX1_isApart 85 = .ok (.iload 4, 2) := by decide +kernel
theorem dX1_isApart_87 : decode cX1_isApart 87 = .ok (.iaload, 1) := by decide +kernel
theorem dX1_isApart_88 : decode cX1_isApart 88 = .ok (.if_icmp .le 25, 3) := by decide +kernel
theorem dX1_isApart_91 : decode cX1_isApart 91 = .ok (.aload_n 0, 1) := by decide +kernel
theorem dX1_isApart_92 : decode cX1_isApart 92 = .ok (.getfield 35, 3) := by decide +kernel
theorem dX1_isApart_95 : decode cX1_isApart 95 = .ok (.iload 4, 2) := by decide +kernel
theorem dX1_isApart_97 : decode cX1_isApart 97 = .ok (.iaload, 1) := by decide +kernel
theorem dX1_isApart_98 : decode cX1_isApart 98 = .ok (.aload_n 0, 1) := by decide +kernel
theorem dX1_isApart_99 : decode cX1_isApart 99 = .ok (.getfield 41, 3) := by decide +kernel
theorem dX1_isApart_102 : decode cX1_isApart 102 = .ok (.iload 4, 2) := by decide +kernel
theorem dX1_isApart_104 : decode cX1_isApart 104 = .ok (.iaload, 1) := by decide +kernel
theorem dX1_isApart_105 : decode cX1_isApart 105 = .ok (.iadd, 1) := by decide +kernel
theorem dX1_isApart_106 : decode cX1_isApart 106 = .ok (.iload 5, 2) := by decide +kernel
theorem dX1_isApart_108 : decode cX1_isApart 108 = .ok (.iadd, 1) := by decide +kernel
theorem dX1_isApart_109 : decode cX1_isApart 109 = .ok (.iload_n 3, 1) := by decide +kernel
theorem dX1_isApart_110 : decode cX1_isApart 110 = .ok (.if_icmp .gt 7, 3) := by decide +kernel
theorem dX1_isApart_113 : decode cX1_isApart 113 = .ok (.iconst 1, 1) := by decide +kernel
theorem dX1_isApart_114 : decode cX1_isApart 114 = .ok (.goto 4, 3) := by decide +kernel
theorem dX1_isApart_117 : decode cX1_isApart 117 = .ok (.iconst 0, 1) := by decide +kernel
theorem dX1_isApart_118 : decode cX1_isApart 118 = .ok (.ireturn, 1) := by decide +kernel
theorem dX1_hasRoom_0 : decode cX1_hasRoom 0 = .ok (.aload_n 0, 1) := by decide +kernel
theorem dX1_hasRoom_1 : decode cX1_hasRoom 1 = .ok (.iload_n 1, 1) := by decide +kernel
theorem dX1_hasRoom_2 : decode cX1_hasRoom 2 = .ok (.iload_n 2, 1) := by decide +kernel
theorem dX1_hasRoom_3 : decode cX1_hasRoom 3 = .ok (.iload_n 3, 1) := by decide +kernel
theorem dX1_hasRoom_4 : decode cX1_hasRoom 4 = .ok (.invokevirtual 126, 3) := by decide +kernel
theorem dX1_hasRoom_7 : decode cX1_hasRoom 7 = .ok (.ifCond .ne 5, 3) := by decide +kernel
theorem dX1_hasRoom_10 : decode cX1_hasRoom 10 = .ok (.iconst 0, 1) := by decide +kernel
theorem dX1_hasRoom_11 : decode cX1_hasRoom 11 = .ok (.ireturn, 1) := by decide +kernel
theorem dX1_hasRoom_12 : decode cX1_hasRoom 12 = .ok (.iconst 0, 1) := by decide +kernel
theorem dX1_hasRoom_13 : decode cX1_hasRoom 13 = .ok (.istore 4, 2) := by decide +kernel
theorem dX1_hasRoom_15 : decode cX1_hasRoom 15 = .ok (.iload 4, 2) := by decide +kernel
theorem dX1_hasRoom_17 : decode cX1_hasRoom 17 = .ok (.aload_n 0, 1) := by decide +kernel
theorem dX1_hasRoom_18 : decode cX1_hasRoom 18 = .ok (.getfield 44, 3) := by decide +kernel
theorem dX1_hasRoom_21 : decode cX1_hasRoom 21 = .ok (.if_icmp .ge 47, 3) := by decide +kernel
theorem dX1_hasRoom_24 : decode cX1_hasRoom 24 = .ok (.iload 4, 2) := by decide +kernel
theorem dX1_hasRoom_26 : decode cX1_hasRoom 26 = .ok (.bipush 8, 2) := by decide +kernel
theorem dX1_hasRoom_28 : decode cX1_hasRoom 28 = .ok (.if_icmp .ge 40, 3) := by decide +kernel
theorem dX1_hasRoom_31 : decode cX1_hasRoom 31 = .ok (.iload 4, 2) := by decide +kernel
theorem dX1_hasRoom_33 : decode cX1_hasRoom 33 = .ok (.iload_n 1, 1) := by decide +kernel
theorem dX1_hasRoom_34 : decode cX1_hasRoom 34 = .ok (.if_icmp .eq 28, 3) := by decide +kernel
theorem dX1_hasRoom_37 : decode cX1_hasRoom 37 = .ok (.aload_n 0, 1) := by decide +kernel
theorem dX1_hasRoom_38 : decode cX1_hasRoom 38 = .ok (.getfield 32, 3) := by decide +kernel
theorem dX1_hasRoom_41 : decode cX1_hasRoom 41 = .ok (.iload 4, 2) := by decide +kernel
theorem dX1_hasRoom_43 : decode cX1_hasRoom 43 = .ok (.iaload, 1) := by decide +kernel
theorem dX1_hasRoom_44 : decode cX1_hasRoom 44 = .ok (.iconst (-1), 1) := by decide +kernel
theorem dX1_hasRoom_45 : decode cX1_hasRoom 45 = .ok (.if_icmp .eq 17, 3) := by decide +kernel
theorem dX1_hasRoom_48 : decode cX1_hasRoom 48 = .ok (.aload_n 0, 1) := by decide +kernel
theorem dX1_hasRoom_49 : decode cX1_hasRoom 49 = .ok (.iload_n 1, 1) := by decide +kernel
theorem dX1_hasRoom_50 : decode cX1_hasRoom 50 = .ok (.iload_n 2, 1) := by decide +kernel
theorem dX1_hasRoom_51 : decode cX1_hasRoom 51 = .ok (.iload_n 3, 1) := by decide +kernel
theorem dX1_hasRoom_52 : decode cX1_hasRoom 52 = .ok (.iload 4, 2) := by decide +kernel
theorem dX1_hasRoom_54 : decode cX1_hasRoom 54 = .ok (.invokevirtual 129, 3) := by decide +kernel
theorem dX1_hasRoom_57 : decode cX1_hasRoom 57 = .ok (.ifCond .ne 5, 3) := by decide +kernel
theorem dX1_hasRoom_60 : decode cX1_hasRoom 60 = .ok (.iconst 0, 1) := by decide +kernel
theorem dX1_hasRoom_61 : decode cX1_hasRoom 61 = .ok (.ireturn, 1) := by decide +kernel
theorem dX1_hasRoom_62 : decode cX1_hasRoom 62 = .ok (.iinc 4 1, 3) := by decide +kernel
theorem dX1_hasRoom_65 : decode cX1_hasRoom 65 = .ok (.goto (-50), 3) := by decide +kernel
theorem dX1_hasRoom_68 : decode cX1_hasRoom 68 = .ok (.iconst 1, 1) := by decide +kernel
theorem dX1_hasRoom_69 : decode cX1_hasRoom 69 = .ok (.ireturn, 1) := by decide +kernel
theorem dX1_liesWell_0 : decode cX1_liesWell 0 = .ok (.aload_n 0, 1) := by decide +kernel
theorem dX1_liesWell_1 : decode cX1_liesWell 1 = .ok (.iload_n 1, 1) := by decide +kernel
theorem dX1_liesWell_2 : decode cX1_liesWell 2 = .ok (.invokevirtual 123, 3) := by decide +kernel
theorem dX1_liesWell_5 : decode cX1_liesWell 5 = .ok (.ifCond .eq 25, 3) := by decide +kernel
theorem dX1_liesWell_8 : decode cX1_liesWell 8 = .ok (.aload_n 0, 1) := by decide +kernel
theorem dX1_liesWell_9 : decode cX1_liesWell 9 = .ok (.iload_n 1, 1) := by decide +kernel
theorem dX1_liesWell_10 : decode cX1_liesWell 10 = .ok (.aload_n 0, 1) := by decide +kernel
theorem dX1_liesWell_11 : decode cX1_liesWell 11 = .ok (.iload_n 1, 1) := by decide +kernel
theorem dX1_liesWell_12 : decode cX1_liesWell 12 = .ok (.invokevirtual 133, 3) := by decide +kernel
theorem dX1_liesWell_15 : decode cX1_liesWell 15 = .ok (.aload_n 0, 1) := by decide +kernel
theorem dX1_liesWell_16 : decode cX1_liesWell 16 = .ok (.iload_n 1, 1) := by decide +kernel
theorem dX1_liesWell_17 : decode cX1_liesWell 17 = .ok (.invokevirtual 136, 3) := by decide +kernel
theorem dX1_liesWell_20 : decode cX1_liesWell 20 = .ok (.invokevirtual 139, 3) := by decide +kernel
theorem dX1_liesWell_23 : decode cX1_liesWell 23 = .ok (.ifCond .eq 7, 3) := by decide +kernel
theorem dX1_liesWell_26 : decode cX1_liesWell 26 = .ok (.iconst 1, 1) := by decide +kernel
theorem dX1_liesWell_27 : decode cX1_liesWell 27 = .ok (.goto 4, 3) := by decide +kernel
theorem dX1_liesWell_30 : decode cX1_liesWell 30 = .ok (.iconst 0, 1) := by decide +kernel
theorem dX1_liesWell_31 : decode cX1_liesWell 31 = .ok (.ireturn, 1) := by decide +kernel
theorem dX1_againstLaying_0 : decode cX1_againstLaying 0 = .ok (.aload_n 0, 1) := by decide +kernel
theorem dX1_againstLaying_1 : decode cX1_againstLaying 1 = .ok (.iload_n 1, 1) := by decide +kernel
theorem dX1_againstLaying_2 : decode cX1_againstLaying 2 = .ok (.invokevirtual 64, 3) := by decide +kernel
theorem dX1_againstLaying_5 : decode cX1_againstLaying 5 = .ok (.ifCond .eq 11, 3) := by decide +kernel
theorem dX1_againstLaying_8 : decode cX1_againstLaying 8 = .ok (.iload_n 2, 1) := by decide +kernel
theorem dX1_againstLaying_9 : decode cX1_againstLaying 9 = .ok (.iload_n 3, 1) := by decide +kernel
theorem dX1_againstLaying_10 : decode cX1_againstLaying 10 = .ok (.invokestatic 142, 3) := by decide +kernel
theorem dX1_againstLaying_13 : decode cX1_againstLaying 13 = .ok (.ifCond .ne 6, 3) := by decide +kernel
theorem dX1_againstLaying_16 : decode cX1_againstLaying 16 = .ok (.bipush (-2), 2) := by decide +kernel
theorem dX1_againstLaying_18 : decode cX1_againstLaying 18 = .ok (.ireturn, 1) := by decide +kernel
theorem dX1_againstLaying_19 : decode cX1_againstLaying 19 = .ok (.aload_n 0, 1) := by decide +kernel
theorem dX1_againstLaying_20 : decode cX1_againstLaying 20 = .ok (.iload_n 1, 1) := by decide +kernel
theorem dX1_againstLaying_21 : decode cX1_againstLaying 21 = .ok (.iload_n 2, 1) := by decide +kernel
theorem dX1_againstLaying_22 : decode cX1_againstLaying 22 = .ok (.iload_n 3, 1) := by decide +kernel
theorem dX1_againstLaying_23 : decode cX1_againstLaying 23 = .ok (.invokevirtual 139, 3) := by decide +kernel
theorem dX1_againstLaying_26 : decode cX1_againstLaying 26 = .ok (.ifCond .eq 7, 3) := by decide +kernel
theorem dX1_againstLaying_29 : decode cX1_againstLaying 29 = .ok (.iconst 0, 1) := by decide +kernel
theorem dX1_againstLaying_30 : decode cX1_againstLaying 30 = .ok (.goto 5, 3) := by decide +kernel
theorem dX1_againstLaying_33 : decode cX1_againstLaying 33 = .ok (.bipush (-3), 2) := by decide +kernel
theorem dX1_againstLaying_35 : decode cX1_againstLaying 35 = .ok (.ireturn, 1) := by decide +kernel
theorem dX1_lay_0 : decode cX1_lay 0 = .ok (.aload_n 0, 1) := by decide +kernel
theorem dX1_lay_1 : decode cX1_lay 1 = .ok (.iload_n 1, 1) := by decide +kernel
theorem dX1_lay_2 : decode cX1_lay 2 = .ok (.invokevirtual 123, 3) := by decide +kernel
theorem dX1_lay_5 : decode cX1_lay 5 = .ok (.ifCond .eq 7, 3) := by decide +kernel
theorem dX1_lay_8 : decode cX1_lay 8 = .ok (.iconst 1, 1) := by decide +kernel
theorem dX1_lay_9 : decode cX1_lay 9 = .ok (.goto 4, 3) := by decide +kernel
theorem dX1_lay_12 : decode cX1_lay 12 = .ok (.iconst 0, 1) := by decide +kernel
theorem dX1_lay_13 : decode cX1_lay 13 = .ok (.istore 4, 2) := by decide +kernel
theorem dX1_lay_15 : decode cX1_lay 15 = .ok (.aload_n 0, 1) := by decide +kernel
theorem dX1_lay_16 : decode cX1_lay 16 = .ok (.iload_n 1, 1) := by decide +kernel
theorem dX1_lay_17 : decode cX1_lay 17 = .ok (.iload_n 2, 1) := by decide +kernel
theorem dX1_lay_18 : decode cX1_lay 18 = .ok (.iload_n 3, 1) := by decide +kernel
theorem dX1_lay_19 : decode cX1_lay 19 = .ok (.invokevirtual 145, 3) := by decide +kernel
theorem dX1_lay_22 : decode cX1_lay 22 = .ok (.iload 4, 2) := by decide +kernel
theorem dX1_lay_24 : decode cX1_lay 24 = .ok (.ireturn, 1) := by decide +kernel
theorem dX1_againstTakingOff_0 : decode cX1_againstTakingOff 0 = .ok (.aload_n 0, 1) := by decide +kernel
theorem dX1_againstTakingOff_1 : decode cX1_againstTakingOff 1 = .ok (.iload_n 1, 1) := by decide +kernel
theorem dX1_againstTakingOff_2 : decode cX1_againstTakingOff 2 = .ok (.invokevirtual 64, 3) := by decide +kernel
theorem dX1_againstTakingOff_5 : decode cX1_againstTakingOff 5 = .ok (.ifCond .ne 6, 3) := by decide +kernel
theorem dX1_againstTakingOff_8 : decode cX1_againstTakingOff 8 = .ok (.bipush (-2), 2) := by decide +kernel
theorem dX1_againstTakingOff_10 : decode cX1_againstTakingOff 10 = .ok (.ireturn, 1) := by decide +kernel
theorem dX1_againstTakingOff_11 : decode cX1_againstTakingOff 11 = .ok (.aload_n 0, 1) := by decide +kernel
theorem dX1_againstTakingOff_12 : decode cX1_againstTakingOff 12 = .ok (.iload_n 1, 1) := by decide +kernel
theorem dX1_againstTakingOff_13 : decode cX1_againstTakingOff 13 = .ok (.invokevirtual 123, 3) := by decide +kernel
theorem dX1_againstTakingOff_16 : decode cX1_againstTakingOff 16 = .ok (.ifCond .eq 7, 3) := by decide +kernel
theorem dX1_againstTakingOff_19 : decode cX1_againstTakingOff 19 = .ok (.iconst 0, 1) := by decide +kernel
theorem dX1_againstTakingOff_20 : decode cX1_againstTakingOff 20 = .ok (.goto 5, 3) := by decide +kernel
theorem dX1_againstTakingOff_23 : decode cX1_againstTakingOff 23 = .ok (.bipush (-3), 2) := by decide +kernel
theorem dX1_againstTakingOff_25 : decode cX1_againstTakingOff 25 = .ok (.ireturn, 1) := by decide +kernel
theorem dX1_takeOff_0 : decode cX1_takeOff 0 = .ok (.aload_n 0, 1) := by decide +kernel
theorem dX1_takeOff_1 : decode cX1_takeOff 1 = .ok (.iload_n 1, 1) := by decide +kernel
theorem dX1_takeOff_2 : decode cX1_takeOff 2 = .ok (.iconst (-1), 1) := by decide +kernel
theorem dX1_takeOff_3 : decode cX1_takeOff 3 = .ok (.iconst (-1), 1) := by decide +kernel
theorem dX1_takeOff_4 : decode cX1_takeOff 4 = .ok (.invokevirtual 145, 3) := by decide +kernel
theorem dX1_takeOff_7 : decode cX1_takeOff 7 = .ok (.aload_n 0, 1) := by decide +kernel
theorem dX1_takeOff_8 : decode cX1_takeOff 8 = .ok (.invokevirtual 149, 3) := by decide +kernel
theorem dX1_takeOff_11 : decode cX1_takeOff 11 = .ok (.ireturn, 1) := by decide +kernel
theorem dX1_againstSwap_0 : decode cX1_againstSwap 0 = .ok (.aload_n 0, 1) := by decide +kernel
theorem dX1_againstSwap_1 : decode cX1_againstSwap 1 = .ok (.iload_n 1, 1) := by decide +kernel
theorem dX1_againstSwap_2 : decode cX1_againstSwap 2 = .ok (.invokevirtual 64, 3) := by decide +kernel
theorem dX1_againstSwap_5 : decode cX1_againstSwap 5 = .ok (.ifCond .eq 16, 3) := by decide +kernel
theorem dX1_againstSwap_8 : decode cX1_againstSwap 8 = .ok (.aload_n 0, 1) := by decide +kernel
theorem dX1_againstSwap_9 : decode cX1_againstSwap 9 = .ok (.iload_n 2, 1) := by decide +kernel
theorem dX1_againstSwap_10 : decode cX1_againstSwap 10 = .ok (.invokevirtual 64, 3) := by decide +kernel
theorem dX1_againstSwap_13 : decode cX1_againstSwap 13 = .ok (.ifCond .eq 8, 3) := by decide +kernel
theorem dX1_againstSwap_16 : decode cX1_againstSwap 16 = .ok (.iload_n 1, 1) := by decide +kernel
theorem dX1_againstSwap_17 : decode cX1_againstSwap 17 = .ok (.iload_n 2, 1) := by decide +kernel
theorem dX1_againstSwap_18 : decode cX1_againstSwap 18 = .ok (.if_icmp .ne 6, 3) := by decide +kernel
theorem dX1_againstSwap_21 : decode cX1_againstSwap 21 = .ok (.bipush (-2), 2) := by decide +kernel
theorem dX1_againstSwap_23 : decode cX1_againstSwap 23 = .ok (.ireturn, 1) := by decide +kernel
theorem dX1_againstSwap_24 : decode cX1_againstSwap 24 = .ok (.aload_n 0, 1) := by decide +kernel
theorem dX1_againstSwap_25 : decode cX1_againstSwap 25 = .ok (.iload_n 1, 1) := by decide +kernel
theorem dX1_againstSwap_26 : decode cX1_againstSwap 26 = .ok (.invokevirtual 123, 3) := by decide +kernel
theorem dX1_againstSwap_29 : decode cX1_againstSwap 29 = .ok (.ifCond .ne 11, 3) := by decide +kernel
theorem dX1_againstSwap_32 : decode cX1_againstSwap 32 = .ok (.aload_n 0, 1) := by decide +kernel
theorem dX1_againstSwap_33 : decode cX1_againstSwap 33 = .ok (.iload_n 2, 1) := by decide +kernel
theorem dX1_againstSwap_34 : decode cX1_againstSwap 34 = .ok (.invokevirtual 123, 3) := by decide +kernel
theorem dX1_againstSwap_37 : decode cX1_againstSwap 37 = .ok (.ifCond .eq 7, 3) := by decide +kernel
theorem dX1_againstSwap_40 : decode cX1_againstSwap 40 = .ok (.iconst 0, 1) := by decide +kernel
theorem dX1_againstSwap_41 : decode cX1_againstSwap 41 = .ok (.goto 5, 3) := by decide +kernel
theorem dX1_againstSwap_44 : decode cX1_againstSwap 44 = .ok (.bipush (-3), 2) := by decide +kernel
theorem dX1_againstSwap_46 : decode cX1_againstSwap 46 = .ok (.ireturn, 1) := by decide +kernel
theorem dX1_swap_0 : decode cX1_swap 0 = .ok (.aload_n 0, 1) := by decide +kernel
theorem dX1_swap_1 : decode cX1_swap 1 = .ok (.iload_n 1, 1) := by decide +kernel
theorem dX1_swap_2 : decode cX1_swap 2 = .ok (.invokevirtual 133, 3) := by decide +kernel
theorem dX1_swap_5 : decode cX1_swap 5 = .ok (.istore_n 3, 1) := by decide +kernel
theorem dX1_swap_6 : decode cX1_swap 6 = .ok (.aload_n 0, 1) := by decide +kernel
theorem dX1_swap_7 : decode cX1_swap 7 = .ok (.iload_n 1, 1) := by decide +kernel
theorem dX1_swap_8 : decode cX1_swap 8 = .ok (.invokevirtual 136, 3) := by decide +kernel
theorem dX1_swap_11 : decode cX1_swap 11 = .ok (.istore 4, 2) := by decide +kernel
theorem dX1_swap_13 : decode cX1_swap 13 = .ok (.aload_n 0, 1) := by decide +kernel
theorem dX1_swap_14 : decode cX1_swap 14 = .ok (.iload_n 1, 1) := by decide +kernel
theorem dX1_swap_15 : decode cX1_swap 15 = .ok (.aload_n 0, 1) := by decide +kernel
theorem dX1_swap_16 : decode cX1_swap 16 = .ok (.iload_n 2, 1) := by decide +kernel
theorem dX1_swap_17 : decode cX1_swap 17 = .ok (.invokevirtual 133, 3) := by decide +kernel
theorem dX1_swap_20 : decode cX1_swap 20 = .ok (.aload_n 0, 1) := by decide +kernel
theorem dX1_swap_21 : decode cX1_swap 21 = .ok (.iload_n 2, 1) := by decide +kernel
theorem dX1_swap_22 : decode cX1_swap 22 = .ok (.invokevirtual 136, 3) := by decide +kernel
theorem dX1_swap_25 : decode cX1_swap 25 = .ok (.invokevirtual 145, 3) := by decide +kernel
theorem dX1_swap_28 : decode cX1_swap 28 = .ok (.aload_n 0, 1) := by decide +kernel
theorem dX1_swap_29 : decode cX1_swap 29 = .ok (.iload_n 2, 1) := by decide +kernel
theorem dX1_swap_30 : decode cX1_swap 30 = .ok (.iload_n 3, 1) := by decide +kernel
theorem dX1_swap_31 : decode cX1_swap 31 = .ok (.iload 4, 2) := by decide +kernel
theorem dX1_swap_33 : decode cX1_swap 33 = .ok (.invokevirtual 145, 3) := by decide +kernel
theorem dX1_swap_36 : decode cX1_swap 36 = .ok (.aload_n 0, 1) := by decide +kernel
theorem dX1_swap_37 : decode cX1_swap 37 = .ok (.iload_n 1, 1) := by decide +kernel
theorem dX1_swap_38 : decode cX1_swap 38 = .ok (.invokevirtual 152, 3) := by decide +kernel
theorem dX1_swap_41 : decode cX1_swap 41 = .ok (.ifCond .eq 7, 3) := by decide +kernel
theorem dX1_swap_44 : decode cX1_swap 44 = .ok (.iconst 1, 1) := by decide +kernel
theorem dX1_swap_45 : decode cX1_swap 45 = .ok (.goto 4, 3) := by decide +kernel
theorem dX1_swap_48 : decode cX1_swap 48 = .ok (.iconst 0, 1) := by decide +kernel
theorem dX1_swap_49 : decode cX1_swap 49 = .ok (.aload_n 0, 1) := by decide +kernel
theorem dX1_swap_50 : decode cX1_swap 50 = .ok (.iload_n 2, 1) := by decide +kernel
theorem dX1_swap_51 : decode cX1_swap 51 = .ok (.invokevirtual 152, 3) := by decide +kernel
theorem dX1_swap_54 : decode cX1_swap 54 = .ok (.ifCond .eq 7, 3) := by decide +kernel
theorem dX1_swap_57 : decode cX1_swap 57 = .ok (.iconst 1, 1) := by decide +kernel
theorem dX1_swap_58 : decode cX1_swap 58 = .ok (.goto 4, 3) := by decide +kernel
theorem dX1_swap_61 : decode cX1_swap 61 = .ok (.iconst 0, 1) := by decide +kernel
theorem dX1_swap_62 : decode cX1_swap 62 = .ok (.iadd, 1) := by decide +kernel
theorem dX1_swap_63 : decode cX1_swap 63 = .ok (.ireturn, 1) := by decide +kernel
theorem dX1_tellOfItem_0 : decode cX1_tellOfItem 0 = .ok (.iload_n 2, 1) := by decide +kernel
theorem dX1_tellOfItem_1 : decode cX1_tellOfItem 1 = .ok (.tableswitch 83 4 9 #[39, 45, 51, 57, 63, 69], 39) := by decide +kernel
theorem dX1_tellOfItem_40 : decode cX1_tellOfItem 40 = .ok (.aload_n 0, 1) := by decide +kernel
theorem dX1_tellOfItem_41 : decode cX1_tellOfItem 41 = .ok (.iload_n 1, 1) := by decide +kernel
theorem dX1_tellOfItem_42 : decode cX1_tellOfItem 42 = .ok (.invokevirtual 133, 3) := by decide +kernel
theorem dX1_tellOfItem_45 : decode cX1_tellOfItem 45 = .ok (.ireturn, 1) := by decide +kernel
theorem dX1_tellOfItem_46 : decode cX1_tellOfItem 46 = .ok (.aload_n 0, 1) := by decide +kernel
theorem dX1_tellOfItem_47 : decode cX1_tellOfItem 47 = .ok (.iload_n 1, 1) := by decide +kernel
theorem dX1_tellOfItem_48 : decode cX1_tellOfItem 48 = .ok (.invokevirtual 136, 3) := by decide +kernel
theorem dX1_tellOfItem_51 : decode cX1_tellOfItem 51 = .ok (.ireturn, 1) := by decide +kernel
theorem dX1_tellOfItem_52 : decode cX1_tellOfItem 52 = .ok (.aload_n 0, 1) := by decide +kernel
theorem dX1_tellOfItem_53 : decode cX1_tellOfItem 53 = .ok (.iload_n 1, 1) := by decide +kernel
theorem dX1_tellOfItem_54 : decode cX1_tellOfItem 54 = .ok (.invokevirtual 155, 3) := by decide +kernel
theorem dX1_tellOfItem_57 : decode cX1_tellOfItem 57 = .ok (.ireturn, 1) := by decide +kernel
theorem dX1_tellOfItem_58 : decode cX1_tellOfItem 58 = .ok (.aload_n 0, 1) := by decide +kernel
theorem dX1_tellOfItem_59 : decode cX1_tellOfItem 59 = .ok (.iload_n 1, 1) := by decide +kernel
theorem dX1_tellOfItem_60 : decode cX1_tellOfItem 60 = .ok (.invokevirtual 158, 3) := by decide +kernel
theorem dX1_tellOfItem_63 : decode cX1_tellOfItem 63 = .ok (.ireturn, 1) := by decide +kernel
theorem dX1_tellOfItem_64 : decode cX1_tellOfItem 64 = .ok (.aload_n 0, 1) := by decide +kernel
theorem dX1_tellOfItem_65 : decode cX1_tellOfItem 65 = .ok (.iload_n 1, 1) := by decide +kernel
theorem dX1_tellOfItem_66 : decode cX1_tellOfItem 66 = .ok (.invokevirtual 161, 3) := by decide +kernel
theorem dX1_tellOfItem_69 : decode cX1_tellOfItem 69 = .ok (.ireturn, 1) := by decide +kernel
theorem dX1_tellOfItem_70 : decode cX1_tellOfItem 70 = .ok (.aload_n 0, 1) := by decide +kernel
theorem dX1_tellOfItem_71 : decode cX1_tellOfItem 71 = .ok (.iload_n 1, 1) := by decide +kernel
theorem dX1_tellOfItem_72 : decode cX1_tellOfItem 72 = .ok (.invokevirtual 152, 3) := by decide +kernel
theorem dX1_tellOfItem_75 : decode cX1_tellOfItem 75 = .ok (.ifCond .eq 7, 3) := by decide +kernel
theorem dX1_tellOfItem_78 : decode cX1_tellOfItem 78 = .ok (.iconst 1, 1) := by decide +kernel
theorem dX1_tellOfItem_79 : decode cX1_tellOfItem 79 = .ok (.goto 4, 3) := by decide +kernel
theorem dX1_tellOfItem_82 : decode cX1_tellOfItem 82 = .ok (.iconst 0, 1) := by decide +kernel
theorem dX1_tellOfItem_83 : decode cX1_tellOfItem 83 = .ok (.ireturn, 1) := by decide +kernel
theorem dX1_tellOfItem_84 : decode cX1_tellOfItem 84 = .ok (.aload_n 0, 1) := by decide +kernel
theorem dX1_tellOfItem_85 : decode cX1_tellOfItem 85 = .ok (.iload_n 1, 1) := by decide +kernel
theorem dX1_tellOfItem_86 : decode cX1_tellOfItem 86 = .ok (.iload_n 2, 1) := by decide +kernel
theorem dX1_tellOfItem_87 : decode cX1_tellOfItem 87 = .ok (.invokevirtual 99, 3) := by decide +kernel
theorem dX1_tellOfItem_90 : decode cX1_tellOfItem 90 = .ok (.ireturn, 1) := by decide +kernel
theorem dX1_tellOfAll_0 : decode cX1_tellOfAll 0 = .ok (.iload_n 1, 1) := by decide +kernel
theorem dX1_tellOfAll_1 : decode cX1_tellOfAll 1 = .ok (.tableswitch 42 0 2 #[27, 32, 37], 27) := by decide +kernel
theorem dX1_tellOfAll_28 : decode cX1_tellOfAll 28 = .ok (.aload_n 0, 1) := by decide +kernel
theorem dX1_tellOfAll_29 : decode cX1_tellOfAll 29 = .ok (.invokevirtual 114, 3) := by decide +kernel
theorem dX1_tellOfAll_32 : decode cX1_tellOfAll 32 = .ok (.ireturn, 1) := by decide +kernel
theorem dX1_tellOfAll_33 : decode cX1_tellOfAll 33 = .ok (.aload_n 0, 1) := by decide +kernel
theorem dX1_tellOfAll_34 : decode cX1_tellOfAll 34 = .ok (.invokevirtual 164, 3) := by decide +kernel
theorem dX1_tellOfAll_37 : decode cX1_tellOfAll 37 = .ok (.ireturn, 1) := by decide +kernel
theorem dX1_tellOfAll_38 : decode cX1_tellOfAll 38 = .ok (.aload_n 0, 1) := by decide +kernel
theorem dX1_tellOfAll_39 : decode cX1_tellOfAll 39 = .ok (.invokevirtual 167, 3) := by decide +kernel
theorem dX1_tellOfAll_42 : decode cX1_tellOfAll 42 = .ok (.ireturn, 1) := by decide +kernel
theorem dX1_tellOfAll_43 : decode cX1_tellOfAll 43 = .ok (.aload_n 0, 1) := by decide +kernel
theorem dX1_tellOfAll_44 : decode cX1_tellOfAll 44 = .ok (.invokevirtual 170, 3) := by decide +kernel
theorem dX1_tellOfAll_47 : decode cX1_tellOfAll 47 = .ok (.ireturn, 1) := by decide +kernel
theorem dX1_badlyLyingBits_0 : decode cX1_badlyLyingBits 0 = .ok (.iconst 0, 1) := by decide +kernel
theorem dX1_badlyLyingBits_1 : decode cX1_badlyLyingBits 1 = .ok (.istore_n 1, 1) := by decide +kernel
theorem dX1_badlyLyingBits_2 : decode cX1_badlyLyingBits 2 = .ok (.iconst 0, 1) := by decide +kernel
theorem dX1_badlyLyingBits_3 : decode cX1_badlyLyingBits 3 = .ok (.istore_n 2, 1) := by decide +kernel
theorem dX1_badlyLyingBits_4 : decode cX1_badlyLyingBits 4 = .ok (.iload_n 2, 1) := by decide +kernel
theorem dX1_badlyLyingBits_5 : decode cX1_badlyLyingBits 5 = .ok (.aload_n 0, 1) := by decide +kernel
theorem dX1_badlyLyingBits_6 : decode cX1_badlyLyingBits 6 = .ok (.getfield 44, 3) := by decide +kernel
theorem dX1_badlyLyingBits_9 : decode cX1_badlyLyingBits 9 = .ok (.if_icmp .ge 31, 3) := by decide +kernel
theorem dX1_badlyLyingBits_12 : decode cX1_badlyLyingBits 12 = .ok (.aload_n 0, 1) := by decide +kernel
theorem dX1_badlyLyingBits_13 : decode cX1_badlyLyingBits 13 = .ok (.iload_n 2, 1) := by decide +kernel
theorem dX1_badlyLyingBits_14 : decode cX1_badlyLyingBits 14 = .ok (.invokevirtual 123, 3) := by decide +kernel
theorem dX1_badlyLyingBits_17 : decode cX1_badlyLyingBits 17 = .ok (.ifCond .eq 17, 3) := by decide +kernel
theorem dX1_badlyLyingBits_20 : decode cX1_badlyLyingBits 20 = .ok (.aload_n 0, 1) := by decide +kernel
theorem dX1_badlyLyingBits_21 : decode cX1_badlyLyingBits 21 = .ok (.iload_n 2, 1) := by decide +kernel
theorem dX1_badlyLyingBits_22 : decode cX1_badlyLyingBits 22 = .ok (.invokevirtual 152, 3) := by decide +kernel
theorem dX1_badlyLyingBits_25 : decode cX1_badlyLyingBits 25 = .ok (.ifCond .ne 9, 3) := by decide +kernel
theorem dX1_badlyLyingBits_28 : decode cX1_badlyLyingBits 28 = .ok (.iload_n 1, 1) := by decide +kernel
theorem dX1_badlyLyingBits_29 : decode cX1_badlyLyingBits 29 = .ok (.iconst 1, 1) := by decide +kernel
theorem dX1_badlyLyingBits_30 : decode cX1_badlyLyingBits 30 = .ok (.iload_n 2, 1) := by decide +kernel
theorem dX1_badlyLyingBits_31 : decode cX1_badlyLyingBits 31 = .ok (.ishl, 1) := by decide +kernel
theorem dX1_badlyLyingBits_32 : decode cX1_badlyLyingBits 32 = .ok (.ior, 1) := by decide +kernel
theorem dX1_badlyLyingBits_33 : decode cX1_badlyLyingBits 33 = .ok (.istore_n 1, 1) := by decide +kernel
theorem dX1_badlyLyingBits_34 : decode cX1_badlyLyingBits 34 = .ok (.iinc 2 1, 3) := by decide +kernel
theorem dX1_badlyLyingBits_37 : decode cX1_badlyLyingBits 37 = .ok (.goto (-33), 3) := by decide +kernel
theorem dX1_badlyLyingBits_40 : decode cX1_badlyLyingBits 40 = .ok (.iload_n 1, 1) := by decide +kernel
theorem dX1_badlyLyingBits_41 : decode cX1_badlyLyingBits 41 = .ok (.ireturn, 1) := by decide +kernel
theorem dX1_lyingWeight_0 : decode cX1_lyingWeight 0 = .ok (.iconst 0, 1) := by decide +kernel
theorem dX1_lyingWeight_1 : decode cX1_lyingWeight 1 = .ok (.istore_n 1, 1) := by decide +kernel
theorem dX1_lyingWeight_2 : decode cX1_lyingWeight 2 = .ok (.iconst 0, 1) := by decide +kernel
theorem dX1_lyingWeight_3 : decode cX1_lyingWeight 3 = .ok (.istore_n 2, 1) := by decide +kernel
theorem dX1_lyingWeight_4 : decode cX1_lyingWeight 4 = .ok (.iload_n 2, 1) := by decide +kernel
theorem dX1_lyingWeight_5 : decode cX1_lyingWeight 5 = .ok (.aload_n 0, 1) := by decide +kernel
theorem dX1_lyingWeight_6 : decode cX1_lyingWeight 6 = .ok (.getfield 44, 3) := by decide +kernel
theorem dX1_lyingWeight_9 : decode cX1_lyingWeight 9 = .ok (.if_icmp .ge 25, 3) := by decide +kernel
theorem dX1_lyingWeight_12 : decode cX1_lyingWeight 12 = .ok (.aload_n 0, 1) := by decide +kernel
theorem dX1_lyingWeight_13 : decode cX1_lyingWeight 13 = .ok (.iload_n 2, 1) := by decide +kernel
theorem dX1_lyingWeight_14 : decode cX1_lyingWeight 14 = .ok (.invokevirtual 123, 3) := by decide +kernel
theorem dX1_lyingWeight_17 : decode cX1_lyingWeight 17 = .ok (.ifCond .eq 11, 3) := by decide +kernel
theorem dX1_lyingWeight_20 : decode cX1_lyingWeight 20 = .ok (.iload_n 1, 1) := by decide +kernel
theorem dX1_lyingWeight_21 : decode cX1_lyingWeight 21 = .ok (.aload_n 0, 1) := by decide +kernel
theorem dX1_lyingWeight_22 : decode cX1_lyingWeight 22 = .ok (.iload_n 2, 1) := by decide +kernel
theorem dX1_lyingWeight_23 : decode cX1_lyingWeight 23 = .ok (.invokevirtual 161, 3) := by decide +kernel
theorem dX1_lyingWeight_26 : decode cX1_lyingWeight 26 = .ok (.iadd, 1) := by decide +kernel
theorem dX1_lyingWeight_27 : decode cX1_lyingWeight 27 = .ok (.istore_n 1, 1) := by decide +kernel
theorem dX1_lyingWeight_28 : decode cX1_lyingWeight 28 = .ok (.iinc 2 1, 3) := by decide +kernel
theorem dX1_lyingWeight_31 : decode cX1_lyingWeight 31 = .ok (.goto (-27), 3) := by decide +kernel
theorem dX1_lyingWeight_34 : decode cX1_lyingWeight 34 = .ok (.iload_n 1, 1) := by decide +kernel
theorem dX1_lyingWeight_35 : decode cX1_lyingWeight 35 = .ok (.ireturn, 1) := by decide +kernel
theorem dX1_lesserPairs_0 : decode cX1_lesserPairs 0 = .ok (.iconst 0, 1) := by decide +kernel
theorem dX1_lesserPairs_1 : decode cX1_lesserPairs 1 = .ok (.istore_n 1, 1) := by decide +kernel
theorem dX1_lesserPairs_2 : decode cX1_lesserPairs 2 = .ok (.iconst 0, 1) := by decide +kernel
theorem dX1_lesserPairs_3 : decode cX1_lesserPairs 3 = .ok (.istore_n 2, 1) := by decide +kernel
theorem dX1_lesserPairs_4 : decode cX1_lesserPairs 4 = .ok (.iload_n 2, 1) := by decide +kernel
theorem dX1_lesserPairs_5 : decode cX1_lesserPairs 5 = .ok (.aload_n 0, 1) := by decide +kernel
theorem dX1_lesserPairs_6 : decode cX1_lesserPairs 6 = .ok (.getfield 44, 3) := by decide +kernel
theorem dX1_lesserPairs_9 : decode cX1_lesserPairs 9 = .ok (.if_icmp .ge 68, 3) := by decide +kernel
theorem dX1_lesserPairs_12 : decode cX1_lesserPairs 12 = .ok (.iconst 0, 1) := by decide +kernel
theorem dX1_lesserPairs_13 : decode cX1_lesserPairs 13 = .ok (.istore_n 3, 1) := by decide +kernel
theorem dX1_lesserPairs_14 : decode cX1_lesserPairs 14 = .ok (.iload_n 3, 1) := by decide +kernel
theorem dX1_lesserPairs_15 : decode cX1_lesserPairs 15 = .ok (.aload_n 0, 1) := by decide +kernel
theorem dX1_lesserPairs_16 : decode cX1_lesserPairs 16 = .ok (.getfield 44, 3) := by decide +kernel
theorem dX1_lesserPairs_19 : decode cX1_lesserPairs 19 = .ok (.if_icmp .ge 52, 3) := by decide +kernel
theorem dX1_lesserPairs_22 : decode cX1_lesserPairs 22 = .ok (.aload_n 0, 1) := by decide +kernel
theorem dX1_lesserPairs_23 : decode cX1_lesserPairs 23 = .ok (.iload_n 2, 1) := by decide +kernel
theorem dX1_lesserPairs_24 : decode cX1_lesserPairs 24 = .ok (.iconst 1, 1) := by decide +kernel
theorem dX1_lesserPairs_25 : decode cX1_lesserPairs 25 = .ok (.invokevirtual 99, 3) := by decide +kernel
theorem dX1_lesserPairs_28 : decode cX1_lesserPairs 28 = .ok (.aload_n 0, 1) := by decide +kernel
theorem dX1_lesserPairs_29 : decode cX1_lesserPairs 29 = .ok (.iload_n 3, 1) := by decide +kernel
theorem dX1_lesserPairs_30 : decode cX1_lesserPairs 30 = .ok (.iconst 1, 1) := by decide +kernel
theorem dX1_lesserPairs_31 : decode cX1_lesserPairs 31 = .ok (.invokevirtual 99, 3) := by decide +kernel
theorem dX1_lesserPairs_34 : decode cX1_lesserPairs 34 = .ok (.if_icmp .ge 31, 3) := by decide +kernel
theorem dX1_lesserPairs_37 : decode cX1_lesserPairs 37 = .ok (.aload_n 0, 1) := by decide +kernel
theorem dX1_lesserPairs_38 : decode cX1_lesserPairs 38 = .ok (.iload_n 2, 1) := by decide +kernel
theorem dX1_lesserPairs_39 : decode cX1_lesserPairs 39 = .ok (.invokevirtual 155, 3) := by decide +kernel
theorem dX1_lesserPairs_42 : decode cX1_lesserPairs 42 = .ok (.aload_n 0, 1) := by decide +kernel
theorem dX1_lesserPairs_43 : decode cX1_lesserPairs 43 = .ok (.iload_n 2, 1) := by decide +kernel
theorem dX1_lesserPairs_44 : decode cX1_lesserPairs 44 = .ok (.invokevirtual 158, 3) := by decide +kernel
theorem dX1_lesserPairs_47 : decode cX1_lesserPairs 47 = .ok (.imul, 1) := by decide +kernel
theorem dX1_lesserPairs_48 : decode cX1_lesserPairs 48 = .ok (.aload_n 0, 1) := by decide +kernel
theorem dX1_lesserPairs_49 : decode cX1_lesserPairs 49 = .ok (.iload_n 3, 1) := by decide +kernel
theorem dX1_lesserPairs_50 : decode cX1_lesserPairs 50 = .ok (.invokevirtual 155, 3) := by decide +kernel
theorem dX1_lesserPairs_53 : decode cX1_lesserPairs 53 = .ok (.aload_n 0, 1) := by decide +kernel
theorem dX1_lesserPairs_54 : decode cX1_lesserPairs 54 = .ok (.iload_n 3, 1) := by decide +kernel
theorem dX1_lesserPairs_55 : decode cX1_lesserPairs 55 = .ok (.invokevirtual 158, 3) := by decide +kernel
theorem dX1_lesserPairs_58 : decode cX1_lesserPairs 58 = .ok (.imul, 1) := by decide +kernel
theorem dX1_lesserPairs_59 : decode cX1_lesserPairs 59 = .ok (.if_icmp .gt 6, 3) := by decide +kernel
theorem dX1_lesserPairs_62 : decode cX1_lesserPairs 62 = .ok (.iinc 1 1, 3) := by decide +kernel
theorem dX1_lesserPairs_65 : decode cX1_lesserPairs 65 = .ok (.iinc 3 1, 3) := by decide +kernel
theorem dX1_lesserPairs_68 : decode cX1_lesserPairs 68 = .ok (.goto (-54), 3) := by decide +kernel
theorem dX1_lesserPairs_71 : decode cX1_lesserPairs 71 = .ok (.iinc 2 1, 3) := by decide +kernel
theorem dX1_lesserPairs_74 : decode cX1_lesserPairs 74 = .ok (.goto (-70), 3) := by decide +kernel
theorem dX1_lesserPairs_77 : decode cX1_lesserPairs 77 = .ok (.iload_n 1, 1) := by decide +kernel
theorem dX1_lesserPairs_78 : decode cX1_lesserPairs 78 = .ok (.ireturn, 1) := by decide +kernel
theorem dX1_leastOver_0 : decode cX1_leastOver 0 = .ok (.iconst 0, 1) := by decide +kernel
theorem dX1_leastOver_1 : decode cX1_leastOver 1 = .ok (.istore_n 3, 1) := by decide +kernel
theorem dX1_leastOver_2 : decode cX1_leastOver 2 = .ok (.iload_n 3, 1) := by decide +kernel
theorem dX1_leastOver_3 : decode cX1_leastOver 3 = .ok (.aload_n 0, 1) := by decide +kernel
theorem dX1_leastOver_4 : decode cX1_leastOver 4 = .ok (.getfield 44, 3) := by decide +kernel
theorem dX1_leastOver_7 : decode cX1_leastOver 7 = .ok (.if_icmp .ge 61, 3) := by decide +kernel
theorem dX1_leastOver_10 : decode cX1_leastOver 10 = .ok (.aload_n 0, 1) := by decide +kernel
theorem dX1_leastOver_11 : decode cX1_leastOver 11 = .ok (.iload_n 3, 1) := by decide +kernel
theorem dX1_leastOver_12 : decode cX1_leastOver 12 = .ok (.invokevirtual 123, 3) := by decide +kernel
theorem dX1_leastOver_15 : decode cX1_leastOver 15 = .ok (.ifCond .eq 47, 3) := by decide +kernel
theorem dX1_leastOver_18 : decode cX1_leastOver 18 = .ok (.iload_n 1, 1) := by decide +kernel
theorem dX1_leastOver_19 : decode cX1_leastOver 19 = .ok (.aload_n 0, 1) := by decide +kernel
theorem dX1_leastOver_20 : decode cX1_leastOver 20 = .ok (.iload_n 3, 1) := by decide +kernel
theorem dX1_leastOver_21 : decode cX1_leastOver 21 = .ok (.invokevirtual 133, 3) := by decide +kernel
theorem dX1_leastOver_24 : decode cX1_leastOver 24 = .ok (.isub, 1) := by decide +kernel
theorem dX1_leastOver_25 : decode cX1_leastOver 25 = .ok (.iconst 0, 1) := by decide +kernel
theorem dX1_leastOver_26 : decode cX1_leastOver 26 = .ok (.aload_n 0, 1) := by decide +kernel
theorem dX1_leastOver_27 : decode cX1_leastOver 27 = .ok (.iload_n 3, 1) := by decide +kernel
theorem dX1_leastOver_28 : decode cX1_leastOver 28 = .ok (.invokevirtual 155, 3) := by decide +kernel
theorem dX1_leastOver_31 : decode cX1_leastOver 31 = .ok (.iconst 1, 1) := by decide +kernel
theorem dX1_leastOver_32 : decode cX1_leastOver 32 = .ok (.isub, 1) := by decide +kernel
theorem dX1_leastOver_33 : decode cX1_leastOver 33 = .ok (.invokestatic 60, 3) := by decide +kernel
theorem dX1_leastOver_36 : decode cX1_leastOver 36 = .ok (.ifCond .eq 26, 3) := by decide +kernel
theorem dX1_leastOver_39 : decode cX1_leastOver 39 = .ok (.iload_n 2, 1) := by decide +kernel
theorem dX1_leastOver_40 : decode cX1_leastOver 40 = .ok (.aload_n 0, 1) := by decide +kernel
theorem dX1_leastOver_41 : decode cX1_leastOver 41 = .ok (.iload_n 3, 1) := by decide +kernel
theorem dX1_leastOver_42 : decode cX1_leastOver 42 = .ok (.invokevirtual 136, 3) := by decide +kernel
theorem dX1_leastOver_45 : decode cX1_leastOver 45 = .ok (.isub, 1) := by decide +kernel
theorem dX1_leastOver_46 : decode cX1_leastOver 46 = .ok (.iconst 0, 1) := by decide +kernel
theorem dX1_leastOver_47 : decode cX1_leastOver 47 = .ok (.aload_n 0, 1) := by decide +kernel
theorem dX1_leastOver_48 : decode cX1_leastOver 48 = .ok (.iload_n 3, 1) := by decide +kernel
theorem dX1_leastOver_49 : decode cX1_leastOver 49 = .ok (.invokevirtual 158, 3) := by decide +kernel
theorem dX1_leastOver_52 : decode cX1_leastOver 52 = .ok (.iconst 1, 1) := by decide +kernel
theorem dX1_leastOver_53 : decode cX1_leastOver 53 = .ok (.isub, 1) := by decide +kernel
theorem dX1_leastOver_54 : decode cX1_leastOver 54 = .ok (.invokestatic 60, 3) := by decide +kernel
theorem dX1_leastOver_57 : decode cX1_leastOver 57 = .ok (.ifCond .eq 5, 3) := by decide +kernel
theorem dX1_leastOver_60 : decode cX1_leastOver 60 = .ok (.iload_n 3, 1) := by decide +kernel
theorem dX1_leastOver_61 : decode cX1_leastOver 61 = .ok (.ireturn, 1) := by decide +kernel
theorem dX1_leastOver_62 : decode cX1_leastOver 62 = .ok (.iinc 3 1, 3) := by decide +kernel
theorem dX1_leastOver_65 : decode cX1_leastOver 65 = .ok (.goto (-63), 3) := by decide +kernel
theorem dX1_leastOver_68 : decode cX1_leastOver 68 = .ok (.iconst (-1), 1) := by decide +kernel
theorem dX1_leastOver_69 : decode cX1_leastOver 69 = .ok (.ireturn, 1) := by decide +kernel
theorem dX1_heaviest_0 : decode cX1_heaviest 0 = .ok (.iconst 0, 1) := by decide +kernel
theorem dX1_heaviest_1 : decode cX1_heaviest 1 = .ok (.istore_n 3, 1) := by decide +kernel
theorem dX1_heaviest_2 : decode cX1_heaviest 2 = .ok (.iload_n 3, 1) := by decide +kernel
theorem dX1_heaviest_3 : decode cX1_heaviest 3 = .ok (.aload_n 0, 1) := by decide +kernel
theorem dX1_heaviest_4 : decode cX1_heaviest 4 = .ok (.getfield 44, 3) := by decide +kernel
theorem dX1_heaviest_7 : decode cX1_heaviest 7 = .ok (.if_icmp .ge 30, 3) := by decide +kernel
theorem dX1_heaviest_10 : decode cX1_heaviest 10 = .ok (.aload_n 0, 1) := by decide +kernel
theorem dX1_heaviest_11 : decode cX1_heaviest 11 = .ok (.iload_n 3, 1) := by decide +kernel
theorem dX1_heaviest_12 : decode cX1_heaviest 12 = .ok (.iconst 0, 1) := by decide +kernel
theorem dX1_heaviest_13 : decode cX1_heaviest 13 = .ok (.invokevirtual 99, 3) := by decide +kernel
theorem dX1_heaviest_16 : decode cX1_heaviest 16 = .ok (.iload_n 1, 1) := by decide +kernel
theorem dX1_heaviest_17 : decode cX1_heaviest 17 = .ok (.if_icmp .ne 14, 3) := by decide +kernel
theorem dX1_heaviest_20 : decode cX1_heaviest 20 = .ok (.aload_n 0, 1) := by decide +kernel
theorem dX1_heaviest_21 : decode cX1_heaviest 21 = .ok (.iload_n 3, 1) := by decide +kernel
theorem dX1_heaviest_22 : decode cX1_heaviest 22 = .ok (.invokevirtual 173, 3) := by decide +kernel
theorem dX1_heaviest_25 : decode cX1_heaviest 25 = .ok (.iload_n 2, 1) := by decide +kernel
theorem dX1_heaviest_26 : decode cX1_heaviest 26 = .ok (.if_icmp .ne 5, 3) := by decide +kernel
theorem dX1_heaviest_29 : decode cX1_heaviest 29 = .ok (.iload_n 3, 1) := by decide +kernel
theorem dX1_heaviest_30 : decode cX1_heaviest 30 = .ok (.ireturn, 1) := by decide +kernel
theorem dX1_heaviest_31 : decode cX1_heaviest 31 = .ok (.iinc 3 1, 3) := by decide +kernel
theorem dX1_heaviest_34 : decode cX1_heaviest 34 = .ok (.goto (-32), 3) := by decide +kernel
theorem dX1_heaviest_37 : decode cX1_heaviest 37 = .ok (.iconst (-1), 1) := by decide +kernel
theorem dX1_heaviest_38 : decode cX1_heaviest 38 = .ok (.ireturn, 1) := by decide +kernel
theorem dX1_howManyBefore_0 : decode cX1_howManyBefore 0 = .ok (.iconst 0, 1) := by decide +kernel
theorem dX1_howManyBefore_1 : decode cX1_howManyBefore 1 = .ok (.istore_n 2, 1) := by decide +kernel
theorem dX1_howManyBefore_2 : decode cX1_howManyBefore 2 = .ok (.iconst 0, 1) := by decide +kernel
theorem dX1_howManyBefore_3 : decode cX1_howManyBefore 3 = .ok (.istore_n 3, 1) := by decide +kernel
theorem dX1_howManyBefore_4 : decode cX1_howManyBefore 4 = .ok (.iload_n 3, 1) := by decide +kernel
theorem dX1_howManyBefore_5 : decode cX1_howManyBefore 5 = .ok (.aload_n 0, 1) := by decide +kernel
theorem dX1_howManyBefore_6 : decode cX1_howManyBefore 6 = .ok (.getfield 44, 3) := by decide +kernel
theorem dX1_howManyBefore_9 : decode cX1_howManyBefore 9 = .ok (.if_icmp .ge 70, 3) := by decide +kernel
theorem dX1_howManyBefore_12 : decode cX1_howManyBefore 12 = .ok (.aload_n 0, 1) := by decide +kernel
theorem dX1_howManyBefore_13 : decode cX1_howManyBefore 13 = .ok (.iload_n 3, 1) := by decide +kernel
theorem dX1_howManyBefore_14 : decode cX1_howManyBefore 14 = .ok (.invokevirtual 161, 3) := by decide +kernel
theorem dX1_howManyBefore_17 : decode cX1_howManyBefore 17 = .ok (.aload_n 0, 1) := by decide +kernel
theorem dX1_howManyBefore_18 : decode cX1_howManyBefore 18 = .ok (.iload_n 1, 1) := by decide +kernel
theorem dX1_howManyBefore_19 : decode cX1_howManyBefore 19 = .ok (.invokevirtual 161, 3) := by decide +kernel
theorem dX1_howManyBefore_22 : decode cX1_howManyBefore 22 = .ok (.if_icmp .gt 21, 3) := by decide +kernel
theorem dX1_howManyBefore_25 : decode cX1_howManyBefore 25 = .ok (.aload_n 0, 1) := by decide +kernel
theorem dX1_howManyBefore_26 : decode cX1_howManyBefore 26 = .ok (.iload_n 3, 1) := by decide +kernel
theorem dX1_howManyBefore_27 : decode cX1_howManyBefore 27 = .ok (.invokevirtual 161, 3) := by decide +kernel
theorem dX1_howManyBefore_30 : decode cX1_howManyBefore 30 = .ok (.aload_n 0, 1) := by decide +kernel
theorem dX1_howManyBefore_31 : decode cX1_howManyBefore 31 = .ok (.iload_n 1, 1) := by decide +kernel
theorem dX1_howManyBefore_32 : decode cX1_howManyBefore 32 = .ok (.invokevirtual 161, 3) := by decide +kernel
theorem dX1_howManyBefore_35 : decode cX1_howManyBefore 35 = .ok (.if_icmp .ne 12, 3) := by decide +kernel
theorem dX1_howManyBefore_38 : decode cX1_howManyBefore 38 = .ok (.iload_n 3, 1) := by decide +kernel
theorem dX1_howManyBefore_39 : decode cX1_howManyBefore 39 = .ok (.iload_n 1, 1) := by decide +kernel
theorem dX1_howManyBefore_40 : decode cX1_howManyBefore 40 = .ok (.if_icmp .ge 7, 3) := by decide +kernel
theorem dX1_howManyBefore_43 : decode cX1_howManyBefore 43 = .ok (.iconst 1, 1) := by decide +kernel
theorem dX1_howManyBefore_44 : decode cX1_howManyBefore 44 = .ok (.goto 4, 3) := by decide +kernel
theorem dX1_howManyBefore_47 : decode cX1_howManyBefore 47 = .ok (.iconst 0, 1) := by decide +kernel
theorem dX1_howManyBefore_48 : decode cX1_howManyBefore 48 = .ok (.istore 4, 2) := by decide +kernel
theorem dX1_howManyBefore_50 : decode cX1_howManyBefore 50 = .ok (.aload_n 0, 1) := by decide +kernel
theorem dX1_howManyBefore_51 : decode cX1_howManyBefore 51 = .ok (.iload_n 3, 1) := by decide +kernel
theorem dX1_howManyBefore_52 : decode cX1_howManyBefore 52 = .ok (.iconst 0, 1) := by decide +kernel
theorem dX1_howManyBefore_53 : decode cX1_howManyBefore 53 = .ok (.invokevirtual 99, 3) := by decide +kernel
theorem dX1_howManyBefore_56 : decode cX1_howManyBefore 56 = .ok (.aload_n 0, 1) := by decide +kernel
theorem dX1_howManyBefore_57 : decode cX1_howManyBefore 57 = .ok (.iload_n 1, 1) := by decide +kernel
theorem dX1_howManyBefore_58 : decode cX1_howManyBefore 58 = .ok (.iconst 0, 1) := by decide +kernel
theorem dX1_howManyBefore_59 : decode cX1_howManyBefore 59 = .ok (.invokevirtual 99, 3) := by decide +kernel
theorem dX1_howManyBefore_62 : decode cX1_howManyBefore 62 = .ok (.if_icmp .ne 11, 3) := by decide +kernel
theorem dX1_howManyBefore_65 : decode cX1_howManyBefore 65 = .ok (.iload 4, 2) := by decide +kernel
theorem dX1_howManyBefore_67 : decode cX1_howManyBefore 67 = .ok (.ifCond .eq 6, 3) := by decide +kernel
theorem dX1_howManyBefore_70 : decode cX1_howManyBefore 70 = .ok (.iinc 2 1, 3) := by decide +kernel
theorem dX1_howManyBefore_73 : decode cX1_howManyBefore 73 = .ok (.iinc 3 1, 3) := by decide +kernel
theorem dX1_howManyBefore_76 : decode cX1_howManyBefore 76 = .ok (.goto (-72), 3) := by decide +kernel
theorem dX1_howManyBefore_79 : decode cX1_howManyBefore 79 = .ok (.iload_n 2, 1) := by decide +kernel
theorem dX1_howManyBefore_80 : decode cX1_howManyBefore 80 = .ok (.ireturn, 1) := by decide +kernel
theorem dX2_init_0 : decode cX2_init 0 = .ok (.aload_n 0, 1) := by decide +kernel
theorem dX2_init_1 : decode cX2_init 1 = .ok (.invokespecial 3, 3) := by decide +kernel
theorem dX2_init_4 : decode cX2_init 4 = .ok (.aload_n 0, 1) := by decide +kernel
theorem dX2_init_5 : decode cX2_init 5 = .ok (.bipush 8, 2) := by decide +kernel
theorem dX2_init_7 : decode cX2_init 7 = .ok (.newarray .int, 2) := by decide +kernel
theorem dX2_init_9 : decode cX2_init 9 = .ok (.putfield 9, 3) := by decide +kernel
theorem dX2_init_12 : decode cX2_init 12 = .ok (.aload_n 0, 1) := by decide +kernel
theorem dX2_init_13 : decode cX2_init 13 = .ok (.bipush 8, 2) := by decide +kernel
theorem dX2_init_15 : decode cX2_init 15 = .ok (.newarray .int, 2) := by decide +kernel
theorem dX2_init_17 : decode cX2_init 17 = .ok (.putfield 15, 3) := by decide +kernel
theorem dX2_init_20 : decode cX2_init 20 = .ok (.aload_n 0, 1) := by decide +kernel
theorem dX2_init_21 : decode cX2_init 21 = .ok (.bipush 8, 2) := by decide +kernel
theorem dX2_init_23 : decode cX2_init 23 = .ok (.newarray .int, 2) := by decide +kernel
theorem dX2_init_25 : decode cX2_init 25 = .ok (.putfield 18, 3) := by decide +kernel
theorem dX2_init_28 : decode cX2_init 28 = .ok (.return_, 1) := by decide +kernel
theorem dX2_tell_0 : decode cX2_tell 0 = .ok (.iconst (-1), 1) := by decide +kernel
theorem dX2_tell_1 : decode cX2_tell 1 = .ok (.istore 4, 2) := by decide +kernel
theorem dX2_tell_3 : decode cX2_tell 3 = .ok (.iconst (-1), 1) := by decide +kernel
theorem dX2_tell_4 : decode cX2_tell 4 = .ok (.istore 5, 2) := by decide +kernel
theorem dX2_tell_6 : decode cX2_tell 6 = .ok (.iconst 0, 1) := by decide +kernel
theorem dX2_tell_7 : decode cX2_tell 7 = .ok (.istore 6, 2) := by decide +kernel
theorem dX2_tell_9 : decode cX2_tell 9 = .ok (.iconst 0, 1) := by decide +kernel
theorem dX2_tell_10 : decode cX2_tell 10 = .ok (.istore 7, 2) := by decide +kernel
theorem dX2_tell_12 : decode cX2_tell 12 = .ok (.iload 7, 2) := by decide +kernel
theorem dX2_tell_14 : decode cX2_tell 14 = .ok (.aload_n 1, 1) := by decide +kernel
theorem dX2_tell_15 : decode cX2_tell 15 = .ok (.getfield 21, 3) := by decide +kernel
theorem dX2_tell_18 : decode cX2_tell 18 = .ok (.if_icmp .ge 65, 3) := by decide +kernel
theorem dX2_tell_21 : decode cX2_tell 21 = .ok (.iconst 0, 1) := by decide +kernel
theorem dX2_tell_22 : decode cX2_tell 22 = .ok (.istore 8, 2) := by decide +kernel
theorem dX2_tell_24 : decode cX2_tell 24 = .ok (.iload 8, 2) := by decide +kernel
theorem dX2_tell_26 : decode cX2_tell 26 = .ok (.aload_n 1, 1) := by decide +kernel
theorem dX2_tell_27 : decode cX2_tell 27 = .ok (.getfield 27, 3) := by decide +kernel
theorem dX2_tell_30 : decode cX2_tell 30 = .ok (.if_icmp .ge 47, 3) := by decide +kernel
theorem dX2_tell_33 : decode cX2_tell 33 = .ok (.aload_n 1, 1) := by decide +kernel
theorem dX2_tell_34 : decode cX2_tell 34 = .ok (.iload_n 2, 1) := by decide +kernel
theorem dX2_tell_35 : decode cX2_tell 35 = .ok (.iload 8, 2) := by decide +kernel
theorem dX2_tell_37 : decode cX2_tell 37 = .ok (.iload 7, 2) := by decide +kernel
theorem dX2_tell_39 : decode cX2_tell 39 = .ok (.invokevirtual 30, 3) := by decide +kernel
theorem dX2_tell_42 : decode cX2_tell 42 = .ok (.ifCond .eq 29, 3) := by decide +kernel
theorem dX2_tell_45 : decode cX2_tell 45 = .ok (.iload 8, 2) := by decide +kernel
theorem dX2_tell_47 : decode cX2_tell 47 = .ok (.iload 7, 2) := by decide +kernel
theorem dX2_tell_49 : decode cX2_tell 49 = .ok (.invokestatic 34, 3) := by decide +kernel
theorem dX2_tell_52 : decode cX2_tell 52 = .ok (.istore 5, 2) := by decide +kernel
theorem dX2_tell_54 : decode cX2_tell 54 = .ok (.iload 6, 2) := by decide +kernel
theorem dX2_tell_56 : decode cX2_tell 56 = .ok (.ifCond .ne 8, 3) := by decide +kernel
theorem dX2_tell_59 : decode cX2_tell 59 = .ok (.iload 5, 2) := by decide +kernel
theorem dX2_tell_61 : decode cX2_tell 61 = .ok (.goto 5, 3) := by decide +kernel
theorem dX2_tell_64 : decode cX2_tell 64 = .ok (.iload 4, 2) := by decide +kernel
theorem dX2_tell_66 : decode cX2_tell 66 = .ok (.istore 4, 2) := by decide +kernel
theorem dX2_tell_68 : decode cX2_tell 68 = .ok (.iinc 6 1, 3) := by decide +kernel
theorem dX2_tell_71 : decode cX2_tell 71 = .ok (.iinc 8 1, 3) := by decide +kernel
theorem dX2_tell_74 : decode cX2_tell 74 = .ok (.goto (-50), 3) := by decide +kernel
theorem dX2_tell_77 : decode cX2_tell 77 = .ok (.iinc 7 1, 3) := by decide +kernel
theorem dX2_tell_80 : decode cX2_tell 80 = .ok (.goto (-68), 3) := by decide +kernel
theorem dX2_tell_83 : decode cX2_tell 83 = .ok (.iload_n 3, 1) := by decide +kernel
theorem dX2_tell_84 : decode cX2_tell 84 = .ok (.iconst 3, 1) := by decide +kernel
theorem dX2_tell_85 : decode cX2_tell 85 = .ok (.if_icmp .ne 6, 3) := by decide +kernel
theorem dX2_tell_88 : decode cX2_tell 88 = .ok (.iload 6, 2) := by decide +kernel
theorem dX2_tell_90 : decode cX2_tell 90 = .ok (.ireturn, 1) := by decide +kernel
theorem dX2_tell_91 : decode cX2_tell 91 = .ok (.iload_n 3, 1) := by decide +kernel
theorem dX2_tell_92 : decode cX2_tell 92 = .ok (.iconst 2, 1) := by decide +kernel
theorem dX2_tell_93 : decode cX2_tell 93 = .ok (.if_icmp .ne 8, 3) := by decide +kernel
theorem dX2_tell_96 : decode cX2_tell 96 = .ok (.iload 5, 2) := by decide +kernel
theorem dX2_tell_98 : decode cX2_tell 98 = .ok (.goto 5, 3) := by decide +kernel
theorem dX2_tell_101 : decode cX2_tell 101 = .ok (.iload 4, 2) := by decide +kernel
theorem dX2_tell_103 : decode cX2_tell 103 = .ok (.ireturn, 1) := by decide +kernel
theorem dX2_best_0 : decode cX2_best 0 = .ok (.iconst (-1), 1) := by decide +kernel
theorem dX2_best_1 : decode cX2_best 1 = .ok (.istore 4, 2) := by decide +kernel
theorem dX2_best_3 : decode cX2_best 3 = .ok (.dconst 0, 1) := by decide +kernel
theorem dX2_best_4 : decode cX2_best 4 = .ok (.dstore 5, 2) := by decide +kernel
theorem dX2_best_6 : decode cX2_best 6 = .ok (.aload_n 2, 1) := by decide +kernel
theorem dX2_best_7 : decode cX2_best 7 = .ok (.aload_n 1, 1) := by decide +kernel
theorem dX2_best_8 : decode cX2_best 8 = .ok (.iload_n 3, 1) := by decide +kernel
theorem dX2_best_9 : decode cX2_best 9 = .ok (.invokevirtual 38, 3) := by decide +kernel
theorem dX2_best_12 : decode cX2_best 12 = .ok (.iconst 0, 1) := by decide +kernel
theorem dX2_best_13 : decode cX2_best 13 = .ok (.istore 7, 2) := by decide +kernel
theorem dX2_best_15 : decode cX2_best 15 = .ok (.iload 7, 2) := by decide +kernel
theorem dX2_best_17 : decode cX2_best 17 = .ok (.aload_n 1, 1) := by decide +kernel
theorem dX2_best_18 : decode cX2_best 18 = .ok (.getfield 21, 3) := by decide +kernel
theorem dX2_best_21 : decode cX2_best 21 = .ok (.if_icmp .ge 78, 3) := by decide +kernel
theorem dX2_best_24 : decode cX2_best 24 = .ok (.iconst 0, 1) := by decide +kernel
theorem dX2_best_25 : decode cX2_best 25 = .ok (.istore 8, 2) := by decide +kernel
theorem dX2_best_27 : decode cX2_best 27 = .ok (.iload 8, 2) := by decide +kernel
theorem dX2_best_29 : decode cX2_best 29 = .ok (.aload_n 1, 1) := by decide +kernel
theorem dX2_best_30 : decode cX2_best 30 = .ok (.getfield 27, 3) := by decide +kernel
theorem dX2_best_33 : decode cX2_best 33 = .ok (.if_icmp .ge 60, 3) := by decide +kernel
theorem dX2_best_36 : decode cX2_best 36 = .ok (.aload_n 1, 1) := by decide +kernel
theorem dX2_best_37 : decode cX2_best 37 = .ok (.iload_n 3, 1) := by decide +kernel
theorem dX2_best_38 : decode cX2_best 38 = .ok (.iload 8, 2) := by decide +kernel
theorem dX2_best_40 : decode cX2_best 40 = .ok (.iload 7, 2) := by decide +kernel
theorem dX2_best_42 : decode cX2_best 42 = .ok (.invokevirtual 30, 3) := by decide +kernel
theorem dX2_best_45 : decode cX2_best 45 = .ok (.ifCond .eq 42, 3) := by decide +kernel
theorem dX2_best_48 : decode cX2_best 48 = .ok (.aload_n 2, 1) := by decide +kernel
theorem dX2_best_49 : decode cX2_best 49 = .ok (.aload_n 1, 1) := by decide +kernel
theorem dX2_best_50 : decode cX2_best 50 = .ok (.iload_n 3, 1) := by decide +kernel
theorem dX2_best_51 : decode cX2_best 51 = .ok (.iload 8, 2) := by decide +kernel
theorem dX2_best_53 : decode cX2_best 53 = .ok (.iload 7, 2) := by decide +kernel
theorem dX2_best_55 : decode cX2_best 55 = .ok (.invokevirtual 44, 3) := by decide +kernel
theorem dX2_best_58 : decode cX2_best 58 = .ok (.dstore 9, 2) := by decide +kernel
theorem dX2_best_60 : decode cX2_best 60 = .ok (.iload 4, 2) := by decide +kernel
theorem dX2_best_62 : decode cX2_best 62 = .ok (.iconst (-1), 1) := by decide +kernel
theorem dX2_best_63 : decode cX2_best 63 = .ok (.if_icmp .eq 11, 3) := by decide +kernel
theorem dX2_best_66 : decode cX2_best 66 = .ok (.dload 9, 2) := by decide +kernel
theorem dX2_best_68 : decode cX2_best 68 = .ok (.dload 5, 2) := by decide +kernel
theorem dX2_best_70 : decode cX2_best 70 = .ok (.dcmp .g, 1) := by decide +kernel
theorem dX2_best_71 : decode cX2_best 71 = .ok (.ifCond .ge 16, 3) := by decide +kernel
theorem dX2_best_74 : decode cX2_best 74 = .ok (.iload 8, 2) := by decide +kernel
theorem dX2_best_76 : decode cX2_best 76 = .ok (.iload 7, 2) := by decide +kernel
theorem dX2_best_78 : decode cX2_best 78 = .ok (.invokestatic 34, 3) := by decide +kernel
theorem dX2_best_81 : decode cX2_best 81 = .ok (.istore 4, 2) := by decide +kernel
theorem dX2_best_83 : decode cX2_best 83 = .ok (.dload 9, 2) := by decide +kernel
theorem dX2_best_85 : decode cX2_best 85 = .ok (.dstore 5, 2) := by decide +kernel
theorem dX2_best_87 : decode cX2_best 87 = .ok (.iinc 8 1, 3) := by decide +kernel
theorem dX2_best_90 : decode cX2_best 90 = .ok (.goto (-63), 3) := by decide +kernel
theorem dX2_best_93 : decode cX2_best 93 = .ok (.iinc 7 1, 3) := by decide +kernel
theorem dX2_best_96 : decode cX2_best 96 = .ok (.goto (-81), 3) := by decide +kernel
theorem dX2_best_99 : decode cX2_best 99 = .ok (.iload 4, 2) := by decide +kernel
theorem dX2_best_101 : decode cX2_best 101 = .ok (.ireturn, 1) := by decide +kernel
theorem dX2_first_0 : decode cX2_first 0 = .ok (.iconst 0, 1) := by decide +kernel
theorem dX2_first_1 : decode cX2_first 1 = .ok (.istore_n 3, 1) := by decide +kernel
theorem dX2_first_2 : decode cX2_first 2 = .ok (.iload_n 3, 1) := by decide +kernel
theorem dX2_first_3 : decode cX2_first 3 = .ok (.aload_n 1, 1) := by decide +kernel
theorem dX2_first_4 : decode cX2_first 4 = .ok (.getfield 21, 3) := by decide +kernel
theorem dX2_first_7 : decode cX2_first 7 = .ok (.if_icmp .ge 45, 3) := by decide +kernel
theorem dX2_first_10 : decode cX2_first 10 = .ok (.iconst 0, 1) := by decide +kernel
theorem dX2_first_11 : decode cX2_first 11 = .ok (.istore 4, 2) := by decide +kernel
theorem dX2_first_13 : decode cX2_first 13 = .ok (.iload 4, 2) := by decide +kernel
theorem dX2_first_15 : decode cX2_first 15 = .ok (.aload_n 1, 1) := by decide +kernel
theorem dX2_first_16 : decode cX2_first 16 = .ok (.getfield 27, 3) := by decide +kernel
theorem dX2_first_19 : decode cX2_first 19 = .ok (.if_icmp .ge 27, 3) := by decide +kernel
theorem dX2_first_22 : decode cX2_first 22 = .ok (.aload_n 1, 1) := by decide +kernel
theorem dX2_first_23 : decode cX2_first 23 = .ok (.iload_n 2, 1) := by decide +kernel
theorem dX2_first_24 : decode cX2_first 24 = .ok (.iload 4, 2) := by decide +kernel
theorem dX2_first_26 : decode cX2_first 26 = .ok (.iload_n 3, 1) := by decide +kernel
theorem dX2_first_27 : decode cX2_first 27 = .ok (.invokevirtual 30, 3) := by decide +kernel
theorem dX2_first_30 : decode cX2_first 30 = .ok (.ifCond .eq 10, 3) := by decide +kernel
theorem dX2_first_33 : decode cX2_first 33 = .ok (.iload 4, 2) := by decide +kernel
theorem dX2_first_35 : decode cX2_first 35 = .ok (.iload_n 3, 1) := by decide +kernel
theorem dX2_first_36 : decode cX2_first 36 = .ok (.invokestatic 34, 3) := by decide +kernel
theorem dX2_first_39 : decode cX2_first 39 = .ok (.ireturn, 1) := by decide +kernel
theorem dX2_first_40 : decode cX2_first 40 = .ok (.iinc 4 1, 3) := by decide +kernel
theorem dX2_first_43 : decode cX2_first 43 = .ok (.goto (-30), 3) := by decide +kernel
theorem dX2_first_46 : decode cX2_first 46 = .ok (.iinc 3 1, 3) := by decide +kernel
theorem dX2_first_49 : decode cX2_first 49 = .ok (.goto (-47), 3) := by decide +kernel
theorem dX2_first_52 : decode cX2_first 52 = .ok (.iconst (-1), 1) := by decide +kernel
theorem dX2_first_53 : decode cX2_first 53 = .ok (.ireturn, 1) := by decide +kernel
theorem dX2_nearest_0 : decode cX2_nearest 0 = .ok (.iconst (-1), 1) := by decide +kernel
theorem dX2_nearest_1 : decode cX2_nearest 1 = .ok (.istore 5, 2) := by decide +kernel
theorem dX2_nearest_3 : decode cX2_nearest 3 = .ok (.iconst 0, 1) := by decide +kernel
theorem dX2_nearest_4 : decode cX2_nearest 4 = .ok (.istore 6, 2) := by decide +kernel
theorem dX2_nearest_6 : decode cX2_nearest 6 = .ok (.iconst 0, 1) := by decide +kernel
theorem dX2_nearest_7 : decode cX2_nearest 7 = .ok (.istore 7, 2) := by decide +kernel
theorem dX2_nearest_9 : decode cX2_nearest 9 = .ok (.iload 7, 2) := by decide +kernel
theorem dX2_nearest_11 : decode cX2_nearest 11 = .ok (.aload_n 1, 1) := by decide +kernel
theorem dX2_nearest_12 : decode cX2_nearest 12 = .ok (.getfield 21, 3) := by decide +kernel
theorem dX2_nearest_15 : decode cX2_nearest 15 = .ok (.if_icmp .ge 81, 3) := by decide +kernel
theorem dX2_nearest_18 : decode cX2_nearest 18 = .ok (.iconst 0, 1) := by decide +kernel
theorem dX2_nearest_19 : decode cX2_nearest 19 = .ok (.istore 8, 2) := by decide +kernel
theorem dX2_nearest_21 : decode cX2_nearest 21 = .ok (.iload 8, 2) := by decide +kernel
theorem dX2_nearest_23 : decode cX2_nearest 23 = .ok (.aload_n 1, 1) := by decide +kernel
theorem dX2_nearest_24 : decode cX2_nearest 24 = .ok (.getfield 27, 3) := by decide +kernel
theorem dX2_nearest_27 : decode cX2_nearest 27 = .ok (.if_icmp .ge 63, 3) := by decide +kernel
theorem dX2_nearest_30 : decode cX2_nearest 30 = .ok (.iload 8, 2) := by decide +kernel
theorem dX2_nearest_32 : decode cX2_nearest 32 = .ok (.iload_n 3, 1) := by decide +kernel
theorem dX2_nearest_33 : decode cX2_nearest 33 = .ok (.invokestatic 48, 3) := by decide +kernel
theorem dX2_nearest_36 : decode cX2_nearest 36 = .ok (.iload 7, 2) := by decide +kernel
theorem dX2_nearest_38 : decode cX2_nearest 38 = .ok (.iload 4, 2) := by decide +kernel
theorem dX2_nearest_40 : decode cX2_nearest 40 = .ok (.invokestatic 48, 3) := by decide +kernel
theorem dX2_nearest_43 : decode cX2_nearest 43 = .ok (.iadd, 1) := by decide +kernel
theorem dX2_nearest_44 : decode cX2_nearest 44 = .ok (.istore 9, 2) := by decide +kernel
theorem dX2_nearest_46 : decode cX2_nearest 46 = .ok (.iload 5, 2) := by decide +kernel
theorem dX2_nearest_48 : decode cX2_nearest 48 = .ok (.iconst (-1), 1) := by decide +kernel
theorem dX2_nearest_49 : decode cX2_nearest 49 = .ok (.if_icmp .eq 10, 3) := by decide +kernel
theorem dX2_nearest_52 : decode cX2_nearest 52 = .ok (.iload 9, 2) := by decide +kernel
theorem dX2_nearest_54 : decode cX2_nearest 54 = .ok (.iload 6, 2) := by decide +kernel
theorem dX2_nearest_56 : decode cX2_nearest 56 = .ok (.if_icmp .ge 28, 3) := by decide +kernel
theorem dX2_nearest_59 : decode cX2_nearest 59 = .ok (.aload_n 1, 1) := by decide +kernel
theorem dX2_nearest_60 : decode cX2_nearest 60 = .ok (.iload_n 2, 1) := by decide +kernel
theorem dX2_nearest_61 : decode cX2_nearest 61 = .ok (.iload 8, 2) := by decide +kernel
theorem dX2_nearest_63 : decode cX2_nearest 63 = .ok (.iload 7, 2) := by decide +kernel
theorem dX2_nearest_65 : decode cX2_nearest 65 = .ok (.invokevirtual 30, 3) := by decide +kernel
theorem dX2_nearest_68 : decode cX2_nearest 68 = .ok (.ifCond .eq 16, 3) := by decide +kernel
theorem dX2_nearest_71 : decode cX2_nearest 71 = .ok (.iload 8, 2) := by decide +kernel
theorem dX2_nearest_73 : decode cX2_nearest 73 = .ok (.iload 7, 2) := by decide +kernel
theorem dX2_nearest_75 : decode cX2_nearest 75 = .ok (.invokestatic 34, 3) := by decide +kernel
theorem dX2_nearest_78 : decode cX2_nearest 78 = .ok (.istore 5, 2) := by decide +kernel
theorem dX2_nearest_80 : decode cX2_nearest 80 = .ok (.iload 9, 2) := by decide +kernel
theorem dX2_nearest_82 : decode cX2_nearest 82 = .ok (.istore 6, 2) := by decide +kernel
theorem dX2_nearest_84 : decode cX2_nearest 84 = .ok (.iinc 8 1, 3) := by decide +kernel
theorem dX2_nearest_87 : decode cX2_nearest 87 = .ok (.goto (-66), 3) := by decide +kernel
theorem dX2_nearest_90 : decode cX2_nearest 90 = .ok (.iinc 7 1, 3) := by decide +kernel
theorem dX2_nearest_93 : decode cX2_nearest 93 = .ok (.goto (-84), 3) := by decide +kernel
theorem dX2_nearest_96 : decode cX2_nearest 96 = .ok (.iload 5, 2) := by decide +kernel
theorem dX2_nearest_98 : decode cX2_nearest 98 = .ok (.ireturn, 1) := by decide +kernel
theorem dX2_putAt_0 : decode cX2_putAt 0 = .ok (.iload_n 2, 1) := by decide +kernel
theorem dX2_putAt_1 : decode cX2_putAt 1 = .ok (.iconst (-1), 1) := by decide +kernel
theorem dX2_putAt_2 : decode cX2_putAt 2 = .ok (.if_icmp .eq 16, 3) := by decide +kernel
theorem dX2_putAt_5 : decode cX2_putAt 5 = .ok (.aload_n 0, 1) := by decide +kernel
theorem dX2_putAt_6 : decode cX2_putAt 6 = .ok (.iload_n 1, 1) := by decide +kernel
theorem dX2_putAt_7 : decode cX2_putAt 7 = .ok (.iload_n 2, 1) := by decide +kernel
theorem dX2_putAt_8 : decode cX2_putAt 8 = .ok (.bipush 16, 2) := by decide +kernel
theorem dX2_putAt_10 : decode cX2_putAt 10 = .ok (.irem, 1) := by decide +kernel
theorem dX2_putAt_11 : decode cX2_putAt 11 = .ok (.iload_n 2, 1) := by decide +kernel
theorem dX2_putAt_12 : decode cX2_putAt 12 = .ok (.bipush 16, 2) := by decide +kernel
theorem dX2_putAt_14 : decode cX2_putAt 14 = .ok (.idiv, 1) := by decide +kernel
theorem dX2_putAt_15 : decode cX2_putAt 15 = .ok (.invokevirtual 51, 3) := by decide +kernel
theorem dX2_putAt_18 : decode cX2_putAt 18 = .ok (.return_, 1) := by decide +kernel
theorem dX2_pack_0 : decode cX2_pack 0 = .ok (.iconst 0, 1) := by decide +kernel
theorem dX2_pack_1 : decode cX2_pack 1 = .ok (.istore_n 2, 1) := by decide +kernel
theorem dX2_pack_2 : decode cX2_pack 2 = .ok (.iload_n 2, 1) := by decide +kernel
theorem dX2_pack_3 : decode cX2_pack 3 = .ok (.aload_n 1, 1) := by decide +kernel
theorem dX2_pack_4 : decode cX2_pack 4 = .ok (.getfield 55, 3) := by decide +kernel
theorem dX2_pack_7 : decode cX2_pack 7 = .ok (.if_icmp .ge 16, 3) := by decide +kernel
theorem dX2_pack_10 : decode cX2_pack 10 = .ok (.aload_n 1, 1) := by decide +kernel
theorem dX2_pack_11 : decode cX2_pack 11 = .ok (.iload_n 2, 1) := by decide +kernel
theorem dX2_pack_12 : decode cX2_pack 12 = .ok (.iconst (-1), 1) := by decide +kernel
theorem dX2_pack_13 : decode cX2_pack 13 = .ok (.iconst (-1), 1) := by decide +kernel
theorem dX2_pack_14 : decode cX2_pack 14 = .ok (.invokevirtual 51, 3) := by decide +kernel
theorem dX2_pack_17 : decode cX2_pack 17 = .ok (.iinc 2 1, 3) := by decide +kernel
theorem dX2_pack_20 : decode cX2_pack 20 = .ok (.goto (-18), 3) := by decide +kernel
theorem dX2_pack_23 : decode cX2_pack 23 = .ok (.iconst 1, 1) := by decide +kernel
theorem dX2_pack_24 : decode cX2_pack 24 = .ok (.istore_n 2, 1) := by decide +kernel
theorem dX2_pack_25 : decode cX2_pack 25 = .ok (.iload_n 2, 1) := by decide +kernel
theorem dX2_pack_26 : decode cX2_pack 26 = .ok (.bipush 6, 2) := by decide +kernel
theorem dX2_pack_28 : decode cX2_pack 28 = .ok (.if_icmp .gt 46, 3) := by decide +kernel
theorem dX2_pack_31 : decode cX2_pack 31 = .ok (.iconst 0, 1) := by decide +kernel
theorem dX2_pack_32 : decode cX2_pack 32 = .ok (.istore_n 3, 1) := by decide +kernel
theorem dX2_pack_33 : decode cX2_pack 33 = .ok (.iload_n 3, 1) := by decide +kernel
theorem dX2_pack_34 : decode cX2_pack 34 = .ok (.aload_n 1, 1) := by decide +kernel
theorem dX2_pack_35 : decode cX2_pack 35 = .ok (.getfield 55, 3) := by decide +kernel
theorem dX2_pack_38 : decode cX2_pack 38 = .ok (.if_icmp .ge 30, 3) := by decide +kernel
theorem dX2_pack_41 : decode cX2_pack 41 = .ok (.aload_n 1, 1) := by decide +kernel
theorem dX2_pack_42 : decode cX2_pack 42 = .ok (.iload_n 3, 1) := by decide +kernel
theorem dX2_pack_43 : decode cX2_pack 43 = .ok (.iconst 1, 1) := by decide +kernel
theorem dX2_pack_44 : decode cX2_pack 44 = .ok (.invokevirtual 58, 3) := by decide +kernel
theorem dX2_pack_47 : decode cX2_pack 47 = .ok (.iload_n 2, 1) := by decide +kernel
theorem dX2_pack_48 : decode cX2_pack 48 = .ok (.if_icmp .ne 14, 3) := by decide +kernel
theorem dX2_pack_51 : decode cX2_pack 51 = .ok (.aload_n 1, 1) := by decide +kernel
theorem dX2_pack_52 : decode cX2_pack 52 = .ok (.iload_n 3, 1) := by decide +kernel
theorem dX2_pack_53 : decode cX2_pack 53 = .ok (.aload_n 0, 1) := by decide +kernel
theorem dX2_pack_54 : decode cX2_pack 54 = .ok (.aload_n 1, 1) := by decide +kernel
theorem dX2_pack_55 : decode cX2_pack 55 = .ok (.iload_n 3, 1) := by decide +kernel
theorem dX2_pack_56 : decode cX2_pack 56 = .ok (.invokevirtual 61, 3) := by decide +kernel
theorem dX2_pack_59 : decode cX2_pack 59 = .ok (.invokestatic 65, 3) := by decide +kernel
theorem dX2_pack_62 : decode cX2_pack 62 = .ok (.iinc 3 1, 3) := by decide +kernel
theorem dX2_pack_65 : decode cX2_pack 65 = .ok (.goto (-32), 3) := by decide +kernel
theorem dX2_pack_68 : decode cX2_pack 68 = .ok (.iinc 2 1, 3) := by decide +kernel
theorem dX2_pack_71 : decode cX2_pack 71 = .ok (.goto (-46), 3) := by decide +kernel
theorem dX2_pack_74 : decode cX2_pack 74 = .ok (.aload_n 1, 1) := by decide +kernel
theorem dX2_pack_75 : decode cX2_pack 75 = .ok (.invokevirtual 69, 3) := by decide +kernel
theorem dX2_pack_78 : decode cX2_pack 78 = .ok (.ireturn, 1) := by decide +kernel
theorem dX2_tidy_0 : decode cX2_tidy 0 = .ok (.aload_n 0, 1) := by decide +kernel
theorem dX2_tidy_1 : decode cX2_tidy 1 = .ok (.aload_n 1, 1) := by decide +kernel
theorem dX2_tidy_2 : decode cX2_tidy 2 = .ok (.invokevirtual 73, 3) := by decide +kernel
theorem dX2_tidy_5 : decode cX2_tidy 5 = .ok (.istore_n 2, 1) := by decide +kernel
theorem dX2_tidy_6 : decode cX2_tidy 6 = .ok (.aload_n 1, 1) := by decide +kernel
theorem dX2_tidy_7 : decode cX2_tidy 7 = .ok (.invokevirtual 77, 3) := by decide +kernel
theorem dX2_tidy_10 : decode cX2_tidy 10 = .ok (.iload_n 2, 1) := by decide +kernel
theorem dX2_tidy_11 : decode cX2_tidy 11 = .ok (.iconst (-1), 1) := by decide +kernel
theorem dX2_tidy_12 : decode cX2_tidy 12 = .ok (.ixor, 1) := by decide +kernel
theorem dX2_tidy_13 : decode cX2_tidy 13 = .ok (.iand, 1) := by decide +kernel
theorem dX2_tidy_14 : decode cX2_tidy 14 = .ok (.istore_n 3, 1) := by decide +kernel
theorem dX2_tidy_15 : decode cX2_tidy 15 = .ok (.aload_n 0, 1) := by decide +kernel
theorem dX2_tidy_16 : decode cX2_tidy 16 = .ok (.aload_n 1, 1) := by decide +kernel
theorem dX2_tidy_17 : decode cX2_tidy 17 = .ok (.iload_n 3, 1) := by decide +kernel
theorem dX2_tidy_18 : decode cX2_tidy 18 = .ok (.invokevirtual 80, 3) := by decide +kernel
theorem dX2_tidy_21 : decode cX2_tidy 21 = .ok (.iconst 1, 1) := by decide +kernel
theorem dX2_tidy_22 : decode cX2_tidy 22 = .ok (.istore 4, 2) := by decide +kernel
theorem dX2_tidy_24 : decode cX2_tidy 24 = .ok (.iload 4, 2) := by decide +kernel
theorem dX2_tidy_26 : decode cX2_tidy 26 = .ok (.bipush 6, 2) := by decide +kernel
theorem dX2_tidy_28 : decode cX2_tidy 28 = .ok (.if_icmp .gt 74, 3) := by decide +kernel
theorem dX2_tidy_31 : decode cX2_tidy 31 = .ok (.iconst 0, 1) := by decide +kernel
theorem dX2_tidy_32 : decode cX2_tidy 32 = .ok (.istore 5, 2) := by decide +kernel
theorem dX2_tidy_34 : decode cX2_tidy 34 = .ok (.iload 5, 2) := by decide +kernel
theorem dX2_tidy_36 : decode cX2_tidy 36 = .ok (.bipush 8, 2) := by decide +kernel
theorem dX2_tidy_38 : decode cX2_tidy 38 = .ok (.if_icmp .ge 58, 3) := by decide +kernel
theorem dX2_tidy_41 : decode cX2_tidy 41 = .ok (.iload_n 3, 1) := by decide +kernel
theorem dX2_tidy_42 : decode cX2_tidy 42 = .ok (.iload 5, 2) := by decide +kernel
theorem dX2_tidy_44 : decode cX2_tidy 44 = .ok (.ishr, 1) := by decide +kernel
theorem dX2_tidy_45 : decode cX2_tidy 45 = .ok (.iconst 1, 1) := by decide +kernel
theorem dX2_tidy_46 : decode cX2_tidy 46 = .ok (.iand, 1) := by decide +kernel
theorem dX2_tidy_47 : decode cX2_tidy 47 = .ok (.iconst 1, 1) := by decide +kernel
theorem dX2_tidy_48 : decode cX2_tidy 48 = .ok (.if_icmp .ne 42, 3) := by decide +kernel
theorem dX2_tidy_51 : decode cX2_tidy 51 = .ok (.aload_n 1, 1) := by decide +kernel
theorem dX2_tidy_52 : decode cX2_tidy 52 = .ok (.iload 5, 2) := by decide +kernel
theorem dX2_tidy_54 : decode cX2_tidy 54 = .ok (.iconst 1, 1) := by decide +kernel
theorem dX2_tidy_55 : decode cX2_tidy 55 = .ok (.invokevirtual 58, 3) := by decide +kernel
theorem dX2_tidy_58 : decode cX2_tidy 58 = .ok (.iload 4, 2) := by decide +kernel
theorem dX2_tidy_60 : decode cX2_tidy 60 = .ok (.if_icmp .ne 30, 3) := by decide +kernel
theorem dX2_tidy_63 : decode cX2_tidy 63 = .ok (.aload_n 1, 1) := by decide +kernel
theorem dX2_tidy_64 : decode cX2_tidy 64 = .ok (.iload 5, 2) := by decide +kernel
theorem dX2_tidy_66 : decode cX2_tidy 66 = .ok (.aload_n 0, 1) := by decide +kernel
theorem dX2_tidy_67 : decode cX2_tidy 67 = .ok (.aload_n 1, 1) := by decide +kernel
theorem dX2_tidy_68 : decode cX2_tidy 68 = .ok (.iload 5, 2) := by decide +kernel
theorem dX2_tidy_70 : decode cX2_tidy 70 = .ok (.aload_n 0, 1) := by decide +kernel
theorem dX2_tidy_71 : decode cX2_tidy 71 = .ok (.getfield 15, 3) := by decide +kernel
theorem dX2_tidy_74 : decode cX2_tidy 74 = .ok (.iload 5, 2) := by decide +kernel
theorem dX2_tidy_76 : decode cX2_tidy 76 = .ok (.iaload, 1) := by decide +kernel
theorem dX2_tidy_77 : decode cX2_tidy 77 = .ok (.aload_n 0, 1) := by decide +kernel
theorem dX2_tidy_78 : decode cX2_tidy 78 = .ok (.getfield 18, 3) := by decide +kernel
theorem dX2_tidy_81 : decode cX2_tidy 81 = .ok (.iload 5, 2) := by decide +kernel
theorem dX2_tidy_83 : decode cX2_tidy 83 = .ok (.iaload, 1) := by decide +kernel
theorem dX2_tidy_84 : decode cX2_tidy 84 = .ok (.invokevirtual 83, 3) := by decide +kernel
theorem dX2_tidy_87 : decode cX2_tidy 87 = .ok (.invokestatic 65, 3) := by decide +kernel
theorem dX2_tidy_90 : decode cX2_tidy 90 = .ok (.iinc 5 1, 3) := by decide +kernel
theorem dX2_tidy_93 : decode cX2_tidy 93 = .ok (.goto (-59), 3) := by decide +kernel
theorem dX2_tidy_96 : decode cX2_tidy 96 = .ok (.iinc 4 1, 3) := by decide +kernel
theorem dX2_tidy_99 : decode cX2_tidy 99 = .ok (.goto (-75), 3) := by decide +kernel
theorem dX2_tidy_102 : decode cX2_tidy 102 = .ok (.iload_n 2, 1) := by decide +kernel
theorem dX2_tidy_103 : decode cX2_tidy 103 = .ok (.invokestatic 87, 3) := by decide +kernel
theorem dX2_tidy_106 : decode cX2_tidy 106 = .ok (.ireturn, 1) := by decide +kernel
theorem dX2_takeOffAll_0 : decode cX2_takeOffAll 0 = .ok (.iconst 0, 1) := by decide +kernel
theorem dX2_takeOffAll_1 : decode cX2_takeOffAll 1 = .ok (.istore_n 3, 1) := by decide +kernel
theorem dX2_takeOffAll_2 : decode cX2_takeOffAll 2 = .ok (.iload_n 3, 1) := by decide +kernel
theorem dX2_takeOffAll_3 : decode cX2_takeOffAll 3 = .ok (.bipush 8, 2) := by decide +kernel
theorem dX2_takeOffAll_5 : decode cX2_takeOffAll 5 = .ok (.if_icmp .ge 47, 3) := by decide +kernel
theorem dX2_takeOffAll_8 : decode cX2_takeOffAll 8 = .ok (.aload_n 0, 1) := by decide +kernel
theorem dX2_takeOffAll_9 : decode cX2_takeOffAll 9 = .ok (.getfield 15, 3) := by decide +kernel
theorem dX2_takeOffAll_12 : decode cX2_takeOffAll 12 = .ok (.iload_n 3, 1) := by decide +kernel
theorem dX2_takeOffAll_13 : decode cX2_takeOffAll 13 = .ok (.aload_n 1, 1) := by decide +kernel
theorem dX2_takeOffAll_14 : decode cX2_takeOffAll 14 = .ok (.iload_n 3, 1) := by decide +kernel
theorem dX2_takeOffAll_15 : decode cX2_takeOffAll 15 = .ok (.invokevirtual 93, 3) := by decide +kernel
theorem dX2_takeOffAll_18 : decode cX2_takeOffAll 18 = .ok (.iastore, 1) := by decide +kernel
theorem dX2_takeOffAll_19 : decode cX2_takeOffAll 19 = .ok (.aload_n 0, 1) := by decide +kernel
theorem dX2_takeOffAll_20 : decode cX2_takeOffAll 20 = .ok (.getfield 18, 3) := by decide +kernel
theorem dX2_takeOffAll_23 : decode cX2_takeOffAll 23 = .ok (.iload_n 3, 1) := by decide +kernel
theorem dX2_takeOffAll_24 : decode cX2_takeOffAll 24 = .ok (.aload_n 1, 1) := by decide +kernel
theorem dX2_takeOffAll_25 : decode cX2_takeOffAll 25 = .ok (.iload_n 3, 1) := by decide +kernel
theorem dX2_takeOffAll_26 : decode cX2_takeOffAll 26 = .ok (.invokevirtual 96, 3) := by decide +kernel
theorem dX2_takeOffAll_29 : decode cX2_takeOffAll 29 = .ok (.iastore, 1) := by decide +kernel
theorem dX2_takeOffAll_30 : decode cX2_takeOffAll 30 = .ok (.iload_n 2, 1) := by decide +kernel
theorem dX2_takeOffAll_31 : decode cX2_takeOffAll 31 = .ok (.iload_n 3, 1) := by decide +kernel
theorem dX2_takeOffAll_32 : decode cX2_takeOffAll 32 = .ok (.ishr, 1) := by decide +kernel
theorem dX2_takeOffAll_33 : decode cX2_takeOffAll 33 = .ok (.iconst 1, 1) := by decide +kernel
theorem dX2_takeOffAll_34 : decode cX2_takeOffAll 34 = .ok (.iand, 1) := by decide +kernel
theorem dX2_takeOffAll_35 : decode cX2_takeOffAll 35 = .ok (.iconst 1, 1) := by decide +kernel
theorem dX2_takeOffAll_36 : decode cX2_takeOffAll 36 = .ok (.if_icmp .ne 10, 3) := by decide +kernel
theorem dX2_takeOffAll_39 : decode cX2_takeOffAll 39 = .ok (.aload_n 1, 1) := by decide +kernel
theorem dX2_takeOffAll_40 : decode cX2_takeOffAll 40 = .ok (.iload_n 3, 1) := by decide +kernel
theorem dX2_takeOffAll_41 : decode cX2_takeOffAll 41 = .ok (.iconst (-1), 1) := by decide +kernel
theorem dX2_takeOffAll_42 : decode cX2_takeOffAll 42 = .ok (.iconst (-1), 1) := by decide +kernel
theorem dX2_takeOffAll_43 : decode cX2_takeOffAll 43 = .ok (.invokevirtual 51, 3) := by decide +kernel
theorem dX2_takeOffAll_46 : decode cX2_takeOffAll 46 = .ok (.iinc 3 1, 3) := by decide +kernel
theorem dX2_takeOffAll_49 : decode cX2_takeOffAll 49 = .ok (.goto (-47), 3) := by decide +kernel
theorem dX2_takeOffAll_52 : decode cX2_takeOffAll 52 = .ok (.return_, 1) := by decide +kernel
theorem dX2_staying_0 : decode cX2_staying 0 = .ok (.aload_n 0, 1) := by decide +kernel
theorem dX2_staying_1 : decode cX2_staying 1 = .ok (.aload_n 1, 1) := by decide +kernel
theorem dX2_staying_2 : decode cX2_staying 2 = .ok (.invokevirtual 99, 3) := by decide +kernel
theorem dX2_staying_5 : decode cX2_staying 5 = .ok (.istore_n 2, 1) := by decide +kernel
theorem dX2_staying_6 : decode cX2_staying 6 = .ok (.iconst 0, 1) := by decide +kernel
theorem dX2_staying_7 : decode cX2_staying 7 = .ok (.istore_n 3, 1) := by decide +kernel
theorem dX2_staying_8 : decode cX2_staying 8 = .ok (.iconst 0, 1) := by decide +kernel
theorem dX2_staying_9 : decode cX2_staying 9 = .ok (.istore 4, 2) := by decide +kernel
theorem dX2_staying_11 : decode cX2_staying 11 = .ok (.iconst 1, 1) := by decide +kernel
theorem dX2_staying_12 : decode cX2_staying 12 = .ok (.istore 5, 2) := by decide +kernel
theorem dX2_staying_14 : decode cX2_staying 14 = .ok (.iload 5, 2) := by decide +kernel
theorem dX2_staying_16 : decode cX2_staying 16 = .ok (.sipush 256, 3) := by decide +kernel
theorem dX2_staying_19 : decode cX2_staying 19 = .ok (.if_icmp .ge 80, 3) := by decide +kernel
theorem dX2_staying_22 : decode cX2_staying 22 = .ok (.iload 5, 2) := by decide +kernel
theorem dX2_staying_24 : decode cX2_staying 24 = .ok (.iload_n 2, 1) := by decide +kernel
theorem dX2_staying_25 : decode cX2_staying 25 = .ok (.iconst (-1), 1) := by decide +kernel
theorem dX2_staying_26 : decode cX2_staying 26 = .ok (.ixor, 1) := by decide +kernel
theorem dX2_staying_27 : decode cX2_staying 27 = .ok (.iand, 1) := by decide +kernel
theorem dX2_staying_28 : decode cX2_staying 28 = .ok (.ifCond .ne 65, 3) := by decide +kernel
theorem dX2_staying_31 : decode cX2_staying 31 = .ok (.aload_n 0, 1) := by decide +kernel
theorem dX2_staying_32 : decode cX2_staying 32 = .ok (.iload 5, 2) := by decide +kernel
theorem dX2_staying_34 : decode cX2_staying 34 = .ok (.invokevirtual 102, 3) := by decide +kernel
theorem dX2_staying_37 : decode cX2_staying 37 = .ok (.ifCond .eq 56, 3) := by decide +kernel
theorem dX2_staying_40 : decode cX2_staying 40 = .ok (.aload_n 1, 1) := by decide +kernel
theorem dX2_staying_41 : decode cX2_staying 41 = .ok (.iload 5, 2) := by decide +kernel
theorem dX2_staying_43 : decode cX2_staying 43 = .ok (.invokestatic 106, 3) := by decide +kernel
theorem dX2_staying_46 : decode cX2_staying 46 = .ok (.istore 6, 2) := by decide +kernel
theorem dX2_staying_48 : decode cX2_staying 48 = .ok (.iload 5, 2) := by decide +kernel
theorem dX2_staying_50 : decode cX2_staying 50 = .ok (.invokestatic 87, 3) := by decide +kernel
theorem dX2_staying_53 : decode cX2_staying 53 = .ok (.iload_n 3, 1) := by decide +kernel
theorem dX2_staying_54 : decode cX2_staying 54 = .ok (.invokestatic 87, 3) := by decide +kernel
theorem dX2_staying_57 : decode cX2_staying 57 = .ok (.if_icmp .le 7, 3) := by decide +kernel
theorem dX2_staying_60 : decode cX2_staying 60 = .ok (.iconst 1, 1) := by decide +kernel
theorem dX2_staying_61 : decode cX2_staying 61 = .ok (.goto 4, 3) := by decide +kernel
theorem dX2_staying_64 : decode cX2_staying 64 = .ok (.iconst 0, 1) := by decide +kernel
theorem dX2_staying_65 : decode cX2_staying 65 = .ok (.istore 7, 2) := by decide +kernel
theorem dX2_staying_67 : decode cX2_staying 67 = .ok (.iload 6, 2) := by decide +kernel
theorem dX2_staying_69 : decode cX2_staying 69 = .ok (.iload 4, 2) := by decide +kernel
theorem dX2_staying_71 : decode cX2_staying 71 = .ok (.if_icmp .gt 15, 3) := by decide +kernel
theorem dX2_staying_74 : decode cX2_staying 74 = .ok (.iload 6, 2) := by decide +kernel
theorem dX2_staying_76 : decode cX2_staying 76 = .ok (.iload 4, 2) := by decide +kernel
theorem dX2_staying_78 : decode cX2_staying 78 = .ok (.if_icmp .ne 15, 3) := by decide +kernel
theorem dX2_staying_81 : decode cX2_staying 81 = .ok (.iload 7, 2) := by decide +kernel
theorem dX2_staying_83 : decode cX2_staying 83 = .ok (.ifCond .eq 10, 3) := by decide +kernel
theorem dX2_staying_86 : decode cX2_staying 86 = .ok (.iload 5, 2) := by decide +kernel
theorem dX2_staying_88 : decode cX2_staying 88 = .ok (.istore_n 3, 1) := by decide +kernel
theorem dX2_staying_89 : decode cX2_staying 89 = .ok (.iload 6, 2) := by decide +kernel
theorem dX2_staying_91 : decode cX2_staying 91 = .ok (.istore 4, 2) := by decide +kernel
theorem dX2_staying_93 : decode cX2_staying 93 = .ok (.iinc 5 1, 3) := by decide +kernel
theorem dX2_staying_96 : decode cX2_staying 96 = .ok (.goto (-82), 3) := by decide +kernel
theorem dX2_staying_99 : decode cX2_staying 99 = .ok (.iload_n 3, 1) := by decide +kernel
theorem dX2_staying_100 : decode cX2_staying 100 = .ok (.ireturn, 1) := by decide +kernel
theorem dX2_findClashes_0 : decode cX2_findClashes 0 = .ok (.iconst 0, 1) := by decide +kernel
theorem dX2_findClashes_1 : decode cX2_findClashes 1 = .ok (.istore_n 2, 1) := by decide +kernel
theorem dX2_findClashes_2 : decode cX2_findClashes 2 = .ok (.iconst 0, 1) := by decide +kernel
theorem dX2_findClashes_3 : decode cX2_findClashes 3 = .ok (.istore_n 3, 1) := by decide +kernel
theorem dX2_findClashes_4 : decode cX2_findClashes 4 = .ok (.iload_n 3, 1) := by decide +kernel
theorem dX2_findClashes_5 : decode cX2_findClashes 5 = .ok (.bipush 8, 2) := by decide +kernel
theorem dX2_findClashes_7 : decode cX2_findClashes 7 = .ok (.if_icmp .ge 103, 3) := by decide +kernel
theorem dX2_findClashes_10 : decode cX2_findClashes 10 = .ok (.aload_n 0, 1) := by decide +kernel
theorem dX2_findClashes_11 : decode cX2_findClashes 11 = .ok (.getfield 9, 3) := by decide +kernel
theorem dX2_findClashes_14 : decode cX2_findClashes 14 = .ok (.iload_n 3, 1) := by decide +kernel
theorem dX2_findClashes_15 : decode cX2_findClashes 15 = .ok (.iconst 0, 1) := by decide +kernel
theorem dX2_findClashes_16 : decode cX2_findClashes 16 = .ok (.iastore, 1) := by decide +kernel
theorem dX2_findClashes_17 : decode cX2_findClashes 17 = .ok (.aload_n 1, 1) := by decide +kernel
theorem dX2_findClashes_18 : decode cX2_findClashes 18 = .ok (.iload_n 3, 1) := by decide +kernel
theorem dX2_findClashes_19 : decode cX2_findClashes 19 = .ok (.invokevirtual 109, 3) := by decide +kernel
theorem dX2_findClashes_22 : decode cX2_findClashes 22 = .ok (.ifCond .eq 27, 3) := by decide +kernel
theorem dX2_findClashes_25 : decode cX2_findClashes 25 = .ok (.aload_n 1, 1) := by decide +kernel
theorem dX2_findClashes_26 : decode cX2_findClashes 26 = .ok (.iload_n 3, 1) := by decide +kernel
theorem dX2_findClashes_27 : decode cX2_findClashes 27 = .ok (.aload_n 1, 1) := by decide +kernel
theorem dX2_findClashes_28 : decode cX2_findClashes 28 = .ok (.iload_n 3, 1) := by decide +kernel
theorem dX2_findClashes_29 : decode cX2_findClashes 29 = .ok (.invokevirtual 93, 3) := by decide +kernel
theorem dX2_findClashes_32 : decode cX2_findClashes 32 = .ok (.aload_n 1, 1) := by decide +kernel
theorem dX2_findClashes_33 : decode cX2_findClashes 33 = .ok (.iload_n 3, 1) := by decide +kernel
theorem dX2_findClashes_34 : decode cX2_findClashes 34 = .ok (.invokevirtual 96, 3) := by decide +kernel
theorem dX2_findClashes_37 : decode cX2_findClashes 37 = .ok (.invokevirtual 112, 3) := by decide +kernel
theorem dX2_findClashes_40 : decode cX2_findClashes 40 = .ok (.ifCond .eq 9, 3) := by decide +kernel
theorem dX2_findClashes_43 : decode cX2_findClashes 43 = .ok (.iload_n 2, 1) := by decide +kernel
theorem dX2_findClashes_44 : decode cX2_findClashes 44 = .ok (.iconst 1, 1) := by decide +kernel
theorem dX2_findClashes_45 : decode cX2_findClashes 45 = .ok (.iload_n 3, 1) := by decide +kernel
theorem dX2_findClashes_46 : decode cX2_findClashes 46 = .ok (.ishl, 1) := by decide +kernel
theorem dX2_findClashes_47 : decode cX2_findClashes 47 = .ok (.ior, 1) := by decide +kernel
theorem dX2_findClashes_48 : decode cX2_findClashes 48 = .ok (.istore_n 2, 1) := by decide +kernel
theorem dX2_findClashes_49 : decode cX2_findClashes 49 = .ok (.iconst 0, 1) := by decide +kernel
theorem dX2_findClashes_50 : decode cX2_findClashes 50 = .ok (.istore 4, 2) := by decide +kernel
theorem dX2_findClashes_52 : decode cX2_findClashes 52 = .ok (.iload 4, 2) := by decide +kernel
theorem dX2_findClashes_54 : decode cX2_findClashes 54 = .ok (.bipush 8, 2) := by decide +kernel
theorem dX2_findClashes_56 : decode cX2_findClashes 56 = .ok (.if_icmp .ge 48, 3) := by decide +kernel
theorem dX2_findClashes_59 : decode cX2_findClashes 59 = .ok (.iload 4, 2) := by decide +kernel
theorem dX2_findClashes_61 : decode cX2_findClashes 61 = .ok (.iload_n 3, 1) := by decide +kernel
theorem dX2_findClashes_62 : decode cX2_findClashes 62 = .ok (.if_icmp .eq 36, 3) := by decide +kernel
theorem dX2_findClashes_65 : decode cX2_findClashes 65 = .ok (.aload_n 1, 1) := by decide +kernel
theorem dX2_findClashes_66 : decode cX2_findClashes 66 = .ok (.iload_n 3, 1) := by decide +kernel
theorem dX2_findClashes_67 : decode cX2_findClashes 67 = .ok (.aload_n 1, 1) := by decide +kernel
theorem dX2_findClashes_68 : decode cX2_findClashes 68 = .ok (.iload_n 3, 1) := by decide +kernel
theorem dX2_findClashes_69 : decode cX2_findClashes 69 = .ok (.invokevirtual 93, 3) := by decide +kernel
theorem dX2_findClashes_72 : decode cX2_findClashes 72 = .ok (.aload_n 1, 1) := by decide +kernel
theorem dX2_findClashes_73 : decode cX2_findClashes 73 = .ok (.iload_n 3, 1) := by decide +kernel
theorem dX2_findClashes_74 : decode cX2_findClashes 74 = .ok (.invokevirtual 96, 3) := by decide +kernel
theorem dX2_findClashes_77 : decode cX2_findClashes 77 = .ok (.iload 4, 2) := by decide +kernel
theorem dX2_findClashes_79 : decode cX2_findClashes 79 = .ok (.invokevirtual 115, 3) := by decide +kernel
theorem dX2_findClashes_82 : decode cX2_findClashes 82 = .ok (.ifCond .ne 16, 3) := by decide +kernel
theorem dX2_findClashes_85 : decode cX2_findClashes 85 = .ok (.aload_n 0, 1) := by decide +kernel
theorem dX2_findClashes_86 : decode cX2_findClashes 86 = .ok (.getfield 9, 3) := by decide +kernel
theorem dX2_findClashes_89 : decode cX2_findClashes 89 = .ok (.iload_n 3, 1) := by decide +kernel
theorem dX2_findClashes_90 : decode cX2_findClashes 90 = .ok (.dup2, 1) := by decide +kernel
theorem dX2_findClashes_91 : decode cX2_findClashes 91 = .ok (.iaload, 1) := by decide +kernel
theorem dX2_findClashes_92 : decode cX2_findClashes 92 = .ok (.iconst 1, 1) := by decide +kernel
theorem dX2_findClashes_93 : decode cX2_findClashes 93 = .ok (.iload 4, 2) := by decide +kernel
theorem dX2_findClashes_95 : decode cX2_findClashes 95 = .ok (.ishl, 1) := by decide +kernel
theorem dX2_findClashes_96 : decode cX2_findClashes 96 = .ok (.ior, 1) := by decide +kernel
theorem dX2_findClashes_97 : decode cX2_findClashes 97 = .ok (.iastore, 1) := by decide +kernel
theorem dX2_findClashes_98 : decode cX2_findClashes 98 = .ok (.iinc 4 1, 3) := by decide +kernel
theorem dX2_findClashes_101 : decode cX2_findClashes 101 = .ok (.goto (-49), 3) := by decide +kernel
theorem dX2_findClashes_104 : decode cX2_findClashes 104 = .ok (.iinc 3 1, 3) := by decide +kernel
theorem dX2_findClashes_107 : decode cX2_findClashes 107 = .ok (.goto (-103), 3) := by decide +kernel
theorem dX2_findClashes_110 : decode cX2_findClashes 110 = .ok (.iload_n 2, 1) := by decide +kernel
theorem dX2_findClashes_111 : decode cX2_findClashes 111 = .ok (.ireturn, 1) := by decide +kernel
theorem dX2_hasNoClash_0 : decode cX2_hasNoClash 0 = .ok (.iconst 0, 1) := by decide +kernel
theorem dX2_hasNoClash_1 : decode cX2_hasNoClash 1 = .ok (.istore_n 2, 1) := by decide +kernel
theorem dX2_hasNoClash_2 : decode cX2_hasNoClash 2 = .ok (.iload_n 2, 1) := by decide +kernel
theorem dX2_hasNoClash_3 : decode cX2_hasNoClash 3 = .ok (.bipush 8, 2) := by decide +kernel
theorem dX2_hasNoClash_5 : decode cX2_hasNoClash 5 = .ok (.if_icmp .ge 31, 3) := by decide +kernel
theorem dX2_hasNoClash_8 : decode cX2_hasNoClash 8 = .ok (.iload_n 1, 1) := by decide +kernel
theorem dX2_hasNoClash_9 : decode cX2_hasNoClash 9 = .ok (.iload_n 2, 1) := by decide +kernel
theorem dX2_hasNoClash_10 : decode cX2_hasNoClash 10 = .ok (.ishr, 1) := by decide +kernel
theorem dX2_hasNoClash_11 : decode cX2_hasNoClash 11 = .ok (.iconst 1, 1) := by decide +kernel
theorem dX2_hasNoClash_12 : decode cX2_hasNoClash 12 = .ok (.iand, 1) := by decide +kernel
theorem dX2_hasNoClash_13 : decode cX2_hasNoClash 13 = .ok (.iconst 1, 1) := by decide +kernel
theorem dX2_hasNoClash_14 : decode cX2_hasNoClash 14 = .ok (.if_icmp .ne 16, 3) := by decide +kernel
theorem dX2_hasNoClash_17 : decode cX2_hasNoClash 17 = .ok (.iload_n 1, 1) := by decide +kernel
theorem dX2_hasNoClash_18 : decode cX2_hasNoClash 18 = .ok (.aload_n 0, 1) := by decide +kernel
theorem dX2_hasNoClash_19 : decode cX2_hasNoClash 19 = .ok (.getfield 9, 3) := by decide +kernel
theorem dX2_hasNoClash_22 : decode cX2_hasNoClash 22 = .ok (.iload_n 2, 1) := by decide +kernel
theorem dX2_hasNoClash_23 : decode cX2_hasNoClash 23 = .ok (.iaload, 1) := by decide +kernel
theorem dX2_hasNoClash_24 : decode cX2_hasNoClash 24 = .ok (.iand, 1) := by decide +kernel
theorem dX2_hasNoClash_25 : decode cX2_hasNoClash 25 = .ok (.ifCond .eq 5, 3) := by decide +kernel
theorem dX2_hasNoClash_28 : decode cX2_hasNoClash 28 = .ok (.iconst 0, 1) := by decide +kernel
theorem dX2_hasNoClash_29 : decode cX2_hasNoClash 29 = .ok (.ireturn, 1) := by decide +kernel
theorem dX2_hasNoClash_30 : decode cX2_hasNoClash 30 = .ok (.iinc 2 1, 3) := by decide +kernel
theorem dX2_hasNoClash_33 : decode cX2_hasNoClash 33 = .ok (.goto (-31), 3) := by decide +kernel
theorem dX2_hasNoClash_36 : decode cX2_hasNoClash 36 = .ok (.iconst 1, 1) := by decide +kernel
theorem dX2_hasNoClash_37 : decode cX2_hasNoClash 37 = .ok (.ireturn, 1) := by decide +kernel
theorem dX2_weightOf_0 : decode cX2_weightOf 0 = .ok (.iconst 0, 1) := by decide +kernel
theorem dX2_weightOf_1 : decode cX2_weightOf 1 = .ok (.istore_n 2, 1) := by decide +kernel
theorem dX2_weightOf_2 : decode cX2_weightOf 2 = .ok (.iconst 0, 1) := by decide +kernel
theorem dX2_weightOf_3 : decode cX2_weightOf 3 = .ok (.istore_n 3, 1) := by decide +kernel
theorem dX2_weightOf_4 : decode cX2_weightOf 4 = .ok (.iload_n 3, 1) := by decide +kernel
theorem dX2_weightOf_5 : decode cX2_weightOf 5 = .ok (.bipush 8, 2) := by decide +kernel
theorem dX2_weightOf_7 : decode cX2_weightOf 7 = .ok (.if_icmp .ge 26, 3) := by decide +kernel
theorem dX2_weightOf_10 : decode cX2_weightOf 10 = .ok (.iload_n 1, 1) := by decide +kernel
theorem dX2_weightOf_11 : decode cX2_weightOf 11 = .ok (.iload_n 3, 1) := by decide +kernel
theorem dX2_weightOf_12 : decode cX2_weightOf 12 = .ok (.ishr, 1) := by decide +kernel
theorem dX2_weightOf_13 : decode cX2_weightOf 13 = .ok (.iconst 1, 1) := by decide +kernel
theorem dX2_weightOf_14 : decode cX2_weightOf 14 = .ok (.iand, 1) := by decide +kernel
theorem dX2_weightOf_15 : decode cX2_weightOf 15 = .ok (.iconst 1, 1) := by decide +kernel
theorem dX2_weightOf_16 : decode cX2_weightOf 16 = .ok (.if_icmp .ne 11, 3) := by decide +kernel
theorem dX2_weightOf_19 : decode cX2_weightOf 19 = .ok (.iload_n 2, 1) := by decide +kernel
theorem dX2_weightOf_20 : decode cX2_weightOf 20 = .ok (.aload_n 0, 1) := by decide +kernel
theorem dX2_weightOf_21 : decode cX2_weightOf 21 = .ok (.iload_n 3, 1) := by decide +kernel
theorem dX2_weightOf_22 : decode cX2_weightOf 22 = .ok (.invokevirtual 119, 3) := by decide +kernel
theorem dX2_weightOf_25 : decode cX2_weightOf 25 = .ok (.iadd, 1) := by decide +kernel
theorem dX2_weightOf_26 : decode cX2_weightOf 26 = .ok (.istore_n 2, 1) := by decide +kernel
theorem dX2_weightOf_27 : decode cX2_weightOf 27 = .ok (.iinc 3 1, 3) := by decide +kernel
theorem dX2_weightOf_30 : decode cX2_weightOf 30 = .ok (.goto (-26), 3) := by decide +kernel
theorem dX2_weightOf_33 : decode cX2_weightOf 33 = .ok (.iload_n 2, 1) := by decide +kernel
theorem dX2_weightOf_34 : decode cX2_weightOf 34 = .ok (.ireturn, 1) := by decide +kernel
theorem dX3_init_0 : decode cX3_init 0 = .ok (.aload_n 0, 1) := by decide +kernel
theorem dX3_init_1 : decode cX3_init 1 = .ok (.invokespecial 1, 3) := by decide +kernel
theorem dX3_init_4 : decode cX3_init 4 = .ok (.return_, 1) := by decide +kernel
theorem dX3_weighAll_0 : decode cX3_weighAll 0 = .ok (.aload_n 0, 1) := by decide +kernel
theorem dX3_weighAll_1 : decode cX3_weighAll 1 = .ok (.dconst 0, 1) := by decide +kernel
theorem dX3_weighAll_2 : decode cX3_weighAll 2 = .ok (.putfield 7, 3) := by decide +kernel
theorem dX3_weighAll_5 : decode cX3_weighAll 5 = .ok (.aload_n 0, 1) := by decide +kernel
theorem dX3_weighAll_6 : decode cX3_weighAll 6 = .ok (.dconst 0, 1) := by decide +kernel
theorem dX3_weighAll_7 : decode cX3_weighAll 7 = .ok (.putfield 13, 3) := by decide +kernel
theorem dX3_weighAll_10 : decode cX3_weighAll 10 = .ok (.aload_n 0, 1) := by decide +kernel
theorem dX3_weighAll_11 : decode cX3_weighAll 11 = .ok (.dconst 0, 1) := by decide +kernel
theorem dX3_weighAll_12 : decode cX3_weighAll 12 = .ok (.putfield 16, 3) := by decide +kernel
theorem dX3_weighAll_15 : decode cX3_weighAll 15 = .ok (.iconst 0, 1) := by decide +kernel
theorem dX3_weighAll_16 : decode cX3_weighAll 16 = .ok (.istore_n 3, 1) := by decide +kernel
theorem dX3_weighAll_17 : decode cX3_weighAll 17 = .ok (.iload_n 3, 1) := by decide +kernel
theorem dX3_weighAll_18 : decode cX3_weighAll 18 = .ok (.aload_n 1, 1) := by decide +kernel
theorem dX3_weighAll_19 : decode cX3_weighAll 19 = .ok (.getfield 19, 3) := by decide +kernel
theorem dX3_weighAll_22 : decode cX3_weighAll 22 = .ok (.if_icmp .ge 38, 3) := by decide +kernel
theorem dX3_weighAll_25 : decode cX3_weighAll 25 = .ok (.iload_n 3, 1) := by decide +kernel
theorem dX3_weighAll_26 : decode cX3_weighAll 26 = .ok (.iload_n 2, 1) := by decide +kernel
theorem dX3_weighAll_27 : decode cX3_weighAll 27 = .ok (.if_icmp .eq 27, 3) := by decide +kernel
theorem dX3_weighAll_30 : decode cX3_weighAll 30 = .ok (.aload_n 1, 1) := by decide +kernel
theorem dX3_weighAll_31 : decode cX3_weighAll 31 = .ok (.iload_n 3, 1) := by decide +kernel
theorem dX3_weighAll_32 : decode cX3_weighAll 32 = .ok (.invokevirtual 25, 3) := by decide +kernel
theorem dX3_weighAll_35 : decode cX3_weighAll 35 = .ok (.ifCond .eq 19, 3) := by decide +kernel
theorem dX3_weighAll_38 : decode cX3_weighAll 38 = .ok (.aload_n 0, 1) := by decide +kernel
theorem dX3_weighAll_39 : decode cX3_weighAll 39 = .ok (.aload_n 1, 1) := by decide +kernel
theorem dX3_weighAll_40 : decode cX3_weighAll 40 = .ok (.iload_n 3, 1) := by decide +kernel
theorem dX3_weighAll_41 : decode cX3_weighAll 41 = .ok (.aload_n 1, 1) := by decide +kernel
theorem dX3_weighAll_42 : decode cX3_weighAll 42 = .ok (.iload_n 3, 1) := by decide +kernel
theorem dX3_weighAll_43 : decode cX3_weighAll 43 = .ok (.invokevirtual 29, 3) := by decide +kernel
theorem dX3_weighAll_46 : decode cX3_weighAll 46 = .ok (.aload_n 1, 1) := by decide +kernel
theorem dX3_weighAll_47 : decode cX3_weighAll 47 = .ok (.iload_n 3, 1) := by decide +kernel
theorem dX3_weighAll_48 : decode cX3_weighAll 48 = .ok (.invokevirtual 33, 3) := by decide +kernel
theorem dX3_weighAll_51 : decode cX3_weighAll 51 = .ok (.invokevirtual 36, 3) := by decide +kernel
theorem dX3_weighAll_54 : decode cX3_weighAll 54 = .ok (.iinc 3 1, 3) := by decide +kernel
theorem dX3_weighAll_57 : decode cX3_weighAll 57 = .ok (.goto (-40), 3) := by decide +kernel
theorem dX3_weighAll_60 : decode cX3_weighAll 60 = .ok (.return_, 1) := by decide +kernel
theorem dX3_add_0 : decode cX3_add 0 = .ok (.aload_n 1, 1) := by decide +kernel
theorem dX3_add_1 : decode cX3_add 1 = .ok (.iload_n 2, 1) := by decide +kernel
theorem dX3_add_2 : decode cX3_add 2 = .ok (.invokevirtual 40, 3) := by decide +kernel
theorem dX3_add_5 : decode cX3_add 5 = .ok (.i2d, 1) := by decide +kernel
theorem dX3_add_6 : decode cX3_add 6 = .ok (.dstore 5, 2) := by decide +kernel
theorem dX3_add_8 : decode cX3_add 8 = .ok (.aload_n 0, 1) := by decide +kernel
theorem dX3_add_9 : decode cX3_add 9 = .ok (.aload_n 0, 1) := by decide +kernel
theorem dX3_add_10 : decode cX3_add 10 = .ok (.getfield 7, 3) := by decide +kernel
theorem dX3_add_13 : decode cX3_add 13 = .ok (.dload 5, 2) := by decide +kernel
theorem dX3_add_15 : decode cX3_add 15 = .ok (.dadd, 1) := by decide +kernel
theorem dX3_add_16 : decode cX3_add 16 = .ok (.putfield 7, 3) := by decide +kernel
theorem dX3_add_19 : decode cX3_add 19 = .ok (.aload_n 0, 1) := by decide +kernel
theorem dX3_add_20 : decode cX3_add 20 = .ok (.aload_n 0, 1) := by decide +kernel
theorem dX3_add_21 : decode cX3_add 21 = .ok (.getfield 13, 3) := by decide +kernel
theorem dX3_add_24 : decode cX3_add 24 = .ok (.dload 5, 2) := by decide +kernel
theorem dX3_add_26 : decode cX3_add 26 = .ok (.iload_n 3, 1) := by decide +kernel
theorem dX3_add_27 : decode cX3_add 27 = .ok (.i2d, 1) := by decide +kernel
theorem dX3_add_28 : decode cX3_add 28 = .ok (.aload_n 1, 1) := by decide +kernel
theorem dX3_add_29 : decode cX3_add 29 = .ok (.iload_n 2, 1) := by decide +kernel
theorem dX3_add_30 : decode cX3_add 30 = .ok (.invokevirtual 43, 3) := by decide +kernel
theorem dX3_add_33 : decode cX3_add 33 = .ok (.i2d, 1) := by decide +kernel
theorem dX3_add_34 : decode cX3_add 34 = .ok (.ldc2_w 46, 3) := by decide +kernel
theorem dX3_add_37 : decode cX3_add 37 = .ok (.ddiv, 1) := by decide +kernel
theorem dX3_add_38 : decode cX3_add 38 = .ok (.dadd, 1) := by decide +kernel
theorem dX3_add_39 : decode cX3_add 39 = .ok (.dmul, 1) := by decide +kernel
theorem dX3_add_40 : decode cX3_add 40 = .ok (.dadd, 1) := by decide +kernel
theorem dX3_add_41 : decode cX3_add 41 = .ok (.putfield 13, 3) := by decide +kernel
theorem dX3_add_44 : decode cX3_add 44 = .ok (.aload_n 0, 1) := by decide +kernel
theorem dX3_add_45 : decode cX3_add 45 = .ok (.aload_n 0, 1) := by decide +kernel
theorem dX3_add_46 : decode cX3_add 46 = .ok (.getfield 16, 3) := by decide +kernel
theorem dX3_add_49 : decode cX3_add 49 = .ok (.dload 5, 2) := by decide +kernel
theorem dX3_add_51 : decode cX3_add 51 = .ok (.iload 4, 2) := by decide +kernel
theorem dX3_add_53 : decode cX3_add 53 = .ok (.i2d, 1) := by decide +kernel
theorem dX3_add_54 : decode cX3_add 54 = .ok (.aload_n 1, 1) := by decide +kernel
theorem dX3_add_55 : decode cX3_add 55 = .ok (.iload_n 2, 1) := by decide +kernel
theorem dX3_add_56 : decode cX3_add 56 = .ok (.invokevirtual 48, 3) := by decide +kernel
theorem dX3_add_59 : decode cX3_add 59 = .ok (.i2d, 1) := by decide +kernel
theorem dX3_add_60 : decode cX3_add 60 = .ok (.ldc2_w 46, 3) := by decide +kernel
theorem dX3_add_63 : decode cX3_add 63 = .ok (.ddiv, 1) := by decide +kernel
theorem dX3_add_64 : decode cX3_add 64 = .ok (.dadd, 1) := by decide +kernel
theorem dX3_add_65 : decode cX3_add 65 = .ok (.dmul, 1) := by decide +kernel
theorem dX3_add_66 : decode cX3_add 66 = .ok (.dadd, 1) := by decide +kernel
theorem dX3_add_67 : decode cX3_add 67 = .ok (.putfield 16, 3) := by decide +kernel
theorem dX3_add_70 : decode cX3_add 70 = .ok (.return_, 1) := by decide +kernel
theorem dX3_centreX_0 : decode cX3_centreX 0 = .ok (.aload_n 0, 1) := by decide +kernel
theorem dX3_centreX_1 : decode cX3_centreX 1 = .ok (.getfield 7, 3) := by decide +kernel
theorem dX3_centreX_4 : decode cX3_centreX 4 = .ok (.dconst 0, 1) := by decide +kernel
theorem dX3_centreX_5 : decode cX3_centreX 5 = .ok (.dcmp .l, 1) := by decide +kernel
theorem dX3_centreX_6 : decode cX3_centreX 6 = .ok (.ifCond .le 15, 3) := by decide +kernel
theorem dX3_centreX_9 : decode cX3_centreX 9 = .ok (.aload_n 0, 1) := by decide +kernel
theorem dX3_centreX_10 : decode cX3_centreX 10 = .ok (.getfield 13, 3) := by decide +kernel
theorem dX3_centreX_13 : decode cX3_centreX 13 = .ok (.aload_n 0, 1) := by decide +kernel
theorem dX3_centreX_14 : decode cX3_centreX 14 = .ok (.getfield 7, 3) := by decide +kernel
theorem dX3_centreX_17 : decode cX3_centreX 17 = .ok (.ddiv, 1) := by decide +kernel
theorem dX3_centreX_18 : decode cX3_centreX 18 = .ok (.goto 12, 3) := by decide +kernel
theorem dX3_centreX_21 : decode cX3_centreX 21 = .ok (.aload_n 1, 1) := by decide +kernel
theorem dX3_centreX_22 : decode cX3_centreX 22 = .ok (.getfield 51, 3) := by decide +kernel
theorem dX3_centreX_25 : decode cX3_centreX 25 = .ok (.i2d, 1) := by decide +kernel
theorem dX3_centreX_26 : decode cX3_centreX 26 = .ok (.ldc2_w 46, 3) := by decide +kernel
theorem dX3_centreX_29 : decode cX3_centreX 29 = .ok (.ddiv, 1) := by decide +kernel
theorem dX3_centreX_30 : decode cX3_centreX 30 = .ok (.dreturn, 1) := by decide +kernel
theorem dX3_centreY_0 : decode cX3_centreY 0 = .ok (.aload_n 0, 1) := by decide +kernel
theorem dX3_centreY_1 : decode cX3_centreY 1 = .ok (.getfield 7, 3) := by decide +kernel
theorem dX3_centreY_4 : decode cX3_centreY 4 = .ok (.dconst 0, 1) := by decide +kernel
theorem dX3_centreY_5 : decode cX3_centreY 5 = .ok (.dcmp .l, 1) := by decide +kernel
theorem dX3_centreY_6 : decode cX3_centreY 6 = .ok (.ifCond .le 15, 3) := by decide +kernel
theorem dX3_centreY_9 : decode cX3_centreY 9 = .ok (.aload_n 0, 1) := by decide +kernel
theorem dX3_centreY_10 : decode cX3_centreY 10 = .ok (.getfield 16, 3) := by decide +kernel
theorem dX3_centreY_13 : decode cX3_centreY 13 = .ok (.aload_n 0, 1) := by decide +kernel
theorem dX3_centreY_14 : decode cX3_centreY 14 = .ok (.getfield 7, 3) := by decide +kernel
theorem dX3_centreY_17 : decode cX3_centreY 17 = .ok (.ddiv, 1) := by decide +kernel
theorem dX3_centreY_18 : decode cX3_centreY 18 = .ok (.goto 12, 3) := by decide +kernel
theorem dX3_centreY_21 : decode cX3_centreY 21 = .ok (.aload_n 1, 1) := by decide +kernel
theorem dX3_centreY_22 : decode cX3_centreY 22 = .ok (.getfield 54, 3) := by decide +kernel
theorem dX3_centreY_25 : decode cX3_centreY 25 = .ok (.i2d, 1) := by decide +kernel
theorem dX3_centreY_26 : decode cX3_centreY 26 = .ok (.ldc2_w 46, 3) := by decide +kernel
theorem dX3_centreY_29 : decode cX3_centreY 29 = .ok (.ddiv, 1) := by decide +kernel
theorem dX3_centreY_30 : decode cX3_centreY 30 = .ok (.dreturn, 1) := by decide +kernel
theorem dX3_balance_0 : decode cX3_balance 0 = .ok (.aload_n 0, 1) := by decide +kernel
theorem dX3_balance_1 : decode cX3_balance 1 = .ok (.aload_n 1, 1) := by decide +kernel
theorem dX3_balance_2 : decode cX3_balance 2 = .ok (.invokevirtual 57, 3) := by decide +kernel
theorem dX3_balance_5 : decode cX3_balance 5 = .ok (.aload_n 1, 1) := by decide +kernel
theorem dX3_balance_6 : decode cX3_balance 6 = .ok (.getfield 51, 3) := by decide +kernel
theorem dX3_balance_9 : decode cX3_balance 9 = .ok (.i2d, 1) := by decide +kernel
theorem dX3_balance_10 : decode cX3_balance 10 = .ok (.ldc2_w 46, 3) := by decide +kernel
theorem dX3_balance_13 : decode cX3_balance 13 = .ok (.ddiv, 1) := by decide +kernel
theorem dX3_balance_14 : decode cX3_balance 14 = .ok (.dsub, 1) := by decide +kernel
theorem dX3_balance_15 : decode cX3_balance 15 = .ok (.dstore_n 2, 1) := by decide +kernel
theorem dX3_balance_16 : decode cX3_balance 16 = .ok (.aload_n 0, 1) := by decide +kernel
theorem dX3_balance_17 : decode cX3_balance 17 = .ok (.aload_n 1, 1) := by decide +kernel
theorem dX3_balance_18 : decode cX3_balance 18 = .ok (.invokevirtual 61, 3) := by decide +kernel
theorem dX3_balance_21 : decode cX3_balance 21 = .ok (.aload_n 1, 1) := by decide +kernel
theorem dX3_balance_22 : decode cX3_balance 22 = .ok (.getfield 54, 3) := by decide +kernel
theorem dX3_balance_25 : decode cX3_balance 25 = .ok (.i2d, 1) := by decide +kernel
theorem dX3_balance_26 : decode cX3_balance 26 = .ok (.ldc2_w 46, 3) := by decide +kernel
theorem dX3_balance_29 : decode cX3_balance 29 = .ok (.ddiv, 1) := by decide +kernel
theorem dX3_balance_30 : decode cX3_balance 30 = .ok (.dsub, 1) := by decide +kernel
theorem dX3_balance_31 : decode cX3_balance 31 = .ok (.dstore 4, 2) := by decide +kernel
theorem dX3_balance_33 : decode cX3_balance 33 = .ok (.dload_n 2, 1) := by decide +kernel
theorem dX3_balance_34 : decode cX3_balance 34 = .ok (.dload_n 2, 1) := by decide +kernel
theorem dX3_balance_35 : decode cX3_balance 35 = .ok (.dmul, 1) := by decide +kernel
theorem dX3_balance_36 : decode cX3_balance 36 = .ok (.dload 4, 2) := by decide +kernel
theorem dX3_balance_38 : decode cX3_balance 38 = .ok (.dload 4, 2) := by decide +kernel
theorem dX3_balance_40 : decode cX3_balance 40 = .ok (.dmul, 1) := by decide +kernel
theorem dX3_balance_41 : decode cX3_balance 41 = .ok (.dadd, 1) := by decide +kernel
theorem dX3_balance_42 : decode cX3_balance 42 = .ok (.dreturn, 1) := by decide +kernel
theorem dX3_balanceWith_0 : decode cX3_balanceWith 0 = .ok (.aload_n 0, 1) := by decide +kernel
theorem dX3_balanceWith_1 : decode cX3_balanceWith 1 = .ok (.getfield 7, 3) := by decide +kernel
theorem dX3_balanceWith_4 : decode cX3_balanceWith 4 = .ok (.dstore 5, 2) := by decide +kernel
theorem dX3_balanceWith_6 : decode cX3_balanceWith 6 = .ok (.aload_n 0, 1) := by decide +kernel
theorem dX3_balanceWith_7 : decode cX3_balanceWith 7 = .ok (.getfield 13, 3) := by decide +kernel
theorem dX3_balanceWith_10 : decode cX3_balanceWith 10 = .ok (.dstore 7, 2) := by decide +kernel
theorem dX3_balanceWith_12 : decode cX3_balanceWith 12 = .ok (.aload_n 0, 1) := by decide +kernel
theorem dX3_balanceWith_13 : decode cX3_balanceWith 13 = .ok (.getfield 16, 3) := by decide +kernel
theorem dX3_balanceWith_16 : decode cX3_balanceWith 16 = .ok (.dstore 9, 2) := by decide +kernel
theorem dX3_balanceWith_18 : decode cX3_balanceWith 18 = .ok (.aload_n 0, 1) := by decide +kernel
theorem dX3_balanceWith_19 : decode cX3_balanceWith 19 = .ok (.aload_n 1, 1) := by decide +kernel
theorem dX3_balanceWith_20 : decode cX3_balanceWith 20 = .ok (.iload_n 2, 1) := by decide +kernel
theorem dX3_balanceWith_21 : decode cX3_balanceWith 21 = .ok (.iload_n 3, 1) := by decide +kernel
theorem dX3_balanceWith_22 : decode cX3_balanceWith 22 = .ok (.iload 4, 2) := by decide +kernel
theorem dX3_balanceWith_24 : decode cX3_balanceWith 24 = .ok (.invokevirtual 36, 3) := by decide +kernel
theorem dX3_balanceWith_27 : decode cX3_balanceWith 27 = .ok (.aload_n 0, 1) := by decide +kernel
theorem dX3_balanceWith_28 : decode cX3_balanceWith 28 = .ok (.aload_n 1, 1) := by decide +kernel
theorem dX3_balanceWith_29 : decode cX3_balanceWith 29 = .ok (.invokevirtual 64, 3) := by decide +kernel
theorem dX3_balanceWith_32 : decode cX3_balanceWith 32 = .ok (.dstore 11, 2) := by decide +kernel
theorem dX3_balanceWith_34 : decode cX3_balanceWith 34 = .ok (.aload_n 0, 1) := by decide +kernel
theorem dX3_balanceWith_35 : decode cX3_balanceWith 35 = .ok (.dload 5, 2) := by decide +kernel
theorem dX3_balanceWith_37 : decode cX3_balanceWith 37 = .ok (.putfield 7, 3) := by decide +kernel
theorem dX3_balanceWith_40 : decode cX3_balanceWith 40 = .ok (.aload_n 0, 1) := by decide +kernel
theorem dX3_balanceWith_41 : decode cX3_balanceWith 41 = .ok (.dload 7, 2) := by decide +kernel
theorem dX3_balanceWith_43 : decode cX3_balanceWith 43 = .ok (.putfield 13, 3) := by decide +kernel
theorem dX3_balanceWith_46 : decode cX3_balanceWith 46 = .ok (.aload_n 0, 1) := by decide +kernel
theorem dX3_balanceWith_47 : decode cX3_balanceWith 47 = .ok (.dload 9, 2) := by decide +kernel
theorem dX3_balanceWith_49 : decode cX3_balanceWith 49 = .ok (.putfield 16, 3) := by decide +kernel
theorem dX3_balanceWith_52 : decode cX3_balanceWith 52 = .ok (.dload 11, 2) := by decide +kernel
theorem dX3_balanceWith_54 : decode cX3_balanceWith 54 = .ok (.dreturn, 1) := by decide +kernel
theorem dX3_tell_0 : decode cX3_tell 0 = .ok (.iload_n 2, 1) := by decide +kernel
theorem dX3_tell_1 : decode cX3_tell 1 = .ok (.lookupswitch 39 #[(0, 27), (1, 33)], 27) := by decide +kernel
theorem dX3_tell_28 : decode cX3_tell 28 = .ok (.aload_n 0, 1) := by decide +kernel
theorem dX3_tell_29 : decode cX3_tell 29 = .ok (.aload_n 1, 1) := by decide +kernel
theorem dX3_tell_30 : decode cX3_tell 30 = .ok (.invokevirtual 57, 3) := by decide +kernel
theorem dX3_tell_33 : decode cX3_tell 33 = .ok (.dreturn, 1) := by decide +kernel
theorem dX3_tell_34 : decode cX3_tell 34 = .ok (.aload_n 0, 1) := by decide +kernel
theorem dX3_tell_35 : decode cX3_tell 35 = .ok (.aload_n 1, 1) := by decide +kernel
theorem dX3_tell_36 : decode cX3_tell 36 = .ok (.invokevirtual 61, 3) := by decide +kernel
theorem dX3_tell_39 : decode cX3_tell 39 = .ok (.dreturn, 1) := by decide +kernel
theorem dX3_tell_40 : decode cX3_tell 40 = .ok (.aload_n 0, 1) := by decide +kernel
theorem dX3_tell_41 : decode cX3_tell 41 = .ok (.aload_n 1, 1) := by decide +kernel
theorem dX3_tell_42 : decode cX3_tell 42 = .ok (.invokevirtual 64, 3) := by decide +kernel
theorem dX3_tell_45 : decode cX3_tell 45 = .ok (.dreturn, 1) := by decide +kernel
theorem dX4_init_0 : decode cX4_init 0 = .ok (.aload_n 0, 1) := by decide +kernel
theorem dX4_init_1 : decode cX4_init 1 = .ok (.invokespecial 3, 3) := by decide +kernel
theorem dX4_init_4 : decode cX4_init 4 = .ok (.aload_n 0, 1) := by decide +kernel
theorem dX4_init_5 : decode cX4_init 5 = .ok (.bipush 96, 2) := by decide +kernel
theorem dX4_init_7 : decode cX4_init 7 = .ok (.newarray .int, 2) := by decide +kernel
theorem dX4_init_9 : decode cX4_init 9 = .ok (.putfield 11, 3) := by decide +kernel
theorem dX4_init_12 : decode cX4_init 12 = .ok (.return_, 1) := by decide +kernel
theorem dX4_copyFrom_0 : decode cX4_copyFrom 0 = .ok (.aload_n 1, 1) := by decide +kernel
theorem dX4_copyFrom_1 : decode cX4_copyFrom 1 = .ok (.ifnonnull 4, 3) := by decide +kernel
theorem dX4_copyFrom_4 : decode cX4_copyFrom 4 = .ok (.return_, 1) := by decide +kernel
theorem dX4_copyFrom_5 : decode cX4_copyFrom 5 = .ok (.aload_n 0, 1) := by decide +kernel
theorem dX4_copyFrom_6 : decode cX4_copyFrom 6 = .ok (.aload_n 1, 1) := by decide +kernel
theorem dX4_copyFrom_7 : decode cX4_copyFrom 7 = .ok (.getfield 15, 3) := by decide +kernel
theorem dX4_copyFrom_10 : decode cX4_copyFrom 10 = .ok (.putfield 15, 3) := by decide +kernel
theorem dX4_copyFrom_13 : decode cX4_copyFrom 13 = .ok (.aload_n 1, 1) := by decide +kernel
theorem dX4_copyFrom_14 : decode cX4_copyFrom 14 = .ok (.getfield 11, 3) := by decide +kernel
theorem dX4_copyFrom_17 : decode cX4_copyFrom 17 = .ok (.iconst 0, 1) := by decide +kernel
theorem dX4_copyFrom_18 : decode cX4_copyFrom 18 = .ok (.aload_n 0, 1) := by decide +kernel
theorem dX4_copyFrom_19 : decode cX4_copyFrom 19 = .ok (.getfield 11, 3) := by decide +kernel
theorem dX4_copyFrom_22 : decode cX4_copyFrom 22 = .ok (.iconst 0, 1) := by decide +kernel
theorem dX4_copyFrom_23 : decode cX4_copyFrom 23 = .ok (.bipush 96, 2) := by decide +kernel
theorem dX4_copyFrom_25 : decode cX4_copyFrom 25 = .ok (.invokestatic 19, 3) := by decide +kernel
theorem dX4_copyFrom_28 : decode cX4_copyFrom 28 = .ok (.return_, 1) := by decide +kernel
theorem dX4_isRow_0 : decode cX4_isRow 0 = .ok (.iload_n 0, 1) := by decide +kernel
theorem dX4_isRow_1 : decode cX4_isRow 1 = .ok (.iconst 0, 1) := by decide +kernel
theorem dX4_isRow_2 : decode cX4_isRow 2 = .ok (.iconst 2, 1) := by decide +kernel
theorem dX4_isRow_3 : decode cX4_isRow 3 = .ok (.invokestatic 25, 3) := by decide +kernel
theorem dX4_isRow_6 : decode cX4_isRow 6 = .ok (.ifCond .eq 17, 3) := by decide +kernel
theorem dX4_isRow_9 : decode cX4_isRow 9 = .ok (.iload_n 1, 1) := by decide +kernel
theorem dX4_isRow_10 : decode cX4_isRow 10 = .ok (.iconst 0, 1) := by decide +kernel
theorem dX4_isRow_11 : decode cX4_isRow 11 = .ok (.bipush 7, 2) := by decide +kernel
theorem dX4_isRow_13 : decode cX4_isRow 13 = .ok (.invokestatic 25, 3) := by decide +kernel
theorem dX4_isRow_16 : decode cX4_isRow 16 = .ok (.ifCond .eq 7, 3) := by decide +kernel
theorem dX4_isRow_19 : decode cX4_isRow 19 = .ok (.iconst 1, 1) := by decide +kernel
theorem dX4_isRow_20 : decode cX4_isRow 20 = .ok (.goto 4, 3) := by decide +kernel
theorem dX4_isRow_23 : decode cX4_isRow 23 = .ok (.iconst 0, 1) := by decide +kernel
theorem dX4_isRow_24 : decode cX4_isRow 24 = .ok (.ireturn, 1) := by decide +kernel
theorem dX4_then_0 : decode cX4_then 0 = .ok (.iload_n 1, 1) := by decide +kernel
theorem dX4_then_1 : decode cX4_then 1 = .ok (.iload_n 2, 1) := by decide +kernel
theorem dX4_then_2 : decode cX4_then 2 = .ok (.invokestatic 29, 3) := by decide +kernel
theorem dX4_then_5 : decode cX4_then 5 = .ok (.ifCond .eq 16, 3) := by decide +kernel
theorem dX4_then_8 : decode cX4_then 8 = .ok (.iload_n 3, 1) := by decide +kernel
theorem dX4_then_9 : decode cX4_then 9 = .ok (.iconst 0, 1) := by decide +kernel
theorem dX4_then_10 : decode cX4_then 10 = .ok (.iconst 3, 1) := by decide +kernel
theorem dX4_then_11 : decode cX4_then 11 = .ok (.invokestatic 25, 3) := by decide +kernel
theorem dX4_then_14 : decode cX4_then 14 = .ok (.ifCond .eq 7, 3) := by decide +kernel
theorem dX4_then_17 : decode cX4_then 17 = .ok (.iconst 1, 1) := by decide +kernel
theorem dX4_then_18 : decode cX4_then 18 = .ok (.goto 4, 3) := by decide +kernel
theorem dX4_then_21 : decode cX4_then 21 = .ok (.iconst 0, 1) := by decide +kernel
theorem dX4_then_22 : decode cX4_then 22 = .ok (.istore 4, 2) := by decide +kernel
theorem dX4_then_24 : decode cX4_then 24 = .ok (.iload 4, 2) := by decide +kernel
