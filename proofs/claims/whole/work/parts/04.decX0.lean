theorem dX0_init_0 : decode cX0_init 0 = .ok (.aload_n 0, 1) := by decide +kernel
theorem dX0_init_1 : decode cX0_init 1 = .ok (.invokespecial 3, 3) := by decide +kernel
theorem dX0_init_4 : decode cX0_init 4 = .ok (.aload_n 0, 1) := by decide +kernel
theorem dX0_init_5 : decode cX0_init 5 = .ok (.new 9, 3) := by decide +kernel
theorem dX0_init_8 : decode cX0_init 8 = .ok (.dup, 1) := by decide +kernel
theorem dX0_init_9 : decode cX0_init 9 = .ok (.bipush 60, 2) := by decide +kernel
theorem dX0_init_11 : decode cX0_init 11 = .ok (.invokespecial 11, 3) := by decide +kernel
theorem dX0_init_14 : decode cX0_init 14 = .ok (.putfield 14, 3) := by decide +kernel
theorem dX0_init_17 : decode cX0_init 17 = .ok (.aload_n 0, 1) := by decide +kernel
theorem dX0_init_18 : decode cX0_init 18 = .ok (.new 9, 3) := by decide +kernel
theorem dX0_init_21 : decode cX0_init 21 = .ok (.dup, 1) := by decide +kernel
theorem dX0_init_22 : decode cX0_init 22 = .ok (.bipush 60, 2) := by decide +kernel
theorem dX0_init_24 : decode cX0_init 24 = .ok (.invokespecial 11, 3) := by decide +kernel
theorem dX0_init_27 : decode cX0_init 27 = .ok (.putfield 20, 3) := by decide +kernel
theorem dX0_init_30 : decode cX0_init 30 = .ok (.aload_n 0, 1) := by decide +kernel
theorem dX0_init_31 : decode cX0_init 31 = .ok (.new 9, 3) := by decide +kernel
theorem dX0_init_34 : decode cX0_init 34 = .ok (.dup, 1) := by decide +kernel
theorem dX0_init_35 : decode cX0_init 35 = .ok (.bipush 60, 2) := by decide +kernel
theorem dX0_init_37 : decode cX0_init 37 = .ok (.invokespecial 11, 3) := by decide +kernel
theorem dX0_init_40 : decode cX0_init 40 = .ok (.putfield 23, 3) := by decide +kernel
theorem dX0_init_43 : decode cX0_init 43 = .ok (.aload_n 0, 1) := by decide +kernel
theorem dX0_init_44 : decode cX0_init 44 = .ok (.bipush 60, 2) := by decide +kernel
theorem dX0_init_46 : decode cX0_init 46 = .ok (.newarray .int, 2) := by decide +kernel
theorem dX0_init_48 : decode cX0_init 48 = .ok (.putfield 26, 3) := by decide +kernel
theorem dX0_init_51 : decode cX0_init 51 = .ok (.aload_n 0, 1) := by decide +kernel
theorem dX0_init_52 : decode cX0_init 52 = .ok (.iconst 0, 1) := by decide +kernel
theorem dX0_init_53 : decode cX0_init 53 = .ok (.putfield 30, 3) := by decide +kernel
theorem dX0_init_56 : decode cX0_init 56 = .ok (.return_, 1) := by decide +kernel
theorem dX0_beginProduct_0 : decode cX0_beginProduct 0 = .ok (.aload_n 0, 1) := by decide +kernel
theorem dX0_beginProduct_1 : decode cX0_beginProduct 1 = .ok (.getfield 14, 3) := by decide +kernel
theorem dX0_beginProduct_4 : decode cX0_beginProduct 4 = .ok (.invokevirtual 34, 3) := by decide +kernel
theorem dX0_beginProduct_7 : decode cX0_beginProduct 7 = .ok (.aload_n 0, 1) := by decide +kernel
theorem dX0_beginProduct_8 : decode cX0_beginProduct 8 = .ok (.getfield 14, 3) := by decide +kernel
theorem dX0_beginProduct_11 : decode cX0_beginProduct 11 = .ok (.lload_n 1, 1) := by decide +kernel
theorem dX0_beginProduct_12 : decode cX0_beginProduct 12 = .ok (.iload_n 3, 1) := by decide +kernel
theorem dX0_beginProduct_13 : decode cX0_beginProduct 13 = .ok (.i2l, 1) := by decide +kernel
theorem dX0_beginProduct_14 : decode cX0_beginProduct 14 = .ok (.invokevirtual 37, 3) := by decide +kernel
theorem dX0_beginProduct_17 : decode cX0_beginProduct 17 = .ok (.pop, 1) := by decide +kernel
theorem dX0_beginProduct_18 : decode cX0_beginProduct 18 = .ok (.return_, 1) := by decide +kernel
theorem dX0_beginTotal_0 : decode cX0_beginTotal 0 = .ok (.aload_n 0, 1) := by decide +kernel
theorem dX0_beginTotal_1 : decode cX0_beginTotal 1 = .ok (.getfield 20, 3) := by decide +kernel
theorem dX0_beginTotal_4 : decode cX0_beginTotal 4 = .ok (.invokevirtual 34, 3) := by decide +kernel
theorem dX0_beginTotal_7 : decode cX0_beginTotal 7 = .ok (.return_, 1) := by decide +kernel
theorem dX0_makeTotal_0 : decode cX0_makeTotal 0 = .ok (.aload_n 0, 1) := by decide +kernel
theorem dX0_makeTotal_1 : decode cX0_makeTotal 1 = .ok (.getfield 20, 3) := by decide +kernel
theorem dX0_makeTotal_4 : decode cX0_makeTotal 4 = .ok (.aload_n 1, 1) := by decide +kernel
theorem dX0_makeTotal_5 : decode cX0_makeTotal 5 = .ok (.aload_n 2, 1) := by decide +kernel
theorem dX0_makeTotal_6 : decode cX0_makeTotal 6 = .ok (.iload_n 3, 1) := by decide +kernel
theorem dX0_makeTotal_7 : decode cX0_makeTotal 7 = .ok (.invokevirtual 41, 3) := by decide +kernel
theorem dX0_makeTotal_10 : decode cX0_makeTotal 10 = .ok (.ireturn, 1) := by decide +kernel
theorem dX0_makeProduct_0 : decode cX0_makeProduct 0 = .ok (.aload_n 0, 1) := by decide +kernel
theorem dX0_makeProduct_1 : decode cX0_makeProduct 1 = .ok (.aload_n 0, 1) := by decide +kernel
theorem dX0_makeProduct_2 : decode cX0_makeProduct 2 = .ok (.getfield 14, 3) := by decide +kernel
theorem dX0_makeProduct_5 : decode cX0_makeProduct 5 = .ok (.aload_n 1, 1) := by decide +kernel
theorem dX0_makeProduct_6 : decode cX0_makeProduct 6 = .ok (.aload_n 2, 1) := by decide +kernel
theorem dX0_makeProduct_7 : decode cX0_makeProduct 7 = .ok (.invokevirtual 45, 3) := by decide +kernel
theorem dX0_makeProduct_10 : decode cX0_makeProduct 10 = .ok (.ireturn, 1) := by decide +kernel
theorem dX0_multiplyBy_0 : decode cX0_multiplyBy 0 = .ok (.aload_n 0, 1) := by decide +kernel
theorem dX0_multiplyBy_1 : decode cX0_multiplyBy 1 = .ok (.aload_n 0, 1) := by decide +kernel
theorem dX0_multiplyBy_2 : decode cX0_multiplyBy 2 = .ok (.getfield 23, 3) := by decide +kernel
theorem dX0_multiplyBy_5 : decode cX0_multiplyBy 5 = .ok (.aload_n 0, 1) := by decide +kernel
theorem dX0_multiplyBy_6 : decode cX0_multiplyBy 6 = .ok (.getfield 14, 3) := by decide +kernel
theorem dX0_multiplyBy_9 : decode cX0_multiplyBy 9 = .ok (.aload_n 1, 1) := by decide +kernel
theorem dX0_multiplyBy_10 : decode cX0_multiplyBy 10 = .ok (.invokevirtual 45, 3) := by decide +kernel
theorem dX0_multiplyBy_13 : decode cX0_multiplyBy 13 = .ok (.istore_n 2, 1) := by decide +kernel
theorem dX0_multiplyBy_14 : decode cX0_multiplyBy 14 = .ok (.aload_n 0, 1) := by decide +kernel
theorem dX0_multiplyBy_15 : decode cX0_multiplyBy 15 = .ok (.getfield 14, 3) := by decide +kernel
theorem dX0_multiplyBy_18 : decode cX0_multiplyBy 18 = .ok (.astore_n 3, 1) := by decide +kernel
theorem dX0_multiplyBy_19 : decode cX0_multiplyBy 19 = .ok (.aload_n 0, 1) := by decide +kernel
theorem dX0_multiplyBy_20 : decode cX0_multiplyBy 20 = .ok (.aload_n 0, 1) := by decide +kernel
theorem dX0_multiplyBy_21 : decode cX0_multiplyBy 21 = .ok (.getfield 23, 3) := by decide +kernel
theorem dX0_multiplyBy_24 : decode cX0_multiplyBy 24 = .ok (.putfield 14, 3) := by decide +kernel
theorem dX0_multiplyBy_27 : decode cX0_multiplyBy 27 = .ok (.aload_n 0, 1) := by decide +kernel
theorem dX0_multiplyBy_28 : decode cX0_multiplyBy 28 = .ok (.aload_n 3, 1) := by decide +kernel
theorem dX0_multiplyBy_29 : decode cX0_multiplyBy 29 = .ok (.putfield 23, 3) := by decide +kernel
theorem dX0_multiplyBy_32 : decode cX0_multiplyBy 32 = .ok (.iload_n 2, 1) := by decide +kernel
theorem dX0_multiplyBy_33 : decode cX0_multiplyBy 33 = .ok (.ireturn, 1) := by decide +kernel
theorem dX0_addProduct_0 : decode cX0_addProduct 0 = .ok (.aload_n 0, 1) := by decide +kernel
theorem dX0_addProduct_1 : decode cX0_addProduct 1 = .ok (.getfield 23, 3) := by decide +kernel
theorem dX0_addProduct_4 : decode cX0_addProduct 4 = .ok (.aload_n 0, 1) := by decide +kernel
theorem dX0_addProduct_5 : decode cX0_addProduct 5 = .ok (.getfield 20, 3) := by decide +kernel
theorem dX0_addProduct_8 : decode cX0_addProduct 8 = .ok (.aload_n 0, 1) := by decide +kernel
theorem dX0_addProduct_9 : decode cX0_addProduct 9 = .ok (.getfield 14, 3) := by decide +kernel
theorem dX0_addProduct_12 : decode cX0_addProduct 12 = .ok (.iconst 1, 1) := by decide +kernel
theorem dX0_addProduct_13 : decode cX0_addProduct 13 = .ok (.invokevirtual 41, 3) := by decide +kernel
theorem dX0_addProduct_16 : decode cX0_addProduct 16 = .ok (.istore_n 1, 1) := by decide +kernel
theorem dX0_addProduct_17 : decode cX0_addProduct 17 = .ok (.aload_n 0, 1) := by decide +kernel
theorem dX0_addProduct_18 : decode cX0_addProduct 18 = .ok (.getfield 20, 3) := by decide +kernel
theorem dX0_addProduct_21 : decode cX0_addProduct 21 = .ok (.astore_n 2, 1) := by decide +kernel
theorem dX0_addProduct_22 : decode cX0_addProduct 22 = .ok (.aload_n 0, 1) := by decide +kernel
theorem dX0_addProduct_23 : decode cX0_addProduct 23 = .ok (.aload_n 0, 1) := by decide +kernel
theorem dX0_addProduct_24 : decode cX0_addProduct 24 = .ok (.getfield 23, 3) := by decide +kernel
theorem dX0_addProduct_27 : decode cX0_addProduct 27 = .ok (.putfield 20, 3) := by decide +kernel
theorem dX0_addProduct_30 : decode cX0_addProduct 30 = .ok (.aload_n 0, 1) := by decide +kernel
theorem dX0_addProduct_31 : decode cX0_addProduct 31 = .ok (.aload_n 2, 1) := by decide +kernel
theorem dX0_addProduct_32 : decode cX0_addProduct 32 = .ok (.putfield 23, 3) := by decide +kernel
theorem dX0_addProduct_35 : decode cX0_addProduct 35 = .ok (.iload_n 1, 1) := by decide +kernel
theorem dX0_addProduct_36 : decode cX0_addProduct 36 = .ok (.ireturn, 1) := by decide +kernel
theorem dX0_fillProduct_0 : decode cX0_fillProduct 0 = .ok (.aload_n 1, 1) := by decide +kernel
theorem dX0_fillProduct_1 : decode cX0_fillProduct 1 = .ok (.invokevirtual 34, 3) := by decide +kernel
theorem dX0_fillProduct_4 : decode cX0_fillProduct 4 = .ok (.aload_n 2, 1) := by decide +kernel
theorem dX0_fillProduct_5 : decode cX0_fillProduct 5 = .ok (.getfield 49, 3) := by decide +kernel
theorem dX0_fillProduct_8 : decode cX0_fillProduct 8 = .ok (.ifCond .eq 10, 3) := by decide +kernel
theorem dX0_fillProduct_11 : decode cX0_fillProduct 11 = .ok (.aload_n 3, 1) := by decide +kernel
theorem dX0_fillProduct_12 : decode cX0_fillProduct 12 = .ok (.getfield 49, 3) := by decide +kernel
theorem dX0_fillProduct_15 : decode cX0_fillProduct 15 = .ok (.ifCond .ne 5, 3) := by decide +kernel
theorem dX0_fillProduct_18 : decode cX0_fillProduct 18 = .ok (.iconst 1, 1) := by decide +kernel
theorem dX0_fillProduct_19 : decode cX0_fillProduct 19 = .ok (.ireturn, 1) := by decide +kernel
theorem dX0_fillProduct_20 : decode cX0_fillProduct 20 = .ok (.aload_n 1, 1) := by decide +kernel
theorem dX0_fillProduct_21 : decode cX0_fillProduct 21 = .ok (.aload_n 2, 1) := by decide +kernel
theorem dX0_fillProduct_22 : decode cX0_fillProduct 22 = .ok (.aload_n 3, 1) := by decide +kernel
theorem dX0_fillProduct_23 : decode cX0_fillProduct 23 = .ok (.invokevirtual 52, 3) := by decide +kernel
theorem dX0_fillProduct_26 : decode cX0_fillProduct 26 = .ok (.ifCond .ne 5, 3) := by decide +kernel
theorem dX0_fillProduct_29 : decode cX0_fillProduct 29 = .ok (.iconst 0, 1) := by decide +kernel
theorem dX0_fillProduct_30 : decode cX0_fillProduct 30 = .ok (.ireturn, 1) := by decide +kernel
theorem dX0_fillProduct_31 : decode cX0_fillProduct 31 = .ok (.aload_n 2, 1) := by decide +kernel
theorem dX0_fillProduct_32 : decode cX0_fillProduct 32 = .ok (.getfield 49, 3) := by decide +kernel
theorem dX0_fillProduct_35 : decode cX0_fillProduct 35 = .ok (.aload_n 3, 1) := by decide +kernel
theorem dX0_fillProduct_36 : decode cX0_fillProduct 36 = .ok (.getfield 49, 3) := by decide +kernel
theorem dX0_fillProduct_39 : decode cX0_fillProduct 39 = .ok (.if_icmp .gt 13, 3) := by decide +kernel
theorem dX0_fillProduct_42 : decode cX0_fillProduct 42 = .ok (.aload_n 0, 1) := by decide +kernel
theorem dX0_fillProduct_43 : decode cX0_fillProduct 43 = .ok (.aload_n 1, 1) := by decide +kernel
theorem dX0_fillProduct_44 : decode cX0_fillProduct 44 = .ok (.aload_n 2, 1) := by decide +kernel
theorem dX0_fillProduct_45 : decode cX0_fillProduct 45 = .ok (.aload_n 3, 1) := by decide +kernel
theorem dX0_fillProduct_46 : decode cX0_fillProduct 46 = .ok (.invokevirtual 56, 3) := by decide +kernel
theorem dX0_fillProduct_49 : decode cX0_fillProduct 49 = .ok (.goto 10, 3) := by decide +kernel
theorem dX0_fillProduct_52 : decode cX0_fillProduct 52 = .ok (.aload_n 0, 1) := by decide +kernel
theorem dX0_fillProduct_53 : decode cX0_fillProduct 53 = .ok (.aload_n 1, 1) := by decide +kernel
theorem dX0_fillProduct_54 : decode cX0_fillProduct 54 = .ok (.aload_n 3, 1) := by decide +kernel
theorem dX0_fillProduct_55 : decode cX0_fillProduct 55 = .ok (.aload_n 2, 1) := by decide +kernel
theorem dX0_fillProduct_56 : decode cX0_fillProduct 56 = .ok (.invokevirtual 56, 3) := by decide +kernel
theorem dX0_fillProduct_59 : decode cX0_fillProduct 59 = .ok (.ireturn, 1) := by decide +kernel
theorem dX0_merge_0 : decode cX0_merge 0 = .ok (.iconst 0, 1) := by decide +kernel
theorem dX0_merge_1 : decode cX0_merge 1 = .ok (.istore 4, 2) := by decide +kernel
theorem dX0_merge_3 : decode cX0_merge 3 = .ok (.iload 4, 2) := by decide +kernel
theorem dX0_merge_5 : decode cX0_merge 5 = .ok (.aload_n 2, 1) := by decide +kernel
theorem dX0_merge_6 : decode cX0_merge 6 = .ok (.getfield 49, 3) := by decide +kernel
theorem dX0_merge_9 : decode cX0_merge 9 = .ok (.if_icmp .ge 17, 3) := by decide +kernel
theorem dX0_merge_12 : decode cX0_merge 12 = .ok (.aload_n 0, 1) := by decide +kernel
theorem dX0_merge_13 : decode cX0_merge 13 = .ok (.getfield 26, 3) := by decide +kernel
theorem dX0_merge_16 : decode cX0_merge 16 = .ok (.iload 4, 2) := by decide +kernel
theorem dX0_merge_18 : decode cX0_merge 18 = .ok (.iconst 0, 1) := by decide +kernel
theorem dX0_merge_19 : decode cX0_merge 19 = .ok (.iastore, 1) := by decide +kernel
theorem dX0_merge_20 : decode cX0_merge 20 = .ok (.iinc 4 1, 3) := by decide +kernel
theorem dX0_merge_23 : decode cX0_merge 23 = .ok (.goto (-20), 3) := by decide +kernel
theorem dX0_merge_26 : decode cX0_merge 26 = .ok (.aload_n 0, 1) := by decide +kernel
theorem dX0_merge_27 : decode cX0_merge 27 = .ok (.iconst 1, 1) := by decide +kernel
theorem dX0_merge_28 : decode cX0_merge 28 = .ok (.putfield 30, 3) := by decide +kernel
theorem dX0_merge_31 : decode cX0_merge 31 = .ok (.aload_n 2, 1) := by decide +kernel
theorem dX0_merge_32 : decode cX0_merge 32 = .ok (.getfield 49, 3) := by decide +kernel
theorem dX0_merge_35 : decode cX0_merge 35 = .ok (.aload_n 3, 1) := by decide +kernel
theorem dX0_merge_36 : decode cX0_merge 36 = .ok (.getfield 49, 3) := by decide +kernel
theorem dX0_merge_39 : decode cX0_merge 39 = .ok (.imul, 1) := by decide +kernel
theorem dX0_merge_40 : decode cX0_merge 40 = .ok (.istore 4, 2) := by decide +kernel
theorem dX0_merge_42 : decode cX0_merge 42 = .ok (.iconst 0, 1) := by decide +kernel
theorem dX0_merge_43 : decode cX0_merge 43 = .ok (.istore 5, 2) := by decide +kernel
theorem dX0_merge_45 : decode cX0_merge 45 = .ok (.iload 5, 2) := by decide +kernel
theorem dX0_merge_47 : decode cX0_merge 47 = .ok (.iload 4, 2) := by decide +kernel
theorem dX0_merge_49 : decode cX0_merge 49 = .ok (.if_icmp .ge 80, 3) := by decide +kernel
theorem dX0_merge_52 : decode cX0_merge 52 = .ok (.aload_n 0, 1) := by decide +kernel
theorem dX0_merge_53 : decode cX0_merge 53 = .ok (.aload_n 2, 1) := by decide +kernel
theorem dX0_merge_54 : decode cX0_merge 54 = .ok (.aload_n 3, 1) := by decide +kernel
theorem dX0_merge_55 : decode cX0_merge 55 = .ok (.invokevirtual 59, 3) := by decide +kernel
theorem dX0_merge_58 : decode cX0_merge 58 = .ok (.lstore 6, 2) := by decide +kernel
theorem dX0_merge_60 : decode cX0_merge 60 = .ok (.lload 6, 2) := by decide +kernel
theorem dX0_merge_62 : decode cX0_merge 62 = .ok (.lconst 0, 1) := by decide +kernel
theorem dX0_merge_63 : decode cX0_merge 63 = .ok (.lcmp, 1) := by decide +kernel
theorem dX0_merge_64 : decode cX0_merge 64 = .ok (.ifCond .ge 5, 3) := by decide +kernel
theorem dX0_merge_67 : decode cX0_merge 67 = .ok (.iconst 1, 1) := by decide +kernel
theorem dX0_merge_68 : decode cX0_merge 68 = .ok (.ireturn, 1) := by decide +kernel
theorem dX0_merge_69 : decode cX0_merge 69 = .ok (.aload_n 1, 1) := by decide +kernel
theorem dX0_merge_70 : decode cX0_merge 70 = .ok (.lload 6, 2) := by decide +kernel
theorem dX0_merge_72 : decode cX0_merge 72 = .ok (.aload_n 0, 1) := by decide +kernel
theorem dX0_merge_73 : decode cX0_merge 73 = .ok (.lload 6, 2) := by decide +kernel
theorem dX0_merge_75 : decode cX0_merge 75 = .ok (.aload_n 2, 1) := by decide +kernel
theorem dX0_merge_76 : decode cX0_merge 76 = .ok (.aload_n 3, 1) := by decide +kernel
theorem dX0_merge_77 : decode cX0_merge 77 = .ok (.invokevirtual 63, 3) := by decide +kernel
theorem dX0_merge_80 : decode cX0_merge 80 = .ok (.invokevirtual 37, 3) := by decide +kernel
theorem dX0_merge_83 : decode cX0_merge 83 = .ok (.ifCond .ne 5, 3) := by decide +kernel
theorem dX0_merge_86 : decode cX0_merge 86 = .ok (.iconst 0, 1) := by decide +kernel
theorem dX0_merge_87 : decode cX0_merge 87 = .ok (.ireturn, 1) := by decide +kernel
theorem dX0_merge_88 : decode cX0_merge 88 = .ok (.aload_n 0, 1) := by decide +kernel
theorem dX0_merge_89 : decode cX0_merge 89 = .ok (.getfield 30, 3) := by decide +kernel
theorem dX0_merge_92 : decode cX0_merge 92 = .ok (.aload_n 2, 1) := by decide +kernel
theorem dX0_merge_93 : decode cX0_merge 93 = .ok (.getfield 49, 3) := by decide +kernel
theorem dX0_merge_96 : decode cX0_merge 96 = .ok (.if_icmp .ge 27, 3) := by decide +kernel
theorem dX0_merge_99 : decode cX0_merge 99 = .ok (.aload_n 0, 1) := by decide +kernel
theorem dX0_merge_100 : decode cX0_merge 100 = .ok (.getfield 26, 3) := by decide +kernel
theorem dX0_merge_103 : decode cX0_merge 103 = .ok (.aload_n 0, 1) := by decide +kernel
theorem dX0_merge_104 : decode cX0_merge 104 = .ok (.getfield 30, 3) := by decide +kernel
theorem dX0_merge_107 : decode cX0_merge 107 = .ok (.iconst 1, 1) := by decide +kernel
theorem dX0_merge_108 : decode cX0_merge 108 = .ok (.isub, 1) := by decide +kernel
theorem dX0_merge_109 : decode cX0_merge 109 = .ok (.iaload, 1) := by decide +kernel
theorem dX0_merge_110 : decode cX0_merge 110 = .ok (.ifCond .le 13, 3) := by decide +kernel
theorem dX0_merge_113 : decode cX0_merge 113 = .ok (.aload_n 0, 1) := by decide +kernel
theorem dX0_merge_114 : decode cX0_merge 114 = .ok (.dup, 1) := by decide +kernel
theorem dX0_merge_115 : decode cX0_merge 115 = .ok (.getfield 30, 3) := by decide +kernel
theorem dX0_merge_118 : decode cX0_merge 118 = .ok (.iconst 1, 1) := by decide +kernel
theorem dX0_merge_119 : decode cX0_merge 119 = .ok (.iadd, 1) := by decide +kernel
theorem dX0_merge_120 : decode cX0_merge 120 = .ok (.putfield 30, 3) := by decide +kernel
theorem dX0_merge_123 : decode cX0_merge 123 = .ok (.iinc 5 1, 3) := by decide +kernel
theorem dX0_merge_126 : decode cX0_merge 126 = .ok (.goto (-81), 3) := by decide +kernel
theorem dX0_merge_129 : decode cX0_merge 129 = .ok (.iconst 1, 1) := by decide +kernel
theorem dX0_merge_130 : decode cX0_merge 130 = .ok (.ireturn, 1) := by decide +kernel
theorem dX0_greatestCode_0 : decode cX0_greatestCode 0 = .ok (.ldc2_w 67, 3) := by decide +kernel
theorem dX0_greatestCode_3 : decode cX0_greatestCode 3 = .ok (.lstore_n 3, 1) := by decide +kernel
theorem dX0_greatestCode_4 : decode cX0_greatestCode 4 = .ok (.iconst 0, 1) := by decide +kernel
theorem dX0_greatestCode_5 : decode cX0_greatestCode 5 = .ok (.istore 5, 2) := by decide +kernel
theorem dX0_greatestCode_7 : decode cX0_greatestCode 7 = .ok (.iload 5, 2) := by decide +kernel
theorem dX0_greatestCode_9 : decode cX0_greatestCode 9 = .ok (.aload_n 0, 1) := by decide +kernel
theorem dX0_greatestCode_10 : decode cX0_greatestCode 10 = .ok (.getfield 30, 3) := by decide +kernel
theorem dX0_greatestCode_13 : decode cX0_greatestCode 13 = .ok (.if_icmp .ge 48, 3) := by decide +kernel
theorem dX0_greatestCode_16 : decode cX0_greatestCode 16 = .ok (.aload_n 0, 1) := by decide +kernel
theorem dX0_greatestCode_17 : decode cX0_greatestCode 17 = .ok (.getfield 26, 3) := by decide +kernel
theorem dX0_greatestCode_20 : decode cX0_greatestCode 20 = .ok (.iload 5, 2) := by decide +kernel
theorem dX0_greatestCode_22 : decode cX0_greatestCode 22 = .ok (.iaload, 1) := by decide +kernel
theorem dX0_greatestCode_23 : decode cX0_greatestCode 23 = .ok (.aload_n 2, 1) := by decide +kernel
theorem dX0_greatestCode_24 : decode cX0_greatestCode 24 = .ok (.getfield 49, 3) := by decide +kernel
theorem dX0_greatestCode_27 : decode cX0_greatestCode 27 = .ok (.if_icmp .ge 28, 3) := by decide +kernel
theorem dX0_greatestCode_30 : decode cX0_greatestCode 30 = .ok (.lload_n 3, 1) := by decide +kernel
theorem dX0_greatestCode_31 : decode cX0_greatestCode 31 = .ok (.aload_n 1, 1) := by decide +kernel
theorem dX0_greatestCode_32 : decode cX0_greatestCode 32 = .ok (.getfield 69, 3) := by decide +kernel
theorem dX0_greatestCode_35 : decode cX0_greatestCode 35 = .ok (.iload 5, 2) := by decide +kernel
theorem dX0_greatestCode_37 : decode cX0_greatestCode 37 = .ok (.laload, 1) := by decide +kernel
theorem dX0_greatestCode_38 : decode cX0_greatestCode 38 = .ok (.aload_n 2, 1) := by decide +kernel
theorem dX0_greatestCode_39 : decode cX0_greatestCode 39 = .ok (.getfield 69, 3) := by decide +kernel
theorem dX0_greatestCode_42 : decode cX0_greatestCode 42 = .ok (.aload_n 0, 1) := by decide +kernel
theorem dX0_greatestCode_43 : decode cX0_greatestCode 43 = .ok (.getfield 26, 3) := by decide +kernel
theorem dX0_greatestCode_46 : decode cX0_greatestCode 46 = .ok (.iload 5, 2) := by decide +kernel
theorem dX0_greatestCode_48 : decode cX0_greatestCode 48 = .ok (.iaload, 1) := by decide +kernel
theorem dX0_greatestCode_49 : decode cX0_greatestCode 49 = .ok (.laload, 1) := by decide +kernel
theorem dX0_greatestCode_50 : decode cX0_greatestCode 50 = .ok (.ladd, 1) := by decide +kernel
theorem dX0_greatestCode_51 : decode cX0_greatestCode 51 = .ok (.invokestatic 73, 3) := by decide +kernel
theorem dX0_greatestCode_54 : decode cX0_greatestCode 54 = .ok (.lstore_n 3, 1) := by decide +kernel
theorem dX0_greatestCode_55 : decode cX0_greatestCode 55 = .ok (.iinc 5 1, 3) := by decide +kernel
theorem dX0_greatestCode_58 : decode cX0_greatestCode 58 = .ok (.goto (-51), 3) := by decide +kernel
theorem dX0_greatestCode_61 : decode cX0_greatestCode 61 = .ok (.lload_n 3, 1) := by decide +kernel
theorem dX0_greatestCode_62 : decode cX0_greatestCode 62 = .ok (.lreturn, 1) := by decide +kernel
theorem dX0_gather_0 : decode cX0_gather 0 = .ok (.lconst 0, 1) := by decide +kernel
theorem dX0_gather_1 : decode cX0_gather 1 = .ok (.lstore 5, 2) := by decide +kernel
theorem dX0_gather_3 : decode cX0_gather 3 = .ok (.iconst 0, 1) := by decide +kernel
theorem dX0_gather_4 : decode cX0_gather 4 = .ok (.istore 7, 2) := by decide +kernel
theorem dX0_gather_6 : decode cX0_gather 6 = .ok (.iload 7, 2) := by decide +kernel
theorem dX0_gather_8 : decode cX0_gather 8 = .ok (.aload_n 0, 1) := by decide +kernel
theorem dX0_gather_9 : decode cX0_gather 9 = .ok (.getfield 30, 3) := by decide +kernel
theorem dX0_gather_12 : decode cX0_gather 12 = .ok (.if_icmp .ge 83, 3) := by decide +kernel
theorem dX0_gather_15 : decode cX0_gather 15 = .ok (.aload_n 0, 1) := by decide +kernel
theorem dX0_gather_16 : decode cX0_gather 16 = .ok (.getfield 26, 3) := by decide +kernel
theorem dX0_gather_19 : decode cX0_gather 19 = .ok (.iload 7, 2) := by decide +kernel
theorem dX0_gather_21 : decode cX0_gather 21 = .ok (.iaload, 1) := by decide +kernel
theorem dX0_gather_22 : decode cX0_gather 22 = .ok (.istore 8, 2) := by decide +kernel
theorem dX0_gather_24 : decode cX0_gather 24 = .ok (.iload 8, 2) := by decide +kernel
theorem dX0_gather_26 : decode cX0_gather 26 = .ok (.aload 4, 2) := by decide +kernel
theorem dX0_gather_28 : decode cX0_gather 28 = .ok (.getfield 49, 3) := by decide +kernel
theorem dX0_gather_31 : decode cX0_gather 31 = .ok (.if_icmp .ge 58, 3) := by decide +kernel
theorem dX0_gather_34 : decode cX0_gather 34 = .ok (.aload_n 3, 1) := by decide +kernel
theorem dX0_gather_35 : decode cX0_gather 35 = .ok (.getfield 69, 3) := by decide +kernel
theorem dX0_gather_38 : decode cX0_gather 38 = .ok (.iload 7, 2) := by decide +kernel
theorem dX0_gather_40 : decode cX0_gather 40 = .ok (.laload, 1) := by decide +kernel
theorem dX0_gather_41 : decode cX0_gather 41 = .ok (.aload 4, 2) := by decide +kernel
theorem dX0_gather_43 : decode cX0_gather 43 = .ok (.getfield 69, 3) := by decide +kernel
theorem dX0_gather_46 : decode cX0_gather 46 = .ok (.iload 8, 2) := by decide +kernel
theorem dX0_gather_48 : decode cX0_gather 48 = .ok (.laload, 1) := by decide +kernel
theorem dX0_gather_49 : decode cX0_gather 49 = .ok (.ladd, 1) := by decide +kernel
theorem dX0_gather_50 : decode cX0_gather 50 = .ok (.lload_n 1, 1) := by decide +kernel
theorem dX0_gather_51 : decode cX0_gather 51 = .ok (.lcmp, 1) := by decide +kernel
theorem dX0_gather_52 : decode cX0_gather 52 = .ok (.ifCond .ne 37, 3) := by decide +kernel
theorem dX0_gather_55 : decode cX0_gather 55 = .ok (.lload 5, 2) := by decide +kernel
theorem dX0_gather_57 : decode cX0_gather 57 = .ok (.aload_n 3, 1) := by decide +kernel
theorem dX0_gather_58 : decode cX0_gather 58 = .ok (.getfield 79, 3) := by decide +kernel
theorem dX0_gather_61 : decode cX0_gather 61 = .ok (.iload 7, 2) := by decide +kernel
theorem dX0_gather_63 : decode cX0_gather 63 = .ok (.iaload, 1) := by decide +kernel
theorem dX0_gather_64 : decode cX0_gather 64 = .ok (.i2l, 1) := by decide +kernel
theorem dX0_gather_65 : decode cX0_gather 65 = .ok (.aload 4, 2) := by decide +kernel
theorem dX0_gather_67 : decode cX0_gather 67 = .ok (.getfield 79, 3) := by decide +kernel
theorem dX0_gather_70 : decode cX0_gather 70 = .ok (.iload 8, 2) := by decide +kernel
theorem dX0_gather_72 : decode cX0_gather 72 = .ok (.iaload, 1) := by decide +kernel
theorem dX0_gather_73 : decode cX0_gather 73 = .ok (.i2l, 1) := by decide +kernel
theorem dX0_gather_74 : decode cX0_gather 74 = .ok (.lmul, 1) := by decide +kernel
theorem dX0_gather_75 : decode cX0_gather 75 = .ok (.ladd, 1) := by decide +kernel
theorem dX0_gather_76 : decode cX0_gather 76 = .ok (.lstore 5, 2) := by decide +kernel
theorem dX0_gather_78 : decode cX0_gather 78 = .ok (.aload_n 0, 1) := by decide +kernel
theorem dX0_gather_79 : decode cX0_gather 79 = .ok (.getfield 26, 3) := by decide +kernel
theorem dX0_gather_82 : decode cX0_gather 82 = .ok (.iload 7, 2) := by decide +kernel
theorem dX0_gather_84 : decode cX0_gather 84 = .ok (.iload 8, 2) := by decide +kernel
theorem dX0_gather_86 : decode cX0_gather 86 = .ok (.iconst 1, 1) := by decide +kernel
theorem dX0_gather_87 : decode cX0_gather 87 = .ok (.iadd, 1) := by decide +kernel
theorem dX0_gather_88 : decode cX0_gather 88 = .ok (.iastore, 1) := by decide +kernel
theorem dX0_gather_89 : decode cX0_gather 89 = .ok (.iinc 7 1, 3) := by decide +kernel
theorem dX0_gather_92 : decode cX0_gather 92 = .ok (.goto (-86), 3) := by decide +kernel
theorem dX0_gather_95 : decode cX0_gather 95 = .ok (.lload 5, 2) := by decide +kernel
theorem dX0_gather_97 : decode cX0_gather 97 = .ok (.lreturn, 1) := by decide +kernel
