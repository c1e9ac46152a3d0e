theorem dX3_init_0 : decode cX3_init 0 = .ok (.aload_n 0, 1) := by decide +kernel
theorem dX3_init_1 : decode cX3_init 1 = .ok (.invokespecial 1, 3) := by decide +kernel
theorem dX3_init_4 : decode cX3_init 4 = .ok (.aload_n 0, 1) := by decide +kernel
theorem dX3_init_5 : decode cX3_init 5 = .ok (.bipush 62, 2) := by decide +kernel
theorem dX3_init_7 : decode cX3_init 7 = .ok (.newarray .int, 2) := by decide +kernel
theorem dX3_init_9 : decode cX3_init 9 = .ok (.putfield 9, 3) := by decide +kernel
theorem dX3_init_12 : decode cX3_init 12 = .ok (.aload_n 0, 1) := by decide +kernel
theorem dX3_init_13 : decode cX3_init 13 = .ok (.sipush 3720, 3) := by decide +kernel
theorem dX3_init_16 : decode cX3_init 16 = .ok (.newarray .long, 2) := by decide +kernel
theorem dX3_init_18 : decode cX3_init 18 = .ok (.putfield 13, 3) := by decide +kernel
theorem dX3_init_21 : decode cX3_init 21 = .ok (.aload_n 0, 1) := by decide +kernel
theorem dX3_init_22 : decode cX3_init 22 = .ok (.sipush 3720, 3) := by decide +kernel
theorem dX3_init_25 : decode cX3_init 25 = .ok (.newarray .long, 2) := by decide +kernel
theorem dX3_init_27 : decode cX3_init 27 = .ok (.putfield 17, 3) := by decide +kernel
theorem dX3_init_30 : decode cX3_init 30 = .ok (.aload_n 0, 1) := by decide +kernel
theorem dX3_init_31 : decode cX3_init 31 = .ok (.sipush 3720, 3) := by decide +kernel
theorem dX3_init_34 : decode cX3_init 34 = .ok (.newarray .long, 2) := by decide +kernel
theorem dX3_init_36 : decode cX3_init 36 = .ok (.putfield 20, 3) := by decide +kernel
theorem dX3_init_39 : decode cX3_init 39 = .ok (.aload_n 0, 1) := by decide +kernel
theorem dX3_init_40 : decode cX3_init 40 = .ok (.bipush 20, 2) := by decide +kernel
theorem dX3_init_42 : decode cX3_init 42 = .ok (.newarray .int, 2) := by decide +kernel
theorem dX3_init_44 : decode cX3_init 44 = .ok (.putfield 23, 3) := by decide +kernel
theorem dX3_init_47 : decode cX3_init 47 = .ok (.aload_n 0, 1) := by decide +kernel
theorem dX3_init_48 : decode cX3_init 48 = .ok (.bipush 20, 2) := by decide +kernel
theorem dX3_init_50 : decode cX3_init 50 = .ok (.newarray .int, 2) := by decide +kernel
theorem dX3_init_52 : decode cX3_init 52 = .ok (.putfield 26, 3) := by decide +kernel
theorem dX3_init_55 : decode cX3_init 55 = .ok (.aload_n 0, 1) := by decide +kernel
theorem dX3_init_56 : decode cX3_init 56 = .ok (.bipush 20, 2) := by decide +kernel
theorem dX3_init_58 : decode cX3_init 58 = .ok (.newarray .int, 2) := by decide +kernel
theorem dX3_init_60 : decode cX3_init 60 = .ok (.putfield 29, 3) := by decide +kernel
theorem dX3_init_63 : decode cX3_init 63 = .ok (.aload_n 0, 1) := by decide +kernel
theorem dX3_init_64 : decode cX3_init 64 = .ok (.bipush 20, 2) := by decide +kernel
theorem dX3_init_66 : decode cX3_init 66 = .ok (.newarray .int, 2) := by decide +kernel
theorem dX3_init_68 : decode cX3_init 68 = .ok (.putfield 32, 3) := by decide +kernel
theorem dX3_init_71 : decode cX3_init 71 = .ok (.aload_n 0, 1) := by decide +kernel
theorem dX3_init_72 : decode cX3_init 72 = .ok (.bipush 20, 2) := by decide +kernel
theorem dX3_init_74 : decode cX3_init 74 = .ok (.newarray .int, 2) := by decide +kernel
theorem dX3_init_76 : decode cX3_init 76 = .ok (.putfield 35, 3) := by decide +kernel
theorem dX3_init_79 : decode cX3_init 79 = .ok (.aload_n 0, 1) := by decide +kernel
theorem dX3_init_80 : decode cX3_init 80 = .ok (.sipush 3700, 3) := by decide +kernel
theorem dX3_init_83 : decode cX3_init 83 = .ok (.newarray .long, 2) := by decide +kernel
theorem dX3_init_85 : decode cX3_init 85 = .ok (.putfield 38, 3) := by decide +kernel
theorem dX3_init_88 : decode cX3_init 88 = .ok (.aload_n 0, 1) := by decide +kernel
theorem dX3_init_89 : decode cX3_init 89 = .ok (.sipush 3700, 3) := by decide +kernel
theorem dX3_init_92 : decode cX3_init 92 = .ok (.newarray .long, 2) := by decide +kernel
theorem dX3_init_94 : decode cX3_init 94 = .ok (.putfield 41, 3) := by decide +kernel
theorem dX3_init_97 : decode cX3_init 97 = .ok (.aload_n 0, 1) := by decide +kernel
theorem dX3_init_98 : decode cX3_init 98 = .ok (.sipush 3700, 3) := by decide +kernel
theorem dX3_init_101 : decode cX3_init 101 = .ok (.newarray .long, 2) := by decide +kernel
theorem dX3_init_103 : decode cX3_init 103 = .ok (.putfield 44, 3) := by decide +kernel
theorem dX3_init_106 : decode cX3_init 106 = .ok (.return_, 1) := by decide +kernel
theorem dX3_begin_0 : decode cX3_begin 0 = .ok (.aload_n 0, 1) := by decide +kernel
theorem dX3_begin_1 : decode cX3_begin 1 = .ok (.iconst 0, 1) := by decide +kernel
theorem dX3_begin_2 : decode cX3_begin 2 = .ok (.putfield 47, 3) := by decide +kernel
theorem dX3_begin_5 : decode cX3_begin 5 = .ok (.aload_n 0, 1) := by decide +kernel
theorem dX3_begin_6 : decode cX3_begin 6 = .ok (.iconst 0, 1) := by decide +kernel
theorem dX3_begin_7 : decode cX3_begin 7 = .ok (.putfield 51, 3) := by decide +kernel
theorem dX3_begin_10 : decode cX3_begin 10 = .ok (.return_, 1) := by decide +kernel
theorem dX3_add_0 : decode cX3_add 0 = .ok (.iconst 0, 1) := by decide +kernel
theorem dX3_add_1 : decode cX3_add 1 = .ok (.istore 7, 2) := by decide +kernel
theorem dX3_add_3 : decode cX3_add 3 = .ok (.iload 7, 2) := by decide +kernel
theorem dX3_add_5 : decode cX3_add 5 = .ok (.aload_n 0, 1) := by decide +kernel
theorem dX3_add_6 : decode cX3_add 6 = .ok (.getfield 47, 3) := by decide +kernel
theorem dX3_add_9 : decode cX3_add 9 = .ok (.if_icmp .ge 34, 3) := by decide +kernel
theorem dX3_add_12 : decode cX3_add 12 = .ok (.aload_n 0, 1) := by decide +kernel
theorem dX3_add_13 : decode cX3_add 13 = .ok (.getfield 41, 3) := by decide +kernel
theorem dX3_add_16 : decode cX3_add 16 = .ok (.iload 7, 2) := by decide +kernel
theorem dX3_add_18 : decode cX3_add 18 = .ok (.laload, 1) := by decide +kernel
theorem dX3_add_19 : decode cX3_add 19 = .ok (.lload_n 3, 1) := by decide +kernel
theorem dX3_add_20 : decode cX3_add 20 = .ok (.lcmp, 1) := by decide +kernel
theorem dX3_add_21 : decode cX3_add 21 = .ok (.ifCond .ne 16, 3) := by decide +kernel
theorem dX3_add_24 : decode cX3_add 24 = .ok (.aload_n 0, 1) := by decide +kernel
theorem dX3_add_25 : decode cX3_add 25 = .ok (.getfield 44, 3) := by decide +kernel
theorem dX3_add_28 : decode cX3_add 28 = .ok (.iload 7, 2) := by decide +kernel
theorem dX3_add_30 : decode cX3_add 30 = .ok (.laload, 1) := by decide +kernel
theorem dX3_add_31 : decode cX3_add 31 = .ok (.lload 5, 2) := by decide +kernel
theorem dX3_add_33 : decode cX3_add 33 = .ok (.lcmp, 1) := by decide +kernel
theorem dX3_add_34 : decode cX3_add 34 = .ok (.ifCond .eq 9, 3) := by decide +kernel
theorem dX3_add_37 : decode cX3_add 37 = .ok (.iinc 7 1, 3) := by decide +kernel
theorem dX3_add_40 : decode cX3_add 40 = .ok (.goto (-37), 3) := by decide +kernel
theorem dX3_add_43 : decode cX3_add 43 = .ok (.iload 7, 2) := by decide +kernel
theorem dX3_add_45 : decode cX3_add 45 = .ok (.aload_n 0, 1) := by decide +kernel
theorem dX3_add_46 : decode cX3_add 46 = .ok (.getfield 47, 3) := by decide +kernel
theorem dX3_add_49 : decode cX3_add 49 = .ok (.if_icmp .ne 38, 3) := by decide +kernel
theorem dX3_add_52 : decode cX3_add 52 = .ok (.aload_n 0, 1) := by decide +kernel
theorem dX3_add_53 : decode cX3_add 53 = .ok (.getfield 38, 3) := by decide +kernel
theorem dX3_add_56 : decode cX3_add 56 = .ok (.iload 7, 2) := by decide +kernel
theorem dX3_add_58 : decode cX3_add 58 = .ok (.lconst 0, 1) := by decide +kernel
theorem dX3_add_59 : decode cX3_add 59 = .ok (.lastore, 1) := by decide +kernel
theorem dX3_add_60 : decode cX3_add 60 = .ok (.aload_n 0, 1) := by decide +kernel
theorem dX3_add_61 : decode cX3_add 61 = .ok (.getfield 41, 3) := by decide +kernel
theorem dX3_add_64 : decode cX3_add 64 = .ok (.iload 7, 2) := by decide +kernel
theorem dX3_add_66 : decode cX3_add 66 = .ok (.lload_n 3, 1) := by decide +kernel
theorem dX3_add_67 : decode cX3_add 67 = .ok (.lastore, 1) := by decide +kernel
theorem dX3_add_68 : decode cX3_add 68 = .ok (.aload_n 0, 1) := by decide +kernel
theorem dX3_add_69 : decode cX3_add 69 = .ok (.getfield 44, 3) := by decide +kernel
theorem dX3_add_72 : decode cX3_add 72 = .ok (.iload 7, 2) := by decide +kernel
theorem dX3_add_74 : decode cX3_add 74 = .ok (.lload 5, 2) := by decide +kernel
theorem dX3_add_76 : decode cX3_add 76 = .ok (.lastore, 1) := by decide +kernel
theorem dX3_add_77 : decode cX3_add 77 = .ok (.aload_n 0, 1) := by decide +kernel
theorem dX3_add_78 : decode cX3_add 78 = .ok (.dup, 1) := by decide +kernel
theorem dX3_add_79 : decode cX3_add 79 = .ok (.getfield 47, 3) := by decide +kernel
theorem dX3_add_82 : decode cX3_add 82 = .ok (.iconst 1, 1) := by decide +kernel
theorem dX3_add_83 : decode cX3_add 83 = .ok (.iadd, 1) := by decide +kernel
theorem dX3_add_84 : decode cX3_add 84 = .ok (.putfield 47, 3) := by decide +kernel
theorem dX3_add_87 : decode cX3_add 87 = .ok (.aload_n 0, 1) := by decide +kernel
theorem dX3_add_88 : decode cX3_add 88 = .ok (.getfield 38, 3) := by decide +kernel
theorem dX3_add_91 : decode cX3_add 91 = .ok (.iload 7, 2) := by decide +kernel
theorem dX3_add_93 : decode cX3_add 93 = .ok (.dup2, 1) := by decide +kernel
theorem dX3_add_94 : decode cX3_add 94 = .ok (.laload, 1) := by decide +kernel
theorem dX3_add_95 : decode cX3_add 95 = .ok (.lload_n 1, 1) := by decide +kernel
theorem dX3_add_96 : decode cX3_add 96 = .ok (.ladd, 1) := by decide +kernel
theorem dX3_add_97 : decode cX3_add 97 = .ok (.lastore, 1) := by decide +kernel
theorem dX3_add_98 : decode cX3_add 98 = .ok (.return_, 1) := by decide +kernel
theorem dX3_isFar_0 : decode cX3_isFar 0 = .ok (.iconst 0, 1) := by decide +kernel
theorem dX3_isFar_1 : decode cX3_isFar 1 = .ok (.istore_n 2, 1) := by decide +kernel
theorem dX3_isFar_2 : decode cX3_isFar 2 = .ok (.iconst 0, 1) := by decide +kernel
theorem dX3_isFar_3 : decode cX3_isFar 3 = .ok (.istore_n 3, 1) := by decide +kernel
theorem dX3_isFar_4 : decode cX3_isFar 4 = .ok (.iload_n 3, 1) := by decide +kernel
theorem dX3_isFar_5 : decode cX3_isFar 5 = .ok (.bipush 64, 2) := by decide +kernel
theorem dX3_isFar_7 : decode cX3_isFar 7 = .ok (.if_icmp .ge 33, 3) := by decide +kernel
theorem dX3_isFar_10 : decode cX3_isFar 10 = .ok (.iload_n 2, 1) := by decide +kernel
theorem dX3_isFar_11 : decode cX3_isFar 11 = .ok (.ifCond .ne 17, 3) := by decide +kernel
theorem dX3_isFar_14 : decode cX3_isFar 14 = .ok (.lload_n 0, 1) := by decide +kernel
theorem dX3_isFar_15 : decode cX3_isFar 15 = .ok (.iload_n 3, 1) := by decide +kernel
theorem dX3_isFar_16 : decode cX3_isFar 16 = .ok (.lushr, 1) := by decide +kernel
theorem dX3_isFar_17 : decode cX3_isFar 17 = .ok (.ldc2_w 55, 3) := by decide +kernel
theorem dX3_isFar_20 : decode cX3_isFar 20 = .ok (.land, 1) := by decide +kernel
theorem dX3_isFar_21 : decode cX3_isFar 21 = .ok (.ldc2_w 57, 3) := by decide +kernel
theorem dX3_isFar_24 : decode cX3_isFar 24 = .ok (.lcmp, 1) := by decide +kernel
theorem dX3_isFar_25 : decode cX3_isFar 25 = .ok (.ifCond .le 7, 3) := by decide +kernel
theorem dX3_isFar_28 : decode cX3_isFar 28 = .ok (.iconst 1, 1) := by decide +kernel
theorem dX3_isFar_29 : decode cX3_isFar 29 = .ok (.goto 4, 3) := by decide +kernel
theorem dX3_isFar_32 : decode cX3_isFar 32 = .ok (.iconst 0, 1) := by decide +kernel
theorem dX3_isFar_33 : decode cX3_isFar 33 = .ok (.istore_n 2, 1) := by decide +kernel
theorem dX3_isFar_34 : decode cX3_isFar 34 = .ok (.iinc 3 8, 3) := by decide +kernel
theorem dX3_isFar_37 : decode cX3_isFar 37 = .ok (.goto (-33), 3) := by decide +kernel
theorem dX3_isFar_40 : decode cX3_isFar 40 = .ok (.iload_n 2, 1) := by decide +kernel
theorem dX3_isFar_41 : decode cX3_isFar 41 = .ok (.ireturn, 1) := by decide +kernel
theorem dX3_degree_0 : decode cX3_degree 0 = .ok (.iconst 0, 1) := by decide +kernel
theorem dX3_degree_1 : decode cX3_degree 1 = .ok (.istore 4, 2) := by decide +kernel
theorem dX3_degree_3 : decode cX3_degree 3 = .ok (.iconst 0, 1) := by decide +kernel
theorem dX3_degree_4 : decode cX3_degree 4 = .ok (.istore 5, 2) := by decide +kernel
theorem dX3_degree_6 : decode cX3_degree 6 = .ok (.iload 5, 2) := by decide +kernel
theorem dX3_degree_8 : decode cX3_degree 8 = .ok (.bipush 64, 2) := by decide +kernel
theorem dX3_degree_10 : decode cX3_degree 10 = .ok (.if_icmp .ge 33, 3) := by decide +kernel
theorem dX3_degree_13 : decode cX3_degree 13 = .ok (.iload 4, 2) := by decide +kernel
theorem dX3_degree_15 : decode cX3_degree 15 = .ok (.lload_n 0, 1) := by decide +kernel
theorem dX3_degree_16 : decode cX3_degree 16 = .ok (.iload 5, 2) := by decide +kernel
theorem dX3_degree_18 : decode cX3_degree 18 = .ok (.lushr, 1) := by decide +kernel
theorem dX3_degree_19 : decode cX3_degree 19 = .ok (.ldc2_w 55, 3) := by decide +kernel
theorem dX3_degree_22 : decode cX3_degree 22 = .ok (.land, 1) := by decide +kernel
theorem dX3_degree_23 : decode cX3_degree 23 = .ok (.l2i, 1) := by decide +kernel
theorem dX3_degree_24 : decode cX3_degree 24 = .ok (.lload_n 2, 1) := by decide +kernel
theorem dX3_degree_25 : decode cX3_degree 25 = .ok (.iload 5, 2) := by decide +kernel
theorem dX3_degree_27 : decode cX3_degree 27 = .ok (.lushr, 1) := by decide +kernel
theorem dX3_degree_28 : decode cX3_degree 28 = .ok (.ldc2_w 55, 3) := by decide +kernel
theorem dX3_degree_31 : decode cX3_degree 31 = .ok (.land, 1) := by decide +kernel
theorem dX3_degree_32 : decode cX3_degree 32 = .ok (.l2i, 1) := by decide +kernel
theorem dX3_degree_33 : decode cX3_degree 33 = .ok (.iadd, 1) := by decide +kernel
theorem dX3_degree_34 : decode cX3_degree 34 = .ok (.iadd, 1) := by decide +kernel
theorem dX3_degree_35 : decode cX3_degree 35 = .ok (.istore 4, 2) := by decide +kernel
theorem dX3_degree_37 : decode cX3_degree 37 = .ok (.iinc 5 8, 3) := by decide +kernel
theorem dX3_degree_40 : decode cX3_degree 40 = .ok (.goto (-34), 3) := by decide +kernel
theorem dX3_degree_43 : decode cX3_degree 43 = .ok (.iload 4, 2) := by decide +kernel
theorem dX3_degree_45 : decode cX3_degree 45 = .ok (.ireturn, 1) := by decide +kernel
theorem dX3_isAhead_0 : decode cX3_isAhead 0 = .ok (.aload_n 0, 1) := by decide +kernel
theorem dX3_isAhead_1 : decode cX3_isAhead 1 = .ok (.getfield 41, 3) := by decide +kernel
theorem dX3_isAhead_4 : decode cX3_isAhead 4 = .ok (.iload_n 1, 1) := by decide +kernel
theorem dX3_isAhead_5 : decode cX3_isAhead 5 = .ok (.laload, 1) := by decide +kernel
theorem dX3_isAhead_6 : decode cX3_isAhead 6 = .ok (.aload_n 0, 1) := by decide +kernel
theorem dX3_isAhead_7 : decode cX3_isAhead 7 = .ok (.getfield 44, 3) := by decide +kernel
theorem dX3_isAhead_10 : decode cX3_isAhead 10 = .ok (.iload_n 1, 1) := by decide +kernel
theorem dX3_isAhead_11 : decode cX3_isAhead 11 = .ok (.laload, 1) := by decide +kernel
theorem dX3_isAhead_12 : decode cX3_isAhead 12 = .ok (.invokestatic 59, 3) := by decide +kernel
theorem dX3_isAhead_15 : decode cX3_isAhead 15 = .ok (.istore_n 3, 1) := by decide +kernel
theorem dX3_isAhead_16 : decode cX3_isAhead 16 = .ok (.aload_n 0, 1) := by decide +kernel
theorem dX3_isAhead_17 : decode cX3_isAhead 17 = .ok (.getfield 41, 3) := by decide +kernel
theorem dX3_isAhead_20 : decode cX3_isAhead 20 = .ok (.iload_n 2, 1) := by decide +kernel
theorem dX3_isAhead_21 : decode cX3_isAhead 21 = .ok (.laload, 1) := by decide +kernel
theorem dX3_isAhead_22 : decode cX3_isAhead 22 = .ok (.aload_n 0, 1) := by decide +kernel
theorem dX3_isAhead_23 : decode cX3_isAhead 23 = .ok (.getfield 44, 3) := by decide +kernel
theorem dX3_isAhead_26 : decode cX3_isAhead 26 = .ok (.iload_n 2, 1) := by decide +kernel
theorem dX3_isAhead_27 : decode cX3_isAhead 27 = .ok (.laload, 1) := by decide +kernel
theorem dX3_isAhead_28 : decode cX3_isAhead 28 = .ok (.invokestatic 59, 3) := by decide +kernel
theorem dX3_isAhead_31 : decode cX3_isAhead 31 = .ok (.istore 4, 2) := by decide +kernel
theorem dX3_isAhead_33 : decode cX3_isAhead 33 = .ok (.iload_n 3, 1) := by decide +kernel
theorem dX3_isAhead_34 : decode cX3_isAhead 34 = .ok (.iload 4, 2) := by decide +kernel
theorem dX3_isAhead_36 : decode cX3_isAhead 36 = .ok (.if_icmp .eq 15, 3) := by decide +kernel
theorem dX3_isAhead_39 : decode cX3_isAhead 39 = .ok (.iload_n 3, 1) := by decide +kernel
theorem dX3_isAhead_40 : decode cX3_isAhead 40 = .ok (.iload 4, 2) := by decide +kernel
theorem dX3_isAhead_42 : decode cX3_isAhead 42 = .ok (.if_icmp .le 7, 3) := by decide +kernel
theorem dX3_isAhead_45 : decode cX3_isAhead 45 = .ok (.iconst 1, 1) := by decide +kernel
theorem dX3_isAhead_46 : decode cX3_isAhead 46 = .ok (.goto 4, 3) := by decide +kernel
theorem dX3_isAhead_49 : decode cX3_isAhead 49 = .ok (.iconst 0, 1) := by decide +kernel
theorem dX3_isAhead_50 : decode cX3_isAhead 50 = .ok (.ireturn, 1) := by decide +kernel
theorem dX3_isAhead_51 : decode cX3_isAhead 51 = .ok (.aload_n 0, 1) := by decide +kernel
theorem dX3_isAhead_52 : decode cX3_isAhead 52 = .ok (.getfield 41, 3) := by decide +kernel
theorem dX3_isAhead_55 : decode cX3_isAhead 55 = .ok (.iload_n 1, 1) := by decide +kernel
theorem dX3_isAhead_56 : decode cX3_isAhead 56 = .ok (.laload, 1) := by decide +kernel
theorem dX3_isAhead_57 : decode cX3_isAhead 57 = .ok (.aload_n 0, 1) := by decide +kernel
theorem dX3_isAhead_58 : decode cX3_isAhead 58 = .ok (.getfield 41, 3) := by decide +kernel
theorem dX3_isAhead_61 : decode cX3_isAhead 61 = .ok (.iload_n 2, 1) := by decide +kernel
theorem dX3_isAhead_62 : decode cX3_isAhead 62 = .ok (.laload, 1) := by decide +kernel
theorem dX3_isAhead_63 : decode cX3_isAhead 63 = .ok (.lcmp, 1) := by decide +kernel
theorem dX3_isAhead_64 : decode cX3_isAhead 64 = .ok (.ifCond .eq 27, 3) := by decide +kernel
theorem dX3_isAhead_67 : decode cX3_isAhead 67 = .ok (.aload_n 0, 1) := by decide +kernel
theorem dX3_isAhead_68 : decode cX3_isAhead 68 = .ok (.getfield 41, 3) := by decide +kernel
theorem dX3_isAhead_71 : decode cX3_isAhead 71 = .ok (.iload_n 1, 1) := by decide +kernel
theorem dX3_isAhead_72 : decode cX3_isAhead 72 = .ok (.laload, 1) := by decide +kernel
theorem dX3_isAhead_73 : decode cX3_isAhead 73 = .ok (.aload_n 0, 1) := by decide +kernel
theorem dX3_isAhead_74 : decode cX3_isAhead 74 = .ok (.getfield 41, 3) := by decide +kernel
theorem dX3_isAhead_77 : decode cX3_isAhead 77 = .ok (.iload_n 2, 1) := by decide +kernel
theorem dX3_isAhead_78 : decode cX3_isAhead 78 = .ok (.laload, 1) := by decide +kernel
theorem dX3_isAhead_79 : decode cX3_isAhead 79 = .ok (.lcmp, 1) := by decide +kernel
theorem dX3_isAhead_80 : decode cX3_isAhead 80 = .ok (.ifCond .le 7, 3) := by decide +kernel
theorem dX3_isAhead_83 : decode cX3_isAhead 83 = .ok (.iconst 1, 1) := by decide +kernel
theorem dX3_isAhead_84 : decode cX3_isAhead 84 = .ok (.goto 28, 3) := by decide +kernel
theorem dX3_isAhead_87 : decode cX3_isAhead 87 = .ok (.iconst 0, 1) := by decide +kernel
theorem dX3_isAhead_88 : decode cX3_isAhead 88 = .ok (.goto 24, 3) := by decide +kernel
theorem dX3_isAhead_91 : decode cX3_isAhead 91 = .ok (.aload_n 0, 1) := by decide +kernel
theorem dX3_isAhead_92 : decode cX3_isAhead 92 = .ok (.getfield 44, 3) := by decide +kernel
theorem dX3_isAhead_95 : decode cX3_isAhead 95 = .ok (.iload_n 1, 1) := by decide +kernel
theorem dX3_isAhead_96 : decode cX3_isAhead 96 = .ok (.laload, 1) := by decide +kernel
theorem dX3_isAhead_97 : decode cX3_isAhead 97 = .ok (.aload_n 0, 1) := by decide +kernel
theorem dX3_isAhead_98 : decode cX3_isAhead 98 = .ok (.getfield 44, 3) := by decide +kernel
theorem dX3_isAhead_101 : decode cX3_isAhead 101 = .ok (.iload_n 2, 1) := by decide +kernel
theorem dX3_isAhead_102 : decode cX3_isAhead 102 = .ok (.laload, 1) := by decide +kernel
theorem dX3_isAhead_103 : decode cX3_isAhead 103 = .ok (.lcmp, 1) := by decide +kernel
theorem dX3_isAhead_104 : decode cX3_isAhead 104 = .ok (.ifCond .le 7, 3) := by decide +kernel
theorem dX3_isAhead_107 : decode cX3_isAhead 107 = .ok (.iconst 1, 1) := by decide +kernel
theorem dX3_isAhead_108 : decode cX3_isAhead 108 = .ok (.goto 4, 3) := by decide +kernel
theorem dX3_isAhead_111 : decode cX3_isAhead 111 = .ok (.iconst 0, 1) := by decide +kernel
theorem dX3_isAhead_112 : decode cX3_isAhead 112 = .ok (.ireturn, 1) := by decide +kernel
theorem dX3_swap_0 : decode cX3_swap 0 = .ok (.aload_n 0, 1) := by decide +kernel
theorem dX3_swap_1 : decode cX3_swap 1 = .ok (.getfield 38, 3) := by decide +kernel
theorem dX3_swap_4 : decode cX3_swap 4 = .ok (.iload_n 1, 1) := by decide +kernel
theorem dX3_swap_5 : decode cX3_swap 5 = .ok (.laload, 1) := by decide +kernel
theorem dX3_swap_6 : decode cX3_swap 6 = .ok (.lstore_n 3, 1) := by decide +kernel
theorem dX3_swap_7 : decode cX3_swap 7 = .ok (.aload_n 0, 1) := by decide +kernel
theorem dX3_swap_8 : decode cX3_swap 8 = .ok (.getfield 38, 3) := by decide +kernel
theorem dX3_swap_11 : decode cX3_swap 11 = .ok (.iload_n 1, 1) := by decide +kernel
theorem dX3_swap_12 : decode cX3_swap 12 = .ok (.aload_n 0, 1) := by decide +kernel
theorem dX3_swap_13 : decode cX3_swap 13 = .ok (.getfield 38, 3) := by decide +kernel
theorem dX3_swap_16 : decode cX3_swap 16 = .ok (.iload_n 2, 1) := by decide +kernel
theorem dX3_swap_17 : decode cX3_swap 17 = .ok (.laload, 1) := by decide +kernel
theorem dX3_swap_18 : decode cX3_swap 18 = .ok (.lastore, 1) := by decide +kernel
theorem dX3_swap_19 : decode cX3_swap 19 = .ok (.aload_n 0, 1) := by decide +kernel
theorem dX3_swap_20 : decode cX3_swap 20 = .ok (.getfield 38, 3) := by decide +kernel
theorem dX3_swap_23 : decode cX3_swap 23 = .ok (.iload_n 2, 1) := by decide +kernel
theorem dX3_swap_24 : decode cX3_swap 24 = .ok (.lload_n 3, 1) := by decide +kernel
theorem dX3_swap_25 : decode cX3_swap 25 = .ok (.lastore, 1) := by decide +kernel
theorem dX3_swap_26 : decode cX3_swap 26 = .ok (.aload_n 0, 1) := by decide +kernel
theorem dX3_swap_27 : decode cX3_swap 27 = .ok (.getfield 41, 3) := by decide +kernel
theorem dX3_swap_30 : decode cX3_swap 30 = .ok (.iload_n 1, 1) := by decide +kernel
theorem dX3_swap_31 : decode cX3_swap 31 = .ok (.laload, 1) := by decide +kernel
theorem dX3_swap_32 : decode cX3_swap 32 = .ok (.lstore_n 3, 1) := by decide +kernel
theorem dX3_swap_33 : decode cX3_swap 33 = .ok (.aload_n 0, 1) := by decide +kernel
theorem dX3_swap_34 : decode cX3_swap 34 = .ok (.getfield 41, 3) := by decide +kernel
theorem dX3_swap_37 : decode cX3_swap 37 = .ok (.iload_n 1, 1) := by decide +kernel
theorem dX3_swap_38 : decode cX3_swap 38 = .ok (.aload_n 0, 1) := by decide +kernel
theorem dX3_swap_39 : decode cX3_swap 39 = .ok (.getfield 41, 3) := by decide +kernel
theorem dX3_swap_42 : decode cX3_swap 42 = .ok (.iload_n 2, 1) := by decide +kernel
theorem dX3_swap_43 : decode cX3_swap 43 = .ok (.laload, 1) := by decide +kernel
theorem dX3_swap_44 : decode cX3_swap 44 = .ok (.lastore, 1) := by decide +kernel
theorem dX3_swap_45 : decode cX3_swap 45 = .ok (.aload_n 0, 1) := by decide +kernel
theorem dX3_swap_46 : decode cX3_swap 46 = .ok (.getfield 41, 3) := by decide +kernel
theorem dX3_swap_49 : decode cX3_swap 49 = .ok (.iload_n 2, 1) := by decide +kernel
theorem dX3_swap_50 : decode cX3_swap 50 = .ok (.lload_n 3, 1) := by decide +kernel
theorem dX3_swap_51 : decode cX3_swap 51 = .ok (.lastore, 1) := by decide +kernel
theorem dX3_swap_52 : decode cX3_swap 52 = .ok (.aload_n 0, 1) := by decide +kernel
theorem dX3_swap_53 : decode cX3_swap 53 = .ok (.getfield 44, 3) := by decide +kernel
theorem dX3_swap_56 : decode cX3_swap 56 = .ok (.iload_n 1, 1) := by decide +kernel
theorem dX3_swap_57 : decode cX3_swap 57 = .ok (.laload, 1) := by decide +kernel
theorem dX3_swap_58 : decode cX3_swap 58 = .ok (.lstore_n 3, 1) := by decide +kernel
theorem dX3_swap_59 : decode cX3_swap 59 = .ok (.aload_n 0, 1) := by decide +kernel
theorem dX3_swap_60 : decode cX3_swap 60 = .ok (.getfield 44, 3) := by decide +kernel
theorem dX3_swap_63 : decode cX3_swap 63 = .ok (.iload_n 1, 1) := by decide +kernel
theorem dX3_swap_64 : decode cX3_swap 64 = .ok (.aload_n 0, 1) := by decide +kernel
theorem dX3_swap_65 : decode cX3_swap 65 = .ok (.getfield 44, 3) := by decide +kernel
theorem dX3_swap_68 : decode cX3_swap 68 = .ok (.iload_n 2, 1) := by decide +kernel
theorem dX3_swap_69 : decode cX3_swap 69 = .ok (.laload, 1) := by decide +kernel
theorem dX3_swap_70 : decode cX3_swap 70 = .ok (.lastore, 1) := by decide +kernel
theorem dX3_swap_71 : decode cX3_swap 71 = .ok (.aload_n 0, 1) := by decide +kernel
theorem dX3_swap_72 : decode cX3_swap 72 = .ok (.getfield 44, 3) := by decide +kernel
theorem dX3_swap_75 : decode cX3_swap 75 = .ok (.iload_n 2, 1) := by decide +kernel
theorem dX3_swap_76 : decode cX3_swap 76 = .ok (.lload_n 3, 1) := by decide +kernel
theorem dX3_swap_77 : decode cX3_swap 77 = .ok (.lastore, 1) := by decide +kernel
theorem dX3_swap_78 : decode cX3_swap 78 = .ok (.return_, 1) := by decide +kernel
theorem dX3_to_0 : decode cX3_to 0 = .ok (.iconst 0, 1) := by decide +kernel
theorem dX3_to_1 : decode cX3_to 1 = .ok (.istore_n 2, 1) := by decide +kernel
theorem dX3_to_2 : decode cX3_to 2 = .ok (.iconst 0, 1) := by decide +kernel
theorem dX3_to_3 : decode cX3_to 3 = .ok (.istore_n 3, 1) := by decide +kernel
theorem dX3_to_4 : decode cX3_to 4 = .ok (.iload_n 3, 1) := by decide +kernel
theorem dX3_to_5 : decode cX3_to 5 = .ok (.aload_n 0, 1) := by decide +kernel
theorem dX3_to_6 : decode cX3_to 6 = .ok (.getfield 47, 3) := by decide +kernel
theorem dX3_to_9 : decode cX3_to 9 = .ok (.if_icmp .ge 32, 3) := by decide +kernel
theorem dX3_to_12 : decode cX3_to 12 = .ok (.aload_n 0, 1) := by decide +kernel
theorem dX3_to_13 : decode cX3_to 13 = .ok (.getfield 38, 3) := by decide +kernel
theorem dX3_to_16 : decode cX3_to 16 = .ok (.iload_n 3, 1) := by decide +kernel
theorem dX3_to_17 : decode cX3_to 17 = .ok (.laload, 1) := by decide +kernel
theorem dX3_to_18 : decode cX3_to 18 = .ok (.lconst 0, 1) := by decide +kernel
theorem dX3_to_19 : decode cX3_to 19 = .ok (.lcmp, 1) := by decide +kernel
theorem dX3_to_20 : decode cX3_to 20 = .ok (.ifCond .ne 6, 3) := by decide +kernel
theorem dX3_to_23 : decode cX3_to 23 = .ok (.goto 12, 3) := by decide +kernel
theorem dX3_to_26 : decode cX3_to 26 = .ok (.aload_n 0, 1) := by decide +kernel
theorem dX3_to_27 : decode cX3_to 27 = .ok (.iload_n 3, 1) := by decide +kernel
theorem dX3_to_28 : decode cX3_to 28 = .ok (.iload_n 2, 1) := by decide +kernel
theorem dX3_to_29 : decode cX3_to 29 = .ok (.invokevirtual 63, 3) := by decide +kernel
theorem dX3_to_32 : decode cX3_to 32 = .ok (.iinc 2 1, 3) := by decide +kernel
theorem dX3_to_35 : decode cX3_to 35 = .ok (.iinc 3 1, 3) := by decide +kernel
theorem dX3_to_38 : decode cX3_to 38 = .ok (.goto (-34), 3) := by decide +kernel
theorem dX3_to_41 : decode cX3_to 41 = .ok (.aload_n 0, 1) := by decide +kernel
theorem dX3_to_42 : decode cX3_to 42 = .ok (.iload_n 2, 1) := by decide +kernel
theorem dX3_to_43 : decode cX3_to 43 = .ok (.putfield 47, 3) := by decide +kernel
theorem dX3_to_46 : decode cX3_to 46 = .ok (.aload_n 0, 1) := by decide +kernel
theorem dX3_to_47 : decode cX3_to 47 = .ok (.getfield 51, 3) := by decide +kernel
theorem dX3_to_50 : decode cX3_to 50 = .ok (.ifCond .ne 16, 3) := by decide +kernel
theorem dX3_to_53 : decode cX3_to 53 = .ok (.aload_n 0, 1) := by decide +kernel
theorem dX3_to_54 : decode cX3_to 54 = .ok (.getfield 47, 3) := by decide +kernel
theorem dX3_to_57 : decode cX3_to 57 = .ok (.bipush 60, 2) := by decide +kernel
theorem dX3_to_59 : decode cX3_to 59 = .ok (.if_icmp .gt 7, 3) := by decide +kernel
theorem dX3_to_62 : decode cX3_to 62 = .ok (.iconst 1, 1) := by decide +kernel
theorem dX3_to_63 : decode cX3_to 63 = .ok (.goto 4, 3) := by decide +kernel
theorem dX3_to_66 : decode cX3_to 66 = .ok (.iconst 0, 1) := by decide +kernel
theorem dX3_to_67 : decode cX3_to 67 = .ok (.istore_n 3, 1) := by decide +kernel
theorem dX3_to_68 : decode cX3_to 68 = .ok (.iconst 0, 1) := by decide +kernel
theorem dX3_to_69 : decode cX3_to 69 = .ok (.istore 4, 2) := by decide +kernel
theorem dX3_to_71 : decode cX3_to 71 = .ok (.iload 4, 2) := by decide +kernel
theorem dX3_to_73 : decode cX3_to 73 = .ok (.aload_n 0, 1) := by decide +kernel
theorem dX3_to_74 : decode cX3_to 74 = .ok (.getfield 47, 3) := by decide +kernel
theorem dX3_to_77 : decode cX3_to 77 = .ok (.if_icmp .ge 47, 3) := by decide +kernel
theorem dX3_to_80 : decode cX3_to 80 = .ok (.iload_n 3, 1) := by decide +kernel
theorem dX3_to_81 : decode cX3_to 81 = .ok (.ifCond .eq 35, 3) := by decide +kernel
theorem dX3_to_84 : decode cX3_to 84 = .ok (.aload_n 0, 1) := by decide +kernel
theorem dX3_to_85 : decode cX3_to 85 = .ok (.getfield 38, 3) := by decide +kernel
theorem dX3_to_88 : decode cX3_to 88 = .ok (.iload 4, 2) := by decide +kernel
theorem dX3_to_90 : decode cX3_to 90 = .ok (.laload, 1) := by decide +kernel
theorem dX3_to_91 : decode cX3_to 91 = .ok (.ldc2_w 67, 3) := by decide +kernel
theorem dX3_to_94 : decode cX3_to 94 = .ok (.lcmp, 1) := by decide +kernel
theorem dX3_to_95 : decode cX3_to 95 = .ok (.ifCond .gt 21, 3) := by decide +kernel
theorem dX3_to_98 : decode cX3_to 98 = .ok (.aload_n 0, 1) := by decide +kernel
theorem dX3_to_99 : decode cX3_to 99 = .ok (.getfield 38, 3) := by decide +kernel
theorem dX3_to_102 : decode cX3_to 102 = .ok (.iload 4, 2) := by decide +kernel
theorem dX3_to_104 : decode cX3_to 104 = .ok (.laload, 1) := by decide +kernel
theorem dX3_to_105 : decode cX3_to 105 = .ok (.ldc2_w 69, 3) := by decide +kernel
theorem dX3_to_108 : decode cX3_to 108 = .ok (.lcmp, 1) := by decide +kernel
theorem dX3_to_109 : decode cX3_to 109 = .ok (.ifCond .lt 7, 3) := by decide +kernel
theorem dX3_to_112 : decode cX3_to 112 = .ok (.iconst 1, 1) := by decide +kernel
theorem dX3_to_113 : decode cX3_to 113 = .ok (.goto 4, 3) := by decide +kernel
theorem dX3_to_116 : decode cX3_to 116 = .ok (.iconst 0, 1) := by decide +kernel
theorem dX3_to_117 : decode cX3_to 117 = .ok (.istore_n 3, 1) := by decide +kernel
theorem dX3_to_118 : decode cX3_to 118 = .ok (.iinc 4 1, 3) := by decide +kernel
theorem dX3_to_121 : decode cX3_to 121 = .ok (.goto (-50), 3) := by decide +kernel
theorem dX3_to_124 : decode cX3_to 124 = .ok (.iload_n 3, 1) := by decide +kernel
theorem dX3_to_125 : decode cX3_to 125 = .ok (.ifCond .ne 5, 3) := by decide +kernel
theorem dX3_to_128 : decode cX3_to 128 = .ok (.iconst 0, 1) := by decide +kernel
theorem dX3_to_129 : decode cX3_to 129 = .ok (.ireturn, 1) := by decide +kernel
theorem dX3_to_130 : decode cX3_to 130 = .ok (.iconst 1, 1) := by decide +kernel
theorem dX3_to_131 : decode cX3_to 131 = .ok (.istore 4, 2) := by decide +kernel
theorem dX3_to_133 : decode cX3_to 133 = .ok (.iload 4, 2) := by decide +kernel
theorem dX3_to_135 : decode cX3_to 135 = .ok (.aload_n 0, 1) := by decide +kernel
theorem dX3_to_136 : decode cX3_to 136 = .ok (.getfield 47, 3) := by decide +kernel
theorem dX3_to_139 : decode cX3_to 139 = .ok (.if_icmp .ge 47, 3) := by decide +kernel
theorem dX3_to_142 : decode cX3_to 142 = .ok (.iload 4, 2) := by decide +kernel
theorem dX3_to_144 : decode cX3_to 144 = .ok (.istore 5, 2) := by decide +kernel
theorem dX3_to_146 : decode cX3_to 146 = .ok (.iload 5, 2) := by decide +kernel
theorem dX3_to_148 : decode cX3_to 148 = .ok (.ifCond .le 32, 3) := by decide +kernel
theorem dX3_to_151 : decode cX3_to 151 = .ok (.aload_n 0, 1) := by decide +kernel
theorem dX3_to_152 : decode cX3_to 152 = .ok (.iload 5, 2) := by decide +kernel
theorem dX3_to_154 : decode cX3_to 154 = .ok (.iload 5, 2) := by decide +kernel
theorem dX3_to_156 : decode cX3_to 156 = .ok (.iconst 1, 1) := by decide +kernel
theorem dX3_to_157 : decode cX3_to 157 = .ok (.isub, 1) := by decide +kernel
theorem dX3_to_158 : decode cX3_to 158 = .ok (.invokevirtual 71, 3) := by decide +kernel
theorem dX3_to_161 : decode cX3_to 161 = .ok (.ifCond .eq 19, 3) := by decide +kernel
theorem dX3_to_164 : decode cX3_to 164 = .ok (.aload_n 0, 1) := by decide +kernel
theorem dX3_to_165 : decode cX3_to 165 = .ok (.iload 5, 2) := by decide +kernel
theorem dX3_to_167 : decode cX3_to 167 = .ok (.iload 5, 2) := by decide +kernel
theorem dX3_to_169 : decode cX3_to 169 = .ok (.iconst 1, 1) := by decide +kernel
theorem dX3_to_170 : decode cX3_to 170 = .ok (.isub, 1) := by decide +kernel
theorem dX3_to_171 : decode cX3_to 171 = .ok (.invokevirtual 63, 3) := by decide +kernel
theorem dX3_to_174 : decode cX3_to 174 = .ok (.iinc 5 (-1), 3) := by decide +kernel
theorem dX3_to_177 : decode cX3_to 177 = .ok (.goto (-31), 3) := by decide +kernel
theorem dX3_to_180 : decode cX3_to 180 = .ok (.iinc 4 1, 3) := by decide +kernel
theorem dX3_to_183 : decode cX3_to 183 = .ok (.goto (-50), 3) := by decide +kernel
theorem dX3_to_186 : decode cX3_to 186 = .ok (.aload_n 0, 1) := by decide +kernel
theorem dX3_to_187 : decode cX3_to 187 = .ok (.getfield 9, 3) := by decide +kernel
theorem dX3_to_190 : decode cX3_to 190 = .ok (.iload_n 1, 1) := by decide +kernel
theorem dX3_to_191 : decode cX3_to 191 = .ok (.aload_n 0, 1) := by decide +kernel
theorem dX3_to_192 : decode cX3_to 192 = .ok (.getfield 47, 3) := by decide +kernel
theorem dX3_to_195 : decode cX3_to 195 = .ok (.iastore, 1) := by decide +kernel
theorem dX3_to_196 : decode cX3_to 196 = .ok (.iconst 0, 1) := by decide +kernel
theorem dX3_to_197 : decode cX3_to 197 = .ok (.istore 4, 2) := by decide +kernel
theorem dX3_to_199 : decode cX3_to 199 = .ok (.iload 4, 2) := by decide +kernel
theorem dX3_to_201 : decode cX3_to 201 = .ok (.aload_n 0, 1) := by decide +kernel
theorem dX3_to_202 : decode cX3_to 202 = .ok (.getfield 47, 3) := by decide +kernel
theorem dX3_to_205 : decode cX3_to 205 = .ok (.if_icmp .ge 66, 3) := by decide +kernel
theorem dX3_to_208 : decode cX3_to 208 = .ok (.aload_n 0, 1) := by decide +kernel
theorem dX3_to_209 : decode cX3_to 209 = .ok (.getfield 13, 3) := by decide +kernel
theorem dX3_to_212 : decode cX3_to 212 = .ok (.bipush 60, 2) := by decide +kernel
theorem dX3_to_214 : decode cX3_to 214 = .ok (.iload_n 1, 1) := by decide +kernel
theorem dX3_to_215 : decode cX3_to 215 = .ok (.imul, 1) := by decide +kernel
theorem dX3_to_216 : decode cX3_to 216 = .ok (.iload 4, 2) := by decide +kernel
theorem dX3_to_218 : decode cX3_to 218 = .ok (.iadd, 1) := by decide +kernel
theorem dX3_to_219 : decode cX3_to 219 = .ok (.aload_n 0, 1) := by decide +kernel
theorem dX3_to_220 : decode cX3_to 220 = .ok (.getfield 38, 3) := by decide +kernel
theorem dX3_to_223 : decode cX3_to 223 = .ok (.iload 4, 2) := by decide +kernel
theorem dX3_to_225 : decode cX3_to 225 = .ok (.laload, 1) := by decide +kernel
theorem dX3_to_226 : decode cX3_to 226 = .ok (.lastore, 1) := by decide +kernel
theorem dX3_to_227 : decode cX3_to 227 = .ok (.aload_n 0, 1) := by decide +kernel
theorem dX3_to_228 : decode cX3_to 228 = .ok (.getfield 17, 3) := by decide +kernel
theorem dX3_to_231 : decode cX3_to 231 = .ok (.bipush 60, 2) := by decide +kernel
theorem dX3_to_233 : decode cX3_to 233 = .ok (.iload_n 1, 1) := by decide +kernel
theorem dX3_to_234 : decode cX3_to 234 = .ok (.imul, 1) := by decide +kernel
theorem dX3_to_235 : decode cX3_to 235 = .ok (.iload 4, 2) := by decide +kernel
theorem dX3_to_237 : decode cX3_to 237 = .ok (.iadd, 1) := by decide +kernel
theorem dX3_to_238 : decode cX3_to 238 = .ok (.aload_n 0, 1) := by decide +kernel
theorem dX3_to_239 : decode cX3_to 239 = .ok (.getfield 41, 3) := by decide +kernel
theorem dX3_to_242 : decode cX3_to 242 = .ok (.iload 4, 2) := by decide +kernel
theorem dX3_to_244 : decode cX3_to 244 = .ok (.laload, 1) := by decide +kernel
theorem dX3_to_245 : decode cX3_to 245 = .ok (.lastore, 1) := by decide +kernel
theorem dX3_to_246 : decode cX3_to 246 = .ok (.aload_n 0, 1) := by decide +kernel
theorem dX3_to_247 : decode cX3_to 247 = .ok (.getfield 20, 3) := by decide +kernel
theorem dX3_to_250 : decode cX3_to 250 = .ok (.bipush 60, 2) := by decide +kernel
theorem dX3_to_252 : decode cX3_to 252 = .ok (.iload_n 1, 1) := by decide +kernel
theorem dX3_to_253 : decode cX3_to 253 = .ok (.imul, 1) := by decide +kernel
theorem dX3_to_254 : decode cX3_to 254 = .ok (.iload 4, 2) := by decide +kernel
theorem dX3_to_256 : decode cX3_to 256 = .ok (.iadd, 1) := by decide +kernel
theorem dX3_to_257 : decode cX3_to 257 = .ok (.aload_n 0, 1) := by decide +kernel
theorem dX3_to_258 : decode cX3_to 258 = .ok (.getfield 44, 3) := by decide +kernel
theorem dX3_to_261 : decode cX3_to 261 = .ok (.iload 4, 2) := by decide +kernel
theorem dX3_to_263 : decode cX3_to 263 = .ok (.laload, 1) := by decide +kernel
theorem dX3_to_264 : decode cX3_to 264 = .ok (.lastore, 1) := by decide +kernel
theorem dX3_to_265 : decode cX3_to 265 = .ok (.iinc 4 1, 3) := by decide +kernel
theorem dX3_to_268 : decode cX3_to 268 = .ok (.goto (-69), 3) := by decide +kernel
theorem dX3_to_271 : decode cX3_to 271 = .ok (.iconst 1, 1) := by decide +kernel
theorem dX3_to_272 : decode cX3_to 272 = .ok (.ireturn, 1) := by decide +kernel
theorem dX3_addAll_0 : decode cX3_addAll 0 = .ok (.bipush 60, 2) := by decide +kernel
theorem dX3_addAll_2 : decode cX3_addAll 2 = .ok (.iload_n 1, 1) := by decide +kernel
theorem dX3_addAll_3 : decode cX3_addAll 3 = .ok (.imul, 1) := by decide +kernel
theorem dX3_addAll_4 : decode cX3_addAll 4 = .ok (.istore 4, 2) := by decide +kernel
theorem dX3_addAll_6 : decode cX3_addAll 6 = .ok (.iload 4, 2) := by decide +kernel
theorem dX3_addAll_8 : decode cX3_addAll 8 = .ok (.bipush 60, 2) := by decide +kernel
theorem dX3_addAll_10 : decode cX3_addAll 10 = .ok (.iload_n 1, 1) := by decide +kernel
theorem dX3_addAll_11 : decode cX3_addAll 11 = .ok (.imul, 1) := by decide +kernel
theorem dX3_addAll_12 : decode cX3_addAll 12 = .ok (.aload_n 0, 1) := by decide +kernel
theorem dX3_addAll_13 : decode cX3_addAll 13 = .ok (.getfield 9, 3) := by decide +kernel
theorem dX3_addAll_16 : decode cX3_addAll 16 = .ok (.iload_n 1, 1) := by decide +kernel
theorem dX3_addAll_17 : decode cX3_addAll 17 = .ok (.iaload, 1) := by decide +kernel
theorem dX3_addAll_18 : decode cX3_addAll 18 = .ok (.iadd, 1) := by decide +kernel
theorem dX3_addAll_19 : decode cX3_addAll 19 = .ok (.if_icmp .ge 36, 3) := by decide +kernel
theorem dX3_addAll_22 : decode cX3_addAll 22 = .ok (.aload_n 0, 1) := by decide +kernel
theorem dX3_addAll_23 : decode cX3_addAll 23 = .ok (.lload_n 2, 1) := by decide +kernel
theorem dX3_addAll_24 : decode cX3_addAll 24 = .ok (.aload_n 0, 1) := by decide +kernel
theorem dX3_addAll_25 : decode cX3_addAll 25 = .ok (.getfield 13, 3) := by decide +kernel
theorem dX3_addAll_28 : decode cX3_addAll 28 = .ok (.iload 4, 2) := by decide +kernel
theorem dX3_addAll_30 : decode cX3_addAll 30 = .ok (.laload, 1) := by decide +kernel
theorem dX3_addAll_31 : decode cX3_addAll 31 = .ok (.lmul, 1) := by decide +kernel
theorem dX3_addAll_32 : decode cX3_addAll 32 = .ok (.aload_n 0, 1) := by decide +kernel
theorem dX3_addAll_33 : decode cX3_addAll 33 = .ok (.getfield 17, 3) := by decide +kernel
theorem dX3_addAll_36 : decode cX3_addAll 36 = .ok (.iload 4, 2) := by decide +kernel
theorem dX3_addAll_38 : decode cX3_addAll 38 = .ok (.laload, 1) := by decide +kernel
theorem dX3_addAll_39 : decode cX3_addAll 39 = .ok (.aload_n 0, 1) := by decide +kernel
theorem dX3_addAll_40 : decode cX3_addAll 40 = .ok (.getfield 20, 3) := by decide +kernel
theorem dX3_addAll_43 : decode cX3_addAll 43 = .ok (.iload 4, 2) := by decide +kernel
theorem dX3_addAll_45 : decode cX3_addAll 45 = .ok (.laload, 1) := by decide +kernel
theorem dX3_addAll_46 : decode cX3_addAll 46 = .ok (.invokevirtual 75, 3) := by decide +kernel
theorem dX3_addAll_49 : decode cX3_addAll 49 = .ok (.iinc 4 1, 3) := by decide +kernel
theorem dX3_addAll_52 : decode cX3_addAll 52 = .ok (.goto (-46), 3) := by decide +kernel
theorem dX3_addAll_55 : decode cX3_addAll 55 = .ok (.return_, 1) := by decide +kernel
theorem dX3_sum_0 : decode cX3_sum 0 = .ok (.aload_n 0, 1) := by decide +kernel
theorem dX3_sum_1 : decode cX3_sum 1 = .ok (.invokevirtual 79, 3) := by decide +kernel
theorem dX3_sum_4 : decode cX3_sum 4 = .ok (.aload_n 0, 1) := by decide +kernel
theorem dX3_sum_5 : decode cX3_sum 5 = .ok (.iload_n 2, 1) := by decide +kernel
theorem dX3_sum_6 : decode cX3_sum 6 = .ok (.lconst 1, 1) := by decide +kernel
theorem dX3_sum_7 : decode cX3_sum 7 = .ok (.invokevirtual 82, 3) := by decide +kernel
theorem dX3_sum_10 : decode cX3_sum 10 = .ok (.aload_n 0, 1) := by decide +kernel
theorem dX3_sum_11 : decode cX3_sum 11 = .ok (.iload_n 3, 1) := by decide +kernel
theorem dX3_sum_12 : decode cX3_sum 12 = .ok (.lload 4, 2) := by decide +kernel
theorem dX3_sum_14 : decode cX3_sum 14 = .ok (.invokevirtual 82, 3) := by decide +kernel
theorem dX3_sum_17 : decode cX3_sum 17 = .ok (.aload_n 0, 1) := by decide +kernel
theorem dX3_sum_18 : decode cX3_sum 18 = .ok (.iload_n 1, 1) := by decide +kernel
theorem dX3_sum_19 : decode cX3_sum 19 = .ok (.invokevirtual 86, 3) := by decide +kernel
theorem dX3_sum_22 : decode cX3_sum 22 = .ok (.ireturn, 1) := by decide +kernel
theorem dX3_product_0 : decode cX3_product 0 = .ok (.aload_n 0, 1) := by decide +kernel
theorem dX3_product_1 : decode cX3_product 1 = .ok (.invokevirtual 79, 3) := by decide +kernel
theorem dX3_product_4 : decode cX3_product 4 = .ok (.bipush 60, 2) := by decide +kernel
theorem dX3_product_6 : decode cX3_product 6 = .ok (.iload_n 2, 1) := by decide +kernel
theorem dX3_product_7 : decode cX3_product 7 = .ok (.imul, 1) := by decide +kernel
theorem dX3_product_8 : decode cX3_product 8 = .ok (.istore 4, 2) := by decide +kernel
theorem dX3_product_10 : decode cX3_product 10 = .ok (.iload 4, 2) := by decide +kernel
theorem dX3_product_12 : decode cX3_product 12 = .ok (.bipush 60, 2) := by decide +kernel
theorem dX3_product_14 : decode cX3_product 14 = .ok (.iload_n 2, 1) := by decide +kernel
theorem dX3_product_15 : decode cX3_product 15 = .ok (.imul, 1) := by decide +kernel
theorem dX3_product_16 : decode cX3_product 16 = .ok (.aload_n 0, 1) := by decide +kernel
theorem dX3_product_17 : decode cX3_product 17 = .ok (.getfield 9, 3) := by decide +kernel
theorem dX3_product_20 : decode cX3_product 20 = .ok (.iload_n 2, 1) := by decide +kernel
theorem dX3_product_21 : decode cX3_product 21 = .ok (.iaload, 1) := by decide +kernel
theorem dX3_product_22 : decode cX3_product 22 = .ok (.iadd, 1) := by decide +kernel
theorem dX3_product_23 : decode cX3_product 23 = .ok (.if_icmp .ge 126, 3) := by decide +kernel
theorem dX3_product_26 : decode cX3_product 26 = .ok (.bipush 60, 2) := by decide +kernel
theorem dX3_product_28 : decode cX3_product 28 = .ok (.iload_n 3, 1) := by decide +kernel
theorem dX3_product_29 : decode cX3_product 29 = .ok (.imul, 1) := by decide +kernel
theorem dX3_product_30 : decode cX3_product 30 = .ok (.istore 5, 2) := by decide +kernel
theorem dX3_product_32 : decode cX3_product 32 = .ok (.iload 5, 2) := by decide +kernel
theorem dX3_product_34 : decode cX3_product 34 = .ok (.bipush 60, 2) := by decide +kernel
theorem dX3_product_36 : decode cX3_product 36 = .ok (.iload_n 3, 1) := by decide +kernel
theorem dX3_product_37 : decode cX3_product 37 = .ok (.imul, 1) := by decide +kernel
theorem dX3_product_38 : decode cX3_product 38 = .ok (.aload_n 0, 1) := by decide +kernel
theorem dX3_product_39 : decode cX3_product 39 = .ok (.getfield 9, 3) := by decide +kernel
theorem dX3_product_42 : decode cX3_product 42 = .ok (.iload_n 3, 1) := by decide +kernel
theorem dX3_product_43 : decode cX3_product 43 = .ok (.iaload, 1) := by decide +kernel
theorem dX3_product_44 : decode cX3_product 44 = .ok (.iadd, 1) := by decide +kernel
theorem dX3_product_45 : decode cX3_product 45 = .ok (.if_icmp .ge 98, 3) := by decide +kernel
theorem dX3_product_48 : decode cX3_product 48 = .ok (.aload_n 0, 1) := by decide +kernel
theorem dX3_product_49 : decode cX3_product 49 = .ok (.getfield 17, 3) := by decide +kernel
theorem dX3_product_52 : decode cX3_product 52 = .ok (.iload 4, 2) := by decide +kernel
theorem dX3_product_54 : decode cX3_product 54 = .ok (.laload, 1) := by decide +kernel
theorem dX3_product_55 : decode cX3_product 55 = .ok (.aload_n 0, 1) := by decide +kernel
theorem dX3_product_56 : decode cX3_product 56 = .ok (.getfield 17, 3) := by decide +kernel
theorem dX3_product_59 : decode cX3_product 59 = .ok (.iload 5, 2) := by decide +kernel
theorem dX3_product_61 : decode cX3_product 61 = .ok (.laload, 1) := by decide +kernel
theorem dX3_product_62 : decode cX3_product 62 = .ok (.ladd, 1) := by decide +kernel
theorem dX3_product_63 : decode cX3_product 63 = .ok (.lstore 6, 2) := by decide +kernel
theorem dX3_product_65 : decode cX3_product 65 = .ok (.aload_n 0, 1) := by decide +kernel
theorem dX3_product_66 : decode cX3_product 66 = .ok (.getfield 20, 3) := by decide +kernel
theorem dX3_product_69 : decode cX3_product 69 = .ok (.iload 4, 2) := by decide +kernel
theorem dX3_product_71 : decode cX3_product 71 = .ok (.laload, 1) := by decide +kernel
theorem dX3_product_72 : decode cX3_product 72 = .ok (.aload_n 0, 1) := by decide +kernel
theorem dX3_product_73 : decode cX3_product 73 = .ok (.getfield 20, 3) := by decide +kernel
theorem dX3_product_76 : decode cX3_product 76 = .ok (.iload 5, 2) := by decide +kernel
theorem dX3_product_78 : decode cX3_product 78 = .ok (.laload, 1) := by decide +kernel
theorem dX3_product_79 : decode cX3_product 79 = .ok (.ladd, 1) := by decide +kernel
theorem dX3_product_80 : decode cX3_product 80 = .ok (.lstore 8, 2) := by decide +kernel
theorem dX3_product_82 : decode cX3_product 82 = .ok (.aload_n 0, 1) := by decide +kernel
theorem dX3_product_83 : decode cX3_product 83 = .ok (.aload_n 0, 1) := by decide +kernel
theorem dX3_product_84 : decode cX3_product 84 = .ok (.getfield 51, 3) := by decide +kernel
theorem dX3_product_87 : decode cX3_product 87 = .ok (.ifCond .ne 19, 3) := by decide +kernel
theorem dX3_product_90 : decode cX3_product 90 = .ok (.lload 6, 2) := by decide +kernel
theorem dX3_product_92 : decode cX3_product 92 = .ok (.invokestatic 90, 3) := by decide +kernel
theorem dX3_product_95 : decode cX3_product 95 = .ok (.ifCond .ne 11, 3) := by decide +kernel
theorem dX3_product_98 : decode cX3_product 98 = .ok (.lload 8, 2) := by decide +kernel
theorem dX3_product_100 : decode cX3_product 100 = .ok (.invokestatic 90, 3) := by decide +kernel
theorem dX3_product_103 : decode cX3_product 103 = .ok (.ifCond .eq 7, 3) := by decide +kernel
theorem dX3_product_106 : decode cX3_product 106 = .ok (.iconst 1, 1) := by decide +kernel
theorem dX3_product_107 : decode cX3_product 107 = .ok (.goto 4, 3) := by decide +kernel
theorem dX3_product_110 : decode cX3_product 110 = .ok (.iconst 0, 1) := by decide +kernel
theorem dX3_product_111 : decode cX3_product 111 = .ok (.putfield 51, 3) := by decide +kernel
theorem dX3_product_114 : decode cX3_product 114 = .ok (.aload_n 0, 1) := by decide +kernel
theorem dX3_product_115 : decode cX3_product 115 = .ok (.aload_n 0, 1) := by decide +kernel
theorem dX3_product_116 : decode cX3_product 116 = .ok (.getfield 13, 3) := by decide +kernel
theorem dX3_product_119 : decode cX3_product 119 = .ok (.iload 4, 2) := by decide +kernel
theorem dX3_product_121 : decode cX3_product 121 = .ok (.laload, 1) := by decide +kernel
theorem dX3_product_122 : decode cX3_product 122 = .ok (.aload_n 0, 1) := by decide +kernel
theorem dX3_product_123 : decode cX3_product 123 = .ok (.getfield 13, 3) := by decide +kernel
theorem dX3_product_126 : decode cX3_product 126 = .ok (.iload 5, 2) := by decide +kernel
theorem dX3_product_128 : decode cX3_product 128 = .ok (.laload, 1) := by decide +kernel
theorem dX3_product_129 : decode cX3_product 129 = .ok (.lmul, 1) := by decide +kernel
theorem dX3_product_130 : decode cX3_product 130 = .ok (.lload 6, 2) := by decide +kernel
theorem dX3_product_132 : decode cX3_product 132 = .ok (.lload 8, 2) := by decide +kernel
theorem dX3_product_134 : decode cX3_product 134 = .ok (.invokevirtual 75, 3) := by decide +kernel
theorem dX3_product_137 : decode cX3_product 137 = .ok (.iinc 5 1, 3) := by decide +kernel
theorem dX3_product_140 : decode cX3_product 140 = .ok (.goto (-108), 3) := by decide +kernel
theorem dX3_product_143 : decode cX3_product 143 = .ok (.iinc 4 1, 3) := by decide +kernel
theorem dX3_product_146 : decode cX3_product 146 = .ok (.goto (-136), 3) := by decide +kernel
theorem dX3_product_149 : decode cX3_product 149 = .ok (.aload_n 0, 1) := by decide +kernel
theorem dX3_product_150 : decode cX3_product 150 = .ok (.iload_n 1, 1) := by decide +kernel
theorem dX3_product_151 : decode cX3_product 151 = .ok (.invokevirtual 86, 3) := by decide +kernel
theorem dX3_product_154 : decode cX3_product 154 = .ok (.ireturn, 1) := by decide +kernel
theorem dX3_whole_0 : decode cX3_whole 0 = .ok (.aload_n 0, 1) := by decide +kernel
theorem dX3_whole_1 : decode cX3_whole 1 = .ok (.invokevirtual 79, 3) := by decide +kernel
theorem dX3_whole_4 : decode cX3_whole 4 = .ok (.lload_n 2, 1) := by decide +kernel
theorem dX3_whole_5 : decode cX3_whole 5 = .ok (.lconst 0, 1) := by decide +kernel
theorem dX3_whole_6 : decode cX3_whole 6 = .ok (.lcmp, 1) := by decide +kernel
theorem dX3_whole_7 : decode cX3_whole 7 = .ok (.ifCond .eq 10, 3) := by decide +kernel
theorem dX3_whole_10 : decode cX3_whole 10 = .ok (.aload_n 0, 1) := by decide +kernel
theorem dX3_whole_11 : decode cX3_whole 11 = .ok (.lload_n 2, 1) := by decide +kernel
theorem dX3_whole_12 : decode cX3_whole 12 = .ok (.lconst 0, 1) := by decide +kernel
theorem dX3_whole_13 : decode cX3_whole 13 = .ok (.lconst 0, 1) := by decide +kernel
theorem dX3_whole_14 : decode cX3_whole 14 = .ok (.invokevirtual 75, 3) := by decide +kernel
theorem dX3_whole_17 : decode cX3_whole 17 = .ok (.aload_n 0, 1) := by decide +kernel
theorem dX3_whole_18 : decode cX3_whole 18 = .ok (.iload_n 1, 1) := by decide +kernel
theorem dX3_whole_19 : decode cX3_whole 19 = .ok (.invokevirtual 86, 3) := by decide +kernel
theorem dX3_whole_22 : decode cX3_whole 22 = .ok (.ireturn, 1) := by decide +kernel
theorem dX3_power_0 : decode cX3_power 0 = .ok (.iload_n 2, 1) := by decide +kernel
theorem dX3_power_1 : decode cX3_power 1 = .ok (.bipush 8, 2) := by decide +kernel
theorem dX3_power_3 : decode cX3_power 3 = .ok (.if_icmp .ge 24, 3) := by decide +kernel
theorem dX3_power_6 : decode cX3_power 6 = .ok (.aload_n 0, 1) := by decide +kernel
theorem dX3_power_7 : decode cX3_power 7 = .ok (.getfield 17, 3) := by decide +kernel
theorem dX3_power_10 : decode cX3_power 10 = .ok (.iload_n 1, 1) := by decide +kernel
theorem dX3_power_11 : decode cX3_power 11 = .ok (.laload, 1) := by decide +kernel
theorem dX3_power_12 : decode cX3_power 12 = .ok (.bipush 56, 2) := by decide +kernel
theorem dX3_power_14 : decode cX3_power 14 = .ok (.bipush 8, 2) := by decide +kernel
theorem dX3_power_16 : decode cX3_power 16 = .ok (.iload_n 2, 1) := by decide +kernel
theorem dX3_power_17 : decode cX3_power 17 = .ok (.imul, 1) := by decide +kernel
theorem dX3_power_18 : decode cX3_power 18 = .ok (.isub, 1) := by decide +kernel
theorem dX3_power_19 : decode cX3_power 19 = .ok (.lushr, 1) := by decide +kernel
theorem dX3_power_20 : decode cX3_power 20 = .ok (.ldc2_w 55, 3) := by decide +kernel
theorem dX3_power_23 : decode cX3_power 23 = .ok (.land, 1) := by decide +kernel
theorem dX3_power_24 : decode cX3_power 24 = .ok (.goto 24, 3) := by decide +kernel
theorem dX3_power_27 : decode cX3_power 27 = .ok (.aload_n 0, 1) := by decide +kernel
theorem dX3_power_28 : decode cX3_power 28 = .ok (.getfield 20, 3) := by decide +kernel
theorem dX3_power_31 : decode cX3_power 31 = .ok (.iload_n 1, 1) := by decide +kernel
theorem dX3_power_32 : decode cX3_power 32 = .ok (.laload, 1) := by decide +kernel
theorem dX3_power_33 : decode cX3_power 33 = .ok (.bipush 56, 2) := by decide +kernel
theorem dX3_power_35 : decode cX3_power 35 = .ok (.bipush 8, 2) := by decide +kernel
theorem dX3_power_37 : decode cX3_power 37 = .ok (.iload_n 2, 1) := by decide +kernel
theorem dX3_power_38 : decode cX3_power 38 = .ok (.bipush 8, 2) := by decide +kernel
theorem dX3_power_40 : decode cX3_power 40 = .ok (.isub, 1) := by decide +kernel
theorem dX3_power_41 : decode cX3_power 41 = .ok (.imul, 1) := by decide +kernel
theorem dX3_power_42 : decode cX3_power 42 = .ok (.isub, 1) := by decide +kernel
theorem dX3_power_43 : decode cX3_power 43 = .ok (.lushr, 1) := by decide +kernel
theorem dX3_power_44 : decode cX3_power 44 = .ok (.ldc2_w 55, 3) := by decide +kernel
theorem dX3_power_47 : decode cX3_power 47 = .ok (.land, 1) := by decide +kernel
theorem dX3_power_48 : decode cX3_power 48 = .ok (.l2i, 1) := by decide +kernel
theorem dX3_power_49 : decode cX3_power 49 = .ok (.ireturn, 1) := by decide +kernel
theorem dX3_copy_0 : decode cX3_copy 0 = .ok (.aload_n 0, 1) := by decide +kernel
theorem dX3_copy_1 : decode cX3_copy 1 = .ok (.getfield 9, 3) := by decide +kernel
theorem dX3_copy_4 : decode cX3_copy 4 = .ok (.iload_n 2, 1) := by decide +kernel
theorem dX3_copy_5 : decode cX3_copy 5 = .ok (.aload_n 0, 1) := by decide +kernel
theorem dX3_copy_6 : decode cX3_copy 6 = .ok (.getfield 9, 3) := by decide +kernel
theorem dX3_copy_9 : decode cX3_copy 9 = .ok (.iload_n 1, 1) := by decide +kernel
theorem dX3_copy_10 : decode cX3_copy 10 = .ok (.iaload, 1) := by decide +kernel
theorem dX3_copy_11 : decode cX3_copy 11 = .ok (.iastore, 1) := by decide +kernel
theorem dX3_copy_12 : decode cX3_copy 12 = .ok (.iconst 0, 1) := by decide +kernel
theorem dX3_copy_13 : decode cX3_copy 13 = .ok (.istore_n 3, 1) := by decide +kernel
theorem dX3_copy_14 : decode cX3_copy 14 = .ok (.iload_n 3, 1) := by decide +kernel
theorem dX3_copy_15 : decode cX3_copy 15 = .ok (.aload_n 0, 1) := by decide +kernel
theorem dX3_copy_16 : decode cX3_copy 16 = .ok (.getfield 9, 3) := by decide +kernel
theorem dX3_copy_19 : decode cX3_copy 19 = .ok (.iload_n 1, 1) := by decide +kernel
theorem dX3_copy_20 : decode cX3_copy 20 = .ok (.iaload, 1) := by decide +kernel
theorem dX3_copy_21 : decode cX3_copy 21 = .ok (.if_icmp .ge 75, 3) := by decide +kernel
theorem dX3_copy_24 : decode cX3_copy 24 = .ok (.aload_n 0, 1) := by decide +kernel
theorem dX3_copy_25 : decode cX3_copy 25 = .ok (.getfield 13, 3) := by decide +kernel
theorem dX3_copy_28 : decode cX3_copy 28 = .ok (.bipush 60, 2) := by decide +kernel
theorem dX3_copy_30 : decode cX3_copy 30 = .ok (.iload_n 2, 1) := by decide +kernel
theorem dX3_copy_31 : decode cX3_copy 31 = .ok (.imul, 1) := by decide +kernel
theorem dX3_copy_32 : decode cX3_copy 32 = .ok (.iload_n 3, 1) := by decide +kernel
theorem dX3_copy_33 : decode cX3_copy 33 = .ok (.iadd, 1) := by decide +kernel
theorem dX3_copy_34 : decode cX3_copy 34 = .ok (.aload_n 0, 1) := by decide +kernel
theorem dX3_copy_35 : decode cX3_copy 35 = .ok (.getfield 13, 3) := by decide +kernel
theorem dX3_copy_38 : decode cX3_copy 38 = .ok (.bipush 60, 2) := by decide +kernel
theorem dX3_copy_40 : decode cX3_copy 40 = .ok (.iload_n 1, 1) := by decide +kernel
theorem dX3_copy_41 : decode cX3_copy 41 = .ok (.imul, 1) := by decide +kernel
theorem dX3_copy_42 : decode cX3_copy 42 = .ok (.iload_n 3, 1) := by decide +kernel
theorem dX3_copy_43 : decode cX3_copy 43 = .ok (.iadd, 1) := by decide +kernel
theorem dX3_copy_44 : decode cX3_copy 44 = .ok (.laload, 1) := by decide +kernel
theorem dX3_copy_45 : decode cX3_copy 45 = .ok (.lastore, 1) := by decide +kernel
theorem dX3_copy_46 : decode cX3_copy 46 = .ok (.aload_n 0, 1) := by decide +kernel
theorem dX3_copy_47 : decode cX3_copy 47 = .ok (.getfield 17, 3) := by decide +kernel
theorem dX3_copy_50 : decode cX3_copy 50 = .ok (.bipush 60, 2) := by decide +kernel
theorem dX3_copy_52 : decode cX3_copy 52 = .ok (.iload_n 2, 1) := by decide +kernel
theorem dX3_copy_53 : decode cX3_copy 53 = .ok (.imul, 1) := by decide +kernel
theorem dX3_copy_54 : decode cX3_copy 54 = .ok (.iload_n 3, 1) := by decide +kernel
theorem dX3_copy_55 : decode cX3_copy 55 = .ok (.iadd, 1) := by decide +kernel
theorem dX3_copy_56 : decode cX3_copy 56 = .ok (.aload_n 0, 1) := by decide +kernel
theorem dX3_copy_57 : decode cX3_copy 57 = .ok (.getfield 17, 3) := by decide +kernel
theorem dX3_copy_60 : decode cX3_copy 60 = .ok (.bipush 60, 2) := by decide +kernel
theorem dX3_copy_62 : decode cX3_copy 62 = .ok (.iload_n 1, 1) := by decide +kernel
theorem dX3_copy_63 : decode cX3_copy 63 = .ok (.imul, 1) := by decide +kernel
theorem dX3_copy_64 : decode cX3_copy 64 = .ok (.iload_n 3, 1) := by decide +kernel
theorem dX3_copy_65 : decode cX3_copy 65 = .ok (.iadd, 1) := by decide +kernel
theorem dX3_copy_66 : decode cX3_copy 66 = .ok (.laload, 1) := by decide +kernel
theorem dX3_copy_67 : decode cX3_copy 67 = .ok (.lastore, 1) := by decide +kernel
theorem dX3_copy_68 : decode cX3_copy 68 = .ok (.aload_n 0, 1) := by decide +kernel
theorem dX3_copy_69 : decode cX3_copy 69 = .ok (.getfield 20, 3) := by decide +kernel
theorem dX3_copy_72 : decode cX3_copy 72 = .ok (.bipush 60, 2) := by decide +kernel
theorem dX3_copy_74 : decode cX3_copy 74 = .ok (.iload_n 2, 1) := by decide +kernel
theorem dX3_copy_75 : decode cX3_copy 75 = .ok (.imul, 1) := by decide +kernel
theorem dX3_copy_76 : decode cX3_copy 76 = .ok (.iload_n 3, 1) := by decide +kernel
theorem dX3_copy_77 : decode cX3_copy 77 = .ok (.iadd, 1) := by decide +kernel
theorem dX3_copy_78 : decode cX3_copy 78 = .ok (.aload_n 0, 1) := by decide +kernel
theorem dX3_copy_79 : decode cX3_copy 79 = .ok (.getfield 20, 3) := by decide +kernel
theorem dX3_copy_82 : decode cX3_copy 82 = .ok (.bipush 60, 2) := by decide +kernel
theorem dX3_copy_84 : decode cX3_copy 84 = .ok (.iload_n 1, 1) := by decide +kernel
theorem dX3_copy_85 : decode cX3_copy 85 = .ok (.imul, 1) := by decide +kernel
theorem dX3_copy_86 : decode cX3_copy 86 = .ok (.iload_n 3, 1) := by decide +kernel
theorem dX3_copy_87 : decode cX3_copy 87 = .ok (.iadd, 1) := by decide +kernel
theorem dX3_copy_88 : decode cX3_copy 88 = .ok (.laload, 1) := by decide +kernel
theorem dX3_copy_89 : decode cX3_copy 89 = .ok (.lastore, 1) := by decide +kernel
theorem dX3_copy_90 : decode cX3_copy 90 = .ok (.iinc 3 1, 3) := by decide +kernel
theorem dX3_copy_93 : decode cX3_copy 93 = .ok (.goto (-79), 3) := by decide +kernel
theorem dX3_copy_96 : decode cX3_copy 96 = .ok (.return_, 1) := by decide +kernel
theorem dX3_is_0 : decode cX3_is 0 = .ok (.iload_n 0, 1) := by decide +kernel
theorem dX3_is_1 : decode cX3_is 1 = .ok (.ifCond .lt 13, 3) := by decide +kernel
theorem dX3_is_4 : decode cX3_is 4 = .ok (.iload_n 0, 1) := by decide +kernel
theorem dX3_is_5 : decode cX3_is 5 = .ok (.bipush 16, 2) := by decide +kernel
theorem dX3_is_7 : decode cX3_is 7 = .ok (.if_icmp .ge 7, 3) := by decide +kernel
theorem dX3_is_10 : decode cX3_is 10 = .ok (.iconst 1, 1) := by decide +kernel
theorem dX3_is_11 : decode cX3_is 11 = .ok (.goto 4, 3) := by decide +kernel
theorem dX3_is_14 : decode cX3_is 14 = .ok (.iconst 0, 1) := by decide +kernel
theorem dX3_is_15 : decode cX3_is 15 = .ok (.ireturn, 1) := by decide +kernel
theorem dX3_constant_0 : decode cX3_constant 0 = .ok (.iload_n 1, 1) := by decide +kernel
theorem dX3_constant_1 : decode cX3_constant 1 = .ok (.invokestatic 94, 3) := by decide +kernel
theorem dX3_constant_4 : decode cX3_constant 4 = .ok (.ifCond .ne 5, 3) := by decide +kernel
theorem dX3_constant_7 : decode cX3_constant 7 = .ok (.iconst (-1), 1) := by decide +kernel
theorem dX3_constant_8 : decode cX3_constant 8 = .ok (.ireturn, 1) := by decide +kernel
theorem dX3_constant_9 : decode cX3_constant 9 = .ok (.aload_n 0, 1) := by decide +kernel
theorem dX3_constant_10 : decode cX3_constant 10 = .ok (.iload_n 1, 1) := by decide +kernel
theorem dX3_constant_11 : decode cX3_constant 11 = .ok (.iload_n 2, 1) := by decide +kernel
theorem dX3_constant_12 : decode cX3_constant 12 = .ok (.i2l, 1) := by decide +kernel
theorem dX3_constant_13 : decode cX3_constant 13 = .ok (.invokevirtual 97, 3) := by decide +kernel
theorem dX3_constant_16 : decode cX3_constant 16 = .ok (.ifCond .eq 12, 3) := by decide +kernel
theorem dX3_constant_19 : decode cX3_constant 19 = .ok (.aload_n 0, 1) := by decide +kernel
theorem dX3_constant_20 : decode cX3_constant 20 = .ok (.getfield 9, 3) := by decide +kernel
theorem dX3_constant_23 : decode cX3_constant 23 = .ok (.iload_n 1, 1) := by decide +kernel
theorem dX3_constant_24 : decode cX3_constant 24 = .ok (.iaload, 1) := by decide +kernel
theorem dX3_constant_25 : decode cX3_constant 25 = .ok (.goto 5, 3) := by decide +kernel
theorem dX3_constant_28 : decode cX3_constant 28 = .ok (.bipush (-2), 2) := by decide +kernel
theorem dX3_constant_30 : decode cX3_constant 30 = .ok (.ireturn, 1) := by decide +kernel
theorem dX3_symbol_0 : decode cX3_symbol 0 = .ok (.iload_n 1, 1) := by decide +kernel
theorem dX3_symbol_1 : decode cX3_symbol 1 = .ok (.invokestatic 94, 3) := by decide +kernel
theorem dX3_symbol_4 : decode cX3_symbol 4 = .ok (.ifCond .eq 10, 3) := by decide +kernel
theorem dX3_symbol_7 : decode cX3_symbol 7 = .ok (.iload_n 2, 1) := by decide +kernel
theorem dX3_symbol_8 : decode cX3_symbol 8 = .ok (.invokestatic 94, 3) := by decide +kernel
theorem dX3_symbol_11 : decode cX3_symbol 11 = .ok (.ifCond .ne 5, 3) := by decide +kernel
theorem dX3_symbol_14 : decode cX3_symbol 14 = .ok (.iconst (-1), 1) := by decide +kernel
theorem dX3_symbol_15 : decode cX3_symbol 15 = .ok (.ireturn, 1) := by decide +kernel
theorem dX3_symbol_16 : decode cX3_symbol 16 = .ok (.aload_n 0, 1) := by decide +kernel
theorem dX3_symbol_17 : decode cX3_symbol 17 = .ok (.invokevirtual 79, 3) := by decide +kernel
theorem dX3_symbol_20 : decode cX3_symbol 20 = .ok (.aload_n 0, 1) := by decide +kernel
theorem dX3_symbol_21 : decode cX3_symbol 21 = .ok (.lconst 1, 1) := by decide +kernel
theorem dX3_symbol_22 : decode cX3_symbol 22 = .ok (.iload_n 2, 1) := by decide +kernel
theorem dX3_symbol_23 : decode cX3_symbol 23 = .ok (.bipush 8, 2) := by decide +kernel
theorem dX3_symbol_25 : decode cX3_symbol 25 = .ok (.if_icmp .ge 15, 3) := by decide +kernel
theorem dX3_symbol_28 : decode cX3_symbol 28 = .ok (.lconst 1, 1) := by decide +kernel
theorem dX3_symbol_29 : decode cX3_symbol 29 = .ok (.bipush 56, 2) := by decide +kernel
theorem dX3_symbol_31 : decode cX3_symbol 31 = .ok (.bipush 8, 2) := by decide +kernel
theorem dX3_symbol_33 : decode cX3_symbol 33 = .ok (.iload_n 2, 1) := by decide +kernel
theorem dX3_symbol_34 : decode cX3_symbol 34 = .ok (.imul, 1) := by decide +kernel
theorem dX3_symbol_35 : decode cX3_symbol 35 = .ok (.isub, 1) := by decide +kernel
theorem dX3_symbol_36 : decode cX3_symbol 36 = .ok (.lshl, 1) := by decide +kernel
theorem dX3_symbol_37 : decode cX3_symbol 37 = .ok (.goto 4, 3) := by decide +kernel
theorem dX3_symbol_40 : decode cX3_symbol 40 = .ok (.lconst 0, 1) := by decide +kernel
theorem dX3_symbol_41 : decode cX3_symbol 41 = .ok (.iload_n 2, 1) := by decide +kernel
theorem dX3_symbol_42 : decode cX3_symbol 42 = .ok (.bipush 8, 2) := by decide +kernel
theorem dX3_symbol_44 : decode cX3_symbol 44 = .ok (.if_icmp .ge 7, 3) := by decide +kernel
theorem dX3_symbol_47 : decode cX3_symbol 47 = .ok (.lconst 0, 1) := by decide +kernel
theorem dX3_symbol_48 : decode cX3_symbol 48 = .ok (.goto 15, 3) := by decide +kernel
theorem dX3_symbol_51 : decode cX3_symbol 51 = .ok (.lconst 1, 1) := by decide +kernel
theorem dX3_symbol_52 : decode cX3_symbol 52 = .ok (.bipush 56, 2) := by decide +kernel
theorem dX3_symbol_54 : decode cX3_symbol 54 = .ok (.bipush 8, 2) := by decide +kernel
theorem dX3_symbol_56 : decode cX3_symbol 56 = .ok (.iload_n 2, 1) := by decide +kernel
theorem dX3_symbol_57 : decode cX3_symbol 57 = .ok (.bipush 8, 2) := by decide +kernel
theorem dX3_symbol_59 : decode cX3_symbol 59 = .ok (.isub, 1) := by decide +kernel
theorem dX3_symbol_60 : decode cX3_symbol 60 = .ok (.imul, 1) := by decide +kernel
theorem dX3_symbol_61 : decode cX3_symbol 61 = .ok (.isub, 1) := by decide +kernel
theorem dX3_symbol_62 : decode cX3_symbol 62 = .ok (.lshl, 1) := by decide +kernel
theorem dX3_symbol_63 : decode cX3_symbol 63 = .ok (.invokevirtual 75, 3) := by decide +kernel
theorem dX3_symbol_66 : decode cX3_symbol 66 = .ok (.aload_n 0, 1) := by decide +kernel
theorem dX3_symbol_67 : decode cX3_symbol 67 = .ok (.iload_n 1, 1) := by decide +kernel
theorem dX3_symbol_68 : decode cX3_symbol 68 = .ok (.invokevirtual 86, 3) := by decide +kernel
theorem dX3_symbol_71 : decode cX3_symbol 71 = .ok (.pop, 1) := by decide +kernel
theorem dX3_symbol_72 : decode cX3_symbol 72 = .ok (.iconst 1, 1) := by decide +kernel
theorem dX3_symbol_73 : decode cX3_symbol 73 = .ok (.ireturn, 1) := by decide +kernel
theorem dX3_plus_0 : decode cX3_plus 0 = .ok (.iload_n 1, 1) := by decide +kernel
theorem dX3_plus_1 : decode cX3_plus 1 = .ok (.invokestatic 94, 3) := by decide +kernel
theorem dX3_plus_4 : decode cX3_plus 4 = .ok (.ifCond .eq 17, 3) := by decide +kernel
theorem dX3_plus_7 : decode cX3_plus 7 = .ok (.iload_n 2, 1) := by decide +kernel
theorem dX3_plus_8 : decode cX3_plus 8 = .ok (.invokestatic 94, 3) := by decide +kernel
theorem dX3_plus_11 : decode cX3_plus 11 = .ok (.ifCond .eq 10, 3) := by decide +kernel
theorem dX3_plus_14 : decode cX3_plus 14 = .ok (.iload_n 3, 1) := by decide +kernel
theorem dX3_plus_15 : decode cX3_plus 15 = .ok (.invokestatic 94, 3) := by decide +kernel
theorem dX3_plus_18 : decode cX3_plus 18 = .ok (.ifCond .ne 5, 3) := by decide +kernel
theorem dX3_plus_21 : decode cX3_plus 21 = .ok (.iconst (-1), 1) := by decide +kernel
theorem dX3_plus_22 : decode cX3_plus 22 = .ok (.ireturn, 1) := by decide +kernel
theorem dX3_plus_23 : decode cX3_plus 23 = .ok (.aload_n 0, 1) := by decide +kernel
theorem dX3_plus_24 : decode cX3_plus 24 = .ok (.iload_n 1, 1) := by decide +kernel
theorem dX3_plus_25 : decode cX3_plus 25 = .ok (.iload_n 2, 1) := by decide +kernel
theorem dX3_plus_26 : decode cX3_plus 26 = .ok (.iload_n 3, 1) := by decide +kernel
theorem dX3_plus_27 : decode cX3_plus 27 = .ok (.lconst 1, 1) := by decide +kernel
theorem dX3_plus_28 : decode cX3_plus 28 = .ok (.invokevirtual 101, 3) := by decide +kernel
theorem dX3_plus_31 : decode cX3_plus 31 = .ok (.ifCond .eq 12, 3) := by decide +kernel
theorem dX3_plus_34 : decode cX3_plus 34 = .ok (.aload_n 0, 1) := by decide +kernel
theorem dX3_plus_35 : decode cX3_plus 35 = .ok (.getfield 9, 3) := by decide +kernel
theorem dX3_plus_38 : decode cX3_plus 38 = .ok (.iload_n 1, 1) := by decide +kernel
theorem dX3_plus_39 : decode cX3_plus 39 = .ok (.iaload, 1) := by decide +kernel
theorem dX3_plus_40 : decode cX3_plus 40 = .ok (.goto 5, 3) := by decide +kernel
theorem dX3_plus_43 : decode cX3_plus 43 = .ok (.bipush (-2), 2) := by decide +kernel
theorem dX3_plus_45 : decode cX3_plus 45 = .ok (.ireturn, 1) := by decide +kernel
theorem dX3_minus_0 : decode cX3_minus 0 = .ok (.iload_n 1, 1) := by decide +kernel
theorem dX3_minus_1 : decode cX3_minus 1 = .ok (.invokestatic 94, 3) := by decide +kernel
theorem dX3_minus_4 : decode cX3_minus 4 = .ok (.ifCond .eq 17, 3) := by decide +kernel
theorem dX3_minus_7 : decode cX3_minus 7 = .ok (.iload_n 2, 1) := by decide +kernel
theorem dX3_minus_8 : decode cX3_minus 8 = .ok (.invokestatic 94, 3) := by decide +kernel
theorem dX3_minus_11 : decode cX3_minus 11 = .ok (.ifCond .eq 10, 3) := by decide +kernel
theorem dX3_minus_14 : decode cX3_minus 14 = .ok (.iload_n 3, 1) := by decide +kernel
theorem dX3_minus_15 : decode cX3_minus 15 = .ok (.invokestatic 94, 3) := by decide +kernel
theorem dX3_minus_18 : decode cX3_minus 18 = .ok (.ifCond .ne 5, 3) := by decide +kernel
theorem dX3_minus_21 : decode cX3_minus 21 = .ok (.iconst (-1), 1) := by decide +kernel
theorem dX3_minus_22 : decode cX3_minus 22 = .ok (.ireturn, 1) := by decide +kernel
theorem dX3_minus_23 : decode cX3_minus 23 = .ok (.aload_n 0, 1) := by decide +kernel
theorem dX3_minus_24 : decode cX3_minus 24 = .ok (.iload_n 1, 1) := by decide +kernel
theorem dX3_minus_25 : decode cX3_minus 25 = .ok (.iload_n 2, 1) := by decide +kernel
theorem dX3_minus_26 : decode cX3_minus 26 = .ok (.iload_n 3, 1) := by decide +kernel
theorem dX3_minus_27 : decode cX3_minus 27 = .ok (.ldc2_w 105, 3) := by decide +kernel
theorem dX3_minus_30 : decode cX3_minus 30 = .ok (.invokevirtual 101, 3) := by decide +kernel
theorem dX3_minus_33 : decode cX3_minus 33 = .ok (.ifCond .eq 12, 3) := by decide +kernel
theorem dX3_minus_36 : decode cX3_minus 36 = .ok (.aload_n 0, 1) := by decide +kernel
theorem dX3_minus_37 : decode cX3_minus 37 = .ok (.getfield 9, 3) := by decide +kernel
theorem dX3_minus_40 : decode cX3_minus 40 = .ok (.iload_n 1, 1) := by decide +kernel
theorem dX3_minus_41 : decode cX3_minus 41 = .ok (.iaload, 1) := by decide +kernel
theorem dX3_minus_42 : decode cX3_minus 42 = .ok (.goto 5, 3) := by decide +kernel
theorem dX3_minus_45 : decode cX3_minus 45 = .ok (.bipush (-2), 2) := by decide +kernel
theorem dX3_minus_47 : decode cX3_minus 47 = .ok (.ireturn, 1) := by decide +kernel
theorem dX3_times_0 : decode cX3_times 0 = .ok (.iload_n 1, 1) := by decide +kernel
theorem dX3_times_1 : decode cX3_times 1 = .ok (.invokestatic 94, 3) := by decide +kernel
theorem dX3_times_4 : decode cX3_times 4 = .ok (.ifCond .eq 17, 3) := by decide +kernel
theorem dX3_times_7 : decode cX3_times 7 = .ok (.iload_n 2, 1) := by decide +kernel
theorem dX3_times_8 : decode cX3_times 8 = .ok (.invokestatic 94, 3) := by decide +kernel
theorem dX3_times_11 : decode cX3_times 11 = .ok (.ifCond .eq 10, 3) := by decide +kernel
theorem dX3_times_14 : decode cX3_times 14 = .ok (.iload_n 3, 1) := by decide +kernel
theorem dX3_times_15 : decode cX3_times 15 = .ok (.invokestatic 94, 3) := by decide +kernel
theorem dX3_times_18 : decode cX3_times 18 = .ok (.ifCond .ne 5, 3) := by decide +kernel
theorem dX3_times_21 : decode cX3_times 21 = .ok (.iconst (-1), 1) := by decide +kernel
theorem dX3_times_22 : decode cX3_times 22 = .ok (.ireturn, 1) := by decide +kernel
theorem dX3_times_23 : decode cX3_times 23 = .ok (.aload_n 0, 1) := by decide +kernel
theorem dX3_times_24 : decode cX3_times 24 = .ok (.iload_n 1, 1) := by decide +kernel
theorem dX3_times_25 : decode cX3_times 25 = .ok (.iload_n 2, 1) := by decide +kernel
theorem dX3_times_26 : decode cX3_times 26 = .ok (.iload_n 3, 1) := by decide +kernel
theorem dX3_times_27 : decode cX3_times 27 = .ok (.invokevirtual 107, 3) := by decide +kernel
theorem dX3_times_30 : decode cX3_times 30 = .ok (.ifCond .eq 12, 3) := by decide +kernel
theorem dX3_times_33 : decode cX3_times 33 = .ok (.aload_n 0, 1) := by decide +kernel
theorem dX3_times_34 : decode cX3_times 34 = .ok (.getfield 9, 3) := by decide +kernel
theorem dX3_times_37 : decode cX3_times 37 = .ok (.iload_n 1, 1) := by decide +kernel
theorem dX3_times_38 : decode cX3_times 38 = .ok (.iaload, 1) := by decide +kernel
theorem dX3_times_39 : decode cX3_times 39 = .ok (.goto 5, 3) := by decide +kernel
theorem dX3_times_42 : decode cX3_times 42 = .ok (.bipush (-2), 2) := by decide +kernel
theorem dX3_times_44 : decode cX3_times 44 = .ok (.ireturn, 1) := by decide +kernel
theorem dX3_put_0 : decode cX3_put 0 = .ok (.iload_n 1, 1) := by decide +kernel
theorem dX3_put_1 : decode cX3_put 1 = .ok (.invokestatic 94, 3) := by decide +kernel
theorem dX3_put_4 : decode cX3_put 4 = .ok (.ifCond .eq 10, 3) := by decide +kernel
theorem dX3_put_7 : decode cX3_put 7 = .ok (.iload_n 2, 1) := by decide +kernel
theorem dX3_put_8 : decode cX3_put 8 = .ok (.invokestatic 94, 3) := by decide +kernel
theorem dX3_put_11 : decode cX3_put 11 = .ok (.ifCond .ne 5, 3) := by decide +kernel
theorem dX3_put_14 : decode cX3_put 14 = .ok (.iconst (-1), 1) := by decide +kernel
theorem dX3_put_15 : decode cX3_put 15 = .ok (.ireturn, 1) := by decide +kernel
theorem dX3_put_16 : decode cX3_put 16 = .ok (.aload_n 0, 1) := by decide +kernel
theorem dX3_put_17 : decode cX3_put 17 = .ok (.getfield 9, 3) := by decide +kernel
theorem dX3_put_20 : decode cX3_put 20 = .ok (.bipush 56, 2) := by decide +kernel
theorem dX3_put_22 : decode cX3_put 22 = .ok (.iconst 0, 1) := by decide +kernel
theorem dX3_put_23 : decode cX3_put 23 = .ok (.iastore, 1) := by decide +kernel
theorem dX3_put_24 : decode cX3_put 24 = .ok (.bipush 60, 2) := by decide +kernel
theorem dX3_put_26 : decode cX3_put 26 = .ok (.iload_n 2, 1) := by decide +kernel
theorem dX3_put_27 : decode cX3_put 27 = .ok (.imul, 1) := by decide +kernel
theorem dX3_put_28 : decode cX3_put 28 = .ok (.istore_n 3, 1) := by decide +kernel
theorem dX3_put_29 : decode cX3_put 29 = .ok (.iload_n 3, 1) := by decide +kernel
theorem dX3_put_30 : decode cX3_put 30 = .ok (.bipush 60, 2) := by decide +kernel
theorem dX3_put_32 : decode cX3_put 32 = .ok (.iload_n 2, 1) := by decide +kernel
theorem dX3_put_33 : decode cX3_put 33 = .ok (.imul, 1) := by decide +kernel
theorem dX3_put_34 : decode cX3_put 34 = .ok (.aload_n 0, 1) := by decide +kernel
theorem dX3_put_35 : decode cX3_put 35 = .ok (.getfield 9, 3) := by decide +kernel
theorem dX3_put_38 : decode cX3_put 38 = .ok (.iload_n 2, 1) := by decide +kernel
theorem dX3_put_39 : decode cX3_put 39 = .ok (.iaload, 1) := by decide +kernel
theorem dX3_put_40 : decode cX3_put 40 = .ok (.iadd, 1) := by decide +kernel
theorem dX3_put_41 : decode cX3_put 41 = .ok (.if_icmp .ge 99, 3) := by decide +kernel
theorem dX3_put_44 : decode cX3_put 44 = .ok (.aload_n 0, 1) := by decide +kernel
theorem dX3_put_45 : decode cX3_put 45 = .ok (.bipush 57, 2) := by decide +kernel
theorem dX3_put_47 : decode cX3_put 47 = .ok (.aload_n 0, 1) := by decide +kernel
theorem dX3_put_48 : decode cX3_put 48 = .ok (.getfield 13, 3) := by decide +kernel
theorem dX3_put_51 : decode cX3_put 51 = .ok (.iload_n 3, 1) := by decide +kernel
theorem dX3_put_52 : decode cX3_put 52 = .ok (.laload, 1) := by decide +kernel
theorem dX3_put_53 : decode cX3_put 53 = .ok (.invokevirtual 97, 3) := by decide +kernel
theorem dX3_put_56 : decode cX3_put 56 = .ok (.istore 4, 2) := by decide +kernel
theorem dX3_put_58 : decode cX3_put 58 = .ok (.iconst 0, 1) := by decide +kernel
theorem dX3_put_59 : decode cX3_put 59 = .ok (.istore 5, 2) := by decide +kernel
theorem dX3_put_61 : decode cX3_put 61 = .ok (.iload 5, 2) := by decide +kernel
theorem dX3_put_63 : decode cX3_put 63 = .ok (.bipush 16, 2) := by decide +kernel
theorem dX3_put_65 : decode cX3_put 65 = .ok (.if_icmp .ge 47, 3) := by decide +kernel
theorem dX3_put_68 : decode cX3_put 68 = .ok (.iconst 0, 1) := by decide +kernel
theorem dX3_put_69 : decode cX3_put 69 = .ok (.istore 6, 2) := by decide +kernel
theorem dX3_put_71 : decode cX3_put 71 = .ok (.iload 6, 2) := by decide +kernel
theorem dX3_put_73 : decode cX3_put 73 = .ok (.aload_n 0, 1) := by decide +kernel
theorem dX3_put_74 : decode cX3_put 74 = .ok (.iload_n 3, 1) := by decide +kernel
theorem dX3_put_75 : decode cX3_put 75 = .ok (.iload 5, 2) := by decide +kernel
theorem dX3_put_77 : decode cX3_put 77 = .ok (.invokevirtual 111, 3) := by decide +kernel
theorem dX3_put_80 : decode cX3_put 80 = .ok (.if_icmp .ge 26, 3) := by decide +kernel
theorem dX3_put_83 : decode cX3_put 83 = .ok (.iload 4, 2) := by decide +kernel
theorem dX3_put_85 : decode cX3_put 85 = .ok (.ifCond .eq 21, 3) := by decide +kernel
theorem dX3_put_88 : decode cX3_put 88 = .ok (.aload_n 0, 1) := by decide +kernel
theorem dX3_put_89 : decode cX3_put 89 = .ok (.bipush 57, 2) := by decide +kernel
theorem dX3_put_91 : decode cX3_put 91 = .ok (.bipush 57, 2) := by decide +kernel
theorem dX3_put_93 : decode cX3_put 93 = .ok (.iload 5, 2) := by decide +kernel
theorem dX3_put_95 : decode cX3_put 95 = .ok (.invokevirtual 107, 3) := by decide +kernel
theorem dX3_put_98 : decode cX3_put 98 = .ok (.istore 4, 2) := by decide +kernel
theorem dX3_put_100 : decode cX3_put 100 = .ok (.iinc 6 1, 3) := by decide +kernel
theorem dX3_put_103 : decode cX3_put 103 = .ok (.goto (-32), 3) := by decide +kernel
theorem dX3_put_106 : decode cX3_put 106 = .ok (.iinc 5 1, 3) := by decide +kernel
theorem dX3_put_109 : decode cX3_put 109 = .ok (.goto (-48), 3) := by decide +kernel
theorem dX3_put_112 : decode cX3_put 112 = .ok (.iload 4, 2) := by decide +kernel
theorem dX3_put_114 : decode cX3_put 114 = .ok (.ifCond .eq 17, 3) := by decide +kernel
theorem dX3_put_117 : decode cX3_put 117 = .ok (.aload_n 0, 1) := by decide +kernel
theorem dX3_put_118 : decode cX3_put 118 = .ok (.bipush 56, 2) := by decide +kernel
theorem dX3_put_120 : decode cX3_put 120 = .ok (.bipush 56, 2) := by decide +kernel
theorem dX3_put_122 : decode cX3_put 122 = .ok (.bipush 57, 2) := by decide +kernel
theorem dX3_put_124 : decode cX3_put 124 = .ok (.lconst 1, 1) := by decide +kernel
theorem dX3_put_125 : decode cX3_put 125 = .ok (.invokevirtual 101, 3) := by decide +kernel
theorem dX3_put_128 : decode cX3_put 128 = .ok (.ifCond .ne 6, 3) := by decide +kernel
theorem dX3_put_131 : decode cX3_put 131 = .ok (.bipush (-2), 2) := by decide +kernel
theorem dX3_put_133 : decode cX3_put 133 = .ok (.ireturn, 1) := by decide +kernel
theorem dX3_put_134 : decode cX3_put 134 = .ok (.iinc 3 1, 3) := by decide +kernel
theorem dX3_put_137 : decode cX3_put 137 = .ok (.goto (-108), 3) := by decide +kernel
theorem dX3_put_140 : decode cX3_put 140 = .ok (.aload_n 0, 1) := by decide +kernel
theorem dX3_put_141 : decode cX3_put 141 = .ok (.bipush 56, 2) := by decide +kernel
theorem dX3_put_143 : decode cX3_put 143 = .ok (.iload_n 1, 1) := by decide +kernel
theorem dX3_put_144 : decode cX3_put 144 = .ok (.invokevirtual 115, 3) := by decide +kernel
theorem dX3_put_147 : decode cX3_put 147 = .ok (.aload_n 0, 1) := by decide +kernel
theorem dX3_put_148 : decode cX3_put 148 = .ok (.getfield 9, 3) := by decide +kernel
theorem dX3_put_151 : decode cX3_put 151 = .ok (.iload_n 1, 1) := by decide +kernel
theorem dX3_put_152 : decode cX3_put 152 = .ok (.iaload, 1) := by decide +kernel
theorem dX3_put_153 : decode cX3_put 153 = .ok (.ireturn, 1) := by decide +kernel
theorem dX3_size_0 : decode cX3_size 0 = .ok (.iload_n 1, 1) := by decide +kernel
theorem dX3_size_1 : decode cX3_size 1 = .ok (.invokestatic 94, 3) := by decide +kernel
theorem dX3_size_4 : decode cX3_size 4 = .ok (.ifCond .eq 12, 3) := by decide +kernel
theorem dX3_size_7 : decode cX3_size 7 = .ok (.aload_n 0, 1) := by decide +kernel
theorem dX3_size_8 : decode cX3_size 8 = .ok (.getfield 9, 3) := by decide +kernel
theorem dX3_size_11 : decode cX3_size 11 = .ok (.iload_n 1, 1) := by decide +kernel
theorem dX3_size_12 : decode cX3_size 12 = .ok (.iaload, 1) := by decide +kernel
theorem dX3_size_13 : decode cX3_size 13 = .ok (.goto 4, 3) := by decide +kernel
theorem dX3_size_16 : decode cX3_size 16 = .ok (.iconst (-1), 1) := by decide +kernel
theorem dX3_size_17 : decode cX3_size 17 = .ok (.ireturn, 1) := by decide +kernel
theorem dX3_term_0 : decode cX3_term 0 = .ok (.iload_n 1, 1) := by decide +kernel
theorem dX3_term_1 : decode cX3_term 1 = .ok (.invokestatic 94, 3) := by decide +kernel
theorem dX3_term_4 : decode cX3_term 4 = .ok (.ifCond .eq 28, 3) := by decide +kernel
theorem dX3_term_7 : decode cX3_term 7 = .ok (.iload_n 2, 1) := by decide +kernel
theorem dX3_term_8 : decode cX3_term 8 = .ok (.ifCond .lt 24, 3) := by decide +kernel
theorem dX3_term_11 : decode cX3_term 11 = .ok (.iload_n 2, 1) := by decide +kernel
theorem dX3_term_12 : decode cX3_term 12 = .ok (.aload_n 0, 1) := by decide +kernel
theorem dX3_term_13 : decode cX3_term 13 = .ok (.getfield 9, 3) := by decide +kernel
theorem dX3_term_16 : decode cX3_term 16 = .ok (.iload_n 1, 1) := by decide +kernel
theorem dX3_term_17 : decode cX3_term 17 = .ok (.iaload, 1) := by decide +kernel
theorem dX3_term_18 : decode cX3_term 18 = .ok (.if_icmp .ge 14, 3) := by decide +kernel
theorem dX3_term_21 : decode cX3_term 21 = .ok (.iload_n 3, 1) := by decide +kernel
theorem dX3_term_22 : decode cX3_term 22 = .ok (.iconst (-1), 1) := by decide +kernel
theorem dX3_term_23 : decode cX3_term 23 = .ok (.if_icmp .lt 9, 3) := by decide +kernel
theorem dX3_term_26 : decode cX3_term 26 = .ok (.iload_n 3, 1) := by decide +kernel
theorem dX3_term_27 : decode cX3_term 27 = .ok (.bipush 15, 2) := by decide +kernel
theorem dX3_term_29 : decode cX3_term 29 = .ok (.if_icmp .le 5, 3) := by decide +kernel
theorem dX3_term_32 : decode cX3_term 32 = .ok (.iconst 0, 1) := by decide +kernel
theorem dX3_term_33 : decode cX3_term 33 = .ok (.ireturn, 1) := by decide +kernel
theorem dX3_term_34 : decode cX3_term 34 = .ok (.iload_n 3, 1) := by decide +kernel
theorem dX3_term_35 : decode cX3_term 35 = .ok (.iconst (-1), 1) := by decide +kernel
theorem dX3_term_36 : decode cX3_term 36 = .ok (.if_icmp .ne 18, 3) := by decide +kernel
theorem dX3_term_39 : decode cX3_term 39 = .ok (.aload_n 0, 1) := by decide +kernel
theorem dX3_term_40 : decode cX3_term 40 = .ok (.getfield 13, 3) := by decide +kernel
theorem dX3_term_43 : decode cX3_term 43 = .ok (.bipush 60, 2) := by decide +kernel
theorem dX3_term_45 : decode cX3_term 45 = .ok (.iload_n 1, 1) := by decide +kernel
theorem dX3_term_46 : decode cX3_term 46 = .ok (.imul, 1) := by decide +kernel
theorem dX3_term_47 : decode cX3_term 47 = .ok (.iload_n 2, 1) := by decide +kernel
theorem dX3_term_48 : decode cX3_term 48 = .ok (.iadd, 1) := by decide +kernel
theorem dX3_term_49 : decode cX3_term 49 = .ok (.laload, 1) := by decide +kernel
theorem dX3_term_50 : decode cX3_term 50 = .ok (.l2i, 1) := by decide +kernel
theorem dX3_term_51 : decode cX3_term 51 = .ok (.goto 14, 3) := by decide +kernel
theorem dX3_term_54 : decode cX3_term 54 = .ok (.aload_n 0, 1) := by decide +kernel
theorem dX3_term_55 : decode cX3_term 55 = .ok (.bipush 60, 2) := by decide +kernel
theorem dX3_term_57 : decode cX3_term 57 = .ok (.iload_n 1, 1) := by decide +kernel
theorem dX3_term_58 : decode cX3_term 58 = .ok (.imul, 1) := by decide +kernel
theorem dX3_term_59 : decode cX3_term 59 = .ok (.iload_n 2, 1) := by decide +kernel
theorem dX3_term_60 : decode cX3_term 60 = .ok (.iadd, 1) := by decide +kernel
theorem dX3_term_61 : decode cX3_term 61 = .ok (.iload_n 3, 1) := by decide +kernel
theorem dX3_term_62 : decode cX3_term 62 = .ok (.invokevirtual 111, 3) := by decide +kernel
theorem dX3_term_65 : decode cX3_term 65 = .ok (.ireturn, 1) := by decide +kernel
theorem dX3_isSame_0 : decode cX3_isSame 0 = .ok (.aload_n 0, 1) := by decide +kernel
theorem dX3_isSame_1 : decode cX3_isSame 1 = .ok (.getfield 9, 3) := by decide +kernel
theorem dX3_isSame_4 : decode cX3_isSame 4 = .ok (.iload_n 1, 1) := by decide +kernel
theorem dX3_isSame_5 : decode cX3_isSame 5 = .ok (.iaload, 1) := by decide +kernel
theorem dX3_isSame_6 : decode cX3_isSame 6 = .ok (.aload_n 0, 1) := by decide +kernel
theorem dX3_isSame_7 : decode cX3_isSame 7 = .ok (.getfield 9, 3) := by decide +kernel
theorem dX3_isSame_10 : decode cX3_isSame 10 = .ok (.iload_n 2, 1) := by decide +kernel
theorem dX3_isSame_11 : decode cX3_isSame 11 = .ok (.iaload, 1) := by decide +kernel
theorem dX3_isSame_12 : decode cX3_isSame 12 = .ok (.if_icmp .ne 7, 3) := by decide +kernel
theorem dX3_isSame_15 : decode cX3_isSame 15 = .ok (.iconst 1, 1) := by decide +kernel
theorem dX3_isSame_16 : decode cX3_isSame 16 = .ok (.goto 4, 3) := by decide +kernel
theorem dX3_isSame_19 : decode cX3_isSame 19 = .ok (.iconst 0, 1) := by decide +kernel
theorem dX3_isSame_20 : decode cX3_isSame 20 = .ok (.istore_n 3, 1) := by decide +kernel
theorem dX3_isSame_21 : decode cX3_isSame 21 = .ok (.iconst 0, 1) := by decide +kernel
theorem dX3_isSame_22 : decode cX3_isSame 22 = .ok (.istore 4, 2) := by decide +kernel
theorem dX3_isSame_24 : decode cX3_isSame 24 = .ok (.iload 4, 2) := by decide +kernel
theorem dX3_isSame_26 : decode cX3_isSame 26 = .ok (.aload_n 0, 1) := by decide +kernel
theorem dX3_isSame_27 : decode cX3_isSame 27 = .ok (.getfield 9, 3) := by decide +kernel
theorem dX3_isSame_30 : decode cX3_isSame 30 = .ok (.iload_n 1, 1) := by decide +kernel
theorem dX3_isSame_31 : decode cX3_isSame 31 = .ok (.iaload, 1) := by decide +kernel
theorem dX3_isSame_32 : decode cX3_isSame 32 = .ok (.if_icmp .ge 91, 3) := by decide +kernel
theorem dX3_isSame_35 : decode cX3_isSame 35 = .ok (.iload_n 3, 1) := by decide +kernel
theorem dX3_isSame_36 : decode cX3_isSame 36 = .ok (.ifCond .eq 87, 3) := by decide +kernel
theorem dX3_isSame_39 : decode cX3_isSame 39 = .ok (.bipush 60, 2) := by decide +kernel
theorem dX3_isSame_41 : decode cX3_isSame 41 = .ok (.iload_n 1, 1) := by decide +kernel
theorem dX3_isSame_42 : decode cX3_isSame 42 = .ok (.imul, 1) := by decide +kernel
theorem dX3_isSame_43 : decode cX3_isSame 43 = .ok (.iload 4, 2) := by decide +kernel
theorem dX3_isSame_45 : decode cX3_isSame 45 = .ok (.iadd, 1) := by decide +kernel
theorem dX3_isSame_46 : decode cX3_isSame 46 = .ok (.istore 5, 2) := by decide +kernel
theorem dX3_isSame_48 : decode cX3_isSame 48 = .ok (.bipush 60, 2) := by decide +kernel
theorem dX3_isSame_50 : decode cX3_isSame 50 = .ok (.iload_n 2, 1) := by decide +kernel
theorem dX3_isSame_51 : decode cX3_isSame 51 = .ok (.imul, 1) := by decide +kernel
theorem dX3_isSame_52 : decode cX3_isSame 52 = .ok (.iload 4, 2) := by decide +kernel
theorem dX3_isSame_54 : decode cX3_isSame 54 = .ok (.iadd, 1) := by decide +kernel
theorem dX3_isSame_55 : decode cX3_isSame 55 = .ok (.istore 6, 2) := by decide +kernel
theorem dX3_isSame_57 : decode cX3_isSame 57 = .ok (.aload_n 0, 1) := by decide +kernel
theorem dX3_isSame_58 : decode cX3_isSame 58 = .ok (.getfield 13, 3) := by decide +kernel
theorem dX3_isSame_61 : decode cX3_isSame 61 = .ok (.iload 5, 2) := by decide +kernel
theorem dX3_isSame_63 : decode cX3_isSame 63 = .ok (.laload, 1) := by decide +kernel
theorem dX3_isSame_64 : decode cX3_isSame 64 = .ok (.aload_n 0, 1) := by decide +kernel
theorem dX3_isSame_65 : decode cX3_isSame 65 = .ok (.getfield 13, 3) := by decide +kernel
theorem dX3_isSame_68 : decode cX3_isSame 68 = .ok (.iload 6, 2) := by decide +kernel
theorem dX3_isSame_70 : decode cX3_isSame 70 = .ok (.laload, 1) := by decide +kernel
theorem dX3_isSame_71 : decode cX3_isSame 71 = .ok (.lcmp, 1) := by decide +kernel
theorem dX3_isSame_72 : decode cX3_isSame 72 = .ok (.ifCond .ne 43, 3) := by decide +kernel
theorem dX3_isSame_75 : decode cX3_isSame 75 = .ok (.aload_n 0, 1) := by decide +kernel
theorem dX3_isSame_76 : decode cX3_isSame 76 = .ok (.getfield 17, 3) := by decide +kernel
theorem dX3_isSame_79 : decode cX3_isSame 79 = .ok (.iload 5, 2) := by decide +kernel
theorem dX3_isSame_81 : decode cX3_isSame 81 = .ok (.laload, 1) := by decide +kernel
theorem dX3_isSame_82 : decode cX3_isSame 82 = .ok (.aload_n 0, 1) := by decide +kernel
theorem dX3_isSame_83 : decode cX3_isSame 83 = .ok (.getfield 17, 3) := by decide +kernel
theorem dX3_isSame_86 : decode cX3_isSame 86 = .ok (.iload 6, 2) := by decide +kernel
theorem dX3_isSame_88 : decode cX3_isSame 88 = .ok (.laload, 1) := by decide +kernel
theorem dX3_isSame_89 : decode cX3_isSame 89 = .ok (.lcmp, 1) := by decide +kernel
theorem dX3_isSame_90 : decode cX3_isSame 90 = .ok (.ifCond .ne 25, 3) := by decide +kernel
theorem dX3_isSame_93 : decode cX3_isSame 93 = .ok (.aload_n 0, 1) := by decide +kernel
theorem dX3_isSame_94 : decode cX3_isSame 94 = .ok (.getfield 20, 3) := by decide +kernel
theorem dX3_isSame_97 : decode cX3_isSame 97 = .ok (.iload 5, 2) := by decide +kernel
theorem dX3_isSame_99 : decode cX3_isSame 99 = .ok (.laload, 1) := by decide +kernel
theorem dX3_isSame_100 : decode cX3_isSame 100 = .ok (.aload_n 0, 1) := by decide +kernel
theorem dX3_isSame_101 : decode cX3_isSame 101 = .ok (.getfield 20, 3) := by decide +kernel
theorem dX3_isSame_104 : decode cX3_isSame 104 = .ok (.iload 6, 2) := by decide +kernel
theorem dX3_isSame_106 : decode cX3_isSame 106 = .ok (.laload, 1) := by decide +kernel
theorem dX3_isSame_107 : decode cX3_isSame 107 = .ok (.lcmp, 1) := by decide +kernel
theorem dX3_isSame_108 : decode cX3_isSame 108 = .ok (.ifCond .ne 7, 3) := by decide +kernel
theorem dX3_isSame_111 : decode cX3_isSame 111 = .ok (.iconst 1, 1) := by decide +kernel
theorem dX3_isSame_112 : decode cX3_isSame 112 = .ok (.goto 4, 3) := by decide +kernel
theorem dX3_isSame_115 : decode cX3_isSame 115 = .ok (.iconst 0, 1) := by decide +kernel
theorem dX3_isSame_116 : decode cX3_isSame 116 = .ok (.istore_n 3, 1) := by decide +kernel
theorem dX3_isSame_117 : decode cX3_isSame 117 = .ok (.iinc 4 1, 3) := by decide +kernel
theorem dX3_isSame_120 : decode cX3_isSame 120 = .ok (.goto (-96), 3) := by decide +kernel
theorem dX3_isSame_123 : decode cX3_isSame 123 = .ok (.iload_n 3, 1) := by decide +kernel
theorem dX3_isSame_124 : decode cX3_isSame 124 = .ok (.ireturn, 1) := by decide +kernel
theorem dX3_same_0 : decode cX3_same 0 = .ok (.iload_n 1, 1) := by decide +kernel
theorem dX3_same_1 : decode cX3_same 1 = .ok (.invokestatic 94, 3) := by decide +kernel
theorem dX3_same_4 : decode cX3_same 4 = .ok (.ifCond .eq 10, 3) := by decide +kernel
theorem dX3_same_7 : decode cX3_same 7 = .ok (.iload_n 2, 1) := by decide +kernel
theorem dX3_same_8 : decode cX3_same 8 = .ok (.invokestatic 94, 3) := by decide +kernel
theorem dX3_same_11 : decode cX3_same 11 = .ok (.ifCond .ne 7, 3) := by decide +kernel
theorem dX3_same_14 : decode cX3_same 14 = .ok (.iconst (-1), 1) := by decide +kernel
theorem dX3_same_15 : decode cX3_same 15 = .ok (.goto 17, 3) := by decide +kernel
theorem dX3_same_18 : decode cX3_same 18 = .ok (.aload_n 0, 1) := by decide +kernel
theorem dX3_same_19 : decode cX3_same 19 = .ok (.iload_n 1, 1) := by decide +kernel
theorem dX3_same_20 : decode cX3_same 20 = .ok (.iload_n 2, 1) := by decide +kernel
theorem dX3_same_21 : decode cX3_same 21 = .ok (.invokevirtual 118, 3) := by decide +kernel
theorem dX3_same_24 : decode cX3_same 24 = .ok (.ifCond .eq 7, 3) := by decide +kernel
theorem dX3_same_27 : decode cX3_same 27 = .ok (.iconst 1, 1) := by decide +kernel
theorem dX3_same_28 : decode cX3_same 28 = .ok (.goto 4, 3) := by decide +kernel
theorem dX3_same_31 : decode cX3_same 31 = .ok (.iconst 0, 1) := by decide +kernel
theorem dX3_same_32 : decode cX3_same 32 = .ok (.ireturn, 1) := by decide +kernel
theorem dX3_value_0 : decode cX3_value 0 = .ok (.iload_n 1, 1) := by decide +kernel
theorem dX3_value_1 : decode cX3_value 1 = .ok (.invokestatic 94, 3) := by decide +kernel
theorem dX3_value_4 : decode cX3_value 4 = .ok (.ifCond .ne 5, 3) := by decide +kernel
theorem dX3_value_7 : decode cX3_value 7 = .ok (.lconst 0, 1) := by decide +kernel
theorem dX3_value_8 : decode cX3_value 8 = .ok (.lreturn, 1) := by decide +kernel
theorem dX3_value_9 : decode cX3_value 9 = .ok (.lconst 0, 1) := by decide +kernel
theorem dX3_value_10 : decode cX3_value 10 = .ok (.lstore_n 3, 1) := by decide +kernel
theorem dX3_value_11 : decode cX3_value 11 = .ok (.bipush 60, 2) := by decide +kernel
theorem dX3_value_13 : decode cX3_value 13 = .ok (.iload_n 1, 1) := by decide +kernel
theorem dX3_value_14 : decode cX3_value 14 = .ok (.imul, 1) := by decide +kernel
theorem dX3_value_15 : decode cX3_value 15 = .ok (.istore 5, 2) := by decide +kernel
theorem dX3_value_17 : decode cX3_value 17 = .ok (.iload 5, 2) := by decide +kernel
theorem dX3_value_19 : decode cX3_value 19 = .ok (.bipush 60, 2) := by decide +kernel
theorem dX3_value_21 : decode cX3_value 21 = .ok (.iload_n 1, 1) := by decide +kernel
theorem dX3_value_22 : decode cX3_value 22 = .ok (.imul, 1) := by decide +kernel
theorem dX3_value_23 : decode cX3_value 23 = .ok (.aload_n 0, 1) := by decide +kernel
theorem dX3_value_24 : decode cX3_value 24 = .ok (.getfield 9, 3) := by decide +kernel
theorem dX3_value_27 : decode cX3_value 27 = .ok (.iload_n 1, 1) := by decide +kernel
theorem dX3_value_28 : decode cX3_value 28 = .ok (.iaload, 1) := by decide +kernel
theorem dX3_value_29 : decode cX3_value 29 = .ok (.iadd, 1) := by decide +kernel
theorem dX3_value_30 : decode cX3_value 30 = .ok (.if_icmp .ge 65, 3) := by decide +kernel
theorem dX3_value_33 : decode cX3_value 33 = .ok (.aload_n 0, 1) := by decide +kernel
theorem dX3_value_34 : decode cX3_value 34 = .ok (.getfield 13, 3) := by decide +kernel
theorem dX3_value_37 : decode cX3_value 37 = .ok (.iload 5, 2) := by decide +kernel
theorem dX3_value_39 : decode cX3_value 39 = .ok (.laload, 1) := by decide +kernel
theorem dX3_value_40 : decode cX3_value 40 = .ok (.lstore 6, 2) := by decide +kernel
theorem dX3_value_42 : decode cX3_value 42 = .ok (.aload_n 0, 1) := by decide +kernel
theorem dX3_value_43 : decode cX3_value 43 = .ok (.getfield 17, 3) := by decide +kernel
theorem dX3_value_46 : decode cX3_value 46 = .ok (.iload 5, 2) := by decide +kernel
theorem dX3_value_48 : decode cX3_value 48 = .ok (.laload, 1) := by decide +kernel
theorem dX3_value_49 : decode cX3_value 49 = .ok (.aload_n 0, 1) := by decide +kernel
theorem dX3_value_50 : decode cX3_value 50 = .ok (.getfield 20, 3) := by decide +kernel
theorem dX3_value_53 : decode cX3_value 53 = .ok (.iload 5, 2) := by decide +kernel
theorem dX3_value_55 : decode cX3_value 55 = .ok (.laload, 1) := by decide +kernel
theorem dX3_value_56 : decode cX3_value 56 = .ok (.invokestatic 59, 3) := by decide +kernel
theorem dX3_value_59 : decode cX3_value 59 = .ok (.istore 8, 2) := by decide +kernel
theorem dX3_value_61 : decode cX3_value 61 = .ok (.iconst 0, 1) := by decide +kernel
theorem dX3_value_62 : decode cX3_value 62 = .ok (.istore 9, 2) := by decide +kernel
theorem dX3_value_64 : decode cX3_value 64 = .ok (.iload 9, 2) := by decide +kernel
theorem dX3_value_66 : decode cX3_value 66 = .ok (.iload 8, 2) := by decide +kernel
theorem dX3_value_68 : decode cX3_value 68 = .ok (.if_icmp .ge 16, 3) := by decide +kernel
theorem dX3_value_71 : decode cX3_value 71 = .ok (.lload 6, 2) := by decide +kernel
theorem dX3_value_73 : decode cX3_value 73 = .ok (.iload_n 2, 1) := by decide +kernel
theorem dX3_value_74 : decode cX3_value 74 = .ok (.i2l, 1) := by decide +kernel
theorem dX3_value_75 : decode cX3_value 75 = .ok (.lmul, 1) := by decide +kernel
theorem dX3_value_76 : decode cX3_value 76 = .ok (.lstore 6, 2) := by decide +kernel
theorem dX3_value_78 : decode cX3_value 78 = .ok (.iinc 9 1, 3) := by decide +kernel
theorem dX3_value_81 : decode cX3_value 81 = .ok (.goto (-17), 3) := by decide +kernel
theorem dX3_value_84 : decode cX3_value 84 = .ok (.lload_n 3, 1) := by decide +kernel
theorem dX3_value_85 : decode cX3_value 85 = .ok (.lload 6, 2) := by decide +kernel
theorem dX3_value_87 : decode cX3_value 87 = .ok (.ladd, 1) := by decide +kernel
theorem dX3_value_88 : decode cX3_value 88 = .ok (.lstore_n 3, 1) := by decide +kernel
theorem dX3_value_89 : decode cX3_value 89 = .ok (.iinc 5 1, 3) := by decide +kernel
theorem dX3_value_92 : decode cX3_value 92 = .ok (.goto (-75), 3) := by decide +kernel
theorem dX3_value_95 : decode cX3_value 95 = .ok (.lload_n 3, 1) := by decide +kernel
theorem dX3_value_96 : decode cX3_value 96 = .ok (.lreturn, 1) := by decide +kernel
theorem dX3_hypothesis_0 : decode cX3_hypothesis 0 = .ok (.iload_n 1, 1) := by decide +kernel
theorem dX3_hypothesis_1 : decode cX3_hypothesis 1 = .ok (.invokestatic 94, 3) := by decide +kernel
theorem dX3_hypothesis_4 : decode cX3_hypothesis 4 = .ok (.ifCond .eq 12, 3) := by decide +kernel
theorem dX3_hypothesis_7 : decode cX3_hypothesis 7 = .ok (.aload_n 0, 1) := by decide +kernel
theorem dX3_hypothesis_8 : decode cX3_hypothesis 8 = .ok (.getfield 121, 3) := by decide +kernel
theorem dX3_hypothesis_11 : decode cX3_hypothesis 11 = .ok (.bipush 40, 2) := by decide +kernel
theorem dX3_hypothesis_13 : decode cX3_hypothesis 13 = .ok (.if_icmp .ne 5, 3) := by decide +kernel
theorem dX3_hypothesis_16 : decode cX3_hypothesis 16 = .ok (.iconst (-1), 1) := by decide +kernel
theorem dX3_hypothesis_17 : decode cX3_hypothesis 17 = .ok (.ireturn, 1) := by decide +kernel
theorem dX3_hypothesis_18 : decode cX3_hypothesis 18 = .ok (.aload_n 0, 1) := by decide +kernel
theorem dX3_hypothesis_19 : decode cX3_hypothesis 19 = .ok (.iload_n 1, 1) := by decide +kernel
theorem dX3_hypothesis_20 : decode cX3_hypothesis 20 = .ok (.bipush 16, 2) := by decide +kernel
theorem dX3_hypothesis_22 : decode cX3_hypothesis 22 = .ok (.aload_n 0, 1) := by decide +kernel
theorem dX3_hypothesis_23 : decode cX3_hypothesis 23 = .ok (.getfield 121, 3) := by decide +kernel
theorem dX3_hypothesis_26 : decode cX3_hypothesis 26 = .ok (.iadd, 1) := by decide +kernel
theorem dX3_hypothesis_27 : decode cX3_hypothesis 27 = .ok (.invokevirtual 115, 3) := by decide +kernel
theorem dX3_hypothesis_30 : decode cX3_hypothesis 30 = .ok (.aload_n 0, 1) := by decide +kernel
theorem dX3_hypothesis_31 : decode cX3_hypothesis 31 = .ok (.dup, 1) := by decide +kernel
theorem dX3_hypothesis_32 : decode cX3_hypothesis 32 = .ok (.getfield 121, 3) := by decide +kernel
theorem dX3_hypothesis_35 : decode cX3_hypothesis 35 = .ok (.iconst 1, 1) := by decide +kernel
theorem dX3_hypothesis_36 : decode cX3_hypothesis 36 = .ok (.iadd, 1) := by decide +kernel
theorem dX3_hypothesis_37 : decode cX3_hypothesis 37 = .ok (.putfield 121, 3) := by decide +kernel
theorem dX3_hypothesis_40 : decode cX3_hypothesis 40 = .ok (.aload_n 0, 1) := by decide +kernel
theorem dX3_hypothesis_41 : decode cX3_hypothesis 41 = .ok (.getfield 121, 3) := by decide +kernel
theorem dX3_hypothesis_44 : decode cX3_hypothesis 44 = .ok (.iconst 1, 1) := by decide +kernel
theorem dX3_hypothesis_45 : decode cX3_hypothesis 45 = .ok (.isub, 1) := by decide +kernel
theorem dX3_hypothesis_46 : decode cX3_hypothesis 46 = .ok (.ireturn, 1) := by decide +kernel
theorem dX3_keep_0 : decode cX3_keep 0 = .ok (.iload_n 1, 1) := by decide +kernel
theorem dX3_keep_1 : decode cX3_keep 1 = .ok (.ifCond .lt 11, 3) := by decide +kernel
theorem dX3_keep_4 : decode cX3_keep 4 = .ok (.iload_n 1, 1) := by decide +kernel
theorem dX3_keep_5 : decode cX3_keep 5 = .ok (.aload_n 0, 1) := by decide +kernel
theorem dX3_keep_6 : decode cX3_keep 6 = .ok (.getfield 121, 3) := by decide +kernel
theorem dX3_keep_9 : decode cX3_keep 9 = .ok (.if_icmp .le 5, 3) := by decide +kernel
theorem dX3_keep_12 : decode cX3_keep 12 = .ok (.iconst (-1), 1) := by decide +kernel
theorem dX3_keep_13 : decode cX3_keep 13 = .ok (.ireturn, 1) := by decide +kernel
theorem dX3_keep_14 : decode cX3_keep 14 = .ok (.aload_n 0, 1) := by decide +kernel
theorem dX3_keep_15 : decode cX3_keep 15 = .ok (.iload_n 1, 1) := by decide +kernel
theorem dX3_keep_16 : decode cX3_keep 16 = .ok (.putfield 121, 3) := by decide +kernel
theorem dX3_keep_19 : decode cX3_keep 19 = .ok (.iload_n 1, 1) := by decide +kernel
theorem dX3_keep_20 : decode cX3_keep 20 = .ok (.ireturn, 1) := by decide +kernel
theorem dX3_part_0 : decode cX3_part 0 = .ok (.iload_n 1, 1) := by decide +kernel
theorem dX3_part_1 : decode cX3_part 1 = .ok (.ifCond .lt 40, 3) := by decide +kernel
theorem dX3_part_4 : decode cX3_part 4 = .ok (.iload_n 1, 1) := by decide +kernel
theorem dX3_part_5 : decode cX3_part 5 = .ok (.ldc 124, 2) := by decide +kernel
theorem dX3_part_7 : decode cX3_part 7 = .ok (.if_icmp .gt 34, 3) := by decide +kernel
theorem dX3_part_10 : decode cX3_part 10 = .ok (.iload_n 2, 1) := by decide +kernel
theorem dX3_part_11 : decode cX3_part 11 = .ok (.iconst (-1), 1) := by decide +kernel
theorem dX3_part_12 : decode cX3_part 12 = .ok (.if_icmp .lt 29, 3) := by decide +kernel
theorem dX3_part_15 : decode cX3_part 15 = .ok (.iload_n 3, 1) := by decide +kernel
theorem dX3_part_16 : decode cX3_part 16 = .ok (.iconst (-1), 1) := by decide +kernel
theorem dX3_part_17 : decode cX3_part 17 = .ok (.if_icmp .lt 24, 3) := by decide +kernel
theorem dX3_part_20 : decode cX3_part 20 = .ok (.iload 4, 2) := by decide +kernel
theorem dX3_part_22 : decode cX3_part 22 = .ok (.iconst (-1), 1) := by decide +kernel
theorem dX3_part_23 : decode cX3_part 23 = .ok (.if_icmp .lt 18, 3) := by decide +kernel
theorem dX3_part_26 : decode cX3_part 26 = .ok (.iload 5, 2) := by decide +kernel
theorem dX3_part_28 : decode cX3_part 28 = .ok (.iconst (-1), 1) := by decide +kernel
theorem dX3_part_29 : decode cX3_part 29 = .ok (.if_icmp .lt 12, 3) := by decide +kernel
theorem dX3_part_32 : decode cX3_part 32 = .ok (.aload_n 0, 1) := by decide +kernel
theorem dX3_part_33 : decode cX3_part 33 = .ok (.getfield 125, 3) := by decide +kernel
theorem dX3_part_36 : decode cX3_part 36 = .ok (.bipush 20, 2) := by decide +kernel
theorem dX3_part_38 : decode cX3_part 38 = .ok (.if_icmp .ne 5, 3) := by decide +kernel
theorem dX3_part_41 : decode cX3_part 41 = .ok (.iconst (-1), 1) := by decide +kernel
theorem dX3_part_42 : decode cX3_part 42 = .ok (.ireturn, 1) := by decide +kernel
theorem dX3_part_43 : decode cX3_part 43 = .ok (.aload_n 0, 1) := by decide +kernel
theorem dX3_part_44 : decode cX3_part 44 = .ok (.getfield 23, 3) := by decide +kernel
theorem dX3_part_47 : decode cX3_part 47 = .ok (.aload_n 0, 1) := by decide +kernel
theorem dX3_part_48 : decode cX3_part 48 = .ok (.getfield 125, 3) := by decide +kernel
theorem dX3_part_51 : decode cX3_part 51 = .ok (.iload_n 1, 1) := by decide +kernel
theorem dX3_part_52 : decode cX3_part 52 = .ok (.iastore, 1) := by decide +kernel
theorem dX3_part_53 : decode cX3_part 53 = .ok (.aload_n 0, 1) := by decide +kernel
theorem dX3_part_54 : decode cX3_part 54 = .ok (.getfield 26, 3) := by decide +kernel
theorem dX3_part_57 : decode cX3_part 57 = .ok (.aload_n 0, 1) := by decide +kernel
theorem dX3_part_58 : decode cX3_part 58 = .ok (.getfield 125, 3) := by decide +kernel
theorem dX3_part_61 : decode cX3_part 61 = .ok (.iload_n 2, 1) := by decide +kernel
theorem dX3_part_62 : decode cX3_part 62 = .ok (.iastore, 1) := by decide +kernel
theorem dX3_part_63 : decode cX3_part 63 = .ok (.aload_n 0, 1) := by decide +kernel
theorem dX3_part_64 : decode cX3_part 64 = .ok (.getfield 29, 3) := by decide +kernel
theorem dX3_part_67 : decode cX3_part 67 = .ok (.aload_n 0, 1) := by decide +kernel
theorem dX3_part_68 : decode cX3_part 68 = .ok (.getfield 125, 3) := by decide +kernel
theorem dX3_part_71 : decode cX3_part 71 = .ok (.iload_n 3, 1) := by decide +kernel
theorem dX3_part_72 : decode cX3_part 72 = .ok (.iastore, 1) := by decide +kernel
theorem dX3_part_73 : decode cX3_part 73 = .ok (.aload_n 0, 1) := by decide +kernel
theorem dX3_part_74 : decode cX3_part 74 = .ok (.getfield 32, 3) := by decide +kernel
theorem dX3_part_77 : decode cX3_part 77 = .ok (.aload_n 0, 1) := by decide +kernel
theorem dX3_part_78 : decode cX3_part 78 = .ok (.getfield 125, 3) := by decide +kernel
theorem dX3_part_81 : decode cX3_part 81 = .ok (.iload 4, 2) := by decide +kernel
theorem dX3_part_83 : decode cX3_part 83 = .ok (.iastore, 1) := by decide +kernel
theorem dX3_part_84 : decode cX3_part 84 = .ok (.aload_n 0, 1) := by decide +kernel
theorem dX3_part_85 : decode cX3_part 85 = .ok (.getfield 35, 3) := by decide +kernel
theorem dX3_part_88 : decode cX3_part 88 = .ok (.aload_n 0, 1) := by decide +kernel
theorem dX3_part_89 : decode cX3_part 89 = .ok (.getfield 125, 3) := by decide +kernel
theorem dX3_part_92 : decode cX3_part 92 = .ok (.iload 5, 2) := by decide +kernel
theorem dX3_part_94 : decode cX3_part 94 = .ok (.iastore, 1) := by decide +kernel
theorem dX3_part_95 : decode cX3_part 95 = .ok (.aload_n 0, 1) := by decide +kernel
theorem dX3_part_96 : decode cX3_part 96 = .ok (.dup, 1) := by decide +kernel
theorem dX3_part_97 : decode cX3_part 97 = .ok (.getfield 125, 3) := by decide +kernel
theorem dX3_part_100 : decode cX3_part 100 = .ok (.iconst 1, 1) := by decide +kernel
theorem dX3_part_101 : decode cX3_part 101 = .ok (.iadd, 1) := by decide +kernel
theorem dX3_part_102 : decode cX3_part 102 = .ok (.putfield 125, 3) := by decide +kernel
theorem dX3_part_105 : decode cX3_part 105 = .ok (.aload_n 0, 1) := by decide +kernel
theorem dX3_part_106 : decode cX3_part 106 = .ok (.getfield 125, 3) := by decide +kernel
theorem dX3_part_109 : decode cX3_part 109 = .ok (.ireturn, 1) := by decide +kernel
theorem dX3_hypOf_0 : decode cX3_hypOf 0 = .ok (.iload_n 2, 1) := by decide +kernel
theorem dX3_hypOf_1 : decode cX3_hypOf 1 = .ok (.ifCond .ne 12, 3) := by decide +kernel
theorem dX3_hypOf_4 : decode cX3_hypOf 4 = .ok (.aload_n 0, 1) := by decide +kernel
theorem dX3_hypOf_5 : decode cX3_hypOf 5 = .ok (.getfield 26, 3) := by decide +kernel
theorem dX3_hypOf_8 : decode cX3_hypOf 8 = .ok (.iload_n 1, 1) := by decide +kernel
theorem dX3_hypOf_9 : decode cX3_hypOf 9 = .ok (.iaload, 1) := by decide +kernel
theorem dX3_hypOf_10 : decode cX3_hypOf 10 = .ok (.goto 37, 3) := by decide +kernel
theorem dX3_hypOf_13 : decode cX3_hypOf 13 = .ok (.iload_n 2, 1) := by decide +kernel
theorem dX3_hypOf_14 : decode cX3_hypOf 14 = .ok (.iconst 1, 1) := by decide +kernel
theorem dX3_hypOf_15 : decode cX3_hypOf 15 = .ok (.if_icmp .ne 12, 3) := by decide +kernel
theorem dX3_hypOf_18 : decode cX3_hypOf 18 = .ok (.aload_n 0, 1) := by decide +kernel
theorem dX3_hypOf_19 : decode cX3_hypOf 19 = .ok (.getfield 29, 3) := by decide +kernel
theorem dX3_hypOf_22 : decode cX3_hypOf 22 = .ok (.iload_n 1, 1) := by decide +kernel
theorem dX3_hypOf_23 : decode cX3_hypOf 23 = .ok (.iaload, 1) := by decide +kernel
theorem dX3_hypOf_24 : decode cX3_hypOf 24 = .ok (.goto 23, 3) := by decide +kernel
theorem dX3_hypOf_27 : decode cX3_hypOf 27 = .ok (.iload_n 2, 1) := by decide +kernel
theorem dX3_hypOf_28 : decode cX3_hypOf 28 = .ok (.iconst 2, 1) := by decide +kernel
theorem dX3_hypOf_29 : decode cX3_hypOf 29 = .ok (.if_icmp .ne 12, 3) := by decide +kernel
theorem dX3_hypOf_32 : decode cX3_hypOf 32 = .ok (.aload_n 0, 1) := by decide +kernel
theorem dX3_hypOf_33 : decode cX3_hypOf 33 = .ok (.getfield 32, 3) := by decide +kernel
theorem dX3_hypOf_36 : decode cX3_hypOf 36 = .ok (.iload_n 1, 1) := by decide +kernel
theorem dX3_hypOf_37 : decode cX3_hypOf 37 = .ok (.iaload, 1) := by decide +kernel
theorem dX3_hypOf_38 : decode cX3_hypOf 38 = .ok (.goto 9, 3) := by decide +kernel
theorem dX3_hypOf_41 : decode cX3_hypOf 41 = .ok (.aload_n 0, 1) := by decide +kernel
theorem dX3_hypOf_42 : decode cX3_hypOf 42 = .ok (.getfield 35, 3) := by decide +kernel
theorem dX3_hypOf_45 : decode cX3_hypOf 45 = .ok (.iload_n 1, 1) := by decide +kernel
theorem dX3_hypOf_46 : decode cX3_hypOf 46 = .ok (.iaload, 1) := by decide +kernel
theorem dX3_hypOf_47 : decode cX3_hypOf 47 = .ok (.ireturn, 1) := by decide +kernel
theorem dX3_show_0 : decode cX3_show 0 = .ok (.iload_n 1, 1) := by decide +kernel
theorem dX3_show_1 : decode cX3_show 1 = .ok (.invokestatic 94, 3) := by decide +kernel
theorem dX3_show_4 : decode cX3_show 4 = .ok (.ifCond .eq 14, 3) := by decide +kernel
theorem dX3_show_7 : decode cX3_show 7 = .ok (.iload_n 2, 1) := by decide +kernel
theorem dX3_show_8 : decode cX3_show 8 = .ok (.iconst 1, 1) := by decide +kernel
theorem dX3_show_9 : decode cX3_show 9 = .ok (.if_icmp .lt 9, 3) := by decide +kernel
theorem dX3_show_12 : decode cX3_show 12 = .ok (.iload_n 2, 1) := by decide +kernel
theorem dX3_show_13 : decode cX3_show 13 = .ok (.ldc 124, 2) := by decide +kernel
theorem dX3_show_15 : decode cX3_show 15 = .ok (.if_icmp .le 5, 3) := by decide +kernel
theorem dX3_show_18 : decode cX3_show 18 = .ok (.iconst (-1), 1) := by decide +kernel
theorem dX3_show_19 : decode cX3_show 19 = .ok (.ireturn, 1) := by decide +kernel
theorem dX3_show_20 : decode cX3_show 20 = .ok (.aload_n 0, 1) := by decide +kernel
theorem dX3_show_21 : decode cX3_show 21 = .ok (.getfield 125, 3) := by decide +kernel
theorem dX3_show_24 : decode cX3_show 24 = .ok (.istore_n 3, 1) := by decide +kernel
theorem dX3_show_25 : decode cX3_show 25 = .ok (.aload_n 0, 1) := by decide +kernel
theorem dX3_show_26 : decode cX3_show 26 = .ok (.iconst 0, 1) := by decide +kernel
theorem dX3_show_27 : decode cX3_show 27 = .ok (.putfield 125, 3) := by decide +kernel
theorem dX3_show_30 : decode cX3_show 30 = .ok (.iconst 0, 1) := by decide +kernel
theorem dX3_show_31 : decode cX3_show 31 = .ok (.istore 4, 2) := by decide +kernel
theorem dX3_show_33 : decode cX3_show 33 = .ok (.iload 4, 2) := by decide +kernel
theorem dX3_show_35 : decode cX3_show 35 = .ok (.iload_n 3, 1) := by decide +kernel
theorem dX3_show_36 : decode cX3_show 36 = .ok (.if_icmp .ge 41, 3) := by decide +kernel
theorem dX3_show_39 : decode cX3_show 39 = .ok (.iconst 0, 1) := by decide +kernel
theorem dX3_show_40 : decode cX3_show 40 = .ok (.istore 5, 2) := by decide +kernel
theorem dX3_show_42 : decode cX3_show 42 = .ok (.iload 5, 2) := by decide +kernel
theorem dX3_show_44 : decode cX3_show 44 = .ok (.iconst 4, 1) := by decide +kernel
theorem dX3_show_45 : decode cX3_show 45 = .ok (.if_icmp .ge 26, 3) := by decide +kernel
theorem dX3_show_48 : decode cX3_show 48 = .ok (.aload_n 0, 1) := by decide +kernel
theorem dX3_show_49 : decode cX3_show 49 = .ok (.iload 4, 2) := by decide +kernel
theorem dX3_show_51 : decode cX3_show 51 = .ok (.iload 5, 2) := by decide +kernel
theorem dX3_show_53 : decode cX3_show 53 = .ok (.invokevirtual 128, 3) := by decide +kernel
theorem dX3_show_56 : decode cX3_show 56 = .ok (.aload_n 0, 1) := by decide +kernel
theorem dX3_show_57 : decode cX3_show 57 = .ok (.getfield 121, 3) := by decide +kernel
theorem dX3_show_60 : decode cX3_show 60 = .ok (.if_icmp .lt 5, 3) := by decide +kernel
theorem dX3_show_63 : decode cX3_show 63 = .ok (.iconst 0, 1) := by decide +kernel
theorem dX3_show_64 : decode cX3_show 64 = .ok (.ireturn, 1) := by decide +kernel
theorem dX3_show_65 : decode cX3_show 65 = .ok (.iinc 5 1, 3) := by decide +kernel
theorem dX3_show_68 : decode cX3_show 68 = .ok (.goto (-26), 3) := by decide +kernel
theorem dX3_show_71 : decode cX3_show 71 = .ok (.iinc 4 1, 3) := by decide +kernel
theorem dX3_show_74 : decode cX3_show 74 = .ok (.goto (-41), 3) := by decide +kernel
theorem dX3_show_77 : decode cX3_show 77 = .ok (.aload_n 0, 1) := by decide +kernel
theorem dX3_show_78 : decode cX3_show 78 = .ok (.bipush 58, 2) := by decide +kernel
theorem dX3_show_80 : decode cX3_show 80 = .ok (.iload_n 2, 1) := by decide +kernel
theorem dX3_show_81 : decode cX3_show 81 = .ok (.i2l, 1) := by decide +kernel
theorem dX3_show_82 : decode cX3_show 82 = .ok (.invokevirtual 97, 3) := by decide +kernel
theorem dX3_show_85 : decode cX3_show 85 = .ok (.ifCond .eq 15, 3) := by decide +kernel
theorem dX3_show_88 : decode cX3_show 88 = .ok (.aload_n 0, 1) := by decide +kernel
theorem dX3_show_89 : decode cX3_show 89 = .ok (.bipush 58, 2) := by decide +kernel
theorem dX3_show_91 : decode cX3_show 91 = .ok (.bipush 58, 2) := by decide +kernel
theorem dX3_show_93 : decode cX3_show 93 = .ok (.iload_n 1, 1) := by decide +kernel
theorem dX3_show_94 : decode cX3_show 94 = .ok (.invokevirtual 107, 3) := by decide +kernel
theorem dX3_show_97 : decode cX3_show 97 = .ok (.ifCond .ne 6, 3) := by decide +kernel
theorem dX3_show_100 : decode cX3_show 100 = .ok (.bipush (-2), 2) := by decide +kernel
theorem dX3_show_102 : decode cX3_show 102 = .ok (.ireturn, 1) := by decide +kernel
theorem dX3_show_103 : decode cX3_show 103 = .ok (.aload_n 0, 1) := by decide +kernel
theorem dX3_show_104 : decode cX3_show 104 = .ok (.getfield 9, 3) := by decide +kernel
theorem dX3_show_107 : decode cX3_show 107 = .ok (.bipush 56, 2) := by decide +kernel
theorem dX3_show_109 : decode cX3_show 109 = .ok (.iconst 0, 1) := by decide +kernel
theorem dX3_show_110 : decode cX3_show 110 = .ok (.iastore, 1) := by decide +kernel
theorem dX3_show_111 : decode cX3_show 111 = .ok (.iconst 0, 1) := by decide +kernel
theorem dX3_show_112 : decode cX3_show 112 = .ok (.istore 4, 2) := by decide +kernel
theorem dX3_show_114 : decode cX3_show 114 = .ok (.iload 4, 2) := by decide +kernel
theorem dX3_show_116 : decode cX3_show 116 = .ok (.iload_n 3, 1) := by decide +kernel
theorem dX3_show_117 : decode cX3_show 117 = .ok (.if_icmp .ge 99, 3) := by decide +kernel
theorem dX3_show_120 : decode cX3_show 120 = .ok (.aload_n 0, 1) := by decide +kernel
theorem dX3_show_121 : decode cX3_show 121 = .ok (.bipush 57, 2) := by decide +kernel
theorem dX3_show_123 : decode cX3_show 123 = .ok (.aload_n 0, 1) := by decide +kernel
theorem dX3_show_124 : decode cX3_show 124 = .ok (.getfield 23, 3) := by decide +kernel
theorem dX3_show_127 : decode cX3_show 127 = .ok (.iload 4, 2) := by decide +kernel
theorem dX3_show_129 : decode cX3_show 129 = .ok (.iaload, 1) := by decide +kernel
theorem dX3_show_130 : decode cX3_show 130 = .ok (.i2l, 1) := by decide +kernel
theorem dX3_show_131 : decode cX3_show 131 = .ok (.invokevirtual 97, 3) := by decide +kernel
theorem dX3_show_134 : decode cX3_show 134 = .ok (.istore 5, 2) := by decide +kernel
theorem dX3_show_136 : decode cX3_show 136 = .ok (.iconst 0, 1) := by decide +kernel
theorem dX3_show_137 : decode cX3_show 137 = .ok (.istore 6, 2) := by decide +kernel
theorem dX3_show_139 : decode cX3_show 139 = .ok (.iload 6, 2) := by decide +kernel
theorem dX3_show_141 : decode cX3_show 141 = .ok (.iconst 4, 1) := by decide +kernel
theorem dX3_show_142 : decode cX3_show 142 = .ok (.if_icmp .ge 46, 3) := by decide +kernel
theorem dX3_show_145 : decode cX3_show 145 = .ok (.iload 5, 2) := by decide +kernel
theorem dX3_show_147 : decode cX3_show 147 = .ok (.ifCond .eq 41, 3) := by decide +kernel
theorem dX3_show_150 : decode cX3_show 150 = .ok (.aload_n 0, 1) := by decide +kernel
theorem dX3_show_151 : decode cX3_show 151 = .ok (.iload 4, 2) := by decide +kernel
theorem dX3_show_153 : decode cX3_show 153 = .ok (.iload 6, 2) := by decide +kernel
theorem dX3_show_155 : decode cX3_show 155 = .ok (.invokevirtual 128, 3) := by decide +kernel
theorem dX3_show_158 : decode cX3_show 158 = .ok (.ifCond .lt 24, 3) := by decide +kernel
theorem dX3_show_161 : decode cX3_show 161 = .ok (.aload_n 0, 1) := by decide +kernel
theorem dX3_show_162 : decode cX3_show 162 = .ok (.bipush 57, 2) := by decide +kernel
theorem dX3_show_164 : decode cX3_show 164 = .ok (.bipush 57, 2) := by decide +kernel
theorem dX3_show_166 : decode cX3_show 166 = .ok (.bipush 16, 2) := by decide +kernel
theorem dX3_show_168 : decode cX3_show 168 = .ok (.aload_n 0, 1) := by decide +kernel
theorem dX3_show_169 : decode cX3_show 169 = .ok (.iload 4, 2) := by decide +kernel
theorem dX3_show_171 : decode cX3_show 171 = .ok (.iload 6, 2) := by decide +kernel
theorem dX3_show_173 : decode cX3_show 173 = .ok (.invokevirtual 128, 3) := by decide +kernel
theorem dX3_show_176 : decode cX3_show 176 = .ok (.iadd, 1) := by decide +kernel
theorem dX3_show_177 : decode cX3_show 177 = .ok (.invokevirtual 107, 3) := by decide +kernel
theorem dX3_show_180 : decode cX3_show 180 = .ok (.istore 5, 2) := by decide +kernel
theorem dX3_show_182 : decode cX3_show 182 = .ok (.iinc 6 1, 3) := by decide +kernel
theorem dX3_show_185 : decode cX3_show 185 = .ok (.goto (-46), 3) := by decide +kernel
theorem dX3_show_188 : decode cX3_show 188 = .ok (.iload 5, 2) := by decide +kernel
theorem dX3_show_190 : decode cX3_show 190 = .ok (.ifCond .eq 17, 3) := by decide +kernel
theorem dX3_show_193 : decode cX3_show 193 = .ok (.aload_n 0, 1) := by decide +kernel
theorem dX3_show_194 : decode cX3_show 194 = .ok (.bipush 56, 2) := by decide +kernel
theorem dX3_show_196 : decode cX3_show 196 = .ok (.bipush 56, 2) := by decide +kernel
theorem dX3_show_198 : decode cX3_show 198 = .ok (.bipush 57, 2) := by decide +kernel
theorem dX3_show_200 : decode cX3_show 200 = .ok (.lconst 1, 1) := by decide +kernel
theorem dX3_show_201 : decode cX3_show 201 = .ok (.invokevirtual 101, 3) := by decide +kernel
theorem dX3_show_204 : decode cX3_show 204 = .ok (.ifCond .ne 6, 3) := by decide +kernel
theorem dX3_show_207 : decode cX3_show 207 = .ok (.bipush (-2), 2) := by decide +kernel
theorem dX3_show_209 : decode cX3_show 209 = .ok (.ireturn, 1) := by decide +kernel
theorem dX3_show_210 : decode cX3_show 210 = .ok (.iinc 4 1, 3) := by decide +kernel
theorem dX3_show_213 : decode cX3_show 213 = .ok (.goto (-99), 3) := by decide +kernel
theorem dX3_show_216 : decode cX3_show 216 = .ok (.aload_n 0, 1) := by decide +kernel
theorem dX3_show_217 : decode cX3_show 217 = .ok (.bipush 56, 2) := by decide +kernel
theorem dX3_show_219 : decode cX3_show 219 = .ok (.bipush 58, 2) := by decide +kernel
theorem dX3_show_221 : decode cX3_show 221 = .ok (.invokevirtual 118, 3) := by decide +kernel
theorem dX3_show_224 : decode cX3_show 224 = .ok (.ifCond .eq 7, 3) := by decide +kernel
theorem dX3_show_227 : decode cX3_show 227 = .ok (.iconst 1, 1) := by decide +kernel
theorem dX3_show_228 : decode cX3_show 228 = .ok (.goto 4, 3) := by decide +kernel
theorem dX3_show_231 : decode cX3_show 231 = .ok (.iconst 0, 1) := by decide +kernel
theorem dX3_show_232 : decode cX3_show 232 = .ok (.ireturn, 1) := by decide +kernel
theorem dX3_count_0 : decode cX3_count 0 = .ok (.iload_n 1, 1) := by decide +kernel
theorem dX3_count_1 : decode cX3_count 1 = .ok (.ifCond .ne 10, 3) := by decide +kernel
theorem dX3_count_4 : decode cX3_count 4 = .ok (.aload_n 0, 1) := by decide +kernel
theorem dX3_count_5 : decode cX3_count 5 = .ok (.getfield 121, 3) := by decide +kernel
theorem dX3_count_8 : decode cX3_count 8 = .ok (.goto 16, 3) := by decide +kernel
theorem dX3_count_11 : decode cX3_count 11 = .ok (.iload_n 1, 1) := by decide +kernel
theorem dX3_count_12 : decode cX3_count 12 = .ok (.iconst 1, 1) := by decide +kernel
theorem dX3_count_13 : decode cX3_count 13 = .ok (.if_icmp .ne 10, 3) := by decide +kernel
theorem dX3_count_16 : decode cX3_count 16 = .ok (.aload_n 0, 1) := by decide +kernel
theorem dX3_count_17 : decode cX3_count 17 = .ok (.getfield 125, 3) := by decide +kernel
theorem dX3_count_20 : decode cX3_count 20 = .ok (.goto 4, 3) := by decide +kernel
theorem dX3_count_23 : decode cX3_count 23 = .ok (.iconst (-1), 1) := by decide +kernel
theorem dX3_count_24 : decode cX3_count 24 = .ok (.ireturn, 1) := by decide +kernel
