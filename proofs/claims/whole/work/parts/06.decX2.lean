theorem dX2_init_0 : decode cX2_init 0 = .ok (.aload_n 0, 1) := by decide +kernel
theorem dX2_init_1 : decode cX2_init 1 = .ok (.invokespecial 1, 3) := by decide +kernel
theorem dX2_init_4 : decode cX2_init 4 = .ok (.new 7, 3) := by decide +kernel
theorem dX2_init_7 : decode cX2_init 7 = .ok (.dup, 1) := by decide +kernel
theorem dX2_init_8 : decode cX2_init 8 = .ok (.iconst 0, 1) := by decide +kernel
theorem dX2_init_9 : decode cX2_init 9 = .ok (.invokespecial 9, 3) := by decide +kernel
theorem dX2_init_12 : decode cX2_init 12 = .ok (.astore_n 1, 1) := by decide +kernel
theorem dX2_init_13 : decode cX2_init 13 = .ok (.aload_n 0, 1) := by decide +kernel
theorem dX2_init_14 : decode cX2_init 14 = .ok (.bipush 16, 2) := by decide +kernel
theorem dX2_init_16 : decode cX2_init 16 = .ok (.anewarray 7, 3) := by decide +kernel
theorem dX2_init_19 : decode cX2_init 19 = .ok (.putfield 14, 3) := by decide +kernel
theorem dX2_init_22 : decode cX2_init 22 = .ok (.iconst 0, 1) := by decide +kernel
theorem dX2_init_23 : decode cX2_init 23 = .ok (.istore_n 2, 1) := by decide +kernel
theorem dX2_init_24 : decode cX2_init 24 = .ok (.iload_n 2, 1) := by decide +kernel
theorem dX2_init_25 : decode cX2_init 25 = .ok (.bipush 16, 2) := by decide +kernel
theorem dX2_init_27 : decode cX2_init 27 = .ok (.if_icmp .ge 16, 3) := by decide +kernel
theorem dX2_init_30 : decode cX2_init 30 = .ok (.aload_n 0, 1) := by decide +kernel
theorem dX2_init_31 : decode cX2_init 31 = .ok (.getfield 14, 3) := by decide +kernel
theorem dX2_init_34 : decode cX2_init 34 = .ok (.iload_n 2, 1) := by decide +kernel
theorem dX2_init_35 : decode cX2_init 35 = .ok (.aload_n 1, 1) := by decide +kernel
theorem dX2_init_36 : decode cX2_init 36 = .ok (.aastore, 1) := by decide +kernel
theorem dX2_init_37 : decode cX2_init 37 = .ok (.iinc 2 1, 3) := by decide +kernel
theorem dX2_init_40 : decode cX2_init 40 = .ok (.goto (-16), 3) := by decide +kernel
theorem dX2_init_43 : decode cX2_init 43 = .ok (.aload_n 0, 1) := by decide +kernel
theorem dX2_init_44 : decode cX2_init 44 = .ok (.bipush 40, 2) := by decide +kernel
theorem dX2_init_46 : decode cX2_init 46 = .ok (.anewarray 7, 3) := by decide +kernel
theorem dX2_init_49 : decode cX2_init 49 = .ok (.putfield 18, 3) := by decide +kernel
theorem dX2_init_52 : decode cX2_init 52 = .ok (.iconst 0, 1) := by decide +kernel
theorem dX2_init_53 : decode cX2_init 53 = .ok (.istore_n 2, 1) := by decide +kernel
theorem dX2_init_54 : decode cX2_init 54 = .ok (.iload_n 2, 1) := by decide +kernel
theorem dX2_init_55 : decode cX2_init 55 = .ok (.bipush 40, 2) := by decide +kernel
theorem dX2_init_57 : decode cX2_init 57 = .ok (.if_icmp .ge 16, 3) := by decide +kernel
theorem dX2_init_60 : decode cX2_init 60 = .ok (.aload_n 0, 1) := by decide +kernel
theorem dX2_init_61 : decode cX2_init 61 = .ok (.getfield 18, 3) := by decide +kernel
theorem dX2_init_64 : decode cX2_init 64 = .ok (.iload_n 2, 1) := by decide +kernel
theorem dX2_init_65 : decode cX2_init 65 = .ok (.aload_n 1, 1) := by decide +kernel
theorem dX2_init_66 : decode cX2_init 66 = .ok (.aastore, 1) := by decide +kernel
theorem dX2_init_67 : decode cX2_init 67 = .ok (.iinc 2 1, 3) := by decide +kernel
theorem dX2_init_70 : decode cX2_init 70 = .ok (.goto (-16), 3) := by decide +kernel
theorem dX2_init_73 : decode cX2_init 73 = .ok (.aload_n 0, 1) := by decide +kernel
theorem dX2_init_74 : decode cX2_init 74 = .ok (.iconst 0, 1) := by decide +kernel
theorem dX2_init_75 : decode cX2_init 75 = .ok (.putfield 21, 3) := by decide +kernel
theorem dX2_init_78 : decode cX2_init 78 = .ok (.aload_n 0, 1) := by decide +kernel
theorem dX2_init_79 : decode cX2_init 79 = .ok (.bipush 20, 2) := by decide +kernel
theorem dX2_init_81 : decode cX2_init 81 = .ok (.newarray .int, 2) := by decide +kernel
theorem dX2_init_83 : decode cX2_init 83 = .ok (.putfield 25, 3) := by decide +kernel
theorem dX2_init_86 : decode cX2_init 86 = .ok (.aload_n 0, 1) := by decide +kernel
theorem dX2_init_87 : decode cX2_init 87 = .ok (.bipush 80, 2) := by decide +kernel
theorem dX2_init_89 : decode cX2_init 89 = .ok (.newarray .int, 2) := by decide +kernel
theorem dX2_init_91 : decode cX2_init 91 = .ok (.putfield 29, 3) := by decide +kernel
theorem dX2_init_94 : decode cX2_init 94 = .ok (.aload_n 0, 1) := by decide +kernel
theorem dX2_init_95 : decode cX2_init 95 = .ok (.iconst 0, 1) := by decide +kernel
theorem dX2_init_96 : decode cX2_init 96 = .ok (.putfield 32, 3) := by decide +kernel
theorem dX2_init_99 : decode cX2_init 99 = .ok (.aload_n 0, 1) := by decide +kernel
theorem dX2_init_100 : decode cX2_init 100 = .ok (.new 35, 3) := by decide +kernel
theorem dX2_init_103 : decode cX2_init 103 = .ok (.dup, 1) := by decide +kernel
theorem dX2_init_104 : decode cX2_init 104 = .ok (.invokespecial 37, 3) := by decide +kernel
theorem dX2_init_107 : decode cX2_init 107 = .ok (.putfield 38, 3) := by decide +kernel
theorem dX2_init_110 : decode cX2_init 110 = .ok (.return_, 1) := by decide +kernel
theorem dX2_constant_0 : decode cX2_constant 0 = .ok (.iload_n 1, 1) := by decide +kernel
theorem dX2_constant_1 : decode cX2_constant 1 = .ok (.invokestatic 42, 3) := by decide +kernel
theorem dX2_constant_4 : decode cX2_constant 4 = .ok (.ifCond .ne 5, 3) := by decide +kernel
theorem dX2_constant_7 : decode cX2_constant 7 = .ok (.iconst (-1), 1) := by decide +kernel
theorem dX2_constant_8 : decode cX2_constant 8 = .ok (.ireturn, 1) := by decide +kernel
theorem dX2_constant_9 : decode cX2_constant 9 = .ok (.iload_n 2, 1) := by decide +kernel
theorem dX2_constant_10 : decode cX2_constant 10 = .ok (.ldc 46, 2) := by decide +kernel
theorem dX2_constant_12 : decode cX2_constant 12 = .ok (.if_icmp .gt 9, 3) := by decide +kernel
theorem dX2_constant_15 : decode cX2_constant 15 = .ok (.iload_n 2, 1) := by decide +kernel
theorem dX2_constant_16 : decode cX2_constant 16 = .ok (.ldc 47, 2) := by decide +kernel
theorem dX2_constant_18 : decode cX2_constant 18 = .ok (.if_icmp .ge 6, 3) := by decide +kernel
theorem dX2_constant_21 : decode cX2_constant 21 = .ok (.bipush (-2), 2) := by decide +kernel
theorem dX2_constant_23 : decode cX2_constant 23 = .ok (.ireturn, 1) := by decide +kernel
theorem dX2_constant_24 : decode cX2_constant 24 = .ok (.aload_n 0, 1) := by decide +kernel
theorem dX2_constant_25 : decode cX2_constant 25 = .ok (.getfield 38, 3) := by decide +kernel
theorem dX2_constant_28 : decode cX2_constant 28 = .ok (.lconst 0, 1) := by decide +kernel
theorem dX2_constant_29 : decode cX2_constant 29 = .ok (.iload_n 2, 1) := by decide +kernel
theorem dX2_constant_30 : decode cX2_constant 30 = .ok (.invokevirtual 48, 3) := by decide +kernel
theorem dX2_constant_33 : decode cX2_constant 33 = .ok (.aload_n 0, 1) := by decide +kernel
theorem dX2_constant_34 : decode cX2_constant 34 = .ok (.iload_n 1, 1) := by decide +kernel
theorem dX2_constant_35 : decode cX2_constant 35 = .ok (.aload_n 0, 1) := by decide +kernel
theorem dX2_constant_36 : decode cX2_constant 36 = .ok (.getfield 38, 3) := by decide +kernel
theorem dX2_constant_39 : decode cX2_constant 39 = .ok (.getfield 52, 3) := by decide +kernel
theorem dX2_constant_42 : decode cX2_constant 42 = .ok (.invokevirtual 56, 3) := by decide +kernel
theorem dX2_constant_45 : decode cX2_constant 45 = .ok (.ireturn, 1) := by decide +kernel
theorem dX2_symbol_0 : decode cX2_symbol 0 = .ok (.iload_n 1, 1) := by decide +kernel
theorem dX2_symbol_1 : decode cX2_symbol 1 = .ok (.invokestatic 42, 3) := by decide +kernel
theorem dX2_symbol_4 : decode cX2_symbol 4 = .ok (.ifCond .eq 10, 3) := by decide +kernel
theorem dX2_symbol_7 : decode cX2_symbol 7 = .ok (.iload_n 2, 1) := by decide +kernel
theorem dX2_symbol_8 : decode cX2_symbol 8 = .ok (.invokestatic 60, 3) := by decide +kernel
theorem dX2_symbol_11 : decode cX2_symbol 11 = .ok (.ifCond .ne 5, 3) := by decide +kernel
theorem dX2_symbol_14 : decode cX2_symbol 14 = .ok (.iconst (-1), 1) := by decide +kernel
theorem dX2_symbol_15 : decode cX2_symbol 15 = .ok (.ireturn, 1) := by decide +kernel
theorem dX2_symbol_16 : decode cX2_symbol 16 = .ok (.aload_n 0, 1) := by decide +kernel
theorem dX2_symbol_17 : decode cX2_symbol 17 = .ok (.getfield 38, 3) := by decide +kernel
theorem dX2_symbol_20 : decode cX2_symbol 20 = .ok (.iload_n 2, 1) := by decide +kernel
theorem dX2_symbol_21 : decode cX2_symbol 21 = .ok (.invokestatic 63, 3) := by decide +kernel
theorem dX2_symbol_24 : decode cX2_symbol 24 = .ok (.iconst 1, 1) := by decide +kernel
theorem dX2_symbol_25 : decode cX2_symbol 25 = .ok (.invokevirtual 48, 3) := by decide +kernel
theorem dX2_symbol_28 : decode cX2_symbol 28 = .ok (.aload_n 0, 1) := by decide +kernel
theorem dX2_symbol_29 : decode cX2_symbol 29 = .ok (.iload_n 1, 1) := by decide +kernel
theorem dX2_symbol_30 : decode cX2_symbol 30 = .ok (.aload_n 0, 1) := by decide +kernel
theorem dX2_symbol_31 : decode cX2_symbol 31 = .ok (.getfield 38, 3) := by decide +kernel
theorem dX2_symbol_34 : decode cX2_symbol 34 = .ok (.getfield 52, 3) := by decide +kernel
theorem dX2_symbol_37 : decode cX2_symbol 37 = .ok (.invokevirtual 56, 3) := by decide +kernel
theorem dX2_symbol_40 : decode cX2_symbol 40 = .ok (.ireturn, 1) := by decide +kernel
theorem dX2_plus_0 : decode cX2_plus 0 = .ok (.aload_n 0, 1) := by decide +kernel
theorem dX2_plus_1 : decode cX2_plus 1 = .ok (.iload_n 1, 1) := by decide +kernel
theorem dX2_plus_2 : decode cX2_plus 2 = .ok (.iload_n 2, 1) := by decide +kernel
theorem dX2_plus_3 : decode cX2_plus 3 = .ok (.iload_n 3, 1) := by decide +kernel
theorem dX2_plus_4 : decode cX2_plus 4 = .ok (.iconst 1, 1) := by decide +kernel
theorem dX2_plus_5 : decode cX2_plus 5 = .ok (.invokevirtual 67, 3) := by decide +kernel
theorem dX2_plus_8 : decode cX2_plus 8 = .ok (.ireturn, 1) := by decide +kernel
theorem dX2_minus_0 : decode cX2_minus 0 = .ok (.aload_n 0, 1) := by decide +kernel
theorem dX2_minus_1 : decode cX2_minus 1 = .ok (.iload_n 1, 1) := by decide +kernel
theorem dX2_minus_2 : decode cX2_minus 2 = .ok (.iload_n 2, 1) := by decide +kernel
theorem dX2_minus_3 : decode cX2_minus 3 = .ok (.iload_n 3, 1) := by decide +kernel
theorem dX2_minus_4 : decode cX2_minus 4 = .ok (.iconst (-1), 1) := by decide +kernel
theorem dX2_minus_5 : decode cX2_minus 5 = .ok (.invokevirtual 67, 3) := by decide +kernel
theorem dX2_minus_8 : decode cX2_minus 8 = .ok (.ireturn, 1) := by decide +kernel
theorem dX2_times_0 : decode cX2_times 0 = .ok (.iload_n 1, 1) := by decide +kernel
theorem dX2_times_1 : decode cX2_times 1 = .ok (.invokestatic 42, 3) := by decide +kernel
theorem dX2_times_4 : decode cX2_times 4 = .ok (.ifCond .eq 17, 3) := by decide +kernel
theorem dX2_times_7 : decode cX2_times 7 = .ok (.iload_n 2, 1) := by decide +kernel
theorem dX2_times_8 : decode cX2_times 8 = .ok (.invokestatic 42, 3) := by decide +kernel
theorem dX2_times_11 : decode cX2_times 11 = .ok (.ifCond .eq 10, 3) := by decide +kernel
theorem dX2_times_14 : decode cX2_times 14 = .ok (.iload_n 3, 1) := by decide +kernel
theorem dX2_times_15 : decode cX2_times 15 = .ok (.invokestatic 42, 3) := by decide +kernel
theorem dX2_times_18 : decode cX2_times 18 = .ok (.ifCond .ne 5, 3) := by decide +kernel
theorem dX2_times_21 : decode cX2_times 21 = .ok (.iconst (-1), 1) := by decide +kernel
theorem dX2_times_22 : decode cX2_times 22 = .ok (.ireturn, 1) := by decide +kernel
theorem dX2_times_23 : decode cX2_times 23 = .ok (.aload_n 0, 1) := by decide +kernel
theorem dX2_times_24 : decode cX2_times 24 = .ok (.getfield 38, 3) := by decide +kernel
theorem dX2_times_27 : decode cX2_times 27 = .ok (.aload_n 0, 1) := by decide +kernel
theorem dX2_times_28 : decode cX2_times 28 = .ok (.getfield 14, 3) := by decide +kernel
theorem dX2_times_31 : decode cX2_times 31 = .ok (.iload_n 2, 1) := by decide +kernel
theorem dX2_times_32 : decode cX2_times 32 = .ok (.aaload, 1) := by decide +kernel
theorem dX2_times_33 : decode cX2_times 33 = .ok (.aload_n 0, 1) := by decide +kernel
theorem dX2_times_34 : decode cX2_times 34 = .ok (.getfield 14, 3) := by decide +kernel
theorem dX2_times_37 : decode cX2_times 37 = .ok (.iload_n 3, 1) := by decide +kernel
theorem dX2_times_38 : decode cX2_times 38 = .ok (.aaload, 1) := by decide +kernel
theorem dX2_times_39 : decode cX2_times 39 = .ok (.invokevirtual 71, 3) := by decide +kernel
theorem dX2_times_42 : decode cX2_times 42 = .ok (.ifCond .ne 6, 3) := by decide +kernel
theorem dX2_times_45 : decode cX2_times 45 = .ok (.bipush (-2), 2) := by decide +kernel
theorem dX2_times_47 : decode cX2_times 47 = .ok (.ireturn, 1) := by decide +kernel
theorem dX2_times_48 : decode cX2_times 48 = .ok (.aload_n 0, 1) := by decide +kernel
theorem dX2_times_49 : decode cX2_times 49 = .ok (.iload_n 1, 1) := by decide +kernel
theorem dX2_times_50 : decode cX2_times 50 = .ok (.aload_n 0, 1) := by decide +kernel
theorem dX2_times_51 : decode cX2_times 51 = .ok (.getfield 38, 3) := by decide +kernel
theorem dX2_times_54 : decode cX2_times 54 = .ok (.getfield 52, 3) := by decide +kernel
theorem dX2_times_57 : decode cX2_times 57 = .ok (.invokevirtual 56, 3) := by decide +kernel
theorem dX2_times_60 : decode cX2_times 60 = .ok (.ireturn, 1) := by decide +kernel
theorem dX2_put_0 : decode cX2_put 0 = .ok (.iload_n 1, 1) := by decide +kernel
theorem dX2_put_1 : decode cX2_put 1 = .ok (.invokestatic 42, 3) := by decide +kernel
theorem dX2_put_4 : decode cX2_put 4 = .ok (.ifCond .eq 10, 3) := by decide +kernel
theorem dX2_put_7 : decode cX2_put 7 = .ok (.iload_n 2, 1) := by decide +kernel
theorem dX2_put_8 : decode cX2_put 8 = .ok (.invokestatic 42, 3) := by decide +kernel
theorem dX2_put_11 : decode cX2_put 11 = .ok (.ifCond .ne 5, 3) := by decide +kernel
theorem dX2_put_14 : decode cX2_put 14 = .ok (.iconst (-1), 1) := by decide +kernel
theorem dX2_put_15 : decode cX2_put 15 = .ok (.ireturn, 1) := by decide +kernel
theorem dX2_put_16 : decode cX2_put 16 = .ok (.aload_n 0, 1) := by decide +kernel
theorem dX2_put_17 : decode cX2_put 17 = .ok (.getfield 14, 3) := by decide +kernel
theorem dX2_put_20 : decode cX2_put 20 = .ok (.iload_n 2, 1) := by decide +kernel
theorem dX2_put_21 : decode cX2_put 21 = .ok (.aaload, 1) := by decide +kernel
theorem dX2_put_22 : decode cX2_put 22 = .ok (.astore_n 3, 1) := by decide +kernel
theorem dX2_put_23 : decode cX2_put 23 = .ok (.aload_n 0, 1) := by decide +kernel
theorem dX2_put_24 : decode cX2_put 24 = .ok (.getfield 38, 3) := by decide +kernel
theorem dX2_put_27 : decode cX2_put 27 = .ok (.invokevirtual 75, 3) := by decide +kernel
theorem dX2_put_30 : decode cX2_put 30 = .ok (.iconst 0, 1) := by decide +kernel
theorem dX2_put_31 : decode cX2_put 31 = .ok (.istore 4, 2) := by decide +kernel
theorem dX2_put_33 : decode cX2_put 33 = .ok (.iload 4, 2) := by decide +kernel
theorem dX2_put_35 : decode cX2_put 35 = .ok (.aload_n 3, 1) := by decide +kernel
theorem dX2_put_36 : decode cX2_put 36 = .ok (.getfield 78, 3) := by decide +kernel
theorem dX2_put_39 : decode cX2_put 39 = .ok (.if_icmp .ge 32, 3) := by decide +kernel
theorem dX2_put_42 : decode cX2_put 42 = .ok (.aload_n 0, 1) := by decide +kernel
theorem dX2_put_43 : decode cX2_put 43 = .ok (.aload_n 3, 1) := by decide +kernel
theorem dX2_put_44 : decode cX2_put 44 = .ok (.iload 4, 2) := by decide +kernel
theorem dX2_put_46 : decode cX2_put 46 = .ok (.invokevirtual 81, 3) := by decide +kernel
theorem dX2_put_49 : decode cX2_put 49 = .ok (.ifCond .eq 13, 3) := by decide +kernel
theorem dX2_put_52 : decode cX2_put 52 = .ok (.aload_n 0, 1) := by decide +kernel
theorem dX2_put_53 : decode cX2_put 53 = .ok (.getfield 38, 3) := by decide +kernel
theorem dX2_put_56 : decode cX2_put 56 = .ok (.invokevirtual 85, 3) := by decide +kernel
theorem dX2_put_59 : decode cX2_put 59 = .ok (.ifCond .ne 6, 3) := by decide +kernel
theorem dX2_put_62 : decode cX2_put 62 = .ok (.bipush (-2), 2) := by decide +kernel
theorem dX2_put_64 : decode cX2_put 64 = .ok (.ireturn, 1) := by decide +kernel
theorem dX2_put_65 : decode cX2_put 65 = .ok (.iinc 4 1, 3) := by decide +kernel
theorem dX2_put_68 : decode cX2_put 68 = .ok (.goto (-35), 3) := by decide +kernel
theorem dX2_put_71 : decode cX2_put 71 = .ok (.aload_n 0, 1) := by decide +kernel
theorem dX2_put_72 : decode cX2_put 72 = .ok (.iload_n 1, 1) := by decide +kernel
theorem dX2_put_73 : decode cX2_put 73 = .ok (.aload_n 0, 1) := by decide +kernel
theorem dX2_put_74 : decode cX2_put 74 = .ok (.getfield 38, 3) := by decide +kernel
theorem dX2_put_77 : decode cX2_put 77 = .ok (.getfield 89, 3) := by decide +kernel
theorem dX2_put_80 : decode cX2_put 80 = .ok (.invokevirtual 56, 3) := by decide +kernel
theorem dX2_put_83 : decode cX2_put 83 = .ok (.ireturn, 1) := by decide +kernel
theorem dX2_size_0 : decode cX2_size 0 = .ok (.iload_n 1, 1) := by decide +kernel
theorem dX2_size_1 : decode cX2_size 1 = .ok (.invokestatic 42, 3) := by decide +kernel
theorem dX2_size_4 : decode cX2_size 4 = .ok (.ifCond .eq 15, 3) := by decide +kernel
theorem dX2_size_7 : decode cX2_size 7 = .ok (.aload_n 0, 1) := by decide +kernel
theorem dX2_size_8 : decode cX2_size 8 = .ok (.getfield 14, 3) := by decide +kernel
theorem dX2_size_11 : decode cX2_size 11 = .ok (.iload_n 1, 1) := by decide +kernel
theorem dX2_size_12 : decode cX2_size 12 = .ok (.aaload, 1) := by decide +kernel
theorem dX2_size_13 : decode cX2_size 13 = .ok (.getfield 78, 3) := by decide +kernel
theorem dX2_size_16 : decode cX2_size 16 = .ok (.goto 4, 3) := by decide +kernel
theorem dX2_size_19 : decode cX2_size 19 = .ok (.iconst (-1), 1) := by decide +kernel
theorem dX2_size_20 : decode cX2_size 20 = .ok (.ireturn, 1) := by decide +kernel
theorem dX2_term_0 : decode cX2_term 0 = .ok (.iload_n 1, 1) := by decide +kernel
theorem dX2_term_1 : decode cX2_term 1 = .ok (.invokestatic 42, 3) := by decide +kernel
theorem dX2_term_4 : decode cX2_term 4 = .ok (.ifCond .ne 5, 3) := by decide +kernel
theorem dX2_term_7 : decode cX2_term 7 = .ok (.iconst 0, 1) := by decide +kernel
theorem dX2_term_8 : decode cX2_term 8 = .ok (.ireturn, 1) := by decide +kernel
theorem dX2_term_9 : decode cX2_term 9 = .ok (.iload_n 3, 1) := by decide +kernel
theorem dX2_term_10 : decode cX2_term 10 = .ok (.iconst (-1), 1) := by decide +kernel
theorem dX2_term_11 : decode cX2_term 11 = .ok (.if_icmp .ne 14, 3) := by decide +kernel
theorem dX2_term_14 : decode cX2_term 14 = .ok (.aload_n 0, 1) := by decide +kernel
theorem dX2_term_15 : decode cX2_term 15 = .ok (.getfield 14, 3) := by decide +kernel
theorem dX2_term_18 : decode cX2_term 18 = .ok (.iload_n 1, 1) := by decide +kernel
theorem dX2_term_19 : decode cX2_term 19 = .ok (.aaload, 1) := by decide +kernel
theorem dX2_term_20 : decode cX2_term 20 = .ok (.iload_n 2, 1) := by decide +kernel
theorem dX2_term_21 : decode cX2_term 21 = .ok (.invokevirtual 92, 3) := by decide +kernel
theorem dX2_term_24 : decode cX2_term 24 = .ok (.ireturn, 1) := by decide +kernel
theorem dX2_term_25 : decode cX2_term 25 = .ok (.aload_n 0, 1) := by decide +kernel
theorem dX2_term_26 : decode cX2_term 26 = .ok (.getfield 14, 3) := by decide +kernel
theorem dX2_term_29 : decode cX2_term 29 = .ok (.iload_n 1, 1) := by decide +kernel
theorem dX2_term_30 : decode cX2_term 30 = .ok (.aaload, 1) := by decide +kernel
theorem dX2_term_31 : decode cX2_term 31 = .ok (.iload_n 2, 1) := by decide +kernel
theorem dX2_term_32 : decode cX2_term 32 = .ok (.iload_n 3, 1) := by decide +kernel
theorem dX2_term_33 : decode cX2_term 33 = .ok (.invokevirtual 96, 3) := by decide +kernel
theorem dX2_term_36 : decode cX2_term 36 = .ok (.ireturn, 1) := by decide +kernel
theorem dX2_same_0 : decode cX2_same 0 = .ok (.iload_n 1, 1) := by decide +kernel
theorem dX2_same_1 : decode cX2_same 1 = .ok (.invokestatic 42, 3) := by decide +kernel
theorem dX2_same_4 : decode cX2_same 4 = .ok (.ifCond .eq 10, 3) := by decide +kernel
theorem dX2_same_7 : decode cX2_same 7 = .ok (.iload_n 2, 1) := by decide +kernel
theorem dX2_same_8 : decode cX2_same 8 = .ok (.invokestatic 42, 3) := by decide +kernel
theorem dX2_same_11 : decode cX2_same 11 = .ok (.ifCond .ne 5, 3) := by decide +kernel
theorem dX2_same_14 : decode cX2_same 14 = .ok (.iconst (-1), 1) := by decide +kernel
theorem dX2_same_15 : decode cX2_same 15 = .ok (.ireturn, 1) := by decide +kernel
theorem dX2_same_16 : decode cX2_same 16 = .ok (.aload_n 0, 1) := by decide +kernel
theorem dX2_same_17 : decode cX2_same 17 = .ok (.getfield 14, 3) := by decide +kernel
theorem dX2_same_20 : decode cX2_same 20 = .ok (.iload_n 1, 1) := by decide +kernel
theorem dX2_same_21 : decode cX2_same 21 = .ok (.aaload, 1) := by decide +kernel
theorem dX2_same_22 : decode cX2_same 22 = .ok (.aload_n 0, 1) := by decide +kernel
theorem dX2_same_23 : decode cX2_same 23 = .ok (.getfield 14, 3) := by decide +kernel
theorem dX2_same_26 : decode cX2_same 26 = .ok (.iload_n 2, 1) := by decide +kernel
theorem dX2_same_27 : decode cX2_same 27 = .ok (.aaload, 1) := by decide +kernel
theorem dX2_same_28 : decode cX2_same 28 = .ok (.invokevirtual 100, 3) := by decide +kernel
theorem dX2_same_31 : decode cX2_same 31 = .ok (.ifCond .eq 7, 3) := by decide +kernel
theorem dX2_same_34 : decode cX2_same 34 = .ok (.iconst 1, 1) := by decide +kernel
theorem dX2_same_35 : decode cX2_same 35 = .ok (.goto 4, 3) := by decide +kernel
theorem dX2_same_38 : decode cX2_same 38 = .ok (.iconst 0, 1) := by decide +kernel
theorem dX2_same_39 : decode cX2_same 39 = .ok (.ireturn, 1) := by decide +kernel
theorem dX2_value_0 : decode cX2_value 0 = .ok (.iload_n 1, 1) := by decide +kernel
theorem dX2_value_1 : decode cX2_value 1 = .ok (.invokestatic 42, 3) := by decide +kernel
theorem dX2_value_4 : decode cX2_value 4 = .ok (.ifCond .eq 16, 3) := by decide +kernel
theorem dX2_value_7 : decode cX2_value 7 = .ok (.aload_n 0, 1) := by decide +kernel
theorem dX2_value_8 : decode cX2_value 8 = .ok (.getfield 14, 3) := by decide +kernel
theorem dX2_value_11 : decode cX2_value 11 = .ok (.iload_n 1, 1) := by decide +kernel
theorem dX2_value_12 : decode cX2_value 12 = .ok (.aaload, 1) := by decide +kernel
theorem dX2_value_13 : decode cX2_value 13 = .ok (.iload_n 2, 1) := by decide +kernel
theorem dX2_value_14 : decode cX2_value 14 = .ok (.invokevirtual 104, 3) := by decide +kernel
theorem dX2_value_17 : decode cX2_value 17 = .ok (.goto 4, 3) := by decide +kernel
theorem dX2_value_20 : decode cX2_value 20 = .ok (.lconst 0, 1) := by decide +kernel
theorem dX2_value_21 : decode cX2_value 21 = .ok (.lreturn, 1) := by decide +kernel
theorem dX2_hypothesis_0 : decode cX2_hypothesis 0 = .ok (.iload_n 1, 1) := by decide +kernel
theorem dX2_hypothesis_1 : decode cX2_hypothesis 1 = .ok (.invokestatic 42, 3) := by decide +kernel
theorem dX2_hypothesis_4 : decode cX2_hypothesis 4 = .ok (.ifCond .eq 12, 3) := by decide +kernel
theorem dX2_hypothesis_7 : decode cX2_hypothesis 7 = .ok (.aload_n 0, 1) := by decide +kernel
theorem dX2_hypothesis_8 : decode cX2_hypothesis 8 = .ok (.getfield 21, 3) := by decide +kernel
theorem dX2_hypothesis_11 : decode cX2_hypothesis 11 = .ok (.bipush 40, 2) := by decide +kernel
theorem dX2_hypothesis_13 : decode cX2_hypothesis 13 = .ok (.if_icmp .lt 5, 3) := by decide +kernel
theorem dX2_hypothesis_16 : decode cX2_hypothesis 16 = .ok (.iconst (-1), 1) := by decide +kernel
theorem dX2_hypothesis_17 : decode cX2_hypothesis 17 = .ok (.ireturn, 1) := by decide +kernel
theorem dX2_hypothesis_18 : decode cX2_hypothesis 18 = .ok (.aload_n 0, 1) := by decide +kernel
theorem dX2_hypothesis_19 : decode cX2_hypothesis 19 = .ok (.getfield 18, 3) := by decide +kernel
theorem dX2_hypothesis_22 : decode cX2_hypothesis 22 = .ok (.aload_n 0, 1) := by decide +kernel
theorem dX2_hypothesis_23 : decode cX2_hypothesis 23 = .ok (.getfield 21, 3) := by decide +kernel
theorem dX2_hypothesis_26 : decode cX2_hypothesis 26 = .ok (.aload_n 0, 1) := by decide +kernel
theorem dX2_hypothesis_27 : decode cX2_hypothesis 27 = .ok (.getfield 14, 3) := by decide +kernel
theorem dX2_hypothesis_30 : decode cX2_hypothesis 30 = .ok (.iload_n 1, 1) := by decide +kernel
theorem dX2_hypothesis_31 : decode cX2_hypothesis 31 = .ok (.aaload, 1) := by decide +kernel
theorem dX2_hypothesis_32 : decode cX2_hypothesis 32 = .ok (.aastore, 1) := by decide +kernel
theorem dX2_hypothesis_33 : decode cX2_hypothesis 33 = .ok (.aload_n 0, 1) := by decide +kernel
theorem dX2_hypothesis_34 : decode cX2_hypothesis 34 = .ok (.dup, 1) := by decide +kernel
theorem dX2_hypothesis_35 : decode cX2_hypothesis 35 = .ok (.getfield 21, 3) := by decide +kernel
theorem dX2_hypothesis_38 : decode cX2_hypothesis 38 = .ok (.iconst 1, 1) := by decide +kernel
theorem dX2_hypothesis_39 : decode cX2_hypothesis 39 = .ok (.iadd, 1) := by decide +kernel
theorem dX2_hypothesis_40 : decode cX2_hypothesis 40 = .ok (.putfield 21, 3) := by decide +kernel
theorem dX2_hypothesis_43 : decode cX2_hypothesis 43 = .ok (.aload_n 0, 1) := by decide +kernel
theorem dX2_hypothesis_44 : decode cX2_hypothesis 44 = .ok (.getfield 21, 3) := by decide +kernel
theorem dX2_hypothesis_47 : decode cX2_hypothesis 47 = .ok (.iconst 1, 1) := by decide +kernel
theorem dX2_hypothesis_48 : decode cX2_hypothesis 48 = .ok (.isub, 1) := by decide +kernel
theorem dX2_hypothesis_49 : decode cX2_hypothesis 49 = .ok (.ireturn, 1) := by decide +kernel
theorem dX2_keep_0 : decode cX2_keep 0 = .ok (.iload_n 1, 1) := by decide +kernel
theorem dX2_keep_1 : decode cX2_keep 1 = .ok (.ifCond .lt 11, 3) := by decide +kernel
theorem dX2_keep_4 : decode cX2_keep 4 = .ok (.iload_n 1, 1) := by decide +kernel
theorem dX2_keep_5 : decode cX2_keep 5 = .ok (.aload_n 0, 1) := by decide +kernel
theorem dX2_keep_6 : decode cX2_keep 6 = .ok (.getfield 21, 3) := by decide +kernel
theorem dX2_keep_9 : decode cX2_keep 9 = .ok (.if_icmp .le 5, 3) := by decide +kernel
theorem dX2_keep_12 : decode cX2_keep 12 = .ok (.iconst (-1), 1) := by decide +kernel
theorem dX2_keep_13 : decode cX2_keep 13 = .ok (.ireturn, 1) := by decide +kernel
theorem dX2_keep_14 : decode cX2_keep 14 = .ok (.aload_n 0, 1) := by decide +kernel
theorem dX2_keep_15 : decode cX2_keep 15 = .ok (.iload_n 1, 1) := by decide +kernel
theorem dX2_keep_16 : decode cX2_keep 16 = .ok (.putfield 21, 3) := by decide +kernel
theorem dX2_keep_19 : decode cX2_keep 19 = .ok (.iload_n 1, 1) := by decide +kernel
theorem dX2_keep_20 : decode cX2_keep 20 = .ok (.ireturn, 1) := by decide +kernel
theorem dX2_part_0 : decode cX2_part 0 = .ok (.iload_n 1, 1) := by decide +kernel
theorem dX2_part_1 : decode cX2_part 1 = .ok (.ifCond .lt 18, 3) := by decide +kernel
theorem dX2_part_4 : decode cX2_part 4 = .ok (.iload_n 1, 1) := by decide +kernel
theorem dX2_part_5 : decode cX2_part 5 = .ok (.ldc 46, 2) := by decide +kernel
theorem dX2_part_7 : decode cX2_part 7 = .ok (.if_icmp .gt 12, 3) := by decide +kernel
theorem dX2_part_10 : decode cX2_part 10 = .ok (.aload_n 0, 1) := by decide +kernel
theorem dX2_part_11 : decode cX2_part 11 = .ok (.getfield 32, 3) := by decide +kernel
theorem dX2_part_14 : decode cX2_part 14 = .ok (.bipush 20, 2) := by decide +kernel
theorem dX2_part_16 : decode cX2_part 16 = .ok (.if_icmp .lt 5, 3) := by decide +kernel
theorem dX2_part_19 : decode cX2_part 19 = .ok (.iconst (-1), 1) := by decide +kernel
theorem dX2_part_20 : decode cX2_part 20 = .ok (.ireturn, 1) := by decide +kernel
theorem dX2_part_21 : decode cX2_part 21 = .ok (.iload_n 2, 1) := by decide +kernel
theorem dX2_part_22 : decode cX2_part 22 = .ok (.iconst (-1), 1) := by decide +kernel
theorem dX2_part_23 : decode cX2_part 23 = .ok (.if_icmp .lt 20, 3) := by decide +kernel
theorem dX2_part_26 : decode cX2_part 26 = .ok (.iload_n 3, 1) := by decide +kernel
theorem dX2_part_27 : decode cX2_part 27 = .ok (.iconst (-1), 1) := by decide +kernel
theorem dX2_part_28 : decode cX2_part 28 = .ok (.if_icmp .lt 15, 3) := by decide +kernel
theorem dX2_part_31 : decode cX2_part 31 = .ok (.iload 4, 2) := by decide +kernel
theorem dX2_part_33 : decode cX2_part 33 = .ok (.iconst (-1), 1) := by decide +kernel
theorem dX2_part_34 : decode cX2_part 34 = .ok (.if_icmp .lt 9, 3) := by decide +kernel
theorem dX2_part_37 : decode cX2_part 37 = .ok (.iload 5, 2) := by decide +kernel
theorem dX2_part_39 : decode cX2_part 39 = .ok (.iconst (-1), 1) := by decide +kernel
theorem dX2_part_40 : decode cX2_part 40 = .ok (.if_icmp .ge 5, 3) := by decide +kernel
theorem dX2_part_43 : decode cX2_part 43 = .ok (.iconst (-1), 1) := by decide +kernel
theorem dX2_part_44 : decode cX2_part 44 = .ok (.ireturn, 1) := by decide +kernel
theorem dX2_part_45 : decode cX2_part 45 = .ok (.aload_n 0, 1) := by decide +kernel
theorem dX2_part_46 : decode cX2_part 46 = .ok (.getfield 32, 3) := by decide +kernel
theorem dX2_part_49 : decode cX2_part 49 = .ok (.iconst 4, 1) := by decide +kernel
theorem dX2_part_50 : decode cX2_part 50 = .ok (.imul, 1) := by decide +kernel
theorem dX2_part_51 : decode cX2_part 51 = .ok (.istore 6, 2) := by decide +kernel
theorem dX2_part_53 : decode cX2_part 53 = .ok (.aload_n 0, 1) := by decide +kernel
theorem dX2_part_54 : decode cX2_part 54 = .ok (.getfield 29, 3) := by decide +kernel
theorem dX2_part_57 : decode cX2_part 57 = .ok (.iload 6, 2) := by decide +kernel
theorem dX2_part_59 : decode cX2_part 59 = .ok (.iload_n 2, 1) := by decide +kernel
theorem dX2_part_60 : decode cX2_part 60 = .ok (.iastore, 1) := by decide +kernel
theorem dX2_part_61 : decode cX2_part 61 = .ok (.aload_n 0, 1) := by decide +kernel
theorem dX2_part_62 : decode cX2_part 62 = .ok (.getfield 29, 3) := by decide +kernel
theorem dX2_part_65 : decode cX2_part 65 = .ok (.iload 6, 2) := by decide +kernel
theorem dX2_part_67 : decode cX2_part 67 = .ok (.iconst 1, 1) := by decide +kernel
theorem dX2_part_68 : decode cX2_part 68 = .ok (.iadd, 1) := by decide +kernel
theorem dX2_part_69 : decode cX2_part 69 = .ok (.iload_n 3, 1) := by decide +kernel
theorem dX2_part_70 : decode cX2_part 70 = .ok (.iastore, 1) := by decide +kernel
theorem dX2_part_71 : decode cX2_part 71 = .ok (.aload_n 0, 1) := by decide +kernel
theorem dX2_part_72 : decode cX2_part 72 = .ok (.getfield 29, 3) := by decide +kernel
theorem dX2_part_75 : decode cX2_part 75 = .ok (.iload 6, 2) := by decide +kernel
theorem dX2_part_77 : decode cX2_part 77 = .ok (.iconst 2, 1) := by decide +kernel
theorem dX2_part_78 : decode cX2_part 78 = .ok (.iadd, 1) := by decide +kernel
theorem dX2_part_79 : decode cX2_part 79 = .ok (.iload 4, 2) := by decide +kernel
theorem dX2_part_81 : decode cX2_part 81 = .ok (.iastore, 1) := by decide +kernel
theorem dX2_part_82 : decode cX2_part 82 = .ok (.aload_n 0, 1) := by decide +kernel
theorem dX2_part_83 : decode cX2_part 83 = .ok (.getfield 29, 3) := by decide +kernel
theorem dX2_part_86 : decode cX2_part 86 = .ok (.iload 6, 2) := by decide +kernel
theorem dX2_part_88 : decode cX2_part 88 = .ok (.iconst 3, 1) := by decide +kernel
theorem dX2_part_89 : decode cX2_part 89 = .ok (.iadd, 1) := by decide +kernel
theorem dX2_part_90 : decode cX2_part 90 = .ok (.iload 5, 2) := by decide +kernel
theorem dX2_part_92 : decode cX2_part 92 = .ok (.iastore, 1) := by decide +kernel
theorem dX2_part_93 : decode cX2_part 93 = .ok (.aload_n 0, 1) := by decide +kernel
theorem dX2_part_94 : decode cX2_part 94 = .ok (.getfield 25, 3) := by decide +kernel
theorem dX2_part_97 : decode cX2_part 97 = .ok (.aload_n 0, 1) := by decide +kernel
theorem dX2_part_98 : decode cX2_part 98 = .ok (.getfield 32, 3) := by decide +kernel
theorem dX2_part_101 : decode cX2_part 101 = .ok (.iload_n 1, 1) := by decide +kernel
theorem dX2_part_102 : decode cX2_part 102 = .ok (.iastore, 1) := by decide +kernel
theorem dX2_part_103 : decode cX2_part 103 = .ok (.aload_n 0, 1) := by decide +kernel
theorem dX2_part_104 : decode cX2_part 104 = .ok (.dup, 1) := by decide +kernel
theorem dX2_part_105 : decode cX2_part 105 = .ok (.getfield 32, 3) := by decide +kernel
theorem dX2_part_108 : decode cX2_part 108 = .ok (.iconst 1, 1) := by decide +kernel
theorem dX2_part_109 : decode cX2_part 109 = .ok (.iadd, 1) := by decide +kernel
theorem dX2_part_110 : decode cX2_part 110 = .ok (.putfield 32, 3) := by decide +kernel
theorem dX2_part_113 : decode cX2_part 113 = .ok (.aload_n 0, 1) := by decide +kernel
theorem dX2_part_114 : decode cX2_part 114 = .ok (.getfield 32, 3) := by decide +kernel
theorem dX2_part_117 : decode cX2_part 117 = .ok (.ireturn, 1) := by decide +kernel
theorem dX2_show_0 : decode cX2_show 0 = .ok (.iload_n 1, 1) := by decide +kernel
theorem dX2_show_1 : decode cX2_show 1 = .ok (.invokestatic 42, 3) := by decide +kernel
theorem dX2_show_4 : decode cX2_show 4 = .ok (.ifCond .eq 14, 3) := by decide +kernel
theorem dX2_show_7 : decode cX2_show 7 = .ok (.iload_n 2, 1) := by decide +kernel
theorem dX2_show_8 : decode cX2_show 8 = .ok (.iconst 1, 1) := by decide +kernel
theorem dX2_show_9 : decode cX2_show 9 = .ok (.if_icmp .lt 9, 3) := by decide +kernel
theorem dX2_show_12 : decode cX2_show 12 = .ok (.iload_n 2, 1) := by decide +kernel
theorem dX2_show_13 : decode cX2_show 13 = .ok (.ldc 46, 2) := by decide +kernel
theorem dX2_show_15 : decode cX2_show 15 = .ok (.if_icmp .le 5, 3) := by decide +kernel
theorem dX2_show_18 : decode cX2_show 18 = .ok (.iconst (-1), 1) := by decide +kernel
theorem dX2_show_19 : decode cX2_show 19 = .ok (.ireturn, 1) := by decide +kernel
theorem dX2_show_20 : decode cX2_show 20 = .ok (.aload_n 0, 1) := by decide +kernel
theorem dX2_show_21 : decode cX2_show 21 = .ok (.aload_n 0, 1) := by decide +kernel
theorem dX2_show_22 : decode cX2_show 22 = .ok (.getfield 14, 3) := by decide +kernel
theorem dX2_show_25 : decode cX2_show 25 = .ok (.iload_n 1, 1) := by decide +kernel
theorem dX2_show_26 : decode cX2_show 26 = .ok (.aaload, 1) := by decide +kernel
theorem dX2_show_27 : decode cX2_show 27 = .ok (.iload_n 2, 1) := by decide +kernel
theorem dX2_show_28 : decode cX2_show 28 = .ok (.invokevirtual 107, 3) := by decide +kernel
theorem dX2_show_31 : decode cX2_show 31 = .ok (.istore_n 3, 1) := by decide +kernel
theorem dX2_show_32 : decode cX2_show 32 = .ok (.aload_n 0, 1) := by decide +kernel
theorem dX2_show_33 : decode cX2_show 33 = .ok (.iconst 0, 1) := by decide +kernel
theorem dX2_show_34 : decode cX2_show 34 = .ok (.putfield 32, 3) := by decide +kernel
theorem dX2_show_37 : decode cX2_show 37 = .ok (.iload_n 3, 1) := by decide +kernel
theorem dX2_show_38 : decode cX2_show 38 = .ok (.ireturn, 1) := by decide +kernel
theorem dX2_count_0 : decode cX2_count 0 = .ok (.iload_n 1, 1) := by decide +kernel
theorem dX2_count_1 : decode cX2_count 1 = .ok (.ifCond .ne 8, 3) := by decide +kernel
theorem dX2_count_4 : decode cX2_count 4 = .ok (.aload_n 0, 1) := by decide +kernel
theorem dX2_count_5 : decode cX2_count 5 = .ok (.getfield 21, 3) := by decide +kernel
theorem dX2_count_8 : decode cX2_count 8 = .ok (.ireturn, 1) := by decide +kernel
theorem dX2_count_9 : decode cX2_count 9 = .ok (.iload_n 1, 1) := by decide +kernel
theorem dX2_count_10 : decode cX2_count 10 = .ok (.iconst 1, 1) := by decide +kernel
theorem dX2_count_11 : decode cX2_count 11 = .ok (.if_icmp .ne 10, 3) := by decide +kernel
theorem dX2_count_14 : decode cX2_count 14 = .ok (.aload_n 0, 1) := by decide +kernel
theorem dX2_count_15 : decode cX2_count 15 = .ok (.getfield 32, 3) := by decide +kernel
theorem dX2_count_18 : decode cX2_count 18 = .ok (.goto 4, 3) := by decide +kernel
theorem dX2_count_21 : decode cX2_count 21 = .ok (.iconst (-1), 1) := by decide +kernel
theorem dX2_count_22 : decode cX2_count 22 = .ok (.ireturn, 1) := by decide +kernel
theorem dX2_isRegister_0 : decode cX2_isRegister 0 = .ok (.iload_n 0, 1) := by decide +kernel
theorem dX2_isRegister_1 : decode cX2_isRegister 1 = .ok (.ifCond .lt 13, 3) := by decide +kernel
theorem dX2_isRegister_4 : decode cX2_isRegister 4 = .ok (.iload_n 0, 1) := by decide +kernel
theorem dX2_isRegister_5 : decode cX2_isRegister 5 = .ok (.bipush 16, 2) := by decide +kernel
theorem dX2_isRegister_7 : decode cX2_isRegister 7 = .ok (.if_icmp .ge 7, 3) := by decide +kernel
theorem dX2_isRegister_10 : decode cX2_isRegister 10 = .ok (.iconst 1, 1) := by decide +kernel
theorem dX2_isRegister_11 : decode cX2_isRegister 11 = .ok (.goto 4, 3) := by decide +kernel
theorem dX2_isRegister_14 : decode cX2_isRegister 14 = .ok (.iconst 0, 1) := by decide +kernel
theorem dX2_isRegister_15 : decode cX2_isRegister 15 = .ok (.ireturn, 1) := by decide +kernel
theorem dX2_isSymbol_0 : decode cX2_isSymbol 0 = .ok (.iload_n 0, 1) := by decide +kernel
theorem dX2_isSymbol_1 : decode cX2_isSymbol 1 = .ok (.ifCond .lt 13, 3) := by decide +kernel
theorem dX2_isSymbol_4 : decode cX2_isSymbol 4 = .ok (.iload_n 0, 1) := by decide +kernel
theorem dX2_isSymbol_5 : decode cX2_isSymbol 5 = .ok (.bipush 16, 2) := by decide +kernel
theorem dX2_isSymbol_7 : decode cX2_isSymbol 7 = .ok (.if_icmp .ge 7, 3) := by decide +kernel
theorem dX2_isSymbol_10 : decode cX2_isSymbol 10 = .ok (.iconst 1, 1) := by decide +kernel
theorem dX2_isSymbol_11 : decode cX2_isSymbol 11 = .ok (.goto 4, 3) := by decide +kernel
theorem dX2_isSymbol_14 : decode cX2_isSymbol 14 = .ok (.iconst 0, 1) := by decide +kernel
theorem dX2_isSymbol_15 : decode cX2_isSymbol 15 = .ok (.ireturn, 1) := by decide +kernel
theorem dX2_symbolCode_0 : decode cX2_symbolCode 0 = .ok (.lconst 1, 1) := by decide +kernel
theorem dX2_symbolCode_1 : decode cX2_symbolCode 1 = .ok (.lstore_n 1, 1) := by decide +kernel
theorem dX2_symbolCode_2 : decode cX2_symbolCode 2 = .ok (.iload_n 0, 1) := by decide +kernel
theorem dX2_symbolCode_3 : decode cX2_symbolCode 3 = .ok (.iconst 1, 1) := by decide +kernel
theorem dX2_symbolCode_4 : decode cX2_symbolCode 4 = .ok (.iadd, 1) := by decide +kernel
theorem dX2_symbolCode_5 : decode cX2_symbolCode 5 = .ok (.istore_n 3, 1) := by decide +kernel
theorem dX2_symbolCode_6 : decode cX2_symbolCode 6 = .ok (.iload_n 3, 1) := by decide +kernel
theorem dX2_symbolCode_7 : decode cX2_symbolCode 7 = .ok (.bipush 16, 2) := by decide +kernel
theorem dX2_symbolCode_9 : decode cX2_symbolCode 9 = .ok (.if_icmp .ge 15, 3) := by decide +kernel
theorem dX2_symbolCode_12 : decode cX2_symbolCode 12 = .ok (.lload_n 1, 1) := by decide +kernel
theorem dX2_symbolCode_13 : decode cX2_symbolCode 13 = .ok (.ldc2_w 111, 3) := by decide +kernel
theorem dX2_symbolCode_16 : decode cX2_symbolCode 16 = .ok (.lmul, 1) := by decide +kernel
theorem dX2_symbolCode_17 : decode cX2_symbolCode 17 = .ok (.lstore_n 1, 1) := by decide +kernel
theorem dX2_symbolCode_18 : decode cX2_symbolCode 18 = .ok (.iinc 3 1, 3) := by decide +kernel
theorem dX2_symbolCode_21 : decode cX2_symbolCode 21 = .ok (.goto (-15), 3) := by decide +kernel
theorem dX2_symbolCode_24 : decode cX2_symbolCode 24 = .ok (.ldc2_w 113, 3) := by decide +kernel
theorem dX2_symbolCode_27 : decode cX2_symbolCode 27 = .ok (.lload_n 1, 1) := by decide +kernel
theorem dX2_symbolCode_28 : decode cX2_symbolCode 28 = .ok (.ladd, 1) := by decide +kernel
theorem dX2_symbolCode_29 : decode cX2_symbolCode 29 = .ok (.lreturn, 1) := by decide +kernel
theorem dX2_store_0 : decode cX2_store 0 = .ok (.aload_n 0, 1) := by decide +kernel
theorem dX2_store_1 : decode cX2_store 1 = .ok (.getfield 14, 3) := by decide +kernel
theorem dX2_store_4 : decode cX2_store 4 = .ok (.iload_n 1, 1) := by decide +kernel
theorem dX2_store_5 : decode cX2_store 5 = .ok (.aload_n 2, 1) := by decide +kernel
theorem dX2_store_6 : decode cX2_store 6 = .ok (.invokevirtual 115, 3) := by decide +kernel
theorem dX2_store_9 : decode cX2_store 9 = .ok (.aastore, 1) := by decide +kernel
theorem dX2_store_10 : decode cX2_store 10 = .ok (.aload_n 2, 1) := by decide +kernel
theorem dX2_store_11 : decode cX2_store 11 = .ok (.getfield 78, 3) := by decide +kernel
theorem dX2_store_14 : decode cX2_store 14 = .ok (.ireturn, 1) := by decide +kernel
theorem dX2_combine_0 : decode cX2_combine 0 = .ok (.iload_n 1, 1) := by decide +kernel
theorem dX2_combine_1 : decode cX2_combine 1 = .ok (.invokestatic 42, 3) := by decide +kernel
theorem dX2_combine_4 : decode cX2_combine 4 = .ok (.ifCond .eq 17, 3) := by decide +kernel
theorem dX2_combine_7 : decode cX2_combine 7 = .ok (.iload_n 2, 1) := by decide +kernel
theorem dX2_combine_8 : decode cX2_combine 8 = .ok (.invokestatic 42, 3) := by decide +kernel
theorem dX2_combine_11 : decode cX2_combine 11 = .ok (.ifCond .eq 10, 3) := by decide +kernel
theorem dX2_combine_14 : decode cX2_combine 14 = .ok (.iload_n 3, 1) := by decide +kernel
theorem dX2_combine_15 : decode cX2_combine 15 = .ok (.invokestatic 42, 3) := by decide +kernel
theorem dX2_combine_18 : decode cX2_combine 18 = .ok (.ifCond .ne 5, 3) := by decide +kernel
theorem dX2_combine_21 : decode cX2_combine 21 = .ok (.iconst (-1), 1) := by decide +kernel
theorem dX2_combine_22 : decode cX2_combine 22 = .ok (.ireturn, 1) := by decide +kernel
theorem dX2_combine_23 : decode cX2_combine 23 = .ok (.aload_n 0, 1) := by decide +kernel
theorem dX2_combine_24 : decode cX2_combine 24 = .ok (.getfield 38, 3) := by decide +kernel
theorem dX2_combine_27 : decode cX2_combine 27 = .ok (.aload_n 0, 1) := by decide +kernel
theorem dX2_combine_28 : decode cX2_combine 28 = .ok (.getfield 14, 3) := by decide +kernel
theorem dX2_combine_31 : decode cX2_combine 31 = .ok (.iload_n 2, 1) := by decide +kernel
theorem dX2_combine_32 : decode cX2_combine 32 = .ok (.aaload, 1) := by decide +kernel
theorem dX2_combine_33 : decode cX2_combine 33 = .ok (.aload_n 0, 1) := by decide +kernel
theorem dX2_combine_34 : decode cX2_combine 34 = .ok (.getfield 14, 3) := by decide +kernel
theorem dX2_combine_37 : decode cX2_combine 37 = .ok (.iload_n 3, 1) := by decide +kernel
theorem dX2_combine_38 : decode cX2_combine 38 = .ok (.aaload, 1) := by decide +kernel
theorem dX2_combine_39 : decode cX2_combine 39 = .ok (.iload 4, 2) := by decide +kernel
theorem dX2_combine_41 : decode cX2_combine 41 = .ok (.invokevirtual 119, 3) := by decide +kernel
theorem dX2_combine_44 : decode cX2_combine 44 = .ok (.ifCond .ne 6, 3) := by decide +kernel
theorem dX2_combine_47 : decode cX2_combine 47 = .ok (.bipush (-2), 2) := by decide +kernel
theorem dX2_combine_49 : decode cX2_combine 49 = .ok (.ireturn, 1) := by decide +kernel
theorem dX2_combine_50 : decode cX2_combine 50 = .ok (.aload_n 0, 1) := by decide +kernel
theorem dX2_combine_51 : decode cX2_combine 51 = .ok (.iload_n 1, 1) := by decide +kernel
theorem dX2_combine_52 : decode cX2_combine 52 = .ok (.aload_n 0, 1) := by decide +kernel
theorem dX2_combine_53 : decode cX2_combine 53 = .ok (.getfield 38, 3) := by decide +kernel
theorem dX2_combine_56 : decode cX2_combine 56 = .ok (.getfield 89, 3) := by decide +kernel
theorem dX2_combine_59 : decode cX2_combine 59 = .ok (.invokevirtual 56, 3) := by decide +kernel
theorem dX2_combine_62 : decode cX2_combine 62 = .ok (.ireturn, 1) := by decide +kernel
theorem dX2_workTerm_0 : decode cX2_workTerm 0 = .ok (.aload_n 0, 1) := by decide +kernel
theorem dX2_workTerm_1 : decode cX2_workTerm 1 = .ok (.getfield 38, 3) := by decide +kernel
theorem dX2_workTerm_4 : decode cX2_workTerm 4 = .ok (.lconst 0, 1) := by decide +kernel
theorem dX2_workTerm_5 : decode cX2_workTerm 5 = .ok (.aload_n 1, 1) := by decide +kernel
theorem dX2_workTerm_6 : decode cX2_workTerm 6 = .ok (.iload_n 2, 1) := by decide +kernel
theorem dX2_workTerm_7 : decode cX2_workTerm 7 = .ok (.invokevirtual 92, 3) := by decide +kernel
theorem dX2_workTerm_10 : decode cX2_workTerm 10 = .ok (.invokevirtual 48, 3) := by decide +kernel
theorem dX2_workTerm_13 : decode cX2_workTerm 13 = .ok (.iconst 0, 1) := by decide +kernel
theorem dX2_workTerm_14 : decode cX2_workTerm 14 = .ok (.istore_n 3, 1) := by decide +kernel
theorem dX2_workTerm_15 : decode cX2_workTerm 15 = .ok (.iload_n 3, 1) := by decide +kernel
theorem dX2_workTerm_16 : decode cX2_workTerm 16 = .ok (.bipush 16, 2) := by decide +kernel
theorem dX2_workTerm_18 : decode cX2_workTerm 18 = .ok (.if_icmp .ge 51, 3) := by decide +kernel
theorem dX2_workTerm_21 : decode cX2_workTerm 21 = .ok (.aload_n 1, 1) := by decide +kernel
theorem dX2_workTerm_22 : decode cX2_workTerm 22 = .ok (.iload_n 2, 1) := by decide +kernel
theorem dX2_workTerm_23 : decode cX2_workTerm 23 = .ok (.iload_n 3, 1) := by decide +kernel
theorem dX2_workTerm_24 : decode cX2_workTerm 24 = .ok (.invokevirtual 96, 3) := by decide +kernel
theorem dX2_workTerm_27 : decode cX2_workTerm 27 = .ok (.istore 4, 2) := by decide +kernel
theorem dX2_workTerm_29 : decode cX2_workTerm 29 = .ok (.iconst 0, 1) := by decide +kernel
theorem dX2_workTerm_30 : decode cX2_workTerm 30 = .ok (.istore 5, 2) := by decide +kernel
theorem dX2_workTerm_32 : decode cX2_workTerm 32 = .ok (.iload 5, 2) := by decide +kernel
theorem dX2_workTerm_34 : decode cX2_workTerm 34 = .ok (.iload 4, 2) := by decide +kernel
theorem dX2_workTerm_36 : decode cX2_workTerm 36 = .ok (.if_icmp .ge 27, 3) := by decide +kernel
theorem dX2_workTerm_39 : decode cX2_workTerm 39 = .ok (.aload_n 0, 1) := by decide +kernel
theorem dX2_workTerm_40 : decode cX2_workTerm 40 = .ok (.getfield 38, 3) := by decide +kernel
theorem dX2_workTerm_43 : decode cX2_workTerm 43 = .ok (.aload_n 0, 1) := by decide +kernel
theorem dX2_workTerm_44 : decode cX2_workTerm 44 = .ok (.getfield 14, 3) := by decide +kernel
theorem dX2_workTerm_47 : decode cX2_workTerm 47 = .ok (.iload_n 3, 1) := by decide +kernel
theorem dX2_workTerm_48 : decode cX2_workTerm 48 = .ok (.aaload, 1) := by decide +kernel
theorem dX2_workTerm_49 : decode cX2_workTerm 49 = .ok (.invokevirtual 123, 3) := by decide +kernel
theorem dX2_workTerm_52 : decode cX2_workTerm 52 = .ok (.ifCond .ne 5, 3) := by decide +kernel
theorem dX2_workTerm_55 : decode cX2_workTerm 55 = .ok (.iconst 0, 1) := by decide +kernel
theorem dX2_workTerm_56 : decode cX2_workTerm 56 = .ok (.ireturn, 1) := by decide +kernel
theorem dX2_workTerm_57 : decode cX2_workTerm 57 = .ok (.iinc 5 1, 3) := by decide +kernel
theorem dX2_workTerm_60 : decode cX2_workTerm 60 = .ok (.goto (-28), 3) := by decide +kernel
theorem dX2_workTerm_63 : decode cX2_workTerm 63 = .ok (.iinc 3 1, 3) := by decide +kernel
theorem dX2_workTerm_66 : decode cX2_workTerm 66 = .ok (.goto (-51), 3) := by decide +kernel
theorem dX2_workTerm_69 : decode cX2_workTerm 69 = .ok (.iconst 1, 1) := by decide +kernel
theorem dX2_workTerm_70 : decode cX2_workTerm 70 = .ok (.ireturn, 1) := by decide +kernel
theorem dX2_judge_0 : decode cX2_judge 0 = .ok (.aload_n 0, 1) := by decide +kernel
theorem dX2_judge_1 : decode cX2_judge 1 = .ok (.invokevirtual 126, 3) := by decide +kernel
theorem dX2_judge_4 : decode cX2_judge 4 = .ok (.ifCond .ne 5, 3) := by decide +kernel
theorem dX2_judge_7 : decode cX2_judge 7 = .ok (.iconst 0, 1) := by decide +kernel
theorem dX2_judge_8 : decode cX2_judge 8 = .ok (.ireturn, 1) := by decide +kernel
theorem dX2_judge_9 : decode cX2_judge 9 = .ok (.aload_n 0, 1) := by decide +kernel
theorem dX2_judge_10 : decode cX2_judge 10 = .ok (.getfield 38, 3) := by decide +kernel
theorem dX2_judge_13 : decode cX2_judge 13 = .ok (.lconst 0, 1) := by decide +kernel
theorem dX2_judge_14 : decode cX2_judge 14 = .ok (.iload_n 2, 1) := by decide +kernel
theorem dX2_judge_15 : decode cX2_judge 15 = .ok (.invokevirtual 48, 3) := by decide +kernel
theorem dX2_judge_18 : decode cX2_judge 18 = .ok (.aload_n 0, 1) := by decide +kernel
theorem dX2_judge_19 : decode cX2_judge 19 = .ok (.getfield 38, 3) := by decide +kernel
theorem dX2_judge_22 : decode cX2_judge 22 = .ok (.aload_n 1, 1) := by decide +kernel
theorem dX2_judge_23 : decode cX2_judge 23 = .ok (.invokevirtual 123, 3) := by decide +kernel
theorem dX2_judge_26 : decode cX2_judge 26 = .ok (.ifCond .ne 6, 3) := by decide +kernel
theorem dX2_judge_29 : decode cX2_judge 29 = .ok (.bipush (-2), 2) := by decide +kernel
theorem dX2_judge_31 : decode cX2_judge 31 = .ok (.ireturn, 1) := by decide +kernel
theorem dX2_judge_32 : decode cX2_judge 32 = .ok (.aload_n 0, 1) := by decide +kernel
theorem dX2_judge_33 : decode cX2_judge 33 = .ok (.getfield 38, 3) := by decide +kernel
theorem dX2_judge_36 : decode cX2_judge 36 = .ok (.getfield 52, 3) := by decide +kernel
theorem dX2_judge_39 : decode cX2_judge 39 = .ok (.invokevirtual 115, 3) := by decide +kernel
theorem dX2_judge_42 : decode cX2_judge 42 = .ok (.astore_n 3, 1) := by decide +kernel
theorem dX2_judge_43 : decode cX2_judge 43 = .ok (.aload_n 0, 1) := by decide +kernel
theorem dX2_judge_44 : decode cX2_judge 44 = .ok (.getfield 38, 3) := by decide +kernel
theorem dX2_judge_47 : decode cX2_judge 47 = .ok (.invokevirtual 75, 3) := by decide +kernel
theorem dX2_judge_50 : decode cX2_judge 50 = .ok (.iconst 0, 1) := by decide +kernel
theorem dX2_judge_51 : decode cX2_judge 51 = .ok (.istore 4, 2) := by decide +kernel
theorem dX2_judge_53 : decode cX2_judge 53 = .ok (.iload 4, 2) := by decide +kernel
theorem dX2_judge_55 : decode cX2_judge 55 = .ok (.aload_n 0, 1) := by decide +kernel
theorem dX2_judge_56 : decode cX2_judge 56 = .ok (.getfield 32, 3) := by decide +kernel
theorem dX2_judge_59 : decode cX2_judge 59 = .ok (.if_icmp .ge 31, 3) := by decide +kernel
theorem dX2_judge_62 : decode cX2_judge 62 = .ok (.aload_n 0, 1) := by decide +kernel
theorem dX2_judge_63 : decode cX2_judge 63 = .ok (.iload 4, 2) := by decide +kernel
theorem dX2_judge_65 : decode cX2_judge 65 = .ok (.invokevirtual 129, 3) := by decide +kernel
theorem dX2_judge_68 : decode cX2_judge 68 = .ok (.ifCond .eq 13, 3) := by decide +kernel
theorem dX2_judge_71 : decode cX2_judge 71 = .ok (.aload_n 0, 1) := by decide +kernel
theorem dX2_judge_72 : decode cX2_judge 72 = .ok (.getfield 38, 3) := by decide +kernel
theorem dX2_judge_75 : decode cX2_judge 75 = .ok (.invokevirtual 85, 3) := by decide +kernel
theorem dX2_judge_78 : decode cX2_judge 78 = .ok (.ifCond .ne 6, 3) := by decide +kernel
theorem dX2_judge_81 : decode cX2_judge 81 = .ok (.bipush (-2), 2) := by decide +kernel
theorem dX2_judge_83 : decode cX2_judge 83 = .ok (.ireturn, 1) := by decide +kernel
theorem dX2_judge_84 : decode cX2_judge 84 = .ok (.iinc 4 1, 3) := by decide +kernel
theorem dX2_judge_87 : decode cX2_judge 87 = .ok (.goto (-34), 3) := by decide +kernel
theorem dX2_judge_90 : decode cX2_judge 90 = .ok (.aload_n 0, 1) := by decide +kernel
theorem dX2_judge_91 : decode cX2_judge 91 = .ok (.getfield 38, 3) := by decide +kernel
theorem dX2_judge_94 : decode cX2_judge 94 = .ok (.getfield 89, 3) := by decide +kernel
theorem dX2_judge_97 : decode cX2_judge 97 = .ok (.aload_n 3, 1) := by decide +kernel
theorem dX2_judge_98 : decode cX2_judge 98 = .ok (.invokevirtual 100, 3) := by decide +kernel
theorem dX2_judge_101 : decode cX2_judge 101 = .ok (.ifCond .eq 7, 3) := by decide +kernel
theorem dX2_judge_104 : decode cX2_judge 104 = .ok (.iconst 1, 1) := by decide +kernel
theorem dX2_judge_105 : decode cX2_judge 105 = .ok (.goto 4, 3) := by decide +kernel
theorem dX2_judge_108 : decode cX2_judge 108 = .ok (.iconst 0, 1) := by decide +kernel
theorem dX2_judge_109 : decode cX2_judge 109 = .ok (.ireturn, 1) := by decide +kernel
theorem dX2_factorsAreThere_0 : decode cX2_factorsAreThere 0 = .ok (.iconst 0, 1) := by decide +kernel
theorem dX2_factorsAreThere_1 : decode cX2_factorsAreThere 1 = .ok (.istore_n 1, 1) := by decide +kernel
theorem dX2_factorsAreThere_2 : decode cX2_factorsAreThere 2 = .ok (.iload_n 1, 1) := by decide +kernel
theorem dX2_factorsAreThere_3 : decode cX2_factorsAreThere 3 = .ok (.aload_n 0, 1) := by decide +kernel
theorem dX2_factorsAreThere_4 : decode cX2_factorsAreThere 4 = .ok (.getfield 32, 3) := by decide +kernel
theorem dX2_factorsAreThere_7 : decode cX2_factorsAreThere 7 = .ok (.iconst 4, 1) := by decide +kernel
theorem dX2_factorsAreThere_8 : decode cX2_factorsAreThere 8 = .ok (.imul, 1) := by decide +kernel
theorem dX2_factorsAreThere_9 : decode cX2_factorsAreThere 9 = .ok (.if_icmp .ge 24, 3) := by decide +kernel
theorem dX2_factorsAreThere_12 : decode cX2_factorsAreThere 12 = .ok (.aload_n 0, 1) := by decide +kernel
theorem dX2_factorsAreThere_13 : decode cX2_factorsAreThere 13 = .ok (.getfield 29, 3) := by decide +kernel
theorem dX2_factorsAreThere_16 : decode cX2_factorsAreThere 16 = .ok (.iload_n 1, 1) := by decide +kernel
theorem dX2_factorsAreThere_17 : decode cX2_factorsAreThere 17 = .ok (.iaload, 1) := by decide +kernel
theorem dX2_factorsAreThere_18 : decode cX2_factorsAreThere 18 = .ok (.aload_n 0, 1) := by decide +kernel
theorem dX2_factorsAreThere_19 : decode cX2_factorsAreThere 19 = .ok (.getfield 21, 3) := by decide +kernel
theorem dX2_factorsAreThere_22 : decode cX2_factorsAreThere 22 = .ok (.if_icmp .lt 5, 3) := by decide +kernel
theorem dX2_factorsAreThere_25 : decode cX2_factorsAreThere 25 = .ok (.iconst 0, 1) := by decide +kernel
theorem dX2_factorsAreThere_26 : decode cX2_factorsAreThere 26 = .ok (.ireturn, 1) := by decide +kernel
theorem dX2_factorsAreThere_27 : decode cX2_factorsAreThere 27 = .ok (.iinc 1 1, 3) := by decide +kernel
theorem dX2_factorsAreThere_30 : decode cX2_factorsAreThere 30 = .ok (.goto (-28), 3) := by decide +kernel
theorem dX2_factorsAreThere_33 : decode cX2_factorsAreThere 33 = .ok (.iconst 1, 1) := by decide +kernel
theorem dX2_factorsAreThere_34 : decode cX2_factorsAreThere 34 = .ok (.ireturn, 1) := by decide +kernel
theorem dX2_workPart_0 : decode cX2_workPart 0 = .ok (.aload_n 0, 1) := by decide +kernel
theorem dX2_workPart_1 : decode cX2_workPart 1 = .ok (.getfield 38, 3) := by decide +kernel
theorem dX2_workPart_4 : decode cX2_workPart 4 = .ok (.lconst 0, 1) := by decide +kernel
theorem dX2_workPart_5 : decode cX2_workPart 5 = .ok (.aload_n 0, 1) := by decide +kernel
theorem dX2_workPart_6 : decode cX2_workPart 6 = .ok (.getfield 25, 3) := by decide +kernel
theorem dX2_workPart_9 : decode cX2_workPart 9 = .ok (.iload_n 1, 1) := by decide +kernel
theorem dX2_workPart_10 : decode cX2_workPart 10 = .ok (.iaload, 1) := by decide +kernel
theorem dX2_workPart_11 : decode cX2_workPart 11 = .ok (.invokevirtual 48, 3) := by decide +kernel
theorem dX2_workPart_14 : decode cX2_workPart 14 = .ok (.iload_n 1, 1) := by decide +kernel
theorem dX2_workPart_15 : decode cX2_workPart 15 = .ok (.iconst 4, 1) := by decide +kernel
theorem dX2_workPart_16 : decode cX2_workPart 16 = .ok (.imul, 1) := by decide +kernel
theorem dX2_workPart_17 : decode cX2_workPart 17 = .ok (.istore_n 2, 1) := by decide +kernel
theorem dX2_workPart_18 : decode cX2_workPart 18 = .ok (.iload_n 2, 1) := by decide +kernel
theorem dX2_workPart_19 : decode cX2_workPart 19 = .ok (.iload_n 1, 1) := by decide +kernel
theorem dX2_workPart_20 : decode cX2_workPart 20 = .ok (.iconst 1, 1) := by decide +kernel
theorem dX2_workPart_21 : decode cX2_workPart 21 = .ok (.iadd, 1) := by decide +kernel
theorem dX2_workPart_22 : decode cX2_workPart 22 = .ok (.iconst 4, 1) := by decide +kernel
theorem dX2_workPart_23 : decode cX2_workPart 23 = .ok (.imul, 1) := by decide +kernel
theorem dX2_workPart_24 : decode cX2_workPart 24 = .ok (.if_icmp .ge 46, 3) := by decide +kernel
theorem dX2_workPart_27 : decode cX2_workPart 27 = .ok (.aload_n 0, 1) := by decide +kernel
theorem dX2_workPart_28 : decode cX2_workPart 28 = .ok (.getfield 29, 3) := by decide +kernel
theorem dX2_workPart_31 : decode cX2_workPart 31 = .ok (.iload_n 2, 1) := by decide +kernel
theorem dX2_workPart_32 : decode cX2_workPart 32 = .ok (.iaload, 1) := by decide +kernel
theorem dX2_workPart_33 : decode cX2_workPart 33 = .ok (.istore_n 3, 1) := by decide +kernel
theorem dX2_workPart_34 : decode cX2_workPart 34 = .ok (.iload_n 3, 1) := by decide +kernel
theorem dX2_workPart_35 : decode cX2_workPart 35 = .ok (.ifCond .lt 29, 3) := by decide +kernel
theorem dX2_workPart_38 : decode cX2_workPart 38 = .ok (.iload_n 3, 1) := by decide +kernel
theorem dX2_workPart_39 : decode cX2_workPart 39 = .ok (.aload_n 0, 1) := by decide +kernel
theorem dX2_workPart_40 : decode cX2_workPart 40 = .ok (.getfield 21, 3) := by decide +kernel
theorem dX2_workPart_43 : decode cX2_workPart 43 = .ok (.if_icmp .ge 21, 3) := by decide +kernel
theorem dX2_workPart_46 : decode cX2_workPart 46 = .ok (.aload_n 0, 1) := by decide +kernel
theorem dX2_workPart_47 : decode cX2_workPart 47 = .ok (.getfield 38, 3) := by decide +kernel
theorem dX2_workPart_50 : decode cX2_workPart 50 = .ok (.aload_n 0, 1) := by decide +kernel
theorem dX2_workPart_51 : decode cX2_workPart 51 = .ok (.getfield 18, 3) := by decide +kernel
theorem dX2_workPart_54 : decode cX2_workPart 54 = .ok (.iload_n 3, 1) := by decide +kernel
theorem dX2_workPart_55 : decode cX2_workPart 55 = .ok (.aaload, 1) := by decide +kernel
theorem dX2_workPart_56 : decode cX2_workPart 56 = .ok (.invokevirtual 123, 3) := by decide +kernel
theorem dX2_workPart_59 : decode cX2_workPart 59 = .ok (.ifCond .ne 5, 3) := by decide +kernel
theorem dX2_workPart_62 : decode cX2_workPart 62 = .ok (.iconst 0, 1) := by decide +kernel
theorem dX2_workPart_63 : decode cX2_workPart 63 = .ok (.ireturn, 1) := by decide +kernel
theorem dX2_workPart_64 : decode cX2_workPart 64 = .ok (.iinc 2 1, 3) := by decide +kernel
theorem dX2_workPart_67 : decode cX2_workPart 67 = .ok (.goto (-49), 3) := by decide +kernel
theorem dX2_workPart_70 : decode cX2_workPart 70 = .ok (.iconst 1, 1) := by decide +kernel
theorem dX2_workPart_71 : decode cX2_workPart 71 = .ok (.ireturn, 1) := by decide +kernel
