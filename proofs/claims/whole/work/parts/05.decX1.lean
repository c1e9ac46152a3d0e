theorem dX1_init_0 : decode cX1_init 0 = .ok (.aload_n 0, 1) := by decide +kernel
theorem dX1_init_1 : decode cX1_init 1 = .ok (.invokespecial 3, 3) := by decide +kernel
theorem dX1_init_4 : decode cX1_init 4 = .ok (.iconst 0, 1) := by decide +kernel
theorem dX1_init_5 : decode cX1_init 5 = .ok (.iload_n 1, 1) := by decide +kernel
theorem dX1_init_6 : decode cX1_init 6 = .ok (.bipush 60, 2) := by decide +kernel
theorem dX1_init_8 : decode cX1_init 8 = .ok (.invokestatic 9, 3) := by decide +kernel
theorem dX1_init_11 : decode cX1_init 11 = .ok (.invokestatic 15, 3) := by decide +kernel
theorem dX1_init_14 : decode cX1_init 14 = .ok (.istore_n 2, 1) := by decide +kernel
theorem dX1_init_15 : decode cX1_init 15 = .ok (.aload_n 0, 1) := by decide +kernel
theorem dX1_init_16 : decode cX1_init 16 = .ok (.iload_n 2, 1) := by decide +kernel
theorem dX1_init_17 : decode cX1_init 17 = .ok (.newarray .long, 2) := by decide +kernel
theorem dX1_init_19 : decode cX1_init 19 = .ok (.putfield 18, 3) := by decide +kernel
theorem dX1_init_22 : decode cX1_init 22 = .ok (.aload_n 0, 1) := by decide +kernel
theorem dX1_init_23 : decode cX1_init 23 = .ok (.iload_n 2, 1) := by decide +kernel
theorem dX1_init_24 : decode cX1_init 24 = .ok (.newarray .int, 2) := by decide +kernel
theorem dX1_init_26 : decode cX1_init 26 = .ok (.putfield 24, 3) := by decide +kernel
theorem dX1_init_29 : decode cX1_init 29 = .ok (.aload_n 0, 1) := by decide +kernel
theorem dX1_init_30 : decode cX1_init 30 = .ok (.iconst 0, 1) := by decide +kernel
theorem dX1_init_31 : decode cX1_init 31 = .ok (.putfield 28, 3) := by decide +kernel
theorem dX1_init_34 : decode cX1_init 34 = .ok (.aload_n 0, 1) := by decide +kernel
theorem dX1_init_35 : decode cX1_init 35 = .ok (.bipush 16, 2) := by decide +kernel
theorem dX1_init_37 : decode cX1_init 37 = .ok (.newarray .int, 2) := by decide +kernel
theorem dX1_init_39 : decode cX1_init 39 = .ok (.putfield 32, 3) := by decide +kernel
theorem dX1_init_42 : decode cX1_init 42 = .ok (.aload_n 0, 1) := by decide +kernel
theorem dX1_init_43 : decode cX1_init 43 = .ok (.iconst 0, 1) := by decide +kernel
theorem dX1_init_44 : decode cX1_init 44 = .ok (.putfield 35, 3) := by decide +kernel
theorem dX1_init_47 : decode cX1_init 47 = .ok (.return_, 1) := by decide +kernel
theorem dX1_clear_0 : decode cX1_clear 0 = .ok (.aload_n 0, 1) := by decide +kernel
theorem dX1_clear_1 : decode cX1_clear 1 = .ok (.iconst 0, 1) := by decide +kernel
theorem dX1_clear_2 : decode cX1_clear 2 = .ok (.putfield 28, 3) := by decide +kernel
theorem dX1_clear_5 : decode cX1_clear 5 = .ok (.aload_n 0, 1) := by decide +kernel
theorem dX1_clear_6 : decode cX1_clear 6 = .ok (.iconst 0, 1) := by decide +kernel
theorem dX1_clear_7 : decode cX1_clear 7 = .ok (.putfield 35, 3) := by decide +kernel
theorem dX1_clear_10 : decode cX1_clear 10 = .ok (.return_, 1) := by decide +kernel
theorem dX1_append_0 : decode cX1_append 0 = .ok (.lload_n 3, 1) := by decide +kernel
theorem dX1_append_1 : decode cX1_append 1 = .ok (.lconst 0, 1) := by decide +kernel
theorem dX1_append_2 : decode cX1_append 2 = .ok (.lcmp, 1) := by decide +kernel
theorem dX1_append_3 : decode cX1_append 3 = .ok (.ifCond .ne 5, 3) := by decide +kernel
theorem dX1_append_6 : decode cX1_append 6 = .ok (.iconst 1, 1) := by decide +kernel
theorem dX1_append_7 : decode cX1_append 7 = .ok (.ireturn, 1) := by decide +kernel
theorem dX1_append_8 : decode cX1_append 8 = .ok (.lload_n 3, 1) := by decide +kernel
theorem dX1_append_9 : decode cX1_append 9 = .ok (.ldc2_w 39, 3) := by decide +kernel
theorem dX1_append_12 : decode cX1_append 12 = .ok (.lcmp, 1) := by decide +kernel
theorem dX1_append_13 : decode cX1_append 13 = .ok (.ifCond .gt 23, 3) := by decide +kernel
theorem dX1_append_16 : decode cX1_append 16 = .ok (.lload_n 3, 1) := by decide +kernel
theorem dX1_append_17 : decode cX1_append 17 = .ok (.ldc2_w 41, 3) := by decide +kernel
theorem dX1_append_20 : decode cX1_append 20 = .ok (.lcmp, 1) := by decide +kernel
theorem dX1_append_21 : decode cX1_append 21 = .ok (.ifCond .lt 15, 3) := by decide +kernel
theorem dX1_append_24 : decode cX1_append 24 = .ok (.aload_n 0, 1) := by decide +kernel
theorem dX1_append_25 : decode cX1_append 25 = .ok (.getfield 28, 3) := by decide +kernel
theorem dX1_append_28 : decode cX1_append 28 = .ok (.aload_n 0, 1) := by decide +kernel
theorem dX1_append_29 : decode cX1_append 29 = .ok (.getfield 18, 3) := by decide +kernel
theorem dX1_append_32 : decode cX1_append 32 = .ok (.arraylength, 1) := by decide +kernel
theorem dX1_append_33 : decode cX1_append 33 = .ok (.if_icmp .lt 5, 3) := by decide +kernel
theorem dX1_append_36 : decode cX1_append 36 = .ok (.iconst 0, 1) := by decide +kernel
theorem dX1_append_37 : decode cX1_append 37 = .ok (.ireturn, 1) := by decide +kernel
theorem dX1_append_38 : decode cX1_append 38 = .ok (.aload_n 0, 1) := by decide +kernel
theorem dX1_append_39 : decode cX1_append 39 = .ok (.getfield 18, 3) := by decide +kernel
theorem dX1_append_42 : decode cX1_append 42 = .ok (.aload_n 0, 1) := by decide +kernel
theorem dX1_append_43 : decode cX1_append 43 = .ok (.getfield 28, 3) := by decide +kernel
theorem dX1_append_46 : decode cX1_append 46 = .ok (.lload_n 1, 1) := by decide +kernel
theorem dX1_append_47 : decode cX1_append 47 = .ok (.lastore, 1) := by decide +kernel
theorem dX1_append_48 : decode cX1_append 48 = .ok (.aload_n 0, 1) := by decide +kernel
theorem dX1_append_49 : decode cX1_append 49 = .ok (.getfield 24, 3) := by decide +kernel
theorem dX1_append_52 : decode cX1_append 52 = .ok (.aload_n 0, 1) := by decide +kernel
theorem dX1_append_53 : decode cX1_append 53 = .ok (.getfield 28, 3) := by decide +kernel
theorem dX1_append_56 : decode cX1_append 56 = .ok (.lload_n 3, 1) := by decide +kernel
theorem dX1_append_57 : decode cX1_append 57 = .ok (.l2i, 1) := by decide +kernel
theorem dX1_append_58 : decode cX1_append 58 = .ok (.iastore, 1) := by decide +kernel
theorem dX1_append_59 : decode cX1_append 59 = .ok (.aload_n 0, 1) := by decide +kernel
theorem dX1_append_60 : decode cX1_append 60 = .ok (.dup, 1) := by decide +kernel
theorem dX1_append_61 : decode cX1_append 61 = .ok (.getfield 28, 3) := by decide +kernel
theorem dX1_append_64 : decode cX1_append 64 = .ok (.iconst 1, 1) := by decide +kernel
theorem dX1_append_65 : decode cX1_append 65 = .ok (.iadd, 1) := by decide +kernel
theorem dX1_append_66 : decode cX1_append 66 = .ok (.putfield 28, 3) := by decide +kernel
theorem dX1_append_69 : decode cX1_append 69 = .ok (.iconst 1, 1) := by decide +kernel
theorem dX1_append_70 : decode cX1_append 70 = .ok (.ireturn, 1) := by decide +kernel
theorem dX1_copied_0 : decode cX1_copied 0 = .ok (.new 19, 3) := by decide +kernel
theorem dX1_copied_3 : decode cX1_copied 3 = .ok (.dup, 1) := by decide +kernel
theorem dX1_copied_4 : decode cX1_copied 4 = .ok (.aload_n 0, 1) := by decide +kernel
theorem dX1_copied_5 : decode cX1_copied 5 = .ok (.getfield 28, 3) := by decide +kernel
theorem dX1_copied_8 : decode cX1_copied 8 = .ok (.invokespecial 43, 3) := by decide +kernel
theorem dX1_copied_11 : decode cX1_copied 11 = .ok (.astore_n 1, 1) := by decide +kernel
theorem dX1_copied_12 : decode cX1_copied 12 = .ok (.iconst 0, 1) := by decide +kernel
theorem dX1_copied_13 : decode cX1_copied 13 = .ok (.istore_n 2, 1) := by decide +kernel
theorem dX1_copied_14 : decode cX1_copied 14 = .ok (.iload_n 2, 1) := by decide +kernel
theorem dX1_copied_15 : decode cX1_copied 15 = .ok (.aload_n 0, 1) := by decide +kernel
theorem dX1_copied_16 : decode cX1_copied 16 = .ok (.getfield 28, 3) := by decide +kernel
theorem dX1_copied_19 : decode cX1_copied 19 = .ok (.if_icmp .ge 27, 3) := by decide +kernel
theorem dX1_copied_22 : decode cX1_copied 22 = .ok (.aload_n 1, 1) := by decide +kernel
theorem dX1_copied_23 : decode cX1_copied 23 = .ok (.aload_n 0, 1) := by decide +kernel
theorem dX1_copied_24 : decode cX1_copied 24 = .ok (.getfield 18, 3) := by decide +kernel
theorem dX1_copied_27 : decode cX1_copied 27 = .ok (.iload_n 2, 1) := by decide +kernel
theorem dX1_copied_28 : decode cX1_copied 28 = .ok (.laload, 1) := by decide +kernel
theorem dX1_copied_29 : decode cX1_copied 29 = .ok (.aload_n 0, 1) := by decide +kernel
theorem dX1_copied_30 : decode cX1_copied 30 = .ok (.getfield 24, 3) := by decide +kernel
theorem dX1_copied_33 : decode cX1_copied 33 = .ok (.iload_n 2, 1) := by decide +kernel
theorem dX1_copied_34 : decode cX1_copied 34 = .ok (.iaload, 1) := by decide +kernel
theorem dX1_copied_35 : decode cX1_copied 35 = .ok (.i2l, 1) := by decide +kernel
theorem dX1_copied_36 : decode cX1_copied 36 = .ok (.invokevirtual 46, 3) := by decide +kernel
theorem dX1_copied_39 : decode cX1_copied 39 = .ok (.pop, 1) := by decide +kernel
theorem dX1_copied_40 : decode cX1_copied 40 = .ok (.iinc 2 1, 3) := by decide +kernel
theorem dX1_copied_43 : decode cX1_copied 43 = .ok (.goto (-29), 3) := by decide +kernel
theorem dX1_copied_46 : decode cX1_copied 46 = .ok (.aload_n 1, 1) := by decide +kernel
theorem dX1_copied_47 : decode cX1_copied 47 = .ok (.areturn, 1) := by decide +kernel
theorem dX1_hasTerm_0 : decode cX1_hasTerm 0 = .ok (.iload_n 1, 1) := by decide +kernel
theorem dX1_hasTerm_1 : decode cX1_hasTerm 1 = .ok (.ifCond .lt 15, 3) := by decide +kernel
theorem dX1_hasTerm_4 : decode cX1_hasTerm 4 = .ok (.iload_n 1, 1) := by decide +kernel
theorem dX1_hasTerm_5 : decode cX1_hasTerm 5 = .ok (.aload_n 0, 1) := by decide +kernel
theorem dX1_hasTerm_6 : decode cX1_hasTerm 6 = .ok (.getfield 28, 3) := by decide +kernel
theorem dX1_hasTerm_9 : decode cX1_hasTerm 9 = .ok (.if_icmp .ge 7, 3) := by decide +kernel
theorem dX1_hasTerm_12 : decode cX1_hasTerm 12 = .ok (.iconst 1, 1) := by decide +kernel
theorem dX1_hasTerm_13 : decode cX1_hasTerm 13 = .ok (.goto 4, 3) := by decide +kernel
theorem dX1_hasTerm_16 : decode cX1_hasTerm 16 = .ok (.iconst 0, 1) := by decide +kernel
theorem dX1_hasTerm_17 : decode cX1_hasTerm 17 = .ok (.ireturn, 1) := by decide +kernel
theorem dX1_coefficientAt_0 : decode cX1_coefficientAt 0 = .ok (.aload_n 0, 1) := by decide +kernel
theorem dX1_coefficientAt_1 : decode cX1_coefficientAt 1 = .ok (.iload_n 1, 1) := by decide +kernel
theorem dX1_coefficientAt_2 : decode cX1_coefficientAt 2 = .ok (.invokevirtual 50, 3) := by decide +kernel
theorem dX1_coefficientAt_5 : decode cX1_coefficientAt 5 = .ok (.ifCond .eq 12, 3) := by decide +kernel
theorem dX1_coefficientAt_8 : decode cX1_coefficientAt 8 = .ok (.aload_n 0, 1) := by decide +kernel
theorem dX1_coefficientAt_9 : decode cX1_coefficientAt 9 = .ok (.getfield 24, 3) := by decide +kernel
theorem dX1_coefficientAt_12 : decode cX1_coefficientAt 12 = .ok (.iload_n 1, 1) := by decide +kernel
theorem dX1_coefficientAt_13 : decode cX1_coefficientAt 13 = .ok (.iaload, 1) := by decide +kernel
theorem dX1_coefficientAt_14 : decode cX1_coefficientAt 14 = .ok (.goto 4, 3) := by decide +kernel
theorem dX1_coefficientAt_17 : decode cX1_coefficientAt 17 = .ok (.iconst 0, 1) := by decide +kernel
theorem dX1_coefficientAt_18 : decode cX1_coefficientAt 18 = .ok (.ireturn, 1) := by decide +kernel
theorem dX1_powerAt_0 : decode cX1_powerAt 0 = .ok (.aload_n 0, 1) := by decide +kernel
theorem dX1_powerAt_1 : decode cX1_powerAt 1 = .ok (.iload_n 1, 1) := by decide +kernel
theorem dX1_powerAt_2 : decode cX1_powerAt 2 = .ok (.invokevirtual 50, 3) := by decide +kernel
theorem dX1_powerAt_5 : decode cX1_powerAt 5 = .ok (.ifCond .eq 10, 3) := by decide +kernel
theorem dX1_powerAt_8 : decode cX1_powerAt 8 = .ok (.iload_n 2, 1) := by decide +kernel
theorem dX1_powerAt_9 : decode cX1_powerAt 9 = .ok (.invokestatic 54, 3) := by decide +kernel
theorem dX1_powerAt_12 : decode cX1_powerAt 12 = .ok (.ifCond .ne 5, 3) := by decide +kernel
theorem dX1_powerAt_15 : decode cX1_powerAt 15 = .ok (.iconst 0, 1) := by decide +kernel
theorem dX1_powerAt_16 : decode cX1_powerAt 16 = .ok (.ireturn, 1) := by decide +kernel
theorem dX1_powerAt_17 : decode cX1_powerAt 17 = .ok (.aload_n 0, 1) := by decide +kernel
theorem dX1_powerAt_18 : decode cX1_powerAt 18 = .ok (.getfield 18, 3) := by decide +kernel
theorem dX1_powerAt_21 : decode cX1_powerAt 21 = .ok (.iload_n 1, 1) := by decide +kernel
theorem dX1_powerAt_22 : decode cX1_powerAt 22 = .ok (.laload, 1) := by decide +kernel
theorem dX1_powerAt_23 : decode cX1_powerAt 23 = .ok (.lstore_n 3, 1) := by decide +kernel
theorem dX1_powerAt_24 : decode cX1_powerAt 24 = .ok (.iload_n 2, 1) := by decide +kernel
theorem dX1_powerAt_25 : decode cX1_powerAt 25 = .ok (.iconst 1, 1) := by decide +kernel
theorem dX1_powerAt_26 : decode cX1_powerAt 26 = .ok (.iadd, 1) := by decide +kernel
theorem dX1_powerAt_27 : decode cX1_powerAt 27 = .ok (.istore 5, 2) := by decide +kernel
theorem dX1_powerAt_29 : decode cX1_powerAt 29 = .ok (.iload 5, 2) := by decide +kernel
theorem dX1_powerAt_31 : decode cX1_powerAt 31 = .ok (.bipush 16, 2) := by decide +kernel
theorem dX1_powerAt_33 : decode cX1_powerAt 33 = .ok (.if_icmp .ge 15, 3) := by decide +kernel
theorem dX1_powerAt_36 : decode cX1_powerAt 36 = .ok (.lload_n 3, 1) := by decide +kernel
theorem dX1_powerAt_37 : decode cX1_powerAt 37 = .ok (.ldc2_w 57, 3) := by decide +kernel
theorem dX1_powerAt_40 : decode cX1_powerAt 40 = .ok (.ldiv, 1) := by decide +kernel
theorem dX1_powerAt_41 : decode cX1_powerAt 41 = .ok (.lstore_n 3, 1) := by decide +kernel
theorem dX1_powerAt_42 : decode cX1_powerAt 42 = .ok (.iinc 5 1, 3) := by decide +kernel
theorem dX1_powerAt_45 : decode cX1_powerAt 45 = .ok (.goto (-16), 3) := by decide +kernel
theorem dX1_powerAt_48 : decode cX1_powerAt 48 = .ok (.lload_n 3, 1) := by decide +kernel
theorem dX1_powerAt_49 : decode cX1_powerAt 49 = .ok (.ldc2_w 57, 3) := by decide +kernel
theorem dX1_powerAt_52 : decode cX1_powerAt 52 = .ok (.lrem, 1) := by decide +kernel
theorem dX1_powerAt_53 : decode cX1_powerAt 53 = .ok (.l2i, 1) := by decide +kernel
theorem dX1_powerAt_54 : decode cX1_powerAt 54 = .ok (.ireturn, 1) := by decide +kernel
theorem dX1_matches_0 : decode cX1_matches 0 = .ok (.aload_n 0, 1) := by decide +kernel
theorem dX1_matches_1 : decode cX1_matches 1 = .ok (.getfield 28, 3) := by decide +kernel
theorem dX1_matches_4 : decode cX1_matches 4 = .ok (.aload_n 1, 1) := by decide +kernel
theorem dX1_matches_5 : decode cX1_matches 5 = .ok (.getfield 28, 3) := by decide +kernel
theorem dX1_matches_8 : decode cX1_matches 8 = .ok (.if_icmp .eq 5, 3) := by decide +kernel
theorem dX1_matches_11 : decode cX1_matches 11 = .ok (.iconst 0, 1) := by decide +kernel
theorem dX1_matches_12 : decode cX1_matches 12 = .ok (.ireturn, 1) := by decide +kernel
theorem dX1_matches_13 : decode cX1_matches 13 = .ok (.iconst 0, 1) := by decide +kernel
theorem dX1_matches_14 : decode cX1_matches 14 = .ok (.istore_n 2, 1) := by decide +kernel
theorem dX1_matches_15 : decode cX1_matches 15 = .ok (.iload_n 2, 1) := by decide +kernel
theorem dX1_matches_16 : decode cX1_matches 16 = .ok (.aload_n 0, 1) := by decide +kernel
theorem dX1_matches_17 : decode cX1_matches 17 = .ok (.getfield 28, 3) := by decide +kernel
theorem dX1_matches_20 : decode cX1_matches 20 = .ok (.if_icmp .ge 42, 3) := by decide +kernel
theorem dX1_matches_23 : decode cX1_matches 23 = .ok (.aload_n 0, 1) := by decide +kernel
theorem dX1_matches_24 : decode cX1_matches 24 = .ok (.getfield 18, 3) := by decide +kernel
theorem dX1_matches_27 : decode cX1_matches 27 = .ok (.iload_n 2, 1) := by decide +kernel
theorem dX1_matches_28 : decode cX1_matches 28 = .ok (.laload, 1) := by decide +kernel
theorem dX1_matches_29 : decode cX1_matches 29 = .ok (.aload_n 1, 1) := by decide +kernel
theorem dX1_matches_30 : decode cX1_matches 30 = .ok (.getfield 18, 3) := by decide +kernel
theorem dX1_matches_33 : decode cX1_matches 33 = .ok (.iload_n 2, 1) := by decide +kernel
theorem dX1_matches_34 : decode cX1_matches 34 = .ok (.laload, 1) := by decide +kernel
theorem dX1_matches_35 : decode cX1_matches 35 = .ok (.lcmp, 1) := by decide +kernel
theorem dX1_matches_36 : decode cX1_matches 36 = .ok (.ifCond .ne 18, 3) := by decide +kernel
theorem dX1_matches_39 : decode cX1_matches 39 = .ok (.aload_n 0, 1) := by decide +kernel
theorem dX1_matches_40 : decode cX1_matches 40 = .ok (.getfield 24, 3) := by decide +kernel
theorem dX1_matches_43 : decode cX1_matches 43 = .ok (.iload_n 2, 1) := by decide +kernel
theorem dX1_matches_44 : decode cX1_matches 44 = .ok (.iaload, 1) := by decide +kernel
theorem dX1_matches_45 : decode cX1_matches 45 = .ok (.aload_n 1, 1) := by decide +kernel
theorem dX1_matches_46 : decode cX1_matches 46 = .ok (.getfield 24, 3) := by decide +kernel
theorem dX1_matches_49 : decode cX1_matches 49 = .ok (.iload_n 2, 1) := by decide +kernel
theorem dX1_matches_50 : decode cX1_matches 50 = .ok (.iaload, 1) := by decide +kernel
theorem dX1_matches_51 : decode cX1_matches 51 = .ok (.if_icmp .eq 5, 3) := by decide +kernel
theorem dX1_matches_54 : decode cX1_matches 54 = .ok (.iconst 0, 1) := by decide +kernel
theorem dX1_matches_55 : decode cX1_matches 55 = .ok (.ireturn, 1) := by decide +kernel
theorem dX1_matches_56 : decode cX1_matches 56 = .ok (.iinc 2 1, 3) := by decide +kernel
theorem dX1_matches_59 : decode cX1_matches 59 = .ok (.goto (-44), 3) := by decide +kernel
theorem dX1_matches_62 : decode cX1_matches 62 = .ok (.iconst 1, 1) := by decide +kernel
theorem dX1_matches_63 : decode cX1_matches 63 = .ok (.ireturn, 1) := by decide +kernel
theorem dX1_valueWith_0 : decode cX1_valueWith 0 = .ok (.lconst 0, 1) := by decide +kernel
theorem dX1_valueWith_1 : decode cX1_valueWith 1 = .ok (.lstore_n 2, 1) := by decide +kernel
theorem dX1_valueWith_2 : decode cX1_valueWith 2 = .ok (.aload_n 0, 1) := by decide +kernel
theorem dX1_valueWith_3 : decode cX1_valueWith 3 = .ok (.getfield 28, 3) := by decide +kernel
theorem dX1_valueWith_6 : decode cX1_valueWith 6 = .ok (.ifCond .le 16, 3) := by decide +kernel
theorem dX1_valueWith_9 : decode cX1_valueWith 9 = .ok (.aload_n 0, 1) := by decide +kernel
theorem dX1_valueWith_10 : decode cX1_valueWith 10 = .ok (.getfield 18, 3) := by decide +kernel
theorem dX1_valueWith_13 : decode cX1_valueWith 13 = .ok (.iconst 0, 1) := by decide +kernel
theorem dX1_valueWith_14 : decode cX1_valueWith 14 = .ok (.laload, 1) := by decide +kernel
theorem dX1_valueWith_15 : decode cX1_valueWith 15 = .ok (.ldc2_w 59, 3) := by decide +kernel
theorem dX1_valueWith_18 : decode cX1_valueWith 18 = .ok (.ldiv, 1) := by decide +kernel
theorem dX1_valueWith_19 : decode cX1_valueWith 19 = .ok (.goto 4, 3) := by decide +kernel
theorem dX1_valueWith_22 : decode cX1_valueWith 22 = .ok (.lconst 0, 1) := by decide +kernel
theorem dX1_valueWith_23 : decode cX1_valueWith 23 = .ok (.lstore 4, 2) := by decide +kernel
theorem dX1_valueWith_25 : decode cX1_valueWith 25 = .ok (.iconst 0, 1) := by decide +kernel
theorem dX1_valueWith_26 : decode cX1_valueWith 26 = .ok (.istore 6, 2) := by decide +kernel
theorem dX1_valueWith_28 : decode cX1_valueWith 28 = .ok (.iload 6, 2) := by decide +kernel
theorem dX1_valueWith_30 : decode cX1_valueWith 30 = .ok (.aload_n 0, 1) := by decide +kernel
theorem dX1_valueWith_31 : decode cX1_valueWith 31 = .ok (.getfield 28, 3) := by decide +kernel
theorem dX1_valueWith_34 : decode cX1_valueWith 34 = .ok (.if_icmp .ge 55, 3) := by decide +kernel
theorem dX1_valueWith_37 : decode cX1_valueWith 37 = .ok (.aload_n 0, 1) := by decide +kernel
theorem dX1_valueWith_38 : decode cX1_valueWith 38 = .ok (.getfield 18, 3) := by decide +kernel
theorem dX1_valueWith_41 : decode cX1_valueWith 41 = .ok (.iload 6, 2) := by decide +kernel
theorem dX1_valueWith_43 : decode cX1_valueWith 43 = .ok (.laload, 1) := by decide +kernel
theorem dX1_valueWith_44 : decode cX1_valueWith 44 = .ok (.ldc2_w 59, 3) := by decide +kernel
theorem dX1_valueWith_47 : decode cX1_valueWith 47 = .ok (.ldiv, 1) := by decide +kernel
theorem dX1_valueWith_48 : decode cX1_valueWith 48 = .ok (.lstore 7, 2) := by decide +kernel
theorem dX1_valueWith_50 : decode cX1_valueWith 50 = .ok (.lload 4, 2) := by decide +kernel
theorem dX1_valueWith_52 : decode cX1_valueWith 52 = .ok (.lload 7, 2) := by decide +kernel
theorem dX1_valueWith_54 : decode cX1_valueWith 54 = .ok (.lcmp, 1) := by decide +kernel
theorem dX1_valueWith_55 : decode cX1_valueWith 55 = .ok (.ifCond .le 17, 3) := by decide +kernel
theorem dX1_valueWith_58 : decode cX1_valueWith 58 = .ok (.lload_n 2, 1) := by decide +kernel
theorem dX1_valueWith_59 : decode cX1_valueWith 59 = .ok (.iload_n 1, 1) := by decide +kernel
theorem dX1_valueWith_60 : decode cX1_valueWith 60 = .ok (.i2l, 1) := by decide +kernel
theorem dX1_valueWith_61 : decode cX1_valueWith 61 = .ok (.lmul, 1) := by decide +kernel
theorem dX1_valueWith_62 : decode cX1_valueWith 62 = .ok (.lstore_n 2, 1) := by decide +kernel
theorem dX1_valueWith_63 : decode cX1_valueWith 63 = .ok (.lload 4, 2) := by decide +kernel
theorem dX1_valueWith_65 : decode cX1_valueWith 65 = .ok (.lconst 1, 1) := by decide +kernel
theorem dX1_valueWith_66 : decode cX1_valueWith 66 = .ok (.lsub, 1) := by decide +kernel
theorem dX1_valueWith_67 : decode cX1_valueWith 67 = .ok (.lstore 4, 2) := by decide +kernel
theorem dX1_valueWith_69 : decode cX1_valueWith 69 = .ok (.goto (-19), 3) := by decide +kernel
theorem dX1_valueWith_72 : decode cX1_valueWith 72 = .ok (.lload_n 2, 1) := by decide +kernel
theorem dX1_valueWith_73 : decode cX1_valueWith 73 = .ok (.aload_n 0, 1) := by decide +kernel
theorem dX1_valueWith_74 : decode cX1_valueWith 74 = .ok (.getfield 24, 3) := by decide +kernel
theorem dX1_valueWith_77 : decode cX1_valueWith 77 = .ok (.iload 6, 2) := by decide +kernel
theorem dX1_valueWith_79 : decode cX1_valueWith 79 = .ok (.iaload, 1) := by decide +kernel
theorem dX1_valueWith_80 : decode cX1_valueWith 80 = .ok (.i2l, 1) := by decide +kernel
theorem dX1_valueWith_81 : decode cX1_valueWith 81 = .ok (.ladd, 1) := by decide +kernel
theorem dX1_valueWith_82 : decode cX1_valueWith 82 = .ok (.lstore_n 2, 1) := by decide +kernel
theorem dX1_valueWith_83 : decode cX1_valueWith 83 = .ok (.iinc 6 1, 3) := by decide +kernel
theorem dX1_valueWith_86 : decode cX1_valueWith 86 = .ok (.goto (-58), 3) := by decide +kernel
theorem dX1_valueWith_89 : decode cX1_valueWith 89 = .ok (.lload 4, 2) := by decide +kernel
theorem dX1_valueWith_91 : decode cX1_valueWith 91 = .ok (.lconst 0, 1) := by decide +kernel
theorem dX1_valueWith_92 : decode cX1_valueWith 92 = .ok (.lcmp, 1) := by decide +kernel
theorem dX1_valueWith_93 : decode cX1_valueWith 93 = .ok (.ifCond .le 17, 3) := by decide +kernel
theorem dX1_valueWith_96 : decode cX1_valueWith 96 = .ok (.lload_n 2, 1) := by decide +kernel
theorem dX1_valueWith_97 : decode cX1_valueWith 97 = .ok (.iload_n 1, 1) := by decide +kernel
theorem dX1_valueWith_98 : decode cX1_valueWith 98 = .ok (.i2l, 1) := by decide +kernel
theorem dX1_valueWith_99 : decode cX1_valueWith 99 = .ok (.lmul, 1) := by decide +kernel
theorem dX1_valueWith_100 : decode cX1_valueWith 100 = .ok (.lstore_n 2, 1) := by decide +kernel
theorem dX1_valueWith_101 : decode cX1_valueWith 101 = .ok (.lload 4, 2) := by decide +kernel
theorem dX1_valueWith_103 : decode cX1_valueWith 103 = .ok (.lconst 1, 1) := by decide +kernel
theorem dX1_valueWith_104 : decode cX1_valueWith 104 = .ok (.lsub, 1) := by decide +kernel
theorem dX1_valueWith_105 : decode cX1_valueWith 105 = .ok (.lstore 4, 2) := by decide +kernel
theorem dX1_valueWith_107 : decode cX1_valueWith 107 = .ok (.goto (-18), 3) := by decide +kernel
theorem dX1_valueWith_110 : decode cX1_valueWith 110 = .ok (.lload_n 2, 1) := by decide +kernel
theorem dX1_valueWith_111 : decode cX1_valueWith 111 = .ok (.lreturn, 1) := by decide +kernel
theorem dX1_findTops_0 : decode cX1_findTops 0 = .ok (.aload_n 0, 1) := by decide +kernel
theorem dX1_findTops_1 : decode cX1_findTops 1 = .ok (.getfield 35, 3) := by decide +kernel
theorem dX1_findTops_4 : decode cX1_findTops 4 = .ok (.ifCond .eq 4, 3) := by decide +kernel
theorem dX1_findTops_7 : decode cX1_findTops 7 = .ok (.return_, 1) := by decide +kernel
theorem dX1_findTops_8 : decode cX1_findTops 8 = .ok (.iconst 0, 1) := by decide +kernel
theorem dX1_findTops_9 : decode cX1_findTops 9 = .ok (.istore_n 1, 1) := by decide +kernel
theorem dX1_findTops_10 : decode cX1_findTops 10 = .ok (.iload_n 1, 1) := by decide +kernel
theorem dX1_findTops_11 : decode cX1_findTops 11 = .ok (.bipush 16, 2) := by decide +kernel
theorem dX1_findTops_13 : decode cX1_findTops 13 = .ok (.if_icmp .ge 16, 3) := by decide +kernel
theorem dX1_findTops_16 : decode cX1_findTops 16 = .ok (.aload_n 0, 1) := by decide +kernel
theorem dX1_findTops_17 : decode cX1_findTops 17 = .ok (.getfield 32, 3) := by decide +kernel
theorem dX1_findTops_20 : decode cX1_findTops 20 = .ok (.iload_n 1, 1) := by decide +kernel
theorem dX1_findTops_21 : decode cX1_findTops 21 = .ok (.iconst 0, 1) := by decide +kernel
theorem dX1_findTops_22 : decode cX1_findTops 22 = .ok (.iastore, 1) := by decide +kernel
theorem dX1_findTops_23 : decode cX1_findTops 23 = .ok (.iinc 1 1, 3) := by decide +kernel
theorem dX1_findTops_26 : decode cX1_findTops 26 = .ok (.goto (-16), 3) := by decide +kernel
theorem dX1_findTops_29 : decode cX1_findTops 29 = .ok (.iconst 0, 1) := by decide +kernel
theorem dX1_findTops_30 : decode cX1_findTops 30 = .ok (.istore_n 1, 1) := by decide +kernel
theorem dX1_findTops_31 : decode cX1_findTops 31 = .ok (.iload_n 1, 1) := by decide +kernel
theorem dX1_findTops_32 : decode cX1_findTops 32 = .ok (.aload_n 0, 1) := by decide +kernel
theorem dX1_findTops_33 : decode cX1_findTops 33 = .ok (.getfield 28, 3) := by decide +kernel
theorem dX1_findTops_36 : decode cX1_findTops 36 = .ok (.if_icmp .ge 60, 3) := by decide +kernel
theorem dX1_findTops_39 : decode cX1_findTops 39 = .ok (.aload_n 0, 1) := by decide +kernel
theorem dX1_findTops_40 : decode cX1_findTops 40 = .ok (.getfield 18, 3) := by decide +kernel
theorem dX1_findTops_43 : decode cX1_findTops 43 = .ok (.iload_n 1, 1) := by decide +kernel
theorem dX1_findTops_44 : decode cX1_findTops 44 = .ok (.laload, 1) := by decide +kernel
theorem dX1_findTops_45 : decode cX1_findTops 45 = .ok (.lstore_n 2, 1) := by decide +kernel
theorem dX1_findTops_46 : decode cX1_findTops 46 = .ok (.bipush 15, 2) := by decide +kernel
theorem dX1_findTops_48 : decode cX1_findTops 48 = .ok (.istore 4, 2) := by decide +kernel
theorem dX1_findTops_50 : decode cX1_findTops 50 = .ok (.iload 4, 2) := by decide +kernel
theorem dX1_findTops_52 : decode cX1_findTops 52 = .ok (.ifCond .lt 38, 3) := by decide +kernel
theorem dX1_findTops_55 : decode cX1_findTops 55 = .ok (.aload_n 0, 1) := by decide +kernel
theorem dX1_findTops_56 : decode cX1_findTops 56 = .ok (.getfield 32, 3) := by decide +kernel
theorem dX1_findTops_59 : decode cX1_findTops 59 = .ok (.iload 4, 2) := by decide +kernel
theorem dX1_findTops_61 : decode cX1_findTops 61 = .ok (.aload_n 0, 1) := by decide +kernel
theorem dX1_findTops_62 : decode cX1_findTops 62 = .ok (.getfield 32, 3) := by decide +kernel
theorem dX1_findTops_65 : decode cX1_findTops 65 = .ok (.iload 4, 2) := by decide +kernel
theorem dX1_findTops_67 : decode cX1_findTops 67 = .ok (.iaload, 1) := by decide +kernel
theorem dX1_findTops_68 : decode cX1_findTops 68 = .ok (.lload_n 2, 1) := by decide +kernel
theorem dX1_findTops_69 : decode cX1_findTops 69 = .ok (.ldc2_w 57, 3) := by decide +kernel
theorem dX1_findTops_72 : decode cX1_findTops 72 = .ok (.lrem, 1) := by decide +kernel
theorem dX1_findTops_73 : decode cX1_findTops 73 = .ok (.l2i, 1) := by decide +kernel
theorem dX1_findTops_74 : decode cX1_findTops 74 = .ok (.invokestatic 15, 3) := by decide +kernel
theorem dX1_findTops_77 : decode cX1_findTops 77 = .ok (.iastore, 1) := by decide +kernel
theorem dX1_findTops_78 : decode cX1_findTops 78 = .ok (.lload_n 2, 1) := by decide +kernel
theorem dX1_findTops_79 : decode cX1_findTops 79 = .ok (.ldc2_w 57, 3) := by decide +kernel
theorem dX1_findTops_82 : decode cX1_findTops 82 = .ok (.ldiv, 1) := by decide +kernel
theorem dX1_findTops_83 : decode cX1_findTops 83 = .ok (.lstore_n 2, 1) := by decide +kernel
theorem dX1_findTops_84 : decode cX1_findTops 84 = .ok (.iinc 4 (-1), 3) := by decide +kernel
theorem dX1_findTops_87 : decode cX1_findTops 87 = .ok (.goto (-37), 3) := by decide +kernel
theorem dX1_findTops_90 : decode cX1_findTops 90 = .ok (.iinc 1 1, 3) := by decide +kernel
theorem dX1_findTops_93 : decode cX1_findTops 93 = .ok (.goto (-62), 3) := by decide +kernel
theorem dX1_findTops_96 : decode cX1_findTops 96 = .ok (.aload_n 0, 1) := by decide +kernel
theorem dX1_findTops_97 : decode cX1_findTops 97 = .ok (.iconst 1, 1) := by decide +kernel
theorem dX1_findTops_98 : decode cX1_findTops 98 = .ok (.putfield 35, 3) := by decide +kernel
theorem dX1_findTops_101 : decode cX1_findTops 101 = .ok (.return_, 1) := by decide +kernel
theorem dX1_takeTops_0 : decode cX1_takeTops 0 = .ok (.aload_n 1, 1) := by decide +kernel
theorem dX1_takeTops_1 : decode cX1_takeTops 1 = .ok (.invokevirtual 61, 3) := by decide +kernel
theorem dX1_takeTops_4 : decode cX1_takeTops 4 = .ok (.aload_n 2, 1) := by decide +kernel
theorem dX1_takeTops_5 : decode cX1_takeTops 5 = .ok (.invokevirtual 61, 3) := by decide +kernel
theorem dX1_takeTops_8 : decode cX1_takeTops 8 = .ok (.iconst 0, 1) := by decide +kernel
theorem dX1_takeTops_9 : decode cX1_takeTops 9 = .ok (.istore_n 3, 1) := by decide +kernel
theorem dX1_takeTops_10 : decode cX1_takeTops 10 = .ok (.iload_n 3, 1) := by decide +kernel
theorem dX1_takeTops_11 : decode cX1_takeTops 11 = .ok (.bipush 16, 2) := by decide +kernel
theorem dX1_takeTops_13 : decode cX1_takeTops 13 = .ok (.if_icmp .ge 41, 3) := by decide +kernel
theorem dX1_takeTops_16 : decode cX1_takeTops 16 = .ok (.aload_n 0, 1) := by decide +kernel
theorem dX1_takeTops_17 : decode cX1_takeTops 17 = .ok (.getfield 32, 3) := by decide +kernel
theorem dX1_takeTops_20 : decode cX1_takeTops 20 = .ok (.iload_n 3, 1) := by decide +kernel
theorem dX1_takeTops_21 : decode cX1_takeTops 21 = .ok (.aload_n 1, 1) := by decide +kernel
theorem dX1_takeTops_22 : decode cX1_takeTops 22 = .ok (.getfield 32, 3) := by decide +kernel
theorem dX1_takeTops_25 : decode cX1_takeTops 25 = .ok (.iload_n 3, 1) := by decide +kernel
theorem dX1_takeTops_26 : decode cX1_takeTops 26 = .ok (.iaload, 1) := by decide +kernel
theorem dX1_takeTops_27 : decode cX1_takeTops 27 = .ok (.aload_n 2, 1) := by decide +kernel
theorem dX1_takeTops_28 : decode cX1_takeTops 28 = .ok (.getfield 32, 3) := by decide +kernel
theorem dX1_takeTops_31 : decode cX1_takeTops 31 = .ok (.iload_n 3, 1) := by decide +kernel
theorem dX1_takeTops_32 : decode cX1_takeTops 32 = .ok (.iaload, 1) := by decide +kernel
theorem dX1_takeTops_33 : decode cX1_takeTops 33 = .ok (.iadd, 1) := by decide +kernel
theorem dX1_takeTops_34 : decode cX1_takeTops 34 = .ok (.iastore, 1) := by decide +kernel
theorem dX1_takeTops_35 : decode cX1_takeTops 35 = .ok (.aload_n 0, 1) := by decide +kernel
theorem dX1_takeTops_36 : decode cX1_takeTops 36 = .ok (.getfield 32, 3) := by decide +kernel
theorem dX1_takeTops_39 : decode cX1_takeTops 39 = .ok (.iload_n 3, 1) := by decide +kernel
theorem dX1_takeTops_40 : decode cX1_takeTops 40 = .ok (.iaload, 1) := by decide +kernel
theorem dX1_takeTops_41 : decode cX1_takeTops 41 = .ok (.bipush 9, 2) := by decide +kernel
theorem dX1_takeTops_43 : decode cX1_takeTops 43 = .ok (.if_icmp .le 5, 3) := by decide +kernel
theorem dX1_takeTops_46 : decode cX1_takeTops 46 = .ok (.iconst 0, 1) := by decide +kernel
theorem dX1_takeTops_47 : decode cX1_takeTops 47 = .ok (.ireturn, 1) := by decide +kernel
theorem dX1_takeTops_48 : decode cX1_takeTops 48 = .ok (.iinc 3 1, 3) := by decide +kernel
theorem dX1_takeTops_51 : decode cX1_takeTops 51 = .ok (.goto (-41), 3) := by decide +kernel
theorem dX1_takeTops_54 : decode cX1_takeTops 54 = .ok (.aload_n 0, 1) := by decide +kernel
theorem dX1_takeTops_55 : decode cX1_takeTops 55 = .ok (.iconst 1, 1) := by decide +kernel
theorem dX1_takeTops_56 : decode cX1_takeTops 56 = .ok (.putfield 35, 3) := by decide +kernel
theorem dX1_takeTops_59 : decode cX1_takeTops 59 = .ok (.iconst 1, 1) := by decide +kernel
theorem dX1_takeTops_60 : decode cX1_takeTops 60 = .ok (.ireturn, 1) := by decide +kernel
theorem dX1_takeSum_0 : decode cX1_takeSum 0 = .ok (.aload_n 0, 1) := by decide +kernel
theorem dX1_takeSum_1 : decode cX1_takeSum 1 = .ok (.invokevirtual 64, 3) := by decide +kernel
theorem dX1_takeSum_4 : decode cX1_takeSum 4 = .ok (.iconst 0, 1) := by decide +kernel
theorem dX1_takeSum_5 : decode cX1_takeSum 5 = .ok (.istore 4, 2) := by decide +kernel
theorem dX1_takeSum_7 : decode cX1_takeSum 7 = .ok (.iconst 0, 1) := by decide +kernel
theorem dX1_takeSum_8 : decode cX1_takeSum 8 = .ok (.istore 5, 2) := by decide +kernel
theorem dX1_takeSum_10 : decode cX1_takeSum 10 = .ok (.aload_n 1, 1) := by decide +kernel
theorem dX1_takeSum_11 : decode cX1_takeSum 11 = .ok (.getfield 28, 3) := by decide +kernel
theorem dX1_takeSum_14 : decode cX1_takeSum 14 = .ok (.aload_n 2, 1) := by decide +kernel
theorem dX1_takeSum_15 : decode cX1_takeSum 15 = .ok (.getfield 28, 3) := by decide +kernel
theorem dX1_takeSum_18 : decode cX1_takeSum 18 = .ok (.iadd, 1) := by decide +kernel
theorem dX1_takeSum_19 : decode cX1_takeSum 19 = .ok (.istore 6, 2) := by decide +kernel
theorem dX1_takeSum_21 : decode cX1_takeSum 21 = .ok (.iconst 0, 1) := by decide +kernel
theorem dX1_takeSum_22 : decode cX1_takeSum 22 = .ok (.istore 7, 2) := by decide +kernel
theorem dX1_takeSum_24 : decode cX1_takeSum 24 = .ok (.iload 7, 2) := by decide +kernel
theorem dX1_takeSum_26 : decode cX1_takeSum 26 = .ok (.iload 6, 2) := by decide +kernel
theorem dX1_takeSum_28 : decode cX1_takeSum 28 = .ok (.if_icmp .ge 198, 3) := by decide +kernel
theorem dX1_takeSum_31 : decode cX1_takeSum 31 = .ok (.iload 4, 2) := by decide +kernel
theorem dX1_takeSum_33 : decode cX1_takeSum 33 = .ok (.aload_n 1, 1) := by decide +kernel
theorem dX1_takeSum_34 : decode cX1_takeSum 34 = .ok (.getfield 28, 3) := by decide +kernel
theorem dX1_takeSum_37 : decode cX1_takeSum 37 = .ok (.if_icmp .lt 12, 3) := by decide +kernel
theorem dX1_takeSum_40 : decode cX1_takeSum 40 = .ok (.iload 5, 2) := by decide +kernel
theorem dX1_takeSum_42 : decode cX1_takeSum 42 = .ok (.aload_n 2, 1) := by decide +kernel
theorem dX1_takeSum_43 : decode cX1_takeSum 43 = .ok (.getfield 28, 3) := by decide +kernel
theorem dX1_takeSum_46 : decode cX1_takeSum 46 = .ok (.if_icmp .ge 180, 3) := by decide +kernel
theorem dX1_takeSum_49 : decode cX1_takeSum 49 = .ok (.iload 4, 2) := by decide +kernel
theorem dX1_takeSum_51 : decode cX1_takeSum 51 = .ok (.aload_n 1, 1) := by decide +kernel
theorem dX1_takeSum_52 : decode cX1_takeSum 52 = .ok (.getfield 28, 3) := by decide +kernel
theorem dX1_takeSum_55 : decode cX1_takeSum 55 = .ok (.if_icmp .ge 34, 3) := by decide +kernel
theorem dX1_takeSum_58 : decode cX1_takeSum 58 = .ok (.iload 5, 2) := by decide +kernel
theorem dX1_takeSum_60 : decode cX1_takeSum 60 = .ok (.aload_n 2, 1) := by decide +kernel
theorem dX1_takeSum_61 : decode cX1_takeSum 61 = .ok (.getfield 28, 3) := by decide +kernel
theorem dX1_takeSum_64 : decode cX1_takeSum 64 = .ok (.if_icmp .ge 21, 3) := by decide +kernel
theorem dX1_takeSum_67 : decode cX1_takeSum 67 = .ok (.aload_n 1, 1) := by decide +kernel
theorem dX1_takeSum_68 : decode cX1_takeSum 68 = .ok (.getfield 18, 3) := by decide +kernel
theorem dX1_takeSum_71 : decode cX1_takeSum 71 = .ok (.iload 4, 2) := by decide +kernel
theorem dX1_takeSum_73 : decode cX1_takeSum 73 = .ok (.laload, 1) := by decide +kernel
theorem dX1_takeSum_74 : decode cX1_takeSum 74 = .ok (.aload_n 2, 1) := by decide +kernel
theorem dX1_takeSum_75 : decode cX1_takeSum 75 = .ok (.getfield 18, 3) := by decide +kernel
theorem dX1_takeSum_78 : decode cX1_takeSum 78 = .ok (.iload 5, 2) := by decide +kernel
theorem dX1_takeSum_80 : decode cX1_takeSum 80 = .ok (.laload, 1) := by decide +kernel
theorem dX1_takeSum_81 : decode cX1_takeSum 81 = .ok (.lcmp, 1) := by decide +kernel
theorem dX1_takeSum_82 : decode cX1_takeSum 82 = .ok (.ifCond .lt 7, 3) := by decide +kernel
theorem dX1_takeSum_85 : decode cX1_takeSum 85 = .ok (.iconst 1, 1) := by decide +kernel
theorem dX1_takeSum_86 : decode cX1_takeSum 86 = .ok (.goto 4, 3) := by decide +kernel
theorem dX1_takeSum_89 : decode cX1_takeSum 89 = .ok (.iconst 0, 1) := by decide +kernel
theorem dX1_takeSum_90 : decode cX1_takeSum 90 = .ok (.istore 8, 2) := by decide +kernel
theorem dX1_takeSum_92 : decode cX1_takeSum 92 = .ok (.iload 5, 2) := by decide +kernel
theorem dX1_takeSum_94 : decode cX1_takeSum 94 = .ok (.aload_n 2, 1) := by decide +kernel
theorem dX1_takeSum_95 : decode cX1_takeSum 95 = .ok (.getfield 28, 3) := by decide +kernel
theorem dX1_takeSum_98 : decode cX1_takeSum 98 = .ok (.if_icmp .ge 34, 3) := by decide +kernel
theorem dX1_takeSum_101 : decode cX1_takeSum 101 = .ok (.iload 4, 2) := by decide +kernel
theorem dX1_takeSum_103 : decode cX1_takeSum 103 = .ok (.aload_n 1, 1) := by decide +kernel
theorem dX1_takeSum_104 : decode cX1_takeSum 104 = .ok (.getfield 28, 3) := by decide +kernel
theorem dX1_takeSum_107 : decode cX1_takeSum 107 = .ok (.if_icmp .ge 21, 3) := by decide +kernel
theorem dX1_takeSum_110 : decode cX1_takeSum 110 = .ok (.aload_n 2, 1) := by decide +kernel
theorem dX1_takeSum_111 : decode cX1_takeSum 111 = .ok (.getfield 18, 3) := by decide +kernel
theorem dX1_takeSum_114 : decode cX1_takeSum 114 = .ok (.iload 5, 2) := by decide +kernel
theorem dX1_takeSum_116 : decode cX1_takeSum 116 = .ok (.laload, 1) := by decide +kernel
theorem dX1_takeSum_117 : decode cX1_takeSum 117 = .ok (.aload_n 1, 1) := by decide +kernel
theorem dX1_takeSum_118 : decode cX1_takeSum 118 = .ok (.getfield 18, 3) := by decide +kernel
theorem dX1_takeSum_121 : decode cX1_takeSum 121 = .ok (.iload 4, 2) := by decide +kernel
theorem dX1_takeSum_123 : decode cX1_takeSum 123 = .ok (.laload, 1) := by decide +kernel
theorem dX1_takeSum_124 : decode cX1_takeSum 124 = .ok (.lcmp, 1) := by decide +kernel
theorem dX1_takeSum_125 : decode cX1_takeSum 125 = .ok (.ifCond .lt 7, 3) := by decide +kernel
theorem dX1_takeSum_128 : decode cX1_takeSum 128 = .ok (.iconst 1, 1) := by decide +kernel
theorem dX1_takeSum_129 : decode cX1_takeSum 129 = .ok (.goto 4, 3) := by decide +kernel
theorem dX1_takeSum_132 : decode cX1_takeSum 132 = .ok (.iconst 0, 1) := by decide +kernel
theorem dX1_takeSum_133 : decode cX1_takeSum 133 = .ok (.istore 9, 2) := by decide +kernel
theorem dX1_takeSum_135 : decode cX1_takeSum 135 = .ok (.iload 8, 2) := by decide +kernel
theorem dX1_takeSum_137 : decode cX1_takeSum 137 = .ok (.ifCond .eq 13, 3) := by decide +kernel
theorem dX1_takeSum_140 : decode cX1_takeSum 140 = .ok (.aload_n 1, 1) := by decide +kernel
theorem dX1_takeSum_141 : decode cX1_takeSum 141 = .ok (.getfield 18, 3) := by decide +kernel
theorem dX1_takeSum_144 : decode cX1_takeSum 144 = .ok (.iload 4, 2) := by decide +kernel
theorem dX1_takeSum_146 : decode cX1_takeSum 146 = .ok (.laload, 1) := by decide +kernel
theorem dX1_takeSum_147 : decode cX1_takeSum 147 = .ok (.goto 10, 3) := by decide +kernel
theorem dX1_takeSum_150 : decode cX1_takeSum 150 = .ok (.aload_n 2, 1) := by decide +kernel
theorem dX1_takeSum_151 : decode cX1_takeSum 151 = .ok (.getfield 18, 3) := by decide +kernel
theorem dX1_takeSum_154 : decode cX1_takeSum 154 = .ok (.iload 5, 2) := by decide +kernel
theorem dX1_takeSum_156 : decode cX1_takeSum 156 = .ok (.laload, 1) := by decide +kernel
theorem dX1_takeSum_157 : decode cX1_takeSum 157 = .ok (.lstore 10, 2) := by decide +kernel
theorem dX1_takeSum_159 : decode cX1_takeSum 159 = .ok (.lconst 0, 1) := by decide +kernel
theorem dX1_takeSum_160 : decode cX1_takeSum 160 = .ok (.lstore 12, 2) := by decide +kernel
theorem dX1_takeSum_162 : decode cX1_takeSum 162 = .ok (.iload 8, 2) := by decide +kernel
theorem dX1_takeSum_164 : decode cX1_takeSum 164 = .ok (.ifCond .eq 19, 3) := by decide +kernel
theorem dX1_takeSum_167 : decode cX1_takeSum 167 = .ok (.lload 12, 2) := by decide +kernel
theorem dX1_takeSum_169 : decode cX1_takeSum 169 = .ok (.aload_n 1, 1) := by decide +kernel
theorem dX1_takeSum_170 : decode cX1_takeSum 170 = .ok (.getfield 24, 3) := by decide +kernel
theorem dX1_takeSum_173 : decode cX1_takeSum 173 = .ok (.iload 4, 2) := by decide +kernel
theorem dX1_takeSum_175 : decode cX1_takeSum 175 = .ok (.iaload, 1) := by decide +kernel
theorem dX1_takeSum_176 : decode cX1_takeSum 176 = .ok (.i2l, 1) := by decide +kernel
theorem dX1_takeSum_177 : decode cX1_takeSum 177 = .ok (.ladd, 1) := by decide +kernel
theorem dX1_takeSum_178 : decode cX1_takeSum 178 = .ok (.lstore 12, 2) := by decide +kernel
theorem dX1_takeSum_180 : decode cX1_takeSum 180 = .ok (.iinc 4 1, 3) := by decide +kernel
theorem dX1_takeSum_183 : decode cX1_takeSum 183 = .ok (.iload 9, 2) := by decide +kernel
theorem dX1_takeSum_185 : decode cX1_takeSum 185 = .ok (.ifCond .eq 22, 3) := by decide +kernel
theorem dX1_takeSum_188 : decode cX1_takeSum 188 = .ok (.lload 12, 2) := by decide +kernel
theorem dX1_takeSum_190 : decode cX1_takeSum 190 = .ok (.iload_n 3, 1) := by decide +kernel
theorem dX1_takeSum_191 : decode cX1_takeSum 191 = .ok (.i2l, 1) := by decide +kernel
theorem dX1_takeSum_192 : decode cX1_takeSum 192 = .ok (.aload_n 2, 1) := by decide +kernel
theorem dX1_takeSum_193 : decode cX1_takeSum 193 = .ok (.getfield 24, 3) := by decide +kernel
theorem dX1_takeSum_196 : decode cX1_takeSum 196 = .ok (.iload 5, 2) := by decide +kernel
theorem dX1_takeSum_198 : decode cX1_takeSum 198 = .ok (.iaload, 1) := by decide +kernel
theorem dX1_takeSum_199 : decode cX1_takeSum 199 = .ok (.i2l, 1) := by decide +kernel
theorem dX1_takeSum_200 : decode cX1_takeSum 200 = .ok (.lmul, 1) := by decide +kernel
theorem dX1_takeSum_201 : decode cX1_takeSum 201 = .ok (.ladd, 1) := by decide +kernel
theorem dX1_takeSum_202 : decode cX1_takeSum 202 = .ok (.lstore 12, 2) := by decide +kernel
theorem dX1_takeSum_204 : decode cX1_takeSum 204 = .ok (.iinc 5 1, 3) := by decide +kernel
theorem dX1_takeSum_207 : decode cX1_takeSum 207 = .ok (.aload_n 0, 1) := by decide +kernel
theorem dX1_takeSum_208 : decode cX1_takeSum 208 = .ok (.lload 10, 2) := by decide +kernel
theorem dX1_takeSum_210 : decode cX1_takeSum 210 = .ok (.lload 12, 2) := by decide +kernel
theorem dX1_takeSum_212 : decode cX1_takeSum 212 = .ok (.invokevirtual 46, 3) := by decide +kernel
theorem dX1_takeSum_215 : decode cX1_takeSum 215 = .ok (.ifCond .ne 5, 3) := by decide +kernel
theorem dX1_takeSum_218 : decode cX1_takeSum 218 = .ok (.iconst 0, 1) := by decide +kernel
theorem dX1_takeSum_219 : decode cX1_takeSum 219 = .ok (.ireturn, 1) := by decide +kernel
theorem dX1_takeSum_220 : decode cX1_takeSum 220 = .ok (.iinc 7 1, 3) := by decide +kernel
theorem dX1_takeSum_223 : decode cX1_takeSum 223 = .ok (.goto (-199), 3) := by decide +kernel
theorem dX1_takeSum_226 : decode cX1_takeSum 226 = .ok (.iconst 1, 1) := by decide +kernel
theorem dX1_takeSum_227 : decode cX1_takeSum 227 = .ok (.ireturn, 1) := by decide +kernel
