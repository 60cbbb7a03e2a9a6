theorem dX0_init_0 : decode cX0_init 0 = .ok (.aload_n 0, 1) := by decide +kernel
theorem dX0_init_1 : decode cX0_init 1 = .ok (.invokespecial 3, 3) := by decide +kernel
theorem dX0_init_4 : decode cX0_init 4 = .ok (.aload_n 0, 1) := by decide +kernel
theorem dX0_init_5 : decode cX0_init 5 = .ok (.bipush 36, 2) := by decide +kernel
theorem dX0_init_7 : decode cX0_init 7 = .ok (.newarray .long, 2) := by decide +kernel
theorem dX0_init_9 : decode cX0_init 9 = .ok (.putfield 9, 3) := by decide +kernel
theorem dX0_init_12 : decode cX0_init 12 = .ok (.aload_n 0, 1) := by decide +kernel
theorem dX0_init_13 : decode cX0_init 13 = .ok (.bipush 64, 2) := by decide +kernel
theorem dX0_init_15 : decode cX0_init 15 = .ok (.newarray .long, 2) := by decide +kernel
theorem dX0_init_17 : decode cX0_init 17 = .ok (.putfield 15, 3) := by decide +kernel
theorem dX0_init_20 : decode cX0_init 20 = .ok (.aload_n 0, 1) := by decide +kernel
theorem dX0_init_21 : decode cX0_init 21 = .ok (.lconst 0, 1) := by decide +kernel
theorem dX0_init_22 : decode cX0_init 22 = .ok (.putfield 18, 3) := by decide +kernel
theorem dX0_init_25 : decode cX0_init 25 = .ok (.aload_n 0, 1) := by decide +kernel
theorem dX0_init_26 : decode cX0_init 26 = .ok (.lconst 1, 1) := by decide +kernel
theorem dX0_init_27 : decode cX0_init 27 = .ok (.putfield 22, 3) := by decide +kernel
theorem dX0_init_30 : decode cX0_init 30 = .ok (.return_, 1) := by decide +kernel
theorem dX0_isSolved_0 : decode cX0_isSolved 0 = .ok (.aload_n 0, 1) := by decide +kernel
theorem dX0_isSolved_1 : decode cX0_isSolved 1 = .ok (.getfield 22, 3) := by decide +kernel
theorem dX0_isSolved_4 : decode cX0_isSolved 4 = .ok (.lconst 0, 1) := by decide +kernel
theorem dX0_isSolved_5 : decode cX0_isSolved 5 = .ok (.lcmp, 1) := by decide +kernel
theorem dX0_isSolved_6 : decode cX0_isSolved 6 = .ok (.ifCond .le 7, 3) := by decide +kernel
theorem dX0_isSolved_9 : decode cX0_isSolved 9 = .ok (.iconst 1, 1) := by decide +kernel
theorem dX0_isSolved_10 : decode cX0_isSolved 10 = .ok (.goto 4, 3) := by decide +kernel
theorem dX0_isSolved_13 : decode cX0_isSolved 13 = .ok (.iconst 0, 1) := by decide +kernel
theorem dX0_isSolved_14 : decode cX0_isSolved 14 = .ok (.ireturn, 1) := by decide +kernel
theorem dX0_solve_0 : decode cX0_solve 0 = .ok (.aload_n 0, 1) := by decide +kernel
theorem dX0_solve_1 : decode cX0_solve 1 = .ok (.aload_n 1, 1) := by decide +kernel
theorem dX0_solve_2 : decode cX0_solve 2 = .ok (.iload_n 2, 1) := by decide +kernel
theorem dX0_solve_3 : decode cX0_solve 3 = .ok (.invokevirtual 25, 3) := by decide +kernel
theorem dX0_solve_6 : decode cX0_solve 6 = .ok (.aload_n 0, 1) := by decide +kernel
theorem dX0_solve_7 : decode cX0_solve 7 = .ok (.aload_n 0, 1) := by decide +kernel
theorem dX0_solve_8 : decode cX0_solve 8 = .ok (.aload_n 1, 1) := by decide +kernel
theorem dX0_solve_9 : decode cX0_solve 9 = .ok (.invokevirtual 29, 3) := by decide +kernel
theorem dX0_solve_12 : decode cX0_solve 12 = .ok (.invokevirtual 35, 3) := by decide +kernel
theorem dX0_solve_15 : decode cX0_solve 15 = .ok (.putfield 22, 3) := by decide +kernel
theorem dX0_solve_18 : decode cX0_solve 18 = .ok (.aload_n 1, 1) := by decide +kernel
theorem dX0_solve_19 : decode cX0_solve 19 = .ok (.invokevirtual 39, 3) := by decide +kernel
theorem dX0_solve_22 : decode cX0_solve 22 = .ok (.istore 4, 2) := by decide +kernel
theorem dX0_solve_24 : decode cX0_solve 24 = .ok (.aload_n 1, 1) := by decide +kernel
theorem dX0_solve_25 : decode cX0_solve 25 = .ok (.iload 4, 2) := by decide +kernel
theorem dX0_solve_27 : decode cX0_solve 27 = .ok (.invokevirtual 42, 3) := by decide +kernel
theorem dX0_solve_30 : decode cX0_solve 30 = .ok (.ifCond .eq 27, 3) := by decide +kernel
theorem dX0_solve_33 : decode cX0_solve 33 = .ok (.aload_n 0, 1) := by decide +kernel
theorem dX0_solve_34 : decode cX0_solve 34 = .ok (.aload_n 1, 1) := by decide +kernel
theorem dX0_solve_35 : decode cX0_solve 35 = .ok (.iload_n 2, 1) := by decide +kernel
theorem dX0_solve_36 : decode cX0_solve 36 = .ok (.iload 4, 2) := by decide +kernel
theorem dX0_solve_38 : decode cX0_solve 38 = .ok (.iload_n 3, 1) := by decide +kernel
theorem dX0_solve_39 : decode cX0_solve 39 = .ok (.invokevirtual 46, 3) := by decide +kernel
theorem dX0_solve_42 : decode cX0_solve 42 = .ok (.aload_n 0, 1) := by decide +kernel
theorem dX0_solve_43 : decode cX0_solve 43 = .ok (.aload_n 0, 1) := by decide +kernel
theorem dX0_solve_44 : decode cX0_solve 44 = .ok (.aload_n 1, 1) := by decide +kernel
theorem dX0_solve_45 : decode cX0_solve 45 = .ok (.invokevirtual 29, 3) := by decide +kernel
theorem dX0_solve_48 : decode cX0_solve 48 = .ok (.invokevirtual 35, 3) := by decide +kernel
theorem dX0_solve_51 : decode cX0_solve 51 = .ok (.putfield 18, 3) := by decide +kernel
theorem dX0_solve_54 : decode cX0_solve 54 = .ok (.goto 21, 3) := by decide +kernel
theorem dX0_solve_57 : decode cX0_solve 57 = .ok (.aload_n 0, 1) := by decide +kernel
theorem dX0_solve_58 : decode cX0_solve 58 = .ok (.iload 4, 2) := by decide +kernel
theorem dX0_solve_60 : decode cX0_solve 60 = .ok (.iload_n 3, 1) := by decide +kernel
theorem dX0_solve_61 : decode cX0_solve 61 = .ok (.if_icmp .ne 10, 3) := by decide +kernel
theorem dX0_solve_64 : decode cX0_solve 64 = .ok (.aload_n 0, 1) := by decide +kernel
theorem dX0_solve_65 : decode cX0_solve 65 = .ok (.getfield 22, 3) := by decide +kernel
theorem dX0_solve_68 : decode cX0_solve 68 = .ok (.goto 4, 3) := by decide +kernel
theorem dX0_solve_71 : decode cX0_solve 71 = .ok (.lconst 0, 1) := by decide +kernel
theorem dX0_solve_72 : decode cX0_solve 72 = .ok (.putfield 18, 3) := by decide +kernel
theorem dX0_solve_75 : decode cX0_solve 75 = .ok (.return_, 1) := by decide +kernel
theorem dX0_reducedNumerator_0 : decode cX0_reducedNumerator 0 = .ok (.iload_n 1, 1) := by decide +kernel
theorem dX0_reducedNumerator_1 : decode cX0_reducedNumerator 1 = .ok (.i2l, 1) := by decide +kernel
theorem dX0_reducedNumerator_2 : decode cX0_reducedNumerator 2 = .ok (.aload_n 0, 1) := by decide +kernel
theorem dX0_reducedNumerator_3 : decode cX0_reducedNumerator 3 = .ok (.getfield 18, 3) := by decide +kernel
theorem dX0_reducedNumerator_6 : decode cX0_reducedNumerator 6 = .ok (.lmul, 1) := by decide +kernel
theorem dX0_reducedNumerator_7 : decode cX0_reducedNumerator 7 = .ok (.aload_n 0, 1) := by decide +kernel
theorem dX0_reducedNumerator_8 : decode cX0_reducedNumerator 8 = .ok (.getfield 22, 3) := by decide +kernel
theorem dX0_reducedNumerator_11 : decode cX0_reducedNumerator 11 = .ok (.invokestatic 50, 3) := by decide +kernel
theorem dX0_reducedNumerator_14 : decode cX0_reducedNumerator 14 = .ok (.lstore_n 2, 1) := by decide +kernel
theorem dX0_reducedNumerator_15 : decode cX0_reducedNumerator 15 = .ok (.lload_n 2, 1) := by decide +kernel
theorem dX0_reducedNumerator_16 : decode cX0_reducedNumerator 16 = .ok (.lconst 0, 1) := by decide +kernel
theorem dX0_reducedNumerator_17 : decode cX0_reducedNumerator 17 = .ok (.lcmp, 1) := by decide +kernel
theorem dX0_reducedNumerator_18 : decode cX0_reducedNumerator 18 = .ok (.ifCond .le 15, 3) := by decide +kernel
theorem dX0_reducedNumerator_21 : decode cX0_reducedNumerator 21 = .ok (.iload_n 1, 1) := by decide +kernel
theorem dX0_reducedNumerator_22 : decode cX0_reducedNumerator 22 = .ok (.i2l, 1) := by decide +kernel
theorem dX0_reducedNumerator_23 : decode cX0_reducedNumerator 23 = .ok (.aload_n 0, 1) := by decide +kernel
theorem dX0_reducedNumerator_24 : decode cX0_reducedNumerator 24 = .ok (.getfield 18, 3) := by decide +kernel
theorem dX0_reducedNumerator_27 : decode cX0_reducedNumerator 27 = .ok (.lmul, 1) := by decide +kernel
theorem dX0_reducedNumerator_28 : decode cX0_reducedNumerator 28 = .ok (.lload_n 2, 1) := by decide +kernel
theorem dX0_reducedNumerator_29 : decode cX0_reducedNumerator 29 = .ok (.ldiv, 1) := by decide +kernel
theorem dX0_reducedNumerator_30 : decode cX0_reducedNumerator 30 = .ok (.goto 4, 3) := by decide +kernel
theorem dX0_reducedNumerator_33 : decode cX0_reducedNumerator 33 = .ok (.lconst 0, 1) := by decide +kernel
theorem dX0_reducedNumerator_34 : decode cX0_reducedNumerator 34 = .ok (.lreturn, 1) := by decide +kernel
theorem dX0_reducedDenominator_0 : decode cX0_reducedDenominator 0 = .ok (.iload_n 1, 1) := by decide +kernel
theorem dX0_reducedDenominator_1 : decode cX0_reducedDenominator 1 = .ok (.i2l, 1) := by decide +kernel
theorem dX0_reducedDenominator_2 : decode cX0_reducedDenominator 2 = .ok (.aload_n 0, 1) := by decide +kernel
theorem dX0_reducedDenominator_3 : decode cX0_reducedDenominator 3 = .ok (.getfield 18, 3) := by decide +kernel
theorem dX0_reducedDenominator_6 : decode cX0_reducedDenominator 6 = .ok (.lmul, 1) := by decide +kernel
theorem dX0_reducedDenominator_7 : decode cX0_reducedDenominator 7 = .ok (.aload_n 0, 1) := by decide +kernel
theorem dX0_reducedDenominator_8 : decode cX0_reducedDenominator 8 = .ok (.getfield 22, 3) := by decide +kernel
theorem dX0_reducedDenominator_11 : decode cX0_reducedDenominator 11 = .ok (.invokestatic 50, 3) := by decide +kernel
theorem dX0_reducedDenominator_14 : decode cX0_reducedDenominator 14 = .ok (.lstore_n 2, 1) := by decide +kernel
theorem dX0_reducedDenominator_15 : decode cX0_reducedDenominator 15 = .ok (.lload_n 2, 1) := by decide +kernel
theorem dX0_reducedDenominator_16 : decode cX0_reducedDenominator 16 = .ok (.lconst 0, 1) := by decide +kernel
theorem dX0_reducedDenominator_17 : decode cX0_reducedDenominator 17 = .ok (.lcmp, 1) := by decide +kernel
theorem dX0_reducedDenominator_18 : decode cX0_reducedDenominator 18 = .ok (.ifCond .le 12, 3) := by decide +kernel
theorem dX0_reducedDenominator_21 : decode cX0_reducedDenominator 21 = .ok (.aload_n 0, 1) := by decide +kernel
theorem dX0_reducedDenominator_22 : decode cX0_reducedDenominator 22 = .ok (.getfield 22, 3) := by decide +kernel
theorem dX0_reducedDenominator_25 : decode cX0_reducedDenominator 25 = .ok (.lload_n 2, 1) := by decide +kernel
theorem dX0_reducedDenominator_26 : decode cX0_reducedDenominator 26 = .ok (.ldiv, 1) := by decide +kernel
theorem dX0_reducedDenominator_27 : decode cX0_reducedDenominator 27 = .ok (.goto 4, 3) := by decide +kernel
theorem dX0_reducedDenominator_30 : decode cX0_reducedDenominator 30 = .ok (.lconst 1, 1) := by decide +kernel
theorem dX0_reducedDenominator_31 : decode cX0_reducedDenominator 31 = .ok (.lreturn, 1) := by decide +kernel
theorem dX0_fillEquations_0 : decode cX0_fillEquations 0 = .ok (.aload_n 0, 1) := by decide +kernel
theorem dX0_fillEquations_1 : decode cX0_fillEquations 1 = .ok (.getfield 9, 3) := by decide +kernel
theorem dX0_fillEquations_4 : decode cX0_fillEquations 4 = .ok (.lconst 0, 1) := by decide +kernel
theorem dX0_fillEquations_5 : decode cX0_fillEquations 5 = .ok (.invokestatic 54, 3) := by decide +kernel
theorem dX0_fillEquations_8 : decode cX0_fillEquations 8 = .ok (.iconst 0, 1) := by decide +kernel
theorem dX0_fillEquations_9 : decode cX0_fillEquations 9 = .ok (.istore_n 3, 1) := by decide +kernel
theorem dX0_fillEquations_10 : decode cX0_fillEquations 10 = .ok (.iload_n 3, 1) := by decide +kernel
theorem dX0_fillEquations_11 : decode cX0_fillEquations 11 = .ok (.aload_n 1, 1) := by decide +kernel
theorem dX0_fillEquations_12 : decode cX0_fillEquations 12 = .ok (.invokevirtual 29, 3) := by decide +kernel
theorem dX0_fillEquations_15 : decode cX0_fillEquations 15 = .ok (.if_icmp .ge 80, 3) := by decide +kernel
theorem dX0_fillEquations_18 : decode cX0_fillEquations 18 = .ok (.aload_n 0, 1) := by decide +kernel
theorem dX0_fillEquations_19 : decode cX0_fillEquations 19 = .ok (.getfield 9, 3) := by decide +kernel
theorem dX0_fillEquations_22 : decode cX0_fillEquations 22 = .ok (.bipush 6, 2) := by decide +kernel
theorem dX0_fillEquations_24 : decode cX0_fillEquations 24 = .ok (.iload_n 3, 1) := by decide +kernel
theorem dX0_fillEquations_25 : decode cX0_fillEquations 25 = .ok (.imul, 1) := by decide +kernel
theorem dX0_fillEquations_26 : decode cX0_fillEquations 26 = .ok (.iload_n 3, 1) := by decide +kernel
theorem dX0_fillEquations_27 : decode cX0_fillEquations 27 = .ok (.iadd, 1) := by decide +kernel
theorem dX0_fillEquations_28 : decode cX0_fillEquations 28 = .ok (.ldc2_w 60, 3) := by decide +kernel
theorem dX0_fillEquations_31 : decode cX0_fillEquations 31 = .ok (.lastore, 1) := by decide +kernel
theorem dX0_fillEquations_32 : decode cX0_fillEquations 32 = .ok (.iconst 0, 1) := by decide +kernel
theorem dX0_fillEquations_33 : decode cX0_fillEquations 33 = .ok (.istore 4, 2) := by decide +kernel
theorem dX0_fillEquations_35 : decode cX0_fillEquations 35 = .ok (.iload 4, 2) := by decide +kernel
theorem dX0_fillEquations_37 : decode cX0_fillEquations 37 = .ok (.iconst 1, 1) := by decide +kernel
theorem dX0_fillEquations_38 : decode cX0_fillEquations 38 = .ok (.if_icmp .gt 51, 3) := by decide +kernel
theorem dX0_fillEquations_41 : decode cX0_fillEquations 41 = .ok (.aload_n 1, 1) := by decide +kernel
theorem dX0_fillEquations_42 : decode cX0_fillEquations 42 = .ok (.iload_n 3, 1) := by decide +kernel
theorem dX0_fillEquations_43 : decode cX0_fillEquations 43 = .ok (.iload 4, 2) := by decide +kernel
theorem dX0_fillEquations_45 : decode cX0_fillEquations 45 = .ok (.invokevirtual 62, 3) := by decide +kernel
theorem dX0_fillEquations_48 : decode cX0_fillEquations 48 = .ok (.istore 5, 2) := by decide +kernel
theorem dX0_fillEquations_50 : decode cX0_fillEquations 50 = .ok (.aload_n 1, 1) := by decide +kernel
theorem dX0_fillEquations_51 : decode cX0_fillEquations 51 = .ok (.iload 5, 2) := by decide +kernel
theorem dX0_fillEquations_53 : decode cX0_fillEquations 53 = .ok (.invokevirtual 42, 3) := by decide +kernel
theorem dX0_fillEquations_56 : decode cX0_fillEquations 56 = .ok (.ifCond .eq 27, 3) := by decide +kernel
theorem dX0_fillEquations_59 : decode cX0_fillEquations 59 = .ok (.aload_n 0, 1) := by decide +kernel
theorem dX0_fillEquations_60 : decode cX0_fillEquations 60 = .ok (.getfield 9, 3) := by decide +kernel
theorem dX0_fillEquations_63 : decode cX0_fillEquations 63 = .ok (.bipush 6, 2) := by decide +kernel
theorem dX0_fillEquations_65 : decode cX0_fillEquations 65 = .ok (.iload_n 3, 1) := by decide +kernel
theorem dX0_fillEquations_66 : decode cX0_fillEquations 66 = .ok (.imul, 1) := by decide +kernel
theorem dX0_fillEquations_67 : decode cX0_fillEquations 67 = .ok (.iload 5, 2) := by decide +kernel
theorem dX0_fillEquations_69 : decode cX0_fillEquations 69 = .ok (.iadd, 1) := by decide +kernel
theorem dX0_fillEquations_70 : decode cX0_fillEquations 70 = .ok (.dup2, 1) := by decide +kernel
theorem dX0_fillEquations_71 : decode cX0_fillEquations 71 = .ok (.laload, 1) := by decide +kernel
theorem dX0_fillEquations_72 : decode cX0_fillEquations 72 = .ok (.aload_n 1, 1) := by decide +kernel
theorem dX0_fillEquations_73 : decode cX0_fillEquations 73 = .ok (.iload_n 3, 1) := by decide +kernel
theorem dX0_fillEquations_74 : decode cX0_fillEquations 74 = .ok (.iload_n 2, 1) := by decide +kernel
theorem dX0_fillEquations_75 : decode cX0_fillEquations 75 = .ok (.iload 4, 2) := by decide +kernel
theorem dX0_fillEquations_77 : decode cX0_fillEquations 77 = .ok (.invokevirtual 66, 3) := by decide +kernel
theorem dX0_fillEquations_80 : decode cX0_fillEquations 80 = .ok (.i2l, 1) := by decide +kernel
theorem dX0_fillEquations_81 : decode cX0_fillEquations 81 = .ok (.lsub, 1) := by decide +kernel
theorem dX0_fillEquations_82 : decode cX0_fillEquations 82 = .ok (.lastore, 1) := by decide +kernel
theorem dX0_fillEquations_83 : decode cX0_fillEquations 83 = .ok (.iinc 4 1, 3) := by decide +kernel
theorem dX0_fillEquations_86 : decode cX0_fillEquations 86 = .ok (.goto (-51), 3) := by decide +kernel
theorem dX0_fillEquations_89 : decode cX0_fillEquations 89 = .ok (.iinc 3 1, 3) := by decide +kernel
theorem dX0_fillEquations_92 : decode cX0_fillEquations 92 = .ok (.goto (-82), 3) := by decide +kernel
theorem dX0_fillEquations_95 : decode cX0_fillEquations 95 = .ok (.return_, 1) := by decide +kernel
theorem dX0_fillColumn_0 : decode cX0_fillColumn 0 = .ok (.iconst 0, 1) := by decide +kernel
theorem dX0_fillColumn_1 : decode cX0_fillColumn 1 = .ok (.istore 5, 2) := by decide +kernel
theorem dX0_fillColumn_3 : decode cX0_fillColumn 3 = .ok (.iload 5, 2) := by decide +kernel
theorem dX0_fillColumn_5 : decode cX0_fillColumn 5 = .ok (.aload_n 1, 1) := by decide +kernel
theorem dX0_fillColumn_6 : decode cX0_fillColumn 6 = .ok (.invokevirtual 29, 3) := by decide +kernel
theorem dX0_fillColumn_9 : decode cX0_fillColumn 9 = .ok (.if_icmp .ge 90, 3) := by decide +kernel
theorem dX0_fillColumn_12 : decode cX0_fillColumn 12 = .ok (.iload 5, 2) := by decide +kernel
theorem dX0_fillColumn_14 : decode cX0_fillColumn 14 = .ok (.iload 4, 2) := by decide +kernel
theorem dX0_fillColumn_16 : decode cX0_fillColumn 16 = .ok (.if_icmp .ne 9, 3) := by decide +kernel
theorem dX0_fillColumn_19 : decode cX0_fillColumn 19 = .ok (.ldc2_w 60, 3) := by decide +kernel
theorem dX0_fillColumn_22 : decode cX0_fillColumn 22 = .ok (.goto 4, 3) := by decide +kernel
theorem dX0_fillColumn_25 : decode cX0_fillColumn 25 = .ok (.lconst 0, 1) := by decide +kernel
theorem dX0_fillColumn_26 : decode cX0_fillColumn 26 = .ok (.lstore 6, 2) := by decide +kernel
theorem dX0_fillColumn_28 : decode cX0_fillColumn 28 = .ok (.iconst 0, 1) := by decide +kernel
theorem dX0_fillColumn_29 : decode cX0_fillColumn 29 = .ok (.istore 8, 2) := by decide +kernel
theorem dX0_fillColumn_31 : decode cX0_fillColumn 31 = .ok (.iload 8, 2) := by decide +kernel
theorem dX0_fillColumn_33 : decode cX0_fillColumn 33 = .ok (.iconst 1, 1) := by decide +kernel
theorem dX0_fillColumn_34 : decode cX0_fillColumn 34 = .ok (.if_icmp .gt 45, 3) := by decide +kernel
theorem dX0_fillColumn_37 : decode cX0_fillColumn 37 = .ok (.iload 4, 2) := by decide +kernel
theorem dX0_fillColumn_39 : decode cX0_fillColumn 39 = .ok (.invokestatic 70, 3) := by decide +kernel
theorem dX0_fillColumn_42 : decode cX0_fillColumn 42 = .ok (.ifCond .eq 31, 3) := by decide +kernel
theorem dX0_fillColumn_45 : decode cX0_fillColumn 45 = .ok (.aload_n 1, 1) := by decide +kernel
theorem dX0_fillColumn_46 : decode cX0_fillColumn 46 = .ok (.iload 5, 2) := by decide +kernel
theorem dX0_fillColumn_48 : decode cX0_fillColumn 48 = .ok (.iload 8, 2) := by decide +kernel
theorem dX0_fillColumn_50 : decode cX0_fillColumn 50 = .ok (.invokevirtual 62, 3) := by decide +kernel
theorem dX0_fillColumn_53 : decode cX0_fillColumn 53 = .ok (.iload 4, 2) := by decide +kernel
theorem dX0_fillColumn_55 : decode cX0_fillColumn 55 = .ok (.if_icmp .ne 18, 3) := by decide +kernel
theorem dX0_fillColumn_58 : decode cX0_fillColumn 58 = .ok (.lload 6, 2) := by decide +kernel
theorem dX0_fillColumn_60 : decode cX0_fillColumn 60 = .ok (.aload_n 1, 1) := by decide +kernel
theorem dX0_fillColumn_61 : decode cX0_fillColumn 61 = .ok (.iload 5, 2) := by decide +kernel
theorem dX0_fillColumn_63 : decode cX0_fillColumn 63 = .ok (.iload_n 2, 1) := by decide +kernel
theorem dX0_fillColumn_64 : decode cX0_fillColumn 64 = .ok (.iload 8, 2) := by decide +kernel
theorem dX0_fillColumn_66 : decode cX0_fillColumn 66 = .ok (.invokevirtual 66, 3) := by decide +kernel
theorem dX0_fillColumn_69 : decode cX0_fillColumn 69 = .ok (.i2l, 1) := by decide +kernel
theorem dX0_fillColumn_70 : decode cX0_fillColumn 70 = .ok (.ladd, 1) := by decide +kernel
theorem dX0_fillColumn_71 : decode cX0_fillColumn 71 = .ok (.lstore 6, 2) := by decide +kernel
theorem dX0_fillColumn_73 : decode cX0_fillColumn 73 = .ok (.iinc 8 1, 3) := by decide +kernel
theorem dX0_fillColumn_76 : decode cX0_fillColumn 76 = .ok (.goto (-45), 3) := by decide +kernel
theorem dX0_fillColumn_79 : decode cX0_fillColumn 79 = .ok (.aload_n 0, 1) := by decide +kernel
theorem dX0_fillColumn_80 : decode cX0_fillColumn 80 = .ok (.getfield 9, 3) := by decide +kernel
theorem dX0_fillColumn_83 : decode cX0_fillColumn 83 = .ok (.bipush 6, 2) := by decide +kernel
theorem dX0_fillColumn_85 : decode cX0_fillColumn 85 = .ok (.iload 5, 2) := by decide +kernel
theorem dX0_fillColumn_87 : decode cX0_fillColumn 87 = .ok (.imul, 1) := by decide +kernel
theorem dX0_fillColumn_88 : decode cX0_fillColumn 88 = .ok (.iload_n 3, 1) := by decide +kernel
theorem dX0_fillColumn_89 : decode cX0_fillColumn 89 = .ok (.iadd, 1) := by decide +kernel
theorem dX0_fillColumn_90 : decode cX0_fillColumn 90 = .ok (.lload 6, 2) := by decide +kernel
theorem dX0_fillColumn_92 : decode cX0_fillColumn 92 = .ok (.lastore, 1) := by decide +kernel
theorem dX0_fillColumn_93 : decode cX0_fillColumn 93 = .ok (.iinc 5 1, 3) := by decide +kernel
theorem dX0_fillColumn_96 : decode cX0_fillColumn 96 = .ok (.goto (-93), 3) := by decide +kernel
theorem dX0_fillColumn_99 : decode cX0_fillColumn 99 = .ok (.return_, 1) := by decide +kernel
theorem dX0_determinant_0 : decode cX0_determinant 0 = .ok (.iconst 1, 1) := by decide +kernel
theorem dX0_determinant_1 : decode cX0_determinant 1 = .ok (.iload_n 1, 1) := by decide +kernel
theorem dX0_determinant_2 : decode cX0_determinant 2 = .ok (.bipush 6, 2) := by decide +kernel
theorem dX0_determinant_4 : decode cX0_determinant 4 = .ok (.invokestatic 73, 3) := by decide +kernel
theorem dX0_determinant_7 : decode cX0_determinant 7 = .ok (.ishl, 1) := by decide +kernel
theorem dX0_determinant_8 : decode cX0_determinant 8 = .ok (.iconst 1, 1) := by decide +kernel
theorem dX0_determinant_9 : decode cX0_determinant 9 = .ok (.isub, 1) := by decide +kernel
theorem dX0_determinant_10 : decode cX0_determinant 10 = .ok (.istore_n 2, 1) := by decide +kernel
theorem dX0_determinant_11 : decode cX0_determinant 11 = .ok (.aload_n 0, 1) := by decide +kernel
theorem dX0_determinant_12 : decode cX0_determinant 12 = .ok (.getfield 15, 3) := by decide +kernel
theorem dX0_determinant_15 : decode cX0_determinant 15 = .ok (.iconst 0, 1) := by decide +kernel
theorem dX0_determinant_16 : decode cX0_determinant 16 = .ok (.lconst 1, 1) := by decide +kernel
theorem dX0_determinant_17 : decode cX0_determinant 17 = .ok (.lastore, 1) := by decide +kernel
theorem dX0_determinant_18 : decode cX0_determinant 18 = .ok (.iconst 1, 1) := by decide +kernel
theorem dX0_determinant_19 : decode cX0_determinant 19 = .ok (.istore_n 3, 1) := by decide +kernel
theorem dX0_determinant_20 : decode cX0_determinant 20 = .ok (.iload_n 3, 1) := by decide +kernel
theorem dX0_determinant_21 : decode cX0_determinant 21 = .ok (.iload_n 2, 1) := by decide +kernel
theorem dX0_determinant_22 : decode cX0_determinant 22 = .ok (.if_icmp .gt 26, 3) := by decide +kernel
theorem dX0_determinant_25 : decode cX0_determinant 25 = .ok (.aload_n 0, 1) := by decide +kernel
theorem dX0_determinant_26 : decode cX0_determinant 26 = .ok (.getfield 15, 3) := by decide +kernel
theorem dX0_determinant_29 : decode cX0_determinant 29 = .ok (.iload_n 3, 1) := by decide +kernel
theorem dX0_determinant_30 : decode cX0_determinant 30 = .ok (.aload_n 0, 1) := by decide +kernel
theorem dX0_determinant_31 : decode cX0_determinant 31 = .ok (.iload_n 3, 1) := by decide +kernel
theorem dX0_determinant_32 : decode cX0_determinant 32 = .ok (.invokestatic 78, 3) := by decide +kernel
theorem dX0_determinant_35 : decode cX0_determinant 35 = .ok (.iconst 1, 1) := by decide +kernel
theorem dX0_determinant_36 : decode cX0_determinant 36 = .ok (.isub, 1) := by decide +kernel
theorem dX0_determinant_37 : decode cX0_determinant 37 = .ok (.iload_n 3, 1) := by decide +kernel
theorem dX0_determinant_38 : decode cX0_determinant 38 = .ok (.invokevirtual 84, 3) := by decide +kernel
theorem dX0_determinant_41 : decode cX0_determinant 41 = .ok (.lastore, 1) := by decide +kernel
theorem dX0_determinant_42 : decode cX0_determinant 42 = .ok (.iinc 3 1, 3) := by decide +kernel
theorem dX0_determinant_45 : decode cX0_determinant 45 = .ok (.goto (-25), 3) := by decide +kernel
theorem dX0_determinant_48 : decode cX0_determinant 48 = .ok (.aload_n 0, 1) := by decide +kernel
theorem dX0_determinant_49 : decode cX0_determinant 49 = .ok (.getfield 15, 3) := by decide +kernel
theorem dX0_determinant_52 : decode cX0_determinant 52 = .ok (.iload_n 2, 1) := by decide +kernel
theorem dX0_determinant_53 : decode cX0_determinant 53 = .ok (.laload, 1) := by decide +kernel
theorem dX0_determinant_54 : decode cX0_determinant 54 = .ok (.lreturn, 1) := by decide +kernel
theorem dX0_expand_0 : decode cX0_expand 0 = .ok (.lconst 0, 1) := by decide +kernel
theorem dX0_expand_1 : decode cX0_expand 1 = .ok (.lstore_n 3, 1) := by decide +kernel
theorem dX0_expand_2 : decode cX0_expand 2 = .ok (.lconst 1, 1) := by decide +kernel
theorem dX0_expand_3 : decode cX0_expand 3 = .ok (.lstore 5, 2) := by decide +kernel
theorem dX0_expand_5 : decode cX0_expand 5 = .ok (.iconst 5, 1) := by decide +kernel
theorem dX0_expand_6 : decode cX0_expand 6 = .ok (.istore 7, 2) := by decide +kernel
theorem dX0_expand_8 : decode cX0_expand 8 = .ok (.iload 7, 2) := by decide +kernel
theorem dX0_expand_10 : decode cX0_expand 10 = .ok (.ifCond .lt 55, 3) := by decide +kernel
theorem dX0_expand_13 : decode cX0_expand 13 = .ok (.iconst 1, 1) := by decide +kernel
theorem dX0_expand_14 : decode cX0_expand 14 = .ok (.iload 7, 2) := by decide +kernel
theorem dX0_expand_16 : decode cX0_expand 16 = .ok (.ishl, 1) := by decide +kernel
theorem dX0_expand_17 : decode cX0_expand 17 = .ok (.istore 8, 2) := by decide +kernel
theorem dX0_expand_19 : decode cX0_expand 19 = .ok (.iload_n 2, 1) := by decide +kernel
theorem dX0_expand_20 : decode cX0_expand 20 = .ok (.iload 8, 2) := by decide +kernel
theorem dX0_expand_22 : decode cX0_expand 22 = .ok (.iand, 1) := by decide +kernel
theorem dX0_expand_23 : decode cX0_expand 23 = .ok (.ifCond .eq 36, 3) := by decide +kernel
theorem dX0_expand_26 : decode cX0_expand 26 = .ok (.lload_n 3, 1) := by decide +kernel
theorem dX0_expand_27 : decode cX0_expand 27 = .ok (.lload 5, 2) := by decide +kernel
theorem dX0_expand_29 : decode cX0_expand 29 = .ok (.aload_n 0, 1) := by decide +kernel
theorem dX0_expand_30 : decode cX0_expand 30 = .ok (.getfield 9, 3) := by decide +kernel
theorem dX0_expand_33 : decode cX0_expand 33 = .ok (.bipush 6, 2) := by decide +kernel
theorem dX0_expand_35 : decode cX0_expand 35 = .ok (.iload_n 1, 1) := by decide +kernel
theorem dX0_expand_36 : decode cX0_expand 36 = .ok (.imul, 1) := by decide +kernel
theorem dX0_expand_37 : decode cX0_expand 37 = .ok (.iload 7, 2) := by decide +kernel
theorem dX0_expand_39 : decode cX0_expand 39 = .ok (.iadd, 1) := by decide +kernel
theorem dX0_expand_40 : decode cX0_expand 40 = .ok (.laload, 1) := by decide +kernel
theorem dX0_expand_41 : decode cX0_expand 41 = .ok (.lmul, 1) := by decide +kernel
theorem dX0_expand_42 : decode cX0_expand 42 = .ok (.aload_n 0, 1) := by decide +kernel
theorem dX0_expand_43 : decode cX0_expand 43 = .ok (.getfield 15, 3) := by decide +kernel
theorem dX0_expand_46 : decode cX0_expand 46 = .ok (.iload_n 2, 1) := by decide +kernel
theorem dX0_expand_47 : decode cX0_expand 47 = .ok (.iload 8, 2) := by decide +kernel
theorem dX0_expand_49 : decode cX0_expand 49 = .ok (.isub, 1) := by decide +kernel
theorem dX0_expand_50 : decode cX0_expand 50 = .ok (.laload, 1) := by decide +kernel
theorem dX0_expand_51 : decode cX0_expand 51 = .ok (.lmul, 1) := by decide +kernel
theorem dX0_expand_52 : decode cX0_expand 52 = .ok (.ladd, 1) := by decide +kernel
theorem dX0_expand_53 : decode cX0_expand 53 = .ok (.lstore_n 3, 1) := by decide +kernel
theorem dX0_expand_54 : decode cX0_expand 54 = .ok (.lload 5, 2) := by decide +kernel
theorem dX0_expand_56 : decode cX0_expand 56 = .ok (.lneg, 1) := by decide +kernel
theorem dX0_expand_57 : decode cX0_expand 57 = .ok (.lstore 5, 2) := by decide +kernel
theorem dX0_expand_59 : decode cX0_expand 59 = .ok (.iinc 7 (-1), 3) := by decide +kernel
theorem dX0_expand_62 : decode cX0_expand 62 = .ok (.goto (-54), 3) := by decide +kernel
theorem dX0_expand_65 : decode cX0_expand 65 = .ok (.lload_n 3, 1) := by decide +kernel
theorem dX0_expand_66 : decode cX0_expand 66 = .ok (.lreturn, 1) := by decide +kernel
theorem dX0_commonDivisor_0 : decode cX0_commonDivisor 0 = .ok (.lload_n 0, 1) := by decide +kernel
theorem dX0_commonDivisor_1 : decode cX0_commonDivisor 1 = .ok (.lstore 4, 2) := by decide +kernel
theorem dX0_commonDivisor_3 : decode cX0_commonDivisor 3 = .ok (.lload_n 2, 1) := by decide +kernel
theorem dX0_commonDivisor_4 : decode cX0_commonDivisor 4 = .ok (.lstore 6, 2) := by decide +kernel
theorem dX0_commonDivisor_6 : decode cX0_commonDivisor 6 = .ok (.iconst 0, 1) := by decide +kernel
theorem dX0_commonDivisor_7 : decode cX0_commonDivisor 7 = .ok (.istore 8, 2) := by decide +kernel
theorem dX0_commonDivisor_9 : decode cX0_commonDivisor 9 = .ok (.iload 8, 2) := by decide +kernel
theorem dX0_commonDivisor_11 : decode cX0_commonDivisor 11 = .ok (.sipush 200, 3) := by decide +kernel
theorem dX0_commonDivisor_14 : decode cX0_commonDivisor 14 = .ok (.if_icmp .ge 31, 3) := by decide +kernel
theorem dX0_commonDivisor_17 : decode cX0_commonDivisor 17 = .ok (.lload 6, 2) := by decide +kernel
theorem dX0_commonDivisor_19 : decode cX0_commonDivisor 19 = .ok (.lconst 0, 1) := by decide +kernel
theorem dX0_commonDivisor_20 : decode cX0_commonDivisor 20 = .ok (.lcmp, 1) := by decide +kernel
theorem dX0_commonDivisor_21 : decode cX0_commonDivisor 21 = .ok (.ifCond .eq 24, 3) := by decide +kernel
theorem dX0_commonDivisor_24 : decode cX0_commonDivisor 24 = .ok (.lload 4, 2) := by decide +kernel
theorem dX0_commonDivisor_26 : decode cX0_commonDivisor 26 = .ok (.lload 6, 2) := by decide +kernel
theorem dX0_commonDivisor_28 : decode cX0_commonDivisor 28 = .ok (.lrem, 1) := by decide +kernel
theorem dX0_commonDivisor_29 : decode cX0_commonDivisor 29 = .ok (.lstore 9, 2) := by decide +kernel
theorem dX0_commonDivisor_31 : decode cX0_commonDivisor 31 = .ok (.lload 6, 2) := by decide +kernel
theorem dX0_commonDivisor_33 : decode cX0_commonDivisor 33 = .ok (.lstore 4, 2) := by decide +kernel
theorem dX0_commonDivisor_35 : decode cX0_commonDivisor 35 = .ok (.lload 9, 2) := by decide +kernel
theorem dX0_commonDivisor_37 : decode cX0_commonDivisor 37 = .ok (.lstore 6, 2) := by decide +kernel
theorem dX0_commonDivisor_39 : decode cX0_commonDivisor 39 = .ok (.iinc 8 1, 3) := by decide +kernel
theorem dX0_commonDivisor_42 : decode cX0_commonDivisor 42 = .ok (.goto (-33), 3) := by decide +kernel
theorem dX0_commonDivisor_45 : decode cX0_commonDivisor 45 = .ok (.lload 4, 2) := by decide +kernel
theorem dX0_commonDivisor_47 : decode cX0_commonDivisor 47 = .ok (.lreturn, 1) := by decide +kernel
theorem dX1_init_0 : decode cX1_init 0 = .ok (.aload_n 0, 1) := by decide +kernel
theorem dX1_init_1 : decode cX1_init 1 = .ok (.invokespecial 3, 3) := by decide +kernel
theorem dX1_init_4 : decode cX1_init 4 = .ok (.aload_n 0, 1) := by decide +kernel
theorem dX1_init_5 : decode cX1_init 5 = .ok (.bipush 60, 2) := by decide +kernel
theorem dX1_init_7 : decode cX1_init 7 = .ok (.newarray .char, 2) := by decide +kernel
theorem dX1_init_9 : decode cX1_init 9 = .ok (.putfield 11, 3) := by decide +kernel
theorem dX1_init_12 : decode cX1_init 12 = .ok (.aload_n 0, 1) := by decide +kernel
theorem dX1_init_13 : decode cX1_init 13 = .ok (.iconst 0, 1) := by decide +kernel
theorem dX1_init_14 : decode cX1_init 14 = .ok (.putfield 15, 3) := by decide +kernel
theorem dX1_init_17 : decode cX1_init 17 = .ok (.return_, 1) := by decide +kernel
theorem dX1_isFull_0 : decode cX1_isFull 0 = .ok (.aload_n 0, 1) := by decide +kernel
theorem dX1_isFull_1 : decode cX1_isFull 1 = .ok (.getfield 15, 3) := by decide +kernel
theorem dX1_isFull_4 : decode cX1_isFull 4 = .ok (.bipush 60, 2) := by decide +kernel
theorem dX1_isFull_6 : decode cX1_isFull 6 = .ok (.if_icmp .lt 7, 3) := by decide +kernel
theorem dX1_isFull_9 : decode cX1_isFull 9 = .ok (.iconst 1, 1) := by decide +kernel
theorem dX1_isFull_10 : decode cX1_isFull 10 = .ok (.goto 4, 3) := by decide +kernel
theorem dX1_isFull_13 : decode cX1_isFull 13 = .ok (.iconst 0, 1) := by decide +kernel
theorem dX1_isFull_14 : decode cX1_isFull 14 = .ok (.ireturn, 1) := by decide +kernel
theorem dX1_add_0 : decode cX1_add 0 = .ok (.aload_n 0, 1) := by decide +kernel
theorem dX1_add_1 : decode cX1_add 1 = .ok (.getfield 15, 3) := by decide +kernel
theorem dX1_add_4 : decode cX1_add 4 = .ok (.bipush 60, 2) := by decide +kernel
theorem dX1_add_6 : decode cX1_add 6 = .ok (.if_icmp .ge 23, 3) := by decide +kernel
theorem dX1_add_9 : decode cX1_add 9 = .ok (.aload_n 0, 1) := by decide +kernel
theorem dX1_add_10 : decode cX1_add 10 = .ok (.getfield 11, 3) := by decide +kernel
theorem dX1_add_13 : decode cX1_add 13 = .ok (.aload_n 0, 1) := by decide +kernel
theorem dX1_add_14 : decode cX1_add 14 = .ok (.getfield 15, 3) := by decide +kernel
theorem dX1_add_17 : decode cX1_add 17 = .ok (.iload_n 1, 1) := by decide +kernel
theorem dX1_add_18 : decode cX1_add 18 = .ok (.castore, 1) := by decide +kernel
theorem dX1_add_19 : decode cX1_add 19 = .ok (.aload_n 0, 1) := by decide +kernel
theorem dX1_add_20 : decode cX1_add 20 = .ok (.dup, 1) := by decide +kernel
theorem dX1_add_21 : decode cX1_add 21 = .ok (.getfield 15, 3) := by decide +kernel
theorem dX1_add_24 : decode cX1_add 24 = .ok (.iconst 1, 1) := by decide +kernel
theorem dX1_add_25 : decode cX1_add 25 = .ok (.iadd, 1) := by decide +kernel
theorem dX1_add_26 : decode cX1_add 26 = .ok (.putfield 15, 3) := by decide +kernel
theorem dX1_add_29 : decode cX1_add 29 = .ok (.aload_n 0, 1) := by decide +kernel
theorem dX1_add_30 : decode cX1_add 30 = .ok (.getfield 15, 3) := by decide +kernel
theorem dX1_add_33 : decode cX1_add 33 = .ok (.ireturn, 1) := by decide +kernel
theorem dX1_empty_0 : decode cX1_empty 0 = .ok (.aload_n 0, 1) := by decide +kernel
theorem dX1_empty_1 : decode cX1_empty 1 = .ok (.getfield 15, 3) := by decide +kernel
theorem dX1_empty_4 : decode cX1_empty 4 = .ok (.istore_n 1, 1) := by decide +kernel
theorem dX1_empty_5 : decode cX1_empty 5 = .ok (.aload_n 0, 1) := by decide +kernel
theorem dX1_empty_6 : decode cX1_empty 6 = .ok (.iconst 0, 1) := by decide +kernel
theorem dX1_empty_7 : decode cX1_empty 7 = .ok (.putfield 15, 3) := by decide +kernel
theorem dX1_empty_10 : decode cX1_empty 10 = .ok (.iload_n 1, 1) := by decide +kernel
theorem dX1_empty_11 : decode cX1_empty 11 = .ok (.ireturn, 1) := by decide +kernel
theorem dX1_firstError_0 : decode cX1_firstError 0 = .ok (.iconst 0, 1) := by decide +kernel
theorem dX1_firstError_1 : decode cX1_firstError 1 = .ok (.istore_n 1, 1) := by decide +kernel
theorem dX1_firstError_2 : decode cX1_firstError 2 = .ok (.iload_n 1, 1) := by decide +kernel
theorem dX1_firstError_3 : decode cX1_firstError 3 = .ok (.aload_n 0, 1) := by decide +kernel
theorem dX1_firstError_4 : decode cX1_firstError 4 = .ok (.getfield 15, 3) := by decide +kernel
theorem dX1_firstError_7 : decode cX1_firstError 7 = .ok (.if_icmp .ge 24, 3) := by decide +kernel
theorem dX1_firstError_10 : decode cX1_firstError 10 = .ok (.iload_n 1, 1) := by decide +kernel
theorem dX1_firstError_11 : decode cX1_firstError 11 = .ok (.aload_n 0, 1) := by decide +kernel
theorem dX1_firstError_12 : decode cX1_firstError 12 = .ok (.getfield 11, 3) := by decide +kernel
theorem dX1_firstError_15 : decode cX1_firstError 15 = .ok (.iload_n 1, 1) := by decide +kernel
theorem dX1_firstError_16 : decode cX1_firstError 16 = .ok (.caload, 1) := by decide +kernel
theorem dX1_firstError_17 : decode cX1_firstError 17 = .ok (.invokestatic 19, 3) := by decide +kernel
theorem dX1_firstError_20 : decode cX1_firstError 20 = .ok (.ifCond .ne 5, 3) := by decide +kernel
theorem dX1_firstError_23 : decode cX1_firstError 23 = .ok (.iload_n 1, 1) := by decide +kernel
theorem dX1_firstError_24 : decode cX1_firstError 24 = .ok (.ireturn, 1) := by decide +kernel
theorem dX1_firstError_25 : decode cX1_firstError 25 = .ok (.iinc 1 1, 3) := by decide +kernel
theorem dX1_firstError_28 : decode cX1_firstError 28 = .ok (.goto (-26), 3) := by decide +kernel
theorem dX1_firstError_31 : decode cX1_firstError 31 = .ok (.aload_n 0, 1) := by decide +kernel
theorem dX1_firstError_32 : decode cX1_firstError 32 = .ok (.getfield 15, 3) := by decide +kernel
theorem dX1_firstError_35 : decode cX1_firstError 35 = .ok (.bipush 8, 2) := by decide +kernel
theorem dX1_firstError_37 : decode cX1_firstError 37 = .ok (.if_icmp .lt 20, 3) := by decide +kernel
theorem dX1_firstError_40 : decode cX1_firstError 40 = .ok (.aload_n 0, 1) := by decide +kernel
theorem dX1_firstError_41 : decode cX1_firstError 41 = .ok (.getfield 15, 3) := by decide +kernel
theorem dX1_firstError_44 : decode cX1_firstError 44 = .ok (.bipush 8, 2) := by decide +kernel
theorem dX1_firstError_46 : decode cX1_firstError 46 = .ok (.isub, 1) := by decide +kernel
theorem dX1_firstError_47 : decode cX1_firstError 47 = .ok (.bipush 7, 2) := by decide +kernel
theorem dX1_firstError_49 : decode cX1_firstError 49 = .ok (.irem, 1) := by decide +kernel
theorem dX1_firstError_50 : decode cX1_firstError 50 = .ok (.ifCond .ne 7, 3) := by decide +kernel
theorem dX1_firstError_53 : decode cX1_firstError 53 = .ok (.iconst 1, 1) := by decide +kernel
theorem dX1_firstError_54 : decode cX1_firstError 54 = .ok (.goto 4, 3) := by decide +kernel
theorem dX1_firstError_57 : decode cX1_firstError 57 = .ok (.iconst 0, 1) := by decide +kernel
theorem dX1_firstError_58 : decode cX1_firstError 58 = .ok (.istore_n 1, 1) := by decide +kernel
theorem dX1_firstError_59 : decode cX1_firstError 59 = .ok (.iload_n 1, 1) := by decide +kernel
theorem dX1_firstError_60 : decode cX1_firstError 60 = .ok (.ifCond .eq 8, 3) := by decide +kernel
theorem dX1_firstError_63 : decode cX1_firstError 63 = .ok (.bipush (-9), 2) := by decide +kernel
theorem dX1_firstError_65 : decode cX1_firstError 65 = .ok (.goto 7, 3) := by decide +kernel
theorem dX1_firstError_68 : decode cX1_firstError 68 = .ok (.aload_n 0, 1) := by decide +kernel
theorem dX1_firstError_69 : decode cX1_firstError 69 = .ok (.getfield 15, 3) := by decide +kernel
theorem dX1_firstError_72 : decode cX1_firstError 72 = .ok (.ireturn, 1) := by decide +kernel
theorem dX1_isAllowed_0 : decode cX1_isAllowed 0 = .ok (.iload_n 0, 1) := by decide +kernel
theorem dX1_isAllowed_1 : decode cX1_isAllowed 1 = .ok (.ifCond .ne 15, 3) := by decide +kernel
theorem dX1_isAllowed_4 : decode cX1_isAllowed 4 = .ok (.iload_n 1, 1) := by decide +kernel
theorem dX1_isAllowed_5 : decode cX1_isAllowed 5 = .ok (.bipush 70, 2) := by decide +kernel
theorem dX1_isAllowed_7 : decode cX1_isAllowed 7 = .ok (.if_icmp .ne 7, 3) := by decide +kernel
theorem dX1_isAllowed_10 : decode cX1_isAllowed 10 = .ok (.iconst 1, 1) := by decide +kernel
theorem dX1_isAllowed_11 : decode cX1_isAllowed 11 = .ok (.goto 4, 3) := by decide +kernel
theorem dX1_isAllowed_14 : decode cX1_isAllowed 14 = .ok (.iconst 0, 1) := by decide +kernel
theorem dX1_isAllowed_15 : decode cX1_isAllowed 15 = .ok (.ireturn, 1) := by decide +kernel
theorem dX1_isAllowed_16 : decode cX1_isAllowed 16 = .ok (.iload_n 0, 1) := by decide +kernel
theorem dX1_isAllowed_17 : decode cX1_isAllowed 17 = .ok (.iconst 1, 1) := by decide +kernel
theorem dX1_isAllowed_18 : decode cX1_isAllowed 18 = .ok (.if_icmp .ne 8, 3) := by decide +kernel
theorem dX1_isAllowed_21 : decode cX1_isAllowed 21 = .ok (.iload_n 1, 1) := by decide +kernel
theorem dX1_isAllowed_22 : decode cX1_isAllowed 22 = .ok (.invokestatic 23, 3) := by decide +kernel
theorem dX1_isAllowed_25 : decode cX1_isAllowed 25 = .ok (.ireturn, 1) := by decide +kernel
theorem dX1_isAllowed_26 : decode cX1_isAllowed 26 = .ok (.iload_n 0, 1) := by decide +kernel
theorem dX1_isAllowed_27 : decode cX1_isAllowed 27 = .ok (.bipush 8, 2) := by decide +kernel
theorem dX1_isAllowed_29 : decode cX1_isAllowed 29 = .ok (.if_icmp .ge 8, 3) := by decide +kernel
theorem dX1_isAllowed_32 : decode cX1_isAllowed 32 = .ok (.iload_n 1, 1) := by decide +kernel
theorem dX1_isAllowed_33 : decode cX1_isAllowed 33 = .ok (.invokestatic 27, 3) := by decide +kernel
theorem dX1_isAllowed_36 : decode cX1_isAllowed 36 = .ok (.ireturn, 1) := by decide +kernel
theorem dX1_isAllowed_37 : decode cX1_isAllowed 37 = .ok (.iload_n 0, 1) := by decide +kernel
theorem dX1_isAllowed_38 : decode cX1_isAllowed 38 = .ok (.bipush 8, 2) := by decide +kernel
theorem dX1_isAllowed_40 : decode cX1_isAllowed 40 = .ok (.isub, 1) := by decide +kernel
theorem dX1_isAllowed_41 : decode cX1_isAllowed 41 = .ok (.istore_n 2, 1) := by decide +kernel
theorem dX1_isAllowed_42 : decode cX1_isAllowed 42 = .ok (.iload_n 2, 1) := by decide +kernel
theorem dX1_isAllowed_43 : decode cX1_isAllowed 43 = .ok (.bipush 42, 2) := by decide +kernel
theorem dX1_isAllowed_45 : decode cX1_isAllowed 45 = .ok (.if_icmp .ge 18, 3) := by decide +kernel
theorem dX1_isAllowed_48 : decode cX1_isAllowed 48 = .ok (.iload_n 2, 1) := by decide +kernel
theorem dX1_isAllowed_49 : decode cX1_isAllowed 49 = .ok (.bipush 7, 2) := by decide +kernel
theorem dX1_isAllowed_51 : decode cX1_isAllowed 51 = .ok (.irem, 1) := by decide +kernel
theorem dX1_isAllowed_52 : decode cX1_isAllowed 52 = .ok (.iload_n 1, 1) := by decide +kernel
theorem dX1_isAllowed_53 : decode cX1_isAllowed 53 = .ok (.invokestatic 30, 3) := by decide +kernel
theorem dX1_isAllowed_56 : decode cX1_isAllowed 56 = .ok (.ifCond .eq 7, 3) := by decide +kernel
theorem dX1_isAllowed_59 : decode cX1_isAllowed 59 = .ok (.iconst 1, 1) := by decide +kernel
theorem dX1_isAllowed_60 : decode cX1_isAllowed 60 = .ok (.goto 4, 3) := by decide +kernel
theorem dX1_isAllowed_63 : decode cX1_isAllowed 63 = .ok (.iconst 0, 1) := by decide +kernel
theorem dX1_isAllowed_64 : decode cX1_isAllowed 64 = .ok (.ireturn, 1) := by decide +kernel
theorem dX1_isAllowedInCell_0 : decode cX1_isAllowedInCell 0 = .ok (.iload_n 0, 1) := by decide +kernel
theorem dX1_isAllowedInCell_1 : decode cX1_isAllowedInCell 1 = .ok (.ifCond .ne 15, 3) := by decide +kernel
theorem dX1_isAllowedInCell_4 : decode cX1_isAllowedInCell 4 = .ok (.iload_n 1, 1) := by decide +kernel
theorem dX1_isAllowedInCell_5 : decode cX1_isAllowedInCell 5 = .ok (.bipush 67, 2) := by decide +kernel
theorem dX1_isAllowedInCell_7 : decode cX1_isAllowedInCell 7 = .ok (.if_icmp .ne 7, 3) := by decide +kernel
theorem dX1_isAllowedInCell_10 : decode cX1_isAllowedInCell 10 = .ok (.iconst 1, 1) := by decide +kernel
theorem dX1_isAllowedInCell_11 : decode cX1_isAllowedInCell 11 = .ok (.goto 4, 3) := by decide +kernel
theorem dX1_isAllowedInCell_14 : decode cX1_isAllowedInCell 14 = .ok (.iconst 0, 1) := by decide +kernel
theorem dX1_isAllowedInCell_15 : decode cX1_isAllowedInCell 15 = .ok (.ireturn, 1) := by decide +kernel
theorem dX1_isAllowedInCell_16 : decode cX1_isAllowedInCell 16 = .ok (.iload_n 0, 1) := by decide +kernel
theorem dX1_isAllowedInCell_17 : decode cX1_isAllowedInCell 17 = .ok (.iconst 5, 1) := by decide +kernel
theorem dX1_isAllowedInCell_18 : decode cX1_isAllowedInCell 18 = .ok (.if_icmp .ge 10, 3) := by decide +kernel
theorem dX1_isAllowedInCell_21 : decode cX1_isAllowedInCell 21 = .ok (.iload_n 1, 1) := by decide +kernel
theorem dX1_isAllowedInCell_22 : decode cX1_isAllowedInCell 22 = .ok (.invokestatic 27, 3) := by decide +kernel
theorem dX1_isAllowedInCell_25 : decode cX1_isAllowedInCell 25 = .ok (.goto 27, 3) := by decide +kernel
theorem dX1_isAllowedInCell_28 : decode cX1_isAllowedInCell 28 = .ok (.iload_n 1, 1) := by decide +kernel
theorem dX1_isAllowedInCell_29 : decode cX1_isAllowedInCell 29 = .ok (.invokestatic 23, 3) := by decide +kernel
theorem dX1_isAllowedInCell_32 : decode cX1_isAllowedInCell 32 = .ok (.ifCond .ne 15, 3) := by decide +kernel
theorem dX1_isAllowedInCell_35 : decode cX1_isAllowedInCell 35 = .ok (.iload_n 1, 1) := by decide +kernel
theorem dX1_isAllowedInCell_36 : decode cX1_isAllowedInCell 36 = .ok (.bipush 56, 2) := by decide +kernel
theorem dX1_isAllowedInCell_38 : decode cX1_isAllowedInCell 38 = .ok (.if_icmp .eq 9, 3) := by decide +kernel
theorem dX1_isAllowedInCell_41 : decode cX1_isAllowedInCell 41 = .ok (.iload_n 1, 1) := by decide +kernel
theorem dX1_isAllowedInCell_42 : decode cX1_isAllowedInCell 42 = .ok (.bipush 57, 2) := by decide +kernel
theorem dX1_isAllowedInCell_44 : decode cX1_isAllowedInCell 44 = .ok (.if_icmp .ne 7, 3) := by decide +kernel
theorem dX1_isAllowedInCell_47 : decode cX1_isAllowedInCell 47 = .ok (.iconst 1, 1) := by decide +kernel
theorem dX1_isAllowedInCell_48 : decode cX1_isAllowedInCell 48 = .ok (.goto 4, 3) := by decide +kernel
theorem dX1_isAllowedInCell_51 : decode cX1_isAllowedInCell 51 = .ok (.iconst 0, 1) := by decide +kernel
theorem dX1_isAllowedInCell_52 : decode cX1_isAllowedInCell 52 = .ok (.ireturn, 1) := by decide +kernel
theorem dX1_isDigit_0 : decode cX1_isDigit 0 = .ok (.iload_n 0, 1) := by decide +kernel
theorem dX1_isDigit_1 : decode cX1_isDigit 1 = .ok (.bipush 48, 2) := by decide +kernel
theorem dX1_isDigit_3 : decode cX1_isDigit 3 = .ok (.if_icmp .lt 13, 3) := by decide +kernel
theorem dX1_isDigit_6 : decode cX1_isDigit 6 = .ok (.iload_n 0, 1) := by decide +kernel
theorem dX1_isDigit_7 : decode cX1_isDigit 7 = .ok (.bipush 57, 2) := by decide +kernel
theorem dX1_isDigit_9 : decode cX1_isDigit 9 = .ok (.if_icmp .gt 7, 3) := by decide +kernel
theorem dX1_isDigit_12 : decode cX1_isDigit 12 = .ok (.iconst 1, 1) := by decide +kernel
theorem dX1_isDigit_13 : decode cX1_isDigit 13 = .ok (.goto 4, 3) := by decide +kernel
theorem dX1_isDigit_16 : decode cX1_isDigit 16 = .ok (.iconst 0, 1) := by decide +kernel
theorem dX1_isDigit_17 : decode cX1_isDigit 17 = .ok (.ireturn, 1) := by decide +kernel
theorem dX1_isCellDigit_0 : decode cX1_isCellDigit 0 = .ok (.iload_n 0, 1) := by decide +kernel
theorem dX1_isCellDigit_1 : decode cX1_isCellDigit 1 = .ok (.bipush 48, 2) := by decide +kernel
theorem dX1_isCellDigit_3 : decode cX1_isCellDigit 3 = .ok (.if_icmp .lt 13, 3) := by decide +kernel
theorem dX1_isCellDigit_6 : decode cX1_isCellDigit 6 = .ok (.iload_n 0, 1) := by decide +kernel
theorem dX1_isCellDigit_7 : decode cX1_isCellDigit 7 = .ok (.bipush 53, 2) := by decide +kernel
theorem dX1_isCellDigit_9 : decode cX1_isCellDigit 9 = .ok (.if_icmp .gt 7, 3) := by decide +kernel
theorem dX1_isCellDigit_12 : decode cX1_isCellDigit 12 = .ok (.iconst 1, 1) := by decide +kernel
theorem dX1_isCellDigit_13 : decode cX1_isCellDigit 13 = .ok (.goto 4, 3) := by decide +kernel
theorem dX1_isCellDigit_16 : decode cX1_isCellDigit 16 = .ok (.iconst 0, 1) := by decide +kernel
theorem dX1_isCellDigit_17 : decode cX1_isCellDigit 17 = .ok (.ireturn, 1) := by decide +kernel
theorem dX1_readInto_0 : decode cX1_readInto 0 = .ok (.aload_n 1, 1) := by decide +kernel
theorem dX1_readInto_1 : decode cX1_readInto 1 = .ok (.invokevirtual 33, 3) := by decide +kernel
theorem dX1_readInto_4 : decode cX1_readInto 4 = .ok (.aload_n 1, 1) := by decide +kernel
theorem dX1_readInto_5 : decode cX1_readInto 5 = .ok (.invokevirtual 38, 3) := by decide +kernel
theorem dX1_readInto_8 : decode cX1_readInto 8 = .ok (.aload_n 1, 1) := by decide +kernel
theorem dX1_readInto_9 : decode cX1_readInto 9 = .ok (.aload_n 0, 1) := by decide +kernel
theorem dX1_readInto_10 : decode cX1_readInto 10 = .ok (.iconst 1, 1) := by decide +kernel
theorem dX1_readInto_11 : decode cX1_readInto 11 = .ok (.iconst 1, 1) := by decide +kernel
theorem dX1_readInto_12 : decode cX1_readInto 12 = .ok (.invokevirtual 41, 3) := by decide +kernel
theorem dX1_readInto_15 : decode cX1_readInto 15 = .ok (.aload_n 0, 1) := by decide +kernel
theorem dX1_readInto_16 : decode cX1_readInto 16 = .ok (.iconst 2, 1) := by decide +kernel
theorem dX1_readInto_17 : decode cX1_readInto 17 = .ok (.iconst 3, 1) := by decide +kernel
theorem dX1_readInto_18 : decode cX1_readInto 18 = .ok (.invokevirtual 41, 3) := by decide +kernel
theorem dX1_readInto_21 : decode cX1_readInto 21 = .ok (.aload_n 0, 1) := by decide +kernel
theorem dX1_readInto_22 : decode cX1_readInto 22 = .ok (.iconst 5, 1) := by decide +kernel
theorem dX1_readInto_23 : decode cX1_readInto 23 = .ok (.iconst 3, 1) := by decide +kernel
theorem dX1_readInto_24 : decode cX1_readInto 24 = .ok (.invokevirtual 41, 3) := by decide +kernel
theorem dX1_readInto_27 : decode cX1_readInto 27 = .ok (.invokevirtual 45, 3) := by decide +kernel
theorem dX1_readInto_30 : decode cX1_readInto 30 = .ok (.bipush 8, 2) := by decide +kernel
theorem dX1_readInto_32 : decode cX1_readInto 32 = .ok (.istore_n 2, 1) := by decide +kernel
theorem dX1_readInto_33 : decode cX1_readInto 33 = .ok (.iload_n 2, 1) := by decide +kernel
theorem dX1_readInto_34 : decode cX1_readInto 34 = .ok (.aload_n 0, 1) := by decide +kernel
theorem dX1_readInto_35 : decode cX1_readInto 35 = .ok (.getfield 15, 3) := by decide +kernel
theorem dX1_readInto_38 : decode cX1_readInto 38 = .ok (.if_icmp .ge 46, 3) := by decide +kernel
theorem dX1_readInto_41 : decode cX1_readInto 41 = .ok (.aload_n 1, 1) := by decide +kernel
theorem dX1_readInto_42 : decode cX1_readInto 42 = .ok (.aload_n 0, 1) := by decide +kernel
theorem dX1_readInto_43 : decode cX1_readInto 43 = .ok (.iload_n 2, 1) := by decide +kernel
theorem dX1_readInto_44 : decode cX1_readInto 44 = .ok (.iconst 1, 1) := by decide +kernel
theorem dX1_readInto_45 : decode cX1_readInto 45 = .ok (.iadd, 1) := by decide +kernel
theorem dX1_readInto_46 : decode cX1_readInto 46 = .ok (.iconst 2, 1) := by decide +kernel
theorem dX1_readInto_47 : decode cX1_readInto 47 = .ok (.invokevirtual 41, 3) := by decide +kernel
theorem dX1_readInto_50 : decode cX1_readInto 50 = .ok (.aload_n 0, 1) := by decide +kernel
theorem dX1_readInto_51 : decode cX1_readInto 51 = .ok (.iload_n 2, 1) := by decide +kernel
theorem dX1_readInto_52 : decode cX1_readInto 52 = .ok (.iconst 3, 1) := by decide +kernel
theorem dX1_readInto_53 : decode cX1_readInto 53 = .ok (.iadd, 1) := by decide +kernel
theorem dX1_readInto_54 : decode cX1_readInto 54 = .ok (.iconst 2, 1) := by decide +kernel
theorem dX1_readInto_55 : decode cX1_readInto 55 = .ok (.invokevirtual 41, 3) := by decide +kernel
theorem dX1_readInto_58 : decode cX1_readInto 58 = .ok (.aload_n 0, 1) := by decide +kernel
theorem dX1_readInto_59 : decode cX1_readInto 59 = .ok (.iload_n 2, 1) := by decide +kernel
theorem dX1_readInto_60 : decode cX1_readInto 60 = .ok (.iconst 5, 1) := by decide +kernel
theorem dX1_readInto_61 : decode cX1_readInto 61 = .ok (.iadd, 1) := by decide +kernel
theorem dX1_readInto_62 : decode cX1_readInto 62 = .ok (.iconst 1, 1) := by decide +kernel
theorem dX1_readInto_63 : decode cX1_readInto 63 = .ok (.invokevirtual 41, 3) := by decide +kernel
theorem dX1_readInto_66 : decode cX1_readInto 66 = .ok (.aload_n 0, 1) := by decide +kernel
theorem dX1_readInto_67 : decode cX1_readInto 67 = .ok (.iload_n 2, 1) := by decide +kernel
theorem dX1_readInto_68 : decode cX1_readInto 68 = .ok (.bipush 6, 2) := by decide +kernel
theorem dX1_readInto_70 : decode cX1_readInto 70 = .ok (.iadd, 1) := by decide +kernel
theorem dX1_readInto_71 : decode cX1_readInto 71 = .ok (.iconst 1, 1) := by decide +kernel
theorem dX1_readInto_72 : decode cX1_readInto 72 = .ok (.invokevirtual 41, 3) := by decide +kernel
theorem dX1_readInto_75 : decode cX1_readInto 75 = .ok (.invokevirtual 49, 3) := by decide +kernel
theorem dX1_readInto_78 : decode cX1_readInto 78 = .ok (.iinc 2 7, 3) := by decide +kernel
theorem dX1_readInto_81 : decode cX1_readInto 81 = .ok (.goto (-48), 3) := by decide +kernel
theorem dX1_readInto_84 : decode cX1_readInto 84 = .ok (.return_, 1) := by decide +kernel
theorem dX1_number_0 : decode cX1_number 0 = .ok (.iconst 0, 1) := by decide +kernel
theorem dX1_number_1 : decode cX1_number 1 = .ok (.istore_n 3, 1) := by decide +kernel
theorem dX1_number_2 : decode cX1_number 2 = .ok (.iload_n 1, 1) := by decide +kernel
theorem dX1_number_3 : decode cX1_number 3 = .ok (.istore 4, 2) := by decide +kernel
theorem dX1_number_5 : decode cX1_number 5 = .ok (.iload 4, 2) := by decide +kernel
theorem dX1_number_7 : decode cX1_number 7 = .ok (.iload_n 1, 1) := by decide +kernel
theorem dX1_number_8 : decode cX1_number 8 = .ok (.iload_n 2, 1) := by decide +kernel
theorem dX1_number_9 : decode cX1_number 9 = .ok (.iadd, 1) := by decide +kernel
theorem dX1_number_10 : decode cX1_number 10 = .ok (.if_icmp .ge 34, 3) := by decide +kernel
theorem dX1_number_13 : decode cX1_number 13 = .ok (.iload 4, 2) := by decide +kernel
theorem dX1_number_15 : decode cX1_number 15 = .ok (.aload_n 0, 1) := by decide +kernel
theorem dX1_number_16 : decode cX1_number 16 = .ok (.getfield 15, 3) := by decide +kernel
theorem dX1_number_19 : decode cX1_number 19 = .ok (.if_icmp .ge 25, 3) := by decide +kernel
theorem dX1_number_22 : decode cX1_number 22 = .ok (.bipush 10, 2) := by decide +kernel
theorem dX1_number_24 : decode cX1_number 24 = .ok (.iload_n 3, 1) := by decide +kernel
theorem dX1_number_25 : decode cX1_number 25 = .ok (.imul, 1) := by decide +kernel
theorem dX1_number_26 : decode cX1_number 26 = .ok (.aload_n 0, 1) := by decide +kernel
theorem dX1_number_27 : decode cX1_number 27 = .ok (.getfield 11, 3) := by decide +kernel
theorem dX1_number_30 : decode cX1_number 30 = .ok (.iload 4, 2) := by decide +kernel
theorem dX1_number_32 : decode cX1_number 32 = .ok (.caload, 1) := by decide +kernel
theorem dX1_number_33 : decode cX1_number 33 = .ok (.bipush 48, 2) := by decide +kernel
theorem dX1_number_35 : decode cX1_number 35 = .ok (.isub, 1) := by decide +kernel
theorem dX1_number_36 : decode cX1_number 36 = .ok (.iadd, 1) := by decide +kernel
theorem dX1_number_37 : decode cX1_number 37 = .ok (.istore_n 3, 1) := by decide +kernel
theorem dX1_number_38 : decode cX1_number 38 = .ok (.iinc 4 1, 3) := by decide +kernel
theorem dX1_number_41 : decode cX1_number 41 = .ok (.goto (-36), 3) := by decide +kernel
theorem dX1_number_44 : decode cX1_number 44 = .ok (.iload_n 3, 1) := by decide +kernel
theorem dX1_number_45 : decode cX1_number 45 = .ok (.ireturn, 1) := by decide +kernel
theorem dX2_init_0 : decode cX2_init 0 = .ok (.aload_n 0, 1) := by decide +kernel
theorem dX2_init_1 : decode cX2_init 1 = .ok (.invokespecial 3, 3) := by decide +kernel
theorem dX2_init_4 : decode cX2_init 4 = .ok (.aload_n 0, 1) := by decide +kernel
theorem dX2_init_5 : decode cX2_init 5 = .ok (.new 9, 3) := by decide +kernel
theorem dX2_init_8 : decode cX2_init 8 = .ok (.dup, 1) := by decide +kernel
theorem dX2_init_9 : decode cX2_init 9 = .ok (.bipush 14, 2) := by decide +kernel
theorem dX2_init_11 : decode cX2_init 11 = .ok (.invokespecial 11, 3) := by decide +kernel
theorem dX2_init_14 : decode cX2_init 14 = .ok (.putfield 14, 3) := by decide +kernel
theorem dX2_init_17 : decode cX2_init 17 = .ok (.aload_n 0, 1) := by decide +kernel
theorem dX2_init_18 : decode cX2_init 18 = .ok (.iconst 0, 1) := by decide +kernel
theorem dX2_init_19 : decode cX2_init 19 = .ok (.putfield 20, 3) := by decide +kernel
theorem dX2_init_22 : decode cX2_init 22 = .ok (.aload_n 0, 1) := by decide +kernel
theorem dX2_init_23 : decode cX2_init 23 = .ok (.iconst 0, 1) := by decide +kernel
theorem dX2_init_24 : decode cX2_init 24 = .ok (.putfield 24, 3) := by decide +kernel
theorem dX2_init_27 : decode cX2_init 27 = .ok (.return_, 1) := by decide +kernel
theorem dX2_size_0 : decode cX2_size 0 = .ok (.aload_n 0, 1) := by decide +kernel
theorem dX2_size_1 : decode cX2_size 1 = .ok (.getfield 24, 3) := by decide +kernel
theorem dX2_size_4 : decode cX2_size 4 = .ok (.ireturn, 1) := by decide +kernel
theorem dX2_remember_0 : decode cX2_remember 0 = .ok (.aload_n 0, 1) := by decide +kernel
theorem dX2_remember_1 : decode cX2_remember 1 = .ok (.getfield 14, 3) := by decide +kernel
theorem dX2_remember_4 : decode cX2_remember 4 = .ok (.aload_n 0, 1) := by decide +kernel
theorem dX2_remember_5 : decode cX2_remember 5 = .ok (.getfield 20, 3) := by decide +kernel
theorem dX2_remember_8 : decode cX2_remember 8 = .ok (.aload_n 1, 1) := by decide +kernel
theorem dX2_remember_9 : decode cX2_remember 9 = .ok (.invokevirtual 27, 3) := by decide +kernel
theorem dX2_remember_12 : decode cX2_remember 12 = .ok (.aload_n 0, 1) := by decide +kernel
theorem dX2_remember_13 : decode cX2_remember 13 = .ok (.aload_n 0, 1) := by decide +kernel
theorem dX2_remember_14 : decode cX2_remember 14 = .ok (.getfield 20, 3) := by decide +kernel
theorem dX2_remember_17 : decode cX2_remember 17 = .ok (.iconst 1, 1) := by decide +kernel
theorem dX2_remember_18 : decode cX2_remember 18 = .ok (.iadd, 1) := by decide +kernel
theorem dX2_remember_19 : decode cX2_remember 19 = .ok (.bipush 14, 2) := by decide +kernel
theorem dX2_remember_21 : decode cX2_remember 21 = .ok (.irem, 1) := by decide +kernel
theorem dX2_remember_22 : decode cX2_remember 22 = .ok (.putfield 20, 3) := by decide +kernel
theorem dX2_remember_25 : decode cX2_remember 25 = .ok (.aload_n 0, 1) := by decide +kernel
theorem dX2_remember_26 : decode cX2_remember 26 = .ok (.aload_n 0, 1) := by decide +kernel
theorem dX2_remember_27 : decode cX2_remember 27 = .ok (.getfield 24, 3) := by decide +kernel
theorem dX2_remember_30 : decode cX2_remember 30 = .ok (.iconst 1, 1) := by decide +kernel
theorem dX2_remember_31 : decode cX2_remember 31 = .ok (.iadd, 1) := by decide +kernel
theorem dX2_remember_32 : decode cX2_remember 32 = .ok (.bipush 14, 2) := by decide +kernel
theorem dX2_remember_34 : decode cX2_remember 34 = .ok (.invokestatic 31, 3) := by decide +kernel
theorem dX2_remember_37 : decode cX2_remember 37 = .ok (.putfield 24, 3) := by decide +kernel
theorem dX2_remember_40 : decode cX2_remember 40 = .ok (.return_, 1) := by decide +kernel
theorem dX2_takeBack_0 : decode cX2_takeBack 0 = .ok (.aload_n 0, 1) := by decide +kernel
theorem dX2_takeBack_1 : decode cX2_takeBack 1 = .ok (.getfield 24, 3) := by decide +kernel
theorem dX2_takeBack_4 : decode cX2_takeBack 4 = .ok (.ifCond .le 41, 3) := by decide +kernel
theorem dX2_takeBack_7 : decode cX2_takeBack 7 = .ok (.aload_n 0, 1) := by decide +kernel
theorem dX2_takeBack_8 : decode cX2_takeBack 8 = .ok (.aload_n 0, 1) := by decide +kernel
theorem dX2_takeBack_9 : decode cX2_takeBack 9 = .ok (.getfield 20, 3) := by decide +kernel
theorem dX2_takeBack_12 : decode cX2_takeBack 12 = .ok (.bipush 14, 2) := by decide +kernel
theorem dX2_takeBack_14 : decode cX2_takeBack 14 = .ok (.iadd, 1) := by decide +kernel
theorem dX2_takeBack_15 : decode cX2_takeBack 15 = .ok (.iconst 1, 1) := by decide +kernel
theorem dX2_takeBack_16 : decode cX2_takeBack 16 = .ok (.isub, 1) := by decide +kernel
theorem dX2_takeBack_17 : decode cX2_takeBack 17 = .ok (.bipush 14, 2) := by decide +kernel
theorem dX2_takeBack_19 : decode cX2_takeBack 19 = .ok (.irem, 1) := by decide +kernel
theorem dX2_takeBack_20 : decode cX2_takeBack 20 = .ok (.putfield 20, 3) := by decide +kernel
theorem dX2_takeBack_23 : decode cX2_takeBack 23 = .ok (.aload_n 0, 1) := by decide +kernel
theorem dX2_takeBack_24 : decode cX2_takeBack 24 = .ok (.dup, 1) := by decide +kernel
theorem dX2_takeBack_25 : decode cX2_takeBack 25 = .ok (.getfield 24, 3) := by decide +kernel
theorem dX2_takeBack_28 : decode cX2_takeBack 28 = .ok (.iconst 1, 1) := by decide +kernel
theorem dX2_takeBack_29 : decode cX2_takeBack 29 = .ok (.isub, 1) := by decide +kernel
theorem dX2_takeBack_30 : decode cX2_takeBack 30 = .ok (.putfield 24, 3) := by decide +kernel
theorem dX2_takeBack_33 : decode cX2_takeBack 33 = .ok (.aload_n 0, 1) := by decide +kernel
theorem dX2_takeBack_34 : decode cX2_takeBack 34 = .ok (.getfield 14, 3) := by decide +kernel
theorem dX2_takeBack_37 : decode cX2_takeBack 37 = .ok (.aload_n 0, 1) := by decide +kernel
theorem dX2_takeBack_38 : decode cX2_takeBack 38 = .ok (.getfield 20, 3) := by decide +kernel
theorem dX2_takeBack_41 : decode cX2_takeBack 41 = .ok (.aload_n 1, 1) := by decide +kernel
theorem dX2_takeBack_42 : decode cX2_takeBack 42 = .ok (.invokevirtual 37, 3) := by decide +kernel
theorem dX2_takeBack_45 : decode cX2_takeBack 45 = .ok (.return_, 1) := by decide +kernel
theorem dX2_forget_0 : decode cX2_forget 0 = .ok (.aload_n 0, 1) := by decide +kernel
theorem dX2_forget_1 : decode cX2_forget 1 = .ok (.iconst 0, 1) := by decide +kernel
theorem dX2_forget_2 : decode cX2_forget 2 = .ok (.putfield 24, 3) := by decide +kernel
theorem dX2_forget_5 : decode cX2_forget 5 = .ok (.return_, 1) := by decide +kernel
theorem dX3_init_0 : decode cX3_init 0 = .ok (.aload_n 0, 1) := by decide +kernel
theorem dX3_init_1 : decode cX3_init 1 = .ok (.invokespecial 3, 3) := by decide +kernel
theorem dX3_init_4 : decode cX3_init 4 = .ok (.aload_n 0, 1) := by decide +kernel
theorem dX3_init_5 : decode cX3_init 5 = .ok (.bipush 6, 2) := by decide +kernel
theorem dX3_init_7 : decode cX3_init 7 = .ok (.newarray .int, 2) := by decide +kernel
theorem dX3_init_9 : decode cX3_init 9 = .ok (.putfield 9, 3) := by decide +kernel
theorem dX3_init_12 : decode cX3_init 12 = .ok (.return_, 1) := by decide +kernel
theorem dX3_trace_0 : decode cX3_trace 0 = .ok (.aload_n 0, 1) := by decide +kernel
theorem dX3_trace_1 : decode cX3_trace 1 = .ok (.getfield 9, 3) := by decide +kernel
theorem dX3_trace_4 : decode cX3_trace 4 = .ok (.iconst 0, 1) := by decide +kernel
theorem dX3_trace_5 : decode cX3_trace 5 = .ok (.invokestatic 15, 3) := by decide +kernel
theorem dX3_trace_8 : decode cX3_trace 8 = .ok (.iconst 0, 1) := by decide +kernel
theorem dX3_trace_9 : decode cX3_trace 9 = .ok (.istore_n 2, 1) := by decide +kernel
theorem dX3_trace_10 : decode cX3_trace 10 = .ok (.iload_n 2, 1) := by decide +kernel
theorem dX3_trace_11 : decode cX3_trace 11 = .ok (.aload_n 1, 1) := by decide +kernel
theorem dX3_trace_12 : decode cX3_trace 12 = .ok (.invokevirtual 21, 3) := by decide +kernel
theorem dX3_trace_15 : decode cX3_trace 15 = .ok (.if_icmp .ge 33, 3) := by decide +kernel
theorem dX3_trace_18 : decode cX3_trace 18 = .ok (.aload_n 0, 1) := by decide +kernel
theorem dX3_trace_19 : decode cX3_trace 19 = .ok (.aload_n 1, 1) := by decide +kernel
theorem dX3_trace_20 : decode cX3_trace 20 = .ok (.iload_n 2, 1) := by decide +kernel
theorem dX3_trace_21 : decode cX3_trace 21 = .ok (.aload_n 1, 1) := by decide +kernel
theorem dX3_trace_22 : decode cX3_trace 22 = .ok (.iload_n 2, 1) := by decide +kernel
theorem dX3_trace_23 : decode cX3_trace 23 = .ok (.iconst 0, 1) := by decide +kernel
theorem dX3_trace_24 : decode cX3_trace 24 = .ok (.invokevirtual 27, 3) := by decide +kernel
theorem dX3_trace_27 : decode cX3_trace 27 = .ok (.invokevirtual 31, 3) := by decide +kernel
theorem dX3_trace_30 : decode cX3_trace 30 = .ok (.aload_n 0, 1) := by decide +kernel
theorem dX3_trace_31 : decode cX3_trace 31 = .ok (.aload_n 1, 1) := by decide +kernel
theorem dX3_trace_32 : decode cX3_trace 32 = .ok (.iload_n 2, 1) := by decide +kernel
theorem dX3_trace_33 : decode cX3_trace 33 = .ok (.aload_n 1, 1) := by decide +kernel
theorem dX3_trace_34 : decode cX3_trace 34 = .ok (.iload_n 2, 1) := by decide +kernel
theorem dX3_trace_35 : decode cX3_trace 35 = .ok (.iconst 1, 1) := by decide +kernel
theorem dX3_trace_36 : decode cX3_trace 36 = .ok (.invokevirtual 27, 3) := by decide +kernel
theorem dX3_trace_39 : decode cX3_trace 39 = .ok (.invokevirtual 31, 3) := by decide +kernel
theorem dX3_trace_42 : decode cX3_trace 42 = .ok (.iinc 2 1, 3) := by decide +kernel
theorem dX3_trace_45 : decode cX3_trace 45 = .ok (.goto (-35), 3) := by decide +kernel
theorem dX3_trace_48 : decode cX3_trace 48 = .ok (.iconst 0, 1) := by decide +kernel
theorem dX3_trace_49 : decode cX3_trace 49 = .ok (.istore_n 2, 1) := by decide +kernel
theorem dX3_trace_50 : decode cX3_trace 50 = .ok (.iload_n 2, 1) := by decide +kernel
theorem dX3_trace_51 : decode cX3_trace 51 = .ok (.aload_n 1, 1) := by decide +kernel
theorem dX3_trace_52 : decode cX3_trace 52 = .ok (.invokevirtual 21, 3) := by decide +kernel
theorem dX3_trace_55 : decode cX3_trace 55 = .ok (.if_icmp .ge 49, 3) := by decide +kernel
theorem dX3_trace_58 : decode cX3_trace 58 = .ok (.iconst 0, 1) := by decide +kernel
theorem dX3_trace_59 : decode cX3_trace 59 = .ok (.istore_n 3, 1) := by decide +kernel
theorem dX3_trace_60 : decode cX3_trace 60 = .ok (.iload_n 3, 1) := by decide +kernel
theorem dX3_trace_61 : decode cX3_trace 61 = .ok (.aload_n 1, 1) := by decide +kernel
theorem dX3_trace_62 : decode cX3_trace 62 = .ok (.invokevirtual 21, 3) := by decide +kernel
theorem dX3_trace_65 : decode cX3_trace 65 = .ok (.if_icmp .ge 33, 3) := by decide +kernel
theorem dX3_trace_68 : decode cX3_trace 68 = .ok (.aload_n 0, 1) := by decide +kernel
theorem dX3_trace_69 : decode cX3_trace 69 = .ok (.iload_n 3, 1) := by decide +kernel
theorem dX3_trace_70 : decode cX3_trace 70 = .ok (.iload_n 2, 1) := by decide +kernel
theorem dX3_trace_71 : decode cX3_trace 71 = .ok (.invokevirtual 35, 3) := by decide +kernel
theorem dX3_trace_74 : decode cX3_trace 74 = .ok (.ifCond .eq 18, 3) := by decide +kernel
theorem dX3_trace_77 : decode cX3_trace 77 = .ok (.aload_n 0, 1) := by decide +kernel
theorem dX3_trace_78 : decode cX3_trace 78 = .ok (.getfield 9, 3) := by decide +kernel
theorem dX3_trace_81 : decode cX3_trace 81 = .ok (.iload_n 3, 1) := by decide +kernel
theorem dX3_trace_82 : decode cX3_trace 82 = .ok (.dup2, 1) := by decide +kernel
theorem dX3_trace_83 : decode cX3_trace 83 = .ok (.iaload, 1) := by decide +kernel
theorem dX3_trace_84 : decode cX3_trace 84 = .ok (.aload_n 0, 1) := by decide +kernel
theorem dX3_trace_85 : decode cX3_trace 85 = .ok (.getfield 9, 3) := by decide +kernel
theorem dX3_trace_88 : decode cX3_trace 88 = .ok (.iload_n 2, 1) := by decide +kernel
theorem dX3_trace_89 : decode cX3_trace 89 = .ok (.iaload, 1) := by decide +kernel
theorem dX3_trace_90 : decode cX3_trace 90 = .ok (.ior, 1) := by decide +kernel
theorem dX3_trace_91 : decode cX3_trace 91 = .ok (.iastore, 1) := by decide +kernel
theorem dX3_trace_92 : decode cX3_trace 92 = .ok (.iinc 3 1, 3) := by decide +kernel
theorem dX3_trace_95 : decode cX3_trace 95 = .ok (.goto (-35), 3) := by decide +kernel
theorem dX3_trace_98 : decode cX3_trace 98 = .ok (.iinc 2 1, 3) := by decide +kernel
theorem dX3_trace_101 : decode cX3_trace 101 = .ok (.goto (-51), 3) := by decide +kernel
theorem dX3_trace_104 : decode cX3_trace 104 = .ok (.return_, 1) := by decide +kernel
theorem dX3_addLink_0 : decode cX3_addLink 0 = .ok (.aload_n 1, 1) := by decide +kernel
theorem dX3_addLink_1 : decode cX3_addLink 1 = .ok (.iload_n 3, 1) := by decide +kernel
theorem dX3_addLink_2 : decode cX3_addLink 2 = .ok (.invokevirtual 39, 3) := by decide +kernel
theorem dX3_addLink_5 : decode cX3_addLink 5 = .ok (.ifCond .eq 15, 3) := by decide +kernel
theorem dX3_addLink_8 : decode cX3_addLink 8 = .ok (.aload_n 0, 1) := by decide +kernel
theorem dX3_addLink_9 : decode cX3_addLink 9 = .ok (.getfield 9, 3) := by decide +kernel
theorem dX3_addLink_12 : decode cX3_addLink 12 = .ok (.iload_n 2, 1) := by decide +kernel
theorem dX3_addLink_13 : decode cX3_addLink 13 = .ok (.dup2, 1) := by decide +kernel
theorem dX3_addLink_14 : decode cX3_addLink 14 = .ok (.iaload, 1) := by decide +kernel
theorem dX3_addLink_15 : decode cX3_addLink 15 = .ok (.iconst 1, 1) := by decide +kernel
theorem dX3_addLink_16 : decode cX3_addLink 16 = .ok (.iload_n 3, 1) := by decide +kernel
theorem dX3_addLink_17 : decode cX3_addLink 17 = .ok (.ishl, 1) := by decide +kernel
theorem dX3_addLink_18 : decode cX3_addLink 18 = .ok (.ior, 1) := by decide +kernel
theorem dX3_addLink_19 : decode cX3_addLink 19 = .ok (.iastore, 1) := by decide +kernel
theorem dX3_addLink_20 : decode cX3_addLink 20 = .ok (.return_, 1) := by decide +kernel
theorem dX3_leads_0 : decode cX3_leads 0 = .ok (.aload_n 0, 1) := by decide +kernel
theorem dX3_leads_1 : decode cX3_leads 1 = .ok (.getfield 9, 3) := by decide +kernel
theorem dX3_leads_4 : decode cX3_leads 4 = .ok (.iload_n 1, 1) := by decide +kernel
theorem dX3_leads_5 : decode cX3_leads 5 = .ok (.iaload, 1) := by decide +kernel
theorem dX3_leads_6 : decode cX3_leads 6 = .ok (.iconst 1, 1) := by decide +kernel
theorem dX3_leads_7 : decode cX3_leads 7 = .ok (.iload_n 2, 1) := by decide +kernel
theorem dX3_leads_8 : decode cX3_leads 8 = .ok (.ishl, 1) := by decide +kernel
theorem dX3_leads_9 : decode cX3_leads 9 = .ok (.iand, 1) := by decide +kernel
theorem dX3_leads_10 : decode cX3_leads 10 = .ok (.ifCond .eq 7, 3) := by decide +kernel
theorem dX3_leads_13 : decode cX3_leads 13 = .ok (.iconst 1, 1) := by decide +kernel
theorem dX3_leads_14 : decode cX3_leads 14 = .ok (.goto 4, 3) := by decide +kernel
theorem dX3_leads_17 : decode cX3_leads 17 = .ok (.iconst 0, 1) := by decide +kernel
theorem dX3_leads_18 : decode cX3_leads 18 = .ok (.ireturn, 1) := by decide +kernel
theorem dX3_returnsTo_0 : decode cX3_returnsTo 0 = .ok (.aload_n 0, 1) := by decide +kernel
theorem dX3_returnsTo_1 : decode cX3_returnsTo 1 = .ok (.iload_n 1, 1) := by decide +kernel
theorem dX3_returnsTo_2 : decode cX3_returnsTo 2 = .ok (.iload_n 1, 1) := by decide +kernel
theorem dX3_returnsTo_3 : decode cX3_returnsTo 3 = .ok (.invokevirtual 35, 3) := by decide +kernel
theorem dX3_returnsTo_6 : decode cX3_returnsTo 6 = .ok (.ireturn, 1) := by decide +kernel
theorem dX3_number_0 : decode cX3_number 0 = .ok (.iconst 0, 1) := by decide +kernel
theorem dX3_number_1 : decode cX3_number 1 = .ok (.istore_n 2, 1) := by decide +kernel
theorem dX3_number_2 : decode cX3_number 2 = .ok (.iconst 0, 1) := by decide +kernel
theorem dX3_number_3 : decode cX3_number 3 = .ok (.istore_n 3, 1) := by decide +kernel
theorem dX3_number_4 : decode cX3_number 4 = .ok (.iload_n 3, 1) := by decide +kernel
theorem dX3_number_5 : decode cX3_number 5 = .ok (.iload_n 1, 1) := by decide +kernel
theorem dX3_number_6 : decode cX3_number 6 = .ok (.if_icmp .ge 28, 3) := by decide +kernel
theorem dX3_number_9 : decode cX3_number 9 = .ok (.aload_n 0, 1) := by decide +kernel
theorem dX3_number_10 : decode cX3_number 10 = .ok (.iload_n 3, 1) := by decide +kernel
theorem dX3_number_11 : decode cX3_number 11 = .ok (.invokevirtual 43, 3) := by decide +kernel
theorem dX3_number_14 : decode cX3_number 14 = .ok (.ifCond .eq 14, 3) := by decide +kernel
theorem dX3_number_17 : decode cX3_number 17 = .ok (.aload_n 0, 1) := by decide +kernel
theorem dX3_number_18 : decode cX3_number 18 = .ok (.iload_n 3, 1) := by decide +kernel
theorem dX3_number_19 : decode cX3_number 19 = .ok (.invokevirtual 46, 3) := by decide +kernel
theorem dX3_number_22 : decode cX3_number 22 = .ok (.ifCond .ne 6, 3) := by decide +kernel
theorem dX3_number_25 : decode cX3_number 25 = .ok (.iinc 2 1, 3) := by decide +kernel
theorem dX3_number_28 : decode cX3_number 28 = .ok (.iinc 3 1, 3) := by decide +kernel
theorem dX3_number_31 : decode cX3_number 31 = .ok (.goto (-27), 3) := by decide +kernel
theorem dX3_number_34 : decode cX3_number 34 = .ok (.iload_n 2, 1) := by decide +kernel
theorem dX3_number_35 : decode cX3_number 35 = .ok (.ireturn, 1) := by decide +kernel
theorem dX3_sharesLoopWithEarlier_0 : decode cX3_sharesLoopWithEarlier 0 = .ok (.iconst 0, 1) := by decide +kernel
theorem dX3_sharesLoopWithEarlier_1 : decode cX3_sharesLoopWithEarlier 1 = .ok (.istore_n 2, 1) := by decide +kernel
theorem dX3_sharesLoopWithEarlier_2 : decode cX3_sharesLoopWithEarlier 2 = .ok (.iload_n 2, 1) := by decide +kernel
theorem dX3_sharesLoopWithEarlier_3 : decode cX3_sharesLoopWithEarlier 3 = .ok (.iload_n 1, 1) := by decide +kernel
theorem dX3_sharesLoopWithEarlier_4 : decode cX3_sharesLoopWithEarlier 4 = .ok (.if_icmp .ge 29, 3) := by decide +kernel
theorem dX3_sharesLoopWithEarlier_7 : decode cX3_sharesLoopWithEarlier 7 = .ok (.aload_n 0, 1) := by decide +kernel
theorem dX3_sharesLoopWithEarlier_8 : decode cX3_sharesLoopWithEarlier 8 = .ok (.iload_n 1, 1) := by decide +kernel
theorem dX3_sharesLoopWithEarlier_9 : decode cX3_sharesLoopWithEarlier 9 = .ok (.iload_n 2, 1) := by decide +kernel
theorem dX3_sharesLoopWithEarlier_10 : decode cX3_sharesLoopWithEarlier 10 = .ok (.invokevirtual 35, 3) := by decide +kernel
theorem dX3_sharesLoopWithEarlier_13 : decode cX3_sharesLoopWithEarlier 13 = .ok (.ifCond .eq 14, 3) := by decide +kernel
theorem dX3_sharesLoopWithEarlier_16 : decode cX3_sharesLoopWithEarlier 16 = .ok (.aload_n 0, 1) := by decide +kernel
theorem dX3_sharesLoopWithEarlier_17 : decode cX3_sharesLoopWithEarlier 17 = .ok (.iload_n 2, 1) := by decide +kernel
theorem dX3_sharesLoopWithEarlier_18 : decode cX3_sharesLoopWithEarlier 18 = .ok (.iload_n 1, 1) := by decide +kernel
theorem dX3_sharesLoopWithEarlier_19 : decode cX3_sharesLoopWithEarlier 19 = .ok (.invokevirtual 35, 3) := by decide +kernel
theorem dX3_sharesLoopWithEarlier_22 : decode cX3_sharesLoopWithEarlier 22 = .ok (.ifCond .eq 5, 3) := by decide +kernel
theorem dX3_sharesLoopWithEarlier_25 : decode cX3_sharesLoopWithEarlier 25 = .ok (.iconst 1, 1) := by decide +kernel
theorem dX3_sharesLoopWithEarlier_26 : decode cX3_sharesLoopWithEarlier 26 = .ok (.ireturn, 1) := by decide +kernel
theorem dX3_sharesLoopWithEarlier_27 : decode cX3_sharesLoopWithEarlier 27 = .ok (.iinc 2 1, 3) := by decide +kernel
theorem dX3_sharesLoopWithEarlier_30 : decode cX3_sharesLoopWithEarlier 30 = .ok (.goto (-28), 3) := by decide +kernel
theorem dX3_sharesLoopWithEarlier_33 : decode cX3_sharesLoopWithEarlier 33 = .ok (.iconst 0, 1) := by decide +kernel
theorem dX3_sharesLoopWithEarlier_34 : decode cX3_sharesLoopWithEarlier 34 = .ok (.ireturn, 1) := by decide +kernel
theorem dX4_init_0 : decode cX4_init 0 = .ok (.aload_n 0, 1) := by decide +kernel
theorem dX4_init_1 : decode cX4_init 1 = .ok (.invokespecial 1, 3) := by decide +kernel
theorem dX4_init_4 : decode cX4_init 4 = .ok (.aload_n 0, 1) := by decide +kernel
theorem dX4_init_5 : decode cX4_init 5 = .ok (.iconst 5, 1) := by decide +kernel
theorem dX4_init_6 : decode cX4_init 6 = .ok (.newarray .int, 2) := by decide +kernel
theorem dX4_init_8 : decode cX4_init 8 = .ok (.putfield 9, 3) := by decide +kernel
theorem dX4_init_11 : decode cX4_init 11 = .ok (.aload_n 0, 1) := by decide +kernel
theorem dX4_init_12 : decode cX4_init 12 = .ok (.iconst 5, 1) := by decide +kernel
theorem dX4_init_13 : decode cX4_init 13 = .ok (.newarray .int, 2) := by decide +kernel
theorem dX4_init_15 : decode cX4_init 15 = .ok (.putfield 13, 3) := by decide +kernel
theorem dX4_init_18 : decode cX4_init 18 = .ok (.aload_n 0, 1) := by decide +kernel
theorem dX4_init_19 : decode cX4_init 19 = .ok (.iconst 0, 1) := by decide +kernel
theorem dX4_init_20 : decode cX4_init 20 = .ok (.putfield 16, 3) := by decide +kernel
theorem dX4_init_23 : decode cX4_init 23 = .ok (.aload_n 0, 1) := by decide +kernel
theorem dX4_init_24 : decode cX4_init 24 = .ok (.iconst 0, 1) := by decide +kernel
theorem dX4_init_25 : decode cX4_init 25 = .ok (.putfield 20, 3) := by decide +kernel
theorem dX4_init_28 : decode cX4_init 28 = .ok (.return_, 1) := by decide +kernel
theorem dX4_store_0 : decode cX4_store 0 = .ok (.aload_n 0, 1) := by decide +kernel
theorem dX4_store_1 : decode cX4_store 1 = .ok (.getfield 9, 3) := by decide +kernel
theorem dX4_store_4 : decode cX4_store 4 = .ok (.aload_n 0, 1) := by decide +kernel
theorem dX4_store_5 : decode cX4_store 5 = .ok (.getfield 16, 3) := by decide +kernel
theorem dX4_store_8 : decode cX4_store 8 = .ok (.iload_n 1, 1) := by decide +kernel
theorem dX4_store_9 : decode cX4_store 9 = .ok (.iastore, 1) := by decide +kernel
theorem dX4_store_10 : decode cX4_store 10 = .ok (.aload_n 0, 1) := by decide +kernel
theorem dX4_store_11 : decode cX4_store 11 = .ok (.getfield 13, 3) := by decide +kernel
theorem dX4_store_14 : decode cX4_store 14 = .ok (.aload_n 0, 1) := by decide +kernel
theorem dX4_store_15 : decode cX4_store 15 = .ok (.getfield 16, 3) := by decide +kernel
theorem dX4_store_18 : decode cX4_store 18 = .ok (.iload_n 2, 1) := by decide +kernel
theorem dX4_store_19 : decode cX4_store 19 = .ok (.iastore, 1) := by decide +kernel
theorem dX4_store_20 : decode cX4_store 20 = .ok (.aload_n 0, 1) := by decide +kernel
theorem dX4_store_21 : decode cX4_store 21 = .ok (.aload_n 0, 1) := by decide +kernel
theorem dX4_store_22 : decode cX4_store 22 = .ok (.getfield 16, 3) := by decide +kernel
theorem dX4_store_25 : decode cX4_store 25 = .ok (.iconst 1, 1) := by decide +kernel
theorem dX4_store_26 : decode cX4_store 26 = .ok (.iadd, 1) := by decide +kernel
theorem dX4_store_27 : decode cX4_store 27 = .ok (.iconst 5, 1) := by decide +kernel
theorem dX4_store_28 : decode cX4_store 28 = .ok (.irem, 1) := by decide +kernel
theorem dX4_store_29 : decode cX4_store 29 = .ok (.putfield 16, 3) := by decide +kernel
theorem dX4_store_32 : decode cX4_store 32 = .ok (.aload_n 0, 1) := by decide +kernel
theorem dX4_store_33 : decode cX4_store 33 = .ok (.aload_n 0, 1) := by decide +kernel
theorem dX4_store_34 : decode cX4_store 34 = .ok (.getfield 20, 3) := by decide +kernel
theorem dX4_store_37 : decode cX4_store 37 = .ok (.iconst 1, 1) := by decide +kernel
theorem dX4_store_38 : decode cX4_store 38 = .ok (.iadd, 1) := by decide +kernel
theorem dX4_store_39 : decode cX4_store 39 = .ok (.iconst 5, 1) := by decide +kernel
theorem dX4_store_40 : decode cX4_store 40 = .ok (.invokestatic 23, 3) := by decide +kernel
theorem dX4_store_43 : decode cX4_store 43 = .ok (.putfield 20, 3) := by decide +kernel
theorem dX4_store_46 : decode cX4_store 46 = .ok (.aload_n 0, 1) := by decide +kernel
theorem dX4_store_47 : decode cX4_store 47 = .ok (.getfield 20, 3) := by decide +kernel
theorem dX4_store_50 : decode cX4_store 50 = .ok (.ireturn, 1) := by decide +kernel
theorem dX4_agree_0 : decode cX4_agree 0 = .ok (.iconst 0, 1) := by decide +kernel
theorem dX4_agree_1 : decode cX4_agree 1 = .ok (.istore_n 3, 1) := by decide +kernel
theorem dX4_agree_2 : decode cX4_agree 2 = .ok (.iload_n 3, 1) := by decide +kernel
theorem dX4_agree_3 : decode cX4_agree 3 = .ok (.aload_n 0, 1) := by decide +kernel
theorem dX4_agree_4 : decode cX4_agree 4 = .ok (.getfield 20, 3) := by decide +kernel
theorem dX4_agree_7 : decode cX4_agree 7 = .ok (.if_icmp .ge 34, 3) := by decide +kernel
theorem dX4_agree_10 : decode cX4_agree 10 = .ok (.aload_n 0, 1) := by decide +kernel
theorem dX4_agree_11 : decode cX4_agree 11 = .ok (.getfield 13, 3) := by decide +kernel
theorem dX4_agree_14 : decode cX4_agree 14 = .ok (.iload_n 3, 1) := by decide +kernel
theorem dX4_agree_15 : decode cX4_agree 15 = .ok (.iaload, 1) := by decide +kernel
theorem dX4_agree_16 : decode cX4_agree 16 = .ok (.aload_n 0, 1) := by decide +kernel
theorem dX4_agree_17 : decode cX4_agree 17 = .ok (.getfield 9, 3) := by decide +kernel
theorem dX4_agree_20 : decode cX4_agree 20 = .ok (.iload_n 3, 1) := by decide +kernel
theorem dX4_agree_21 : decode cX4_agree 21 = .ok (.iaload, 1) := by decide +kernel
theorem dX4_agree_22 : decode cX4_agree 22 = .ok (.ifCond .ne 7, 3) := by decide +kernel
theorem dX4_agree_25 : decode cX4_agree 25 = .ok (.iload_n 1, 1) := by decide +kernel
theorem dX4_agree_26 : decode cX4_agree 26 = .ok (.goto 4, 3) := by decide +kernel
theorem dX4_agree_29 : decode cX4_agree 29 = .ok (.iload_n 2, 1) := by decide +kernel
theorem dX4_agree_30 : decode cX4_agree 30 = .ok (.if_icmp .eq 5, 3) := by decide +kernel
theorem dX4_agree_33 : decode cX4_agree 33 = .ok (.iconst 0, 1) := by decide +kernel
theorem dX4_agree_34 : decode cX4_agree 34 = .ok (.ireturn, 1) := by decide +kernel
theorem dX4_agree_35 : decode cX4_agree 35 = .ok (.iinc 3 1, 3) := by decide +kernel
theorem dX4_agree_38 : decode cX4_agree 38 = .ok (.goto (-36), 3) := by decide +kernel
theorem dX4_agree_41 : decode cX4_agree 41 = .ok (.iconst 1, 1) := by decide +kernel
theorem dX4_agree_42 : decode cX4_agree 42 = .ok (.ireturn, 1) := by decide +kernel
theorem dX5_init_0 : decode cX5_init 0 = .ok (.aload_n 0, 1) := by decide +kernel
theorem dX5_init_1 : decode cX5_init 1 = .ok (.invokespecial 3, 3) := by decide +kernel
theorem dX5_init_4 : decode cX5_init 4 = .ok (.aload_n 0, 1) := by decide +kernel
theorem dX5_init_5 : decode cX5_init 5 = .ok (.lconst 0, 1) := by decide +kernel
theorem dX5_init_6 : decode cX5_init 6 = .ok (.putfield 9, 3) := by decide +kernel
theorem dX5_init_9 : decode cX5_init 9 = .ok (.aload_n 0, 1) := by decide +kernel
theorem dX5_init_10 : decode cX5_init 10 = .ok (.lconst 1, 1) := by decide +kernel
theorem dX5_init_11 : decode cX5_init 11 = .ok (.putfield 15, 3) := by decide +kernel
theorem dX5_init_14 : decode cX5_init 14 = .ok (.aload_n 0, 1) := by decide +kernel
theorem dX5_init_15 : decode cX5_init 15 = .ok (.lconst 0, 1) := by decide +kernel
theorem dX5_init_16 : decode cX5_init 16 = .ok (.putfield 18, 3) := by decide +kernel
theorem dX5_init_19 : decode cX5_init 19 = .ok (.aload_n 0, 1) := by decide +kernel
theorem dX5_init_20 : decode cX5_init 20 = .ok (.lconst 1, 1) := by decide +kernel
theorem dX5_init_21 : decode cX5_init 21 = .ok (.putfield 21, 3) := by decide +kernel
theorem dX5_init_24 : decode cX5_init 24 = .ok (.return_, 1) := by decide +kernel
theorem dX5_compute_0 : decode cX5_compute 0 = .ok (.aload_n 2, 1) := by decide +kernel
theorem dX5_compute_1 : decode cX5_compute 1 = .ok (.aload_n 1, 1) := by decide +kernel
theorem dX5_compute_2 : decode cX5_compute 2 = .ok (.iconst 0, 1) := by decide +kernel
theorem dX5_compute_3 : decode cX5_compute 3 = .ok (.bipush 8, 2) := by decide +kernel
theorem dX5_compute_5 : decode cX5_compute 5 = .ok (.invokevirtual 24, 3) := by decide +kernel
theorem dX5_compute_8 : decode cX5_compute 8 = .ok (.aload_n 0, 1) := by decide +kernel
theorem dX5_compute_9 : decode cX5_compute 9 = .ok (.aload_n 2, 1) := by decide +kernel
theorem dX5_compute_10 : decode cX5_compute 10 = .ok (.getfield 30, 3) := by decide +kernel
theorem dX5_compute_13 : decode cX5_compute 13 = .ok (.putfield 9, 3) := by decide +kernel
theorem dX5_compute_16 : decode cX5_compute 16 = .ok (.aload_n 0, 1) := by decide +kernel
theorem dX5_compute_17 : decode cX5_compute 17 = .ok (.aload_n 2, 1) := by decide +kernel
theorem dX5_compute_18 : decode cX5_compute 18 = .ok (.getfield 33, 3) := by decide +kernel
theorem dX5_compute_21 : decode cX5_compute 21 = .ok (.putfield 15, 3) := by decide +kernel
theorem dX5_compute_24 : decode cX5_compute 24 = .ok (.aload_n 2, 1) := by decide +kernel
theorem dX5_compute_25 : decode cX5_compute 25 = .ok (.aload_n 1, 1) := by decide +kernel
theorem dX5_compute_26 : decode cX5_compute 26 = .ok (.iconst 1, 1) := by decide +kernel
theorem dX5_compute_27 : decode cX5_compute 27 = .ok (.bipush 8, 2) := by decide +kernel
theorem dX5_compute_29 : decode cX5_compute 29 = .ok (.invokevirtual 24, 3) := by decide +kernel
theorem dX5_compute_32 : decode cX5_compute 32 = .ok (.aload_n 0, 1) := by decide +kernel
theorem dX5_compute_33 : decode cX5_compute 33 = .ok (.aload_n 2, 1) := by decide +kernel
theorem dX5_compute_34 : decode cX5_compute 34 = .ok (.getfield 30, 3) := by decide +kernel
theorem dX5_compute_37 : decode cX5_compute 37 = .ok (.putfield 18, 3) := by decide +kernel
theorem dX5_compute_40 : decode cX5_compute 40 = .ok (.aload_n 0, 1) := by decide +kernel
theorem dX5_compute_41 : decode cX5_compute 41 = .ok (.aload_n 2, 1) := by decide +kernel
theorem dX5_compute_42 : decode cX5_compute 42 = .ok (.getfield 33, 3) := by decide +kernel
theorem dX5_compute_45 : decode cX5_compute 45 = .ok (.putfield 21, 3) := by decide +kernel
theorem dX5_compute_48 : decode cX5_compute 48 = .ok (.return_, 1) := by decide +kernel
theorem dX5_extend_0 : decode cX5_extend 0 = .ok (.aload_n 0, 1) := by decide +kernel
theorem dX5_extend_1 : decode cX5_extend 1 = .ok (.aload_n 1, 1) := by decide +kernel
theorem dX5_extend_2 : decode cX5_extend 2 = .ok (.getfield 9, 3) := by decide +kernel
theorem dX5_extend_5 : decode cX5_extend 5 = .ok (.iload_n 3, 1) := by decide +kernel
theorem dX5_extend_6 : decode cX5_extend 6 = .ok (.i2l, 1) := by decide +kernel
theorem dX5_extend_7 : decode cX5_extend 7 = .ok (.aload_n 2, 1) := by decide +kernel
theorem dX5_extend_8 : decode cX5_extend 8 = .ok (.getfield 9, 3) := by decide +kernel
theorem dX5_extend_11 : decode cX5_extend 11 = .ok (.aload_n 1, 1) := by decide +kernel
theorem dX5_extend_12 : decode cX5_extend 12 = .ok (.getfield 9, 3) := by decide +kernel
theorem dX5_extend_15 : decode cX5_extend 15 = .ok (.lsub, 1) := by decide +kernel
theorem dX5_extend_16 : decode cX5_extend 16 = .ok (.lmul, 1) := by decide +kernel
theorem dX5_extend_17 : decode cX5_extend 17 = .ok (.ladd, 1) := by decide +kernel
theorem dX5_extend_18 : decode cX5_extend 18 = .ok (.putfield 9, 3) := by decide +kernel
theorem dX5_extend_21 : decode cX5_extend 21 = .ok (.aload_n 0, 1) := by decide +kernel
theorem dX5_extend_22 : decode cX5_extend 22 = .ok (.aload_n 1, 1) := by decide +kernel
theorem dX5_extend_23 : decode cX5_extend 23 = .ok (.getfield 15, 3) := by decide +kernel
theorem dX5_extend_26 : decode cX5_extend 26 = .ok (.iload_n 3, 1) := by decide +kernel
theorem dX5_extend_27 : decode cX5_extend 27 = .ok (.i2l, 1) := by decide +kernel
theorem dX5_extend_28 : decode cX5_extend 28 = .ok (.aload_n 2, 1) := by decide +kernel
theorem dX5_extend_29 : decode cX5_extend 29 = .ok (.getfield 15, 3) := by decide +kernel
theorem dX5_extend_32 : decode cX5_extend 32 = .ok (.aload_n 1, 1) := by decide +kernel
theorem dX5_extend_33 : decode cX5_extend 33 = .ok (.getfield 15, 3) := by decide +kernel
theorem dX5_extend_36 : decode cX5_extend 36 = .ok (.lsub, 1) := by decide +kernel
theorem dX5_extend_37 : decode cX5_extend 37 = .ok (.lmul, 1) := by decide +kernel
theorem dX5_extend_38 : decode cX5_extend 38 = .ok (.ladd, 1) := by decide +kernel
theorem dX5_extend_39 : decode cX5_extend 39 = .ok (.putfield 15, 3) := by decide +kernel
theorem dX5_extend_42 : decode cX5_extend 42 = .ok (.aload_n 0, 1) := by decide +kernel
theorem dX5_extend_43 : decode cX5_extend 43 = .ok (.aload_n 1, 1) := by decide +kernel
theorem dX5_extend_44 : decode cX5_extend 44 = .ok (.getfield 18, 3) := by decide +kernel
theorem dX5_extend_47 : decode cX5_extend 47 = .ok (.iload_n 3, 1) := by decide +kernel
theorem dX5_extend_48 : decode cX5_extend 48 = .ok (.i2l, 1) := by decide +kernel
theorem dX5_extend_49 : decode cX5_extend 49 = .ok (.aload_n 2, 1) := by decide +kernel
theorem dX5_extend_50 : decode cX5_extend 50 = .ok (.getfield 18, 3) := by decide +kernel
theorem dX5_extend_53 : decode cX5_extend 53 = .ok (.aload_n 1, 1) := by decide +kernel
theorem dX5_extend_54 : decode cX5_extend 54 = .ok (.getfield 18, 3) := by decide +kernel
theorem dX5_extend_57 : decode cX5_extend 57 = .ok (.lsub, 1) := by decide +kernel
theorem dX5_extend_58 : decode cX5_extend 58 = .ok (.lmul, 1) := by decide +kernel
theorem dX5_extend_59 : decode cX5_extend 59 = .ok (.ladd, 1) := by decide +kernel
theorem dX5_extend_60 : decode cX5_extend 60 = .ok (.putfield 18, 3) := by decide +kernel
theorem dX5_extend_63 : decode cX5_extend 63 = .ok (.aload_n 0, 1) := by decide +kernel
theorem dX5_extend_64 : decode cX5_extend 64 = .ok (.aload_n 1, 1) := by decide +kernel
theorem dX5_extend_65 : decode cX5_extend 65 = .ok (.getfield 21, 3) := by decide +kernel
theorem dX5_extend_68 : decode cX5_extend 68 = .ok (.iload_n 3, 1) := by decide +kernel
theorem dX5_extend_69 : decode cX5_extend 69 = .ok (.i2l, 1) := by decide +kernel
theorem dX5_extend_70 : decode cX5_extend 70 = .ok (.aload_n 2, 1) := by decide +kernel
theorem dX5_extend_71 : decode cX5_extend 71 = .ok (.getfield 21, 3) := by decide +kernel
theorem dX5_extend_74 : decode cX5_extend 74 = .ok (.aload_n 1, 1) := by decide +kernel
theorem dX5_extend_75 : decode cX5_extend 75 = .ok (.getfield 21, 3) := by decide +kernel
theorem dX5_extend_78 : decode cX5_extend 78 = .ok (.lsub, 1) := by decide +kernel
theorem dX5_extend_79 : decode cX5_extend 79 = .ok (.lmul, 1) := by decide +kernel
theorem dX5_extend_80 : decode cX5_extend 80 = .ok (.ladd, 1) := by decide +kernel
theorem dX5_extend_81 : decode cX5_extend 81 = .ok (.putfield 21, 3) := by decide +kernel
theorem dX5_extend_84 : decode cX5_extend 84 = .ok (.return_, 1) := by decide +kernel
theorem dX5_exist_0 : decode cX5_exist 0 = .ok (.aload_n 0, 1) := by decide +kernel
theorem dX5_exist_1 : decode cX5_exist 1 = .ok (.getfield 15, 3) := by decide +kernel
theorem dX5_exist_4 : decode cX5_exist 4 = .ok (.lconst 0, 1) := by decide +kernel
theorem dX5_exist_5 : decode cX5_exist 5 = .ok (.lcmp, 1) := by decide +kernel
theorem dX5_exist_6 : decode cX5_exist 6 = .ok (.ifCond .le 16, 3) := by decide +kernel
theorem dX5_exist_9 : decode cX5_exist 9 = .ok (.aload_n 0, 1) := by decide +kernel
theorem dX5_exist_10 : decode cX5_exist 10 = .ok (.getfield 21, 3) := by decide +kernel
theorem dX5_exist_13 : decode cX5_exist 13 = .ok (.lconst 0, 1) := by decide +kernel
theorem dX5_exist_14 : decode cX5_exist 14 = .ok (.lcmp, 1) := by decide +kernel
theorem dX5_exist_15 : decode cX5_exist 15 = .ok (.ifCond .le 7, 3) := by decide +kernel
theorem dX5_exist_18 : decode cX5_exist 18 = .ok (.iconst 1, 1) := by decide +kernel
theorem dX5_exist_19 : decode cX5_exist 19 = .ok (.goto 4, 3) := by decide +kernel
theorem dX5_exist_22 : decode cX5_exist 22 = .ok (.iconst 0, 1) := by decide +kernel
theorem dX5_exist_23 : decode cX5_exist 23 = .ok (.ireturn, 1) := by decide +kernel
theorem dX5_recoveryPerMille_0 : decode cX5_recoveryPerMille 0 = .ok (.aload_n 1, 1) := by decide +kernel
theorem dX5_recoveryPerMille_1 : decode cX5_recoveryPerMille 1 = .ok (.iconst 0, 1) := by decide +kernel
theorem dX5_recoveryPerMille_2 : decode cX5_recoveryPerMille 2 = .ok (.invokevirtual 36, 3) := by decide +kernel
theorem dX5_recoveryPerMille_5 : decode cX5_recoveryPerMille 5 = .ok (.ifCond .le 29, 3) := by decide +kernel
theorem dX5_recoveryPerMille_8 : decode cX5_recoveryPerMille 8 = .ok (.aload_n 0, 1) := by decide +kernel
theorem dX5_recoveryPerMille_9 : decode cX5_recoveryPerMille 9 = .ok (.getfield 15, 3) := by decide +kernel
theorem dX5_recoveryPerMille_12 : decode cX5_recoveryPerMille 12 = .ok (.lconst 0, 1) := by decide +kernel
theorem dX5_recoveryPerMille_13 : decode cX5_recoveryPerMille 13 = .ok (.lcmp, 1) := by decide +kernel
theorem dX5_recoveryPerMille_14 : decode cX5_recoveryPerMille 14 = .ok (.ifCond .le 20, 3) := by decide +kernel
theorem dX5_recoveryPerMille_17 : decode cX5_recoveryPerMille 17 = .ok (.ldc2_w 42, 3) := by decide +kernel
theorem dX5_recoveryPerMille_20 : decode cX5_recoveryPerMille 20 = .ok (.aload_n 0, 1) := by decide +kernel
theorem dX5_recoveryPerMille_21 : decode cX5_recoveryPerMille 21 = .ok (.getfield 9, 3) := by decide +kernel
theorem dX5_recoveryPerMille_24 : decode cX5_recoveryPerMille 24 = .ok (.lmul, 1) := by decide +kernel
theorem dX5_recoveryPerMille_25 : decode cX5_recoveryPerMille 25 = .ok (.aload_n 0, 1) := by decide +kernel
theorem dX5_recoveryPerMille_26 : decode cX5_recoveryPerMille 26 = .ok (.getfield 15, 3) := by decide +kernel
theorem dX5_recoveryPerMille_29 : decode cX5_recoveryPerMille 29 = .ok (.ldiv, 1) := by decide +kernel
theorem dX5_recoveryPerMille_30 : decode cX5_recoveryPerMille 30 = .ok (.l2i, 1) := by decide +kernel
theorem dX5_recoveryPerMille_31 : decode cX5_recoveryPerMille 31 = .ok (.goto 4, 3) := by decide +kernel
theorem dX5_recoveryPerMille_34 : decode cX5_recoveryPerMille 34 = .ok (.iconst 0, 1) := by decide +kernel
theorem dX5_recoveryPerMille_35 : decode cX5_recoveryPerMille 35 = .ok (.ireturn, 1) := by decide +kernel
theorem dX5_gradePerMille_0 : decode cX5_gradePerMille 0 = .ok (.aload_n 1, 1) := by decide +kernel
theorem dX5_gradePerMille_1 : decode cX5_gradePerMille 1 = .ok (.iconst 0, 1) := by decide +kernel
theorem dX5_gradePerMille_2 : decode cX5_gradePerMille 2 = .ok (.invokevirtual 36, 3) := by decide +kernel
theorem dX5_gradePerMille_5 : decode cX5_gradePerMille 5 = .ok (.aload_n 0, 1) := by decide +kernel
theorem dX5_gradePerMille_6 : decode cX5_gradePerMille 6 = .ok (.getfield 9, 3) := by decide +kernel
theorem dX5_gradePerMille_9 : decode cX5_gradePerMille 9 = .ok (.aload_n 0, 1) := by decide +kernel
theorem dX5_gradePerMille_10 : decode cX5_gradePerMille 10 = .ok (.getfield 15, 3) := by decide +kernel
theorem dX5_gradePerMille_13 : decode cX5_gradePerMille 13 = .ok (.invokestatic 44, 3) := by decide +kernel
theorem dX5_gradePerMille_16 : decode cX5_gradePerMille 16 = .ok (.lstore_n 2, 1) := by decide +kernel
theorem dX5_gradePerMille_17 : decode cX5_gradePerMille 17 = .ok (.aload_n 1, 1) := by decide +kernel
theorem dX5_gradePerMille_18 : decode cX5_gradePerMille 18 = .ok (.iconst 1, 1) := by decide +kernel
theorem dX5_gradePerMille_19 : decode cX5_gradePerMille 19 = .ok (.invokevirtual 36, 3) := by decide +kernel
theorem dX5_gradePerMille_22 : decode cX5_gradePerMille 22 = .ok (.aload_n 0, 1) := by decide +kernel
theorem dX5_gradePerMille_23 : decode cX5_gradePerMille 23 = .ok (.getfield 18, 3) := by decide +kernel
theorem dX5_gradePerMille_26 : decode cX5_gradePerMille 26 = .ok (.aload_n 0, 1) := by decide +kernel
theorem dX5_gradePerMille_27 : decode cX5_gradePerMille 27 = .ok (.getfield 21, 3) := by decide +kernel
theorem dX5_gradePerMille_30 : decode cX5_gradePerMille 30 = .ok (.invokestatic 44, 3) := by decide +kernel
theorem dX5_gradePerMille_33 : decode cX5_gradePerMille 33 = .ok (.lstore 4, 2) := by decide +kernel
theorem dX5_gradePerMille_35 : decode cX5_gradePerMille 35 = .ok (.lload_n 2, 1) := by decide +kernel
theorem dX5_gradePerMille_36 : decode cX5_gradePerMille 36 = .ok (.lload 4, 2) := by decide +kernel
theorem dX5_gradePerMille_38 : decode cX5_gradePerMille 38 = .ok (.ladd, 1) := by decide +kernel
theorem dX5_gradePerMille_39 : decode cX5_gradePerMille 39 = .ok (.lstore 6, 2) := by decide +kernel
theorem dX5_gradePerMille_41 : decode cX5_gradePerMille 41 = .ok (.lload 6, 2) := by decide +kernel
theorem dX5_gradePerMille_43 : decode cX5_gradePerMille 43 = .ok (.lconst 0, 1) := by decide +kernel
theorem dX5_gradePerMille_44 : decode cX5_gradePerMille 44 = .ok (.lcmp, 1) := by decide +kernel
theorem dX5_gradePerMille_45 : decode cX5_gradePerMille 45 = .ok (.ifCond .le 15, 3) := by decide +kernel
theorem dX5_gradePerMille_48 : decode cX5_gradePerMille 48 = .ok (.ldc2_w 42, 3) := by decide +kernel
theorem dX5_gradePerMille_51 : decode cX5_gradePerMille 51 = .ok (.lload_n 2, 1) := by decide +kernel
theorem dX5_gradePerMille_52 : decode cX5_gradePerMille 52 = .ok (.lmul, 1) := by decide +kernel
theorem dX5_gradePerMille_53 : decode cX5_gradePerMille 53 = .ok (.lload 6, 2) := by decide +kernel
theorem dX5_gradePerMille_55 : decode cX5_gradePerMille 55 = .ok (.ldiv, 1) := by decide +kernel
theorem dX5_gradePerMille_56 : decode cX5_gradePerMille 56 = .ok (.l2i, 1) := by decide +kernel
theorem dX5_gradePerMille_57 : decode cX5_gradePerMille 57 = .ok (.goto 4, 3) := by decide +kernel
theorem dX5_gradePerMille_60 : decode cX5_gradePerMille 60 = .ok (.iconst 0, 1) := by decide +kernel
theorem dX5_gradePerMille_61 : decode cX5_gradePerMille 61 = .ok (.ireturn, 1) := by decide +kernel
theorem dX5_millionths_0 : decode cX5_millionths 0 = .ok (.lload_n 3, 1) := by decide +kernel
theorem dX5_millionths_1 : decode cX5_millionths 1 = .ok (.lconst 0, 1) := by decide +kernel
theorem dX5_millionths_2 : decode cX5_millionths 2 = .ok (.lcmp, 1) := by decide +kernel
theorem dX5_millionths_3 : decode cX5_millionths 3 = .ok (.ifCond .gt 5, 3) := by decide +kernel
theorem dX5_millionths_6 : decode cX5_millionths 6 = .ok (.lconst 0, 1) := by decide +kernel
theorem dX5_millionths_7 : decode cX5_millionths 7 = .ok (.lreturn, 1) := by decide +kernel
theorem dX5_millionths_8 : decode cX5_millionths 8 = .ok (.iload_n 0, 1) := by decide +kernel
theorem dX5_millionths_9 : decode cX5_millionths 9 = .ok (.i2l, 1) := by decide +kernel
theorem dX5_millionths_10 : decode cX5_millionths 10 = .ok (.lload_n 1, 1) := by decide +kernel
theorem dX5_millionths_11 : decode cX5_millionths 11 = .ok (.lmul, 1) := by decide +kernel
theorem dX5_millionths_12 : decode cX5_millionths 12 = .ok (.lstore 5, 2) := by decide +kernel
theorem dX5_millionths_14 : decode cX5_millionths 14 = .ok (.ldc2_w 48, 3) := by decide +kernel
theorem dX5_millionths_17 : decode cX5_millionths 17 = .ok (.lload 5, 2) := by decide +kernel
theorem dX5_millionths_19 : decode cX5_millionths 19 = .ok (.lload_n 3, 1) := by decide +kernel
theorem dX5_millionths_20 : decode cX5_millionths 20 = .ok (.ldiv, 1) := by decide +kernel
theorem dX5_millionths_21 : decode cX5_millionths 21 = .ok (.lmul, 1) := by decide +kernel
theorem dX5_millionths_22 : decode cX5_millionths 22 = .ok (.ldc2_w 48, 3) := by decide +kernel
theorem dX5_millionths_25 : decode cX5_millionths 25 = .ok (.lload 5, 2) := by decide +kernel
theorem dX5_millionths_27 : decode cX5_millionths 27 = .ok (.lload_n 3, 1) := by decide +kernel
theorem dX5_millionths_28 : decode cX5_millionths 28 = .ok (.lrem, 1) := by decide +kernel
theorem dX5_millionths_29 : decode cX5_millionths 29 = .ok (.lmul, 1) := by decide +kernel
theorem dX5_millionths_30 : decode cX5_millionths 30 = .ok (.lload_n 3, 1) := by decide +kernel
theorem dX5_millionths_31 : decode cX5_millionths 31 = .ok (.ldiv, 1) := by decide +kernel
theorem dX5_millionths_32 : decode cX5_millionths 32 = .ok (.ladd, 1) := by decide +kernel
theorem dX5_millionths_33 : decode cX5_millionths 33 = .ok (.lreturn, 1) := by decide +kernel
theorem dX6_init_0 : decode cX6_init 0 = .ok (.aload_n 0, 1) := by decide +kernel
theorem dX6_init_1 : decode cX6_init 1 = .ok (.invokespecial 3, 3) := by decide +kernel
theorem dX6_init_4 : decode cX6_init 4 = .ok (.aload_n 0, 1) := by decide +kernel
theorem dX6_init_5 : decode cX6_init 5 = .ok (.bipush 10, 2) := by decide +kernel
theorem dX6_init_7 : decode cX6_init 7 = .ok (.newarray .int, 2) := by decide +kernel
theorem dX6_init_9 : decode cX6_init 9 = .ok (.putfield 9, 3) := by decide +kernel
theorem dX6_init_12 : decode cX6_init 12 = .ok (.return_, 1) := by decide +kernel
theorem dX6_advance_0 : decode cX6_advance 0 = .ok (.aload_n 0, 1) := by decide +kernel
theorem dX6_advance_1 : decode cX6_advance 1 = .ok (.aload_n 1, 1) := by decide +kernel
theorem dX6_advance_2 : decode cX6_advance 2 = .ok (.iconst 0, 1) := by decide +kernel
theorem dX6_advance_3 : decode cX6_advance 3 = .ok (.invokevirtual 15, 3) := by decide +kernel
theorem dX6_advance_6 : decode cX6_advance 6 = .ok (.aload_n 0, 1) := by decide +kernel
theorem dX6_advance_7 : decode cX6_advance 7 = .ok (.aload_n 1, 1) := by decide +kernel
theorem dX6_advance_8 : decode cX6_advance 8 = .ok (.iconst 1, 1) := by decide +kernel
theorem dX6_advance_9 : decode cX6_advance 9 = .ok (.invokevirtual 15, 3) := by decide +kernel
theorem dX6_advance_12 : decode cX6_advance 12 = .ok (.return_, 1) := by decide +kernel
theorem dX6_moveComponent_0 : decode cX6_moveComponent 0 = .ok (.aload_n 0, 1) := by decide +kernel
theorem dX6_moveComponent_1 : decode cX6_moveComponent 1 = .ok (.getfield 9, 3) := by decide +kernel
theorem dX6_moveComponent_4 : decode cX6_moveComponent 4 = .ok (.iconst 0, 1) := by decide +kernel
theorem dX6_moveComponent_5 : decode cX6_moveComponent 5 = .ok (.invokestatic 19, 3) := by decide +kernel
theorem dX6_moveComponent_8 : decode cX6_moveComponent 8 = .ok (.aload_n 0, 1) := by decide +kernel
theorem dX6_moveComponent_9 : decode cX6_moveComponent 9 = .ok (.getfield 9, 3) := by decide +kernel
theorem dX6_moveComponent_12 : decode cX6_moveComponent 12 = .ok (.aload_n 1, 1) := by decide +kernel
theorem dX6_moveComponent_13 : decode cX6_moveComponent 13 = .ok (.invokevirtual 25, 3) := by decide +kernel
theorem dX6_moveComponent_16 : decode cX6_moveComponent 16 = .ok (.dup2, 1) := by decide +kernel
theorem dX6_moveComponent_17 : decode cX6_moveComponent 17 = .ok (.iaload, 1) := by decide +kernel
theorem dX6_moveComponent_18 : decode cX6_moveComponent 18 = .ok (.aload_n 1, 1) := by decide +kernel
theorem dX6_moveComponent_19 : decode cX6_moveComponent 19 = .ok (.iload_n 2, 1) := by decide +kernel
theorem dX6_moveComponent_20 : decode cX6_moveComponent 20 = .ok (.invokevirtual 31, 3) := by decide +kernel
theorem dX6_moveComponent_23 : decode cX6_moveComponent 23 = .ok (.iadd, 1) := by decide +kernel
theorem dX6_moveComponent_24 : decode cX6_moveComponent 24 = .ok (.iastore, 1) := by decide +kernel
theorem dX6_moveComponent_25 : decode cX6_moveComponent 25 = .ok (.iconst 0, 1) := by decide +kernel
theorem dX6_moveComponent_26 : decode cX6_moveComponent 26 = .ok (.istore_n 3, 1) := by decide +kernel
theorem dX6_moveComponent_27 : decode cX6_moveComponent 27 = .ok (.iload_n 3, 1) := by decide +kernel
theorem dX6_moveComponent_28 : decode cX6_moveComponent 28 = .ok (.aload_n 1, 1) := by decide +kernel
theorem dX6_moveComponent_29 : decode cX6_moveComponent 29 = .ok (.invokevirtual 35, 3) := by decide +kernel
theorem dX6_moveComponent_32 : decode cX6_moveComponent 32 = .ok (.if_icmp .ge 70, 3) := by decide +kernel
theorem dX6_moveComponent_35 : decode cX6_moveComponent 35 = .ok (.aload_n 1, 1) := by decide +kernel
theorem dX6_moveComponent_36 : decode cX6_moveComponent 36 = .ok (.iload_n 3, 1) := by decide +kernel
theorem dX6_moveComponent_37 : decode cX6_moveComponent 37 = .ok (.iload_n 2, 1) := by decide +kernel
theorem dX6_moveComponent_38 : decode cX6_moveComponent 38 = .ok (.invokevirtual 38, 3) := by decide +kernel
theorem dX6_moveComponent_41 : decode cX6_moveComponent 41 = .ok (.istore 4, 2) := by decide +kernel
theorem dX6_moveComponent_43 : decode cX6_moveComponent 43 = .ok (.iload 4, 2) := by decide +kernel
theorem dX6_moveComponent_45 : decode cX6_moveComponent 45 = .ok (.i2l, 1) := by decide +kernel
theorem dX6_moveComponent_46 : decode cX6_moveComponent 46 = .ok (.aload_n 1, 1) := by decide +kernel
theorem dX6_moveComponent_47 : decode cX6_moveComponent 47 = .ok (.iload_n 3, 1) := by decide +kernel
theorem dX6_moveComponent_48 : decode cX6_moveComponent 48 = .ok (.iload_n 2, 1) := by decide +kernel
theorem dX6_moveComponent_49 : decode cX6_moveComponent 49 = .ok (.invokevirtual 42, 3) := by decide +kernel
theorem dX6_moveComponent_52 : decode cX6_moveComponent 52 = .ok (.i2l, 1) := by decide +kernel
theorem dX6_moveComponent_53 : decode cX6_moveComponent 53 = .ok (.lmul, 1) := by decide +kernel
theorem dX6_moveComponent_54 : decode cX6_moveComponent 54 = .ok (.ldc2_w 45, 3) := by decide +kernel
theorem dX6_moveComponent_57 : decode cX6_moveComponent 57 = .ok (.ldiv, 1) := by decide +kernel
theorem dX6_moveComponent_58 : decode cX6_moveComponent 58 = .ok (.l2i, 1) := by decide +kernel
theorem dX6_moveComponent_59 : decode cX6_moveComponent 59 = .ok (.istore 5, 2) := by decide +kernel
theorem dX6_moveComponent_61 : decode cX6_moveComponent 61 = .ok (.aload_n 0, 1) := by decide +kernel
theorem dX6_moveComponent_62 : decode cX6_moveComponent 62 = .ok (.getfield 9, 3) := by decide +kernel
theorem dX6_moveComponent_65 : decode cX6_moveComponent 65 = .ok (.aload_n 1, 1) := by decide +kernel
theorem dX6_moveComponent_66 : decode cX6_moveComponent 66 = .ok (.iload_n 3, 1) := by decide +kernel
theorem dX6_moveComponent_67 : decode cX6_moveComponent 67 = .ok (.iconst 0, 1) := by decide +kernel
theorem dX6_moveComponent_68 : decode cX6_moveComponent 68 = .ok (.invokevirtual 47, 3) := by decide +kernel
theorem dX6_moveComponent_71 : decode cX6_moveComponent 71 = .ok (.dup2, 1) := by decide +kernel
theorem dX6_moveComponent_72 : decode cX6_moveComponent 72 = .ok (.iaload, 1) := by decide +kernel
theorem dX6_moveComponent_73 : decode cX6_moveComponent 73 = .ok (.iload 5, 2) := by decide +kernel
theorem dX6_moveComponent_75 : decode cX6_moveComponent 75 = .ok (.iadd, 1) := by decide +kernel
theorem dX6_moveComponent_76 : decode cX6_moveComponent 76 = .ok (.iastore, 1) := by decide +kernel
theorem dX6_moveComponent_77 : decode cX6_moveComponent 77 = .ok (.aload_n 0, 1) := by decide +kernel
theorem dX6_moveComponent_78 : decode cX6_moveComponent 78 = .ok (.getfield 9, 3) := by decide +kernel
theorem dX6_moveComponent_81 : decode cX6_moveComponent 81 = .ok (.aload_n 1, 1) := by decide +kernel
theorem dX6_moveComponent_82 : decode cX6_moveComponent 82 = .ok (.iload_n 3, 1) := by decide +kernel
theorem dX6_moveComponent_83 : decode cX6_moveComponent 83 = .ok (.iconst 1, 1) := by decide +kernel
theorem dX6_moveComponent_84 : decode cX6_moveComponent 84 = .ok (.invokevirtual 47, 3) := by decide +kernel
theorem dX6_moveComponent_87 : decode cX6_moveComponent 87 = .ok (.dup2, 1) := by decide +kernel
theorem dX6_moveComponent_88 : decode cX6_moveComponent 88 = .ok (.iaload, 1) := by decide +kernel
theorem dX6_moveComponent_89 : decode cX6_moveComponent 89 = .ok (.iload 4, 2) := by decide +kernel
theorem dX6_moveComponent_91 : decode cX6_moveComponent 91 = .ok (.iload 5, 2) := by decide +kernel
theorem dX6_moveComponent_93 : decode cX6_moveComponent 93 = .ok (.isub, 1) := by decide +kernel
theorem dX6_moveComponent_94 : decode cX6_moveComponent 94 = .ok (.iadd, 1) := by decide +kernel
theorem dX6_moveComponent_95 : decode cX6_moveComponent 95 = .ok (.iastore, 1) := by decide +kernel
theorem dX6_moveComponent_96 : decode cX6_moveComponent 96 = .ok (.iinc 3 1, 3) := by decide +kernel
theorem dX6_moveComponent_99 : decode cX6_moveComponent 99 = .ok (.goto (-72), 3) := by decide +kernel
theorem dX6_moveComponent_102 : decode cX6_moveComponent 102 = .ok (.iconst 0, 1) := by decide +kernel
theorem dX6_moveComponent_103 : decode cX6_moveComponent 103 = .ok (.istore_n 3, 1) := by decide +kernel
theorem dX6_moveComponent_104 : decode cX6_moveComponent 104 = .ok (.iload_n 3, 1) := by decide +kernel
theorem dX6_moveComponent_105 : decode cX6_moveComponent 105 = .ok (.aload_n 1, 1) := by decide +kernel
theorem dX6_moveComponent_106 : decode cX6_moveComponent 106 = .ok (.invokevirtual 35, 3) := by decide +kernel
theorem dX6_moveComponent_109 : decode cX6_moveComponent 109 = .ok (.if_icmp .ge 21, 3) := by decide +kernel
theorem dX6_moveComponent_112 : decode cX6_moveComponent 112 = .ok (.aload_n 1, 1) := by decide +kernel
theorem dX6_moveComponent_113 : decode cX6_moveComponent 113 = .ok (.iload_n 3, 1) := by decide +kernel
theorem dX6_moveComponent_114 : decode cX6_moveComponent 114 = .ok (.iload_n 2, 1) := by decide +kernel
theorem dX6_moveComponent_115 : decode cX6_moveComponent 115 = .ok (.aload_n 0, 1) := by decide +kernel
theorem dX6_moveComponent_116 : decode cX6_moveComponent 116 = .ok (.getfield 9, 3) := by decide +kernel
theorem dX6_moveComponent_119 : decode cX6_moveComponent 119 = .ok (.iload_n 3, 1) := by decide +kernel
theorem dX6_moveComponent_120 : decode cX6_moveComponent 120 = .ok (.iaload, 1) := by decide +kernel
theorem dX6_moveComponent_121 : decode cX6_moveComponent 121 = .ok (.invokevirtual 50, 3) := by decide +kernel
theorem dX6_moveComponent_124 : decode cX6_moveComponent 124 = .ok (.iinc 3 1, 3) := by decide +kernel
theorem dX6_moveComponent_127 : decode cX6_moveComponent 127 = .ok (.goto (-23), 3) := by decide +kernel
theorem dX6_moveComponent_130 : decode cX6_moveComponent 130 = .ok (.aload_n 1, 1) := by decide +kernel
theorem dX6_moveComponent_131 : decode cX6_moveComponent 131 = .ok (.bipush 8, 2) := by decide +kernel
theorem dX6_moveComponent_133 : decode cX6_moveComponent 133 = .ok (.iload_n 2, 1) := by decide +kernel
theorem dX6_moveComponent_134 : decode cX6_moveComponent 134 = .ok (.aload_n 0, 1) := by decide +kernel
theorem dX6_moveComponent_135 : decode cX6_moveComponent 135 = .ok (.getfield 9, 3) := by decide +kernel
theorem dX6_moveComponent_138 : decode cX6_moveComponent 138 = .ok (.bipush 8, 2) := by decide +kernel
theorem dX6_moveComponent_140 : decode cX6_moveComponent 140 = .ok (.iaload, 1) := by decide +kernel
theorem dX6_moveComponent_141 : decode cX6_moveComponent 141 = .ok (.invokevirtual 54, 3) := by decide +kernel
theorem dX6_moveComponent_144 : decode cX6_moveComponent 144 = .ok (.aload_n 1, 1) := by decide +kernel
theorem dX6_moveComponent_145 : decode cX6_moveComponent 145 = .ok (.bipush 9, 2) := by decide +kernel
theorem dX6_moveComponent_147 : decode cX6_moveComponent 147 = .ok (.iload_n 2, 1) := by decide +kernel
theorem dX6_moveComponent_148 : decode cX6_moveComponent 148 = .ok (.aload_n 0, 1) := by decide +kernel
theorem dX6_moveComponent_149 : decode cX6_moveComponent 149 = .ok (.getfield 9, 3) := by decide +kernel
theorem dX6_moveComponent_152 : decode cX6_moveComponent 152 = .ok (.bipush 9, 2) := by decide +kernel
theorem dX6_moveComponent_154 : decode cX6_moveComponent 154 = .ok (.iaload, 1) := by decide +kernel
theorem dX6_moveComponent_155 : decode cX6_moveComponent 155 = .ok (.invokevirtual 54, 3) := by decide +kernel
theorem dX6_moveComponent_158 : decode cX6_moveComponent 158 = .ok (.return_, 1) := by decide +kernel
theorem dX7_init_0 : decode cX7_init 0 = .ok (.aload_n 0, 1) := by decide +kernel
theorem dX7_init_1 : decode cX7_init 1 = .ok (.invokespecial 3, 3) := by decide +kernel
theorem dX7_init_4 : decode cX7_init 4 = .ok (.aload_n 0, 1) := by decide +kernel
theorem dX7_init_5 : decode cX7_init 5 = .ok (.bipush 44, 2) := by decide +kernel
theorem dX7_init_7 : decode cX7_init 7 = .ok (.newarray .int, 2) := by decide +kernel
theorem dX7_init_9 : decode cX7_init 9 = .ok (.putfield 11, 3) := by decide +kernel
theorem dX7_init_12 : decode cX7_init 12 = .ok (.aload_n 0, 1) := by decide +kernel
theorem dX7_init_13 : decode cX7_init 13 = .ok (.getfield 11, 3) := by decide +kernel
theorem dX7_init_16 : decode cX7_init 16 = .ok (.iconst 2, 1) := by decide +kernel
theorem dX7_init_17 : decode cX7_init 17 = .ok (.bipush 100, 2) := by decide +kernel
theorem dX7_init_19 : decode cX7_init 19 = .ok (.iastore, 1) := by decide +kernel
theorem dX7_init_20 : decode cX7_init 20 = .ok (.aload_n 0, 1) := by decide +kernel
theorem dX7_init_21 : decode cX7_init 21 = .ok (.getfield 11, 3) := by decide +kernel
theorem dX7_init_24 : decode cX7_init 24 = .ok (.iconst 3, 1) := by decide +kernel
theorem dX7_init_25 : decode cX7_init 25 = .ok (.sipush 900, 3) := by decide +kernel
theorem dX7_init_28 : decode cX7_init 28 = .ok (.iastore, 1) := by decide +kernel
theorem dX7_init_29 : decode cX7_init 29 = .ok (.return_, 1) := by decide +kernel
theorem dX7_count_0 : decode cX7_count 0 = .ok (.aload_n 0, 1) := by decide +kernel
theorem dX7_count_1 : decode cX7_count 1 = .ok (.getfield 11, 3) := by decide +kernel
theorem dX7_count_4 : decode cX7_count 4 = .ok (.iconst 0, 1) := by decide +kernel
theorem dX7_count_5 : decode cX7_count 5 = .ok (.iaload, 1) := by decide +kernel
theorem dX7_count_6 : decode cX7_count 6 = .ok (.ireturn, 1) := by decide +kernel
theorem dX7_has_0 : decode cX7_has 0 = .ok (.iload_n 1, 1) := by decide +kernel
theorem dX7_has_1 : decode cX7_has 1 = .ok (.ifCond .lt 17, 3) := by decide +kernel
theorem dX7_has_4 : decode cX7_has 4 = .ok (.iload_n 1, 1) := by decide +kernel
theorem dX7_has_5 : decode cX7_has 5 = .ok (.aload_n 0, 1) := by decide +kernel
theorem dX7_has_6 : decode cX7_has 6 = .ok (.getfield 11, 3) := by decide +kernel
theorem dX7_has_9 : decode cX7_has 9 = .ok (.iconst 0, 1) := by decide +kernel
theorem dX7_has_10 : decode cX7_has 10 = .ok (.iaload, 1) := by decide +kernel
theorem dX7_has_11 : decode cX7_has 11 = .ok (.if_icmp .ge 7, 3) := by decide +kernel
theorem dX7_has_14 : decode cX7_has 14 = .ok (.iconst 1, 1) := by decide +kernel
theorem dX7_has_15 : decode cX7_has 15 = .ok (.goto 4, 3) := by decide +kernel
theorem dX7_has_18 : decode cX7_has 18 = .ok (.iconst 0, 1) := by decide +kernel
theorem dX7_has_19 : decode cX7_has 19 = .ok (.ireturn, 1) := by decide +kernel
theorem dX7_percent_0 : decode cX7_percent 0 = .ok (.aload_n 0, 1) := by decide +kernel
theorem dX7_percent_1 : decode cX7_percent 1 = .ok (.getfield 11, 3) := by decide +kernel
theorem dX7_percent_4 : decode cX7_percent 4 = .ok (.iconst 4, 1) := by decide +kernel
theorem dX7_percent_5 : decode cX7_percent 5 = .ok (.iconst 2, 1) := by decide +kernel
theorem dX7_percent_6 : decode cX7_percent 6 = .ok (.iload_n 1, 1) := by decide +kernel
theorem dX7_percent_7 : decode cX7_percent 7 = .ok (.imul, 1) := by decide +kernel
theorem dX7_percent_8 : decode cX7_percent 8 = .ok (.iadd, 1) := by decide +kernel
theorem dX7_percent_9 : decode cX7_percent 9 = .ok (.iload_n 2, 1) := by decide +kernel
theorem dX7_percent_10 : decode cX7_percent 10 = .ok (.iadd, 1) := by decide +kernel
theorem dX7_percent_11 : decode cX7_percent 11 = .ok (.iaload, 1) := by decide +kernel
theorem dX7_percent_12 : decode cX7_percent 12 = .ok (.ireturn, 1) := by decide +kernel
theorem dX7_putPercent_0 : decode cX7_putPercent 0 = .ok (.aload_n 0, 1) := by decide +kernel
theorem dX7_putPercent_1 : decode cX7_putPercent 1 = .ok (.getfield 11, 3) := by decide +kernel
theorem dX7_putPercent_4 : decode cX7_putPercent 4 = .ok (.iconst 4, 1) := by decide +kernel
theorem dX7_putPercent_5 : decode cX7_putPercent 5 = .ok (.iconst 2, 1) := by decide +kernel
theorem dX7_putPercent_6 : decode cX7_putPercent 6 = .ok (.iload_n 1, 1) := by decide +kernel
theorem dX7_putPercent_7 : decode cX7_putPercent 7 = .ok (.imul, 1) := by decide +kernel
theorem dX7_putPercent_8 : decode cX7_putPercent 8 = .ok (.iadd, 1) := by decide +kernel
theorem dX7_putPercent_9 : decode cX7_putPercent 9 = .ok (.iload_n 2, 1) := by decide +kernel
theorem dX7_putPercent_10 : decode cX7_putPercent 10 = .ok (.iadd, 1) := by decide +kernel
theorem dX7_putPercent_11 : decode cX7_putPercent 11 = .ok (.iload_n 3, 1) := by decide +kernel
theorem dX7_putPercent_12 : decode cX7_putPercent 12 = .ok (.iastore, 1) := by decide +kernel
theorem dX7_putPercent_13 : decode cX7_putPercent 13 = .ok (.return_, 1) := by decide +kernel
theorem dX7_carried_0 : decode cX7_carried 0 = .ok (.aload_n 0, 1) := by decide +kernel
theorem dX7_carried_1 : decode cX7_carried 1 = .ok (.iload_n 1, 1) := by decide +kernel
theorem dX7_carried_2 : decode cX7_carried 2 = .ok (.iload_n 2, 1) := by decide +kernel
theorem dX7_carried_3 : decode cX7_carried 3 = .ok (.invokevirtual 15, 3) := by decide +kernel
theorem dX7_carried_6 : decode cX7_carried 6 = .ok (.istore 4, 2) := by decide +kernel
theorem dX7_carried_8 : decode cX7_carried 8 = .ok (.iload_n 3, 1) := by decide +kernel
theorem dX7_carried_9 : decode cX7_carried 9 = .ok (.ifCond .ne 8, 3) := by decide +kernel
theorem dX7_carried_12 : decode cX7_carried 12 = .ok (.iload 4, 2) := by decide +kernel
theorem dX7_carried_14 : decode cX7_carried 14 = .ok (.goto 8, 3) := by decide +kernel
theorem dX7_carried_17 : decode cX7_carried 17 = .ok (.bipush 100, 2) := by decide +kernel
theorem dX7_carried_19 : decode cX7_carried 19 = .ok (.iload 4, 2) := by decide +kernel
theorem dX7_carried_21 : decode cX7_carried 21 = .ok (.isub, 1) := by decide +kernel
theorem dX7_carried_22 : decode cX7_carried 22 = .ok (.ireturn, 1) := by decide +kernel
theorem dX7_route_0 : decode cX7_route 0 = .ok (.aload_n 0, 1) := by decide +kernel
theorem dX7_route_1 : decode cX7_route 1 = .ok (.getfield 11, 3) := by decide +kernel
theorem dX7_route_4 : decode cX7_route 4 = .ok (.bipush 16, 2) := by decide +kernel
theorem dX7_route_6 : decode cX7_route 6 = .ok (.iconst 2, 1) := by decide +kernel
theorem dX7_route_7 : decode cX7_route 7 = .ok (.iload_n 1, 1) := by decide +kernel
theorem dX7_route_8 : decode cX7_route 8 = .ok (.imul, 1) := by decide +kernel
theorem dX7_route_9 : decode cX7_route 9 = .ok (.iadd, 1) := by decide +kernel
theorem dX7_route_10 : decode cX7_route 10 = .ok (.iload_n 2, 1) := by decide +kernel
theorem dX7_route_11 : decode cX7_route 11 = .ok (.iadd, 1) := by decide +kernel
theorem dX7_route_12 : decode cX7_route 12 = .ok (.iaload, 1) := by decide +kernel
theorem dX7_route_13 : decode cX7_route 13 = .ok (.ireturn, 1) := by decide +kernel
theorem dX7_putRoute_0 : decode cX7_putRoute 0 = .ok (.aload_n 0, 1) := by decide +kernel
theorem dX7_putRoute_1 : decode cX7_putRoute 1 = .ok (.getfield 11, 3) := by decide +kernel
theorem dX7_putRoute_4 : decode cX7_putRoute 4 = .ok (.bipush 16, 2) := by decide +kernel
theorem dX7_putRoute_6 : decode cX7_putRoute 6 = .ok (.iconst 2, 1) := by decide +kernel
theorem dX7_putRoute_7 : decode cX7_putRoute 7 = .ok (.iload_n 1, 1) := by decide +kernel
theorem dX7_putRoute_8 : decode cX7_putRoute 8 = .ok (.imul, 1) := by decide +kernel
theorem dX7_putRoute_9 : decode cX7_putRoute 9 = .ok (.iadd, 1) := by decide +kernel
theorem dX7_putRoute_10 : decode cX7_putRoute 10 = .ok (.iload_n 2, 1) := by decide +kernel
theorem dX7_putRoute_11 : decode cX7_putRoute 11 = .ok (.iadd, 1) := by decide +kernel
theorem dX7_putRoute_12 : decode cX7_putRoute 12 = .ok (.iload_n 3, 1) := by decide +kernel
theorem dX7_putRoute_13 : decode cX7_putRoute 13 = .ok (.iastore, 1) := by decide +kernel
theorem dX7_putRoute_14 : decode cX7_putRoute 14 = .ok (.return_, 1) := by decide +kernel
theorem dX7_target_0 : decode cX7_target 0 = .ok (.aload_n 0, 1) := by decide +kernel
theorem dX7_target_1 : decode cX7_target 1 = .ok (.aload_n 0, 1) := by decide +kernel
theorem dX7_target_2 : decode cX7_target 2 = .ok (.iload_n 1, 1) := by decide +kernel
theorem dX7_target_3 : decode cX7_target 3 = .ok (.iload_n 2, 1) := by decide +kernel
theorem dX7_target_4 : decode cX7_target 4 = .ok (.invokevirtual 19, 3) := by decide +kernel
theorem dX7_target_7 : decode cX7_target 7 = .ok (.invokevirtual 22, 3) := by decide +kernel
theorem dX7_target_10 : decode cX7_target 10 = .ok (.ireturn, 1) := by decide +kernel
theorem dX7_fedCell_0 : decode cX7_fedCell 0 = .ok (.aload_n 0, 1) := by decide +kernel
theorem dX7_fedCell_1 : decode cX7_fedCell 1 = .ok (.getfield 11, 3) := by decide +kernel
theorem dX7_fedCell_4 : decode cX7_fedCell 4 = .ok (.iconst 1, 1) := by decide +kernel
theorem dX7_fedCell_5 : decode cX7_fedCell 5 = .ok (.iaload, 1) := by decide +kernel
theorem dX7_fedCell_6 : decode cX7_fedCell 6 = .ok (.ireturn, 1) := by decide +kernel
theorem dX7_feedTarget_0 : decode cX7_feedTarget 0 = .ok (.aload_n 0, 1) := by decide +kernel
theorem dX7_feedTarget_1 : decode cX7_feedTarget 1 = .ok (.aload_n 0, 1) := by decide +kernel
theorem dX7_feedTarget_2 : decode cX7_feedTarget 2 = .ok (.getfield 11, 3) := by decide +kernel
theorem dX7_feedTarget_5 : decode cX7_feedTarget 5 = .ok (.iconst 1, 1) := by decide +kernel
theorem dX7_feedTarget_6 : decode cX7_feedTarget 6 = .ok (.iaload, 1) := by decide +kernel
theorem dX7_feedTarget_7 : decode cX7_feedTarget 7 = .ok (.invokevirtual 22, 3) := by decide +kernel
theorem dX7_feedTarget_10 : decode cX7_feedTarget 10 = .ok (.ireturn, 1) := by decide +kernel
theorem dX7_present_0 : decode cX7_present 0 = .ok (.iload_n 1, 1) := by decide +kernel
theorem dX7_present_1 : decode cX7_present 1 = .ok (.ifCond .lt 17, 3) := by decide +kernel
theorem dX7_present_4 : decode cX7_present 4 = .ok (.iload_n 1, 1) := by decide +kernel
theorem dX7_present_5 : decode cX7_present 5 = .ok (.aload_n 0, 1) := by decide +kernel
theorem dX7_present_6 : decode cX7_present 6 = .ok (.getfield 11, 3) := by decide +kernel
theorem dX7_present_9 : decode cX7_present 9 = .ok (.iconst 0, 1) := by decide +kernel
theorem dX7_present_10 : decode cX7_present 10 = .ok (.iaload, 1) := by decide +kernel
theorem dX7_present_11 : decode cX7_present 11 = .ok (.if_icmp .ge 7, 3) := by decide +kernel
theorem dX7_present_14 : decode cX7_present 14 = .ok (.iconst 1, 1) := by decide +kernel
theorem dX7_present_15 : decode cX7_present 15 = .ok (.goto 4, 3) := by decide +kernel
theorem dX7_present_18 : decode cX7_present 18 = .ok (.iconst 0, 1) := by decide +kernel
theorem dX7_present_19 : decode cX7_present 19 = .ok (.istore_n 2, 1) := by decide +kernel
theorem dX7_present_20 : decode cX7_present 20 = .ok (.iload_n 2, 1) := by decide +kernel
theorem dX7_present_21 : decode cX7_present 21 = .ok (.ifCond .ne 9, 3) := by decide +kernel
theorem dX7_present_24 : decode cX7_present 24 = .ok (.iload_n 1, 1) := by decide +kernel
theorem dX7_present_25 : decode cX7_present 25 = .ok (.bipush 8, 2) := by decide +kernel
theorem dX7_present_27 : decode cX7_present 27 = .ok (.if_icmp .ne 7, 3) := by decide +kernel
theorem dX7_present_30 : decode cX7_present 30 = .ok (.iload_n 1, 1) := by decide +kernel
theorem dX7_present_31 : decode cX7_present 31 = .ok (.goto 5, 3) := by decide +kernel
theorem dX7_present_34 : decode cX7_present 34 = .ok (.bipush 9, 2) := by decide +kernel
theorem dX7_present_36 : decode cX7_present 36 = .ok (.ireturn, 1) := by decide +kernel
theorem dX7_feed_0 : decode cX7_feed 0 = .ok (.aload_n 0, 1) := by decide +kernel
theorem dX7_feed_1 : decode cX7_feed 1 = .ok (.getfield 11, 3) := by decide +kernel
theorem dX7_feed_4 : decode cX7_feed 4 = .ok (.iconst 2, 1) := by decide +kernel
theorem dX7_feed_5 : decode cX7_feed 5 = .ok (.iload_n 1, 1) := by decide +kernel
theorem dX7_feed_6 : decode cX7_feed 6 = .ok (.iadd, 1) := by decide +kernel
theorem dX7_feed_7 : decode cX7_feed 7 = .ok (.iaload, 1) := by decide +kernel
theorem dX7_feed_8 : decode cX7_feed 8 = .ok (.ireturn, 1) := by decide +kernel
theorem dX7_putFeed_0 : decode cX7_putFeed 0 = .ok (.aload_n 0, 1) := by decide +kernel
theorem dX7_putFeed_1 : decode cX7_putFeed 1 = .ok (.getfield 11, 3) := by decide +kernel
theorem dX7_putFeed_4 : decode cX7_putFeed 4 = .ok (.iconst 1, 1) := by decide +kernel
theorem dX7_putFeed_5 : decode cX7_putFeed 5 = .ok (.iload_n 1, 1) := by decide +kernel
theorem dX7_putFeed_6 : decode cX7_putFeed 6 = .ok (.iastore, 1) := by decide +kernel
theorem dX7_putFeed_7 : decode cX7_putFeed 7 = .ok (.aload_n 0, 1) := by decide +kernel
theorem dX7_putFeed_8 : decode cX7_putFeed 8 = .ok (.getfield 11, 3) := by decide +kernel
theorem dX7_putFeed_11 : decode cX7_putFeed 11 = .ok (.iconst 2, 1) := by decide +kernel
theorem dX7_putFeed_12 : decode cX7_putFeed 12 = .ok (.iload_n 2, 1) := by decide +kernel
theorem dX7_putFeed_13 : decode cX7_putFeed 13 = .ok (.iastore, 1) := by decide +kernel
theorem dX7_putFeed_14 : decode cX7_putFeed 14 = .ok (.aload_n 0, 1) := by decide +kernel
theorem dX7_putFeed_15 : decode cX7_putFeed 15 = .ok (.getfield 11, 3) := by decide +kernel
theorem dX7_putFeed_18 : decode cX7_putFeed 18 = .ok (.iconst 3, 1) := by decide +kernel
theorem dX7_putFeed_19 : decode cX7_putFeed 19 = .ok (.iload_n 3, 1) := by decide +kernel
theorem dX7_putFeed_20 : decode cX7_putFeed 20 = .ok (.iastore, 1) := by decide +kernel
theorem dX7_putFeed_21 : decode cX7_putFeed 21 = .ok (.return_, 1) := by decide +kernel
theorem dX7_held_0 : decode cX7_held 0 = .ok (.aload_n 0, 1) := by decide +kernel
theorem dX7_held_1 : decode cX7_held 1 = .ok (.getfield 11, 3) := by decide +kernel
theorem dX7_held_4 : decode cX7_held 4 = .ok (.bipush 28, 2) := by decide +kernel
theorem dX7_held_6 : decode cX7_held 6 = .ok (.iconst 2, 1) := by decide +kernel
theorem dX7_held_7 : decode cX7_held 7 = .ok (.iload_n 1, 1) := by decide +kernel
theorem dX7_held_8 : decode cX7_held 8 = .ok (.imul, 1) := by decide +kernel
theorem dX7_held_9 : decode cX7_held 9 = .ok (.iadd, 1) := by decide +kernel
theorem dX7_held_10 : decode cX7_held 10 = .ok (.iload_n 2, 1) := by decide +kernel
theorem dX7_held_11 : decode cX7_held 11 = .ok (.iadd, 1) := by decide +kernel
theorem dX7_held_12 : decode cX7_held 12 = .ok (.iaload, 1) := by decide +kernel
theorem dX7_held_13 : decode cX7_held 13 = .ok (.ireturn, 1) := by decide +kernel
theorem dX7_putHeld_0 : decode cX7_putHeld 0 = .ok (.aload_n 0, 1) := by decide +kernel
theorem dX7_putHeld_1 : decode cX7_putHeld 1 = .ok (.getfield 11, 3) := by decide +kernel
theorem dX7_putHeld_4 : decode cX7_putHeld 4 = .ok (.bipush 28, 2) := by decide +kernel
theorem dX7_putHeld_6 : decode cX7_putHeld 6 = .ok (.iconst 2, 1) := by decide +kernel
theorem dX7_putHeld_7 : decode cX7_putHeld 7 = .ok (.iload_n 1, 1) := by decide +kernel
theorem dX7_putHeld_8 : decode cX7_putHeld 8 = .ok (.imul, 1) := by decide +kernel
theorem dX7_putHeld_9 : decode cX7_putHeld 9 = .ok (.iadd, 1) := by decide +kernel
theorem dX7_putHeld_10 : decode cX7_putHeld 10 = .ok (.iload_n 2, 1) := by decide +kernel
theorem dX7_putHeld_11 : decode cX7_putHeld 11 = .ok (.iadd, 1) := by decide +kernel
theorem dX7_putHeld_12 : decode cX7_putHeld 12 = .ok (.iload_n 3, 1) := by decide +kernel
theorem dX7_putHeld_13 : decode cX7_putHeld 13 = .ok (.iastore, 1) := by decide +kernel
theorem dX7_putHeld_14 : decode cX7_putHeld 14 = .ok (.return_, 1) := by decide +kernel
theorem dX7_collected_0 : decode cX7_collected 0 = .ok (.aload_n 0, 1) := by decide +kernel
theorem dX7_collected_1 : decode cX7_collected 1 = .ok (.getfield 11, 3) := by decide +kernel
theorem dX7_collected_4 : decode cX7_collected 4 = .ok (.bipush 40, 2) := by decide +kernel
theorem dX7_collected_6 : decode cX7_collected 6 = .ok (.iconst 2, 1) := by decide +kernel
theorem dX7_collected_7 : decode cX7_collected 7 = .ok (.iload_n 1, 1) := by decide +kernel
theorem dX7_collected_8 : decode cX7_collected 8 = .ok (.bipush 8, 2) := by decide +kernel
theorem dX7_collected_10 : decode cX7_collected 10 = .ok (.isub, 1) := by decide +kernel
theorem dX7_collected_11 : decode cX7_collected 11 = .ok (.imul, 1) := by decide +kernel
theorem dX7_collected_12 : decode cX7_collected 12 = .ok (.iadd, 1) := by decide +kernel
theorem dX7_collected_13 : decode cX7_collected 13 = .ok (.iload_n 2, 1) := by decide +kernel
theorem dX7_collected_14 : decode cX7_collected 14 = .ok (.iadd, 1) := by decide +kernel
theorem dX7_collected_15 : decode cX7_collected 15 = .ok (.iaload, 1) := by decide +kernel
theorem dX7_collected_16 : decode cX7_collected 16 = .ok (.ireturn, 1) := by decide +kernel
theorem dX7_collect_0 : decode cX7_collect 0 = .ok (.aload_n 0, 1) := by decide +kernel
theorem dX7_collect_1 : decode cX7_collect 1 = .ok (.getfield 11, 3) := by decide +kernel
theorem dX7_collect_4 : decode cX7_collect 4 = .ok (.bipush 40, 2) := by decide +kernel
theorem dX7_collect_6 : decode cX7_collect 6 = .ok (.iconst 2, 1) := by decide +kernel
theorem dX7_collect_7 : decode cX7_collect 7 = .ok (.iload_n 1, 1) := by decide +kernel
theorem dX7_collect_8 : decode cX7_collect 8 = .ok (.bipush 8, 2) := by decide +kernel
theorem dX7_collect_10 : decode cX7_collect 10 = .ok (.isub, 1) := by decide +kernel
theorem dX7_collect_11 : decode cX7_collect 11 = .ok (.imul, 1) := by decide +kernel
theorem dX7_collect_12 : decode cX7_collect 12 = .ok (.iadd, 1) := by decide +kernel
theorem dX7_collect_13 : decode cX7_collect 13 = .ok (.iload_n 2, 1) := by decide +kernel
theorem dX7_collect_14 : decode cX7_collect 14 = .ok (.iadd, 1) := by decide +kernel
theorem dX7_collect_15 : decode cX7_collect 15 = .ok (.dup2, 1) := by decide +kernel
theorem dX7_collect_16 : decode cX7_collect 16 = .ok (.iaload, 1) := by decide +kernel
theorem dX7_collect_17 : decode cX7_collect 17 = .ok (.iload_n 3, 1) := by decide +kernel
theorem dX7_collect_18 : decode cX7_collect 18 = .ok (.iadd, 1) := by decide +kernel
theorem dX7_collect_19 : decode cX7_collect 19 = .ok (.iastore, 1) := by decide +kernel
theorem dX7_collect_20 : decode cX7_collect 20 = .ok (.return_, 1) := by decide +kernel
theorem dX7_pushCell_0 : decode cX7_pushCell 0 = .ok (.aload_n 0, 1) := by decide +kernel
theorem dX7_pushCell_1 : decode cX7_pushCell 1 = .ok (.getfield 11, 3) := by decide +kernel
theorem dX7_pushCell_4 : decode cX7_pushCell 4 = .ok (.iconst 0, 1) := by decide +kernel
theorem dX7_pushCell_5 : decode cX7_pushCell 5 = .ok (.iaload, 1) := by decide +kernel
theorem dX7_pushCell_6 : decode cX7_pushCell 6 = .ok (.istore 5, 2) := by decide +kernel
theorem dX7_pushCell_8 : decode cX7_pushCell 8 = .ok (.iload 5, 2) := by decide +kernel
theorem dX7_pushCell_10 : decode cX7_pushCell 10 = .ok (.bipush 6, 2) := by decide +kernel
theorem dX7_pushCell_12 : decode cX7_pushCell 12 = .ok (.if_icmp .lt 4, 3) := by decide +kernel
theorem dX7_pushCell_15 : decode cX7_pushCell 15 = .ok (.return_, 1) := by decide +kernel
theorem dX7_pushCell_16 : decode cX7_pushCell 16 = .ok (.aload_n 0, 1) := by decide +kernel
theorem dX7_pushCell_17 : decode cX7_pushCell 17 = .ok (.iload 5, 2) := by decide +kernel
theorem dX7_pushCell_19 : decode cX7_pushCell 19 = .ok (.iconst 0, 1) := by decide +kernel
theorem dX7_pushCell_20 : decode cX7_pushCell 20 = .ok (.iload_n 1, 1) := by decide +kernel
theorem dX7_pushCell_21 : decode cX7_pushCell 21 = .ok (.invokevirtual 26, 3) := by decide +kernel
theorem dX7_pushCell_24 : decode cX7_pushCell 24 = .ok (.aload_n 0, 1) := by decide +kernel
theorem dX7_pushCell_25 : decode cX7_pushCell 25 = .ok (.iload 5, 2) := by decide +kernel
theorem dX7_pushCell_27 : decode cX7_pushCell 27 = .ok (.iconst 1, 1) := by decide +kernel
theorem dX7_pushCell_28 : decode cX7_pushCell 28 = .ok (.iload_n 2, 1) := by decide +kernel
theorem dX7_pushCell_29 : decode cX7_pushCell 29 = .ok (.invokevirtual 26, 3) := by decide +kernel
theorem dX7_pushCell_32 : decode cX7_pushCell 32 = .ok (.aload_n 0, 1) := by decide +kernel
theorem dX7_pushCell_33 : decode cX7_pushCell 33 = .ok (.iload 5, 2) := by decide +kernel
theorem dX7_pushCell_35 : decode cX7_pushCell 35 = .ok (.iconst 0, 1) := by decide +kernel
theorem dX7_pushCell_36 : decode cX7_pushCell 36 = .ok (.iload_n 3, 1) := by decide +kernel
theorem dX7_pushCell_37 : decode cX7_pushCell 37 = .ok (.invokevirtual 30, 3) := by decide +kernel
theorem dX7_pushCell_40 : decode cX7_pushCell 40 = .ok (.aload_n 0, 1) := by decide +kernel
theorem dX7_pushCell_41 : decode cX7_pushCell 41 = .ok (.iload 5, 2) := by decide +kernel
theorem dX7_pushCell_43 : decode cX7_pushCell 43 = .ok (.iconst 1, 1) := by decide +kernel
theorem dX7_pushCell_44 : decode cX7_pushCell 44 = .ok (.iload 4, 2) := by decide +kernel
theorem dX7_pushCell_46 : decode cX7_pushCell 46 = .ok (.invokevirtual 30, 3) := by decide +kernel
theorem dX7_pushCell_49 : decode cX7_pushCell 49 = .ok (.aload_n 0, 1) := by decide +kernel
theorem dX7_pushCell_50 : decode cX7_pushCell 50 = .ok (.iload 5, 2) := by decide +kernel
theorem dX7_pushCell_52 : decode cX7_pushCell 52 = .ok (.iconst 0, 1) := by decide +kernel
theorem dX7_pushCell_53 : decode cX7_pushCell 53 = .ok (.iconst 0, 1) := by decide +kernel
theorem dX7_pushCell_54 : decode cX7_pushCell 54 = .ok (.invokevirtual 33, 3) := by decide +kernel
theorem dX7_pushCell_57 : decode cX7_pushCell 57 = .ok (.aload_n 0, 1) := by decide +kernel
theorem dX7_pushCell_58 : decode cX7_pushCell 58 = .ok (.iload 5, 2) := by decide +kernel
theorem dX7_pushCell_60 : decode cX7_pushCell 60 = .ok (.iconst 1, 1) := by decide +kernel
theorem dX7_pushCell_61 : decode cX7_pushCell 61 = .ok (.iconst 0, 1) := by decide +kernel
theorem dX7_pushCell_62 : decode cX7_pushCell 62 = .ok (.invokevirtual 33, 3) := by decide +kernel
theorem dX7_pushCell_65 : decode cX7_pushCell 65 = .ok (.aload_n 0, 1) := by decide +kernel
theorem dX7_pushCell_66 : decode cX7_pushCell 66 = .ok (.getfield 11, 3) := by decide +kernel
theorem dX7_pushCell_69 : decode cX7_pushCell 69 = .ok (.iconst 0, 1) := by decide +kernel
theorem dX7_pushCell_70 : decode cX7_pushCell 70 = .ok (.iload 5, 2) := by decide +kernel
theorem dX7_pushCell_72 : decode cX7_pushCell 72 = .ok (.iconst 1, 1) := by decide +kernel
theorem dX7_pushCell_73 : decode cX7_pushCell 73 = .ok (.iadd, 1) := by decide +kernel
theorem dX7_pushCell_74 : decode cX7_pushCell 74 = .ok (.iastore, 1) := by decide +kernel
theorem dX7_pushCell_75 : decode cX7_pushCell 75 = .ok (.return_, 1) := by decide +kernel
theorem dX7_popCell_0 : decode cX7_popCell 0 = .ok (.aload_n 0, 1) := by decide +kernel
theorem dX7_popCell_1 : decode cX7_popCell 1 = .ok (.getfield 11, 3) := by decide +kernel
theorem dX7_popCell_4 : decode cX7_popCell 4 = .ok (.iconst 0, 1) := by decide +kernel
theorem dX7_popCell_5 : decode cX7_popCell 5 = .ok (.iaload, 1) := by decide +kernel
theorem dX7_popCell_6 : decode cX7_popCell 6 = .ok (.ifCond .le 13, 3) := by decide +kernel
theorem dX7_popCell_9 : decode cX7_popCell 9 = .ok (.aload_n 0, 1) := by decide +kernel
theorem dX7_popCell_10 : decode cX7_popCell 10 = .ok (.getfield 11, 3) := by decide +kernel
theorem dX7_popCell_13 : decode cX7_popCell 13 = .ok (.iconst 0, 1) := by decide +kernel
theorem dX7_popCell_14 : decode cX7_popCell 14 = .ok (.dup2, 1) := by decide +kernel
theorem dX7_popCell_15 : decode cX7_popCell 15 = .ok (.iaload, 1) := by decide +kernel
theorem dX7_popCell_16 : decode cX7_popCell 16 = .ok (.iconst 1, 1) := by decide +kernel
theorem dX7_popCell_17 : decode cX7_popCell 17 = .ok (.isub, 1) := by decide +kernel
theorem dX7_popCell_18 : decode cX7_popCell 18 = .ok (.iastore, 1) := by decide +kernel
theorem dX7_popCell_19 : decode cX7_popCell 19 = .ok (.return_, 1) := by decide +kernel
theorem dX7_dropCells_0 : decode cX7_dropCells 0 = .ok (.aload_n 0, 1) := by decide +kernel
theorem dX7_dropCells_1 : decode cX7_dropCells 1 = .ok (.getfield 11, 3) := by decide +kernel
theorem dX7_dropCells_4 : decode cX7_dropCells 4 = .ok (.iconst 0, 1) := by decide +kernel
theorem dX7_dropCells_5 : decode cX7_dropCells 5 = .ok (.iconst 0, 1) := by decide +kernel
theorem dX7_dropCells_6 : decode cX7_dropCells 6 = .ok (.iastore, 1) := by decide +kernel
theorem dX7_dropCells_7 : decode cX7_dropCells 7 = .ok (.return_, 1) := by decide +kernel
theorem dX7_sumOfContents_0 : decode cX7_sumOfContents 0 = .ok (.iconst 0, 1) := by decide +kernel
theorem dX7_sumOfContents_1 : decode cX7_sumOfContents 1 = .ok (.istore_n 1, 1) := by decide +kernel
theorem dX7_sumOfContents_2 : decode cX7_sumOfContents 2 = .ok (.iconst 0, 1) := by decide +kernel
theorem dX7_sumOfContents_3 : decode cX7_sumOfContents 3 = .ok (.istore_n 2, 1) := by decide +kernel
theorem dX7_sumOfContents_4 : decode cX7_sumOfContents 4 = .ok (.iload_n 2, 1) := by decide +kernel
theorem dX7_sumOfContents_5 : decode cX7_sumOfContents 5 = .ok (.aload_n 0, 1) := by decide +kernel
theorem dX7_sumOfContents_6 : decode cX7_sumOfContents 6 = .ok (.getfield 11, 3) := by decide +kernel
theorem dX7_sumOfContents_9 : decode cX7_sumOfContents 9 = .ok (.iconst 0, 1) := by decide +kernel
theorem dX7_sumOfContents_10 : decode cX7_sumOfContents 10 = .ok (.iaload, 1) := by decide +kernel
theorem dX7_sumOfContents_11 : decode cX7_sumOfContents 11 = .ok (.if_icmp .ge 25, 3) := by decide +kernel
theorem dX7_sumOfContents_14 : decode cX7_sumOfContents 14 = .ok (.iload_n 1, 1) := by decide +kernel
theorem dX7_sumOfContents_15 : decode cX7_sumOfContents 15 = .ok (.aload_n 0, 1) := by decide +kernel
theorem dX7_sumOfContents_16 : decode cX7_sumOfContents 16 = .ok (.iload_n 2, 1) := by decide +kernel
theorem dX7_sumOfContents_17 : decode cX7_sumOfContents 17 = .ok (.iconst 0, 1) := by decide +kernel
theorem dX7_sumOfContents_18 : decode cX7_sumOfContents 18 = .ok (.invokevirtual 36, 3) := by decide +kernel
theorem dX7_sumOfContents_21 : decode cX7_sumOfContents 21 = .ok (.aload_n 0, 1) := by decide +kernel
theorem dX7_sumOfContents_22 : decode cX7_sumOfContents 22 = .ok (.iload_n 2, 1) := by decide +kernel
theorem dX7_sumOfContents_23 : decode cX7_sumOfContents 23 = .ok (.iconst 1, 1) := by decide +kernel
theorem dX7_sumOfContents_24 : decode cX7_sumOfContents 24 = .ok (.invokevirtual 36, 3) := by decide +kernel
theorem dX7_sumOfContents_27 : decode cX7_sumOfContents 27 = .ok (.iadd, 1) := by decide +kernel
theorem dX7_sumOfContents_28 : decode cX7_sumOfContents 28 = .ok (.iadd, 1) := by decide +kernel
theorem dX7_sumOfContents_29 : decode cX7_sumOfContents 29 = .ok (.istore_n 1, 1) := by decide +kernel
theorem dX7_sumOfContents_30 : decode cX7_sumOfContents 30 = .ok (.iinc 2 1, 3) := by decide +kernel
theorem dX7_sumOfContents_33 : decode cX7_sumOfContents 33 = .ok (.goto (-29), 3) := by decide +kernel
theorem dX7_sumOfContents_36 : decode cX7_sumOfContents 36 = .ok (.iload_n 1, 1) := by decide +kernel
theorem dX7_sumOfContents_37 : decode cX7_sumOfContents 37 = .ok (.ireturn, 1) := by decide +kernel
theorem dX7_emptyAll_0 : decode cX7_emptyAll 0 = .ok (.bipush 28, 2) := by decide +kernel
theorem dX7_emptyAll_2 : decode cX7_emptyAll 2 = .ok (.istore_n 1, 1) := by decide +kernel
theorem dX7_emptyAll_3 : decode cX7_emptyAll 3 = .ok (.iload_n 1, 1) := by decide +kernel
theorem dX7_emptyAll_4 : decode cX7_emptyAll 4 = .ok (.bipush 44, 2) := by decide +kernel
theorem dX7_emptyAll_6 : decode cX7_emptyAll 6 = .ok (.if_icmp .ge 16, 3) := by decide +kernel
theorem dX7_emptyAll_9 : decode cX7_emptyAll 9 = .ok (.aload_n 0, 1) := by decide +kernel
theorem dX7_emptyAll_10 : decode cX7_emptyAll 10 = .ok (.getfield 11, 3) := by decide +kernel
theorem dX7_emptyAll_13 : decode cX7_emptyAll 13 = .ok (.iload_n 1, 1) := by decide +kernel
theorem dX7_emptyAll_14 : decode cX7_emptyAll 14 = .ok (.iconst 0, 1) := by decide +kernel
theorem dX7_emptyAll_15 : decode cX7_emptyAll 15 = .ok (.iastore, 1) := by decide +kernel
theorem dX7_emptyAll_16 : decode cX7_emptyAll 16 = .ok (.iinc 1 1, 3) := by decide +kernel
theorem dX7_emptyAll_19 : decode cX7_emptyAll 19 = .ok (.goto (-16), 3) := by decide +kernel
theorem dX7_emptyAll_22 : decode cX7_emptyAll 22 = .ok (.return_, 1) := by decide +kernel
theorem dX7_copyFrom_0 : decode cX7_copyFrom 0 = .ok (.aload_n 1, 1) := by decide +kernel
theorem dX7_copyFrom_1 : decode cX7_copyFrom 1 = .ok (.getfield 11, 3) := by decide +kernel
theorem dX7_copyFrom_4 : decode cX7_copyFrom 4 = .ok (.iconst 0, 1) := by decide +kernel
theorem dX7_copyFrom_5 : decode cX7_copyFrom 5 = .ok (.aload_n 0, 1) := by decide +kernel
theorem dX7_copyFrom_6 : decode cX7_copyFrom 6 = .ok (.getfield 11, 3) := by decide +kernel
theorem dX7_copyFrom_9 : decode cX7_copyFrom 9 = .ok (.iconst 0, 1) := by decide +kernel
theorem dX7_copyFrom_10 : decode cX7_copyFrom 10 = .ok (.bipush 44, 2) := by decide +kernel
theorem dX7_copyFrom_12 : decode cX7_copyFrom 12 = .ok (.invokestatic 39, 3) := by decide +kernel
theorem dX7_copyFrom_15 : decode cX7_copyFrom 15 = .ok (.return_, 1) := by decide +kernel
theorem dX8_init_0 : decode cX8_init 0 = .ok (.aload_n 0, 1) := by decide +kernel
theorem dX8_init_1 : decode cX8_init 1 = .ok (.invokespecial 1, 3) := by decide +kernel
theorem dX8_init_4 : decode cX8_init 4 = .ok (.aload_n 0, 1) := by decide +kernel
theorem dX8_init_5 : decode cX8_init 5 = .ok (.iload_n 1, 1) := by decide +kernel
theorem dX8_init_6 : decode cX8_init 6 = .ok (.iconst 0, 1) := by decide +kernel
theorem dX8_init_7 : decode cX8_init 7 = .ok (.invokestatic 7, 3) := by decide +kernel
theorem dX8_init_10 : decode cX8_init 10 = .ok (.putfield 13, 3) := by decide +kernel
theorem dX8_init_13 : decode cX8_init 13 = .ok (.aload_n 0, 1) := by decide +kernel
theorem dX8_init_14 : decode cX8_init 14 = .ok (.aload_n 0, 1) := by decide +kernel
theorem dX8_init_15 : decode cX8_init 15 = .ok (.getfield 13, 3) := by decide +kernel
theorem dX8_init_18 : decode cX8_init 18 = .ok (.bipush 44, 2) := by decide +kernel
theorem dX8_init_20 : decode cX8_init 20 = .ok (.imul, 1) := by decide +kernel
theorem dX8_init_21 : decode cX8_init 21 = .ok (.newarray .int, 2) := by decide +kernel
theorem dX8_init_23 : decode cX8_init 23 = .ok (.putfield 21, 3) := by decide +kernel
theorem dX8_init_26 : decode cX8_init 26 = .ok (.return_, 1) := by decide +kernel
theorem dX8_put_0 : decode cX8_put 0 = .ok (.iload_n 1, 1) := by decide +kernel
theorem dX8_put_1 : decode cX8_put 1 = .ok (.ifCond .lt 29, 3) := by decide +kernel
theorem dX8_put_4 : decode cX8_put 4 = .ok (.iload_n 1, 1) := by decide +kernel
theorem dX8_put_5 : decode cX8_put 5 = .ok (.aload_n 0, 1) := by decide +kernel
theorem dX8_put_6 : decode cX8_put 6 = .ok (.getfield 13, 3) := by decide +kernel
theorem dX8_put_9 : decode cX8_put 9 = .ok (.if_icmp .ge 21, 3) := by decide +kernel
theorem dX8_put_12 : decode cX8_put 12 = .ok (.aload_n 2, 1) := by decide +kernel
theorem dX8_put_13 : decode cX8_put 13 = .ok (.getfield 25, 3) := by decide +kernel
theorem dX8_put_16 : decode cX8_put 16 = .ok (.iconst 0, 1) := by decide +kernel
theorem dX8_put_17 : decode cX8_put 17 = .ok (.aload_n 0, 1) := by decide +kernel
theorem dX8_put_18 : decode cX8_put 18 = .ok (.getfield 21, 3) := by decide +kernel
theorem dX8_put_21 : decode cX8_put 21 = .ok (.iload_n 1, 1) := by decide +kernel
theorem dX8_put_22 : decode cX8_put 22 = .ok (.bipush 44, 2) := by decide +kernel
theorem dX8_put_24 : decode cX8_put 24 = .ok (.imul, 1) := by decide +kernel
theorem dX8_put_25 : decode cX8_put 25 = .ok (.bipush 44, 2) := by decide +kernel
theorem dX8_put_27 : decode cX8_put 27 = .ok (.invokestatic 26, 3) := by decide +kernel
theorem dX8_put_30 : decode cX8_put 30 = .ok (.return_, 1) := by decide +kernel
theorem dX8_fetch_0 : decode cX8_fetch 0 = .ok (.iload_n 1, 1) := by decide +kernel
theorem dX8_fetch_1 : decode cX8_fetch 1 = .ok (.ifCond .lt 29, 3) := by decide +kernel
theorem dX8_fetch_4 : decode cX8_fetch 4 = .ok (.iload_n 1, 1) := by decide +kernel
theorem dX8_fetch_5 : decode cX8_fetch 5 = .ok (.aload_n 0, 1) := by decide +kernel
theorem dX8_fetch_6 : decode cX8_fetch 6 = .ok (.getfield 13, 3) := by decide +kernel
theorem dX8_fetch_9 : decode cX8_fetch 9 = .ok (.if_icmp .ge 21, 3) := by decide +kernel
theorem dX8_fetch_12 : decode cX8_fetch 12 = .ok (.aload_n 0, 1) := by decide +kernel
theorem dX8_fetch_13 : decode cX8_fetch 13 = .ok (.getfield 21, 3) := by decide +kernel
theorem dX8_fetch_16 : decode cX8_fetch 16 = .ok (.iload_n 1, 1) := by decide +kernel
theorem dX8_fetch_17 : decode cX8_fetch 17 = .ok (.bipush 44, 2) := by decide +kernel
theorem dX8_fetch_19 : decode cX8_fetch 19 = .ok (.imul, 1) := by decide +kernel
theorem dX8_fetch_20 : decode cX8_fetch 20 = .ok (.aload_n 2, 1) := by decide +kernel
theorem dX8_fetch_21 : decode cX8_fetch 21 = .ok (.getfield 25, 3) := by decide +kernel
theorem dX8_fetch_24 : decode cX8_fetch 24 = .ok (.iconst 0, 1) := by decide +kernel
theorem dX8_fetch_25 : decode cX8_fetch 25 = .ok (.bipush 44, 2) := by decide +kernel
theorem dX8_fetch_27 : decode cX8_fetch 27 = .ok (.invokestatic 26, 3) := by decide +kernel
theorem dX8_fetch_30 : decode cX8_fetch 30 = .ok (.return_, 1) := by decide +kernel
theorem dJ6_bitCount_0f7a4_0 : decode cJ6_bitCount_0f7a4 0 = .ok (.iload_n 0, 1) := by decide +kernel
theorem dJ6_bitCount_0f7a4_1 : decode cJ6_bitCount_0f7a4 1 = .ok (.iload_n 0, 1) := by decide +kernel
theorem dJ6_bitCount_0f7a4_2 : decode cJ6_bitCount_0f7a4 2 = .ok (.iconst 1, 1) := by decide +kernel
theorem dJ6_bitCount_0f7a4_3 : decode cJ6_bitCount_0f7a4 3 = .ok (.iushr, 1) := by decide +kernel
theorem dJ6_bitCount_0f7a4_4 : decode cJ6_bitCount_0f7a4 4 = .ok (.ldc_w 265, 3) := by decide +kernel
theorem dJ6_bitCount_0f7a4_7 : decode cJ6_bitCount_0f7a4 7 = .ok (.iand, 1) := by decide +kernel
theorem dJ6_bitCount_0f7a4_8 : decode cJ6_bitCount_0f7a4 8 = .ok (.isub, 1) := by decide +kernel
theorem dJ6_bitCount_0f7a4_9 : decode cJ6_bitCount_0f7a4 9 = .ok (.istore_n 0, 1) := by decide +kernel
theorem dJ6_bitCount_0f7a4_10 : decode cJ6_bitCount_0f7a4 10 = .ok (.iload_n 0, 1) := by decide +kernel
theorem dJ6_bitCount_0f7a4_11 : decode cJ6_bitCount_0f7a4 11 = .ok (.ldc_w 266, 3) := by decide +kernel
theorem dJ6_bitCount_0f7a4_14 : decode cJ6_bitCount_0f7a4 14 = .ok (.iand, 1) := by decide +kernel
theorem dJ6_bitCount_0f7a4_15 : decode cJ6_bitCount_0f7a4 15 = .ok (.iload_n 0, 1) := by decide +kernel
theorem dJ6_bitCount_0f7a4_16 : decode cJ6_bitCount_0f7a4 16 = .ok (.iconst 2, 1) := by decide +kernel
theorem dJ6_bitCount_0f7a4_17 : decode cJ6_bitCount_0f7a4 17 = .ok (.iushr, 1) := by decide +kernel
theorem dJ6_bitCount_0f7a4_18 : decode cJ6_bitCount_0f7a4 18 = .ok (.ldc_w 266, 3) := by decide +kernel
theorem dJ6_bitCount_0f7a4_21 : decode cJ6_bitCount_0f7a4 21 = .ok (.iand, 1) := by decide +kernel
theorem dJ6_bitCount_0f7a4_22 : decode cJ6_bitCount_0f7a4 22 = .ok (.iadd, 1) := by decide +kernel
theorem dJ6_bitCount_0f7a4_23 : decode cJ6_bitCount_0f7a4 23 = .ok (.istore_n 0, 1) := by decide +kernel
theorem dJ6_bitCount_0f7a4_24 : decode cJ6_bitCount_0f7a4 24 = .ok (.iload_n 0, 1) := by decide +kernel
theorem dJ6_bitCount_0f7a4_25 : decode cJ6_bitCount_0f7a4 25 = .ok (.iload_n 0, 1) := by decide +kernel
theorem dJ6_bitCount_0f7a4_26 : decode cJ6_bitCount_0f7a4 26 = .ok (.iconst 4, 1) := by decide +kernel
theorem dJ6_bitCount_0f7a4_27 : decode cJ6_bitCount_0f7a4 27 = .ok (.iushr, 1) := by decide +kernel
theorem dJ6_bitCount_0f7a4_28 : decode cJ6_bitCount_0f7a4 28 = .ok (.iadd, 1) := by decide +kernel
theorem dJ6_bitCount_0f7a4_29 : decode cJ6_bitCount_0f7a4 29 = .ok (.ldc_w 267, 3) := by decide +kernel
theorem dJ6_bitCount_0f7a4_32 : decode cJ6_bitCount_0f7a4 32 = .ok (.iand, 1) := by decide +kernel
theorem dJ6_bitCount_0f7a4_33 : decode cJ6_bitCount_0f7a4 33 = .ok (.istore_n 0, 1) := by decide +kernel
theorem dJ6_bitCount_0f7a4_34 : decode cJ6_bitCount_0f7a4 34 = .ok (.iload_n 0, 1) := by decide +kernel
theorem dJ6_bitCount_0f7a4_35 : decode cJ6_bitCount_0f7a4 35 = .ok (.iload_n 0, 1) := by decide +kernel
theorem dJ6_bitCount_0f7a4_36 : decode cJ6_bitCount_0f7a4 36 = .ok (.bipush 8, 2) := by decide +kernel
theorem dJ6_bitCount_0f7a4_38 : decode cJ6_bitCount_0f7a4 38 = .ok (.iushr, 1) := by decide +kernel
theorem dJ6_bitCount_0f7a4_39 : decode cJ6_bitCount_0f7a4 39 = .ok (.iadd, 1) := by decide +kernel
theorem dJ6_bitCount_0f7a4_40 : decode cJ6_bitCount_0f7a4 40 = .ok (.istore_n 0, 1) := by decide +kernel
theorem dJ6_bitCount_0f7a4_41 : decode cJ6_bitCount_0f7a4 41 = .ok (.iload_n 0, 1) := by decide +kernel
theorem dJ6_bitCount_0f7a4_42 : decode cJ6_bitCount_0f7a4 42 = .ok (.iload_n 0, 1) := by decide +kernel
theorem dJ6_bitCount_0f7a4_43 : decode cJ6_bitCount_0f7a4 43 = .ok (.bipush 16, 2) := by decide +kernel
theorem dJ6_bitCount_0f7a4_45 : decode cJ6_bitCount_0f7a4 45 = .ok (.iushr, 1) := by decide +kernel
theorem dJ6_bitCount_0f7a4_46 : decode cJ6_bitCount_0f7a4 46 = .ok (.iadd, 1) := by decide +kernel
theorem dJ6_bitCount_0f7a4_47 : decode cJ6_bitCount_0f7a4 47 = .ok (.istore_n 0, 1) := by decide +kernel
theorem dJ6_bitCount_0f7a4_48 : decode cJ6_bitCount_0f7a4 48 = .ok (.iload_n 0, 1) := by decide +kernel
theorem dJ6_bitCount_0f7a4_49 : decode cJ6_bitCount_0f7a4 49 = .ok (.bipush 63, 2) := by decide +kernel
theorem dJ6_bitCount_0f7a4_51 : decode cJ6_bitCount_0f7a4 51 = .ok (.iand, 1) := by decide +kernel
theorem dJ6_bitCount_0f7a4_52 : decode cJ6_bitCount_0f7a4 52 = .ok (.ireturn, 1) := by decide +kernel
theorem dJ7_fill_d0a16_0 : decode cJ7_fill_d0a16 0 = .ok (.iconst 0, 1) := by decide +kernel
theorem dJ7_fill_d0a16_1 : decode cJ7_fill_d0a16 1 = .ok (.istore_n 3, 1) := by decide +kernel
theorem dJ7_fill_d0a16_2 : decode cJ7_fill_d0a16 2 = .ok (.aload_n 0, 1) := by decide +kernel
theorem dJ7_fill_d0a16_3 : decode cJ7_fill_d0a16 3 = .ok (.arraylength, 1) := by decide +kernel
theorem dJ7_fill_d0a16_4 : decode cJ7_fill_d0a16 4 = .ok (.istore 4, 2) := by decide +kernel
theorem dJ7_fill_d0a16_6 : decode cJ7_fill_d0a16 6 = .ok (.iload_n 3, 1) := by decide +kernel
theorem dJ7_fill_d0a16_7 : decode cJ7_fill_d0a16 7 = .ok (.iload 4, 2) := by decide +kernel
theorem dJ7_fill_d0a16_9 : decode cJ7_fill_d0a16 9 = .ok (.if_icmp .ge 13, 3) := by decide +kernel
theorem dJ7_fill_d0a16_12 : decode cJ7_fill_d0a16 12 = .ok (.aload_n 0, 1) := by decide +kernel
theorem dJ7_fill_d0a16_13 : decode cJ7_fill_d0a16 13 = .ok (.iload_n 3, 1) := by decide +kernel
theorem dJ7_fill_d0a16_14 : decode cJ7_fill_d0a16 14 = .ok (.lload_n 1, 1) := by decide +kernel
theorem dJ7_fill_d0a16_15 : decode cJ7_fill_d0a16 15 = .ok (.lastore, 1) := by decide +kernel
theorem dJ7_fill_d0a16_16 : decode cJ7_fill_d0a16 16 = .ok (.iinc 3 1, 3) := by decide +kernel
theorem dJ7_fill_d0a16_19 : decode cJ7_fill_d0a16 19 = .ok (.goto (-13), 3) := by decide +kernel
theorem dJ7_fill_d0a16_22 : decode cJ7_fill_d0a16 22 = .ok (.return_, 1) := by decide +kernel
theorem dJ7_fill_53178_0 : decode cJ7_fill_53178 0 = .ok (.iconst 0, 1) := by decide +kernel
theorem dJ7_fill_53178_1 : decode cJ7_fill_53178 1 = .ok (.istore_n 2, 1) := by decide +kernel
theorem dJ7_fill_53178_2 : decode cJ7_fill_53178 2 = .ok (.aload_n 0, 1) := by decide +kernel
theorem dJ7_fill_53178_3 : decode cJ7_fill_53178 3 = .ok (.arraylength, 1) := by decide +kernel
theorem dJ7_fill_53178_4 : decode cJ7_fill_53178 4 = .ok (.istore_n 3, 1) := by decide +kernel
theorem dJ7_fill_53178_5 : decode cJ7_fill_53178 5 = .ok (.iload_n 2, 1) := by decide +kernel
theorem dJ7_fill_53178_6 : decode cJ7_fill_53178 6 = .ok (.iload_n 3, 1) := by decide +kernel
theorem dJ7_fill_53178_7 : decode cJ7_fill_53178 7 = .ok (.if_icmp .ge 13, 3) := by decide +kernel
theorem dJ7_fill_53178_10 : decode cJ7_fill_53178 10 = .ok (.aload_n 0, 1) := by decide +kernel
theorem dJ7_fill_53178_11 : decode cJ7_fill_53178 11 = .ok (.iload_n 2, 1) := by decide +kernel
theorem dJ7_fill_53178_12 : decode cJ7_fill_53178 12 = .ok (.iload_n 1, 1) := by decide +kernel
theorem dJ7_fill_53178_13 : decode cJ7_fill_53178 13 = .ok (.iastore, 1) := by decide +kernel
theorem dJ7_fill_53178_14 : decode cJ7_fill_53178 14 = .ok (.iinc 2 1, 3) := by decide +kernel
theorem dJ7_fill_53178_17 : decode cJ7_fill_53178 17 = .ok (.goto (-12), 3) := by decide +kernel
theorem dJ7_fill_53178_20 : decode cJ7_fill_53178 20 = .ok (.return_, 1) := by decide +kernel
theorem dJ9_max_7cf53_0 : decode cJ9_max_7cf53 0 = .ok (.iload_n 0, 1) := by decide +kernel
theorem dJ9_max_7cf53_1 : decode cJ9_max_7cf53 1 = .ok (.iload_n 1, 1) := by decide +kernel
theorem dJ9_max_7cf53_2 : decode cJ9_max_7cf53 2 = .ok (.if_icmp .lt 7, 3) := by decide +kernel
theorem dJ9_max_7cf53_5 : decode cJ9_max_7cf53 5 = .ok (.iload_n 0, 1) := by decide +kernel
theorem dJ9_max_7cf53_6 : decode cJ9_max_7cf53 6 = .ok (.goto 4, 3) := by decide +kernel
theorem dJ9_max_7cf53_9 : decode cJ9_max_7cf53 9 = .ok (.iload_n 1, 1) := by decide +kernel
theorem dJ9_max_7cf53_10 : decode cJ9_max_7cf53 10 = .ok (.ireturn, 1) := by decide +kernel
theorem dJ9_min_7cf53_0 : decode cJ9_min_7cf53 0 = .ok (.iload_n 0, 1) := by decide +kernel
theorem dJ9_min_7cf53_1 : decode cJ9_min_7cf53 1 = .ok (.iload_n 1, 1) := by decide +kernel
theorem dJ9_min_7cf53_2 : decode cJ9_min_7cf53 2 = .ok (.if_icmp .gt 7, 3) := by decide +kernel
theorem dJ9_min_7cf53_5 : decode cJ9_min_7cf53 5 = .ok (.iload_n 0, 1) := by decide +kernel
theorem dJ9_min_7cf53_6 : decode cJ9_min_7cf53 6 = .ok (.goto 4, 3) := by decide +kernel
theorem dJ9_min_7cf53_9 : decode cJ9_min_7cf53 9 = .ok (.iload_n 1, 1) := by decide +kernel
theorem dJ9_min_7cf53_10 : decode cJ9_min_7cf53 10 = .ok (.ireturn, 1) := by decide +kernel
