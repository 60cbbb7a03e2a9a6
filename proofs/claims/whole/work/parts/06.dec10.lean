theorem dX10_init_0 : decode cX10_init 0 = .ok (.aload_n 0, 1) := by decide +kernel
theorem dX10_init_1 : decode cX10_init 1 = .ok (.invokespecial 1, 3) := by decide +kernel
theorem dX10_init_4 : decode cX10_init 4 = .ok (.aload_n 0, 1) := by decide +kernel
theorem dX10_init_5 : decode cX10_init 5 = .ok (.bipush 44, 2) := by decide +kernel
theorem dX10_init_7 : decode cX10_init 7 = .ok (.newarray .int, 2) := by decide +kernel
theorem dX10_init_9 : decode cX10_init 9 = .ok (.putfield 7, 3) := by decide +kernel
theorem dX10_init_12 : decode cX10_init 12 = .ok (.aload_n 0, 1) := by decide +kernel
theorem dX10_init_13 : decode cX10_init 13 = .ok (.bipush 44, 2) := by decide +kernel
theorem dX10_init_15 : decode cX10_init 15 = .ok (.newarray .int, 2) := by decide +kernel
theorem dX10_init_17 : decode cX10_init 17 = .ok (.putfield 13, 3) := by decide +kernel
theorem dX10_init_20 : decode cX10_init 20 = .ok (.aload_n 0, 1) := by decide +kernel
theorem dX10_init_21 : decode cX10_init 21 = .ok (.bipush 44, 2) := by decide +kernel
theorem dX10_init_23 : decode cX10_init 23 = .ok (.newarray .int, 2) := by decide +kernel
theorem dX10_init_25 : decode cX10_init 25 = .ok (.putfield 16, 3) := by decide +kernel
theorem dX10_init_28 : decode cX10_init 28 = .ok (.aload_n 0, 1) := by decide +kernel
theorem dX10_init_29 : decode cX10_init 29 = .ok (.sipush 616, 3) := by decide +kernel
theorem dX10_init_32 : decode cX10_init 32 = .ok (.newarray .int, 2) := by decide +kernel
theorem dX10_init_34 : decode cX10_init 34 = .ok (.putfield 19, 3) := by decide +kernel
theorem dX10_init_37 : decode cX10_init 37 = .ok (.aload_n 0, 1) := by decide +kernel
theorem dX10_init_38 : decode cX10_init 38 = .ok (.bipush 88, 2) := by decide +kernel
theorem dX10_init_40 : decode cX10_init 40 = .ok (.newarray .int, 2) := by decide +kernel
theorem dX10_init_42 : decode cX10_init 42 = .ok (.putfield 22, 3) := by decide +kernel
theorem dX10_init_45 : decode cX10_init 45 = .ok (.aload_n 0, 1) := by decide +kernel
theorem dX10_init_46 : decode cX10_init 46 = .ok (.iconst 2, 1) := by decide +kernel
theorem dX10_init_47 : decode cX10_init 47 = .ok (.newarray .boolean, 2) := by decide +kernel
theorem dX10_init_49 : decode cX10_init 49 = .ok (.putfield 25, 3) := by decide +kernel
theorem dX10_init_52 : decode cX10_init 52 = .ok (.aload_n 0, 1) := by decide +kernel
theorem dX10_init_53 : decode cX10_init 53 = .ok (.bipush 60, 2) := by decide +kernel
theorem dX10_init_55 : decode cX10_init 55 = .ok (.newarray .int, 2) := by decide +kernel
theorem dX10_init_57 : decode cX10_init 57 = .ok (.putfield 29, 3) := by decide +kernel
theorem dX10_init_60 : decode cX10_init 60 = .ok (.aload_n 0, 1) := by decide +kernel
theorem dX10_init_61 : decode cX10_init 61 = .ok (.bipush 44, 2) := by decide +kernel
theorem dX10_init_63 : decode cX10_init 63 = .ok (.newarray .int, 2) := by decide +kernel
theorem dX10_init_65 : decode cX10_init 65 = .ok (.putfield 32, 3) := by decide +kernel
theorem dX10_init_68 : decode cX10_init 68 = .ok (.aload_n 0, 1) := by decide +kernel
theorem dX10_init_69 : decode cX10_init 69 = .ok (.iconst 5, 1) := by decide +kernel
theorem dX10_init_70 : decode cX10_init 70 = .ok (.newarray .int, 2) := by decide +kernel
theorem dX10_init_72 : decode cX10_init 72 = .ok (.putfield 35, 3) := by decide +kernel
theorem dX10_init_75 : decode cX10_init 75 = .ok (.aload_n 0, 1) := by decide +kernel
theorem dX10_init_76 : decode cX10_init 76 = .ok (.iconst 5, 1) := by decide +kernel
theorem dX10_init_77 : decode cX10_init 77 = .ok (.newarray .int, 2) := by decide +kernel
theorem dX10_init_79 : decode cX10_init 79 = .ok (.putfield 38, 3) := by decide +kernel
theorem dX10_init_82 : decode cX10_init 82 = .ok (.aload_n 0, 1) := by decide +kernel
theorem dX10_init_83 : decode cX10_init 83 = .ok (.bipush 36, 2) := by decide +kernel
theorem dX10_init_85 : decode cX10_init 85 = .ok (.newarray .long, 2) := by decide +kernel
theorem dX10_init_87 : decode cX10_init 87 = .ok (.putfield 41, 3) := by decide +kernel
theorem dX10_init_90 : decode cX10_init 90 = .ok (.aload_n 0, 1) := by decide +kernel
theorem dX10_init_91 : decode cX10_init 91 = .ok (.bipush 6, 2) := by decide +kernel
theorem dX10_init_93 : decode cX10_init 93 = .ok (.newarray .long, 2) := by decide +kernel
theorem dX10_init_95 : decode cX10_init 95 = .ok (.putfield 45, 3) := by decide +kernel
theorem dX10_init_98 : decode cX10_init 98 = .ok (.aload_n 0, 1) := by decide +kernel
theorem dX10_init_99 : decode cX10_init 99 = .ok (.bipush 64, 2) := by decide +kernel
theorem dX10_init_101 : decode cX10_init 101 = .ok (.newarray .long, 2) := by decide +kernel
theorem dX10_init_103 : decode cX10_init 103 = .ok (.putfield 48, 3) := by decide +kernel
theorem dX10_init_106 : decode cX10_init 106 = .ok (.aload_n 0, 1) := by decide +kernel
theorem dX10_init_107 : decode cX10_init 107 = .ok (.getfield 7, 3) := by decide +kernel
theorem dX10_init_110 : decode cX10_init 110 = .ok (.bipush 26, 2) := by decide +kernel
theorem dX10_init_112 : decode cX10_init 112 = .ok (.bipush 100, 2) := by decide +kernel
theorem dX10_init_114 : decode cX10_init 114 = .ok (.iastore, 1) := by decide +kernel
theorem dX10_init_115 : decode cX10_init 115 = .ok (.aload_n 0, 1) := by decide +kernel
theorem dX10_init_116 : decode cX10_init 116 = .ok (.getfield 7, 3) := by decide +kernel
theorem dX10_init_119 : decode cX10_init 119 = .ok (.bipush 27, 2) := by decide +kernel
theorem dX10_init_121 : decode cX10_init 121 = .ok (.sipush 900, 3) := by decide +kernel
theorem dX10_init_124 : decode cX10_init 124 = .ok (.iastore, 1) := by decide +kernel
theorem dX10_init_125 : decode cX10_init 125 = .ok (.return_, 1) := by decide +kernel
theorem dX10_thrown_0 : decode cX10_thrown 0 = .ok (.aload_n 0, 1) := by decide +kernel
theorem dX10_thrown_1 : decode cX10_thrown 1 = .ok (.getfield 51, 3) := by decide +kernel
theorem dX10_thrown_4 : decode cX10_thrown 4 = .ok (.ireturn, 1) := by decide +kernel
theorem dX10_refused_0 : decode cX10_refused 0 = .ok (.aload_n 0, 1) := by decide +kernel
theorem dX10_refused_1 : decode cX10_refused 1 = .ok (.iload_n 1, 1) := by decide +kernel
theorem dX10_refused_2 : decode cX10_refused 2 = .ok (.putfield 51, 3) := by decide +kernel
theorem dX10_refused_5 : decode cX10_refused 5 = .ok (.iload_n 1, 1) := by decide +kernel
theorem dX10_refused_6 : decode cX10_refused 6 = .ok (.ifCond .le 7, 3) := by decide +kernel
theorem dX10_refused_9 : decode cX10_refused 9 = .ok (.iconst 1, 1) := by decide +kernel
theorem dX10_refused_10 : decode cX10_refused 10 = .ok (.goto 4, 3) := by decide +kernel
theorem dX10_refused_13 : decode cX10_refused 13 = .ok (.iconst 0, 1) := by decide +kernel
theorem dX10_refused_14 : decode cX10_refused 14 = .ok (.ireturn, 1) := by decide +kernel
theorem dX10_in_0 : decode cX10_in 0 = .ok (.lload_n 0, 1) := by decide +kernel
theorem dX10_in_1 : decode cX10_in 1 = .ok (.lload_n 2, 1) := by decide +kernel
theorem dX10_in_2 : decode cX10_in 2 = .ok (.lcmp, 1) := by decide +kernel
theorem dX10_in_3 : decode cX10_in 3 = .ok (.ifCond .lt 14, 3) := by decide +kernel
theorem dX10_in_6 : decode cX10_in 6 = .ok (.lload_n 0, 1) := by decide +kernel
theorem dX10_in_7 : decode cX10_in 7 = .ok (.lload 4, 2) := by decide +kernel
theorem dX10_in_9 : decode cX10_in 9 = .ok (.lcmp, 1) := by decide +kernel
theorem dX10_in_10 : decode cX10_in 10 = .ok (.ifCond .gt 7, 3) := by decide +kernel
theorem dX10_in_13 : decode cX10_in 13 = .ok (.iconst 1, 1) := by decide +kernel
theorem dX10_in_14 : decode cX10_in 14 = .ok (.goto 4, 3) := by decide +kernel
theorem dX10_in_17 : decode cX10_in 17 = .ok (.iconst 0, 1) := by decide +kernel
theorem dX10_in_18 : decode cX10_in 18 = .ok (.ireturn, 1) := by decide +kernel
theorem dX10_isBit_0 : decode cX10_isBit 0 = .ok (.iload_n 0, 1) := by decide +kernel
theorem dX10_isBit_1 : decode cX10_isBit 1 = .ok (.i2l, 1) := by decide +kernel
theorem dX10_isBit_2 : decode cX10_isBit 2 = .ok (.lconst 0, 1) := by decide +kernel
theorem dX10_isBit_3 : decode cX10_isBit 3 = .ok (.lconst 1, 1) := by decide +kernel
theorem dX10_isBit_4 : decode cX10_isBit 4 = .ok (.invokestatic 55, 3) := by decide +kernel
theorem dX10_isBit_7 : decode cX10_isBit 7 = .ok (.ireturn, 1) := by decide +kernel
theorem dX10_isGoal_0 : decode cX10_isGoal 0 = .ok (.iload_n 0, 1) := by decide +kernel
theorem dX10_isGoal_1 : decode cX10_isGoal 1 = .ok (.i2l, 1) := by decide +kernel
theorem dX10_isGoal_2 : decode cX10_isGoal 2 = .ok (.lconst 0, 1) := by decide +kernel
theorem dX10_isGoal_3 : decode cX10_isGoal 3 = .ok (.ldc2_w 59, 3) := by decide +kernel
theorem dX10_isGoal_6 : decode cX10_isGoal 6 = .ok (.invokestatic 55, 3) := by decide +kernel
theorem dX10_isGoal_9 : decode cX10_isGoal 9 = .ok (.ifCond .ne 17, 3) := by decide +kernel
theorem dX10_isGoal_12 : decode cX10_isGoal 12 = .ok (.iload_n 0, 1) := by decide +kernel
theorem dX10_isGoal_13 : decode cX10_isGoal 13 = .ok (.i2l, 1) := by decide +kernel
theorem dX10_isGoal_14 : decode cX10_isGoal 14 = .ok (.ldc2_w 61, 3) := by decide +kernel
theorem dX10_isGoal_17 : decode cX10_isGoal 17 = .ok (.ldc2_w 63, 3) := by decide +kernel
theorem dX10_isGoal_20 : decode cX10_isGoal 20 = .ok (.invokestatic 55, 3) := by decide +kernel
theorem dX10_isGoal_23 : decode cX10_isGoal 23 = .ok (.ifCond .eq 7, 3) := by decide +kernel
theorem dX10_isGoal_26 : decode cX10_isGoal 26 = .ok (.iconst 1, 1) := by decide +kernel
theorem dX10_isGoal_27 : decode cX10_isGoal 27 = .ok (.goto 4, 3) := by decide +kernel
theorem dX10_isGoal_30 : decode cX10_isGoal 30 = .ok (.iconst 0, 1) := by decide +kernel
theorem dX10_isGoal_31 : decode cX10_isGoal 31 = .ok (.ireturn, 1) := by decide +kernel
theorem dX10_isCell_0 : decode cX10_isCell 0 = .ok (.iload_n 1, 1) := by decide +kernel
theorem dX10_isCell_1 : decode cX10_isCell 1 = .ok (.i2l, 1) := by decide +kernel
theorem dX10_isCell_2 : decode cX10_isCell 2 = .ok (.lconst 0, 1) := by decide +kernel
theorem dX10_isCell_3 : decode cX10_isCell 3 = .ok (.aload_n 0, 1) := by decide +kernel
theorem dX10_isCell_4 : decode cX10_isCell 4 = .ok (.getfield 7, 3) := by decide +kernel
theorem dX10_isCell_7 : decode cX10_isCell 7 = .ok (.iconst 0, 1) := by decide +kernel
theorem dX10_isCell_8 : decode cX10_isCell 8 = .ok (.iaload, 1) := by decide +kernel
theorem dX10_isCell_9 : decode cX10_isCell 9 = .ok (.iconst 1, 1) := by decide +kernel
theorem dX10_isCell_10 : decode cX10_isCell 10 = .ok (.isub, 1) := by decide +kernel
theorem dX10_isCell_11 : decode cX10_isCell 11 = .ok (.i2l, 1) := by decide +kernel
theorem dX10_isCell_12 : decode cX10_isCell 12 = .ok (.invokestatic 55, 3) := by decide +kernel
theorem dX10_isCell_15 : decode cX10_isCell 15 = .ok (.ireturn, 1) := by decide +kernel
theorem dX10_copy_0 : decode cX10_copy 0 = .ok (.iconst 0, 1) := by decide +kernel
theorem dX10_copy_1 : decode cX10_copy 1 = .ok (.istore_n 2, 1) := by decide +kernel
theorem dX10_copy_2 : decode cX10_copy 2 = .ok (.iload_n 2, 1) := by decide +kernel
theorem dX10_copy_3 : decode cX10_copy 3 = .ok (.bipush 44, 2) := by decide +kernel
theorem dX10_copy_5 : decode cX10_copy 5 = .ok (.if_icmp .ge 15, 3) := by decide +kernel
theorem dX10_copy_8 : decode cX10_copy 8 = .ok (.aload_n 1, 1) := by decide +kernel
theorem dX10_copy_9 : decode cX10_copy 9 = .ok (.iload_n 2, 1) := by decide +kernel
theorem dX10_copy_10 : decode cX10_copy 10 = .ok (.aload_n 0, 1) := by decide +kernel
theorem dX10_copy_11 : decode cX10_copy 11 = .ok (.iload_n 2, 1) := by decide +kernel
theorem dX10_copy_12 : decode cX10_copy 12 = .ok (.iaload, 1) := by decide +kernel
theorem dX10_copy_13 : decode cX10_copy 13 = .ok (.iastore, 1) := by decide +kernel
theorem dX10_copy_14 : decode cX10_copy 14 = .ok (.iinc 2 1, 3) := by decide +kernel
theorem dX10_copy_17 : decode cX10_copy 17 = .ok (.goto (-15), 3) := by decide +kernel
theorem dX10_copy_20 : decode cX10_copy 20 = .ok (.return_, 1) := by decide +kernel
theorem dX10_note_0 : decode cX10_note 0 = .ok (.iconst 0, 1) := by decide +kernel
theorem dX10_note_1 : decode cX10_note 1 = .ok (.istore_n 1, 1) := by decide +kernel
theorem dX10_note_2 : decode cX10_note 2 = .ok (.iload_n 1, 1) := by decide +kernel
theorem dX10_note_3 : decode cX10_note 3 = .ok (.bipush 44, 2) := by decide +kernel
theorem dX10_note_5 : decode cX10_note 5 = .ok (.if_icmp .ge 29, 3) := by decide +kernel
theorem dX10_note_8 : decode cX10_note 8 = .ok (.aload_n 0, 1) := by decide +kernel
theorem dX10_note_9 : decode cX10_note 9 = .ok (.getfield 19, 3) := by decide +kernel
theorem dX10_note_12 : decode cX10_note 12 = .ok (.bipush 44, 2) := by decide +kernel
theorem dX10_note_14 : decode cX10_note 14 = .ok (.aload_n 0, 1) := by decide +kernel
theorem dX10_note_15 : decode cX10_note 15 = .ok (.getfield 65, 3) := by decide +kernel
theorem dX10_note_18 : decode cX10_note 18 = .ok (.imul, 1) := by decide +kernel
theorem dX10_note_19 : decode cX10_note 19 = .ok (.iload_n 1, 1) := by decide +kernel
theorem dX10_note_20 : decode cX10_note 20 = .ok (.iadd, 1) := by decide +kernel
theorem dX10_note_21 : decode cX10_note 21 = .ok (.aload_n 0, 1) := by decide +kernel
theorem dX10_note_22 : decode cX10_note 22 = .ok (.getfield 7, 3) := by decide +kernel
theorem dX10_note_25 : decode cX10_note 25 = .ok (.iload_n 1, 1) := by decide +kernel
theorem dX10_note_26 : decode cX10_note 26 = .ok (.iaload, 1) := by decide +kernel
theorem dX10_note_27 : decode cX10_note 27 = .ok (.iastore, 1) := by decide +kernel
theorem dX10_note_28 : decode cX10_note 28 = .ok (.iinc 1 1, 3) := by decide +kernel
theorem dX10_note_31 : decode cX10_note 31 = .ok (.goto (-29), 3) := by decide +kernel
theorem dX10_note_34 : decode cX10_note 34 = .ok (.aload_n 0, 1) := by decide +kernel
theorem dX10_note_35 : decode cX10_note 35 = .ok (.aload_n 0, 1) := by decide +kernel
theorem dX10_note_36 : decode cX10_note 36 = .ok (.getfield 65, 3) := by decide +kernel
theorem dX10_note_39 : decode cX10_note 39 = .ok (.iconst 1, 1) := by decide +kernel
theorem dX10_note_40 : decode cX10_note 40 = .ok (.iadd, 1) := by decide +kernel
theorem dX10_note_41 : decode cX10_note 41 = .ok (.bipush 14, 2) := by decide +kernel
theorem dX10_note_43 : decode cX10_note 43 = .ok (.irem, 1) := by decide +kernel
theorem dX10_note_44 : decode cX10_note 44 = .ok (.putfield 65, 3) := by decide +kernel
theorem dX10_note_47 : decode cX10_note 47 = .ok (.aload_n 0, 1) := by decide +kernel
theorem dX10_note_48 : decode cX10_note 48 = .ok (.aload_n 0, 1) := by decide +kernel
theorem dX10_note_49 : decode cX10_note 49 = .ok (.getfield 68, 3) := by decide +kernel
theorem dX10_note_52 : decode cX10_note 52 = .ok (.bipush 14, 2) := by decide +kernel
theorem dX10_note_54 : decode cX10_note 54 = .ok (.if_icmp .ge 12, 3) := by decide +kernel
theorem dX10_note_57 : decode cX10_note 57 = .ok (.aload_n 0, 1) := by decide +kernel
theorem dX10_note_58 : decode cX10_note 58 = .ok (.getfield 68, 3) := by decide +kernel
theorem dX10_note_61 : decode cX10_note 61 = .ok (.iconst 1, 1) := by decide +kernel
theorem dX10_note_62 : decode cX10_note 62 = .ok (.iadd, 1) := by decide +kernel
theorem dX10_note_63 : decode cX10_note 63 = .ok (.goto 5, 3) := by decide +kernel
theorem dX10_note_66 : decode cX10_note 66 = .ok (.bipush 14, 2) := by decide +kernel
theorem dX10_note_68 : decode cX10_note 68 = .ok (.putfield 68, 3) := by decide +kernel
theorem dX10_note_71 : decode cX10_note 71 = .ok (.return_, 1) := by decide +kernel
theorem dX10_append_0 : decode cX10_append 0 = .ok (.aload_n 0, 1) := by decide +kernel
theorem dX10_append_1 : decode cX10_append 1 = .ok (.iload_n 1, 1) := by decide +kernel
theorem dX10_append_2 : decode cX10_append 2 = .ok (.i2l, 1) := by decide +kernel
theorem dX10_append_3 : decode cX10_append 3 = .ok (.lconst 0, 1) := by decide +kernel
theorem dX10_append_4 : decode cX10_append 4 = .ok (.ldc2_w 71, 3) := by decide +kernel
theorem dX10_append_7 : decode cX10_append 7 = .ok (.invokestatic 55, 3) := by decide +kernel
theorem dX10_append_10 : decode cX10_append 10 = .ok (.ifCond .ne 7, 3) := by decide +kernel
theorem dX10_append_13 : decode cX10_append 13 = .ok (.iconst 1, 1) := by decide +kernel
theorem dX10_append_14 : decode cX10_append 14 = .ok (.goto 17, 3) := by decide +kernel
theorem dX10_append_17 : decode cX10_append 17 = .ok (.aload_n 0, 1) := by decide +kernel
theorem dX10_append_18 : decode cX10_append 18 = .ok (.getfield 73, 3) := by decide +kernel
theorem dX10_append_21 : decode cX10_append 21 = .ok (.bipush 60, 2) := by decide +kernel
theorem dX10_append_23 : decode cX10_append 23 = .ok (.if_icmp .ne 7, 3) := by decide +kernel
theorem dX10_append_26 : decode cX10_append 26 = .ok (.iconst 2, 1) := by decide +kernel
theorem dX10_append_27 : decode cX10_append 27 = .ok (.goto 4, 3) := by decide +kernel
theorem dX10_append_30 : decode cX10_append 30 = .ok (.iconst 0, 1) := by decide +kernel
theorem dX10_append_31 : decode cX10_append 31 = .ok (.invokevirtual 76, 3) := by decide +kernel
theorem dX10_append_34 : decode cX10_append 34 = .ok (.ifCond .eq 5, 3) := by decide +kernel
theorem dX10_append_37 : decode cX10_append 37 = .ok (.iconst 0, 1) := by decide +kernel
theorem dX10_append_38 : decode cX10_append 38 = .ok (.ireturn, 1) := by decide +kernel
theorem dX10_append_39 : decode cX10_append 39 = .ok (.aload_n 0, 1) := by decide +kernel
theorem dX10_append_40 : decode cX10_append 40 = .ok (.getfield 29, 3) := by decide +kernel
theorem dX10_append_43 : decode cX10_append 43 = .ok (.aload_n 0, 1) := by decide +kernel
theorem dX10_append_44 : decode cX10_append 44 = .ok (.getfield 73, 3) := by decide +kernel
theorem dX10_append_47 : decode cX10_append 47 = .ok (.iload_n 1, 1) := by decide +kernel
theorem dX10_append_48 : decode cX10_append 48 = .ok (.iastore, 1) := by decide +kernel
theorem dX10_append_49 : decode cX10_append 49 = .ok (.aload_n 0, 1) := by decide +kernel
theorem dX10_append_50 : decode cX10_append 50 = .ok (.dup, 1) := by decide +kernel
theorem dX10_append_51 : decode cX10_append 51 = .ok (.getfield 73, 3) := by decide +kernel
theorem dX10_append_54 : decode cX10_append 54 = .ok (.iconst 1, 1) := by decide +kernel
theorem dX10_append_55 : decode cX10_append 55 = .ok (.iadd, 1) := by decide +kernel
theorem dX10_append_56 : decode cX10_append 56 = .ok (.putfield 73, 3) := by decide +kernel
theorem dX10_append_59 : decode cX10_append 59 = .ok (.aload_n 0, 1) := by decide +kernel
theorem dX10_append_60 : decode cX10_append 60 = .ok (.getfield 73, 3) := by decide +kernel
theorem dX10_append_63 : decode cX10_append 63 = .ok (.ireturn, 1) := by decide +kernel
theorem dX10_clearText_0 : decode cX10_clearText 0 = .ok (.aload_n 0, 1) := by decide +kernel
theorem dX10_clearText_1 : decode cX10_clearText 1 = .ok (.iconst 0, 1) := by decide +kernel
theorem dX10_clearText_2 : decode cX10_clearText 2 = .ok (.putfield 51, 3) := by decide +kernel
theorem dX10_clearText_5 : decode cX10_clearText 5 = .ok (.aload_n 0, 1) := by decide +kernel
theorem dX10_clearText_6 : decode cX10_clearText 6 = .ok (.getfield 73, 3) := by decide +kernel
theorem dX10_clearText_9 : decode cX10_clearText 9 = .ok (.istore_n 1, 1) := by decide +kernel
theorem dX10_clearText_10 : decode cX10_clearText 10 = .ok (.aload_n 0, 1) := by decide +kernel
theorem dX10_clearText_11 : decode cX10_clearText 11 = .ok (.iconst 0, 1) := by decide +kernel
theorem dX10_clearText_12 : decode cX10_clearText 12 = .ok (.putfield 73, 3) := by decide +kernel
theorem dX10_clearText_15 : decode cX10_clearText 15 = .ok (.iload_n 1, 1) := by decide +kernel
theorem dX10_clearText_16 : decode cX10_clearText 16 = .ok (.ireturn, 1) := by decide +kernel
theorem dX10_readLetter_0 : decode cX10_readLetter 0 = .ok (.aload_n 0, 1) := by decide +kernel
theorem dX10_readLetter_1 : decode cX10_readLetter 1 = .ok (.getfield 80, 3) := by decide +kernel
theorem dX10_readLetter_4 : decode cX10_readLetter 4 = .ok (.aload_n 0, 1) := by decide +kernel
theorem dX10_readLetter_5 : decode cX10_readLetter 5 = .ok (.getfield 73, 3) := by decide +kernel
theorem dX10_readLetter_8 : decode cX10_readLetter 8 = .ok (.if_icmp .ge 20, 3) := by decide +kernel
theorem dX10_readLetter_11 : decode cX10_readLetter 11 = .ok (.aload_n 0, 1) := by decide +kernel
theorem dX10_readLetter_12 : decode cX10_readLetter 12 = .ok (.getfield 29, 3) := by decide +kernel
theorem dX10_readLetter_15 : decode cX10_readLetter 15 = .ok (.aload_n 0, 1) := by decide +kernel
theorem dX10_readLetter_16 : decode cX10_readLetter 16 = .ok (.getfield 80, 3) := by decide +kernel
theorem dX10_readLetter_19 : decode cX10_readLetter 19 = .ok (.iaload, 1) := by decide +kernel
theorem dX10_readLetter_20 : decode cX10_readLetter 20 = .ok (.iload_n 1, 1) := by decide +kernel
theorem dX10_readLetter_21 : decode cX10_readLetter 21 = .ok (.if_icmp .ne 7, 3) := by decide +kernel
theorem dX10_readLetter_24 : decode cX10_readLetter 24 = .ok (.iconst 1, 1) := by decide +kernel
theorem dX10_readLetter_25 : decode cX10_readLetter 25 = .ok (.goto 4, 3) := by decide +kernel
theorem dX10_readLetter_28 : decode cX10_readLetter 28 = .ok (.iconst 0, 1) := by decide +kernel
theorem dX10_readLetter_29 : decode cX10_readLetter 29 = .ok (.istore_n 2, 1) := by decide +kernel
theorem dX10_readLetter_30 : decode cX10_readLetter 30 = .ok (.aload_n 0, 1) := by decide +kernel
theorem dX10_readLetter_31 : decode cX10_readLetter 31 = .ok (.dup, 1) := by decide +kernel
theorem dX10_readLetter_32 : decode cX10_readLetter 32 = .ok (.getfield 80, 3) := by decide +kernel
theorem dX10_readLetter_35 : decode cX10_readLetter 35 = .ok (.iload_n 2, 1) := by decide +kernel
theorem dX10_readLetter_36 : decode cX10_readLetter 36 = .ok (.ifCond .eq 7, 3) := by decide +kernel
theorem dX10_readLetter_39 : decode cX10_readLetter 39 = .ok (.iconst 1, 1) := by decide +kernel
theorem dX10_readLetter_40 : decode cX10_readLetter 40 = .ok (.goto 4, 3) := by decide +kernel
theorem dX10_readLetter_43 : decode cX10_readLetter 43 = .ok (.iconst 0, 1) := by decide +kernel
theorem dX10_readLetter_44 : decode cX10_readLetter 44 = .ok (.iadd, 1) := by decide +kernel
theorem dX10_readLetter_45 : decode cX10_readLetter 45 = .ok (.putfield 80, 3) := by decide +kernel
theorem dX10_readLetter_48 : decode cX10_readLetter 48 = .ok (.iload_n 2, 1) := by decide +kernel
theorem dX10_readLetter_49 : decode cX10_readLetter 49 = .ok (.ireturn, 1) := by decide +kernel
theorem dX10_readNumber_0 : decode cX10_readNumber 0 = .ok (.iconst 0, 1) := by decide +kernel
theorem dX10_readNumber_1 : decode cX10_readNumber 1 = .ok (.istore_n 3, 1) := by decide +kernel
theorem dX10_readNumber_2 : decode cX10_readNumber 2 = .ok (.iconst 0, 1) := by decide +kernel
theorem dX10_readNumber_3 : decode cX10_readNumber 3 = .ok (.istore 4, 2) := by decide +kernel
theorem dX10_readNumber_5 : decode cX10_readNumber 5 = .ok (.iload 4, 2) := by decide +kernel
theorem dX10_readNumber_7 : decode cX10_readNumber 7 = .ok (.iload_n 1, 1) := by decide +kernel
theorem dX10_readNumber_8 : decode cX10_readNumber 8 = .ok (.if_icmp .ge 72, 3) := by decide +kernel
theorem dX10_readNumber_11 : decode cX10_readNumber 11 = .ok (.aload_n 0, 1) := by decide +kernel
theorem dX10_readNumber_12 : decode cX10_readNumber 12 = .ok (.getfield 80, 3) := by decide +kernel
theorem dX10_readNumber_15 : decode cX10_readNumber 15 = .ok (.aload_n 0, 1) := by decide +kernel
theorem dX10_readNumber_16 : decode cX10_readNumber 16 = .ok (.getfield 73, 3) := by decide +kernel
theorem dX10_readNumber_19 : decode cX10_readNumber 19 = .ok (.if_icmp .ge 18, 3) := by decide +kernel
theorem dX10_readNumber_22 : decode cX10_readNumber 22 = .ok (.aload_n 0, 1) := by decide +kernel
theorem dX10_readNumber_23 : decode cX10_readNumber 23 = .ok (.getfield 29, 3) := by decide +kernel
theorem dX10_readNumber_26 : decode cX10_readNumber 26 = .ok (.aload_n 0, 1) := by decide +kernel
theorem dX10_readNumber_27 : decode cX10_readNumber 27 = .ok (.getfield 80, 3) := by decide +kernel
theorem dX10_readNumber_30 : decode cX10_readNumber 30 = .ok (.iaload, 1) := by decide +kernel
theorem dX10_readNumber_31 : decode cX10_readNumber 31 = .ok (.bipush 48, 2) := by decide +kernel
theorem dX10_readNumber_33 : decode cX10_readNumber 33 = .ok (.isub, 1) := by decide +kernel
theorem dX10_readNumber_34 : decode cX10_readNumber 34 = .ok (.goto 5, 3) := by decide +kernel
theorem dX10_readNumber_37 : decode cX10_readNumber 37 = .ok (.bipush (-9), 2) := by decide +kernel
theorem dX10_readNumber_39 : decode cX10_readNumber 39 = .ok (.istore 5, 2) := by decide +kernel
theorem dX10_readNumber_41 : decode cX10_readNumber 41 = .ok (.iload 5, 2) := by decide +kernel
theorem dX10_readNumber_43 : decode cX10_readNumber 43 = .ok (.i2l, 1) := by decide +kernel
theorem dX10_readNumber_44 : decode cX10_readNumber 44 = .ok (.lconst 0, 1) := by decide +kernel
theorem dX10_readNumber_45 : decode cX10_readNumber 45 = .ok (.ldc2_w 63, 3) := by decide +kernel
theorem dX10_readNumber_48 : decode cX10_readNumber 48 = .ok (.invokestatic 55, 3) := by decide +kernel
theorem dX10_readNumber_51 : decode cX10_readNumber 51 = .ok (.ifCond .ne 5, 3) := by decide +kernel
theorem dX10_readNumber_54 : decode cX10_readNumber 54 = .ok (.iconst 0, 1) := by decide +kernel
theorem dX10_readNumber_55 : decode cX10_readNumber 55 = .ok (.ireturn, 1) := by decide +kernel
theorem dX10_readNumber_56 : decode cX10_readNumber 56 = .ok (.bipush 10, 2) := by decide +kernel
theorem dX10_readNumber_58 : decode cX10_readNumber 58 = .ok (.iload_n 3, 1) := by decide +kernel
theorem dX10_readNumber_59 : decode cX10_readNumber 59 = .ok (.imul, 1) := by decide +kernel
theorem dX10_readNumber_60 : decode cX10_readNumber 60 = .ok (.iload 5, 2) := by decide +kernel
theorem dX10_readNumber_62 : decode cX10_readNumber 62 = .ok (.iadd, 1) := by decide +kernel
theorem dX10_readNumber_63 : decode cX10_readNumber 63 = .ok (.istore_n 3, 1) := by decide +kernel
theorem dX10_readNumber_64 : decode cX10_readNumber 64 = .ok (.aload_n 0, 1) := by decide +kernel
theorem dX10_readNumber_65 : decode cX10_readNumber 65 = .ok (.dup, 1) := by decide +kernel
theorem dX10_readNumber_66 : decode cX10_readNumber 66 = .ok (.getfield 80, 3) := by decide +kernel
theorem dX10_readNumber_69 : decode cX10_readNumber 69 = .ok (.iconst 1, 1) := by decide +kernel
theorem dX10_readNumber_70 : decode cX10_readNumber 70 = .ok (.iadd, 1) := by decide +kernel
theorem dX10_readNumber_71 : decode cX10_readNumber 71 = .ok (.putfield 80, 3) := by decide +kernel
theorem dX10_readNumber_74 : decode cX10_readNumber 74 = .ok (.iinc 4 1, 3) := by decide +kernel
theorem dX10_readNumber_77 : decode cX10_readNumber 77 = .ok (.goto (-72), 3) := by decide +kernel
theorem dX10_readNumber_80 : decode cX10_readNumber 80 = .ok (.aload_n 0, 1) := by decide +kernel
theorem dX10_readNumber_81 : decode cX10_readNumber 81 = .ok (.getfield 32, 3) := by decide +kernel
theorem dX10_readNumber_84 : decode cX10_readNumber 84 = .ok (.iload_n 2, 1) := by decide +kernel
theorem dX10_readNumber_85 : decode cX10_readNumber 85 = .ok (.iload_n 3, 1) := by decide +kernel
theorem dX10_readNumber_86 : decode cX10_readNumber 86 = .ok (.iastore, 1) := by decide +kernel
theorem dX10_readNumber_87 : decode cX10_readNumber 87 = .ok (.iconst 1, 1) := by decide +kernel
theorem dX10_readNumber_88 : decode cX10_readNumber 88 = .ok (.ireturn, 1) := by decide +kernel
theorem dX10_readGoal_0 : decode cX10_readGoal 0 = .ok (.aload_n 0, 1) := by decide +kernel
theorem dX10_readGoal_1 : decode cX10_readGoal 1 = .ok (.getfield 80, 3) := by decide +kernel
theorem dX10_readGoal_4 : decode cX10_readGoal 4 = .ok (.aload_n 0, 1) := by decide +kernel
theorem dX10_readGoal_5 : decode cX10_readGoal 5 = .ok (.getfield 73, 3) := by decide +kernel
theorem dX10_readGoal_8 : decode cX10_readGoal 8 = .ok (.if_icmp .ge 18, 3) := by decide +kernel
theorem dX10_readGoal_11 : decode cX10_readGoal 11 = .ok (.aload_n 0, 1) := by decide +kernel
theorem dX10_readGoal_12 : decode cX10_readGoal 12 = .ok (.getfield 29, 3) := by decide +kernel
theorem dX10_readGoal_15 : decode cX10_readGoal 15 = .ok (.aload_n 0, 1) := by decide +kernel
theorem dX10_readGoal_16 : decode cX10_readGoal 16 = .ok (.getfield 80, 3) := by decide +kernel
theorem dX10_readGoal_19 : decode cX10_readGoal 19 = .ok (.iaload, 1) := by decide +kernel
theorem dX10_readGoal_20 : decode cX10_readGoal 20 = .ok (.bipush 48, 2) := by decide +kernel
theorem dX10_readGoal_22 : decode cX10_readGoal 22 = .ok (.isub, 1) := by decide +kernel
theorem dX10_readGoal_23 : decode cX10_readGoal 23 = .ok (.goto 5, 3) := by decide +kernel
theorem dX10_readGoal_26 : decode cX10_readGoal 26 = .ok (.bipush (-9), 2) := by decide +kernel
theorem dX10_readGoal_28 : decode cX10_readGoal 28 = .ok (.istore_n 3, 1) := by decide +kernel
theorem dX10_readGoal_29 : decode cX10_readGoal 29 = .ok (.iload_n 3, 1) := by decide +kernel
theorem dX10_readGoal_30 : decode cX10_readGoal 30 = .ok (.invokestatic 83, 3) := by decide +kernel
theorem dX10_readGoal_33 : decode cX10_readGoal 33 = .ok (.ifCond .eq 12, 3) := by decide +kernel
theorem dX10_readGoal_36 : decode cX10_readGoal 36 = .ok (.iload_n 2, 1) := by decide +kernel
theorem dX10_readGoal_37 : decode cX10_readGoal 37 = .ok (.ifCond .eq 10, 3) := by decide +kernel
theorem dX10_readGoal_40 : decode cX10_readGoal 40 = .ok (.iload_n 3, 1) := by decide +kernel
theorem dX10_readGoal_41 : decode cX10_readGoal 41 = .ok (.iconst 5, 1) := by decide +kernel
theorem dX10_readGoal_42 : decode cX10_readGoal 42 = .ok (.if_icmp .le 5, 3) := by decide +kernel
theorem dX10_readGoal_45 : decode cX10_readGoal 45 = .ok (.iconst 0, 1) := by decide +kernel
theorem dX10_readGoal_46 : decode cX10_readGoal 46 = .ok (.ireturn, 1) := by decide +kernel
theorem dX10_readGoal_47 : decode cX10_readGoal 47 = .ok (.aload_n 0, 1) := by decide +kernel
theorem dX10_readGoal_48 : decode cX10_readGoal 48 = .ok (.getfield 32, 3) := by decide +kernel
theorem dX10_readGoal_51 : decode cX10_readGoal 51 = .ok (.iload_n 1, 1) := by decide +kernel
theorem dX10_readGoal_52 : decode cX10_readGoal 52 = .ok (.iload_n 3, 1) := by decide +kernel
theorem dX10_readGoal_53 : decode cX10_readGoal 53 = .ok (.iastore, 1) := by decide +kernel
theorem dX10_readGoal_54 : decode cX10_readGoal 54 = .ok (.aload_n 0, 1) := by decide +kernel
theorem dX10_readGoal_55 : decode cX10_readGoal 55 = .ok (.dup, 1) := by decide +kernel
theorem dX10_readGoal_56 : decode cX10_readGoal 56 = .ok (.getfield 80, 3) := by decide +kernel
theorem dX10_readGoal_59 : decode cX10_readGoal 59 = .ok (.iconst 1, 1) := by decide +kernel
theorem dX10_readGoal_60 : decode cX10_readGoal 60 = .ok (.iadd, 1) := by decide +kernel
theorem dX10_readGoal_61 : decode cX10_readGoal 61 = .ok (.putfield 80, 3) := by decide +kernel
theorem dX10_readGoal_64 : decode cX10_readGoal 64 = .ok (.iconst 1, 1) := by decide +kernel
theorem dX10_readGoal_65 : decode cX10_readGoal 65 = .ok (.ireturn, 1) := by decide +kernel
theorem dX10_readCell_0 : decode cX10_readCell 0 = .ok (.aload_n 0, 1) := by decide +kernel
theorem dX10_readCell_1 : decode cX10_readCell 1 = .ok (.getfield 32, 3) := by decide +kernel
theorem dX10_readCell_4 : decode cX10_readCell 4 = .ok (.iconst 0, 1) := by decide +kernel
theorem dX10_readCell_5 : decode cX10_readCell 5 = .ok (.iaload, 1) := by decide +kernel
theorem dX10_readCell_6 : decode cX10_readCell 6 = .ok (.istore_n 1, 1) := by decide +kernel
theorem dX10_readCell_7 : decode cX10_readCell 7 = .ok (.iload_n 1, 1) := by decide +kernel
theorem dX10_readCell_8 : decode cX10_readCell 8 = .ok (.bipush 6, 2) := by decide +kernel
theorem dX10_readCell_10 : decode cX10_readCell 10 = .ok (.if_icmp .ge 74, 3) := by decide +kernel
theorem dX10_readCell_13 : decode cX10_readCell 13 = .ok (.aload_n 0, 1) := by decide +kernel
theorem dX10_readCell_14 : decode cX10_readCell 14 = .ok (.bipush 67, 2) := by decide +kernel
theorem dX10_readCell_16 : decode cX10_readCell 16 = .ok (.invokevirtual 86, 3) := by decide +kernel
theorem dX10_readCell_19 : decode cX10_readCell 19 = .ok (.ifCond .eq 65, 3) := by decide +kernel
theorem dX10_readCell_22 : decode cX10_readCell 22 = .ok (.aload_n 0, 1) := by decide +kernel
theorem dX10_readCell_23 : decode cX10_readCell 23 = .ok (.iconst 2, 1) := by decide +kernel
theorem dX10_readCell_24 : decode cX10_readCell 24 = .ok (.iconst 1, 1) := by decide +kernel
theorem dX10_readCell_25 : decode cX10_readCell 25 = .ok (.iconst 2, 1) := by decide +kernel
theorem dX10_readCell_26 : decode cX10_readCell 26 = .ok (.iload_n 1, 1) := by decide +kernel
theorem dX10_readCell_27 : decode cX10_readCell 27 = .ok (.imul, 1) := by decide +kernel
theorem dX10_readCell_28 : decode cX10_readCell 28 = .ok (.iadd, 1) := by decide +kernel
theorem dX10_readCell_29 : decode cX10_readCell 29 = .ok (.invokevirtual 89, 3) := by decide +kernel
theorem dX10_readCell_32 : decode cX10_readCell 32 = .ok (.ifCond .eq 52, 3) := by decide +kernel
theorem dX10_readCell_35 : decode cX10_readCell 35 = .ok (.aload_n 0, 1) := by decide +kernel
theorem dX10_readCell_36 : decode cX10_readCell 36 = .ok (.iconst 2, 1) := by decide +kernel
theorem dX10_readCell_37 : decode cX10_readCell 37 = .ok (.iconst 1, 1) := by decide +kernel
theorem dX10_readCell_38 : decode cX10_readCell 38 = .ok (.iconst 2, 1) := by decide +kernel
theorem dX10_readCell_39 : decode cX10_readCell 39 = .ok (.iload_n 1, 1) := by decide +kernel
theorem dX10_readCell_40 : decode cX10_readCell 40 = .ok (.imul, 1) := by decide +kernel
theorem dX10_readCell_41 : decode cX10_readCell 41 = .ok (.iadd, 1) := by decide +kernel
theorem dX10_readCell_42 : decode cX10_readCell 42 = .ok (.iconst 1, 1) := by decide +kernel
theorem dX10_readCell_43 : decode cX10_readCell 43 = .ok (.iadd, 1) := by decide +kernel
theorem dX10_readCell_44 : decode cX10_readCell 44 = .ok (.invokevirtual 89, 3) := by decide +kernel
theorem dX10_readCell_47 : decode cX10_readCell 47 = .ok (.ifCond .eq 37, 3) := by decide +kernel
theorem dX10_readCell_50 : decode cX10_readCell 50 = .ok (.aload_n 0, 1) := by decide +kernel
theorem dX10_readCell_51 : decode cX10_readCell 51 = .ok (.bipush 13, 2) := by decide +kernel
theorem dX10_readCell_53 : decode cX10_readCell 53 = .ok (.iconst 2, 1) := by decide +kernel
theorem dX10_readCell_54 : decode cX10_readCell 54 = .ok (.iload_n 1, 1) := by decide +kernel
theorem dX10_readCell_55 : decode cX10_readCell 55 = .ok (.imul, 1) := by decide +kernel
theorem dX10_readCell_56 : decode cX10_readCell 56 = .ok (.iadd, 1) := by decide +kernel
theorem dX10_readCell_57 : decode cX10_readCell 57 = .ok (.iconst 0, 1) := by decide +kernel
theorem dX10_readCell_58 : decode cX10_readCell 58 = .ok (.invokevirtual 93, 3) := by decide +kernel
theorem dX10_readCell_61 : decode cX10_readCell 61 = .ok (.ifCond .eq 23, 3) := by decide +kernel
theorem dX10_readCell_64 : decode cX10_readCell 64 = .ok (.aload_n 0, 1) := by decide +kernel
theorem dX10_readCell_65 : decode cX10_readCell 65 = .ok (.bipush 13, 2) := by decide +kernel
theorem dX10_readCell_67 : decode cX10_readCell 67 = .ok (.iconst 2, 1) := by decide +kernel
theorem dX10_readCell_68 : decode cX10_readCell 68 = .ok (.iload_n 1, 1) := by decide +kernel
theorem dX10_readCell_69 : decode cX10_readCell 69 = .ok (.imul, 1) := by decide +kernel
theorem dX10_readCell_70 : decode cX10_readCell 70 = .ok (.iadd, 1) := by decide +kernel
theorem dX10_readCell_71 : decode cX10_readCell 71 = .ok (.iconst 1, 1) := by decide +kernel
theorem dX10_readCell_72 : decode cX10_readCell 72 = .ok (.iadd, 1) := by decide +kernel
theorem dX10_readCell_73 : decode cX10_readCell 73 = .ok (.iconst 0, 1) := by decide +kernel
theorem dX10_readCell_74 : decode cX10_readCell 74 = .ok (.invokevirtual 93, 3) := by decide +kernel
theorem dX10_readCell_77 : decode cX10_readCell 77 = .ok (.ifCond .eq 7, 3) := by decide +kernel
theorem dX10_readCell_80 : decode cX10_readCell 80 = .ok (.iconst 1, 1) := by decide +kernel
theorem dX10_readCell_81 : decode cX10_readCell 81 = .ok (.goto 4, 3) := by decide +kernel
theorem dX10_readCell_84 : decode cX10_readCell 84 = .ok (.iconst 0, 1) := by decide +kernel
theorem dX10_readCell_85 : decode cX10_readCell 85 = .ok (.istore_n 2, 1) := by decide +kernel
theorem dX10_readCell_86 : decode cX10_readCell 86 = .ok (.aload_n 0, 1) := by decide +kernel
theorem dX10_readCell_87 : decode cX10_readCell 87 = .ok (.getfield 32, 3) := by decide +kernel
theorem dX10_readCell_90 : decode cX10_readCell 90 = .ok (.iconst 0, 1) := by decide +kernel
theorem dX10_readCell_91 : decode cX10_readCell 91 = .ok (.dup2, 1) := by decide +kernel
theorem dX10_readCell_92 : decode cX10_readCell 92 = .ok (.iaload, 1) := by decide +kernel
theorem dX10_readCell_93 : decode cX10_readCell 93 = .ok (.iload_n 2, 1) := by decide +kernel
theorem dX10_readCell_94 : decode cX10_readCell 94 = .ok (.ifCond .eq 7, 3) := by decide +kernel
theorem dX10_readCell_97 : decode cX10_readCell 97 = .ok (.iconst 1, 1) := by decide +kernel
theorem dX10_readCell_98 : decode cX10_readCell 98 = .ok (.goto 4, 3) := by decide +kernel
theorem dX10_readCell_101 : decode cX10_readCell 101 = .ok (.iconst 0, 1) := by decide +kernel
theorem dX10_readCell_102 : decode cX10_readCell 102 = .ok (.iadd, 1) := by decide +kernel
theorem dX10_readCell_103 : decode cX10_readCell 103 = .ok (.iastore, 1) := by decide +kernel
theorem dX10_readCell_104 : decode cX10_readCell 104 = .ok (.iload_n 2, 1) := by decide +kernel
theorem dX10_readCell_105 : decode cX10_readCell 105 = .ok (.ireturn, 1) := by decide +kernel
theorem dX10_readText_0 : decode cX10_readText 0 = .ok (.iconst 0, 1) := by decide +kernel
theorem dX10_readText_1 : decode cX10_readText 1 = .ok (.istore_n 1, 1) := by decide +kernel
theorem dX10_readText_2 : decode cX10_readText 2 = .ok (.iload_n 1, 1) := by decide +kernel
theorem dX10_readText_3 : decode cX10_readText 3 = .ok (.bipush 44, 2) := by decide +kernel
theorem dX10_readText_5 : decode cX10_readText 5 = .ok (.if_icmp .ge 16, 3) := by decide +kernel
theorem dX10_readText_8 : decode cX10_readText 8 = .ok (.aload_n 0, 1) := by decide +kernel
theorem dX10_readText_9 : decode cX10_readText 9 = .ok (.getfield 32, 3) := by decide +kernel
theorem dX10_readText_12 : decode cX10_readText 12 = .ok (.iload_n 1, 1) := by decide +kernel
theorem dX10_readText_13 : decode cX10_readText 13 = .ok (.iconst 0, 1) := by decide +kernel
theorem dX10_readText_14 : decode cX10_readText 14 = .ok (.iastore, 1) := by decide +kernel
theorem dX10_readText_15 : decode cX10_readText 15 = .ok (.iinc 1 1, 3) := by decide +kernel
theorem dX10_readText_18 : decode cX10_readText 18 = .ok (.goto (-16), 3) := by decide +kernel
theorem dX10_readText_21 : decode cX10_readText 21 = .ok (.aload_n 0, 1) := by decide +kernel
theorem dX10_readText_22 : decode cX10_readText 22 = .ok (.iconst 0, 1) := by decide +kernel
theorem dX10_readText_23 : decode cX10_readText 23 = .ok (.putfield 80, 3) := by decide +kernel
theorem dX10_readText_26 : decode cX10_readText 26 = .ok (.aload_n 0, 1) := by decide +kernel
theorem dX10_readText_27 : decode cX10_readText 27 = .ok (.bipush 70, 2) := by decide +kernel
theorem dX10_readText_29 : decode cX10_readText 29 = .ok (.invokevirtual 86, 3) := by decide +kernel
theorem dX10_readText_32 : decode cX10_readText 32 = .ok (.ifCond .eq 33, 3) := by decide +kernel
theorem dX10_readText_35 : decode cX10_readText 35 = .ok (.aload_n 0, 1) := by decide +kernel
theorem dX10_readText_36 : decode cX10_readText 36 = .ok (.bipush 25, 2) := by decide +kernel
theorem dX10_readText_38 : decode cX10_readText 38 = .ok (.iconst 1, 1) := by decide +kernel
theorem dX10_readText_39 : decode cX10_readText 39 = .ok (.invokevirtual 93, 3) := by decide +kernel
theorem dX10_readText_42 : decode cX10_readText 42 = .ok (.ifCond .eq 23, 3) := by decide +kernel
theorem dX10_readText_45 : decode cX10_readText 45 = .ok (.aload_n 0, 1) := by decide +kernel
theorem dX10_readText_46 : decode cX10_readText 46 = .ok (.iconst 3, 1) := by decide +kernel
theorem dX10_readText_47 : decode cX10_readText 47 = .ok (.bipush 26, 2) := by decide +kernel
theorem dX10_readText_49 : decode cX10_readText 49 = .ok (.invokevirtual 89, 3) := by decide +kernel
theorem dX10_readText_52 : decode cX10_readText 52 = .ok (.ifCond .eq 13, 3) := by decide +kernel
theorem dX10_readText_55 : decode cX10_readText 55 = .ok (.aload_n 0, 1) := by decide +kernel
theorem dX10_readText_56 : decode cX10_readText 56 = .ok (.iconst 3, 1) := by decide +kernel
theorem dX10_readText_57 : decode cX10_readText 57 = .ok (.bipush 27, 2) := by decide +kernel
theorem dX10_readText_59 : decode cX10_readText 59 = .ok (.invokevirtual 89, 3) := by decide +kernel
theorem dX10_readText_62 : decode cX10_readText 62 = .ok (.ifCond .ne 8, 3) := by decide +kernel
theorem dX10_readText_65 : decode cX10_readText 65 = .ok (.aload_n 0, 1) := by decide +kernel
theorem dX10_readText_66 : decode cX10_readText 66 = .ok (.getfield 80, 3) := by decide +kernel
theorem dX10_readText_69 : decode cX10_readText 69 = .ok (.ireturn, 1) := by decide +kernel
theorem dX10_readText_70 : decode cX10_readText 70 = .ok (.aload_n 0, 1) := by decide +kernel
theorem dX10_readText_71 : decode cX10_readText 71 = .ok (.getfield 80, 3) := by decide +kernel
theorem dX10_readText_74 : decode cX10_readText 74 = .ok (.aload_n 0, 1) := by decide +kernel
theorem dX10_readText_75 : decode cX10_readText 75 = .ok (.getfield 73, 3) := by decide +kernel
theorem dX10_readText_78 : decode cX10_readText 78 = .ok (.if_icmp .ge 15, 3) := by decide +kernel
theorem dX10_readText_81 : decode cX10_readText 81 = .ok (.aload_n 0, 1) := by decide +kernel
theorem dX10_readText_82 : decode cX10_readText 82 = .ok (.invokevirtual 97, 3) := by decide +kernel
theorem dX10_readText_85 : decode cX10_readText 85 = .ok (.ifCond .ne (-15), 3) := by decide +kernel
theorem dX10_readText_88 : decode cX10_readText 88 = .ok (.aload_n 0, 1) := by decide +kernel
theorem dX10_readText_89 : decode cX10_readText 89 = .ok (.getfield 80, 3) := by decide +kernel
theorem dX10_readText_92 : decode cX10_readText 92 = .ok (.ireturn, 1) := by decide +kernel
theorem dX10_readText_93 : decode cX10_readText 93 = .ok (.bipush (-9), 2) := by decide +kernel
theorem dX10_readText_95 : decode cX10_readText 95 = .ok (.ireturn, 1) := by decide +kernel
theorem dX10_errorPosition_0 : decode cX10_errorPosition 0 = .ok (.aload_n 0, 1) := by decide +kernel
theorem dX10_errorPosition_1 : decode cX10_errorPosition 1 = .ok (.iconst 0, 1) := by decide +kernel
theorem dX10_errorPosition_2 : decode cX10_errorPosition 2 = .ok (.putfield 51, 3) := by decide +kernel
theorem dX10_errorPosition_5 : decode cX10_errorPosition 5 = .ok (.aload_n 0, 1) := by decide +kernel
theorem dX10_errorPosition_6 : decode cX10_errorPosition 6 = .ok (.invokevirtual 101, 3) := by decide +kernel
theorem dX10_errorPosition_9 : decode cX10_errorPosition 9 = .ok (.ireturn, 1) := by decide +kernel
theorem dX10_load_0 : decode cX10_load 0 = .ok (.aload_n 0, 1) := by decide +kernel
theorem dX10_load_1 : decode cX10_load 1 = .ok (.aload_n 0, 1) := by decide +kernel
theorem dX10_load_2 : decode cX10_load 2 = .ok (.invokevirtual 101, 3) := by decide +kernel
theorem dX10_load_5 : decode cX10_load 5 = .ok (.bipush (-9), 2) := by decide +kernel
theorem dX10_load_7 : decode cX10_load 7 = .ok (.if_icmp .ne 7, 3) := by decide +kernel
theorem dX10_load_10 : decode cX10_load 10 = .ok (.iconst 0, 1) := by decide +kernel
theorem dX10_load_11 : decode cX10_load 11 = .ok (.goto 4, 3) := by decide +kernel
theorem dX10_load_14 : decode cX10_load 14 = .ok (.iconst 1, 1) := by decide +kernel
theorem dX10_load_15 : decode cX10_load 15 = .ok (.invokevirtual 76, 3) := by decide +kernel
theorem dX10_load_18 : decode cX10_load 18 = .ok (.ifCond .eq 5, 3) := by decide +kernel
theorem dX10_load_21 : decode cX10_load 21 = .ok (.iconst 0, 1) := by decide +kernel
theorem dX10_load_22 : decode cX10_load 22 = .ok (.ireturn, 1) := by decide +kernel
theorem dX10_load_23 : decode cX10_load 23 = .ok (.aload_n 0, 1) := by decide +kernel
theorem dX10_load_24 : decode cX10_load 24 = .ok (.getfield 32, 3) := by decide +kernel
theorem dX10_load_27 : decode cX10_load 27 = .ok (.aload_n 0, 1) := by decide +kernel
theorem dX10_load_28 : decode cX10_load 28 = .ok (.getfield 7, 3) := by decide +kernel
theorem dX10_load_31 : decode cX10_load 31 = .ok (.invokestatic 105, 3) := by decide +kernel
theorem dX10_load_34 : decode cX10_load 34 = .ok (.aload_n 0, 1) := by decide +kernel
theorem dX10_load_35 : decode cX10_load 35 = .ok (.iconst 0, 1) := by decide +kernel
theorem dX10_load_36 : decode cX10_load 36 = .ok (.putfield 68, 3) := by decide +kernel
theorem dX10_load_39 : decode cX10_load 39 = .ok (.aload_n 0, 1) := by decide +kernel
theorem dX10_load_40 : decode cX10_load 40 = .ok (.getfield 25, 3) := by decide +kernel
theorem dX10_load_43 : decode cX10_load 43 = .ok (.iconst 0, 1) := by decide +kernel
theorem dX10_load_44 : decode cX10_load 44 = .ok (.iconst 0, 1) := by decide +kernel
theorem dX10_load_45 : decode cX10_load 45 = .ok (.bastore, 1) := by decide +kernel
theorem dX10_load_46 : decode cX10_load 46 = .ok (.aload_n 0, 1) := by decide +kernel
theorem dX10_load_47 : decode cX10_load 47 = .ok (.getfield 25, 3) := by decide +kernel
theorem dX10_load_50 : decode cX10_load 50 = .ok (.iconst 1, 1) := by decide +kernel
theorem dX10_load_51 : decode cX10_load 51 = .ok (.iconst 0, 1) := by decide +kernel
theorem dX10_load_52 : decode cX10_load 52 = .ok (.bastore, 1) := by decide +kernel
theorem dX10_load_53 : decode cX10_load 53 = .ok (.aload_n 0, 1) := by decide +kernel
theorem dX10_load_54 : decode cX10_load 54 = .ok (.getfield 7, 3) := by decide +kernel
theorem dX10_load_57 : decode cX10_load 57 = .ok (.iconst 0, 1) := by decide +kernel
theorem dX10_load_58 : decode cX10_load 58 = .ok (.iaload, 1) := by decide +kernel
theorem dX10_load_59 : decode cX10_load 59 = .ok (.ireturn, 1) := by decide +kernel
theorem dX10_cellCount_0 : decode cX10_cellCount 0 = .ok (.aload_n 0, 1) := by decide +kernel
theorem dX10_cellCount_1 : decode cX10_cellCount 1 = .ok (.iconst 0, 1) := by decide +kernel
theorem dX10_cellCount_2 : decode cX10_cellCount 2 = .ok (.putfield 51, 3) := by decide +kernel
theorem dX10_cellCount_5 : decode cX10_cellCount 5 = .ok (.aload_n 0, 1) := by decide +kernel
theorem dX10_cellCount_6 : decode cX10_cellCount 6 = .ok (.getfield 7, 3) := by decide +kernel
theorem dX10_cellCount_9 : decode cX10_cellCount 9 = .ok (.iconst 0, 1) := by decide +kernel
theorem dX10_cellCount_10 : decode cX10_cellCount 10 = .ok (.iaload, 1) := by decide +kernel
theorem dX10_cellCount_11 : decode cX10_cellCount 11 = .ok (.ireturn, 1) := by decide +kernel
theorem dX10_recovery_0 : decode cX10_recovery 0 = .ok (.aload_n 0, 1) := by decide +kernel
theorem dX10_recovery_1 : decode cX10_recovery 1 = .ok (.aload_n 0, 1) := by decide +kernel
theorem dX10_recovery_2 : decode cX10_recovery 2 = .ok (.iload_n 1, 1) := by decide +kernel
theorem dX10_recovery_3 : decode cX10_recovery 3 = .ok (.invokevirtual 109, 3) := by decide +kernel
theorem dX10_recovery_6 : decode cX10_recovery 6 = .ok (.ifCond .eq 14, 3) := by decide +kernel
theorem dX10_recovery_9 : decode cX10_recovery 9 = .ok (.iload_n 2, 1) := by decide +kernel
theorem dX10_recovery_10 : decode cX10_recovery 10 = .ok (.invokestatic 112, 3) := by decide +kernel
theorem dX10_recovery_13 : decode cX10_recovery 13 = .ok (.ifCond .eq 7, 3) := by decide +kernel
theorem dX10_recovery_16 : decode cX10_recovery 16 = .ok (.iconst 0, 1) := by decide +kernel
theorem dX10_recovery_17 : decode cX10_recovery 17 = .ok (.goto 4, 3) := by decide +kernel
theorem dX10_recovery_20 : decode cX10_recovery 20 = .ok (.iconst 1, 1) := by decide +kernel
theorem dX10_recovery_21 : decode cX10_recovery 21 = .ok (.invokevirtual 76, 3) := by decide +kernel
theorem dX10_recovery_24 : decode cX10_recovery 24 = .ok (.ifCond .eq 5, 3) := by decide +kernel
theorem dX10_recovery_27 : decode cX10_recovery 27 = .ok (.iconst 0, 1) := by decide +kernel
theorem dX10_recovery_28 : decode cX10_recovery 28 = .ok (.ireturn, 1) := by decide +kernel
theorem dX10_recovery_29 : decode cX10_recovery 29 = .ok (.aload_n 0, 1) := by decide +kernel
theorem dX10_recovery_30 : decode cX10_recovery 30 = .ok (.getfield 7, 3) := by decide +kernel
theorem dX10_recovery_33 : decode cX10_recovery 33 = .ok (.iconst 1, 1) := by decide +kernel
theorem dX10_recovery_34 : decode cX10_recovery 34 = .ok (.iconst 2, 1) := by decide +kernel
theorem dX10_recovery_35 : decode cX10_recovery 35 = .ok (.iload_n 1, 1) := by decide +kernel
theorem dX10_recovery_36 : decode cX10_recovery 36 = .ok (.imul, 1) := by decide +kernel
theorem dX10_recovery_37 : decode cX10_recovery 37 = .ok (.iadd, 1) := by decide +kernel
theorem dX10_recovery_38 : decode cX10_recovery 38 = .ok (.iload_n 2, 1) := by decide +kernel
theorem dX10_recovery_39 : decode cX10_recovery 39 = .ok (.iadd, 1) := by decide +kernel
theorem dX10_recovery_40 : decode cX10_recovery 40 = .ok (.iaload, 1) := by decide +kernel
theorem dX10_recovery_41 : decode cX10_recovery 41 = .ok (.ireturn, 1) := by decide +kernel
theorem dX10_destination_0 : decode cX10_destination 0 = .ok (.aload_n 0, 1) := by decide +kernel
theorem dX10_destination_1 : decode cX10_destination 1 = .ok (.aload_n 0, 1) := by decide +kernel
theorem dX10_destination_2 : decode cX10_destination 2 = .ok (.iload_n 1, 1) := by decide +kernel
theorem dX10_destination_3 : decode cX10_destination 3 = .ok (.invokevirtual 109, 3) := by decide +kernel
theorem dX10_destination_6 : decode cX10_destination 6 = .ok (.ifCond .eq 14, 3) := by decide +kernel
theorem dX10_destination_9 : decode cX10_destination 9 = .ok (.iload_n 2, 1) := by decide +kernel
theorem dX10_destination_10 : decode cX10_destination 10 = .ok (.invokestatic 112, 3) := by decide +kernel
theorem dX10_destination_13 : decode cX10_destination 13 = .ok (.ifCond .eq 7, 3) := by decide +kernel
theorem dX10_destination_16 : decode cX10_destination 16 = .ok (.iconst 0, 1) := by decide +kernel
theorem dX10_destination_17 : decode cX10_destination 17 = .ok (.goto 4, 3) := by decide +kernel
theorem dX10_destination_20 : decode cX10_destination 20 = .ok (.iconst 1, 1) := by decide +kernel
theorem dX10_destination_21 : decode cX10_destination 21 = .ok (.invokevirtual 76, 3) := by decide +kernel
theorem dX10_destination_24 : decode cX10_destination 24 = .ok (.ifCond .eq 5, 3) := by decide +kernel
theorem dX10_destination_27 : decode cX10_destination 27 = .ok (.iconst 0, 1) := by decide +kernel
theorem dX10_destination_28 : decode cX10_destination 28 = .ok (.ireturn, 1) := by decide +kernel
theorem dX10_destination_29 : decode cX10_destination 29 = .ok (.aload_n 0, 1) := by decide +kernel
theorem dX10_destination_30 : decode cX10_destination 30 = .ok (.getfield 7, 3) := by decide +kernel
theorem dX10_destination_33 : decode cX10_destination 33 = .ok (.bipush 13, 2) := by decide +kernel
theorem dX10_destination_35 : decode cX10_destination 35 = .ok (.iconst 2, 1) := by decide +kernel
theorem dX10_destination_36 : decode cX10_destination 36 = .ok (.iload_n 1, 1) := by decide +kernel
theorem dX10_destination_37 : decode cX10_destination 37 = .ok (.imul, 1) := by decide +kernel
theorem dX10_destination_38 : decode cX10_destination 38 = .ok (.iadd, 1) := by decide +kernel
theorem dX10_destination_39 : decode cX10_destination 39 = .ok (.iload_n 2, 1) := by decide +kernel
theorem dX10_destination_40 : decode cX10_destination 40 = .ok (.iadd, 1) := by decide +kernel
theorem dX10_destination_41 : decode cX10_destination 41 = .ok (.iaload, 1) := by decide +kernel
theorem dX10_destination_42 : decode cX10_destination 42 = .ok (.ireturn, 1) := by decide +kernel
theorem dX10_feedCell_0 : decode cX10_feedCell 0 = .ok (.aload_n 0, 1) := by decide +kernel
theorem dX10_feedCell_1 : decode cX10_feedCell 1 = .ok (.iconst 0, 1) := by decide +kernel
theorem dX10_feedCell_2 : decode cX10_feedCell 2 = .ok (.putfield 51, 3) := by decide +kernel
theorem dX10_feedCell_5 : decode cX10_feedCell 5 = .ok (.aload_n 0, 1) := by decide +kernel
theorem dX10_feedCell_6 : decode cX10_feedCell 6 = .ok (.getfield 7, 3) := by decide +kernel
theorem dX10_feedCell_9 : decode cX10_feedCell 9 = .ok (.bipush 25, 2) := by decide +kernel
theorem dX10_feedCell_11 : decode cX10_feedCell 11 = .ok (.iaload, 1) := by decide +kernel
theorem dX10_feedCell_12 : decode cX10_feedCell 12 = .ok (.ireturn, 1) := by decide +kernel
theorem dX10_feedAmount_0 : decode cX10_feedAmount 0 = .ok (.aload_n 0, 1) := by decide +kernel
theorem dX10_feedAmount_1 : decode cX10_feedAmount 1 = .ok (.iload_n 1, 1) := by decide +kernel
theorem dX10_feedAmount_2 : decode cX10_feedAmount 2 = .ok (.invokestatic 112, 3) := by decide +kernel
theorem dX10_feedAmount_5 : decode cX10_feedAmount 5 = .ok (.ifCond .eq 7, 3) := by decide +kernel
theorem dX10_feedAmount_8 : decode cX10_feedAmount 8 = .ok (.iconst 0, 1) := by decide +kernel
theorem dX10_feedAmount_9 : decode cX10_feedAmount 9 = .ok (.goto 4, 3) := by decide +kernel
theorem dX10_feedAmount_12 : decode cX10_feedAmount 12 = .ok (.iconst 1, 1) := by decide +kernel
theorem dX10_feedAmount_13 : decode cX10_feedAmount 13 = .ok (.invokevirtual 76, 3) := by decide +kernel
theorem dX10_feedAmount_16 : decode cX10_feedAmount 16 = .ok (.ifCond .eq 5, 3) := by decide +kernel
theorem dX10_feedAmount_19 : decode cX10_feedAmount 19 = .ok (.iconst 0, 1) := by decide +kernel
theorem dX10_feedAmount_20 : decode cX10_feedAmount 20 = .ok (.ireturn, 1) := by decide +kernel
theorem dX10_feedAmount_21 : decode cX10_feedAmount 21 = .ok (.aload_n 0, 1) := by decide +kernel
theorem dX10_feedAmount_22 : decode cX10_feedAmount 22 = .ok (.getfield 7, 3) := by decide +kernel
theorem dX10_feedAmount_25 : decode cX10_feedAmount 25 = .ok (.bipush 26, 2) := by decide +kernel
theorem dX10_feedAmount_27 : decode cX10_feedAmount 27 = .ok (.iload_n 1, 1) := by decide +kernel
theorem dX10_feedAmount_28 : decode cX10_feedAmount 28 = .ok (.iadd, 1) := by decide +kernel
theorem dX10_feedAmount_29 : decode cX10_feedAmount 29 = .ok (.iaload, 1) := by decide +kernel
theorem dX10_feedAmount_30 : decode cX10_feedAmount 30 = .ok (.ireturn, 1) := by decide +kernel
theorem dX10_addCell_0 : decode cX10_addCell 0 = .ok (.iload_n 1, 1) := by decide +kernel
theorem dX10_addCell_1 : decode cX10_addCell 1 = .ok (.i2l, 1) := by decide +kernel
theorem dX10_addCell_2 : decode cX10_addCell 2 = .ok (.lconst 0, 1) := by decide +kernel
theorem dX10_addCell_3 : decode cX10_addCell 3 = .ok (.ldc2_w 115, 3) := by decide +kernel
theorem dX10_addCell_6 : decode cX10_addCell 6 = .ok (.invokestatic 55, 3) := by decide +kernel
theorem dX10_addCell_9 : decode cX10_addCell 9 = .ok (.ifCond .eq 34, 3) := by decide +kernel
theorem dX10_addCell_12 : decode cX10_addCell 12 = .ok (.iload_n 2, 1) := by decide +kernel
theorem dX10_addCell_13 : decode cX10_addCell 13 = .ok (.i2l, 1) := by decide +kernel
theorem dX10_addCell_14 : decode cX10_addCell 14 = .ok (.lconst 0, 1) := by decide +kernel
theorem dX10_addCell_15 : decode cX10_addCell 15 = .ok (.ldc2_w 115, 3) := by decide +kernel
theorem dX10_addCell_18 : decode cX10_addCell 18 = .ok (.invokestatic 55, 3) := by decide +kernel
theorem dX10_addCell_21 : decode cX10_addCell 21 = .ok (.ifCond .eq 22, 3) := by decide +kernel
theorem dX10_addCell_24 : decode cX10_addCell 24 = .ok (.iload_n 3, 1) := by decide +kernel
theorem dX10_addCell_25 : decode cX10_addCell 25 = .ok (.invokestatic 83, 3) := by decide +kernel
theorem dX10_addCell_28 : decode cX10_addCell 28 = .ok (.ifCond .eq 15, 3) := by decide +kernel
theorem dX10_addCell_31 : decode cX10_addCell 31 = .ok (.iload 4, 2) := by decide +kernel
theorem dX10_addCell_33 : decode cX10_addCell 33 = .ok (.invokestatic 83, 3) := by decide +kernel
theorem dX10_addCell_36 : decode cX10_addCell 36 = .ok (.ifCond .eq 7, 3) := by decide +kernel
theorem dX10_addCell_39 : decode cX10_addCell 39 = .ok (.iconst 1, 1) := by decide +kernel
theorem dX10_addCell_40 : decode cX10_addCell 40 = .ok (.goto 4, 3) := by decide +kernel
theorem dX10_addCell_43 : decode cX10_addCell 43 = .ok (.iconst 0, 1) := by decide +kernel
theorem dX10_addCell_44 : decode cX10_addCell 44 = .ok (.istore 5, 2) := by decide +kernel
theorem dX10_addCell_46 : decode cX10_addCell 46 = .ok (.aload_n 0, 1) := by decide +kernel
theorem dX10_addCell_47 : decode cX10_addCell 47 = .ok (.iload 5, 2) := by decide +kernel
theorem dX10_addCell_49 : decode cX10_addCell 49 = .ok (.ifCond .ne 7, 3) := by decide +kernel
theorem dX10_addCell_52 : decode cX10_addCell 52 = .ok (.iconst 1, 1) := by decide +kernel
theorem dX10_addCell_53 : decode cX10_addCell 53 = .ok (.goto 19, 3) := by decide +kernel
theorem dX10_addCell_56 : decode cX10_addCell 56 = .ok (.aload_n 0, 1) := by decide +kernel
theorem dX10_addCell_57 : decode cX10_addCell 57 = .ok (.getfield 7, 3) := by decide +kernel
theorem dX10_addCell_60 : decode cX10_addCell 60 = .ok (.iconst 0, 1) := by decide +kernel
theorem dX10_addCell_61 : decode cX10_addCell 61 = .ok (.iaload, 1) := by decide +kernel
theorem dX10_addCell_62 : decode cX10_addCell 62 = .ok (.bipush 6, 2) := by decide +kernel
theorem dX10_addCell_64 : decode cX10_addCell 64 = .ok (.if_icmp .ne 7, 3) := by decide +kernel
theorem dX10_addCell_67 : decode cX10_addCell 67 = .ok (.iconst 2, 1) := by decide +kernel
theorem dX10_addCell_68 : decode cX10_addCell 68 = .ok (.goto 4, 3) := by decide +kernel
theorem dX10_addCell_71 : decode cX10_addCell 71 = .ok (.iconst 0, 1) := by decide +kernel
theorem dX10_addCell_72 : decode cX10_addCell 72 = .ok (.invokevirtual 76, 3) := by decide +kernel
theorem dX10_addCell_75 : decode cX10_addCell 75 = .ok (.ifCond .eq 5, 3) := by decide +kernel
theorem dX10_addCell_78 : decode cX10_addCell 78 = .ok (.iconst 0, 1) := by decide +kernel
theorem dX10_addCell_79 : decode cX10_addCell 79 = .ok (.ireturn, 1) := by decide +kernel
theorem dX10_addCell_80 : decode cX10_addCell 80 = .ok (.aload_n 0, 1) := by decide +kernel
theorem dX10_addCell_81 : decode cX10_addCell 81 = .ok (.invokevirtual 117, 3) := by decide +kernel
theorem dX10_addCell_84 : decode cX10_addCell 84 = .ok (.aload_n 0, 1) := by decide +kernel
theorem dX10_addCell_85 : decode cX10_addCell 85 = .ok (.getfield 7, 3) := by decide +kernel
theorem dX10_addCell_88 : decode cX10_addCell 88 = .ok (.iconst 0, 1) := by decide +kernel
theorem dX10_addCell_89 : decode cX10_addCell 89 = .ok (.iaload, 1) := by decide +kernel
theorem dX10_addCell_90 : decode cX10_addCell 90 = .ok (.istore 6, 2) := by decide +kernel
theorem dX10_addCell_92 : decode cX10_addCell 92 = .ok (.aload_n 0, 1) := by decide +kernel
theorem dX10_addCell_93 : decode cX10_addCell 93 = .ok (.getfield 7, 3) := by decide +kernel
theorem dX10_addCell_96 : decode cX10_addCell 96 = .ok (.iconst 1, 1) := by decide +kernel
theorem dX10_addCell_97 : decode cX10_addCell 97 = .ok (.iconst 2, 1) := by decide +kernel
theorem dX10_addCell_98 : decode cX10_addCell 98 = .ok (.iload 6, 2) := by decide +kernel
theorem dX10_addCell_100 : decode cX10_addCell 100 = .ok (.imul, 1) := by decide +kernel
theorem dX10_addCell_101 : decode cX10_addCell 101 = .ok (.iadd, 1) := by decide +kernel
theorem dX10_addCell_102 : decode cX10_addCell 102 = .ok (.iload_n 1, 1) := by decide +kernel
theorem dX10_addCell_103 : decode cX10_addCell 103 = .ok (.iastore, 1) := by decide +kernel
theorem dX10_addCell_104 : decode cX10_addCell 104 = .ok (.aload_n 0, 1) := by decide +kernel
theorem dX10_addCell_105 : decode cX10_addCell 105 = .ok (.getfield 7, 3) := by decide +kernel
theorem dX10_addCell_108 : decode cX10_addCell 108 = .ok (.iconst 1, 1) := by decide +kernel
theorem dX10_addCell_109 : decode cX10_addCell 109 = .ok (.iconst 2, 1) := by decide +kernel
theorem dX10_addCell_110 : decode cX10_addCell 110 = .ok (.iload 6, 2) := by decide +kernel
theorem dX10_addCell_112 : decode cX10_addCell 112 = .ok (.imul, 1) := by decide +kernel
theorem dX10_addCell_113 : decode cX10_addCell 113 = .ok (.iadd, 1) := by decide +kernel
theorem dX10_addCell_114 : decode cX10_addCell 114 = .ok (.iconst 1, 1) := by decide +kernel
theorem dX10_addCell_115 : decode cX10_addCell 115 = .ok (.iadd, 1) := by decide +kernel
theorem dX10_addCell_116 : decode cX10_addCell 116 = .ok (.iload_n 2, 1) := by decide +kernel
theorem dX10_addCell_117 : decode cX10_addCell 117 = .ok (.iastore, 1) := by decide +kernel
theorem dX10_addCell_118 : decode cX10_addCell 118 = .ok (.aload_n 0, 1) := by decide +kernel
theorem dX10_addCell_119 : decode cX10_addCell 119 = .ok (.getfield 7, 3) := by decide +kernel
theorem dX10_addCell_122 : decode cX10_addCell 122 = .ok (.bipush 13, 2) := by decide +kernel
theorem dX10_addCell_124 : decode cX10_addCell 124 = .ok (.iconst 2, 1) := by decide +kernel
theorem dX10_addCell_125 : decode cX10_addCell 125 = .ok (.iload 6, 2) := by decide +kernel
theorem dX10_addCell_127 : decode cX10_addCell 127 = .ok (.imul, 1) := by decide +kernel
theorem dX10_addCell_128 : decode cX10_addCell 128 = .ok (.iadd, 1) := by decide +kernel
theorem dX10_addCell_129 : decode cX10_addCell 129 = .ok (.iload_n 3, 1) := by decide +kernel
theorem dX10_addCell_130 : decode cX10_addCell 130 = .ok (.iastore, 1) := by decide +kernel
theorem dX10_addCell_131 : decode cX10_addCell 131 = .ok (.aload_n 0, 1) := by decide +kernel
theorem dX10_addCell_132 : decode cX10_addCell 132 = .ok (.getfield 7, 3) := by decide +kernel
theorem dX10_addCell_135 : decode cX10_addCell 135 = .ok (.bipush 13, 2) := by decide +kernel
theorem dX10_addCell_137 : decode cX10_addCell 137 = .ok (.iconst 2, 1) := by decide +kernel
theorem dX10_addCell_138 : decode cX10_addCell 138 = .ok (.iload 6, 2) := by decide +kernel
theorem dX10_addCell_140 : decode cX10_addCell 140 = .ok (.imul, 1) := by decide +kernel
theorem dX10_addCell_141 : decode cX10_addCell 141 = .ok (.iadd, 1) := by decide +kernel
theorem dX10_addCell_142 : decode cX10_addCell 142 = .ok (.iconst 1, 1) := by decide +kernel
theorem dX10_addCell_143 : decode cX10_addCell 143 = .ok (.iadd, 1) := by decide +kernel
theorem dX10_addCell_144 : decode cX10_addCell 144 = .ok (.iload 4, 2) := by decide +kernel
theorem dX10_addCell_146 : decode cX10_addCell 146 = .ok (.iastore, 1) := by decide +kernel
theorem dX10_addCell_147 : decode cX10_addCell 147 = .ok (.aload_n 0, 1) := by decide +kernel
theorem dX10_addCell_148 : decode cX10_addCell 148 = .ok (.getfield 7, 3) := by decide +kernel
theorem dX10_addCell_151 : decode cX10_addCell 151 = .ok (.iconst 0, 1) := by decide +kernel
theorem dX10_addCell_152 : decode cX10_addCell 152 = .ok (.dup2, 1) := by decide +kernel
theorem dX10_addCell_153 : decode cX10_addCell 153 = .ok (.iaload, 1) := by decide +kernel
theorem dX10_addCell_154 : decode cX10_addCell 154 = .ok (.iconst 1, 1) := by decide +kernel
theorem dX10_addCell_155 : decode cX10_addCell 155 = .ok (.iadd, 1) := by decide +kernel
theorem dX10_addCell_156 : decode cX10_addCell 156 = .ok (.iastore, 1) := by decide +kernel
theorem dX10_addCell_157 : decode cX10_addCell 157 = .ok (.iload 6, 2) := by decide +kernel
theorem dX10_addCell_159 : decode cX10_addCell 159 = .ok (.ireturn, 1) := by decide +kernel
theorem dX10_removeLastCell_0 : decode cX10_removeLastCell 0 = .ok (.aload_n 0, 1) := by decide +kernel
theorem dX10_removeLastCell_1 : decode cX10_removeLastCell 1 = .ok (.aload_n 0, 1) := by decide +kernel
theorem dX10_removeLastCell_2 : decode cX10_removeLastCell 2 = .ok (.getfield 7, 3) := by decide +kernel
theorem dX10_removeLastCell_5 : decode cX10_removeLastCell 5 = .ok (.iconst 0, 1) := by decide +kernel
theorem dX10_removeLastCell_6 : decode cX10_removeLastCell 6 = .ok (.iaload, 1) := by decide +kernel
theorem dX10_removeLastCell_7 : decode cX10_removeLastCell 7 = .ok (.ifCond .ne 7, 3) := by decide +kernel
theorem dX10_removeLastCell_10 : decode cX10_removeLastCell 10 = .ok (.iconst 1, 1) := by decide +kernel
theorem dX10_removeLastCell_11 : decode cX10_removeLastCell 11 = .ok (.goto 4, 3) := by decide +kernel
theorem dX10_removeLastCell_14 : decode cX10_removeLastCell 14 = .ok (.iconst 0, 1) := by decide +kernel
theorem dX10_removeLastCell_15 : decode cX10_removeLastCell 15 = .ok (.invokevirtual 76, 3) := by decide +kernel
theorem dX10_removeLastCell_18 : decode cX10_removeLastCell 18 = .ok (.ifCond .eq 5, 3) := by decide +kernel
theorem dX10_removeLastCell_21 : decode cX10_removeLastCell 21 = .ok (.iconst 0, 1) := by decide +kernel
theorem dX10_removeLastCell_22 : decode cX10_removeLastCell 22 = .ok (.ireturn, 1) := by decide +kernel
theorem dX10_removeLastCell_23 : decode cX10_removeLastCell 23 = .ok (.aload_n 0, 1) := by decide +kernel
theorem dX10_removeLastCell_24 : decode cX10_removeLastCell 24 = .ok (.invokevirtual 117, 3) := by decide +kernel
theorem dX10_removeLastCell_27 : decode cX10_removeLastCell 27 = .ok (.aload_n 0, 1) := by decide +kernel
theorem dX10_removeLastCell_28 : decode cX10_removeLastCell 28 = .ok (.getfield 7, 3) := by decide +kernel
theorem dX10_removeLastCell_31 : decode cX10_removeLastCell 31 = .ok (.iconst 0, 1) := by decide +kernel
theorem dX10_removeLastCell_32 : decode cX10_removeLastCell 32 = .ok (.dup2, 1) := by decide +kernel
theorem dX10_removeLastCell_33 : decode cX10_removeLastCell 33 = .ok (.iaload, 1) := by decide +kernel
theorem dX10_removeLastCell_34 : decode cX10_removeLastCell 34 = .ok (.iconst 1, 1) := by decide +kernel
theorem dX10_removeLastCell_35 : decode cX10_removeLastCell 35 = .ok (.isub, 1) := by decide +kernel
theorem dX10_removeLastCell_36 : decode cX10_removeLastCell 36 = .ok (.iastore, 1) := by decide +kernel
theorem dX10_removeLastCell_37 : decode cX10_removeLastCell 37 = .ok (.aload_n 0, 1) := by decide +kernel
theorem dX10_removeLastCell_38 : decode cX10_removeLastCell 38 = .ok (.getfield 7, 3) := by decide +kernel
theorem dX10_removeLastCell_41 : decode cX10_removeLastCell 41 = .ok (.iconst 0, 1) := by decide +kernel
theorem dX10_removeLastCell_42 : decode cX10_removeLastCell 42 = .ok (.iaload, 1) := by decide +kernel
theorem dX10_removeLastCell_43 : decode cX10_removeLastCell 43 = .ok (.istore_n 1, 1) := by decide +kernel
theorem dX10_removeLastCell_44 : decode cX10_removeLastCell 44 = .ok (.iconst 0, 1) := by decide +kernel
theorem dX10_removeLastCell_45 : decode cX10_removeLastCell 45 = .ok (.istore_n 2, 1) := by decide +kernel
theorem dX10_removeLastCell_46 : decode cX10_removeLastCell 46 = .ok (.iload_n 2, 1) := by decide +kernel
theorem dX10_removeLastCell_47 : decode cX10_removeLastCell 47 = .ok (.iconst 2, 1) := by decide +kernel
theorem dX10_removeLastCell_48 : decode cX10_removeLastCell 48 = .ok (.if_icmp .ge 50, 3) := by decide +kernel
theorem dX10_removeLastCell_51 : decode cX10_removeLastCell 51 = .ok (.aload_n 0, 1) := by decide +kernel
theorem dX10_removeLastCell_52 : decode cX10_removeLastCell 52 = .ok (.getfield 7, 3) := by decide +kernel
theorem dX10_removeLastCell_55 : decode cX10_removeLastCell 55 = .ok (.iconst 1, 1) := by decide +kernel
theorem dX10_removeLastCell_56 : decode cX10_removeLastCell 56 = .ok (.iconst 2, 1) := by decide +kernel
theorem dX10_removeLastCell_57 : decode cX10_removeLastCell 57 = .ok (.iload_n 1, 1) := by decide +kernel
theorem dX10_removeLastCell_58 : decode cX10_removeLastCell 58 = .ok (.imul, 1) := by decide +kernel
theorem dX10_removeLastCell_59 : decode cX10_removeLastCell 59 = .ok (.iadd, 1) := by decide +kernel
theorem dX10_removeLastCell_60 : decode cX10_removeLastCell 60 = .ok (.iload_n 2, 1) := by decide +kernel
theorem dX10_removeLastCell_61 : decode cX10_removeLastCell 61 = .ok (.iadd, 1) := by decide +kernel
theorem dX10_removeLastCell_62 : decode cX10_removeLastCell 62 = .ok (.iconst 0, 1) := by decide +kernel
theorem dX10_removeLastCell_63 : decode cX10_removeLastCell 63 = .ok (.iastore, 1) := by decide +kernel
theorem dX10_removeLastCell_64 : decode cX10_removeLastCell 64 = .ok (.aload_n 0, 1) := by decide +kernel
theorem dX10_removeLastCell_65 : decode cX10_removeLastCell 65 = .ok (.getfield 7, 3) := by decide +kernel
theorem dX10_removeLastCell_68 : decode cX10_removeLastCell 68 = .ok (.bipush 13, 2) := by decide +kernel
theorem dX10_removeLastCell_70 : decode cX10_removeLastCell 70 = .ok (.iconst 2, 1) := by decide +kernel
theorem dX10_removeLastCell_71 : decode cX10_removeLastCell 71 = .ok (.iload_n 1, 1) := by decide +kernel
theorem dX10_removeLastCell_72 : decode cX10_removeLastCell 72 = .ok (.imul, 1) := by decide +kernel
theorem dX10_removeLastCell_73 : decode cX10_removeLastCell 73 = .ok (.iadd, 1) := by decide +kernel
theorem dX10_removeLastCell_74 : decode cX10_removeLastCell 74 = .ok (.iload_n 2, 1) := by decide +kernel
theorem dX10_removeLastCell_75 : decode cX10_removeLastCell 75 = .ok (.iadd, 1) := by decide +kernel
theorem dX10_removeLastCell_76 : decode cX10_removeLastCell 76 = .ok (.iconst 0, 1) := by decide +kernel
theorem dX10_removeLastCell_77 : decode cX10_removeLastCell 77 = .ok (.iastore, 1) := by decide +kernel
theorem dX10_removeLastCell_78 : decode cX10_removeLastCell 78 = .ok (.aload_n 0, 1) := by decide +kernel
theorem dX10_removeLastCell_79 : decode cX10_removeLastCell 79 = .ok (.getfield 7, 3) := by decide +kernel
theorem dX10_removeLastCell_82 : decode cX10_removeLastCell 82 = .ok (.bipush 28, 2) := by decide +kernel
theorem dX10_removeLastCell_84 : decode cX10_removeLastCell 84 = .ok (.iconst 2, 1) := by decide +kernel
theorem dX10_removeLastCell_85 : decode cX10_removeLastCell 85 = .ok (.iload_n 1, 1) := by decide +kernel
theorem dX10_removeLastCell_86 : decode cX10_removeLastCell 86 = .ok (.imul, 1) := by decide +kernel
theorem dX10_removeLastCell_87 : decode cX10_removeLastCell 87 = .ok (.iadd, 1) := by decide +kernel
theorem dX10_removeLastCell_88 : decode cX10_removeLastCell 88 = .ok (.iload_n 2, 1) := by decide +kernel
theorem dX10_removeLastCell_89 : decode cX10_removeLastCell 89 = .ok (.iadd, 1) := by decide +kernel
theorem dX10_removeLastCell_90 : decode cX10_removeLastCell 90 = .ok (.iconst 0, 1) := by decide +kernel
theorem dX10_removeLastCell_91 : decode cX10_removeLastCell 91 = .ok (.iastore, 1) := by decide +kernel
theorem dX10_removeLastCell_92 : decode cX10_removeLastCell 92 = .ok (.iinc 2 1, 3) := by decide +kernel
theorem dX10_removeLastCell_95 : decode cX10_removeLastCell 95 = .ok (.goto (-49), 3) := by decide +kernel
theorem dX10_removeLastCell_98 : decode cX10_removeLastCell 98 = .ok (.iload_n 1, 1) := by decide +kernel
theorem dX10_removeLastCell_99 : decode cX10_removeLastCell 99 = .ok (.ireturn, 1) := by decide +kernel
theorem dX10_setRecovery_0 : decode cX10_setRecovery 0 = .ok (.aload_n 0, 1) := by decide +kernel
theorem dX10_setRecovery_1 : decode cX10_setRecovery 1 = .ok (.aload_n 0, 1) := by decide +kernel
theorem dX10_setRecovery_2 : decode cX10_setRecovery 2 = .ok (.iload_n 1, 1) := by decide +kernel
theorem dX10_setRecovery_3 : decode cX10_setRecovery 3 = .ok (.invokevirtual 109, 3) := by decide +kernel
theorem dX10_setRecovery_6 : decode cX10_setRecovery 6 = .ok (.ifCond .eq 10, 3) := by decide +kernel
theorem dX10_setRecovery_9 : decode cX10_setRecovery 9 = .ok (.iload_n 2, 1) := by decide +kernel
theorem dX10_setRecovery_10 : decode cX10_setRecovery 10 = .ok (.invokestatic 112, 3) := by decide +kernel
theorem dX10_setRecovery_13 : decode cX10_setRecovery 13 = .ok (.ifCond .ne 7, 3) := by decide +kernel
theorem dX10_setRecovery_16 : decode cX10_setRecovery 16 = .ok (.iconst 1, 1) := by decide +kernel
theorem dX10_setRecovery_17 : decode cX10_setRecovery 17 = .ok (.goto 20, 3) := by decide +kernel
theorem dX10_setRecovery_20 : decode cX10_setRecovery 20 = .ok (.iload_n 3, 1) := by decide +kernel
theorem dX10_setRecovery_21 : decode cX10_setRecovery 21 = .ok (.i2l, 1) := by decide +kernel
theorem dX10_setRecovery_22 : decode cX10_setRecovery 22 = .ok (.lconst 0, 1) := by decide +kernel
theorem dX10_setRecovery_23 : decode cX10_setRecovery 23 = .ok (.ldc2_w 115, 3) := by decide +kernel
theorem dX10_setRecovery_26 : decode cX10_setRecovery 26 = .ok (.invokestatic 55, 3) := by decide +kernel
theorem dX10_setRecovery_29 : decode cX10_setRecovery 29 = .ok (.ifCond .ne 7, 3) := by decide +kernel
theorem dX10_setRecovery_32 : decode cX10_setRecovery 32 = .ok (.iconst 2, 1) := by decide +kernel
theorem dX10_setRecovery_33 : decode cX10_setRecovery 33 = .ok (.goto 4, 3) := by decide +kernel
theorem dX10_setRecovery_36 : decode cX10_setRecovery 36 = .ok (.iconst 0, 1) := by decide +kernel
theorem dX10_setRecovery_37 : decode cX10_setRecovery 37 = .ok (.invokevirtual 76, 3) := by decide +kernel
theorem dX10_setRecovery_40 : decode cX10_setRecovery 40 = .ok (.ifCond .eq 5, 3) := by decide +kernel
theorem dX10_setRecovery_43 : decode cX10_setRecovery 43 = .ok (.iconst 0, 1) := by decide +kernel
theorem dX10_setRecovery_44 : decode cX10_setRecovery 44 = .ok (.ireturn, 1) := by decide +kernel
theorem dX10_setRecovery_45 : decode cX10_setRecovery 45 = .ok (.aload_n 0, 1) := by decide +kernel
theorem dX10_setRecovery_46 : decode cX10_setRecovery 46 = .ok (.invokevirtual 117, 3) := by decide +kernel
theorem dX10_setRecovery_49 : decode cX10_setRecovery 49 = .ok (.aload_n 0, 1) := by decide +kernel
theorem dX10_setRecovery_50 : decode cX10_setRecovery 50 = .ok (.getfield 7, 3) := by decide +kernel
theorem dX10_setRecovery_53 : decode cX10_setRecovery 53 = .ok (.iconst 1, 1) := by decide +kernel
theorem dX10_setRecovery_54 : decode cX10_setRecovery 54 = .ok (.iconst 2, 1) := by decide +kernel
theorem dX10_setRecovery_55 : decode cX10_setRecovery 55 = .ok (.iload_n 1, 1) := by decide +kernel
theorem dX10_setRecovery_56 : decode cX10_setRecovery 56 = .ok (.imul, 1) := by decide +kernel
theorem dX10_setRecovery_57 : decode cX10_setRecovery 57 = .ok (.iadd, 1) := by decide +kernel
theorem dX10_setRecovery_58 : decode cX10_setRecovery 58 = .ok (.iload_n 2, 1) := by decide +kernel
theorem dX10_setRecovery_59 : decode cX10_setRecovery 59 = .ok (.iadd, 1) := by decide +kernel
theorem dX10_setRecovery_60 : decode cX10_setRecovery 60 = .ok (.iaload, 1) := by decide +kernel
theorem dX10_setRecovery_61 : decode cX10_setRecovery 61 = .ok (.istore 4, 2) := by decide +kernel
theorem dX10_setRecovery_63 : decode cX10_setRecovery 63 = .ok (.aload_n 0, 1) := by decide +kernel
theorem dX10_setRecovery_64 : decode cX10_setRecovery 64 = .ok (.getfield 7, 3) := by decide +kernel
theorem dX10_setRecovery_67 : decode cX10_setRecovery 67 = .ok (.iconst 1, 1) := by decide +kernel
theorem dX10_setRecovery_68 : decode cX10_setRecovery 68 = .ok (.iconst 2, 1) := by decide +kernel
theorem dX10_setRecovery_69 : decode cX10_setRecovery 69 = .ok (.iload_n 1, 1) := by decide +kernel
theorem dX10_setRecovery_70 : decode cX10_setRecovery 70 = .ok (.imul, 1) := by decide +kernel
theorem dX10_setRecovery_71 : decode cX10_setRecovery 71 = .ok (.iadd, 1) := by decide +kernel
theorem dX10_setRecovery_72 : decode cX10_setRecovery 72 = .ok (.iload_n 2, 1) := by decide +kernel
theorem dX10_setRecovery_73 : decode cX10_setRecovery 73 = .ok (.iadd, 1) := by decide +kernel
theorem dX10_setRecovery_74 : decode cX10_setRecovery 74 = .ok (.iload_n 3, 1) := by decide +kernel
theorem dX10_setRecovery_75 : decode cX10_setRecovery 75 = .ok (.iastore, 1) := by decide +kernel
theorem dX10_setRecovery_76 : decode cX10_setRecovery 76 = .ok (.iload 4, 2) := by decide +kernel
theorem dX10_setRecovery_78 : decode cX10_setRecovery 78 = .ok (.ireturn, 1) := by decide +kernel
theorem dX10_setDestination_0 : decode cX10_setDestination 0 = .ok (.aload_n 0, 1) := by decide +kernel
theorem dX10_setDestination_1 : decode cX10_setDestination 1 = .ok (.aload_n 0, 1) := by decide +kernel
theorem dX10_setDestination_2 : decode cX10_setDestination 2 = .ok (.iload_n 1, 1) := by decide +kernel
theorem dX10_setDestination_3 : decode cX10_setDestination 3 = .ok (.invokevirtual 109, 3) := by decide +kernel
theorem dX10_setDestination_6 : decode cX10_setDestination 6 = .ok (.ifCond .eq 10, 3) := by decide +kernel
theorem dX10_setDestination_9 : decode cX10_setDestination 9 = .ok (.iload_n 2, 1) := by decide +kernel
theorem dX10_setDestination_10 : decode cX10_setDestination 10 = .ok (.invokestatic 112, 3) := by decide +kernel
theorem dX10_setDestination_13 : decode cX10_setDestination 13 = .ok (.ifCond .ne 7, 3) := by decide +kernel
theorem dX10_setDestination_16 : decode cX10_setDestination 16 = .ok (.iconst 1, 1) := by decide +kernel
theorem dX10_setDestination_17 : decode cX10_setDestination 17 = .ok (.goto 15, 3) := by decide +kernel
theorem dX10_setDestination_20 : decode cX10_setDestination 20 = .ok (.iload_n 3, 1) := by decide +kernel
theorem dX10_setDestination_21 : decode cX10_setDestination 21 = .ok (.invokestatic 83, 3) := by decide +kernel
theorem dX10_setDestination_24 : decode cX10_setDestination 24 = .ok (.ifCond .ne 7, 3) := by decide +kernel
theorem dX10_setDestination_27 : decode cX10_setDestination 27 = .ok (.iconst 2, 1) := by decide +kernel
theorem dX10_setDestination_28 : decode cX10_setDestination 28 = .ok (.goto 4, 3) := by decide +kernel
theorem dX10_setDestination_31 : decode cX10_setDestination 31 = .ok (.iconst 0, 1) := by decide +kernel
theorem dX10_setDestination_32 : decode cX10_setDestination 32 = .ok (.invokevirtual 76, 3) := by decide +kernel
theorem dX10_setDestination_35 : decode cX10_setDestination 35 = .ok (.ifCond .eq 5, 3) := by decide +kernel
theorem dX10_setDestination_38 : decode cX10_setDestination 38 = .ok (.iconst 0, 1) := by decide +kernel
theorem dX10_setDestination_39 : decode cX10_setDestination 39 = .ok (.ireturn, 1) := by decide +kernel
theorem dX10_setDestination_40 : decode cX10_setDestination 40 = .ok (.aload_n 0, 1) := by decide +kernel
theorem dX10_setDestination_41 : decode cX10_setDestination 41 = .ok (.invokevirtual 117, 3) := by decide +kernel
theorem dX10_setDestination_44 : decode cX10_setDestination 44 = .ok (.aload_n 0, 1) := by decide +kernel
theorem dX10_setDestination_45 : decode cX10_setDestination 45 = .ok (.getfield 7, 3) := by decide +kernel
theorem dX10_setDestination_48 : decode cX10_setDestination 48 = .ok (.bipush 13, 2) := by decide +kernel
theorem dX10_setDestination_50 : decode cX10_setDestination 50 = .ok (.iconst 2, 1) := by decide +kernel
theorem dX10_setDestination_51 : decode cX10_setDestination 51 = .ok (.iload_n 1, 1) := by decide +kernel
theorem dX10_setDestination_52 : decode cX10_setDestination 52 = .ok (.imul, 1) := by decide +kernel
theorem dX10_setDestination_53 : decode cX10_setDestination 53 = .ok (.iadd, 1) := by decide +kernel
theorem dX10_setDestination_54 : decode cX10_setDestination 54 = .ok (.iload_n 2, 1) := by decide +kernel
theorem dX10_setDestination_55 : decode cX10_setDestination 55 = .ok (.iadd, 1) := by decide +kernel
theorem dX10_setDestination_56 : decode cX10_setDestination 56 = .ok (.iaload, 1) := by decide +kernel
theorem dX10_setDestination_57 : decode cX10_setDestination 57 = .ok (.istore 4, 2) := by decide +kernel
theorem dX10_setDestination_59 : decode cX10_setDestination 59 = .ok (.aload_n 0, 1) := by decide +kernel
theorem dX10_setDestination_60 : decode cX10_setDestination 60 = .ok (.getfield 7, 3) := by decide +kernel
theorem dX10_setDestination_63 : decode cX10_setDestination 63 = .ok (.bipush 13, 2) := by decide +kernel
theorem dX10_setDestination_65 : decode cX10_setDestination 65 = .ok (.iconst 2, 1) := by decide +kernel
theorem dX10_setDestination_66 : decode cX10_setDestination 66 = .ok (.iload_n 1, 1) := by decide +kernel
theorem dX10_setDestination_67 : decode cX10_setDestination 67 = .ok (.imul, 1) := by decide +kernel
theorem dX10_setDestination_68 : decode cX10_setDestination 68 = .ok (.iadd, 1) := by decide +kernel
theorem dX10_setDestination_69 : decode cX10_setDestination 69 = .ok (.iload_n 2, 1) := by decide +kernel
theorem dX10_setDestination_70 : decode cX10_setDestination 70 = .ok (.iadd, 1) := by decide +kernel
theorem dX10_setDestination_71 : decode cX10_setDestination 71 = .ok (.iload_n 3, 1) := by decide +kernel
theorem dX10_setDestination_72 : decode cX10_setDestination 72 = .ok (.iastore, 1) := by decide +kernel
theorem dX10_setDestination_73 : decode cX10_setDestination 73 = .ok (.iload 4, 2) := by decide +kernel
theorem dX10_setDestination_75 : decode cX10_setDestination 75 = .ok (.ireturn, 1) := by decide +kernel
theorem dX10_setFeed_0 : decode cX10_setFeed 0 = .ok (.aload_n 0, 1) := by decide +kernel
theorem dX10_setFeed_1 : decode cX10_setFeed 1 = .ok (.iload_n 1, 1) := by decide +kernel
theorem dX10_setFeed_2 : decode cX10_setFeed 2 = .ok (.i2l, 1) := by decide +kernel
theorem dX10_setFeed_3 : decode cX10_setFeed 3 = .ok (.lconst 0, 1) := by decide +kernel
theorem dX10_setFeed_4 : decode cX10_setFeed 4 = .ok (.ldc2_w 59, 3) := by decide +kernel
theorem dX10_setFeed_7 : decode cX10_setFeed 7 = .ok (.invokestatic 55, 3) := by decide +kernel
theorem dX10_setFeed_10 : decode cX10_setFeed 10 = .ok (.ifCond .eq 31, 3) := by decide +kernel
theorem dX10_setFeed_13 : decode cX10_setFeed 13 = .ok (.iload_n 2, 1) := by decide +kernel
theorem dX10_setFeed_14 : decode cX10_setFeed 14 = .ok (.i2l, 1) := by decide +kernel
theorem dX10_setFeed_15 : decode cX10_setFeed 15 = .ok (.lconst 0, 1) := by decide +kernel
theorem dX10_setFeed_16 : decode cX10_setFeed 16 = .ok (.ldc2_w 120, 3) := by decide +kernel
theorem dX10_setFeed_19 : decode cX10_setFeed 19 = .ok (.invokestatic 55, 3) := by decide +kernel
theorem dX10_setFeed_22 : decode cX10_setFeed 22 = .ok (.ifCond .eq 19, 3) := by decide +kernel
theorem dX10_setFeed_25 : decode cX10_setFeed 25 = .ok (.iload_n 3, 1) := by decide +kernel
theorem dX10_setFeed_26 : decode cX10_setFeed 26 = .ok (.i2l, 1) := by decide +kernel
theorem dX10_setFeed_27 : decode cX10_setFeed 27 = .ok (.lconst 0, 1) := by decide +kernel
theorem dX10_setFeed_28 : decode cX10_setFeed 28 = .ok (.ldc2_w 120, 3) := by decide +kernel
theorem dX10_setFeed_31 : decode cX10_setFeed 31 = .ok (.invokestatic 55, 3) := by decide +kernel
theorem dX10_setFeed_34 : decode cX10_setFeed 34 = .ok (.ifCond .eq 7, 3) := by decide +kernel
theorem dX10_setFeed_37 : decode cX10_setFeed 37 = .ok (.iconst 0, 1) := by decide +kernel
theorem dX10_setFeed_38 : decode cX10_setFeed 38 = .ok (.goto 4, 3) := by decide +kernel
theorem dX10_setFeed_41 : decode cX10_setFeed 41 = .ok (.iconst 1, 1) := by decide +kernel
theorem dX10_setFeed_42 : decode cX10_setFeed 42 = .ok (.invokevirtual 76, 3) := by decide +kernel
theorem dX10_setFeed_45 : decode cX10_setFeed 45 = .ok (.ifCond .eq 5, 3) := by decide +kernel
theorem dX10_setFeed_48 : decode cX10_setFeed 48 = .ok (.iconst 0, 1) := by decide +kernel
theorem dX10_setFeed_49 : decode cX10_setFeed 49 = .ok (.ireturn, 1) := by decide +kernel
theorem dX10_setFeed_50 : decode cX10_setFeed 50 = .ok (.aload_n 0, 1) := by decide +kernel
theorem dX10_setFeed_51 : decode cX10_setFeed 51 = .ok (.invokevirtual 117, 3) := by decide +kernel
theorem dX10_setFeed_54 : decode cX10_setFeed 54 = .ok (.aload_n 0, 1) := by decide +kernel
theorem dX10_setFeed_55 : decode cX10_setFeed 55 = .ok (.getfield 7, 3) := by decide +kernel
theorem dX10_setFeed_58 : decode cX10_setFeed 58 = .ok (.bipush 25, 2) := by decide +kernel
theorem dX10_setFeed_60 : decode cX10_setFeed 60 = .ok (.iaload, 1) := by decide +kernel
theorem dX10_setFeed_61 : decode cX10_setFeed 61 = .ok (.istore 4, 2) := by decide +kernel
theorem dX10_setFeed_63 : decode cX10_setFeed 63 = .ok (.aload_n 0, 1) := by decide +kernel
theorem dX10_setFeed_64 : decode cX10_setFeed 64 = .ok (.getfield 7, 3) := by decide +kernel
theorem dX10_setFeed_67 : decode cX10_setFeed 67 = .ok (.bipush 25, 2) := by decide +kernel
theorem dX10_setFeed_69 : decode cX10_setFeed 69 = .ok (.iload_n 1, 1) := by decide +kernel
theorem dX10_setFeed_70 : decode cX10_setFeed 70 = .ok (.iastore, 1) := by decide +kernel
theorem dX10_setFeed_71 : decode cX10_setFeed 71 = .ok (.aload_n 0, 1) := by decide +kernel
theorem dX10_setFeed_72 : decode cX10_setFeed 72 = .ok (.getfield 7, 3) := by decide +kernel
theorem dX10_setFeed_75 : decode cX10_setFeed 75 = .ok (.bipush 26, 2) := by decide +kernel
theorem dX10_setFeed_77 : decode cX10_setFeed 77 = .ok (.iload_n 2, 1) := by decide +kernel
theorem dX10_setFeed_78 : decode cX10_setFeed 78 = .ok (.iastore, 1) := by decide +kernel
theorem dX10_setFeed_79 : decode cX10_setFeed 79 = .ok (.aload_n 0, 1) := by decide +kernel
theorem dX10_setFeed_80 : decode cX10_setFeed 80 = .ok (.getfield 7, 3) := by decide +kernel
theorem dX10_setFeed_83 : decode cX10_setFeed 83 = .ok (.bipush 27, 2) := by decide +kernel
theorem dX10_setFeed_85 : decode cX10_setFeed 85 = .ok (.iload_n 3, 1) := by decide +kernel
theorem dX10_setFeed_86 : decode cX10_setFeed 86 = .ok (.iastore, 1) := by decide +kernel
theorem dX10_setFeed_87 : decode cX10_setFeed 87 = .ok (.iload 4, 2) := by decide +kernel
theorem dX10_setFeed_89 : decode cX10_setFeed 89 = .ok (.ireturn, 1) := by decide +kernel
theorem dX10_goalOf_0 : decode cX10_goalOf 0 = .ok (.iload_n 1, 1) := by decide +kernel
theorem dX10_goalOf_1 : decode cX10_goalOf 1 = .ok (.bipush 8, 2) := by decide +kernel
theorem dX10_goalOf_3 : decode cX10_goalOf 3 = .ok (.if_icmp .ge 15, 3) := by decide +kernel
theorem dX10_goalOf_6 : decode cX10_goalOf 6 = .ok (.iload_n 1, 1) := by decide +kernel
theorem dX10_goalOf_7 : decode cX10_goalOf 7 = .ok (.aload_n 0, 1) := by decide +kernel
theorem dX10_goalOf_8 : decode cX10_goalOf 8 = .ok (.iconst 0, 1) := by decide +kernel
theorem dX10_goalOf_9 : decode cX10_goalOf 9 = .ok (.iaload, 1) := by decide +kernel
theorem dX10_goalOf_10 : decode cX10_goalOf 10 = .ok (.if_icmp .lt 8, 3) := by decide +kernel
theorem dX10_goalOf_13 : decode cX10_goalOf 13 = .ok (.bipush 9, 2) := by decide +kernel
theorem dX10_goalOf_15 : decode cX10_goalOf 15 = .ok (.goto 4, 3) := by decide +kernel
theorem dX10_goalOf_18 : decode cX10_goalOf 18 = .ok (.iload_n 1, 1) := by decide +kernel
theorem dX10_goalOf_19 : decode cX10_goalOf 19 = .ok (.ireturn, 1) := by decide +kernel
theorem dX10_bring_0 : decode cX10_bring 0 = .ok (.aload_n 0, 1) := by decide +kernel
theorem dX10_bring_1 : decode cX10_bring 1 = .ok (.iload_n 1, 1) := by decide +kernel
theorem dX10_bring_2 : decode cX10_bring 2 = .ok (.bipush 8, 2) := by decide +kernel
theorem dX10_bring_4 : decode cX10_bring 4 = .ok (.if_icmp .ge 12, 3) := by decide +kernel
theorem dX10_bring_7 : decode cX10_bring 7 = .ok (.bipush 28, 2) := by decide +kernel
theorem dX10_bring_9 : decode cX10_bring 9 = .ok (.iconst 2, 1) := by decide +kernel
theorem dX10_bring_10 : decode cX10_bring 10 = .ok (.iload_n 1, 1) := by decide +kernel
theorem dX10_bring_11 : decode cX10_bring 11 = .ok (.imul, 1) := by decide +kernel
theorem dX10_bring_12 : decode cX10_bring 12 = .ok (.iadd, 1) := by decide +kernel
theorem dX10_bring_13 : decode cX10_bring 13 = .ok (.goto 12, 3) := by decide +kernel
theorem dX10_bring_16 : decode cX10_bring 16 = .ok (.bipush 40, 2) := by decide +kernel
theorem dX10_bring_18 : decode cX10_bring 18 = .ok (.iconst 2, 1) := by decide +kernel
theorem dX10_bring_19 : decode cX10_bring 19 = .ok (.iload_n 1, 1) := by decide +kernel
theorem dX10_bring_20 : decode cX10_bring 20 = .ok (.bipush 8, 2) := by decide +kernel
theorem dX10_bring_22 : decode cX10_bring 22 = .ok (.isub, 1) := by decide +kernel
theorem dX10_bring_23 : decode cX10_bring 23 = .ok (.imul, 1) := by decide +kernel
theorem dX10_bring_24 : decode cX10_bring 24 = .ok (.iadd, 1) := by decide +kernel
theorem dX10_bring_25 : decode cX10_bring 25 = .ok (.iload_n 2, 1) := by decide +kernel
theorem dX10_bring_26 : decode cX10_bring 26 = .ok (.iadd, 1) := by decide +kernel
theorem dX10_bring_27 : decode cX10_bring 27 = .ok (.dup2, 1) := by decide +kernel
theorem dX10_bring_28 : decode cX10_bring 28 = .ok (.iaload, 1) := by decide +kernel
theorem dX10_bring_29 : decode cX10_bring 29 = .ok (.iload_n 3, 1) := by decide +kernel
theorem dX10_bring_30 : decode cX10_bring 30 = .ok (.iadd, 1) := by decide +kernel
theorem dX10_bring_31 : decode cX10_bring 31 = .ok (.iastore, 1) := by decide +kernel
theorem dX10_bring_32 : decode cX10_bring 32 = .ok (.return_, 1) := by decide +kernel
theorem dX10_goStep_0 : decode cX10_goStep 0 = .ok (.aload_n 1, 1) := by decide +kernel
theorem dX10_goStep_1 : decode cX10_goStep 1 = .ok (.aload_n 0, 1) := by decide +kernel
theorem dX10_goStep_2 : decode cX10_goStep 2 = .ok (.getfield 16, 3) := by decide +kernel
theorem dX10_goStep_5 : decode cX10_goStep 5 = .ok (.invokestatic 105, 3) := by decide +kernel
theorem dX10_goStep_8 : decode cX10_goStep 8 = .ok (.iconst 0, 1) := by decide +kernel
theorem dX10_goStep_9 : decode cX10_goStep 9 = .ok (.istore_n 2, 1) := by decide +kernel
theorem dX10_goStep_10 : decode cX10_goStep 10 = .ok (.iload_n 2, 1) := by decide +kernel
theorem dX10_goStep_11 : decode cX10_goStep 11 = .ok (.bipush 12, 2) := by decide +kernel
theorem dX10_goStep_13 : decode cX10_goStep 13 = .ok (.if_icmp .ge 19, 3) := by decide +kernel
theorem dX10_goStep_16 : decode cX10_goStep 16 = .ok (.aload_n 0, 1) := by decide +kernel
theorem dX10_goStep_17 : decode cX10_goStep 17 = .ok (.getfield 16, 3) := by decide +kernel
theorem dX10_goStep_20 : decode cX10_goStep 20 = .ok (.bipush 28, 2) := by decide +kernel
theorem dX10_goStep_22 : decode cX10_goStep 22 = .ok (.iload_n 2, 1) := by decide +kernel
theorem dX10_goStep_23 : decode cX10_goStep 23 = .ok (.iadd, 1) := by decide +kernel
theorem dX10_goStep_24 : decode cX10_goStep 24 = .ok (.iconst 0, 1) := by decide +kernel
theorem dX10_goStep_25 : decode cX10_goStep 25 = .ok (.iastore, 1) := by decide +kernel
theorem dX10_goStep_26 : decode cX10_goStep 26 = .ok (.iinc 2 1, 3) := by decide +kernel
theorem dX10_goStep_29 : decode cX10_goStep 29 = .ok (.goto (-19), 3) := by decide +kernel
theorem dX10_goStep_32 : decode cX10_goStep 32 = .ok (.iconst 0, 1) := by decide +kernel
theorem dX10_goStep_33 : decode cX10_goStep 33 = .ok (.istore_n 2, 1) := by decide +kernel
theorem dX10_goStep_34 : decode cX10_goStep 34 = .ok (.iload_n 2, 1) := by decide +kernel
theorem dX10_goStep_35 : decode cX10_goStep 35 = .ok (.iconst 2, 1) := by decide +kernel
theorem dX10_goStep_36 : decode cX10_goStep 36 = .ok (.if_icmp .ge 129, 3) := by decide +kernel
theorem dX10_goStep_39 : decode cX10_goStep 39 = .ok (.iconst 0, 1) := by decide +kernel
theorem dX10_goStep_40 : decode cX10_goStep 40 = .ok (.istore_n 3, 1) := by decide +kernel
theorem dX10_goStep_41 : decode cX10_goStep 41 = .ok (.iload_n 3, 1) := by decide +kernel
theorem dX10_goStep_42 : decode cX10_goStep 42 = .ok (.aload_n 1, 1) := by decide +kernel
theorem dX10_goStep_43 : decode cX10_goStep 43 = .ok (.iconst 0, 1) := by decide +kernel
theorem dX10_goStep_44 : decode cX10_goStep 44 = .ok (.iaload, 1) := by decide +kernel
theorem dX10_goStep_45 : decode cX10_goStep 45 = .ok (.if_icmp .ge 92, 3) := by decide +kernel
theorem dX10_goStep_48 : decode cX10_goStep 48 = .ok (.aload_n 1, 1) := by decide +kernel
theorem dX10_goStep_49 : decode cX10_goStep 49 = .ok (.bipush 28, 2) := by decide +kernel
theorem dX10_goStep_51 : decode cX10_goStep 51 = .ok (.iconst 2, 1) := by decide +kernel
theorem dX10_goStep_52 : decode cX10_goStep 52 = .ok (.iload_n 3, 1) := by decide +kernel
theorem dX10_goStep_53 : decode cX10_goStep 53 = .ok (.imul, 1) := by decide +kernel
theorem dX10_goStep_54 : decode cX10_goStep 54 = .ok (.iadd, 1) := by decide +kernel
theorem dX10_goStep_55 : decode cX10_goStep 55 = .ok (.iload_n 2, 1) := by decide +kernel
theorem dX10_goStep_56 : decode cX10_goStep 56 = .ok (.iadd, 1) := by decide +kernel
theorem dX10_goStep_57 : decode cX10_goStep 57 = .ok (.iaload, 1) := by decide +kernel
theorem dX10_goStep_58 : decode cX10_goStep 58 = .ok (.i2l, 1) := by decide +kernel
theorem dX10_goStep_59 : decode cX10_goStep 59 = .ok (.lstore 4, 2) := by decide +kernel
theorem dX10_goStep_61 : decode cX10_goStep 61 = .ok (.lload 4, 2) := by decide +kernel
theorem dX10_goStep_63 : decode cX10_goStep 63 = .ok (.aload_n 1, 1) := by decide +kernel
theorem dX10_goStep_64 : decode cX10_goStep 64 = .ok (.iconst 1, 1) := by decide +kernel
theorem dX10_goStep_65 : decode cX10_goStep 65 = .ok (.iconst 2, 1) := by decide +kernel
theorem dX10_goStep_66 : decode cX10_goStep 66 = .ok (.iload_n 3, 1) := by decide +kernel
theorem dX10_goStep_67 : decode cX10_goStep 67 = .ok (.imul, 1) := by decide +kernel
theorem dX10_goStep_68 : decode cX10_goStep 68 = .ok (.iadd, 1) := by decide +kernel
theorem dX10_goStep_69 : decode cX10_goStep 69 = .ok (.iload_n 2, 1) := by decide +kernel
theorem dX10_goStep_70 : decode cX10_goStep 70 = .ok (.iadd, 1) := by decide +kernel
theorem dX10_goStep_71 : decode cX10_goStep 71 = .ok (.iaload, 1) := by decide +kernel
theorem dX10_goStep_72 : decode cX10_goStep 72 = .ok (.i2l, 1) := by decide +kernel
theorem dX10_goStep_73 : decode cX10_goStep 73 = .ok (.lmul, 1) := by decide +kernel
theorem dX10_goStep_74 : decode cX10_goStep 74 = .ok (.ldc2_w 115, 3) := by decide +kernel
theorem dX10_goStep_77 : decode cX10_goStep 77 = .ok (.ldiv, 1) := by decide +kernel
theorem dX10_goStep_78 : decode cX10_goStep 78 = .ok (.l2i, 1) := by decide +kernel
theorem dX10_goStep_79 : decode cX10_goStep 79 = .ok (.istore 6, 2) := by decide +kernel
theorem dX10_goStep_81 : decode cX10_goStep 81 = .ok (.aload_n 0, 1) := by decide +kernel
theorem dX10_goStep_82 : decode cX10_goStep 82 = .ok (.getfield 16, 3) := by decide +kernel
theorem dX10_goStep_85 : decode cX10_goStep 85 = .ok (.aload_n 1, 1) := by decide +kernel
theorem dX10_goStep_86 : decode cX10_goStep 86 = .ok (.aload_n 1, 1) := by decide +kernel
theorem dX10_goStep_87 : decode cX10_goStep 87 = .ok (.bipush 13, 2) := by decide +kernel
theorem dX10_goStep_89 : decode cX10_goStep 89 = .ok (.iconst 2, 1) := by decide +kernel
theorem dX10_goStep_90 : decode cX10_goStep 90 = .ok (.iload_n 3, 1) := by decide +kernel
theorem dX10_goStep_91 : decode cX10_goStep 91 = .ok (.imul, 1) := by decide +kernel
theorem dX10_goStep_92 : decode cX10_goStep 92 = .ok (.iadd, 1) := by decide +kernel
theorem dX10_goStep_93 : decode cX10_goStep 93 = .ok (.iaload, 1) := by decide +kernel
theorem dX10_goStep_94 : decode cX10_goStep 94 = .ok (.invokestatic 122, 3) := by decide +kernel
theorem dX10_goStep_97 : decode cX10_goStep 97 = .ok (.iload_n 2, 1) := by decide +kernel
theorem dX10_goStep_98 : decode cX10_goStep 98 = .ok (.iload 6, 2) := by decide +kernel
theorem dX10_goStep_100 : decode cX10_goStep 100 = .ok (.invokestatic 126, 3) := by decide +kernel
theorem dX10_goStep_103 : decode cX10_goStep 103 = .ok (.aload_n 0, 1) := by decide +kernel
theorem dX10_goStep_104 : decode cX10_goStep 104 = .ok (.getfield 16, 3) := by decide +kernel
theorem dX10_goStep_107 : decode cX10_goStep 107 = .ok (.aload_n 1, 1) := by decide +kernel
theorem dX10_goStep_108 : decode cX10_goStep 108 = .ok (.aload_n 1, 1) := by decide +kernel
theorem dX10_goStep_109 : decode cX10_goStep 109 = .ok (.bipush 13, 2) := by decide +kernel
theorem dX10_goStep_111 : decode cX10_goStep 111 = .ok (.iconst 2, 1) := by decide +kernel
theorem dX10_goStep_112 : decode cX10_goStep 112 = .ok (.iload_n 3, 1) := by decide +kernel
theorem dX10_goStep_113 : decode cX10_goStep 113 = .ok (.imul, 1) := by decide +kernel
theorem dX10_goStep_114 : decode cX10_goStep 114 = .ok (.iadd, 1) := by decide +kernel
theorem dX10_goStep_115 : decode cX10_goStep 115 = .ok (.iconst 1, 1) := by decide +kernel
theorem dX10_goStep_116 : decode cX10_goStep 116 = .ok (.iadd, 1) := by decide +kernel
theorem dX10_goStep_117 : decode cX10_goStep 117 = .ok (.iaload, 1) := by decide +kernel
theorem dX10_goStep_118 : decode cX10_goStep 118 = .ok (.invokestatic 122, 3) := by decide +kernel
theorem dX10_goStep_121 : decode cX10_goStep 121 = .ok (.iload_n 2, 1) := by decide +kernel
theorem dX10_goStep_122 : decode cX10_goStep 122 = .ok (.lload 4, 2) := by decide +kernel
theorem dX10_goStep_124 : decode cX10_goStep 124 = .ok (.l2i, 1) := by decide +kernel
theorem dX10_goStep_125 : decode cX10_goStep 125 = .ok (.iload 6, 2) := by decide +kernel
theorem dX10_goStep_127 : decode cX10_goStep 127 = .ok (.isub, 1) := by decide +kernel
theorem dX10_goStep_128 : decode cX10_goStep 128 = .ok (.invokestatic 126, 3) := by decide +kernel
theorem dX10_goStep_131 : decode cX10_goStep 131 = .ok (.iinc 3 1, 3) := by decide +kernel
theorem dX10_goStep_134 : decode cX10_goStep 134 = .ok (.goto (-93), 3) := by decide +kernel
theorem dX10_goStep_137 : decode cX10_goStep 137 = .ok (.aload_n 0, 1) := by decide +kernel
theorem dX10_goStep_138 : decode cX10_goStep 138 = .ok (.getfield 16, 3) := by decide +kernel
theorem dX10_goStep_141 : decode cX10_goStep 141 = .ok (.aload_n 1, 1) := by decide +kernel
theorem dX10_goStep_142 : decode cX10_goStep 142 = .ok (.aload_n 1, 1) := by decide +kernel
theorem dX10_goStep_143 : decode cX10_goStep 143 = .ok (.bipush 25, 2) := by decide +kernel
theorem dX10_goStep_145 : decode cX10_goStep 145 = .ok (.iaload, 1) := by decide +kernel
theorem dX10_goStep_146 : decode cX10_goStep 146 = .ok (.invokestatic 122, 3) := by decide +kernel
theorem dX10_goStep_149 : decode cX10_goStep 149 = .ok (.iload_n 2, 1) := by decide +kernel
theorem dX10_goStep_150 : decode cX10_goStep 150 = .ok (.aload_n 1, 1) := by decide +kernel
theorem dX10_goStep_151 : decode cX10_goStep 151 = .ok (.bipush 26, 2) := by decide +kernel
theorem dX10_goStep_153 : decode cX10_goStep 153 = .ok (.iload_n 2, 1) := by decide +kernel
theorem dX10_goStep_154 : decode cX10_goStep 154 = .ok (.iadd, 1) := by decide +kernel
theorem dX10_goStep_155 : decode cX10_goStep 155 = .ok (.iaload, 1) := by decide +kernel
theorem dX10_goStep_156 : decode cX10_goStep 156 = .ok (.invokestatic 126, 3) := by decide +kernel
theorem dX10_goStep_159 : decode cX10_goStep 159 = .ok (.iinc 2 1, 3) := by decide +kernel
theorem dX10_goStep_162 : decode cX10_goStep 162 = .ok (.goto (-128), 3) := by decide +kernel
theorem dX10_goStep_165 : decode cX10_goStep 165 = .ok (.aload_n 0, 1) := by decide +kernel
theorem dX10_goStep_166 : decode cX10_goStep 166 = .ok (.getfield 16, 3) := by decide +kernel
theorem dX10_goStep_169 : decode cX10_goStep 169 = .ok (.aload_n 1, 1) := by decide +kernel
theorem dX10_goStep_170 : decode cX10_goStep 170 = .ok (.invokestatic 105, 3) := by decide +kernel
theorem dX10_goStep_173 : decode cX10_goStep 173 = .ok (.return_, 1) := by decide +kernel
theorem dX10_step_0 : decode cX10_step 0 = .ok (.aload_n 0, 1) := by decide +kernel
theorem dX10_step_1 : decode cX10_step 1 = .ok (.iload_n 1, 1) := by decide +kernel
theorem dX10_step_2 : decode cX10_step 2 = .ok (.i2l, 1) := by decide +kernel
theorem dX10_step_3 : decode cX10_step 3 = .ok (.lconst 1, 1) := by decide +kernel
theorem dX10_step_4 : decode cX10_step 4 = .ok (.ldc2_w 115, 3) := by decide +kernel
theorem dX10_step_7 : decode cX10_step 7 = .ok (.invokestatic 55, 3) := by decide +kernel
theorem dX10_step_10 : decode cX10_step 10 = .ok (.ifCond .eq 7, 3) := by decide +kernel
theorem dX10_step_13 : decode cX10_step 13 = .ok (.iconst 0, 1) := by decide +kernel
theorem dX10_step_14 : decode cX10_step 14 = .ok (.goto 4, 3) := by decide +kernel
theorem dX10_step_17 : decode cX10_step 17 = .ok (.iconst 1, 1) := by decide +kernel
theorem dX10_step_18 : decode cX10_step 18 = .ok (.invokevirtual 76, 3) := by decide +kernel
theorem dX10_step_21 : decode cX10_step 21 = .ok (.ifCond .eq 5, 3) := by decide +kernel
theorem dX10_step_24 : decode cX10_step 24 = .ok (.iconst 0, 1) := by decide +kernel
theorem dX10_step_25 : decode cX10_step 25 = .ok (.ireturn, 1) := by decide +kernel
theorem dX10_step_26 : decode cX10_step 26 = .ok (.aload_n 0, 1) := by decide +kernel
theorem dX10_step_27 : decode cX10_step 27 = .ok (.invokevirtual 117, 3) := by decide +kernel
theorem dX10_step_30 : decode cX10_step 30 = .ok (.iconst 0, 1) := by decide +kernel
theorem dX10_step_31 : decode cX10_step 31 = .ok (.istore_n 2, 1) := by decide +kernel
theorem dX10_step_32 : decode cX10_step 32 = .ok (.iload_n 2, 1) := by decide +kernel
theorem dX10_step_33 : decode cX10_step 33 = .ok (.iload_n 1, 1) := by decide +kernel
theorem dX10_step_34 : decode cX10_step 34 = .ok (.if_icmp .ge 17, 3) := by decide +kernel
theorem dX10_step_37 : decode cX10_step 37 = .ok (.aload_n 0, 1) := by decide +kernel
theorem dX10_step_38 : decode cX10_step 38 = .ok (.aload_n 0, 1) := by decide +kernel
theorem dX10_step_39 : decode cX10_step 39 = .ok (.getfield 7, 3) := by decide +kernel
theorem dX10_step_42 : decode cX10_step 42 = .ok (.invokevirtual 130, 3) := by decide +kernel
theorem dX10_step_45 : decode cX10_step 45 = .ok (.iinc 2 1, 3) := by decide +kernel
theorem dX10_step_48 : decode cX10_step 48 = .ok (.goto (-16), 3) := by decide +kernel
theorem dX10_step_51 : decode cX10_step 51 = .ok (.aload_n 0, 1) := by decide +kernel
theorem dX10_step_52 : decode cX10_step 52 = .ok (.getfield 7, 3) := by decide +kernel
theorem dX10_step_55 : decode cX10_step 55 = .ok (.bipush 40, 2) := by decide +kernel
theorem dX10_step_57 : decode cX10_step 57 = .ok (.iaload, 1) := by decide +kernel
theorem dX10_step_58 : decode cX10_step 58 = .ok (.ireturn, 1) := by decide +kernel
theorem dX10_drain_0 : decode cX10_drain 0 = .ok (.aload_n 0, 1) := by decide +kernel
theorem dX10_drain_1 : decode cX10_drain 1 = .ok (.iconst 0, 1) := by decide +kernel
theorem dX10_drain_2 : decode cX10_drain 2 = .ok (.putfield 51, 3) := by decide +kernel
theorem dX10_drain_5 : decode cX10_drain 5 = .ok (.aload_n 0, 1) := by decide +kernel
theorem dX10_drain_6 : decode cX10_drain 6 = .ok (.invokevirtual 117, 3) := by decide +kernel
theorem dX10_drain_9 : decode cX10_drain 9 = .ok (.iconst 0, 1) := by decide +kernel
theorem dX10_drain_10 : decode cX10_drain 10 = .ok (.istore_n 1, 1) := by decide +kernel
theorem dX10_drain_11 : decode cX10_drain 11 = .ok (.iconst 0, 1) := by decide +kernel
theorem dX10_drain_12 : decode cX10_drain 12 = .ok (.istore_n 2, 1) := by decide +kernel
theorem dX10_drain_13 : decode cX10_drain 13 = .ok (.iload_n 2, 1) := by decide +kernel
theorem dX10_drain_14 : decode cX10_drain 14 = .ok (.bipush 12, 2) := by decide +kernel
theorem dX10_drain_16 : decode cX10_drain 16 = .ok (.if_icmp .ge 31, 3) := by decide +kernel
theorem dX10_drain_19 : decode cX10_drain 19 = .ok (.iload_n 1, 1) := by decide +kernel
theorem dX10_drain_20 : decode cX10_drain 20 = .ok (.aload_n 0, 1) := by decide +kernel
theorem dX10_drain_21 : decode cX10_drain 21 = .ok (.getfield 7, 3) := by decide +kernel
theorem dX10_drain_24 : decode cX10_drain 24 = .ok (.bipush 28, 2) := by decide +kernel
theorem dX10_drain_26 : decode cX10_drain 26 = .ok (.iload_n 2, 1) := by decide +kernel
theorem dX10_drain_27 : decode cX10_drain 27 = .ok (.iadd, 1) := by decide +kernel
theorem dX10_drain_28 : decode cX10_drain 28 = .ok (.iaload, 1) := by decide +kernel
theorem dX10_drain_29 : decode cX10_drain 29 = .ok (.iadd, 1) := by decide +kernel
theorem dX10_drain_30 : decode cX10_drain 30 = .ok (.istore_n 1, 1) := by decide +kernel
theorem dX10_drain_31 : decode cX10_drain 31 = .ok (.aload_n 0, 1) := by decide +kernel
theorem dX10_drain_32 : decode cX10_drain 32 = .ok (.getfield 7, 3) := by decide +kernel
theorem dX10_drain_35 : decode cX10_drain 35 = .ok (.bipush 28, 2) := by decide +kernel
theorem dX10_drain_37 : decode cX10_drain 37 = .ok (.iload_n 2, 1) := by decide +kernel
theorem dX10_drain_38 : decode cX10_drain 38 = .ok (.iadd, 1) := by decide +kernel
theorem dX10_drain_39 : decode cX10_drain 39 = .ok (.iconst 0, 1) := by decide +kernel
theorem dX10_drain_40 : decode cX10_drain 40 = .ok (.iastore, 1) := by decide +kernel
theorem dX10_drain_41 : decode cX10_drain 41 = .ok (.iinc 2 1, 3) := by decide +kernel
theorem dX10_drain_44 : decode cX10_drain 44 = .ok (.goto (-31), 3) := by decide +kernel
theorem dX10_drain_47 : decode cX10_drain 47 = .ok (.iconst 0, 1) := by decide +kernel
theorem dX10_drain_48 : decode cX10_drain 48 = .ok (.istore_n 2, 1) := by decide +kernel
theorem dX10_drain_49 : decode cX10_drain 49 = .ok (.iload_n 2, 1) := by decide +kernel
theorem dX10_drain_50 : decode cX10_drain 50 = .ok (.iconst 4, 1) := by decide +kernel
theorem dX10_drain_51 : decode cX10_drain 51 = .ok (.if_icmp .ge 19, 3) := by decide +kernel
theorem dX10_drain_54 : decode cX10_drain 54 = .ok (.aload_n 0, 1) := by decide +kernel
theorem dX10_drain_55 : decode cX10_drain 55 = .ok (.getfield 7, 3) := by decide +kernel
theorem dX10_drain_58 : decode cX10_drain 58 = .ok (.bipush 40, 2) := by decide +kernel
theorem dX10_drain_60 : decode cX10_drain 60 = .ok (.iload_n 2, 1) := by decide +kernel
theorem dX10_drain_61 : decode cX10_drain 61 = .ok (.iadd, 1) := by decide +kernel
theorem dX10_drain_62 : decode cX10_drain 62 = .ok (.iconst 0, 1) := by decide +kernel
theorem dX10_drain_63 : decode cX10_drain 63 = .ok (.iastore, 1) := by decide +kernel
theorem dX10_drain_64 : decode cX10_drain 64 = .ok (.iinc 2 1, 3) := by decide +kernel
theorem dX10_drain_67 : decode cX10_drain 67 = .ok (.goto (-18), 3) := by decide +kernel
theorem dX10_drain_70 : decode cX10_drain 70 = .ok (.iload_n 1, 1) := by decide +kernel
theorem dX10_drain_71 : decode cX10_drain 71 = .ok (.ireturn, 1) := by decide +kernel
theorem dX10_undo_0 : decode cX10_undo 0 = .ok (.aload_n 0, 1) := by decide +kernel
theorem dX10_undo_1 : decode cX10_undo 1 = .ok (.aload_n 0, 1) := by decide +kernel
theorem dX10_undo_2 : decode cX10_undo 2 = .ok (.getfield 68, 3) := by decide +kernel
theorem dX10_undo_5 : decode cX10_undo 5 = .ok (.ifCond .ne 7, 3) := by decide +kernel
theorem dX10_undo_8 : decode cX10_undo 8 = .ok (.iconst 1, 1) := by decide +kernel
theorem dX10_undo_9 : decode cX10_undo 9 = .ok (.goto 4, 3) := by decide +kernel
theorem dX10_undo_12 : decode cX10_undo 12 = .ok (.iconst 0, 1) := by decide +kernel
theorem dX10_undo_13 : decode cX10_undo 13 = .ok (.invokevirtual 76, 3) := by decide +kernel
theorem dX10_undo_16 : decode cX10_undo 16 = .ok (.ifCond .eq 5, 3) := by decide +kernel
theorem dX10_undo_19 : decode cX10_undo 19 = .ok (.iconst 0, 1) := by decide +kernel
theorem dX10_undo_20 : decode cX10_undo 20 = .ok (.ireturn, 1) := by decide +kernel
theorem dX10_undo_21 : decode cX10_undo 21 = .ok (.aload_n 0, 1) := by decide +kernel
theorem dX10_undo_22 : decode cX10_undo 22 = .ok (.dup, 1) := by decide +kernel
theorem dX10_undo_23 : decode cX10_undo 23 = .ok (.getfield 68, 3) := by decide +kernel
theorem dX10_undo_26 : decode cX10_undo 26 = .ok (.iconst 1, 1) := by decide +kernel
theorem dX10_undo_27 : decode cX10_undo 27 = .ok (.isub, 1) := by decide +kernel
theorem dX10_undo_28 : decode cX10_undo 28 = .ok (.putfield 68, 3) := by decide +kernel
theorem dX10_undo_31 : decode cX10_undo 31 = .ok (.aload_n 0, 1) := by decide +kernel
theorem dX10_undo_32 : decode cX10_undo 32 = .ok (.aload_n 0, 1) := by decide +kernel
theorem dX10_undo_33 : decode cX10_undo 33 = .ok (.getfield 65, 3) := by decide +kernel
theorem dX10_undo_36 : decode cX10_undo 36 = .ok (.bipush 14, 2) := by decide +kernel
theorem dX10_undo_38 : decode cX10_undo 38 = .ok (.iadd, 1) := by decide +kernel
theorem dX10_undo_39 : decode cX10_undo 39 = .ok (.iconst 1, 1) := by decide +kernel
theorem dX10_undo_40 : decode cX10_undo 40 = .ok (.isub, 1) := by decide +kernel
theorem dX10_undo_41 : decode cX10_undo 41 = .ok (.bipush 14, 2) := by decide +kernel
theorem dX10_undo_43 : decode cX10_undo 43 = .ok (.irem, 1) := by decide +kernel
theorem dX10_undo_44 : decode cX10_undo 44 = .ok (.putfield 65, 3) := by decide +kernel
theorem dX10_undo_47 : decode cX10_undo 47 = .ok (.iconst 0, 1) := by decide +kernel
theorem dX10_undo_48 : decode cX10_undo 48 = .ok (.istore_n 1, 1) := by decide +kernel
theorem dX10_undo_49 : decode cX10_undo 49 = .ok (.iload_n 1, 1) := by decide +kernel
theorem dX10_undo_50 : decode cX10_undo 50 = .ok (.bipush 44, 2) := by decide +kernel
theorem dX10_undo_52 : decode cX10_undo 52 = .ok (.if_icmp .ge 29, 3) := by decide +kernel
theorem dX10_undo_55 : decode cX10_undo 55 = .ok (.aload_n 0, 1) := by decide +kernel
theorem dX10_undo_56 : decode cX10_undo 56 = .ok (.getfield 7, 3) := by decide +kernel
theorem dX10_undo_59 : decode cX10_undo 59 = .ok (.iload_n 1, 1) := by decide +kernel
theorem dX10_undo_60 : decode cX10_undo 60 = .ok (.aload_n 0, 1) := by decide +kernel
theorem dX10_undo_61 : decode cX10_undo 61 = .ok (.getfield 19, 3) := by decide +kernel
theorem dX10_undo_64 : decode cX10_undo 64 = .ok (.bipush 44, 2) := by decide +kernel
theorem dX10_undo_66 : decode cX10_undo 66 = .ok (.aload_n 0, 1) := by decide +kernel
theorem dX10_undo_67 : decode cX10_undo 67 = .ok (.getfield 65, 3) := by decide +kernel
theorem dX10_undo_70 : decode cX10_undo 70 = .ok (.imul, 1) := by decide +kernel
theorem dX10_undo_71 : decode cX10_undo 71 = .ok (.iload_n 1, 1) := by decide +kernel
theorem dX10_undo_72 : decode cX10_undo 72 = .ok (.iadd, 1) := by decide +kernel
theorem dX10_undo_73 : decode cX10_undo 73 = .ok (.iaload, 1) := by decide +kernel
theorem dX10_undo_74 : decode cX10_undo 74 = .ok (.iastore, 1) := by decide +kernel
theorem dX10_undo_75 : decode cX10_undo 75 = .ok (.iinc 1 1, 3) := by decide +kernel
theorem dX10_undo_78 : decode cX10_undo 78 = .ok (.goto (-29), 3) := by decide +kernel
theorem dX10_undo_81 : decode cX10_undo 81 = .ok (.aload_n 0, 1) := by decide +kernel
theorem dX10_undo_82 : decode cX10_undo 82 = .ok (.getfield 68, 3) := by decide +kernel
theorem dX10_undo_85 : decode cX10_undo 85 = .ok (.ireturn, 1) := by decide +kernel
theorem dX10_content_0 : decode cX10_content 0 = .ok (.aload_n 0, 1) := by decide +kernel
theorem dX10_content_1 : decode cX10_content 1 = .ok (.aload_n 0, 1) := by decide +kernel
theorem dX10_content_2 : decode cX10_content 2 = .ok (.iload_n 1, 1) := by decide +kernel
theorem dX10_content_3 : decode cX10_content 3 = .ok (.invokevirtual 109, 3) := by decide +kernel
theorem dX10_content_6 : decode cX10_content 6 = .ok (.ifCond .eq 14, 3) := by decide +kernel
theorem dX10_content_9 : decode cX10_content 9 = .ok (.iload_n 2, 1) := by decide +kernel
theorem dX10_content_10 : decode cX10_content 10 = .ok (.invokestatic 112, 3) := by decide +kernel
theorem dX10_content_13 : decode cX10_content 13 = .ok (.ifCond .eq 7, 3) := by decide +kernel
theorem dX10_content_16 : decode cX10_content 16 = .ok (.iconst 0, 1) := by decide +kernel
theorem dX10_content_17 : decode cX10_content 17 = .ok (.goto 4, 3) := by decide +kernel
theorem dX10_content_20 : decode cX10_content 20 = .ok (.iconst 1, 1) := by decide +kernel
theorem dX10_content_21 : decode cX10_content 21 = .ok (.invokevirtual 76, 3) := by decide +kernel
theorem dX10_content_24 : decode cX10_content 24 = .ok (.ifCond .eq 5, 3) := by decide +kernel
theorem dX10_content_27 : decode cX10_content 27 = .ok (.iconst 0, 1) := by decide +kernel
theorem dX10_content_28 : decode cX10_content 28 = .ok (.ireturn, 1) := by decide +kernel
theorem dX10_content_29 : decode cX10_content 29 = .ok (.aload_n 0, 1) := by decide +kernel
theorem dX10_content_30 : decode cX10_content 30 = .ok (.getfield 7, 3) := by decide +kernel
theorem dX10_content_33 : decode cX10_content 33 = .ok (.bipush 28, 2) := by decide +kernel
theorem dX10_content_35 : decode cX10_content 35 = .ok (.iconst 2, 1) := by decide +kernel
theorem dX10_content_36 : decode cX10_content 36 = .ok (.iload_n 1, 1) := by decide +kernel
theorem dX10_content_37 : decode cX10_content 37 = .ok (.imul, 1) := by decide +kernel
theorem dX10_content_38 : decode cX10_content 38 = .ok (.iadd, 1) := by decide +kernel
theorem dX10_content_39 : decode cX10_content 39 = .ok (.iload_n 2, 1) := by decide +kernel
theorem dX10_content_40 : decode cX10_content 40 = .ok (.iadd, 1) := by decide +kernel
theorem dX10_content_41 : decode cX10_content 41 = .ok (.iaload, 1) := by decide +kernel
theorem dX10_content_42 : decode cX10_content 42 = .ok (.ireturn, 1) := by decide +kernel
theorem dX10_amount_0 : decode cX10_amount 0 = .ok (.aload_n 0, 1) := by decide +kernel
theorem dX10_amount_1 : decode cX10_amount 1 = .ok (.iload_n 1, 1) := by decide +kernel
theorem dX10_amount_2 : decode cX10_amount 2 = .ok (.i2l, 1) := by decide +kernel
theorem dX10_amount_3 : decode cX10_amount 3 = .ok (.ldc2_w 61, 3) := by decide +kernel
theorem dX10_amount_6 : decode cX10_amount 6 = .ok (.ldc2_w 63, 3) := by decide +kernel
theorem dX10_amount_9 : decode cX10_amount 9 = .ok (.invokestatic 55, 3) := by decide +kernel
theorem dX10_amount_12 : decode cX10_amount 12 = .ok (.ifCond .eq 14, 3) := by decide +kernel
theorem dX10_amount_15 : decode cX10_amount 15 = .ok (.iload_n 2, 1) := by decide +kernel
theorem dX10_amount_16 : decode cX10_amount 16 = .ok (.invokestatic 112, 3) := by decide +kernel
theorem dX10_amount_19 : decode cX10_amount 19 = .ok (.ifCond .eq 7, 3) := by decide +kernel
theorem dX10_amount_22 : decode cX10_amount 22 = .ok (.iconst 0, 1) := by decide +kernel
theorem dX10_amount_23 : decode cX10_amount 23 = .ok (.goto 4, 3) := by decide +kernel
theorem dX10_amount_26 : decode cX10_amount 26 = .ok (.iconst 1, 1) := by decide +kernel
theorem dX10_amount_27 : decode cX10_amount 27 = .ok (.invokevirtual 76, 3) := by decide +kernel
theorem dX10_amount_30 : decode cX10_amount 30 = .ok (.ifCond .eq 5, 3) := by decide +kernel
theorem dX10_amount_33 : decode cX10_amount 33 = .ok (.iconst 0, 1) := by decide +kernel
theorem dX10_amount_34 : decode cX10_amount 34 = .ok (.ireturn, 1) := by decide +kernel
theorem dX10_amount_35 : decode cX10_amount 35 = .ok (.aload_n 0, 1) := by decide +kernel
theorem dX10_amount_36 : decode cX10_amount 36 = .ok (.getfield 7, 3) := by decide +kernel
theorem dX10_amount_39 : decode cX10_amount 39 = .ok (.bipush 40, 2) := by decide +kernel
theorem dX10_amount_41 : decode cX10_amount 41 = .ok (.iconst 2, 1) := by decide +kernel
theorem dX10_amount_42 : decode cX10_amount 42 = .ok (.iload_n 1, 1) := by decide +kernel
theorem dX10_amount_43 : decode cX10_amount 43 = .ok (.bipush 8, 2) := by decide +kernel
theorem dX10_amount_45 : decode cX10_amount 45 = .ok (.isub, 1) := by decide +kernel
theorem dX10_amount_46 : decode cX10_amount 46 = .ok (.imul, 1) := by decide +kernel
theorem dX10_amount_47 : decode cX10_amount 47 = .ok (.iadd, 1) := by decide +kernel
theorem dX10_amount_48 : decode cX10_amount 48 = .ok (.iload_n 2, 1) := by decide +kernel
theorem dX10_amount_49 : decode cX10_amount 49 = .ok (.iadd, 1) := by decide +kernel
theorem dX10_amount_50 : decode cX10_amount 50 = .ok (.iaload, 1) := by decide +kernel
theorem dX10_amount_51 : decode cX10_amount 51 = .ok (.ireturn, 1) := by decide +kernel
theorem dX10_share_0 : decode cX10_share 0 = .ok (.aload_n 0, 1) := by decide +kernel
theorem dX10_share_1 : decode cX10_share 1 = .ok (.iconst 1, 1) := by decide +kernel
theorem dX10_share_2 : decode cX10_share 2 = .ok (.iconst 2, 1) := by decide +kernel
theorem dX10_share_3 : decode cX10_share 3 = .ok (.iload_n 1, 1) := by decide +kernel
theorem dX10_share_4 : decode cX10_share 4 = .ok (.imul, 1) := by decide +kernel
theorem dX10_share_5 : decode cX10_share 5 = .ok (.iadd, 1) := by decide +kernel
theorem dX10_share_6 : decode cX10_share 6 = .ok (.iload_n 3, 1) := by decide +kernel
theorem dX10_share_7 : decode cX10_share 7 = .ok (.iadd, 1) := by decide +kernel
theorem dX10_share_8 : decode cX10_share 8 = .ok (.iaload, 1) := by decide +kernel
theorem dX10_share_9 : decode cX10_share 9 = .ok (.istore 4, 2) := by decide +kernel
theorem dX10_share_11 : decode cX10_share 11 = .ok (.iload_n 2, 1) := by decide +kernel
theorem dX10_share_12 : decode cX10_share 12 = .ok (.ifCond .ne 8, 3) := by decide +kernel
theorem dX10_share_15 : decode cX10_share 15 = .ok (.iload 4, 2) := by decide +kernel
theorem dX10_share_17 : decode cX10_share 17 = .ok (.goto 8, 3) := by decide +kernel
theorem dX10_share_20 : decode cX10_share 20 = .ok (.bipush 100, 2) := by decide +kernel
theorem dX10_share_22 : decode cX10_share 22 = .ok (.iload 4, 2) := by decide +kernel
theorem dX10_share_24 : decode cX10_share 24 = .ok (.isub, 1) := by decide +kernel
theorem dX10_share_25 : decode cX10_share 25 = .ok (.ireturn, 1) := by decide +kernel
theorem dX10_part_0 : decode cX10_part 0 = .ok (.iconst 0, 1) := by decide +kernel
theorem dX10_part_1 : decode cX10_part 1 = .ok (.istore 4, 2) := by decide +kernel
theorem dX10_part_3 : decode cX10_part 3 = .ok (.iconst 0, 1) := by decide +kernel
theorem dX10_part_4 : decode cX10_part 4 = .ok (.istore 5, 2) := by decide +kernel
theorem dX10_part_6 : decode cX10_part 6 = .ok (.iload 5, 2) := by decide +kernel
theorem dX10_part_8 : decode cX10_part 8 = .ok (.iconst 2, 1) := by decide +kernel
theorem dX10_part_9 : decode cX10_part 9 = .ok (.if_icmp .ge 45, 3) := by decide +kernel
theorem dX10_part_12 : decode cX10_part 12 = .ok (.iload 4, 2) := by decide +kernel
theorem dX10_part_14 : decode cX10_part 14 = .ok (.aload_n 0, 1) := by decide +kernel
theorem dX10_part_15 : decode cX10_part 15 = .ok (.aload_n 0, 1) := by decide +kernel
theorem dX10_part_16 : decode cX10_part 16 = .ok (.bipush 13, 2) := by decide +kernel
theorem dX10_part_18 : decode cX10_part 18 = .ok (.iconst 2, 1) := by decide +kernel
theorem dX10_part_19 : decode cX10_part 19 = .ok (.iload_n 1, 1) := by decide +kernel
theorem dX10_part_20 : decode cX10_part 20 = .ok (.imul, 1) := by decide +kernel
theorem dX10_part_21 : decode cX10_part 21 = .ok (.iadd, 1) := by decide +kernel
theorem dX10_part_22 : decode cX10_part 22 = .ok (.iload 5, 2) := by decide +kernel
theorem dX10_part_24 : decode cX10_part 24 = .ok (.iadd, 1) := by decide +kernel
theorem dX10_part_25 : decode cX10_part 25 = .ok (.iaload, 1) := by decide +kernel
theorem dX10_part_26 : decode cX10_part 26 = .ok (.invokestatic 122, 3) := by decide +kernel
theorem dX10_part_29 : decode cX10_part 29 = .ok (.iload_n 2, 1) := by decide +kernel
theorem dX10_part_30 : decode cX10_part 30 = .ok (.if_icmp .ne 14, 3) := by decide +kernel
theorem dX10_part_33 : decode cX10_part 33 = .ok (.aload_n 0, 1) := by decide +kernel
theorem dX10_part_34 : decode cX10_part 34 = .ok (.iload_n 1, 1) := by decide +kernel
theorem dX10_part_35 : decode cX10_part 35 = .ok (.iload 5, 2) := by decide +kernel
theorem dX10_part_37 : decode cX10_part 37 = .ok (.iload_n 3, 1) := by decide +kernel
theorem dX10_part_38 : decode cX10_part 38 = .ok (.invokestatic 134, 3) := by decide +kernel
theorem dX10_part_41 : decode cX10_part 41 = .ok (.goto 4, 3) := by decide +kernel
theorem dX10_part_44 : decode cX10_part 44 = .ok (.iconst 0, 1) := by decide +kernel
theorem dX10_part_45 : decode cX10_part 45 = .ok (.iadd, 1) := by decide +kernel
theorem dX10_part_46 : decode cX10_part 46 = .ok (.istore 4, 2) := by decide +kernel
theorem dX10_part_48 : decode cX10_part 48 = .ok (.iinc 5 1, 3) := by decide +kernel
theorem dX10_part_51 : decode cX10_part 51 = .ok (.goto (-45), 3) := by decide +kernel
theorem dX10_part_54 : decode cX10_part 54 = .ok (.iload 4, 2) := by decide +kernel
theorem dX10_part_56 : decode cX10_part 56 = .ok (.ireturn, 1) := by decide +kernel
theorem dX10_isSteady_0 : decode cX10_isSteady 0 = .ok (.iconst 0, 1) := by decide +kernel
theorem dX10_isSteady_1 : decode cX10_isSteady 1 = .ok (.istore_n 2, 1) := by decide +kernel
theorem dX10_isSteady_2 : decode cX10_isSteady 2 = .ok (.iconst 0, 1) := by decide +kernel
theorem dX10_isSteady_3 : decode cX10_isSteady 3 = .ok (.istore_n 3, 1) := by decide +kernel
theorem dX10_isSteady_4 : decode cX10_isSteady 4 = .ok (.iload_n 3, 1) := by decide +kernel
theorem dX10_isSteady_5 : decode cX10_isSteady 5 = .ok (.bipush 6, 2) := by decide +kernel
theorem dX10_isSteady_7 : decode cX10_isSteady 7 = .ok (.if_icmp .ge 111, 3) := by decide +kernel
theorem dX10_isSteady_10 : decode cX10_isSteady 10 = .ok (.iconst 0, 1) := by decide +kernel
theorem dX10_isSteady_11 : decode cX10_isSteady 11 = .ok (.istore 4, 2) := by decide +kernel
theorem dX10_isSteady_13 : decode cX10_isSteady 13 = .ok (.iload 4, 2) := by decide +kernel
theorem dX10_isSteady_15 : decode cX10_isSteady 15 = .ok (.aload_n 0, 1) := by decide +kernel
theorem dX10_isSteady_16 : decode cX10_isSteady 16 = .ok (.iconst 0, 1) := by decide +kernel
theorem dX10_isSteady_17 : decode cX10_isSteady 17 = .ok (.iaload, 1) := by decide +kernel
theorem dX10_isSteady_18 : decode cX10_isSteady 18 = .ok (.if_icmp .ge 94, 3) := by decide +kernel
theorem dX10_isSteady_21 : decode cX10_isSteady 21 = .ok (.iconst 0, 1) := by decide +kernel
theorem dX10_isSteady_22 : decode cX10_isSteady 22 = .ok (.istore 5, 2) := by decide +kernel
theorem dX10_isSteady_24 : decode cX10_isSteady 24 = .ok (.iload 5, 2) := by decide +kernel
theorem dX10_isSteady_26 : decode cX10_isSteady 26 = .ok (.iconst 2, 1) := by decide +kernel
theorem dX10_isSteady_27 : decode cX10_isSteady 27 = .ok (.if_icmp .ge 79, 3) := by decide +kernel
theorem dX10_isSteady_30 : decode cX10_isSteady 30 = .ok (.aload_n 0, 1) := by decide +kernel
theorem dX10_isSteady_31 : decode cX10_isSteady 31 = .ok (.aload_n 0, 1) := by decide +kernel
theorem dX10_isSteady_32 : decode cX10_isSteady 32 = .ok (.bipush 13, 2) := by decide +kernel
theorem dX10_isSteady_34 : decode cX10_isSteady 34 = .ok (.iconst 2, 1) := by decide +kernel
theorem dX10_isSteady_35 : decode cX10_isSteady 35 = .ok (.iload 4, 2) := by decide +kernel
theorem dX10_isSteady_37 : decode cX10_isSteady 37 = .ok (.imul, 1) := by decide +kernel
theorem dX10_isSteady_38 : decode cX10_isSteady 38 = .ok (.iadd, 1) := by decide +kernel
theorem dX10_isSteady_39 : decode cX10_isSteady 39 = .ok (.iload 5, 2) := by decide +kernel
theorem dX10_isSteady_41 : decode cX10_isSteady 41 = .ok (.iadd, 1) := by decide +kernel
theorem dX10_isSteady_42 : decode cX10_isSteady 42 = .ok (.iaload, 1) := by decide +kernel
theorem dX10_isSteady_43 : decode cX10_isSteady 43 = .ok (.invokestatic 122, 3) := by decide +kernel
theorem dX10_isSteady_46 : decode cX10_isSteady 46 = .ok (.istore 6, 2) := by decide +kernel
theorem dX10_isSteady_48 : decode cX10_isSteady 48 = .ok (.aload_n 0, 1) := by decide +kernel
theorem dX10_isSteady_49 : decode cX10_isSteady 49 = .ok (.iload 4, 2) := by decide +kernel
theorem dX10_isSteady_51 : decode cX10_isSteady 51 = .ok (.iload 5, 2) := by decide +kernel
theorem dX10_isSteady_53 : decode cX10_isSteady 53 = .ok (.iload_n 1, 1) := by decide +kernel
theorem dX10_isSteady_54 : decode cX10_isSteady 54 = .ok (.invokestatic 134, 3) := by decide +kernel
theorem dX10_isSteady_57 : decode cX10_isSteady 57 = .ok (.ifCond .le 24, 3) := by decide +kernel
theorem dX10_isSteady_60 : decode cX10_isSteady 60 = .ok (.iload 6, 2) := by decide +kernel
theorem dX10_isSteady_62 : decode cX10_isSteady 62 = .ok (.bipush 7, 2) := by decide +kernel
theorem dX10_isSteady_64 : decode cX10_isSteady 64 = .ok (.if_icmp .gt 13, 3) := by decide +kernel
theorem dX10_isSteady_67 : decode cX10_isSteady 67 = .ok (.iload_n 2, 1) := by decide +kernel
theorem dX10_isSteady_68 : decode cX10_isSteady 68 = .ok (.iload 6, 2) := by decide +kernel
theorem dX10_isSteady_70 : decode cX10_isSteady 70 = .ok (.ishr, 1) := by decide +kernel
theorem dX10_isSteady_71 : decode cX10_isSteady 71 = .ok (.iconst 1, 1) := by decide +kernel
theorem dX10_isSteady_72 : decode cX10_isSteady 72 = .ok (.iand, 1) := by decide +kernel
theorem dX10_isSteady_73 : decode cX10_isSteady 73 = .ok (.iconst 1, 1) := by decide +kernel
theorem dX10_isSteady_74 : decode cX10_isSteady 74 = .ok (.if_icmp .ne 7, 3) := by decide +kernel
theorem dX10_isSteady_77 : decode cX10_isSteady 77 = .ok (.iconst 1, 1) := by decide +kernel
theorem dX10_isSteady_78 : decode cX10_isSteady 78 = .ok (.goto 4, 3) := by decide +kernel
theorem dX10_isSteady_81 : decode cX10_isSteady 81 = .ok (.iconst 0, 1) := by decide +kernel
theorem dX10_isSteady_82 : decode cX10_isSteady 82 = .ok (.istore 7, 2) := by decide +kernel
theorem dX10_isSteady_84 : decode cX10_isSteady 84 = .ok (.iload_n 2, 1) := by decide +kernel
theorem dX10_isSteady_85 : decode cX10_isSteady 85 = .ok (.iload 7, 2) := by decide +kernel
theorem dX10_isSteady_87 : decode cX10_isSteady 87 = .ok (.ifCond .eq 10, 3) := by decide +kernel
theorem dX10_isSteady_90 : decode cX10_isSteady 90 = .ok (.iconst 1, 1) := by decide +kernel
theorem dX10_isSteady_91 : decode cX10_isSteady 91 = .ok (.iload 4, 2) := by decide +kernel
theorem dX10_isSteady_93 : decode cX10_isSteady 93 = .ok (.ishl, 1) := by decide +kernel
theorem dX10_isSteady_94 : decode cX10_isSteady 94 = .ok (.goto 4, 3) := by decide +kernel
theorem dX10_isSteady_97 : decode cX10_isSteady 97 = .ok (.iconst 0, 1) := by decide +kernel
theorem dX10_isSteady_98 : decode cX10_isSteady 98 = .ok (.ior, 1) := by decide +kernel
theorem dX10_isSteady_99 : decode cX10_isSteady 99 = .ok (.istore_n 2, 1) := by decide +kernel
theorem dX10_isSteady_100 : decode cX10_isSteady 100 = .ok (.iinc 5 1, 3) := by decide +kernel
theorem dX10_isSteady_103 : decode cX10_isSteady 103 = .ok (.goto (-79), 3) := by decide +kernel
theorem dX10_isSteady_106 : decode cX10_isSteady 106 = .ok (.iinc 4 1, 3) := by decide +kernel
theorem dX10_isSteady_109 : decode cX10_isSteady 109 = .ok (.goto (-96), 3) := by decide +kernel
theorem dX10_isSteady_112 : decode cX10_isSteady 112 = .ok (.iinc 3 1, 3) := by decide +kernel
theorem dX10_isSteady_115 : decode cX10_isSteady 115 = .ok (.goto (-111), 3) := by decide +kernel
theorem dX10_isSteady_118 : decode cX10_isSteady 118 = .ok (.iload_n 2, 1) := by decide +kernel
theorem dX10_isSteady_119 : decode cX10_isSteady 119 = .ok (.iconst 1, 1) := by decide +kernel
theorem dX10_isSteady_120 : decode cX10_isSteady 120 = .ok (.aload_n 0, 1) := by decide +kernel
theorem dX10_isSteady_121 : decode cX10_isSteady 121 = .ok (.iconst 0, 1) := by decide +kernel
theorem dX10_isSteady_122 : decode cX10_isSteady 122 = .ok (.iaload, 1) := by decide +kernel
theorem dX10_isSteady_123 : decode cX10_isSteady 123 = .ok (.ishl, 1) := by decide +kernel
theorem dX10_isSteady_124 : decode cX10_isSteady 124 = .ok (.iconst 1, 1) := by decide +kernel
theorem dX10_isSteady_125 : decode cX10_isSteady 125 = .ok (.isub, 1) := by decide +kernel
theorem dX10_isSteady_126 : decode cX10_isSteady 126 = .ok (.if_icmp .ne 7, 3) := by decide +kernel
theorem dX10_isSteady_129 : decode cX10_isSteady 129 = .ok (.iconst 1, 1) := by decide +kernel
theorem dX10_isSteady_130 : decode cX10_isSteady 130 = .ok (.goto 4, 3) := by decide +kernel
theorem dX10_isSteady_133 : decode cX10_isSteady 133 = .ok (.iconst 0, 1) := by decide +kernel
theorem dX10_isSteady_134 : decode cX10_isSteady 134 = .ok (.ireturn, 1) := by decide +kernel
theorem dX10_isSteadyAll_0 : decode cX10_isSteadyAll 0 = .ok (.aload_n 0, 1) := by decide +kernel
theorem dX10_isSteadyAll_1 : decode cX10_isSteadyAll 1 = .ok (.iconst 0, 1) := by decide +kernel
theorem dX10_isSteadyAll_2 : decode cX10_isSteadyAll 2 = .ok (.invokestatic 138, 3) := by decide +kernel
theorem dX10_isSteadyAll_5 : decode cX10_isSteadyAll 5 = .ok (.ifCond .eq 15, 3) := by decide +kernel
theorem dX10_isSteadyAll_8 : decode cX10_isSteadyAll 8 = .ok (.aload_n 0, 1) := by decide +kernel
theorem dX10_isSteadyAll_9 : decode cX10_isSteadyAll 9 = .ok (.iconst 1, 1) := by decide +kernel
theorem dX10_isSteadyAll_10 : decode cX10_isSteadyAll 10 = .ok (.invokestatic 138, 3) := by decide +kernel
theorem dX10_isSteadyAll_13 : decode cX10_isSteadyAll 13 = .ok (.ifCond .eq 7, 3) := by decide +kernel
theorem dX10_isSteadyAll_16 : decode cX10_isSteadyAll 16 = .ok (.iconst 1, 1) := by decide +kernel
theorem dX10_isSteadyAll_17 : decode cX10_isSteadyAll 17 = .ok (.goto 4, 3) := by decide +kernel
theorem dX10_isSteadyAll_20 : decode cX10_isSteadyAll 20 = .ok (.iconst 0, 1) := by decide +kernel
theorem dX10_isSteadyAll_21 : decode cX10_isSteadyAll 21 = .ok (.ireturn, 1) := by decide +kernel
theorem dX10_determinant_0 : decode cX10_determinant 0 = .ok (.aload_n 0, 1) := by decide +kernel
theorem dX10_determinant_1 : decode cX10_determinant 1 = .ok (.getfield 48, 3) := by decide +kernel
theorem dX10_determinant_4 : decode cX10_determinant 4 = .ok (.iconst 0, 1) := by decide +kernel
theorem dX10_determinant_5 : decode cX10_determinant 5 = .ok (.lconst 1, 1) := by decide +kernel
theorem dX10_determinant_6 : decode cX10_determinant 6 = .ok (.lastore, 1) := by decide +kernel
theorem dX10_determinant_7 : decode cX10_determinant 7 = .ok (.iconst 1, 1) := by decide +kernel
theorem dX10_determinant_8 : decode cX10_determinant 8 = .ok (.istore_n 3, 1) := by decide +kernel
theorem dX10_determinant_9 : decode cX10_determinant 9 = .ok (.iload_n 3, 1) := by decide +kernel
theorem dX10_determinant_10 : decode cX10_determinant 10 = .ok (.iconst 1, 1) := by decide +kernel
theorem dX10_determinant_11 : decode cX10_determinant 11 = .ok (.iload_n 1, 1) := by decide +kernel
theorem dX10_determinant_12 : decode cX10_determinant 12 = .ok (.ishl, 1) := by decide +kernel
theorem dX10_determinant_13 : decode cX10_determinant 13 = .ok (.if_icmp .ge 148, 3) := by decide +kernel
theorem dX10_determinant_16 : decode cX10_determinant 16 = .ok (.iconst (-1), 1) := by decide +kernel
theorem dX10_determinant_17 : decode cX10_determinant 17 = .ok (.istore 4, 2) := by decide +kernel
theorem dX10_determinant_19 : decode cX10_determinant 19 = .ok (.iconst 0, 1) := by decide +kernel
theorem dX10_determinant_20 : decode cX10_determinant 20 = .ok (.istore 5, 2) := by decide +kernel
theorem dX10_determinant_22 : decode cX10_determinant 22 = .ok (.iload 5, 2) := by decide +kernel
theorem dX10_determinant_24 : decode cX10_determinant 24 = .ok (.iload_n 1, 1) := by decide +kernel
theorem dX10_determinant_25 : decode cX10_determinant 25 = .ok (.if_icmp .ge 20, 3) := by decide +kernel
theorem dX10_determinant_28 : decode cX10_determinant 28 = .ok (.iload 4, 2) := by decide +kernel
theorem dX10_determinant_30 : decode cX10_determinant 30 = .ok (.iload_n 3, 1) := by decide +kernel
theorem dX10_determinant_31 : decode cX10_determinant 31 = .ok (.iload 5, 2) := by decide +kernel
theorem dX10_determinant_33 : decode cX10_determinant 33 = .ok (.ishr, 1) := by decide +kernel
theorem dX10_determinant_34 : decode cX10_determinant 34 = .ok (.iconst 1, 1) := by decide +kernel
theorem dX10_determinant_35 : decode cX10_determinant 35 = .ok (.iand, 1) := by decide +kernel
theorem dX10_determinant_36 : decode cX10_determinant 36 = .ok (.iadd, 1) := by decide +kernel
theorem dX10_determinant_37 : decode cX10_determinant 37 = .ok (.istore 4, 2) := by decide +kernel
theorem dX10_determinant_39 : decode cX10_determinant 39 = .ok (.iinc 5 1, 3) := by decide +kernel
theorem dX10_determinant_42 : decode cX10_determinant 42 = .ok (.goto (-20), 3) := by decide +kernel
theorem dX10_determinant_45 : decode cX10_determinant 45 = .ok (.lconst 0, 1) := by decide +kernel
theorem dX10_determinant_46 : decode cX10_determinant 46 = .ok (.lstore 5, 2) := by decide +kernel
theorem dX10_determinant_48 : decode cX10_determinant 48 = .ok (.iconst 0, 1) := by decide +kernel
theorem dX10_determinant_49 : decode cX10_determinant 49 = .ok (.istore 7, 2) := by decide +kernel
theorem dX10_determinant_51 : decode cX10_determinant 51 = .ok (.iconst 0, 1) := by decide +kernel
theorem dX10_determinant_52 : decode cX10_determinant 52 = .ok (.istore 8, 2) := by decide +kernel
theorem dX10_determinant_54 : decode cX10_determinant 54 = .ok (.iload 8, 2) := by decide +kernel
theorem dX10_determinant_56 : decode cX10_determinant 56 = .ok (.iload_n 1, 1) := by decide +kernel
theorem dX10_determinant_57 : decode cX10_determinant 57 = .ok (.if_icmp .ge 90, 3) := by decide +kernel
theorem dX10_determinant_60 : decode cX10_determinant 60 = .ok (.iload_n 3, 1) := by decide +kernel
theorem dX10_determinant_61 : decode cX10_determinant 61 = .ok (.iload 8, 2) := by decide +kernel
theorem dX10_determinant_63 : decode cX10_determinant 63 = .ok (.ishr, 1) := by decide +kernel
theorem dX10_determinant_64 : decode cX10_determinant 64 = .ok (.iconst 1, 1) := by decide +kernel
theorem dX10_determinant_65 : decode cX10_determinant 65 = .ok (.iand, 1) := by decide +kernel
theorem dX10_determinant_66 : decode cX10_determinant 66 = .ok (.iconst 1, 1) := by decide +kernel
theorem dX10_determinant_67 : decode cX10_determinant 67 = .ok (.if_icmp .ne 74, 3) := by decide +kernel
theorem dX10_determinant_70 : decode cX10_determinant 70 = .ok (.iload 8, 2) := by decide +kernel
theorem dX10_determinant_72 : decode cX10_determinant 72 = .ok (.iload_n 2, 1) := by decide +kernel
theorem dX10_determinant_73 : decode cX10_determinant 73 = .ok (.if_icmp .ne 13, 3) := by decide +kernel
theorem dX10_determinant_76 : decode cX10_determinant 76 = .ok (.aload_n 0, 1) := by decide +kernel
theorem dX10_determinant_77 : decode cX10_determinant 77 = .ok (.getfield 45, 3) := by decide +kernel
theorem dX10_determinant_80 : decode cX10_determinant 80 = .ok (.iload 4, 2) := by decide +kernel
theorem dX10_determinant_82 : decode cX10_determinant 82 = .ok (.laload, 1) := by decide +kernel
theorem dX10_determinant_83 : decode cX10_determinant 83 = .ok (.goto 16, 3) := by decide +kernel
theorem dX10_determinant_86 : decode cX10_determinant 86 = .ok (.aload_n 0, 1) := by decide +kernel
theorem dX10_determinant_87 : decode cX10_determinant 87 = .ok (.getfield 41, 3) := by decide +kernel
theorem dX10_determinant_90 : decode cX10_determinant 90 = .ok (.bipush 6, 2) := by decide +kernel
theorem dX10_determinant_92 : decode cX10_determinant 92 = .ok (.iload 4, 2) := by decide +kernel
theorem dX10_determinant_94 : decode cX10_determinant 94 = .ok (.imul, 1) := by decide +kernel
theorem dX10_determinant_95 : decode cX10_determinant 95 = .ok (.iload 8, 2) := by decide +kernel
theorem dX10_determinant_97 : decode cX10_determinant 97 = .ok (.iadd, 1) := by decide +kernel
theorem dX10_determinant_98 : decode cX10_determinant 98 = .ok (.laload, 1) := by decide +kernel
theorem dX10_determinant_99 : decode cX10_determinant 99 = .ok (.lstore 9, 2) := by decide +kernel
theorem dX10_determinant_101 : decode cX10_determinant 101 = .ok (.lload 5, 2) := by decide +kernel
theorem dX10_determinant_103 : decode cX10_determinant 103 = .ok (.iload 4, 2) := by decide +kernel
theorem dX10_determinant_105 : decode cX10_determinant 105 = .ok (.iload 7, 2) := by decide +kernel
theorem dX10_determinant_107 : decode cX10_determinant 107 = .ok (.iadd, 1) := by decide +kernel
theorem dX10_determinant_108 : decode cX10_determinant 108 = .ok (.iconst 2, 1) := by decide +kernel
theorem dX10_determinant_109 : decode cX10_determinant 109 = .ok (.irem, 1) := by decide +kernel
theorem dX10_determinant_110 : decode cX10_determinant 110 = .ok (.ifCond .ne 8, 3) := by decide +kernel
theorem dX10_determinant_113 : decode cX10_determinant 113 = .ok (.lload 9, 2) := by decide +kernel
theorem dX10_determinant_115 : decode cX10_determinant 115 = .ok (.goto 6, 3) := by decide +kernel
theorem dX10_determinant_118 : decode cX10_determinant 118 = .ok (.lload 9, 2) := by decide +kernel
theorem dX10_determinant_120 : decode cX10_determinant 120 = .ok (.lneg, 1) := by decide +kernel
theorem dX10_determinant_121 : decode cX10_determinant 121 = .ok (.aload_n 0, 1) := by decide +kernel
theorem dX10_determinant_122 : decode cX10_determinant 122 = .ok (.getfield 48, 3) := by decide +kernel
theorem dX10_determinant_125 : decode cX10_determinant 125 = .ok (.iload_n 3, 1) := by decide +kernel
theorem dX10_determinant_126 : decode cX10_determinant 126 = .ok (.iconst 1, 1) := by decide +kernel
theorem dX10_determinant_127 : decode cX10_determinant 127 = .ok (.iload 8, 2) := by decide +kernel
theorem dX10_determinant_129 : decode cX10_determinant 129 = .ok (.ishl, 1) := by decide +kernel
theorem dX10_determinant_130 : decode cX10_determinant 130 = .ok (.iconst (-1), 1) := by decide +kernel
theorem dX10_determinant_131 : decode cX10_determinant 131 = .ok (.ixor, 1) := by decide +kernel
theorem dX10_determinant_132 : decode cX10_determinant 132 = .ok (.iand, 1) := by decide +kernel
theorem dX10_determinant_133 : decode cX10_determinant 133 = .ok (.laload, 1) := by decide +kernel
theorem dX10_determinant_134 : decode cX10_determinant 134 = .ok (.lmul, 1) := by decide +kernel
theorem dX10_determinant_135 : decode cX10_determinant 135 = .ok (.ladd, 1) := by decide +kernel
theorem dX10_determinant_136 : decode cX10_determinant 136 = .ok (.lstore 5, 2) := by decide +kernel
theorem dX10_determinant_138 : decode cX10_determinant 138 = .ok (.iinc 7 1, 3) := by decide +kernel
theorem dX10_determinant_141 : decode cX10_determinant 141 = .ok (.iinc 8 1, 3) := by decide +kernel
theorem dX10_determinant_144 : decode cX10_determinant 144 = .ok (.goto (-90), 3) := by decide +kernel
theorem dX10_determinant_147 : decode cX10_determinant 147 = .ok (.aload_n 0, 1) := by decide +kernel
theorem dX10_determinant_148 : decode cX10_determinant 148 = .ok (.getfield 48, 3) := by decide +kernel
theorem dX10_determinant_151 : decode cX10_determinant 151 = .ok (.iload_n 3, 1) := by decide +kernel
theorem dX10_determinant_152 : decode cX10_determinant 152 = .ok (.lload 5, 2) := by decide +kernel
theorem dX10_determinant_154 : decode cX10_determinant 154 = .ok (.lastore, 1) := by decide +kernel
theorem dX10_determinant_155 : decode cX10_determinant 155 = .ok (.iinc 3 1, 3) := by decide +kernel
theorem dX10_determinant_158 : decode cX10_determinant 158 = .ok (.goto (-149), 3) := by decide +kernel
theorem dX10_determinant_161 : decode cX10_determinant 161 = .ok (.aload_n 0, 1) := by decide +kernel
theorem dX10_determinant_162 : decode cX10_determinant 162 = .ok (.getfield 48, 3) := by decide +kernel
theorem dX10_determinant_165 : decode cX10_determinant 165 = .ok (.iconst 1, 1) := by decide +kernel
theorem dX10_determinant_166 : decode cX10_determinant 166 = .ok (.iload_n 1, 1) := by decide +kernel
theorem dX10_determinant_167 : decode cX10_determinant 167 = .ok (.ishl, 1) := by decide +kernel
theorem dX10_determinant_168 : decode cX10_determinant 168 = .ok (.iconst 1, 1) := by decide +kernel
theorem dX10_determinant_169 : decode cX10_determinant 169 = .ok (.isub, 1) := by decide +kernel
theorem dX10_determinant_170 : decode cX10_determinant 170 = .ok (.laload, 1) := by decide +kernel
theorem dX10_determinant_171 : decode cX10_determinant 171 = .ok (.lreturn, 1) := by decide +kernel
theorem dX10_layMatrix_0 : decode cX10_layMatrix 0 = .ok (.iconst 0, 1) := by decide +kernel
theorem dX10_layMatrix_1 : decode cX10_layMatrix 1 = .ok (.istore_n 3, 1) := by decide +kernel
theorem dX10_layMatrix_2 : decode cX10_layMatrix 2 = .ok (.iload_n 3, 1) := by decide +kernel
theorem dX10_layMatrix_3 : decode cX10_layMatrix 3 = .ok (.aload_n 1, 1) := by decide +kernel
theorem dX10_layMatrix_4 : decode cX10_layMatrix 4 = .ok (.iconst 0, 1) := by decide +kernel
theorem dX10_layMatrix_5 : decode cX10_layMatrix 5 = .ok (.iaload, 1) := by decide +kernel
theorem dX10_layMatrix_6 : decode cX10_layMatrix 6 = .ok (.if_icmp .ge 90, 3) := by decide +kernel
theorem dX10_layMatrix_9 : decode cX10_layMatrix 9 = .ok (.iconst 0, 1) := by decide +kernel
theorem dX10_layMatrix_10 : decode cX10_layMatrix 10 = .ok (.istore 4, 2) := by decide +kernel
theorem dX10_layMatrix_12 : decode cX10_layMatrix 12 = .ok (.iload 4, 2) := by decide +kernel
theorem dX10_layMatrix_14 : decode cX10_layMatrix 14 = .ok (.aload_n 1, 1) := by decide +kernel
theorem dX10_layMatrix_15 : decode cX10_layMatrix 15 = .ok (.iconst 0, 1) := by decide +kernel
theorem dX10_layMatrix_16 : decode cX10_layMatrix 16 = .ok (.iaload, 1) := by decide +kernel
theorem dX10_layMatrix_17 : decode cX10_layMatrix 17 = .ok (.if_icmp .ge 44, 3) := by decide +kernel
theorem dX10_layMatrix_20 : decode cX10_layMatrix 20 = .ok (.aload_n 0, 1) := by decide +kernel
theorem dX10_layMatrix_21 : decode cX10_layMatrix 21 = .ok (.getfield 41, 3) := by decide +kernel
theorem dX10_layMatrix_24 : decode cX10_layMatrix 24 = .ok (.bipush 6, 2) := by decide +kernel
theorem dX10_layMatrix_26 : decode cX10_layMatrix 26 = .ok (.iload_n 3, 1) := by decide +kernel
theorem dX10_layMatrix_27 : decode cX10_layMatrix 27 = .ok (.imul, 1) := by decide +kernel
theorem dX10_layMatrix_28 : decode cX10_layMatrix 28 = .ok (.iload 4, 2) := by decide +kernel
theorem dX10_layMatrix_30 : decode cX10_layMatrix 30 = .ok (.iadd, 1) := by decide +kernel
theorem dX10_layMatrix_31 : decode cX10_layMatrix 31 = .ok (.iload 4, 2) := by decide +kernel
theorem dX10_layMatrix_33 : decode cX10_layMatrix 33 = .ok (.iload_n 3, 1) := by decide +kernel
theorem dX10_layMatrix_34 : decode cX10_layMatrix 34 = .ok (.if_icmp .ne 9, 3) := by decide +kernel
theorem dX10_layMatrix_37 : decode cX10_layMatrix 37 = .ok (.ldc2_w 115, 3) := by decide +kernel
theorem dX10_layMatrix_40 : decode cX10_layMatrix 40 = .ok (.goto 4, 3) := by decide +kernel
theorem dX10_layMatrix_43 : decode cX10_layMatrix 43 = .ok (.lconst 0, 1) := by decide +kernel
theorem dX10_layMatrix_44 : decode cX10_layMatrix 44 = .ok (.aload_n 1, 1) := by decide +kernel
theorem dX10_layMatrix_45 : decode cX10_layMatrix 45 = .ok (.iload 4, 2) := by decide +kernel
theorem dX10_layMatrix_47 : decode cX10_layMatrix 47 = .ok (.iload_n 3, 1) := by decide +kernel
theorem dX10_layMatrix_48 : decode cX10_layMatrix 48 = .ok (.iload_n 2, 1) := by decide +kernel
theorem dX10_layMatrix_49 : decode cX10_layMatrix 49 = .ok (.invokestatic 142, 3) := by decide +kernel
theorem dX10_layMatrix_52 : decode cX10_layMatrix 52 = .ok (.i2l, 1) := by decide +kernel
theorem dX10_layMatrix_53 : decode cX10_layMatrix 53 = .ok (.lsub, 1) := by decide +kernel
theorem dX10_layMatrix_54 : decode cX10_layMatrix 54 = .ok (.lastore, 1) := by decide +kernel
theorem dX10_layMatrix_55 : decode cX10_layMatrix 55 = .ok (.iinc 4 1, 3) := by decide +kernel
theorem dX10_layMatrix_58 : decode cX10_layMatrix 58 = .ok (.goto (-46), 3) := by decide +kernel
theorem dX10_layMatrix_61 : decode cX10_layMatrix 61 = .ok (.aload_n 0, 1) := by decide +kernel
theorem dX10_layMatrix_62 : decode cX10_layMatrix 62 = .ok (.getfield 45, 3) := by decide +kernel
theorem dX10_layMatrix_65 : decode cX10_layMatrix 65 = .ok (.iload_n 3, 1) := by decide +kernel
theorem dX10_layMatrix_66 : decode cX10_layMatrix 66 = .ok (.aload_n 1, 1) := by decide +kernel
theorem dX10_layMatrix_67 : decode cX10_layMatrix 67 = .ok (.bipush 25, 2) := by decide +kernel
theorem dX10_layMatrix_69 : decode cX10_layMatrix 69 = .ok (.iaload, 1) := by decide +kernel
theorem dX10_layMatrix_70 : decode cX10_layMatrix 70 = .ok (.iload_n 3, 1) := by decide +kernel
theorem dX10_layMatrix_71 : decode cX10_layMatrix 71 = .ok (.if_icmp .ne 17, 3) := by decide +kernel
theorem dX10_layMatrix_74 : decode cX10_layMatrix 74 = .ok (.ldc2_w 115, 3) := by decide +kernel
theorem dX10_layMatrix_77 : decode cX10_layMatrix 77 = .ok (.aload_n 1, 1) := by decide +kernel
theorem dX10_layMatrix_78 : decode cX10_layMatrix 78 = .ok (.bipush 26, 2) := by decide +kernel
theorem dX10_layMatrix_80 : decode cX10_layMatrix 80 = .ok (.iload_n 2, 1) := by decide +kernel
theorem dX10_layMatrix_81 : decode cX10_layMatrix 81 = .ok (.iadd, 1) := by decide +kernel
theorem dX10_layMatrix_82 : decode cX10_layMatrix 82 = .ok (.iaload, 1) := by decide +kernel
theorem dX10_layMatrix_83 : decode cX10_layMatrix 83 = .ok (.i2l, 1) := by decide +kernel
theorem dX10_layMatrix_84 : decode cX10_layMatrix 84 = .ok (.lmul, 1) := by decide +kernel
theorem dX10_layMatrix_85 : decode cX10_layMatrix 85 = .ok (.goto 4, 3) := by decide +kernel
theorem dX10_layMatrix_88 : decode cX10_layMatrix 88 = .ok (.lconst 0, 1) := by decide +kernel
theorem dX10_layMatrix_89 : decode cX10_layMatrix 89 = .ok (.lastore, 1) := by decide +kernel
theorem dX10_layMatrix_90 : decode cX10_layMatrix 90 = .ok (.iinc 3 1, 3) := by decide +kernel
theorem dX10_layMatrix_93 : decode cX10_layMatrix 93 = .ok (.goto (-91), 3) := by decide +kernel
theorem dX10_layMatrix_96 : decode cX10_layMatrix 96 = .ok (.return_, 1) := by decide +kernel
theorem dX10_divisor_0 : decode cX10_divisor 0 = .ok (.lload_n 0, 1) := by decide +kernel
theorem dX10_divisor_1 : decode cX10_divisor 1 = .ok (.lstore 4, 2) := by decide +kernel
theorem dX10_divisor_3 : decode cX10_divisor 3 = .ok (.lload_n 2, 1) := by decide +kernel
theorem dX10_divisor_4 : decode cX10_divisor 4 = .ok (.lstore 6, 2) := by decide +kernel
theorem dX10_divisor_6 : decode cX10_divisor 6 = .ok (.lload 6, 2) := by decide +kernel
theorem dX10_divisor_8 : decode cX10_divisor 8 = .ok (.lconst 0, 1) := by decide +kernel
theorem dX10_divisor_9 : decode cX10_divisor 9 = .ok (.lcmp, 1) := by decide +kernel
theorem dX10_divisor_10 : decode cX10_divisor 10 = .ok (.ifCond .eq 21, 3) := by decide +kernel
theorem dX10_divisor_13 : decode cX10_divisor 13 = .ok (.lload 4, 2) := by decide +kernel
theorem dX10_divisor_15 : decode cX10_divisor 15 = .ok (.lload 6, 2) := by decide +kernel
theorem dX10_divisor_17 : decode cX10_divisor 17 = .ok (.lrem, 1) := by decide +kernel
theorem dX10_divisor_18 : decode cX10_divisor 18 = .ok (.lstore 8, 2) := by decide +kernel
theorem dX10_divisor_20 : decode cX10_divisor 20 = .ok (.lload 6, 2) := by decide +kernel
theorem dX10_divisor_22 : decode cX10_divisor 22 = .ok (.lstore 4, 2) := by decide +kernel
theorem dX10_divisor_24 : decode cX10_divisor 24 = .ok (.lload 8, 2) := by decide +kernel
theorem dX10_divisor_26 : decode cX10_divisor 26 = .ok (.lstore 6, 2) := by decide +kernel
theorem dX10_divisor_28 : decode cX10_divisor 28 = .ok (.goto (-22), 3) := by decide +kernel
theorem dX10_divisor_31 : decode cX10_divisor 31 = .ok (.lload 4, 2) := by decide +kernel
theorem dX10_divisor_33 : decode cX10_divisor 33 = .ok (.lreturn, 1) := by decide +kernel
theorem dX10_findFlow_0 : decode cX10_findFlow 0 = .ok (.aload_n 1, 1) := by decide +kernel
theorem dX10_findFlow_1 : decode cX10_findFlow 1 = .ok (.iconst 0, 1) := by decide +kernel
theorem dX10_findFlow_2 : decode cX10_findFlow 2 = .ok (.iaload, 1) := by decide +kernel
theorem dX10_findFlow_3 : decode cX10_findFlow 3 = .ok (.istore 4, 2) := by decide +kernel
theorem dX10_findFlow_5 : decode cX10_findFlow 5 = .ok (.aload_n 0, 1) := by decide +kernel
theorem dX10_findFlow_6 : decode cX10_findFlow 6 = .ok (.aload_n 1, 1) := by decide +kernel
theorem dX10_findFlow_7 : decode cX10_findFlow 7 = .ok (.iload_n 3, 1) := by decide +kernel
theorem dX10_findFlow_8 : decode cX10_findFlow 8 = .ok (.invokevirtual 145, 3) := by decide +kernel
theorem dX10_findFlow_11 : decode cX10_findFlow 11 = .ok (.aload_n 0, 1) := by decide +kernel
theorem dX10_findFlow_12 : decode cX10_findFlow 12 = .ok (.aload_n 0, 1) := by decide +kernel
theorem dX10_findFlow_13 : decode cX10_findFlow 13 = .ok (.iload 4, 2) := by decide +kernel
theorem dX10_findFlow_15 : decode cX10_findFlow 15 = .ok (.bipush (-9), 2) := by decide +kernel
theorem dX10_findFlow_17 : decode cX10_findFlow 17 = .ok (.invokevirtual 149, 3) := by decide +kernel
theorem dX10_findFlow_20 : decode cX10_findFlow 20 = .ok (.putfield 153, 3) := by decide +kernel
theorem dX10_findFlow_23 : decode cX10_findFlow 23 = .ok (.iload_n 2, 1) := by decide +kernel
theorem dX10_findFlow_24 : decode cX10_findFlow 24 = .ok (.bipush 8, 2) := by decide +kernel
theorem dX10_findFlow_26 : decode cX10_findFlow 26 = .ok (.if_icmp .ge 17, 3) := by decide +kernel
theorem dX10_findFlow_29 : decode cX10_findFlow 29 = .ok (.aload_n 0, 1) := by decide +kernel
theorem dX10_findFlow_30 : decode cX10_findFlow 30 = .ok (.aload_n 0, 1) := by decide +kernel
theorem dX10_findFlow_31 : decode cX10_findFlow 31 = .ok (.iload 4, 2) := by decide +kernel
theorem dX10_findFlow_33 : decode cX10_findFlow 33 = .ok (.iload_n 2, 1) := by decide +kernel
theorem dX10_findFlow_34 : decode cX10_findFlow 34 = .ok (.invokevirtual 149, 3) := by decide +kernel
theorem dX10_findFlow_37 : decode cX10_findFlow 37 = .ok (.putfield 157, 3) := by decide +kernel
theorem dX10_findFlow_40 : decode cX10_findFlow 40 = .ok (.goto 94, 3) := by decide +kernel
theorem dX10_findFlow_43 : decode cX10_findFlow 43 = .ok (.aload_n 0, 1) := by decide +kernel
theorem dX10_findFlow_44 : decode cX10_findFlow 44 = .ok (.aload_n 1, 1) := by decide +kernel
theorem dX10_findFlow_45 : decode cX10_findFlow 45 = .ok (.aload_n 1, 1) := by decide +kernel
theorem dX10_findFlow_46 : decode cX10_findFlow 46 = .ok (.bipush 25, 2) := by decide +kernel
theorem dX10_findFlow_48 : decode cX10_findFlow 48 = .ok (.iaload, 1) := by decide +kernel
theorem dX10_findFlow_49 : decode cX10_findFlow 49 = .ok (.invokestatic 122, 3) := by decide +kernel
theorem dX10_findFlow_52 : decode cX10_findFlow 52 = .ok (.iload_n 2, 1) := by decide +kernel
theorem dX10_findFlow_53 : decode cX10_findFlow 53 = .ok (.if_icmp .ne 22, 3) := by decide +kernel
theorem dX10_findFlow_56 : decode cX10_findFlow 56 = .ok (.ldc2_w 115, 3) := by decide +kernel
theorem dX10_findFlow_59 : decode cX10_findFlow 59 = .ok (.aload_n 1, 1) := by decide +kernel
theorem dX10_findFlow_60 : decode cX10_findFlow 60 = .ok (.bipush 26, 2) := by decide +kernel
theorem dX10_findFlow_62 : decode cX10_findFlow 62 = .ok (.iload_n 3, 1) := by decide +kernel
theorem dX10_findFlow_63 : decode cX10_findFlow 63 = .ok (.iadd, 1) := by decide +kernel
theorem dX10_findFlow_64 : decode cX10_findFlow 64 = .ok (.iaload, 1) := by decide +kernel
theorem dX10_findFlow_65 : decode cX10_findFlow 65 = .ok (.i2l, 1) := by decide +kernel
theorem dX10_findFlow_66 : decode cX10_findFlow 66 = .ok (.lmul, 1) := by decide +kernel
theorem dX10_findFlow_67 : decode cX10_findFlow 67 = .ok (.aload_n 0, 1) := by decide +kernel
theorem dX10_findFlow_68 : decode cX10_findFlow 68 = .ok (.getfield 153, 3) := by decide +kernel
theorem dX10_findFlow_71 : decode cX10_findFlow 71 = .ok (.lmul, 1) := by decide +kernel
theorem dX10_findFlow_72 : decode cX10_findFlow 72 = .ok (.goto 4, 3) := by decide +kernel
theorem dX10_findFlow_75 : decode cX10_findFlow 75 = .ok (.lconst 0, 1) := by decide +kernel
theorem dX10_findFlow_76 : decode cX10_findFlow 76 = .ok (.putfield 157, 3) := by decide +kernel
theorem dX10_findFlow_79 : decode cX10_findFlow 79 = .ok (.iconst 0, 1) := by decide +kernel
theorem dX10_findFlow_80 : decode cX10_findFlow 80 = .ok (.istore 5, 2) := by decide +kernel
theorem dX10_findFlow_82 : decode cX10_findFlow 82 = .ok (.iload 5, 2) := by decide +kernel
theorem dX10_findFlow_84 : decode cX10_findFlow 84 = .ok (.iload 4, 2) := by decide +kernel
theorem dX10_findFlow_86 : decode cX10_findFlow 86 = .ok (.if_icmp .ge 36, 3) := by decide +kernel
theorem dX10_findFlow_89 : decode cX10_findFlow 89 = .ok (.aload_n 0, 1) := by decide +kernel
theorem dX10_findFlow_90 : decode cX10_findFlow 90 = .ok (.dup, 1) := by decide +kernel
theorem dX10_findFlow_91 : decode cX10_findFlow 91 = .ok (.getfield 157, 3) := by decide +kernel
theorem dX10_findFlow_94 : decode cX10_findFlow 94 = .ok (.aload_n 0, 1) := by decide +kernel
theorem dX10_findFlow_95 : decode cX10_findFlow 95 = .ok (.iload 4, 2) := by decide +kernel
theorem dX10_findFlow_97 : decode cX10_findFlow 97 = .ok (.iload 5, 2) := by decide +kernel
theorem dX10_findFlow_99 : decode cX10_findFlow 99 = .ok (.invokevirtual 149, 3) := by decide +kernel
theorem dX10_findFlow_102 : decode cX10_findFlow 102 = .ok (.aload_n 1, 1) := by decide +kernel
theorem dX10_findFlow_103 : decode cX10_findFlow 103 = .ok (.iload 5, 2) := by decide +kernel
theorem dX10_findFlow_105 : decode cX10_findFlow 105 = .ok (.iload_n 2, 1) := by decide +kernel
theorem dX10_findFlow_106 : decode cX10_findFlow 106 = .ok (.iload_n 3, 1) := by decide +kernel
theorem dX10_findFlow_107 : decode cX10_findFlow 107 = .ok (.invokestatic 142, 3) := by decide +kernel
theorem dX10_findFlow_110 : decode cX10_findFlow 110 = .ok (.i2l, 1) := by decide +kernel
theorem dX10_findFlow_111 : decode cX10_findFlow 111 = .ok (.lmul, 1) := by decide +kernel
theorem dX10_findFlow_112 : decode cX10_findFlow 112 = .ok (.ladd, 1) := by decide +kernel
theorem dX10_findFlow_113 : decode cX10_findFlow 113 = .ok (.putfield 157, 3) := by decide +kernel
theorem dX10_findFlow_116 : decode cX10_findFlow 116 = .ok (.iinc 5 1, 3) := by decide +kernel
theorem dX10_findFlow_119 : decode cX10_findFlow 119 = .ok (.goto (-37), 3) := by decide +kernel
theorem dX10_findFlow_122 : decode cX10_findFlow 122 = .ok (.aload_n 0, 1) := by decide +kernel
theorem dX10_findFlow_123 : decode cX10_findFlow 123 = .ok (.dup, 1) := by decide +kernel
theorem dX10_findFlow_124 : decode cX10_findFlow 124 = .ok (.getfield 153, 3) := by decide +kernel
theorem dX10_findFlow_127 : decode cX10_findFlow 127 = .ok (.ldc2_w 115, 3) := by decide +kernel
theorem dX10_findFlow_130 : decode cX10_findFlow 130 = .ok (.lmul, 1) := by decide +kernel
theorem dX10_findFlow_131 : decode cX10_findFlow 131 = .ok (.putfield 153, 3) := by decide +kernel
theorem dX10_findFlow_134 : decode cX10_findFlow 134 = .ok (.aload_n 0, 1) := by decide +kernel
theorem dX10_findFlow_135 : decode cX10_findFlow 135 = .ok (.getfield 157, 3) := by decide +kernel
theorem dX10_findFlow_138 : decode cX10_findFlow 138 = .ok (.aload_n 0, 1) := by decide +kernel
theorem dX10_findFlow_139 : decode cX10_findFlow 139 = .ok (.getfield 153, 3) := by decide +kernel
theorem dX10_findFlow_142 : decode cX10_findFlow 142 = .ok (.invokestatic 160, 3) := by decide +kernel
theorem dX10_findFlow_145 : decode cX10_findFlow 145 = .ok (.lstore 5, 2) := by decide +kernel
theorem dX10_findFlow_147 : decode cX10_findFlow 147 = .ok (.aload_n 0, 1) := by decide +kernel
theorem dX10_findFlow_148 : decode cX10_findFlow 148 = .ok (.dup, 1) := by decide +kernel
theorem dX10_findFlow_149 : decode cX10_findFlow 149 = .ok (.getfield 157, 3) := by decide +kernel
theorem dX10_findFlow_152 : decode cX10_findFlow 152 = .ok (.lload 5, 2) := by decide +kernel
theorem dX10_findFlow_154 : decode cX10_findFlow 154 = .ok (.ldiv, 1) := by decide +kernel
theorem dX10_findFlow_155 : decode cX10_findFlow 155 = .ok (.putfield 157, 3) := by decide +kernel
theorem dX10_findFlow_158 : decode cX10_findFlow 158 = .ok (.aload_n 0, 1) := by decide +kernel
theorem dX10_findFlow_159 : decode cX10_findFlow 159 = .ok (.dup, 1) := by decide +kernel
theorem dX10_findFlow_160 : decode cX10_findFlow 160 = .ok (.getfield 153, 3) := by decide +kernel
theorem dX10_findFlow_163 : decode cX10_findFlow 163 = .ok (.lload 5, 2) := by decide +kernel
theorem dX10_findFlow_165 : decode cX10_findFlow 165 = .ok (.ldiv, 1) := by decide +kernel
theorem dX10_findFlow_166 : decode cX10_findFlow 166 = .ok (.putfield 153, 3) := by decide +kernel
theorem dX10_findFlow_169 : decode cX10_findFlow 169 = .ok (.return_, 1) := by decide +kernel
theorem dX10_cut_0 : decode cX10_cut 0 = .ok (.lload_n 0, 1) := by decide +kernel
theorem dX10_cut_1 : decode cX10_cut 1 = .ok (.lload_n 2, 1) := by decide +kernel
theorem dX10_cut_2 : decode cX10_cut 2 = .ok (.ldiv, 1) := by decide +kernel
theorem dX10_cut_3 : decode cX10_cut 3 = .ok (.lstore 5, 2) := by decide +kernel
theorem dX10_cut_5 : decode cX10_cut 5 = .ok (.lload_n 0, 1) := by decide +kernel
theorem dX10_cut_6 : decode cX10_cut 6 = .ok (.lload_n 2, 1) := by decide +kernel
theorem dX10_cut_7 : decode cX10_cut 7 = .ok (.lrem, 1) := by decide +kernel
theorem dX10_cut_8 : decode cX10_cut 8 = .ok (.lstore 7, 2) := by decide +kernel
theorem dX10_cut_10 : decode cX10_cut 10 = .ok (.iconst 0, 1) := by decide +kernel
theorem dX10_cut_11 : decode cX10_cut 11 = .ok (.istore 9, 2) := by decide +kernel
theorem dX10_cut_13 : decode cX10_cut 13 = .ok (.iload 9, 2) := by decide +kernel
theorem dX10_cut_15 : decode cX10_cut 15 = .ok (.iload 4, 2) := by decide +kernel
theorem dX10_cut_17 : decode cX10_cut 17 = .ok (.if_icmp .ge 36, 3) := by decide +kernel
theorem dX10_cut_20 : decode cX10_cut 20 = .ok (.lload 7, 2) := by decide +kernel
theorem dX10_cut_22 : decode cX10_cut 22 = .ok (.ldc2_w 164, 3) := by decide +kernel
theorem dX10_cut_25 : decode cX10_cut 25 = .ok (.lmul, 1) := by decide +kernel
theorem dX10_cut_26 : decode cX10_cut 26 = .ok (.lstore 7, 2) := by decide +kernel
theorem dX10_cut_28 : decode cX10_cut 28 = .ok (.ldc2_w 164, 3) := by decide +kernel
theorem dX10_cut_31 : decode cX10_cut 31 = .ok (.lload 5, 2) := by decide +kernel
theorem dX10_cut_33 : decode cX10_cut 33 = .ok (.lmul, 1) := by decide +kernel
theorem dX10_cut_34 : decode cX10_cut 34 = .ok (.lload 7, 2) := by decide +kernel
theorem dX10_cut_36 : decode cX10_cut 36 = .ok (.lload_n 2, 1) := by decide +kernel
theorem dX10_cut_37 : decode cX10_cut 37 = .ok (.ldiv, 1) := by decide +kernel
theorem dX10_cut_38 : decode cX10_cut 38 = .ok (.ladd, 1) := by decide +kernel
theorem dX10_cut_39 : decode cX10_cut 39 = .ok (.lstore 5, 2) := by decide +kernel
theorem dX10_cut_41 : decode cX10_cut 41 = .ok (.lload 7, 2) := by decide +kernel
theorem dX10_cut_43 : decode cX10_cut 43 = .ok (.lload_n 2, 1) := by decide +kernel
theorem dX10_cut_44 : decode cX10_cut 44 = .ok (.lrem, 1) := by decide +kernel
theorem dX10_cut_45 : decode cX10_cut 45 = .ok (.lstore 7, 2) := by decide +kernel
theorem dX10_cut_47 : decode cX10_cut 47 = .ok (.iinc 9 1, 3) := by decide +kernel
theorem dX10_cut_50 : decode cX10_cut 50 = .ok (.goto (-37), 3) := by decide +kernel
theorem dX10_cut_53 : decode cX10_cut 53 = .ok (.lload 5, 2) := by decide +kernel
theorem dX10_cut_55 : decode cX10_cut 55 = .ok (.lreturn, 1) := by decide +kernel
theorem dX10_recoveryOf_0 : decode cX10_recoveryOf 0 = .ok (.aload_n 1, 1) := by decide +kernel
theorem dX10_recoveryOf_1 : decode cX10_recoveryOf 1 = .ok (.bipush 26, 2) := by decide +kernel
theorem dX10_recoveryOf_3 : decode cX10_recoveryOf 3 = .ok (.iaload, 1) := by decide +kernel
theorem dX10_recoveryOf_4 : decode cX10_recoveryOf 4 = .ok (.istore_n 2, 1) := by decide +kernel
theorem dX10_recoveryOf_5 : decode cX10_recoveryOf 5 = .ok (.iload_n 2, 1) := by decide +kernel
theorem dX10_recoveryOf_6 : decode cX10_recoveryOf 6 = .ok (.ifCond .ne 5, 3) := by decide +kernel
theorem dX10_recoveryOf_9 : decode cX10_recoveryOf 9 = .ok (.iconst 0, 1) := by decide +kernel
theorem dX10_recoveryOf_10 : decode cX10_recoveryOf 10 = .ok (.ireturn, 1) := by decide +kernel
theorem dX10_recoveryOf_11 : decode cX10_recoveryOf 11 = .ok (.aload_n 0, 1) := by decide +kernel
theorem dX10_recoveryOf_12 : decode cX10_recoveryOf 12 = .ok (.aload_n 1, 1) := by decide +kernel
theorem dX10_recoveryOf_13 : decode cX10_recoveryOf 13 = .ok (.bipush 8, 2) := by decide +kernel
theorem dX10_recoveryOf_15 : decode cX10_recoveryOf 15 = .ok (.iconst 0, 1) := by decide +kernel
theorem dX10_recoveryOf_16 : decode cX10_recoveryOf 16 = .ok (.invokevirtual 166, 3) := by decide +kernel
theorem dX10_recoveryOf_19 : decode cX10_recoveryOf 19 = .ok (.aload_n 0, 1) := by decide +kernel
theorem dX10_recoveryOf_20 : decode cX10_recoveryOf 20 = .ok (.getfield 157, 3) := by decide +kernel
theorem dX10_recoveryOf_23 : decode cX10_recoveryOf 23 = .ok (.aload_n 0, 1) := by decide +kernel
theorem dX10_recoveryOf_24 : decode cX10_recoveryOf 24 = .ok (.getfield 153, 3) := by decide +kernel
theorem dX10_recoveryOf_27 : decode cX10_recoveryOf 27 = .ok (.iload_n 2, 1) := by decide +kernel
theorem dX10_recoveryOf_28 : decode cX10_recoveryOf 28 = .ok (.i2l, 1) := by decide +kernel
theorem dX10_recoveryOf_29 : decode cX10_recoveryOf 29 = .ok (.lmul, 1) := by decide +kernel
theorem dX10_recoveryOf_30 : decode cX10_recoveryOf 30 = .ok (.iconst 3, 1) := by decide +kernel
theorem dX10_recoveryOf_31 : decode cX10_recoveryOf 31 = .ok (.invokestatic 170, 3) := by decide +kernel
theorem dX10_recoveryOf_34 : decode cX10_recoveryOf 34 = .ok (.l2i, 1) := by decide +kernel
theorem dX10_recoveryOf_35 : decode cX10_recoveryOf 35 = .ok (.ireturn, 1) := by decide +kernel
theorem dX10_gradeOf_0 : decode cX10_gradeOf 0 = .ok (.aload_n 0, 1) := by decide +kernel
theorem dX10_gradeOf_1 : decode cX10_gradeOf 1 = .ok (.aload_n 1, 1) := by decide +kernel
theorem dX10_gradeOf_2 : decode cX10_gradeOf 2 = .ok (.bipush 8, 2) := by decide +kernel
theorem dX10_gradeOf_4 : decode cX10_gradeOf 4 = .ok (.iconst 0, 1) := by decide +kernel
theorem dX10_gradeOf_5 : decode cX10_gradeOf 5 = .ok (.invokevirtual 166, 3) := by decide +kernel
theorem dX10_gradeOf_8 : decode cX10_gradeOf 8 = .ok (.aload_n 0, 1) := by decide +kernel
theorem dX10_gradeOf_9 : decode cX10_gradeOf 9 = .ok (.getfield 157, 3) := by decide +kernel
theorem dX10_gradeOf_12 : decode cX10_gradeOf 12 = .ok (.aload_n 0, 1) := by decide +kernel
theorem dX10_gradeOf_13 : decode cX10_gradeOf 13 = .ok (.getfield 153, 3) := by decide +kernel
theorem dX10_gradeOf_16 : decode cX10_gradeOf 16 = .ok (.bipush 6, 2) := by decide +kernel
theorem dX10_gradeOf_18 : decode cX10_gradeOf 18 = .ok (.invokestatic 170, 3) := by decide +kernel
theorem dX10_gradeOf_21 : decode cX10_gradeOf 21 = .ok (.lstore_n 2, 1) := by decide +kernel
theorem dX10_gradeOf_22 : decode cX10_gradeOf 22 = .ok (.aload_n 0, 1) := by decide +kernel
theorem dX10_gradeOf_23 : decode cX10_gradeOf 23 = .ok (.aload_n 1, 1) := by decide +kernel
theorem dX10_gradeOf_24 : decode cX10_gradeOf 24 = .ok (.bipush 8, 2) := by decide +kernel
theorem dX10_gradeOf_26 : decode cX10_gradeOf 26 = .ok (.iconst 1, 1) := by decide +kernel
theorem dX10_gradeOf_27 : decode cX10_gradeOf 27 = .ok (.invokevirtual 166, 3) := by decide +kernel
theorem dX10_gradeOf_30 : decode cX10_gradeOf 30 = .ok (.aload_n 0, 1) := by decide +kernel
theorem dX10_gradeOf_31 : decode cX10_gradeOf 31 = .ok (.getfield 157, 3) := by decide +kernel
theorem dX10_gradeOf_34 : decode cX10_gradeOf 34 = .ok (.aload_n 0, 1) := by decide +kernel
theorem dX10_gradeOf_35 : decode cX10_gradeOf 35 = .ok (.getfield 153, 3) := by decide +kernel
theorem dX10_gradeOf_38 : decode cX10_gradeOf 38 = .ok (.bipush 6, 2) := by decide +kernel
theorem dX10_gradeOf_40 : decode cX10_gradeOf 40 = .ok (.invokestatic 170, 3) := by decide +kernel
theorem dX10_gradeOf_43 : decode cX10_gradeOf 43 = .ok (.lstore 4, 2) := by decide +kernel
theorem dX10_gradeOf_45 : decode cX10_gradeOf 45 = .ok (.lload_n 2, 1) := by decide +kernel
theorem dX10_gradeOf_46 : decode cX10_gradeOf 46 = .ok (.lload 4, 2) := by decide +kernel
theorem dX10_gradeOf_48 : decode cX10_gradeOf 48 = .ok (.ladd, 1) := by decide +kernel
theorem dX10_gradeOf_49 : decode cX10_gradeOf 49 = .ok (.lconst 0, 1) := by decide +kernel
theorem dX10_gradeOf_50 : decode cX10_gradeOf 50 = .ok (.lcmp, 1) := by decide +kernel
theorem dX10_gradeOf_51 : decode cX10_gradeOf 51 = .ok (.ifCond .ne 7, 3) := by decide +kernel
theorem dX10_gradeOf_54 : decode cX10_gradeOf 54 = .ok (.iconst 0, 1) := by decide +kernel
theorem dX10_gradeOf_55 : decode cX10_gradeOf 55 = .ok (.goto 14, 3) := by decide +kernel
theorem dX10_gradeOf_58 : decode cX10_gradeOf 58 = .ok (.ldc2_w 174, 3) := by decide +kernel
theorem dX10_gradeOf_61 : decode cX10_gradeOf 61 = .ok (.lload_n 2, 1) := by decide +kernel
theorem dX10_gradeOf_62 : decode cX10_gradeOf 62 = .ok (.lmul, 1) := by decide +kernel
theorem dX10_gradeOf_63 : decode cX10_gradeOf 63 = .ok (.lload_n 2, 1) := by decide +kernel
theorem dX10_gradeOf_64 : decode cX10_gradeOf 64 = .ok (.lload 4, 2) := by decide +kernel
theorem dX10_gradeOf_66 : decode cX10_gradeOf 66 = .ok (.ladd, 1) := by decide +kernel
theorem dX10_gradeOf_67 : decode cX10_gradeOf 67 = .ok (.ldiv, 1) := by decide +kernel
theorem dX10_gradeOf_68 : decode cX10_gradeOf 68 = .ok (.l2i, 1) := by decide +kernel
theorem dX10_gradeOf_69 : decode cX10_gradeOf 69 = .ok (.ireturn, 1) := by decide +kernel
theorem dX10_hasSteadyState_0 : decode cX10_hasSteadyState 0 = .ok (.aload_n 0, 1) := by decide +kernel
theorem dX10_hasSteadyState_1 : decode cX10_hasSteadyState 1 = .ok (.iconst 0, 1) := by decide +kernel
theorem dX10_hasSteadyState_2 : decode cX10_hasSteadyState 2 = .ok (.putfield 51, 3) := by decide +kernel
theorem dX10_hasSteadyState_5 : decode cX10_hasSteadyState 5 = .ok (.aload_n 0, 1) := by decide +kernel
theorem dX10_hasSteadyState_6 : decode cX10_hasSteadyState 6 = .ok (.getfield 7, 3) := by decide +kernel
theorem dX10_hasSteadyState_9 : decode cX10_hasSteadyState 9 = .ok (.invokestatic 176, 3) := by decide +kernel
theorem dX10_hasSteadyState_12 : decode cX10_hasSteadyState 12 = .ok (.ireturn, 1) := by decide +kernel
theorem dX10_noFlow_0 : decode cX10_noFlow 0 = .ok (.aload_n 0, 1) := by decide +kernel
theorem dX10_noFlow_1 : decode cX10_noFlow 1 = .ok (.iload_n 1, 1) := by decide +kernel
theorem dX10_noFlow_2 : decode cX10_noFlow 2 = .ok (.invokevirtual 109, 3) := by decide +kernel
theorem dX10_noFlow_5 : decode cX10_noFlow 5 = .ok (.ifCond .ne 17, 3) := by decide +kernel
theorem dX10_noFlow_8 : decode cX10_noFlow 8 = .ok (.iload_n 1, 1) := by decide +kernel
theorem dX10_noFlow_9 : decode cX10_noFlow 9 = .ok (.i2l, 1) := by decide +kernel
theorem dX10_noFlow_10 : decode cX10_noFlow 10 = .ok (.ldc2_w 61, 3) := by decide +kernel
theorem dX10_noFlow_13 : decode cX10_noFlow 13 = .ok (.ldc2_w 63, 3) := by decide +kernel
theorem dX10_noFlow_16 : decode cX10_noFlow 16 = .ok (.invokestatic 55, 3) := by decide +kernel
theorem dX10_noFlow_19 : decode cX10_noFlow 19 = .ok (.ifCond .eq 14, 3) := by decide +kernel
theorem dX10_noFlow_22 : decode cX10_noFlow 22 = .ok (.iload_n 2, 1) := by decide +kernel
theorem dX10_noFlow_23 : decode cX10_noFlow 23 = .ok (.invokestatic 112, 3) := by decide +kernel
theorem dX10_noFlow_26 : decode cX10_noFlow 26 = .ok (.ifCond .eq 7, 3) := by decide +kernel
theorem dX10_noFlow_29 : decode cX10_noFlow 29 = .ok (.iconst 1, 1) := by decide +kernel
theorem dX10_noFlow_30 : decode cX10_noFlow 30 = .ok (.goto 4, 3) := by decide +kernel
theorem dX10_noFlow_33 : decode cX10_noFlow 33 = .ok (.iconst 0, 1) := by decide +kernel
theorem dX10_noFlow_34 : decode cX10_noFlow 34 = .ok (.istore_n 3, 1) := by decide +kernel
theorem dX10_noFlow_35 : decode cX10_noFlow 35 = .ok (.aload_n 0, 1) := by decide +kernel
theorem dX10_noFlow_36 : decode cX10_noFlow 36 = .ok (.iload_n 3, 1) := by decide +kernel
theorem dX10_noFlow_37 : decode cX10_noFlow 37 = .ok (.ifCond .ne 7, 3) := by decide +kernel
theorem dX10_noFlow_40 : decode cX10_noFlow 40 = .ok (.iconst 1, 1) := by decide +kernel
theorem dX10_noFlow_41 : decode cX10_noFlow 41 = .ok (.goto 19, 3) := by decide +kernel
theorem dX10_noFlow_44 : decode cX10_noFlow 44 = .ok (.aload_n 0, 1) := by decide +kernel
theorem dX10_noFlow_45 : decode cX10_noFlow 45 = .ok (.getfield 7, 3) := by decide +kernel
theorem dX10_noFlow_48 : decode cX10_noFlow 48 = .ok (.iload_n 2, 1) := by decide +kernel
theorem dX10_noFlow_49 : decode cX10_noFlow 49 = .ok (.invokestatic 138, 3) := by decide +kernel
theorem dX10_noFlow_52 : decode cX10_noFlow 52 = .ok (.ifCond .ne 7, 3) := by decide +kernel
theorem dX10_noFlow_55 : decode cX10_noFlow 55 = .ok (.iconst 2, 1) := by decide +kernel
theorem dX10_noFlow_56 : decode cX10_noFlow 56 = .ok (.goto 4, 3) := by decide +kernel
theorem dX10_noFlow_59 : decode cX10_noFlow 59 = .ok (.iconst 0, 1) := by decide +kernel
theorem dX10_noFlow_60 : decode cX10_noFlow 60 = .ok (.invokevirtual 76, 3) := by decide +kernel
theorem dX10_noFlow_63 : decode cX10_noFlow 63 = .ok (.ireturn, 1) := by decide +kernel
theorem dX10_flowNumerator_0 : decode cX10_flowNumerator 0 = .ok (.aload_n 0, 1) := by decide +kernel
theorem dX10_flowNumerator_1 : decode cX10_flowNumerator 1 = .ok (.iload_n 1, 1) := by decide +kernel
theorem dX10_flowNumerator_2 : decode cX10_flowNumerator 2 = .ok (.iload_n 2, 1) := by decide +kernel
theorem dX10_flowNumerator_3 : decode cX10_flowNumerator 3 = .ok (.invokevirtual 180, 3) := by decide +kernel
theorem dX10_flowNumerator_6 : decode cX10_flowNumerator 6 = .ok (.ifCond .eq 5, 3) := by decide +kernel
theorem dX10_flowNumerator_9 : decode cX10_flowNumerator 9 = .ok (.lconst 0, 1) := by decide +kernel
theorem dX10_flowNumerator_10 : decode cX10_flowNumerator 10 = .ok (.lreturn, 1) := by decide +kernel
theorem dX10_flowNumerator_11 : decode cX10_flowNumerator 11 = .ok (.aload_n 0, 1) := by decide +kernel
theorem dX10_flowNumerator_12 : decode cX10_flowNumerator 12 = .ok (.aload_n 0, 1) := by decide +kernel
theorem dX10_flowNumerator_13 : decode cX10_flowNumerator 13 = .ok (.getfield 7, 3) := by decide +kernel
theorem dX10_flowNumerator_16 : decode cX10_flowNumerator 16 = .ok (.iload_n 1, 1) := by decide +kernel
theorem dX10_flowNumerator_17 : decode cX10_flowNumerator 17 = .ok (.iload_n 2, 1) := by decide +kernel
theorem dX10_flowNumerator_18 : decode cX10_flowNumerator 18 = .ok (.invokevirtual 166, 3) := by decide +kernel
theorem dX10_flowNumerator_21 : decode cX10_flowNumerator 21 = .ok (.aload_n 0, 1) := by decide +kernel
theorem dX10_flowNumerator_22 : decode cX10_flowNumerator 22 = .ok (.getfield 157, 3) := by decide +kernel
theorem dX10_flowNumerator_25 : decode cX10_flowNumerator 25 = .ok (.lreturn, 1) := by decide +kernel
theorem dX10_flowDenominator_0 : decode cX10_flowDenominator 0 = .ok (.aload_n 0, 1) := by decide +kernel
theorem dX10_flowDenominator_1 : decode cX10_flowDenominator 1 = .ok (.iload_n 1, 1) := by decide +kernel
theorem dX10_flowDenominator_2 : decode cX10_flowDenominator 2 = .ok (.iload_n 2, 1) := by decide +kernel
theorem dX10_flowDenominator_3 : decode cX10_flowDenominator 3 = .ok (.invokevirtual 180, 3) := by decide +kernel
theorem dX10_flowDenominator_6 : decode cX10_flowDenominator 6 = .ok (.ifCond .eq 5, 3) := by decide +kernel
theorem dX10_flowDenominator_9 : decode cX10_flowDenominator 9 = .ok (.lconst 0, 1) := by decide +kernel
theorem dX10_flowDenominator_10 : decode cX10_flowDenominator 10 = .ok (.lreturn, 1) := by decide +kernel
theorem dX10_flowDenominator_11 : decode cX10_flowDenominator 11 = .ok (.aload_n 0, 1) := by decide +kernel
theorem dX10_flowDenominator_12 : decode cX10_flowDenominator 12 = .ok (.aload_n 0, 1) := by decide +kernel
theorem dX10_flowDenominator_13 : decode cX10_flowDenominator 13 = .ok (.getfield 7, 3) := by decide +kernel
theorem dX10_flowDenominator_16 : decode cX10_flowDenominator 16 = .ok (.iload_n 1, 1) := by decide +kernel
theorem dX10_flowDenominator_17 : decode cX10_flowDenominator 17 = .ok (.iload_n 2, 1) := by decide +kernel
theorem dX10_flowDenominator_18 : decode cX10_flowDenominator 18 = .ok (.invokevirtual 166, 3) := by decide +kernel
theorem dX10_flowDenominator_21 : decode cX10_flowDenominator 21 = .ok (.aload_n 0, 1) := by decide +kernel
theorem dX10_flowDenominator_22 : decode cX10_flowDenominator 22 = .ok (.getfield 153, 3) := by decide +kernel
theorem dX10_flowDenominator_25 : decode cX10_flowDenominator 25 = .ok (.lreturn, 1) := by decide +kernel
theorem dX10_totalRecovery_0 : decode cX10_totalRecovery 0 = .ok (.aload_n 0, 1) := by decide +kernel
theorem dX10_totalRecovery_1 : decode cX10_totalRecovery 1 = .ok (.aload_n 0, 1) := by decide +kernel
theorem dX10_totalRecovery_2 : decode cX10_totalRecovery 2 = .ok (.getfield 7, 3) := by decide +kernel
theorem dX10_totalRecovery_5 : decode cX10_totalRecovery 5 = .ok (.invokestatic 176, 3) := by decide +kernel
theorem dX10_totalRecovery_8 : decode cX10_totalRecovery 8 = .ok (.ifCond .eq 7, 3) := by decide +kernel
theorem dX10_totalRecovery_11 : decode cX10_totalRecovery 11 = .ok (.iconst 0, 1) := by decide +kernel
theorem dX10_totalRecovery_12 : decode cX10_totalRecovery 12 = .ok (.goto 4, 3) := by decide +kernel
theorem dX10_totalRecovery_15 : decode cX10_totalRecovery 15 = .ok (.iconst 1, 1) := by decide +kernel
theorem dX10_totalRecovery_16 : decode cX10_totalRecovery 16 = .ok (.invokevirtual 76, 3) := by decide +kernel
theorem dX10_totalRecovery_19 : decode cX10_totalRecovery 19 = .ok (.ifCond .eq 5, 3) := by decide +kernel
theorem dX10_totalRecovery_22 : decode cX10_totalRecovery 22 = .ok (.iconst 0, 1) := by decide +kernel
theorem dX10_totalRecovery_23 : decode cX10_totalRecovery 23 = .ok (.ireturn, 1) := by decide +kernel
theorem dX10_totalRecovery_24 : decode cX10_totalRecovery 24 = .ok (.aload_n 0, 1) := by decide +kernel
theorem dX10_totalRecovery_25 : decode cX10_totalRecovery 25 = .ok (.aload_n 0, 1) := by decide +kernel
theorem dX10_totalRecovery_26 : decode cX10_totalRecovery 26 = .ok (.getfield 7, 3) := by decide +kernel
theorem dX10_totalRecovery_29 : decode cX10_totalRecovery 29 = .ok (.invokevirtual 183, 3) := by decide +kernel
theorem dX10_totalRecovery_32 : decode cX10_totalRecovery 32 = .ok (.ireturn, 1) := by decide +kernel
theorem dX10_grade_0 : decode cX10_grade 0 = .ok (.aload_n 0, 1) := by decide +kernel
theorem dX10_grade_1 : decode cX10_grade 1 = .ok (.aload_n 0, 1) := by decide +kernel
theorem dX10_grade_2 : decode cX10_grade 2 = .ok (.getfield 7, 3) := by decide +kernel
theorem dX10_grade_5 : decode cX10_grade 5 = .ok (.invokestatic 176, 3) := by decide +kernel
theorem dX10_grade_8 : decode cX10_grade 8 = .ok (.ifCond .eq 7, 3) := by decide +kernel
theorem dX10_grade_11 : decode cX10_grade 11 = .ok (.iconst 0, 1) := by decide +kernel
theorem dX10_grade_12 : decode cX10_grade 12 = .ok (.goto 4, 3) := by decide +kernel
theorem dX10_grade_15 : decode cX10_grade 15 = .ok (.iconst 1, 1) := by decide +kernel
theorem dX10_grade_16 : decode cX10_grade 16 = .ok (.invokevirtual 76, 3) := by decide +kernel
theorem dX10_grade_19 : decode cX10_grade 19 = .ok (.ifCond .eq 5, 3) := by decide +kernel
theorem dX10_grade_22 : decode cX10_grade 22 = .ok (.iconst 0, 1) := by decide +kernel
theorem dX10_grade_23 : decode cX10_grade 23 = .ok (.ireturn, 1) := by decide +kernel
theorem dX10_grade_24 : decode cX10_grade 24 = .ok (.aload_n 0, 1) := by decide +kernel
theorem dX10_grade_25 : decode cX10_grade 25 = .ok (.aload_n 0, 1) := by decide +kernel
theorem dX10_grade_26 : decode cX10_grade 26 = .ok (.getfield 7, 3) := by decide +kernel
theorem dX10_grade_29 : decode cX10_grade 29 = .ok (.invokevirtual 187, 3) := by decide +kernel
theorem dX10_grade_32 : decode cX10_grade 32 = .ok (.ireturn, 1) := by decide +kernel
theorem dX10_reached_0 : decode cX10_reached 0 = .ok (.iconst 0, 1) := by decide +kernel
theorem dX10_reached_1 : decode cX10_reached 1 = .ok (.istore_n 2, 1) := by decide +kernel
theorem dX10_reached_2 : decode cX10_reached 2 = .ok (.iconst 1, 1) := by decide +kernel
theorem dX10_reached_3 : decode cX10_reached 3 = .ok (.iload_n 1, 1) := by decide +kernel
theorem dX10_reached_4 : decode cX10_reached 4 = .ok (.ishl, 1) := by decide +kernel
theorem dX10_reached_5 : decode cX10_reached 5 = .ok (.istore_n 3, 1) := by decide +kernel
theorem dX10_reached_6 : decode cX10_reached 6 = .ok (.iconst 0, 1) := by decide +kernel
theorem dX10_reached_7 : decode cX10_reached 7 = .ok (.istore 4, 2) := by decide +kernel
theorem dX10_reached_9 : decode cX10_reached 9 = .ok (.iload 4, 2) := by decide +kernel
theorem dX10_reached_11 : decode cX10_reached 11 = .ok (.bipush 6, 2) := by decide +kernel
theorem dX10_reached_13 : decode cX10_reached 13 = .ok (.if_icmp .ge 108, 3) := by decide +kernel
theorem dX10_reached_16 : decode cX10_reached 16 = .ok (.iconst 0, 1) := by decide +kernel
theorem dX10_reached_17 : decode cX10_reached 17 = .ok (.istore 5, 2) := by decide +kernel
theorem dX10_reached_19 : decode cX10_reached 19 = .ok (.iconst 0, 1) := by decide +kernel
theorem dX10_reached_20 : decode cX10_reached 20 = .ok (.istore 6, 2) := by decide +kernel
theorem dX10_reached_22 : decode cX10_reached 22 = .ok (.iload 6, 2) := by decide +kernel
theorem dX10_reached_24 : decode cX10_reached 24 = .ok (.aload_n 0, 1) := by decide +kernel
theorem dX10_reached_25 : decode cX10_reached 25 = .ok (.getfield 7, 3) := by decide +kernel
theorem dX10_reached_28 : decode cX10_reached 28 = .ok (.iconst 0, 1) := by decide +kernel
theorem dX10_reached_29 : decode cX10_reached 29 = .ok (.iaload, 1) := by decide +kernel
theorem dX10_reached_30 : decode cX10_reached 30 = .ok (.if_icmp .ge 78, 3) := by decide +kernel
theorem dX10_reached_33 : decode cX10_reached 33 = .ok (.iconst 0, 1) := by decide +kernel
theorem dX10_reached_34 : decode cX10_reached 34 = .ok (.istore 7, 2) := by decide +kernel
theorem dX10_reached_36 : decode cX10_reached 36 = .ok (.iload 7, 2) := by decide +kernel
theorem dX10_reached_38 : decode cX10_reached 38 = .ok (.iconst 2, 1) := by decide +kernel
theorem dX10_reached_39 : decode cX10_reached 39 = .ok (.if_icmp .ge 63, 3) := by decide +kernel
theorem dX10_reached_42 : decode cX10_reached 42 = .ok (.aload_n 0, 1) := by decide +kernel
theorem dX10_reached_43 : decode cX10_reached 43 = .ok (.getfield 7, 3) := by decide +kernel
theorem dX10_reached_46 : decode cX10_reached 46 = .ok (.aload_n 0, 1) := by decide +kernel
theorem dX10_reached_47 : decode cX10_reached 47 = .ok (.getfield 7, 3) := by decide +kernel
theorem dX10_reached_50 : decode cX10_reached 50 = .ok (.bipush 13, 2) := by decide +kernel
theorem dX10_reached_52 : decode cX10_reached 52 = .ok (.iconst 2, 1) := by decide +kernel
theorem dX10_reached_53 : decode cX10_reached 53 = .ok (.iload 6, 2) := by decide +kernel
theorem dX10_reached_55 : decode cX10_reached 55 = .ok (.imul, 1) := by decide +kernel
theorem dX10_reached_56 : decode cX10_reached 56 = .ok (.iadd, 1) := by decide +kernel
theorem dX10_reached_57 : decode cX10_reached 57 = .ok (.iload 7, 2) := by decide +kernel
theorem dX10_reached_59 : decode cX10_reached 59 = .ok (.iadd, 1) := by decide +kernel
theorem dX10_reached_60 : decode cX10_reached 60 = .ok (.iaload, 1) := by decide +kernel
theorem dX10_reached_61 : decode cX10_reached 61 = .ok (.invokestatic 122, 3) := by decide +kernel
theorem dX10_reached_64 : decode cX10_reached 64 = .ok (.istore 8, 2) := by decide +kernel
theorem dX10_reached_66 : decode cX10_reached 66 = .ok (.iload 5, 2) := by decide +kernel
theorem dX10_reached_68 : decode cX10_reached 68 = .ok (.iload_n 3, 1) := by decide +kernel
theorem dX10_reached_69 : decode cX10_reached 69 = .ok (.iload 6, 2) := by decide +kernel
theorem dX10_reached_71 : decode cX10_reached 71 = .ok (.ishr, 1) := by decide +kernel
theorem dX10_reached_72 : decode cX10_reached 72 = .ok (.iconst 1, 1) := by decide +kernel
theorem dX10_reached_73 : decode cX10_reached 73 = .ok (.iand, 1) := by decide +kernel
theorem dX10_reached_74 : decode cX10_reached 74 = .ok (.iconst 1, 1) := by decide +kernel
theorem dX10_reached_75 : decode cX10_reached 75 = .ok (.if_icmp .ne 17, 3) := by decide +kernel
theorem dX10_reached_78 : decode cX10_reached 78 = .ok (.iload 8, 2) := by decide +kernel
theorem dX10_reached_80 : decode cX10_reached 80 = .ok (.bipush 8, 2) := by decide +kernel
theorem dX10_reached_82 : decode cX10_reached 82 = .ok (.if_icmp .ge 10, 3) := by decide +kernel
theorem dX10_reached_85 : decode cX10_reached 85 = .ok (.iconst 1, 1) := by decide +kernel
theorem dX10_reached_86 : decode cX10_reached 86 = .ok (.iload 8, 2) := by decide +kernel
theorem dX10_reached_88 : decode cX10_reached 88 = .ok (.ishl, 1) := by decide +kernel
theorem dX10_reached_89 : decode cX10_reached 89 = .ok (.goto 4, 3) := by decide +kernel
theorem dX10_reached_92 : decode cX10_reached 92 = .ok (.iconst 0, 1) := by decide +kernel
theorem dX10_reached_93 : decode cX10_reached 93 = .ok (.ior, 1) := by decide +kernel
theorem dX10_reached_94 : decode cX10_reached 94 = .ok (.istore 5, 2) := by decide +kernel
theorem dX10_reached_96 : decode cX10_reached 96 = .ok (.iinc 7 1, 3) := by decide +kernel
theorem dX10_reached_99 : decode cX10_reached 99 = .ok (.goto (-63), 3) := by decide +kernel
theorem dX10_reached_102 : decode cX10_reached 102 = .ok (.iinc 6 1, 3) := by decide +kernel
theorem dX10_reached_105 : decode cX10_reached 105 = .ok (.goto (-83), 3) := by decide +kernel
theorem dX10_reached_108 : decode cX10_reached 108 = .ok (.iload_n 2, 1) := by decide +kernel
theorem dX10_reached_109 : decode cX10_reached 109 = .ok (.iload 5, 2) := by decide +kernel
theorem dX10_reached_111 : decode cX10_reached 111 = .ok (.ior, 1) := by decide +kernel
theorem dX10_reached_112 : decode cX10_reached 112 = .ok (.istore_n 2, 1) := by decide +kernel
theorem dX10_reached_113 : decode cX10_reached 113 = .ok (.iload_n 2, 1) := by decide +kernel
theorem dX10_reached_114 : decode cX10_reached 114 = .ok (.istore_n 3, 1) := by decide +kernel
theorem dX10_reached_115 : decode cX10_reached 115 = .ok (.iinc 4 1, 3) := by decide +kernel
theorem dX10_reached_118 : decode cX10_reached 118 = .ok (.goto (-109), 3) := by decide +kernel
theorem dX10_reached_121 : decode cX10_reached 121 = .ok (.iload_n 2, 1) := by decide +kernel
theorem dX10_reached_122 : decode cX10_reached 122 = .ok (.ireturn, 1) := by decide +kernel
theorem dX10_isLooped_0 : decode cX10_isLooped 0 = .ok (.aload_n 0, 1) := by decide +kernel
theorem dX10_isLooped_1 : decode cX10_isLooped 1 = .ok (.iload_n 1, 1) := by decide +kernel
theorem dX10_isLooped_2 : decode cX10_isLooped 2 = .ok (.invokevirtual 190, 3) := by decide +kernel
theorem dX10_isLooped_5 : decode cX10_isLooped 5 = .ok (.iload_n 1, 1) := by decide +kernel
theorem dX10_isLooped_6 : decode cX10_isLooped 6 = .ok (.ishr, 1) := by decide +kernel
theorem dX10_isLooped_7 : decode cX10_isLooped 7 = .ok (.iconst 1, 1) := by decide +kernel
theorem dX10_isLooped_8 : decode cX10_isLooped 8 = .ok (.iand, 1) := by decide +kernel
theorem dX10_isLooped_9 : decode cX10_isLooped 9 = .ok (.iconst 1, 1) := by decide +kernel
theorem dX10_isLooped_10 : decode cX10_isLooped 10 = .ok (.if_icmp .ne 7, 3) := by decide +kernel
theorem dX10_isLooped_13 : decode cX10_isLooped 13 = .ok (.iconst 1, 1) := by decide +kernel
theorem dX10_isLooped_14 : decode cX10_isLooped 14 = .ok (.goto 4, 3) := by decide +kernel
theorem dX10_isLooped_17 : decode cX10_isLooped 17 = .ok (.iconst 0, 1) := by decide +kernel
theorem dX10_isLooped_18 : decode cX10_isLooped 18 = .ok (.ireturn, 1) := by decide +kernel
theorem dX10_isInLoop_0 : decode cX10_isInLoop 0 = .ok (.aload_n 0, 1) := by decide +kernel
theorem dX10_isInLoop_1 : decode cX10_isInLoop 1 = .ok (.aload_n 0, 1) := by decide +kernel
theorem dX10_isInLoop_2 : decode cX10_isInLoop 2 = .ok (.iload_n 1, 1) := by decide +kernel
theorem dX10_isInLoop_3 : decode cX10_isInLoop 3 = .ok (.invokevirtual 109, 3) := by decide +kernel
theorem dX10_isInLoop_6 : decode cX10_isInLoop 6 = .ok (.ifCond .eq 7, 3) := by decide +kernel
theorem dX10_isInLoop_9 : decode cX10_isInLoop 9 = .ok (.iconst 0, 1) := by decide +kernel
theorem dX10_isInLoop_10 : decode cX10_isInLoop 10 = .ok (.goto 4, 3) := by decide +kernel
theorem dX10_isInLoop_13 : decode cX10_isInLoop 13 = .ok (.iconst 1, 1) := by decide +kernel
theorem dX10_isInLoop_14 : decode cX10_isInLoop 14 = .ok (.invokevirtual 76, 3) := by decide +kernel
theorem dX10_isInLoop_17 : decode cX10_isInLoop 17 = .ok (.ifCond .eq 5, 3) := by decide +kernel
theorem dX10_isInLoop_20 : decode cX10_isInLoop 20 = .ok (.iconst 0, 1) := by decide +kernel
theorem dX10_isInLoop_21 : decode cX10_isInLoop 21 = .ok (.ireturn, 1) := by decide +kernel
theorem dX10_isInLoop_22 : decode cX10_isInLoop 22 = .ok (.aload_n 0, 1) := by decide +kernel
theorem dX10_isInLoop_23 : decode cX10_isInLoop 23 = .ok (.iload_n 1, 1) := by decide +kernel
theorem dX10_isInLoop_24 : decode cX10_isInLoop 24 = .ok (.invokevirtual 194, 3) := by decide +kernel
theorem dX10_isInLoop_27 : decode cX10_isInLoop 27 = .ok (.ireturn, 1) := by decide +kernel
theorem dX10_loopCount_0 : decode cX10_loopCount 0 = .ok (.aload_n 0, 1) := by decide +kernel
theorem dX10_loopCount_1 : decode cX10_loopCount 1 = .ok (.iconst 0, 1) := by decide +kernel
theorem dX10_loopCount_2 : decode cX10_loopCount 2 = .ok (.putfield 51, 3) := by decide +kernel
theorem dX10_loopCount_5 : decode cX10_loopCount 5 = .ok (.iconst 0, 1) := by decide +kernel
theorem dX10_loopCount_6 : decode cX10_loopCount 6 = .ok (.istore_n 1, 1) := by decide +kernel
theorem dX10_loopCount_7 : decode cX10_loopCount 7 = .ok (.iconst 0, 1) := by decide +kernel
theorem dX10_loopCount_8 : decode cX10_loopCount 8 = .ok (.istore_n 2, 1) := by decide +kernel
theorem dX10_loopCount_9 : decode cX10_loopCount 9 = .ok (.iload_n 2, 1) := by decide +kernel
theorem dX10_loopCount_10 : decode cX10_loopCount 10 = .ok (.aload_n 0, 1) := by decide +kernel
theorem dX10_loopCount_11 : decode cX10_loopCount 11 = .ok (.getfield 7, 3) := by decide +kernel
theorem dX10_loopCount_14 : decode cX10_loopCount 14 = .ok (.iconst 0, 1) := by decide +kernel
theorem dX10_loopCount_15 : decode cX10_loopCount 15 = .ok (.iaload, 1) := by decide +kernel
theorem dX10_loopCount_16 : decode cX10_loopCount 16 = .ok (.if_icmp .ge 80, 3) := by decide +kernel
theorem dX10_loopCount_19 : decode cX10_loopCount 19 = .ok (.aload_n 0, 1) := by decide +kernel
theorem dX10_loopCount_20 : decode cX10_loopCount 20 = .ok (.iload_n 2, 1) := by decide +kernel
theorem dX10_loopCount_21 : decode cX10_loopCount 21 = .ok (.invokevirtual 194, 3) := by decide +kernel
theorem dX10_loopCount_24 : decode cX10_loopCount 24 = .ok (.istore_n 3, 1) := by decide +kernel
theorem dX10_loopCount_25 : decode cX10_loopCount 25 = .ok (.iconst 0, 1) := by decide +kernel
theorem dX10_loopCount_26 : decode cX10_loopCount 26 = .ok (.istore 4, 2) := by decide +kernel
theorem dX10_loopCount_28 : decode cX10_loopCount 28 = .ok (.iload 4, 2) := by decide +kernel
theorem dX10_loopCount_30 : decode cX10_loopCount 30 = .ok (.iload_n 2, 1) := by decide +kernel
theorem dX10_loopCount_31 : decode cX10_loopCount 31 = .ok (.if_icmp .ge 47, 3) := by decide +kernel
theorem dX10_loopCount_34 : decode cX10_loopCount 34 = .ok (.iload_n 3, 1) := by decide +kernel
theorem dX10_loopCount_35 : decode cX10_loopCount 35 = .ok (.ifCond .eq 35, 3) := by decide +kernel
theorem dX10_loopCount_38 : decode cX10_loopCount 38 = .ok (.aload_n 0, 1) := by decide +kernel
theorem dX10_loopCount_39 : decode cX10_loopCount 39 = .ok (.iload_n 2, 1) := by decide +kernel
theorem dX10_loopCount_40 : decode cX10_loopCount 40 = .ok (.invokevirtual 190, 3) := by decide +kernel
theorem dX10_loopCount_43 : decode cX10_loopCount 43 = .ok (.iload 4, 2) := by decide +kernel
theorem dX10_loopCount_45 : decode cX10_loopCount 45 = .ok (.ishr, 1) := by decide +kernel
theorem dX10_loopCount_46 : decode cX10_loopCount 46 = .ok (.iconst 1, 1) := by decide +kernel
theorem dX10_loopCount_47 : decode cX10_loopCount 47 = .ok (.iand, 1) := by decide +kernel
theorem dX10_loopCount_48 : decode cX10_loopCount 48 = .ok (.iconst 1, 1) := by decide +kernel
theorem dX10_loopCount_49 : decode cX10_loopCount 49 = .ok (.if_icmp .ne 17, 3) := by decide +kernel
theorem dX10_loopCount_52 : decode cX10_loopCount 52 = .ok (.aload_n 0, 1) := by decide +kernel
theorem dX10_loopCount_53 : decode cX10_loopCount 53 = .ok (.iload 4, 2) := by decide +kernel
theorem dX10_loopCount_55 : decode cX10_loopCount 55 = .ok (.invokevirtual 190, 3) := by decide +kernel
theorem dX10_loopCount_58 : decode cX10_loopCount 58 = .ok (.iload_n 2, 1) := by decide +kernel
theorem dX10_loopCount_59 : decode cX10_loopCount 59 = .ok (.ishr, 1) := by decide +kernel
theorem dX10_loopCount_60 : decode cX10_loopCount 60 = .ok (.iconst 1, 1) := by decide +kernel
theorem dX10_loopCount_61 : decode cX10_loopCount 61 = .ok (.iand, 1) := by decide +kernel
theorem dX10_loopCount_62 : decode cX10_loopCount 62 = .ok (.iconst 1, 1) := by decide +kernel
theorem dX10_loopCount_63 : decode cX10_loopCount 63 = .ok (.if_icmp .eq 7, 3) := by decide +kernel
theorem dX10_loopCount_66 : decode cX10_loopCount 66 = .ok (.iconst 1, 1) := by decide +kernel
theorem dX10_loopCount_67 : decode cX10_loopCount 67 = .ok (.goto 4, 3) := by decide +kernel
theorem dX10_loopCount_70 : decode cX10_loopCount 70 = .ok (.iconst 0, 1) := by decide +kernel
theorem dX10_loopCount_71 : decode cX10_loopCount 71 = .ok (.istore_n 3, 1) := by decide +kernel
theorem dX10_loopCount_72 : decode cX10_loopCount 72 = .ok (.iinc 4 1, 3) := by decide +kernel
theorem dX10_loopCount_75 : decode cX10_loopCount 75 = .ok (.goto (-47), 3) := by decide +kernel
theorem dX10_loopCount_78 : decode cX10_loopCount 78 = .ok (.iload_n 1, 1) := by decide +kernel
theorem dX10_loopCount_79 : decode cX10_loopCount 79 = .ok (.iload_n 3, 1) := by decide +kernel
theorem dX10_loopCount_80 : decode cX10_loopCount 80 = .ok (.ifCond .eq 7, 3) := by decide +kernel
theorem dX10_loopCount_83 : decode cX10_loopCount 83 = .ok (.iconst 1, 1) := by decide +kernel
theorem dX10_loopCount_84 : decode cX10_loopCount 84 = .ok (.goto 4, 3) := by decide +kernel
theorem dX10_loopCount_87 : decode cX10_loopCount 87 = .ok (.iconst 0, 1) := by decide +kernel
theorem dX10_loopCount_88 : decode cX10_loopCount 88 = .ok (.iadd, 1) := by decide +kernel
theorem dX10_loopCount_89 : decode cX10_loopCount 89 = .ok (.istore_n 1, 1) := by decide +kernel
theorem dX10_loopCount_90 : decode cX10_loopCount 90 = .ok (.iinc 2 1, 3) := by decide +kernel
theorem dX10_loopCount_93 : decode cX10_loopCount 93 = .ok (.goto (-84), 3) := by decide +kernel
theorem dX10_loopCount_96 : decode cX10_loopCount 96 = .ok (.iload_n 1, 1) := by decide +kernel
theorem dX10_loopCount_97 : decode cX10_loopCount 97 = .ok (.ireturn, 1) := by decide +kernel
theorem dX10_best_0 : decode cX10_best 0 = .ok (.bipush (-9), 2) := by decide +kernel
theorem dX10_best_2 : decode cX10_best 2 = .ok (.istore_n 2, 1) := by decide +kernel
theorem dX10_best_3 : decode cX10_best 3 = .ok (.bipush (-9), 2) := by decide +kernel
theorem dX10_best_5 : decode cX10_best 5 = .ok (.istore_n 3, 1) := by decide +kernel
theorem dX10_best_6 : decode cX10_best 6 = .ok (.iconst 0, 1) := by decide +kernel
theorem dX10_best_7 : decode cX10_best 7 = .ok (.istore 4, 2) := by decide +kernel
theorem dX10_best_9 : decode cX10_best 9 = .ok (.iload 4, 2) := by decide +kernel
theorem dX10_best_11 : decode cX10_best 11 = .ok (.aload_n 0, 1) := by decide +kernel
theorem dX10_best_12 : decode cX10_best 12 = .ok (.getfield 7, 3) := by decide +kernel
theorem dX10_best_15 : decode cX10_best 15 = .ok (.iconst 0, 1) := by decide +kernel
theorem dX10_best_16 : decode cX10_best 16 = .ok (.iaload, 1) := by decide +kernel
theorem dX10_best_17 : decode cX10_best 17 = .ok (.if_icmp .ge 153, 3) := by decide +kernel
theorem dX10_best_20 : decode cX10_best 20 = .ok (.aload_n 0, 1) := by decide +kernel
theorem dX10_best_21 : decode cX10_best 21 = .ok (.getfield 7, 3) := by decide +kernel
theorem dX10_best_24 : decode cX10_best 24 = .ok (.aload_n 0, 1) := by decide +kernel
theorem dX10_best_25 : decode cX10_best 25 = .ok (.getfield 13, 3) := by decide +kernel
theorem dX10_best_28 : decode cX10_best 28 = .ok (.invokestatic 105, 3) := by decide +kernel
theorem dX10_best_31 : decode cX10_best 31 = .ok (.aload_n 0, 1) := by decide +kernel
theorem dX10_best_32 : decode cX10_best 32 = .ok (.getfield 7, 3) := by decide +kernel
theorem dX10_best_35 : decode cX10_best 35 = .ok (.iconst 1, 1) := by decide +kernel
theorem dX10_best_36 : decode cX10_best 36 = .ok (.iconst 2, 1) := by decide +kernel
theorem dX10_best_37 : decode cX10_best 37 = .ok (.iload 4, 2) := by decide +kernel
theorem dX10_best_39 : decode cX10_best 39 = .ok (.imul, 1) := by decide +kernel
theorem dX10_best_40 : decode cX10_best 40 = .ok (.iadd, 1) := by decide +kernel
theorem dX10_best_41 : decode cX10_best 41 = .ok (.iaload, 1) := by decide +kernel
theorem dX10_best_42 : decode cX10_best 42 = .ok (.iconst 5, 1) := by decide +kernel
theorem dX10_best_43 : decode cX10_best 43 = .ok (.iadd, 1) := by decide +kernel
theorem dX10_best_44 : decode cX10_best 44 = .ok (.istore 5, 2) := by decide +kernel
theorem dX10_best_46 : decode cX10_best 46 = .ok (.aload_n 0, 1) := by decide +kernel
theorem dX10_best_47 : decode cX10_best 47 = .ok (.getfield 13, 3) := by decide +kernel
theorem dX10_best_50 : decode cX10_best 50 = .ok (.iconst 1, 1) := by decide +kernel
theorem dX10_best_51 : decode cX10_best 51 = .ok (.iconst 2, 1) := by decide +kernel
theorem dX10_best_52 : decode cX10_best 52 = .ok (.iload 4, 2) := by decide +kernel
theorem dX10_best_54 : decode cX10_best 54 = .ok (.imul, 1) := by decide +kernel
theorem dX10_best_55 : decode cX10_best 55 = .ok (.iadd, 1) := by decide +kernel
theorem dX10_best_56 : decode cX10_best 56 = .ok (.iload_n 1, 1) := by decide +kernel
theorem dX10_best_57 : decode cX10_best 57 = .ok (.ifCond .eq 7, 3) := by decide +kernel
theorem dX10_best_60 : decode cX10_best 60 = .ok (.iconst 0, 1) := by decide +kernel
theorem dX10_best_61 : decode cX10_best 61 = .ok (.goto 17, 3) := by decide +kernel
theorem dX10_best_64 : decode cX10_best 64 = .ok (.iload 5, 2) := by decide +kernel
theorem dX10_best_66 : decode cX10_best 66 = .ok (.bipush 100, 2) := by decide +kernel
theorem dX10_best_68 : decode cX10_best 68 = .ok (.if_icmp .le 8, 3) := by decide +kernel
theorem dX10_best_71 : decode cX10_best 71 = .ok (.bipush 100, 2) := by decide +kernel
theorem dX10_best_73 : decode cX10_best 73 = .ok (.goto 5, 3) := by decide +kernel
theorem dX10_best_76 : decode cX10_best 76 = .ok (.iload 5, 2) := by decide +kernel
theorem dX10_best_78 : decode cX10_best 78 = .ok (.iastore, 1) := by decide +kernel
theorem dX10_best_79 : decode cX10_best 79 = .ok (.aload_n 0, 1) := by decide +kernel
theorem dX10_best_80 : decode cX10_best 80 = .ok (.getfield 13, 3) := by decide +kernel
theorem dX10_best_83 : decode cX10_best 83 = .ok (.iconst 1, 1) := by decide +kernel
theorem dX10_best_84 : decode cX10_best 84 = .ok (.iconst 2, 1) := by decide +kernel
theorem dX10_best_85 : decode cX10_best 85 = .ok (.iload 4, 2) := by decide +kernel
theorem dX10_best_87 : decode cX10_best 87 = .ok (.imul, 1) := by decide +kernel
theorem dX10_best_88 : decode cX10_best 88 = .ok (.iadd, 1) := by decide +kernel
theorem dX10_best_89 : decode cX10_best 89 = .ok (.iconst 1, 1) := by decide +kernel
theorem dX10_best_90 : decode cX10_best 90 = .ok (.iadd, 1) := by decide +kernel
theorem dX10_best_91 : decode cX10_best 91 = .ok (.iload_n 1, 1) := by decide +kernel
theorem dX10_best_92 : decode cX10_best 92 = .ok (.ifCond .eq 7, 3) := by decide +kernel
theorem dX10_best_95 : decode cX10_best 95 = .ok (.iconst 0, 1) := by decide +kernel
theorem dX10_best_96 : decode cX10_best 96 = .ok (.goto 16, 3) := by decide +kernel
theorem dX10_best_99 : decode cX10_best 99 = .ok (.aload_n 0, 1) := by decide +kernel
theorem dX10_best_100 : decode cX10_best 100 = .ok (.getfield 7, 3) := by decide +kernel
theorem dX10_best_103 : decode cX10_best 103 = .ok (.iconst 1, 1) := by decide +kernel
theorem dX10_best_104 : decode cX10_best 104 = .ok (.iconst 2, 1) := by decide +kernel
theorem dX10_best_105 : decode cX10_best 105 = .ok (.iload 4, 2) := by decide +kernel
theorem dX10_best_107 : decode cX10_best 107 = .ok (.imul, 1) := by decide +kernel
theorem dX10_best_108 : decode cX10_best 108 = .ok (.iadd, 1) := by decide +kernel
theorem dX10_best_109 : decode cX10_best 109 = .ok (.iconst 1, 1) := by decide +kernel
theorem dX10_best_110 : decode cX10_best 110 = .ok (.iadd, 1) := by decide +kernel
theorem dX10_best_111 : decode cX10_best 111 = .ok (.iaload, 1) := by decide +kernel
theorem dX10_best_112 : decode cX10_best 112 = .ok (.iastore, 1) := by decide +kernel
theorem dX10_best_113 : decode cX10_best 113 = .ok (.aload_n 0, 1) := by decide +kernel
theorem dX10_best_114 : decode cX10_best 114 = .ok (.getfield 13, 3) := by decide +kernel
theorem dX10_best_117 : decode cX10_best 117 = .ok (.invokestatic 176, 3) := by decide +kernel
theorem dX10_best_120 : decode cX10_best 120 = .ok (.ifCond .eq 14, 3) := by decide +kernel
theorem dX10_best_123 : decode cX10_best 123 = .ok (.aload_n 0, 1) := by decide +kernel
theorem dX10_best_124 : decode cX10_best 124 = .ok (.aload_n 0, 1) := by decide +kernel
theorem dX10_best_125 : decode cX10_best 125 = .ok (.getfield 13, 3) := by decide +kernel
theorem dX10_best_128 : decode cX10_best 128 = .ok (.invokevirtual 183, 3) := by decide +kernel
theorem dX10_best_131 : decode cX10_best 131 = .ok (.goto 5, 3) := by decide +kernel
theorem dX10_best_134 : decode cX10_best 134 = .ok (.bipush (-9), 2) := by decide +kernel
theorem dX10_best_136 : decode cX10_best 136 = .ok (.istore 6, 2) := by decide +kernel
theorem dX10_best_138 : decode cX10_best 138 = .ok (.iload 6, 2) := by decide +kernel
theorem dX10_best_140 : decode cX10_best 140 = .ok (.iload_n 3, 1) := by decide +kernel
theorem dX10_best_141 : decode cX10_best 141 = .ok (.if_icmp .le 8, 3) := by decide +kernel
theorem dX10_best_144 : decode cX10_best 144 = .ok (.iload 4, 2) := by decide +kernel
theorem dX10_best_146 : decode cX10_best 146 = .ok (.goto 4, 3) := by decide +kernel
theorem dX10_best_149 : decode cX10_best 149 = .ok (.iload_n 2, 1) := by decide +kernel
theorem dX10_best_150 : decode cX10_best 150 = .ok (.istore_n 2, 1) := by decide +kernel
theorem dX10_best_151 : decode cX10_best 151 = .ok (.iload 6, 2) := by decide +kernel
theorem dX10_best_153 : decode cX10_best 153 = .ok (.iload_n 3, 1) := by decide +kernel
theorem dX10_best_154 : decode cX10_best 154 = .ok (.if_icmp .le 8, 3) := by decide +kernel
theorem dX10_best_157 : decode cX10_best 157 = .ok (.iload 6, 2) := by decide +kernel
theorem dX10_best_159 : decode cX10_best 159 = .ok (.goto 4, 3) := by decide +kernel
theorem dX10_best_162 : decode cX10_best 162 = .ok (.iload_n 3, 1) := by decide +kernel
theorem dX10_best_163 : decode cX10_best 163 = .ok (.istore_n 3, 1) := by decide +kernel
theorem dX10_best_164 : decode cX10_best 164 = .ok (.iinc 4 1, 3) := by decide +kernel
theorem dX10_best_167 : decode cX10_best 167 = .ok (.goto (-158), 3) := by decide +kernel
theorem dX10_best_170 : decode cX10_best 170 = .ok (.iload_n 2, 1) := by decide +kernel
theorem dX10_best_171 : decode cX10_best 171 = .ok (.ireturn, 1) := by decide +kernel
theorem dX10_bestImprovement_0 : decode cX10_bestImprovement 0 = .ok (.aload_n 0, 1) := by decide +kernel
theorem dX10_bestImprovement_1 : decode cX10_bestImprovement 1 = .ok (.iconst 0, 1) := by decide +kernel
theorem dX10_bestImprovement_2 : decode cX10_bestImprovement 2 = .ok (.putfield 51, 3) := by decide +kernel
theorem dX10_bestImprovement_5 : decode cX10_bestImprovement 5 = .ok (.aload_n 0, 1) := by decide +kernel
theorem dX10_bestImprovement_6 : decode cX10_bestImprovement 6 = .ok (.iconst 0, 1) := by decide +kernel
theorem dX10_bestImprovement_7 : decode cX10_bestImprovement 7 = .ok (.invokevirtual 197, 3) := by decide +kernel
theorem dX10_bestImprovement_10 : decode cX10_bestImprovement 10 = .ok (.ireturn, 1) := by decide +kernel
theorem dX10_bestShutdown_0 : decode cX10_bestShutdown 0 = .ok (.aload_n 0, 1) := by decide +kernel
theorem dX10_bestShutdown_1 : decode cX10_bestShutdown 1 = .ok (.iconst 0, 1) := by decide +kernel
theorem dX10_bestShutdown_2 : decode cX10_bestShutdown 2 = .ok (.putfield 51, 3) := by decide +kernel
theorem dX10_bestShutdown_5 : decode cX10_bestShutdown 5 = .ok (.aload_n 0, 1) := by decide +kernel
theorem dX10_bestShutdown_6 : decode cX10_bestShutdown 6 = .ok (.iconst 1, 1) := by decide +kernel
theorem dX10_bestShutdown_7 : decode cX10_bestShutdown 7 = .ok (.invokevirtual 197, 3) := by decide +kernel
theorem dX10_bestShutdown_10 : decode cX10_bestShutdown 10 = .ok (.ireturn, 1) := by decide +kernel
theorem dX10_recoveryFor_0 : decode cX10_recoveryFor 0 = .ok (.aload_n 0, 1) := by decide +kernel
theorem dX10_recoveryFor_1 : decode cX10_recoveryFor 1 = .ok (.aload_n 0, 1) := by decide +kernel
theorem dX10_recoveryFor_2 : decode cX10_recoveryFor 2 = .ok (.iload_n 1, 1) := by decide +kernel
theorem dX10_recoveryFor_3 : decode cX10_recoveryFor 3 = .ok (.invokevirtual 109, 3) := by decide +kernel
theorem dX10_recoveryFor_6 : decode cX10_recoveryFor 6 = .ok (.ifCond .ne 7, 3) := by decide +kernel
theorem dX10_recoveryFor_9 : decode cX10_recoveryFor 9 = .ok (.iconst 1, 1) := by decide +kernel
theorem dX10_recoveryFor_10 : decode cX10_recoveryFor 10 = .ok (.goto 20, 3) := by decide +kernel
theorem dX10_recoveryFor_13 : decode cX10_recoveryFor 13 = .ok (.iload_n 2, 1) := by decide +kernel
theorem dX10_recoveryFor_14 : decode cX10_recoveryFor 14 = .ok (.i2l, 1) := by decide +kernel
theorem dX10_recoveryFor_15 : decode cX10_recoveryFor 15 = .ok (.lconst 0, 1) := by decide +kernel
theorem dX10_recoveryFor_16 : decode cX10_recoveryFor 16 = .ok (.ldc2_w 174, 3) := by decide +kernel
theorem dX10_recoveryFor_19 : decode cX10_recoveryFor 19 = .ok (.invokestatic 55, 3) := by decide +kernel
theorem dX10_recoveryFor_22 : decode cX10_recoveryFor 22 = .ok (.ifCond .ne 7, 3) := by decide +kernel
theorem dX10_recoveryFor_25 : decode cX10_recoveryFor 25 = .ok (.iconst 2, 1) := by decide +kernel
theorem dX10_recoveryFor_26 : decode cX10_recoveryFor 26 = .ok (.goto 4, 3) := by decide +kernel
theorem dX10_recoveryFor_29 : decode cX10_recoveryFor 29 = .ok (.iconst 0, 1) := by decide +kernel
theorem dX10_recoveryFor_30 : decode cX10_recoveryFor 30 = .ok (.invokevirtual 76, 3) := by decide +kernel
theorem dX10_recoveryFor_33 : decode cX10_recoveryFor 33 = .ok (.ifCond .eq 5, 3) := by decide +kernel
theorem dX10_recoveryFor_36 : decode cX10_recoveryFor 36 = .ok (.iconst 0, 1) := by decide +kernel
theorem dX10_recoveryFor_37 : decode cX10_recoveryFor 37 = .ok (.ireturn, 1) := by decide +kernel
theorem dX10_recoveryFor_38 : decode cX10_recoveryFor 38 = .ok (.aload_n 0, 1) := by decide +kernel
theorem dX10_recoveryFor_39 : decode cX10_recoveryFor 39 = .ok (.getfield 7, 3) := by decide +kernel
theorem dX10_recoveryFor_42 : decode cX10_recoveryFor 42 = .ok (.aload_n 0, 1) := by decide +kernel
theorem dX10_recoveryFor_43 : decode cX10_recoveryFor 43 = .ok (.getfield 13, 3) := by decide +kernel
theorem dX10_recoveryFor_46 : decode cX10_recoveryFor 46 = .ok (.invokestatic 105, 3) := by decide +kernel
theorem dX10_recoveryFor_49 : decode cX10_recoveryFor 49 = .ok (.iconst 0, 1) := by decide +kernel
theorem dX10_recoveryFor_50 : decode cX10_recoveryFor 50 = .ok (.istore_n 3, 1) := by decide +kernel
theorem dX10_recoveryFor_51 : decode cX10_recoveryFor 51 = .ok (.iload_n 3, 1) := by decide +kernel
theorem dX10_recoveryFor_52 : decode cX10_recoveryFor 52 = .ok (.bipush 100, 2) := by decide +kernel
theorem dX10_recoveryFor_54 : decode cX10_recoveryFor 54 = .ok (.if_icmp .gt 44, 3) := by decide +kernel
theorem dX10_recoveryFor_57 : decode cX10_recoveryFor 57 = .ok (.aload_n 0, 1) := by decide +kernel
theorem dX10_recoveryFor_58 : decode cX10_recoveryFor 58 = .ok (.getfield 13, 3) := by decide +kernel
theorem dX10_recoveryFor_61 : decode cX10_recoveryFor 61 = .ok (.iconst 1, 1) := by decide +kernel
theorem dX10_recoveryFor_62 : decode cX10_recoveryFor 62 = .ok (.iconst 2, 1) := by decide +kernel
theorem dX10_recoveryFor_63 : decode cX10_recoveryFor 63 = .ok (.iload_n 1, 1) := by decide +kernel
theorem dX10_recoveryFor_64 : decode cX10_recoveryFor 64 = .ok (.imul, 1) := by decide +kernel
theorem dX10_recoveryFor_65 : decode cX10_recoveryFor 65 = .ok (.iadd, 1) := by decide +kernel
theorem dX10_recoveryFor_66 : decode cX10_recoveryFor 66 = .ok (.iload_n 3, 1) := by decide +kernel
theorem dX10_recoveryFor_67 : decode cX10_recoveryFor 67 = .ok (.iastore, 1) := by decide +kernel
theorem dX10_recoveryFor_68 : decode cX10_recoveryFor 68 = .ok (.aload_n 0, 1) := by decide +kernel
theorem dX10_recoveryFor_69 : decode cX10_recoveryFor 69 = .ok (.getfield 13, 3) := by decide +kernel
theorem dX10_recoveryFor_72 : decode cX10_recoveryFor 72 = .ok (.invokestatic 176, 3) := by decide +kernel
theorem dX10_recoveryFor_75 : decode cX10_recoveryFor 75 = .ok (.ifCond .eq 17, 3) := by decide +kernel
theorem dX10_recoveryFor_78 : decode cX10_recoveryFor 78 = .ok (.aload_n 0, 1) := by decide +kernel
theorem dX10_recoveryFor_79 : decode cX10_recoveryFor 79 = .ok (.aload_n 0, 1) := by decide +kernel
theorem dX10_recoveryFor_80 : decode cX10_recoveryFor 80 = .ok (.getfield 13, 3) := by decide +kernel
theorem dX10_recoveryFor_83 : decode cX10_recoveryFor 83 = .ok (.invokevirtual 183, 3) := by decide +kernel
theorem dX10_recoveryFor_86 : decode cX10_recoveryFor 86 = .ok (.iload_n 2, 1) := by decide +kernel
theorem dX10_recoveryFor_87 : decode cX10_recoveryFor 87 = .ok (.if_icmp .lt 5, 3) := by decide +kernel
theorem dX10_recoveryFor_90 : decode cX10_recoveryFor 90 = .ok (.iload_n 3, 1) := by decide +kernel
theorem dX10_recoveryFor_91 : decode cX10_recoveryFor 91 = .ok (.ireturn, 1) := by decide +kernel
theorem dX10_recoveryFor_92 : decode cX10_recoveryFor 92 = .ok (.iinc 3 1, 3) := by decide +kernel
theorem dX10_recoveryFor_95 : decode cX10_recoveryFor 95 = .ok (.goto (-44), 3) := by decide +kernel
theorem dX10_recoveryFor_98 : decode cX10_recoveryFor 98 = .ok (.bipush (-9), 2) := by decide +kernel
theorem dX10_recoveryFor_100 : decode cX10_recoveryFor 100 = .ok (.ireturn, 1) := by decide +kernel
theorem dX10_measure_0 : decode cX10_measure 0 = .ok (.aload_n 0, 1) := by decide +kernel
theorem dX10_measure_1 : decode cX10_measure 1 = .ok (.iload_n 1, 1) := by decide +kernel
theorem dX10_measure_2 : decode cX10_measure 2 = .ok (.invokestatic 112, 3) := by decide +kernel
theorem dX10_measure_5 : decode cX10_measure 5 = .ok (.ifCond .eq 19, 3) := by decide +kernel
theorem dX10_measure_8 : decode cX10_measure 8 = .ok (.iload_n 2, 1) := by decide +kernel
theorem dX10_measure_9 : decode cX10_measure 9 = .ok (.i2l, 1) := by decide +kernel
theorem dX10_measure_10 : decode cX10_measure 10 = .ok (.lconst 0, 1) := by decide +kernel
theorem dX10_measure_11 : decode cX10_measure 11 = .ok (.ldc2_w 174, 3) := by decide +kernel
theorem dX10_measure_14 : decode cX10_measure 14 = .ok (.invokestatic 55, 3) := by decide +kernel
theorem dX10_measure_17 : decode cX10_measure 17 = .ok (.ifCond .eq 7, 3) := by decide +kernel
theorem dX10_measure_20 : decode cX10_measure 20 = .ok (.iconst 0, 1) := by decide +kernel
theorem dX10_measure_21 : decode cX10_measure 21 = .ok (.goto 4, 3) := by decide +kernel
theorem dX10_measure_24 : decode cX10_measure 24 = .ok (.iconst 1, 1) := by decide +kernel
theorem dX10_measure_25 : decode cX10_measure 25 = .ok (.invokevirtual 76, 3) := by decide +kernel
theorem dX10_measure_28 : decode cX10_measure 28 = .ok (.ifCond .eq 5, 3) := by decide +kernel
theorem dX10_measure_31 : decode cX10_measure 31 = .ok (.iconst 0, 1) := by decide +kernel
theorem dX10_measure_32 : decode cX10_measure 32 = .ok (.ireturn, 1) := by decide +kernel
theorem dX10_measure_33 : decode cX10_measure 33 = .ok (.aload_n 0, 1) := by decide +kernel
theorem dX10_measure_34 : decode cX10_measure 34 = .ok (.getfield 201, 3) := by decide +kernel
theorem dX10_measure_37 : decode cX10_measure 37 = .ok (.iconst 5, 1) := by decide +kernel
theorem dX10_measure_38 : decode cX10_measure 38 = .ok (.if_icmp .ne 54, 3) := by decide +kernel
theorem dX10_measure_41 : decode cX10_measure 41 = .ok (.iconst 0, 1) := by decide +kernel
theorem dX10_measure_42 : decode cX10_measure 42 = .ok (.istore_n 3, 1) := by decide +kernel
theorem dX10_measure_43 : decode cX10_measure 43 = .ok (.iload_n 3, 1) := by decide +kernel
theorem dX10_measure_44 : decode cX10_measure 44 = .ok (.iconst 4, 1) := by decide +kernel
theorem dX10_measure_45 : decode cX10_measure 45 = .ok (.if_icmp .ge 37, 3) := by decide +kernel
theorem dX10_measure_48 : decode cX10_measure 48 = .ok (.aload_n 0, 1) := by decide +kernel
theorem dX10_measure_49 : decode cX10_measure 49 = .ok (.getfield 35, 3) := by decide +kernel
theorem dX10_measure_52 : decode cX10_measure 52 = .ok (.iload_n 3, 1) := by decide +kernel
theorem dX10_measure_53 : decode cX10_measure 53 = .ok (.aload_n 0, 1) := by decide +kernel
theorem dX10_measure_54 : decode cX10_measure 54 = .ok (.getfield 35, 3) := by decide +kernel
theorem dX10_measure_57 : decode cX10_measure 57 = .ok (.iload_n 3, 1) := by decide +kernel
theorem dX10_measure_58 : decode cX10_measure 58 = .ok (.iconst 1, 1) := by decide +kernel
theorem dX10_measure_59 : decode cX10_measure 59 = .ok (.iadd, 1) := by decide +kernel
theorem dX10_measure_60 : decode cX10_measure 60 = .ok (.iaload, 1) := by decide +kernel
theorem dX10_measure_61 : decode cX10_measure 61 = .ok (.iastore, 1) := by decide +kernel
theorem dX10_measure_62 : decode cX10_measure 62 = .ok (.aload_n 0, 1) := by decide +kernel
theorem dX10_measure_63 : decode cX10_measure 63 = .ok (.getfield 38, 3) := by decide +kernel
theorem dX10_measure_66 : decode cX10_measure 66 = .ok (.iload_n 3, 1) := by decide +kernel
theorem dX10_measure_67 : decode cX10_measure 67 = .ok (.aload_n 0, 1) := by decide +kernel
theorem dX10_measure_68 : decode cX10_measure 68 = .ok (.getfield 38, 3) := by decide +kernel
theorem dX10_measure_71 : decode cX10_measure 71 = .ok (.iload_n 3, 1) := by decide +kernel
theorem dX10_measure_72 : decode cX10_measure 72 = .ok (.iconst 1, 1) := by decide +kernel
theorem dX10_measure_73 : decode cX10_measure 73 = .ok (.iadd, 1) := by decide +kernel
theorem dX10_measure_74 : decode cX10_measure 74 = .ok (.iaload, 1) := by decide +kernel
theorem dX10_measure_75 : decode cX10_measure 75 = .ok (.iastore, 1) := by decide +kernel
theorem dX10_measure_76 : decode cX10_measure 76 = .ok (.iinc 3 1, 3) := by decide +kernel
theorem dX10_measure_79 : decode cX10_measure 79 = .ok (.goto (-36), 3) := by decide +kernel
theorem dX10_measure_82 : decode cX10_measure 82 = .ok (.aload_n 0, 1) := by decide +kernel
theorem dX10_measure_83 : decode cX10_measure 83 = .ok (.dup, 1) := by decide +kernel
theorem dX10_measure_84 : decode cX10_measure 84 = .ok (.getfield 201, 3) := by decide +kernel
theorem dX10_measure_87 : decode cX10_measure 87 = .ok (.iconst 1, 1) := by decide +kernel
theorem dX10_measure_88 : decode cX10_measure 88 = .ok (.isub, 1) := by decide +kernel
theorem dX10_measure_89 : decode cX10_measure 89 = .ok (.putfield 201, 3) := by decide +kernel
theorem dX10_measure_92 : decode cX10_measure 92 = .ok (.aload_n 0, 1) := by decide +kernel
theorem dX10_measure_93 : decode cX10_measure 93 = .ok (.getfield 35, 3) := by decide +kernel
theorem dX10_measure_96 : decode cX10_measure 96 = .ok (.aload_n 0, 1) := by decide +kernel
theorem dX10_measure_97 : decode cX10_measure 97 = .ok (.getfield 201, 3) := by decide +kernel
theorem dX10_measure_100 : decode cX10_measure 100 = .ok (.iload_n 1, 1) := by decide +kernel
theorem dX10_measure_101 : decode cX10_measure 101 = .ok (.iastore, 1) := by decide +kernel
theorem dX10_measure_102 : decode cX10_measure 102 = .ok (.aload_n 0, 1) := by decide +kernel
theorem dX10_measure_103 : decode cX10_measure 103 = .ok (.getfield 38, 3) := by decide +kernel
theorem dX10_measure_106 : decode cX10_measure 106 = .ok (.aload_n 0, 1) := by decide +kernel
theorem dX10_measure_107 : decode cX10_measure 107 = .ok (.getfield 201, 3) := by decide +kernel
theorem dX10_measure_110 : decode cX10_measure 110 = .ok (.iload_n 2, 1) := by decide +kernel
theorem dX10_measure_111 : decode cX10_measure 111 = .ok (.iastore, 1) := by decide +kernel
theorem dX10_measure_112 : decode cX10_measure 112 = .ok (.aload_n 0, 1) := by decide +kernel
theorem dX10_measure_113 : decode cX10_measure 113 = .ok (.dup, 1) := by decide +kernel
theorem dX10_measure_114 : decode cX10_measure 114 = .ok (.getfield 201, 3) := by decide +kernel
theorem dX10_measure_117 : decode cX10_measure 117 = .ok (.iconst 1, 1) := by decide +kernel
theorem dX10_measure_118 : decode cX10_measure 118 = .ok (.iadd, 1) := by decide +kernel
theorem dX10_measure_119 : decode cX10_measure 119 = .ok (.putfield 201, 3) := by decide +kernel
theorem dX10_measure_122 : decode cX10_measure 122 = .ok (.aload_n 0, 1) := by decide +kernel
theorem dX10_measure_123 : decode cX10_measure 123 = .ok (.getfield 201, 3) := by decide +kernel
theorem dX10_measure_126 : decode cX10_measure 126 = .ok (.ireturn, 1) := by decide +kernel
theorem dX10_isMeasured_0 : decode cX10_isMeasured 0 = .ok (.aload_n 0, 1) := by decide +kernel
theorem dX10_isMeasured_1 : decode cX10_isMeasured 1 = .ok (.getfield 13, 3) := by decide +kernel
theorem dX10_isMeasured_4 : decode cX10_isMeasured 4 = .ok (.invokestatic 176, 3) := by decide +kernel
theorem dX10_isMeasured_7 : decode cX10_isMeasured 7 = .ok (.istore_n 1, 1) := by decide +kernel
theorem dX10_isMeasured_8 : decode cX10_isMeasured 8 = .ok (.iconst 0, 1) := by decide +kernel
theorem dX10_isMeasured_9 : decode cX10_isMeasured 9 = .ok (.istore_n 2, 1) := by decide +kernel
theorem dX10_isMeasured_10 : decode cX10_isMeasured 10 = .ok (.iload_n 2, 1) := by decide +kernel
theorem dX10_isMeasured_11 : decode cX10_isMeasured 11 = .ok (.aload_n 0, 1) := by decide +kernel
theorem dX10_isMeasured_12 : decode cX10_isMeasured 12 = .ok (.getfield 201, 3) := by decide +kernel
theorem dX10_isMeasured_15 : decode cX10_isMeasured 15 = .ok (.if_icmp .ge 56, 3) := by decide +kernel
theorem dX10_isMeasured_18 : decode cX10_isMeasured 18 = .ok (.iload_n 1, 1) := by decide +kernel
theorem dX10_isMeasured_19 : decode cX10_isMeasured 19 = .ok (.ifCond .eq 52, 3) := by decide +kernel
theorem dX10_isMeasured_22 : decode cX10_isMeasured 22 = .ok (.aload_n 0, 1) := by decide +kernel
theorem dX10_isMeasured_23 : decode cX10_isMeasured 23 = .ok (.getfield 35, 3) := by decide +kernel
theorem dX10_isMeasured_26 : decode cX10_isMeasured 26 = .ok (.iload_n 2, 1) := by decide +kernel
theorem dX10_isMeasured_27 : decode cX10_isMeasured 27 = .ok (.iaload, 1) := by decide +kernel
theorem dX10_isMeasured_28 : decode cX10_isMeasured 28 = .ok (.ifCond .ne 14, 3) := by decide +kernel
theorem dX10_isMeasured_31 : decode cX10_isMeasured 31 = .ok (.aload_n 0, 1) := by decide +kernel
theorem dX10_isMeasured_32 : decode cX10_isMeasured 32 = .ok (.aload_n 0, 1) := by decide +kernel
theorem dX10_isMeasured_33 : decode cX10_isMeasured 33 = .ok (.getfield 13, 3) := by decide +kernel
theorem dX10_isMeasured_36 : decode cX10_isMeasured 36 = .ok (.invokevirtual 183, 3) := by decide +kernel
theorem dX10_isMeasured_39 : decode cX10_isMeasured 39 = .ok (.goto 11, 3) := by decide +kernel
theorem dX10_isMeasured_42 : decode cX10_isMeasured 42 = .ok (.aload_n 0, 1) := by decide +kernel
theorem dX10_isMeasured_43 : decode cX10_isMeasured 43 = .ok (.aload_n 0, 1) := by decide +kernel
theorem dX10_isMeasured_44 : decode cX10_isMeasured 44 = .ok (.getfield 13, 3) := by decide +kernel
theorem dX10_isMeasured_47 : decode cX10_isMeasured 47 = .ok (.invokevirtual 187, 3) := by decide +kernel
theorem dX10_isMeasured_50 : decode cX10_isMeasured 50 = .ok (.aload_n 0, 1) := by decide +kernel
theorem dX10_isMeasured_51 : decode cX10_isMeasured 51 = .ok (.getfield 38, 3) := by decide +kernel
theorem dX10_isMeasured_54 : decode cX10_isMeasured 54 = .ok (.iload_n 2, 1) := by decide +kernel
theorem dX10_isMeasured_55 : decode cX10_isMeasured 55 = .ok (.iaload, 1) := by decide +kernel
theorem dX10_isMeasured_56 : decode cX10_isMeasured 56 = .ok (.if_icmp .ne 7, 3) := by decide +kernel
theorem dX10_isMeasured_59 : decode cX10_isMeasured 59 = .ok (.iconst 1, 1) := by decide +kernel
theorem dX10_isMeasured_60 : decode cX10_isMeasured 60 = .ok (.goto 4, 3) := by decide +kernel
theorem dX10_isMeasured_63 : decode cX10_isMeasured 63 = .ok (.iconst 0, 1) := by decide +kernel
theorem dX10_isMeasured_64 : decode cX10_isMeasured 64 = .ok (.istore_n 1, 1) := by decide +kernel
theorem dX10_isMeasured_65 : decode cX10_isMeasured 65 = .ok (.iinc 2 1, 3) := by decide +kernel
theorem dX10_isMeasured_68 : decode cX10_isMeasured 68 = .ok (.goto (-58), 3) := by decide +kernel
theorem dX10_isMeasured_71 : decode cX10_isMeasured 71 = .ok (.iload_n 1, 1) := by decide +kernel
theorem dX10_isMeasured_72 : decode cX10_isMeasured 72 = .ok (.ireturn, 1) := by decide +kernel
theorem dX10_possibleRecoveries_0 : decode cX10_possibleRecoveries 0 = .ok (.aload_n 0, 1) := by decide +kernel
theorem dX10_possibleRecoveries_1 : decode cX10_possibleRecoveries 1 = .ok (.aload_n 0, 1) := by decide +kernel
theorem dX10_possibleRecoveries_2 : decode cX10_possibleRecoveries 2 = .ok (.iload_n 1, 1) := by decide +kernel
theorem dX10_possibleRecoveries_3 : decode cX10_possibleRecoveries 3 = .ok (.invokevirtual 109, 3) := by decide +kernel
theorem dX10_possibleRecoveries_6 : decode cX10_possibleRecoveries 6 = .ok (.ifCond .eq 14, 3) := by decide +kernel
theorem dX10_possibleRecoveries_9 : decode cX10_possibleRecoveries 9 = .ok (.iload_n 2, 1) := by decide +kernel
theorem dX10_possibleRecoveries_10 : decode cX10_possibleRecoveries 10 = .ok (.invokestatic 112, 3) := by decide +kernel
theorem dX10_possibleRecoveries_13 : decode cX10_possibleRecoveries 13 = .ok (.ifCond .eq 7, 3) := by decide +kernel
theorem dX10_possibleRecoveries_16 : decode cX10_possibleRecoveries 16 = .ok (.iconst 0, 1) := by decide +kernel
theorem dX10_possibleRecoveries_17 : decode cX10_possibleRecoveries 17 = .ok (.goto 4, 3) := by decide +kernel
theorem dX10_possibleRecoveries_20 : decode cX10_possibleRecoveries 20 = .ok (.iconst 1, 1) := by decide +kernel
theorem dX10_possibleRecoveries_21 : decode cX10_possibleRecoveries 21 = .ok (.invokevirtual 76, 3) := by decide +kernel
theorem dX10_possibleRecoveries_24 : decode cX10_possibleRecoveries 24 = .ok (.ifCond .eq 5, 3) := by decide +kernel
theorem dX10_possibleRecoveries_27 : decode cX10_possibleRecoveries 27 = .ok (.iconst 0, 1) := by decide +kernel
theorem dX10_possibleRecoveries_28 : decode cX10_possibleRecoveries 28 = .ok (.ireturn, 1) := by decide +kernel
theorem dX10_possibleRecoveries_29 : decode cX10_possibleRecoveries 29 = .ok (.aload_n 0, 1) := by decide +kernel
theorem dX10_possibleRecoveries_30 : decode cX10_possibleRecoveries 30 = .ok (.getfield 7, 3) := by decide +kernel
theorem dX10_possibleRecoveries_33 : decode cX10_possibleRecoveries 33 = .ok (.aload_n 0, 1) := by decide +kernel
theorem dX10_possibleRecoveries_34 : decode cX10_possibleRecoveries 34 = .ok (.getfield 13, 3) := by decide +kernel
theorem dX10_possibleRecoveries_37 : decode cX10_possibleRecoveries 37 = .ok (.invokestatic 105, 3) := by decide +kernel
theorem dX10_possibleRecoveries_40 : decode cX10_possibleRecoveries 40 = .ok (.iconst 0, 1) := by decide +kernel
theorem dX10_possibleRecoveries_41 : decode cX10_possibleRecoveries 41 = .ok (.istore_n 3, 1) := by decide +kernel
theorem dX10_possibleRecoveries_42 : decode cX10_possibleRecoveries 42 = .ok (.iconst 0, 1) := by decide +kernel
theorem dX10_possibleRecoveries_43 : decode cX10_possibleRecoveries 43 = .ok (.istore 4, 2) := by decide +kernel
theorem dX10_possibleRecoveries_45 : decode cX10_possibleRecoveries 45 = .ok (.iload 4, 2) := by decide +kernel
theorem dX10_possibleRecoveries_47 : decode cX10_possibleRecoveries 47 = .ok (.bipush 100, 2) := by decide +kernel
theorem dX10_possibleRecoveries_49 : decode cX10_possibleRecoveries 49 = .ok (.if_icmp .gt 38, 3) := by decide +kernel
theorem dX10_possibleRecoveries_52 : decode cX10_possibleRecoveries 52 = .ok (.aload_n 0, 1) := by decide +kernel
theorem dX10_possibleRecoveries_53 : decode cX10_possibleRecoveries 53 = .ok (.getfield 13, 3) := by decide +kernel
theorem dX10_possibleRecoveries_56 : decode cX10_possibleRecoveries 56 = .ok (.iconst 1, 1) := by decide +kernel
theorem dX10_possibleRecoveries_57 : decode cX10_possibleRecoveries 57 = .ok (.iconst 2, 1) := by decide +kernel
theorem dX10_possibleRecoveries_58 : decode cX10_possibleRecoveries 58 = .ok (.iload_n 1, 1) := by decide +kernel
theorem dX10_possibleRecoveries_59 : decode cX10_possibleRecoveries 59 = .ok (.imul, 1) := by decide +kernel
theorem dX10_possibleRecoveries_60 : decode cX10_possibleRecoveries 60 = .ok (.iadd, 1) := by decide +kernel
theorem dX10_possibleRecoveries_61 : decode cX10_possibleRecoveries 61 = .ok (.iload_n 2, 1) := by decide +kernel
theorem dX10_possibleRecoveries_62 : decode cX10_possibleRecoveries 62 = .ok (.iadd, 1) := by decide +kernel
theorem dX10_possibleRecoveries_63 : decode cX10_possibleRecoveries 63 = .ok (.iload 4, 2) := by decide +kernel
theorem dX10_possibleRecoveries_65 : decode cX10_possibleRecoveries 65 = .ok (.iastore, 1) := by decide +kernel
theorem dX10_possibleRecoveries_66 : decode cX10_possibleRecoveries 66 = .ok (.iload_n 3, 1) := by decide +kernel
theorem dX10_possibleRecoveries_67 : decode cX10_possibleRecoveries 67 = .ok (.aload_n 0, 1) := by decide +kernel
theorem dX10_possibleRecoveries_68 : decode cX10_possibleRecoveries 68 = .ok (.invokevirtual 204, 3) := by decide +kernel
theorem dX10_possibleRecoveries_71 : decode cX10_possibleRecoveries 71 = .ok (.ifCond .eq 7, 3) := by decide +kernel
theorem dX10_possibleRecoveries_74 : decode cX10_possibleRecoveries 74 = .ok (.iconst 1, 1) := by decide +kernel
theorem dX10_possibleRecoveries_75 : decode cX10_possibleRecoveries 75 = .ok (.goto 4, 3) := by decide +kernel
theorem dX10_possibleRecoveries_78 : decode cX10_possibleRecoveries 78 = .ok (.iconst 0, 1) := by decide +kernel
theorem dX10_possibleRecoveries_79 : decode cX10_possibleRecoveries 79 = .ok (.iadd, 1) := by decide +kernel
theorem dX10_possibleRecoveries_80 : decode cX10_possibleRecoveries 80 = .ok (.istore_n 3, 1) := by decide +kernel
theorem dX10_possibleRecoveries_81 : decode cX10_possibleRecoveries 81 = .ok (.iinc 4 1, 3) := by decide +kernel
theorem dX10_possibleRecoveries_84 : decode cX10_possibleRecoveries 84 = .ok (.goto (-39), 3) := by decide +kernel
theorem dX10_possibleRecoveries_87 : decode cX10_possibleRecoveries 87 = .ok (.iload_n 3, 1) := by decide +kernel
theorem dX10_possibleRecoveries_88 : decode cX10_possibleRecoveries 88 = .ok (.ireturn, 1) := by decide +kernel
theorem dX10_disturb_0 : decode cX10_disturb 0 = .ok (.aload_n 0, 1) := by decide +kernel
theorem dX10_disturb_1 : decode cX10_disturb 1 = .ok (.iload_n 3, 1) := by decide +kernel
theorem dX10_disturb_2 : decode cX10_disturb 2 = .ok (.i2l, 1) := by decide +kernel
theorem dX10_disturb_3 : decode cX10_disturb 3 = .ok (.lconst 1, 1) := by decide +kernel
theorem dX10_disturb_4 : decode cX10_disturb 4 = .ok (.ldc2_w 115, 3) := by decide +kernel
theorem dX10_disturb_7 : decode cX10_disturb 7 = .ok (.invokestatic 55, 3) := by decide +kernel
theorem dX10_disturb_10 : decode cX10_disturb 10 = .ok (.ifCond .eq 7, 3) := by decide +kernel
theorem dX10_disturb_13 : decode cX10_disturb 13 = .ok (.iconst 0, 1) := by decide +kernel
theorem dX10_disturb_14 : decode cX10_disturb 14 = .ok (.goto 4, 3) := by decide +kernel
theorem dX10_disturb_17 : decode cX10_disturb 17 = .ok (.iconst 1, 1) := by decide +kernel
theorem dX10_disturb_18 : decode cX10_disturb 18 = .ok (.invokevirtual 76, 3) := by decide +kernel
theorem dX10_disturb_21 : decode cX10_disturb 21 = .ok (.ifCond .eq 5, 3) := by decide +kernel
theorem dX10_disturb_24 : decode cX10_disturb 24 = .ok (.iconst 0, 1) := by decide +kernel
theorem dX10_disturb_25 : decode cX10_disturb 25 = .ok (.ireturn, 1) := by decide +kernel
theorem dX10_disturb_26 : decode cX10_disturb 26 = .ok (.aload_n 0, 1) := by decide +kernel
theorem dX10_disturb_27 : decode cX10_disturb 27 = .ok (.getfield 7, 3) := by decide +kernel
theorem dX10_disturb_30 : decode cX10_disturb 30 = .ok (.aload_n 0, 1) := by decide +kernel
theorem dX10_disturb_31 : decode cX10_disturb 31 = .ok (.getfield 13, 3) := by decide +kernel
theorem dX10_disturb_34 : decode cX10_disturb 34 = .ok (.invokestatic 105, 3) := by decide +kernel
theorem dX10_disturb_37 : decode cX10_disturb 37 = .ok (.lload_n 1, 1) := by decide +kernel
theorem dX10_disturb_38 : decode cX10_disturb 38 = .ok (.lstore 4, 2) := by decide +kernel
theorem dX10_disturb_40 : decode cX10_disturb 40 = .ok (.iconst 0, 1) := by decide +kernel
theorem dX10_disturb_41 : decode cX10_disturb 41 = .ok (.istore 6, 2) := by decide +kernel
theorem dX10_disturb_43 : decode cX10_disturb 43 = .ok (.iload 6, 2) := by decide +kernel
theorem dX10_disturb_45 : decode cX10_disturb 45 = .ok (.iload_n 3, 1) := by decide +kernel
theorem dX10_disturb_46 : decode cX10_disturb 46 = .ok (.if_icmp .ge 90, 3) := by decide +kernel
theorem dX10_disturb_49 : decode cX10_disturb 49 = .ok (.lload 4, 2) := by decide +kernel
theorem dX10_disturb_51 : decode cX10_disturb 51 = .ok (.ldc2_w 207, 3) := by decide +kernel
theorem dX10_disturb_54 : decode cX10_disturb 54 = .ok (.lmul, 1) := by decide +kernel
theorem dX10_disturb_55 : decode cX10_disturb 55 = .ok (.ldc2_w 209, 3) := by decide +kernel
theorem dX10_disturb_58 : decode cX10_disturb 58 = .ok (.ladd, 1) := by decide +kernel
theorem dX10_disturb_59 : decode cX10_disturb 59 = .ok (.lstore 4, 2) := by decide +kernel
theorem dX10_disturb_61 : decode cX10_disturb 61 = .ok (.lload 4, 2) := by decide +kernel
theorem dX10_disturb_63 : decode cX10_disturb 63 = .ok (.bipush 33, 2) := by decide +kernel
theorem dX10_disturb_65 : decode cX10_disturb 65 = .ok (.lushr, 1) := by decide +kernel
theorem dX10_disturb_66 : decode cX10_disturb 66 = .ok (.l2i, 1) := by decide +kernel
theorem dX10_disturb_67 : decode cX10_disturb 67 = .ok (.istore 7, 2) := by decide +kernel
theorem dX10_disturb_69 : decode cX10_disturb 69 = .ok (.aload_n 0, 1) := by decide +kernel
theorem dX10_disturb_70 : decode cX10_disturb 70 = .ok (.getfield 13, 3) := by decide +kernel
theorem dX10_disturb_73 : decode cX10_disturb 73 = .ok (.iconst 0, 1) := by decide +kernel
theorem dX10_disturb_74 : decode cX10_disturb 74 = .ok (.iaload, 1) := by decide +kernel
theorem dX10_disturb_75 : decode cX10_disturb 75 = .ok (.ifCond .le 47, 3) := by decide +kernel
theorem dX10_disturb_78 : decode cX10_disturb 78 = .ok (.iload 7, 2) := by decide +kernel
theorem dX10_disturb_80 : decode cX10_disturb 80 = .ok (.iconst 3, 1) := by decide +kernel
theorem dX10_disturb_81 : decode cX10_disturb 81 = .ok (.irem, 1) := by decide +kernel
theorem dX10_disturb_82 : decode cX10_disturb 82 = .ok (.ifCond .ne 40, 3) := by decide +kernel
theorem dX10_disturb_85 : decode cX10_disturb 85 = .ok (.aload_n 0, 1) := by decide +kernel
theorem dX10_disturb_86 : decode cX10_disturb 86 = .ok (.getfield 13, 3) := by decide +kernel
theorem dX10_disturb_89 : decode cX10_disturb 89 = .ok (.iconst 1, 1) := by decide +kernel
theorem dX10_disturb_90 : decode cX10_disturb 90 = .ok (.iconst 2, 1) := by decide +kernel
theorem dX10_disturb_91 : decode cX10_disturb 91 = .ok (.iload 7, 2) := by decide +kernel
theorem dX10_disturb_93 : decode cX10_disturb 93 = .ok (.iconst 3, 1) := by decide +kernel
theorem dX10_disturb_94 : decode cX10_disturb 94 = .ok (.idiv, 1) := by decide +kernel
theorem dX10_disturb_95 : decode cX10_disturb 95 = .ok (.aload_n 0, 1) := by decide +kernel
theorem dX10_disturb_96 : decode cX10_disturb 96 = .ok (.getfield 13, 3) := by decide +kernel
theorem dX10_disturb_99 : decode cX10_disturb 99 = .ok (.iconst 0, 1) := by decide +kernel
theorem dX10_disturb_100 : decode cX10_disturb 100 = .ok (.iaload, 1) := by decide +kernel
theorem dX10_disturb_101 : decode cX10_disturb 101 = .ok (.irem, 1) := by decide +kernel
theorem dX10_disturb_102 : decode cX10_disturb 102 = .ok (.imul, 1) := by decide +kernel
theorem dX10_disturb_103 : decode cX10_disturb 103 = .ok (.iadd, 1) := by decide +kernel
theorem dX10_disturb_104 : decode cX10_disturb 104 = .ok (.iload 7, 2) := by decide +kernel
theorem dX10_disturb_106 : decode cX10_disturb 106 = .ok (.bipush 64, 2) := by decide +kernel
theorem dX10_disturb_108 : decode cX10_disturb 108 = .ok (.idiv, 1) := by decide +kernel
theorem dX10_disturb_109 : decode cX10_disturb 109 = .ok (.iconst 2, 1) := by decide +kernel
theorem dX10_disturb_110 : decode cX10_disturb 110 = .ok (.irem, 1) := by decide +kernel
theorem dX10_disturb_111 : decode cX10_disturb 111 = .ok (.iadd, 1) := by decide +kernel
theorem dX10_disturb_112 : decode cX10_disturb 112 = .ok (.iload 7, 2) := by decide +kernel
theorem dX10_disturb_114 : decode cX10_disturb 114 = .ok (.sipush 128, 3) := by decide +kernel
theorem dX10_disturb_117 : decode cX10_disturb 117 = .ok (.idiv, 1) := by decide +kernel
theorem dX10_disturb_118 : decode cX10_disturb 118 = .ok (.bipush 101, 2) := by decide +kernel
theorem dX10_disturb_120 : decode cX10_disturb 120 = .ok (.irem, 1) := by decide +kernel
theorem dX10_disturb_121 : decode cX10_disturb 121 = .ok (.iastore, 1) := by decide +kernel
theorem dX10_disturb_122 : decode cX10_disturb 122 = .ok (.aload_n 0, 1) := by decide +kernel
theorem dX10_disturb_123 : decode cX10_disturb 123 = .ok (.aload_n 0, 1) := by decide +kernel
theorem dX10_disturb_124 : decode cX10_disturb 124 = .ok (.getfield 13, 3) := by decide +kernel
theorem dX10_disturb_127 : decode cX10_disturb 127 = .ok (.invokevirtual 130, 3) := by decide +kernel
theorem dX10_disturb_130 : decode cX10_disturb 130 = .ok (.iinc 6 1, 3) := by decide +kernel
theorem dX10_disturb_133 : decode cX10_disturb 133 = .ok (.goto (-90), 3) := by decide +kernel
theorem dX10_disturb_136 : decode cX10_disturb 136 = .ok (.aload_n 0, 1) := by decide +kernel
theorem dX10_disturb_137 : decode cX10_disturb 137 = .ok (.getfield 13, 3) := by decide +kernel
theorem dX10_disturb_140 : decode cX10_disturb 140 = .ok (.bipush 40, 2) := by decide +kernel
theorem dX10_disturb_142 : decode cX10_disturb 142 = .ok (.iaload, 1) := by decide +kernel
theorem dX10_disturb_143 : decode cX10_disturb 143 = .ok (.ireturn, 1) := by decide +kernel
theorem dX10_save_0 : decode cX10_save 0 = .ok (.aload_n 0, 1) := by decide +kernel
theorem dX10_save_1 : decode cX10_save 1 = .ok (.iload_n 1, 1) := by decide +kernel
theorem dX10_save_2 : decode cX10_save 2 = .ok (.invokestatic 112, 3) := by decide +kernel
theorem dX10_save_5 : decode cX10_save 5 = .ok (.ifCond .eq 7, 3) := by decide +kernel
theorem dX10_save_8 : decode cX10_save 8 = .ok (.iconst 0, 1) := by decide +kernel
theorem dX10_save_9 : decode cX10_save 9 = .ok (.goto 4, 3) := by decide +kernel
theorem dX10_save_12 : decode cX10_save 12 = .ok (.iconst 1, 1) := by decide +kernel
theorem dX10_save_13 : decode cX10_save 13 = .ok (.invokevirtual 76, 3) := by decide +kernel
theorem dX10_save_16 : decode cX10_save 16 = .ok (.ifCond .eq 5, 3) := by decide +kernel
theorem dX10_save_19 : decode cX10_save 19 = .ok (.iconst 0, 1) := by decide +kernel
theorem dX10_save_20 : decode cX10_save 20 = .ok (.ireturn, 1) := by decide +kernel
theorem dX10_save_21 : decode cX10_save 21 = .ok (.aload_n 0, 1) := by decide +kernel
theorem dX10_save_22 : decode cX10_save 22 = .ok (.getfield 25, 3) := by decide +kernel
theorem dX10_save_25 : decode cX10_save 25 = .ok (.iload_n 1, 1) := by decide +kernel
theorem dX10_save_26 : decode cX10_save 26 = .ok (.iconst 1, 1) := by decide +kernel
theorem dX10_save_27 : decode cX10_save 27 = .ok (.bastore, 1) := by decide +kernel
theorem dX10_save_28 : decode cX10_save 28 = .ok (.iconst 0, 1) := by decide +kernel
theorem dX10_save_29 : decode cX10_save 29 = .ok (.istore_n 2, 1) := by decide +kernel
theorem dX10_save_30 : decode cX10_save 30 = .ok (.iload_n 2, 1) := by decide +kernel
theorem dX10_save_31 : decode cX10_save 31 = .ok (.bipush 44, 2) := by decide +kernel
theorem dX10_save_33 : decode cX10_save 33 = .ok (.if_icmp .ge 26, 3) := by decide +kernel
theorem dX10_save_36 : decode cX10_save 36 = .ok (.aload_n 0, 1) := by decide +kernel
theorem dX10_save_37 : decode cX10_save 37 = .ok (.getfield 22, 3) := by decide +kernel
theorem dX10_save_40 : decode cX10_save 40 = .ok (.bipush 44, 2) := by decide +kernel
theorem dX10_save_42 : decode cX10_save 42 = .ok (.iload_n 1, 1) := by decide +kernel
theorem dX10_save_43 : decode cX10_save 43 = .ok (.imul, 1) := by decide +kernel
theorem dX10_save_44 : decode cX10_save 44 = .ok (.iload_n 2, 1) := by decide +kernel
theorem dX10_save_45 : decode cX10_save 45 = .ok (.iadd, 1) := by decide +kernel
theorem dX10_save_46 : decode cX10_save 46 = .ok (.aload_n 0, 1) := by decide +kernel
theorem dX10_save_47 : decode cX10_save 47 = .ok (.getfield 7, 3) := by decide +kernel
theorem dX10_save_50 : decode cX10_save 50 = .ok (.iload_n 2, 1) := by decide +kernel
theorem dX10_save_51 : decode cX10_save 51 = .ok (.iaload, 1) := by decide +kernel
theorem dX10_save_52 : decode cX10_save 52 = .ok (.iastore, 1) := by decide +kernel
theorem dX10_save_53 : decode cX10_save 53 = .ok (.iinc 2 1, 3) := by decide +kernel
theorem dX10_save_56 : decode cX10_save 56 = .ok (.goto (-26), 3) := by decide +kernel
theorem dX10_save_59 : decode cX10_save 59 = .ok (.aload_n 0, 1) := by decide +kernel
theorem dX10_save_60 : decode cX10_save 60 = .ok (.getfield 7, 3) := by decide +kernel
theorem dX10_save_63 : decode cX10_save 63 = .ok (.iconst 0, 1) := by decide +kernel
theorem dX10_save_64 : decode cX10_save 64 = .ok (.iaload, 1) := by decide +kernel
theorem dX10_save_65 : decode cX10_save 65 = .ok (.ireturn, 1) := by decide +kernel
theorem dX10_restore_0 : decode cX10_restore 0 = .ok (.aload_n 0, 1) := by decide +kernel
theorem dX10_restore_1 : decode cX10_restore 1 = .ok (.iload_n 1, 1) := by decide +kernel
theorem dX10_restore_2 : decode cX10_restore 2 = .ok (.invokestatic 112, 3) := by decide +kernel
theorem dX10_restore_5 : decode cX10_restore 5 = .ok (.ifCond .ne 7, 3) := by decide +kernel
theorem dX10_restore_8 : decode cX10_restore 8 = .ok (.iconst 1, 1) := by decide +kernel
theorem dX10_restore_9 : decode cX10_restore 9 = .ok (.goto 17, 3) := by decide +kernel
theorem dX10_restore_12 : decode cX10_restore 12 = .ok (.aload_n 0, 1) := by decide +kernel
theorem dX10_restore_13 : decode cX10_restore 13 = .ok (.getfield 25, 3) := by decide +kernel
theorem dX10_restore_16 : decode cX10_restore 16 = .ok (.iload_n 1, 1) := by decide +kernel
theorem dX10_restore_17 : decode cX10_restore 17 = .ok (.baload, 1) := by decide +kernel
theorem dX10_restore_18 : decode cX10_restore 18 = .ok (.ifCond .ne 7, 3) := by decide +kernel
theorem dX10_restore_21 : decode cX10_restore 21 = .ok (.iconst 2, 1) := by decide +kernel
theorem dX10_restore_22 : decode cX10_restore 22 = .ok (.goto 4, 3) := by decide +kernel
theorem dX10_restore_25 : decode cX10_restore 25 = .ok (.iconst 0, 1) := by decide +kernel
theorem dX10_restore_26 : decode cX10_restore 26 = .ok (.invokevirtual 76, 3) := by decide +kernel
theorem dX10_restore_29 : decode cX10_restore 29 = .ok (.ifCond .eq 5, 3) := by decide +kernel
theorem dX10_restore_32 : decode cX10_restore 32 = .ok (.iconst 0, 1) := by decide +kernel
theorem dX10_restore_33 : decode cX10_restore 33 = .ok (.ireturn, 1) := by decide +kernel
theorem dX10_restore_34 : decode cX10_restore 34 = .ok (.iconst 0, 1) := by decide +kernel
theorem dX10_restore_35 : decode cX10_restore 35 = .ok (.istore_n 2, 1) := by decide +kernel
theorem dX10_restore_36 : decode cX10_restore 36 = .ok (.iload_n 2, 1) := by decide +kernel
theorem dX10_restore_37 : decode cX10_restore 37 = .ok (.bipush 44, 2) := by decide +kernel
theorem dX10_restore_39 : decode cX10_restore 39 = .ok (.if_icmp .ge 26, 3) := by decide +kernel
theorem dX10_restore_42 : decode cX10_restore 42 = .ok (.aload_n 0, 1) := by decide +kernel
theorem dX10_restore_43 : decode cX10_restore 43 = .ok (.getfield 7, 3) := by decide +kernel
theorem dX10_restore_46 : decode cX10_restore 46 = .ok (.iload_n 2, 1) := by decide +kernel
theorem dX10_restore_47 : decode cX10_restore 47 = .ok (.aload_n 0, 1) := by decide +kernel
theorem dX10_restore_48 : decode cX10_restore 48 = .ok (.getfield 22, 3) := by decide +kernel
theorem dX10_restore_51 : decode cX10_restore 51 = .ok (.bipush 44, 2) := by decide +kernel
theorem dX10_restore_53 : decode cX10_restore 53 = .ok (.iload_n 1, 1) := by decide +kernel
theorem dX10_restore_54 : decode cX10_restore 54 = .ok (.imul, 1) := by decide +kernel
theorem dX10_restore_55 : decode cX10_restore 55 = .ok (.iload_n 2, 1) := by decide +kernel
theorem dX10_restore_56 : decode cX10_restore 56 = .ok (.iadd, 1) := by decide +kernel
theorem dX10_restore_57 : decode cX10_restore 57 = .ok (.iaload, 1) := by decide +kernel
theorem dX10_restore_58 : decode cX10_restore 58 = .ok (.iastore, 1) := by decide +kernel
theorem dX10_restore_59 : decode cX10_restore 59 = .ok (.iinc 2 1, 3) := by decide +kernel
theorem dX10_restore_62 : decode cX10_restore 62 = .ok (.goto (-26), 3) := by decide +kernel
theorem dX10_restore_65 : decode cX10_restore 65 = .ok (.aload_n 0, 1) := by decide +kernel
theorem dX10_restore_66 : decode cX10_restore 66 = .ok (.iconst 0, 1) := by decide +kernel
theorem dX10_restore_67 : decode cX10_restore 67 = .ok (.putfield 68, 3) := by decide +kernel
theorem dX10_restore_70 : decode cX10_restore 70 = .ok (.aload_n 0, 1) := by decide +kernel
theorem dX10_restore_71 : decode cX10_restore 71 = .ok (.getfield 7, 3) := by decide +kernel
theorem dX10_restore_74 : decode cX10_restore 74 = .ok (.iconst 0, 1) := by decide +kernel
theorem dX10_restore_75 : decode cX10_restore 75 = .ok (.iaload, 1) := by decide +kernel
theorem dX10_restore_76 : decode cX10_restore 76 = .ok (.ireturn, 1) := by decide +kernel
