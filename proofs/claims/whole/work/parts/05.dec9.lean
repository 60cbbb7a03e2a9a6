theorem dX9_init_0 : decode cX9_init 0 = .ok (.aload_n 0, 1) := by decide +kernel
theorem dX9_init_1 : decode cX9_init 1 = .ok (.invokespecial 1, 3) := by decide +kernel
theorem dX9_init_4 : decode cX9_init 4 = .ok (.aload_n 0, 1) := by decide +kernel
theorem dX9_init_5 : decode cX9_init 5 = .ok (.new 7, 3) := by decide +kernel
theorem dX9_init_8 : decode cX9_init 8 = .ok (.dup, 1) := by decide +kernel
theorem dX9_init_9 : decode cX9_init 9 = .ok (.invokespecial 9, 3) := by decide +kernel
theorem dX9_init_12 : decode cX9_init 12 = .ok (.putfield 10, 3) := by decide +kernel
theorem dX9_init_15 : decode cX9_init 15 = .ok (.aload_n 0, 1) := by decide +kernel
theorem dX9_init_16 : decode cX9_init 16 = .ok (.new 16, 3) := by decide +kernel
theorem dX9_init_19 : decode cX9_init 19 = .ok (.dup, 1) := by decide +kernel
theorem dX9_init_20 : decode cX9_init 20 = .ok (.invokespecial 18, 3) := by decide +kernel
theorem dX9_init_23 : decode cX9_init 23 = .ok (.putfield 19, 3) := by decide +kernel
theorem dX9_init_26 : decode cX9_init 26 = .ok (.aload_n 0, 1) := by decide +kernel
theorem dX9_init_27 : decode cX9_init 27 = .ok (.new 16, 3) := by decide +kernel
theorem dX9_init_30 : decode cX9_init 30 = .ok (.dup, 1) := by decide +kernel
theorem dX9_init_31 : decode cX9_init 31 = .ok (.invokespecial 18, 3) := by decide +kernel
theorem dX9_init_34 : decode cX9_init 34 = .ok (.putfield 23, 3) := by decide +kernel
theorem dX9_init_37 : decode cX9_init 37 = .ok (.aload_n 0, 1) := by decide +kernel
theorem dX9_init_38 : decode cX9_init 38 = .ok (.new 26, 3) := by decide +kernel
theorem dX9_init_41 : decode cX9_init 41 = .ok (.dup, 1) := by decide +kernel
theorem dX9_init_42 : decode cX9_init 42 = .ok (.invokespecial 28, 3) := by decide +kernel
theorem dX9_init_45 : decode cX9_init 45 = .ok (.putfield 29, 3) := by decide +kernel
theorem dX9_init_48 : decode cX9_init 48 = .ok (.aload_n 0, 1) := by decide +kernel
theorem dX9_init_49 : decode cX9_init 49 = .ok (.new 33, 3) := by decide +kernel
theorem dX9_init_52 : decode cX9_init 52 = .ok (.dup, 1) := by decide +kernel
theorem dX9_init_53 : decode cX9_init 53 = .ok (.iconst 2, 1) := by decide +kernel
theorem dX9_init_54 : decode cX9_init 54 = .ok (.invokespecial 35, 3) := by decide +kernel
theorem dX9_init_57 : decode cX9_init 57 = .ok (.putfield 38, 3) := by decide +kernel
theorem dX9_init_60 : decode cX9_init 60 = .ok (.aload_n 0, 1) := by decide +kernel
theorem dX9_init_61 : decode cX9_init 61 = .ok (.iconst 2, 1) := by decide +kernel
theorem dX9_init_62 : decode cX9_init 62 = .ok (.newarray .boolean, 2) := by decide +kernel
theorem dX9_init_64 : decode cX9_init 64 = .ok (.putfield 42, 3) := by decide +kernel
theorem dX9_init_67 : decode cX9_init 67 = .ok (.aload_n 0, 1) := by decide +kernel
theorem dX9_init_68 : decode cX9_init 68 = .ok (.new 46, 3) := by decide +kernel
theorem dX9_init_71 : decode cX9_init 71 = .ok (.dup, 1) := by decide +kernel
theorem dX9_init_72 : decode cX9_init 72 = .ok (.invokespecial 48, 3) := by decide +kernel
theorem dX9_init_75 : decode cX9_init 75 = .ok (.putfield 49, 3) := by decide +kernel
theorem dX9_init_78 : decode cX9_init 78 = .ok (.aload_n 0, 1) := by decide +kernel
theorem dX9_init_79 : decode cX9_init 79 = .ok (.new 53, 3) := by decide +kernel
theorem dX9_init_82 : decode cX9_init 82 = .ok (.dup, 1) := by decide +kernel
theorem dX9_init_83 : decode cX9_init 83 = .ok (.invokespecial 55, 3) := by decide +kernel
theorem dX9_init_86 : decode cX9_init 86 = .ok (.putfield 56, 3) := by decide +kernel
theorem dX9_init_89 : decode cX9_init 89 = .ok (.aload_n 0, 1) := by decide +kernel
theorem dX9_init_90 : decode cX9_init 90 = .ok (.new 60, 3) := by decide +kernel
theorem dX9_init_93 : decode cX9_init 93 = .ok (.dup, 1) := by decide +kernel
theorem dX9_init_94 : decode cX9_init 94 = .ok (.invokespecial 62, 3) := by decide +kernel
theorem dX9_init_97 : decode cX9_init 97 = .ok (.putfield 63, 3) := by decide +kernel
theorem dX9_init_100 : decode cX9_init 100 = .ok (.aload_n 0, 1) := by decide +kernel
theorem dX9_init_101 : decode cX9_init 101 = .ok (.new 67, 3) := by decide +kernel
theorem dX9_init_104 : decode cX9_init 104 = .ok (.dup, 1) := by decide +kernel
theorem dX9_init_105 : decode cX9_init 105 = .ok (.invokespecial 69, 3) := by decide +kernel
theorem dX9_init_108 : decode cX9_init 108 = .ok (.putfield 70, 3) := by decide +kernel
theorem dX9_init_111 : decode cX9_init 111 = .ok (.aload_n 0, 1) := by decide +kernel
theorem dX9_init_112 : decode cX9_init 112 = .ok (.new 74, 3) := by decide +kernel
theorem dX9_init_115 : decode cX9_init 115 = .ok (.dup, 1) := by decide +kernel
theorem dX9_init_116 : decode cX9_init 116 = .ok (.invokespecial 76, 3) := by decide +kernel
theorem dX9_init_119 : decode cX9_init 119 = .ok (.putfield 77, 3) := by decide +kernel
theorem dX9_init_122 : decode cX9_init 122 = .ok (.aload_n 0, 1) := by decide +kernel
theorem dX9_init_123 : decode cX9_init 123 = .ok (.new 74, 3) := by decide +kernel
theorem dX9_init_126 : decode cX9_init 126 = .ok (.dup, 1) := by decide +kernel
theorem dX9_init_127 : decode cX9_init 127 = .ok (.invokespecial 76, 3) := by decide +kernel
theorem dX9_init_130 : decode cX9_init 130 = .ok (.putfield 81, 3) := by decide +kernel
theorem dX9_init_133 : decode cX9_init 133 = .ok (.aload_n 0, 1) := by decide +kernel
theorem dX9_init_134 : decode cX9_init 134 = .ok (.new 74, 3) := by decide +kernel
theorem dX9_init_137 : decode cX9_init 137 = .ok (.dup, 1) := by decide +kernel
theorem dX9_init_138 : decode cX9_init 138 = .ok (.invokespecial 76, 3) := by decide +kernel
theorem dX9_init_141 : decode cX9_init 141 = .ok (.putfield 84, 3) := by decide +kernel
theorem dX9_init_144 : decode cX9_init 144 = .ok (.return_, 1) := by decide +kernel
theorem dX9_append_0 : decode cX9_append 0 = .ok (.iload_n 1, 1) := by decide +kernel
theorem dX9_append_1 : decode cX9_append 1 = .ok (.iconst 0, 1) := by decide +kernel
theorem dX9_append_2 : decode cX9_append 2 = .ok (.sipush 255, 3) := by decide +kernel
theorem dX9_append_5 : decode cX9_append 5 = .ok (.invokestatic 87, 3) := by decide +kernel
theorem dX9_append_8 : decode cX9_append 8 = .ok (.aload_n 0, 1) := by decide +kernel
theorem dX9_append_9 : decode cX9_append 9 = .ok (.getfield 10, 3) := by decide +kernel
theorem dX9_append_12 : decode cX9_append 12 = .ok (.invokevirtual 91, 3) := by decide +kernel
theorem dX9_append_15 : decode cX9_append 15 = .ok (.ifCond .eq 13, 3) := by decide +kernel
theorem dX9_append_18 : decode cX9_append 18 = .ok (.new 95, 3) := by decide +kernel
theorem dX9_append_21 : decode cX9_append 21 = .ok (.dup, 1) := by decide +kernel
theorem dX9_append_22 : decode cX9_append 22 = .ok (.ldc 97, 2) := by decide +kernel
theorem dX9_append_24 : decode cX9_append 24 = .ok (.invokespecial 99, 3) := by decide +kernel
theorem dX9_append_27 : decode cX9_append 27 = .ok (.athrow, 1) := by decide +kernel
theorem dX9_append_28 : decode cX9_append 28 = .ok (.aload_n 0, 1) := by decide +kernel
theorem dX9_append_29 : decode cX9_append 29 = .ok (.getfield 10, 3) := by decide +kernel
theorem dX9_append_32 : decode cX9_append 32 = .ok (.iload_n 1, 1) := by decide +kernel
theorem dX9_append_33 : decode cX9_append 33 = .ok (.i2c, 1) := by decide +kernel
theorem dX9_append_34 : decode cX9_append 34 = .ok (.invokevirtual 102, 3) := by decide +kernel
theorem dX9_append_37 : decode cX9_append 37 = .ok (.ireturn, 1) := by decide +kernel
theorem dX9_clearText_0 : decode cX9_clearText 0 = .ok (.aload_n 0, 1) := by decide +kernel
theorem dX9_clearText_1 : decode cX9_clearText 1 = .ok (.getfield 10, 3) := by decide +kernel
theorem dX9_clearText_4 : decode cX9_clearText 4 = .ok (.invokevirtual 106, 3) := by decide +kernel
theorem dX9_clearText_7 : decode cX9_clearText 7 = .ok (.ireturn, 1) := by decide +kernel
theorem dX9_errorPosition_0 : decode cX9_errorPosition 0 = .ok (.aload_n 0, 1) := by decide +kernel
theorem dX9_errorPosition_1 : decode cX9_errorPosition 1 = .ok (.getfield 10, 3) := by decide +kernel
theorem dX9_errorPosition_4 : decode cX9_errorPosition 4 = .ok (.invokevirtual 110, 3) := by decide +kernel
theorem dX9_errorPosition_7 : decode cX9_errorPosition 7 = .ok (.ireturn, 1) := by decide +kernel
theorem dX9_load_0 : decode cX9_load 0 = .ok (.aload_n 0, 1) := by decide +kernel
theorem dX9_load_1 : decode cX9_load 1 = .ok (.getfield 10, 3) := by decide +kernel
theorem dX9_load_4 : decode cX9_load 4 = .ok (.invokevirtual 110, 3) := by decide +kernel
theorem dX9_load_7 : decode cX9_load 7 = .ok (.bipush (-9), 2) := by decide +kernel
theorem dX9_load_9 : decode cX9_load 9 = .ok (.if_icmp .eq 13, 3) := by decide +kernel
theorem dX9_load_12 : decode cX9_load 12 = .ok (.new 95, 3) := by decide +kernel
theorem dX9_load_15 : decode cX9_load 15 = .ok (.dup, 1) := by decide +kernel
theorem dX9_load_16 : decode cX9_load 16 = .ok (.ldc 113, 2) := by decide +kernel
theorem dX9_load_18 : decode cX9_load 18 = .ok (.invokespecial 99, 3) := by decide +kernel
theorem dX9_load_21 : decode cX9_load 21 = .ok (.athrow, 1) := by decide +kernel
theorem dX9_load_22 : decode cX9_load 22 = .ok (.aload_n 0, 1) := by decide +kernel
theorem dX9_load_23 : decode cX9_load 23 = .ok (.getfield 10, 3) := by decide +kernel
theorem dX9_load_26 : decode cX9_load 26 = .ok (.aload_n 0, 1) := by decide +kernel
theorem dX9_load_27 : decode cX9_load 27 = .ok (.getfield 19, 3) := by decide +kernel
theorem dX9_load_30 : decode cX9_load 30 = .ok (.invokevirtual 115, 3) := by decide +kernel
theorem dX9_load_33 : decode cX9_load 33 = .ok (.aload_n 0, 1) := by decide +kernel
theorem dX9_load_34 : decode cX9_load 34 = .ok (.getfield 29, 3) := by decide +kernel
theorem dX9_load_37 : decode cX9_load 37 = .ok (.invokevirtual 119, 3) := by decide +kernel
theorem dX9_load_40 : decode cX9_load 40 = .ok (.iconst 0, 1) := by decide +kernel
theorem dX9_load_41 : decode cX9_load 41 = .ok (.istore_n 1, 1) := by decide +kernel
theorem dX9_load_42 : decode cX9_load 42 = .ok (.iload_n 1, 1) := by decide +kernel
theorem dX9_load_43 : decode cX9_load 43 = .ok (.iconst 2, 1) := by decide +kernel
theorem dX9_load_44 : decode cX9_load 44 = .ok (.if_icmp .ge 16, 3) := by decide +kernel
theorem dX9_load_47 : decode cX9_load 47 = .ok (.aload_n 0, 1) := by decide +kernel
theorem dX9_load_48 : decode cX9_load 48 = .ok (.getfield 42, 3) := by decide +kernel
theorem dX9_load_51 : decode cX9_load 51 = .ok (.iload_n 1, 1) := by decide +kernel
theorem dX9_load_52 : decode cX9_load 52 = .ok (.iconst 0, 1) := by decide +kernel
theorem dX9_load_53 : decode cX9_load 53 = .ok (.bastore, 1) := by decide +kernel
theorem dX9_load_54 : decode cX9_load 54 = .ok (.iinc 1 1, 3) := by decide +kernel
theorem dX9_load_57 : decode cX9_load 57 = .ok (.goto (-15), 3) := by decide +kernel
theorem dX9_load_60 : decode cX9_load 60 = .ok (.aload_n 0, 1) := by decide +kernel
theorem dX9_load_61 : decode cX9_load 61 = .ok (.getfield 19, 3) := by decide +kernel
theorem dX9_load_64 : decode cX9_load 64 = .ok (.invokevirtual 122, 3) := by decide +kernel
theorem dX9_load_67 : decode cX9_load 67 = .ok (.ireturn, 1) := by decide +kernel
theorem dX9_cellCount_0 : decode cX9_cellCount 0 = .ok (.aload_n 0, 1) := by decide +kernel
theorem dX9_cellCount_1 : decode cX9_cellCount 1 = .ok (.getfield 19, 3) := by decide +kernel
theorem dX9_cellCount_4 : decode cX9_cellCount 4 = .ok (.invokevirtual 122, 3) := by decide +kernel
theorem dX9_cellCount_7 : decode cX9_cellCount 7 = .ok (.ireturn, 1) := by decide +kernel
theorem dX9_recovery_0 : decode cX9_recovery 0 = .ok (.aload_n 0, 1) := by decide +kernel
theorem dX9_recovery_1 : decode cX9_recovery 1 = .ok (.iload_n 1, 1) := by decide +kernel
theorem dX9_recovery_2 : decode cX9_recovery 2 = .ok (.invokevirtual 125, 3) := by decide +kernel
theorem dX9_recovery_5 : decode cX9_recovery 5 = .ok (.iload_n 2, 1) := by decide +kernel
theorem dX9_recovery_6 : decode cX9_recovery 6 = .ok (.invokestatic 128, 3) := by decide +kernel
theorem dX9_recovery_9 : decode cX9_recovery 9 = .ok (.aload_n 0, 1) := by decide +kernel
theorem dX9_recovery_10 : decode cX9_recovery 10 = .ok (.getfield 19, 3) := by decide +kernel
theorem dX9_recovery_13 : decode cX9_recovery 13 = .ok (.iload_n 1, 1) := by decide +kernel
theorem dX9_recovery_14 : decode cX9_recovery 14 = .ok (.iload_n 2, 1) := by decide +kernel
theorem dX9_recovery_15 : decode cX9_recovery 15 = .ok (.invokevirtual 131, 3) := by decide +kernel
theorem dX9_recovery_18 : decode cX9_recovery 18 = .ok (.ireturn, 1) := by decide +kernel
theorem dX9_destination_0 : decode cX9_destination 0 = .ok (.aload_n 0, 1) := by decide +kernel
theorem dX9_destination_1 : decode cX9_destination 1 = .ok (.iload_n 1, 1) := by decide +kernel
theorem dX9_destination_2 : decode cX9_destination 2 = .ok (.invokevirtual 125, 3) := by decide +kernel
theorem dX9_destination_5 : decode cX9_destination 5 = .ok (.iload_n 2, 1) := by decide +kernel
theorem dX9_destination_6 : decode cX9_destination 6 = .ok (.invokestatic 128, 3) := by decide +kernel
theorem dX9_destination_9 : decode cX9_destination 9 = .ok (.aload_n 0, 1) := by decide +kernel
theorem dX9_destination_10 : decode cX9_destination 10 = .ok (.getfield 19, 3) := by decide +kernel
theorem dX9_destination_13 : decode cX9_destination 13 = .ok (.iload_n 1, 1) := by decide +kernel
theorem dX9_destination_14 : decode cX9_destination 14 = .ok (.iload_n 2, 1) := by decide +kernel
theorem dX9_destination_15 : decode cX9_destination 15 = .ok (.invokevirtual 135, 3) := by decide +kernel
theorem dX9_destination_18 : decode cX9_destination 18 = .ok (.ireturn, 1) := by decide +kernel
theorem dX9_feedCell_0 : decode cX9_feedCell 0 = .ok (.aload_n 0, 1) := by decide +kernel
theorem dX9_feedCell_1 : decode cX9_feedCell 1 = .ok (.getfield 19, 3) := by decide +kernel
theorem dX9_feedCell_4 : decode cX9_feedCell 4 = .ok (.invokevirtual 138, 3) := by decide +kernel
theorem dX9_feedCell_7 : decode cX9_feedCell 7 = .ok (.ireturn, 1) := by decide +kernel
theorem dX9_feedAmount_0 : decode cX9_feedAmount 0 = .ok (.iload_n 1, 1) := by decide +kernel
theorem dX9_feedAmount_1 : decode cX9_feedAmount 1 = .ok (.invokestatic 128, 3) := by decide +kernel
theorem dX9_feedAmount_4 : decode cX9_feedAmount 4 = .ok (.aload_n 0, 1) := by decide +kernel
theorem dX9_feedAmount_5 : decode cX9_feedAmount 5 = .ok (.getfield 19, 3) := by decide +kernel
theorem dX9_feedAmount_8 : decode cX9_feedAmount 8 = .ok (.iload_n 1, 1) := by decide +kernel
theorem dX9_feedAmount_9 : decode cX9_feedAmount 9 = .ok (.invokevirtual 141, 3) := by decide +kernel
theorem dX9_feedAmount_12 : decode cX9_feedAmount 12 = .ok (.ireturn, 1) := by decide +kernel
theorem dX9_addCell_0 : decode cX9_addCell 0 = .ok (.iload_n 1, 1) := by decide +kernel
theorem dX9_addCell_1 : decode cX9_addCell 1 = .ok (.iconst 0, 1) := by decide +kernel
theorem dX9_addCell_2 : decode cX9_addCell 2 = .ok (.bipush 100, 2) := by decide +kernel
theorem dX9_addCell_4 : decode cX9_addCell 4 = .ok (.invokestatic 87, 3) := by decide +kernel
theorem dX9_addCell_7 : decode cX9_addCell 7 = .ok (.iload_n 2, 1) := by decide +kernel
theorem dX9_addCell_8 : decode cX9_addCell 8 = .ok (.iconst 0, 1) := by decide +kernel
theorem dX9_addCell_9 : decode cX9_addCell 9 = .ok (.bipush 100, 2) := by decide +kernel
theorem dX9_addCell_11 : decode cX9_addCell 11 = .ok (.invokestatic 87, 3) := by decide +kernel
theorem dX9_addCell_14 : decode cX9_addCell 14 = .ok (.iload_n 3, 1) := by decide +kernel
theorem dX9_addCell_15 : decode cX9_addCell 15 = .ok (.invokestatic 145, 3) := by decide +kernel
theorem dX9_addCell_18 : decode cX9_addCell 18 = .ok (.iload 4, 2) := by decide +kernel
theorem dX9_addCell_20 : decode cX9_addCell 20 = .ok (.invokestatic 145, 3) := by decide +kernel
theorem dX9_addCell_23 : decode cX9_addCell 23 = .ok (.aload_n 0, 1) := by decide +kernel
theorem dX9_addCell_24 : decode cX9_addCell 24 = .ok (.getfield 19, 3) := by decide +kernel
theorem dX9_addCell_27 : decode cX9_addCell 27 = .ok (.invokevirtual 122, 3) := by decide +kernel
theorem dX9_addCell_30 : decode cX9_addCell 30 = .ok (.bipush 6, 2) := by decide +kernel
theorem dX9_addCell_32 : decode cX9_addCell 32 = .ok (.if_icmp .lt 13, 3) := by decide +kernel
theorem dX9_addCell_35 : decode cX9_addCell 35 = .ok (.new 95, 3) := by decide +kernel
theorem dX9_addCell_38 : decode cX9_addCell 38 = .ok (.dup, 1) := by decide +kernel
theorem dX9_addCell_39 : decode cX9_addCell 39 = .ok (.ldc 148, 2) := by decide +kernel
theorem dX9_addCell_41 : decode cX9_addCell 41 = .ok (.invokespecial 99, 3) := by decide +kernel
theorem dX9_addCell_44 : decode cX9_addCell 44 = .ok (.athrow, 1) := by decide +kernel
theorem dX9_addCell_45 : decode cX9_addCell 45 = .ok (.aload_n 0, 1) := by decide +kernel
theorem dX9_addCell_46 : decode cX9_addCell 46 = .ok (.getfield 29, 3) := by decide +kernel
theorem dX9_addCell_49 : decode cX9_addCell 49 = .ok (.aload_n 0, 1) := by decide +kernel
theorem dX9_addCell_50 : decode cX9_addCell 50 = .ok (.getfield 19, 3) := by decide +kernel
theorem dX9_addCell_53 : decode cX9_addCell 53 = .ok (.invokevirtual 150, 3) := by decide +kernel
theorem dX9_addCell_56 : decode cX9_addCell 56 = .ok (.aload_n 0, 1) := by decide +kernel
theorem dX9_addCell_57 : decode cX9_addCell 57 = .ok (.getfield 19, 3) := by decide +kernel
theorem dX9_addCell_60 : decode cX9_addCell 60 = .ok (.iload_n 1, 1) := by decide +kernel
theorem dX9_addCell_61 : decode cX9_addCell 61 = .ok (.iload_n 2, 1) := by decide +kernel
theorem dX9_addCell_62 : decode cX9_addCell 62 = .ok (.iload_n 3, 1) := by decide +kernel
theorem dX9_addCell_63 : decode cX9_addCell 63 = .ok (.iload 4, 2) := by decide +kernel
theorem dX9_addCell_65 : decode cX9_addCell 65 = .ok (.invokevirtual 153, 3) := by decide +kernel
theorem dX9_addCell_68 : decode cX9_addCell 68 = .ok (.aload_n 0, 1) := by decide +kernel
theorem dX9_addCell_69 : decode cX9_addCell 69 = .ok (.getfield 19, 3) := by decide +kernel
theorem dX9_addCell_72 : decode cX9_addCell 72 = .ok (.invokevirtual 122, 3) := by decide +kernel
theorem dX9_addCell_75 : decode cX9_addCell 75 = .ok (.iconst 1, 1) := by decide +kernel
theorem dX9_addCell_76 : decode cX9_addCell 76 = .ok (.isub, 1) := by decide +kernel
theorem dX9_addCell_77 : decode cX9_addCell 77 = .ok (.ireturn, 1) := by decide +kernel
theorem dX9_removeLastCell_0 : decode cX9_removeLastCell 0 = .ok (.aload_n 0, 1) := by decide +kernel
theorem dX9_removeLastCell_1 : decode cX9_removeLastCell 1 = .ok (.getfield 19, 3) := by decide +kernel
theorem dX9_removeLastCell_4 : decode cX9_removeLastCell 4 = .ok (.invokevirtual 122, 3) := by decide +kernel
theorem dX9_removeLastCell_7 : decode cX9_removeLastCell 7 = .ok (.ifCond .gt 13, 3) := by decide +kernel
theorem dX9_removeLastCell_10 : decode cX9_removeLastCell 10 = .ok (.new 95, 3) := by decide +kernel
theorem dX9_removeLastCell_13 : decode cX9_removeLastCell 13 = .ok (.dup, 1) := by decide +kernel
theorem dX9_removeLastCell_14 : decode cX9_removeLastCell 14 = .ok (.ldc 157, 2) := by decide +kernel
theorem dX9_removeLastCell_16 : decode cX9_removeLastCell 16 = .ok (.invokespecial 99, 3) := by decide +kernel
theorem dX9_removeLastCell_19 : decode cX9_removeLastCell 19 = .ok (.athrow, 1) := by decide +kernel
theorem dX9_removeLastCell_20 : decode cX9_removeLastCell 20 = .ok (.aload_n 0, 1) := by decide +kernel
theorem dX9_removeLastCell_21 : decode cX9_removeLastCell 21 = .ok (.getfield 29, 3) := by decide +kernel
theorem dX9_removeLastCell_24 : decode cX9_removeLastCell 24 = .ok (.aload_n 0, 1) := by decide +kernel
theorem dX9_removeLastCell_25 : decode cX9_removeLastCell 25 = .ok (.getfield 19, 3) := by decide +kernel
theorem dX9_removeLastCell_28 : decode cX9_removeLastCell 28 = .ok (.invokevirtual 150, 3) := by decide +kernel
theorem dX9_removeLastCell_31 : decode cX9_removeLastCell 31 = .ok (.aload_n 0, 1) := by decide +kernel
theorem dX9_removeLastCell_32 : decode cX9_removeLastCell 32 = .ok (.getfield 19, 3) := by decide +kernel
theorem dX9_removeLastCell_35 : decode cX9_removeLastCell 35 = .ok (.invokevirtual 159, 3) := by decide +kernel
theorem dX9_removeLastCell_38 : decode cX9_removeLastCell 38 = .ok (.aload_n 0, 1) := by decide +kernel
theorem dX9_removeLastCell_39 : decode cX9_removeLastCell 39 = .ok (.getfield 19, 3) := by decide +kernel
theorem dX9_removeLastCell_42 : decode cX9_removeLastCell 42 = .ok (.invokevirtual 122, 3) := by decide +kernel
theorem dX9_removeLastCell_45 : decode cX9_removeLastCell 45 = .ok (.ireturn, 1) := by decide +kernel
theorem dX9_setRecovery_0 : decode cX9_setRecovery 0 = .ok (.aload_n 0, 1) := by decide +kernel
theorem dX9_setRecovery_1 : decode cX9_setRecovery 1 = .ok (.iload_n 1, 1) := by decide +kernel
theorem dX9_setRecovery_2 : decode cX9_setRecovery 2 = .ok (.invokevirtual 125, 3) := by decide +kernel
theorem dX9_setRecovery_5 : decode cX9_setRecovery 5 = .ok (.iload_n 2, 1) := by decide +kernel
theorem dX9_setRecovery_6 : decode cX9_setRecovery 6 = .ok (.invokestatic 128, 3) := by decide +kernel
theorem dX9_setRecovery_9 : decode cX9_setRecovery 9 = .ok (.iload_n 3, 1) := by decide +kernel
theorem dX9_setRecovery_10 : decode cX9_setRecovery 10 = .ok (.iconst 0, 1) := by decide +kernel
theorem dX9_setRecovery_11 : decode cX9_setRecovery 11 = .ok (.bipush 100, 2) := by decide +kernel
theorem dX9_setRecovery_13 : decode cX9_setRecovery 13 = .ok (.invokestatic 87, 3) := by decide +kernel
theorem dX9_setRecovery_16 : decode cX9_setRecovery 16 = .ok (.aload_n 0, 1) := by decide +kernel
theorem dX9_setRecovery_17 : decode cX9_setRecovery 17 = .ok (.getfield 29, 3) := by decide +kernel
theorem dX9_setRecovery_20 : decode cX9_setRecovery 20 = .ok (.aload_n 0, 1) := by decide +kernel
theorem dX9_setRecovery_21 : decode cX9_setRecovery 21 = .ok (.getfield 19, 3) := by decide +kernel
theorem dX9_setRecovery_24 : decode cX9_setRecovery 24 = .ok (.invokevirtual 150, 3) := by decide +kernel
theorem dX9_setRecovery_27 : decode cX9_setRecovery 27 = .ok (.aload_n 0, 1) := by decide +kernel
theorem dX9_setRecovery_28 : decode cX9_setRecovery 28 = .ok (.getfield 19, 3) := by decide +kernel
theorem dX9_setRecovery_31 : decode cX9_setRecovery 31 = .ok (.iload_n 1, 1) := by decide +kernel
theorem dX9_setRecovery_32 : decode cX9_setRecovery 32 = .ok (.iload_n 2, 1) := by decide +kernel
theorem dX9_setRecovery_33 : decode cX9_setRecovery 33 = .ok (.invokevirtual 131, 3) := by decide +kernel
theorem dX9_setRecovery_36 : decode cX9_setRecovery 36 = .ok (.istore 4, 2) := by decide +kernel
theorem dX9_setRecovery_38 : decode cX9_setRecovery 38 = .ok (.aload_n 0, 1) := by decide +kernel
theorem dX9_setRecovery_39 : decode cX9_setRecovery 39 = .ok (.getfield 19, 3) := by decide +kernel
theorem dX9_setRecovery_42 : decode cX9_setRecovery 42 = .ok (.iload_n 1, 1) := by decide +kernel
theorem dX9_setRecovery_43 : decode cX9_setRecovery 43 = .ok (.iload_n 2, 1) := by decide +kernel
theorem dX9_setRecovery_44 : decode cX9_setRecovery 44 = .ok (.iload_n 3, 1) := by decide +kernel
theorem dX9_setRecovery_45 : decode cX9_setRecovery 45 = .ok (.invokevirtual 162, 3) := by decide +kernel
theorem dX9_setRecovery_48 : decode cX9_setRecovery 48 = .ok (.iload 4, 2) := by decide +kernel
theorem dX9_setRecovery_50 : decode cX9_setRecovery 50 = .ok (.ireturn, 1) := by decide +kernel
theorem dX9_setDestination_0 : decode cX9_setDestination 0 = .ok (.aload_n 0, 1) := by decide +kernel
theorem dX9_setDestination_1 : decode cX9_setDestination 1 = .ok (.iload_n 1, 1) := by decide +kernel
theorem dX9_setDestination_2 : decode cX9_setDestination 2 = .ok (.invokevirtual 125, 3) := by decide +kernel
theorem dX9_setDestination_5 : decode cX9_setDestination 5 = .ok (.iload_n 2, 1) := by decide +kernel
theorem dX9_setDestination_6 : decode cX9_setDestination 6 = .ok (.invokestatic 128, 3) := by decide +kernel
theorem dX9_setDestination_9 : decode cX9_setDestination 9 = .ok (.iload_n 3, 1) := by decide +kernel
theorem dX9_setDestination_10 : decode cX9_setDestination 10 = .ok (.invokestatic 145, 3) := by decide +kernel
theorem dX9_setDestination_13 : decode cX9_setDestination 13 = .ok (.aload_n 0, 1) := by decide +kernel
theorem dX9_setDestination_14 : decode cX9_setDestination 14 = .ok (.getfield 29, 3) := by decide +kernel
theorem dX9_setDestination_17 : decode cX9_setDestination 17 = .ok (.aload_n 0, 1) := by decide +kernel
theorem dX9_setDestination_18 : decode cX9_setDestination 18 = .ok (.getfield 19, 3) := by decide +kernel
theorem dX9_setDestination_21 : decode cX9_setDestination 21 = .ok (.invokevirtual 150, 3) := by decide +kernel
theorem dX9_setDestination_24 : decode cX9_setDestination 24 = .ok (.aload_n 0, 1) := by decide +kernel
theorem dX9_setDestination_25 : decode cX9_setDestination 25 = .ok (.getfield 19, 3) := by decide +kernel
theorem dX9_setDestination_28 : decode cX9_setDestination 28 = .ok (.iload_n 1, 1) := by decide +kernel
theorem dX9_setDestination_29 : decode cX9_setDestination 29 = .ok (.iload_n 2, 1) := by decide +kernel
theorem dX9_setDestination_30 : decode cX9_setDestination 30 = .ok (.invokevirtual 135, 3) := by decide +kernel
theorem dX9_setDestination_33 : decode cX9_setDestination 33 = .ok (.istore 4, 2) := by decide +kernel
theorem dX9_setDestination_35 : decode cX9_setDestination 35 = .ok (.aload_n 0, 1) := by decide +kernel
theorem dX9_setDestination_36 : decode cX9_setDestination 36 = .ok (.getfield 19, 3) := by decide +kernel
theorem dX9_setDestination_39 : decode cX9_setDestination 39 = .ok (.iload_n 1, 1) := by decide +kernel
theorem dX9_setDestination_40 : decode cX9_setDestination 40 = .ok (.iload_n 2, 1) := by decide +kernel
theorem dX9_setDestination_41 : decode cX9_setDestination 41 = .ok (.iload_n 3, 1) := by decide +kernel
theorem dX9_setDestination_42 : decode cX9_setDestination 42 = .ok (.invokevirtual 165, 3) := by decide +kernel
theorem dX9_setDestination_45 : decode cX9_setDestination 45 = .ok (.iload 4, 2) := by decide +kernel
theorem dX9_setDestination_47 : decode cX9_setDestination 47 = .ok (.ireturn, 1) := by decide +kernel
theorem dX9_setFeed_0 : decode cX9_setFeed 0 = .ok (.iload_n 1, 1) := by decide +kernel
theorem dX9_setFeed_1 : decode cX9_setFeed 1 = .ok (.iconst 0, 1) := by decide +kernel
theorem dX9_setFeed_2 : decode cX9_setFeed 2 = .ok (.iconst 5, 1) := by decide +kernel
theorem dX9_setFeed_3 : decode cX9_setFeed 3 = .ok (.invokestatic 87, 3) := by decide +kernel
theorem dX9_setFeed_6 : decode cX9_setFeed 6 = .ok (.iload_n 2, 1) := by decide +kernel
theorem dX9_setFeed_7 : decode cX9_setFeed 7 = .ok (.iconst 0, 1) := by decide +kernel
theorem dX9_setFeed_8 : decode cX9_setFeed 8 = .ok (.sipush 999, 3) := by decide +kernel
theorem dX9_setFeed_11 : decode cX9_setFeed 11 = .ok (.invokestatic 87, 3) := by decide +kernel
theorem dX9_setFeed_14 : decode cX9_setFeed 14 = .ok (.iload_n 3, 1) := by decide +kernel
theorem dX9_setFeed_15 : decode cX9_setFeed 15 = .ok (.iconst 0, 1) := by decide +kernel
theorem dX9_setFeed_16 : decode cX9_setFeed 16 = .ok (.sipush 999, 3) := by decide +kernel
theorem dX9_setFeed_19 : decode cX9_setFeed 19 = .ok (.invokestatic 87, 3) := by decide +kernel
theorem dX9_setFeed_22 : decode cX9_setFeed 22 = .ok (.aload_n 0, 1) := by decide +kernel
theorem dX9_setFeed_23 : decode cX9_setFeed 23 = .ok (.getfield 29, 3) := by decide +kernel
theorem dX9_setFeed_26 : decode cX9_setFeed 26 = .ok (.aload_n 0, 1) := by decide +kernel
theorem dX9_setFeed_27 : decode cX9_setFeed 27 = .ok (.getfield 19, 3) := by decide +kernel
theorem dX9_setFeed_30 : decode cX9_setFeed 30 = .ok (.invokevirtual 150, 3) := by decide +kernel
theorem dX9_setFeed_33 : decode cX9_setFeed 33 = .ok (.aload_n 0, 1) := by decide +kernel
theorem dX9_setFeed_34 : decode cX9_setFeed 34 = .ok (.getfield 19, 3) := by decide +kernel
theorem dX9_setFeed_37 : decode cX9_setFeed 37 = .ok (.invokevirtual 138, 3) := by decide +kernel
theorem dX9_setFeed_40 : decode cX9_setFeed 40 = .ok (.istore 4, 2) := by decide +kernel
theorem dX9_setFeed_42 : decode cX9_setFeed 42 = .ok (.aload_n 0, 1) := by decide +kernel
theorem dX9_setFeed_43 : decode cX9_setFeed 43 = .ok (.getfield 19, 3) := by decide +kernel
theorem dX9_setFeed_46 : decode cX9_setFeed 46 = .ok (.iload_n 1, 1) := by decide +kernel
theorem dX9_setFeed_47 : decode cX9_setFeed 47 = .ok (.iload_n 2, 1) := by decide +kernel
theorem dX9_setFeed_48 : decode cX9_setFeed 48 = .ok (.iload_n 3, 1) := by decide +kernel
theorem dX9_setFeed_49 : decode cX9_setFeed 49 = .ok (.invokevirtual 168, 3) := by decide +kernel
theorem dX9_setFeed_52 : decode cX9_setFeed 52 = .ok (.iload 4, 2) := by decide +kernel
theorem dX9_setFeed_54 : decode cX9_setFeed 54 = .ok (.ireturn, 1) := by decide +kernel
theorem dX9_step_0 : decode cX9_step 0 = .ok (.iload_n 1, 1) := by decide +kernel
theorem dX9_step_1 : decode cX9_step 1 = .ok (.iconst 1, 1) := by decide +kernel
theorem dX9_step_2 : decode cX9_step 2 = .ok (.bipush 100, 2) := by decide +kernel
theorem dX9_step_4 : decode cX9_step 4 = .ok (.invokestatic 87, 3) := by decide +kernel
theorem dX9_step_7 : decode cX9_step 7 = .ok (.aload_n 0, 1) := by decide +kernel
theorem dX9_step_8 : decode cX9_step 8 = .ok (.getfield 29, 3) := by decide +kernel
theorem dX9_step_11 : decode cX9_step 11 = .ok (.aload_n 0, 1) := by decide +kernel
theorem dX9_step_12 : decode cX9_step 12 = .ok (.getfield 19, 3) := by decide +kernel
theorem dX9_step_15 : decode cX9_step 15 = .ok (.invokevirtual 150, 3) := by decide +kernel
theorem dX9_step_18 : decode cX9_step 18 = .ok (.iconst 0, 1) := by decide +kernel
theorem dX9_step_19 : decode cX9_step 19 = .ok (.istore_n 2, 1) := by decide +kernel
theorem dX9_step_20 : decode cX9_step 20 = .ok (.iload_n 2, 1) := by decide +kernel
theorem dX9_step_21 : decode cX9_step 21 = .ok (.iload_n 1, 1) := by decide +kernel
theorem dX9_step_22 : decode cX9_step 22 = .ok (.if_icmp .ge 20, 3) := by decide +kernel
theorem dX9_step_25 : decode cX9_step 25 = .ok (.aload_n 0, 1) := by decide +kernel
theorem dX9_step_26 : decode cX9_step 26 = .ok (.getfield 49, 3) := by decide +kernel
theorem dX9_step_29 : decode cX9_step 29 = .ok (.aload_n 0, 1) := by decide +kernel
theorem dX9_step_30 : decode cX9_step 30 = .ok (.getfield 19, 3) := by decide +kernel
theorem dX9_step_33 : decode cX9_step 33 = .ok (.invokevirtual 171, 3) := by decide +kernel
theorem dX9_step_36 : decode cX9_step 36 = .ok (.iinc 2 1, 3) := by decide +kernel
theorem dX9_step_39 : decode cX9_step 39 = .ok (.goto (-19), 3) := by decide +kernel
theorem dX9_step_42 : decode cX9_step 42 = .ok (.aload_n 0, 1) := by decide +kernel
theorem dX9_step_43 : decode cX9_step 43 = .ok (.getfield 19, 3) := by decide +kernel
theorem dX9_step_46 : decode cX9_step 46 = .ok (.bipush 8, 2) := by decide +kernel
theorem dX9_step_48 : decode cX9_step 48 = .ok (.iconst 0, 1) := by decide +kernel
theorem dX9_step_49 : decode cX9_step 49 = .ok (.invokevirtual 174, 3) := by decide +kernel
theorem dX9_step_52 : decode cX9_step 52 = .ok (.ireturn, 1) := by decide +kernel
theorem dX9_drain_0 : decode cX9_drain 0 = .ok (.aload_n 0, 1) := by decide +kernel
theorem dX9_drain_1 : decode cX9_drain 1 = .ok (.getfield 29, 3) := by decide +kernel
theorem dX9_drain_4 : decode cX9_drain 4 = .ok (.aload_n 0, 1) := by decide +kernel
theorem dX9_drain_5 : decode cX9_drain 5 = .ok (.getfield 19, 3) := by decide +kernel
theorem dX9_drain_8 : decode cX9_drain 8 = .ok (.invokevirtual 150, 3) := by decide +kernel
theorem dX9_drain_11 : decode cX9_drain 11 = .ok (.aload_n 0, 1) := by decide +kernel
theorem dX9_drain_12 : decode cX9_drain 12 = .ok (.getfield 19, 3) := by decide +kernel
theorem dX9_drain_15 : decode cX9_drain 15 = .ok (.invokevirtual 177, 3) := by decide +kernel
theorem dX9_drain_18 : decode cX9_drain 18 = .ok (.istore_n 1, 1) := by decide +kernel
theorem dX9_drain_19 : decode cX9_drain 19 = .ok (.aload_n 0, 1) := by decide +kernel
theorem dX9_drain_20 : decode cX9_drain 20 = .ok (.getfield 19, 3) := by decide +kernel
theorem dX9_drain_23 : decode cX9_drain 23 = .ok (.invokevirtual 180, 3) := by decide +kernel
theorem dX9_drain_26 : decode cX9_drain 26 = .ok (.iload_n 1, 1) := by decide +kernel
theorem dX9_drain_27 : decode cX9_drain 27 = .ok (.ireturn, 1) := by decide +kernel
theorem dX9_undo_0 : decode cX9_undo 0 = .ok (.aload_n 0, 1) := by decide +kernel
theorem dX9_undo_1 : decode cX9_undo 1 = .ok (.getfield 29, 3) := by decide +kernel
theorem dX9_undo_4 : decode cX9_undo 4 = .ok (.invokevirtual 183, 3) := by decide +kernel
theorem dX9_undo_7 : decode cX9_undo 7 = .ok (.ifCond .gt 13, 3) := by decide +kernel
theorem dX9_undo_10 : decode cX9_undo 10 = .ok (.new 95, 3) := by decide +kernel
theorem dX9_undo_13 : decode cX9_undo 13 = .ok (.dup, 1) := by decide +kernel
theorem dX9_undo_14 : decode cX9_undo 14 = .ok (.ldc 186, 2) := by decide +kernel
theorem dX9_undo_16 : decode cX9_undo 16 = .ok (.invokespecial 99, 3) := by decide +kernel
theorem dX9_undo_19 : decode cX9_undo 19 = .ok (.athrow, 1) := by decide +kernel
theorem dX9_undo_20 : decode cX9_undo 20 = .ok (.aload_n 0, 1) := by decide +kernel
theorem dX9_undo_21 : decode cX9_undo 21 = .ok (.getfield 29, 3) := by decide +kernel
theorem dX9_undo_24 : decode cX9_undo 24 = .ok (.aload_n 0, 1) := by decide +kernel
theorem dX9_undo_25 : decode cX9_undo 25 = .ok (.getfield 19, 3) := by decide +kernel
theorem dX9_undo_28 : decode cX9_undo 28 = .ok (.invokevirtual 188, 3) := by decide +kernel
theorem dX9_undo_31 : decode cX9_undo 31 = .ok (.aload_n 0, 1) := by decide +kernel
theorem dX9_undo_32 : decode cX9_undo 32 = .ok (.getfield 29, 3) := by decide +kernel
theorem dX9_undo_35 : decode cX9_undo 35 = .ok (.invokevirtual 183, 3) := by decide +kernel
theorem dX9_undo_38 : decode cX9_undo 38 = .ok (.ireturn, 1) := by decide +kernel
theorem dX9_content_0 : decode cX9_content 0 = .ok (.aload_n 0, 1) := by decide +kernel
theorem dX9_content_1 : decode cX9_content 1 = .ok (.iload_n 1, 1) := by decide +kernel
theorem dX9_content_2 : decode cX9_content 2 = .ok (.invokevirtual 125, 3) := by decide +kernel
theorem dX9_content_5 : decode cX9_content 5 = .ok (.iload_n 2, 1) := by decide +kernel
theorem dX9_content_6 : decode cX9_content 6 = .ok (.invokestatic 128, 3) := by decide +kernel
theorem dX9_content_9 : decode cX9_content 9 = .ok (.aload_n 0, 1) := by decide +kernel
theorem dX9_content_10 : decode cX9_content 10 = .ok (.getfield 19, 3) := by decide +kernel
theorem dX9_content_13 : decode cX9_content 13 = .ok (.iload_n 1, 1) := by decide +kernel
theorem dX9_content_14 : decode cX9_content 14 = .ok (.iload_n 2, 1) := by decide +kernel
theorem dX9_content_15 : decode cX9_content 15 = .ok (.invokevirtual 191, 3) := by decide +kernel
theorem dX9_content_18 : decode cX9_content 18 = .ok (.ireturn, 1) := by decide +kernel
theorem dX9_amount_0 : decode cX9_amount 0 = .ok (.iload_n 1, 1) := by decide +kernel
theorem dX9_amount_1 : decode cX9_amount 1 = .ok (.invokestatic 194, 3) := by decide +kernel
theorem dX9_amount_4 : decode cX9_amount 4 = .ok (.ifCond .ne 13, 3) := by decide +kernel
theorem dX9_amount_7 : decode cX9_amount 7 = .ok (.new 198, 3) := by decide +kernel
theorem dX9_amount_10 : decode cX9_amount 10 = .ok (.dup, 1) := by decide +kernel
theorem dX9_amount_11 : decode cX9_amount 11 = .ok (.ldc 200, 2) := by decide +kernel
theorem dX9_amount_13 : decode cX9_amount 13 = .ok (.invokespecial 202, 3) := by decide +kernel
theorem dX9_amount_16 : decode cX9_amount 16 = .ok (.athrow, 1) := by decide +kernel
theorem dX9_amount_17 : decode cX9_amount 17 = .ok (.iload_n 2, 1) := by decide +kernel
theorem dX9_amount_18 : decode cX9_amount 18 = .ok (.invokestatic 128, 3) := by decide +kernel
theorem dX9_amount_21 : decode cX9_amount 21 = .ok (.aload_n 0, 1) := by decide +kernel
theorem dX9_amount_22 : decode cX9_amount 22 = .ok (.getfield 19, 3) := by decide +kernel
theorem dX9_amount_25 : decode cX9_amount 25 = .ok (.iload_n 1, 1) := by decide +kernel
theorem dX9_amount_26 : decode cX9_amount 26 = .ok (.iload_n 2, 1) := by decide +kernel
theorem dX9_amount_27 : decode cX9_amount 27 = .ok (.invokevirtual 174, 3) := by decide +kernel
theorem dX9_amount_30 : decode cX9_amount 30 = .ok (.ireturn, 1) := by decide +kernel
theorem dX9_hasSteadyState_0 : decode cX9_hasSteadyState 0 = .ok (.aload_n 0, 1) := by decide +kernel
theorem dX9_hasSteadyState_1 : decode cX9_hasSteadyState 1 = .ok (.getfield 77, 3) := by decide +kernel
theorem dX9_hasSteadyState_4 : decode cX9_hasSteadyState 4 = .ok (.aload_n 0, 1) := by decide +kernel
theorem dX9_hasSteadyState_5 : decode cX9_hasSteadyState 5 = .ok (.getfield 19, 3) := by decide +kernel
theorem dX9_hasSteadyState_8 : decode cX9_hasSteadyState 8 = .ok (.aload_n 0, 1) := by decide +kernel
theorem dX9_hasSteadyState_9 : decode cX9_hasSteadyState 9 = .ok (.getfield 56, 3) := by decide +kernel
theorem dX9_hasSteadyState_12 : decode cX9_hasSteadyState 12 = .ok (.invokevirtual 203, 3) := by decide +kernel
theorem dX9_hasSteadyState_15 : decode cX9_hasSteadyState 15 = .ok (.aload_n 0, 1) := by decide +kernel
theorem dX9_hasSteadyState_16 : decode cX9_hasSteadyState 16 = .ok (.getfield 77, 3) := by decide +kernel
theorem dX9_hasSteadyState_19 : decode cX9_hasSteadyState 19 = .ok (.invokevirtual 207, 3) := by decide +kernel
theorem dX9_hasSteadyState_22 : decode cX9_hasSteadyState 22 = .ok (.ireturn, 1) := by decide +kernel
theorem dX9_flowNumerator_0 : decode cX9_flowNumerator 0 = .ok (.aload_n 0, 1) := by decide +kernel
theorem dX9_flowNumerator_1 : decode cX9_flowNumerator 1 = .ok (.iload_n 1, 1) := by decide +kernel
theorem dX9_flowNumerator_2 : decode cX9_flowNumerator 2 = .ok (.iload_n 2, 1) := by decide +kernel
theorem dX9_flowNumerator_3 : decode cX9_flowNumerator 3 = .ok (.invokevirtual 210, 3) := by decide +kernel
theorem dX9_flowNumerator_6 : decode cX9_flowNumerator 6 = .ok (.aload_n 0, 1) := by decide +kernel
theorem dX9_flowNumerator_7 : decode cX9_flowNumerator 7 = .ok (.getfield 56, 3) := by decide +kernel
theorem dX9_flowNumerator_10 : decode cX9_flowNumerator 10 = .ok (.aload_n 0, 1) := by decide +kernel
theorem dX9_flowNumerator_11 : decode cX9_flowNumerator 11 = .ok (.getfield 19, 3) := by decide +kernel
theorem dX9_flowNumerator_14 : decode cX9_flowNumerator 14 = .ok (.iload_n 2, 1) := by decide +kernel
theorem dX9_flowNumerator_15 : decode cX9_flowNumerator 15 = .ok (.invokevirtual 141, 3) := by decide +kernel
theorem dX9_flowNumerator_18 : decode cX9_flowNumerator 18 = .ok (.invokevirtual 214, 3) := by decide +kernel
theorem dX9_flowNumerator_21 : decode cX9_flowNumerator 21 = .ok (.lreturn, 1) := by decide +kernel
theorem dX9_flowDenominator_0 : decode cX9_flowDenominator 0 = .ok (.aload_n 0, 1) := by decide +kernel
theorem dX9_flowDenominator_1 : decode cX9_flowDenominator 1 = .ok (.iload_n 1, 1) := by decide +kernel
theorem dX9_flowDenominator_2 : decode cX9_flowDenominator 2 = .ok (.iload_n 2, 1) := by decide +kernel
theorem dX9_flowDenominator_3 : decode cX9_flowDenominator 3 = .ok (.invokevirtual 210, 3) := by decide +kernel
theorem dX9_flowDenominator_6 : decode cX9_flowDenominator 6 = .ok (.aload_n 0, 1) := by decide +kernel
theorem dX9_flowDenominator_7 : decode cX9_flowDenominator 7 = .ok (.getfield 56, 3) := by decide +kernel
theorem dX9_flowDenominator_10 : decode cX9_flowDenominator 10 = .ok (.aload_n 0, 1) := by decide +kernel
theorem dX9_flowDenominator_11 : decode cX9_flowDenominator 11 = .ok (.getfield 19, 3) := by decide +kernel
theorem dX9_flowDenominator_14 : decode cX9_flowDenominator 14 = .ok (.iload_n 2, 1) := by decide +kernel
theorem dX9_flowDenominator_15 : decode cX9_flowDenominator 15 = .ok (.invokevirtual 141, 3) := by decide +kernel
theorem dX9_flowDenominator_18 : decode cX9_flowDenominator 18 = .ok (.invokevirtual 218, 3) := by decide +kernel
theorem dX9_flowDenominator_21 : decode cX9_flowDenominator 21 = .ok (.lreturn, 1) := by decide +kernel
theorem dX9_totalRecovery_0 : decode cX9_totalRecovery 0 = .ok (.aload_n 0, 1) := by decide +kernel
theorem dX9_totalRecovery_1 : decode cX9_totalRecovery 1 = .ok (.invokevirtual 221, 3) := by decide +kernel
theorem dX9_totalRecovery_4 : decode cX9_totalRecovery 4 = .ok (.aload_n 0, 1) := by decide +kernel
theorem dX9_totalRecovery_5 : decode cX9_totalRecovery 5 = .ok (.getfield 77, 3) := by decide +kernel
theorem dX9_totalRecovery_8 : decode cX9_totalRecovery 8 = .ok (.aload_n 0, 1) := by decide +kernel
theorem dX9_totalRecovery_9 : decode cX9_totalRecovery 9 = .ok (.getfield 19, 3) := by decide +kernel
theorem dX9_totalRecovery_12 : decode cX9_totalRecovery 12 = .ok (.invokevirtual 224, 3) := by decide +kernel
theorem dX9_totalRecovery_15 : decode cX9_totalRecovery 15 = .ok (.ireturn, 1) := by decide +kernel
theorem dX9_grade_0 : decode cX9_grade 0 = .ok (.aload_n 0, 1) := by decide +kernel
theorem dX9_grade_1 : decode cX9_grade 1 = .ok (.invokevirtual 221, 3) := by decide +kernel
theorem dX9_grade_4 : decode cX9_grade 4 = .ok (.aload_n 0, 1) := by decide +kernel
theorem dX9_grade_5 : decode cX9_grade 5 = .ok (.getfield 77, 3) := by decide +kernel
theorem dX9_grade_8 : decode cX9_grade 8 = .ok (.aload_n 0, 1) := by decide +kernel
theorem dX9_grade_9 : decode cX9_grade 9 = .ok (.getfield 19, 3) := by decide +kernel
theorem dX9_grade_12 : decode cX9_grade 12 = .ok (.invokevirtual 228, 3) := by decide +kernel
theorem dX9_grade_15 : decode cX9_grade 15 = .ok (.ireturn, 1) := by decide +kernel
theorem dX9_isInLoop_0 : decode cX9_isInLoop 0 = .ok (.aload_n 0, 1) := by decide +kernel
theorem dX9_isInLoop_1 : decode cX9_isInLoop 1 = .ok (.iload_n 1, 1) := by decide +kernel
theorem dX9_isInLoop_2 : decode cX9_isInLoop 2 = .ok (.invokevirtual 125, 3) := by decide +kernel
theorem dX9_isInLoop_5 : decode cX9_isInLoop 5 = .ok (.aload_n 0, 1) := by decide +kernel
theorem dX9_isInLoop_6 : decode cX9_isInLoop 6 = .ok (.getfield 63, 3) := by decide +kernel
theorem dX9_isInLoop_9 : decode cX9_isInLoop 9 = .ok (.aload_n 0, 1) := by decide +kernel
theorem dX9_isInLoop_10 : decode cX9_isInLoop 10 = .ok (.getfield 19, 3) := by decide +kernel
theorem dX9_isInLoop_13 : decode cX9_isInLoop 13 = .ok (.invokevirtual 231, 3) := by decide +kernel
theorem dX9_isInLoop_16 : decode cX9_isInLoop 16 = .ok (.aload_n 0, 1) := by decide +kernel
theorem dX9_isInLoop_17 : decode cX9_isInLoop 17 = .ok (.getfield 63, 3) := by decide +kernel
theorem dX9_isInLoop_20 : decode cX9_isInLoop 20 = .ok (.iload_n 1, 1) := by decide +kernel
theorem dX9_isInLoop_21 : decode cX9_isInLoop 21 = .ok (.invokevirtual 234, 3) := by decide +kernel
theorem dX9_isInLoop_24 : decode cX9_isInLoop 24 = .ok (.ireturn, 1) := by decide +kernel
theorem dX9_loopCount_0 : decode cX9_loopCount 0 = .ok (.aload_n 0, 1) := by decide +kernel
theorem dX9_loopCount_1 : decode cX9_loopCount 1 = .ok (.getfield 63, 3) := by decide +kernel
theorem dX9_loopCount_4 : decode cX9_loopCount 4 = .ok (.aload_n 0, 1) := by decide +kernel
theorem dX9_loopCount_5 : decode cX9_loopCount 5 = .ok (.getfield 19, 3) := by decide +kernel
theorem dX9_loopCount_8 : decode cX9_loopCount 8 = .ok (.invokevirtual 231, 3) := by decide +kernel
theorem dX9_loopCount_11 : decode cX9_loopCount 11 = .ok (.aload_n 0, 1) := by decide +kernel
theorem dX9_loopCount_12 : decode cX9_loopCount 12 = .ok (.getfield 63, 3) := by decide +kernel
theorem dX9_loopCount_15 : decode cX9_loopCount 15 = .ok (.aload_n 0, 1) := by decide +kernel
theorem dX9_loopCount_16 : decode cX9_loopCount 16 = .ok (.getfield 19, 3) := by decide +kernel
theorem dX9_loopCount_19 : decode cX9_loopCount 19 = .ok (.invokevirtual 122, 3) := by decide +kernel
theorem dX9_loopCount_22 : decode cX9_loopCount 22 = .ok (.invokevirtual 237, 3) := by decide +kernel
theorem dX9_loopCount_25 : decode cX9_loopCount 25 = .ok (.ireturn, 1) := by decide +kernel
theorem dX9_bestImprovement_0 : decode cX9_bestImprovement 0 = .ok (.aload_n 0, 1) := by decide +kernel
theorem dX9_bestImprovement_1 : decode cX9_bestImprovement 1 = .ok (.iconst 0, 1) := by decide +kernel
theorem dX9_bestImprovement_2 : decode cX9_bestImprovement 2 = .ok (.invokevirtual 240, 3) := by decide +kernel
theorem dX9_bestImprovement_5 : decode cX9_bestImprovement 5 = .ok (.ireturn, 1) := by decide +kernel
theorem dX9_bestShutdown_0 : decode cX9_bestShutdown 0 = .ok (.aload_n 0, 1) := by decide +kernel
theorem dX9_bestShutdown_1 : decode cX9_bestShutdown 1 = .ok (.iconst 1, 1) := by decide +kernel
theorem dX9_bestShutdown_2 : decode cX9_bestShutdown 2 = .ok (.invokevirtual 240, 3) := by decide +kernel
theorem dX9_bestShutdown_5 : decode cX9_bestShutdown 5 = .ok (.ireturn, 1) := by decide +kernel
theorem dX9_recoveryFor_0 : decode cX9_recoveryFor 0 = .ok (.aload_n 0, 1) := by decide +kernel
theorem dX9_recoveryFor_1 : decode cX9_recoveryFor 1 = .ok (.iload_n 1, 1) := by decide +kernel
theorem dX9_recoveryFor_2 : decode cX9_recoveryFor 2 = .ok (.invokevirtual 125, 3) := by decide +kernel
theorem dX9_recoveryFor_5 : decode cX9_recoveryFor 5 = .ok (.iload_n 2, 1) := by decide +kernel
theorem dX9_recoveryFor_6 : decode cX9_recoveryFor 6 = .ok (.iconst 0, 1) := by decide +kernel
theorem dX9_recoveryFor_7 : decode cX9_recoveryFor 7 = .ok (.sipush 1000, 3) := by decide +kernel
theorem dX9_recoveryFor_10 : decode cX9_recoveryFor 10 = .ok (.invokestatic 87, 3) := by decide +kernel
theorem dX9_recoveryFor_13 : decode cX9_recoveryFor 13 = .ok (.aload_n 0, 1) := by decide +kernel
theorem dX9_recoveryFor_14 : decode cX9_recoveryFor 14 = .ok (.iload_n 1, 1) := by decide +kernel
theorem dX9_recoveryFor_15 : decode cX9_recoveryFor 15 = .ok (.iconst 0, 1) := by decide +kernel
theorem dX9_recoveryFor_16 : decode cX9_recoveryFor 16 = .ok (.invokevirtual 244, 3) := by decide +kernel
theorem dX9_recoveryFor_19 : decode cX9_recoveryFor 19 = .ok (.iconst 0, 1) := by decide +kernel
theorem dX9_recoveryFor_20 : decode cX9_recoveryFor 20 = .ok (.istore_n 3, 1) := by decide +kernel
theorem dX9_recoveryFor_21 : decode cX9_recoveryFor 21 = .ok (.iload_n 3, 1) := by decide +kernel
theorem dX9_recoveryFor_22 : decode cX9_recoveryFor 22 = .ok (.bipush 100, 2) := by decide +kernel
theorem dX9_recoveryFor_24 : decode cX9_recoveryFor 24 = .ok (.if_icmp .gt 52, 3) := by decide +kernel
theorem dX9_recoveryFor_27 : decode cX9_recoveryFor 27 = .ok (.aload_n 0, 1) := by decide +kernel
theorem dX9_recoveryFor_28 : decode cX9_recoveryFor 28 = .ok (.getfield 77, 3) := by decide +kernel
theorem dX9_recoveryFor_31 : decode cX9_recoveryFor 31 = .ok (.aload_n 0, 1) := by decide +kernel
theorem dX9_recoveryFor_32 : decode cX9_recoveryFor 32 = .ok (.getfield 81, 3) := by decide +kernel
theorem dX9_recoveryFor_35 : decode cX9_recoveryFor 35 = .ok (.aload_n 0, 1) := by decide +kernel
theorem dX9_recoveryFor_36 : decode cX9_recoveryFor 36 = .ok (.getfield 84, 3) := by decide +kernel
theorem dX9_recoveryFor_39 : decode cX9_recoveryFor 39 = .ok (.iload_n 3, 1) := by decide +kernel
theorem dX9_recoveryFor_40 : decode cX9_recoveryFor 40 = .ok (.invokevirtual 247, 3) := by decide +kernel
theorem dX9_recoveryFor_43 : decode cX9_recoveryFor 43 = .ok (.aload_n 0, 1) := by decide +kernel
theorem dX9_recoveryFor_44 : decode cX9_recoveryFor 44 = .ok (.getfield 77, 3) := by decide +kernel
theorem dX9_recoveryFor_47 : decode cX9_recoveryFor 47 = .ok (.invokevirtual 207, 3) := by decide +kernel
theorem dX9_recoveryFor_50 : decode cX9_recoveryFor 50 = .ok (.ifCond .eq 20, 3) := by decide +kernel
theorem dX9_recoveryFor_53 : decode cX9_recoveryFor 53 = .ok (.aload_n 0, 1) := by decide +kernel
theorem dX9_recoveryFor_54 : decode cX9_recoveryFor 54 = .ok (.getfield 77, 3) := by decide +kernel
theorem dX9_recoveryFor_57 : decode cX9_recoveryFor 57 = .ok (.aload_n 0, 1) := by decide +kernel
theorem dX9_recoveryFor_58 : decode cX9_recoveryFor 58 = .ok (.getfield 19, 3) := by decide +kernel
theorem dX9_recoveryFor_61 : decode cX9_recoveryFor 61 = .ok (.invokevirtual 224, 3) := by decide +kernel
theorem dX9_recoveryFor_64 : decode cX9_recoveryFor 64 = .ok (.iload_n 2, 1) := by decide +kernel
theorem dX9_recoveryFor_65 : decode cX9_recoveryFor 65 = .ok (.if_icmp .lt 5, 3) := by decide +kernel
theorem dX9_recoveryFor_68 : decode cX9_recoveryFor 68 = .ok (.iload_n 3, 1) := by decide +kernel
theorem dX9_recoveryFor_69 : decode cX9_recoveryFor 69 = .ok (.ireturn, 1) := by decide +kernel
theorem dX9_recoveryFor_70 : decode cX9_recoveryFor 70 = .ok (.iinc 3 1, 3) := by decide +kernel
theorem dX9_recoveryFor_73 : decode cX9_recoveryFor 73 = .ok (.goto (-52), 3) := by decide +kernel
theorem dX9_recoveryFor_76 : decode cX9_recoveryFor 76 = .ok (.bipush (-9), 2) := by decide +kernel
theorem dX9_recoveryFor_78 : decode cX9_recoveryFor 78 = .ok (.ireturn, 1) := by decide +kernel
theorem dX9_measure_0 : decode cX9_measure 0 = .ok (.iload_n 1, 1) := by decide +kernel
theorem dX9_measure_1 : decode cX9_measure 1 = .ok (.iconst 0, 1) := by decide +kernel
theorem dX9_measure_2 : decode cX9_measure 2 = .ok (.iconst 1, 1) := by decide +kernel
theorem dX9_measure_3 : decode cX9_measure 3 = .ok (.invokestatic 87, 3) := by decide +kernel
theorem dX9_measure_6 : decode cX9_measure 6 = .ok (.iload_n 2, 1) := by decide +kernel
theorem dX9_measure_7 : decode cX9_measure 7 = .ok (.iconst 0, 1) := by decide +kernel
theorem dX9_measure_8 : decode cX9_measure 8 = .ok (.sipush 1000, 3) := by decide +kernel
theorem dX9_measure_11 : decode cX9_measure 11 = .ok (.invokestatic 87, 3) := by decide +kernel
theorem dX9_measure_14 : decode cX9_measure 14 = .ok (.aload_n 0, 1) := by decide +kernel
theorem dX9_measure_15 : decode cX9_measure 15 = .ok (.getfield 70, 3) := by decide +kernel
theorem dX9_measure_18 : decode cX9_measure 18 = .ok (.iload_n 1, 1) := by decide +kernel
theorem dX9_measure_19 : decode cX9_measure 19 = .ok (.iload_n 2, 1) := by decide +kernel
theorem dX9_measure_20 : decode cX9_measure 20 = .ok (.invokevirtual 251, 3) := by decide +kernel
theorem dX9_measure_23 : decode cX9_measure 23 = .ok (.ireturn, 1) := by decide +kernel
theorem dX9_possibleRecoveries_0 : decode cX9_possibleRecoveries 0 = .ok (.aload_n 0, 1) := by decide +kernel
theorem dX9_possibleRecoveries_1 : decode cX9_possibleRecoveries 1 = .ok (.iload_n 1, 1) := by decide +kernel
theorem dX9_possibleRecoveries_2 : decode cX9_possibleRecoveries 2 = .ok (.invokevirtual 125, 3) := by decide +kernel
theorem dX9_possibleRecoveries_5 : decode cX9_possibleRecoveries 5 = .ok (.iload_n 2, 1) := by decide +kernel
theorem dX9_possibleRecoveries_6 : decode cX9_possibleRecoveries 6 = .ok (.invokestatic 128, 3) := by decide +kernel
theorem dX9_possibleRecoveries_9 : decode cX9_possibleRecoveries 9 = .ok (.aload_n 0, 1) := by decide +kernel
theorem dX9_possibleRecoveries_10 : decode cX9_possibleRecoveries 10 = .ok (.iload_n 1, 1) := by decide +kernel
theorem dX9_possibleRecoveries_11 : decode cX9_possibleRecoveries 11 = .ok (.iload_n 2, 1) := by decide +kernel
theorem dX9_possibleRecoveries_12 : decode cX9_possibleRecoveries 12 = .ok (.invokevirtual 244, 3) := by decide +kernel
theorem dX9_possibleRecoveries_15 : decode cX9_possibleRecoveries 15 = .ok (.iconst 0, 1) := by decide +kernel
theorem dX9_possibleRecoveries_16 : decode cX9_possibleRecoveries 16 = .ok (.istore_n 3, 1) := by decide +kernel
theorem dX9_possibleRecoveries_17 : decode cX9_possibleRecoveries 17 = .ok (.iconst 0, 1) := by decide +kernel
theorem dX9_possibleRecoveries_18 : decode cX9_possibleRecoveries 18 = .ok (.istore 4, 2) := by decide +kernel
theorem dX9_possibleRecoveries_20 : decode cX9_possibleRecoveries 20 = .ok (.iload 4, 2) := by decide +kernel
theorem dX9_possibleRecoveries_22 : decode cX9_possibleRecoveries 22 = .ok (.bipush 100, 2) := by decide +kernel
theorem dX9_possibleRecoveries_24 : decode cX9_possibleRecoveries 24 = .ok (.if_icmp .gt 71, 3) := by decide +kernel
theorem dX9_possibleRecoveries_27 : decode cX9_possibleRecoveries 27 = .ok (.aload_n 0, 1) := by decide +kernel
theorem dX9_possibleRecoveries_28 : decode cX9_possibleRecoveries 28 = .ok (.getfield 77, 3) := by decide +kernel
theorem dX9_possibleRecoveries_31 : decode cX9_possibleRecoveries 31 = .ok (.aload_n 0, 1) := by decide +kernel
theorem dX9_possibleRecoveries_32 : decode cX9_possibleRecoveries 32 = .ok (.getfield 81, 3) := by decide +kernel
theorem dX9_possibleRecoveries_35 : decode cX9_possibleRecoveries 35 = .ok (.aload_n 0, 1) := by decide +kernel
theorem dX9_possibleRecoveries_36 : decode cX9_possibleRecoveries 36 = .ok (.getfield 84, 3) := by decide +kernel
theorem dX9_possibleRecoveries_39 : decode cX9_possibleRecoveries 39 = .ok (.iload 4, 2) := by decide +kernel
theorem dX9_possibleRecoveries_41 : decode cX9_possibleRecoveries 41 = .ok (.invokevirtual 247, 3) := by decide +kernel
theorem dX9_possibleRecoveries_44 : decode cX9_possibleRecoveries 44 = .ok (.aload_n 0, 1) := by decide +kernel
theorem dX9_possibleRecoveries_45 : decode cX9_possibleRecoveries 45 = .ok (.getfield 77, 3) := by decide +kernel
theorem dX9_possibleRecoveries_48 : decode cX9_possibleRecoveries 48 = .ok (.invokevirtual 207, 3) := by decide +kernel
theorem dX9_possibleRecoveries_51 : decode cX9_possibleRecoveries 51 = .ok (.ifCond .eq 38, 3) := by decide +kernel
theorem dX9_possibleRecoveries_54 : decode cX9_possibleRecoveries 54 = .ok (.aload_n 0, 1) := by decide +kernel
theorem dX9_possibleRecoveries_55 : decode cX9_possibleRecoveries 55 = .ok (.getfield 70, 3) := by decide +kernel
theorem dX9_possibleRecoveries_58 : decode cX9_possibleRecoveries 58 = .ok (.aload_n 0, 1) := by decide +kernel
theorem dX9_possibleRecoveries_59 : decode cX9_possibleRecoveries 59 = .ok (.getfield 77, 3) := by decide +kernel
theorem dX9_possibleRecoveries_62 : decode cX9_possibleRecoveries 62 = .ok (.aload_n 0, 1) := by decide +kernel
theorem dX9_possibleRecoveries_63 : decode cX9_possibleRecoveries 63 = .ok (.getfield 19, 3) := by decide +kernel
theorem dX9_possibleRecoveries_66 : decode cX9_possibleRecoveries 66 = .ok (.invokevirtual 224, 3) := by decide +kernel
theorem dX9_possibleRecoveries_69 : decode cX9_possibleRecoveries 69 = .ok (.aload_n 0, 1) := by decide +kernel
theorem dX9_possibleRecoveries_70 : decode cX9_possibleRecoveries 70 = .ok (.getfield 77, 3) := by decide +kernel
theorem dX9_possibleRecoveries_73 : decode cX9_possibleRecoveries 73 = .ok (.aload_n 0, 1) := by decide +kernel
theorem dX9_possibleRecoveries_74 : decode cX9_possibleRecoveries 74 = .ok (.getfield 19, 3) := by decide +kernel
theorem dX9_possibleRecoveries_77 : decode cX9_possibleRecoveries 77 = .ok (.invokevirtual 228, 3) := by decide +kernel
theorem dX9_possibleRecoveries_80 : decode cX9_possibleRecoveries 80 = .ok (.invokevirtual 254, 3) := by decide +kernel
theorem dX9_possibleRecoveries_83 : decode cX9_possibleRecoveries 83 = .ok (.ifCond .eq 6, 3) := by decide +kernel
theorem dX9_possibleRecoveries_86 : decode cX9_possibleRecoveries 86 = .ok (.iinc 3 1, 3) := by decide +kernel
theorem dX9_possibleRecoveries_89 : decode cX9_possibleRecoveries 89 = .ok (.iinc 4 1, 3) := by decide +kernel
theorem dX9_possibleRecoveries_92 : decode cX9_possibleRecoveries 92 = .ok (.goto (-72), 3) := by decide +kernel
theorem dX9_possibleRecoveries_95 : decode cX9_possibleRecoveries 95 = .ok (.iload_n 3, 1) := by decide +kernel
theorem dX9_possibleRecoveries_96 : decode cX9_possibleRecoveries 96 = .ok (.ireturn, 1) := by decide +kernel
theorem dX9_disturb_0 : decode cX9_disturb 0 = .ok (.iload_n 3, 1) := by decide +kernel
theorem dX9_disturb_1 : decode cX9_disturb 1 = .ok (.iconst 1, 1) := by decide +kernel
theorem dX9_disturb_2 : decode cX9_disturb 2 = .ok (.bipush 100, 2) := by decide +kernel
theorem dX9_disturb_4 : decode cX9_disturb 4 = .ok (.invokestatic 87, 3) := by decide +kernel
theorem dX9_disturb_7 : decode cX9_disturb 7 = .ok (.aload_n 0, 1) := by decide +kernel
theorem dX9_disturb_8 : decode cX9_disturb 8 = .ok (.getfield 23, 3) := by decide +kernel
theorem dX9_disturb_11 : decode cX9_disturb 11 = .ok (.aload_n 0, 1) := by decide +kernel
theorem dX9_disturb_12 : decode cX9_disturb 12 = .ok (.getfield 19, 3) := by decide +kernel
theorem dX9_disturb_15 : decode cX9_disturb 15 = .ok (.invokevirtual 258, 3) := by decide +kernel
theorem dX9_disturb_18 : decode cX9_disturb 18 = .ok (.lload_n 1, 1) := by decide +kernel
theorem dX9_disturb_19 : decode cX9_disturb 19 = .ok (.lstore 4, 2) := by decide +kernel
theorem dX9_disturb_21 : decode cX9_disturb 21 = .ok (.iconst 0, 1) := by decide +kernel
theorem dX9_disturb_22 : decode cX9_disturb 22 = .ok (.istore 6, 2) := by decide +kernel
theorem dX9_disturb_24 : decode cX9_disturb 24 = .ok (.iload 6, 2) := by decide +kernel
theorem dX9_disturb_26 : decode cX9_disturb 26 = .ok (.iload_n 3, 1) := by decide +kernel
theorem dX9_disturb_27 : decode cX9_disturb 27 = .ok (.if_icmp .ge 42, 3) := by decide +kernel
theorem dX9_disturb_30 : decode cX9_disturb 30 = .ok (.lload 4, 2) := by decide +kernel
theorem dX9_disturb_32 : decode cX9_disturb 32 = .ok (.ldc2_w 261, 3) := by decide +kernel
theorem dX9_disturb_35 : decode cX9_disturb 35 = .ok (.lmul, 1) := by decide +kernel
theorem dX9_disturb_36 : decode cX9_disturb 36 = .ok (.ldc2_w 263, 3) := by decide +kernel
theorem dX9_disturb_39 : decode cX9_disturb 39 = .ok (.ladd, 1) := by decide +kernel
theorem dX9_disturb_40 : decode cX9_disturb 40 = .ok (.lstore 4, 2) := by decide +kernel
theorem dX9_disturb_42 : decode cX9_disturb 42 = .ok (.aload_n 0, 1) := by decide +kernel
theorem dX9_disturb_43 : decode cX9_disturb 43 = .ok (.lload 4, 2) := by decide +kernel
theorem dX9_disturb_45 : decode cX9_disturb 45 = .ok (.bipush 33, 2) := by decide +kernel
theorem dX9_disturb_47 : decode cX9_disturb 47 = .ok (.lushr, 1) := by decide +kernel
theorem dX9_disturb_48 : decode cX9_disturb 48 = .ok (.l2i, 1) := by decide +kernel
theorem dX9_disturb_49 : decode cX9_disturb 49 = .ok (.invokevirtual 265, 3) := by decide +kernel
theorem dX9_disturb_52 : decode cX9_disturb 52 = .ok (.aload_n 0, 1) := by decide +kernel
theorem dX9_disturb_53 : decode cX9_disturb 53 = .ok (.getfield 49, 3) := by decide +kernel
theorem dX9_disturb_56 : decode cX9_disturb 56 = .ok (.aload_n 0, 1) := by decide +kernel
theorem dX9_disturb_57 : decode cX9_disturb 57 = .ok (.getfield 23, 3) := by decide +kernel
theorem dX9_disturb_60 : decode cX9_disturb 60 = .ok (.invokevirtual 171, 3) := by decide +kernel
theorem dX9_disturb_63 : decode cX9_disturb 63 = .ok (.iinc 6 1, 3) := by decide +kernel
theorem dX9_disturb_66 : decode cX9_disturb 66 = .ok (.goto (-42), 3) := by decide +kernel
theorem dX9_disturb_69 : decode cX9_disturb 69 = .ok (.aload_n 0, 1) := by decide +kernel
theorem dX9_disturb_70 : decode cX9_disturb 70 = .ok (.getfield 23, 3) := by decide +kernel
theorem dX9_disturb_73 : decode cX9_disturb 73 = .ok (.bipush 8, 2) := by decide +kernel
theorem dX9_disturb_75 : decode cX9_disturb 75 = .ok (.iconst 0, 1) := by decide +kernel
theorem dX9_disturb_76 : decode cX9_disturb 76 = .ok (.invokevirtual 174, 3) := by decide +kernel
theorem dX9_disturb_79 : decode cX9_disturb 79 = .ok (.ireturn, 1) := by decide +kernel
theorem dX9_save_0 : decode cX9_save 0 = .ok (.iload_n 1, 1) := by decide +kernel
theorem dX9_save_1 : decode cX9_save 1 = .ok (.invokestatic 128, 3) := by decide +kernel
theorem dX9_save_4 : decode cX9_save 4 = .ok (.aload_n 0, 1) := by decide +kernel
theorem dX9_save_5 : decode cX9_save 5 = .ok (.getfield 38, 3) := by decide +kernel
theorem dX9_save_8 : decode cX9_save 8 = .ok (.iload_n 1, 1) := by decide +kernel
theorem dX9_save_9 : decode cX9_save 9 = .ok (.aload_n 0, 1) := by decide +kernel
theorem dX9_save_10 : decode cX9_save 10 = .ok (.getfield 19, 3) := by decide +kernel
theorem dX9_save_13 : decode cX9_save 13 = .ok (.invokevirtual 268, 3) := by decide +kernel
theorem dX9_save_16 : decode cX9_save 16 = .ok (.aload_n 0, 1) := by decide +kernel
theorem dX9_save_17 : decode cX9_save 17 = .ok (.getfield 42, 3) := by decide +kernel
theorem dX9_save_20 : decode cX9_save 20 = .ok (.iload_n 1, 1) := by decide +kernel
theorem dX9_save_21 : decode cX9_save 21 = .ok (.iconst 1, 1) := by decide +kernel
theorem dX9_save_22 : decode cX9_save 22 = .ok (.bastore, 1) := by decide +kernel
theorem dX9_save_23 : decode cX9_save 23 = .ok (.aload_n 0, 1) := by decide +kernel
theorem dX9_save_24 : decode cX9_save 24 = .ok (.getfield 19, 3) := by decide +kernel
theorem dX9_save_27 : decode cX9_save 27 = .ok (.invokevirtual 122, 3) := by decide +kernel
theorem dX9_save_30 : decode cX9_save 30 = .ok (.ireturn, 1) := by decide +kernel
theorem dX9_restore_0 : decode cX9_restore 0 = .ok (.iload_n 1, 1) := by decide +kernel
theorem dX9_restore_1 : decode cX9_restore 1 = .ok (.invokestatic 128, 3) := by decide +kernel
theorem dX9_restore_4 : decode cX9_restore 4 = .ok (.aload_n 0, 1) := by decide +kernel
theorem dX9_restore_5 : decode cX9_restore 5 = .ok (.getfield 42, 3) := by decide +kernel
theorem dX9_restore_8 : decode cX9_restore 8 = .ok (.iload_n 1, 1) := by decide +kernel
theorem dX9_restore_9 : decode cX9_restore 9 = .ok (.baload, 1) := by decide +kernel
theorem dX9_restore_10 : decode cX9_restore 10 = .ok (.ifCond .ne 14, 3) := by decide +kernel
theorem dX9_restore_13 : decode cX9_restore 13 = .ok (.new 95, 3) := by decide +kernel
theorem dX9_restore_16 : decode cX9_restore 16 = .ok (.dup, 1) := by decide +kernel
theorem dX9_restore_17 : decode cX9_restore 17 = .ok (.ldc_w 272, 3) := by decide +kernel
theorem dX9_restore_20 : decode cX9_restore 20 = .ok (.invokespecial 99, 3) := by decide +kernel
theorem dX9_restore_23 : decode cX9_restore 23 = .ok (.athrow, 1) := by decide +kernel
theorem dX9_restore_24 : decode cX9_restore 24 = .ok (.aload_n 0, 1) := by decide +kernel
theorem dX9_restore_25 : decode cX9_restore 25 = .ok (.getfield 38, 3) := by decide +kernel
theorem dX9_restore_28 : decode cX9_restore 28 = .ok (.iload_n 1, 1) := by decide +kernel
theorem dX9_restore_29 : decode cX9_restore 29 = .ok (.aload_n 0, 1) := by decide +kernel
theorem dX9_restore_30 : decode cX9_restore 30 = .ok (.getfield 19, 3) := by decide +kernel
theorem dX9_restore_33 : decode cX9_restore 33 = .ok (.invokevirtual 274, 3) := by decide +kernel
theorem dX9_restore_36 : decode cX9_restore 36 = .ok (.aload_n 0, 1) := by decide +kernel
theorem dX9_restore_37 : decode cX9_restore 37 = .ok (.getfield 29, 3) := by decide +kernel
theorem dX9_restore_40 : decode cX9_restore 40 = .ok (.invokevirtual 119, 3) := by decide +kernel
theorem dX9_restore_43 : decode cX9_restore 43 = .ok (.aload_n 0, 1) := by decide +kernel
theorem dX9_restore_44 : decode cX9_restore 44 = .ok (.getfield 19, 3) := by decide +kernel
theorem dX9_restore_47 : decode cX9_restore 47 = .ok (.invokevirtual 122, 3) := by decide +kernel
theorem dX9_restore_50 : decode cX9_restore 50 = .ok (.ireturn, 1) := by decide +kernel
theorem dX9_isProduct_0 : decode cX9_isProduct 0 = .ok (.iload_n 0, 1) := by decide +kernel
theorem dX9_isProduct_1 : decode cX9_isProduct 1 = .ok (.bipush 8, 2) := by decide +kernel
theorem dX9_isProduct_3 : decode cX9_isProduct 3 = .ok (.if_icmp .eq 9, 3) := by decide +kernel
theorem dX9_isProduct_6 : decode cX9_isProduct 6 = .ok (.iload_n 0, 1) := by decide +kernel
theorem dX9_isProduct_7 : decode cX9_isProduct 7 = .ok (.bipush 9, 2) := by decide +kernel
theorem dX9_isProduct_9 : decode cX9_isProduct 9 = .ok (.if_icmp .ne 7, 3) := by decide +kernel
theorem dX9_isProduct_12 : decode cX9_isProduct 12 = .ok (.iconst 1, 1) := by decide +kernel
theorem dX9_isProduct_13 : decode cX9_isProduct 13 = .ok (.goto 4, 3) := by decide +kernel
theorem dX9_isProduct_16 : decode cX9_isProduct 16 = .ok (.iconst 0, 1) := by decide +kernel
theorem dX9_isProduct_17 : decode cX9_isProduct 17 = .ok (.ireturn, 1) := by decide +kernel
theorem dX9_requireOneOfTwo_0 : decode cX9_requireOneOfTwo 0 = .ok (.iload_n 0, 1) := by decide +kernel
theorem dX9_requireOneOfTwo_1 : decode cX9_requireOneOfTwo 1 = .ok (.ifCond .eq 19, 3) := by decide +kernel
theorem dX9_requireOneOfTwo_4 : decode cX9_requireOneOfTwo 4 = .ok (.iload_n 0, 1) := by decide +kernel
theorem dX9_requireOneOfTwo_5 : decode cX9_requireOneOfTwo 5 = .ok (.iconst 1, 1) := by decide +kernel
theorem dX9_requireOneOfTwo_6 : decode cX9_requireOneOfTwo 6 = .ok (.if_icmp .eq 14, 3) := by decide +kernel
theorem dX9_requireOneOfTwo_9 : decode cX9_requireOneOfTwo 9 = .ok (.new 198, 3) := by decide +kernel
theorem dX9_requireOneOfTwo_12 : decode cX9_requireOneOfTwo 12 = .ok (.dup, 1) := by decide +kernel
theorem dX9_requireOneOfTwo_13 : decode cX9_requireOneOfTwo 13 = .ok (.ldc_w 277, 3) := by decide +kernel
theorem dX9_requireOneOfTwo_16 : decode cX9_requireOneOfTwo 16 = .ok (.invokespecial 202, 3) := by decide +kernel
theorem dX9_requireOneOfTwo_19 : decode cX9_requireOneOfTwo 19 = .ok (.athrow, 1) := by decide +kernel
theorem dX9_requireOneOfTwo_20 : decode cX9_requireOneOfTwo 20 = .ok (.return_, 1) := by decide +kernel
theorem dX9_requireRange_0 : decode cX9_requireRange 0 = .ok (.iload_n 0, 1) := by decide +kernel
theorem dX9_requireRange_1 : decode cX9_requireRange 1 = .ok (.iload_n 1, 1) := by decide +kernel
theorem dX9_requireRange_2 : decode cX9_requireRange 2 = .ok (.if_icmp .lt 8, 3) := by decide +kernel
theorem dX9_requireRange_5 : decode cX9_requireRange 5 = .ok (.iload_n 0, 1) := by decide +kernel
theorem dX9_requireRange_6 : decode cX9_requireRange 6 = .ok (.iload_n 2, 1) := by decide +kernel
theorem dX9_requireRange_7 : decode cX9_requireRange 7 = .ok (.if_icmp .le 14, 3) := by decide +kernel
theorem dX9_requireRange_10 : decode cX9_requireRange 10 = .ok (.new 279, 3) := by decide +kernel
theorem dX9_requireRange_13 : decode cX9_requireRange 13 = .ok (.dup, 1) := by decide +kernel
theorem dX9_requireRange_14 : decode cX9_requireRange 14 = .ok (.ldc_w 281, 3) := by decide +kernel
theorem dX9_requireRange_17 : decode cX9_requireRange 17 = .ok (.invokespecial 283, 3) := by decide +kernel
theorem dX9_requireRange_20 : decode cX9_requireRange 20 = .ok (.athrow, 1) := by decide +kernel
theorem dX9_requireRange_21 : decode cX9_requireRange 21 = .ok (.return_, 1) := by decide +kernel
theorem dX9_requireDestination_0 : decode cX9_requireDestination 0 = .ok (.iload_n 0, 1) := by decide +kernel
theorem dX9_requireDestination_1 : decode cX9_requireDestination 1 = .ok (.invokestatic 194, 3) := by decide +kernel
theorem dX9_requireDestination_4 : decode cX9_requireDestination 4 = .ok (.ifCond .ne 24, 3) := by decide +kernel
theorem dX9_requireDestination_7 : decode cX9_requireDestination 7 = .ok (.iload_n 0, 1) := by decide +kernel
theorem dX9_requireDestination_8 : decode cX9_requireDestination 8 = .ok (.ifCond .lt 9, 3) := by decide +kernel
theorem dX9_requireDestination_11 : decode cX9_requireDestination 11 = .ok (.iload_n 0, 1) := by decide +kernel
theorem dX9_requireDestination_12 : decode cX9_requireDestination 12 = .ok (.bipush 6, 2) := by decide +kernel
theorem dX9_requireDestination_14 : decode cX9_requireDestination 14 = .ok (.if_icmp .lt 14, 3) := by decide +kernel
theorem dX9_requireDestination_17 : decode cX9_requireDestination 17 = .ok (.new 279, 3) := by decide +kernel
theorem dX9_requireDestination_20 : decode cX9_requireDestination 20 = .ok (.dup, 1) := by decide +kernel
theorem dX9_requireDestination_21 : decode cX9_requireDestination 21 = .ok (.ldc_w 284, 3) := by decide +kernel
theorem dX9_requireDestination_24 : decode cX9_requireDestination 24 = .ok (.invokespecial 283, 3) := by decide +kernel
theorem dX9_requireDestination_27 : decode cX9_requireDestination 27 = .ok (.athrow, 1) := by decide +kernel
theorem dX9_requireDestination_28 : decode cX9_requireDestination 28 = .ok (.return_, 1) := by decide +kernel
theorem dX9_requireCell_0 : decode cX9_requireCell 0 = .ok (.aload_n 0, 1) := by decide +kernel
theorem dX9_requireCell_1 : decode cX9_requireCell 1 = .ok (.getfield 19, 3) := by decide +kernel
theorem dX9_requireCell_4 : decode cX9_requireCell 4 = .ok (.iload_n 1, 1) := by decide +kernel
theorem dX9_requireCell_5 : decode cX9_requireCell 5 = .ok (.invokevirtual 286, 3) := by decide +kernel
theorem dX9_requireCell_8 : decode cX9_requireCell 8 = .ok (.ifCond .ne 14, 3) := by decide +kernel
theorem dX9_requireCell_11 : decode cX9_requireCell 11 = .ok (.new 198, 3) := by decide +kernel
theorem dX9_requireCell_14 : decode cX9_requireCell 14 = .ok (.dup, 1) := by decide +kernel
theorem dX9_requireCell_15 : decode cX9_requireCell 15 = .ok (.ldc_w 289, 3) := by decide +kernel
theorem dX9_requireCell_18 : decode cX9_requireCell 18 = .ok (.invokespecial 202, 3) := by decide +kernel
theorem dX9_requireCell_21 : decode cX9_requireCell 21 = .ok (.athrow, 1) := by decide +kernel
theorem dX9_requireCell_22 : decode cX9_requireCell 22 = .ok (.return_, 1) := by decide +kernel
theorem dX9_requireSteadyState_0 : decode cX9_requireSteadyState 0 = .ok (.aload_n 0, 1) := by decide +kernel
theorem dX9_requireSteadyState_1 : decode cX9_requireSteadyState 1 = .ok (.getfield 77, 3) := by decide +kernel
theorem dX9_requireSteadyState_4 : decode cX9_requireSteadyState 4 = .ok (.aload_n 0, 1) := by decide +kernel
theorem dX9_requireSteadyState_5 : decode cX9_requireSteadyState 5 = .ok (.getfield 19, 3) := by decide +kernel
theorem dX9_requireSteadyState_8 : decode cX9_requireSteadyState 8 = .ok (.aload_n 0, 1) := by decide +kernel
theorem dX9_requireSteadyState_9 : decode cX9_requireSteadyState 9 = .ok (.getfield 56, 3) := by decide +kernel
theorem dX9_requireSteadyState_12 : decode cX9_requireSteadyState 12 = .ok (.invokevirtual 203, 3) := by decide +kernel
theorem dX9_requireSteadyState_15 : decode cX9_requireSteadyState 15 = .ok (.aload_n 0, 1) := by decide +kernel
theorem dX9_requireSteadyState_16 : decode cX9_requireSteadyState 16 = .ok (.getfield 77, 3) := by decide +kernel
theorem dX9_requireSteadyState_19 : decode cX9_requireSteadyState 19 = .ok (.invokevirtual 207, 3) := by decide +kernel
theorem dX9_requireSteadyState_22 : decode cX9_requireSteadyState 22 = .ok (.ifCond .ne 14, 3) := by decide +kernel
theorem dX9_requireSteadyState_25 : decode cX9_requireSteadyState 25 = .ok (.new 95, 3) := by decide +kernel
theorem dX9_requireSteadyState_28 : decode cX9_requireSteadyState 28 = .ok (.dup, 1) := by decide +kernel
theorem dX9_requireSteadyState_29 : decode cX9_requireSteadyState 29 = .ok (.ldc_w 291, 3) := by decide +kernel
theorem dX9_requireSteadyState_32 : decode cX9_requireSteadyState 32 = .ok (.invokespecial 99, 3) := by decide +kernel
theorem dX9_requireSteadyState_35 : decode cX9_requireSteadyState 35 = .ok (.athrow, 1) := by decide +kernel
theorem dX9_requireSteadyState_36 : decode cX9_requireSteadyState 36 = .ok (.return_, 1) := by decide +kernel
theorem dX9_solveFlow_0 : decode cX9_solveFlow 0 = .ok (.aload_n 0, 1) := by decide +kernel
theorem dX9_solveFlow_1 : decode cX9_solveFlow 1 = .ok (.getfield 19, 3) := by decide +kernel
theorem dX9_solveFlow_4 : decode cX9_solveFlow 4 = .ok (.iload_n 1, 1) := by decide +kernel
theorem dX9_solveFlow_5 : decode cX9_solveFlow 5 = .ok (.invokevirtual 286, 3) := by decide +kernel
theorem dX9_solveFlow_8 : decode cX9_solveFlow 8 = .ok (.ifCond .ne 21, 3) := by decide +kernel
theorem dX9_solveFlow_11 : decode cX9_solveFlow 11 = .ok (.iload_n 1, 1) := by decide +kernel
theorem dX9_solveFlow_12 : decode cX9_solveFlow 12 = .ok (.invokestatic 194, 3) := by decide +kernel
theorem dX9_solveFlow_15 : decode cX9_solveFlow 15 = .ok (.ifCond .ne 14, 3) := by decide +kernel
theorem dX9_solveFlow_18 : decode cX9_solveFlow 18 = .ok (.new 198, 3) := by decide +kernel
theorem dX9_solveFlow_21 : decode cX9_solveFlow 21 = .ok (.dup, 1) := by decide +kernel
theorem dX9_solveFlow_22 : decode cX9_solveFlow 22 = .ok (.ldc_w 293, 3) := by decide +kernel
theorem dX9_solveFlow_25 : decode cX9_solveFlow 25 = .ok (.invokespecial 202, 3) := by decide +kernel
theorem dX9_solveFlow_28 : decode cX9_solveFlow 28 = .ok (.athrow, 1) := by decide +kernel
theorem dX9_solveFlow_29 : decode cX9_solveFlow 29 = .ok (.iload_n 2, 1) := by decide +kernel
theorem dX9_solveFlow_30 : decode cX9_solveFlow 30 = .ok (.invokestatic 128, 3) := by decide +kernel
theorem dX9_solveFlow_33 : decode cX9_solveFlow 33 = .ok (.aload_n 0, 1) := by decide +kernel
theorem dX9_solveFlow_34 : decode cX9_solveFlow 34 = .ok (.getfield 56, 3) := by decide +kernel
theorem dX9_solveFlow_37 : decode cX9_solveFlow 37 = .ok (.aload_n 0, 1) := by decide +kernel
theorem dX9_solveFlow_38 : decode cX9_solveFlow 38 = .ok (.getfield 19, 3) := by decide +kernel
theorem dX9_solveFlow_41 : decode cX9_solveFlow 41 = .ok (.iload_n 2, 1) := by decide +kernel
theorem dX9_solveFlow_42 : decode cX9_solveFlow 42 = .ok (.iload_n 1, 1) := by decide +kernel
theorem dX9_solveFlow_43 : decode cX9_solveFlow 43 = .ok (.invokevirtual 295, 3) := by decide +kernel
theorem dX9_solveFlow_46 : decode cX9_solveFlow 46 = .ok (.aload_n 0, 1) := by decide +kernel
theorem dX9_solveFlow_47 : decode cX9_solveFlow 47 = .ok (.getfield 56, 3) := by decide +kernel
theorem dX9_solveFlow_50 : decode cX9_solveFlow 50 = .ok (.invokevirtual 299, 3) := by decide +kernel
theorem dX9_solveFlow_53 : decode cX9_solveFlow 53 = .ok (.ifCond .ne 14, 3) := by decide +kernel
theorem dX9_solveFlow_56 : decode cX9_solveFlow 56 = .ok (.new 95, 3) := by decide +kernel
theorem dX9_solveFlow_59 : decode cX9_solveFlow 59 = .ok (.dup, 1) := by decide +kernel
theorem dX9_solveFlow_60 : decode cX9_solveFlow 60 = .ok (.ldc_w 302, 3) := by decide +kernel
theorem dX9_solveFlow_63 : decode cX9_solveFlow 63 = .ok (.invokespecial 99, 3) := by decide +kernel
theorem dX9_solveFlow_66 : decode cX9_solveFlow 66 = .ok (.athrow, 1) := by decide +kernel
theorem dX9_solveFlow_67 : decode cX9_solveFlow 67 = .ok (.return_, 1) := by decide +kernel
theorem dX9_bestChange_0 : decode cX9_bestChange 0 = .ok (.bipush (-9), 2) := by decide +kernel
theorem dX9_bestChange_2 : decode cX9_bestChange 2 = .ok (.istore_n 2, 1) := by decide +kernel
theorem dX9_bestChange_3 : decode cX9_bestChange 3 = .ok (.bipush (-9), 2) := by decide +kernel
theorem dX9_bestChange_5 : decode cX9_bestChange 5 = .ok (.istore_n 3, 1) := by decide +kernel
theorem dX9_bestChange_6 : decode cX9_bestChange 6 = .ok (.iconst 0, 1) := by decide +kernel
theorem dX9_bestChange_7 : decode cX9_bestChange 7 = .ok (.istore 4, 2) := by decide +kernel
theorem dX9_bestChange_9 : decode cX9_bestChange 9 = .ok (.iload 4, 2) := by decide +kernel
theorem dX9_bestChange_11 : decode cX9_bestChange 11 = .ok (.aload_n 0, 1) := by decide +kernel
theorem dX9_bestChange_12 : decode cX9_bestChange 12 = .ok (.getfield 19, 3) := by decide +kernel
theorem dX9_bestChange_15 : decode cX9_bestChange 15 = .ok (.invokevirtual 122, 3) := by decide +kernel
theorem dX9_bestChange_18 : decode cX9_bestChange 18 = .ok (.if_icmp .ge 71, 3) := by decide +kernel
theorem dX9_bestChange_21 : decode cX9_bestChange 21 = .ok (.aload_n 0, 1) := by decide +kernel
theorem dX9_bestChange_22 : decode cX9_bestChange 22 = .ok (.iload 4, 2) := by decide +kernel
theorem dX9_bestChange_24 : decode cX9_bestChange 24 = .ok (.iload_n 1, 1) := by decide +kernel
theorem dX9_bestChange_25 : decode cX9_bestChange 25 = .ok (.invokevirtual 304, 3) := by decide +kernel
theorem dX9_bestChange_28 : decode cX9_bestChange 28 = .ok (.aload_n 0, 1) := by decide +kernel
theorem dX9_bestChange_29 : decode cX9_bestChange 29 = .ok (.getfield 77, 3) := by decide +kernel
theorem dX9_bestChange_32 : decode cX9_bestChange 32 = .ok (.aload_n 0, 1) := by decide +kernel
theorem dX9_bestChange_33 : decode cX9_bestChange 33 = .ok (.getfield 23, 3) := by decide +kernel
theorem dX9_bestChange_36 : decode cX9_bestChange 36 = .ok (.aload_n 0, 1) := by decide +kernel
theorem dX9_bestChange_37 : decode cX9_bestChange 37 = .ok (.getfield 56, 3) := by decide +kernel
theorem dX9_bestChange_40 : decode cX9_bestChange 40 = .ok (.invokevirtual 203, 3) := by decide +kernel
theorem dX9_bestChange_43 : decode cX9_bestChange 43 = .ok (.aload_n 0, 1) := by decide +kernel
theorem dX9_bestChange_44 : decode cX9_bestChange 44 = .ok (.getfield 77, 3) := by decide +kernel
theorem dX9_bestChange_47 : decode cX9_bestChange 47 = .ok (.invokevirtual 207, 3) := by decide +kernel
theorem dX9_bestChange_50 : decode cX9_bestChange 50 = .ok (.ifCond .eq 17, 3) := by decide +kernel
theorem dX9_bestChange_53 : decode cX9_bestChange 53 = .ok (.aload_n 0, 1) := by decide +kernel
theorem dX9_bestChange_54 : decode cX9_bestChange 54 = .ok (.getfield 77, 3) := by decide +kernel
theorem dX9_bestChange_57 : decode cX9_bestChange 57 = .ok (.aload_n 0, 1) := by decide +kernel
theorem dX9_bestChange_58 : decode cX9_bestChange 58 = .ok (.getfield 23, 3) := by decide +kernel
theorem dX9_bestChange_61 : decode cX9_bestChange 61 = .ok (.invokevirtual 224, 3) := by decide +kernel
theorem dX9_bestChange_64 : decode cX9_bestChange 64 = .ok (.goto 5, 3) := by decide +kernel
theorem dX9_bestChange_67 : decode cX9_bestChange 67 = .ok (.bipush (-9), 2) := by decide +kernel
theorem dX9_bestChange_69 : decode cX9_bestChange 69 = .ok (.istore 5, 2) := by decide +kernel
theorem dX9_bestChange_71 : decode cX9_bestChange 71 = .ok (.iload 5, 2) := by decide +kernel
theorem dX9_bestChange_73 : decode cX9_bestChange 73 = .ok (.iload_n 3, 1) := by decide +kernel
theorem dX9_bestChange_74 : decode cX9_bestChange 74 = .ok (.if_icmp .le 9, 3) := by decide +kernel
theorem dX9_bestChange_77 : decode cX9_bestChange 77 = .ok (.iload 5, 2) := by decide +kernel
theorem dX9_bestChange_79 : decode cX9_bestChange 79 = .ok (.istore_n 3, 1) := by decide +kernel
theorem dX9_bestChange_80 : decode cX9_bestChange 80 = .ok (.iload 4, 2) := by decide +kernel
theorem dX9_bestChange_82 : decode cX9_bestChange 82 = .ok (.istore_n 2, 1) := by decide +kernel
theorem dX9_bestChange_83 : decode cX9_bestChange 83 = .ok (.iinc 4 1, 3) := by decide +kernel
theorem dX9_bestChange_86 : decode cX9_bestChange 86 = .ok (.goto (-77), 3) := by decide +kernel
theorem dX9_bestChange_89 : decode cX9_bestChange 89 = .ok (.iload_n 2, 1) := by decide +kernel
theorem dX9_bestChange_90 : decode cX9_bestChange 90 = .ok (.ireturn, 1) := by decide +kernel
theorem dX9_changeTrial_0 : decode cX9_changeTrial 0 = .ok (.aload_n 0, 1) := by decide +kernel
theorem dX9_changeTrial_1 : decode cX9_changeTrial 1 = .ok (.getfield 23, 3) := by decide +kernel
theorem dX9_changeTrial_4 : decode cX9_changeTrial 4 = .ok (.aload_n 0, 1) := by decide +kernel
theorem dX9_changeTrial_5 : decode cX9_changeTrial 5 = .ok (.getfield 19, 3) := by decide +kernel
theorem dX9_changeTrial_8 : decode cX9_changeTrial 8 = .ok (.invokevirtual 258, 3) := by decide +kernel
theorem dX9_changeTrial_11 : decode cX9_changeTrial 11 = .ok (.iload_n 2, 1) := by decide +kernel
theorem dX9_changeTrial_12 : decode cX9_changeTrial 12 = .ok (.ifCond .eq 26, 3) := by decide +kernel
theorem dX9_changeTrial_15 : decode cX9_changeTrial 15 = .ok (.aload_n 0, 1) := by decide +kernel
theorem dX9_changeTrial_16 : decode cX9_changeTrial 16 = .ok (.getfield 23, 3) := by decide +kernel
theorem dX9_changeTrial_19 : decode cX9_changeTrial 19 = .ok (.iload_n 1, 1) := by decide +kernel
theorem dX9_changeTrial_20 : decode cX9_changeTrial 20 = .ok (.iconst 0, 1) := by decide +kernel
theorem dX9_changeTrial_21 : decode cX9_changeTrial 21 = .ok (.iconst 0, 1) := by decide +kernel
theorem dX9_changeTrial_22 : decode cX9_changeTrial 22 = .ok (.invokevirtual 162, 3) := by decide +kernel
theorem dX9_changeTrial_25 : decode cX9_changeTrial 25 = .ok (.aload_n 0, 1) := by decide +kernel
theorem dX9_changeTrial_26 : decode cX9_changeTrial 26 = .ok (.getfield 23, 3) := by decide +kernel
theorem dX9_changeTrial_29 : decode cX9_changeTrial 29 = .ok (.iload_n 1, 1) := by decide +kernel
theorem dX9_changeTrial_30 : decode cX9_changeTrial 30 = .ok (.iconst 1, 1) := by decide +kernel
theorem dX9_changeTrial_31 : decode cX9_changeTrial 31 = .ok (.iconst 0, 1) := by decide +kernel
theorem dX9_changeTrial_32 : decode cX9_changeTrial 32 = .ok (.invokevirtual 162, 3) := by decide +kernel
theorem dX9_changeTrial_35 : decode cX9_changeTrial 35 = .ok (.goto 28, 3) := by decide +kernel
theorem dX9_changeTrial_38 : decode cX9_changeTrial 38 = .ok (.aload_n 0, 1) := by decide +kernel
theorem dX9_changeTrial_39 : decode cX9_changeTrial 39 = .ok (.getfield 23, 3) := by decide +kernel
theorem dX9_changeTrial_42 : decode cX9_changeTrial 42 = .ok (.iload_n 1, 1) := by decide +kernel
theorem dX9_changeTrial_43 : decode cX9_changeTrial 43 = .ok (.iconst 0, 1) := by decide +kernel
theorem dX9_changeTrial_44 : decode cX9_changeTrial 44 = .ok (.bipush 100, 2) := by decide +kernel
theorem dX9_changeTrial_46 : decode cX9_changeTrial 46 = .ok (.aload_n 0, 1) := by decide +kernel
theorem dX9_changeTrial_47 : decode cX9_changeTrial 47 = .ok (.getfield 19, 3) := by decide +kernel
theorem dX9_changeTrial_50 : decode cX9_changeTrial 50 = .ok (.iload_n 1, 1) := by decide +kernel
theorem dX9_changeTrial_51 : decode cX9_changeTrial 51 = .ok (.iconst 0, 1) := by decide +kernel
theorem dX9_changeTrial_52 : decode cX9_changeTrial 52 = .ok (.invokevirtual 131, 3) := by decide +kernel
theorem dX9_changeTrial_55 : decode cX9_changeTrial 55 = .ok (.iconst 5, 1) := by decide +kernel
theorem dX9_changeTrial_56 : decode cX9_changeTrial 56 = .ok (.iadd, 1) := by decide +kernel
theorem dX9_changeTrial_57 : decode cX9_changeTrial 57 = .ok (.invokestatic 308, 3) := by decide +kernel
theorem dX9_changeTrial_60 : decode cX9_changeTrial 60 = .ok (.invokevirtual 162, 3) := by decide +kernel
theorem dX9_changeTrial_63 : decode cX9_changeTrial 63 = .ok (.return_, 1) := by decide +kernel
theorem dX9_prepareUnknown_0 : decode cX9_prepareUnknown 0 = .ok (.aload_n 0, 1) := by decide +kernel
theorem dX9_prepareUnknown_1 : decode cX9_prepareUnknown 1 = .ok (.getfield 23, 3) := by decide +kernel
theorem dX9_prepareUnknown_4 : decode cX9_prepareUnknown 4 = .ok (.aload_n 0, 1) := by decide +kernel
theorem dX9_prepareUnknown_5 : decode cX9_prepareUnknown 5 = .ok (.getfield 19, 3) := by decide +kernel
theorem dX9_prepareUnknown_8 : decode cX9_prepareUnknown 8 = .ok (.invokevirtual 258, 3) := by decide +kernel
theorem dX9_prepareUnknown_11 : decode cX9_prepareUnknown 11 = .ok (.aload_n 0, 1) := by decide +kernel
theorem dX9_prepareUnknown_12 : decode cX9_prepareUnknown 12 = .ok (.getfield 23, 3) := by decide +kernel
theorem dX9_prepareUnknown_15 : decode cX9_prepareUnknown 15 = .ok (.iload_n 1, 1) := by decide +kernel
theorem dX9_prepareUnknown_16 : decode cX9_prepareUnknown 16 = .ok (.iload_n 2, 1) := by decide +kernel
theorem dX9_prepareUnknown_17 : decode cX9_prepareUnknown 17 = .ok (.iconst 0, 1) := by decide +kernel
theorem dX9_prepareUnknown_18 : decode cX9_prepareUnknown 18 = .ok (.invokevirtual 162, 3) := by decide +kernel
theorem dX9_prepareUnknown_21 : decode cX9_prepareUnknown 21 = .ok (.aload_n 0, 1) := by decide +kernel
theorem dX9_prepareUnknown_22 : decode cX9_prepareUnknown 22 = .ok (.getfield 81, 3) := by decide +kernel
theorem dX9_prepareUnknown_25 : decode cX9_prepareUnknown 25 = .ok (.aload_n 0, 1) := by decide +kernel
theorem dX9_prepareUnknown_26 : decode cX9_prepareUnknown 26 = .ok (.getfield 23, 3) := by decide +kernel
theorem dX9_prepareUnknown_29 : decode cX9_prepareUnknown 29 = .ok (.aload_n 0, 1) := by decide +kernel
theorem dX9_prepareUnknown_30 : decode cX9_prepareUnknown 30 = .ok (.getfield 56, 3) := by decide +kernel
theorem dX9_prepareUnknown_33 : decode cX9_prepareUnknown 33 = .ok (.invokevirtual 203, 3) := by decide +kernel
theorem dX9_prepareUnknown_36 : decode cX9_prepareUnknown 36 = .ok (.aload_n 0, 1) := by decide +kernel
theorem dX9_prepareUnknown_37 : decode cX9_prepareUnknown 37 = .ok (.getfield 23, 3) := by decide +kernel
theorem dX9_prepareUnknown_40 : decode cX9_prepareUnknown 40 = .ok (.iload_n 1, 1) := by decide +kernel
theorem dX9_prepareUnknown_41 : decode cX9_prepareUnknown 41 = .ok (.iload_n 2, 1) := by decide +kernel
theorem dX9_prepareUnknown_42 : decode cX9_prepareUnknown 42 = .ok (.iconst 1, 1) := by decide +kernel
theorem dX9_prepareUnknown_43 : decode cX9_prepareUnknown 43 = .ok (.invokevirtual 162, 3) := by decide +kernel
theorem dX9_prepareUnknown_46 : decode cX9_prepareUnknown 46 = .ok (.aload_n 0, 1) := by decide +kernel
theorem dX9_prepareUnknown_47 : decode cX9_prepareUnknown 47 = .ok (.getfield 84, 3) := by decide +kernel
theorem dX9_prepareUnknown_50 : decode cX9_prepareUnknown 50 = .ok (.aload_n 0, 1) := by decide +kernel
theorem dX9_prepareUnknown_51 : decode cX9_prepareUnknown 51 = .ok (.getfield 23, 3) := by decide +kernel
theorem dX9_prepareUnknown_54 : decode cX9_prepareUnknown 54 = .ok (.aload_n 0, 1) := by decide +kernel
theorem dX9_prepareUnknown_55 : decode cX9_prepareUnknown 55 = .ok (.getfield 56, 3) := by decide +kernel
theorem dX9_prepareUnknown_58 : decode cX9_prepareUnknown 58 = .ok (.invokevirtual 203, 3) := by decide +kernel
theorem dX9_prepareUnknown_61 : decode cX9_prepareUnknown 61 = .ok (.return_, 1) := by decide +kernel
theorem dX9_disturbTrial_0 : decode cX9_disturbTrial 0 = .ok (.aload_n 0, 1) := by decide +kernel
theorem dX9_disturbTrial_1 : decode cX9_disturbTrial 1 = .ok (.getfield 23, 3) := by decide +kernel
theorem dX9_disturbTrial_4 : decode cX9_disturbTrial 4 = .ok (.invokevirtual 122, 3) := by decide +kernel
theorem dX9_disturbTrial_7 : decode cX9_disturbTrial 7 = .ok (.istore_n 2, 1) := by decide +kernel
theorem dX9_disturbTrial_8 : decode cX9_disturbTrial 8 = .ok (.iload_n 2, 1) := by decide +kernel
theorem dX9_disturbTrial_9 : decode cX9_disturbTrial 9 = .ok (.ifCond .le 35, 3) := by decide +kernel
theorem dX9_disturbTrial_12 : decode cX9_disturbTrial 12 = .ok (.iload_n 1, 1) := by decide +kernel
theorem dX9_disturbTrial_13 : decode cX9_disturbTrial 13 = .ok (.iconst 3, 1) := by decide +kernel
theorem dX9_disturbTrial_14 : decode cX9_disturbTrial 14 = .ok (.irem, 1) := by decide +kernel
theorem dX9_disturbTrial_15 : decode cX9_disturbTrial 15 = .ok (.ifCond .ne 29, 3) := by decide +kernel
theorem dX9_disturbTrial_18 : decode cX9_disturbTrial 18 = .ok (.aload_n 0, 1) := by decide +kernel
theorem dX9_disturbTrial_19 : decode cX9_disturbTrial 19 = .ok (.getfield 23, 3) := by decide +kernel
theorem dX9_disturbTrial_22 : decode cX9_disturbTrial 22 = .ok (.iload_n 1, 1) := by decide +kernel
theorem dX9_disturbTrial_23 : decode cX9_disturbTrial 23 = .ok (.iconst 3, 1) := by decide +kernel
theorem dX9_disturbTrial_24 : decode cX9_disturbTrial 24 = .ok (.idiv, 1) := by decide +kernel
theorem dX9_disturbTrial_25 : decode cX9_disturbTrial 25 = .ok (.iload_n 2, 1) := by decide +kernel
theorem dX9_disturbTrial_26 : decode cX9_disturbTrial 26 = .ok (.irem, 1) := by decide +kernel
theorem dX9_disturbTrial_27 : decode cX9_disturbTrial 27 = .ok (.iload_n 1, 1) := by decide +kernel
theorem dX9_disturbTrial_28 : decode cX9_disturbTrial 28 = .ok (.bipush 64, 2) := by decide +kernel
theorem dX9_disturbTrial_30 : decode cX9_disturbTrial 30 = .ok (.idiv, 1) := by decide +kernel
theorem dX9_disturbTrial_31 : decode cX9_disturbTrial 31 = .ok (.iconst 2, 1) := by decide +kernel
theorem dX9_disturbTrial_32 : decode cX9_disturbTrial 32 = .ok (.irem, 1) := by decide +kernel
theorem dX9_disturbTrial_33 : decode cX9_disturbTrial 33 = .ok (.iload_n 1, 1) := by decide +kernel
theorem dX9_disturbTrial_34 : decode cX9_disturbTrial 34 = .ok (.sipush 128, 3) := by decide +kernel
theorem dX9_disturbTrial_37 : decode cX9_disturbTrial 37 = .ok (.idiv, 1) := by decide +kernel
theorem dX9_disturbTrial_38 : decode cX9_disturbTrial 38 = .ok (.bipush 101, 2) := by decide +kernel
theorem dX9_disturbTrial_40 : decode cX9_disturbTrial 40 = .ok (.irem, 1) := by decide +kernel
theorem dX9_disturbTrial_41 : decode cX9_disturbTrial 41 = .ok (.invokevirtual 162, 3) := by decide +kernel
theorem dX9_disturbTrial_44 : decode cX9_disturbTrial 44 = .ok (.return_, 1) := by decide +kernel
