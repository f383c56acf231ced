theorem dX4_set_0 : decode cX4_set 0 = .ok (.iload_n 1, 1) := by decide +kernel
theorem dX4_set_1 : decode cX4_set 1 = .ok (.invokestatic 151, 3) := by decide +kernel
theorem dX4_set_4 : decode cX4_set 4 = .ok (.ifCond .ne 13, 3) := by decide +kernel
theorem dX4_set_7 : decode cX4_set 7 = .ok (.new 52, 3) := by decide +kernel
theorem dX4_set_10 : decode cX4_set 10 = .ok (.dup, 1) := by decide +kernel
theorem dX4_set_11 : decode cX4_set 11 = .ok (.ldc 154, 2) := by decide +kernel
theorem dX4_set_13 : decode cX4_set 13 = .ok (.invokespecial 56, 3) := by decide +kernel
theorem dX4_set_16 : decode cX4_set 16 = .ok (.athrow, 1) := by decide +kernel
theorem dX4_set_17 : decode cX4_set 17 = .ok (.iload_n 2, 1) := by decide +kernel
theorem dX4_set_18 : decode cX4_set 18 = .ok (.getstatic 156, 3) := by decide +kernel
theorem dX4_set_21 : decode cX4_set 21 = .ok (.iload_n 1, 1) := by decide +kernel
theorem dX4_set_22 : decode cX4_set 22 = .ok (.invokestatic 130, 3) := by decide +kernel
theorem dX4_set_25 : decode cX4_set 25 = .ok (.if_icmp .lt 14, 3) := by decide +kernel
theorem dX4_set_28 : decode cX4_set 28 = .ok (.iload_n 2, 1) := by decide +kernel
theorem dX4_set_29 : decode cX4_set 29 = .ok (.getstatic 159, 3) := by decide +kernel
theorem dX4_set_32 : decode cX4_set 32 = .ok (.iload_n 1, 1) := by decide +kernel
theorem dX4_set_33 : decode cX4_set 33 = .ok (.invokestatic 130, 3) := by decide +kernel
theorem dX4_set_36 : decode cX4_set 36 = .ok (.if_icmp .le 13, 3) := by decide +kernel
theorem dX4_set_39 : decode cX4_set 39 = .ok (.new 122, 3) := by decide +kernel
theorem dX4_set_42 : decode cX4_set 42 = .ok (.dup, 1) := by decide +kernel
theorem dX4_set_43 : decode cX4_set 43 = .ok (.ldc 162, 2) := by decide +kernel
theorem dX4_set_45 : decode cX4_set 45 = .ok (.invokespecial 126, 3) := by decide +kernel
theorem dX4_set_48 : decode cX4_set 48 = .ok (.athrow, 1) := by decide +kernel
theorem dX4_set_49 : decode cX4_set 49 = .ok (.aload_n 0, 1) := by decide +kernel
theorem dX4_set_50 : decode cX4_set 50 = .ok (.getfield 25, 3) := by decide +kernel
theorem dX4_set_53 : decode cX4_set 53 = .ok (.aload_n 0, 1) := by decide +kernel
theorem dX4_set_54 : decode cX4_set 54 = .ok (.getfield 10, 3) := by decide +kernel
theorem dX4_set_57 : decode cX4_set 57 = .ok (.invokevirtual 67, 3) := by decide +kernel
theorem dX4_set_60 : decode cX4_set 60 = .ok (.aload_n 0, 1) := by decide +kernel
theorem dX4_set_61 : decode cX4_set 61 = .ok (.getfield 10, 3) := by decide +kernel
theorem dX4_set_64 : decode cX4_set 64 = .ok (.getfield 164, 3) := by decide +kernel
theorem dX4_set_67 : decode cX4_set 67 = .ok (.iload_n 1, 1) := by decide +kernel
theorem dX4_set_68 : decode cX4_set 68 = .ok (.invokestatic 130, 3) := by decide +kernel
theorem dX4_set_71 : decode cX4_set 71 = .ok (.istore_n 3, 1) := by decide +kernel
theorem dX4_set_72 : decode cX4_set 72 = .ok (.aload_n 0, 1) := by decide +kernel
theorem dX4_set_73 : decode cX4_set 73 = .ok (.getfield 10, 3) := by decide +kernel
theorem dX4_set_76 : decode cX4_set 76 = .ok (.getfield 164, 3) := by decide +kernel
theorem dX4_set_79 : decode cX4_set 79 = .ok (.iload_n 1, 1) := by decide +kernel
theorem dX4_set_80 : decode cX4_set 80 = .ok (.iload_n 2, 1) := by decide +kernel
theorem dX4_set_81 : decode cX4_set 81 = .ok (.invokestatic 148, 3) := by decide +kernel
theorem dX4_set_84 : decode cX4_set 84 = .ok (.iload_n 3, 1) := by decide +kernel
theorem dX4_set_85 : decode cX4_set 85 = .ok (.ireturn, 1) := by decide +kernel
theorem dX4_keep_0 : decode cX4_keep 0 = .ok (.aload_n 0, 1) := by decide +kernel
theorem dX4_keep_1 : decode cX4_keep 1 = .ok (.getfield 16, 3) := by decide +kernel
theorem dX4_keep_4 : decode cX4_keep 4 = .ok (.aload_n 0, 1) := by decide +kernel
theorem dX4_keep_5 : decode cX4_keep 5 = .ok (.getfield 10, 3) := by decide +kernel
theorem dX4_keep_8 : decode cX4_keep 8 = .ok (.invokevirtual 183, 3) := by decide +kernel
theorem dX4_keep_11 : decode cX4_keep 11 = .ok (.aload_n 0, 1) := by decide +kernel
theorem dX4_keep_12 : decode cX4_keep 12 = .ok (.iconst 1, 1) := by decide +kernel
theorem dX4_keep_13 : decode cX4_keep 13 = .ok (.putfield 44, 3) := by decide +kernel
theorem dX4_keep_16 : decode cX4_keep 16 = .ok (.aload_n 0, 1) := by decide +kernel
theorem dX4_keep_17 : decode cX4_keep 17 = .ok (.getfield 10, 3) := by decide +kernel
theorem dX4_keep_20 : decode cX4_keep 20 = .ok (.getfield 71, 3) := by decide +kernel
theorem dX4_keep_23 : decode cX4_keep 23 = .ok (.getfield 75, 3) := by decide +kernel
theorem dX4_keep_26 : decode cX4_keep 26 = .ok (.ireturn, 1) := by decide +kernel
theorem dX4_goBack_0 : decode cX4_goBack 0 = .ok (.aload_n 0, 1) := by decide +kernel
theorem dX4_goBack_1 : decode cX4_goBack 1 = .ok (.getfield 44, 3) := by decide +kernel
theorem dX4_goBack_4 : decode cX4_goBack 4 = .ok (.ifCond .ne 13, 3) := by decide +kernel
theorem dX4_goBack_7 : decode cX4_goBack 7 = .ok (.new 62, 3) := by decide +kernel
theorem dX4_goBack_10 : decode cX4_goBack 10 = .ok (.dup, 1) := by decide +kernel
theorem dX4_goBack_11 : decode cX4_goBack 11 = .ok (.ldc 186, 2) := by decide +kernel
theorem dX4_goBack_13 : decode cX4_goBack 13 = .ok (.invokespecial 66, 3) := by decide +kernel
theorem dX4_goBack_16 : decode cX4_goBack 16 = .ok (.athrow, 1) := by decide +kernel
theorem dX4_goBack_17 : decode cX4_goBack 17 = .ok (.aload_n 0, 1) := by decide +kernel
theorem dX4_goBack_18 : decode cX4_goBack 18 = .ok (.getfield 25, 3) := by decide +kernel
theorem dX4_goBack_21 : decode cX4_goBack 21 = .ok (.aload_n 0, 1) := by decide +kernel
theorem dX4_goBack_22 : decode cX4_goBack 22 = .ok (.getfield 10, 3) := by decide +kernel
theorem dX4_goBack_25 : decode cX4_goBack 25 = .ok (.invokevirtual 67, 3) := by decide +kernel
theorem dX4_goBack_28 : decode cX4_goBack 28 = .ok (.aload_n 0, 1) := by decide +kernel
theorem dX4_goBack_29 : decode cX4_goBack 29 = .ok (.getfield 10, 3) := by decide +kernel
theorem dX4_goBack_32 : decode cX4_goBack 32 = .ok (.aload_n 0, 1) := by decide +kernel
theorem dX4_goBack_33 : decode cX4_goBack 33 = .ok (.getfield 16, 3) := by decide +kernel
theorem dX4_goBack_36 : decode cX4_goBack 36 = .ok (.invokevirtual 183, 3) := by decide +kernel
theorem dX4_goBack_39 : decode cX4_goBack 39 = .ok (.aload_n 0, 1) := by decide +kernel
theorem dX4_goBack_40 : decode cX4_goBack 40 = .ok (.getfield 10, 3) := by decide +kernel
theorem dX4_goBack_43 : decode cX4_goBack 43 = .ok (.getfield 71, 3) := by decide +kernel
theorem dX4_goBack_46 : decode cX4_goBack 46 = .ok (.getfield 75, 3) := by decide +kernel
theorem dX4_goBack_49 : decode cX4_goBack 49 = .ok (.ireturn, 1) := by decide +kernel
theorem dX4_undo_0 : decode cX4_undo 0 = .ok (.aload_n 0, 1) := by decide +kernel
theorem dX4_undo_1 : decode cX4_undo 1 = .ok (.getfield 25, 3) := by decide +kernel
theorem dX4_undo_4 : decode cX4_undo 4 = .ok (.getfield 188, 3) := by decide +kernel
theorem dX4_undo_7 : decode cX4_undo 7 = .ok (.ifCond .ne 13, 3) := by decide +kernel
theorem dX4_undo_10 : decode cX4_undo 10 = .ok (.new 62, 3) := by decide +kernel
theorem dX4_undo_13 : decode cX4_undo 13 = .ok (.dup, 1) := by decide +kernel
theorem dX4_undo_14 : decode cX4_undo 14 = .ok (.ldc 189, 2) := by decide +kernel
theorem dX4_undo_16 : decode cX4_undo 16 = .ok (.invokespecial 66, 3) := by decide +kernel
theorem dX4_undo_19 : decode cX4_undo 19 = .ok (.athrow, 1) := by decide +kernel
theorem dX4_undo_20 : decode cX4_undo 20 = .ok (.aload_n 0, 1) := by decide +kernel
theorem dX4_undo_21 : decode cX4_undo 21 = .ok (.getfield 25, 3) := by decide +kernel
theorem dX4_undo_24 : decode cX4_undo 24 = .ok (.aload_n 0, 1) := by decide +kernel
theorem dX4_undo_25 : decode cX4_undo 25 = .ok (.getfield 10, 3) := by decide +kernel
theorem dX4_undo_28 : decode cX4_undo 28 = .ok (.invokevirtual 191, 3) := by decide +kernel
theorem dX4_undo_31 : decode cX4_undo 31 = .ok (.aload_n 0, 1) := by decide +kernel
theorem dX4_undo_32 : decode cX4_undo 32 = .ok (.getfield 25, 3) := by decide +kernel
theorem dX4_undo_35 : decode cX4_undo 35 = .ok (.getfield 188, 3) := by decide +kernel
theorem dX4_undo_38 : decode cX4_undo 38 = .ok (.ireturn, 1) := by decide +kernel
theorem dX4_sheet_0 : decode cX4_sheet 0 = .ok (.iload_n 1, 1) := by decide +kernel
theorem dX4_sheet_1 : decode cX4_sheet 1 = .ok (.ifCond .ge 13, 3) := by decide +kernel
theorem dX4_sheet_4 : decode cX4_sheet 4 = .ok (.new 52, 3) := by decide +kernel
theorem dX4_sheet_7 : decode cX4_sheet 7 = .ok (.dup, 1) := by decide +kernel
theorem dX4_sheet_8 : decode cX4_sheet 8 = .ok (.ldc 194, 2) := by decide +kernel
theorem dX4_sheet_10 : decode cX4_sheet 10 = .ok (.invokespecial 56, 3) := by decide +kernel
theorem dX4_sheet_13 : decode cX4_sheet 13 = .ok (.athrow, 1) := by decide +kernel
theorem dX4_sheet_14 : decode cX4_sheet 14 = .ok (.iload_n 2, 1) := by decide +kernel
theorem dX4_sheet_15 : decode cX4_sheet 15 = .ok (.ifCond .lt 9, 3) := by decide +kernel
theorem dX4_sheet_18 : decode cX4_sheet 18 = .ok (.iload_n 2, 1) := by decide +kernel
theorem dX4_sheet_19 : decode cX4_sheet 19 = .ok (.bipush 6, 2) := by decide +kernel
theorem dX4_sheet_21 : decode cX4_sheet 21 = .ok (.if_icmp .lt 13, 3) := by decide +kernel
theorem dX4_sheet_24 : decode cX4_sheet 24 = .ok (.new 122, 3) := by decide +kernel
theorem dX4_sheet_27 : decode cX4_sheet 27 = .ok (.dup, 1) := by decide +kernel
theorem dX4_sheet_28 : decode cX4_sheet 28 = .ok (.ldc 196, 2) := by decide +kernel
theorem dX4_sheet_30 : decode cX4_sheet 30 = .ok (.invokespecial 126, 3) := by decide +kernel
theorem dX4_sheet_33 : decode cX4_sheet 33 = .ok (.athrow, 1) := by decide +kernel
theorem dX4_sheet_34 : decode cX4_sheet 34 = .ok (.aload_n 0, 1) := by decide +kernel
theorem dX4_sheet_35 : decode cX4_sheet 35 = .ok (.getfield 10, 3) := by decide +kernel
theorem dX4_sheet_38 : decode cX4_sheet 38 = .ok (.getfield 71, 3) := by decide +kernel
theorem dX4_sheet_41 : decode cX4_sheet 41 = .ok (.iload_n 1, 1) := by decide +kernel
theorem dX4_sheet_42 : decode cX4_sheet 42 = .ok (.invokevirtual 86, 3) := by decide +kernel
theorem dX4_sheet_45 : decode cX4_sheet 45 = .ok (.ifCond .ne 5, 3) := by decide +kernel
theorem dX4_sheet_48 : decode cX4_sheet 48 = .ok (.iconst (-1), 1) := by decide +kernel
theorem dX4_sheet_49 : decode cX4_sheet 49 = .ok (.ireturn, 1) := by decide +kernel
theorem dX4_sheet_50 : decode cX4_sheet 50 = .ok (.iload_n 2, 1) := by decide +kernel
theorem dX4_sheet_51 : decode cX4_sheet 51 = .ok (.tableswitch 98 0 4 #[33, 48, 63, 72, 89], 33) := by decide +kernel
theorem dX4_sheet_84 : decode cX4_sheet 84 = .ok (.aload_n 0, 1) := by decide +kernel
theorem dX4_sheet_85 : decode cX4_sheet 85 = .ok (.getfield 10, 3) := by decide +kernel
theorem dX4_sheet_88 : decode cX4_sheet 88 = .ok (.getfield 71, 3) := by decide +kernel
theorem dX4_sheet_91 : decode cX4_sheet 91 = .ok (.getfield 198, 3) := by decide +kernel
theorem dX4_sheet_94 : decode cX4_sheet 94 = .ok (.iload_n 1, 1) := by decide +kernel
theorem dX4_sheet_95 : decode cX4_sheet 95 = .ok (.invokestatic 130, 3) := by decide +kernel
theorem dX4_sheet_98 : decode cX4_sheet 98 = .ok (.ireturn, 1) := by decide +kernel
theorem dX4_sheet_99 : decode cX4_sheet 99 = .ok (.aload_n 0, 1) := by decide +kernel
theorem dX4_sheet_100 : decode cX4_sheet 100 = .ok (.getfield 10, 3) := by decide +kernel
theorem dX4_sheet_103 : decode cX4_sheet 103 = .ok (.getfield 71, 3) := by decide +kernel
theorem dX4_sheet_106 : decode cX4_sheet 106 = .ok (.getfield 201, 3) := by decide +kernel
theorem dX4_sheet_109 : decode cX4_sheet 109 = .ok (.iload_n 1, 1) := by decide +kernel
theorem dX4_sheet_110 : decode cX4_sheet 110 = .ok (.invokestatic 130, 3) := by decide +kernel
theorem dX4_sheet_113 : decode cX4_sheet 113 = .ok (.ireturn, 1) := by decide +kernel
theorem dX4_sheet_114 : decode cX4_sheet 114 = .ok (.aload_n 0, 1) := by decide +kernel
theorem dX4_sheet_115 : decode cX4_sheet 115 = .ok (.getfield 10, 3) := by decide +kernel
theorem dX4_sheet_118 : decode cX4_sheet 118 = .ok (.iload_n 1, 1) := by decide +kernel
theorem dX4_sheet_119 : decode cX4_sheet 119 = .ok (.invokevirtual 99, 3) := by decide +kernel
theorem dX4_sheet_122 : decode cX4_sheet 122 = .ok (.ireturn, 1) := by decide +kernel
theorem dX4_sheet_123 : decode cX4_sheet 123 = .ok (.aload_n 0, 1) := by decide +kernel
theorem dX4_sheet_124 : decode cX4_sheet 124 = .ok (.getfield 10, 3) := by decide +kernel
theorem dX4_sheet_127 : decode cX4_sheet 127 = .ok (.iload_n 1, 1) := by decide +kernel
theorem dX4_sheet_128 : decode cX4_sheet 128 = .ok (.invokevirtual 204, 3) := by decide +kernel
theorem dX4_sheet_131 : decode cX4_sheet 131 = .ok (.ifCond .eq 7, 3) := by decide +kernel
theorem dX4_sheet_134 : decode cX4_sheet 134 = .ok (.iconst 1, 1) := by decide +kernel
theorem dX4_sheet_135 : decode cX4_sheet 135 = .ok (.goto 4, 3) := by decide +kernel
theorem dX4_sheet_138 : decode cX4_sheet 138 = .ok (.iconst 0, 1) := by decide +kernel
theorem dX4_sheet_139 : decode cX4_sheet 139 = .ok (.ireturn, 1) := by decide +kernel
theorem dX4_sheet_140 : decode cX4_sheet 140 = .ok (.aload_n 0, 1) := by decide +kernel
theorem dX4_sheet_141 : decode cX4_sheet 141 = .ok (.getfield 10, 3) := by decide +kernel
theorem dX4_sheet_144 : decode cX4_sheet 144 = .ok (.iload_n 1, 1) := by decide +kernel
theorem dX4_sheet_145 : decode cX4_sheet 145 = .ok (.invokevirtual 207, 3) := by decide +kernel
theorem dX4_sheet_148 : decode cX4_sheet 148 = .ok (.ireturn, 1) := by decide +kernel
theorem dX4_sheet_149 : decode cX4_sheet 149 = .ok (.aload_n 0, 1) := by decide +kernel
theorem dX4_sheet_150 : decode cX4_sheet 150 = .ok (.getfield 10, 3) := by decide +kernel
theorem dX4_sheet_153 : decode cX4_sheet 153 = .ok (.getfield 71, 3) := by decide +kernel
theorem dX4_sheet_156 : decode cX4_sheet 156 = .ok (.iload_n 1, 1) := by decide +kernel
theorem dX4_sheet_157 : decode cX4_sheet 157 = .ok (.invokevirtual 210, 3) := by decide +kernel
theorem dX4_sheet_160 : decode cX4_sheet 160 = .ok (.ireturn, 1) := by decide +kernel
theorem dX4_bin_0 : decode cX4_bin 0 = .ok (.iload_n 1, 1) := by decide +kernel
theorem dX4_bin_1 : decode cX4_bin 1 = .ok (.invokestatic 48, 3) := by decide +kernel
theorem dX4_bin_4 : decode cX4_bin 4 = .ok (.ifCond .ne 13, 3) := by decide +kernel
theorem dX4_bin_7 : decode cX4_bin 7 = .ok (.new 52, 3) := by decide +kernel
theorem dX4_bin_10 : decode cX4_bin 10 = .ok (.dup, 1) := by decide +kernel
theorem dX4_bin_11 : decode cX4_bin 11 = .ok (.ldc 54, 2) := by decide +kernel
theorem dX4_bin_13 : decode cX4_bin 13 = .ok (.invokespecial 56, 3) := by decide +kernel
theorem dX4_bin_16 : decode cX4_bin 16 = .ok (.athrow, 1) := by decide +kernel
theorem dX4_bin_17 : decode cX4_bin 17 = .ok (.iload_n 2, 1) := by decide +kernel
theorem dX4_bin_18 : decode cX4_bin 18 = .ok (.ifCond .lt 8, 3) := by decide +kernel
theorem dX4_bin_21 : decode cX4_bin 21 = .ok (.iload_n 2, 1) := by decide +kernel
theorem dX4_bin_22 : decode cX4_bin 22 = .ok (.iconst 5, 1) := by decide +kernel
theorem dX4_bin_23 : decode cX4_bin 23 = .ok (.if_icmp .lt 13, 3) := by decide +kernel
theorem dX4_bin_26 : decode cX4_bin 26 = .ok (.new 122, 3) := by decide +kernel
theorem dX4_bin_29 : decode cX4_bin 29 = .ok (.dup, 1) := by decide +kernel
theorem dX4_bin_30 : decode cX4_bin 30 = .ok (.ldc 196, 2) := by decide +kernel
theorem dX4_bin_32 : decode cX4_bin 32 = .ok (.invokespecial 126, 3) := by decide +kernel
theorem dX4_bin_35 : decode cX4_bin 35 = .ok (.athrow, 1) := by decide +kernel
theorem dX4_bin_36 : decode cX4_bin 36 = .ok (.iload_n 2, 1) := by decide +kernel
theorem dX4_bin_37 : decode cX4_bin 37 = .ok (.tableswitch 79 0 3 #[31, 43, 55, 67], 31) := by decide +kernel
theorem dX4_bin_68 : decode cX4_bin 68 = .ok (.aload_n 0, 1) := by decide +kernel
theorem dX4_bin_69 : decode cX4_bin 69 = .ok (.getfield 10, 3) := by decide +kernel
theorem dX4_bin_72 : decode cX4_bin 72 = .ok (.getfield 127, 3) := by decide +kernel
theorem dX4_bin_75 : decode cX4_bin 75 = .ok (.iload_n 1, 1) := by decide +kernel
theorem dX4_bin_76 : decode cX4_bin 76 = .ok (.invokestatic 130, 3) := by decide +kernel
theorem dX4_bin_79 : decode cX4_bin 79 = .ok (.ireturn, 1) := by decide +kernel
theorem dX4_bin_80 : decode cX4_bin 80 = .ok (.aload_n 0, 1) := by decide +kernel
theorem dX4_bin_81 : decode cX4_bin 81 = .ok (.getfield 10, 3) := by decide +kernel
theorem dX4_bin_84 : decode cX4_bin 84 = .ok (.getfield 71, 3) := by decide +kernel
theorem dX4_bin_87 : decode cX4_bin 87 = .ok (.iload_n 1, 1) := by decide +kernel
theorem dX4_bin_88 : decode cX4_bin 88 = .ok (.invokevirtual 213, 3) := by decide +kernel
theorem dX4_bin_91 : decode cX4_bin 91 = .ok (.ireturn, 1) := by decide +kernel
theorem dX4_bin_92 : decode cX4_bin 92 = .ok (.aload_n 0, 1) := by decide +kernel
theorem dX4_bin_93 : decode cX4_bin 93 = .ok (.getfield 10, 3) := by decide +kernel
theorem dX4_bin_96 : decode cX4_bin 96 = .ok (.getfield 216, 3) := by decide +kernel
theorem dX4_bin_99 : decode cX4_bin 99 = .ok (.iload_n 1, 1) := by decide +kernel
theorem dX4_bin_100 : decode cX4_bin 100 = .ok (.invokestatic 130, 3) := by decide +kernel
theorem dX4_bin_103 : decode cX4_bin 103 = .ok (.ireturn, 1) := by decide +kernel
theorem dX4_bin_104 : decode cX4_bin 104 = .ok (.aload_n 0, 1) := by decide +kernel
theorem dX4_bin_105 : decode cX4_bin 105 = .ok (.getfield 10, 3) := by decide +kernel
theorem dX4_bin_108 : decode cX4_bin 108 = .ok (.getfield 140, 3) := by decide +kernel
theorem dX4_bin_111 : decode cX4_bin 111 = .ok (.iload_n 1, 1) := by decide +kernel
theorem dX4_bin_112 : decode cX4_bin 112 = .ok (.invokestatic 130, 3) := by decide +kernel
theorem dX4_bin_115 : decode cX4_bin 115 = .ok (.ireturn, 1) := by decide +kernel
theorem dX4_bin_116 : decode cX4_bin 116 = .ok (.aload_n 0, 1) := by decide +kernel
theorem dX4_bin_117 : decode cX4_bin 117 = .ok (.getfield 10, 3) := by decide +kernel
theorem dX4_bin_120 : decode cX4_bin 120 = .ok (.getfield 145, 3) := by decide +kernel
theorem dX4_bin_123 : decode cX4_bin 123 = .ok (.iload_n 1, 1) := by decide +kernel
theorem dX4_bin_124 : decode cX4_bin 124 = .ok (.invokestatic 130, 3) := by decide +kernel
theorem dX4_bin_127 : decode cX4_bin 127 = .ok (.ireturn, 1) := by decide +kernel
theorem dX4_count_0 : decode cX4_count 0 = .ok (.iload_n 1, 1) := by decide +kernel
theorem dX4_count_1 : decode cX4_count 1 = .ok (.ifCond .lt 9, 3) := by decide +kernel
theorem dX4_count_4 : decode cX4_count 4 = .ok (.iload_n 1, 1) := by decide +kernel
theorem dX4_count_5 : decode cX4_count 5 = .ok (.bipush 16, 2) := by decide +kernel
theorem dX4_count_7 : decode cX4_count 7 = .ok (.if_icmp .lt 13, 3) := by decide +kernel
theorem dX4_count_10 : decode cX4_count 10 = .ok (.new 122, 3) := by decide +kernel
theorem dX4_count_13 : decode cX4_count 13 = .ok (.dup, 1) := by decide +kernel
theorem dX4_count_14 : decode cX4_count 14 = .ok (.ldc 196, 2) := by decide +kernel
theorem dX4_count_16 : decode cX4_count 16 = .ok (.invokespecial 126, 3) := by decide +kernel
theorem dX4_count_19 : decode cX4_count 19 = .ok (.athrow, 1) := by decide +kernel
theorem dX4_count_20 : decode cX4_count 20 = .ok (.iload_n 1, 1) := by decide +kernel
theorem dX4_count_21 : decode cX4_count 21 = .ok (.tableswitch 225 0 14 #[75, 86, 94, 102, 110, 118, 144, 155, 166, 177, 185, 193, 201, 209, 217], 75) := by decide +kernel
theorem dX4_count_96 : decode cX4_count 96 = .ok (.aload_n 0, 1) := by decide +kernel
theorem dX4_count_97 : decode cX4_count 97 = .ok (.getfield 10, 3) := by decide +kernel
theorem dX4_count_100 : decode cX4_count 100 = .ok (.getfield 71, 3) := by decide +kernel
theorem dX4_count_103 : decode cX4_count 103 = .ok (.getfield 75, 3) := by decide +kernel
theorem dX4_count_106 : decode cX4_count 106 = .ok (.ireturn, 1) := by decide +kernel
theorem dX4_count_107 : decode cX4_count 107 = .ok (.aload_n 0, 1) := by decide +kernel
theorem dX4_count_108 : decode cX4_count 108 = .ok (.getfield 10, 3) := by decide +kernel
theorem dX4_count_111 : decode cX4_count 111 = .ok (.invokevirtual 107, 3) := by decide +kernel
theorem dX4_count_114 : decode cX4_count 114 = .ok (.ireturn, 1) := by decide +kernel
theorem dX4_count_115 : decode cX4_count 115 = .ok (.aload_n 0, 1) := by decide +kernel
theorem dX4_count_116 : decode cX4_count 116 = .ok (.getfield 10, 3) := by decide +kernel
theorem dX4_count_119 : decode cX4_count 119 = .ok (.invokevirtual 111, 3) := by decide +kernel
theorem dX4_count_122 : decode cX4_count 122 = .ok (.ireturn, 1) := by decide +kernel
theorem dX4_count_123 : decode cX4_count 123 = .ok (.aload_n 0, 1) := by decide +kernel
theorem dX4_count_124 : decode cX4_count 124 = .ok (.getfield 10, 3) := by decide +kernel
theorem dX4_count_127 : decode cX4_count 127 = .ok (.invokevirtual 219, 3) := by decide +kernel
theorem dX4_count_130 : decode cX4_count 130 = .ok (.ireturn, 1) := by decide +kernel
theorem dX4_count_131 : decode cX4_count 131 = .ok (.aload_n 0, 1) := by decide +kernel
theorem dX4_count_132 : decode cX4_count 132 = .ok (.getfield 10, 3) := by decide +kernel
theorem dX4_count_135 : decode cX4_count 135 = .ok (.invokevirtual 222, 3) := by decide +kernel
theorem dX4_count_138 : decode cX4_count 138 = .ok (.ireturn, 1) := by decide +kernel
theorem dX4_count_139 : decode cX4_count 139 = .ok (.aload_n 0, 1) := by decide +kernel
theorem dX4_count_140 : decode cX4_count 140 = .ok (.getfield 10, 3) := by decide +kernel
theorem dX4_count_143 : decode cX4_count 143 = .ok (.invokevirtual 111, 3) := by decide +kernel
theorem dX4_count_146 : decode cX4_count 146 = .ok (.ifCond .eq 17, 3) := by decide +kernel
theorem dX4_count_149 : decode cX4_count 149 = .ok (.aload_n 0, 1) := by decide +kernel
theorem dX4_count_150 : decode cX4_count 150 = .ok (.getfield 10, 3) := by decide +kernel
theorem dX4_count_153 : decode cX4_count 153 = .ok (.invokevirtual 107, 3) := by decide +kernel
theorem dX4_count_156 : decode cX4_count 156 = .ok (.ifCond .ne 7, 3) := by decide +kernel
theorem dX4_count_159 : decode cX4_count 159 = .ok (.iconst 1, 1) := by decide +kernel
theorem dX4_count_160 : decode cX4_count 160 = .ok (.goto 4, 3) := by decide +kernel
theorem dX4_count_163 : decode cX4_count 163 = .ok (.iconst 0, 1) := by decide +kernel
theorem dX4_count_164 : decode cX4_count 164 = .ok (.ireturn, 1) := by decide +kernel
theorem dX4_count_165 : decode cX4_count 165 = .ok (.aload_n 0, 1) := by decide +kernel
theorem dX4_count_166 : decode cX4_count 166 = .ok (.getfield 10, 3) := by decide +kernel
theorem dX4_count_169 : decode cX4_count 169 = .ok (.getfield 71, 3) := by decide +kernel
theorem dX4_count_172 : decode cX4_count 172 = .ok (.invokevirtual 225, 3) := by decide +kernel
theorem dX4_count_175 : decode cX4_count 175 = .ok (.ireturn, 1) := by decide +kernel
theorem dX4_count_176 : decode cX4_count 176 = .ok (.aload_n 0, 1) := by decide +kernel
theorem dX4_count_177 : decode cX4_count 177 = .ok (.getfield 10, 3) := by decide +kernel
theorem dX4_count_180 : decode cX4_count 180 = .ok (.getfield 71, 3) := by decide +kernel
theorem dX4_count_183 : decode cX4_count 183 = .ok (.invokevirtual 228, 3) := by decide +kernel
theorem dX4_count_186 : decode cX4_count 186 = .ok (.ireturn, 1) := by decide +kernel
theorem dX4_count_187 : decode cX4_count 187 = .ok (.aload_n 0, 1) := by decide +kernel
theorem dX4_count_188 : decode cX4_count 188 = .ok (.getfield 10, 3) := by decide +kernel
theorem dX4_count_191 : decode cX4_count 191 = .ok (.getfield 71, 3) := by decide +kernel
theorem dX4_count_194 : decode cX4_count 194 = .ok (.invokevirtual 231, 3) := by decide +kernel
theorem dX4_count_197 : decode cX4_count 197 = .ok (.ireturn, 1) := by decide +kernel
theorem dX4_count_198 : decode cX4_count 198 = .ok (.aload_n 0, 1) := by decide +kernel
theorem dX4_count_199 : decode cX4_count 199 = .ok (.getfield 10, 3) := by decide +kernel
theorem dX4_count_202 : decode cX4_count 202 = .ok (.invokevirtual 234, 3) := by decide +kernel
theorem dX4_count_205 : decode cX4_count 205 = .ok (.ireturn, 1) := by decide +kernel
theorem dX4_count_206 : decode cX4_count 206 = .ok (.aload_n 0, 1) := by decide +kernel
theorem dX4_count_207 : decode cX4_count 207 = .ok (.getfield 10, 3) := by decide +kernel
theorem dX4_count_210 : decode cX4_count 210 = .ok (.invokevirtual 237, 3) := by decide +kernel
theorem dX4_count_213 : decode cX4_count 213 = .ok (.ireturn, 1) := by decide +kernel
theorem dX4_count_214 : decode cX4_count 214 = .ok (.aload_n 0, 1) := by decide +kernel
theorem dX4_count_215 : decode cX4_count 215 = .ok (.getfield 10, 3) := by decide +kernel
theorem dX4_count_218 : decode cX4_count 218 = .ok (.invokevirtual 240, 3) := by decide +kernel
theorem dX4_count_221 : decode cX4_count 221 = .ok (.ireturn, 1) := by decide +kernel
theorem dX4_count_222 : decode cX4_count 222 = .ok (.aload_n 0, 1) := by decide +kernel
theorem dX4_count_223 : decode cX4_count 223 = .ok (.getfield 10, 3) := by decide +kernel
theorem dX4_count_226 : decode cX4_count 226 = .ok (.getfield 119, 3) := by decide +kernel
theorem dX4_count_229 : decode cX4_count 229 = .ok (.ireturn, 1) := by decide +kernel
theorem dX4_count_230 : decode cX4_count 230 = .ok (.aload_n 0, 1) := by decide +kernel
theorem dX4_count_231 : decode cX4_count 231 = .ok (.getfield 10, 3) := by decide +kernel
theorem dX4_count_234 : decode cX4_count 234 = .ok (.invokevirtual 243, 3) := by decide +kernel
theorem dX4_count_237 : decode cX4_count 237 = .ok (.ireturn, 1) := by decide +kernel
theorem dX4_count_238 : decode cX4_count 238 = .ok (.aload_n 0, 1) := by decide +kernel
theorem dX4_count_239 : decode cX4_count 239 = .ok (.getfield 10, 3) := by decide +kernel
theorem dX4_count_242 : decode cX4_count 242 = .ok (.getfield 246, 3) := by decide +kernel
theorem dX4_count_245 : decode cX4_count 245 = .ok (.ireturn, 1) := by decide +kernel
theorem dX4_count_246 : decode cX4_count 246 = .ok (.aload_n 0, 1) := by decide +kernel
theorem dX4_count_247 : decode cX4_count 247 = .ok (.getfield 25, 3) := by decide +kernel
theorem dX4_count_250 : decode cX4_count 250 = .ok (.getfield 188, 3) := by decide +kernel
theorem dX4_count_253 : decode cX4_count 253 = .ok (.ireturn, 1) := by decide +kernel
theorem dX4_setting_0 : decode cX4_setting 0 = .ok (.iload_n 1, 1) := by decide +kernel
theorem dX4_setting_1 : decode cX4_setting 1 = .ok (.invokestatic 151, 3) := by decide +kernel
theorem dX4_setting_4 : decode cX4_setting 4 = .ok (.ifCond .ne 13, 3) := by decide +kernel
theorem dX4_setting_7 : decode cX4_setting 7 = .ok (.new 52, 3) := by decide +kernel
theorem dX4_setting_10 : decode cX4_setting 10 = .ok (.dup, 1) := by decide +kernel
theorem dX4_setting_11 : decode cX4_setting 11 = .ok (.ldc 154, 2) := by decide +kernel
theorem dX4_setting_13 : decode cX4_setting 13 = .ok (.invokespecial 56, 3) := by decide +kernel
theorem dX4_setting_16 : decode cX4_setting 16 = .ok (.athrow, 1) := by decide +kernel
theorem dX4_setting_17 : decode cX4_setting 17 = .ok (.aload_n 0, 1) := by decide +kernel
theorem dX4_setting_18 : decode cX4_setting 18 = .ok (.getfield 10, 3) := by decide +kernel
theorem dX4_setting_21 : decode cX4_setting 21 = .ok (.getfield 164, 3) := by decide +kernel
theorem dX4_setting_24 : decode cX4_setting 24 = .ok (.iload_n 1, 1) := by decide +kernel
theorem dX4_setting_25 : decode cX4_setting 25 = .ok (.invokestatic 130, 3) := by decide +kernel
theorem dX4_setting_28 : decode cX4_setting 28 = .ok (.ireturn, 1) := by decide +kernel
theorem dX4_nextMove_0 : decode cX4_nextMove 0 = .ok (.aload_n 0, 1) := by decide +kernel
theorem dX4_nextMove_1 : decode cX4_nextMove 1 = .ok (.getfield 10, 3) := by decide +kernel
theorem dX4_nextMove_4 : decode cX4_nextMove 4 = .ok (.getfield 71, 3) := by decide +kernel
theorem dX4_nextMove_7 : decode cX4_nextMove 7 = .ok (.getfield 75, 3) := by decide +kernel
theorem dX4_nextMove_10 : decode cX4_nextMove 10 = .ok (.istore_n 1, 1) := by decide +kernel
theorem dX4_nextMove_11 : decode cX4_nextMove 11 = .ok (.aload_n 0, 1) := by decide +kernel
theorem dX4_nextMove_12 : decode cX4_nextMove 12 = .ok (.getfield 10, 3) := by decide +kernel
theorem dX4_nextMove_15 : decode cX4_nextMove 15 = .ok (.getfield 71, 3) := by decide +kernel
theorem dX4_nextMove_18 : decode cX4_nextMove 18 = .ok (.invokevirtual 249, 3) := by decide +kernel
theorem dX4_nextMove_21 : decode cX4_nextMove 21 = .ok (.istore_n 2, 1) := by decide +kernel
theorem dX4_nextMove_22 : decode cX4_nextMove 22 = .ok (.iload_n 2, 1) := by decide +kernel
theorem dX4_nextMove_23 : decode cX4_nextMove 23 = .ok (.iload_n 1, 1) := by decide +kernel
theorem dX4_nextMove_24 : decode cX4_nextMove 24 = .ok (.if_icmp .lt 5, 3) := by decide +kernel
theorem dX4_nextMove_27 : decode cX4_nextMove 27 = .ok (.iconst (-1), 1) := by decide +kernel
theorem dX4_nextMove_28 : decode cX4_nextMove 28 = .ok (.ireturn, 1) := by decide +kernel
theorem dX4_nextMove_29 : decode cX4_nextMove 29 = .ok (.aload_n 0, 1) := by decide +kernel
theorem dX4_nextMove_30 : decode cX4_nextMove 30 = .ok (.getfield 19, 3) := by decide +kernel
theorem dX4_nextMove_33 : decode cX4_nextMove 33 = .ok (.getfield 71, 3) := by decide +kernel
theorem dX4_nextMove_36 : decode cX4_nextMove 36 = .ok (.astore_n 3, 1) := by decide +kernel
theorem dX4_nextMove_37 : decode cX4_nextMove 37 = .ok (.iconst 0, 1) := by decide +kernel
theorem dX4_nextMove_38 : decode cX4_nextMove 38 = .ok (.istore 4, 2) := by decide +kernel
theorem dX4_nextMove_40 : decode cX4_nextMove 40 = .ok (.iload 4, 2) := by decide +kernel
theorem dX4_nextMove_42 : decode cX4_nextMove 42 = .ok (.iload_n 1, 1) := by decide +kernel
theorem dX4_nextMove_43 : decode cX4_nextMove 43 = .ok (.if_icmp .ge 65, 3) := by decide +kernel
theorem dX4_nextMove_46 : decode cX4_nextMove 46 = .ok (.aload_n 3, 1) := by decide +kernel
theorem dX4_nextMove_47 : decode cX4_nextMove 47 = .ok (.aload_n 0, 1) := by decide +kernel
theorem dX4_nextMove_48 : decode cX4_nextMove 48 = .ok (.getfield 10, 3) := by decide +kernel
theorem dX4_nextMove_51 : decode cX4_nextMove 51 = .ok (.getfield 71, 3) := by decide +kernel
theorem dX4_nextMove_54 : decode cX4_nextMove 54 = .ok (.invokevirtual 252, 3) := by decide +kernel
theorem dX4_nextMove_57 : decode cX4_nextMove 57 = .ok (.aload_n 3, 1) := by decide +kernel
theorem dX4_nextMove_58 : decode cX4_nextMove 58 = .ok (.iload 4, 2) := by decide +kernel
theorem dX4_nextMove_60 : decode cX4_nextMove 60 = .ok (.invokevirtual 255, 3) := by decide +kernel
theorem dX4_nextMove_63 : decode cX4_nextMove 63 = .ok (.aload_n 3, 1) := by decide +kernel
theorem dX4_nextMove_64 : decode cX4_nextMove 64 = .ok (.iload_n 2, 1) := by decide +kernel
theorem dX4_nextMove_65 : decode cX4_nextMove 65 = .ok (.iconst 1, 1) := by decide +kernel
theorem dX4_nextMove_66 : decode cX4_nextMove 66 = .ok (.iadd, 1) := by decide +kernel
theorem dX4_nextMove_67 : decode cX4_nextMove 67 = .ok (.aload_n 0, 1) := by decide +kernel
theorem dX4_nextMove_68 : decode cX4_nextMove 68 = .ok (.getfield 10, 3) := by decide +kernel
theorem dX4_nextMove_71 : decode cX4_nextMove 71 = .ok (.getfield 71, 3) := by decide +kernel
theorem dX4_nextMove_74 : decode cX4_nextMove 74 = .ok (.getfield 198, 3) := by decide +kernel
theorem dX4_nextMove_77 : decode cX4_nextMove 77 = .ok (.iload 4, 2) := by decide +kernel
theorem dX4_nextMove_79 : decode cX4_nextMove 79 = .ok (.invokestatic 130, 3) := by decide +kernel
theorem dX4_nextMove_82 : decode cX4_nextMove 82 = .ok (.invokevirtual 258, 3) := by decide +kernel
theorem dX4_nextMove_85 : decode cX4_nextMove 85 = .ok (.istore 5, 2) := by decide +kernel
theorem dX4_nextMove_87 : decode cX4_nextMove 87 = .ok (.iload 5, 2) := by decide +kernel
theorem dX4_nextMove_89 : decode cX4_nextMove 89 = .ok (.iconst (-1), 1) := by decide +kernel
theorem dX4_nextMove_90 : decode cX4_nextMove 90 = .ok (.if_icmp .eq 12, 3) := by decide +kernel
theorem dX4_nextMove_93 : decode cX4_nextMove 93 = .ok (.bipush 20, 2) := by decide +kernel
theorem dX4_nextMove_95 : decode cX4_nextMove 95 = .ok (.iload 4, 2) := by decide +kernel
theorem dX4_nextMove_97 : decode cX4_nextMove 97 = .ok (.imul, 1) := by decide +kernel
theorem dX4_nextMove_98 : decode cX4_nextMove 98 = .ok (.iload 5, 2) := by decide +kernel
theorem dX4_nextMove_100 : decode cX4_nextMove 100 = .ok (.iadd, 1) := by decide +kernel
theorem dX4_nextMove_101 : decode cX4_nextMove 101 = .ok (.ireturn, 1) := by decide +kernel
theorem dX4_nextMove_102 : decode cX4_nextMove 102 = .ok (.iinc 4 1, 3) := by decide +kernel
theorem dX4_nextMove_105 : decode cX4_nextMove 105 = .ok (.goto (-65), 3) := by decide +kernel
theorem dX4_nextMove_108 : decode cX4_nextMove 108 = .ok (.iconst (-1), 1) := by decide +kernel
theorem dX4_nextMove_109 : decode cX4_nextMove 109 = .ok (.ireturn, 1) := by decide +kernel
theorem dX4_ifPulled_0 : decode cX4_ifPulled 0 = .ok (.aload_n 0, 1) := by decide +kernel
theorem dX4_ifPulled_1 : decode cX4_ifPulled 1 = .ok (.getfield 10, 3) := by decide +kernel
theorem dX4_ifPulled_4 : decode cX4_ifPulled 4 = .ok (.getfield 71, 3) := by decide +kernel
theorem dX4_ifPulled_7 : decode cX4_ifPulled 7 = .ok (.iload_n 1, 1) := by decide +kernel
theorem dX4_ifPulled_8 : decode cX4_ifPulled 8 = .ok (.invokevirtual 86, 3) := by decide +kernel
theorem dX4_ifPulled_11 : decode cX4_ifPulled 11 = .ok (.ifCond .ne 13, 3) := by decide +kernel
theorem dX4_ifPulled_14 : decode cX4_ifPulled 14 = .ok (.new 52, 3) := by decide +kernel
theorem dX4_ifPulled_17 : decode cX4_ifPulled 17 = .ok (.dup, 1) := by decide +kernel
theorem dX4_ifPulled_18 : decode cX4_ifPulled 18 = .ok (.ldc 89, 2) := by decide +kernel
theorem dX4_ifPulled_20 : decode cX4_ifPulled 20 = .ok (.invokespecial 56, 3) := by decide +kernel
theorem dX4_ifPulled_23 : decode cX4_ifPulled 23 = .ok (.athrow, 1) := by decide +kernel
theorem dX4_ifPulled_24 : decode cX4_ifPulled 24 = .ok (.iload_n 2, 1) := by decide +kernel
theorem dX4_ifPulled_25 : decode cX4_ifPulled 25 = .ok (.ifCond .lt 8, 3) := by decide +kernel
theorem dX4_ifPulled_28 : decode cX4_ifPulled 28 = .ok (.iload_n 2, 1) := by decide +kernel
theorem dX4_ifPulled_29 : decode cX4_ifPulled 29 = .ok (.iconst 4, 1) := by decide +kernel
theorem dX4_ifPulled_30 : decode cX4_ifPulled 30 = .ok (.if_icmp .lt 13, 3) := by decide +kernel
theorem dX4_ifPulled_33 : decode cX4_ifPulled 33 = .ok (.new 122, 3) := by decide +kernel
theorem dX4_ifPulled_36 : decode cX4_ifPulled 36 = .ok (.dup, 1) := by decide +kernel
theorem dX4_ifPulled_37 : decode cX4_ifPulled 37 = .ok (.ldc 196, 2) := by decide +kernel
theorem dX4_ifPulled_39 : decode cX4_ifPulled 39 = .ok (.invokespecial 126, 3) := by decide +kernel
theorem dX4_ifPulled_42 : decode cX4_ifPulled 42 = .ok (.athrow, 1) := by decide +kernel
theorem dX4_ifPulled_43 : decode cX4_ifPulled 43 = .ok (.aload_n 0, 1) := by decide +kernel
theorem dX4_ifPulled_44 : decode cX4_ifPulled 44 = .ok (.getfield 19, 3) := by decide +kernel
theorem dX4_ifPulled_47 : decode cX4_ifPulled 47 = .ok (.aload_n 0, 1) := by decide +kernel
theorem dX4_ifPulled_48 : decode cX4_ifPulled 48 = .ok (.getfield 10, 3) := by decide +kernel
theorem dX4_ifPulled_51 : decode cX4_ifPulled 51 = .ok (.invokevirtual 183, 3) := by decide +kernel
theorem dX4_ifPulled_54 : decode cX4_ifPulled 54 = .ok (.aload_n 0, 1) := by decide +kernel
theorem dX4_ifPulled_55 : decode cX4_ifPulled 55 = .ok (.getfield 19, 3) := by decide +kernel
theorem dX4_ifPulled_58 : decode cX4_ifPulled 58 = .ok (.getfield 71, 3) := by decide +kernel
theorem dX4_ifPulled_61 : decode cX4_ifPulled 61 = .ok (.iload_n 1, 1) := by decide +kernel
theorem dX4_ifPulled_62 : decode cX4_ifPulled 62 = .ok (.invokevirtual 255, 3) := by decide +kernel
theorem dX4_ifPulled_65 : decode cX4_ifPulled 65 = .ok (.iload_n 2, 1) := by decide +kernel
theorem dX4_ifPulled_66 : decode cX4_ifPulled 66 = .ok (.tableswitch 53 0 2 #[26, 34, 42], 26) := by decide +kernel
theorem dX4_ifPulled_92 : decode cX4_ifPulled 92 = .ok (.aload_n 0, 1) := by decide +kernel
theorem dX4_ifPulled_93 : decode cX4_ifPulled 93 = .ok (.getfield 19, 3) := by decide +kernel
theorem dX4_ifPulled_96 : decode cX4_ifPulled 96 = .ok (.invokevirtual 107, 3) := by decide +kernel
theorem dX4_ifPulled_99 : decode cX4_ifPulled 99 = .ok (.ireturn, 1) := by decide +kernel
theorem dX4_ifPulled_100 : decode cX4_ifPulled 100 = .ok (.aload_n 0, 1) := by decide +kernel
theorem dX4_ifPulled_101 : decode cX4_ifPulled 101 = .ok (.getfield 19, 3) := by decide +kernel
theorem dX4_ifPulled_104 : decode cX4_ifPulled 104 = .ok (.invokevirtual 111, 3) := by decide +kernel
theorem dX4_ifPulled_107 : decode cX4_ifPulled 107 = .ok (.ireturn, 1) := by decide +kernel
theorem dX4_ifPulled_108 : decode cX4_ifPulled 108 = .ok (.aload_n 0, 1) := by decide +kernel
theorem dX4_ifPulled_109 : decode cX4_ifPulled 109 = .ok (.getfield 19, 3) := by decide +kernel
theorem dX4_ifPulled_112 : decode cX4_ifPulled 112 = .ok (.getfield 71, 3) := by decide +kernel
theorem dX4_ifPulled_115 : decode cX4_ifPulled 115 = .ok (.invokevirtual 225, 3) := by decide +kernel
theorem dX4_ifPulled_118 : decode cX4_ifPulled 118 = .ok (.ireturn, 1) := by decide +kernel
theorem dX4_ifPulled_119 : decode cX4_ifPulled 119 = .ok (.aload_n 0, 1) := by decide +kernel
theorem dX4_ifPulled_120 : decode cX4_ifPulled 120 = .ok (.getfield 19, 3) := by decide +kernel
theorem dX4_ifPulled_123 : decode cX4_ifPulled 123 = .ok (.invokevirtual 234, 3) := by decide +kernel
theorem dX4_ifPulled_126 : decode cX4_ifPulled 126 = .ok (.ireturn, 1) := by decide +kernel
theorem dX4_fits_0 : decode cX4_fits 0 = .ok (.aload_n 0, 1) := by decide +kernel
theorem dX4_fits_1 : decode cX4_fits 1 = .ok (.getfield 10, 3) := by decide +kernel
theorem dX4_fits_4 : decode cX4_fits 4 = .ok (.getfield 71, 3) := by decide +kernel
theorem dX4_fits_7 : decode cX4_fits 7 = .ok (.getfield 75, 3) := by decide +kernel
theorem dX4_fits_10 : decode cX4_fits 10 = .ok (.bipush 20, 2) := by decide +kernel
theorem dX4_fits_12 : decode cX4_fits 12 = .ok (.if_icmp .lt 5, 3) := by decide +kernel
theorem dX4_fits_15 : decode cX4_fits 15 = .ok (.iconst (-1), 1) := by decide +kernel
theorem dX4_fits_16 : decode cX4_fits 16 = .ok (.ireturn, 1) := by decide +kernel
theorem dX4_fits_17 : decode cX4_fits 17 = .ok (.aload_n 0, 1) := by decide +kernel
theorem dX4_fits_18 : decode cX4_fits 18 = .ok (.getfield 10, 3) := by decide +kernel
theorem dX4_fits_21 : decode cX4_fits 21 = .ok (.aload_n 0, 1) := by decide +kernel
theorem dX4_fits_22 : decode cX4_fits 22 = .ok (.getfield 10, 3) := by decide +kernel
theorem dX4_fits_25 : decode cX4_fits 25 = .ok (.getfield 71, 3) := by decide +kernel
theorem dX4_fits_28 : decode cX4_fits 28 = .ok (.getfield 75, 3) := by decide +kernel
theorem dX4_fits_31 : decode cX4_fits 31 = .ok (.invokevirtual 262, 3) := by decide +kernel
theorem dX4_fits_34 : decode cX4_fits 34 = .ok (.istore_n 1, 1) := by decide +kernel
theorem dX4_fits_35 : decode cX4_fits 35 = .ok (.iconst 0, 1) := by decide +kernel
theorem dX4_fits_36 : decode cX4_fits 36 = .ok (.istore_n 2, 1) := by decide +kernel
theorem dX4_fits_37 : decode cX4_fits 37 = .ok (.iload_n 2, 1) := by decide +kernel
theorem dX4_fits_38 : decode cX4_fits 38 = .ok (.bipush 16, 2) := by decide +kernel
theorem dX4_fits_40 : decode cX4_fits 40 = .ok (.if_icmp .ge 37, 3) := by decide +kernel
theorem dX4_fits_43 : decode cX4_fits 43 = .ok (.aload_n 0, 1) := by decide +kernel
theorem dX4_fits_44 : decode cX4_fits 44 = .ok (.getfield 10, 3) := by decide +kernel
theorem dX4_fits_47 : decode cX4_fits 47 = .ok (.getfield 127, 3) := by decide +kernel
theorem dX4_fits_50 : decode cX4_fits 50 = .ok (.iload_n 2, 1) := by decide +kernel
theorem dX4_fits_51 : decode cX4_fits 51 = .ok (.invokestatic 130, 3) := by decide +kernel
theorem dX4_fits_54 : decode cX4_fits 54 = .ok (.ifCond .le 17, 3) := by decide +kernel
theorem dX4_fits_57 : decode cX4_fits 57 = .ok (.aload_n 0, 1) := by decide +kernel
theorem dX4_fits_58 : decode cX4_fits 58 = .ok (.getfield 10, 3) := by decide +kernel
theorem dX4_fits_61 : decode cX4_fits 61 = .ok (.iload_n 2, 1) := by decide +kernel
theorem dX4_fits_62 : decode cX4_fits 62 = .ok (.invokevirtual 265, 3) := by decide +kernel
theorem dX4_fits_65 : decode cX4_fits 65 = .ok (.iload_n 1, 1) := by decide +kernel
theorem dX4_fits_66 : decode cX4_fits 66 = .ok (.if_icmp .ne 5, 3) := by decide +kernel
theorem dX4_fits_69 : decode cX4_fits 69 = .ok (.iload_n 2, 1) := by decide +kernel
theorem dX4_fits_70 : decode cX4_fits 70 = .ok (.ireturn, 1) := by decide +kernel
theorem dX4_fits_71 : decode cX4_fits 71 = .ok (.iinc 2 1, 3) := by decide +kernel
theorem dX4_fits_74 : decode cX4_fits 74 = .ok (.goto (-37), 3) := by decide +kernel
theorem dX4_fits_77 : decode cX4_fits 77 = .ok (.iconst (-1), 1) := by decide +kernel
theorem dX4_fits_78 : decode cX4_fits 78 = .ok (.ireturn, 1) := by decide +kernel
theorem dX4_books_0 : decode cX4_books 0 = .ok (.aload_n 0, 1) := by decide +kernel
theorem dX4_books_1 : decode cX4_books 1 = .ok (.getfield 10, 3) := by decide +kernel
theorem dX4_books_4 : decode cX4_books 4 = .ok (.iconst 0, 1) := by decide +kernel
theorem dX4_books_5 : decode cX4_books 5 = .ok (.invokevirtual 268, 3) := by decide +kernel
theorem dX4_books_8 : decode cX4_books 8 = .ok (.istore_n 1, 1) := by decide +kernel
theorem dX4_books_9 : decode cX4_books 9 = .ok (.iconst 1, 1) := by decide +kernel
theorem dX4_books_10 : decode cX4_books 10 = .ok (.istore_n 2, 1) := by decide +kernel
theorem dX4_books_11 : decode cX4_books 11 = .ok (.iload_n 2, 1) := by decide +kernel
theorem dX4_books_12 : decode cX4_books 12 = .ok (.aload_n 0, 1) := by decide +kernel
theorem dX4_books_13 : decode cX4_books 13 = .ok (.getfield 10, 3) := by decide +kernel
theorem dX4_books_16 : decode cX4_books 16 = .ok (.invokevirtual 271, 3) := by decide +kernel
theorem dX4_books_19 : decode cX4_books 19 = .ok (.if_icmp .ge 22, 3) := by decide +kernel
theorem dX4_books_22 : decode cX4_books 22 = .ok (.iload_n 1, 1) := by decide +kernel
theorem dX4_books_23 : decode cX4_books 23 = .ok (.aload_n 0, 1) := by decide +kernel
theorem dX4_books_24 : decode cX4_books 24 = .ok (.getfield 10, 3) := by decide +kernel
theorem dX4_books_27 : decode cX4_books 27 = .ok (.iload_n 2, 1) := by decide +kernel
theorem dX4_books_28 : decode cX4_books 28 = .ok (.invokevirtual 268, 3) := by decide +kernel
theorem dX4_books_31 : decode cX4_books 31 = .ok (.invokestatic 274, 3) := by decide +kernel
theorem dX4_books_34 : decode cX4_books 34 = .ok (.istore_n 1, 1) := by decide +kernel
theorem dX4_books_35 : decode cX4_books 35 = .ok (.iinc 2 1, 3) := by decide +kernel
theorem dX4_books_38 : decode cX4_books 38 = .ok (.goto (-27), 3) := by decide +kernel
theorem dX4_books_41 : decode cX4_books 41 = .ok (.iload_n 1, 1) := by decide +kernel
theorem dX4_books_42 : decode cX4_books 42 = .ok (.ireturn, 1) := by decide +kernel
theorem dX4_stairShare_0 : decode cX4_stairShare 0 = .ok (.aload_n 0, 1) := by decide +kernel
theorem dX4_stairShare_1 : decode cX4_stairShare 1 = .ok (.getfield 10, 3) := by decide +kernel
theorem dX4_stairShare_4 : decode cX4_stairShare 4 = .ok (.getfield 71, 3) := by decide +kernel
theorem dX4_stairShare_7 : decode cX4_stairShare 7 = .ok (.getfield 75, 3) := by decide +kernel
theorem dX4_stairShare_10 : decode cX4_stairShare 10 = .ok (.istore_n 1, 1) := by decide +kernel
theorem dX4_stairShare_11 : decode cX4_stairShare 11 = .ok (.iload_n 1, 1) := by decide +kernel
theorem dX4_stairShare_12 : decode cX4_stairShare 12 = .ok (.ifCond .le 19, 3) := by decide +kernel
theorem dX4_stairShare_15 : decode cX4_stairShare 15 = .ok (.iload_n 1, 1) := by decide +kernel
theorem dX4_stairShare_16 : decode cX4_stairShare 16 = .ok (.aload_n 0, 1) := by decide +kernel
theorem dX4_stairShare_17 : decode cX4_stairShare 17 = .ok (.getfield 10, 3) := by decide +kernel
theorem dX4_stairShare_20 : decode cX4_stairShare 20 = .ok (.invokevirtual 107, 3) := by decide +kernel
theorem dX4_stairShare_23 : decode cX4_stairShare 23 = .ok (.isub, 1) := by decide +kernel
theorem dX4_stairShare_24 : decode cX4_stairShare 24 = .ok (.i2d, 1) := by decide +kernel
theorem dX4_stairShare_25 : decode cX4_stairShare 25 = .ok (.iload_n 1, 1) := by decide +kernel
theorem dX4_stairShare_26 : decode cX4_stairShare 26 = .ok (.i2d, 1) := by decide +kernel
theorem dX4_stairShare_27 : decode cX4_stairShare 27 = .ok (.ddiv, 1) := by decide +kernel
theorem dX4_stairShare_28 : decode cX4_stairShare 28 = .ok (.goto 4, 3) := by decide +kernel
theorem dX4_stairShare_31 : decode cX4_stairShare 31 = .ok (.dconst 1, 1) := by decide +kernel
theorem dX4_stairShare_32 : decode cX4_stairShare 32 = .ok (.dreturn, 1) := by decide +kernel
theorem dX4_isBin_0 : decode cX4_isBin 0 = .ok (.iload_n 0, 1) := by decide +kernel
theorem dX4_isBin_1 : decode cX4_isBin 1 = .ok (.ifCond .lt 13, 3) := by decide +kernel
theorem dX4_isBin_4 : decode cX4_isBin 4 = .ok (.iload_n 0, 1) := by decide +kernel
theorem dX4_isBin_5 : decode cX4_isBin 5 = .ok (.bipush 16, 2) := by decide +kernel
theorem dX4_isBin_7 : decode cX4_isBin 7 = .ok (.if_icmp .ge 7, 3) := by decide +kernel
theorem dX4_isBin_10 : decode cX4_isBin 10 = .ok (.iconst 1, 1) := by decide +kernel
theorem dX4_isBin_11 : decode cX4_isBin 11 = .ok (.goto 4, 3) := by decide +kernel
theorem dX4_isBin_14 : decode cX4_isBin 14 = .ok (.iconst 0, 1) := by decide +kernel
theorem dX4_isBin_15 : decode cX4_isBin 15 = .ok (.ireturn, 1) := by decide +kernel
theorem dX4_isSetting_0 : decode cX4_isSetting 0 = .ok (.iload_n 0, 1) := by decide +kernel
theorem dX4_isSetting_1 : decode cX4_isSetting 1 = .ok (.ifCond .lt 12, 3) := by decide +kernel
theorem dX4_isSetting_4 : decode cX4_isSetting 4 = .ok (.iload_n 0, 1) := by decide +kernel
theorem dX4_isSetting_5 : decode cX4_isSetting 5 = .ok (.iconst 3, 1) := by decide +kernel
theorem dX4_isSetting_6 : decode cX4_isSetting 6 = .ok (.if_icmp .ge 7, 3) := by decide +kernel
theorem dX4_isSetting_9 : decode cX4_isSetting 9 = .ok (.iconst 1, 1) := by decide +kernel
theorem dX4_isSetting_10 : decode cX4_isSetting 10 = .ok (.goto 4, 3) := by decide +kernel
theorem dX4_isSetting_13 : decode cX4_isSetting 13 = .ok (.iconst 0, 1) := by decide +kernel
theorem dX4_isSetting_14 : decode cX4_isSetting 14 = .ok (.ireturn, 1) := by decide +kernel
theorem dX4_at_0 : decode cX4_at 0 = .ok (.aload_n 0, 1) := by decide +kernel
theorem dX4_at_1 : decode cX4_at 1 = .ok (.ifnull 19, 3) := by decide +kernel
theorem dX4_at_4 : decode cX4_at 4 = .ok (.iload_n 1, 1) := by decide +kernel
theorem dX4_at_5 : decode cX4_at 5 = .ok (.ifCond .lt 15, 3) := by decide +kernel
theorem dX4_at_8 : decode cX4_at 8 = .ok (.iload_n 1, 1) := by decide +kernel
theorem dX4_at_9 : decode cX4_at 9 = .ok (.aload_n 0, 1) := by decide +kernel
theorem dX4_at_10 : decode cX4_at 10 = .ok (.arraylength, 1) := by decide +kernel
theorem dX4_at_11 : decode cX4_at 11 = .ok (.if_icmp .ge 9, 3) := by decide +kernel
theorem dX4_at_14 : decode cX4_at 14 = .ok (.aload_n 0, 1) := by decide +kernel
theorem dX4_at_15 : decode cX4_at 15 = .ok (.iload_n 1, 1) := by decide +kernel
theorem dX4_at_16 : decode cX4_at 16 = .ok (.iaload, 1) := by decide +kernel
theorem dX4_at_17 : decode cX4_at 17 = .ok (.goto 4, 3) := by decide +kernel
theorem dX4_at_20 : decode cX4_at 20 = .ok (.iconst 0, 1) := by decide +kernel
theorem dX4_at_21 : decode cX4_at 21 = .ok (.ireturn, 1) := by decide +kernel
theorem dX4_put_0 : decode cX4_put 0 = .ok (.aload_n 0, 1) := by decide +kernel
theorem dX4_put_1 : decode cX4_put 1 = .ok (.ifnull 17, 3) := by decide +kernel
theorem dX4_put_4 : decode cX4_put 4 = .ok (.iload_n 1, 1) := by decide +kernel
theorem dX4_put_5 : decode cX4_put 5 = .ok (.ifCond .lt 13, 3) := by decide +kernel
theorem dX4_put_8 : decode cX4_put 8 = .ok (.iload_n 1, 1) := by decide +kernel
theorem dX4_put_9 : decode cX4_put 9 = .ok (.aload_n 0, 1) := by decide +kernel
theorem dX4_put_10 : decode cX4_put 10 = .ok (.arraylength, 1) := by decide +kernel
theorem dX4_put_11 : decode cX4_put 11 = .ok (.if_icmp .ge 7, 3) := by decide +kernel
theorem dX4_put_14 : decode cX4_put 14 = .ok (.aload_n 0, 1) := by decide +kernel
theorem dX4_put_15 : decode cX4_put 15 = .ok (.iload_n 1, 1) := by decide +kernel
theorem dX4_put_16 : decode cX4_put 16 = .ok (.iload_n 2, 1) := by decide +kernel
theorem dX4_put_17 : decode cX4_put 17 = .ok (.iastore, 1) := by decide +kernel
theorem dX4_put_18 : decode cX4_put 18 = .ok (.return_, 1) := by decide +kernel
theorem dX4_addTo_0 : decode cX4_addTo 0 = .ok (.aload_n 0, 1) := by decide +kernel
theorem dX4_addTo_1 : decode cX4_addTo 1 = .ok (.iload_n 1, 1) := by decide +kernel
theorem dX4_addTo_2 : decode cX4_addTo 2 = .ok (.aload_n 0, 1) := by decide +kernel
theorem dX4_addTo_3 : decode cX4_addTo 3 = .ok (.iload_n 1, 1) := by decide +kernel
theorem dX4_addTo_4 : decode cX4_addTo 4 = .ok (.invokestatic 130, 3) := by decide +kernel
theorem dX4_addTo_7 : decode cX4_addTo 7 = .ok (.iload_n 2, 1) := by decide +kernel
theorem dX4_addTo_8 : decode cX4_addTo 8 = .ok (.iadd, 1) := by decide +kernel
theorem dX4_addTo_9 : decode cX4_addTo 9 = .ok (.invokestatic 148, 3) := by decide +kernel
theorem dX4_addTo_12 : decode cX4_addTo 12 = .ok (.return_, 1) := by decide +kernel
theorem dX4_copyRow_0 : decode cX4_copyRow 0 = .ok (.aload_n 0, 1) := by decide +kernel
theorem dX4_copyRow_1 : decode cX4_copyRow 1 = .ok (.ifnull 21, 3) := by decide +kernel
theorem dX4_copyRow_4 : decode cX4_copyRow 4 = .ok (.aload_n 1, 1) := by decide +kernel
theorem dX4_copyRow_5 : decode cX4_copyRow 5 = .ok (.ifnull 17, 3) := by decide +kernel
theorem dX4_copyRow_8 : decode cX4_copyRow 8 = .ok (.aload_n 0, 1) := by decide +kernel
theorem dX4_copyRow_9 : decode cX4_copyRow 9 = .ok (.iconst 0, 1) := by decide +kernel
theorem dX4_copyRow_10 : decode cX4_copyRow 10 = .ok (.aload_n 1, 1) := by decide +kernel
theorem dX4_copyRow_11 : decode cX4_copyRow 11 = .ok (.iconst 0, 1) := by decide +kernel
theorem dX4_copyRow_12 : decode cX4_copyRow 12 = .ok (.aload_n 0, 1) := by decide +kernel
theorem dX4_copyRow_13 : decode cX4_copyRow 13 = .ok (.arraylength, 1) := by decide +kernel
theorem dX4_copyRow_14 : decode cX4_copyRow 14 = .ok (.aload_n 1, 1) := by decide +kernel
theorem dX4_copyRow_15 : decode cX4_copyRow 15 = .ok (.arraylength, 1) := by decide +kernel
theorem dX4_copyRow_16 : decode cX4_copyRow 16 = .ok (.invokestatic 274, 3) := by decide +kernel
theorem dX4_copyRow_19 : decode cX4_copyRow 19 = .ok (.invokestatic 356, 3) := by decide +kernel
theorem dX4_copyRow_22 : decode cX4_copyRow 22 = .ok (.return_, 1) := by decide +kernel
theorem dJ6_bitCount_0f7a4_0 : decode cJ6_bitCount_0f7a4 0 = .ok (.iload_n 0, 1) := by decide +kernel
theorem dJ6_bitCount_0f7a4_1 : decode cJ6_bitCount_0f7a4 1 = .ok (.iload_n 0, 1) := by decide +kernel
theorem dJ6_bitCount_0f7a4_2 : decode cJ6_bitCount_0f7a4 2 = .ok (.iconst 1, 1) := by decide +kernel
theorem dJ6_bitCount_0f7a4_3 : decode cJ6_bitCount_0f7a4 3 = .ok (.iushr, 1) := by decide +kernel
theorem dJ6_bitCount_0f7a4_4 : decode cJ6_bitCount_0f7a4 4 = .ok (.ldc_w 265, 3) := by decide +kernel
theorem dJ6_bitCount_0f7a4_7 : decode cJ6_bitCount_0f7a4 7 = .ok (.iand, 1) := by decide +kernel
theorem dJ6_bitCount_0f7a4_8 : decode cJ6_bitCount_0f7a4 8 = .ok (.isub, 1) := by decide +kernel
theorem dJ6_bitCount_0f7a4_9 : decode cJ6_bitCount_0f7a4 9 = .ok (.istore_n 0, 1) := by decide +kernel
theorem dJ6_bitCount_0f7a4_10 : decode cJ6_bitCount_0f7a4 10 = .ok (.iload_n 0, 1) := by decide +kernel
theorem dJ6_bitCount_0f7a4_11 : decode cJ6_bitCount_0f7a4 11 = .ok (.ldc_w 266, 3) := by decide +kernel
theorem dJ6_bitCount_0f7a4_14 : decode cJ6_bitCount_0f7a4 14 = .ok (.iand, 1) := by decide +kernel
theorem dJ6_bitCount_0f7a4_15 : decode cJ6_bitCount_0f7a4 15 = .ok (.iload_n 0, 1) := by decide +kernel
theorem dJ6_bitCount_0f7a4_16 : decode cJ6_bitCount_0f7a4 16 = .ok (.iconst 2, 1) := by decide +kernel
theorem dJ6_bitCount_0f7a4_17 : decode cJ6_bitCount_0f7a4 17 = .ok (.iushr, 1) := by decide +kernel
theorem dJ6_bitCount_0f7a4_18 : decode cJ6_bitCount_0f7a4 18 = .ok (.ldc_w 266, 3) := by decide +kernel
theorem dJ6_bitCount_0f7a4_21 : decode cJ6_bitCount_0f7a4 21 = .ok (.iand, 1) := by decide +kernel
theorem dJ6_bitCount_0f7a4_22 : decode cJ6_bitCount_0f7a4 22 = .ok (.iadd, 1) := by decide +kernel
theorem dJ6_bitCount_0f7a4_23 : decode cJ6_bitCount_0f7a4 23 = .ok (.istore_n 0, 1) := by decide +kernel
theorem dJ6_bitCount_0f7a4_24 : decode cJ6_bitCount_0f7a4 24 = .ok (.iload_n 0, 1) := by decide +kernel
theorem dJ6_bitCount_0f7a4_25 : decode cJ6_bitCount_0f7a4 25 = .ok (.iload_n 0, 1) := by decide +kernel
theorem dJ6_bitCount_0f7a4_26 : decode cJ6_bitCount_0f7a4 26 = .ok (.iconst 4, 1) := by decide +kernel
theorem dJ6_bitCount_0f7a4_27 : decode cJ6_bitCount_0f7a4 27 = .ok (.iushr, 1) := by decide +kernel
theorem dJ6_bitCount_0f7a4_28 : decode cJ6_bitCount_0f7a4 28 = .ok (.iadd, 1) := by decide +kernel
theorem dJ6_bitCount_0f7a4_29 : decode cJ6_bitCount_0f7a4 29 = .ok (.ldc_w 267, 3) := by decide +kernel
theorem dJ6_bitCount_0f7a4_32 : decode cJ6_bitCount_0f7a4 32 = .ok (.iand, 1) := by decide +kernel
theorem dJ6_bitCount_0f7a4_33 : decode cJ6_bitCount_0f7a4 33 = .ok (.istore_n 0, 1) := by decide +kernel
theorem dJ6_bitCount_0f7a4_34 : decode cJ6_bitCount_0f7a4 34 = .ok (.iload_n 0, 1) := by decide +kernel
theorem dJ6_bitCount_0f7a4_35 : decode cJ6_bitCount_0f7a4 35 = .ok (.iload_n 0, 1) := by decide +kernel
theorem dJ6_bitCount_0f7a4_36 : decode cJ6_bitCount_0f7a4 36 = .ok (.bipush 8, 2) := by decide +kernel
theorem dJ6_bitCount_0f7a4_38 : decode cJ6_bitCount_0f7a4 38 = .ok (.iushr, 1) := by decide +kernel
theorem dJ6_bitCount_0f7a4_39 : decode cJ6_bitCount_0f7a4 39 = .ok (.iadd, 1) := by decide +kernel
theorem dJ6_bitCount_0f7a4_40 : decode cJ6_bitCount_0f7a4 40 = .ok (.istore_n 0, 1) := by decide +kernel
theorem dJ6_bitCount_0f7a4_41 : decode cJ6_bitCount_0f7a4 41 = .ok (.iload_n 0, 1) := by decide +kernel
theorem dJ6_bitCount_0f7a4_42 : decode cJ6_bitCount_0f7a4 42 = .ok (.iload_n 0, 1) := by decide +kernel
theorem dJ6_bitCount_0f7a4_43 : decode cJ6_bitCount_0f7a4 43 = .ok (.bipush 16, 2) := by decide +kernel
theorem dJ6_bitCount_0f7a4_45 : decode cJ6_bitCount_0f7a4 45 = .ok (.iushr, 1) := by decide +kernel
theorem dJ6_bitCount_0f7a4_46 : decode cJ6_bitCount_0f7a4 46 = .ok (.iadd, 1) := by decide +kernel
theorem dJ6_bitCount_0f7a4_47 : decode cJ6_bitCount_0f7a4 47 = .ok (.istore_n 0, 1) := by decide +kernel
theorem dJ6_bitCount_0f7a4_48 : decode cJ6_bitCount_0f7a4 48 = .ok (.iload_n 0, 1) := by decide +kernel
theorem dJ6_bitCount_0f7a4_49 : decode cJ6_bitCount_0f7a4 49 = .ok (.bipush 63, 2) := by decide +kernel
theorem dJ6_bitCount_0f7a4_51 : decode cJ6_bitCount_0f7a4 51 = .ok (.iand, 1) := by decide +kernel
theorem dJ6_bitCount_0f7a4_52 : decode cJ6_bitCount_0f7a4 52 = .ok (.ireturn, 1) := by decide +kernel
theorem dJ9_max_7cf53_0 : decode cJ9_max_7cf53 0 = .ok (.iload_n 0, 1) := by decide +kernel
theorem dJ9_max_7cf53_1 : decode cJ9_max_7cf53 1 = .ok (.iload_n 1, 1) := by decide +kernel
theorem dJ9_max_7cf53_2 : decode cJ9_max_7cf53 2 = .ok (.if_icmp .lt 7, 3) := by decide +kernel
theorem dJ9_max_7cf53_5 : decode cJ9_max_7cf53 5 = .ok (.iload_n 0, 1) := by decide +kernel
theorem dJ9_max_7cf53_6 : decode cJ9_max_7cf53 6 = .ok (.goto 4, 3) := by decide +kernel
theorem dJ9_max_7cf53_9 : decode cJ9_max_7cf53 9 = .ok (.iload_n 1, 1) := by decide +kernel
theorem dJ9_max_7cf53_10 : decode cJ9_max_7cf53 10 = .ok (.ireturn, 1) := by decide +kernel
theorem dJ9_min_7cf53_0 : decode cJ9_min_7cf53 0 = .ok (.iload_n 0, 1) := by decide +kernel
theorem dJ9_min_7cf53_1 : decode cJ9_min_7cf53 1 = .ok (.iload_n 1, 1) := by decide +kernel
theorem dJ9_min_7cf53_2 : decode cJ9_min_7cf53 2 = .ok (.if_icmp .gt 7, 3) := by decide +kernel
theorem dJ9_min_7cf53_5 : decode cJ9_min_7cf53 5 = .ok (.iload_n 0, 1) := by decide +kernel
theorem dJ9_min_7cf53_6 : decode cJ9_min_7cf53 6 = .ok (.goto 4, 3) := by decide +kernel
theorem dJ9_min_7cf53_9 : decode cJ9_min_7cf53 9 = .ok (.iload_n 1, 1) := by decide +kernel
theorem dJ9_min_7cf53_10 : decode cJ9_min_7cf53 10 = .ok (.ireturn, 1) := by decide +kernel
theorem dJ7_fill_53178_0 : decode cJ7_fill_53178 0 = .ok (.iconst 0, 1) := by decide +kernel
theorem dJ7_fill_53178_1 : decode cJ7_fill_53178 1 = .ok (.istore_n 2, 1) := by decide +kernel
theorem dJ7_fill_53178_2 : decode cJ7_fill_53178 2 = .ok (.aload_n 0, 1) := by decide +kernel
theorem dJ7_fill_53178_3 : decode cJ7_fill_53178 3 = .ok (.arraylength, 1) := by decide +kernel
theorem dJ7_fill_53178_4 : decode cJ7_fill_53178 4 = .ok (.istore_n 3, 1) := by decide +kernel
theorem dJ7_fill_53178_5 : decode cJ7_fill_53178 5 = .ok (.iload_n 2, 1) := by decide +kernel
theorem dJ7_fill_53178_6 : decode cJ7_fill_53178 6 = .ok (.iload_n 3, 1) := by decide +kernel
theorem dJ7_fill_53178_7 : decode cJ7_fill_53178 7 = .ok (.if_icmp .ge 13, 3) := by decide +kernel
theorem dJ7_fill_53178_10 : decode cJ7_fill_53178 10 = .ok (.aload_n 0, 1) := by decide +kernel
theorem dJ7_fill_53178_11 : decode cJ7_fill_53178 11 = .ok (.iload_n 2, 1) := by decide +kernel
theorem dJ7_fill_53178_12 : decode cJ7_fill_53178 12 = .ok (.iload_n 1, 1) := by decide +kernel
theorem dJ7_fill_53178_13 : decode cJ7_fill_53178 13 = .ok (.iastore, 1) := by decide +kernel
theorem dJ7_fill_53178_14 : decode cJ7_fill_53178 14 = .ok (.iinc 2 1, 3) := by decide +kernel
theorem dJ7_fill_53178_17 : decode cJ7_fill_53178 17 = .ok (.goto (-12), 3) := by decide +kernel
theorem dJ7_fill_53178_20 : decode cJ7_fill_53178 20 = .ok (.return_, 1) := by decide +kernel
theorem dL_cell_0 : decode cL_cell 0 = .ok (.iload_n 1, 1) := by decide +kernel
theorem dL_cell_1 : decode cL_cell 1 = .ok (.aload_n 0, 1) := by decide +kernel
theorem dL_cell_2 : decode cL_cell 2 = .ok (.arraylength, 1) := by decide +kernel
theorem dL_cell_3 : decode cL_cell 3 = .ok (.if_icmp .ge 9, 3) := by decide +kernel
theorem dL_cell_6 : decode cL_cell 6 = .ok (.aload_n 0, 1) := by decide +kernel
theorem dL_cell_7 : decode cL_cell 7 = .ok (.iload_n 1, 1) := by decide +kernel
theorem dL_cell_8 : decode cL_cell 8 = .ok (.iaload, 1) := by decide +kernel
theorem dL_cell_9 : decode cL_cell 9 = .ok (.goto 11, 3) := by decide +kernel
theorem dL_cell_12 : decode cL_cell 12 = .ok (.ldc 7, 2) := by decide +kernel
theorem dL_cell_14 : decode cL_cell 14 = .ok (.iload_n 1, 1) := by decide +kernel
theorem dL_cell_15 : decode cL_cell 15 = .ok (.sipush 347, 3) := by decide +kernel
theorem dL_cell_18 : decode cL_cell 18 = .ok (.iadd, 1) := by decide +kernel
theorem dL_cell_19 : decode cL_cell 19 = .ok (.imul, 1) := by decide +kernel
theorem dL_cell_20 : decode cL_cell 20 = .ok (.ireturn, 1) := by decide +kernel
theorem dL_up_0 : decode cL_up 0 = .ok (.iload_n 0, 1) := by decide +kernel
theorem dL_up_1 : decode cL_up 1 = .ok (.ldc 8, 2) := by decide +kernel
theorem dL_up_3 : decode cL_up 3 = .ok (.iand, 1) := by decide +kernel
theorem dL_up_4 : decode cL_up 4 = .ok (.iload_n 1, 1) := by decide +kernel
theorem dL_up_5 : decode cL_up 5 = .ok (.irem, 1) := by decide +kernel
theorem dL_up_6 : decode cL_up 6 = .ok (.ireturn, 1) := by decide +kernel
theorem dL_looks_0 : decode cL_looks 0 = .ok (.ldc2_w 9, 3) := by decide +kernel
theorem dL_looks_3 : decode cL_looks 3 = .ok (.lstore_n 1, 1) := by decide +kernel
theorem dL_looks_4 : decode cL_looks 4 = .ok (.iconst 0, 1) := by decide +kernel
theorem dL_looks_5 : decode cL_looks 5 = .ok (.istore_n 3, 1) := by decide +kernel
theorem dL_looks_6 : decode cL_looks 6 = .ok (.iload_n 3, 1) := by decide +kernel
theorem dL_looks_7 : decode cL_looks 7 = .ok (.bipush 15, 2) := by decide +kernel
theorem dL_looks_9 : decode cL_looks 9 = .ok (.if_icmp .ge 22, 3) := by decide +kernel
theorem dL_looks_12 : decode cL_looks 12 = .ok (.ldc2_w 11, 3) := by decide +kernel
theorem dL_looks_15 : decode cL_looks 15 = .ok (.lload_n 1, 1) := by decide +kernel
theorem dL_looks_16 : decode cL_looks 16 = .ok (.lmul, 1) := by decide +kernel
theorem dL_looks_17 : decode cL_looks 17 = .ok (.aload_n 0, 1) := by decide +kernel
theorem dL_looks_18 : decode cL_looks 18 = .ok (.iload_n 3, 1) := by decide +kernel
theorem dL_looks_19 : decode cL_looks 19 = .ok (.invokevirtual 13, 3) := by decide +kernel
theorem dL_looks_22 : decode cL_looks 22 = .ok (.i2l, 1) := by decide +kernel
theorem dL_looks_23 : decode cL_looks 23 = .ok (.ladd, 1) := by decide +kernel
theorem dL_looks_24 : decode cL_looks 24 = .ok (.lstore_n 1, 1) := by decide +kernel
theorem dL_looks_25 : decode cL_looks 25 = .ok (.iinc 3 1, 3) := by decide +kernel
theorem dL_looks_28 : decode cL_looks 28 = .ok (.goto (-22), 3) := by decide +kernel
theorem dL_looks_31 : decode cL_looks 31 = .ok (.iconst 0, 1) := by decide +kernel
theorem dL_looks_32 : decode cL_looks 32 = .ok (.istore_n 3, 1) := by decide +kernel
theorem dL_looks_33 : decode cL_looks 33 = .ok (.iload_n 3, 1) := by decide +kernel
theorem dL_looks_34 : decode cL_looks 34 = .ok (.aload_n 0, 1) := by decide +kernel
theorem dL_looks_35 : decode cL_looks 35 = .ok (.iconst 0, 1) := by decide +kernel
theorem dL_looks_36 : decode cL_looks 36 = .ok (.invokevirtual 13, 3) := by decide +kernel
theorem dL_looks_39 : decode cL_looks 39 = .ok (.if_icmp .ge 35, 3) := by decide +kernel
theorem dL_looks_42 : decode cL_looks 42 = .ok (.ldc2_w 11, 3) := by decide +kernel
theorem dL_looks_45 : decode cL_looks 45 = .ok (.ldc2_w 11, 3) := by decide +kernel
theorem dL_looks_48 : decode cL_looks 48 = .ok (.lload_n 1, 1) := by decide +kernel
theorem dL_looks_49 : decode cL_looks 49 = .ok (.lmul, 1) := by decide +kernel
theorem dL_looks_50 : decode cL_looks 50 = .ok (.aload_n 0, 1) := by decide +kernel
theorem dL_looks_51 : decode cL_looks 51 = .ok (.iload_n 3, 1) := by decide +kernel
theorem dL_looks_52 : decode cL_looks 52 = .ok (.iconst 0, 1) := by decide +kernel
theorem dL_looks_53 : decode cL_looks 53 = .ok (.invokevirtual 19, 3) := by decide +kernel
theorem dL_looks_56 : decode cL_looks 56 = .ok (.i2l, 1) := by decide +kernel
theorem dL_looks_57 : decode cL_looks 57 = .ok (.ladd, 1) := by decide +kernel
theorem dL_looks_58 : decode cL_looks 58 = .ok (.lmul, 1) := by decide +kernel
theorem dL_looks_59 : decode cL_looks 59 = .ok (.aload_n 0, 1) := by decide +kernel
theorem dL_looks_60 : decode cL_looks 60 = .ok (.iload_n 3, 1) := by decide +kernel
theorem dL_looks_61 : decode cL_looks 61 = .ok (.iconst 1, 1) := by decide +kernel
theorem dL_looks_62 : decode cL_looks 62 = .ok (.invokevirtual 19, 3) := by decide +kernel
theorem dL_looks_65 : decode cL_looks 65 = .ok (.i2l, 1) := by decide +kernel
theorem dL_looks_66 : decode cL_looks 66 = .ok (.ladd, 1) := by decide +kernel
theorem dL_looks_67 : decode cL_looks 67 = .ok (.lstore_n 1, 1) := by decide +kernel
theorem dL_looks_68 : decode cL_looks 68 = .ok (.iinc 3 1, 3) := by decide +kernel
theorem dL_looks_71 : decode cL_looks 71 = .ok (.goto (-38), 3) := by decide +kernel
theorem dL_looks_74 : decode cL_looks 74 = .ok (.iconst 0, 1) := by decide +kernel
theorem dL_looks_75 : decode cL_looks 75 = .ok (.istore_n 3, 1) := by decide +kernel
theorem dL_looks_76 : decode cL_looks 76 = .ok (.iload_n 3, 1) := by decide +kernel
theorem dL_looks_77 : decode cL_looks 77 = .ok (.bipush 80, 2) := by decide +kernel
theorem dL_looks_79 : decode cL_looks 79 = .ok (.if_icmp .ge 27, 3) := by decide +kernel
theorem dL_looks_82 : decode cL_looks 82 = .ok (.ldc2_w 11, 3) := by decide +kernel
theorem dL_looks_85 : decode cL_looks 85 = .ok (.lload_n 1, 1) := by decide +kernel
theorem dL_looks_86 : decode cL_looks 86 = .ok (.lmul, 1) := by decide +kernel
theorem dL_looks_87 : decode cL_looks 87 = .ok (.aload_n 0, 1) := by decide +kernel
theorem dL_looks_88 : decode cL_looks 88 = .ok (.iload_n 3, 1) := by decide +kernel
theorem dL_looks_89 : decode cL_looks 89 = .ok (.iconst 5, 1) := by decide +kernel
theorem dL_looks_90 : decode cL_looks 90 = .ok (.idiv, 1) := by decide +kernel
theorem dL_looks_91 : decode cL_looks 91 = .ok (.iload_n 3, 1) := by decide +kernel
theorem dL_looks_92 : decode cL_looks 92 = .ok (.iconst 5, 1) := by decide +kernel
theorem dL_looks_93 : decode cL_looks 93 = .ok (.irem, 1) := by decide +kernel
theorem dL_looks_94 : decode cL_looks 94 = .ok (.invokevirtual 23, 3) := by decide +kernel
theorem dL_looks_97 : decode cL_looks 97 = .ok (.i2l, 1) := by decide +kernel
theorem dL_looks_98 : decode cL_looks 98 = .ok (.ladd, 1) := by decide +kernel
theorem dL_looks_99 : decode cL_looks 99 = .ok (.lstore_n 1, 1) := by decide +kernel
theorem dL_looks_100 : decode cL_looks 100 = .ok (.iinc 3 1, 3) := by decide +kernel
theorem dL_looks_103 : decode cL_looks 103 = .ok (.goto (-27), 3) := by decide +kernel
theorem dL_looks_106 : decode cL_looks 106 = .ok (.ldc2_w 11, 3) := by decide +kernel
theorem dL_looks_109 : decode cL_looks 109 = .ok (.ldc2_w 11, 3) := by decide +kernel
theorem dL_looks_112 : decode cL_looks 112 = .ok (.ldc2_w 11, 3) := by decide +kernel
theorem dL_looks_115 : decode cL_looks 115 = .ok (.lload_n 1, 1) := by decide +kernel
theorem dL_looks_116 : decode cL_looks 116 = .ok (.lmul, 1) := by decide +kernel
theorem dL_looks_117 : decode cL_looks 117 = .ok (.aload_n 0, 1) := by decide +kernel
theorem dL_looks_118 : decode cL_looks 118 = .ok (.iconst 0, 1) := by decide +kernel
theorem dL_looks_119 : decode cL_looks 119 = .ok (.invokevirtual 26, 3) := by decide +kernel
theorem dL_looks_122 : decode cL_looks 122 = .ok (.i2l, 1) := by decide +kernel
theorem dL_looks_123 : decode cL_looks 123 = .ok (.ladd, 1) := by decide +kernel
theorem dL_looks_124 : decode cL_looks 124 = .ok (.lmul, 1) := by decide +kernel
theorem dL_looks_125 : decode cL_looks 125 = .ok (.aload_n 0, 1) := by decide +kernel
theorem dL_looks_126 : decode cL_looks 126 = .ok (.iconst 1, 1) := by decide +kernel
theorem dL_looks_127 : decode cL_looks 127 = .ok (.invokevirtual 26, 3) := by decide +kernel
theorem dL_looks_130 : decode cL_looks 130 = .ok (.i2l, 1) := by decide +kernel
theorem dL_looks_131 : decode cL_looks 131 = .ok (.ladd, 1) := by decide +kernel
theorem dL_looks_132 : decode cL_looks 132 = .ok (.lmul, 1) := by decide +kernel
theorem dL_looks_133 : decode cL_looks 133 = .ok (.aload_n 0, 1) := by decide +kernel
theorem dL_looks_134 : decode cL_looks 134 = .ok (.iconst 2, 1) := by decide +kernel
theorem dL_looks_135 : decode cL_looks 135 = .ok (.invokevirtual 26, 3) := by decide +kernel
theorem dL_looks_138 : decode cL_looks 138 = .ok (.i2l, 1) := by decide +kernel
theorem dL_looks_139 : decode cL_looks 139 = .ok (.ladd, 1) := by decide +kernel
theorem dL_looks_140 : decode cL_looks 140 = .ok (.lreturn, 1) := by decide +kernel
