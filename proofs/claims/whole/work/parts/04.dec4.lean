theorem dX5_undo_9 : decode cX5_undo 9 = .ok (.goto 4, 3) := by decide +kernel
theorem dX5_undo_12 : decode cX5_undo 12 = .ok (.iconst 1, 1) := by decide +kernel
theorem dX5_undo_13 : decode cX5_undo 13 = .ok (.invokevirtual 94, 3) := by decide +kernel
theorem dX5_undo_16 : decode cX5_undo 16 = .ok (.ifCond .ne 5, 3) := by decide +kernel
theorem dX5_undo_19 : decode cX5_undo 19 = .ok (.iconst 0, 1) := by decide +kernel
theorem dX5_undo_20 : decode cX5_undo 20 = .ok (.ireturn, 1) := by decide +kernel
theorem dX5_undo_21 : decode cX5_undo 21 = .ok (.aload_n 0, 1) := by decide +kernel
theorem dX5_undo_22 : decode cX5_undo 22 = .ok (.aload_n 0, 1) := by decide +kernel
theorem dX5_undo_23 : decode cX5_undo 23 = .ok (.getfield 81, 3) := by decide +kernel
theorem dX5_undo_26 : decode cX5_undo 26 = .ok (.iconst 0, 1) := by decide +kernel
theorem dX5_undo_27 : decode cX5_undo 27 = .ok (.invokevirtual 84, 3) := by decide +kernel
theorem dX5_undo_30 : decode cX5_undo 30 = .ok (.aload_n 0, 1) := by decide +kernel
theorem dX5_undo_31 : decode cX5_undo 31 = .ok (.dup, 1) := by decide +kernel
theorem dX5_undo_32 : decode cX5_undo 32 = .ok (.getfield 81, 3) := by decide +kernel
theorem dX5_undo_35 : decode cX5_undo 35 = .ok (.iconst 1, 1) := by decide +kernel
theorem dX5_undo_36 : decode cX5_undo 36 = .ok (.isub, 1) := by decide +kernel
theorem dX5_undo_37 : decode cX5_undo 37 = .ok (.putfield 81, 3) := by decide +kernel
theorem dX5_undo_40 : decode cX5_undo 40 = .ok (.aload_n 0, 1) := by decide +kernel
theorem dX5_undo_41 : decode cX5_undo 41 = .ok (.getfield 81, 3) := by decide +kernel
theorem dX5_undo_44 : decode cX5_undo 44 = .ok (.ireturn, 1) := by decide +kernel
theorem dX5_ofSheet_0 : decode cX5_ofSheet 0 = .ok (.aload_n 0, 1) := by decide +kernel
theorem dX5_ofSheet_1 : decode cX5_ofSheet 1 = .ok (.iconst (-1), 1) := by decide +kernel
theorem dX5_ofSheet_2 : decode cX5_ofSheet 2 = .ok (.invokevirtual 71, 3) := by decide +kernel
theorem dX5_ofSheet_5 : decode cX5_ofSheet 5 = .ok (.iload_n 2, 1) := by decide +kernel
theorem dX5_ofSheet_6 : decode cX5_ofSheet 6 = .ok (.tableswitch 85 0 4 #[34, 41, 48, 65, 79], 34) := by decide +kernel
theorem dX5_ofSheet_40 : decode cX5_ofSheet 40 = .ok (.aload_n 0, 1) := by decide +kernel
theorem dX5_ofSheet_41 : decode cX5_ofSheet 41 = .ok (.getfield 16, 3) := by decide +kernel
theorem dX5_ofSheet_44 : decode cX5_ofSheet 44 = .ok (.iload_n 1, 1) := by decide +kernel
theorem dX5_ofSheet_45 : decode cX5_ofSheet 45 = .ok (.iaload, 1) := by decide +kernel
theorem dX5_ofSheet_46 : decode cX5_ofSheet 46 = .ok (.ireturn, 1) := by decide +kernel
theorem dX5_ofSheet_47 : decode cX5_ofSheet 47 = .ok (.aload_n 0, 1) := by decide +kernel
theorem dX5_ofSheet_48 : decode cX5_ofSheet 48 = .ok (.getfield 19, 3) := by decide +kernel
theorem dX5_ofSheet_51 : decode cX5_ofSheet 51 = .ok (.iload_n 1, 1) := by decide +kernel
theorem dX5_ofSheet_52 : decode cX5_ofSheet 52 = .ok (.iaload, 1) := by decide +kernel
theorem dX5_ofSheet_53 : decode cX5_ofSheet 53 = .ok (.ireturn, 1) := by decide +kernel
theorem dX5_ofSheet_54 : decode cX5_ofSheet 54 = .ok (.aload_n 0, 1) := by decide +kernel
theorem dX5_ofSheet_55 : decode cX5_ofSheet 55 = .ok (.aload_n 0, 1) := by decide +kernel
theorem dX5_ofSheet_56 : decode cX5_ofSheet 56 = .ok (.getfield 16, 3) := by decide +kernel
theorem dX5_ofSheet_59 : decode cX5_ofSheet 59 = .ok (.iload_n 1, 1) := by decide +kernel
theorem dX5_ofSheet_60 : decode cX5_ofSheet 60 = .ok (.iaload, 1) := by decide +kernel
theorem dX5_ofSheet_61 : decode cX5_ofSheet 61 = .ok (.aload_n 0, 1) := by decide +kernel
theorem dX5_ofSheet_62 : decode cX5_ofSheet 62 = .ok (.getfield 19, 3) := by decide +kernel
theorem dX5_ofSheet_65 : decode cX5_ofSheet 65 = .ok (.iload_n 1, 1) := by decide +kernel
theorem dX5_ofSheet_66 : decode cX5_ofSheet 66 = .ok (.iaload, 1) := by decide +kernel
theorem dX5_ofSheet_67 : decode cX5_ofSheet 67 = .ok (.invokevirtual 36, 3) := by decide +kernel
theorem dX5_ofSheet_70 : decode cX5_ofSheet 70 = .ok (.ireturn, 1) := by decide +kernel
theorem dX5_ofSheet_71 : decode cX5_ofSheet 71 = .ok (.aload_n 0, 1) := by decide +kernel
theorem dX5_ofSheet_72 : decode cX5_ofSheet 72 = .ok (.iload_n 1, 1) := by decide +kernel
theorem dX5_ofSheet_73 : decode cX5_ofSheet 73 = .ok (.invokevirtual 40, 3) := by decide +kernel
theorem dX5_ofSheet_76 : decode cX5_ofSheet 76 = .ok (.ifCond .eq 7, 3) := by decide +kernel
theorem dX5_ofSheet_79 : decode cX5_ofSheet 79 = .ok (.iconst 1, 1) := by decide +kernel
theorem dX5_ofSheet_80 : decode cX5_ofSheet 80 = .ok (.goto 4, 3) := by decide +kernel
theorem dX5_ofSheet_83 : decode cX5_ofSheet 83 = .ok (.iconst 0, 1) := by decide +kernel
theorem dX5_ofSheet_84 : decode cX5_ofSheet 84 = .ok (.ireturn, 1) := by decide +kernel
theorem dX5_ofSheet_85 : decode cX5_ofSheet 85 = .ok (.aload_n 0, 1) := by decide +kernel
theorem dX5_ofSheet_86 : decode cX5_ofSheet 86 = .ok (.iload_n 1, 1) := by decide +kernel
theorem dX5_ofSheet_87 : decode cX5_ofSheet 87 = .ok (.invokevirtual 62, 3) := by decide +kernel
theorem dX5_ofSheet_90 : decode cX5_ofSheet 90 = .ok (.ireturn, 1) := by decide +kernel
theorem dX5_ofSheet_91 : decode cX5_ofSheet 91 = .ok (.aload_n 0, 1) := by decide +kernel
theorem dX5_ofSheet_92 : decode cX5_ofSheet 92 = .ok (.iload_n 1, 1) := by decide +kernel
theorem dX5_ofSheet_93 : decode cX5_ofSheet 93 = .ok (.invokevirtual 59, 3) := by decide +kernel
theorem dX5_ofSheet_96 : decode cX5_ofSheet 96 = .ok (.ireturn, 1) := by decide +kernel
theorem dX5_sheet_0 : decode cX5_sheet 0 = .ok (.aload_n 0, 1) := by decide +kernel
theorem dX5_sheet_1 : decode cX5_sheet 1 = .ok (.iload_n 1, 1) := by decide +kernel
theorem dX5_sheet_2 : decode cX5_sheet 2 = .ok (.ifCond .ge 7, 3) := by decide +kernel
theorem dX5_sheet_5 : decode cX5_sheet 5 = .ok (.iconst 1, 1) := by decide +kernel
theorem dX5_sheet_6 : decode cX5_sheet 6 = .ok (.goto 17, 3) := by decide +kernel
theorem dX5_sheet_9 : decode cX5_sheet 9 = .ok (.iload_n 2, 1) := by decide +kernel
theorem dX5_sheet_10 : decode cX5_sheet 10 = .ok (.iconst 0, 1) := by decide +kernel
theorem dX5_sheet_11 : decode cX5_sheet 11 = .ok (.iconst 5, 1) := by decide +kernel
theorem dX5_sheet_12 : decode cX5_sheet 12 = .ok (.invokestatic 29, 3) := by decide +kernel
theorem dX5_sheet_15 : decode cX5_sheet 15 = .ok (.ifCond .ne 7, 3) := by decide +kernel
theorem dX5_sheet_18 : decode cX5_sheet 18 = .ok (.iconst 2, 1) := by decide +kernel
theorem dX5_sheet_19 : decode cX5_sheet 19 = .ok (.goto 4, 3) := by decide +kernel
theorem dX5_sheet_22 : decode cX5_sheet 22 = .ok (.iconst 0, 1) := by decide +kernel
theorem dX5_sheet_23 : decode cX5_sheet 23 = .ok (.invokevirtual 94, 3) := by decide +kernel
theorem dX5_sheet_26 : decode cX5_sheet 26 = .ok (.ifCond .ne 5, 3) := by decide +kernel
theorem dX5_sheet_29 : decode cX5_sheet 29 = .ok (.iconst 0, 1) := by decide +kernel
theorem dX5_sheet_30 : decode cX5_sheet 30 = .ok (.ireturn, 1) := by decide +kernel
theorem dX5_sheet_31 : decode cX5_sheet 31 = .ok (.aload_n 0, 1) := by decide +kernel
theorem dX5_sheet_32 : decode cX5_sheet 32 = .ok (.iload_n 1, 1) := by decide +kernel
theorem dX5_sheet_33 : decode cX5_sheet 33 = .ok (.invokevirtual 103, 3) := by decide +kernel
theorem dX5_sheet_36 : decode cX5_sheet 36 = .ok (.ifCond .eq 12, 3) := by decide +kernel
theorem dX5_sheet_39 : decode cX5_sheet 39 = .ok (.aload_n 0, 1) := by decide +kernel
theorem dX5_sheet_40 : decode cX5_sheet 40 = .ok (.iload_n 1, 1) := by decide +kernel
theorem dX5_sheet_41 : decode cX5_sheet 41 = .ok (.iload_n 2, 1) := by decide +kernel
theorem dX5_sheet_42 : decode cX5_sheet 42 = .ok (.invokevirtual 162, 3) := by decide +kernel
theorem dX5_sheet_45 : decode cX5_sheet 45 = .ok (.goto 4, 3) := by decide +kernel
theorem dX5_sheet_48 : decode cX5_sheet 48 = .ok (.iconst (-1), 1) := by decide +kernel
theorem dX5_sheet_49 : decode cX5_sheet 49 = .ok (.ireturn, 1) := by decide +kernel
theorem dX5_inBlock_0 : decode cX5_inBlock 0 = .ok (.iconst 0, 1) := by decide +kernel
theorem dX5_inBlock_1 : decode cX5_inBlock 1 = .ok (.istore_n 2, 1) := by decide +kernel
theorem dX5_inBlock_2 : decode cX5_inBlock 2 = .ok (.iconst 0, 1) := by decide +kernel
theorem dX5_inBlock_3 : decode cX5_inBlock 3 = .ok (.istore_n 3, 1) := by decide +kernel
theorem dX5_inBlock_4 : decode cX5_inBlock 4 = .ok (.iload_n 3, 1) := by decide +kernel
theorem dX5_inBlock_5 : decode cX5_inBlock 5 = .ok (.aload_n 0, 1) := by decide +kernel
theorem dX5_inBlock_6 : decode cX5_inBlock 6 = .ok (.getfield 7, 3) := by decide +kernel
theorem dX5_inBlock_9 : decode cX5_inBlock 9 = .ok (.iconst 3, 1) := by decide +kernel
theorem dX5_inBlock_10 : decode cX5_inBlock 10 = .ok (.iaload, 1) := by decide +kernel
theorem dX5_inBlock_11 : decode cX5_inBlock 11 = .ok (.if_icmp .ge 30, 3) := by decide +kernel
theorem dX5_inBlock_14 : decode cX5_inBlock 14 = .ok (.iload_n 2, 1) := by decide +kernel
theorem dX5_inBlock_15 : decode cX5_inBlock 15 = .ok (.aload_n 0, 1) := by decide +kernel
theorem dX5_inBlock_16 : decode cX5_inBlock 16 = .ok (.getfield 7, 3) := by decide +kernel
theorem dX5_inBlock_19 : decode cX5_inBlock 19 = .ok (.bipush 70, 2) := by decide +kernel
theorem dX5_inBlock_21 : decode cX5_inBlock 21 = .ok (.iload_n 3, 1) := by decide +kernel
theorem dX5_inBlock_22 : decode cX5_inBlock 22 = .ok (.iadd, 1) := by decide +kernel
theorem dX5_inBlock_23 : decode cX5_inBlock 23 = .ok (.iaload, 1) := by decide +kernel
theorem dX5_inBlock_24 : decode cX5_inBlock 24 = .ok (.iload_n 1, 1) := by decide +kernel
theorem dX5_inBlock_25 : decode cX5_inBlock 25 = .ok (.if_icmp .ne 7, 3) := by decide +kernel
theorem dX5_inBlock_28 : decode cX5_inBlock 28 = .ok (.iconst 1, 1) := by decide +kernel
theorem dX5_inBlock_29 : decode cX5_inBlock 29 = .ok (.goto 4, 3) := by decide +kernel
theorem dX5_inBlock_32 : decode cX5_inBlock 32 = .ok (.iconst 0, 1) := by decide +kernel
theorem dX5_inBlock_33 : decode cX5_inBlock 33 = .ok (.iadd, 1) := by decide +kernel
theorem dX5_inBlock_34 : decode cX5_inBlock 34 = .ok (.istore_n 2, 1) := by decide +kernel
theorem dX5_inBlock_35 : decode cX5_inBlock 35 = .ok (.iinc 3 1, 3) := by decide +kernel
theorem dX5_inBlock_38 : decode cX5_inBlock 38 = .ok (.goto (-34), 3) := by decide +kernel
theorem dX5_inBlock_41 : decode cX5_inBlock 41 = .ok (.iload_n 2, 1) := by decide +kernel
theorem dX5_inBlock_42 : decode cX5_inBlock 42 = .ok (.ireturn, 1) := by decide +kernel
theorem dX5_ofBin_0 : decode cX5_ofBin 0 = .ok (.iload_n 2, 1) := by decide +kernel
theorem dX5_ofBin_1 : decode cX5_ofBin 1 = .ok (.tableswitch 67 0 3 #[31, 41, 47, 57], 31) := by decide +kernel
theorem dX5_ofBin_32 : decode cX5_ofBin 32 = .ok (.aload_n 0, 1) := by decide +kernel
theorem dX5_ofBin_33 : decode cX5_ofBin 33 = .ok (.getfield 7, 3) := by decide +kernel
theorem dX5_ofBin_36 : decode cX5_ofBin 36 = .ok (.bipush 6, 2) := by decide +kernel
theorem dX5_ofBin_38 : decode cX5_ofBin 38 = .ok (.iload_n 1, 1) := by decide +kernel
theorem dX5_ofBin_39 : decode cX5_ofBin 39 = .ok (.iadd, 1) := by decide +kernel
theorem dX5_ofBin_40 : decode cX5_ofBin 40 = .ok (.iaload, 1) := by decide +kernel
theorem dX5_ofBin_41 : decode cX5_ofBin 41 = .ok (.ireturn, 1) := by decide +kernel
theorem dX5_ofBin_42 : decode cX5_ofBin 42 = .ok (.aload_n 0, 1) := by decide +kernel
theorem dX5_ofBin_43 : decode cX5_ofBin 43 = .ok (.iload_n 1, 1) := by decide +kernel
theorem dX5_ofBin_44 : decode cX5_ofBin 44 = .ok (.invokevirtual 165, 3) := by decide +kernel
theorem dX5_ofBin_47 : decode cX5_ofBin 47 = .ok (.ireturn, 1) := by decide +kernel
theorem dX5_ofBin_48 : decode cX5_ofBin 48 = .ok (.aload_n 0, 1) := by decide +kernel
theorem dX5_ofBin_49 : decode cX5_ofBin 49 = .ok (.getfield 7, 3) := by decide +kernel
theorem dX5_ofBin_52 : decode cX5_ofBin 52 = .ok (.bipush 22, 2) := by decide +kernel
theorem dX5_ofBin_54 : decode cX5_ofBin 54 = .ok (.iload_n 1, 1) := by decide +kernel
theorem dX5_ofBin_55 : decode cX5_ofBin 55 = .ok (.iadd, 1) := by decide +kernel
theorem dX5_ofBin_56 : decode cX5_ofBin 56 = .ok (.iaload, 1) := by decide +kernel
theorem dX5_ofBin_57 : decode cX5_ofBin 57 = .ok (.ireturn, 1) := by decide +kernel
theorem dX5_ofBin_58 : decode cX5_ofBin 58 = .ok (.aload_n 0, 1) := by decide +kernel
theorem dX5_ofBin_59 : decode cX5_ofBin 59 = .ok (.getfield 7, 3) := by decide +kernel
theorem dX5_ofBin_62 : decode cX5_ofBin 62 = .ok (.bipush 38, 2) := by decide +kernel
theorem dX5_ofBin_64 : decode cX5_ofBin 64 = .ok (.iload_n 1, 1) := by decide +kernel
theorem dX5_ofBin_65 : decode cX5_ofBin 65 = .ok (.iadd, 1) := by decide +kernel
theorem dX5_ofBin_66 : decode cX5_ofBin 66 = .ok (.iaload, 1) := by decide +kernel
theorem dX5_ofBin_67 : decode cX5_ofBin 67 = .ok (.ireturn, 1) := by decide +kernel
theorem dX5_ofBin_68 : decode cX5_ofBin 68 = .ok (.aload_n 0, 1) := by decide +kernel
theorem dX5_ofBin_69 : decode cX5_ofBin 69 = .ok (.getfield 7, 3) := by decide +kernel
theorem dX5_ofBin_72 : decode cX5_ofBin 72 = .ok (.bipush 54, 2) := by decide +kernel
theorem dX5_ofBin_74 : decode cX5_ofBin 74 = .ok (.iload_n 1, 1) := by decide +kernel
theorem dX5_ofBin_75 : decode cX5_ofBin 75 = .ok (.iadd, 1) := by decide +kernel
theorem dX5_ofBin_76 : decode cX5_ofBin 76 = .ok (.iaload, 1) := by decide +kernel
theorem dX5_ofBin_77 : decode cX5_ofBin 77 = .ok (.ireturn, 1) := by decide +kernel
theorem dX5_bin_0 : decode cX5_bin 0 = .ok (.aload_n 0, 1) := by decide +kernel
theorem dX5_bin_1 : decode cX5_bin 1 = .ok (.iload_n 1, 1) := by decide +kernel
theorem dX5_bin_2 : decode cX5_bin 2 = .ok (.invokestatic 88, 3) := by decide +kernel
theorem dX5_bin_5 : decode cX5_bin 5 = .ok (.ifCond .ne 7, 3) := by decide +kernel
theorem dX5_bin_8 : decode cX5_bin 8 = .ok (.iconst 1, 1) := by decide +kernel
theorem dX5_bin_9 : decode cX5_bin 9 = .ok (.goto 17, 3) := by decide +kernel
theorem dX5_bin_12 : decode cX5_bin 12 = .ok (.iload_n 2, 1) := by decide +kernel
theorem dX5_bin_13 : decode cX5_bin 13 = .ok (.iconst 0, 1) := by decide +kernel
theorem dX5_bin_14 : decode cX5_bin 14 = .ok (.iconst 4, 1) := by decide +kernel
theorem dX5_bin_15 : decode cX5_bin 15 = .ok (.invokestatic 29, 3) := by decide +kernel
theorem dX5_bin_18 : decode cX5_bin 18 = .ok (.ifCond .ne 7, 3) := by decide +kernel
theorem dX5_bin_21 : decode cX5_bin 21 = .ok (.iconst 2, 1) := by decide +kernel
theorem dX5_bin_22 : decode cX5_bin 22 = .ok (.goto 4, 3) := by decide +kernel
theorem dX5_bin_25 : decode cX5_bin 25 = .ok (.iconst 0, 1) := by decide +kernel
theorem dX5_bin_26 : decode cX5_bin 26 = .ok (.invokevirtual 94, 3) := by decide +kernel
theorem dX5_bin_29 : decode cX5_bin 29 = .ok (.ifCond .eq 12, 3) := by decide +kernel
theorem dX5_bin_32 : decode cX5_bin 32 = .ok (.aload_n 0, 1) := by decide +kernel
theorem dX5_bin_33 : decode cX5_bin 33 = .ok (.iload_n 1, 1) := by decide +kernel
theorem dX5_bin_34 : decode cX5_bin 34 = .ok (.iload_n 2, 1) := by decide +kernel
theorem dX5_bin_35 : decode cX5_bin 35 = .ok (.invokevirtual 168, 3) := by decide +kernel
theorem dX5_bin_38 : decode cX5_bin 38 = .ok (.goto 4, 3) := by decide +kernel
theorem dX5_bin_41 : decode cX5_bin 41 = .ok (.iconst 0, 1) := by decide +kernel
theorem dX5_bin_42 : decode cX5_bin 42 = .ok (.ireturn, 1) := by decide +kernel
theorem dX5_faultPlace_0 : decode cX5_faultPlace 0 = .ok (.aload_n 0, 1) := by decide +kernel
theorem dX5_faultPlace_1 : decode cX5_faultPlace 1 = .ok (.invokevirtual 78, 3) := by decide +kernel
theorem dX5_faultPlace_4 : decode cX5_faultPlace 4 = .ok (.istore_n 1, 1) := by decide +kernel
theorem dX5_faultPlace_5 : decode cX5_faultPlace 5 = .ok (.iload_n 1, 1) := by decide +kernel
theorem dX5_faultPlace_6 : decode cX5_faultPlace 6 = .ok (.iconst 2, 1) := by decide +kernel
theorem dX5_faultPlace_7 : decode cX5_faultPlace 7 = .ok (.if_icmp .lt 8, 3) := by decide +kernel
theorem dX5_faultPlace_10 : decode cX5_faultPlace 10 = .ok (.iload_n 1, 1) := by decide +kernel
theorem dX5_faultPlace_11 : decode cX5_faultPlace 11 = .ok (.iconst 5, 1) := by decide +kernel
theorem dX5_faultPlace_12 : decode cX5_faultPlace 12 = .ok (.if_icmp .ne 7, 3) := by decide +kernel
theorem dX5_faultPlace_15 : decode cX5_faultPlace 15 = .ok (.iconst (-1), 1) := by decide +kernel
theorem dX5_faultPlace_16 : decode cX5_faultPlace 16 = .ok (.goto 8, 3) := by decide +kernel
theorem dX5_faultPlace_19 : decode cX5_faultPlace 19 = .ok (.aload_n 0, 1) := by decide +kernel
theorem dX5_faultPlace_20 : decode cX5_faultPlace 20 = .ok (.iload_n 1, 1) := by decide +kernel
theorem dX5_faultPlace_21 : decode cX5_faultPlace 21 = .ok (.invokevirtual 55, 3) := by decide +kernel
theorem dX5_faultPlace_24 : decode cX5_faultPlace 24 = .ok (.ireturn, 1) := by decide +kernel
theorem dX5_boundSheets_0 : decode cX5_boundSheets 0 = .ok (.iconst 0, 1) := by decide +kernel
theorem dX5_boundSheets_1 : decode cX5_boundSheets 1 = .ok (.istore_n 1, 1) := by decide +kernel
theorem dX5_boundSheets_2 : decode cX5_boundSheets 2 = .ok (.iconst 0, 1) := by decide +kernel
theorem dX5_boundSheets_3 : decode cX5_boundSheets 3 = .ok (.istore_n 2, 1) := by decide +kernel
theorem dX5_boundSheets_4 : decode cX5_boundSheets 4 = .ok (.iload_n 2, 1) := by decide +kernel
theorem dX5_boundSheets_5 : decode cX5_boundSheets 5 = .ok (.bipush 16, 2) := by decide +kernel
theorem dX5_boundSheets_7 : decode cX5_boundSheets 7 = .ok (.if_icmp .ge 21, 3) := by decide +kernel
theorem dX5_boundSheets_10 : decode cX5_boundSheets 10 = .ok (.iload_n 1, 1) := by decide +kernel
theorem dX5_boundSheets_11 : decode cX5_boundSheets 11 = .ok (.aload_n 0, 1) := by decide +kernel
theorem dX5_boundSheets_12 : decode cX5_boundSheets 12 = .ok (.getfield 7, 3) := by decide +kernel
theorem dX5_boundSheets_15 : decode cX5_boundSheets 15 = .ok (.bipush 22, 2) := by decide +kernel
theorem dX5_boundSheets_17 : decode cX5_boundSheets 17 = .ok (.iload_n 2, 1) := by decide +kernel
theorem dX5_boundSheets_18 : decode cX5_boundSheets 18 = .ok (.iadd, 1) := by decide +kernel
theorem dX5_boundSheets_19 : decode cX5_boundSheets 19 = .ok (.iaload, 1) := by decide +kernel
theorem dX5_boundSheets_20 : decode cX5_boundSheets 20 = .ok (.iadd, 1) := by decide +kernel
theorem dX5_boundSheets_21 : decode cX5_boundSheets 21 = .ok (.istore_n 1, 1) := by decide +kernel
theorem dX5_boundSheets_22 : decode cX5_boundSheets 22 = .ok (.iinc 2 1, 3) := by decide +kernel
theorem dX5_boundSheets_25 : decode cX5_boundSheets 25 = .ok (.goto (-21), 3) := by decide +kernel
theorem dX5_boundSheets_28 : decode cX5_boundSheets 28 = .ok (.iload_n 1, 1) := by decide +kernel
theorem dX5_boundSheets_29 : decode cX5_boundSheets 29 = .ok (.ireturn, 1) := by decide +kernel
theorem dX5_counted_0 : decode cX5_counted 0 = .ok (.aload_n 0, 1) := by decide +kernel
theorem dX5_counted_1 : decode cX5_counted 1 = .ok (.iconst (-1), 1) := by decide +kernel
theorem dX5_counted_2 : decode cX5_counted 2 = .ok (.invokevirtual 71, 3) := by decide +kernel
theorem dX5_counted_5 : decode cX5_counted 5 = .ok (.iload_n 1, 1) := by decide +kernel
theorem dX5_counted_6 : decode cX5_counted 6 = .ok (.tableswitch 163 0 14 #[74, 79, 84, 89, 94, 99, 119, 119, 124, 129, 134, 139, 144, 151, 156], 74) := by decide +kernel
theorem dX5_counted_80 : decode cX5_counted 80 = .ok (.aload_n 0, 1) := by decide +kernel
theorem dX5_counted_81 : decode cX5_counted 81 = .ok (.getfield 33, 3) := by decide +kernel
theorem dX5_counted_84 : decode cX5_counted 84 = .ok (.ireturn, 1) := by decide +kernel
theorem dX5_counted_85 : decode cX5_counted 85 = .ok (.aload_n 0, 1) := by decide +kernel
theorem dX5_counted_86 : decode cX5_counted 86 = .ok (.invokevirtual 75, 3) := by decide +kernel
theorem dX5_counted_89 : decode cX5_counted 89 = .ok (.ireturn, 1) := by decide +kernel
theorem dX5_counted_90 : decode cX5_counted 90 = .ok (.aload_n 0, 1) := by decide +kernel
theorem dX5_counted_91 : decode cX5_counted 91 = .ok (.invokevirtual 78, 3) := by decide +kernel
theorem dX5_counted_94 : decode cX5_counted 94 = .ok (.ireturn, 1) := by decide +kernel
theorem dX5_counted_95 : decode cX5_counted 95 = .ok (.aload_n 0, 1) := by decide +kernel
theorem dX5_counted_96 : decode cX5_counted 96 = .ok (.invokevirtual 171, 3) := by decide +kernel
theorem dX5_counted_99 : decode cX5_counted 99 = .ok (.ireturn, 1) := by decide +kernel
theorem dX5_counted_100 : decode cX5_counted 100 = .ok (.aload_n 0, 1) := by decide +kernel
theorem dX5_counted_101 : decode cX5_counted 101 = .ok (.invokevirtual 51, 3) := by decide +kernel
theorem dX5_counted_104 : decode cX5_counted 104 = .ok (.ireturn, 1) := by decide +kernel
theorem dX5_counted_105 : decode cX5_counted 105 = .ok (.aload_n 0, 1) := by decide +kernel
theorem dX5_counted_106 : decode cX5_counted 106 = .ok (.invokevirtual 78, 3) := by decide +kernel
theorem dX5_counted_109 : decode cX5_counted 109 = .ok (.ifCond .le 14, 3) := by decide +kernel
theorem dX5_counted_112 : decode cX5_counted 112 = .ok (.aload_n 0, 1) := by decide +kernel
theorem dX5_counted_113 : decode cX5_counted 113 = .ok (.invokevirtual 75, 3) := by decide +kernel
theorem dX5_counted_116 : decode cX5_counted 116 = .ok (.ifCond .ne 7, 3) := by decide +kernel
theorem dX5_counted_119 : decode cX5_counted 119 = .ok (.iconst 1, 1) := by decide +kernel
theorem dX5_counted_120 : decode cX5_counted 120 = .ok (.goto 4, 3) := by decide +kernel
theorem dX5_counted_123 : decode cX5_counted 123 = .ok (.iconst 0, 1) := by decide +kernel
theorem dX5_counted_124 : decode cX5_counted 124 = .ok (.ireturn, 1) := by decide +kernel
theorem dX5_counted_125 : decode cX5_counted 125 = .ok (.aload_n 0, 1) := by decide +kernel
theorem dX5_counted_126 : decode cX5_counted 126 = .ok (.invokevirtual 174, 3) := by decide +kernel
theorem dX5_counted_129 : decode cX5_counted 129 = .ok (.ireturn, 1) := by decide +kernel
theorem dX5_counted_130 : decode cX5_counted 130 = .ok (.aload_n 0, 1) := by decide +kernel
theorem dX5_counted_131 : decode cX5_counted 131 = .ok (.invokevirtual 177, 3) := by decide +kernel
theorem dX5_counted_134 : decode cX5_counted 134 = .ok (.ireturn, 1) := by decide +kernel
theorem dX5_counted_135 : decode cX5_counted 135 = .ok (.aload_n 0, 1) := by decide +kernel
theorem dX5_counted_136 : decode cX5_counted 136 = .ok (.invokevirtual 65, 3) := by decide +kernel
theorem dX5_counted_139 : decode cX5_counted 139 = .ok (.ireturn, 1) := by decide +kernel
theorem dX5_counted_140 : decode cX5_counted 140 = .ok (.aload_n 0, 1) := by decide +kernel
theorem dX5_counted_141 : decode cX5_counted 141 = .ok (.invokevirtual 180, 3) := by decide +kernel
theorem dX5_counted_144 : decode cX5_counted 144 = .ok (.ireturn, 1) := by decide +kernel
theorem dX5_counted_145 : decode cX5_counted 145 = .ok (.aload_n 0, 1) := by decide +kernel
theorem dX5_counted_146 : decode cX5_counted 146 = .ok (.invokevirtual 183, 3) := by decide +kernel
theorem dX5_counted_149 : decode cX5_counted 149 = .ok (.ireturn, 1) := by decide +kernel
theorem dX5_counted_150 : decode cX5_counted 150 = .ok (.aload_n 0, 1) := by decide +kernel
theorem dX5_counted_151 : decode cX5_counted 151 = .ok (.getfield 7, 3) := by decide +kernel
theorem dX5_counted_154 : decode cX5_counted 154 = .ok (.iconst 4, 1) := by decide +kernel
theorem dX5_counted_155 : decode cX5_counted 155 = .ok (.iaload, 1) := by decide +kernel
theorem dX5_counted_156 : decode cX5_counted 156 = .ok (.ireturn, 1) := by decide +kernel
theorem dX5_counted_157 : decode cX5_counted 157 = .ok (.aload_n 0, 1) := by decide +kernel
theorem dX5_counted_158 : decode cX5_counted 158 = .ok (.invokevirtual 186, 3) := by decide +kernel
theorem dX5_counted_161 : decode cX5_counted 161 = .ok (.ireturn, 1) := by decide +kernel
theorem dX5_counted_162 : decode cX5_counted 162 = .ok (.aload_n 0, 1) := by decide +kernel
theorem dX5_counted_163 : decode cX5_counted 163 = .ok (.getfield 7, 3) := by decide +kernel
theorem dX5_counted_166 : decode cX5_counted 166 = .ok (.iconst 5, 1) := by decide +kernel
theorem dX5_counted_167 : decode cX5_counted 167 = .ok (.iaload, 1) := by decide +kernel
theorem dX5_counted_168 : decode cX5_counted 168 = .ok (.ireturn, 1) := by decide +kernel
theorem dX5_counted_169 : decode cX5_counted 169 = .ok (.aload_n 0, 1) := by decide +kernel
theorem dX5_counted_170 : decode cX5_counted 170 = .ok (.getfield 81, 3) := by decide +kernel
theorem dX5_counted_173 : decode cX5_counted 173 = .ok (.ireturn, 1) := by decide +kernel
theorem dX5_count_0 : decode cX5_count 0 = .ok (.aload_n 0, 1) := by decide +kernel
theorem dX5_count_1 : decode cX5_count 1 = .ok (.iload_n 1, 1) := by decide +kernel
theorem dX5_count_2 : decode cX5_count 2 = .ok (.iconst 0, 1) := by decide +kernel
theorem dX5_count_3 : decode cX5_count 3 = .ok (.bipush 15, 2) := by decide +kernel
theorem dX5_count_5 : decode cX5_count 5 = .ok (.invokestatic 29, 3) := by decide +kernel
theorem dX5_count_8 : decode cX5_count 8 = .ok (.ifCond .eq 7, 3) := by decide +kernel
theorem dX5_count_11 : decode cX5_count 11 = .ok (.iconst 0, 1) := by decide +kernel
theorem dX5_count_12 : decode cX5_count 12 = .ok (.goto 4, 3) := by decide +kernel
theorem dX5_count_15 : decode cX5_count 15 = .ok (.iconst 1, 1) := by decide +kernel
theorem dX5_count_16 : decode cX5_count 16 = .ok (.invokevirtual 94, 3) := by decide +kernel
theorem dX5_count_19 : decode cX5_count 19 = .ok (.ifCond .eq 11, 3) := by decide +kernel
theorem dX5_count_22 : decode cX5_count 22 = .ok (.aload_n 0, 1) := by decide +kernel
theorem dX5_count_23 : decode cX5_count 23 = .ok (.iload_n 1, 1) := by decide +kernel
theorem dX5_count_24 : decode cX5_count 24 = .ok (.invokevirtual 189, 3) := by decide +kernel
theorem dX5_count_27 : decode cX5_count 27 = .ok (.goto 4, 3) := by decide +kernel
theorem dX5_count_30 : decode cX5_count 30 = .ok (.iconst 0, 1) := by decide +kernel
theorem dX5_count_31 : decode cX5_count 31 = .ok (.ireturn, 1) := by decide +kernel
theorem dX5_setting_0 : decode cX5_setting 0 = .ok (.aload_n 0, 1) := by decide +kernel
theorem dX5_setting_1 : decode cX5_setting 1 = .ok (.iload_n 1, 1) := by decide +kernel
theorem dX5_setting_2 : decode cX5_setting 2 = .ok (.iconst 0, 1) := by decide +kernel
theorem dX5_setting_3 : decode cX5_setting 3 = .ok (.iconst 2, 1) := by decide +kernel
theorem dX5_setting_4 : decode cX5_setting 4 = .ok (.invokestatic 29, 3) := by decide +kernel
theorem dX5_setting_7 : decode cX5_setting 7 = .ok (.ifCond .eq 7, 3) := by decide +kernel
theorem dX5_setting_10 : decode cX5_setting 10 = .ok (.iconst 0, 1) := by decide +kernel
theorem dX5_setting_11 : decode cX5_setting 11 = .ok (.goto 4, 3) := by decide +kernel
theorem dX5_setting_14 : decode cX5_setting 14 = .ok (.iconst 1, 1) := by decide +kernel
theorem dX5_setting_15 : decode cX5_setting 15 = .ok (.invokevirtual 94, 3) := by decide +kernel
theorem dX5_setting_18 : decode cX5_setting 18 = .ok (.ifCond .eq 14, 3) := by decide +kernel
theorem dX5_setting_21 : decode cX5_setting 21 = .ok (.aload_n 0, 1) := by decide +kernel
theorem dX5_setting_22 : decode cX5_setting 22 = .ok (.getfield 7, 3) := by decide +kernel
theorem dX5_setting_25 : decode cX5_setting 25 = .ok (.iconst 0, 1) := by decide +kernel
theorem dX5_setting_26 : decode cX5_setting 26 = .ok (.iload_n 1, 1) := by decide +kernel
theorem dX5_setting_27 : decode cX5_setting 27 = .ok (.iadd, 1) := by decide +kernel
theorem dX5_setting_28 : decode cX5_setting 28 = .ok (.iaload, 1) := by decide +kernel
theorem dX5_setting_29 : decode cX5_setting 29 = .ok (.goto 4, 3) := by decide +kernel
theorem dX5_setting_32 : decode cX5_setting 32 = .ok (.iconst 0, 1) := by decide +kernel
theorem dX5_setting_33 : decode cX5_setting 33 = .ok (.ireturn, 1) := by decide +kernel
theorem dX5_fewestBehind_0 : decode cX5_fewestBehind 0 = .ok (.aload_n 0, 1) := by decide +kernel
theorem dX5_fewestBehind_1 : decode cX5_fewestBehind 1 = .ok (.iload_n 1, 1) := by decide +kernel
theorem dX5_fewestBehind_2 : decode cX5_fewestBehind 2 = .ok (.invokevirtual 71, 3) := by decide +kernel
theorem dX5_fewestBehind_5 : decode cX5_fewestBehind 5 = .ok (.aload_n 0, 1) := by decide +kernel
theorem dX5_fewestBehind_6 : decode cX5_fewestBehind 6 = .ok (.getfield 33, 3) := by decide +kernel
theorem dX5_fewestBehind_9 : decode cX5_fewestBehind 9 = .ok (.istore_n 3, 1) := by decide +kernel
theorem dX5_fewestBehind_10 : decode cX5_fewestBehind 10 = .ok (.iload_n 3, 1) := by decide +kernel
theorem dX5_fewestBehind_11 : decode cX5_fewestBehind 11 = .ok (.iload_n 2, 1) := by decide +kernel
theorem dX5_fewestBehind_12 : decode cX5_fewestBehind 12 = .ok (.if_icmp .le 23, 3) := by decide +kernel
theorem dX5_fewestBehind_15 : decode cX5_fewestBehind 15 = .ok (.aload_n 0, 1) := by decide +kernel
theorem dX5_fewestBehind_16 : decode cX5_fewestBehind 16 = .ok (.getfield 16, 3) := by decide +kernel
theorem dX5_fewestBehind_19 : decode cX5_fewestBehind 19 = .ok (.iload_n 3, 1) := by decide +kernel
theorem dX5_fewestBehind_20 : decode cX5_fewestBehind 20 = .ok (.aload_n 0, 1) := by decide +kernel
theorem dX5_fewestBehind_21 : decode cX5_fewestBehind 21 = .ok (.getfield 16, 3) := by decide +kernel
theorem dX5_fewestBehind_24 : decode cX5_fewestBehind 24 = .ok (.iload_n 3, 1) := by decide +kernel
theorem dX5_fewestBehind_25 : decode cX5_fewestBehind 25 = .ok (.iconst 1, 1) := by decide +kernel
theorem dX5_fewestBehind_26 : decode cX5_fewestBehind 26 = .ok (.isub, 1) := by decide +kernel
theorem dX5_fewestBehind_27 : decode cX5_fewestBehind 27 = .ok (.iaload, 1) := by decide +kernel
theorem dX5_fewestBehind_28 : decode cX5_fewestBehind 28 = .ok (.iastore, 1) := by decide +kernel
theorem dX5_fewestBehind_29 : decode cX5_fewestBehind 29 = .ok (.iinc 3 (-1), 3) := by decide +kernel
theorem dX5_fewestBehind_32 : decode cX5_fewestBehind 32 = .ok (.goto (-22), 3) := by decide +kernel
theorem dX5_fewestBehind_35 : decode cX5_fewestBehind 35 = .ok (.aload_n 0, 1) := by decide +kernel
theorem dX5_fewestBehind_36 : decode cX5_fewestBehind 36 = .ok (.getfield 16, 3) := by decide +kernel
theorem dX5_fewestBehind_39 : decode cX5_fewestBehind 39 = .ok (.iload_n 2, 1) := by decide +kernel
theorem dX5_fewestBehind_40 : decode cX5_fewestBehind 40 = .ok (.aload_n 0, 1) := by decide +kernel
theorem dX5_fewestBehind_41 : decode cX5_fewestBehind 41 = .ok (.getfield 7, 3) := by decide +kernel
theorem dX5_fewestBehind_44 : decode cX5_fewestBehind 44 = .ok (.bipush 70, 2) := by decide +kernel
theorem dX5_fewestBehind_46 : decode cX5_fewestBehind 46 = .ok (.iload_n 1, 1) := by decide +kernel
theorem dX5_fewestBehind_47 : decode cX5_fewestBehind 47 = .ok (.iadd, 1) := by decide +kernel
theorem dX5_fewestBehind_48 : decode cX5_fewestBehind 48 = .ok (.iaload, 1) := by decide +kernel
theorem dX5_fewestBehind_49 : decode cX5_fewestBehind 49 = .ok (.iastore, 1) := by decide +kernel
theorem dX5_fewestBehind_50 : decode cX5_fewestBehind 50 = .ok (.aload_n 0, 1) := by decide +kernel
theorem dX5_fewestBehind_51 : decode cX5_fewestBehind 51 = .ok (.dup, 1) := by decide +kernel
theorem dX5_fewestBehind_52 : decode cX5_fewestBehind 52 = .ok (.getfield 33, 3) := by decide +kernel
theorem dX5_fewestBehind_55 : decode cX5_fewestBehind 55 = .ok (.iconst 1, 1) := by decide +kernel
theorem dX5_fewestBehind_56 : decode cX5_fewestBehind 56 = .ok (.iadd, 1) := by decide +kernel
theorem dX5_fewestBehind_57 : decode cX5_fewestBehind 57 = .ok (.putfield 33, 3) := by decide +kernel
theorem dX5_fewestBehind_60 : decode cX5_fewestBehind 60 = .ok (.aload_n 0, 1) := by decide +kernel
theorem dX5_fewestBehind_61 : decode cX5_fewestBehind 61 = .ok (.invokevirtual 174, 3) := by decide +kernel
theorem dX5_fewestBehind_64 : decode cX5_fewestBehind 64 = .ok (.ireturn, 1) := by decide +kernel
theorem dX5_moveNext_0 : decode cX5_moveNext 0 = .ok (.aload_n 0, 1) := by decide +kernel
theorem dX5_moveNext_1 : decode cX5_moveNext 1 = .ok (.iconst (-1), 1) := by decide +kernel
theorem dX5_moveNext_2 : decode cX5_moveNext 2 = .ok (.invokevirtual 71, 3) := by decide +kernel
theorem dX5_moveNext_5 : decode cX5_moveNext 5 = .ok (.aload_n 0, 1) := by decide +kernel
theorem dX5_moveNext_6 : decode cX5_moveNext 6 = .ok (.invokevirtual 174, 3) := by decide +kernel
theorem dX5_moveNext_9 : decode cX5_moveNext 9 = .ok (.istore_n 1, 1) := by decide +kernel
theorem dX5_moveNext_10 : decode cX5_moveNext 10 = .ok (.aload_n 0, 1) := by decide +kernel
theorem dX5_moveNext_11 : decode cX5_moveNext 11 = .ok (.getfield 7, 3) := by decide +kernel
theorem dX5_moveNext_14 : decode cX5_moveNext 14 = .ok (.iconst 3, 1) := by decide +kernel
theorem dX5_moveNext_15 : decode cX5_moveNext 15 = .ok (.iaload, 1) := by decide +kernel
theorem dX5_moveNext_16 : decode cX5_moveNext 16 = .ok (.istore_n 2, 1) := by decide +kernel
theorem dX5_moveNext_17 : decode cX5_moveNext 17 = .ok (.iconst 0, 1) := by decide +kernel
theorem dX5_moveNext_18 : decode cX5_moveNext 18 = .ok (.istore_n 3, 1) := by decide +kernel
theorem dX5_moveNext_19 : decode cX5_moveNext 19 = .ok (.iload_n 3, 1) := by decide +kernel
theorem dX5_moveNext_20 : decode cX5_moveNext 20 = .ok (.iload_n 2, 1) := by decide +kernel
theorem dX5_moveNext_21 : decode cX5_moveNext 21 = .ok (.iload_n 2, 1) := by decide +kernel
theorem dX5_moveNext_22 : decode cX5_moveNext 22 = .ok (.imul, 1) := by decide +kernel
theorem dX5_moveNext_23 : decode cX5_moveNext 23 = .ok (.if_icmp .ge 40, 3) := by decide +kernel
theorem dX5_moveNext_26 : decode cX5_moveNext 26 = .ok (.iload_n 1, 1) := by decide +kernel
theorem dX5_moveNext_27 : decode cX5_moveNext 27 = .ok (.ifCond .le 36, 3) := by decide +kernel
theorem dX5_moveNext_30 : decode cX5_moveNext 30 = .ok (.aload_n 0, 1) := by decide +kernel
theorem dX5_moveNext_31 : decode cX5_moveNext 31 = .ok (.iload_n 3, 1) := by decide +kernel
theorem dX5_moveNext_32 : decode cX5_moveNext 32 = .ok (.iload_n 2, 1) := by decide +kernel
theorem dX5_moveNext_33 : decode cX5_moveNext 33 = .ok (.idiv, 1) := by decide +kernel
theorem dX5_moveNext_34 : decode cX5_moveNext 34 = .ok (.iload_n 3, 1) := by decide +kernel
theorem dX5_moveNext_35 : decode cX5_moveNext 35 = .ok (.iload_n 2, 1) := by decide +kernel
theorem dX5_moveNext_36 : decode cX5_moveNext 36 = .ok (.irem, 1) := by decide +kernel
theorem dX5_moveNext_37 : decode cX5_moveNext 37 = .ok (.invokevirtual 192, 3) := by decide +kernel
theorem dX5_moveNext_40 : decode cX5_moveNext 40 = .ok (.iload_n 1, 1) := by decide +kernel
theorem dX5_moveNext_41 : decode cX5_moveNext 41 = .ok (.iconst 1, 1) := by decide +kernel
theorem dX5_moveNext_42 : decode cX5_moveNext 42 = .ok (.isub, 1) := by decide +kernel
theorem dX5_moveNext_43 : decode cX5_moveNext 43 = .ok (.if_icmp .ne 14, 3) := by decide +kernel
theorem dX5_moveNext_46 : decode cX5_moveNext 46 = .ok (.bipush 20, 2) := by decide +kernel
theorem dX5_moveNext_48 : decode cX5_moveNext 48 = .ok (.iload_n 3, 1) := by decide +kernel
theorem dX5_moveNext_49 : decode cX5_moveNext 49 = .ok (.iload_n 2, 1) := by decide +kernel
theorem dX5_moveNext_50 : decode cX5_moveNext 50 = .ok (.idiv, 1) := by decide +kernel
theorem dX5_moveNext_51 : decode cX5_moveNext 51 = .ok (.imul, 1) := by decide +kernel
theorem dX5_moveNext_52 : decode cX5_moveNext 52 = .ok (.iload_n 3, 1) := by decide +kernel
theorem dX5_moveNext_53 : decode cX5_moveNext 53 = .ok (.iload_n 2, 1) := by decide +kernel
theorem dX5_moveNext_54 : decode cX5_moveNext 54 = .ok (.irem, 1) := by decide +kernel
theorem dX5_moveNext_55 : decode cX5_moveNext 55 = .ok (.iadd, 1) := by decide +kernel
theorem dX5_moveNext_56 : decode cX5_moveNext 56 = .ok (.ireturn, 1) := by decide +kernel
theorem dX5_moveNext_57 : decode cX5_moveNext 57 = .ok (.iinc 3 1, 3) := by decide +kernel
theorem dX5_moveNext_60 : decode cX5_moveNext 60 = .ok (.goto (-41), 3) := by decide +kernel
theorem dX5_moveNext_63 : decode cX5_moveNext 63 = .ok (.iconst (-1), 1) := by decide +kernel
theorem dX5_moveNext_64 : decode cX5_moveNext 64 = .ok (.ireturn, 1) := by decide +kernel
theorem dX5_nextMove_0 : decode cX5_nextMove 0 = .ok (.aload_n 0, 1) := by decide +kernel
theorem dX5_nextMove_1 : decode cX5_nextMove 1 = .ok (.iconst 0, 1) := by decide +kernel
theorem dX5_nextMove_2 : decode cX5_nextMove 2 = .ok (.putfield 25, 3) := by decide +kernel
theorem dX5_nextMove_5 : decode cX5_nextMove 5 = .ok (.aload_n 0, 1) := by decide +kernel
theorem dX5_nextMove_6 : decode cX5_nextMove 6 = .ok (.invokevirtual 195, 3) := by decide +kernel
theorem dX5_nextMove_9 : decode cX5_nextMove 9 = .ok (.ireturn, 1) := by decide +kernel
theorem dX5_without_0 : decode cX5_without 0 = .ok (.aload_n 0, 1) := by decide +kernel
theorem dX5_without_1 : decode cX5_without 1 = .ok (.iload_n 1, 1) := by decide +kernel
theorem dX5_without_2 : decode cX5_without 2 = .ok (.invokevirtual 71, 3) := by decide +kernel
theorem dX5_without_5 : decode cX5_without 5 = .ok (.iload_n 2, 1) := by decide +kernel
theorem dX5_without_6 : decode cX5_without 6 = .ok (.ifCond .ne 10, 3) := by decide +kernel
theorem dX5_without_9 : decode cX5_without 9 = .ok (.aload_n 0, 1) := by decide +kernel
theorem dX5_without_10 : decode cX5_without 10 = .ok (.invokevirtual 75, 3) := by decide +kernel
theorem dX5_without_13 : decode cX5_without 13 = .ok (.goto 31, 3) := by decide +kernel
theorem dX5_without_16 : decode cX5_without 16 = .ok (.iload_n 2, 1) := by decide +kernel
theorem dX5_without_17 : decode cX5_without 17 = .ok (.iconst 1, 1) := by decide +kernel
theorem dX5_without_18 : decode cX5_without 18 = .ok (.if_icmp .ne 10, 3) := by decide +kernel
theorem dX5_without_21 : decode cX5_without 21 = .ok (.aload_n 0, 1) := by decide +kernel
theorem dX5_without_22 : decode cX5_without 22 = .ok (.invokevirtual 78, 3) := by decide +kernel
theorem dX5_without_25 : decode cX5_without 25 = .ok (.goto 19, 3) := by decide +kernel
theorem dX5_without_28 : decode cX5_without 28 = .ok (.iload_n 2, 1) := by decide +kernel
theorem dX5_without_29 : decode cX5_without 29 = .ok (.iconst 2, 1) := by decide +kernel
theorem dX5_without_30 : decode cX5_without 30 = .ok (.if_icmp .ne 10, 3) := by decide +kernel
theorem dX5_without_33 : decode cX5_without 33 = .ok (.aload_n 0, 1) := by decide +kernel
theorem dX5_without_34 : decode cX5_without 34 = .ok (.invokevirtual 174, 3) := by decide +kernel
theorem dX5_without_37 : decode cX5_without 37 = .ok (.goto 7, 3) := by decide +kernel
theorem dX5_without_40 : decode cX5_without 40 = .ok (.aload_n 0, 1) := by decide +kernel
theorem dX5_without_41 : decode cX5_without 41 = .ok (.invokevirtual 65, 3) := by decide +kernel
theorem dX5_without_44 : decode cX5_without 44 = .ok (.ireturn, 1) := by decide +kernel
theorem dX5_ifPulled_0 : decode cX5_ifPulled 0 = .ok (.aload_n 0, 1) := by decide +kernel
theorem dX5_ifPulled_1 : decode cX5_ifPulled 1 = .ok (.aload_n 0, 1) := by decide +kernel
theorem dX5_ifPulled_2 : decode cX5_ifPulled 2 = .ok (.iload_n 1, 1) := by decide +kernel
theorem dX5_ifPulled_3 : decode cX5_ifPulled 3 = .ok (.invokevirtual 103, 3) := by decide +kernel
theorem dX5_ifPulled_6 : decode cX5_ifPulled 6 = .ok (.ifCond .ne 7, 3) := by decide +kernel
theorem dX5_ifPulled_9 : decode cX5_ifPulled 9 = .ok (.iconst 1, 1) := by decide +kernel
theorem dX5_ifPulled_10 : decode cX5_ifPulled 10 = .ok (.goto 17, 3) := by decide +kernel
theorem dX5_ifPulled_13 : decode cX5_ifPulled 13 = .ok (.iload_n 2, 1) := by decide +kernel
theorem dX5_ifPulled_14 : decode cX5_ifPulled 14 = .ok (.iconst 0, 1) := by decide +kernel
theorem dX5_ifPulled_15 : decode cX5_ifPulled 15 = .ok (.iconst 3, 1) := by decide +kernel
theorem dX5_ifPulled_16 : decode cX5_ifPulled 16 = .ok (.invokestatic 29, 3) := by decide +kernel
theorem dX5_ifPulled_19 : decode cX5_ifPulled 19 = .ok (.ifCond .ne 7, 3) := by decide +kernel
theorem dX5_ifPulled_22 : decode cX5_ifPulled 22 = .ok (.iconst 2, 1) := by decide +kernel
theorem dX5_ifPulled_23 : decode cX5_ifPulled 23 = .ok (.goto 4, 3) := by decide +kernel
theorem dX5_ifPulled_26 : decode cX5_ifPulled 26 = .ok (.iconst 0, 1) := by decide +kernel
theorem dX5_ifPulled_27 : decode cX5_ifPulled 27 = .ok (.invokevirtual 94, 3) := by decide +kernel
theorem dX5_ifPulled_30 : decode cX5_ifPulled 30 = .ok (.ifCond .eq 12, 3) := by decide +kernel
theorem dX5_ifPulled_33 : decode cX5_ifPulled 33 = .ok (.aload_n 0, 1) := by decide +kernel
theorem dX5_ifPulled_34 : decode cX5_ifPulled 34 = .ok (.iload_n 1, 1) := by decide +kernel
theorem dX5_ifPulled_35 : decode cX5_ifPulled 35 = .ok (.iload_n 2, 1) := by decide +kernel
theorem dX5_ifPulled_36 : decode cX5_ifPulled 36 = .ok (.invokevirtual 198, 3) := by decide +kernel
theorem dX5_ifPulled_39 : decode cX5_ifPulled 39 = .ok (.goto 4, 3) := by decide +kernel
theorem dX5_ifPulled_42 : decode cX5_ifPulled 42 = .ok (.iconst 0, 1) := by decide +kernel
theorem dX5_ifPulled_43 : decode cX5_ifPulled 43 = .ok (.ireturn, 1) := by decide +kernel
theorem dX5_fitting_0 : decode cX5_fitting 0 = .ok (.aload_n 0, 1) := by decide +kernel
theorem dX5_fitting_1 : decode cX5_fitting 1 = .ok (.iconst (-1), 1) := by decide +kernel
theorem dX5_fitting_2 : decode cX5_fitting 2 = .ok (.invokevirtual 71, 3) := by decide +kernel
theorem dX5_fitting_5 : decode cX5_fitting 5 = .ok (.aload_n 0, 1) := by decide +kernel
theorem dX5_fitting_6 : decode cX5_fitting 6 = .ok (.dup, 1) := by decide +kernel
theorem dX5_fitting_7 : decode cX5_fitting 7 = .ok (.getfield 33, 3) := by decide +kernel
theorem dX5_fitting_10 : decode cX5_fitting 10 = .ok (.iconst 1, 1) := by decide +kernel
theorem dX5_fitting_11 : decode cX5_fitting 11 = .ok (.iadd, 1) := by decide +kernel
theorem dX5_fitting_12 : decode cX5_fitting 12 = .ok (.putfield 33, 3) := by decide +kernel
theorem dX5_fitting_15 : decode cX5_fitting 15 = .ok (.iconst 0, 1) := by decide +kernel
theorem dX5_fitting_16 : decode cX5_fitting 16 = .ok (.istore_n 1, 1) := by decide +kernel
theorem dX5_fitting_17 : decode cX5_fitting 17 = .ok (.iload_n 1, 1) := by decide +kernel
theorem dX5_fitting_18 : decode cX5_fitting 18 = .ok (.bipush 16, 2) := by decide +kernel
theorem dX5_fitting_20 : decode cX5_fitting 20 = .ok (.if_icmp .ge 71, 3) := by decide +kernel
theorem dX5_fitting_23 : decode cX5_fitting 23 = .ok (.aload_n 0, 1) := by decide +kernel
theorem dX5_fitting_24 : decode cX5_fitting 24 = .ok (.getfield 7, 3) := by decide +kernel
theorem dX5_fitting_27 : decode cX5_fitting 27 = .ok (.iconst 3, 1) := by decide +kernel
theorem dX5_fitting_28 : decode cX5_fitting 28 = .ok (.iaload, 1) := by decide +kernel
theorem dX5_fitting_29 : decode cX5_fitting 29 = .ok (.bipush 20, 2) := by decide +kernel
theorem dX5_fitting_31 : decode cX5_fitting 31 = .ok (.if_icmp .ge 60, 3) := by decide +kernel
theorem dX5_fitting_34 : decode cX5_fitting 34 = .ok (.aload_n 0, 1) := by decide +kernel
theorem dX5_fitting_35 : decode cX5_fitting 35 = .ok (.getfield 16, 3) := by decide +kernel
theorem dX5_fitting_38 : decode cX5_fitting 38 = .ok (.aload_n 0, 1) := by decide +kernel
theorem dX5_fitting_39 : decode cX5_fitting 39 = .ok (.getfield 33, 3) := by decide +kernel
theorem dX5_fitting_42 : decode cX5_fitting 42 = .ok (.iconst 1, 1) := by decide +kernel
theorem dX5_fitting_43 : decode cX5_fitting 43 = .ok (.isub, 1) := by decide +kernel
theorem dX5_fitting_44 : decode cX5_fitting 44 = .ok (.iload_n 1, 1) := by decide +kernel
theorem dX5_fitting_45 : decode cX5_fitting 45 = .ok (.iastore, 1) := by decide +kernel
theorem dX5_fitting_46 : decode cX5_fitting 46 = .ok (.aload_n 0, 1) := by decide +kernel
theorem dX5_fitting_47 : decode cX5_fitting 47 = .ok (.getfield 19, 3) := by decide +kernel
theorem dX5_fitting_50 : decode cX5_fitting 50 = .ok (.aload_n 0, 1) := by decide +kernel
theorem dX5_fitting_51 : decode cX5_fitting 51 = .ok (.getfield 33, 3) := by decide +kernel
theorem dX5_fitting_54 : decode cX5_fitting 54 = .ok (.iconst 1, 1) := by decide +kernel
theorem dX5_fitting_55 : decode cX5_fitting 55 = .ok (.isub, 1) := by decide +kernel
theorem dX5_fitting_56 : decode cX5_fitting 56 = .ok (.iconst 0, 1) := by decide +kernel
theorem dX5_fitting_57 : decode cX5_fitting 57 = .ok (.iastore, 1) := by decide +kernel
theorem dX5_fitting_58 : decode cX5_fitting 58 = .ok (.aload_n 0, 1) := by decide +kernel
theorem dX5_fitting_59 : decode cX5_fitting 59 = .ok (.getfield 7, 3) := by decide +kernel
theorem dX5_fitting_62 : decode cX5_fitting 62 = .ok (.bipush 6, 2) := by decide +kernel
theorem dX5_fitting_64 : decode cX5_fitting 64 = .ok (.iload_n 1, 1) := by decide +kernel
theorem dX5_fitting_65 : decode cX5_fitting 65 = .ok (.iadd, 1) := by decide +kernel
theorem dX5_fitting_66 : decode cX5_fitting 66 = .ok (.iaload, 1) := by decide +kernel
theorem dX5_fitting_67 : decode cX5_fitting 67 = .ok (.ifCond .le 18, 3) := by decide +kernel
theorem dX5_fitting_70 : decode cX5_fitting 70 = .ok (.aload_n 0, 1) := by decide +kernel
theorem dX5_fitting_71 : decode cX5_fitting 71 = .ok (.aload_n 0, 1) := by decide +kernel
theorem dX5_fitting_72 : decode cX5_fitting 72 = .ok (.getfield 33, 3) := by decide +kernel
theorem dX5_fitting_75 : decode cX5_fitting 75 = .ok (.iconst 1, 1) := by decide +kernel
theorem dX5_fitting_76 : decode cX5_fitting 76 = .ok (.isub, 1) := by decide +kernel
theorem dX5_fitting_77 : decode cX5_fitting 77 = .ok (.invokevirtual 40, 3) := by decide +kernel
theorem dX5_fitting_80 : decode cX5_fitting 80 = .ok (.ifCond .ne 5, 3) := by decide +kernel
theorem dX5_fitting_83 : decode cX5_fitting 83 = .ok (.iload_n 1, 1) := by decide +kernel
theorem dX5_fitting_84 : decode cX5_fitting 84 = .ok (.ireturn, 1) := by decide +kernel
theorem dX5_fitting_85 : decode cX5_fitting 85 = .ok (.iinc 1 1, 3) := by decide +kernel
theorem dX5_fitting_88 : decode cX5_fitting 88 = .ok (.goto (-71), 3) := by decide +kernel
theorem dX5_fitting_91 : decode cX5_fitting 91 = .ok (.iconst (-1), 1) := by decide +kernel
theorem dX5_fitting_92 : decode cX5_fitting 92 = .ok (.ireturn, 1) := by decide +kernel
theorem dX5_fits_0 : decode cX5_fits 0 = .ok (.aload_n 0, 1) := by decide +kernel
theorem dX5_fits_1 : decode cX5_fits 1 = .ok (.iconst 0, 1) := by decide +kernel
theorem dX5_fits_2 : decode cX5_fits 2 = .ok (.putfield 25, 3) := by decide +kernel
theorem dX5_fits_5 : decode cX5_fits 5 = .ok (.aload_n 0, 1) := by decide +kernel
theorem dX5_fits_6 : decode cX5_fits 6 = .ok (.invokevirtual 201, 3) := by decide +kernel
theorem dX5_fits_9 : decode cX5_fits 9 = .ok (.ireturn, 1) := by decide +kernel
theorem dX5_possible_0 : decode cX5_possible 0 = .ok (.aload_n 0, 1) := by decide +kernel
theorem dX5_possible_1 : decode cX5_possible 1 = .ok (.getfield 7, 3) := by decide +kernel
theorem dX5_possible_4 : decode cX5_possible 4 = .ok (.bipush 6, 2) := by decide +kernel
theorem dX5_possible_6 : decode cX5_possible 6 = .ok (.iaload, 1) := by decide +kernel
theorem dX5_possible_7 : decode cX5_possible 7 = .ok (.aload_n 0, 1) := by decide +kernel
theorem dX5_possible_8 : decode cX5_possible 8 = .ok (.iconst 0, 1) := by decide +kernel
theorem dX5_possible_9 : decode cX5_possible 9 = .ok (.invokevirtual 165, 3) := by decide +kernel
theorem dX5_possible_12 : decode cX5_possible 12 = .ok (.iadd, 1) := by decide +kernel
theorem dX5_possible_13 : decode cX5_possible 13 = .ok (.istore_n 1, 1) := by decide +kernel
theorem dX5_possible_14 : decode cX5_possible 14 = .ok (.iconst 1, 1) := by decide +kernel
theorem dX5_possible_15 : decode cX5_possible 15 = .ok (.istore_n 2, 1) := by decide +kernel
theorem dX5_possible_16 : decode cX5_possible 16 = .ok (.iload_n 2, 1) := by decide +kernel
theorem dX5_possible_17 : decode cX5_possible 17 = .ok (.aload_n 0, 1) := by decide +kernel
theorem dX5_possible_18 : decode cX5_possible 18 = .ok (.getfield 7, 3) := by decide +kernel
theorem dX5_possible_21 : decode cX5_possible 21 = .ok (.iconst 0, 1) := by decide +kernel
theorem dX5_possible_22 : decode cX5_possible 22 = .ok (.iaload, 1) := by decide +kernel
theorem dX5_possible_23 : decode cX5_possible 23 = .ok (.if_icmp .ge 36, 3) := by decide +kernel
theorem dX5_possible_26 : decode cX5_possible 26 = .ok (.aload_n 0, 1) := by decide +kernel
theorem dX5_possible_27 : decode cX5_possible 27 = .ok (.getfield 7, 3) := by decide +kernel
theorem dX5_possible_30 : decode cX5_possible 30 = .ok (.bipush 6, 2) := by decide +kernel
theorem dX5_possible_32 : decode cX5_possible 32 = .ok (.iload_n 2, 1) := by decide +kernel
theorem dX5_possible_33 : decode cX5_possible 33 = .ok (.iadd, 1) := by decide +kernel
theorem dX5_possible_34 : decode cX5_possible 34 = .ok (.iaload, 1) := by decide +kernel
theorem dX5_possible_35 : decode cX5_possible 35 = .ok (.aload_n 0, 1) := by decide +kernel
theorem dX5_possible_36 : decode cX5_possible 36 = .ok (.iload_n 2, 1) := by decide +kernel
theorem dX5_possible_37 : decode cX5_possible 37 = .ok (.invokevirtual 165, 3) := by decide +kernel
theorem dX5_possible_40 : decode cX5_possible 40 = .ok (.iadd, 1) := by decide +kernel
theorem dX5_possible_41 : decode cX5_possible 41 = .ok (.istore_n 3, 1) := by decide +kernel
theorem dX5_possible_42 : decode cX5_possible 42 = .ok (.iload_n 3, 1) := by decide +kernel
theorem dX5_possible_43 : decode cX5_possible 43 = .ok (.iload_n 1, 1) := by decide +kernel
theorem dX5_possible_44 : decode cX5_possible 44 = .ok (.if_icmp .ge 7, 3) := by decide +kernel
theorem dX5_possible_47 : decode cX5_possible 47 = .ok (.iload_n 3, 1) := by decide +kernel
theorem dX5_possible_48 : decode cX5_possible 48 = .ok (.goto 4, 3) := by decide +kernel
theorem dX5_possible_51 : decode cX5_possible 51 = .ok (.iload_n 1, 1) := by decide +kernel
theorem dX5_possible_52 : decode cX5_possible 52 = .ok (.istore_n 1, 1) := by decide +kernel
theorem dX5_possible_53 : decode cX5_possible 53 = .ok (.iinc 2 1, 3) := by decide +kernel
theorem dX5_possible_56 : decode cX5_possible 56 = .ok (.goto (-40), 3) := by decide +kernel
theorem dX5_possible_59 : decode cX5_possible 59 = .ok (.iload_n 1, 1) := by decide +kernel
theorem dX5_possible_60 : decode cX5_possible 60 = .ok (.ireturn, 1) := by decide +kernel
theorem dX5_books_0 : decode cX5_books 0 = .ok (.aload_n 0, 1) := by decide +kernel
theorem dX5_books_1 : decode cX5_books 1 = .ok (.iconst 0, 1) := by decide +kernel
theorem dX5_books_2 : decode cX5_books 2 = .ok (.putfield 25, 3) := by decide +kernel
theorem dX5_books_5 : decode cX5_books 5 = .ok (.aload_n 0, 1) := by decide +kernel
theorem dX5_books_6 : decode cX5_books 6 = .ok (.invokevirtual 204, 3) := by decide +kernel
theorem dX5_books_9 : decode cX5_books 9 = .ok (.ireturn, 1) := by decide +kernel
theorem dX5_share_0 : decode cX5_share 0 = .ok (.aload_n 0, 1) := by decide +kernel
theorem dX5_share_1 : decode cX5_share 1 = .ok (.getfield 7, 3) := by decide +kernel
theorem dX5_share_4 : decode cX5_share 4 = .ok (.iconst 3, 1) := by decide +kernel
theorem dX5_share_5 : decode cX5_share 5 = .ok (.iaload, 1) := by decide +kernel
theorem dX5_share_6 : decode cX5_share 6 = .ok (.ifCond .ne 7, 3) := by decide +kernel
theorem dX5_share_9 : decode cX5_share 9 = .ok (.dconst 1, 1) := by decide +kernel
theorem dX5_share_10 : decode cX5_share 10 = .ok (.goto 24, 3) := by decide +kernel
theorem dX5_share_13 : decode cX5_share 13 = .ok (.aload_n 0, 1) := by decide +kernel
theorem dX5_share_14 : decode cX5_share 14 = .ok (.getfield 7, 3) := by decide +kernel
theorem dX5_share_17 : decode cX5_share 17 = .ok (.iconst 3, 1) := by decide +kernel
theorem dX5_share_18 : decode cX5_share 18 = .ok (.iaload, 1) := by decide +kernel
theorem dX5_share_19 : decode cX5_share 19 = .ok (.aload_n 0, 1) := by decide +kernel
theorem dX5_share_20 : decode cX5_share 20 = .ok (.iconst 1, 1) := by decide +kernel
theorem dX5_share_21 : decode cX5_share 21 = .ok (.invokevirtual 189, 3) := by decide +kernel
theorem dX5_share_24 : decode cX5_share 24 = .ok (.isub, 1) := by decide +kernel
theorem dX5_share_25 : decode cX5_share 25 = .ok (.i2d, 1) := by decide +kernel
theorem dX5_share_26 : decode cX5_share 26 = .ok (.aload_n 0, 1) := by decide +kernel
theorem dX5_share_27 : decode cX5_share 27 = .ok (.getfield 7, 3) := by decide +kernel
theorem dX5_share_30 : decode cX5_share 30 = .ok (.iconst 3, 1) := by decide +kernel
theorem dX5_share_31 : decode cX5_share 31 = .ok (.iaload, 1) := by decide +kernel
theorem dX5_share_32 : decode cX5_share 32 = .ok (.i2d, 1) := by decide +kernel
theorem dX5_share_33 : decode cX5_share 33 = .ok (.ddiv, 1) := by decide +kernel
theorem dX5_share_34 : decode cX5_share 34 = .ok (.dreturn, 1) := by decide +kernel
theorem dX5_stairShare_0 : decode cX5_stairShare 0 = .ok (.aload_n 0, 1) := by decide +kernel
theorem dX5_stairShare_1 : decode cX5_stairShare 1 = .ok (.iconst 0, 1) := by decide +kernel
theorem dX5_stairShare_2 : decode cX5_stairShare 2 = .ok (.putfield 25, 3) := by decide +kernel
theorem dX5_stairShare_5 : decode cX5_stairShare 5 = .ok (.aload_n 0, 1) := by decide +kernel
theorem dX5_stairShare_6 : decode cX5_stairShare 6 = .ok (.invokevirtual 207, 3) := by decide +kernel
theorem dX5_stairShare_9 : decode cX5_stairShare 9 = .ok (.dreturn, 1) := by decide +kernel
theorem dX5_mean_0 : decode cX5_mean 0 = .ok (.aload_n 0, 1) := by decide +kernel
theorem dX5_mean_1 : decode cX5_mean 1 = .ok (.getfield 7, 3) := by decide +kernel
theorem dX5_mean_4 : decode cX5_mean 4 = .ok (.iconst 3, 1) := by decide +kernel
theorem dX5_mean_5 : decode cX5_mean 5 = .ok (.iaload, 1) := by decide +kernel
theorem dX5_mean_6 : decode cX5_mean 6 = .ok (.ifCond .ne 7, 3) := by decide +kernel
theorem dX5_mean_9 : decode cX5_mean 9 = .ok (.fconst 0, 1) := by decide +kernel
theorem dX5_mean_10 : decode cX5_mean 10 = .ok (.goto 18, 3) := by decide +kernel
theorem dX5_mean_13 : decode cX5_mean 13 = .ok (.aload_n 0, 1) := by decide +kernel
theorem dX5_mean_14 : decode cX5_mean 14 = .ok (.bipush 10, 2) := by decide +kernel
theorem dX5_mean_16 : decode cX5_mean 16 = .ok (.invokevirtual 189, 3) := by decide +kernel
theorem dX5_mean_19 : decode cX5_mean 19 = .ok (.i2f, 1) := by decide +kernel
theorem dX5_mean_20 : decode cX5_mean 20 = .ok (.aload_n 0, 1) := by decide +kernel
theorem dX5_mean_21 : decode cX5_mean 21 = .ok (.getfield 7, 3) := by decide +kernel
theorem dX5_mean_24 : decode cX5_mean 24 = .ok (.iconst 3, 1) := by decide +kernel
theorem dX5_mean_25 : decode cX5_mean 25 = .ok (.iaload, 1) := by decide +kernel
theorem dX5_mean_26 : decode cX5_mean 26 = .ok (.i2f, 1) := by decide +kernel
theorem dX5_mean_27 : decode cX5_mean 27 = .ok (.fdiv, 1) := by decide +kernel
theorem dX5_mean_28 : decode cX5_mean 28 = .ok (.freturn, 1) := by decide +kernel
theorem dX5_meanThread_0 : decode cX5_meanThread 0 = .ok (.aload_n 0, 1) := by decide +kernel
theorem dX5_meanThread_1 : decode cX5_meanThread 1 = .ok (.iconst 0, 1) := by decide +kernel
theorem dX5_meanThread_2 : decode cX5_meanThread 2 = .ok (.putfield 25, 3) := by decide +kernel
theorem dX5_meanThread_5 : decode cX5_meanThread 5 = .ok (.aload_n 0, 1) := by decide +kernel
theorem dX5_meanThread_6 : decode cX5_meanThread 6 = .ok (.invokevirtual 211, 3) := by decide +kernel
theorem dX5_meanThread_9 : decode cX5_meanThread 9 = .ok (.freturn, 1) := by decide +kernel
theorem dX5_mix_0 : decode cX5_mix 0 = .ok (.aload_n 0, 1) := by decide +kernel
theorem dX5_mix_1 : decode cX5_mix 1 = .ok (.ldc2_w 215, 3) := by decide +kernel
theorem dX5_mix_4 : decode cX5_mix 4 = .ok (.aload_n 0, 1) := by decide +kernel
theorem dX5_mix_5 : decode cX5_mix 5 = .ok (.getfield 217, 3) := by decide +kernel
theorem dX5_mix_8 : decode cX5_mix 8 = .ok (.lmul, 1) := by decide +kernel
theorem dX5_mix_9 : decode cX5_mix 9 = .ok (.lload_n 1, 1) := by decide +kernel
theorem dX5_mix_10 : decode cX5_mix 10 = .ok (.ladd, 1) := by decide +kernel
theorem dX5_mix_11 : decode cX5_mix 11 = .ok (.putfield 217, 3) := by decide +kernel
theorem dX5_mix_14 : decode cX5_mix 14 = .ok (.return_, 1) := by decide +kernel
theorem dX5_bits_0 : decode cX5_bits 0 = .ok (.dload_n 0, 1) := by decide +kernel
theorem dX5_bits_1 : decode cX5_bits 1 = .ok (.dconst 0, 1) := by decide +kernel
theorem dX5_bits_2 : decode cX5_bits 2 = .ok (.dcmp .l, 1) := by decide +kernel
theorem dX5_bits_3 : decode cX5_bits 3 = .ok (.ifCond .ne 5, 3) := by decide +kernel
theorem dX5_bits_6 : decode cX5_bits 6 = .ok (.lconst 0, 1) := by decide +kernel
theorem dX5_bits_7 : decode cX5_bits 7 = .ok (.lreturn, 1) := by decide +kernel
theorem dX5_bits_8 : decode cX5_bits 8 = .ok (.dload_n 0, 1) := by decide +kernel
theorem dX5_bits_9 : decode cX5_bits 9 = .ok (.dstore_n 2, 1) := by decide +kernel
theorem dX5_bits_10 : decode cX5_bits 10 = .ok (.ldc2_w 221, 3) := by decide +kernel
theorem dX5_bits_13 : decode cX5_bits 13 = .ok (.lstore 4, 2) := by decide +kernel
theorem dX5_bits_15 : decode cX5_bits 15 = .ok (.dload_n 2, 1) := by decide +kernel
theorem dX5_bits_16 : decode cX5_bits 16 = .ok (.dconst 1, 1) := by decide +kernel
theorem dX5_bits_17 : decode cX5_bits 17 = .ok (.dcmp .g, 1) := by decide +kernel
theorem dX5_bits_18 : decode cX5_bits 18 = .ok (.ifCond .ge 18, 3) := by decide +kernel
theorem dX5_bits_21 : decode cX5_bits 21 = .ok (.dload_n 2, 1) := by decide +kernel
theorem dX5_bits_22 : decode cX5_bits 22 = .ok (.ldc2_w 223, 3) := by decide +kernel
theorem dX5_bits_25 : decode cX5_bits 25 = .ok (.dmul, 1) := by decide +kernel
theorem dX5_bits_26 : decode cX5_bits 26 = .ok (.dstore_n 2, 1) := by decide +kernel
theorem dX5_bits_27 : decode cX5_bits 27 = .ok (.lload 4, 2) := by decide +kernel
theorem dX5_bits_29 : decode cX5_bits 29 = .ok (.lconst 1, 1) := by decide +kernel
theorem dX5_bits_30 : decode cX5_bits 30 = .ok (.lsub, 1) := by decide +kernel
theorem dX5_bits_31 : decode cX5_bits 31 = .ok (.lstore 4, 2) := by decide +kernel
theorem dX5_bits_33 : decode cX5_bits 33 = .ok (.goto (-18), 3) := by decide +kernel
theorem dX5_bits_36 : decode cX5_bits 36 = .ok (.lload 4, 2) := by decide +kernel
theorem dX5_bits_38 : decode cX5_bits 38 = .ok (.ldc2_w 225, 3) := by decide +kernel
theorem dX5_bits_41 : decode cX5_bits 41 = .ok (.lmul, 1) := by decide +kernel
theorem dX5_bits_42 : decode cX5_bits 42 = .ok (.dload_n 2, 1) := by decide +kernel
theorem dX5_bits_43 : decode cX5_bits 43 = .ok (.dconst 1, 1) := by decide +kernel
theorem dX5_bits_44 : decode cX5_bits 44 = .ok (.dsub, 1) := by decide +kernel
theorem dX5_bits_45 : decode cX5_bits 45 = .ok (.ldc2_w 227, 3) := by decide +kernel
theorem dX5_bits_48 : decode cX5_bits 48 = .ok (.dmul, 1) := by decide +kernel
theorem dX5_bits_49 : decode cX5_bits 49 = .ok (.d2l, 1) := by decide +kernel
theorem dX5_bits_50 : decode cX5_bits 50 = .ok (.ladd, 1) := by decide +kernel
theorem dX5_bits_51 : decode cX5_bits 51 = .ok (.lreturn, 1) := by decide +kernel
theorem dX5_floatBits_0 : decode cX5_floatBits 0 = .ok (.fload_n 0, 1) := by decide +kernel
theorem dX5_floatBits_1 : decode cX5_floatBits 1 = .ok (.fconst 0, 1) := by decide +kernel
theorem dX5_floatBits_2 : decode cX5_floatBits 2 = .ok (.fcmp .l, 1) := by decide +kernel
theorem dX5_floatBits_3 : decode cX5_floatBits 3 = .ok (.ifCond .ne 5, 3) := by decide +kernel
theorem dX5_floatBits_6 : decode cX5_floatBits 6 = .ok (.iconst 0, 1) := by decide +kernel
theorem dX5_floatBits_7 : decode cX5_floatBits 7 = .ok (.ireturn, 1) := by decide +kernel
theorem dX5_floatBits_8 : decode cX5_floatBits 8 = .ok (.fload_n 0, 1) := by decide +kernel
theorem dX5_floatBits_9 : decode cX5_floatBits 9 = .ok (.fstore_n 1, 1) := by decide +kernel
theorem dX5_floatBits_10 : decode cX5_floatBits 10 = .ok (.bipush 127, 2) := by decide +kernel
theorem dX5_floatBits_12 : decode cX5_floatBits 12 = .ok (.istore_n 2, 1) := by decide +kernel
theorem dX5_floatBits_13 : decode cX5_floatBits 13 = .ok (.fload_n 1, 1) := by decide +kernel
theorem dX5_floatBits_14 : decode cX5_floatBits 14 = .ok (.fconst 2, 1) := by decide +kernel
theorem dX5_floatBits_15 : decode cX5_floatBits 15 = .ok (.fcmp .l, 1) := by decide +kernel
theorem dX5_floatBits_16 : decode cX5_floatBits 16 = .ok (.ifCond .lt 13, 3) := by decide +kernel
theorem dX5_floatBits_19 : decode cX5_floatBits 19 = .ok (.fload_n 1, 1) := by decide +kernel
theorem dX5_floatBits_20 : decode cX5_floatBits 20 = .ok (.fconst 2, 1) := by decide +kernel
theorem dX5_floatBits_21 : decode cX5_floatBits 21 = .ok (.fdiv, 1) := by decide +kernel
theorem dX5_floatBits_22 : decode cX5_floatBits 22 = .ok (.fstore_n 1, 1) := by decide +kernel
theorem dX5_floatBits_23 : decode cX5_floatBits 23 = .ok (.iinc 2 1, 3) := by decide +kernel
theorem dX5_floatBits_26 : decode cX5_floatBits 26 = .ok (.goto (-13), 3) := by decide +kernel
theorem dX5_floatBits_29 : decode cX5_floatBits 29 = .ok (.fload_n 1, 1) := by decide +kernel
theorem dX5_floatBits_30 : decode cX5_floatBits 30 = .ok (.fconst 1, 1) := by decide +kernel
theorem dX5_floatBits_31 : decode cX5_floatBits 31 = .ok (.fcmp .g, 1) := by decide +kernel
theorem dX5_floatBits_32 : decode cX5_floatBits 32 = .ok (.ifCond .ge 13, 3) := by decide +kernel
theorem dX5_floatBits_35 : decode cX5_floatBits 35 = .ok (.fload_n 1, 1) := by decide +kernel
theorem dX5_floatBits_36 : decode cX5_floatBits 36 = .ok (.fconst 2, 1) := by decide +kernel
theorem dX5_floatBits_37 : decode cX5_floatBits 37 = .ok (.fmul, 1) := by decide +kernel
theorem dX5_floatBits_38 : decode cX5_floatBits 38 = .ok (.fstore_n 1, 1) := by decide +kernel
theorem dX5_floatBits_39 : decode cX5_floatBits 39 = .ok (.iinc 2 (-1), 3) := by decide +kernel
theorem dX5_floatBits_42 : decode cX5_floatBits 42 = .ok (.goto (-13), 3) := by decide +kernel
theorem dX5_floatBits_45 : decode cX5_floatBits 45 = .ok (.iload_n 2, 1) := by decide +kernel
theorem dX5_floatBits_46 : decode cX5_floatBits 46 = .ok (.ldc 229, 2) := by decide +kernel
theorem dX5_floatBits_48 : decode cX5_floatBits 48 = .ok (.imul, 1) := by decide +kernel
theorem dX5_floatBits_49 : decode cX5_floatBits 49 = .ok (.fload_n 1, 1) := by decide +kernel
theorem dX5_floatBits_50 : decode cX5_floatBits 50 = .ok (.fconst 1, 1) := by decide +kernel
theorem dX5_floatBits_51 : decode cX5_floatBits 51 = .ok (.fsub, 1) := by decide +kernel
theorem dX5_floatBits_52 : decode cX5_floatBits 52 = .ok (.ldc 230, 2) := by decide +kernel
theorem dX5_floatBits_54 : decode cX5_floatBits 54 = .ok (.fmul, 1) := by decide +kernel
theorem dX5_floatBits_55 : decode cX5_floatBits 55 = .ok (.f2i, 1) := by decide +kernel
theorem dX5_floatBits_56 : decode cX5_floatBits 56 = .ok (.iadd, 1) := by decide +kernel
theorem dX5_floatBits_57 : decode cX5_floatBits 57 = .ok (.ireturn, 1) := by decide +kernel
theorem dX5_digest_0 : decode cX5_digest 0 = .ok (.aload_n 0, 1) := by decide +kernel
theorem dX5_digest_1 : decode cX5_digest 1 = .ok (.iconst 0, 1) := by decide +kernel
theorem dX5_digest_2 : decode cX5_digest 2 = .ok (.putfield 25, 3) := by decide +kernel
theorem dX5_digest_5 : decode cX5_digest 5 = .ok (.aload_n 0, 1) := by decide +kernel
theorem dX5_digest_6 : decode cX5_digest 6 = .ok (.ldc2_w 231, 3) := by decide +kernel
theorem dX5_digest_9 : decode cX5_digest 9 = .ok (.putfield 217, 3) := by decide +kernel
theorem dX5_digest_12 : decode cX5_digest 12 = .ok (.iconst 0, 1) := by decide +kernel
theorem dX5_digest_13 : decode cX5_digest 13 = .ok (.istore_n 1, 1) := by decide +kernel
theorem dX5_digest_14 : decode cX5_digest 14 = .ok (.iload_n 1, 1) := by decide +kernel
theorem dX5_digest_15 : decode cX5_digest 15 = .ok (.bipush 16, 2) := by decide +kernel
theorem dX5_digest_17 : decode cX5_digest 17 = .ok (.if_icmp .ge 19, 3) := by decide +kernel
theorem dX5_digest_20 : decode cX5_digest 20 = .ok (.aload_n 0, 1) := by decide +kernel
theorem dX5_digest_21 : decode cX5_digest 21 = .ok (.aload_n 0, 1) := by decide +kernel
theorem dX5_digest_22 : decode cX5_digest 22 = .ok (.iload_n 1, 1) := by decide +kernel
theorem dX5_digest_23 : decode cX5_digest 23 = .ok (.invokevirtual 189, 3) := by decide +kernel
theorem dX5_digest_26 : decode cX5_digest 26 = .ok (.i2l, 1) := by decide +kernel
theorem dX5_digest_27 : decode cX5_digest 27 = .ok (.invokevirtual 233, 3) := by decide +kernel
theorem dX5_digest_30 : decode cX5_digest 30 = .ok (.iinc 1 1, 3) := by decide +kernel
theorem dX5_digest_33 : decode cX5_digest 33 = .ok (.goto (-19), 3) := by decide +kernel
theorem dX5_digest_36 : decode cX5_digest 36 = .ok (.iconst 0, 1) := by decide +kernel
theorem dX5_digest_37 : decode cX5_digest 37 = .ok (.istore_n 1, 1) := by decide +kernel
theorem dX5_digest_38 : decode cX5_digest 38 = .ok (.iload_n 1, 1) := by decide +kernel
theorem dX5_digest_39 : decode cX5_digest 39 = .ok (.iconst 3, 1) := by decide +kernel
theorem dX5_digest_40 : decode cX5_digest 40 = .ok (.if_icmp .ge 22, 3) := by decide +kernel
theorem dX5_digest_43 : decode cX5_digest 43 = .ok (.aload_n 0, 1) := by decide +kernel
theorem dX5_digest_44 : decode cX5_digest 44 = .ok (.aload_n 0, 1) := by decide +kernel
theorem dX5_digest_45 : decode cX5_digest 45 = .ok (.getfield 7, 3) := by decide +kernel
theorem dX5_digest_48 : decode cX5_digest 48 = .ok (.iconst 0, 1) := by decide +kernel
theorem dX5_digest_49 : decode cX5_digest 49 = .ok (.iload_n 1, 1) := by decide +kernel
theorem dX5_digest_50 : decode cX5_digest 50 = .ok (.iadd, 1) := by decide +kernel
theorem dX5_digest_51 : decode cX5_digest 51 = .ok (.iaload, 1) := by decide +kernel
theorem dX5_digest_52 : decode cX5_digest 52 = .ok (.i2l, 1) := by decide +kernel
theorem dX5_digest_53 : decode cX5_digest 53 = .ok (.invokevirtual 233, 3) := by decide +kernel
theorem dX5_digest_56 : decode cX5_digest 56 = .ok (.iinc 1 1, 3) := by decide +kernel
theorem dX5_digest_59 : decode cX5_digest 59 = .ok (.goto (-21), 3) := by decide +kernel
theorem dX5_digest_62 : decode cX5_digest 62 = .ok (.iconst 0, 1) := by decide +kernel
theorem dX5_digest_63 : decode cX5_digest 63 = .ok (.istore_n 1, 1) := by decide +kernel
theorem dX5_digest_64 : decode cX5_digest 64 = .ok (.iload_n 1, 1) := by decide +kernel
theorem dX5_digest_65 : decode cX5_digest 65 = .ok (.aload_n 0, 1) := by decide +kernel
theorem dX5_digest_66 : decode cX5_digest 66 = .ok (.getfield 7, 3) := by decide +kernel
theorem dX5_digest_69 : decode cX5_digest 69 = .ok (.iconst 3, 1) := by decide +kernel
theorem dX5_digest_70 : decode cX5_digest 70 = .ok (.iaload, 1) := by decide +kernel
theorem dX5_digest_71 : decode cX5_digest 71 = .ok (.if_icmp .ge 58, 3) := by decide +kernel
theorem dX5_digest_74 : decode cX5_digest 74 = .ok (.iconst 0, 1) := by decide +kernel
theorem dX5_digest_75 : decode cX5_digest 75 = .ok (.istore_n 2, 1) := by decide +kernel
theorem dX5_digest_76 : decode cX5_digest 76 = .ok (.iload_n 2, 1) := by decide +kernel
theorem dX5_digest_77 : decode cX5_digest 77 = .ok (.bipush 6, 2) := by decide +kernel
theorem dX5_digest_79 : decode cX5_digest 79 = .ok (.if_icmp .ge 20, 3) := by decide +kernel
theorem dX5_digest_82 : decode cX5_digest 82 = .ok (.aload_n 0, 1) := by decide +kernel
theorem dX5_digest_83 : decode cX5_digest 83 = .ok (.aload_n 0, 1) := by decide +kernel
theorem dX5_digest_84 : decode cX5_digest 84 = .ok (.iload_n 1, 1) := by decide +kernel
theorem dX5_digest_85 : decode cX5_digest 85 = .ok (.iload_n 2, 1) := by decide +kernel
theorem dX5_digest_86 : decode cX5_digest 86 = .ok (.invokevirtual 162, 3) := by decide +kernel
theorem dX5_digest_89 : decode cX5_digest 89 = .ok (.i2l, 1) := by decide +kernel
theorem dX5_digest_90 : decode cX5_digest 90 = .ok (.invokevirtual 233, 3) := by decide +kernel
theorem dX5_digest_93 : decode cX5_digest 93 = .ok (.iinc 2 1, 3) := by decide +kernel
theorem dX5_digest_96 : decode cX5_digest 96 = .ok (.goto (-20), 3) := by decide +kernel
theorem dX5_digest_99 : decode cX5_digest 99 = .ok (.iconst 0, 1) := by decide +kernel
theorem dX5_digest_100 : decode cX5_digest 100 = .ok (.istore_n 2, 1) := by decide +kernel
theorem dX5_digest_101 : decode cX5_digest 101 = .ok (.iload_n 2, 1) := by decide +kernel
theorem dX5_digest_102 : decode cX5_digest 102 = .ok (.iconst 4, 1) := by decide +kernel
theorem dX5_digest_103 : decode cX5_digest 103 = .ok (.if_icmp .ge 20, 3) := by decide +kernel
theorem dX5_digest_106 : decode cX5_digest 106 = .ok (.aload_n 0, 1) := by decide +kernel
theorem dX5_digest_107 : decode cX5_digest 107 = .ok (.aload_n 0, 1) := by decide +kernel
theorem dX5_digest_108 : decode cX5_digest 108 = .ok (.iload_n 1, 1) := by decide +kernel
theorem dX5_digest_109 : decode cX5_digest 109 = .ok (.iload_n 2, 1) := by decide +kernel
theorem dX5_digest_110 : decode cX5_digest 110 = .ok (.invokevirtual 198, 3) := by decide +kernel
theorem dX5_digest_113 : decode cX5_digest 113 = .ok (.i2l, 1) := by decide +kernel
theorem dX5_digest_114 : decode cX5_digest 114 = .ok (.invokevirtual 233, 3) := by decide +kernel
theorem dX5_digest_117 : decode cX5_digest 117 = .ok (.iinc 2 1, 3) := by decide +kernel
theorem dX5_digest_120 : decode cX5_digest 120 = .ok (.goto (-19), 3) := by decide +kernel
theorem dX5_digest_123 : decode cX5_digest 123 = .ok (.iinc 1 1, 3) := by decide +kernel
theorem dX5_digest_126 : decode cX5_digest 126 = .ok (.goto (-62), 3) := by decide +kernel
theorem dX5_digest_129 : decode cX5_digest 129 = .ok (.iconst 0, 1) := by decide +kernel
theorem dX5_digest_130 : decode cX5_digest 130 = .ok (.istore_n 1, 1) := by decide +kernel
theorem dX5_digest_131 : decode cX5_digest 131 = .ok (.iload_n 1, 1) := by decide +kernel
theorem dX5_digest_132 : decode cX5_digest 132 = .ok (.bipush 80, 2) := by decide +kernel
theorem dX5_digest_134 : decode cX5_digest 134 = .ok (.if_icmp .ge 24, 3) := by decide +kernel
theorem dX5_digest_137 : decode cX5_digest 137 = .ok (.aload_n 0, 1) := by decide +kernel
theorem dX5_digest_138 : decode cX5_digest 138 = .ok (.aload_n 0, 1) := by decide +kernel
theorem dX5_digest_139 : decode cX5_digest 139 = .ok (.iload_n 1, 1) := by decide +kernel
theorem dX5_digest_140 : decode cX5_digest 140 = .ok (.iconst 5, 1) := by decide +kernel
theorem dX5_digest_141 : decode cX5_digest 141 = .ok (.idiv, 1) := by decide +kernel
theorem dX5_digest_142 : decode cX5_digest 142 = .ok (.iload_n 1, 1) := by decide +kernel
theorem dX5_digest_143 : decode cX5_digest 143 = .ok (.iconst 5, 1) := by decide +kernel
theorem dX5_digest_144 : decode cX5_digest 144 = .ok (.irem, 1) := by decide +kernel
theorem dX5_digest_145 : decode cX5_digest 145 = .ok (.invokevirtual 168, 3) := by decide +kernel
theorem dX5_digest_148 : decode cX5_digest 148 = .ok (.i2l, 1) := by decide +kernel
theorem dX5_digest_149 : decode cX5_digest 149 = .ok (.invokevirtual 233, 3) := by decide +kernel
theorem dX5_digest_152 : decode cX5_digest 152 = .ok (.iinc 1 1, 3) := by decide +kernel
theorem dX5_digest_155 : decode cX5_digest 155 = .ok (.goto (-24), 3) := by decide +kernel
theorem dX5_digest_158 : decode cX5_digest 158 = .ok (.aload_n 0, 1) := by decide +kernel
theorem dX5_digest_159 : decode cX5_digest 159 = .ok (.aload_n 0, 1) := by decide +kernel
theorem dX5_digest_160 : decode cX5_digest 160 = .ok (.invokevirtual 195, 3) := by decide +kernel
theorem dX5_digest_163 : decode cX5_digest 163 = .ok (.i2l, 1) := by decide +kernel
theorem dX5_digest_164 : decode cX5_digest 164 = .ok (.invokevirtual 233, 3) := by decide +kernel
theorem dX5_digest_167 : decode cX5_digest 167 = .ok (.aload_n 0, 1) := by decide +kernel
theorem dX5_digest_168 : decode cX5_digest 168 = .ok (.aload_n 0, 1) := by decide +kernel
theorem dX5_digest_169 : decode cX5_digest 169 = .ok (.invokevirtual 201, 3) := by decide +kernel
theorem dX5_digest_172 : decode cX5_digest 172 = .ok (.i2l, 1) := by decide +kernel
theorem dX5_digest_173 : decode cX5_digest 173 = .ok (.invokevirtual 233, 3) := by decide +kernel
theorem dX5_digest_176 : decode cX5_digest 176 = .ok (.aload_n 0, 1) := by decide +kernel
theorem dX5_digest_177 : decode cX5_digest 177 = .ok (.aload_n 0, 1) := by decide +kernel
theorem dX5_digest_178 : decode cX5_digest 178 = .ok (.invokevirtual 204, 3) := by decide +kernel
theorem dX5_digest_181 : decode cX5_digest 181 = .ok (.i2l, 1) := by decide +kernel
theorem dX5_digest_182 : decode cX5_digest 182 = .ok (.invokevirtual 233, 3) := by decide +kernel
theorem dX5_digest_185 : decode cX5_digest 185 = .ok (.aload_n 0, 1) := by decide +kernel
theorem dX5_digest_186 : decode cX5_digest 186 = .ok (.aload_n 0, 1) := by decide +kernel
theorem dX5_digest_187 : decode cX5_digest 187 = .ok (.invokevirtual 207, 3) := by decide +kernel
theorem dX5_digest_190 : decode cX5_digest 190 = .ok (.invokestatic 237, 3) := by decide +kernel
theorem dX5_digest_193 : decode cX5_digest 193 = .ok (.invokevirtual 233, 3) := by decide +kernel
theorem dX5_digest_196 : decode cX5_digest 196 = .ok (.aload_n 0, 1) := by decide +kernel
theorem dX5_digest_197 : decode cX5_digest 197 = .ok (.aload_n 0, 1) := by decide +kernel
theorem dX5_digest_198 : decode cX5_digest 198 = .ok (.invokevirtual 211, 3) := by decide +kernel
theorem dX5_digest_201 : decode cX5_digest 201 = .ok (.invokestatic 241, 3) := by decide +kernel
theorem dX5_digest_204 : decode cX5_digest 204 = .ok (.i2l, 1) := by decide +kernel
theorem dX5_digest_205 : decode cX5_digest 205 = .ok (.invokevirtual 233, 3) := by decide +kernel
theorem dX5_digest_208 : decode cX5_digest 208 = .ok (.aload_n 0, 1) := by decide +kernel
theorem dX5_digest_209 : decode cX5_digest 209 = .ok (.aload_n 0, 1) := by decide +kernel
theorem dX5_digest_210 : decode cX5_digest 210 = .ok (.getfield 158, 3) := by decide +kernel
theorem dX5_digest_213 : decode cX5_digest 213 = .ok (.ifCond .eq 7, 3) := by decide +kernel
theorem dX5_digest_216 : decode cX5_digest 216 = .ok (.lconst 1, 1) := by decide +kernel
theorem dX5_digest_217 : decode cX5_digest 217 = .ok (.goto 4, 3) := by decide +kernel
theorem dX5_digest_220 : decode cX5_digest 220 = .ok (.lconst 0, 1) := by decide +kernel
theorem dX5_digest_221 : decode cX5_digest 221 = .ok (.invokevirtual 233, 3) := by decide +kernel
theorem dX5_digest_224 : decode cX5_digest 224 = .ok (.aload_n 0, 1) := by decide +kernel
theorem dX5_digest_225 : decode cX5_digest 225 = .ok (.aload_n 0, 1) := by decide +kernel
theorem dX5_digest_226 : decode cX5_digest 226 = .ok (.getfield 125, 3) := by decide +kernel
theorem dX5_digest_229 : decode cX5_digest 229 = .ok (.i2l, 1) := by decide +kernel
theorem dX5_digest_230 : decode cX5_digest 230 = .ok (.invokevirtual 233, 3) := by decide +kernel
theorem dX5_digest_233 : decode cX5_digest 233 = .ok (.iconst 0, 1) := by decide +kernel
theorem dX5_digest_234 : decode cX5_digest 234 = .ok (.istore_n 1, 1) := by decide +kernel
theorem dX5_digest_235 : decode cX5_digest 235 = .ok (.iload_n 1, 1) := by decide +kernel
theorem dX5_digest_236 : decode cX5_digest 236 = .ok (.aload_n 0, 1) := by decide +kernel
theorem dX5_digest_237 : decode cX5_digest 237 = .ok (.getfield 125, 3) := by decide +kernel
theorem dX5_digest_240 : decode cX5_digest 240 = .ok (.if_icmp .ge 20, 3) := by decide +kernel
theorem dX5_digest_243 : decode cX5_digest 243 = .ok (.aload_n 0, 1) := by decide +kernel
theorem dX5_digest_244 : decode cX5_digest 244 = .ok (.aload_n 0, 1) := by decide +kernel
theorem dX5_digest_245 : decode cX5_digest 245 = .ok (.getfield 13, 3) := by decide +kernel
theorem dX5_digest_248 : decode cX5_digest 248 = .ok (.iload_n 1, 1) := by decide +kernel
theorem dX5_digest_249 : decode cX5_digest 249 = .ok (.iaload, 1) := by decide +kernel
theorem dX5_digest_250 : decode cX5_digest 250 = .ok (.i2l, 1) := by decide +kernel
theorem dX5_digest_251 : decode cX5_digest 251 = .ok (.invokevirtual 233, 3) := by decide +kernel
theorem dX5_digest_254 : decode cX5_digest 254 = .ok (.iinc 1 1, 3) := by decide +kernel
theorem dX5_digest_257 : decode cX5_digest 257 = .ok (.goto (-22), 3) := by decide +kernel
theorem dX5_digest_260 : decode cX5_digest 260 = .ok (.aload_n 0, 1) := by decide +kernel
theorem dX5_digest_261 : decode cX5_digest 261 = .ok (.getfield 217, 3) := by decide +kernel
theorem dX5_digest_264 : decode cX5_digest 264 = .ok (.lreturn, 1) := by decide +kernel
theorem dJ6_bitCount_0f7a4_0 : decode cJ6_bitCount_0f7a4 0 = .ok (.iload_n 0, 1) := by decide +kernel
theorem dJ6_bitCount_0f7a4_1 : decode cJ6_bitCount_0f7a4 1 = .ok (.iload_n 0, 1) := by decide +kernel
theorem dJ6_bitCount_0f7a4_2 : decode cJ6_bitCount_0f7a4 2 = .ok (.iconst 1, 1) := by decide +kernel
theorem dJ6_bitCount_0f7a4_3 : decode cJ6_bitCount_0f7a4 3 = .ok (.iushr, 1) := by decide +kernel
theorem dJ6_bitCount_0f7a4_4 : decode cJ6_bitCount_0f7a4 4 = .ok (.ldc_w 265, 3) := by decide +kernel
theorem dJ6_bitCount_0f7a4_7 : decode cJ6_bitCount_0f7a4 7 = .ok (.iand, 1) := by decide +kernel
theorem dJ6_bitCount_0f7a4_8 : decode cJ6_bitCount_0f7a4 8 = .ok (.isub, 1) := by decide +kernel
theorem dJ6_bitCount_0f7a4_9 : decode cJ6_bitCount_0f7a4 9 = .ok (.istore_n 0, 1) := by decide +kernel
theorem dJ6_bitCount_0f7a4_10 : decode cJ6_bitCount_0f7a4 10 = .ok (.iload_n 0, 1) := by decide +kernel
theorem dJ6_bitCount_0f7a4_11 : decode cJ6_bitCount_0f7a4 11 = .ok (.ldc_w 266, 3) := by decide +kernel
theorem dJ6_bitCount_0f7a4_14 : decode cJ6_bitCount_0f7a4 14 = .ok (.iand, 1) := by decide +kernel
theorem dJ6_bitCount_0f7a4_15 : decode cJ6_bitCount_0f7a4 15 = .ok (.iload_n 0, 1) := by decide +kernel
theorem dJ6_bitCount_0f7a4_16 : decode cJ6_bitCount_0f7a4 16 = .ok (.iconst 2, 1) := by decide +kernel
theorem dJ6_bitCount_0f7a4_17 : decode cJ6_bitCount_0f7a4 17 = .ok (.iushr, 1) := by decide +kernel
theorem dJ6_bitCount_0f7a4_18 : decode cJ6_bitCount_0f7a4 18 = .ok (.ldc_w 266, 3) := by decide +kernel
theorem dJ6_bitCount_0f7a4_21 : decode cJ6_bitCount_0f7a4 21 = .ok (.iand, 1) := by decide +kernel
theorem dJ6_bitCount_0f7a4_22 : decode cJ6_bitCount_0f7a4 22 = .ok (.iadd, 1) := by decide +kernel
theorem dJ6_bitCount_0f7a4_23 : decode cJ6_bitCount_0f7a4 23 = .ok (.istore_n 0, 1) := by decide +kernel
theorem dJ6_bitCount_0f7a4_24 : decode cJ6_bitCount_0f7a4 24 = .ok (.iload_n 0, 1) := by decide +kernel
theorem dJ6_bitCount_0f7a4_25 : decode cJ6_bitCount_0f7a4 25 = .ok (.iload_n 0, 1) := by decide +kernel
theorem dJ6_bitCount_0f7a4_26 : decode cJ6_bitCount_0f7a4 26 = .ok (.iconst 4, 1) := by decide +kernel
theorem dJ6_bitCount_0f7a4_27 : decode cJ6_bitCount_0f7a4 27 = .ok (.iushr, 1) := by decide +kernel
theorem dJ6_bitCount_0f7a4_28 : decode cJ6_bitCount_0f7a4 28 = .ok (.iadd, 1) := by decide +kernel
theorem dJ6_bitCount_0f7a4_29 : decode cJ6_bitCount_0f7a4 29 = .ok (.ldc_w 267, 3) := by decide +kernel
theorem dJ6_bitCount_0f7a4_32 : decode cJ6_bitCount_0f7a4 32 = .ok (.iand, 1) := by decide +kernel
theorem dJ6_bitCount_0f7a4_33 : decode cJ6_bitCount_0f7a4 33 = .ok (.istore_n 0, 1) := by decide +kernel
theorem dJ6_bitCount_0f7a4_34 : decode cJ6_bitCount_0f7a4 34 = .ok (.iload_n 0, 1) := by decide +kernel
theorem dJ6_bitCount_0f7a4_35 : decode cJ6_bitCount_0f7a4 35 = .ok (.iload_n 0, 1) := by decide +kernel
theorem dJ6_bitCount_0f7a4_36 : decode cJ6_bitCount_0f7a4 36 = .ok (.bipush 8, 2) := by decide +kernel
theorem dJ6_bitCount_0f7a4_38 : decode cJ6_bitCount_0f7a4 38 = .ok (.iushr, 1) := by decide +kernel
theorem dJ6_bitCount_0f7a4_39 : decode cJ6_bitCount_0f7a4 39 = .ok (.iadd, 1) := by decide +kernel
theorem dJ6_bitCount_0f7a4_40 : decode cJ6_bitCount_0f7a4 40 = .ok (.istore_n 0, 1) := by decide +kernel
theorem dJ6_bitCount_0f7a4_41 : decode cJ6_bitCount_0f7a4 41 = .ok (.iload_n 0, 1) := by decide +kernel
theorem dJ6_bitCount_0f7a4_42 : decode cJ6_bitCount_0f7a4 42 = .ok (.iload_n 0, 1) := by decide +kernel
theorem dJ6_bitCount_0f7a4_43 : decode cJ6_bitCount_0f7a4 43 = .ok (.bipush 16, 2) := by decide +kernel
theorem dJ6_bitCount_0f7a4_45 : decode cJ6_bitCount_0f7a4 45 = .ok (.iushr, 1) := by decide +kernel
theorem dJ6_bitCount_0f7a4_46 : decode cJ6_bitCount_0f7a4 46 = .ok (.iadd, 1) := by decide +kernel
theorem dJ6_bitCount_0f7a4_47 : decode cJ6_bitCount_0f7a4 47 = .ok (.istore_n 0, 1) := by decide +kernel
theorem dJ6_bitCount_0f7a4_48 : decode cJ6_bitCount_0f7a4 48 = .ok (.iload_n 0, 1) := by decide +kernel
theorem dJ6_bitCount_0f7a4_49 : decode cJ6_bitCount_0f7a4 49 = .ok (.bipush 63, 2) := by decide +kernel
theorem dJ6_bitCount_0f7a4_51 : decode cJ6_bitCount_0f7a4 51 = .ok (.iand, 1) := by decide +kernel
theorem dJ6_bitCount_0f7a4_52 : decode cJ6_bitCount_0f7a4 52 = .ok (.ireturn, 1) := by decide +kernel
theorem dJ9_max_7cf53_0 : decode cJ9_max_7cf53 0 = .ok (.iload_n 0, 1) := by decide +kernel
theorem dJ9_max_7cf53_1 : decode cJ9_max_7cf53 1 = .ok (.iload_n 1, 1) := by decide +kernel
theorem dJ9_max_7cf53_2 : decode cJ9_max_7cf53 2 = .ok (.if_icmp .lt 7, 3) := by decide +kernel
theorem dJ9_max_7cf53_5 : decode cJ9_max_7cf53 5 = .ok (.iload_n 0, 1) := by decide +kernel
theorem dJ9_max_7cf53_6 : decode cJ9_max_7cf53 6 = .ok (.goto 4, 3) := by decide +kernel
theorem dJ9_max_7cf53_9 : decode cJ9_max_7cf53 9 = .ok (.iload_n 1, 1) := by decide +kernel
theorem dJ9_max_7cf53_10 : decode cJ9_max_7cf53 10 = .ok (.ireturn, 1) := by decide +kernel
theorem dJ9_min_7cf53_0 : decode cJ9_min_7cf53 0 = .ok (.iload_n 0, 1) := by decide +kernel
theorem dJ9_min_7cf53_1 : decode cJ9_min_7cf53 1 = .ok (.iload_n 1, 1) := by decide +kernel
theorem dJ9_min_7cf53_2 : decode cJ9_min_7cf53 2 = .ok (.if_icmp .gt 7, 3) := by decide +kernel
theorem dJ9_min_7cf53_5 : decode cJ9_min_7cf53 5 = .ok (.iload_n 0, 1) := by decide +kernel
theorem dJ9_min_7cf53_6 : decode cJ9_min_7cf53 6 = .ok (.goto 4, 3) := by decide +kernel
theorem dJ9_min_7cf53_9 : decode cJ9_min_7cf53 9 = .ok (.iload_n 1, 1) := by decide +kernel
theorem dJ9_min_7cf53_10 : decode cJ9_min_7cf53 10 = .ok (.ireturn, 1) := by decide +kernel
theorem dJ7_fill_53178_0 : decode cJ7_fill_53178 0 = .ok (.iconst 0, 1) := by decide +kernel
theorem dJ7_fill_53178_1 : decode cJ7_fill_53178 1 = .ok (.istore_n 2, 1) := by decide +kernel
theorem dJ7_fill_53178_2 : decode cJ7_fill_53178 2 = .ok (.aload_n 0, 1) := by decide +kernel
theorem dJ7_fill_53178_3 : decode cJ7_fill_53178 3 = .ok (.arraylength, 1) := by decide +kernel
theorem dJ7_fill_53178_4 : decode cJ7_fill_53178 4 = .ok (.istore_n 3, 1) := by decide +kernel
theorem dJ7_fill_53178_5 : decode cJ7_fill_53178 5 = .ok (.iload_n 2, 1) := by decide +kernel
theorem dJ7_fill_53178_6 : decode cJ7_fill_53178 6 = .ok (.iload_n 3, 1) := by decide +kernel
theorem dJ7_fill_53178_7 : decode cJ7_fill_53178 7 = .ok (.if_icmp .ge 13, 3) := by decide +kernel
theorem dJ7_fill_53178_10 : decode cJ7_fill_53178 10 = .ok (.aload_n 0, 1) := by decide +kernel
theorem dJ7_fill_53178_11 : decode cJ7_fill_53178 11 = .ok (.iload_n 2, 1) := by decide +kernel
theorem dJ7_fill_53178_12 : decode cJ7_fill_53178 12 = .ok (.iload_n 1, 1) := by decide +kernel
theorem dJ7_fill_53178_13 : decode cJ7_fill_53178 13 = .ok (.iastore, 1) := by decide +kernel
theorem dJ7_fill_53178_14 : decode cJ7_fill_53178 14 = .ok (.iinc 2 1, 3) := by decide +kernel
theorem dJ7_fill_53178_17 : decode cJ7_fill_53178 17 = .ok (.goto (-12), 3) := by decide +kernel
theorem dJ7_fill_53178_20 : decode cJ7_fill_53178 20 = .ok (.return_, 1) := by decide +kernel
theorem dL_gather_0 : decode cL_gather 0 = .ok (.aload_n 2, 1) := by decide +kernel
theorem dL_gather_1 : decode cL_gather 1 = .ok (.iconst 0, 1) := by decide +kernel
theorem dL_gather_2 : decode cL_gather 2 = .ok (.aload_n 0, 1) := by decide +kernel
theorem dL_gather_3 : decode cL_gather 3 = .ok (.iload_n 1, 1) := by decide +kernel
theorem dL_gather_4 : decode cL_gather 4 = .ok (.invokevirtual 7, 3) := by decide +kernel
theorem dL_gather_7 : decode cL_gather 7 = .ok (.i2l, 1) := by decide +kernel
theorem dL_gather_8 : decode cL_gather 8 = .ok (.lastore, 1) := by decide +kernel
theorem dL_gather_9 : decode cL_gather 9 = .ok (.goto 9, 3) := by decide +kernel
theorem dL_gather_12 : decode cL_gather 12 = .ok (.astore_n 3, 1) := by decide +kernel
theorem dL_gather_13 : decode cL_gather 13 = .ok (.iconst 1, 1) := by decide +kernel
theorem dL_gather_14 : decode cL_gather 14 = .ok (.ireturn, 1) := by decide +kernel
theorem dL_gather_15 : decode cL_gather 15 = .ok (.astore_n 3, 1) := by decide +kernel
theorem dL_gather_16 : decode cL_gather 16 = .ok (.iconst 2, 1) := by decide +kernel
theorem dL_gather_17 : decode cL_gather 17 = .ok (.ireturn, 1) := by decide +kernel
theorem dL_gather_18 : decode cL_gather 18 = .ok (.iconst 0, 1) := by decide +kernel
theorem dL_gather_19 : decode cL_gather 19 = .ok (.ireturn, 1) := by decide +kernel
theorem dL_insert_0 : decode cL_insert 0 = .ok (.aload_n 3, 1) := by decide +kernel
theorem dL_insert_1 : decode cL_insert 1 = .ok (.iconst 0, 1) := by decide +kernel
theorem dL_insert_2 : decode cL_insert 2 = .ok (.aload_n 0, 1) := by decide +kernel
theorem dL_insert_3 : decode cL_insert 3 = .ok (.iload_n 1, 1) := by decide +kernel
theorem dL_insert_4 : decode cL_insert 4 = .ok (.iload_n 2, 1) := by decide +kernel
theorem dL_insert_5 : decode cL_insert 5 = .ok (.invokevirtual 17, 3) := by decide +kernel
theorem dL_insert_8 : decode cL_insert 8 = .ok (.i2l, 1) := by decide +kernel
theorem dL_insert_9 : decode cL_insert 9 = .ok (.lastore, 1) := by decide +kernel
theorem dL_insert_10 : decode cL_insert 10 = .ok (.goto 11, 3) := by decide +kernel
theorem dL_insert_13 : decode cL_insert 13 = .ok (.astore 4, 2) := by decide +kernel
theorem dL_insert_15 : decode cL_insert 15 = .ok (.iconst 1, 1) := by decide +kernel
theorem dL_insert_16 : decode cL_insert 16 = .ok (.ireturn, 1) := by decide +kernel
theorem dL_insert_17 : decode cL_insert 17 = .ok (.astore 4, 2) := by decide +kernel
theorem dL_insert_19 : decode cL_insert 19 = .ok (.iconst 2, 1) := by decide +kernel
theorem dL_insert_20 : decode cL_insert 20 = .ok (.ireturn, 1) := by decide +kernel
theorem dL_insert_21 : decode cL_insert 21 = .ok (.iconst 0, 1) := by decide +kernel
theorem dL_insert_22 : decode cL_insert 22 = .ok (.ireturn, 1) := by decide +kernel
theorem dL_pull_0 : decode cL_pull 0 = .ok (.aload_n 2, 1) := by decide +kernel
theorem dL_pull_1 : decode cL_pull 1 = .ok (.iconst 0, 1) := by decide +kernel
theorem dL_pull_2 : decode cL_pull 2 = .ok (.aload_n 0, 1) := by decide +kernel
theorem dL_pull_3 : decode cL_pull 3 = .ok (.iload_n 1, 1) := by decide +kernel
theorem dL_pull_4 : decode cL_pull 4 = .ok (.invokevirtual 21, 3) := by decide +kernel
theorem dL_pull_7 : decode cL_pull 7 = .ok (.i2l, 1) := by decide +kernel
theorem dL_pull_8 : decode cL_pull 8 = .ok (.lastore, 1) := by decide +kernel
theorem dL_pull_9 : decode cL_pull 9 = .ok (.goto 6, 3) := by decide +kernel
theorem dL_pull_12 : decode cL_pull 12 = .ok (.astore_n 3, 1) := by decide +kernel
theorem dL_pull_13 : decode cL_pull 13 = .ok (.iconst 1, 1) := by decide +kernel
theorem dL_pull_14 : decode cL_pull 14 = .ok (.ireturn, 1) := by decide +kernel
theorem dL_pull_15 : decode cL_pull 15 = .ok (.iconst 0, 1) := by decide +kernel
theorem dL_pull_16 : decode cL_pull 16 = .ok (.ireturn, 1) := by decide +kernel
theorem dL_flip_0 : decode cL_flip 0 = .ok (.aload_n 2, 1) := by decide +kernel
theorem dL_flip_1 : decode cL_flip 1 = .ok (.iconst 0, 1) := by decide +kernel
theorem dL_flip_2 : decode cL_flip 2 = .ok (.aload_n 0, 1) := by decide +kernel
theorem dL_flip_3 : decode cL_flip 3 = .ok (.iload_n 1, 1) := by decide +kernel
theorem dL_flip_4 : decode cL_flip 4 = .ok (.invokevirtual 24, 3) := by decide +kernel
theorem dL_flip_7 : decode cL_flip 7 = .ok (.i2l, 1) := by decide +kernel
theorem dL_flip_8 : decode cL_flip 8 = .ok (.lastore, 1) := by decide +kernel
theorem dL_flip_9 : decode cL_flip 9 = .ok (.goto 6, 3) := by decide +kernel
theorem dL_flip_12 : decode cL_flip 12 = .ok (.astore_n 3, 1) := by decide +kernel
theorem dL_flip_13 : decode cL_flip 13 = .ok (.iconst 1, 1) := by decide +kernel
theorem dL_flip_14 : decode cL_flip 14 = .ok (.ireturn, 1) := by decide +kernel
theorem dL_flip_15 : decode cL_flip 15 = .ok (.iconst 0, 1) := by decide +kernel
theorem dL_flip_16 : decode cL_flip 16 = .ok (.ireturn, 1) := by decide +kernel
theorem dL_move_0 : decode cL_move 0 = .ok (.aload_n 3, 1) := by decide +kernel
theorem dL_move_1 : decode cL_move 1 = .ok (.iconst 0, 1) := by decide +kernel
theorem dL_move_2 : decode cL_move 2 = .ok (.aload_n 0, 1) := by decide +kernel
theorem dL_move_3 : decode cL_move 3 = .ok (.iload_n 1, 1) := by decide +kernel
theorem dL_move_4 : decode cL_move 4 = .ok (.iload_n 2, 1) := by decide +kernel
theorem dL_move_5 : decode cL_move 5 = .ok (.invokevirtual 27, 3) := by decide +kernel
theorem dL_move_8 : decode cL_move 8 = .ok (.i2l, 1) := by decide +kernel
theorem dL_move_9 : decode cL_move 9 = .ok (.lastore, 1) := by decide +kernel
theorem dL_move_10 : decode cL_move 10 = .ok (.goto 7, 3) := by decide +kernel
theorem dL_move_13 : decode cL_move 13 = .ok (.astore 4, 2) := by decide +kernel
theorem dL_move_15 : decode cL_move 15 = .ok (.iconst 1, 1) := by decide +kernel
theorem dL_move_16 : decode cL_move 16 = .ok (.ireturn, 1) := by decide +kernel
theorem dL_move_17 : decode cL_move 17 = .ok (.iconst 0, 1) := by decide +kernel
theorem dL_move_18 : decode cL_move 18 = .ok (.ireturn, 1) := by decide +kernel
theorem dL_bind_0 : decode cL_bind 0 = .ok (.aload_n 1, 1) := by decide +kernel
theorem dL_bind_1 : decode cL_bind 1 = .ok (.iconst 0, 1) := by decide +kernel
theorem dL_bind_2 : decode cL_bind 2 = .ok (.aload_n 0, 1) := by decide +kernel
theorem dL_bind_3 : decode cL_bind 3 = .ok (.invokevirtual 30, 3) := by decide +kernel
theorem dL_bind_6 : decode cL_bind 6 = .ok (.i2l, 1) := by decide +kernel
theorem dL_bind_7 : decode cL_bind 7 = .ok (.lastore, 1) := by decide +kernel
theorem dL_bind_8 : decode cL_bind 8 = .ok (.goto 6, 3) := by decide +kernel
theorem dL_bind_11 : decode cL_bind 11 = .ok (.astore_n 2, 1) := by decide +kernel
theorem dL_bind_12 : decode cL_bind 12 = .ok (.iconst 1, 1) := by decide +kernel
theorem dL_bind_13 : decode cL_bind 13 = .ok (.ireturn, 1) := by decide +kernel
theorem dL_bind_14 : decode cL_bind 14 = .ok (.iconst 0, 1) := by decide +kernel
theorem dL_bind_15 : decode cL_bind 15 = .ok (.ireturn, 1) := by decide +kernel
theorem dL_print_0 : decode cL_print 0 = .ok (.aload_n 3, 1) := by decide +kernel
theorem dL_print_1 : decode cL_print 1 = .ok (.iconst 0, 1) := by decide +kernel
theorem dL_print_2 : decode cL_print 2 = .ok (.aload_n 0, 1) := by decide +kernel
theorem dL_print_3 : decode cL_print 3 = .ok (.iload_n 1, 1) := by decide +kernel
theorem dL_print_4 : decode cL_print 4 = .ok (.iload_n 2, 1) := by decide +kernel
theorem dL_print_5 : decode cL_print 5 = .ok (.invokevirtual 34, 3) := by decide +kernel
theorem dL_print_8 : decode cL_print 8 = .ok (.i2l, 1) := by decide +kernel
theorem dL_print_9 : decode cL_print 9 = .ok (.lastore, 1) := by decide +kernel
theorem dL_print_10 : decode cL_print 10 = .ok (.goto 15, 3) := by decide +kernel
theorem dL_print_13 : decode cL_print 13 = .ok (.astore 4, 2) := by decide +kernel
theorem dL_print_15 : decode cL_print 15 = .ok (.iconst 1, 1) := by decide +kernel
theorem dL_print_16 : decode cL_print 16 = .ok (.ireturn, 1) := by decide +kernel
theorem dL_print_17 : decode cL_print 17 = .ok (.astore 4, 2) := by decide +kernel
theorem dL_print_19 : decode cL_print 19 = .ok (.iconst 2, 1) := by decide +kernel
theorem dL_print_20 : decode cL_print 20 = .ok (.ireturn, 1) := by decide +kernel
theorem dL_print_21 : decode cL_print 21 = .ok (.astore 4, 2) := by decide +kernel
theorem dL_print_23 : decode cL_print 23 = .ok (.iconst 3, 1) := by decide +kernel
theorem dL_print_24 : decode cL_print 24 = .ok (.ireturn, 1) := by decide +kernel
theorem dL_print_25 : decode cL_print 25 = .ok (.iconst 0, 1) := by decide +kernel
theorem dL_print_26 : decode cL_print 26 = .ok (.ireturn, 1) := by decide +kernel
theorem dL_punch_0 : decode cL_punch 0 = .ok (.aload_n 3, 1) := by decide +kernel
theorem dL_punch_1 : decode cL_punch 1 = .ok (.iconst 0, 1) := by decide +kernel
theorem dL_punch_2 : decode cL_punch 2 = .ok (.aload_n 0, 1) := by decide +kernel
theorem dL_punch_3 : decode cL_punch 3 = .ok (.iload_n 1, 1) := by decide +kernel
theorem dL_punch_4 : decode cL_punch 4 = .ok (.iload_n 2, 1) := by decide +kernel
theorem dL_punch_5 : decode cL_punch 5 = .ok (.invokevirtual 39, 3) := by decide +kernel
theorem dL_punch_8 : decode cL_punch 8 = .ok (.i2l, 1) := by decide +kernel
theorem dL_punch_9 : decode cL_punch 9 = .ok (.lastore, 1) := by decide +kernel
theorem dL_punch_10 : decode cL_punch 10 = .ok (.goto 11, 3) := by decide +kernel
theorem dL_punch_13 : decode cL_punch 13 = .ok (.astore 4, 2) := by decide +kernel
theorem dL_punch_15 : decode cL_punch 15 = .ok (.iconst 1, 1) := by decide +kernel
theorem dL_punch_16 : decode cL_punch 16 = .ok (.ireturn, 1) := by decide +kernel
theorem dL_punch_17 : decode cL_punch 17 = .ok (.astore 4, 2) := by decide +kernel
theorem dL_punch_19 : decode cL_punch 19 = .ok (.iconst 2, 1) := by decide +kernel
theorem dL_punch_20 : decode cL_punch 20 = .ok (.ireturn, 1) := by decide +kernel
theorem dL_punch_21 : decode cL_punch 21 = .ok (.iconst 0, 1) := by decide +kernel
theorem dL_punch_22 : decode cL_punch 22 = .ok (.ireturn, 1) := by decide +kernel
theorem dL_set_0 : decode cL_set 0 = .ok (.aload_n 3, 1) := by decide +kernel
theorem dL_set_1 : decode cL_set 1 = .ok (.iconst 0, 1) := by decide +kernel
theorem dL_set_2 : decode cL_set 2 = .ok (.aload_n 0, 1) := by decide +kernel
theorem dL_set_3 : decode cL_set 3 = .ok (.iload_n 1, 1) := by decide +kernel
theorem dL_set_4 : decode cL_set 4 = .ok (.iload_n 2, 1) := by decide +kernel
theorem dL_set_5 : decode cL_set 5 = .ok (.invokevirtual 42, 3) := by decide +kernel
theorem dL_set_8 : decode cL_set 8 = .ok (.i2l, 1) := by decide +kernel
theorem dL_set_9 : decode cL_set 9 = .ok (.lastore, 1) := by decide +kernel
theorem dL_set_10 : decode cL_set 10 = .ok (.goto 11, 3) := by decide +kernel
theorem dL_set_13 : decode cL_set 13 = .ok (.astore 4, 2) := by decide +kernel
theorem dL_set_15 : decode cL_set 15 = .ok (.iconst 1, 1) := by decide +kernel
theorem dL_set_16 : decode cL_set 16 = .ok (.ireturn, 1) := by decide +kernel
theorem dL_set_17 : decode cL_set 17 = .ok (.astore 4, 2) := by decide +kernel
theorem dL_set_19 : decode cL_set 19 = .ok (.iconst 2, 1) := by decide +kernel
theorem dL_set_20 : decode cL_set 20 = .ok (.ireturn, 1) := by decide +kernel
theorem dL_set_21 : decode cL_set 21 = .ok (.iconst 0, 1) := by decide +kernel
theorem dL_set_22 : decode cL_set 22 = .ok (.ireturn, 1) := by decide +kernel
theorem dL_append_0 : decode cL_append 0 = .ok (.aload_n 2, 1) := by decide +kernel
theorem dL_append_1 : decode cL_append 1 = .ok (.iconst 0, 1) := by decide +kernel
theorem dL_append_2 : decode cL_append 2 = .ok (.aload_n 0, 1) := by decide +kernel
theorem dL_append_3 : decode cL_append 3 = .ok (.iload_n 1, 1) := by decide +kernel
theorem dL_append_4 : decode cL_append 4 = .ok (.invokevirtual 45, 3) := by decide +kernel
theorem dL_append_7 : decode cL_append 7 = .ok (.i2l, 1) := by decide +kernel
theorem dL_append_8 : decode cL_append 8 = .ok (.lastore, 1) := by decide +kernel
theorem dL_append_9 : decode cL_append 9 = .ok (.goto 9, 3) := by decide +kernel
theorem dL_append_12 : decode cL_append 12 = .ok (.astore_n 3, 1) := by decide +kernel
theorem dL_append_13 : decode cL_append 13 = .ok (.iconst 1, 1) := by decide +kernel
theorem dL_append_14 : decode cL_append 14 = .ok (.ireturn, 1) := by decide +kernel
theorem dL_append_15 : decode cL_append 15 = .ok (.astore_n 3, 1) := by decide +kernel
theorem dL_append_16 : decode cL_append 16 = .ok (.iconst 2, 1) := by decide +kernel
theorem dL_append_17 : decode cL_append 17 = .ok (.ireturn, 1) := by decide +kernel
theorem dL_append_18 : decode cL_append 18 = .ok (.iconst 0, 1) := by decide +kernel
theorem dL_append_19 : decode cL_append 19 = .ok (.ireturn, 1) := by decide +kernel
theorem dL_work_0 : decode cL_work 0 = .ok (.aload_n 1, 1) := by decide +kernel
theorem dL_work_1 : decode cL_work 1 = .ok (.iconst 0, 1) := by decide +kernel
theorem dL_work_2 : decode cL_work 2 = .ok (.aload_n 0, 1) := by decide +kernel
theorem dL_work_3 : decode cL_work 3 = .ok (.invokevirtual 48, 3) := by decide +kernel
theorem dL_work_6 : decode cL_work 6 = .ok (.i2l, 1) := by decide +kernel
theorem dL_work_7 : decode cL_work 7 = .ok (.lastore, 1) := by decide +kernel
theorem dL_work_8 : decode cL_work 8 = .ok (.goto 6, 3) := by decide +kernel
theorem dL_work_11 : decode cL_work 11 = .ok (.astore_n 2, 1) := by decide +kernel
theorem dL_work_12 : decode cL_work 12 = .ok (.iconst 1, 1) := by decide +kernel
theorem dL_work_13 : decode cL_work 13 = .ok (.ireturn, 1) := by decide +kernel
theorem dL_work_14 : decode cL_work 14 = .ok (.iconst 0, 1) := by decide +kernel
theorem dL_work_15 : decode cL_work 15 = .ok (.ireturn, 1) := by decide +kernel
theorem dL_goBack_0 : decode cL_goBack 0 = .ok (.aload_n 1, 1) := by decide +kernel
theorem dL_goBack_1 : decode cL_goBack 1 = .ok (.iconst 0, 1) := by decide +kernel
theorem dL_goBack_2 : decode cL_goBack 2 = .ok (.aload_n 0, 1) := by decide +kernel
theorem dL_goBack_3 : decode cL_goBack 3 = .ok (.invokevirtual 51, 3) := by decide +kernel
theorem dL_goBack_6 : decode cL_goBack 6 = .ok (.i2l, 1) := by decide +kernel
theorem dL_goBack_7 : decode cL_goBack 7 = .ok (.lastore, 1) := by decide +kernel
theorem dL_goBack_8 : decode cL_goBack 8 = .ok (.goto 6, 3) := by decide +kernel
theorem dL_goBack_11 : decode cL_goBack 11 = .ok (.astore_n 2, 1) := by decide +kernel
theorem dL_goBack_12 : decode cL_goBack 12 = .ok (.iconst 1, 1) := by decide +kernel
theorem dL_goBack_13 : decode cL_goBack 13 = .ok (.ireturn, 1) := by decide +kernel
theorem dL_goBack_14 : decode cL_goBack 14 = .ok (.iconst 0, 1) := by decide +kernel
theorem dL_goBack_15 : decode cL_goBack 15 = .ok (.ireturn, 1) := by decide +kernel
theorem dL_undo_0 : decode cL_undo 0 = .ok (.aload_n 1, 1) := by decide +kernel
theorem dL_undo_1 : decode cL_undo 1 = .ok (.iconst 0, 1) := by decide +kernel
theorem dL_undo_2 : decode cL_undo 2 = .ok (.aload_n 0, 1) := by decide +kernel
theorem dL_undo_3 : decode cL_undo 3 = .ok (.invokevirtual 54, 3) := by decide +kernel
theorem dL_undo_6 : decode cL_undo 6 = .ok (.i2l, 1) := by decide +kernel
theorem dL_undo_7 : decode cL_undo 7 = .ok (.lastore, 1) := by decide +kernel
theorem dL_undo_8 : decode cL_undo 8 = .ok (.goto 6, 3) := by decide +kernel
theorem dL_undo_11 : decode cL_undo 11 = .ok (.astore_n 2, 1) := by decide +kernel
theorem dL_undo_12 : decode cL_undo 12 = .ok (.iconst 1, 1) := by decide +kernel
theorem dL_undo_13 : decode cL_undo 13 = .ok (.ireturn, 1) := by decide +kernel
theorem dL_undo_14 : decode cL_undo 14 = .ok (.iconst 0, 1) := by decide +kernel
theorem dL_undo_15 : decode cL_undo 15 = .ok (.ireturn, 1) := by decide +kernel
theorem dL_sheet_0 : decode cL_sheet 0 = .ok (.aload_n 3, 1) := by decide +kernel
theorem dL_sheet_1 : decode cL_sheet 1 = .ok (.iconst 0, 1) := by decide +kernel
theorem dL_sheet_2 : decode cL_sheet 2 = .ok (.aload_n 0, 1) := by decide +kernel
theorem dL_sheet_3 : decode cL_sheet 3 = .ok (.iload_n 1, 1) := by decide +kernel
theorem dL_sheet_4 : decode cL_sheet 4 = .ok (.iload_n 2, 1) := by decide +kernel
theorem dL_sheet_5 : decode cL_sheet 5 = .ok (.invokevirtual 57, 3) := by decide +kernel
theorem dL_sheet_8 : decode cL_sheet 8 = .ok (.i2l, 1) := by decide +kernel
theorem dL_sheet_9 : decode cL_sheet 9 = .ok (.lastore, 1) := by decide +kernel
theorem dL_sheet_10 : decode cL_sheet 10 = .ok (.goto 11, 3) := by decide +kernel
theorem dL_sheet_13 : decode cL_sheet 13 = .ok (.astore 4, 2) := by decide +kernel
theorem dL_sheet_15 : decode cL_sheet 15 = .ok (.iconst 1, 1) := by decide +kernel
theorem dL_sheet_16 : decode cL_sheet 16 = .ok (.ireturn, 1) := by decide +kernel
theorem dL_sheet_17 : decode cL_sheet 17 = .ok (.astore 4, 2) := by decide +kernel
theorem dL_sheet_19 : decode cL_sheet 19 = .ok (.iconst 2, 1) := by decide +kernel
theorem dL_sheet_20 : decode cL_sheet 20 = .ok (.ireturn, 1) := by decide +kernel
theorem dL_sheet_21 : decode cL_sheet 21 = .ok (.iconst 0, 1) := by decide +kernel
theorem dL_sheet_22 : decode cL_sheet 22 = .ok (.ireturn, 1) := by decide +kernel
theorem dL_bin_0 : decode cL_bin 0 = .ok (.aload_n 3, 1) := by decide +kernel
theorem dL_bin_1 : decode cL_bin 1 = .ok (.iconst 0, 1) := by decide +kernel
theorem dL_bin_2 : decode cL_bin 2 = .ok (.aload_n 0, 1) := by decide +kernel
theorem dL_bin_3 : decode cL_bin 3 = .ok (.iload_n 1, 1) := by decide +kernel
theorem dL_bin_4 : decode cL_bin 4 = .ok (.iload_n 2, 1) := by decide +kernel
theorem dL_bin_5 : decode cL_bin 5 = .ok (.invokevirtual 60, 3) := by decide +kernel
theorem dL_bin_8 : decode cL_bin 8 = .ok (.i2l, 1) := by decide +kernel
theorem dL_bin_9 : decode cL_bin 9 = .ok (.lastore, 1) := by decide +kernel
theorem dL_bin_10 : decode cL_bin 10 = .ok (.goto 11, 3) := by decide +kernel
theorem dL_bin_13 : decode cL_bin 13 = .ok (.astore 4, 2) := by decide +kernel
theorem dL_bin_15 : decode cL_bin 15 = .ok (.iconst 1, 1) := by decide +kernel
theorem dL_bin_16 : decode cL_bin 16 = .ok (.ireturn, 1) := by decide +kernel
theorem dL_bin_17 : decode cL_bin 17 = .ok (.astore 4, 2) := by decide +kernel
theorem dL_bin_19 : decode cL_bin 19 = .ok (.iconst 2, 1) := by decide +kernel
theorem dL_bin_20 : decode cL_bin 20 = .ok (.ireturn, 1) := by decide +kernel
theorem dL_bin_21 : decode cL_bin 21 = .ok (.iconst 0, 1) := by decide +kernel
theorem dL_bin_22 : decode cL_bin 22 = .ok (.ireturn, 1) := by decide +kernel
theorem dL_count_0 : decode cL_count 0 = .ok (.aload_n 2, 1) := by decide +kernel
theorem dL_count_1 : decode cL_count 1 = .ok (.iconst 0, 1) := by decide +kernel
theorem dL_count_2 : decode cL_count 2 = .ok (.aload_n 0, 1) := by decide +kernel
theorem dL_count_3 : decode cL_count 3 = .ok (.iload_n 1, 1) := by decide +kernel
theorem dL_count_4 : decode cL_count 4 = .ok (.invokevirtual 63, 3) := by decide +kernel
theorem dL_count_7 : decode cL_count 7 = .ok (.i2l, 1) := by decide +kernel
theorem dL_count_8 : decode cL_count 8 = .ok (.lastore, 1) := by decide +kernel
theorem dL_count_9 : decode cL_count 9 = .ok (.goto 6, 3) := by decide +kernel
theorem dL_count_12 : decode cL_count 12 = .ok (.astore_n 3, 1) := by decide +kernel
theorem dL_count_13 : decode cL_count 13 = .ok (.iconst 1, 1) := by decide +kernel
theorem dL_count_14 : decode cL_count 14 = .ok (.ireturn, 1) := by decide +kernel
theorem dL_count_15 : decode cL_count 15 = .ok (.iconst 0, 1) := by decide +kernel
theorem dL_count_16 : decode cL_count 16 = .ok (.ireturn, 1) := by decide +kernel
theorem dL_setting_0 : decode cL_setting 0 = .ok (.aload_n 2, 1) := by decide +kernel
theorem dL_setting_1 : decode cL_setting 1 = .ok (.iconst 0, 1) := by decide +kernel
theorem dL_setting_2 : decode cL_setting 2 = .ok (.aload_n 0, 1) := by decide +kernel
theorem dL_setting_3 : decode cL_setting 3 = .ok (.iload_n 1, 1) := by decide +kernel
theorem dL_setting_4 : decode cL_setting 4 = .ok (.invokevirtual 66, 3) := by decide +kernel
theorem dL_setting_7 : decode cL_setting 7 = .ok (.i2l, 1) := by decide +kernel
theorem dL_setting_8 : decode cL_setting 8 = .ok (.lastore, 1) := by decide +kernel
theorem dL_setting_9 : decode cL_setting 9 = .ok (.goto 6, 3) := by decide +kernel
theorem dL_setting_12 : decode cL_setting 12 = .ok (.astore_n 3, 1) := by decide +kernel
theorem dL_setting_13 : decode cL_setting 13 = .ok (.iconst 1, 1) := by decide +kernel
theorem dL_setting_14 : decode cL_setting 14 = .ok (.ireturn, 1) := by decide +kernel
theorem dL_setting_15 : decode cL_setting 15 = .ok (.iconst 0, 1) := by decide +kernel
theorem dL_setting_16 : decode cL_setting 16 = .ok (.ireturn, 1) := by decide +kernel
theorem dL_ifPulled_0 : decode cL_ifPulled 0 = .ok (.aload_n 3, 1) := by decide +kernel
theorem dL_ifPulled_1 : decode cL_ifPulled 1 = .ok (.iconst 0, 1) := by decide +kernel
theorem dL_ifPulled_2 : decode cL_ifPulled 2 = .ok (.aload_n 0, 1) := by decide +kernel
theorem dL_ifPulled_3 : decode cL_ifPulled 3 = .ok (.iload_n 1, 1) := by decide +kernel
theorem dL_ifPulled_4 : decode cL_ifPulled 4 = .ok (.iload_n 2, 1) := by decide +kernel
theorem dL_ifPulled_5 : decode cL_ifPulled 5 = .ok (.invokevirtual 69, 3) := by decide +kernel
theorem dL_ifPulled_8 : decode cL_ifPulled 8 = .ok (.i2l, 1) := by decide +kernel
theorem dL_ifPulled_9 : decode cL_ifPulled 9 = .ok (.lastore, 1) := by decide +kernel
theorem dL_ifPulled_10 : decode cL_ifPulled 10 = .ok (.goto 11, 3) := by decide +kernel
theorem dL_ifPulled_13 : decode cL_ifPulled 13 = .ok (.astore 4, 2) := by decide +kernel
theorem dL_ifPulled_15 : decode cL_ifPulled 15 = .ok (.iconst 1, 1) := by decide +kernel
theorem dL_ifPulled_16 : decode cL_ifPulled 16 = .ok (.ireturn, 1) := by decide +kernel
theorem dL_ifPulled_17 : decode cL_ifPulled 17 = .ok (.astore 4, 2) := by decide +kernel
theorem dL_ifPulled_19 : decode cL_ifPulled 19 = .ok (.iconst 2, 1) := by decide +kernel
theorem dL_ifPulled_20 : decode cL_ifPulled 20 = .ok (.ireturn, 1) := by decide +kernel
theorem dL_ifPulled_21 : decode cL_ifPulled 21 = .ok (.iconst 0, 1) := by decide +kernel
theorem dL_ifPulled_22 : decode cL_ifPulled 22 = .ok (.ireturn, 1) := by decide +kernel
theorem dL_law_0 : decode cL_law 0 = .ok (.new 8, 3) := by decide +kernel
theorem dL_law_3 : decode cL_law 3 = .ok (.dup, 1) := by decide +kernel
theorem dL_law_4 : decode cL_law 4 = .ok (.invokespecial 72, 3) := by decide +kernel
theorem dL_law_7 : decode cL_law 7 = .ok (.astore_n 1, 1) := by decide +kernel
theorem dL_law_8 : decode cL_law 8 = .ok (.new 73, 3) := by decide +kernel
theorem dL_law_11 : decode cL_law 11 = .ok (.dup, 1) := by decide +kernel
theorem dL_law_12 : decode cL_law 12 = .ok (.invokespecial 75, 3) := by decide +kernel
theorem dL_law_15 : decode cL_law 15 = .ok (.astore_n 2, 1) := by decide +kernel
theorem dL_law_16 : decode cL_law 16 = .ok (.iconst 1, 1) := by decide +kernel
theorem dL_law_17 : decode cL_law 17 = .ok (.newarray .long, 2) := by decide +kernel
theorem dL_law_19 : decode cL_law 19 = .ok (.astore_n 3, 1) := by decide +kernel
theorem dL_law_20 : decode cL_law 20 = .ok (.iconst 0, 1) := by decide +kernel
theorem dL_law_21 : decode cL_law 21 = .ok (.istore 4, 2) := by decide +kernel
theorem dL_law_23 : decode cL_law 23 = .ok (.iload 4, 2) := by decide +kernel
theorem dL_law_25 : decode cL_law 25 = .ok (.aload_n 0, 1) := by decide +kernel
theorem dL_law_26 : decode cL_law 26 = .ok (.arraylength, 1) := by decide +kernel
theorem dL_law_27 : decode cL_law 27 = .ok (.iconst 3, 1) := by decide +kernel
theorem dL_law_28 : decode cL_law 28 = .ok (.isub, 1) := by decide +kernel
theorem dL_law_29 : decode cL_law 29 = .ok (.if_icmp .gt 1369, 3) := by decide +kernel
theorem dL_law_32 : decode cL_law 32 = .ok (.aload_n 0, 1) := by decide +kernel
theorem dL_law_33 : decode cL_law 33 = .ok (.iload 4, 2) := by decide +kernel
theorem dL_law_35 : decode cL_law 35 = .ok (.iaload, 1) := by decide +kernel
theorem dL_law_36 : decode cL_law 36 = .ok (.bipush 31, 2) := by decide +kernel
theorem dL_law_38 : decode cL_law 38 = .ok (.iand, 1) := by decide +kernel
theorem dL_law_39 : decode cL_law 39 = .ok (.tableswitch 1353 0 26 #[121, 177, 245, 301, 357, 425, 469, 537, 605, 673, 729, 742, 755, 799, 812, 856, 900, 968, 1036, 1092, 1148, 1161, 1229, 1242, 1255, 1296, 1339], 121) := by decide +kernel
theorem dL_law_160 : decode cL_law 160 = .ok (.aload_n 1, 1) := by decide +kernel
theorem dL_law_161 : decode cL_law 161 = .ok (.aload_n 0, 1) := by decide +kernel
theorem dL_law_162 : decode cL_law 162 = .ok (.iload 4, 2) := by decide +kernel
theorem dL_law_164 : decode cL_law 164 = .ok (.iconst 1, 1) := by decide +kernel
theorem dL_law_165 : decode cL_law 165 = .ok (.iadd, 1) := by decide +kernel
theorem dL_law_166 : decode cL_law 166 = .ok (.iaload, 1) := by decide +kernel
theorem dL_law_167 : decode cL_law 167 = .ok (.aload_n 3, 1) := by decide +kernel
theorem dL_law_168 : decode cL_law 168 = .ok (.invokestatic 76, 3) := by decide +kernel
theorem dL_law_171 : decode cL_law 171 = .ok (.istore 5, 2) := by decide +kernel
theorem dL_law_173 : decode cL_law 173 = .ok (.aload_n 2, 1) := by decide +kernel
theorem dL_law_174 : decode cL_law 174 = .ok (.aload_n 0, 1) := by decide +kernel
theorem dL_law_175 : decode cL_law 175 = .ok (.iload 4, 2) := by decide +kernel
theorem dL_law_177 : decode cL_law 177 = .ok (.iconst 1, 1) := by decide +kernel
theorem dL_law_178 : decode cL_law 178 = .ok (.iadd, 1) := by decide +kernel
theorem dL_law_179 : decode cL_law 179 = .ok (.iaload, 1) := by decide +kernel
theorem dL_law_180 : decode cL_law 180 = .ok (.invokevirtual 81, 3) := by decide +kernel
theorem dL_law_183 : decode cL_law 183 = .ok (.istore 6, 2) := by decide +kernel
theorem dL_law_185 : decode cL_law 185 = .ok (.aload_n 2, 1) := by decide +kernel
theorem dL_law_186 : decode cL_law 186 = .ok (.invokevirtual 82, 3) := by decide +kernel
theorem dL_law_189 : decode cL_law 189 = .ok (.iload 5, 2) := by decide +kernel
theorem dL_law_191 : decode cL_law 191 = .ok (.if_icmp .eq 5, 3) := by decide +kernel
theorem dL_law_194 : decode cL_law 194 = .ok (.iconst 0, 1) := by decide +kernel
theorem dL_law_195 : decode cL_law 195 = .ok (.ireturn, 1) := by decide +kernel
theorem dL_law_196 : decode cL_law 196 = .ok (.iload 5, 2) := by decide +kernel
theorem dL_law_198 : decode cL_law 198 = .ok (.ifCond .ne 15, 3) := by decide +kernel
theorem dL_law_201 : decode cL_law 201 = .ok (.aload_n 3, 1) := by decide +kernel
theorem dL_law_202 : decode cL_law 202 = .ok (.iconst 0, 1) := by decide +kernel
theorem dL_law_203 : decode cL_law 203 = .ok (.laload, 1) := by decide +kernel
theorem dL_law_204 : decode cL_law 204 = .ok (.iload 6, 2) := by decide +kernel
theorem dL_law_206 : decode cL_law 206 = .ok (.i2l, 1) := by decide +kernel
theorem dL_law_207 : decode cL_law 207 = .ok (.lcmp, 1) := by decide +kernel
theorem dL_law_208 : decode cL_law 208 = .ok (.ifCond .eq 5, 3) := by decide +kernel
theorem dL_law_211 : decode cL_law 211 = .ok (.iconst 0, 1) := by decide +kernel
theorem dL_law_212 : decode cL_law 212 = .ok (.ireturn, 1) := by decide +kernel
theorem dL_law_213 : decode cL_law 213 = .ok (.goto 1179, 3) := by decide +kernel
theorem dL_law_216 : decode cL_law 216 = .ok (.aload_n 1, 1) := by decide +kernel
theorem dL_law_217 : decode cL_law 217 = .ok (.aload_n 0, 1) := by decide +kernel
theorem dL_law_218 : decode cL_law 218 = .ok (.iload 4, 2) := by decide +kernel
theorem dL_law_220 : decode cL_law 220 = .ok (.iconst 1, 1) := by decide +kernel
theorem dL_law_221 : decode cL_law 221 = .ok (.iadd, 1) := by decide +kernel
theorem dL_law_222 : decode cL_law 222 = .ok (.iaload, 1) := by decide +kernel
theorem dL_law_223 : decode cL_law 223 = .ok (.aload_n 0, 1) := by decide +kernel
theorem dL_law_224 : decode cL_law 224 = .ok (.iload 4, 2) := by decide +kernel
theorem dL_law_226 : decode cL_law 226 = .ok (.iconst 2, 1) := by decide +kernel
theorem dL_law_227 : decode cL_law 227 = .ok (.iadd, 1) := by decide +kernel
theorem dL_law_228 : decode cL_law 228 = .ok (.iaload, 1) := by decide +kernel
theorem dL_law_229 : decode cL_law 229 = .ok (.aload_n 3, 1) := by decide +kernel
theorem dL_law_230 : decode cL_law 230 = .ok (.invokestatic 85, 3) := by decide +kernel
theorem dL_law_233 : decode cL_law 233 = .ok (.istore 5, 2) := by decide +kernel
theorem dL_law_235 : decode cL_law 235 = .ok (.aload_n 2, 1) := by decide +kernel
theorem dL_law_236 : decode cL_law 236 = .ok (.aload_n 0, 1) := by decide +kernel
theorem dL_law_237 : decode cL_law 237 = .ok (.iload 4, 2) := by decide +kernel
theorem dL_law_239 : decode cL_law 239 = .ok (.iconst 1, 1) := by decide +kernel
theorem dL_law_240 : decode cL_law 240 = .ok (.iadd, 1) := by decide +kernel
theorem dL_law_241 : decode cL_law 241 = .ok (.iaload, 1) := by decide +kernel
theorem dL_law_242 : decode cL_law 242 = .ok (.aload_n 0, 1) := by decide +kernel
theorem dL_law_243 : decode cL_law 243 = .ok (.iload 4, 2) := by decide +kernel
theorem dL_law_245 : decode cL_law 245 = .ok (.iconst 2, 1) := by decide +kernel
theorem dL_law_246 : decode cL_law 246 = .ok (.iadd, 1) := by decide +kernel
theorem dL_law_247 : decode cL_law 247 = .ok (.iaload, 1) := by decide +kernel
theorem dL_law_248 : decode cL_law 248 = .ok (.invokevirtual 88, 3) := by decide +kernel
theorem dL_law_251 : decode cL_law 251 = .ok (.istore 6, 2) := by decide +kernel
theorem dL_law_253 : decode cL_law 253 = .ok (.aload_n 2, 1) := by decide +kernel
theorem dL_law_254 : decode cL_law 254 = .ok (.invokevirtual 82, 3) := by decide +kernel
theorem dL_law_257 : decode cL_law 257 = .ok (.iload 5, 2) := by decide +kernel
theorem dL_law_259 : decode cL_law 259 = .ok (.if_icmp .eq 5, 3) := by decide +kernel
theorem dL_law_262 : decode cL_law 262 = .ok (.iconst 0, 1) := by decide +kernel
theorem dL_law_263 : decode cL_law 263 = .ok (.ireturn, 1) := by decide +kernel
theorem dL_law_264 : decode cL_law 264 = .ok (.iload 5, 2) := by decide +kernel
theorem dL_law_266 : decode cL_law 266 = .ok (.ifCond .ne 15, 3) := by decide +kernel
theorem dL_law_269 : decode cL_law 269 = .ok (.aload_n 3, 1) := by decide +kernel
theorem dL_law_270 : decode cL_law 270 = .ok (.iconst 0, 1) := by decide +kernel
theorem dL_law_271 : decode cL_law 271 = .ok (.laload, 1) := by decide +kernel
theorem dL_law_272 : decode cL_law 272 = .ok (.iload 6, 2) := by decide +kernel
theorem dL_law_274 : decode cL_law 274 = .ok (.i2l, 1) := by decide +kernel
theorem dL_law_275 : decode cL_law 275 = .ok (.lcmp, 1) := by decide +kernel
theorem dL_law_276 : decode cL_law 276 = .ok (.ifCond .eq 5, 3) := by decide +kernel
theorem dL_law_279 : decode cL_law 279 = .ok (.iconst 0, 1) := by decide +kernel
theorem dL_law_280 : decode cL_law 280 = .ok (.ireturn, 1) := by decide +kernel
theorem dL_law_281 : decode cL_law 281 = .ok (.goto 1111, 3) := by decide +kernel
theorem dL_law_284 : decode cL_law 284 = .ok (.aload_n 1, 1) := by decide +kernel
theorem dL_law_285 : decode cL_law 285 = .ok (.aload_n 0, 1) := by decide +kernel
theorem dL_law_286 : decode cL_law 286 = .ok (.iload 4, 2) := by decide +kernel
theorem dL_law_288 : decode cL_law 288 = .ok (.iconst 1, 1) := by decide +kernel
theorem dL_law_289 : decode cL_law 289 = .ok (.iadd, 1) := by decide +kernel
theorem dL_law_290 : decode cL_law 290 = .ok (.iaload, 1) := by decide +kernel
theorem dL_law_291 : decode cL_law 291 = .ok (.aload_n 3, 1) := by decide +kernel
theorem dL_law_292 : decode cL_law 292 = .ok (.invokestatic 89, 3) := by decide +kernel
theorem dL_law_295 : decode cL_law 295 = .ok (.istore 5, 2) := by decide +kernel
theorem dL_law_297 : decode cL_law 297 = .ok (.aload_n 2, 1) := by decide +kernel
theorem dL_law_298 : decode cL_law 298 = .ok (.aload_n 0, 1) := by decide +kernel
theorem dL_law_299 : decode cL_law 299 = .ok (.iload 4, 2) := by decide +kernel
theorem dL_law_301 : decode cL_law 301 = .ok (.iconst 1, 1) := by decide +kernel
theorem dL_law_302 : decode cL_law 302 = .ok (.iadd, 1) := by decide +kernel
theorem dL_law_303 : decode cL_law 303 = .ok (.iaload, 1) := by decide +kernel
theorem dL_law_304 : decode cL_law 304 = .ok (.invokevirtual 91, 3) := by decide +kernel
theorem dL_law_307 : decode cL_law 307 = .ok (.istore 6, 2) := by decide +kernel
theorem dL_law_309 : decode cL_law 309 = .ok (.aload_n 2, 1) := by decide +kernel
theorem dL_law_310 : decode cL_law 310 = .ok (.invokevirtual 82, 3) := by decide +kernel
theorem dL_law_313 : decode cL_law 313 = .ok (.iload 5, 2) := by decide +kernel
theorem dL_law_315 : decode cL_law 315 = .ok (.if_icmp .eq 5, 3) := by decide +kernel
theorem dL_law_318 : decode cL_law 318 = .ok (.iconst 0, 1) := by decide +kernel
theorem dL_law_319 : decode cL_law 319 = .ok (.ireturn, 1) := by decide +kernel
theorem dL_law_320 : decode cL_law 320 = .ok (.iload 5, 2) := by decide +kernel
theorem dL_law_322 : decode cL_law 322 = .ok (.ifCond .ne 15, 3) := by decide +kernel
theorem dL_law_325 : decode cL_law 325 = .ok (.aload_n 3, 1) := by decide +kernel
theorem dL_law_326 : decode cL_law 326 = .ok (.iconst 0, 1) := by decide +kernel
theorem dL_law_327 : decode cL_law 327 = .ok (.laload, 1) := by decide +kernel
theorem dL_law_328 : decode cL_law 328 = .ok (.iload 6, 2) := by decide +kernel
theorem dL_law_330 : decode cL_law 330 = .ok (.i2l, 1) := by decide +kernel
theorem dL_law_331 : decode cL_law 331 = .ok (.lcmp, 1) := by decide +kernel
theorem dL_law_332 : decode cL_law 332 = .ok (.ifCond .eq 5, 3) := by decide +kernel
theorem dL_law_335 : decode cL_law 335 = .ok (.iconst 0, 1) := by decide +kernel
theorem dL_law_336 : decode cL_law 336 = .ok (.ireturn, 1) := by decide +kernel
theorem dL_law_337 : decode cL_law 337 = .ok (.goto 1055, 3) := by decide +kernel
theorem dL_law_340 : decode cL_law 340 = .ok (.aload_n 1, 1) := by decide +kernel
theorem dL_law_341 : decode cL_law 341 = .ok (.aload_n 0, 1) := by decide +kernel
theorem dL_law_342 : decode cL_law 342 = .ok (.iload 4, 2) := by decide +kernel
theorem dL_law_344 : decode cL_law 344 = .ok (.iconst 1, 1) := by decide +kernel
theorem dL_law_345 : decode cL_law 345 = .ok (.iadd, 1) := by decide +kernel
theorem dL_law_346 : decode cL_law 346 = .ok (.iaload, 1) := by decide +kernel
theorem dL_law_347 : decode cL_law 347 = .ok (.aload_n 3, 1) := by decide +kernel
theorem dL_law_348 : decode cL_law 348 = .ok (.invokestatic 92, 3) := by decide +kernel
theorem dL_law_351 : decode cL_law 351 = .ok (.istore 5, 2) := by decide +kernel
theorem dL_law_353 : decode cL_law 353 = .ok (.aload_n 2, 1) := by decide +kernel
theorem dL_law_354 : decode cL_law 354 = .ok (.aload_n 0, 1) := by decide +kernel
theorem dL_law_355 : decode cL_law 355 = .ok (.iload 4, 2) := by decide +kernel
theorem dL_law_357 : decode cL_law 357 = .ok (.iconst 1, 1) := by decide +kernel
theorem dL_law_358 : decode cL_law 358 = .ok (.iadd, 1) := by decide +kernel
theorem dL_law_359 : decode cL_law 359 = .ok (.iaload, 1) := by decide +kernel
theorem dL_law_360 : decode cL_law 360 = .ok (.invokevirtual 94, 3) := by decide +kernel
theorem dL_law_363 : decode cL_law 363 = .ok (.istore 6, 2) := by decide +kernel
theorem dL_law_365 : decode cL_law 365 = .ok (.aload_n 2, 1) := by decide +kernel
theorem dL_law_366 : decode cL_law 366 = .ok (.invokevirtual 82, 3) := by decide +kernel
theorem dL_law_369 : decode cL_law 369 = .ok (.iload 5, 2) := by decide +kernel
theorem dL_law_371 : decode cL_law 371 = .ok (.if_icmp .eq 5, 3) := by decide +kernel
theorem dL_law_374 : decode cL_law 374 = .ok (.iconst 0, 1) := by decide +kernel
theorem dL_law_375 : decode cL_law 375 = .ok (.ireturn, 1) := by decide +kernel
theorem dL_law_376 : decode cL_law 376 = .ok (.iload 5, 2) := by decide +kernel
theorem dL_law_378 : decode cL_law 378 = .ok (.ifCond .ne 15, 3) := by decide +kernel
theorem dL_law_381 : decode cL_law 381 = .ok (.aload_n 3, 1) := by decide +kernel
theorem dL_law_382 : decode cL_law 382 = .ok (.iconst 0, 1) := by decide +kernel
theorem dL_law_383 : decode cL_law 383 = .ok (.laload, 1) := by decide +kernel
theorem dL_law_384 : decode cL_law 384 = .ok (.iload 6, 2) := by decide +kernel
theorem dL_law_386 : decode cL_law 386 = .ok (.i2l, 1) := by decide +kernel
theorem dL_law_387 : decode cL_law 387 = .ok (.lcmp, 1) := by decide +kernel
theorem dL_law_388 : decode cL_law 388 = .ok (.ifCond .eq 5, 3) := by decide +kernel
theorem dL_law_391 : decode cL_law 391 = .ok (.iconst 0, 1) := by decide +kernel
theorem dL_law_392 : decode cL_law 392 = .ok (.ireturn, 1) := by decide +kernel
theorem dL_law_393 : decode cL_law 393 = .ok (.goto 999, 3) := by decide +kernel
theorem dL_law_396 : decode cL_law 396 = .ok (.aload_n 1, 1) := by decide +kernel
theorem dL_law_397 : decode cL_law 397 = .ok (.aload_n 0, 1) := by decide +kernel
theorem dL_law_398 : decode cL_law 398 = .ok (.iload 4, 2) := by decide +kernel
theorem dL_law_400 : decode cL_law 400 = .ok (.iconst 1, 1) := by decide +kernel
theorem dL_law_401 : decode cL_law 401 = .ok (.iadd, 1) := by decide +kernel
theorem dL_law_402 : decode cL_law 402 = .ok (.iaload, 1) := by decide +kernel
theorem dL_law_403 : decode cL_law 403 = .ok (.aload_n 0, 1) := by decide +kernel
theorem dL_law_404 : decode cL_law 404 = .ok (.iload 4, 2) := by decide +kernel
theorem dL_law_406 : decode cL_law 406 = .ok (.iconst 2, 1) := by decide +kernel
theorem dL_law_407 : decode cL_law 407 = .ok (.iadd, 1) := by decide +kernel
theorem dL_law_408 : decode cL_law 408 = .ok (.iaload, 1) := by decide +kernel
theorem dL_law_409 : decode cL_law 409 = .ok (.aload_n 3, 1) := by decide +kernel
theorem dL_law_410 : decode cL_law 410 = .ok (.invokestatic 95, 3) := by decide +kernel
theorem dL_law_413 : decode cL_law 413 = .ok (.istore 5, 2) := by decide +kernel
theorem dL_law_415 : decode cL_law 415 = .ok (.aload_n 2, 1) := by decide +kernel
theorem dL_law_416 : decode cL_law 416 = .ok (.aload_n 0, 1) := by decide +kernel
theorem dL_law_417 : decode cL_law 417 = .ok (.iload 4, 2) := by decide +kernel
theorem dL_law_419 : decode cL_law 419 = .ok (.iconst 1, 1) := by decide +kernel
theorem dL_law_420 : decode cL_law 420 = .ok (.iadd, 1) := by decide +kernel
theorem dL_law_421 : decode cL_law 421 = .ok (.iaload, 1) := by decide +kernel
theorem dL_law_422 : decode cL_law 422 = .ok (.aload_n 0, 1) := by decide +kernel
theorem dL_law_423 : decode cL_law 423 = .ok (.iload 4, 2) := by decide +kernel
theorem dL_law_425 : decode cL_law 425 = .ok (.iconst 2, 1) := by decide +kernel
theorem dL_law_426 : decode cL_law 426 = .ok (.iadd, 1) := by decide +kernel
theorem dL_law_427 : decode cL_law 427 = .ok (.iaload, 1) := by decide +kernel
theorem dL_law_428 : decode cL_law 428 = .ok (.invokevirtual 97, 3) := by decide +kernel
theorem dL_law_431 : decode cL_law 431 = .ok (.istore 6, 2) := by decide +kernel
theorem dL_law_433 : decode cL_law 433 = .ok (.aload_n 2, 1) := by decide +kernel
theorem dL_law_434 : decode cL_law 434 = .ok (.invokevirtual 82, 3) := by decide +kernel
theorem dL_law_437 : decode cL_law 437 = .ok (.iload 5, 2) := by decide +kernel
theorem dL_law_439 : decode cL_law 439 = .ok (.if_icmp .eq 5, 3) := by decide +kernel
theorem dL_law_442 : decode cL_law 442 = .ok (.iconst 0, 1) := by decide +kernel
theorem dL_law_443 : decode cL_law 443 = .ok (.ireturn, 1) := by decide +kernel
theorem dL_law_444 : decode cL_law 444 = .ok (.iload 5, 2) := by decide +kernel
theorem dL_law_446 : decode cL_law 446 = .ok (.ifCond .ne 15, 3) := by decide +kernel
theorem dL_law_449 : decode cL_law 449 = .ok (.aload_n 3, 1) := by decide +kernel
theorem dL_law_450 : decode cL_law 450 = .ok (.iconst 0, 1) := by decide +kernel
theorem dL_law_451 : decode cL_law 451 = .ok (.laload, 1) := by decide +kernel
theorem dL_law_452 : decode cL_law 452 = .ok (.iload 6, 2) := by decide +kernel
theorem dL_law_454 : decode cL_law 454 = .ok (.i2l, 1) := by decide +kernel
theorem dL_law_455 : decode cL_law 455 = .ok (.lcmp, 1) := by decide +kernel
theorem dL_law_456 : decode cL_law 456 = .ok (.ifCond .eq 5, 3) := by decide +kernel
theorem dL_law_459 : decode cL_law 459 = .ok (.iconst 0, 1) := by decide +kernel
theorem dL_law_460 : decode cL_law 460 = .ok (.ireturn, 1) := by decide +kernel
theorem dL_law_461 : decode cL_law 461 = .ok (.goto 931, 3) := by decide +kernel
theorem dL_law_464 : decode cL_law 464 = .ok (.aload_n 1, 1) := by decide +kernel
theorem dL_law_465 : decode cL_law 465 = .ok (.aload_n 3, 1) := by decide +kernel
theorem dL_law_466 : decode cL_law 466 = .ok (.invokestatic 98, 3) := by decide +kernel
theorem dL_law_469 : decode cL_law 469 = .ok (.istore 5, 2) := by decide +kernel
theorem dL_law_471 : decode cL_law 471 = .ok (.aload_n 2, 1) := by decide +kernel
theorem dL_law_472 : decode cL_law 472 = .ok (.invokevirtual 101, 3) := by decide +kernel
theorem dL_law_475 : decode cL_law 475 = .ok (.istore 6, 2) := by decide +kernel
theorem dL_law_477 : decode cL_law 477 = .ok (.aload_n 2, 1) := by decide +kernel
theorem dL_law_478 : decode cL_law 478 = .ok (.invokevirtual 82, 3) := by decide +kernel
theorem dL_law_481 : decode cL_law 481 = .ok (.iload 5, 2) := by decide +kernel
theorem dL_law_483 : decode cL_law 483 = .ok (.if_icmp .eq 5, 3) := by decide +kernel
theorem dL_law_486 : decode cL_law 486 = .ok (.iconst 0, 1) := by decide +kernel
theorem dL_law_487 : decode cL_law 487 = .ok (.ireturn, 1) := by decide +kernel
theorem dL_law_488 : decode cL_law 488 = .ok (.iload 5, 2) := by decide +kernel
theorem dL_law_490 : decode cL_law 490 = .ok (.ifCond .ne 15, 3) := by decide +kernel
theorem dL_law_493 : decode cL_law 493 = .ok (.aload_n 3, 1) := by decide +kernel
theorem dL_law_494 : decode cL_law 494 = .ok (.iconst 0, 1) := by decide +kernel
theorem dL_law_495 : decode cL_law 495 = .ok (.laload, 1) := by decide +kernel
theorem dL_law_496 : decode cL_law 496 = .ok (.iload 6, 2) := by decide +kernel
theorem dL_law_498 : decode cL_law 498 = .ok (.i2l, 1) := by decide +kernel
theorem dL_law_499 : decode cL_law 499 = .ok (.lcmp, 1) := by decide +kernel
theorem dL_law_500 : decode cL_law 500 = .ok (.ifCond .eq 5, 3) := by decide +kernel
theorem dL_law_503 : decode cL_law 503 = .ok (.iconst 0, 1) := by decide +kernel
theorem dL_law_504 : decode cL_law 504 = .ok (.ireturn, 1) := by decide +kernel
theorem dL_law_505 : decode cL_law 505 = .ok (.goto 887, 3) := by decide +kernel
theorem dL_law_508 : decode cL_law 508 = .ok (.aload_n 1, 1) := by decide +kernel
theorem dL_law_509 : decode cL_law 509 = .ok (.aload_n 0, 1) := by decide +kernel
theorem dL_law_510 : decode cL_law 510 = .ok (.iload 4, 2) := by decide +kernel
theorem dL_law_512 : decode cL_law 512 = .ok (.iconst 1, 1) := by decide +kernel
theorem dL_law_513 : decode cL_law 513 = .ok (.iadd, 1) := by decide +kernel
theorem dL_law_514 : decode cL_law 514 = .ok (.iaload, 1) := by decide +kernel
theorem dL_law_515 : decode cL_law 515 = .ok (.aload_n 0, 1) := by decide +kernel
theorem dL_law_516 : decode cL_law 516 = .ok (.iload 4, 2) := by decide +kernel
theorem dL_law_518 : decode cL_law 518 = .ok (.iconst 2, 1) := by decide +kernel
theorem dL_law_519 : decode cL_law 519 = .ok (.iadd, 1) := by decide +kernel
theorem dL_law_520 : decode cL_law 520 = .ok (.iaload, 1) := by decide +kernel
theorem dL_law_521 : decode cL_law 521 = .ok (.aload_n 3, 1) := by decide +kernel
theorem dL_law_522 : decode cL_law 522 = .ok (.invokestatic 102, 3) := by decide +kernel
theorem dL_law_525 : decode cL_law 525 = .ok (.istore 5, 2) := by decide +kernel
theorem dL_law_527 : decode cL_law 527 = .ok (.aload_n 2, 1) := by decide +kernel
theorem dL_law_528 : decode cL_law 528 = .ok (.aload_n 0, 1) := by decide +kernel
theorem dL_law_529 : decode cL_law 529 = .ok (.iload 4, 2) := by decide +kernel
theorem dL_law_531 : decode cL_law 531 = .ok (.iconst 1, 1) := by decide +kernel
theorem dL_law_532 : decode cL_law 532 = .ok (.iadd, 1) := by decide +kernel
theorem dL_law_533 : decode cL_law 533 = .ok (.iaload, 1) := by decide +kernel
theorem dL_law_534 : decode cL_law 534 = .ok (.aload_n 0, 1) := by decide +kernel
theorem dL_law_535 : decode cL_law 535 = .ok (.iload 4, 2) := by decide +kernel
theorem dL_law_537 : decode cL_law 537 = .ok (.iconst 2, 1) := by decide +kernel
theorem dL_law_538 : decode cL_law 538 = .ok (.iadd, 1) := by decide +kernel
theorem dL_law_539 : decode cL_law 539 = .ok (.iaload, 1) := by decide +kernel
theorem dL_law_540 : decode cL_law 540 = .ok (.invokevirtual 104, 3) := by decide +kernel
theorem dL_law_543 : decode cL_law 543 = .ok (.istore 6, 2) := by decide +kernel
theorem dL_law_545 : decode cL_law 545 = .ok (.aload_n 2, 1) := by decide +kernel
theorem dL_law_546 : decode cL_law 546 = .ok (.invokevirtual 82, 3) := by decide +kernel
theorem dL_law_549 : decode cL_law 549 = .ok (.iload 5, 2) := by decide +kernel
theorem dL_law_551 : decode cL_law 551 = .ok (.if_icmp .eq 5, 3) := by decide +kernel
theorem dL_law_554 : decode cL_law 554 = .ok (.iconst 0, 1) := by decide +kernel
theorem dL_law_555 : decode cL_law 555 = .ok (.ireturn, 1) := by decide +kernel
theorem dL_law_556 : decode cL_law 556 = .ok (.iload 5, 2) := by decide +kernel
theorem dL_law_558 : decode cL_law 558 = .ok (.ifCond .ne 15, 3) := by decide +kernel
theorem dL_law_561 : decode cL_law 561 = .ok (.aload_n 3, 1) := by decide +kernel
theorem dL_law_562 : decode cL_law 562 = .ok (.iconst 0, 1) := by decide +kernel
theorem dL_law_563 : decode cL_law 563 = .ok (.laload, 1) := by decide +kernel
theorem dL_law_564 : decode cL_law 564 = .ok (.iload 6, 2) := by decide +kernel
theorem dL_law_566 : decode cL_law 566 = .ok (.i2l, 1) := by decide +kernel
theorem dL_law_567 : decode cL_law 567 = .ok (.lcmp, 1) := by decide +kernel
theorem dL_law_568 : decode cL_law 568 = .ok (.ifCond .eq 5, 3) := by decide +kernel
theorem dL_law_571 : decode cL_law 571 = .ok (.iconst 0, 1) := by decide +kernel
theorem dL_law_572 : decode cL_law 572 = .ok (.ireturn, 1) := by decide +kernel
theorem dL_law_573 : decode cL_law 573 = .ok (.goto 819, 3) := by decide +kernel
theorem dL_law_576 : decode cL_law 576 = .ok (.aload_n 1, 1) := by decide +kernel
theorem dL_law_577 : decode cL_law 577 = .ok (.aload_n 0, 1) := by decide +kernel
theorem dL_law_578 : decode cL_law 578 = .ok (.iload 4, 2) := by decide +kernel
theorem dL_law_580 : decode cL_law 580 = .ok (.iconst 1, 1) := by decide +kernel
theorem dL_law_581 : decode cL_law 581 = .ok (.iadd, 1) := by decide +kernel
theorem dL_law_582 : decode cL_law 582 = .ok (.iaload, 1) := by decide +kernel
theorem dL_law_583 : decode cL_law 583 = .ok (.aload_n 0, 1) := by decide +kernel
theorem dL_law_584 : decode cL_law 584 = .ok (.iload 4, 2) := by decide +kernel
theorem dL_law_586 : decode cL_law 586 = .ok (.iconst 2, 1) := by decide +kernel
theorem dL_law_587 : decode cL_law 587 = .ok (.iadd, 1) := by decide +kernel
theorem dL_law_588 : decode cL_law 588 = .ok (.iaload, 1) := by decide +kernel
theorem dL_law_589 : decode cL_law 589 = .ok (.aload_n 3, 1) := by decide +kernel
theorem dL_law_590 : decode cL_law 590 = .ok (.invokestatic 105, 3) := by decide +kernel
theorem dL_law_593 : decode cL_law 593 = .ok (.istore 5, 2) := by decide +kernel
theorem dL_law_595 : decode cL_law 595 = .ok (.aload_n 2, 1) := by decide +kernel
theorem dL_law_596 : decode cL_law 596 = .ok (.aload_n 0, 1) := by decide +kernel
theorem dL_law_597 : decode cL_law 597 = .ok (.iload 4, 2) := by decide +kernel
theorem dL_law_599 : decode cL_law 599 = .ok (.iconst 1, 1) := by decide +kernel
theorem dL_law_600 : decode cL_law 600 = .ok (.iadd, 1) := by decide +kernel
theorem dL_law_601 : decode cL_law 601 = .ok (.iaload, 1) := by decide +kernel
theorem dL_law_602 : decode cL_law 602 = .ok (.aload_n 0, 1) := by decide +kernel
theorem dL_law_603 : decode cL_law 603 = .ok (.iload 4, 2) := by decide +kernel
theorem dL_law_605 : decode cL_law 605 = .ok (.iconst 2, 1) := by decide +kernel
theorem dL_law_606 : decode cL_law 606 = .ok (.iadd, 1) := by decide +kernel
theorem dL_law_607 : decode cL_law 607 = .ok (.iaload, 1) := by decide +kernel
theorem dL_law_608 : decode cL_law 608 = .ok (.invokevirtual 107, 3) := by decide +kernel
theorem dL_law_611 : decode cL_law 611 = .ok (.istore 6, 2) := by decide +kernel
theorem dL_law_613 : decode cL_law 613 = .ok (.aload_n 2, 1) := by decide +kernel
theorem dL_law_614 : decode cL_law 614 = .ok (.invokevirtual 82, 3) := by decide +kernel
theorem dL_law_617 : decode cL_law 617 = .ok (.iload 5, 2) := by decide +kernel
theorem dL_law_619 : decode cL_law 619 = .ok (.if_icmp .eq 5, 3) := by decide +kernel
theorem dL_law_622 : decode cL_law 622 = .ok (.iconst 0, 1) := by decide +kernel
