theorem dX5_isAhead_18 : decode cX5_isAhead 18 = .ok (.iaload, 1) := by decide +kernel
theorem dX5_isAhead_19 : decode cX5_isAhead 19 = .ok (.aload_n 0, 1) := by decide +kernel
theorem dX5_isAhead_20 : decode cX5_isAhead 20 = .ok (.getfield 16, 3) := by decide +kernel
theorem dX5_isAhead_23 : decode cX5_isAhead 23 = .ok (.iload_n 1, 1) := by decide +kernel
theorem dX5_isAhead_24 : decode cX5_isAhead 24 = .ok (.iaload, 1) := by decide +kernel
theorem dX5_isAhead_25 : decode cX5_isAhead 25 = .ok (.if_icmp .ne 7, 3) := by decide +kernel
theorem dX5_isAhead_28 : decode cX5_isAhead 28 = .ok (.iconst 1, 1) := by decide +kernel
theorem dX5_isAhead_29 : decode cX5_isAhead 29 = .ok (.goto 4, 3) := by decide +kernel
theorem dX5_isAhead_32 : decode cX5_isAhead 32 = .ok (.iconst 0, 1) := by decide +kernel
theorem dX5_isAhead_33 : decode cX5_isAhead 33 = .ok (.istore_n 2, 1) := by decide +kernel
theorem dX5_isAhead_34 : decode cX5_isAhead 34 = .ok (.iinc 3 1, 3) := by decide +kernel
theorem dX5_isAhead_37 : decode cX5_isAhead 37 = .ok (.goto (-33), 3) := by decide +kernel
theorem dX5_isAhead_40 : decode cX5_isAhead 40 = .ok (.iload_n 2, 1) := by decide +kernel
theorem dX5_isAhead_41 : decode cX5_isAhead 41 = .ok (.ireturn, 1) := by decide +kernel
theorem dX5_isFault_0 : decode cX5_isFault 0 = .ok (.iload_n 2, 1) := by decide +kernel
theorem dX5_isFault_1 : decode cX5_isFault 1 = .ok (.tableswitch 70 2 4 #[27, 43, 64], 27) := by decide +kernel
theorem dX5_isFault_28 : decode cX5_isFault 28 = .ok (.aload_n 0, 1) := by decide +kernel
theorem dX5_isFault_29 : decode cX5_isFault 29 = .ok (.getfield 19, 3) := by decide +kernel
theorem dX5_isFault_32 : decode cX5_isFault 32 = .ok (.iload_n 1, 1) := by decide +kernel
theorem dX5_isFault_33 : decode cX5_isFault 33 = .ok (.iaload, 1) := by decide +kernel
theorem dX5_isFault_34 : decode cX5_isFault 34 = .ok (.iconst 1, 1) := by decide +kernel
theorem dX5_isFault_35 : decode cX5_isFault 35 = .ok (.if_icmp .ne 7, 3) := by decide +kernel
theorem dX5_isFault_38 : decode cX5_isFault 38 = .ok (.iconst 1, 1) := by decide +kernel
theorem dX5_isFault_39 : decode cX5_isFault 39 = .ok (.goto 4, 3) := by decide +kernel
theorem dX5_isFault_42 : decode cX5_isFault 42 = .ok (.iconst 0, 1) := by decide +kernel
theorem dX5_isFault_43 : decode cX5_isFault 43 = .ok (.ireturn, 1) := by decide +kernel
theorem dX5_isFault_44 : decode cX5_isFault 44 = .ok (.aload_n 0, 1) := by decide +kernel
theorem dX5_isFault_45 : decode cX5_isFault 45 = .ok (.getfield 16, 3) := by decide +kernel
theorem dX5_isFault_48 : decode cX5_isFault 48 = .ok (.iload_n 1, 1) := by decide +kernel
theorem dX5_isFault_49 : decode cX5_isFault 49 = .ok (.iaload, 1) := by decide +kernel
theorem dX5_isFault_50 : decode cX5_isFault 50 = .ok (.aload_n 0, 1) := by decide +kernel
theorem dX5_isFault_51 : decode cX5_isFault 51 = .ok (.getfield 7, 3) := by decide +kernel
theorem dX5_isFault_54 : decode cX5_isFault 54 = .ok (.iconst 0, 1) := by decide +kernel
theorem dX5_isFault_55 : decode cX5_isFault 55 = .ok (.iaload, 1) := by decide +kernel
theorem dX5_isFault_56 : decode cX5_isFault 56 = .ok (.if_icmp .lt 7, 3) := by decide +kernel
theorem dX5_isFault_59 : decode cX5_isFault 59 = .ok (.iconst 1, 1) := by decide +kernel
theorem dX5_isFault_60 : decode cX5_isFault 60 = .ok (.goto 4, 3) := by decide +kernel
theorem dX5_isFault_63 : decode cX5_isFault 63 = .ok (.iconst 0, 1) := by decide +kernel
theorem dX5_isFault_64 : decode cX5_isFault 64 = .ok (.ireturn, 1) := by decide +kernel
theorem dX5_isFault_65 : decode cX5_isFault 65 = .ok (.aload_n 0, 1) := by decide +kernel
theorem dX5_isFault_66 : decode cX5_isFault 66 = .ok (.iload_n 1, 1) := by decide +kernel
theorem dX5_isFault_67 : decode cX5_isFault 67 = .ok (.invokevirtual 44, 3) := by decide +kernel
theorem dX5_isFault_70 : decode cX5_isFault 70 = .ok (.ireturn, 1) := by decide +kernel
theorem dX5_isFault_71 : decode cX5_isFault 71 = .ok (.iload_n 1, 1) := by decide +kernel
theorem dX5_isFault_72 : decode cX5_isFault 72 = .ok (.ifCond .le 24, 3) := by decide +kernel
theorem dX5_isFault_75 : decode cX5_isFault 75 = .ok (.aload_n 0, 1) := by decide +kernel
theorem dX5_isFault_76 : decode cX5_isFault 76 = .ok (.getfield 16, 3) := by decide +kernel
theorem dX5_isFault_79 : decode cX5_isFault 79 = .ok (.iload_n 1, 1) := by decide +kernel
theorem dX5_isFault_80 : decode cX5_isFault 80 = .ok (.iaload, 1) := by decide +kernel
theorem dX5_isFault_81 : decode cX5_isFault 81 = .ok (.aload_n 0, 1) := by decide +kernel
theorem dX5_isFault_82 : decode cX5_isFault 82 = .ok (.getfield 16, 3) := by decide +kernel
theorem dX5_isFault_85 : decode cX5_isFault 85 = .ok (.iload_n 1, 1) := by decide +kernel
theorem dX5_isFault_86 : decode cX5_isFault 86 = .ok (.iconst 1, 1) := by decide +kernel
theorem dX5_isFault_87 : decode cX5_isFault 87 = .ok (.isub, 1) := by decide +kernel
theorem dX5_isFault_88 : decode cX5_isFault 88 = .ok (.iaload, 1) := by decide +kernel
theorem dX5_isFault_89 : decode cX5_isFault 89 = .ok (.if_icmp .ge 7, 3) := by decide +kernel
theorem dX5_isFault_92 : decode cX5_isFault 92 = .ok (.iconst 1, 1) := by decide +kernel
theorem dX5_isFault_93 : decode cX5_isFault 93 = .ok (.goto 4, 3) := by decide +kernel
theorem dX5_isFault_96 : decode cX5_isFault 96 = .ok (.iconst 0, 1) := by decide +kernel
theorem dX5_isFault_97 : decode cX5_isFault 97 = .ok (.ireturn, 1) := by decide +kernel
theorem dX5_placeOf_0 : decode cX5_placeOf 0 = .ok (.iconst 0, 1) := by decide +kernel
theorem dX5_placeOf_1 : decode cX5_placeOf 1 = .ok (.istore_n 2, 1) := by decide +kernel
theorem dX5_placeOf_2 : decode cX5_placeOf 2 = .ok (.iload_n 2, 1) := by decide +kernel
theorem dX5_placeOf_3 : decode cX5_placeOf 3 = .ok (.aload_n 0, 1) := by decide +kernel
theorem dX5_placeOf_4 : decode cX5_placeOf 4 = .ok (.getfield 33, 3) := by decide +kernel
theorem dX5_placeOf_7 : decode cX5_placeOf 7 = .ok (.if_icmp .ge 20, 3) := by decide +kernel
theorem dX5_placeOf_10 : decode cX5_placeOf 10 = .ok (.aload_n 0, 1) := by decide +kernel
theorem dX5_placeOf_11 : decode cX5_placeOf 11 = .ok (.iload_n 2, 1) := by decide +kernel
theorem dX5_placeOf_12 : decode cX5_placeOf 12 = .ok (.iload_n 1, 1) := by decide +kernel
theorem dX5_placeOf_13 : decode cX5_placeOf 13 = .ok (.invokevirtual 47, 3) := by decide +kernel
theorem dX5_placeOf_16 : decode cX5_placeOf 16 = .ok (.ifCond .eq 5, 3) := by decide +kernel
theorem dX5_placeOf_19 : decode cX5_placeOf 19 = .ok (.iload_n 2, 1) := by decide +kernel
theorem dX5_placeOf_20 : decode cX5_placeOf 20 = .ok (.ireturn, 1) := by decide +kernel
theorem dX5_placeOf_21 : decode cX5_placeOf 21 = .ok (.iinc 2 1, 3) := by decide +kernel
theorem dX5_placeOf_24 : decode cX5_placeOf 24 = .ok (.goto (-22), 3) := by decide +kernel
theorem dX5_placeOf_27 : decode cX5_placeOf 27 = .ok (.iconst (-1), 1) := by decide +kernel
theorem dX5_placeOf_28 : decode cX5_placeOf 28 = .ok (.ireturn, 1) := by decide +kernel
theorem dX5_missing_0 : decode cX5_missing 0 = .ok (.iconst 0, 1) := by decide +kernel
theorem dX5_missing_1 : decode cX5_missing 1 = .ok (.istore_n 1, 1) := by decide +kernel
theorem dX5_missing_2 : decode cX5_missing 2 = .ok (.iload_n 1, 1) := by decide +kernel
theorem dX5_missing_3 : decode cX5_missing 3 = .ok (.aload_n 0, 1) := by decide +kernel
theorem dX5_missing_4 : decode cX5_missing 4 = .ok (.getfield 7, 3) := by decide +kernel
theorem dX5_missing_7 : decode cX5_missing 7 = .ok (.iconst 0, 1) := by decide +kernel
theorem dX5_missing_8 : decode cX5_missing 8 = .ok (.iaload, 1) := by decide +kernel
theorem dX5_missing_9 : decode cX5_missing 9 = .ok (.if_icmp .ge 53, 3) := by decide +kernel
theorem dX5_missing_12 : decode cX5_missing 12 = .ok (.iconst 0, 1) := by decide +kernel
theorem dX5_missing_13 : decode cX5_missing 13 = .ok (.istore_n 2, 1) := by decide +kernel
theorem dX5_missing_14 : decode cX5_missing 14 = .ok (.iconst 0, 1) := by decide +kernel
theorem dX5_missing_15 : decode cX5_missing 15 = .ok (.istore_n 3, 1) := by decide +kernel
theorem dX5_missing_16 : decode cX5_missing 16 = .ok (.iload_n 3, 1) := by decide +kernel
theorem dX5_missing_17 : decode cX5_missing 17 = .ok (.aload_n 0, 1) := by decide +kernel
theorem dX5_missing_18 : decode cX5_missing 18 = .ok (.getfield 33, 3) := by decide +kernel
theorem dX5_missing_21 : decode cX5_missing 21 = .ok (.if_icmp .ge 29, 3) := by decide +kernel
theorem dX5_missing_24 : decode cX5_missing 24 = .ok (.iload_n 2, 1) := by decide +kernel
theorem dX5_missing_25 : decode cX5_missing 25 = .ok (.ifCond .ne 13, 3) := by decide +kernel
theorem dX5_missing_28 : decode cX5_missing 28 = .ok (.aload_n 0, 1) := by decide +kernel
theorem dX5_missing_29 : decode cX5_missing 29 = .ok (.getfield 16, 3) := by decide +kernel
theorem dX5_missing_32 : decode cX5_missing 32 = .ok (.iload_n 3, 1) := by decide +kernel
theorem dX5_missing_33 : decode cX5_missing 33 = .ok (.iaload, 1) := by decide +kernel
theorem dX5_missing_34 : decode cX5_missing 34 = .ok (.iload_n 1, 1) := by decide +kernel
theorem dX5_missing_35 : decode cX5_missing 35 = .ok (.if_icmp .ne 7, 3) := by decide +kernel
theorem dX5_missing_38 : decode cX5_missing 38 = .ok (.iconst 1, 1) := by decide +kernel
theorem dX5_missing_39 : decode cX5_missing 39 = .ok (.goto 4, 3) := by decide +kernel
theorem dX5_missing_42 : decode cX5_missing 42 = .ok (.iconst 0, 1) := by decide +kernel
theorem dX5_missing_43 : decode cX5_missing 43 = .ok (.istore_n 2, 1) := by decide +kernel
theorem dX5_missing_44 : decode cX5_missing 44 = .ok (.iinc 3 1, 3) := by decide +kernel
theorem dX5_missing_47 : decode cX5_missing 47 = .ok (.goto (-31), 3) := by decide +kernel
theorem dX5_missing_50 : decode cX5_missing 50 = .ok (.iload_n 2, 1) := by decide +kernel
theorem dX5_missing_51 : decode cX5_missing 51 = .ok (.ifCond .ne 5, 3) := by decide +kernel
theorem dX5_missing_54 : decode cX5_missing 54 = .ok (.iload_n 1, 1) := by decide +kernel
theorem dX5_missing_55 : decode cX5_missing 55 = .ok (.ireturn, 1) := by decide +kernel
theorem dX5_missing_56 : decode cX5_missing 56 = .ok (.iinc 1 1, 3) := by decide +kernel
theorem dX5_missing_59 : decode cX5_missing 59 = .ok (.goto (-57), 3) := by decide +kernel
theorem dX5_missing_62 : decode cX5_missing 62 = .ok (.iconst (-1), 1) := by decide +kernel
theorem dX5_missing_63 : decode cX5_missing 63 = .ok (.ireturn, 1) := by decide +kernel
theorem dX5_fault_0 : decode cX5_fault 0 = .ok (.aload_n 0, 1) := by decide +kernel
theorem dX5_fault_1 : decode cX5_fault 1 = .ok (.getfield 33, 3) := by decide +kernel
theorem dX5_fault_4 : decode cX5_fault 4 = .ok (.ifCond .ne 5, 3) := by decide +kernel
theorem dX5_fault_7 : decode cX5_fault 7 = .ok (.iconst 1, 1) := by decide +kernel
theorem dX5_fault_8 : decode cX5_fault 8 = .ok (.ireturn, 1) := by decide +kernel
theorem dX5_fault_9 : decode cX5_fault 9 = .ok (.iconst 2, 1) := by decide +kernel
theorem dX5_fault_10 : decode cX5_fault 10 = .ok (.istore_n 1, 1) := by decide +kernel
theorem dX5_fault_11 : decode cX5_fault 11 = .ok (.iload_n 1, 1) := by decide +kernel
theorem dX5_fault_12 : decode cX5_fault 12 = .ok (.bipush 7, 2) := by decide +kernel
theorem dX5_fault_14 : decode cX5_fault 14 = .ok (.if_icmp .ge 51, 3) := by decide +kernel
theorem dX5_fault_17 : decode cX5_fault 17 = .ok (.iload_n 1, 1) := by decide +kernel
theorem dX5_fault_18 : decode cX5_fault 18 = .ok (.iconst 5, 1) := by decide +kernel
theorem dX5_fault_19 : decode cX5_fault 19 = .ok (.if_icmp .ne 19, 3) := by decide +kernel
theorem dX5_fault_22 : decode cX5_fault 22 = .ok (.aload_n 0, 1) := by decide +kernel
theorem dX5_fault_23 : decode cX5_fault 23 = .ok (.invokevirtual 51, 3) := by decide +kernel
theorem dX5_fault_26 : decode cX5_fault 26 = .ok (.iconst (-1), 1) := by decide +kernel
theorem dX5_fault_27 : decode cX5_fault 27 = .ok (.if_icmp .eq 7, 3) := by decide +kernel
theorem dX5_fault_30 : decode cX5_fault 30 = .ok (.iconst 1, 1) := by decide +kernel
theorem dX5_fault_31 : decode cX5_fault 31 = .ok (.goto 21, 3) := by decide +kernel
theorem dX5_fault_34 : decode cX5_fault 34 = .ok (.iconst 0, 1) := by decide +kernel
theorem dX5_fault_35 : decode cX5_fault 35 = .ok (.goto 17, 3) := by decide +kernel
theorem dX5_fault_38 : decode cX5_fault 38 = .ok (.aload_n 0, 1) := by decide +kernel
theorem dX5_fault_39 : decode cX5_fault 39 = .ok (.iload_n 1, 1) := by decide +kernel
theorem dX5_fault_40 : decode cX5_fault 40 = .ok (.invokevirtual 55, 3) := by decide +kernel
theorem dX5_fault_43 : decode cX5_fault 43 = .ok (.iconst (-1), 1) := by decide +kernel
theorem dX5_fault_44 : decode cX5_fault 44 = .ok (.if_icmp .eq 7, 3) := by decide +kernel
theorem dX5_fault_47 : decode cX5_fault 47 = .ok (.iconst 1, 1) := by decide +kernel
theorem dX5_fault_48 : decode cX5_fault 48 = .ok (.goto 4, 3) := by decide +kernel
theorem dX5_fault_51 : decode cX5_fault 51 = .ok (.iconst 0, 1) := by decide +kernel
theorem dX5_fault_52 : decode cX5_fault 52 = .ok (.istore_n 2, 1) := by decide +kernel
theorem dX5_fault_53 : decode cX5_fault 53 = .ok (.iload_n 2, 1) := by decide +kernel
theorem dX5_fault_54 : decode cX5_fault 54 = .ok (.ifCond .eq 5, 3) := by decide +kernel
theorem dX5_fault_57 : decode cX5_fault 57 = .ok (.iload_n 1, 1) := by decide +kernel
theorem dX5_fault_58 : decode cX5_fault 58 = .ok (.ireturn, 1) := by decide +kernel
theorem dX5_fault_59 : decode cX5_fault 59 = .ok (.iinc 1 1, 3) := by decide +kernel
theorem dX5_fault_62 : decode cX5_fault 62 = .ok (.goto (-51), 3) := by decide +kernel
theorem dX5_fault_65 : decode cX5_fault 65 = .ok (.iconst 0, 1) := by decide +kernel
theorem dX5_fault_66 : decode cX5_fault 66 = .ok (.ireturn, 1) := by decide +kernel
theorem dX5_fewest_0 : decode cX5_fewest 0 = .ok (.iconst 0, 1) := by decide +kernel
theorem dX5_fewest_1 : decode cX5_fewest 1 = .ok (.istore_n 1, 1) := by decide +kernel
theorem dX5_fewest_2 : decode cX5_fewest 2 = .ok (.iconst 0, 1) := by decide +kernel
theorem dX5_fewest_3 : decode cX5_fewest 3 = .ok (.istore_n 2, 1) := by decide +kernel
theorem dX5_fewest_4 : decode cX5_fewest 4 = .ok (.iload_n 2, 1) := by decide +kernel
theorem dX5_fewest_5 : decode cX5_fewest 5 = .ok (.aload_n 0, 1) := by decide +kernel
theorem dX5_fewest_6 : decode cX5_fewest 6 = .ok (.getfield 33, 3) := by decide +kernel
theorem dX5_fewest_9 : decode cX5_fewest 9 = .ok (.if_icmp .ge 103, 3) := by decide +kernel
theorem dX5_fewest_12 : decode cX5_fewest 12 = .ok (.aload_n 0, 1) := by decide +kernel
theorem dX5_fewest_13 : decode cX5_fewest 13 = .ok (.getfield 22, 3) := by decide +kernel
theorem dX5_fewest_16 : decode cX5_fewest 16 = .ok (.iload_n 2, 1) := by decide +kernel
theorem dX5_fewest_17 : decode cX5_fewest 17 = .ok (.iconst 1, 1) := by decide +kernel
theorem dX5_fewest_18 : decode cX5_fewest 18 = .ok (.iastore, 1) := by decide +kernel
theorem dX5_fewest_19 : decode cX5_fewest 19 = .ok (.iconst 0, 1) := by decide +kernel
theorem dX5_fewest_20 : decode cX5_fewest 20 = .ok (.istore_n 3, 1) := by decide +kernel
theorem dX5_fewest_21 : decode cX5_fewest 21 = .ok (.iload_n 3, 1) := by decide +kernel
theorem dX5_fewest_22 : decode cX5_fewest 22 = .ok (.iload_n 2, 1) := by decide +kernel
theorem dX5_fewest_23 : decode cX5_fewest 23 = .ok (.if_icmp .ge 62, 3) := by decide +kernel
theorem dX5_fewest_26 : decode cX5_fewest 26 = .ok (.aload_n 0, 1) := by decide +kernel
theorem dX5_fewest_27 : decode cX5_fewest 27 = .ok (.getfield 22, 3) := by decide +kernel
theorem dX5_fewest_30 : decode cX5_fewest 30 = .ok (.iload_n 2, 1) := by decide +kernel
theorem dX5_fewest_31 : decode cX5_fewest 31 = .ok (.aload_n 0, 1) := by decide +kernel
theorem dX5_fewest_32 : decode cX5_fewest 32 = .ok (.getfield 16, 3) := by decide +kernel
theorem dX5_fewest_35 : decode cX5_fewest 35 = .ok (.iload_n 3, 1) := by decide +kernel
theorem dX5_fewest_36 : decode cX5_fewest 36 = .ok (.iaload, 1) := by decide +kernel
theorem dX5_fewest_37 : decode cX5_fewest 37 = .ok (.aload_n 0, 1) := by decide +kernel
theorem dX5_fewest_38 : decode cX5_fewest 38 = .ok (.getfield 16, 3) := by decide +kernel
theorem dX5_fewest_41 : decode cX5_fewest 41 = .ok (.iload_n 2, 1) := by decide +kernel
theorem dX5_fewest_42 : decode cX5_fewest 42 = .ok (.iaload, 1) := by decide +kernel
theorem dX5_fewest_43 : decode cX5_fewest 43 = .ok (.if_icmp .gt 29, 3) := by decide +kernel
theorem dX5_fewest_46 : decode cX5_fewest 46 = .ok (.aload_n 0, 1) := by decide +kernel
theorem dX5_fewest_47 : decode cX5_fewest 47 = .ok (.getfield 22, 3) := by decide +kernel
theorem dX5_fewest_50 : decode cX5_fewest 50 = .ok (.iload_n 3, 1) := by decide +kernel
theorem dX5_fewest_51 : decode cX5_fewest 51 = .ok (.iaload, 1) := by decide +kernel
theorem dX5_fewest_52 : decode cX5_fewest 52 = .ok (.aload_n 0, 1) := by decide +kernel
theorem dX5_fewest_53 : decode cX5_fewest 53 = .ok (.getfield 22, 3) := by decide +kernel
theorem dX5_fewest_56 : decode cX5_fewest 56 = .ok (.iload_n 2, 1) := by decide +kernel
theorem dX5_fewest_57 : decode cX5_fewest 57 = .ok (.iaload, 1) := by decide +kernel
theorem dX5_fewest_58 : decode cX5_fewest 58 = .ok (.if_icmp .lt 14, 3) := by decide +kernel
theorem dX5_fewest_61 : decode cX5_fewest 61 = .ok (.aload_n 0, 1) := by decide +kernel
theorem dX5_fewest_62 : decode cX5_fewest 62 = .ok (.getfield 22, 3) := by decide +kernel
theorem dX5_fewest_65 : decode cX5_fewest 65 = .ok (.iload_n 3, 1) := by decide +kernel
theorem dX5_fewest_66 : decode cX5_fewest 66 = .ok (.iaload, 1) := by decide +kernel
theorem dX5_fewest_67 : decode cX5_fewest 67 = .ok (.iconst 1, 1) := by decide +kernel
theorem dX5_fewest_68 : decode cX5_fewest 68 = .ok (.iadd, 1) := by decide +kernel
theorem dX5_fewest_69 : decode cX5_fewest 69 = .ok (.goto 9, 3) := by decide +kernel
theorem dX5_fewest_72 : decode cX5_fewest 72 = .ok (.aload_n 0, 1) := by decide +kernel
theorem dX5_fewest_73 : decode cX5_fewest 73 = .ok (.getfield 22, 3) := by decide +kernel
theorem dX5_fewest_76 : decode cX5_fewest 76 = .ok (.iload_n 2, 1) := by decide +kernel
theorem dX5_fewest_77 : decode cX5_fewest 77 = .ok (.iaload, 1) := by decide +kernel
theorem dX5_fewest_78 : decode cX5_fewest 78 = .ok (.iastore, 1) := by decide +kernel
theorem dX5_fewest_79 : decode cX5_fewest 79 = .ok (.iinc 3 1, 3) := by decide +kernel
theorem dX5_fewest_82 : decode cX5_fewest 82 = .ok (.goto (-61), 3) := by decide +kernel
theorem dX5_fewest_85 : decode cX5_fewest 85 = .ok (.aload_n 0, 1) := by decide +kernel
theorem dX5_fewest_86 : decode cX5_fewest 86 = .ok (.getfield 22, 3) := by decide +kernel
theorem dX5_fewest_89 : decode cX5_fewest 89 = .ok (.iload_n 2, 1) := by decide +kernel
theorem dX5_fewest_90 : decode cX5_fewest 90 = .ok (.iaload, 1) := by decide +kernel
theorem dX5_fewest_91 : decode cX5_fewest 91 = .ok (.iload_n 1, 1) := by decide +kernel
theorem dX5_fewest_92 : decode cX5_fewest 92 = .ok (.if_icmp .le 12, 3) := by decide +kernel
theorem dX5_fewest_95 : decode cX5_fewest 95 = .ok (.aload_n 0, 1) := by decide +kernel
theorem dX5_fewest_96 : decode cX5_fewest 96 = .ok (.getfield 22, 3) := by decide +kernel
theorem dX5_fewest_99 : decode cX5_fewest 99 = .ok (.iload_n 2, 1) := by decide +kernel
theorem dX5_fewest_100 : decode cX5_fewest 100 = .ok (.iaload, 1) := by decide +kernel
theorem dX5_fewest_101 : decode cX5_fewest 101 = .ok (.goto 4, 3) := by decide +kernel
theorem dX5_fewest_104 : decode cX5_fewest 104 = .ok (.iload_n 1, 1) := by decide +kernel
theorem dX5_fewest_105 : decode cX5_fewest 105 = .ok (.istore_n 1, 1) := by decide +kernel
theorem dX5_fewest_106 : decode cX5_fewest 106 = .ok (.iinc 2 1, 3) := by decide +kernel
theorem dX5_fewest_109 : decode cX5_fewest 109 = .ok (.goto (-105), 3) := by decide +kernel
theorem dX5_fewest_112 : decode cX5_fewest 112 = .ok (.aload_n 0, 1) := by decide +kernel
theorem dX5_fewest_113 : decode cX5_fewest 113 = .ok (.getfield 33, 3) := by decide +kernel
theorem dX5_fewest_116 : decode cX5_fewest 116 = .ok (.iload_n 1, 1) := by decide +kernel
theorem dX5_fewest_117 : decode cX5_fewest 117 = .ok (.isub, 1) := by decide +kernel
theorem dX5_fewest_118 : decode cX5_fewest 118 = .ok (.ireturn, 1) := by decide +kernel
theorem dX5_greaterAhead_0 : decode cX5_greaterAhead 0 = .ok (.iconst 0, 1) := by decide +kernel
theorem dX5_greaterAhead_1 : decode cX5_greaterAhead 1 = .ok (.istore_n 2, 1) := by decide +kernel
theorem dX5_greaterAhead_2 : decode cX5_greaterAhead 2 = .ok (.iconst 0, 1) := by decide +kernel
theorem dX5_greaterAhead_3 : decode cX5_greaterAhead 3 = .ok (.istore_n 3, 1) := by decide +kernel
theorem dX5_greaterAhead_4 : decode cX5_greaterAhead 4 = .ok (.iload_n 3, 1) := by decide +kernel
theorem dX5_greaterAhead_5 : decode cX5_greaterAhead 5 = .ok (.iload_n 1, 1) := by decide +kernel
theorem dX5_greaterAhead_6 : decode cX5_greaterAhead 6 = .ok (.if_icmp .ge 32, 3) := by decide +kernel
theorem dX5_greaterAhead_9 : decode cX5_greaterAhead 9 = .ok (.iload_n 2, 1) := by decide +kernel
theorem dX5_greaterAhead_10 : decode cX5_greaterAhead 10 = .ok (.aload_n 0, 1) := by decide +kernel
theorem dX5_greaterAhead_11 : decode cX5_greaterAhead 11 = .ok (.getfield 16, 3) := by decide +kernel
theorem dX5_greaterAhead_14 : decode cX5_greaterAhead 14 = .ok (.iload_n 3, 1) := by decide +kernel
theorem dX5_greaterAhead_15 : decode cX5_greaterAhead 15 = .ok (.iaload, 1) := by decide +kernel
theorem dX5_greaterAhead_16 : decode cX5_greaterAhead 16 = .ok (.aload_n 0, 1) := by decide +kernel
theorem dX5_greaterAhead_17 : decode cX5_greaterAhead 17 = .ok (.getfield 16, 3) := by decide +kernel
theorem dX5_greaterAhead_20 : decode cX5_greaterAhead 20 = .ok (.iload_n 1, 1) := by decide +kernel
theorem dX5_greaterAhead_21 : decode cX5_greaterAhead 21 = .ok (.iaload, 1) := by decide +kernel
theorem dX5_greaterAhead_22 : decode cX5_greaterAhead 22 = .ok (.if_icmp .le 7, 3) := by decide +kernel
theorem dX5_greaterAhead_25 : decode cX5_greaterAhead 25 = .ok (.iconst 1, 1) := by decide +kernel
theorem dX5_greaterAhead_26 : decode cX5_greaterAhead 26 = .ok (.goto 4, 3) := by decide +kernel
theorem dX5_greaterAhead_29 : decode cX5_greaterAhead 29 = .ok (.iconst 0, 1) := by decide +kernel
theorem dX5_greaterAhead_30 : decode cX5_greaterAhead 30 = .ok (.iadd, 1) := by decide +kernel
theorem dX5_greaterAhead_31 : decode cX5_greaterAhead 31 = .ok (.istore_n 2, 1) := by decide +kernel
theorem dX5_greaterAhead_32 : decode cX5_greaterAhead 32 = .ok (.iinc 3 1, 3) := by decide +kernel
theorem dX5_greaterAhead_35 : decode cX5_greaterAhead 35 = .ok (.goto (-31), 3) := by decide +kernel
theorem dX5_greaterAhead_38 : decode cX5_greaterAhead 38 = .ok (.iload_n 2, 1) := by decide +kernel
theorem dX5_greaterAhead_39 : decode cX5_greaterAhead 39 = .ok (.ireturn, 1) := by decide +kernel
theorem dX5_pairs_0 : decode cX5_pairs 0 = .ok (.iconst 0, 1) := by decide +kernel
theorem dX5_pairs_1 : decode cX5_pairs 1 = .ok (.istore_n 1, 1) := by decide +kernel
theorem dX5_pairs_2 : decode cX5_pairs 2 = .ok (.iconst 0, 1) := by decide +kernel
theorem dX5_pairs_3 : decode cX5_pairs 3 = .ok (.istore_n 2, 1) := by decide +kernel
theorem dX5_pairs_4 : decode cX5_pairs 4 = .ok (.iload_n 2, 1) := by decide +kernel
theorem dX5_pairs_5 : decode cX5_pairs 5 = .ok (.aload_n 0, 1) := by decide +kernel
theorem dX5_pairs_6 : decode cX5_pairs 6 = .ok (.getfield 33, 3) := by decide +kernel
theorem dX5_pairs_9 : decode cX5_pairs 9 = .ok (.if_icmp .ge 17, 3) := by decide +kernel
theorem dX5_pairs_12 : decode cX5_pairs 12 = .ok (.iload_n 1, 1) := by decide +kernel
theorem dX5_pairs_13 : decode cX5_pairs 13 = .ok (.aload_n 0, 1) := by decide +kernel
theorem dX5_pairs_14 : decode cX5_pairs 14 = .ok (.iload_n 2, 1) := by decide +kernel
theorem dX5_pairs_15 : decode cX5_pairs 15 = .ok (.invokevirtual 59, 3) := by decide +kernel
theorem dX5_pairs_18 : decode cX5_pairs 18 = .ok (.iadd, 1) := by decide +kernel
theorem dX5_pairs_19 : decode cX5_pairs 19 = .ok (.istore_n 1, 1) := by decide +kernel
theorem dX5_pairs_20 : decode cX5_pairs 20 = .ok (.iinc 2 1, 3) := by decide +kernel
theorem dX5_pairs_23 : decode cX5_pairs 23 = .ok (.goto (-19), 3) := by decide +kernel
theorem dX5_pairs_26 : decode cX5_pairs 26 = .ok (.iload_n 1, 1) := by decide +kernel
theorem dX5_pairs_27 : decode cX5_pairs 27 = .ok (.ireturn, 1) := by decide +kernel
theorem dX5_stitchesAt_0 : decode cX5_stitchesAt 0 = .ok (.iload_n 1, 1) := by decide +kernel
theorem dX5_stitchesAt_1 : decode cX5_stitchesAt 1 = .ok (.ifCond .ne 7, 3) := by decide +kernel
theorem dX5_stitchesAt_4 : decode cX5_stitchesAt 4 = .ok (.iconst 0, 1) := by decide +kernel
theorem dX5_stitchesAt_5 : decode cX5_stitchesAt 5 = .ok (.goto 34, 3) := by decide +kernel
theorem dX5_stitchesAt_8 : decode cX5_stitchesAt 8 = .ok (.aload_n 0, 1) := by decide +kernel
theorem dX5_stitchesAt_9 : decode cX5_stitchesAt 9 = .ok (.getfield 7, 3) := by decide +kernel
theorem dX5_stitchesAt_12 : decode cX5_stitchesAt 12 = .ok (.bipush 54, 2) := by decide +kernel
theorem dX5_stitchesAt_14 : decode cX5_stitchesAt 14 = .ok (.aload_n 0, 1) := by decide +kernel
theorem dX5_stitchesAt_15 : decode cX5_stitchesAt 15 = .ok (.getfield 16, 3) := by decide +kernel
theorem dX5_stitchesAt_18 : decode cX5_stitchesAt 18 = .ok (.iload_n 1, 1) := by decide +kernel
theorem dX5_stitchesAt_19 : decode cX5_stitchesAt 19 = .ok (.iconst 1, 1) := by decide +kernel
theorem dX5_stitchesAt_20 : decode cX5_stitchesAt 20 = .ok (.isub, 1) := by decide +kernel
theorem dX5_stitchesAt_21 : decode cX5_stitchesAt 21 = .ok (.iaload, 1) := by decide +kernel
theorem dX5_stitchesAt_22 : decode cX5_stitchesAt 22 = .ok (.iadd, 1) := by decide +kernel
theorem dX5_stitchesAt_23 : decode cX5_stitchesAt 23 = .ok (.iaload, 1) := by decide +kernel
theorem dX5_stitchesAt_24 : decode cX5_stitchesAt 24 = .ok (.aload_n 0, 1) := by decide +kernel
theorem dX5_stitchesAt_25 : decode cX5_stitchesAt 25 = .ok (.getfield 7, 3) := by decide +kernel
theorem dX5_stitchesAt_28 : decode cX5_stitchesAt 28 = .ok (.bipush 54, 2) := by decide +kernel
theorem dX5_stitchesAt_30 : decode cX5_stitchesAt 30 = .ok (.aload_n 0, 1) := by decide +kernel
theorem dX5_stitchesAt_31 : decode cX5_stitchesAt 31 = .ok (.getfield 16, 3) := by decide +kernel
theorem dX5_stitchesAt_34 : decode cX5_stitchesAt 34 = .ok (.iload_n 1, 1) := by decide +kernel
theorem dX5_stitchesAt_35 : decode cX5_stitchesAt 35 = .ok (.iaload, 1) := by decide +kernel
theorem dX5_stitchesAt_36 : decode cX5_stitchesAt 36 = .ok (.iadd, 1) := by decide +kernel
theorem dX5_stitchesAt_37 : decode cX5_stitchesAt 37 = .ok (.iaload, 1) := by decide +kernel
theorem dX5_stitchesAt_38 : decode cX5_stitchesAt 38 = .ok (.iand, 1) := by decide +kernel
theorem dX5_stitchesAt_39 : decode cX5_stitchesAt 39 = .ok (.istore_n 2, 1) := by decide +kernel
theorem dX5_stitchesAt_40 : decode cX5_stitchesAt 40 = .ok (.iconst 0, 1) := by decide +kernel
theorem dX5_stitchesAt_41 : decode cX5_stitchesAt 41 = .ok (.istore_n 3, 1) := by decide +kernel
theorem dX5_stitchesAt_42 : decode cX5_stitchesAt 42 = .ok (.iconst 0, 1) := by decide +kernel
theorem dX5_stitchesAt_43 : decode cX5_stitchesAt 43 = .ok (.istore 4, 2) := by decide +kernel
theorem dX5_stitchesAt_45 : decode cX5_stitchesAt 45 = .ok (.iload 4, 2) := by decide +kernel
theorem dX5_stitchesAt_47 : decode cX5_stitchesAt 47 = .ok (.iconst 5, 1) := by decide +kernel
theorem dX5_stitchesAt_48 : decode cX5_stitchesAt 48 = .ok (.if_icmp .ge 18, 3) := by decide +kernel
theorem dX5_stitchesAt_51 : decode cX5_stitchesAt 51 = .ok (.iload_n 3, 1) := by decide +kernel
theorem dX5_stitchesAt_52 : decode cX5_stitchesAt 52 = .ok (.iload_n 2, 1) := by decide +kernel
theorem dX5_stitchesAt_53 : decode cX5_stitchesAt 53 = .ok (.iload 4, 2) := by decide +kernel
theorem dX5_stitchesAt_55 : decode cX5_stitchesAt 55 = .ok (.ishr, 1) := by decide +kernel
theorem dX5_stitchesAt_56 : decode cX5_stitchesAt 56 = .ok (.iconst 1, 1) := by decide +kernel
theorem dX5_stitchesAt_57 : decode cX5_stitchesAt 57 = .ok (.iand, 1) := by decide +kernel
theorem dX5_stitchesAt_58 : decode cX5_stitchesAt 58 = .ok (.iadd, 1) := by decide +kernel
theorem dX5_stitchesAt_59 : decode cX5_stitchesAt 59 = .ok (.istore_n 3, 1) := by decide +kernel
theorem dX5_stitchesAt_60 : decode cX5_stitchesAt 60 = .ok (.iinc 4 1, 3) := by decide +kernel
theorem dX5_stitchesAt_63 : decode cX5_stitchesAt 63 = .ok (.goto (-18), 3) := by decide +kernel
theorem dX5_stitchesAt_66 : decode cX5_stitchesAt 66 = .ok (.iload_n 3, 1) := by decide +kernel
theorem dX5_stitchesAt_67 : decode cX5_stitchesAt 67 = .ok (.ireturn, 1) := by decide +kernel
theorem dX5_stitches_0 : decode cX5_stitches 0 = .ok (.iconst 0, 1) := by decide +kernel
theorem dX5_stitches_1 : decode cX5_stitches 1 = .ok (.istore_n 1, 1) := by decide +kernel
theorem dX5_stitches_2 : decode cX5_stitches 2 = .ok (.iconst 1, 1) := by decide +kernel
theorem dX5_stitches_3 : decode cX5_stitches 3 = .ok (.istore_n 2, 1) := by decide +kernel
theorem dX5_stitches_4 : decode cX5_stitches 4 = .ok (.iload_n 2, 1) := by decide +kernel
theorem dX5_stitches_5 : decode cX5_stitches 5 = .ok (.aload_n 0, 1) := by decide +kernel
theorem dX5_stitches_6 : decode cX5_stitches 6 = .ok (.getfield 33, 3) := by decide +kernel
theorem dX5_stitches_9 : decode cX5_stitches 9 = .ok (.if_icmp .ge 17, 3) := by decide +kernel
theorem dX5_stitches_12 : decode cX5_stitches 12 = .ok (.iload_n 1, 1) := by decide +kernel
theorem dX5_stitches_13 : decode cX5_stitches 13 = .ok (.aload_n 0, 1) := by decide +kernel
theorem dX5_stitches_14 : decode cX5_stitches 14 = .ok (.iload_n 2, 1) := by decide +kernel
theorem dX5_stitches_15 : decode cX5_stitches 15 = .ok (.invokevirtual 62, 3) := by decide +kernel
theorem dX5_stitches_18 : decode cX5_stitches 18 = .ok (.iadd, 1) := by decide +kernel
theorem dX5_stitches_19 : decode cX5_stitches 19 = .ok (.istore_n 1, 1) := by decide +kernel
theorem dX5_stitches_20 : decode cX5_stitches 20 = .ok (.iinc 2 1, 3) := by decide +kernel
theorem dX5_stitches_23 : decode cX5_stitches 23 = .ok (.goto (-19), 3) := by decide +kernel
theorem dX5_stitches_26 : decode cX5_stitches 26 = .ok (.iload_n 1, 1) := by decide +kernel
theorem dX5_stitches_27 : decode cX5_stitches 27 = .ok (.ireturn, 1) := by decide +kernel
theorem dX5_loose_0 : decode cX5_loose 0 = .ok (.iconst 0, 1) := by decide +kernel
theorem dX5_loose_1 : decode cX5_loose 1 = .ok (.istore_n 1, 1) := by decide +kernel
theorem dX5_loose_2 : decode cX5_loose 2 = .ok (.iconst 1, 1) := by decide +kernel
theorem dX5_loose_3 : decode cX5_loose 3 = .ok (.istore_n 2, 1) := by decide +kernel
theorem dX5_loose_4 : decode cX5_loose 4 = .ok (.iload_n 2, 1) := by decide +kernel
theorem dX5_loose_5 : decode cX5_loose 5 = .ok (.aload_n 0, 1) := by decide +kernel
theorem dX5_loose_6 : decode cX5_loose 6 = .ok (.getfield 33, 3) := by decide +kernel
theorem dX5_loose_9 : decode cX5_loose 9 = .ok (.if_icmp .ge 25, 3) := by decide +kernel
theorem dX5_loose_12 : decode cX5_loose 12 = .ok (.iload_n 1, 1) := by decide +kernel
theorem dX5_loose_13 : decode cX5_loose 13 = .ok (.aload_n 0, 1) := by decide +kernel
theorem dX5_loose_14 : decode cX5_loose 14 = .ok (.iload_n 2, 1) := by decide +kernel
theorem dX5_loose_15 : decode cX5_loose 15 = .ok (.invokevirtual 62, 3) := by decide +kernel
theorem dX5_loose_18 : decode cX5_loose 18 = .ok (.ifCond .ne 7, 3) := by decide +kernel
theorem dX5_loose_21 : decode cX5_loose 21 = .ok (.iconst 1, 1) := by decide +kernel
theorem dX5_loose_22 : decode cX5_loose 22 = .ok (.goto 4, 3) := by decide +kernel
theorem dX5_loose_25 : decode cX5_loose 25 = .ok (.iconst 0, 1) := by decide +kernel
theorem dX5_loose_26 : decode cX5_loose 26 = .ok (.iadd, 1) := by decide +kernel
theorem dX5_loose_27 : decode cX5_loose 27 = .ok (.istore_n 1, 1) := by decide +kernel
theorem dX5_loose_28 : decode cX5_loose 28 = .ok (.iinc 2 1, 3) := by decide +kernel
theorem dX5_loose_31 : decode cX5_loose 31 = .ok (.goto (-27), 3) := by decide +kernel
theorem dX5_loose_34 : decode cX5_loose 34 = .ok (.iload_n 1, 1) := by decide +kernel
theorem dX5_loose_35 : decode cX5_loose 35 = .ok (.ireturn, 1) := by decide +kernel
theorem dX5_span_0 : decode cX5_span 0 = .ok (.iconst 0, 1) := by decide +kernel
theorem dX5_span_1 : decode cX5_span 1 = .ok (.istore_n 1, 1) := by decide +kernel
theorem dX5_span_2 : decode cX5_span 2 = .ok (.iconst 4, 1) := by decide +kernel
theorem dX5_span_3 : decode cX5_span 3 = .ok (.istore_n 2, 1) := by decide +kernel
theorem dX5_span_4 : decode cX5_span 4 = .ok (.iload_n 0, 1) := by decide +kernel
theorem dX5_span_5 : decode cX5_span 5 = .ok (.iload_n 1, 1) := by decide +kernel
theorem dX5_span_6 : decode cX5_span 6 = .ok (.ishr, 1) := by decide +kernel
theorem dX5_span_7 : decode cX5_span 7 = .ok (.iconst 1, 1) := by decide +kernel
theorem dX5_span_8 : decode cX5_span 8 = .ok (.iand, 1) := by decide +kernel
theorem dX5_span_9 : decode cX5_span 9 = .ok (.ifCond .ne 9, 3) := by decide +kernel
theorem dX5_span_12 : decode cX5_span 12 = .ok (.iinc 1 1, 3) := by decide +kernel
theorem dX5_span_15 : decode cX5_span 15 = .ok (.goto (-11), 3) := by decide +kernel
theorem dX5_span_18 : decode cX5_span 18 = .ok (.iload_n 0, 1) := by decide +kernel
theorem dX5_span_19 : decode cX5_span 19 = .ok (.iload_n 2, 1) := by decide +kernel
theorem dX5_span_20 : decode cX5_span 20 = .ok (.ishr, 1) := by decide +kernel
theorem dX5_span_21 : decode cX5_span 21 = .ok (.iconst 1, 1) := by decide +kernel
theorem dX5_span_22 : decode cX5_span 22 = .ok (.iand, 1) := by decide +kernel
theorem dX5_span_23 : decode cX5_span 23 = .ok (.ifCond .ne 9, 3) := by decide +kernel
theorem dX5_span_26 : decode cX5_span 26 = .ok (.iinc 2 (-1), 3) := by decide +kernel
theorem dX5_span_29 : decode cX5_span 29 = .ok (.goto (-11), 3) := by decide +kernel
theorem dX5_span_32 : decode cX5_span 32 = .ok (.iload_n 2, 1) := by decide +kernel
theorem dX5_span_33 : decode cX5_span 33 = .ok (.iload_n 1, 1) := by decide +kernel
theorem dX5_span_34 : decode cX5_span 34 = .ok (.isub, 1) := by decide +kernel
theorem dX5_span_35 : decode cX5_span 35 = .ok (.ireturn, 1) := by decide +kernel
theorem dX5_thread_0 : decode cX5_thread 0 = .ok (.aload_n 0, 1) := by decide +kernel
theorem dX5_thread_1 : decode cX5_thread 1 = .ok (.getfield 7, 3) := by decide +kernel
theorem dX5_thread_4 : decode cX5_thread 4 = .ok (.iconst 2, 1) := by decide +kernel
theorem dX5_thread_5 : decode cX5_thread 5 = .ok (.iaload, 1) := by decide +kernel
theorem dX5_thread_6 : decode cX5_thread 6 = .ok (.aload_n 0, 1) := by decide +kernel
theorem dX5_thread_7 : decode cX5_thread 7 = .ok (.invokevirtual 65, 3) := by decide +kernel
theorem dX5_thread_10 : decode cX5_thread 10 = .ok (.imul, 1) := by decide +kernel
theorem dX5_thread_11 : decode cX5_thread 11 = .ok (.istore_n 1, 1) := by decide +kernel
theorem dX5_thread_12 : decode cX5_thread 12 = .ok (.iconst 0, 1) := by decide +kernel
theorem dX5_thread_13 : decode cX5_thread 13 = .ok (.istore_n 2, 1) := by decide +kernel
theorem dX5_thread_14 : decode cX5_thread 14 = .ok (.iload_n 2, 1) := by decide +kernel
theorem dX5_thread_15 : decode cX5_thread 15 = .ok (.aload_n 0, 1) := by decide +kernel
theorem dX5_thread_16 : decode cX5_thread 16 = .ok (.getfield 33, 3) := by decide +kernel
theorem dX5_thread_19 : decode cX5_thread 19 = .ok (.if_icmp .ge 29, 3) := by decide +kernel
theorem dX5_thread_22 : decode cX5_thread 22 = .ok (.iload_n 1, 1) := by decide +kernel
theorem dX5_thread_23 : decode cX5_thread 23 = .ok (.aload_n 0, 1) := by decide +kernel
theorem dX5_thread_24 : decode cX5_thread 24 = .ok (.getfield 7, 3) := by decide +kernel
theorem dX5_thread_27 : decode cX5_thread 27 = .ok (.bipush 54, 2) := by decide +kernel
theorem dX5_thread_29 : decode cX5_thread 29 = .ok (.aload_n 0, 1) := by decide +kernel
theorem dX5_thread_30 : decode cX5_thread 30 = .ok (.getfield 16, 3) := by decide +kernel
theorem dX5_thread_33 : decode cX5_thread 33 = .ok (.iload_n 2, 1) := by decide +kernel
theorem dX5_thread_34 : decode cX5_thread 34 = .ok (.iaload, 1) := by decide +kernel
theorem dX5_thread_35 : decode cX5_thread 35 = .ok (.iadd, 1) := by decide +kernel
theorem dX5_thread_36 : decode cX5_thread 36 = .ok (.iaload, 1) := by decide +kernel
theorem dX5_thread_37 : decode cX5_thread 37 = .ok (.invokestatic 68, 3) := by decide +kernel
theorem dX5_thread_40 : decode cX5_thread 40 = .ok (.iadd, 1) := by decide +kernel
theorem dX5_thread_41 : decode cX5_thread 41 = .ok (.istore_n 1, 1) := by decide +kernel
theorem dX5_thread_42 : decode cX5_thread 42 = .ok (.iinc 2 1, 3) := by decide +kernel
theorem dX5_thread_45 : decode cX5_thread 45 = .ok (.goto (-31), 3) := by decide +kernel
theorem dX5_thread_48 : decode cX5_thread 48 = .ok (.iload_n 1, 1) := by decide +kernel
theorem dX5_thread_49 : decode cX5_thread 49 = .ok (.ireturn, 1) := by decide +kernel
theorem dX5_canGather_0 : decode cX5_canGather 0 = .ok (.aload_n 0, 1) := by decide +kernel
theorem dX5_canGather_1 : decode cX5_canGather 1 = .ok (.getfield 7, 3) := by decide +kernel
theorem dX5_canGather_4 : decode cX5_canGather 4 = .ok (.bipush 6, 2) := by decide +kernel
theorem dX5_canGather_6 : decode cX5_canGather 6 = .ok (.iload_n 1, 1) := by decide +kernel
theorem dX5_canGather_7 : decode cX5_canGather 7 = .ok (.iadd, 1) := by decide +kernel
theorem dX5_canGather_8 : decode cX5_canGather 8 = .ok (.iaload, 1) := by decide +kernel
theorem dX5_canGather_9 : decode cX5_canGather 9 = .ok (.ifCond .le 18, 3) := by decide +kernel
theorem dX5_canGather_12 : decode cX5_canGather 12 = .ok (.aload_n 0, 1) := by decide +kernel
theorem dX5_canGather_13 : decode cX5_canGather 13 = .ok (.getfield 7, 3) := by decide +kernel
theorem dX5_canGather_16 : decode cX5_canGather 16 = .ok (.iconst 3, 1) := by decide +kernel
theorem dX5_canGather_17 : decode cX5_canGather 17 = .ok (.iaload, 1) := by decide +kernel
theorem dX5_canGather_18 : decode cX5_canGather 18 = .ok (.bipush 20, 2) := by decide +kernel
theorem dX5_canGather_20 : decode cX5_canGather 20 = .ok (.if_icmp .ge 7, 3) := by decide +kernel
theorem dX5_canGather_23 : decode cX5_canGather 23 = .ok (.iconst 1, 1) := by decide +kernel
theorem dX5_canGather_24 : decode cX5_canGather 24 = .ok (.goto 4, 3) := by decide +kernel
theorem dX5_canGather_27 : decode cX5_canGather 27 = .ok (.iconst 0, 1) := by decide +kernel
theorem dX5_canGather_28 : decode cX5_canGather 28 = .ok (.ireturn, 1) := by decide +kernel
theorem dX5_inserts_0 : decode cX5_inserts 0 = .ok (.aload_n 0, 1) := by decide +kernel
theorem dX5_inserts_1 : decode cX5_inserts 1 = .ok (.getfield 7, 3) := by decide +kernel
theorem dX5_inserts_4 : decode cX5_inserts 4 = .ok (.iconst 3, 1) := by decide +kernel
theorem dX5_inserts_5 : decode cX5_inserts 5 = .ok (.iaload, 1) := by decide +kernel
theorem dX5_inserts_6 : decode cX5_inserts 6 = .ok (.istore_n 3, 1) := by decide +kernel
theorem dX5_inserts_7 : decode cX5_inserts 7 = .ok (.iload_n 3, 1) := by decide +kernel
theorem dX5_inserts_8 : decode cX5_inserts 8 = .ok (.iload_n 1, 1) := by decide +kernel
theorem dX5_inserts_9 : decode cX5_inserts 9 = .ok (.if_icmp .le 49, 3) := by decide +kernel
theorem dX5_inserts_12 : decode cX5_inserts 12 = .ok (.aload_n 0, 1) := by decide +kernel
theorem dX5_inserts_13 : decode cX5_inserts 13 = .ok (.getfield 7, 3) := by decide +kernel
theorem dX5_inserts_16 : decode cX5_inserts 16 = .ok (.bipush 70, 2) := by decide +kernel
theorem dX5_inserts_18 : decode cX5_inserts 18 = .ok (.iload_n 3, 1) := by decide +kernel
theorem dX5_inserts_19 : decode cX5_inserts 19 = .ok (.iadd, 1) := by decide +kernel
theorem dX5_inserts_20 : decode cX5_inserts 20 = .ok (.aload_n 0, 1) := by decide +kernel
theorem dX5_inserts_21 : decode cX5_inserts 21 = .ok (.getfield 7, 3) := by decide +kernel
theorem dX5_inserts_24 : decode cX5_inserts 24 = .ok (.bipush 70, 2) := by decide +kernel
theorem dX5_inserts_26 : decode cX5_inserts 26 = .ok (.iload_n 3, 1) := by decide +kernel
theorem dX5_inserts_27 : decode cX5_inserts 27 = .ok (.iadd, 1) := by decide +kernel
theorem dX5_inserts_28 : decode cX5_inserts 28 = .ok (.iconst 1, 1) := by decide +kernel
theorem dX5_inserts_29 : decode cX5_inserts 29 = .ok (.isub, 1) := by decide +kernel
theorem dX5_inserts_30 : decode cX5_inserts 30 = .ok (.iaload, 1) := by decide +kernel
theorem dX5_inserts_31 : decode cX5_inserts 31 = .ok (.iastore, 1) := by decide +kernel
theorem dX5_inserts_32 : decode cX5_inserts 32 = .ok (.aload_n 0, 1) := by decide +kernel
theorem dX5_inserts_33 : decode cX5_inserts 33 = .ok (.getfield 7, 3) := by decide +kernel
theorem dX5_inserts_36 : decode cX5_inserts 36 = .ok (.bipush 90, 2) := by decide +kernel
theorem dX5_inserts_38 : decode cX5_inserts 38 = .ok (.iload_n 3, 1) := by decide +kernel
theorem dX5_inserts_39 : decode cX5_inserts 39 = .ok (.iadd, 1) := by decide +kernel
theorem dX5_inserts_40 : decode cX5_inserts 40 = .ok (.aload_n 0, 1) := by decide +kernel
theorem dX5_inserts_41 : decode cX5_inserts 41 = .ok (.getfield 7, 3) := by decide +kernel
theorem dX5_inserts_44 : decode cX5_inserts 44 = .ok (.bipush 90, 2) := by decide +kernel
theorem dX5_inserts_46 : decode cX5_inserts 46 = .ok (.iload_n 3, 1) := by decide +kernel
theorem dX5_inserts_47 : decode cX5_inserts 47 = .ok (.iadd, 1) := by decide +kernel
theorem dX5_inserts_48 : decode cX5_inserts 48 = .ok (.iconst 1, 1) := by decide +kernel
theorem dX5_inserts_49 : decode cX5_inserts 49 = .ok (.isub, 1) := by decide +kernel
theorem dX5_inserts_50 : decode cX5_inserts 50 = .ok (.iaload, 1) := by decide +kernel
theorem dX5_inserts_51 : decode cX5_inserts 51 = .ok (.iastore, 1) := by decide +kernel
theorem dX5_inserts_52 : decode cX5_inserts 52 = .ok (.iinc 3 (-1), 3) := by decide +kernel
theorem dX5_inserts_55 : decode cX5_inserts 55 = .ok (.goto (-48), 3) := by decide +kernel
theorem dX5_inserts_58 : decode cX5_inserts 58 = .ok (.aload_n 0, 1) := by decide +kernel
theorem dX5_inserts_59 : decode cX5_inserts 59 = .ok (.getfield 7, 3) := by decide +kernel
theorem dX5_inserts_62 : decode cX5_inserts 62 = .ok (.bipush 70, 2) := by decide +kernel
theorem dX5_inserts_64 : decode cX5_inserts 64 = .ok (.iload_n 1, 1) := by decide +kernel
theorem dX5_inserts_65 : decode cX5_inserts 65 = .ok (.iadd, 1) := by decide +kernel
theorem dX5_inserts_66 : decode cX5_inserts 66 = .ok (.iload_n 2, 1) := by decide +kernel
theorem dX5_inserts_67 : decode cX5_inserts 67 = .ok (.iastore, 1) := by decide +kernel
theorem dX5_inserts_68 : decode cX5_inserts 68 = .ok (.aload_n 0, 1) := by decide +kernel
theorem dX5_inserts_69 : decode cX5_inserts 69 = .ok (.getfield 7, 3) := by decide +kernel
theorem dX5_inserts_72 : decode cX5_inserts 72 = .ok (.bipush 90, 2) := by decide +kernel
theorem dX5_inserts_74 : decode cX5_inserts 74 = .ok (.iload_n 1, 1) := by decide +kernel
theorem dX5_inserts_75 : decode cX5_inserts 75 = .ok (.iadd, 1) := by decide +kernel
theorem dX5_inserts_76 : decode cX5_inserts 76 = .ok (.iconst 0, 1) := by decide +kernel
theorem dX5_inserts_77 : decode cX5_inserts 77 = .ok (.iastore, 1) := by decide +kernel
theorem dX5_inserts_78 : decode cX5_inserts 78 = .ok (.aload_n 0, 1) := by decide +kernel
theorem dX5_inserts_79 : decode cX5_inserts 79 = .ok (.getfield 7, 3) := by decide +kernel
theorem dX5_inserts_82 : decode cX5_inserts 82 = .ok (.bipush 6, 2) := by decide +kernel
theorem dX5_inserts_84 : decode cX5_inserts 84 = .ok (.iload_n 2, 1) := by decide +kernel
theorem dX5_inserts_85 : decode cX5_inserts 85 = .ok (.iadd, 1) := by decide +kernel
theorem dX5_inserts_86 : decode cX5_inserts 86 = .ok (.dup2, 1) := by decide +kernel
theorem dX5_inserts_87 : decode cX5_inserts 87 = .ok (.iaload, 1) := by decide +kernel
theorem dX5_inserts_88 : decode cX5_inserts 88 = .ok (.iconst 1, 1) := by decide +kernel
theorem dX5_inserts_89 : decode cX5_inserts 89 = .ok (.isub, 1) := by decide +kernel
theorem dX5_inserts_90 : decode cX5_inserts 90 = .ok (.iastore, 1) := by decide +kernel
theorem dX5_inserts_91 : decode cX5_inserts 91 = .ok (.aload_n 0, 1) := by decide +kernel
theorem dX5_inserts_92 : decode cX5_inserts 92 = .ok (.getfield 7, 3) := by decide +kernel
theorem dX5_inserts_95 : decode cX5_inserts 95 = .ok (.iconst 3, 1) := by decide +kernel
theorem dX5_inserts_96 : decode cX5_inserts 96 = .ok (.dup2, 1) := by decide +kernel
theorem dX5_inserts_97 : decode cX5_inserts 97 = .ok (.iaload, 1) := by decide +kernel
theorem dX5_inserts_98 : decode cX5_inserts 98 = .ok (.iconst 1, 1) := by decide +kernel
theorem dX5_inserts_99 : decode cX5_inserts 99 = .ok (.iadd, 1) := by decide +kernel
theorem dX5_inserts_100 : decode cX5_inserts 100 = .ok (.iastore, 1) := by decide +kernel
theorem dX5_inserts_101 : decode cX5_inserts 101 = .ok (.aload_n 0, 1) := by decide +kernel
theorem dX5_inserts_102 : decode cX5_inserts 102 = .ok (.getfield 7, 3) := by decide +kernel
theorem dX5_inserts_105 : decode cX5_inserts 105 = .ok (.iconst 3, 1) := by decide +kernel
theorem dX5_inserts_106 : decode cX5_inserts 106 = .ok (.iaload, 1) := by decide +kernel
theorem dX5_inserts_107 : decode cX5_inserts 107 = .ok (.ireturn, 1) := by decide +kernel
theorem dX5_pulls_0 : decode cX5_pulls 0 = .ok (.aload_n 0, 1) := by decide +kernel
theorem dX5_pulls_1 : decode cX5_pulls 1 = .ok (.getfield 7, 3) := by decide +kernel
theorem dX5_pulls_4 : decode cX5_pulls 4 = .ok (.bipush 70, 2) := by decide +kernel
theorem dX5_pulls_6 : decode cX5_pulls 6 = .ok (.iload_n 1, 1) := by decide +kernel
theorem dX5_pulls_7 : decode cX5_pulls 7 = .ok (.iadd, 1) := by decide +kernel
theorem dX5_pulls_8 : decode cX5_pulls 8 = .ok (.iaload, 1) := by decide +kernel
theorem dX5_pulls_9 : decode cX5_pulls 9 = .ok (.istore_n 2, 1) := by decide +kernel
theorem dX5_pulls_10 : decode cX5_pulls 10 = .ok (.aload_n 0, 1) := by decide +kernel
theorem dX5_pulls_11 : decode cX5_pulls 11 = .ok (.getfield 7, 3) := by decide +kernel
theorem dX5_pulls_14 : decode cX5_pulls 14 = .ok (.iconst 3, 1) := by decide +kernel
theorem dX5_pulls_15 : decode cX5_pulls 15 = .ok (.dup2, 1) := by decide +kernel
theorem dX5_pulls_16 : decode cX5_pulls 16 = .ok (.iaload, 1) := by decide +kernel
theorem dX5_pulls_17 : decode cX5_pulls 17 = .ok (.iconst 1, 1) := by decide +kernel
theorem dX5_pulls_18 : decode cX5_pulls 18 = .ok (.isub, 1) := by decide +kernel
theorem dX5_pulls_19 : decode cX5_pulls 19 = .ok (.iastore, 1) := by decide +kernel
theorem dX5_pulls_20 : decode cX5_pulls 20 = .ok (.iload_n 1, 1) := by decide +kernel
theorem dX5_pulls_21 : decode cX5_pulls 21 = .ok (.istore_n 3, 1) := by decide +kernel
theorem dX5_pulls_22 : decode cX5_pulls 22 = .ok (.iload_n 3, 1) := by decide +kernel
theorem dX5_pulls_23 : decode cX5_pulls 23 = .ok (.aload_n 0, 1) := by decide +kernel
theorem dX5_pulls_24 : decode cX5_pulls 24 = .ok (.getfield 7, 3) := by decide +kernel
theorem dX5_pulls_27 : decode cX5_pulls 27 = .ok (.iconst 3, 1) := by decide +kernel
theorem dX5_pulls_28 : decode cX5_pulls 28 = .ok (.iaload, 1) := by decide +kernel
theorem dX5_pulls_29 : decode cX5_pulls 29 = .ok (.if_icmp .ge 49, 3) := by decide +kernel
theorem dX5_pulls_32 : decode cX5_pulls 32 = .ok (.aload_n 0, 1) := by decide +kernel
theorem dX5_pulls_33 : decode cX5_pulls 33 = .ok (.getfield 7, 3) := by decide +kernel
theorem dX5_pulls_36 : decode cX5_pulls 36 = .ok (.bipush 70, 2) := by decide +kernel
theorem dX5_pulls_38 : decode cX5_pulls 38 = .ok (.iload_n 3, 1) := by decide +kernel
theorem dX5_pulls_39 : decode cX5_pulls 39 = .ok (.iadd, 1) := by decide +kernel
theorem dX5_pulls_40 : decode cX5_pulls 40 = .ok (.aload_n 0, 1) := by decide +kernel
theorem dX5_pulls_41 : decode cX5_pulls 41 = .ok (.getfield 7, 3) := by decide +kernel
theorem dX5_pulls_44 : decode cX5_pulls 44 = .ok (.bipush 70, 2) := by decide +kernel
theorem dX5_pulls_46 : decode cX5_pulls 46 = .ok (.iload_n 3, 1) := by decide +kernel
theorem dX5_pulls_47 : decode cX5_pulls 47 = .ok (.iadd, 1) := by decide +kernel
theorem dX5_pulls_48 : decode cX5_pulls 48 = .ok (.iconst 1, 1) := by decide +kernel
theorem dX5_pulls_49 : decode cX5_pulls 49 = .ok (.iadd, 1) := by decide +kernel
theorem dX5_pulls_50 : decode cX5_pulls 50 = .ok (.iaload, 1) := by decide +kernel
theorem dX5_pulls_51 : decode cX5_pulls 51 = .ok (.iastore, 1) := by decide +kernel
theorem dX5_pulls_52 : decode cX5_pulls 52 = .ok (.aload_n 0, 1) := by decide +kernel
theorem dX5_pulls_53 : decode cX5_pulls 53 = .ok (.getfield 7, 3) := by decide +kernel
theorem dX5_pulls_56 : decode cX5_pulls 56 = .ok (.bipush 90, 2) := by decide +kernel
theorem dX5_pulls_58 : decode cX5_pulls 58 = .ok (.iload_n 3, 1) := by decide +kernel
theorem dX5_pulls_59 : decode cX5_pulls 59 = .ok (.iadd, 1) := by decide +kernel
theorem dX5_pulls_60 : decode cX5_pulls 60 = .ok (.aload_n 0, 1) := by decide +kernel
theorem dX5_pulls_61 : decode cX5_pulls 61 = .ok (.getfield 7, 3) := by decide +kernel
theorem dX5_pulls_64 : decode cX5_pulls 64 = .ok (.bipush 90, 2) := by decide +kernel
theorem dX5_pulls_66 : decode cX5_pulls 66 = .ok (.iload_n 3, 1) := by decide +kernel
theorem dX5_pulls_67 : decode cX5_pulls 67 = .ok (.iadd, 1) := by decide +kernel
theorem dX5_pulls_68 : decode cX5_pulls 68 = .ok (.iconst 1, 1) := by decide +kernel
theorem dX5_pulls_69 : decode cX5_pulls 69 = .ok (.iadd, 1) := by decide +kernel
theorem dX5_pulls_70 : decode cX5_pulls 70 = .ok (.iaload, 1) := by decide +kernel
theorem dX5_pulls_71 : decode cX5_pulls 71 = .ok (.iastore, 1) := by decide +kernel
theorem dX5_pulls_72 : decode cX5_pulls 72 = .ok (.iinc 3 1, 3) := by decide +kernel
theorem dX5_pulls_75 : decode cX5_pulls 75 = .ok (.goto (-53), 3) := by decide +kernel
theorem dX5_pulls_78 : decode cX5_pulls 78 = .ok (.aload_n 0, 1) := by decide +kernel
theorem dX5_pulls_79 : decode cX5_pulls 79 = .ok (.getfield 7, 3) := by decide +kernel
theorem dX5_pulls_82 : decode cX5_pulls 82 = .ok (.bipush 6, 2) := by decide +kernel
theorem dX5_pulls_84 : decode cX5_pulls 84 = .ok (.iload_n 2, 1) := by decide +kernel
theorem dX5_pulls_85 : decode cX5_pulls 85 = .ok (.iadd, 1) := by decide +kernel
theorem dX5_pulls_86 : decode cX5_pulls 86 = .ok (.dup2, 1) := by decide +kernel
theorem dX5_pulls_87 : decode cX5_pulls 87 = .ok (.iaload, 1) := by decide +kernel
theorem dX5_pulls_88 : decode cX5_pulls 88 = .ok (.iconst 1, 1) := by decide +kernel
theorem dX5_pulls_89 : decode cX5_pulls 89 = .ok (.iadd, 1) := by decide +kernel
theorem dX5_pulls_90 : decode cX5_pulls 90 = .ok (.iastore, 1) := by decide +kernel
theorem dX5_pulls_91 : decode cX5_pulls 91 = .ok (.iload_n 2, 1) := by decide +kernel
theorem dX5_pulls_92 : decode cX5_pulls 92 = .ok (.ireturn, 1) := by decide +kernel
theorem dX5_flips_0 : decode cX5_flips 0 = .ok (.aload_n 0, 1) := by decide +kernel
theorem dX5_flips_1 : decode cX5_flips 1 = .ok (.getfield 7, 3) := by decide +kernel
theorem dX5_flips_4 : decode cX5_flips 4 = .ok (.bipush 90, 2) := by decide +kernel
theorem dX5_flips_6 : decode cX5_flips 6 = .ok (.iload_n 1, 1) := by decide +kernel
theorem dX5_flips_7 : decode cX5_flips 7 = .ok (.iadd, 1) := by decide +kernel
theorem dX5_flips_8 : decode cX5_flips 8 = .ok (.iconst 1, 1) := by decide +kernel
theorem dX5_flips_9 : decode cX5_flips 9 = .ok (.aload_n 0, 1) := by decide +kernel
theorem dX5_flips_10 : decode cX5_flips 10 = .ok (.getfield 7, 3) := by decide +kernel
theorem dX5_flips_13 : decode cX5_flips 13 = .ok (.bipush 90, 2) := by decide +kernel
theorem dX5_flips_15 : decode cX5_flips 15 = .ok (.iload_n 1, 1) := by decide +kernel
theorem dX5_flips_16 : decode cX5_flips 16 = .ok (.iadd, 1) := by decide +kernel
theorem dX5_flips_17 : decode cX5_flips 17 = .ok (.iaload, 1) := by decide +kernel
theorem dX5_flips_18 : decode cX5_flips 18 = .ok (.isub, 1) := by decide +kernel
theorem dX5_flips_19 : decode cX5_flips 19 = .ok (.iastore, 1) := by decide +kernel
theorem dX5_flips_20 : decode cX5_flips 20 = .ok (.aload_n 0, 1) := by decide +kernel
theorem dX5_flips_21 : decode cX5_flips 21 = .ok (.aload_n 0, 1) := by decide +kernel
theorem dX5_flips_22 : decode cX5_flips 22 = .ok (.getfield 7, 3) := by decide +kernel
theorem dX5_flips_25 : decode cX5_flips 25 = .ok (.bipush 70, 2) := by decide +kernel
theorem dX5_flips_27 : decode cX5_flips 27 = .ok (.iload_n 1, 1) := by decide +kernel
theorem dX5_flips_28 : decode cX5_flips 28 = .ok (.iadd, 1) := by decide +kernel
theorem dX5_flips_29 : decode cX5_flips 29 = .ok (.iaload, 1) := by decide +kernel
theorem dX5_flips_30 : decode cX5_flips 30 = .ok (.aload_n 0, 1) := by decide +kernel
theorem dX5_flips_31 : decode cX5_flips 31 = .ok (.getfield 7, 3) := by decide +kernel
theorem dX5_flips_34 : decode cX5_flips 34 = .ok (.bipush 90, 2) := by decide +kernel
theorem dX5_flips_36 : decode cX5_flips 36 = .ok (.iload_n 1, 1) := by decide +kernel
theorem dX5_flips_37 : decode cX5_flips 37 = .ok (.iadd, 1) := by decide +kernel
theorem dX5_flips_38 : decode cX5_flips 38 = .ok (.iaload, 1) := by decide +kernel
theorem dX5_flips_39 : decode cX5_flips 39 = .ok (.invokevirtual 36, 3) := by decide +kernel
theorem dX5_flips_42 : decode cX5_flips 42 = .ok (.ireturn, 1) := by decide +kernel
theorem dX5_moves_0 : decode cX5_moves 0 = .ok (.aload_n 0, 1) := by decide +kernel
theorem dX5_moves_1 : decode cX5_moves 1 = .ok (.getfield 7, 3) := by decide +kernel
theorem dX5_moves_4 : decode cX5_moves 4 = .ok (.bipush 70, 2) := by decide +kernel
theorem dX5_moves_6 : decode cX5_moves 6 = .ok (.iload_n 1, 1) := by decide +kernel
theorem dX5_moves_7 : decode cX5_moves 7 = .ok (.iadd, 1) := by decide +kernel
theorem dX5_moves_8 : decode cX5_moves 8 = .ok (.iaload, 1) := by decide +kernel
theorem dX5_moves_9 : decode cX5_moves 9 = .ok (.istore_n 3, 1) := by decide +kernel
theorem dX5_moves_10 : decode cX5_moves 10 = .ok (.aload_n 0, 1) := by decide +kernel
theorem dX5_moves_11 : decode cX5_moves 11 = .ok (.getfield 7, 3) := by decide +kernel
theorem dX5_moves_14 : decode cX5_moves 14 = .ok (.bipush 90, 2) := by decide +kernel
theorem dX5_moves_16 : decode cX5_moves 16 = .ok (.iload_n 1, 1) := by decide +kernel
theorem dX5_moves_17 : decode cX5_moves 17 = .ok (.iadd, 1) := by decide +kernel
theorem dX5_moves_18 : decode cX5_moves 18 = .ok (.iaload, 1) := by decide +kernel
theorem dX5_moves_19 : decode cX5_moves 19 = .ok (.istore 4, 2) := by decide +kernel
theorem dX5_moves_21 : decode cX5_moves 21 = .ok (.iload_n 2, 1) := by decide +kernel
theorem dX5_moves_22 : decode cX5_moves 22 = .ok (.iload_n 1, 1) := by decide +kernel
theorem dX5_moves_23 : decode cX5_moves 23 = .ok (.if_icmp .le 7, 3) := by decide +kernel
theorem dX5_moves_26 : decode cX5_moves 26 = .ok (.iconst 1, 1) := by decide +kernel
theorem dX5_moves_27 : decode cX5_moves 27 = .ok (.goto 4, 3) := by decide +kernel
theorem dX5_moves_30 : decode cX5_moves 30 = .ok (.iconst (-1), 1) := by decide +kernel
theorem dX5_moves_31 : decode cX5_moves 31 = .ok (.istore 5, 2) := by decide +kernel
theorem dX5_moves_33 : decode cX5_moves 33 = .ok (.iload_n 1, 1) := by decide +kernel
theorem dX5_moves_34 : decode cX5_moves 34 = .ok (.istore 6, 2) := by decide +kernel
theorem dX5_moves_36 : decode cX5_moves 36 = .ok (.iload 6, 2) := by decide +kernel
theorem dX5_moves_38 : decode cX5_moves 38 = .ok (.iload_n 2, 1) := by decide +kernel
theorem dX5_moves_39 : decode cX5_moves 39 = .ok (.if_icmp .eq 59, 3) := by decide +kernel
theorem dX5_moves_42 : decode cX5_moves 42 = .ok (.aload_n 0, 1) := by decide +kernel
theorem dX5_moves_43 : decode cX5_moves 43 = .ok (.getfield 7, 3) := by decide +kernel
theorem dX5_moves_46 : decode cX5_moves 46 = .ok (.bipush 70, 2) := by decide +kernel
theorem dX5_moves_48 : decode cX5_moves 48 = .ok (.iload 6, 2) := by decide +kernel
theorem dX5_moves_50 : decode cX5_moves 50 = .ok (.iadd, 1) := by decide +kernel
theorem dX5_moves_51 : decode cX5_moves 51 = .ok (.aload_n 0, 1) := by decide +kernel
theorem dX5_moves_52 : decode cX5_moves 52 = .ok (.getfield 7, 3) := by decide +kernel
theorem dX5_moves_55 : decode cX5_moves 55 = .ok (.bipush 70, 2) := by decide +kernel
theorem dX5_moves_57 : decode cX5_moves 57 = .ok (.iload 6, 2) := by decide +kernel
theorem dX5_moves_59 : decode cX5_moves 59 = .ok (.iadd, 1) := by decide +kernel
theorem dX5_moves_60 : decode cX5_moves 60 = .ok (.iload 5, 2) := by decide +kernel
theorem dX5_moves_62 : decode cX5_moves 62 = .ok (.iadd, 1) := by decide +kernel
theorem dX5_moves_63 : decode cX5_moves 63 = .ok (.iaload, 1) := by decide +kernel
theorem dX5_moves_64 : decode cX5_moves 64 = .ok (.iastore, 1) := by decide +kernel
theorem dX5_moves_65 : decode cX5_moves 65 = .ok (.aload_n 0, 1) := by decide +kernel
theorem dX5_moves_66 : decode cX5_moves 66 = .ok (.getfield 7, 3) := by decide +kernel
theorem dX5_moves_69 : decode cX5_moves 69 = .ok (.bipush 90, 2) := by decide +kernel
theorem dX5_moves_71 : decode cX5_moves 71 = .ok (.iload 6, 2) := by decide +kernel
theorem dX5_moves_73 : decode cX5_moves 73 = .ok (.iadd, 1) := by decide +kernel
theorem dX5_moves_74 : decode cX5_moves 74 = .ok (.aload_n 0, 1) := by decide +kernel
theorem dX5_moves_75 : decode cX5_moves 75 = .ok (.getfield 7, 3) := by decide +kernel
theorem dX5_moves_78 : decode cX5_moves 78 = .ok (.bipush 90, 2) := by decide +kernel
theorem dX5_moves_80 : decode cX5_moves 80 = .ok (.iload 6, 2) := by decide +kernel
theorem dX5_moves_82 : decode cX5_moves 82 = .ok (.iadd, 1) := by decide +kernel
theorem dX5_moves_83 : decode cX5_moves 83 = .ok (.iload 5, 2) := by decide +kernel
theorem dX5_moves_85 : decode cX5_moves 85 = .ok (.iadd, 1) := by decide +kernel
theorem dX5_moves_86 : decode cX5_moves 86 = .ok (.iaload, 1) := by decide +kernel
theorem dX5_moves_87 : decode cX5_moves 87 = .ok (.iastore, 1) := by decide +kernel
theorem dX5_moves_88 : decode cX5_moves 88 = .ok (.iload 6, 2) := by decide +kernel
theorem dX5_moves_90 : decode cX5_moves 90 = .ok (.iload 5, 2) := by decide +kernel
theorem dX5_moves_92 : decode cX5_moves 92 = .ok (.iadd, 1) := by decide +kernel
theorem dX5_moves_93 : decode cX5_moves 93 = .ok (.istore 6, 2) := by decide +kernel
theorem dX5_moves_95 : decode cX5_moves 95 = .ok (.goto (-59), 3) := by decide +kernel
theorem dX5_moves_98 : decode cX5_moves 98 = .ok (.aload_n 0, 1) := by decide +kernel
theorem dX5_moves_99 : decode cX5_moves 99 = .ok (.getfield 7, 3) := by decide +kernel
theorem dX5_moves_102 : decode cX5_moves 102 = .ok (.bipush 70, 2) := by decide +kernel
theorem dX5_moves_104 : decode cX5_moves 104 = .ok (.iload_n 2, 1) := by decide +kernel
theorem dX5_moves_105 : decode cX5_moves 105 = .ok (.iadd, 1) := by decide +kernel
theorem dX5_moves_106 : decode cX5_moves 106 = .ok (.iload_n 3, 1) := by decide +kernel
theorem dX5_moves_107 : decode cX5_moves 107 = .ok (.iastore, 1) := by decide +kernel
theorem dX5_moves_108 : decode cX5_moves 108 = .ok (.aload_n 0, 1) := by decide +kernel
theorem dX5_moves_109 : decode cX5_moves 109 = .ok (.getfield 7, 3) := by decide +kernel
theorem dX5_moves_112 : decode cX5_moves 112 = .ok (.bipush 90, 2) := by decide +kernel
theorem dX5_moves_114 : decode cX5_moves 114 = .ok (.iload_n 2, 1) := by decide +kernel
theorem dX5_moves_115 : decode cX5_moves 115 = .ok (.iadd, 1) := by decide +kernel
theorem dX5_moves_116 : decode cX5_moves 116 = .ok (.iload 4, 2) := by decide +kernel
theorem dX5_moves_118 : decode cX5_moves 118 = .ok (.iastore, 1) := by decide +kernel
theorem dX5_moves_119 : decode cX5_moves 119 = .ok (.aload_n 0, 1) := by decide +kernel
theorem dX5_moves_120 : decode cX5_moves 120 = .ok (.iconst (-1), 1) := by decide +kernel
theorem dX5_moves_121 : decode cX5_moves 121 = .ok (.invokevirtual 71, 3) := by decide +kernel
theorem dX5_moves_124 : decode cX5_moves 124 = .ok (.aload_n 0, 1) := by decide +kernel
theorem dX5_moves_125 : decode cX5_moves 125 = .ok (.invokevirtual 75, 3) := by decide +kernel
theorem dX5_moves_128 : decode cX5_moves 128 = .ok (.ireturn, 1) := by decide +kernel
theorem dX5_canBind_0 : decode cX5_canBind 0 = .ok (.aload_n 0, 1) := by decide +kernel
theorem dX5_canBind_1 : decode cX5_canBind 1 = .ok (.iconst (-1), 1) := by decide +kernel
theorem dX5_canBind_2 : decode cX5_canBind 2 = .ok (.invokevirtual 71, 3) := by decide +kernel
theorem dX5_canBind_5 : decode cX5_canBind 5 = .ok (.aload_n 0, 1) := by decide +kernel
theorem dX5_canBind_6 : decode cX5_canBind 6 = .ok (.invokevirtual 78, 3) := by decide +kernel
theorem dX5_canBind_9 : decode cX5_canBind 9 = .ok (.ifCond .ne 7, 3) := by decide +kernel
theorem dX5_canBind_12 : decode cX5_canBind 12 = .ok (.iconst 1, 1) := by decide +kernel
theorem dX5_canBind_13 : decode cX5_canBind 13 = .ok (.goto 4, 3) := by decide +kernel
theorem dX5_canBind_16 : decode cX5_canBind 16 = .ok (.iconst 0, 1) := by decide +kernel
theorem dX5_canBind_17 : decode cX5_canBind 17 = .ok (.ireturn, 1) := by decide +kernel
theorem dX5_binds_0 : decode cX5_binds 0 = .ok (.iconst 0, 1) := by decide +kernel
theorem dX5_binds_1 : decode cX5_binds 1 = .ok (.istore_n 1, 1) := by decide +kernel
theorem dX5_binds_2 : decode cX5_binds 2 = .ok (.iload_n 1, 1) := by decide +kernel
theorem dX5_binds_3 : decode cX5_binds 3 = .ok (.aload_n 0, 1) := by decide +kernel
theorem dX5_binds_4 : decode cX5_binds 4 = .ok (.getfield 7, 3) := by decide +kernel
theorem dX5_binds_7 : decode cX5_binds 7 = .ok (.iconst 3, 1) := by decide +kernel
theorem dX5_binds_8 : decode cX5_binds 8 = .ok (.iaload, 1) := by decide +kernel
theorem dX5_binds_9 : decode cX5_binds 9 = .ok (.if_icmp .ge 30, 3) := by decide +kernel
theorem dX5_binds_12 : decode cX5_binds 12 = .ok (.aload_n 0, 1) := by decide +kernel
theorem dX5_binds_13 : decode cX5_binds 13 = .ok (.getfield 7, 3) := by decide +kernel
theorem dX5_binds_16 : decode cX5_binds 16 = .ok (.bipush 22, 2) := by decide +kernel
theorem dX5_binds_18 : decode cX5_binds 18 = .ok (.aload_n 0, 1) := by decide +kernel
theorem dX5_binds_19 : decode cX5_binds 19 = .ok (.getfield 7, 3) := by decide +kernel
theorem dX5_binds_22 : decode cX5_binds 22 = .ok (.bipush 70, 2) := by decide +kernel
theorem dX5_binds_24 : decode cX5_binds 24 = .ok (.iload_n 1, 1) := by decide +kernel
theorem dX5_binds_25 : decode cX5_binds 25 = .ok (.iadd, 1) := by decide +kernel
theorem dX5_binds_26 : decode cX5_binds 26 = .ok (.iaload, 1) := by decide +kernel
theorem dX5_binds_27 : decode cX5_binds 27 = .ok (.iadd, 1) := by decide +kernel
theorem dX5_binds_28 : decode cX5_binds 28 = .ok (.dup2, 1) := by decide +kernel
theorem dX5_binds_29 : decode cX5_binds 29 = .ok (.iaload, 1) := by decide +kernel
theorem dX5_binds_30 : decode cX5_binds 30 = .ok (.iconst 1, 1) := by decide +kernel
theorem dX5_binds_31 : decode cX5_binds 31 = .ok (.iadd, 1) := by decide +kernel
theorem dX5_binds_32 : decode cX5_binds 32 = .ok (.iastore, 1) := by decide +kernel
theorem dX5_binds_33 : decode cX5_binds 33 = .ok (.iinc 1 1, 3) := by decide +kernel
theorem dX5_binds_36 : decode cX5_binds 36 = .ok (.goto (-34), 3) := by decide +kernel
theorem dX5_binds_39 : decode cX5_binds 39 = .ok (.aload_n 0, 1) := by decide +kernel
theorem dX5_binds_40 : decode cX5_binds 40 = .ok (.getfield 7, 3) := by decide +kernel
theorem dX5_binds_43 : decode cX5_binds 43 = .ok (.iconst 3, 1) := by decide +kernel
theorem dX5_binds_44 : decode cX5_binds 44 = .ok (.iconst 0, 1) := by decide +kernel
theorem dX5_binds_45 : decode cX5_binds 45 = .ok (.iastore, 1) := by decide +kernel
theorem dX5_binds_46 : decode cX5_binds 46 = .ok (.aload_n 0, 1) := by decide +kernel
theorem dX5_binds_47 : decode cX5_binds 47 = .ok (.getfield 7, 3) := by decide +kernel
theorem dX5_binds_50 : decode cX5_binds 50 = .ok (.iconst 4, 1) := by decide +kernel
theorem dX5_binds_51 : decode cX5_binds 51 = .ok (.dup2, 1) := by decide +kernel
theorem dX5_binds_52 : decode cX5_binds 52 = .ok (.iaload, 1) := by decide +kernel
theorem dX5_binds_53 : decode cX5_binds 53 = .ok (.iconst 1, 1) := by decide +kernel
theorem dX5_binds_54 : decode cX5_binds 54 = .ok (.iadd, 1) := by decide +kernel
theorem dX5_binds_55 : decode cX5_binds 55 = .ok (.iastore, 1) := by decide +kernel
theorem dX5_binds_56 : decode cX5_binds 56 = .ok (.aload_n 0, 1) := by decide +kernel
theorem dX5_binds_57 : decode cX5_binds 57 = .ok (.getfield 7, 3) := by decide +kernel
theorem dX5_binds_60 : decode cX5_binds 60 = .ok (.iconst 4, 1) := by decide +kernel
theorem dX5_binds_61 : decode cX5_binds 61 = .ok (.iaload, 1) := by decide +kernel
theorem dX5_binds_62 : decode cX5_binds 62 = .ok (.ireturn, 1) := by decide +kernel
theorem dX5_copies_0 : decode cX5_copies 0 = .ok (.iconst 0, 1) := by decide +kernel
theorem dX5_copies_1 : decode cX5_copies 1 = .ok (.istore_n 3, 1) := by decide +kernel
theorem dX5_copies_2 : decode cX5_copies 2 = .ok (.iload_n 3, 1) := by decide +kernel
theorem dX5_copies_3 : decode cX5_copies 3 = .ok (.bipush 110, 2) := by decide +kernel
theorem dX5_copies_5 : decode cX5_copies 5 = .ok (.if_icmp .ge 31, 3) := by decide +kernel
theorem dX5_copies_8 : decode cX5_copies 8 = .ok (.aload_n 0, 1) := by decide +kernel
theorem dX5_copies_9 : decode cX5_copies 9 = .ok (.getfield 7, 3) := by decide +kernel
theorem dX5_copies_12 : decode cX5_copies 12 = .ok (.bipush 110, 2) := by decide +kernel
theorem dX5_copies_14 : decode cX5_copies 14 = .ok (.iload_n 2, 1) := by decide +kernel
theorem dX5_copies_15 : decode cX5_copies 15 = .ok (.imul, 1) := by decide +kernel
theorem dX5_copies_16 : decode cX5_copies 16 = .ok (.iload_n 3, 1) := by decide +kernel
theorem dX5_copies_17 : decode cX5_copies 17 = .ok (.iadd, 1) := by decide +kernel
theorem dX5_copies_18 : decode cX5_copies 18 = .ok (.aload_n 0, 1) := by decide +kernel
theorem dX5_copies_19 : decode cX5_copies 19 = .ok (.getfield 7, 3) := by decide +kernel
theorem dX5_copies_22 : decode cX5_copies 22 = .ok (.bipush 110, 2) := by decide +kernel
theorem dX5_copies_24 : decode cX5_copies 24 = .ok (.iload_n 1, 1) := by decide +kernel
theorem dX5_copies_25 : decode cX5_copies 25 = .ok (.imul, 1) := by decide +kernel
theorem dX5_copies_26 : decode cX5_copies 26 = .ok (.iload_n 3, 1) := by decide +kernel
theorem dX5_copies_27 : decode cX5_copies 27 = .ok (.iadd, 1) := by decide +kernel
theorem dX5_copies_28 : decode cX5_copies 28 = .ok (.iaload, 1) := by decide +kernel
theorem dX5_copies_29 : decode cX5_copies 29 = .ok (.iastore, 1) := by decide +kernel
theorem dX5_copies_30 : decode cX5_copies 30 = .ok (.iinc 3 1, 3) := by decide +kernel
theorem dX5_copies_33 : decode cX5_copies 33 = .ok (.goto (-31), 3) := by decide +kernel
theorem dX5_copies_36 : decode cX5_copies 36 = .ok (.return_, 1) := by decide +kernel
theorem dX5_save_0 : decode cX5_save 0 = .ok (.iconst 1, 1) := by decide +kernel
theorem dX5_save_1 : decode cX5_save 1 = .ok (.istore_n 1, 1) := by decide +kernel
theorem dX5_save_2 : decode cX5_save 2 = .ok (.iload_n 1, 1) := by decide +kernel
theorem dX5_save_3 : decode cX5_save 3 = .ok (.bipush 6, 2) := by decide +kernel
theorem dX5_save_5 : decode cX5_save 5 = .ok (.if_icmp .ge 26, 3) := by decide +kernel
theorem dX5_save_8 : decode cX5_save 8 = .ok (.aload_n 0, 1) := by decide +kernel
theorem dX5_save_9 : decode cX5_save 9 = .ok (.getfield 81, 3) := by decide +kernel
theorem dX5_save_12 : decode cX5_save 12 = .ok (.bipush 6, 2) := by decide +kernel
theorem dX5_save_14 : decode cX5_save 14 = .ok (.if_icmp .ne 17, 3) := by decide +kernel
theorem dX5_save_17 : decode cX5_save 17 = .ok (.aload_n 0, 1) := by decide +kernel
theorem dX5_save_18 : decode cX5_save 18 = .ok (.iload_n 1, 1) := by decide +kernel
theorem dX5_save_19 : decode cX5_save 19 = .ok (.iconst 1, 1) := by decide +kernel
theorem dX5_save_20 : decode cX5_save 20 = .ok (.iadd, 1) := by decide +kernel
theorem dX5_save_21 : decode cX5_save 21 = .ok (.iload_n 1, 1) := by decide +kernel
theorem dX5_save_22 : decode cX5_save 22 = .ok (.invokevirtual 84, 3) := by decide +kernel
theorem dX5_save_25 : decode cX5_save 25 = .ok (.iinc 1 1, 3) := by decide +kernel
theorem dX5_save_28 : decode cX5_save 28 = .ok (.goto (-26), 3) := by decide +kernel
theorem dX5_save_31 : decode cX5_save 31 = .ok (.aload_n 0, 1) := by decide +kernel
theorem dX5_save_32 : decode cX5_save 32 = .ok (.dup, 1) := by decide +kernel
theorem dX5_save_33 : decode cX5_save 33 = .ok (.getfield 81, 3) := by decide +kernel
theorem dX5_save_36 : decode cX5_save 36 = .ok (.aload_n 0, 1) := by decide +kernel
theorem dX5_save_37 : decode cX5_save 37 = .ok (.getfield 81, 3) := by decide +kernel
theorem dX5_save_40 : decode cX5_save 40 = .ok (.bipush 6, 2) := by decide +kernel
theorem dX5_save_42 : decode cX5_save 42 = .ok (.if_icmp .ge 7, 3) := by decide +kernel
theorem dX5_save_45 : decode cX5_save 45 = .ok (.iconst 1, 1) := by decide +kernel
theorem dX5_save_46 : decode cX5_save 46 = .ok (.goto 4, 3) := by decide +kernel
theorem dX5_save_49 : decode cX5_save 49 = .ok (.iconst 0, 1) := by decide +kernel
theorem dX5_save_50 : decode cX5_save 50 = .ok (.iadd, 1) := by decide +kernel
theorem dX5_save_51 : decode cX5_save 51 = .ok (.putfield 81, 3) := by decide +kernel
theorem dX5_save_54 : decode cX5_save 54 = .ok (.aload_n 0, 1) := by decide +kernel
theorem dX5_save_55 : decode cX5_save 55 = .ok (.iconst 0, 1) := by decide +kernel
theorem dX5_save_56 : decode cX5_save 56 = .ok (.aload_n 0, 1) := by decide +kernel
theorem dX5_save_57 : decode cX5_save 57 = .ok (.getfield 81, 3) := by decide +kernel
theorem dX5_save_60 : decode cX5_save 60 = .ok (.invokevirtual 84, 3) := by decide +kernel
theorem dX5_save_63 : decode cX5_save 63 = .ok (.return_, 1) := by decide +kernel
theorem dX5_gather_0 : decode cX5_gather 0 = .ok (.iload_n 1, 1) := by decide +kernel
theorem dX5_gather_1 : decode cX5_gather 1 = .ok (.invokestatic 88, 3) := by decide +kernel
theorem dX5_gather_4 : decode cX5_gather 4 = .ok (.istore_n 2, 1) := by decide +kernel
theorem dX5_gather_5 : decode cX5_gather 5 = .ok (.aload_n 0, 1) := by decide +kernel
theorem dX5_gather_6 : decode cX5_gather 6 = .ok (.iload_n 2, 1) := by decide +kernel
theorem dX5_gather_7 : decode cX5_gather 7 = .ok (.ifCond .ne 7, 3) := by decide +kernel
theorem dX5_gather_10 : decode cX5_gather 10 = .ok (.iconst 1, 1) := by decide +kernel
theorem dX5_gather_11 : decode cX5_gather 11 = .ok (.goto 16, 3) := by decide +kernel
theorem dX5_gather_14 : decode cX5_gather 14 = .ok (.aload_n 0, 1) := by decide +kernel
theorem dX5_gather_15 : decode cX5_gather 15 = .ok (.iload_n 1, 1) := by decide +kernel
theorem dX5_gather_16 : decode cX5_gather 16 = .ok (.invokevirtual 91, 3) := by decide +kernel
theorem dX5_gather_19 : decode cX5_gather 19 = .ok (.ifCond .ne 7, 3) := by decide +kernel
theorem dX5_gather_22 : decode cX5_gather 22 = .ok (.iconst 2, 1) := by decide +kernel
theorem dX5_gather_23 : decode cX5_gather 23 = .ok (.goto 4, 3) := by decide +kernel
theorem dX5_gather_26 : decode cX5_gather 26 = .ok (.iconst 0, 1) := by decide +kernel
theorem dX5_gather_27 : decode cX5_gather 27 = .ok (.invokevirtual 94, 3) := by decide +kernel
theorem dX5_gather_30 : decode cX5_gather 30 = .ok (.ifCond .ne 5, 3) := by decide +kernel
theorem dX5_gather_33 : decode cX5_gather 33 = .ok (.iconst 0, 1) := by decide +kernel
theorem dX5_gather_34 : decode cX5_gather 34 = .ok (.ireturn, 1) := by decide +kernel
theorem dX5_gather_35 : decode cX5_gather 35 = .ok (.aload_n 0, 1) := by decide +kernel
theorem dX5_gather_36 : decode cX5_gather 36 = .ok (.invokevirtual 97, 3) := by decide +kernel
theorem dX5_gather_39 : decode cX5_gather 39 = .ok (.aload_n 0, 1) := by decide +kernel
theorem dX5_gather_40 : decode cX5_gather 40 = .ok (.aload_n 0, 1) := by decide +kernel
theorem dX5_gather_41 : decode cX5_gather 41 = .ok (.getfield 7, 3) := by decide +kernel
theorem dX5_gather_44 : decode cX5_gather 44 = .ok (.iconst 3, 1) := by decide +kernel
theorem dX5_gather_45 : decode cX5_gather 45 = .ok (.iaload, 1) := by decide +kernel
theorem dX5_gather_46 : decode cX5_gather 46 = .ok (.iload_n 1, 1) := by decide +kernel
theorem dX5_gather_47 : decode cX5_gather 47 = .ok (.invokevirtual 100, 3) := by decide +kernel
theorem dX5_gather_50 : decode cX5_gather 50 = .ok (.ireturn, 1) := by decide +kernel
theorem dX5_insert_0 : decode cX5_insert 0 = .ok (.iload_n 1, 1) := by decide +kernel
theorem dX5_insert_1 : decode cX5_insert 1 = .ok (.iconst 0, 1) := by decide +kernel
theorem dX5_insert_2 : decode cX5_insert 2 = .ok (.aload_n 0, 1) := by decide +kernel
theorem dX5_insert_3 : decode cX5_insert 3 = .ok (.getfield 7, 3) := by decide +kernel
theorem dX5_insert_6 : decode cX5_insert 6 = .ok (.iconst 3, 1) := by decide +kernel
theorem dX5_insert_7 : decode cX5_insert 7 = .ok (.iaload, 1) := by decide +kernel
theorem dX5_insert_8 : decode cX5_insert 8 = .ok (.invokestatic 29, 3) := by decide +kernel
theorem dX5_insert_11 : decode cX5_insert 11 = .ok (.ifCond .eq 14, 3) := by decide +kernel
theorem dX5_insert_14 : decode cX5_insert 14 = .ok (.iload_n 2, 1) := by decide +kernel
theorem dX5_insert_15 : decode cX5_insert 15 = .ok (.invokestatic 88, 3) := by decide +kernel
theorem dX5_insert_18 : decode cX5_insert 18 = .ok (.ifCond .eq 7, 3) := by decide +kernel
theorem dX5_insert_21 : decode cX5_insert 21 = .ok (.iconst 1, 1) := by decide +kernel
theorem dX5_insert_22 : decode cX5_insert 22 = .ok (.goto 4, 3) := by decide +kernel
theorem dX5_insert_25 : decode cX5_insert 25 = .ok (.iconst 0, 1) := by decide +kernel
theorem dX5_insert_26 : decode cX5_insert 26 = .ok (.istore_n 3, 1) := by decide +kernel
theorem dX5_insert_27 : decode cX5_insert 27 = .ok (.aload_n 0, 1) := by decide +kernel
theorem dX5_insert_28 : decode cX5_insert 28 = .ok (.iload_n 3, 1) := by decide +kernel
theorem dX5_insert_29 : decode cX5_insert 29 = .ok (.ifCond .ne 7, 3) := by decide +kernel
theorem dX5_insert_32 : decode cX5_insert 32 = .ok (.iconst 1, 1) := by decide +kernel
theorem dX5_insert_33 : decode cX5_insert 33 = .ok (.goto 16, 3) := by decide +kernel
theorem dX5_insert_36 : decode cX5_insert 36 = .ok (.aload_n 0, 1) := by decide +kernel
theorem dX5_insert_37 : decode cX5_insert 37 = .ok (.iload_n 2, 1) := by decide +kernel
theorem dX5_insert_38 : decode cX5_insert 38 = .ok (.invokevirtual 91, 3) := by decide +kernel
theorem dX5_insert_41 : decode cX5_insert 41 = .ok (.ifCond .ne 7, 3) := by decide +kernel
theorem dX5_insert_44 : decode cX5_insert 44 = .ok (.iconst 2, 1) := by decide +kernel
theorem dX5_insert_45 : decode cX5_insert 45 = .ok (.goto 4, 3) := by decide +kernel
theorem dX5_insert_48 : decode cX5_insert 48 = .ok (.iconst 0, 1) := by decide +kernel
theorem dX5_insert_49 : decode cX5_insert 49 = .ok (.invokevirtual 94, 3) := by decide +kernel
theorem dX5_insert_52 : decode cX5_insert 52 = .ok (.ifCond .ne 5, 3) := by decide +kernel
theorem dX5_insert_55 : decode cX5_insert 55 = .ok (.iconst 0, 1) := by decide +kernel
theorem dX5_insert_56 : decode cX5_insert 56 = .ok (.ireturn, 1) := by decide +kernel
theorem dX5_insert_57 : decode cX5_insert 57 = .ok (.aload_n 0, 1) := by decide +kernel
theorem dX5_insert_58 : decode cX5_insert 58 = .ok (.invokevirtual 97, 3) := by decide +kernel
theorem dX5_insert_61 : decode cX5_insert 61 = .ok (.aload_n 0, 1) := by decide +kernel
theorem dX5_insert_62 : decode cX5_insert 62 = .ok (.iload_n 1, 1) := by decide +kernel
theorem dX5_insert_63 : decode cX5_insert 63 = .ok (.iload_n 2, 1) := by decide +kernel
theorem dX5_insert_64 : decode cX5_insert 64 = .ok (.invokevirtual 100, 3) := by decide +kernel
theorem dX5_insert_67 : decode cX5_insert 67 = .ok (.ireturn, 1) := by decide +kernel
theorem dX5_pull_0 : decode cX5_pull 0 = .ok (.aload_n 0, 1) := by decide +kernel
theorem dX5_pull_1 : decode cX5_pull 1 = .ok (.aload_n 0, 1) := by decide +kernel
theorem dX5_pull_2 : decode cX5_pull 2 = .ok (.iload_n 1, 1) := by decide +kernel
theorem dX5_pull_3 : decode cX5_pull 3 = .ok (.invokevirtual 103, 3) := by decide +kernel
theorem dX5_pull_6 : decode cX5_pull 6 = .ok (.ifCond .eq 7, 3) := by decide +kernel
theorem dX5_pull_9 : decode cX5_pull 9 = .ok (.iconst 0, 1) := by decide +kernel
theorem dX5_pull_10 : decode cX5_pull 10 = .ok (.goto 4, 3) := by decide +kernel
theorem dX5_pull_13 : decode cX5_pull 13 = .ok (.iconst 1, 1) := by decide +kernel
theorem dX5_pull_14 : decode cX5_pull 14 = .ok (.invokevirtual 94, 3) := by decide +kernel
theorem dX5_pull_17 : decode cX5_pull 17 = .ok (.ifCond .ne 5, 3) := by decide +kernel
theorem dX5_pull_20 : decode cX5_pull 20 = .ok (.iconst 0, 1) := by decide +kernel
theorem dX5_pull_21 : decode cX5_pull 21 = .ok (.ireturn, 1) := by decide +kernel
theorem dX5_pull_22 : decode cX5_pull 22 = .ok (.aload_n 0, 1) := by decide +kernel
theorem dX5_pull_23 : decode cX5_pull 23 = .ok (.invokevirtual 97, 3) := by decide +kernel
theorem dX5_pull_26 : decode cX5_pull 26 = .ok (.aload_n 0, 1) := by decide +kernel
theorem dX5_pull_27 : decode cX5_pull 27 = .ok (.iload_n 1, 1) := by decide +kernel
theorem dX5_pull_28 : decode cX5_pull 28 = .ok (.invokevirtual 106, 3) := by decide +kernel
theorem dX5_pull_31 : decode cX5_pull 31 = .ok (.ireturn, 1) := by decide +kernel
theorem dX5_flip_0 : decode cX5_flip 0 = .ok (.aload_n 0, 1) := by decide +kernel
theorem dX5_flip_1 : decode cX5_flip 1 = .ok (.aload_n 0, 1) := by decide +kernel
theorem dX5_flip_2 : decode cX5_flip 2 = .ok (.iload_n 1, 1) := by decide +kernel
theorem dX5_flip_3 : decode cX5_flip 3 = .ok (.invokevirtual 103, 3) := by decide +kernel
theorem dX5_flip_6 : decode cX5_flip 6 = .ok (.ifCond .eq 7, 3) := by decide +kernel
theorem dX5_flip_9 : decode cX5_flip 9 = .ok (.iconst 0, 1) := by decide +kernel
theorem dX5_flip_10 : decode cX5_flip 10 = .ok (.goto 4, 3) := by decide +kernel
theorem dX5_flip_13 : decode cX5_flip 13 = .ok (.iconst 1, 1) := by decide +kernel
theorem dX5_flip_14 : decode cX5_flip 14 = .ok (.invokevirtual 94, 3) := by decide +kernel
theorem dX5_flip_17 : decode cX5_flip 17 = .ok (.ifCond .ne 5, 3) := by decide +kernel
theorem dX5_flip_20 : decode cX5_flip 20 = .ok (.iconst 0, 1) := by decide +kernel
theorem dX5_flip_21 : decode cX5_flip 21 = .ok (.ireturn, 1) := by decide +kernel
theorem dX5_flip_22 : decode cX5_flip 22 = .ok (.aload_n 0, 1) := by decide +kernel
theorem dX5_flip_23 : decode cX5_flip 23 = .ok (.invokevirtual 97, 3) := by decide +kernel
theorem dX5_flip_26 : decode cX5_flip 26 = .ok (.aload_n 0, 1) := by decide +kernel
theorem dX5_flip_27 : decode cX5_flip 27 = .ok (.iload_n 1, 1) := by decide +kernel
theorem dX5_flip_28 : decode cX5_flip 28 = .ok (.invokevirtual 109, 3) := by decide +kernel
theorem dX5_flip_31 : decode cX5_flip 31 = .ok (.ireturn, 1) := by decide +kernel
theorem dX5_move_0 : decode cX5_move 0 = .ok (.aload_n 0, 1) := by decide +kernel
theorem dX5_move_1 : decode cX5_move 1 = .ok (.aload_n 0, 1) := by decide +kernel
theorem dX5_move_2 : decode cX5_move 2 = .ok (.iload_n 1, 1) := by decide +kernel
theorem dX5_move_3 : decode cX5_move 3 = .ok (.invokevirtual 103, 3) := by decide +kernel
theorem dX5_move_6 : decode cX5_move 6 = .ok (.ifCond .eq 15, 3) := by decide +kernel
theorem dX5_move_9 : decode cX5_move 9 = .ok (.aload_n 0, 1) := by decide +kernel
theorem dX5_move_10 : decode cX5_move 10 = .ok (.iload_n 2, 1) := by decide +kernel
theorem dX5_move_11 : decode cX5_move 11 = .ok (.invokevirtual 103, 3) := by decide +kernel
theorem dX5_move_14 : decode cX5_move 14 = .ok (.ifCond .eq 7, 3) := by decide +kernel
theorem dX5_move_17 : decode cX5_move 17 = .ok (.iconst 0, 1) := by decide +kernel
theorem dX5_move_18 : decode cX5_move 18 = .ok (.goto 4, 3) := by decide +kernel
theorem dX5_move_21 : decode cX5_move 21 = .ok (.iconst 1, 1) := by decide +kernel
theorem dX5_move_22 : decode cX5_move 22 = .ok (.invokevirtual 94, 3) := by decide +kernel
theorem dX5_move_25 : decode cX5_move 25 = .ok (.ifCond .ne 5, 3) := by decide +kernel
theorem dX5_move_28 : decode cX5_move 28 = .ok (.iconst 0, 1) := by decide +kernel
theorem dX5_move_29 : decode cX5_move 29 = .ok (.ireturn, 1) := by decide +kernel
theorem dX5_move_30 : decode cX5_move 30 = .ok (.aload_n 0, 1) := by decide +kernel
theorem dX5_move_31 : decode cX5_move 31 = .ok (.invokevirtual 97, 3) := by decide +kernel
theorem dX5_move_34 : decode cX5_move 34 = .ok (.aload_n 0, 1) := by decide +kernel
theorem dX5_move_35 : decode cX5_move 35 = .ok (.iload_n 1, 1) := by decide +kernel
theorem dX5_move_36 : decode cX5_move 36 = .ok (.iload_n 2, 1) := by decide +kernel
theorem dX5_move_37 : decode cX5_move 37 = .ok (.invokevirtual 112, 3) := by decide +kernel
theorem dX5_move_40 : decode cX5_move 40 = .ok (.ireturn, 1) := by decide +kernel
theorem dX5_bind_0 : decode cX5_bind 0 = .ok (.aload_n 0, 1) := by decide +kernel
theorem dX5_bind_1 : decode cX5_bind 1 = .ok (.aload_n 0, 1) := by decide +kernel
theorem dX5_bind_2 : decode cX5_bind 2 = .ok (.invokevirtual 115, 3) := by decide +kernel
theorem dX5_bind_5 : decode cX5_bind 5 = .ok (.ifCond .eq 7, 3) := by decide +kernel
theorem dX5_bind_8 : decode cX5_bind 8 = .ok (.iconst 0, 1) := by decide +kernel
theorem dX5_bind_9 : decode cX5_bind 9 = .ok (.goto 4, 3) := by decide +kernel
theorem dX5_bind_12 : decode cX5_bind 12 = .ok (.iconst 1, 1) := by decide +kernel
theorem dX5_bind_13 : decode cX5_bind 13 = .ok (.invokevirtual 94, 3) := by decide +kernel
theorem dX5_bind_16 : decode cX5_bind 16 = .ok (.ifCond .ne 5, 3) := by decide +kernel
theorem dX5_bind_19 : decode cX5_bind 19 = .ok (.iconst 0, 1) := by decide +kernel
theorem dX5_bind_20 : decode cX5_bind 20 = .ok (.ireturn, 1) := by decide +kernel
theorem dX5_bind_21 : decode cX5_bind 21 = .ok (.aload_n 0, 1) := by decide +kernel
theorem dX5_bind_22 : decode cX5_bind 22 = .ok (.invokevirtual 97, 3) := by decide +kernel
theorem dX5_bind_25 : decode cX5_bind 25 = .ok (.aload_n 0, 1) := by decide +kernel
theorem dX5_bind_26 : decode cX5_bind 26 = .ok (.invokevirtual 119, 3) := by decide +kernel
theorem dX5_bind_29 : decode cX5_bind 29 = .ok (.ireturn, 1) := by decide +kernel
theorem dX5_print_0 : decode cX5_print 0 = .ok (.iload_n 1, 1) := by decide +kernel
theorem dX5_print_1 : decode cX5_print 1 = .ok (.invokestatic 88, 3) := by decide +kernel
theorem dX5_print_4 : decode cX5_print 4 = .ok (.istore_n 3, 1) := by decide +kernel
theorem dX5_print_5 : decode cX5_print 5 = .ok (.aload_n 0, 1) := by decide +kernel
theorem dX5_print_6 : decode cX5_print 6 = .ok (.iload_n 3, 1) := by decide +kernel
theorem dX5_print_7 : decode cX5_print 7 = .ok (.ifCond .ne 7, 3) := by decide +kernel
theorem dX5_print_10 : decode cX5_print 10 = .ok (.iconst 1, 1) := by decide +kernel
theorem dX5_print_11 : decode cX5_print 11 = .ok (.goto 38, 3) := by decide +kernel
theorem dX5_print_14 : decode cX5_print 14 = .ok (.iload_n 2, 1) := by decide +kernel
theorem dX5_print_15 : decode cX5_print 15 = .ok (.iconst 1, 1) := by decide +kernel
theorem dX5_print_16 : decode cX5_print 16 = .ok (.bipush 20, 2) := by decide +kernel
theorem dX5_print_18 : decode cX5_print 18 = .ok (.invokestatic 29, 3) := by decide +kernel
theorem dX5_print_21 : decode cX5_print 21 = .ok (.ifCond .ne 7, 3) := by decide +kernel
theorem dX5_print_24 : decode cX5_print 24 = .ok (.iconst 2, 1) := by decide +kernel
theorem dX5_print_25 : decode cX5_print 25 = .ok (.goto 24, 3) := by decide +kernel
theorem dX5_print_28 : decode cX5_print 28 = .ok (.aload_n 0, 1) := by decide +kernel
theorem dX5_print_29 : decode cX5_print 29 = .ok (.getfield 7, 3) := by decide +kernel
theorem dX5_print_32 : decode cX5_print 32 = .ok (.bipush 6, 2) := by decide +kernel
theorem dX5_print_34 : decode cX5_print 34 = .ok (.iload_n 1, 1) := by decide +kernel
theorem dX5_print_35 : decode cX5_print 35 = .ok (.iadd, 1) := by decide +kernel
theorem dX5_print_36 : decode cX5_print 36 = .ok (.iaload, 1) := by decide +kernel
theorem dX5_print_37 : decode cX5_print 37 = .ok (.iload_n 2, 1) := by decide +kernel
theorem dX5_print_38 : decode cX5_print 38 = .ok (.iadd, 1) := by decide +kernel
theorem dX5_print_39 : decode cX5_print 39 = .ok (.bipush 99, 2) := by decide +kernel
theorem dX5_print_41 : decode cX5_print 41 = .ok (.if_icmp .le 7, 3) := by decide +kernel
theorem dX5_print_44 : decode cX5_print 44 = .ok (.iconst 3, 1) := by decide +kernel
theorem dX5_print_45 : decode cX5_print 45 = .ok (.goto 4, 3) := by decide +kernel
theorem dX5_print_48 : decode cX5_print 48 = .ok (.iconst 0, 1) := by decide +kernel
theorem dX5_print_49 : decode cX5_print 49 = .ok (.invokevirtual 94, 3) := by decide +kernel
theorem dX5_print_52 : decode cX5_print 52 = .ok (.ifCond .ne 5, 3) := by decide +kernel
theorem dX5_print_55 : decode cX5_print 55 = .ok (.iconst 0, 1) := by decide +kernel
theorem dX5_print_56 : decode cX5_print 56 = .ok (.ireturn, 1) := by decide +kernel
theorem dX5_print_57 : decode cX5_print 57 = .ok (.aload_n 0, 1) := by decide +kernel
theorem dX5_print_58 : decode cX5_print 58 = .ok (.invokevirtual 97, 3) := by decide +kernel
theorem dX5_print_61 : decode cX5_print 61 = .ok (.aload_n 0, 1) := by decide +kernel
theorem dX5_print_62 : decode cX5_print 62 = .ok (.getfield 7, 3) := by decide +kernel
theorem dX5_print_65 : decode cX5_print 65 = .ok (.bipush 6, 2) := by decide +kernel
theorem dX5_print_67 : decode cX5_print 67 = .ok (.iload_n 1, 1) := by decide +kernel
theorem dX5_print_68 : decode cX5_print 68 = .ok (.iadd, 1) := by decide +kernel
theorem dX5_print_69 : decode cX5_print 69 = .ok (.dup2, 1) := by decide +kernel
theorem dX5_print_70 : decode cX5_print 70 = .ok (.iaload, 1) := by decide +kernel
theorem dX5_print_71 : decode cX5_print 71 = .ok (.iload_n 2, 1) := by decide +kernel
theorem dX5_print_72 : decode cX5_print 72 = .ok (.iadd, 1) := by decide +kernel
theorem dX5_print_73 : decode cX5_print 73 = .ok (.iastore, 1) := by decide +kernel
theorem dX5_print_74 : decode cX5_print 74 = .ok (.aload_n 0, 1) := by decide +kernel
theorem dX5_print_75 : decode cX5_print 75 = .ok (.getfield 7, 3) := by decide +kernel
theorem dX5_print_78 : decode cX5_print 78 = .ok (.bipush 38, 2) := by decide +kernel
theorem dX5_print_80 : decode cX5_print 80 = .ok (.iload_n 1, 1) := by decide +kernel
theorem dX5_print_81 : decode cX5_print 81 = .ok (.iadd, 1) := by decide +kernel
theorem dX5_print_82 : decode cX5_print 82 = .ok (.dup2, 1) := by decide +kernel
theorem dX5_print_83 : decode cX5_print 83 = .ok (.iaload, 1) := by decide +kernel
theorem dX5_print_84 : decode cX5_print 84 = .ok (.iload_n 2, 1) := by decide +kernel
theorem dX5_print_85 : decode cX5_print 85 = .ok (.iadd, 1) := by decide +kernel
theorem dX5_print_86 : decode cX5_print 86 = .ok (.iastore, 1) := by decide +kernel
theorem dX5_print_87 : decode cX5_print 87 = .ok (.aload_n 0, 1) := by decide +kernel
theorem dX5_print_88 : decode cX5_print 88 = .ok (.getfield 7, 3) := by decide +kernel
theorem dX5_print_91 : decode cX5_print 91 = .ok (.bipush 6, 2) := by decide +kernel
theorem dX5_print_93 : decode cX5_print 93 = .ok (.iload_n 1, 1) := by decide +kernel
theorem dX5_print_94 : decode cX5_print 94 = .ok (.iadd, 1) := by decide +kernel
theorem dX5_print_95 : decode cX5_print 95 = .ok (.iaload, 1) := by decide +kernel
theorem dX5_print_96 : decode cX5_print 96 = .ok (.ireturn, 1) := by decide +kernel
theorem dX5_changed_0 : decode cX5_changed 0 = .ok (.aload_n 0, 1) := by decide +kernel
theorem dX5_changed_1 : decode cX5_changed 1 = .ok (.invokevirtual 97, 3) := by decide +kernel
theorem dX5_changed_4 : decode cX5_changed 4 = .ok (.aload_n 0, 1) := by decide +kernel
theorem dX5_changed_5 : decode cX5_changed 5 = .ok (.getfield 7, 3) := by decide +kernel
theorem dX5_changed_8 : decode cX5_changed 8 = .ok (.iload_n 1, 1) := by decide +kernel
theorem dX5_changed_9 : decode cX5_changed 9 = .ok (.iaload, 1) := by decide +kernel
theorem dX5_changed_10 : decode cX5_changed 10 = .ok (.istore_n 3, 1) := by decide +kernel
theorem dX5_changed_11 : decode cX5_changed 11 = .ok (.aload_n 0, 1) := by decide +kernel
theorem dX5_changed_12 : decode cX5_changed 12 = .ok (.getfield 7, 3) := by decide +kernel
theorem dX5_changed_15 : decode cX5_changed 15 = .ok (.iload_n 1, 1) := by decide +kernel
theorem dX5_changed_16 : decode cX5_changed 16 = .ok (.iload_n 2, 1) := by decide +kernel
theorem dX5_changed_17 : decode cX5_changed 17 = .ok (.iastore, 1) := by decide +kernel
theorem dX5_changed_18 : decode cX5_changed 18 = .ok (.iload_n 3, 1) := by decide +kernel
theorem dX5_changed_19 : decode cX5_changed 19 = .ok (.ireturn, 1) := by decide +kernel
theorem dX5_punch_0 : decode cX5_punch 0 = .ok (.aload_n 0, 1) := by decide +kernel
theorem dX5_punch_1 : decode cX5_punch 1 = .ok (.iload_n 1, 1) := by decide +kernel
theorem dX5_punch_2 : decode cX5_punch 2 = .ok (.invokestatic 88, 3) := by decide +kernel
theorem dX5_punch_5 : decode cX5_punch 5 = .ok (.ifCond .ne 7, 3) := by decide +kernel
theorem dX5_punch_8 : decode cX5_punch 8 = .ok (.iconst 1, 1) := by decide +kernel
theorem dX5_punch_9 : decode cX5_punch 9 = .ok (.goto 18, 3) := by decide +kernel
theorem dX5_punch_12 : decode cX5_punch 12 = .ok (.iload_n 2, 1) := by decide +kernel
theorem dX5_punch_13 : decode cX5_punch 13 = .ok (.iconst 1, 1) := by decide +kernel
theorem dX5_punch_14 : decode cX5_punch 14 = .ok (.bipush 31, 2) := by decide +kernel
theorem dX5_punch_16 : decode cX5_punch 16 = .ok (.invokestatic 29, 3) := by decide +kernel
theorem dX5_punch_19 : decode cX5_punch 19 = .ok (.ifCond .ne 7, 3) := by decide +kernel
theorem dX5_punch_22 : decode cX5_punch 22 = .ok (.iconst 2, 1) := by decide +kernel
theorem dX5_punch_23 : decode cX5_punch 23 = .ok (.goto 4, 3) := by decide +kernel
theorem dX5_punch_26 : decode cX5_punch 26 = .ok (.iconst 0, 1) := by decide +kernel
theorem dX5_punch_27 : decode cX5_punch 27 = .ok (.invokevirtual 94, 3) := by decide +kernel
theorem dX5_punch_30 : decode cX5_punch 30 = .ok (.ifCond .eq 15, 3) := by decide +kernel
theorem dX5_punch_33 : decode cX5_punch 33 = .ok (.aload_n 0, 1) := by decide +kernel
theorem dX5_punch_34 : decode cX5_punch 34 = .ok (.bipush 54, 2) := by decide +kernel
theorem dX5_punch_36 : decode cX5_punch 36 = .ok (.iload_n 1, 1) := by decide +kernel
theorem dX5_punch_37 : decode cX5_punch 37 = .ok (.iadd, 1) := by decide +kernel
theorem dX5_punch_38 : decode cX5_punch 38 = .ok (.iload_n 2, 1) := by decide +kernel
theorem dX5_punch_39 : decode cX5_punch 39 = .ok (.invokevirtual 122, 3) := by decide +kernel
theorem dX5_punch_42 : decode cX5_punch 42 = .ok (.goto 4, 3) := by decide +kernel
theorem dX5_punch_45 : decode cX5_punch 45 = .ok (.iconst 0, 1) := by decide +kernel
theorem dX5_punch_46 : decode cX5_punch 46 = .ok (.ireturn, 1) := by decide +kernel
theorem dX5_set_0 : decode cX5_set 0 = .ok (.iload_n 1, 1) := by decide +kernel
theorem dX5_set_1 : decode cX5_set 1 = .ok (.iconst 0, 1) := by decide +kernel
theorem dX5_set_2 : decode cX5_set 2 = .ok (.iconst 2, 1) := by decide +kernel
theorem dX5_set_3 : decode cX5_set 3 = .ok (.invokestatic 29, 3) := by decide +kernel
theorem dX5_set_6 : decode cX5_set 6 = .ok (.istore_n 3, 1) := by decide +kernel
theorem dX5_set_7 : decode cX5_set 7 = .ok (.iload_n 2, 1) := by decide +kernel
theorem dX5_set_8 : decode cX5_set 8 = .ok (.iload_n 1, 1) := by decide +kernel
theorem dX5_set_9 : decode cX5_set 9 = .ok (.iconst 1, 1) := by decide +kernel
theorem dX5_set_10 : decode cX5_set 10 = .ok (.if_icmp .ne 7, 3) := by decide +kernel
theorem dX5_set_13 : decode cX5_set 13 = .ok (.iconst 2, 1) := by decide +kernel
theorem dX5_set_14 : decode cX5_set 14 = .ok (.goto 4, 3) := by decide +kernel
theorem dX5_set_17 : decode cX5_set 17 = .ok (.iconst 1, 1) := by decide +kernel
theorem dX5_set_18 : decode cX5_set 18 = .ok (.iload_n 1, 1) := by decide +kernel
theorem dX5_set_19 : decode cX5_set 19 = .ok (.ifCond .ne 8, 3) := by decide +kernel
theorem dX5_set_22 : decode cX5_set 22 = .ok (.bipush 16, 2) := by decide +kernel
theorem dX5_set_24 : decode cX5_set 24 = .ok (.goto 15, 3) := by decide +kernel
theorem dX5_set_27 : decode cX5_set 27 = .ok (.iload_n 1, 1) := by decide +kernel
theorem dX5_set_28 : decode cX5_set 28 = .ok (.iconst 1, 1) := by decide +kernel
theorem dX5_set_29 : decode cX5_set 29 = .ok (.if_icmp .ne 8, 3) := by decide +kernel
theorem dX5_set_32 : decode cX5_set 32 = .ok (.bipush 8, 2) := by decide +kernel
theorem dX5_set_34 : decode cX5_set 34 = .ok (.goto 5, 3) := by decide +kernel
theorem dX5_set_37 : decode cX5_set 37 = .ok (.bipush 9, 2) := by decide +kernel
theorem dX5_set_39 : decode cX5_set 39 = .ok (.invokestatic 29, 3) := by decide +kernel
theorem dX5_set_42 : decode cX5_set 42 = .ok (.istore 4, 2) := by decide +kernel
theorem dX5_set_44 : decode cX5_set 44 = .ok (.aload_n 0, 1) := by decide +kernel
theorem dX5_set_45 : decode cX5_set 45 = .ok (.iload_n 3, 1) := by decide +kernel
theorem dX5_set_46 : decode cX5_set 46 = .ok (.ifCond .ne 7, 3) := by decide +kernel
theorem dX5_set_49 : decode cX5_set 49 = .ok (.iconst 1, 1) := by decide +kernel
theorem dX5_set_50 : decode cX5_set 50 = .ok (.goto 13, 3) := by decide +kernel
theorem dX5_set_53 : decode cX5_set 53 = .ok (.iload 4, 2) := by decide +kernel
theorem dX5_set_55 : decode cX5_set 55 = .ok (.ifCond .ne 7, 3) := by decide +kernel
theorem dX5_set_58 : decode cX5_set 58 = .ok (.iconst 2, 1) := by decide +kernel
theorem dX5_set_59 : decode cX5_set 59 = .ok (.goto 4, 3) := by decide +kernel
theorem dX5_set_62 : decode cX5_set 62 = .ok (.iconst 0, 1) := by decide +kernel
theorem dX5_set_63 : decode cX5_set 63 = .ok (.invokevirtual 94, 3) := by decide +kernel
theorem dX5_set_66 : decode cX5_set 66 = .ok (.ifCond .eq 14, 3) := by decide +kernel
theorem dX5_set_69 : decode cX5_set 69 = .ok (.aload_n 0, 1) := by decide +kernel
theorem dX5_set_70 : decode cX5_set 70 = .ok (.iconst 0, 1) := by decide +kernel
theorem dX5_set_71 : decode cX5_set 71 = .ok (.iload_n 1, 1) := by decide +kernel
theorem dX5_set_72 : decode cX5_set 72 = .ok (.iadd, 1) := by decide +kernel
theorem dX5_set_73 : decode cX5_set 73 = .ok (.iload_n 2, 1) := by decide +kernel
theorem dX5_set_74 : decode cX5_set 74 = .ok (.invokevirtual 122, 3) := by decide +kernel
theorem dX5_set_77 : decode cX5_set 77 = .ok (.goto 4, 3) := by decide +kernel
theorem dX5_set_80 : decode cX5_set 80 = .ok (.iconst 0, 1) := by decide +kernel
theorem dX5_set_81 : decode cX5_set 81 = .ok (.ireturn, 1) := by decide +kernel
theorem dX5_append_0 : decode cX5_append 0 = .ok (.aload_n 0, 1) := by decide +kernel
theorem dX5_append_1 : decode cX5_append 1 = .ok (.iload_n 1, 1) := by decide +kernel
theorem dX5_append_2 : decode cX5_append 2 = .ok (.bipush 33, 2) := by decide +kernel
theorem dX5_append_4 : decode cX5_append 4 = .ok (.bipush 126, 2) := by decide +kernel
theorem dX5_append_6 : decode cX5_append 6 = .ok (.invokestatic 29, 3) := by decide +kernel
theorem dX5_append_9 : decode cX5_append 9 = .ok (.ifCond .ne 7, 3) := by decide +kernel
theorem dX5_append_12 : decode cX5_append 12 = .ok (.iconst 1, 1) := by decide +kernel
theorem dX5_append_13 : decode cX5_append 13 = .ok (.goto 17, 3) := by decide +kernel
theorem dX5_append_16 : decode cX5_append 16 = .ok (.aload_n 0, 1) := by decide +kernel
theorem dX5_append_17 : decode cX5_append 17 = .ok (.getfield 125, 3) := by decide +kernel
theorem dX5_append_20 : decode cX5_append 20 = .ok (.bipush 60, 2) := by decide +kernel
theorem dX5_append_22 : decode cX5_append 22 = .ok (.if_icmp .ne 7, 3) := by decide +kernel
theorem dX5_append_25 : decode cX5_append 25 = .ok (.iconst 2, 1) := by decide +kernel
theorem dX5_append_26 : decode cX5_append 26 = .ok (.goto 4, 3) := by decide +kernel
theorem dX5_append_29 : decode cX5_append 29 = .ok (.iconst 0, 1) := by decide +kernel
theorem dX5_append_30 : decode cX5_append 30 = .ok (.invokevirtual 94, 3) := by decide +kernel
theorem dX5_append_33 : decode cX5_append 33 = .ok (.ifCond .ne 5, 3) := by decide +kernel
theorem dX5_append_36 : decode cX5_append 36 = .ok (.iconst 0, 1) := by decide +kernel
theorem dX5_append_37 : decode cX5_append 37 = .ok (.ireturn, 1) := by decide +kernel
theorem dX5_append_38 : decode cX5_append 38 = .ok (.aload_n 0, 1) := by decide +kernel
theorem dX5_append_39 : decode cX5_append 39 = .ok (.getfield 13, 3) := by decide +kernel
theorem dX5_append_42 : decode cX5_append 42 = .ok (.aload_n 0, 1) := by decide +kernel
theorem dX5_append_43 : decode cX5_append 43 = .ok (.getfield 125, 3) := by decide +kernel
theorem dX5_append_46 : decode cX5_append 46 = .ok (.iload_n 1, 1) := by decide +kernel
theorem dX5_append_47 : decode cX5_append 47 = .ok (.iastore, 1) := by decide +kernel
theorem dX5_append_48 : decode cX5_append 48 = .ok (.aload_n 0, 1) := by decide +kernel
theorem dX5_append_49 : decode cX5_append 49 = .ok (.dup, 1) := by decide +kernel
theorem dX5_append_50 : decode cX5_append 50 = .ok (.getfield 125, 3) := by decide +kernel
theorem dX5_append_53 : decode cX5_append 53 = .ok (.iconst 1, 1) := by decide +kernel
theorem dX5_append_54 : decode cX5_append 54 = .ok (.iadd, 1) := by decide +kernel
theorem dX5_append_55 : decode cX5_append 55 = .ok (.putfield 125, 3) := by decide +kernel
theorem dX5_append_58 : decode cX5_append 58 = .ok (.aload_n 0, 1) := by decide +kernel
theorem dX5_append_59 : decode cX5_append 59 = .ok (.getfield 125, 3) := by decide +kernel
theorem dX5_append_62 : decode cX5_append 62 = .ok (.ireturn, 1) := by decide +kernel
theorem dX5_clearBuffer_0 : decode cX5_clearBuffer 0 = .ok (.aload_n 0, 1) := by decide +kernel
theorem dX5_clearBuffer_1 : decode cX5_clearBuffer 1 = .ok (.iconst 0, 1) := by decide +kernel
theorem dX5_clearBuffer_2 : decode cX5_clearBuffer 2 = .ok (.putfield 25, 3) := by decide +kernel
theorem dX5_clearBuffer_5 : decode cX5_clearBuffer 5 = .ok (.aload_n 0, 1) := by decide +kernel
theorem dX5_clearBuffer_6 : decode cX5_clearBuffer 6 = .ok (.getfield 125, 3) := by decide +kernel
theorem dX5_clearBuffer_9 : decode cX5_clearBuffer 9 = .ok (.istore_n 1, 1) := by decide +kernel
theorem dX5_clearBuffer_10 : decode cX5_clearBuffer 10 = .ok (.aload_n 0, 1) := by decide +kernel
theorem dX5_clearBuffer_11 : decode cX5_clearBuffer 11 = .ok (.iconst 0, 1) := by decide +kernel
theorem dX5_clearBuffer_12 : decode cX5_clearBuffer 12 = .ok (.putfield 125, 3) := by decide +kernel
theorem dX5_clearBuffer_15 : decode cX5_clearBuffer 15 = .ok (.iload_n 1, 1) := by decide +kernel
theorem dX5_clearBuffer_16 : decode cX5_clearBuffer 16 = .ok (.ireturn, 1) := by decide +kernel
theorem dX5_sign_0 : decode cX5_sign 0 = .ok (.aload_n 0, 1) := by decide +kernel
theorem dX5_sign_1 : decode cX5_sign 1 = .ok (.getfield 128, 3) := by decide +kernel
theorem dX5_sign_4 : decode cX5_sign 4 = .ok (.aload_n 0, 1) := by decide +kernel
theorem dX5_sign_5 : decode cX5_sign 5 = .ok (.getfield 125, 3) := by decide +kernel
theorem dX5_sign_8 : decode cX5_sign 8 = .ok (.if_icmp .ge 15, 3) := by decide +kernel
theorem dX5_sign_11 : decode cX5_sign 11 = .ok (.aload_n 0, 1) := by decide +kernel
theorem dX5_sign_12 : decode cX5_sign 12 = .ok (.getfield 13, 3) := by decide +kernel
theorem dX5_sign_15 : decode cX5_sign 15 = .ok (.aload_n 0, 1) := by decide +kernel
theorem dX5_sign_16 : decode cX5_sign 16 = .ok (.getfield 128, 3) := by decide +kernel
theorem dX5_sign_19 : decode cX5_sign 19 = .ok (.iaload, 1) := by decide +kernel
theorem dX5_sign_20 : decode cX5_sign 20 = .ok (.goto 4, 3) := by decide +kernel
theorem dX5_sign_23 : decode cX5_sign 23 = .ok (.iconst 0, 1) := by decide +kernel
theorem dX5_sign_24 : decode cX5_sign 24 = .ok (.ireturn, 1) := by decide +kernel
theorem dX5_takes_0 : decode cX5_takes 0 = .ok (.aload_n 0, 1) := by decide +kernel
theorem dX5_takes_1 : decode cX5_takes 1 = .ok (.invokevirtual 131, 3) := by decide +kernel
theorem dX5_takes_4 : decode cX5_takes 4 = .ok (.iload_n 1, 1) := by decide +kernel
theorem dX5_takes_5 : decode cX5_takes 5 = .ok (.if_icmp .ne 7, 3) := by decide +kernel
theorem dX5_takes_8 : decode cX5_takes 8 = .ok (.iconst 1, 1) := by decide +kernel
theorem dX5_takes_9 : decode cX5_takes 9 = .ok (.goto 4, 3) := by decide +kernel
theorem dX5_takes_12 : decode cX5_takes 12 = .ok (.iconst 0, 1) := by decide +kernel
theorem dX5_takes_13 : decode cX5_takes 13 = .ok (.istore_n 2, 1) := by decide +kernel
theorem dX5_takes_14 : decode cX5_takes 14 = .ok (.aload_n 0, 1) := by decide +kernel
theorem dX5_takes_15 : decode cX5_takes 15 = .ok (.dup, 1) := by decide +kernel
theorem dX5_takes_16 : decode cX5_takes 16 = .ok (.getfield 128, 3) := by decide +kernel
theorem dX5_takes_19 : decode cX5_takes 19 = .ok (.iload_n 2, 1) := by decide +kernel
theorem dX5_takes_20 : decode cX5_takes 20 = .ok (.ifCond .eq 7, 3) := by decide +kernel
theorem dX5_takes_23 : decode cX5_takes 23 = .ok (.iconst 1, 1) := by decide +kernel
theorem dX5_takes_24 : decode cX5_takes 24 = .ok (.goto 4, 3) := by decide +kernel
theorem dX5_takes_27 : decode cX5_takes 27 = .ok (.iconst 0, 1) := by decide +kernel
theorem dX5_takes_28 : decode cX5_takes 28 = .ok (.iadd, 1) := by decide +kernel
theorem dX5_takes_29 : decode cX5_takes 29 = .ok (.putfield 128, 3) := by decide +kernel
theorem dX5_takes_32 : decode cX5_takes 32 = .ok (.iload_n 2, 1) := by decide +kernel
theorem dX5_takes_33 : decode cX5_takes 33 = .ok (.ireturn, 1) := by decide +kernel
theorem dX5_number_0 : decode cX5_number 0 = .ok (.aload_n 0, 1) := by decide +kernel
theorem dX5_number_1 : decode cX5_number 1 = .ok (.invokevirtual 131, 3) := by decide +kernel
theorem dX5_number_4 : decode cX5_number 4 = .ok (.bipush 48, 2) := by decide +kernel
theorem dX5_number_6 : decode cX5_number 6 = .ok (.bipush 57, 2) := by decide +kernel
theorem dX5_number_8 : decode cX5_number 8 = .ok (.invokestatic 29, 3) := by decide +kernel
theorem dX5_number_11 : decode cX5_number 11 = .ok (.ifCond .eq 13, 3) := by decide +kernel
theorem dX5_number_14 : decode cX5_number 14 = .ok (.aload_n 0, 1) := by decide +kernel
theorem dX5_number_15 : decode cX5_number 15 = .ok (.invokevirtual 131, 3) := by decide +kernel
theorem dX5_number_18 : decode cX5_number 18 = .ok (.bipush 48, 2) := by decide +kernel
theorem dX5_number_20 : decode cX5_number 20 = .ok (.isub, 1) := by decide +kernel
theorem dX5_number_21 : decode cX5_number 21 = .ok (.goto 4, 3) := by decide +kernel
theorem dX5_number_24 : decode cX5_number 24 = .ok (.iconst (-1), 1) := by decide +kernel
theorem dX5_number_25 : decode cX5_number 25 = .ok (.istore_n 2, 1) := by decide +kernel
theorem dX5_number_26 : decode cX5_number 26 = .ok (.aload_n 0, 1) := by decide +kernel
theorem dX5_number_27 : decode cX5_number 27 = .ok (.dup, 1) := by decide +kernel
theorem dX5_number_28 : decode cX5_number 28 = .ok (.getfield 128, 3) := by decide +kernel
theorem dX5_number_31 : decode cX5_number 31 = .ok (.iload_n 2, 1) := by decide +kernel
theorem dX5_number_32 : decode cX5_number 32 = .ok (.iconst (-1), 1) := by decide +kernel
theorem dX5_number_33 : decode cX5_number 33 = .ok (.if_icmp .ne 7, 3) := by decide +kernel
theorem dX5_number_36 : decode cX5_number 36 = .ok (.iconst 0, 1) := by decide +kernel
theorem dX5_number_37 : decode cX5_number 37 = .ok (.goto 4, 3) := by decide +kernel
theorem dX5_number_40 : decode cX5_number 40 = .ok (.iconst 1, 1) := by decide +kernel
theorem dX5_number_41 : decode cX5_number 41 = .ok (.iadd, 1) := by decide +kernel
theorem dX5_number_42 : decode cX5_number 42 = .ok (.putfield 128, 3) := by decide +kernel
theorem dX5_number_45 : decode cX5_number 45 = .ok (.iload_n 2, 1) := by decide +kernel
theorem dX5_number_46 : decode cX5_number 46 = .ok (.iconst 1, 1) := by decide +kernel
theorem dX5_number_47 : decode cX5_number 47 = .ok (.if_icmp .ne 43, 3) := by decide +kernel
theorem dX5_number_50 : decode cX5_number 50 = .ok (.aload_n 0, 1) := by decide +kernel
theorem dX5_number_51 : decode cX5_number 51 = .ok (.invokevirtual 131, 3) := by decide +kernel
theorem dX5_number_54 : decode cX5_number 54 = .ok (.bipush 48, 2) := by decide +kernel
theorem dX5_number_56 : decode cX5_number 56 = .ok (.bipush 48, 2) := by decide +kernel
theorem dX5_number_58 : decode cX5_number 58 = .ok (.iload_n 1, 1) := by decide +kernel
theorem dX5_number_59 : decode cX5_number 59 = .ok (.iadd, 1) := by decide +kernel
theorem dX5_number_60 : decode cX5_number 60 = .ok (.bipush 10, 2) := by decide +kernel
theorem dX5_number_62 : decode cX5_number 62 = .ok (.isub, 1) := by decide +kernel
theorem dX5_number_63 : decode cX5_number 63 = .ok (.invokestatic 29, 3) := by decide +kernel
theorem dX5_number_66 : decode cX5_number 66 = .ok (.ifCond .eq 24, 3) := by decide +kernel
theorem dX5_number_69 : decode cX5_number 69 = .ok (.bipush 10, 2) := by decide +kernel
theorem dX5_number_71 : decode cX5_number 71 = .ok (.aload_n 0, 1) := by decide +kernel
theorem dX5_number_72 : decode cX5_number 72 = .ok (.invokevirtual 131, 3) := by decide +kernel
theorem dX5_number_75 : decode cX5_number 75 = .ok (.iadd, 1) := by decide +kernel
theorem dX5_number_76 : decode cX5_number 76 = .ok (.bipush 48, 2) := by decide +kernel
theorem dX5_number_78 : decode cX5_number 78 = .ok (.isub, 1) := by decide +kernel
theorem dX5_number_79 : decode cX5_number 79 = .ok (.istore_n 2, 1) := by decide +kernel
theorem dX5_number_80 : decode cX5_number 80 = .ok (.aload_n 0, 1) := by decide +kernel
theorem dX5_number_81 : decode cX5_number 81 = .ok (.dup, 1) := by decide +kernel
theorem dX5_number_82 : decode cX5_number 82 = .ok (.getfield 128, 3) := by decide +kernel
theorem dX5_number_85 : decode cX5_number 85 = .ok (.iconst 1, 1) := by decide +kernel
theorem dX5_number_86 : decode cX5_number 86 = .ok (.iadd, 1) := by decide +kernel
theorem dX5_number_87 : decode cX5_number 87 = .ok (.putfield 128, 3) := by decide +kernel
theorem dX5_number_90 : decode cX5_number 90 = .ok (.iload_n 2, 1) := by decide +kernel
theorem dX5_number_91 : decode cX5_number 91 = .ok (.ireturn, 1) := by decide +kernel
theorem dX5_readsPart_0 : decode cX5_readsPart 0 = .ok (.aload_n 0, 1) := by decide +kernel
theorem dX5_readsPart_1 : decode cX5_readsPart 1 = .ok (.aload_n 0, 1) := by decide +kernel
theorem dX5_readsPart_2 : decode cX5_readsPart 2 = .ok (.invokevirtual 131, 3) := by decide +kernel
theorem dX5_readsPart_5 : decode cX5_readsPart 5 = .ok (.putfield 134, 3) := by decide +kernel
theorem dX5_readsPart_8 : decode cX5_readsPart 8 = .ok (.aload_n 0, 1) := by decide +kernel
theorem dX5_readsPart_9 : decode cX5_readsPart 9 = .ok (.bipush 98, 2) := by decide +kernel
theorem dX5_readsPart_11 : decode cX5_readsPart 11 = .ok (.invokevirtual 137, 3) := by decide +kernel
theorem dX5_readsPart_14 : decode cX5_readsPart 14 = .ok (.ifCond .eq 5, 3) := by decide +kernel
theorem dX5_readsPart_17 : decode cX5_readsPart 17 = .ok (.iconst 1, 1) := by decide +kernel
theorem dX5_readsPart_18 : decode cX5_readsPart 18 = .ok (.ireturn, 1) := by decide +kernel
theorem dX5_readsPart_19 : decode cX5_readsPart 19 = .ok (.aload_n 0, 1) := by decide +kernel
theorem dX5_readsPart_20 : decode cX5_readsPart 20 = .ok (.bipush 103, 2) := by decide +kernel
theorem dX5_readsPart_22 : decode cX5_readsPart 22 = .ok (.invokevirtual 137, 3) := by decide +kernel
theorem dX5_readsPart_25 : decode cX5_readsPart 25 = .ok (.ifCond .eq 27, 3) := by decide +kernel
theorem dX5_readsPart_28 : decode cX5_readsPart 28 = .ok (.aload_n 0, 1) := by decide +kernel
theorem dX5_readsPart_29 : decode cX5_readsPart 29 = .ok (.aload_n 0, 1) := by decide +kernel
theorem dX5_readsPart_30 : decode cX5_readsPart 30 = .ok (.bipush 15, 2) := by decide +kernel
theorem dX5_readsPart_32 : decode cX5_readsPart 32 = .ok (.invokevirtual 140, 3) := by decide +kernel
theorem dX5_readsPart_35 : decode cX5_readsPart 35 = .ok (.putfield 143, 3) := by decide +kernel
theorem dX5_readsPart_38 : decode cX5_readsPart 38 = .ok (.aload_n 0, 1) := by decide +kernel
theorem dX5_readsPart_39 : decode cX5_readsPart 39 = .ok (.getfield 143, 3) := by decide +kernel
theorem dX5_readsPart_42 : decode cX5_readsPart 42 = .ok (.iconst (-1), 1) := by decide +kernel
theorem dX5_readsPart_43 : decode cX5_readsPart 43 = .ok (.if_icmp .eq 7, 3) := by decide +kernel
theorem dX5_readsPart_46 : decode cX5_readsPart 46 = .ok (.iconst 1, 1) := by decide +kernel
theorem dX5_readsPart_47 : decode cX5_readsPart 47 = .ok (.goto 4, 3) := by decide +kernel
theorem dX5_readsPart_50 : decode cX5_readsPart 50 = .ok (.iconst 0, 1) := by decide +kernel
theorem dX5_readsPart_51 : decode cX5_readsPart 51 = .ok (.ireturn, 1) := by decide +kernel
theorem dX5_readsPart_52 : decode cX5_readsPart 52 = .ok (.aload_n 0, 1) := by decide +kernel
theorem dX5_readsPart_53 : decode cX5_readsPart 53 = .ok (.bipush 112, 2) := by decide +kernel
theorem dX5_readsPart_55 : decode cX5_readsPart 55 = .ok (.invokevirtual 137, 3) := by decide +kernel
theorem dX5_readsPart_58 : decode cX5_readsPart 58 = .ok (.ifCond .ne 12, 3) := by decide +kernel
theorem dX5_readsPart_61 : decode cX5_readsPart 61 = .ok (.aload_n 0, 1) := by decide +kernel
theorem dX5_readsPart_62 : decode cX5_readsPart 62 = .ok (.bipush 102, 2) := by decide +kernel
theorem dX5_readsPart_64 : decode cX5_readsPart 64 = .ok (.invokevirtual 137, 3) := by decide +kernel
theorem dX5_readsPart_67 : decode cX5_readsPart 67 = .ok (.ifCond .eq 27, 3) := by decide +kernel
theorem dX5_readsPart_70 : decode cX5_readsPart 70 = .ok (.aload_n 0, 1) := by decide +kernel
theorem dX5_readsPart_71 : decode cX5_readsPart 71 = .ok (.aload_n 0, 1) := by decide +kernel
theorem dX5_readsPart_72 : decode cX5_readsPart 72 = .ok (.bipush 19, 2) := by decide +kernel
theorem dX5_readsPart_74 : decode cX5_readsPart 74 = .ok (.invokevirtual 140, 3) := by decide +kernel
theorem dX5_readsPart_77 : decode cX5_readsPart 77 = .ok (.putfield 143, 3) := by decide +kernel
theorem dX5_readsPart_80 : decode cX5_readsPart 80 = .ok (.aload_n 0, 1) := by decide +kernel
theorem dX5_readsPart_81 : decode cX5_readsPart 81 = .ok (.getfield 143, 3) := by decide +kernel
theorem dX5_readsPart_84 : decode cX5_readsPart 84 = .ok (.iconst (-1), 1) := by decide +kernel
theorem dX5_readsPart_85 : decode cX5_readsPart 85 = .ok (.if_icmp .eq 7, 3) := by decide +kernel
theorem dX5_readsPart_88 : decode cX5_readsPart 88 = .ok (.iconst 1, 1) := by decide +kernel
theorem dX5_readsPart_89 : decode cX5_readsPart 89 = .ok (.goto 4, 3) := by decide +kernel
theorem dX5_readsPart_92 : decode cX5_readsPart 92 = .ok (.iconst 0, 1) := by decide +kernel
theorem dX5_readsPart_93 : decode cX5_readsPart 93 = .ok (.ireturn, 1) := by decide +kernel
theorem dX5_readsPart_94 : decode cX5_readsPart 94 = .ok (.aload_n 0, 1) := by decide +kernel
theorem dX5_readsPart_95 : decode cX5_readsPart 95 = .ok (.aload_n 0, 1) := by decide +kernel
theorem dX5_readsPart_96 : decode cX5_readsPart 96 = .ok (.bipush 109, 2) := by decide +kernel
theorem dX5_readsPart_98 : decode cX5_readsPart 98 = .ok (.invokevirtual 137, 3) := by decide +kernel
theorem dX5_readsPart_101 : decode cX5_readsPart 101 = .ok (.ifCond .eq 12, 3) := by decide +kernel
theorem dX5_readsPart_104 : decode cX5_readsPart 104 = .ok (.aload_n 0, 1) := by decide +kernel
theorem dX5_readsPart_105 : decode cX5_readsPart 105 = .ok (.bipush 19, 2) := by decide +kernel
theorem dX5_readsPart_107 : decode cX5_readsPart 107 = .ok (.invokevirtual 140, 3) := by decide +kernel
theorem dX5_readsPart_110 : decode cX5_readsPart 110 = .ok (.goto 4, 3) := by decide +kernel
theorem dX5_readsPart_113 : decode cX5_readsPart 113 = .ok (.iconst (-1), 1) := by decide +kernel
theorem dX5_readsPart_114 : decode cX5_readsPart 114 = .ok (.putfield 143, 3) := by decide +kernel
theorem dX5_readsPart_117 : decode cX5_readsPart 117 = .ok (.aload_n 0, 1) := by decide +kernel
theorem dX5_readsPart_118 : decode cX5_readsPart 118 = .ok (.aload_n 0, 1) := by decide +kernel
theorem dX5_readsPart_119 : decode cX5_readsPart 119 = .ok (.getfield 143, 3) := by decide +kernel
theorem dX5_readsPart_122 : decode cX5_readsPart 122 = .ok (.iconst (-1), 1) := by decide +kernel
theorem dX5_readsPart_123 : decode cX5_readsPart 123 = .ok (.if_icmp .eq 21, 3) := by decide +kernel
theorem dX5_readsPart_126 : decode cX5_readsPart 126 = .ok (.aload_n 0, 1) := by decide +kernel
theorem dX5_readsPart_127 : decode cX5_readsPart 127 = .ok (.bipush 62, 2) := by decide +kernel
theorem dX5_readsPart_129 : decode cX5_readsPart 129 = .ok (.invokevirtual 137, 3) := by decide +kernel
theorem dX5_readsPart_132 : decode cX5_readsPart 132 = .ok (.ifCond .eq 12, 3) := by decide +kernel
theorem dX5_readsPart_135 : decode cX5_readsPart 135 = .ok (.aload_n 0, 1) := by decide +kernel
theorem dX5_readsPart_136 : decode cX5_readsPart 136 = .ok (.bipush 19, 2) := by decide +kernel
theorem dX5_readsPart_138 : decode cX5_readsPart 138 = .ok (.invokevirtual 140, 3) := by decide +kernel
theorem dX5_readsPart_141 : decode cX5_readsPart 141 = .ok (.goto 4, 3) := by decide +kernel
theorem dX5_readsPart_144 : decode cX5_readsPart 144 = .ok (.iconst (-1), 1) := by decide +kernel
theorem dX5_readsPart_145 : decode cX5_readsPart 145 = .ok (.putfield 146, 3) := by decide +kernel
theorem dX5_readsPart_148 : decode cX5_readsPart 148 = .ok (.aload_n 0, 1) := by decide +kernel
theorem dX5_readsPart_149 : decode cX5_readsPart 149 = .ok (.getfield 146, 3) := by decide +kernel
theorem dX5_readsPart_152 : decode cX5_readsPart 152 = .ok (.iconst (-1), 1) := by decide +kernel
theorem dX5_readsPart_153 : decode cX5_readsPart 153 = .ok (.if_icmp .eq 7, 3) := by decide +kernel
theorem dX5_readsPart_156 : decode cX5_readsPart 156 = .ok (.iconst 1, 1) := by decide +kernel
theorem dX5_readsPart_157 : decode cX5_readsPart 157 = .ok (.goto 4, 3) := by decide +kernel
theorem dX5_readsPart_160 : decode cX5_readsPart 160 = .ok (.iconst 0, 1) := by decide +kernel
theorem dX5_readsPart_161 : decode cX5_readsPart 161 = .ok (.ireturn, 1) := by decide +kernel
theorem dX5_isWork_0 : decode cX5_isWork 0 = .ok (.aload_n 0, 1) := by decide +kernel
theorem dX5_isWork_1 : decode cX5_isWork 1 = .ok (.iconst 0, 1) := by decide +kernel
theorem dX5_isWork_2 : decode cX5_isWork 2 = .ok (.putfield 128, 3) := by decide +kernel
theorem dX5_isWork_5 : decode cX5_isWork 5 = .ok (.aload_n 0, 1) := by decide +kernel
theorem dX5_isWork_6 : decode cX5_isWork 6 = .ok (.invokevirtual 149, 3) := by decide +kernel
theorem dX5_isWork_9 : decode cX5_isWork 9 = .ok (.ifCond .eq 27, 3) := by decide +kernel
theorem dX5_isWork_12 : decode cX5_isWork 12 = .ok (.aload_n 0, 1) := by decide +kernel
theorem dX5_isWork_13 : decode cX5_isWork 13 = .ok (.getfield 128, 3) := by decide +kernel
theorem dX5_isWork_16 : decode cX5_isWork 16 = .ok (.aload_n 0, 1) := by decide +kernel
theorem dX5_isWork_17 : decode cX5_isWork 17 = .ok (.getfield 125, 3) := by decide +kernel
theorem dX5_isWork_20 : decode cX5_isWork 20 = .ok (.if_icmp .ne 5, 3) := by decide +kernel
theorem dX5_isWork_23 : decode cX5_isWork 23 = .ok (.iconst 1, 1) := by decide +kernel
theorem dX5_isWork_24 : decode cX5_isWork 24 = .ok (.ireturn, 1) := by decide +kernel
theorem dX5_isWork_25 : decode cX5_isWork 25 = .ok (.aload_n 0, 1) := by decide +kernel
theorem dX5_isWork_26 : decode cX5_isWork 26 = .ok (.bipush 59, 2) := by decide +kernel
theorem dX5_isWork_28 : decode cX5_isWork 28 = .ok (.invokevirtual 137, 3) := by decide +kernel
theorem dX5_isWork_31 : decode cX5_isWork 31 = .ok (.ifCond .ne (-26), 3) := by decide +kernel
theorem dX5_isWork_34 : decode cX5_isWork 34 = .ok (.iconst 0, 1) := by decide +kernel
theorem dX5_isWork_35 : decode cX5_isWork 35 = .ok (.ireturn, 1) := by decide +kernel
theorem dX5_isWork_36 : decode cX5_isWork 36 = .ok (.iconst 0, 1) := by decide +kernel
theorem dX5_isWork_37 : decode cX5_isWork 37 = .ok (.ireturn, 1) := by decide +kernel
theorem dX5_firstError_0 : decode cX5_firstError 0 = .ok (.aload_n 0, 1) := by decide +kernel
theorem dX5_firstError_1 : decode cX5_firstError 1 = .ok (.iconst 0, 1) := by decide +kernel
theorem dX5_firstError_2 : decode cX5_firstError 2 = .ok (.putfield 25, 3) := by decide +kernel
theorem dX5_firstError_5 : decode cX5_firstError 5 = .ok (.aload_n 0, 1) := by decide +kernel
theorem dX5_firstError_6 : decode cX5_firstError 6 = .ok (.invokevirtual 152, 3) := by decide +kernel
theorem dX5_firstError_9 : decode cX5_firstError 9 = .ok (.pop, 1) := by decide +kernel
theorem dX5_firstError_10 : decode cX5_firstError 10 = .ok (.aload_n 0, 1) := by decide +kernel
theorem dX5_firstError_11 : decode cX5_firstError 11 = .ok (.getfield 128, 3) := by decide +kernel
theorem dX5_firstError_14 : decode cX5_firstError 14 = .ok (.ireturn, 1) := by decide +kernel
theorem dX5_isDone_0 : decode cX5_isDone 0 = .ok (.aload_n 0, 1) := by decide +kernel
theorem dX5_isDone_1 : decode cX5_isDone 1 = .ok (.getfield 134, 3) := by decide +kernel
theorem dX5_isDone_4 : decode cX5_isDone 4 = .ok (.lookupswitch 177 #[(102, 106), (103, 44), (109, 134), (112, 78)], 44) := by decide +kernel
theorem dX5_isDone_48 : decode cX5_isDone 48 = .ok (.aload_n 0, 1) := by decide +kernel
theorem dX5_isDone_49 : decode cX5_isDone 49 = .ok (.aload_n 0, 1) := by decide +kernel
theorem dX5_isDone_50 : decode cX5_isDone 50 = .ok (.getfield 143, 3) := by decide +kernel
theorem dX5_isDone_53 : decode cX5_isDone 53 = .ok (.invokevirtual 91, 3) := by decide +kernel
theorem dX5_isDone_56 : decode cX5_isDone 56 = .ok (.ifCond .eq 24, 3) := by decide +kernel
theorem dX5_isDone_59 : decode cX5_isDone 59 = .ok (.aload_n 0, 1) := by decide +kernel
theorem dX5_isDone_60 : decode cX5_isDone 60 = .ok (.aload_n 0, 1) := by decide +kernel
theorem dX5_isDone_61 : decode cX5_isDone 61 = .ok (.getfield 7, 3) := by decide +kernel
theorem dX5_isDone_64 : decode cX5_isDone 64 = .ok (.iconst 3, 1) := by decide +kernel
theorem dX5_isDone_65 : decode cX5_isDone 65 = .ok (.iaload, 1) := by decide +kernel
theorem dX5_isDone_66 : decode cX5_isDone 66 = .ok (.aload_n 0, 1) := by decide +kernel
theorem dX5_isDone_67 : decode cX5_isDone 67 = .ok (.getfield 143, 3) := by decide +kernel
theorem dX5_isDone_70 : decode cX5_isDone 70 = .ok (.invokevirtual 100, 3) := by decide +kernel
theorem dX5_isDone_73 : decode cX5_isDone 73 = .ok (.ifCond .le 7, 3) := by decide +kernel
theorem dX5_isDone_76 : decode cX5_isDone 76 = .ok (.iconst 1, 1) := by decide +kernel
theorem dX5_isDone_77 : decode cX5_isDone 77 = .ok (.goto 4, 3) := by decide +kernel
theorem dX5_isDone_80 : decode cX5_isDone 80 = .ok (.iconst 0, 1) := by decide +kernel
theorem dX5_isDone_81 : decode cX5_isDone 81 = .ok (.ireturn, 1) := by decide +kernel
theorem dX5_isDone_82 : decode cX5_isDone 82 = .ok (.aload_n 0, 1) := by decide +kernel
theorem dX5_isDone_83 : decode cX5_isDone 83 = .ok (.aload_n 0, 1) := by decide +kernel
theorem dX5_isDone_84 : decode cX5_isDone 84 = .ok (.getfield 143, 3) := by decide +kernel
theorem dX5_isDone_87 : decode cX5_isDone 87 = .ok (.invokevirtual 103, 3) := by decide +kernel
theorem dX5_isDone_90 : decode cX5_isDone 90 = .ok (.ifCond .eq 18, 3) := by decide +kernel
theorem dX5_isDone_93 : decode cX5_isDone 93 = .ok (.aload_n 0, 1) := by decide +kernel
theorem dX5_isDone_94 : decode cX5_isDone 94 = .ok (.aload_n 0, 1) := by decide +kernel
theorem dX5_isDone_95 : decode cX5_isDone 95 = .ok (.getfield 143, 3) := by decide +kernel
theorem dX5_isDone_98 : decode cX5_isDone 98 = .ok (.invokevirtual 106, 3) := by decide +kernel
theorem dX5_isDone_101 : decode cX5_isDone 101 = .ok (.ifCond .lt 7, 3) := by decide +kernel
theorem dX5_isDone_104 : decode cX5_isDone 104 = .ok (.iconst 1, 1) := by decide +kernel
theorem dX5_isDone_105 : decode cX5_isDone 105 = .ok (.goto 4, 3) := by decide +kernel
theorem dX5_isDone_108 : decode cX5_isDone 108 = .ok (.iconst 0, 1) := by decide +kernel
theorem dX5_isDone_109 : decode cX5_isDone 109 = .ok (.ireturn, 1) := by decide +kernel
theorem dX5_isDone_110 : decode cX5_isDone 110 = .ok (.aload_n 0, 1) := by decide +kernel
theorem dX5_isDone_111 : decode cX5_isDone 111 = .ok (.aload_n 0, 1) := by decide +kernel
theorem dX5_isDone_112 : decode cX5_isDone 112 = .ok (.getfield 143, 3) := by decide +kernel
theorem dX5_isDone_115 : decode cX5_isDone 115 = .ok (.invokevirtual 103, 3) := by decide +kernel
theorem dX5_isDone_118 : decode cX5_isDone 118 = .ok (.ifCond .eq 18, 3) := by decide +kernel
theorem dX5_isDone_121 : decode cX5_isDone 121 = .ok (.aload_n 0, 1) := by decide +kernel
theorem dX5_isDone_122 : decode cX5_isDone 122 = .ok (.aload_n 0, 1) := by decide +kernel
theorem dX5_isDone_123 : decode cX5_isDone 123 = .ok (.getfield 143, 3) := by decide +kernel
theorem dX5_isDone_126 : decode cX5_isDone 126 = .ok (.invokevirtual 109, 3) := by decide +kernel
theorem dX5_isDone_129 : decode cX5_isDone 129 = .ok (.ifCond .lt 7, 3) := by decide +kernel
theorem dX5_isDone_132 : decode cX5_isDone 132 = .ok (.iconst 1, 1) := by decide +kernel
theorem dX5_isDone_133 : decode cX5_isDone 133 = .ok (.goto 4, 3) := by decide +kernel
theorem dX5_isDone_136 : decode cX5_isDone 136 = .ok (.iconst 0, 1) := by decide +kernel
theorem dX5_isDone_137 : decode cX5_isDone 137 = .ok (.ireturn, 1) := by decide +kernel
theorem dX5_isDone_138 : decode cX5_isDone 138 = .ok (.aload_n 0, 1) := by decide +kernel
theorem dX5_isDone_139 : decode cX5_isDone 139 = .ok (.aload_n 0, 1) := by decide +kernel
theorem dX5_isDone_140 : decode cX5_isDone 140 = .ok (.getfield 143, 3) := by decide +kernel
theorem dX5_isDone_143 : decode cX5_isDone 143 = .ok (.invokevirtual 103, 3) := by decide +kernel
theorem dX5_isDone_146 : decode cX5_isDone 146 = .ok (.ifCond .eq 33, 3) := by decide +kernel
theorem dX5_isDone_149 : decode cX5_isDone 149 = .ok (.aload_n 0, 1) := by decide +kernel
theorem dX5_isDone_150 : decode cX5_isDone 150 = .ok (.aload_n 0, 1) := by decide +kernel
theorem dX5_isDone_151 : decode cX5_isDone 151 = .ok (.getfield 146, 3) := by decide +kernel
theorem dX5_isDone_154 : decode cX5_isDone 154 = .ok (.invokevirtual 103, 3) := by decide +kernel
theorem dX5_isDone_157 : decode cX5_isDone 157 = .ok (.ifCond .eq 22, 3) := by decide +kernel
theorem dX5_isDone_160 : decode cX5_isDone 160 = .ok (.aload_n 0, 1) := by decide +kernel
theorem dX5_isDone_161 : decode cX5_isDone 161 = .ok (.aload_n 0, 1) := by decide +kernel
theorem dX5_isDone_162 : decode cX5_isDone 162 = .ok (.getfield 143, 3) := by decide +kernel
theorem dX5_isDone_165 : decode cX5_isDone 165 = .ok (.aload_n 0, 1) := by decide +kernel
theorem dX5_isDone_166 : decode cX5_isDone 166 = .ok (.getfield 146, 3) := by decide +kernel
theorem dX5_isDone_169 : decode cX5_isDone 169 = .ok (.invokevirtual 112, 3) := by decide +kernel
theorem dX5_isDone_172 : decode cX5_isDone 172 = .ok (.ifCond .lt 7, 3) := by decide +kernel
theorem dX5_isDone_175 : decode cX5_isDone 175 = .ok (.iconst 1, 1) := by decide +kernel
theorem dX5_isDone_176 : decode cX5_isDone 176 = .ok (.goto 4, 3) := by decide +kernel
theorem dX5_isDone_179 : decode cX5_isDone 179 = .ok (.iconst 0, 1) := by decide +kernel
theorem dX5_isDone_180 : decode cX5_isDone 180 = .ok (.ireturn, 1) := by decide +kernel
theorem dX5_isDone_181 : decode cX5_isDone 181 = .ok (.aload_n 0, 1) := by decide +kernel
theorem dX5_isDone_182 : decode cX5_isDone 182 = .ok (.invokevirtual 115, 3) := by decide +kernel
theorem dX5_isDone_185 : decode cX5_isDone 185 = .ok (.ifCond .eq 14, 3) := by decide +kernel
theorem dX5_isDone_188 : decode cX5_isDone 188 = .ok (.aload_n 0, 1) := by decide +kernel
theorem dX5_isDone_189 : decode cX5_isDone 189 = .ok (.invokevirtual 119, 3) := by decide +kernel
theorem dX5_isDone_192 : decode cX5_isDone 192 = .ok (.ifCond .le 7, 3) := by decide +kernel
theorem dX5_isDone_195 : decode cX5_isDone 195 = .ok (.iconst 1, 1) := by decide +kernel
theorem dX5_isDone_196 : decode cX5_isDone 196 = .ok (.goto 4, 3) := by decide +kernel
theorem dX5_isDone_199 : decode cX5_isDone 199 = .ok (.iconst 0, 1) := by decide +kernel
theorem dX5_isDone_200 : decode cX5_isDone 200 = .ok (.ireturn, 1) := by decide +kernel
theorem dX5_work_0 : decode cX5_work 0 = .ok (.aload_n 0, 1) := by decide +kernel
theorem dX5_work_1 : decode cX5_work 1 = .ok (.aload_n 0, 1) := by decide +kernel
theorem dX5_work_2 : decode cX5_work 2 = .ok (.invokevirtual 152, 3) := by decide +kernel
theorem dX5_work_5 : decode cX5_work 5 = .ok (.ifCond .eq 7, 3) := by decide +kernel
theorem dX5_work_8 : decode cX5_work 8 = .ok (.iconst 0, 1) := by decide +kernel
theorem dX5_work_9 : decode cX5_work 9 = .ok (.goto 4, 3) := by decide +kernel
theorem dX5_work_12 : decode cX5_work 12 = .ok (.iconst 1, 1) := by decide +kernel
theorem dX5_work_13 : decode cX5_work 13 = .ok (.invokevirtual 94, 3) := by decide +kernel
theorem dX5_work_16 : decode cX5_work 16 = .ok (.ifCond .ne 5, 3) := by decide +kernel
theorem dX5_work_19 : decode cX5_work 19 = .ok (.iconst 0, 1) := by decide +kernel
theorem dX5_work_20 : decode cX5_work 20 = .ok (.ireturn, 1) := by decide +kernel
theorem dX5_work_21 : decode cX5_work 21 = .ok (.aload_n 0, 1) := by decide +kernel
theorem dX5_work_22 : decode cX5_work 22 = .ok (.invokevirtual 97, 3) := by decide +kernel
theorem dX5_work_25 : decode cX5_work 25 = .ok (.aload_n 0, 1) := by decide +kernel
theorem dX5_work_26 : decode cX5_work 26 = .ok (.getfield 7, 3) := by decide +kernel
theorem dX5_work_29 : decode cX5_work 29 = .ok (.iconst 5, 1) := by decide +kernel
theorem dX5_work_30 : decode cX5_work 30 = .ok (.iconst (-1), 1) := by decide +kernel
theorem dX5_work_31 : decode cX5_work 31 = .ok (.iastore, 1) := by decide +kernel
theorem dX5_work_32 : decode cX5_work 32 = .ok (.aload_n 0, 1) := by decide +kernel
theorem dX5_work_33 : decode cX5_work 33 = .ok (.iconst 0, 1) := by decide +kernel
theorem dX5_work_34 : decode cX5_work 34 = .ok (.putfield 128, 3) := by decide +kernel
theorem dX5_work_37 : decode cX5_work 37 = .ok (.iconst 0, 1) := by decide +kernel
theorem dX5_work_38 : decode cX5_work 38 = .ok (.istore_n 1, 1) := by decide +kernel
theorem dX5_work_39 : decode cX5_work 39 = .ok (.aload_n 0, 1) := by decide +kernel
theorem dX5_work_40 : decode cX5_work 40 = .ok (.getfield 7, 3) := by decide +kernel
theorem dX5_work_43 : decode cX5_work 43 = .ok (.iconst 5, 1) := by decide +kernel
theorem dX5_work_44 : decode cX5_work 44 = .ok (.iaload, 1) := by decide +kernel
theorem dX5_work_45 : decode cX5_work 45 = .ok (.iconst (-1), 1) := by decide +kernel
theorem dX5_work_46 : decode cX5_work 46 = .ok (.if_icmp .ne 52, 3) := by decide +kernel
theorem dX5_work_49 : decode cX5_work 49 = .ok (.aload_n 0, 1) := by decide +kernel
theorem dX5_work_50 : decode cX5_work 50 = .ok (.invokevirtual 149, 3) := by decide +kernel
theorem dX5_work_53 : decode cX5_work 53 = .ok (.ifCond .eq 45, 3) := by decide +kernel
theorem dX5_work_56 : decode cX5_work 56 = .ok (.aload_n 0, 1) := by decide +kernel
theorem dX5_work_57 : decode cX5_work 57 = .ok (.invokevirtual 155, 3) := by decide +kernel
theorem dX5_work_60 : decode cX5_work 60 = .ok (.istore_n 2, 1) := by decide +kernel
theorem dX5_work_61 : decode cX5_work 61 = .ok (.aload_n 0, 1) := by decide +kernel
theorem dX5_work_62 : decode cX5_work 62 = .ok (.getfield 7, 3) := by decide +kernel
theorem dX5_work_65 : decode cX5_work 65 = .ok (.iconst 5, 1) := by decide +kernel
theorem dX5_work_66 : decode cX5_work 66 = .ok (.iload_n 2, 1) := by decide +kernel
theorem dX5_work_67 : decode cX5_work 67 = .ok (.ifCond .eq 7, 3) := by decide +kernel
theorem dX5_work_70 : decode cX5_work 70 = .ok (.iconst (-1), 1) := by decide +kernel
theorem dX5_work_71 : decode cX5_work 71 = .ok (.goto 4, 3) := by decide +kernel
theorem dX5_work_74 : decode cX5_work 74 = .ok (.iload_n 1, 1) := by decide +kernel
theorem dX5_work_75 : decode cX5_work 75 = .ok (.iastore, 1) := by decide +kernel
theorem dX5_work_76 : decode cX5_work 76 = .ok (.iload_n 1, 1) := by decide +kernel
theorem dX5_work_77 : decode cX5_work 77 = .ok (.iload_n 2, 1) := by decide +kernel
theorem dX5_work_78 : decode cX5_work 78 = .ok (.ifCond .eq 7, 3) := by decide +kernel
theorem dX5_work_81 : decode cX5_work 81 = .ok (.iconst 1, 1) := by decide +kernel
theorem dX5_work_82 : decode cX5_work 82 = .ok (.goto 4, 3) := by decide +kernel
theorem dX5_work_85 : decode cX5_work 85 = .ok (.iconst 0, 1) := by decide +kernel
theorem dX5_work_86 : decode cX5_work 86 = .ok (.iadd, 1) := by decide +kernel
theorem dX5_work_87 : decode cX5_work 87 = .ok (.istore_n 1, 1) := by decide +kernel
theorem dX5_work_88 : decode cX5_work 88 = .ok (.aload_n 0, 1) := by decide +kernel
theorem dX5_work_89 : decode cX5_work 89 = .ok (.bipush 59, 2) := by decide +kernel
theorem dX5_work_91 : decode cX5_work 91 = .ok (.invokevirtual 137, 3) := by decide +kernel
theorem dX5_work_94 : decode cX5_work 94 = .ok (.pop, 1) := by decide +kernel
theorem dX5_work_95 : decode cX5_work 95 = .ok (.goto (-56), 3) := by decide +kernel
theorem dX5_work_98 : decode cX5_work 98 = .ok (.aload_n 0, 1) := by decide +kernel
theorem dX5_work_99 : decode cX5_work 99 = .ok (.iconst 0, 1) := by decide +kernel
theorem dX5_work_100 : decode cX5_work 100 = .ok (.putfield 125, 3) := by decide +kernel
theorem dX5_work_103 : decode cX5_work 103 = .ok (.iload_n 1, 1) := by decide +kernel
theorem dX5_work_104 : decode cX5_work 104 = .ok (.ireturn, 1) := by decide +kernel
theorem dX5_keep_0 : decode cX5_keep 0 = .ok (.aload_n 0, 1) := by decide +kernel
theorem dX5_keep_1 : decode cX5_keep 1 = .ok (.iconst 0, 1) := by decide +kernel
theorem dX5_keep_2 : decode cX5_keep 2 = .ok (.putfield 25, 3) := by decide +kernel
theorem dX5_keep_5 : decode cX5_keep 5 = .ok (.aload_n 0, 1) := by decide +kernel
theorem dX5_keep_6 : decode cX5_keep 6 = .ok (.iconst 0, 1) := by decide +kernel
theorem dX5_keep_7 : decode cX5_keep 7 = .ok (.bipush 7, 2) := by decide +kernel
theorem dX5_keep_9 : decode cX5_keep 9 = .ok (.invokevirtual 84, 3) := by decide +kernel
theorem dX5_keep_12 : decode cX5_keep 12 = .ok (.aload_n 0, 1) := by decide +kernel
theorem dX5_keep_13 : decode cX5_keep 13 = .ok (.iconst 1, 1) := by decide +kernel
theorem dX5_keep_14 : decode cX5_keep 14 = .ok (.putfield 158, 3) := by decide +kernel
theorem dX5_keep_17 : decode cX5_keep 17 = .ok (.aload_n 0, 1) := by decide +kernel
theorem dX5_keep_18 : decode cX5_keep 18 = .ok (.getfield 7, 3) := by decide +kernel
theorem dX5_keep_21 : decode cX5_keep 21 = .ok (.iconst 3, 1) := by decide +kernel
theorem dX5_keep_22 : decode cX5_keep 22 = .ok (.iaload, 1) := by decide +kernel
theorem dX5_keep_23 : decode cX5_keep 23 = .ok (.ireturn, 1) := by decide +kernel
theorem dX5_goBack_0 : decode cX5_goBack 0 = .ok (.aload_n 0, 1) := by decide +kernel
theorem dX5_goBack_1 : decode cX5_goBack 1 = .ok (.aload_n 0, 1) := by decide +kernel
theorem dX5_goBack_2 : decode cX5_goBack 2 = .ok (.getfield 158, 3) := by decide +kernel
theorem dX5_goBack_5 : decode cX5_goBack 5 = .ok (.ifCond .eq 7, 3) := by decide +kernel
theorem dX5_goBack_8 : decode cX5_goBack 8 = .ok (.iconst 0, 1) := by decide +kernel
theorem dX5_goBack_9 : decode cX5_goBack 9 = .ok (.goto 4, 3) := by decide +kernel
theorem dX5_goBack_12 : decode cX5_goBack 12 = .ok (.iconst 1, 1) := by decide +kernel
theorem dX5_goBack_13 : decode cX5_goBack 13 = .ok (.invokevirtual 94, 3) := by decide +kernel
theorem dX5_goBack_16 : decode cX5_goBack 16 = .ok (.ifCond .ne 5, 3) := by decide +kernel
theorem dX5_goBack_19 : decode cX5_goBack 19 = .ok (.iconst 0, 1) := by decide +kernel
theorem dX5_goBack_20 : decode cX5_goBack 20 = .ok (.ireturn, 1) := by decide +kernel
theorem dX5_goBack_21 : decode cX5_goBack 21 = .ok (.aload_n 0, 1) := by decide +kernel
theorem dX5_goBack_22 : decode cX5_goBack 22 = .ok (.invokevirtual 97, 3) := by decide +kernel
theorem dX5_goBack_25 : decode cX5_goBack 25 = .ok (.aload_n 0, 1) := by decide +kernel
theorem dX5_goBack_26 : decode cX5_goBack 26 = .ok (.bipush 7, 2) := by decide +kernel
theorem dX5_goBack_28 : decode cX5_goBack 28 = .ok (.iconst 0, 1) := by decide +kernel
theorem dX5_goBack_29 : decode cX5_goBack 29 = .ok (.invokevirtual 84, 3) := by decide +kernel
theorem dX5_goBack_32 : decode cX5_goBack 32 = .ok (.aload_n 0, 1) := by decide +kernel
theorem dX5_goBack_33 : decode cX5_goBack 33 = .ok (.getfield 7, 3) := by decide +kernel
theorem dX5_goBack_36 : decode cX5_goBack 36 = .ok (.iconst 3, 1) := by decide +kernel
theorem dX5_goBack_37 : decode cX5_goBack 37 = .ok (.iaload, 1) := by decide +kernel
theorem dX5_goBack_38 : decode cX5_goBack 38 = .ok (.ireturn, 1) := by decide +kernel
theorem dX5_undo_0 : decode cX5_undo 0 = .ok (.aload_n 0, 1) := by decide +kernel
theorem dX5_undo_1 : decode cX5_undo 1 = .ok (.aload_n 0, 1) := by decide +kernel
theorem dX5_undo_2 : decode cX5_undo 2 = .ok (.getfield 81, 3) := by decide +kernel
theorem dX5_undo_5 : decode cX5_undo 5 = .ok (.ifCond .le 7, 3) := by decide +kernel
theorem dX5_undo_8 : decode cX5_undo 8 = .ok (.iconst 0, 1) := by decide +kernel
