theorem dX4_pull_43 : decode cX4_pull 43 = .ok (.ireturn, 1) := by decide +kernel
theorem dX4_flip_0 : decode cX4_flip 0 = .ok (.aload_n 0, 1) := by decide +kernel
theorem dX4_flip_1 : decode cX4_flip 1 = .ok (.getfield 10, 3) := by decide +kernel
theorem dX4_flip_4 : decode cX4_flip 4 = .ok (.getfield 71, 3) := by decide +kernel
theorem dX4_flip_7 : decode cX4_flip 7 = .ok (.iload_n 1, 1) := by decide +kernel
theorem dX4_flip_8 : decode cX4_flip 8 = .ok (.invokevirtual 86, 3) := by decide +kernel
theorem dX4_flip_11 : decode cX4_flip 11 = .ok (.ifCond .ne 13, 3) := by decide +kernel
theorem dX4_flip_14 : decode cX4_flip 14 = .ok (.new 52, 3) := by decide +kernel
theorem dX4_flip_17 : decode cX4_flip 17 = .ok (.dup, 1) := by decide +kernel
theorem dX4_flip_18 : decode cX4_flip 18 = .ok (.ldc 89, 2) := by decide +kernel
theorem dX4_flip_20 : decode cX4_flip 20 = .ok (.invokespecial 56, 3) := by decide +kernel
theorem dX4_flip_23 : decode cX4_flip 23 = .ok (.athrow, 1) := by decide +kernel
theorem dX4_flip_24 : decode cX4_flip 24 = .ok (.aload_n 0, 1) := by decide +kernel
theorem dX4_flip_25 : decode cX4_flip 25 = .ok (.getfield 25, 3) := by decide +kernel
theorem dX4_flip_28 : decode cX4_flip 28 = .ok (.aload_n 0, 1) := by decide +kernel
theorem dX4_flip_29 : decode cX4_flip 29 = .ok (.getfield 10, 3) := by decide +kernel
theorem dX4_flip_32 : decode cX4_flip 32 = .ok (.invokevirtual 67, 3) := by decide +kernel
theorem dX4_flip_35 : decode cX4_flip 35 = .ok (.aload_n 0, 1) := by decide +kernel
theorem dX4_flip_36 : decode cX4_flip 36 = .ok (.getfield 10, 3) := by decide +kernel
theorem dX4_flip_39 : decode cX4_flip 39 = .ok (.getfield 71, 3) := by decide +kernel
theorem dX4_flip_42 : decode cX4_flip 42 = .ok (.iload_n 1, 1) := by decide +kernel
theorem dX4_flip_43 : decode cX4_flip 43 = .ok (.invokevirtual 95, 3) := by decide +kernel
theorem dX4_flip_46 : decode cX4_flip 46 = .ok (.aload_n 0, 1) := by decide +kernel
theorem dX4_flip_47 : decode cX4_flip 47 = .ok (.getfield 10, 3) := by decide +kernel
theorem dX4_flip_50 : decode cX4_flip 50 = .ok (.iload_n 1, 1) := by decide +kernel
theorem dX4_flip_51 : decode cX4_flip 51 = .ok (.invokevirtual 99, 3) := by decide +kernel
theorem dX4_flip_54 : decode cX4_flip 54 = .ok (.ireturn, 1) := by decide +kernel
theorem dX4_move_0 : decode cX4_move 0 = .ok (.aload_n 0, 1) := by decide +kernel
theorem dX4_move_1 : decode cX4_move 1 = .ok (.getfield 10, 3) := by decide +kernel
theorem dX4_move_4 : decode cX4_move 4 = .ok (.getfield 71, 3) := by decide +kernel
theorem dX4_move_7 : decode cX4_move 7 = .ok (.iload_n 1, 1) := by decide +kernel
theorem dX4_move_8 : decode cX4_move 8 = .ok (.invokevirtual 86, 3) := by decide +kernel
theorem dX4_move_11 : decode cX4_move 11 = .ok (.ifCond .eq 17, 3) := by decide +kernel
theorem dX4_move_14 : decode cX4_move 14 = .ok (.aload_n 0, 1) := by decide +kernel
theorem dX4_move_15 : decode cX4_move 15 = .ok (.getfield 10, 3) := by decide +kernel
theorem dX4_move_18 : decode cX4_move 18 = .ok (.getfield 71, 3) := by decide +kernel
theorem dX4_move_21 : decode cX4_move 21 = .ok (.iload_n 2, 1) := by decide +kernel
theorem dX4_move_22 : decode cX4_move 22 = .ok (.invokevirtual 86, 3) := by decide +kernel
theorem dX4_move_25 : decode cX4_move 25 = .ok (.ifCond .ne 13, 3) := by decide +kernel
theorem dX4_move_28 : decode cX4_move 28 = .ok (.new 52, 3) := by decide +kernel
theorem dX4_move_31 : decode cX4_move 31 = .ok (.dup, 1) := by decide +kernel
theorem dX4_move_32 : decode cX4_move 32 = .ok (.ldc 102, 2) := by decide +kernel
theorem dX4_move_34 : decode cX4_move 34 = .ok (.invokespecial 56, 3) := by decide +kernel
theorem dX4_move_37 : decode cX4_move 37 = .ok (.athrow, 1) := by decide +kernel
theorem dX4_move_38 : decode cX4_move 38 = .ok (.aload_n 0, 1) := by decide +kernel
theorem dX4_move_39 : decode cX4_move 39 = .ok (.getfield 25, 3) := by decide +kernel
theorem dX4_move_42 : decode cX4_move 42 = .ok (.aload_n 0, 1) := by decide +kernel
theorem dX4_move_43 : decode cX4_move 43 = .ok (.getfield 10, 3) := by decide +kernel
theorem dX4_move_46 : decode cX4_move 46 = .ok (.invokevirtual 67, 3) := by decide +kernel
theorem dX4_move_49 : decode cX4_move 49 = .ok (.aload_n 0, 1) := by decide +kernel
theorem dX4_move_50 : decode cX4_move 50 = .ok (.getfield 10, 3) := by decide +kernel
theorem dX4_move_53 : decode cX4_move 53 = .ok (.getfield 71, 3) := by decide +kernel
theorem dX4_move_56 : decode cX4_move 56 = .ok (.iload_n 1, 1) := by decide +kernel
theorem dX4_move_57 : decode cX4_move 57 = .ok (.iload_n 2, 1) := by decide +kernel
theorem dX4_move_58 : decode cX4_move 58 = .ok (.invokevirtual 104, 3) := by decide +kernel
theorem dX4_move_61 : decode cX4_move 61 = .ok (.aload_n 0, 1) := by decide +kernel
theorem dX4_move_62 : decode cX4_move 62 = .ok (.getfield 10, 3) := by decide +kernel
theorem dX4_move_65 : decode cX4_move 65 = .ok (.invokevirtual 107, 3) := by decide +kernel
theorem dX4_move_68 : decode cX4_move 68 = .ok (.ireturn, 1) := by decide +kernel
theorem dX4_bind_0 : decode cX4_bind 0 = .ok (.aload_n 0, 1) := by decide +kernel
theorem dX4_bind_1 : decode cX4_bind 1 = .ok (.getfield 10, 3) := by decide +kernel
theorem dX4_bind_4 : decode cX4_bind 4 = .ok (.invokevirtual 111, 3) := by decide +kernel
theorem dX4_bind_7 : decode cX4_bind 7 = .ok (.ifCond .eq 13, 3) := by decide +kernel
theorem dX4_bind_10 : decode cX4_bind 10 = .ok (.new 62, 3) := by decide +kernel
theorem dX4_bind_13 : decode cX4_bind 13 = .ok (.dup, 1) := by decide +kernel
theorem dX4_bind_14 : decode cX4_bind 14 = .ok (.ldc 114, 2) := by decide +kernel
theorem dX4_bind_16 : decode cX4_bind 16 = .ok (.invokespecial 66, 3) := by decide +kernel
theorem dX4_bind_19 : decode cX4_bind 19 = .ok (.athrow, 1) := by decide +kernel
theorem dX4_bind_20 : decode cX4_bind 20 = .ok (.aload_n 0, 1) := by decide +kernel
theorem dX4_bind_21 : decode cX4_bind 21 = .ok (.getfield 25, 3) := by decide +kernel
theorem dX4_bind_24 : decode cX4_bind 24 = .ok (.aload_n 0, 1) := by decide +kernel
theorem dX4_bind_25 : decode cX4_bind 25 = .ok (.getfield 10, 3) := by decide +kernel
theorem dX4_bind_28 : decode cX4_bind 28 = .ok (.invokevirtual 67, 3) := by decide +kernel
theorem dX4_bind_31 : decode cX4_bind 31 = .ok (.aload_n 0, 1) := by decide +kernel
theorem dX4_bind_32 : decode cX4_bind 32 = .ok (.getfield 10, 3) := by decide +kernel
theorem dX4_bind_35 : decode cX4_bind 35 = .ok (.invokevirtual 116, 3) := by decide +kernel
theorem dX4_bind_38 : decode cX4_bind 38 = .ok (.aload_n 0, 1) := by decide +kernel
theorem dX4_bind_39 : decode cX4_bind 39 = .ok (.getfield 10, 3) := by decide +kernel
theorem dX4_bind_42 : decode cX4_bind 42 = .ok (.getfield 119, 3) := by decide +kernel
theorem dX4_bind_45 : decode cX4_bind 45 = .ok (.ireturn, 1) := by decide +kernel
theorem dX4_print_0 : decode cX4_print 0 = .ok (.iload_n 1, 1) := by decide +kernel
theorem dX4_print_1 : decode cX4_print 1 = .ok (.invokestatic 48, 3) := by decide +kernel
theorem dX4_print_4 : decode cX4_print 4 = .ok (.ifCond .ne 13, 3) := by decide +kernel
theorem dX4_print_7 : decode cX4_print 7 = .ok (.new 52, 3) := by decide +kernel
theorem dX4_print_10 : decode cX4_print 10 = .ok (.dup, 1) := by decide +kernel
theorem dX4_print_11 : decode cX4_print 11 = .ok (.ldc 54, 2) := by decide +kernel
theorem dX4_print_13 : decode cX4_print 13 = .ok (.invokespecial 56, 3) := by decide +kernel
theorem dX4_print_16 : decode cX4_print 16 = .ok (.athrow, 1) := by decide +kernel
theorem dX4_print_17 : decode cX4_print 17 = .ok (.iload_n 2, 1) := by decide +kernel
theorem dX4_print_18 : decode cX4_print 18 = .ok (.iconst 1, 1) := by decide +kernel
theorem dX4_print_19 : decode cX4_print 19 = .ok (.if_icmp .lt 9, 3) := by decide +kernel
theorem dX4_print_22 : decode cX4_print 22 = .ok (.iload_n 2, 1) := by decide +kernel
theorem dX4_print_23 : decode cX4_print 23 = .ok (.bipush 20, 2) := by decide +kernel
theorem dX4_print_25 : decode cX4_print 25 = .ok (.if_icmp .le 13, 3) := by decide +kernel
theorem dX4_print_28 : decode cX4_print 28 = .ok (.new 122, 3) := by decide +kernel
theorem dX4_print_31 : decode cX4_print 31 = .ok (.dup, 1) := by decide +kernel
theorem dX4_print_32 : decode cX4_print 32 = .ok (.ldc 124, 2) := by decide +kernel
theorem dX4_print_34 : decode cX4_print 34 = .ok (.invokespecial 126, 3) := by decide +kernel
theorem dX4_print_37 : decode cX4_print 37 = .ok (.athrow, 1) := by decide +kernel
theorem dX4_print_38 : decode cX4_print 38 = .ok (.aload_n 0, 1) := by decide +kernel
theorem dX4_print_39 : decode cX4_print 39 = .ok (.getfield 10, 3) := by decide +kernel
theorem dX4_print_42 : decode cX4_print 42 = .ok (.getfield 127, 3) := by decide +kernel
theorem dX4_print_45 : decode cX4_print 45 = .ok (.iload_n 1, 1) := by decide +kernel
theorem dX4_print_46 : decode cX4_print 46 = .ok (.invokestatic 130, 3) := by decide +kernel
theorem dX4_print_49 : decode cX4_print 49 = .ok (.iload_n 2, 1) := by decide +kernel
theorem dX4_print_50 : decode cX4_print 50 = .ok (.iadd, 1) := by decide +kernel
theorem dX4_print_51 : decode cX4_print 51 = .ok (.bipush 99, 2) := by decide +kernel
theorem dX4_print_53 : decode cX4_print 53 = .ok (.if_icmp .le 13, 3) := by decide +kernel
theorem dX4_print_56 : decode cX4_print 56 = .ok (.new 62, 3) := by decide +kernel
theorem dX4_print_59 : decode cX4_print 59 = .ok (.dup, 1) := by decide +kernel
theorem dX4_print_60 : decode cX4_print 60 = .ok (.ldc 134, 2) := by decide +kernel
theorem dX4_print_62 : decode cX4_print 62 = .ok (.invokespecial 66, 3) := by decide +kernel
theorem dX4_print_65 : decode cX4_print 65 = .ok (.athrow, 1) := by decide +kernel
theorem dX4_print_66 : decode cX4_print 66 = .ok (.aload_n 0, 1) := by decide +kernel
theorem dX4_print_67 : decode cX4_print 67 = .ok (.getfield 25, 3) := by decide +kernel
theorem dX4_print_70 : decode cX4_print 70 = .ok (.aload_n 0, 1) := by decide +kernel
theorem dX4_print_71 : decode cX4_print 71 = .ok (.getfield 10, 3) := by decide +kernel
theorem dX4_print_74 : decode cX4_print 74 = .ok (.invokevirtual 67, 3) := by decide +kernel
theorem dX4_print_77 : decode cX4_print 77 = .ok (.aload_n 0, 1) := by decide +kernel
theorem dX4_print_78 : decode cX4_print 78 = .ok (.getfield 10, 3) := by decide +kernel
theorem dX4_print_81 : decode cX4_print 81 = .ok (.getfield 127, 3) := by decide +kernel
theorem dX4_print_84 : decode cX4_print 84 = .ok (.iload_n 1, 1) := by decide +kernel
theorem dX4_print_85 : decode cX4_print 85 = .ok (.iload_n 2, 1) := by decide +kernel
theorem dX4_print_86 : decode cX4_print 86 = .ok (.invokestatic 136, 3) := by decide +kernel
theorem dX4_print_89 : decode cX4_print 89 = .ok (.aload_n 0, 1) := by decide +kernel
theorem dX4_print_90 : decode cX4_print 90 = .ok (.getfield 10, 3) := by decide +kernel
theorem dX4_print_93 : decode cX4_print 93 = .ok (.getfield 140, 3) := by decide +kernel
theorem dX4_print_96 : decode cX4_print 96 = .ok (.iload_n 1, 1) := by decide +kernel
theorem dX4_print_97 : decode cX4_print 97 = .ok (.iload_n 2, 1) := by decide +kernel
theorem dX4_print_98 : decode cX4_print 98 = .ok (.invokestatic 136, 3) := by decide +kernel
theorem dX4_print_101 : decode cX4_print 101 = .ok (.aload_n 0, 1) := by decide +kernel
theorem dX4_print_102 : decode cX4_print 102 = .ok (.getfield 10, 3) := by decide +kernel
theorem dX4_print_105 : decode cX4_print 105 = .ok (.getfield 127, 3) := by decide +kernel
theorem dX4_print_108 : decode cX4_print 108 = .ok (.iload_n 1, 1) := by decide +kernel
theorem dX4_print_109 : decode cX4_print 109 = .ok (.invokestatic 130, 3) := by decide +kernel
theorem dX4_print_112 : decode cX4_print 112 = .ok (.ireturn, 1) := by decide +kernel
theorem dX4_punch_0 : decode cX4_punch 0 = .ok (.iload_n 1, 1) := by decide +kernel
theorem dX4_punch_1 : decode cX4_punch 1 = .ok (.invokestatic 48, 3) := by decide +kernel
theorem dX4_punch_4 : decode cX4_punch 4 = .ok (.ifCond .ne 13, 3) := by decide +kernel
theorem dX4_punch_7 : decode cX4_punch 7 = .ok (.new 52, 3) := by decide +kernel
theorem dX4_punch_10 : decode cX4_punch 10 = .ok (.dup, 1) := by decide +kernel
theorem dX4_punch_11 : decode cX4_punch 11 = .ok (.ldc 54, 2) := by decide +kernel
theorem dX4_punch_13 : decode cX4_punch 13 = .ok (.invokespecial 56, 3) := by decide +kernel
theorem dX4_punch_16 : decode cX4_punch 16 = .ok (.athrow, 1) := by decide +kernel
theorem dX4_punch_17 : decode cX4_punch 17 = .ok (.iload_n 2, 1) := by decide +kernel
theorem dX4_punch_18 : decode cX4_punch 18 = .ok (.iconst 1, 1) := by decide +kernel
theorem dX4_punch_19 : decode cX4_punch 19 = .ok (.if_icmp .lt 9, 3) := by decide +kernel
theorem dX4_punch_22 : decode cX4_punch 22 = .ok (.iload_n 2, 1) := by decide +kernel
theorem dX4_punch_23 : decode cX4_punch 23 = .ok (.bipush 31, 2) := by decide +kernel
theorem dX4_punch_25 : decode cX4_punch 25 = .ok (.if_icmp .le 13, 3) := by decide +kernel
theorem dX4_punch_28 : decode cX4_punch 28 = .ok (.new 122, 3) := by decide +kernel
theorem dX4_punch_31 : decode cX4_punch 31 = .ok (.dup, 1) := by decide +kernel
theorem dX4_punch_32 : decode cX4_punch 32 = .ok (.ldc 143, 2) := by decide +kernel
theorem dX4_punch_34 : decode cX4_punch 34 = .ok (.invokespecial 126, 3) := by decide +kernel
theorem dX4_punch_37 : decode cX4_punch 37 = .ok (.athrow, 1) := by decide +kernel
theorem dX4_punch_38 : decode cX4_punch 38 = .ok (.aload_n 0, 1) := by decide +kernel
theorem dX4_punch_39 : decode cX4_punch 39 = .ok (.getfield 25, 3) := by decide +kernel
theorem dX4_punch_42 : decode cX4_punch 42 = .ok (.aload_n 0, 1) := by decide +kernel
theorem dX4_punch_43 : decode cX4_punch 43 = .ok (.getfield 10, 3) := by decide +kernel
theorem dX4_punch_46 : decode cX4_punch 46 = .ok (.invokevirtual 67, 3) := by decide +kernel
theorem dX4_punch_49 : decode cX4_punch 49 = .ok (.aload_n 0, 1) := by decide +kernel
theorem dX4_punch_50 : decode cX4_punch 50 = .ok (.getfield 10, 3) := by decide +kernel
theorem dX4_punch_53 : decode cX4_punch 53 = .ok (.getfield 145, 3) := by decide +kernel
theorem dX4_punch_56 : decode cX4_punch 56 = .ok (.iload_n 1, 1) := by decide +kernel
theorem dX4_punch_57 : decode cX4_punch 57 = .ok (.invokestatic 130, 3) := by decide +kernel
theorem dX4_punch_60 : decode cX4_punch 60 = .ok (.istore_n 3, 1) := by decide +kernel
theorem dX4_punch_61 : decode cX4_punch 61 = .ok (.aload_n 0, 1) := by decide +kernel
theorem dX4_punch_62 : decode cX4_punch 62 = .ok (.getfield 10, 3) := by decide +kernel
theorem dX4_punch_65 : decode cX4_punch 65 = .ok (.getfield 145, 3) := by decide +kernel
theorem dX4_punch_68 : decode cX4_punch 68 = .ok (.iload_n 1, 1) := by decide +kernel
theorem dX4_punch_69 : decode cX4_punch 69 = .ok (.iload_n 2, 1) := by decide +kernel
theorem dX4_punch_70 : decode cX4_punch 70 = .ok (.invokestatic 148, 3) := by decide +kernel
theorem dX4_punch_73 : decode cX4_punch 73 = .ok (.iload_n 3, 1) := by decide +kernel
theorem dX4_punch_74 : decode cX4_punch 74 = .ok (.ireturn, 1) := by decide +kernel
theorem dX4_set_0 : decode cX4_set 0 = .ok (.iload_n 1, 1) := by decide +kernel
theorem dX4_set_1 : decode cX4_set 1 = .ok (.invokestatic 151, 3) := by decide +kernel
theorem dX4_set_4 : decode cX4_set 4 = .ok (.ifCond .ne 13, 3) := by decide +kernel
theorem dX4_set_7 : decode cX4_set 7 = .ok (.new 52, 3) := by decide +kernel
theorem dX4_set_10 : decode cX4_set 10 = .ok (.dup, 1) := by decide +kernel
theorem dX4_set_11 : decode cX4_set 11 = .ok (.ldc 154, 2) := by decide +kernel
theorem dX4_set_13 : decode cX4_set 13 = .ok (.invokespecial 56, 3) := by decide +kernel
theorem dX4_set_16 : decode cX4_set 16 = .ok (.athrow, 1) := by decide +kernel
theorem dX4_set_17 : decode cX4_set 17 = .ok (.iload_n 2, 1) := by decide +kernel
theorem dX4_set_18 : decode cX4_set 18 = .ok (.getstatic 156, 3) := by decide +kernel
theorem dX4_set_21 : decode cX4_set 21 = .ok (.iload_n 1, 1) := by decide +kernel
theorem dX4_set_22 : decode cX4_set 22 = .ok (.invokestatic 130, 3) := by decide +kernel
theorem dX4_set_25 : decode cX4_set 25 = .ok (.if_icmp .lt 14, 3) := by decide +kernel
theorem dX4_set_28 : decode cX4_set 28 = .ok (.iload_n 2, 1) := by decide +kernel
theorem dX4_set_29 : decode cX4_set 29 = .ok (.getstatic 159, 3) := by decide +kernel
theorem dX4_set_32 : decode cX4_set 32 = .ok (.iload_n 1, 1) := by decide +kernel
theorem dX4_set_33 : decode cX4_set 33 = .ok (.invokestatic 130, 3) := by decide +kernel
theorem dX4_set_36 : decode cX4_set 36 = .ok (.if_icmp .le 13, 3) := by decide +kernel
theorem dX4_set_39 : decode cX4_set 39 = .ok (.new 122, 3) := by decide +kernel
theorem dX4_set_42 : decode cX4_set 42 = .ok (.dup, 1) := by decide +kernel
theorem dX4_set_43 : decode cX4_set 43 = .ok (.ldc 162, 2) := by decide +kernel
theorem dX4_set_45 : decode cX4_set 45 = .ok (.invokespecial 126, 3) := by decide +kernel
theorem dX4_set_48 : decode cX4_set 48 = .ok (.athrow, 1) := by decide +kernel
theorem dX4_set_49 : decode cX4_set 49 = .ok (.aload_n 0, 1) := by decide +kernel
theorem dX4_set_50 : decode cX4_set 50 = .ok (.getfield 25, 3) := by decide +kernel
theorem dX4_set_53 : decode cX4_set 53 = .ok (.aload_n 0, 1) := by decide +kernel
theorem dX4_set_54 : decode cX4_set 54 = .ok (.getfield 10, 3) := by decide +kernel
theorem dX4_set_57 : decode cX4_set 57 = .ok (.invokevirtual 67, 3) := by decide +kernel
theorem dX4_set_60 : decode cX4_set 60 = .ok (.aload_n 0, 1) := by decide +kernel
theorem dX4_set_61 : decode cX4_set 61 = .ok (.getfield 10, 3) := by decide +kernel
theorem dX4_set_64 : decode cX4_set 64 = .ok (.getfield 164, 3) := by decide +kernel
theorem dX4_set_67 : decode cX4_set 67 = .ok (.iload_n 1, 1) := by decide +kernel
theorem dX4_set_68 : decode cX4_set 68 = .ok (.invokestatic 130, 3) := by decide +kernel
theorem dX4_set_71 : decode cX4_set 71 = .ok (.istore_n 3, 1) := by decide +kernel
theorem dX4_set_72 : decode cX4_set 72 = .ok (.aload_n 0, 1) := by decide +kernel
theorem dX4_set_73 : decode cX4_set 73 = .ok (.getfield 10, 3) := by decide +kernel
theorem dX4_set_76 : decode cX4_set 76 = .ok (.getfield 164, 3) := by decide +kernel
theorem dX4_set_79 : decode cX4_set 79 = .ok (.iload_n 1, 1) := by decide +kernel
theorem dX4_set_80 : decode cX4_set 80 = .ok (.iload_n 2, 1) := by decide +kernel
theorem dX4_set_81 : decode cX4_set 81 = .ok (.invokestatic 148, 3) := by decide +kernel
theorem dX4_set_84 : decode cX4_set 84 = .ok (.iload_n 3, 1) := by decide +kernel
theorem dX4_set_85 : decode cX4_set 85 = .ok (.ireturn, 1) := by decide +kernel
theorem dX4_append_0 : decode cX4_append 0 = .ok (.iload_n 1, 1) := by decide +kernel
theorem dX4_append_1 : decode cX4_append 1 = .ok (.bipush 33, 2) := by decide +kernel
theorem dX4_append_3 : decode cX4_append 3 = .ok (.if_icmp .lt 9, 3) := by decide +kernel
theorem dX4_append_6 : decode cX4_append 6 = .ok (.iload_n 1, 1) := by decide +kernel
theorem dX4_append_7 : decode cX4_append 7 = .ok (.bipush 126, 2) := by decide +kernel
theorem dX4_append_9 : decode cX4_append 9 = .ok (.if_icmp .le 13, 3) := by decide +kernel
theorem dX4_append_12 : decode cX4_append 12 = .ok (.new 122, 3) := by decide +kernel
theorem dX4_append_15 : decode cX4_append 15 = .ok (.dup, 1) := by decide +kernel
theorem dX4_append_16 : decode cX4_append 16 = .ok (.ldc 167, 2) := by decide +kernel
theorem dX4_append_18 : decode cX4_append 18 = .ok (.invokespecial 126, 3) := by decide +kernel
theorem dX4_append_21 : decode cX4_append 21 = .ok (.athrow, 1) := by decide +kernel
theorem dX4_append_22 : decode cX4_append 22 = .ok (.aload_n 0, 1) := by decide +kernel
theorem dX4_append_23 : decode cX4_append 23 = .ok (.getfield 40, 3) := by decide +kernel
theorem dX4_append_26 : decode cX4_append 26 = .ok (.bipush 60, 2) := by decide +kernel
theorem dX4_append_28 : decode cX4_append 28 = .ok (.if_icmp .lt 13, 3) := by decide +kernel
theorem dX4_append_31 : decode cX4_append 31 = .ok (.new 62, 3) := by decide +kernel
theorem dX4_append_34 : decode cX4_append 34 = .ok (.dup, 1) := by decide +kernel
theorem dX4_append_35 : decode cX4_append 35 = .ok (.ldc 169, 2) := by decide +kernel
theorem dX4_append_37 : decode cX4_append 37 = .ok (.invokespecial 66, 3) := by decide +kernel
theorem dX4_append_40 : decode cX4_append 40 = .ok (.athrow, 1) := by decide +kernel
theorem dX4_append_41 : decode cX4_append 41 = .ok (.aload_n 0, 1) := by decide +kernel
theorem dX4_append_42 : decode cX4_append 42 = .ok (.getfield 36, 3) := by decide +kernel
theorem dX4_append_45 : decode cX4_append 45 = .ok (.aload_n 0, 1) := by decide +kernel
theorem dX4_append_46 : decode cX4_append 46 = .ok (.getfield 40, 3) := by decide +kernel
theorem dX4_append_49 : decode cX4_append 49 = .ok (.iload_n 1, 1) := by decide +kernel
theorem dX4_append_50 : decode cX4_append 50 = .ok (.invokestatic 148, 3) := by decide +kernel
theorem dX4_append_53 : decode cX4_append 53 = .ok (.aload_n 0, 1) := by decide +kernel
theorem dX4_append_54 : decode cX4_append 54 = .ok (.dup, 1) := by decide +kernel
theorem dX4_append_55 : decode cX4_append 55 = .ok (.getfield 40, 3) := by decide +kernel
theorem dX4_append_58 : decode cX4_append 58 = .ok (.iconst 1, 1) := by decide +kernel
theorem dX4_append_59 : decode cX4_append 59 = .ok (.iadd, 1) := by decide +kernel
theorem dX4_append_60 : decode cX4_append 60 = .ok (.putfield 40, 3) := by decide +kernel
theorem dX4_append_63 : decode cX4_append 63 = .ok (.aload_n 0, 1) := by decide +kernel
theorem dX4_append_64 : decode cX4_append 64 = .ok (.getfield 40, 3) := by decide +kernel
theorem dX4_append_67 : decode cX4_append 67 = .ok (.ireturn, 1) := by decide +kernel
theorem dX4_clearBuffer_0 : decode cX4_clearBuffer 0 = .ok (.aload_n 0, 1) := by decide +kernel
theorem dX4_clearBuffer_1 : decode cX4_clearBuffer 1 = .ok (.getfield 40, 3) := by decide +kernel
theorem dX4_clearBuffer_4 : decode cX4_clearBuffer 4 = .ok (.istore_n 1, 1) := by decide +kernel
theorem dX4_clearBuffer_5 : decode cX4_clearBuffer 5 = .ok (.aload_n 0, 1) := by decide +kernel
theorem dX4_clearBuffer_6 : decode cX4_clearBuffer 6 = .ok (.iconst 0, 1) := by decide +kernel
theorem dX4_clearBuffer_7 : decode cX4_clearBuffer 7 = .ok (.putfield 40, 3) := by decide +kernel
theorem dX4_clearBuffer_10 : decode cX4_clearBuffer 10 = .ok (.iload_n 1, 1) := by decide +kernel
theorem dX4_clearBuffer_11 : decode cX4_clearBuffer 11 = .ok (.ireturn, 1) := by decide +kernel
theorem dX4_firstError_0 : decode cX4_firstError 0 = .ok (.aload_n 0, 1) := by decide +kernel
theorem dX4_firstError_1 : decode cX4_firstError 1 = .ok (.invokevirtual 171, 3) := by decide +kernel
theorem dX4_firstError_4 : decode cX4_firstError 4 = .ok (.ireturn, 1) := by decide +kernel
theorem dX4_work_0 : decode cX4_work 0 = .ok (.aload_n 0, 1) := by decide +kernel
theorem dX4_work_1 : decode cX4_work 1 = .ok (.invokevirtual 171, 3) := by decide +kernel
theorem dX4_work_4 : decode cX4_work 4 = .ok (.aload_n 0, 1) := by decide +kernel
theorem dX4_work_5 : decode cX4_work 5 = .ok (.getfield 40, 3) := by decide +kernel
theorem dX4_work_8 : decode cX4_work 8 = .ok (.if_icmp .lt 13, 3) := by decide +kernel
theorem dX4_work_11 : decode cX4_work 11 = .ok (.aload_n 0, 1) := by decide +kernel
theorem dX4_work_12 : decode cX4_work 12 = .ok (.getfield 32, 3) := by decide +kernel
theorem dX4_work_15 : decode cX4_work 15 = .ok (.invokevirtual 174, 3) := by decide +kernel
theorem dX4_work_18 : decode cX4_work 18 = .ok (.ifCond .ne 13, 3) := by decide +kernel
theorem dX4_work_21 : decode cX4_work 21 = .ok (.new 122, 3) := by decide +kernel
theorem dX4_work_24 : decode cX4_work 24 = .ok (.dup, 1) := by decide +kernel
theorem dX4_work_25 : decode cX4_work 25 = .ok (.ldc 178, 2) := by decide +kernel
theorem dX4_work_27 : decode cX4_work 27 = .ok (.invokespecial 126, 3) := by decide +kernel
theorem dX4_work_30 : decode cX4_work 30 = .ok (.athrow, 1) := by decide +kernel
theorem dX4_work_31 : decode cX4_work 31 = .ok (.aload_n 0, 1) := by decide +kernel
theorem dX4_work_32 : decode cX4_work 32 = .ok (.getfield 25, 3) := by decide +kernel
theorem dX4_work_35 : decode cX4_work 35 = .ok (.aload_n 0, 1) := by decide +kernel
theorem dX4_work_36 : decode cX4_work 36 = .ok (.getfield 10, 3) := by decide +kernel
theorem dX4_work_39 : decode cX4_work 39 = .ok (.invokevirtual 67, 3) := by decide +kernel
theorem dX4_work_42 : decode cX4_work 42 = .ok (.aload_n 0, 1) := by decide +kernel
theorem dX4_work_43 : decode cX4_work 43 = .ok (.invokevirtual 180, 3) := by decide +kernel
theorem dX4_work_46 : decode cX4_work 46 = .ok (.istore_n 1, 1) := by decide +kernel
theorem dX4_work_47 : decode cX4_work 47 = .ok (.aload_n 0, 1) := by decide +kernel
theorem dX4_work_48 : decode cX4_work 48 = .ok (.iconst 0, 1) := by decide +kernel
theorem dX4_work_49 : decode cX4_work 49 = .ok (.putfield 40, 3) := by decide +kernel
theorem dX4_work_52 : decode cX4_work 52 = .ok (.iload_n 1, 1) := by decide +kernel
theorem dX4_work_53 : decode cX4_work 53 = .ok (.ireturn, 1) := by decide +kernel
theorem dX4_keep_0 : decode cX4_keep 0 = .ok (.aload_n 0, 1) := by decide +kernel
theorem dX4_keep_1 : decode cX4_keep 1 = .ok (.getfield 16, 3) := by decide +kernel
theorem dX4_keep_4 : decode cX4_keep 4 = .ok (.aload_n 0, 1) := by decide +kernel
theorem dX4_keep_5 : decode cX4_keep 5 = .ok (.getfield 10, 3) := by decide +kernel
theorem dX4_keep_8 : decode cX4_keep 8 = .ok (.invokevirtual 183, 3) := by decide +kernel
theorem dX4_keep_11 : decode cX4_keep 11 = .ok (.aload_n 0, 1) := by decide +kernel
theorem dX4_keep_12 : decode cX4_keep 12 = .ok (.iconst 1, 1) := by decide +kernel
theorem dX4_keep_13 : decode cX4_keep 13 = .ok (.putfield 44, 3) := by decide +kernel
theorem dX4_keep_16 : decode cX4_keep 16 = .ok (.aload_n 0, 1) := by decide +kernel
theorem dX4_keep_17 : decode cX4_keep 17 = .ok (.getfield 10, 3) := by decide +kernel
theorem dX4_keep_20 : decode cX4_keep 20 = .ok (.getfield 71, 3) := by decide +kernel
theorem dX4_keep_23 : decode cX4_keep 23 = .ok (.getfield 75, 3) := by decide +kernel
theorem dX4_keep_26 : decode cX4_keep 26 = .ok (.ireturn, 1) := by decide +kernel
theorem dX4_goBack_0 : decode cX4_goBack 0 = .ok (.aload_n 0, 1) := by decide +kernel
theorem dX4_goBack_1 : decode cX4_goBack 1 = .ok (.getfield 44, 3) := by decide +kernel
theorem dX4_goBack_4 : decode cX4_goBack 4 = .ok (.ifCond .ne 13, 3) := by decide +kernel
theorem dX4_goBack_7 : decode cX4_goBack 7 = .ok (.new 62, 3) := by decide +kernel
theorem dX4_goBack_10 : decode cX4_goBack 10 = .ok (.dup, 1) := by decide +kernel
theorem dX4_goBack_11 : decode cX4_goBack 11 = .ok (.ldc 186, 2) := by decide +kernel
theorem dX4_goBack_13 : decode cX4_goBack 13 = .ok (.invokespecial 66, 3) := by decide +kernel
theorem dX4_goBack_16 : decode cX4_goBack 16 = .ok (.athrow, 1) := by decide +kernel
theorem dX4_goBack_17 : decode cX4_goBack 17 = .ok (.aload_n 0, 1) := by decide +kernel
theorem dX4_goBack_18 : decode cX4_goBack 18 = .ok (.getfield 25, 3) := by decide +kernel
theorem dX4_goBack_21 : decode cX4_goBack 21 = .ok (.aload_n 0, 1) := by decide +kernel
theorem dX4_goBack_22 : decode cX4_goBack 22 = .ok (.getfield 10, 3) := by decide +kernel
theorem dX4_goBack_25 : decode cX4_goBack 25 = .ok (.invokevirtual 67, 3) := by decide +kernel
theorem dX4_goBack_28 : decode cX4_goBack 28 = .ok (.aload_n 0, 1) := by decide +kernel
theorem dX4_goBack_29 : decode cX4_goBack 29 = .ok (.getfield 10, 3) := by decide +kernel
theorem dX4_goBack_32 : decode cX4_goBack 32 = .ok (.aload_n 0, 1) := by decide +kernel
theorem dX4_goBack_33 : decode cX4_goBack 33 = .ok (.getfield 16, 3) := by decide +kernel
theorem dX4_goBack_36 : decode cX4_goBack 36 = .ok (.invokevirtual 183, 3) := by decide +kernel
theorem dX4_goBack_39 : decode cX4_goBack 39 = .ok (.aload_n 0, 1) := by decide +kernel
theorem dX4_goBack_40 : decode cX4_goBack 40 = .ok (.getfield 10, 3) := by decide +kernel
theorem dX4_goBack_43 : decode cX4_goBack 43 = .ok (.getfield 71, 3) := by decide +kernel
theorem dX4_goBack_46 : decode cX4_goBack 46 = .ok (.getfield 75, 3) := by decide +kernel
theorem dX4_goBack_49 : decode cX4_goBack 49 = .ok (.ireturn, 1) := by decide +kernel
theorem dX4_undo_0 : decode cX4_undo 0 = .ok (.aload_n 0, 1) := by decide +kernel
theorem dX4_undo_1 : decode cX4_undo 1 = .ok (.getfield 25, 3) := by decide +kernel
theorem dX4_undo_4 : decode cX4_undo 4 = .ok (.getfield 188, 3) := by decide +kernel
theorem dX4_undo_7 : decode cX4_undo 7 = .ok (.ifCond .ne 13, 3) := by decide +kernel
theorem dX4_undo_10 : decode cX4_undo 10 = .ok (.new 62, 3) := by decide +kernel
theorem dX4_undo_13 : decode cX4_undo 13 = .ok (.dup, 1) := by decide +kernel
theorem dX4_undo_14 : decode cX4_undo 14 = .ok (.ldc 189, 2) := by decide +kernel
theorem dX4_undo_16 : decode cX4_undo 16 = .ok (.invokespecial 66, 3) := by decide +kernel
theorem dX4_undo_19 : decode cX4_undo 19 = .ok (.athrow, 1) := by decide +kernel
theorem dX4_undo_20 : decode cX4_undo 20 = .ok (.aload_n 0, 1) := by decide +kernel
theorem dX4_undo_21 : decode cX4_undo 21 = .ok (.getfield 25, 3) := by decide +kernel
theorem dX4_undo_24 : decode cX4_undo 24 = .ok (.aload_n 0, 1) := by decide +kernel
theorem dX4_undo_25 : decode cX4_undo 25 = .ok (.getfield 10, 3) := by decide +kernel
theorem dX4_undo_28 : decode cX4_undo 28 = .ok (.invokevirtual 191, 3) := by decide +kernel
theorem dX4_undo_31 : decode cX4_undo 31 = .ok (.aload_n 0, 1) := by decide +kernel
theorem dX4_undo_32 : decode cX4_undo 32 = .ok (.getfield 25, 3) := by decide +kernel
theorem dX4_undo_35 : decode cX4_undo 35 = .ok (.getfield 188, 3) := by decide +kernel
theorem dX4_undo_38 : decode cX4_undo 38 = .ok (.ireturn, 1) := by decide +kernel
theorem dX4_sheet_0 : decode cX4_sheet 0 = .ok (.iload_n 1, 1) := by decide +kernel
theorem dX4_sheet_1 : decode cX4_sheet 1 = .ok (.ifCond .ge 13, 3) := by decide +kernel
theorem dX4_sheet_4 : decode cX4_sheet 4 = .ok (.new 52, 3) := by decide +kernel
theorem dX4_sheet_7 : decode cX4_sheet 7 = .ok (.dup, 1) := by decide +kernel
theorem dX4_sheet_8 : decode cX4_sheet 8 = .ok (.ldc 194, 2) := by decide +kernel
theorem dX4_sheet_10 : decode cX4_sheet 10 = .ok (.invokespecial 56, 3) := by decide +kernel
theorem dX4_sheet_13 : decode cX4_sheet 13 = .ok (.athrow, 1) := by decide +kernel
theorem dX4_sheet_14 : decode cX4_sheet 14 = .ok (.iload_n 2, 1) := by decide +kernel
theorem dX4_sheet_15 : decode cX4_sheet 15 = .ok (.ifCond .lt 9, 3) := by decide +kernel
theorem dX4_sheet_18 : decode cX4_sheet 18 = .ok (.iload_n 2, 1) := by decide +kernel
theorem dX4_sheet_19 : decode cX4_sheet 19 = .ok (.bipush 6, 2) := by decide +kernel
theorem dX4_sheet_21 : decode cX4_sheet 21 = .ok (.if_icmp .lt 13, 3) := by decide +kernel
theorem dX4_sheet_24 : decode cX4_sheet 24 = .ok (.new 122, 3) := by decide +kernel
theorem dX4_sheet_27 : decode cX4_sheet 27 = .ok (.dup, 1) := by decide +kernel
theorem dX4_sheet_28 : decode cX4_sheet 28 = .ok (.ldc 196, 2) := by decide +kernel
theorem dX4_sheet_30 : decode cX4_sheet 30 = .ok (.invokespecial 126, 3) := by decide +kernel
theorem dX4_sheet_33 : decode cX4_sheet 33 = .ok (.athrow, 1) := by decide +kernel
theorem dX4_sheet_34 : decode cX4_sheet 34 = .ok (.aload_n 0, 1) := by decide +kernel
theorem dX4_sheet_35 : decode cX4_sheet 35 = .ok (.getfield 10, 3) := by decide +kernel
theorem dX4_sheet_38 : decode cX4_sheet 38 = .ok (.getfield 71, 3) := by decide +kernel
theorem dX4_sheet_41 : decode cX4_sheet 41 = .ok (.iload_n 1, 1) := by decide +kernel
theorem dX4_sheet_42 : decode cX4_sheet 42 = .ok (.invokevirtual 86, 3) := by decide +kernel
theorem dX4_sheet_45 : decode cX4_sheet 45 = .ok (.ifCond .ne 5, 3) := by decide +kernel
theorem dX4_sheet_48 : decode cX4_sheet 48 = .ok (.iconst (-1), 1) := by decide +kernel
theorem dX4_sheet_49 : decode cX4_sheet 49 = .ok (.ireturn, 1) := by decide +kernel
theorem dX4_sheet_50 : decode cX4_sheet 50 = .ok (.iload_n 2, 1) := by decide +kernel
theorem dX4_sheet_51 : decode cX4_sheet 51 = .ok (.tableswitch 98 0 4 #[33, 48, 63, 72, 89], 33) := by decide +kernel
theorem dX4_sheet_84 : decode cX4_sheet 84 = .ok (.aload_n 0, 1) := by decide +kernel
theorem dX4_sheet_85 : decode cX4_sheet 85 = .ok (.getfield 10, 3) := by decide +kernel
theorem dX4_sheet_88 : decode cX4_sheet 88 = .ok (.getfield 71, 3) := by decide +kernel
theorem dX4_sheet_91 : decode cX4_sheet 91 = .ok (.getfield 198, 3) := by decide +kernel
theorem dX4_sheet_94 : decode cX4_sheet 94 = .ok (.iload_n 1, 1) := by decide +kernel
theorem dX4_sheet_95 : decode cX4_sheet 95 = .ok (.invokestatic 130, 3) := by decide +kernel
theorem dX4_sheet_98 : decode cX4_sheet 98 = .ok (.ireturn, 1) := by decide +kernel
theorem dX4_sheet_99 : decode cX4_sheet 99 = .ok (.aload_n 0, 1) := by decide +kernel
theorem dX4_sheet_100 : decode cX4_sheet 100 = .ok (.getfield 10, 3) := by decide +kernel
theorem dX4_sheet_103 : decode cX4_sheet 103 = .ok (.getfield 71, 3) := by decide +kernel
theorem dX4_sheet_106 : decode cX4_sheet 106 = .ok (.getfield 201, 3) := by decide +kernel
theorem dX4_sheet_109 : decode cX4_sheet 109 = .ok (.iload_n 1, 1) := by decide +kernel
theorem dX4_sheet_110 : decode cX4_sheet 110 = .ok (.invokestatic 130, 3) := by decide +kernel
theorem dX4_sheet_113 : decode cX4_sheet 113 = .ok (.ireturn, 1) := by decide +kernel
theorem dX4_sheet_114 : decode cX4_sheet 114 = .ok (.aload_n 0, 1) := by decide +kernel
theorem dX4_sheet_115 : decode cX4_sheet 115 = .ok (.getfield 10, 3) := by decide +kernel
theorem dX4_sheet_118 : decode cX4_sheet 118 = .ok (.iload_n 1, 1) := by decide +kernel
theorem dX4_sheet_119 : decode cX4_sheet 119 = .ok (.invokevirtual 99, 3) := by decide +kernel
theorem dX4_sheet_122 : decode cX4_sheet 122 = .ok (.ireturn, 1) := by decide +kernel
theorem dX4_sheet_123 : decode cX4_sheet 123 = .ok (.aload_n 0, 1) := by decide +kernel
theorem dX4_sheet_124 : decode cX4_sheet 124 = .ok (.getfield 10, 3) := by decide +kernel
theorem dX4_sheet_127 : decode cX4_sheet 127 = .ok (.iload_n 1, 1) := by decide +kernel
theorem dX4_sheet_128 : decode cX4_sheet 128 = .ok (.invokevirtual 204, 3) := by decide +kernel
theorem dX4_sheet_131 : decode cX4_sheet 131 = .ok (.ifCond .eq 7, 3) := by decide +kernel
theorem dX4_sheet_134 : decode cX4_sheet 134 = .ok (.iconst 1, 1) := by decide +kernel
theorem dX4_sheet_135 : decode cX4_sheet 135 = .ok (.goto 4, 3) := by decide +kernel
theorem dX4_sheet_138 : decode cX4_sheet 138 = .ok (.iconst 0, 1) := by decide +kernel
theorem dX4_sheet_139 : decode cX4_sheet 139 = .ok (.ireturn, 1) := by decide +kernel
theorem dX4_sheet_140 : decode cX4_sheet 140 = .ok (.aload_n 0, 1) := by decide +kernel
theorem dX4_sheet_141 : decode cX4_sheet 141 = .ok (.getfield 10, 3) := by decide +kernel
theorem dX4_sheet_144 : decode cX4_sheet 144 = .ok (.iload_n 1, 1) := by decide +kernel
theorem dX4_sheet_145 : decode cX4_sheet 145 = .ok (.invokevirtual 207, 3) := by decide +kernel
theorem dX4_sheet_148 : decode cX4_sheet 148 = .ok (.ireturn, 1) := by decide +kernel
theorem dX4_sheet_149 : decode cX4_sheet 149 = .ok (.aload_n 0, 1) := by decide +kernel
theorem dX4_sheet_150 : decode cX4_sheet 150 = .ok (.getfield 10, 3) := by decide +kernel
theorem dX4_sheet_153 : decode cX4_sheet 153 = .ok (.getfield 71, 3) := by decide +kernel
theorem dX4_sheet_156 : decode cX4_sheet 156 = .ok (.iload_n 1, 1) := by decide +kernel
theorem dX4_sheet_157 : decode cX4_sheet 157 = .ok (.invokevirtual 210, 3) := by decide +kernel
theorem dX4_sheet_160 : decode cX4_sheet 160 = .ok (.ireturn, 1) := by decide +kernel
theorem dX4_bin_0 : decode cX4_bin 0 = .ok (.iload_n 1, 1) := by decide +kernel
theorem dX4_bin_1 : decode cX4_bin 1 = .ok (.invokestatic 48, 3) := by decide +kernel
theorem dX4_bin_4 : decode cX4_bin 4 = .ok (.ifCond .ne 13, 3) := by decide +kernel
theorem dX4_bin_7 : decode cX4_bin 7 = .ok (.new 52, 3) := by decide +kernel
theorem dX4_bin_10 : decode cX4_bin 10 = .ok (.dup, 1) := by decide +kernel
theorem dX4_bin_11 : decode cX4_bin 11 = .ok (.ldc 54, 2) := by decide +kernel
theorem dX4_bin_13 : decode cX4_bin 13 = .ok (.invokespecial 56, 3) := by decide +kernel
theorem dX4_bin_16 : decode cX4_bin 16 = .ok (.athrow, 1) := by decide +kernel
theorem dX4_bin_17 : decode cX4_bin 17 = .ok (.iload_n 2, 1) := by decide +kernel
theorem dX4_bin_18 : decode cX4_bin 18 = .ok (.ifCond .lt 8, 3) := by decide +kernel
theorem dX4_bin_21 : decode cX4_bin 21 = .ok (.iload_n 2, 1) := by decide +kernel
theorem dX4_bin_22 : decode cX4_bin 22 = .ok (.iconst 5, 1) := by decide +kernel
theorem dX4_bin_23 : decode cX4_bin 23 = .ok (.if_icmp .lt 13, 3) := by decide +kernel
theorem dX4_bin_26 : decode cX4_bin 26 = .ok (.new 122, 3) := by decide +kernel
theorem dX4_bin_29 : decode cX4_bin 29 = .ok (.dup, 1) := by decide +kernel
theorem dX4_bin_30 : decode cX4_bin 30 = .ok (.ldc 196, 2) := by decide +kernel
theorem dX4_bin_32 : decode cX4_bin 32 = .ok (.invokespecial 126, 3) := by decide +kernel
theorem dX4_bin_35 : decode cX4_bin 35 = .ok (.athrow, 1) := by decide +kernel
theorem dX4_bin_36 : decode cX4_bin 36 = .ok (.iload_n 2, 1) := by decide +kernel
theorem dX4_bin_37 : decode cX4_bin 37 = .ok (.tableswitch 79 0 3 #[31, 43, 55, 67], 31) := by decide +kernel
theorem dX4_bin_68 : decode cX4_bin 68 = .ok (.aload_n 0, 1) := by decide +kernel
theorem dX4_bin_69 : decode cX4_bin 69 = .ok (.getfield 10, 3) := by decide +kernel
theorem dX4_bin_72 : decode cX4_bin 72 = .ok (.getfield 127, 3) := by decide +kernel
theorem dX4_bin_75 : decode cX4_bin 75 = .ok (.iload_n 1, 1) := by decide +kernel
theorem dX4_bin_76 : decode cX4_bin 76 = .ok (.invokestatic 130, 3) := by decide +kernel
theorem dX4_bin_79 : decode cX4_bin 79 = .ok (.ireturn, 1) := by decide +kernel
theorem dX4_bin_80 : decode cX4_bin 80 = .ok (.aload_n 0, 1) := by decide +kernel
theorem dX4_bin_81 : decode cX4_bin 81 = .ok (.getfield 10, 3) := by decide +kernel
theorem dX4_bin_84 : decode cX4_bin 84 = .ok (.getfield 71, 3) := by decide +kernel
theorem dX4_bin_87 : decode cX4_bin 87 = .ok (.iload_n 1, 1) := by decide +kernel
theorem dX4_bin_88 : decode cX4_bin 88 = .ok (.invokevirtual 213, 3) := by decide +kernel
theorem dX4_bin_91 : decode cX4_bin 91 = .ok (.ireturn, 1) := by decide +kernel
theorem dX4_bin_92 : decode cX4_bin 92 = .ok (.aload_n 0, 1) := by decide +kernel
theorem dX4_bin_93 : decode cX4_bin 93 = .ok (.getfield 10, 3) := by decide +kernel
theorem dX4_bin_96 : decode cX4_bin 96 = .ok (.getfield 216, 3) := by decide +kernel
theorem dX4_bin_99 : decode cX4_bin 99 = .ok (.iload_n 1, 1) := by decide +kernel
theorem dX4_bin_100 : decode cX4_bin 100 = .ok (.invokestatic 130, 3) := by decide +kernel
theorem dX4_bin_103 : decode cX4_bin 103 = .ok (.ireturn, 1) := by decide +kernel
theorem dX4_bin_104 : decode cX4_bin 104 = .ok (.aload_n 0, 1) := by decide +kernel
theorem dX4_bin_105 : decode cX4_bin 105 = .ok (.getfield 10, 3) := by decide +kernel
theorem dX4_bin_108 : decode cX4_bin 108 = .ok (.getfield 140, 3) := by decide +kernel
theorem dX4_bin_111 : decode cX4_bin 111 = .ok (.iload_n 1, 1) := by decide +kernel
theorem dX4_bin_112 : decode cX4_bin 112 = .ok (.invokestatic 130, 3) := by decide +kernel
theorem dX4_bin_115 : decode cX4_bin 115 = .ok (.ireturn, 1) := by decide +kernel
theorem dX4_bin_116 : decode cX4_bin 116 = .ok (.aload_n 0, 1) := by decide +kernel
theorem dX4_bin_117 : decode cX4_bin 117 = .ok (.getfield 10, 3) := by decide +kernel
theorem dX4_bin_120 : decode cX4_bin 120 = .ok (.getfield 145, 3) := by decide +kernel
theorem dX4_bin_123 : decode cX4_bin 123 = .ok (.iload_n 1, 1) := by decide +kernel
theorem dX4_bin_124 : decode cX4_bin 124 = .ok (.invokestatic 130, 3) := by decide +kernel
theorem dX4_bin_127 : decode cX4_bin 127 = .ok (.ireturn, 1) := by decide +kernel
theorem dX4_count_0 : decode cX4_count 0 = .ok (.iload_n 1, 1) := by decide +kernel
theorem dX4_count_1 : decode cX4_count 1 = .ok (.ifCond .lt 9, 3) := by decide +kernel
theorem dX4_count_4 : decode cX4_count 4 = .ok (.iload_n 1, 1) := by decide +kernel
theorem dX4_count_5 : decode cX4_count 5 = .ok (.bipush 16, 2) := by decide +kernel
theorem dX4_count_7 : decode cX4_count 7 = .ok (.if_icmp .lt 13, 3) := by decide +kernel
theorem dX4_count_10 : decode cX4_count 10 = .ok (.new 122, 3) := by decide +kernel
theorem dX4_count_13 : decode cX4_count 13 = .ok (.dup, 1) := by decide +kernel
theorem dX4_count_14 : decode cX4_count 14 = .ok (.ldc 196, 2) := by decide +kernel
theorem dX4_count_16 : decode cX4_count 16 = .ok (.invokespecial 126, 3) := by decide +kernel
theorem dX4_count_19 : decode cX4_count 19 = .ok (.athrow, 1) := by decide +kernel
theorem dX4_count_20 : decode cX4_count 20 = .ok (.iload_n 1, 1) := by decide +kernel
theorem dX4_count_21 : decode cX4_count 21 = .ok (.tableswitch 225 0 14 #[75, 86, 94, 102, 110, 118, 144, 155, 166, 177, 185, 193, 201, 209, 217], 75) := by decide +kernel
theorem dX4_count_96 : decode cX4_count 96 = .ok (.aload_n 0, 1) := by decide +kernel
theorem dX4_count_97 : decode cX4_count 97 = .ok (.getfield 10, 3) := by decide +kernel
theorem dX4_count_100 : decode cX4_count 100 = .ok (.getfield 71, 3) := by decide +kernel
theorem dX4_count_103 : decode cX4_count 103 = .ok (.getfield 75, 3) := by decide +kernel
theorem dX4_count_106 : decode cX4_count 106 = .ok (.ireturn, 1) := by decide +kernel
theorem dX4_count_107 : decode cX4_count 107 = .ok (.aload_n 0, 1) := by decide +kernel
theorem dX4_count_108 : decode cX4_count 108 = .ok (.getfield 10, 3) := by decide +kernel
theorem dX4_count_111 : decode cX4_count 111 = .ok (.invokevirtual 107, 3) := by decide +kernel
theorem dX4_count_114 : decode cX4_count 114 = .ok (.ireturn, 1) := by decide +kernel
theorem dX4_count_115 : decode cX4_count 115 = .ok (.aload_n 0, 1) := by decide +kernel
theorem dX4_count_116 : decode cX4_count 116 = .ok (.getfield 10, 3) := by decide +kernel
theorem dX4_count_119 : decode cX4_count 119 = .ok (.invokevirtual 111, 3) := by decide +kernel
theorem dX4_count_122 : decode cX4_count 122 = .ok (.ireturn, 1) := by decide +kernel
theorem dX4_count_123 : decode cX4_count 123 = .ok (.aload_n 0, 1) := by decide +kernel
theorem dX4_count_124 : decode cX4_count 124 = .ok (.getfield 10, 3) := by decide +kernel
theorem dX4_count_127 : decode cX4_count 127 = .ok (.invokevirtual 219, 3) := by decide +kernel
theorem dX4_count_130 : decode cX4_count 130 = .ok (.ireturn, 1) := by decide +kernel
theorem dX4_count_131 : decode cX4_count 131 = .ok (.aload_n 0, 1) := by decide +kernel
theorem dX4_count_132 : decode cX4_count 132 = .ok (.getfield 10, 3) := by decide +kernel
theorem dX4_count_135 : decode cX4_count 135 = .ok (.invokevirtual 222, 3) := by decide +kernel
theorem dX4_count_138 : decode cX4_count 138 = .ok (.ireturn, 1) := by decide +kernel
theorem dX4_count_139 : decode cX4_count 139 = .ok (.aload_n 0, 1) := by decide +kernel
theorem dX4_count_140 : decode cX4_count 140 = .ok (.getfield 10, 3) := by decide +kernel
theorem dX4_count_143 : decode cX4_count 143 = .ok (.invokevirtual 111, 3) := by decide +kernel
theorem dX4_count_146 : decode cX4_count 146 = .ok (.ifCond .eq 17, 3) := by decide +kernel
theorem dX4_count_149 : decode cX4_count 149 = .ok (.aload_n 0, 1) := by decide +kernel
theorem dX4_count_150 : decode cX4_count 150 = .ok (.getfield 10, 3) := by decide +kernel
theorem dX4_count_153 : decode cX4_count 153 = .ok (.invokevirtual 107, 3) := by decide +kernel
theorem dX4_count_156 : decode cX4_count 156 = .ok (.ifCond .ne 7, 3) := by decide +kernel
theorem dX4_count_159 : decode cX4_count 159 = .ok (.iconst 1, 1) := by decide +kernel
theorem dX4_count_160 : decode cX4_count 160 = .ok (.goto 4, 3) := by decide +kernel
theorem dX4_count_163 : decode cX4_count 163 = .ok (.iconst 0, 1) := by decide +kernel
theorem dX4_count_164 : decode cX4_count 164 = .ok (.ireturn, 1) := by decide +kernel
theorem dX4_count_165 : decode cX4_count 165 = .ok (.aload_n 0, 1) := by decide +kernel
theorem dX4_count_166 : decode cX4_count 166 = .ok (.getfield 10, 3) := by decide +kernel
theorem dX4_count_169 : decode cX4_count 169 = .ok (.getfield 71, 3) := by decide +kernel
theorem dX4_count_172 : decode cX4_count 172 = .ok (.invokevirtual 225, 3) := by decide +kernel
theorem dX4_count_175 : decode cX4_count 175 = .ok (.ireturn, 1) := by decide +kernel
theorem dX4_count_176 : decode cX4_count 176 = .ok (.aload_n 0, 1) := by decide +kernel
theorem dX4_count_177 : decode cX4_count 177 = .ok (.getfield 10, 3) := by decide +kernel
theorem dX4_count_180 : decode cX4_count 180 = .ok (.getfield 71, 3) := by decide +kernel
theorem dX4_count_183 : decode cX4_count 183 = .ok (.invokevirtual 228, 3) := by decide +kernel
theorem dX4_count_186 : decode cX4_count 186 = .ok (.ireturn, 1) := by decide +kernel
theorem dX4_count_187 : decode cX4_count 187 = .ok (.aload_n 0, 1) := by decide +kernel
theorem dX4_count_188 : decode cX4_count 188 = .ok (.getfield 10, 3) := by decide +kernel
theorem dX4_count_191 : decode cX4_count 191 = .ok (.getfield 71, 3) := by decide +kernel
theorem dX4_count_194 : decode cX4_count 194 = .ok (.invokevirtual 231, 3) := by decide +kernel
theorem dX4_count_197 : decode cX4_count 197 = .ok (.ireturn, 1) := by decide +kernel
theorem dX4_count_198 : decode cX4_count 198 = .ok (.aload_n 0, 1) := by decide +kernel
theorem dX4_count_199 : decode cX4_count 199 = .ok (.getfield 10, 3) := by decide +kernel
theorem dX4_count_202 : decode cX4_count 202 = .ok (.invokevirtual 234, 3) := by decide +kernel
theorem dX4_count_205 : decode cX4_count 205 = .ok (.ireturn, 1) := by decide +kernel
theorem dX4_count_206 : decode cX4_count 206 = .ok (.aload_n 0, 1) := by decide +kernel
theorem dX4_count_207 : decode cX4_count 207 = .ok (.getfield 10, 3) := by decide +kernel
theorem dX4_count_210 : decode cX4_count 210 = .ok (.invokevirtual 237, 3) := by decide +kernel
theorem dX4_count_213 : decode cX4_count 213 = .ok (.ireturn, 1) := by decide +kernel
theorem dX4_count_214 : decode cX4_count 214 = .ok (.aload_n 0, 1) := by decide +kernel
theorem dX4_count_215 : decode cX4_count 215 = .ok (.getfield 10, 3) := by decide +kernel
theorem dX4_count_218 : decode cX4_count 218 = .ok (.invokevirtual 240, 3) := by decide +kernel
theorem dX4_count_221 : decode cX4_count 221 = .ok (.ireturn, 1) := by decide +kernel
theorem dX4_count_222 : decode cX4_count 222 = .ok (.aload_n 0, 1) := by decide +kernel
theorem dX4_count_223 : decode cX4_count 223 = .ok (.getfield 10, 3) := by decide +kernel
theorem dX4_count_226 : decode cX4_count 226 = .ok (.getfield 119, 3) := by decide +kernel
theorem dX4_count_229 : decode cX4_count 229 = .ok (.ireturn, 1) := by decide +kernel
theorem dX4_count_230 : decode cX4_count 230 = .ok (.aload_n 0, 1) := by decide +kernel
theorem dX4_count_231 : decode cX4_count 231 = .ok (.getfield 10, 3) := by decide +kernel
theorem dX4_count_234 : decode cX4_count 234 = .ok (.invokevirtual 243, 3) := by decide +kernel
theorem dX4_count_237 : decode cX4_count 237 = .ok (.ireturn, 1) := by decide +kernel
theorem dX4_count_238 : decode cX4_count 238 = .ok (.aload_n 0, 1) := by decide +kernel
theorem dX4_count_239 : decode cX4_count 239 = .ok (.getfield 10, 3) := by decide +kernel
theorem dX4_count_242 : decode cX4_count 242 = .ok (.getfield 246, 3) := by decide +kernel
theorem dX4_count_245 : decode cX4_count 245 = .ok (.ireturn, 1) := by decide +kernel
theorem dX4_count_246 : decode cX4_count 246 = .ok (.aload_n 0, 1) := by decide +kernel
theorem dX4_count_247 : decode cX4_count 247 = .ok (.getfield 25, 3) := by decide +kernel
theorem dX4_count_250 : decode cX4_count 250 = .ok (.getfield 188, 3) := by decide +kernel
theorem dX4_count_253 : decode cX4_count 253 = .ok (.ireturn, 1) := by decide +kernel
theorem dX4_setting_0 : decode cX4_setting 0 = .ok (.iload_n 1, 1) := by decide +kernel
theorem dX4_setting_1 : decode cX4_setting 1 = .ok (.invokestatic 151, 3) := by decide +kernel
theorem dX4_setting_4 : decode cX4_setting 4 = .ok (.ifCond .ne 13, 3) := by decide +kernel
theorem dX4_setting_7 : decode cX4_setting 7 = .ok (.new 52, 3) := by decide +kernel
theorem dX4_setting_10 : decode cX4_setting 10 = .ok (.dup, 1) := by decide +kernel
theorem dX4_setting_11 : decode cX4_setting 11 = .ok (.ldc 154, 2) := by decide +kernel
theorem dX4_setting_13 : decode cX4_setting 13 = .ok (.invokespecial 56, 3) := by decide +kernel
theorem dX4_setting_16 : decode cX4_setting 16 = .ok (.athrow, 1) := by decide +kernel
theorem dX4_setting_17 : decode cX4_setting 17 = .ok (.aload_n 0, 1) := by decide +kernel
theorem dX4_setting_18 : decode cX4_setting 18 = .ok (.getfield 10, 3) := by decide +kernel
theorem dX4_setting_21 : decode cX4_setting 21 = .ok (.getfield 164, 3) := by decide +kernel
theorem dX4_setting_24 : decode cX4_setting 24 = .ok (.iload_n 1, 1) := by decide +kernel
theorem dX4_setting_25 : decode cX4_setting 25 = .ok (.invokestatic 130, 3) := by decide +kernel
theorem dX4_setting_28 : decode cX4_setting 28 = .ok (.ireturn, 1) := by decide +kernel
theorem dX4_nextMove_0 : decode cX4_nextMove 0 = .ok (.aload_n 0, 1) := by decide +kernel
theorem dX4_nextMove_1 : decode cX4_nextMove 1 = .ok (.getfield 10, 3) := by decide +kernel
theorem dX4_nextMove_4 : decode cX4_nextMove 4 = .ok (.getfield 71, 3) := by decide +kernel
theorem dX4_nextMove_7 : decode cX4_nextMove 7 = .ok (.getfield 75, 3) := by decide +kernel
theorem dX4_nextMove_10 : decode cX4_nextMove 10 = .ok (.istore_n 1, 1) := by decide +kernel
theorem dX4_nextMove_11 : decode cX4_nextMove 11 = .ok (.aload_n 0, 1) := by decide +kernel
theorem dX4_nextMove_12 : decode cX4_nextMove 12 = .ok (.getfield 10, 3) := by decide +kernel
theorem dX4_nextMove_15 : decode cX4_nextMove 15 = .ok (.getfield 71, 3) := by decide +kernel
theorem dX4_nextMove_18 : decode cX4_nextMove 18 = .ok (.invokevirtual 249, 3) := by decide +kernel
theorem dX4_nextMove_21 : decode cX4_nextMove 21 = .ok (.istore_n 2, 1) := by decide +kernel
theorem dX4_nextMove_22 : decode cX4_nextMove 22 = .ok (.iload_n 2, 1) := by decide +kernel
theorem dX4_nextMove_23 : decode cX4_nextMove 23 = .ok (.iload_n 1, 1) := by decide +kernel
theorem dX4_nextMove_24 : decode cX4_nextMove 24 = .ok (.if_icmp .lt 5, 3) := by decide +kernel
theorem dX4_nextMove_27 : decode cX4_nextMove 27 = .ok (.iconst (-1), 1) := by decide +kernel
theorem dX4_nextMove_28 : decode cX4_nextMove 28 = .ok (.ireturn, 1) := by decide +kernel
theorem dX4_nextMove_29 : decode cX4_nextMove 29 = .ok (.aload_n 0, 1) := by decide +kernel
theorem dX4_nextMove_30 : decode cX4_nextMove 30 = .ok (.getfield 19, 3) := by decide +kernel
theorem dX4_nextMove_33 : decode cX4_nextMove 33 = .ok (.getfield 71, 3) := by decide +kernel
theorem dX4_nextMove_36 : decode cX4_nextMove 36 = .ok (.astore_n 3, 1) := by decide +kernel
theorem dX4_nextMove_37 : decode cX4_nextMove 37 = .ok (.iconst 0, 1) := by decide +kernel
theorem dX4_nextMove_38 : decode cX4_nextMove 38 = .ok (.istore 4, 2) := by decide +kernel
theorem dX4_nextMove_40 : decode cX4_nextMove 40 = .ok (.iload 4, 2) := by decide +kernel
theorem dX4_nextMove_42 : decode cX4_nextMove 42 = .ok (.iload_n 1, 1) := by decide +kernel
theorem dX4_nextMove_43 : decode cX4_nextMove 43 = .ok (.if_icmp .ge 65, 3) := by decide +kernel
theorem dX4_nextMove_46 : decode cX4_nextMove 46 = .ok (.aload_n 3, 1) := by decide +kernel
theorem dX4_nextMove_47 : decode cX4_nextMove 47 = .ok (.aload_n 0, 1) := by decide +kernel
theorem dX4_nextMove_48 : decode cX4_nextMove 48 = .ok (.getfield 10, 3) := by decide +kernel
theorem dX4_nextMove_51 : decode cX4_nextMove 51 = .ok (.getfield 71, 3) := by decide +kernel
theorem dX4_nextMove_54 : decode cX4_nextMove 54 = .ok (.invokevirtual 252, 3) := by decide +kernel
theorem dX4_nextMove_57 : decode cX4_nextMove 57 = .ok (.aload_n 3, 1) := by decide +kernel
theorem dX4_nextMove_58 : decode cX4_nextMove 58 = .ok (.iload 4, 2) := by decide +kernel
theorem dX4_nextMove_60 : decode cX4_nextMove 60 = .ok (.invokevirtual 255, 3) := by decide +kernel
theorem dX4_nextMove_63 : decode cX4_nextMove 63 = .ok (.aload_n 3, 1) := by decide +kernel
theorem dX4_nextMove_64 : decode cX4_nextMove 64 = .ok (.iload_n 2, 1) := by decide +kernel
theorem dX4_nextMove_65 : decode cX4_nextMove 65 = .ok (.iconst 1, 1) := by decide +kernel
theorem dX4_nextMove_66 : decode cX4_nextMove 66 = .ok (.iadd, 1) := by decide +kernel
theorem dX4_nextMove_67 : decode cX4_nextMove 67 = .ok (.aload_n 0, 1) := by decide +kernel
theorem dX4_nextMove_68 : decode cX4_nextMove 68 = .ok (.getfield 10, 3) := by decide +kernel
theorem dX4_nextMove_71 : decode cX4_nextMove 71 = .ok (.getfield 71, 3) := by decide +kernel
theorem dX4_nextMove_74 : decode cX4_nextMove 74 = .ok (.getfield 198, 3) := by decide +kernel
theorem dX4_nextMove_77 : decode cX4_nextMove 77 = .ok (.iload 4, 2) := by decide +kernel
theorem dX4_nextMove_79 : decode cX4_nextMove 79 = .ok (.invokestatic 130, 3) := by decide +kernel
theorem dX4_nextMove_82 : decode cX4_nextMove 82 = .ok (.invokevirtual 258, 3) := by decide +kernel
theorem dX4_nextMove_85 : decode cX4_nextMove 85 = .ok (.istore 5, 2) := by decide +kernel
theorem dX4_nextMove_87 : decode cX4_nextMove 87 = .ok (.iload 5, 2) := by decide +kernel
theorem dX4_nextMove_89 : decode cX4_nextMove 89 = .ok (.iconst (-1), 1) := by decide +kernel
theorem dX4_nextMove_90 : decode cX4_nextMove 90 = .ok (.if_icmp .eq 12, 3) := by decide +kernel
theorem dX4_nextMove_93 : decode cX4_nextMove 93 = .ok (.bipush 20, 2) := by decide +kernel
theorem dX4_nextMove_95 : decode cX4_nextMove 95 = .ok (.iload 4, 2) := by decide +kernel
theorem dX4_nextMove_97 : decode cX4_nextMove 97 = .ok (.imul, 1) := by decide +kernel
theorem dX4_nextMove_98 : decode cX4_nextMove 98 = .ok (.iload 5, 2) := by decide +kernel
theorem dX4_nextMove_100 : decode cX4_nextMove 100 = .ok (.iadd, 1) := by decide +kernel
theorem dX4_nextMove_101 : decode cX4_nextMove 101 = .ok (.ireturn, 1) := by decide +kernel
theorem dX4_nextMove_102 : decode cX4_nextMove 102 = .ok (.iinc 4 1, 3) := by decide +kernel
theorem dX4_nextMove_105 : decode cX4_nextMove 105 = .ok (.goto (-65), 3) := by decide +kernel
theorem dX4_nextMove_108 : decode cX4_nextMove 108 = .ok (.iconst (-1), 1) := by decide +kernel
theorem dX4_nextMove_109 : decode cX4_nextMove 109 = .ok (.ireturn, 1) := by decide +kernel
theorem dX4_ifPulled_0 : decode cX4_ifPulled 0 = .ok (.aload_n 0, 1) := by decide +kernel
theorem dX4_ifPulled_1 : decode cX4_ifPulled 1 = .ok (.getfield 10, 3) := by decide +kernel
theorem dX4_ifPulled_4 : decode cX4_ifPulled 4 = .ok (.getfield 71, 3) := by decide +kernel
theorem dX4_ifPulled_7 : decode cX4_ifPulled 7 = .ok (.iload_n 1, 1) := by decide +kernel
theorem dX4_ifPulled_8 : decode cX4_ifPulled 8 = .ok (.invokevirtual 86, 3) := by decide +kernel
theorem dX4_ifPulled_11 : decode cX4_ifPulled 11 = .ok (.ifCond .ne 13, 3) := by decide +kernel
theorem dX4_ifPulled_14 : decode cX4_ifPulled 14 = .ok (.new 52, 3) := by decide +kernel
theorem dX4_ifPulled_17 : decode cX4_ifPulled 17 = .ok (.dup, 1) := by decide +kernel
theorem dX4_ifPulled_18 : decode cX4_ifPulled 18 = .ok (.ldc 89, 2) := by decide +kernel
theorem dX4_ifPulled_20 : decode cX4_ifPulled 20 = .ok (.invokespecial 56, 3) := by decide +kernel
theorem dX4_ifPulled_23 : decode cX4_ifPulled 23 = .ok (.athrow, 1) := by decide +kernel
theorem dX4_ifPulled_24 : decode cX4_ifPulled 24 = .ok (.iload_n 2, 1) := by decide +kernel
theorem dX4_ifPulled_25 : decode cX4_ifPulled 25 = .ok (.ifCond .lt 8, 3) := by decide +kernel
theorem dX4_ifPulled_28 : decode cX4_ifPulled 28 = .ok (.iload_n 2, 1) := by decide +kernel
theorem dX4_ifPulled_29 : decode cX4_ifPulled 29 = .ok (.iconst 4, 1) := by decide +kernel
theorem dX4_ifPulled_30 : decode cX4_ifPulled 30 = .ok (.if_icmp .lt 13, 3) := by decide +kernel
theorem dX4_ifPulled_33 : decode cX4_ifPulled 33 = .ok (.new 122, 3) := by decide +kernel
theorem dX4_ifPulled_36 : decode cX4_ifPulled 36 = .ok (.dup, 1) := by decide +kernel
theorem dX4_ifPulled_37 : decode cX4_ifPulled 37 = .ok (.ldc 196, 2) := by decide +kernel
theorem dX4_ifPulled_39 : decode cX4_ifPulled 39 = .ok (.invokespecial 126, 3) := by decide +kernel
theorem dX4_ifPulled_42 : decode cX4_ifPulled 42 = .ok (.athrow, 1) := by decide +kernel
theorem dX4_ifPulled_43 : decode cX4_ifPulled 43 = .ok (.aload_n 0, 1) := by decide +kernel
theorem dX4_ifPulled_44 : decode cX4_ifPulled 44 = .ok (.getfield 19, 3) := by decide +kernel
theorem dX4_ifPulled_47 : decode cX4_ifPulled 47 = .ok (.aload_n 0, 1) := by decide +kernel
theorem dX4_ifPulled_48 : decode cX4_ifPulled 48 = .ok (.getfield 10, 3) := by decide +kernel
theorem dX4_ifPulled_51 : decode cX4_ifPulled 51 = .ok (.invokevirtual 183, 3) := by decide +kernel
theorem dX4_ifPulled_54 : decode cX4_ifPulled 54 = .ok (.aload_n 0, 1) := by decide +kernel
theorem dX4_ifPulled_55 : decode cX4_ifPulled 55 = .ok (.getfield 19, 3) := by decide +kernel
theorem dX4_ifPulled_58 : decode cX4_ifPulled 58 = .ok (.getfield 71, 3) := by decide +kernel
theorem dX4_ifPulled_61 : decode cX4_ifPulled 61 = .ok (.iload_n 1, 1) := by decide +kernel
theorem dX4_ifPulled_62 : decode cX4_ifPulled 62 = .ok (.invokevirtual 255, 3) := by decide +kernel
theorem dX4_ifPulled_65 : decode cX4_ifPulled 65 = .ok (.iload_n 2, 1) := by decide +kernel
theorem dX4_ifPulled_66 : decode cX4_ifPulled 66 = .ok (.tableswitch 53 0 2 #[26, 34, 42], 26) := by decide +kernel
theorem dX4_ifPulled_92 : decode cX4_ifPulled 92 = .ok (.aload_n 0, 1) := by decide +kernel
theorem dX4_ifPulled_93 : decode cX4_ifPulled 93 = .ok (.getfield 19, 3) := by decide +kernel
theorem dX4_ifPulled_96 : decode cX4_ifPulled 96 = .ok (.invokevirtual 107, 3) := by decide +kernel
theorem dX4_ifPulled_99 : decode cX4_ifPulled 99 = .ok (.ireturn, 1) := by decide +kernel
theorem dX4_ifPulled_100 : decode cX4_ifPulled 100 = .ok (.aload_n 0, 1) := by decide +kernel
theorem dX4_ifPulled_101 : decode cX4_ifPulled 101 = .ok (.getfield 19, 3) := by decide +kernel
theorem dX4_ifPulled_104 : decode cX4_ifPulled 104 = .ok (.invokevirtual 111, 3) := by decide +kernel
theorem dX4_ifPulled_107 : decode cX4_ifPulled 107 = .ok (.ireturn, 1) := by decide +kernel
theorem dX4_ifPulled_108 : decode cX4_ifPulled 108 = .ok (.aload_n 0, 1) := by decide +kernel
theorem dX4_ifPulled_109 : decode cX4_ifPulled 109 = .ok (.getfield 19, 3) := by decide +kernel
theorem dX4_ifPulled_112 : decode cX4_ifPulled 112 = .ok (.getfield 71, 3) := by decide +kernel
theorem dX4_ifPulled_115 : decode cX4_ifPulled 115 = .ok (.invokevirtual 225, 3) := by decide +kernel
theorem dX4_ifPulled_118 : decode cX4_ifPulled 118 = .ok (.ireturn, 1) := by decide +kernel
theorem dX4_ifPulled_119 : decode cX4_ifPulled 119 = .ok (.aload_n 0, 1) := by decide +kernel
theorem dX4_ifPulled_120 : decode cX4_ifPulled 120 = .ok (.getfield 19, 3) := by decide +kernel
theorem dX4_ifPulled_123 : decode cX4_ifPulled 123 = .ok (.invokevirtual 234, 3) := by decide +kernel
theorem dX4_ifPulled_126 : decode cX4_ifPulled 126 = .ok (.ireturn, 1) := by decide +kernel
theorem dX4_fits_0 : decode cX4_fits 0 = .ok (.aload_n 0, 1) := by decide +kernel
theorem dX4_fits_1 : decode cX4_fits 1 = .ok (.getfield 10, 3) := by decide +kernel
theorem dX4_fits_4 : decode cX4_fits 4 = .ok (.getfield 71, 3) := by decide +kernel
theorem dX4_fits_7 : decode cX4_fits 7 = .ok (.getfield 75, 3) := by decide +kernel
theorem dX4_fits_10 : decode cX4_fits 10 = .ok (.bipush 20, 2) := by decide +kernel
theorem dX4_fits_12 : decode cX4_fits 12 = .ok (.if_icmp .lt 5, 3) := by decide +kernel
theorem dX4_fits_15 : decode cX4_fits 15 = .ok (.iconst (-1), 1) := by decide +kernel
theorem dX4_fits_16 : decode cX4_fits 16 = .ok (.ireturn, 1) := by decide +kernel
theorem dX4_fits_17 : decode cX4_fits 17 = .ok (.aload_n 0, 1) := by decide +kernel
theorem dX4_fits_18 : decode cX4_fits 18 = .ok (.getfield 10, 3) := by decide +kernel
theorem dX4_fits_21 : decode cX4_fits 21 = .ok (.aload_n 0, 1) := by decide +kernel
theorem dX4_fits_22 : decode cX4_fits 22 = .ok (.getfield 10, 3) := by decide +kernel
theorem dX4_fits_25 : decode cX4_fits 25 = .ok (.getfield 71, 3) := by decide +kernel
theorem dX4_fits_28 : decode cX4_fits 28 = .ok (.getfield 75, 3) := by decide +kernel
theorem dX4_fits_31 : decode cX4_fits 31 = .ok (.invokevirtual 262, 3) := by decide +kernel
theorem dX4_fits_34 : decode cX4_fits 34 = .ok (.istore_n 1, 1) := by decide +kernel
theorem dX4_fits_35 : decode cX4_fits 35 = .ok (.iconst 0, 1) := by decide +kernel
theorem dX4_fits_36 : decode cX4_fits 36 = .ok (.istore_n 2, 1) := by decide +kernel
theorem dX4_fits_37 : decode cX4_fits 37 = .ok (.iload_n 2, 1) := by decide +kernel
theorem dX4_fits_38 : decode cX4_fits 38 = .ok (.bipush 16, 2) := by decide +kernel
theorem dX4_fits_40 : decode cX4_fits 40 = .ok (.if_icmp .ge 37, 3) := by decide +kernel
theorem dX4_fits_43 : decode cX4_fits 43 = .ok (.aload_n 0, 1) := by decide +kernel
theorem dX4_fits_44 : decode cX4_fits 44 = .ok (.getfield 10, 3) := by decide +kernel
theorem dX4_fits_47 : decode cX4_fits 47 = .ok (.getfield 127, 3) := by decide +kernel
theorem dX4_fits_50 : decode cX4_fits 50 = .ok (.iload_n 2, 1) := by decide +kernel
theorem dX4_fits_51 : decode cX4_fits 51 = .ok (.invokestatic 130, 3) := by decide +kernel
theorem dX4_fits_54 : decode cX4_fits 54 = .ok (.ifCond .le 17, 3) := by decide +kernel
theorem dX4_fits_57 : decode cX4_fits 57 = .ok (.aload_n 0, 1) := by decide +kernel
theorem dX4_fits_58 : decode cX4_fits 58 = .ok (.getfield 10, 3) := by decide +kernel
theorem dX4_fits_61 : decode cX4_fits 61 = .ok (.iload_n 2, 1) := by decide +kernel
theorem dX4_fits_62 : decode cX4_fits 62 = .ok (.invokevirtual 265, 3) := by decide +kernel
theorem dX4_fits_65 : decode cX4_fits 65 = .ok (.iload_n 1, 1) := by decide +kernel
theorem dX4_fits_66 : decode cX4_fits 66 = .ok (.if_icmp .ne 5, 3) := by decide +kernel
theorem dX4_fits_69 : decode cX4_fits 69 = .ok (.iload_n 2, 1) := by decide +kernel
theorem dX4_fits_70 : decode cX4_fits 70 = .ok (.ireturn, 1) := by decide +kernel
theorem dX4_fits_71 : decode cX4_fits 71 = .ok (.iinc 2 1, 3) := by decide +kernel
theorem dX4_fits_74 : decode cX4_fits 74 = .ok (.goto (-37), 3) := by decide +kernel
theorem dX4_fits_77 : decode cX4_fits 77 = .ok (.iconst (-1), 1) := by decide +kernel
theorem dX4_fits_78 : decode cX4_fits 78 = .ok (.ireturn, 1) := by decide +kernel
theorem dX4_books_0 : decode cX4_books 0 = .ok (.aload_n 0, 1) := by decide +kernel
theorem dX4_books_1 : decode cX4_books 1 = .ok (.getfield 10, 3) := by decide +kernel
theorem dX4_books_4 : decode cX4_books 4 = .ok (.iconst 0, 1) := by decide +kernel
theorem dX4_books_5 : decode cX4_books 5 = .ok (.invokevirtual 268, 3) := by decide +kernel
theorem dX4_books_8 : decode cX4_books 8 = .ok (.istore_n 1, 1) := by decide +kernel
theorem dX4_books_9 : decode cX4_books 9 = .ok (.iconst 1, 1) := by decide +kernel
theorem dX4_books_10 : decode cX4_books 10 = .ok (.istore_n 2, 1) := by decide +kernel
theorem dX4_books_11 : decode cX4_books 11 = .ok (.iload_n 2, 1) := by decide +kernel
theorem dX4_books_12 : decode cX4_books 12 = .ok (.aload_n 0, 1) := by decide +kernel
theorem dX4_books_13 : decode cX4_books 13 = .ok (.getfield 10, 3) := by decide +kernel
theorem dX4_books_16 : decode cX4_books 16 = .ok (.invokevirtual 271, 3) := by decide +kernel
theorem dX4_books_19 : decode cX4_books 19 = .ok (.if_icmp .ge 22, 3) := by decide +kernel
theorem dX4_books_22 : decode cX4_books 22 = .ok (.iload_n 1, 1) := by decide +kernel
theorem dX4_books_23 : decode cX4_books 23 = .ok (.aload_n 0, 1) := by decide +kernel
theorem dX4_books_24 : decode cX4_books 24 = .ok (.getfield 10, 3) := by decide +kernel
theorem dX4_books_27 : decode cX4_books 27 = .ok (.iload_n 2, 1) := by decide +kernel
theorem dX4_books_28 : decode cX4_books 28 = .ok (.invokevirtual 268, 3) := by decide +kernel
theorem dX4_books_31 : decode cX4_books 31 = .ok (.invokestatic 274, 3) := by decide +kernel
theorem dX4_books_34 : decode cX4_books 34 = .ok (.istore_n 1, 1) := by decide +kernel
theorem dX4_books_35 : decode cX4_books 35 = .ok (.iinc 2 1, 3) := by decide +kernel
theorem dX4_books_38 : decode cX4_books 38 = .ok (.goto (-27), 3) := by decide +kernel
theorem dX4_books_41 : decode cX4_books 41 = .ok (.iload_n 1, 1) := by decide +kernel
theorem dX4_books_42 : decode cX4_books 42 = .ok (.ireturn, 1) := by decide +kernel
theorem dX4_stairShare_0 : decode cX4_stairShare 0 = .ok (.aload_n 0, 1) := by decide +kernel
theorem dX4_stairShare_1 : decode cX4_stairShare 1 = .ok (.getfield 10, 3) := by decide +kernel
theorem dX4_stairShare_4 : decode cX4_stairShare 4 = .ok (.getfield 71, 3) := by decide +kernel
theorem dX4_stairShare_7 : decode cX4_stairShare 7 = .ok (.getfield 75, 3) := by decide +kernel
theorem dX4_stairShare_10 : decode cX4_stairShare 10 = .ok (.istore_n 1, 1) := by decide +kernel
theorem dX4_stairShare_11 : decode cX4_stairShare 11 = .ok (.iload_n 1, 1) := by decide +kernel
theorem dX4_stairShare_12 : decode cX4_stairShare 12 = .ok (.ifCond .le 19, 3) := by decide +kernel
theorem dX4_stairShare_15 : decode cX4_stairShare 15 = .ok (.iload_n 1, 1) := by decide +kernel
theorem dX4_stairShare_16 : decode cX4_stairShare 16 = .ok (.aload_n 0, 1) := by decide +kernel
theorem dX4_stairShare_17 : decode cX4_stairShare 17 = .ok (.getfield 10, 3) := by decide +kernel
theorem dX4_stairShare_20 : decode cX4_stairShare 20 = .ok (.invokevirtual 107, 3) := by decide +kernel
theorem dX4_stairShare_23 : decode cX4_stairShare 23 = .ok (.isub, 1) := by decide +kernel
theorem dX4_stairShare_24 : decode cX4_stairShare 24 = .ok (.i2d, 1) := by decide +kernel
theorem dX4_stairShare_25 : decode cX4_stairShare 25 = .ok (.iload_n 1, 1) := by decide +kernel
theorem dX4_stairShare_26 : decode cX4_stairShare 26 = .ok (.i2d, 1) := by decide +kernel
theorem dX4_stairShare_27 : decode cX4_stairShare 27 = .ok (.ddiv, 1) := by decide +kernel
theorem dX4_stairShare_28 : decode cX4_stairShare 28 = .ok (.goto 4, 3) := by decide +kernel
theorem dX4_stairShare_31 : decode cX4_stairShare 31 = .ok (.dconst 1, 1) := by decide +kernel
theorem dX4_stairShare_32 : decode cX4_stairShare 32 = .ok (.dreturn, 1) := by decide +kernel
theorem dX4_meanThread_0 : decode cX4_meanThread 0 = .ok (.aload_n 0, 1) := by decide +kernel
theorem dX4_meanThread_1 : decode cX4_meanThread 1 = .ok (.getfield 10, 3) := by decide +kernel
theorem dX4_meanThread_4 : decode cX4_meanThread 4 = .ok (.getfield 71, 3) := by decide +kernel
theorem dX4_meanThread_7 : decode cX4_meanThread 7 = .ok (.getfield 75, 3) := by decide +kernel
theorem dX4_meanThread_10 : decode cX4_meanThread 10 = .ok (.istore_n 1, 1) := by decide +kernel
theorem dX4_meanThread_11 : decode cX4_meanThread 11 = .ok (.iload_n 1, 1) := by decide +kernel
theorem dX4_meanThread_12 : decode cX4_meanThread 12 = .ok (.ifCond .le 17, 3) := by decide +kernel
theorem dX4_meanThread_15 : decode cX4_meanThread 15 = .ok (.aload_n 0, 1) := by decide +kernel
theorem dX4_meanThread_16 : decode cX4_meanThread 16 = .ok (.getfield 10, 3) := by decide +kernel
theorem dX4_meanThread_19 : decode cX4_meanThread 19 = .ok (.invokevirtual 237, 3) := by decide +kernel
theorem dX4_meanThread_22 : decode cX4_meanThread 22 = .ok (.i2f, 1) := by decide +kernel
theorem dX4_meanThread_23 : decode cX4_meanThread 23 = .ok (.iload_n 1, 1) := by decide +kernel
theorem dX4_meanThread_24 : decode cX4_meanThread 24 = .ok (.i2f, 1) := by decide +kernel
theorem dX4_meanThread_25 : decode cX4_meanThread 25 = .ok (.fdiv, 1) := by decide +kernel
theorem dX4_meanThread_26 : decode cX4_meanThread 26 = .ok (.goto 4, 3) := by decide +kernel
theorem dX4_meanThread_29 : decode cX4_meanThread 29 = .ok (.fconst 0, 1) := by decide +kernel
theorem dX4_meanThread_30 : decode cX4_meanThread 30 = .ok (.freturn, 1) := by decide +kernel
theorem dX4_digest_0 : decode cX4_digest 0 = .ok (.ldc2_w 279, 3) := by decide +kernel
theorem dX4_digest_3 : decode cX4_digest 3 = .ok (.lstore_n 1, 1) := by decide +kernel
theorem dX4_digest_4 : decode cX4_digest 4 = .ok (.iconst 0, 1) := by decide +kernel
theorem dX4_digest_5 : decode cX4_digest 5 = .ok (.istore_n 3, 1) := by decide +kernel
theorem dX4_digest_6 : decode cX4_digest 6 = .ok (.iload_n 3, 1) := by decide +kernel
theorem dX4_digest_7 : decode cX4_digest 7 = .ok (.bipush 16, 2) := by decide +kernel
theorem dX4_digest_9 : decode cX4_digest 9 = .ok (.if_icmp .ge 20, 3) := by decide +kernel
theorem dX4_digest_12 : decode cX4_digest 12 = .ok (.lload_n 1, 1) := by decide +kernel
theorem dX4_digest_13 : decode cX4_digest 13 = .ok (.aload_n 0, 1) := by decide +kernel
theorem dX4_digest_14 : decode cX4_digest 14 = .ok (.iload_n 3, 1) := by decide +kernel
theorem dX4_digest_15 : decode cX4_digest 15 = .ok (.invokevirtual 281, 3) := by decide +kernel
theorem dX4_digest_18 : decode cX4_digest 18 = .ok (.i2l, 1) := by decide +kernel
theorem dX4_digest_19 : decode cX4_digest 19 = .ok (.invokestatic 284, 3) := by decide +kernel
theorem dX4_digest_22 : decode cX4_digest 22 = .ok (.lstore_n 1, 1) := by decide +kernel
theorem dX4_digest_23 : decode cX4_digest 23 = .ok (.iinc 3 1, 3) := by decide +kernel
theorem dX4_digest_26 : decode cX4_digest 26 = .ok (.goto (-20), 3) := by decide +kernel
theorem dX4_digest_29 : decode cX4_digest 29 = .ok (.iconst 0, 1) := by decide +kernel
theorem dX4_digest_30 : decode cX4_digest 30 = .ok (.istore_n 3, 1) := by decide +kernel
theorem dX4_digest_31 : decode cX4_digest 31 = .ok (.iload_n 3, 1) := by decide +kernel
theorem dX4_digest_32 : decode cX4_digest 32 = .ok (.iconst 3, 1) := by decide +kernel
theorem dX4_digest_33 : decode cX4_digest 33 = .ok (.if_icmp .ge 26, 3) := by decide +kernel
theorem dX4_digest_36 : decode cX4_digest 36 = .ok (.lload_n 1, 1) := by decide +kernel
theorem dX4_digest_37 : decode cX4_digest 37 = .ok (.aload_n 0, 1) := by decide +kernel
theorem dX4_digest_38 : decode cX4_digest 38 = .ok (.getfield 10, 3) := by decide +kernel
theorem dX4_digest_41 : decode cX4_digest 41 = .ok (.getfield 164, 3) := by decide +kernel
theorem dX4_digest_44 : decode cX4_digest 44 = .ok (.iload_n 3, 1) := by decide +kernel
theorem dX4_digest_45 : decode cX4_digest 45 = .ok (.invokestatic 130, 3) := by decide +kernel
theorem dX4_digest_48 : decode cX4_digest 48 = .ok (.i2l, 1) := by decide +kernel
theorem dX4_digest_49 : decode cX4_digest 49 = .ok (.invokestatic 284, 3) := by decide +kernel
theorem dX4_digest_52 : decode cX4_digest 52 = .ok (.lstore_n 1, 1) := by decide +kernel
theorem dX4_digest_53 : decode cX4_digest 53 = .ok (.iinc 3 1, 3) := by decide +kernel
theorem dX4_digest_56 : decode cX4_digest 56 = .ok (.goto (-25), 3) := by decide +kernel
theorem dX4_digest_59 : decode cX4_digest 59 = .ok (.iconst 0, 1) := by decide +kernel
theorem dX4_digest_60 : decode cX4_digest 60 = .ok (.istore_n 3, 1) := by decide +kernel
theorem dX4_digest_61 : decode cX4_digest 61 = .ok (.iload_n 3, 1) := by decide +kernel
theorem dX4_digest_62 : decode cX4_digest 62 = .ok (.aload_n 0, 1) := by decide +kernel
theorem dX4_digest_63 : decode cX4_digest 63 = .ok (.getfield 10, 3) := by decide +kernel
theorem dX4_digest_66 : decode cX4_digest 66 = .ok (.getfield 71, 3) := by decide +kernel
theorem dX4_digest_69 : decode cX4_digest 69 = .ok (.getfield 75, 3) := by decide +kernel
theorem dX4_digest_72 : decode cX4_digest 72 = .ok (.if_icmp .ge 66, 3) := by decide +kernel
theorem dX4_digest_75 : decode cX4_digest 75 = .ok (.iconst 0, 1) := by decide +kernel
theorem dX4_digest_76 : decode cX4_digest 76 = .ok (.istore 4, 2) := by decide +kernel
theorem dX4_digest_78 : decode cX4_digest 78 = .ok (.iload 4, 2) := by decide +kernel
theorem dX4_digest_80 : decode cX4_digest 80 = .ok (.bipush 6, 2) := by decide +kernel
theorem dX4_digest_82 : decode cX4_digest 82 = .ok (.if_icmp .ge 22, 3) := by decide +kernel
theorem dX4_digest_85 : decode cX4_digest 85 = .ok (.lload_n 1, 1) := by decide +kernel
theorem dX4_digest_86 : decode cX4_digest 86 = .ok (.aload_n 0, 1) := by decide +kernel
theorem dX4_digest_87 : decode cX4_digest 87 = .ok (.iload_n 3, 1) := by decide +kernel
theorem dX4_digest_88 : decode cX4_digest 88 = .ok (.iload 4, 2) := by decide +kernel
theorem dX4_digest_90 : decode cX4_digest 90 = .ok (.invokevirtual 288, 3) := by decide +kernel
theorem dX4_digest_93 : decode cX4_digest 93 = .ok (.i2l, 1) := by decide +kernel
theorem dX4_digest_94 : decode cX4_digest 94 = .ok (.invokestatic 284, 3) := by decide +kernel
theorem dX4_digest_97 : decode cX4_digest 97 = .ok (.lstore_n 1, 1) := by decide +kernel
theorem dX4_digest_98 : decode cX4_digest 98 = .ok (.iinc 4 1, 3) := by decide +kernel
theorem dX4_digest_101 : decode cX4_digest 101 = .ok (.goto (-23), 3) := by decide +kernel
theorem dX4_digest_104 : decode cX4_digest 104 = .ok (.iconst 0, 1) := by decide +kernel
theorem dX4_digest_105 : decode cX4_digest 105 = .ok (.istore 4, 2) := by decide +kernel
theorem dX4_digest_107 : decode cX4_digest 107 = .ok (.iload 4, 2) := by decide +kernel
theorem dX4_digest_109 : decode cX4_digest 109 = .ok (.iconst 4, 1) := by decide +kernel
theorem dX4_digest_110 : decode cX4_digest 110 = .ok (.if_icmp .ge 22, 3) := by decide +kernel
theorem dX4_digest_113 : decode cX4_digest 113 = .ok (.lload_n 1, 1) := by decide +kernel
theorem dX4_digest_114 : decode cX4_digest 114 = .ok (.aload_n 0, 1) := by decide +kernel
theorem dX4_digest_115 : decode cX4_digest 115 = .ok (.iload_n 3, 1) := by decide +kernel
theorem dX4_digest_116 : decode cX4_digest 116 = .ok (.iload 4, 2) := by decide +kernel
theorem dX4_digest_118 : decode cX4_digest 118 = .ok (.invokevirtual 291, 3) := by decide +kernel
theorem dX4_digest_121 : decode cX4_digest 121 = .ok (.i2l, 1) := by decide +kernel
theorem dX4_digest_122 : decode cX4_digest 122 = .ok (.invokestatic 284, 3) := by decide +kernel
theorem dX4_digest_125 : decode cX4_digest 125 = .ok (.lstore_n 1, 1) := by decide +kernel
theorem dX4_digest_126 : decode cX4_digest 126 = .ok (.iinc 4 1, 3) := by decide +kernel
theorem dX4_digest_129 : decode cX4_digest 129 = .ok (.goto (-22), 3) := by decide +kernel
theorem dX4_digest_132 : decode cX4_digest 132 = .ok (.iinc 3 1, 3) := by decide +kernel
theorem dX4_digest_135 : decode cX4_digest 135 = .ok (.goto (-74), 3) := by decide +kernel
theorem dX4_digest_138 : decode cX4_digest 138 = .ok (.iconst 0, 1) := by decide +kernel
theorem dX4_digest_139 : decode cX4_digest 139 = .ok (.istore_n 3, 1) := by decide +kernel
theorem dX4_digest_140 : decode cX4_digest 140 = .ok (.iload_n 3, 1) := by decide +kernel
theorem dX4_digest_141 : decode cX4_digest 141 = .ok (.bipush 16, 2) := by decide +kernel
theorem dX4_digest_143 : decode cX4_digest 143 = .ok (.if_icmp .ge 37, 3) := by decide +kernel
theorem dX4_digest_146 : decode cX4_digest 146 = .ok (.iconst 0, 1) := by decide +kernel
theorem dX4_digest_147 : decode cX4_digest 147 = .ok (.istore 4, 2) := by decide +kernel
theorem dX4_digest_149 : decode cX4_digest 149 = .ok (.iload 4, 2) := by decide +kernel
theorem dX4_digest_151 : decode cX4_digest 151 = .ok (.iconst 5, 1) := by decide +kernel
theorem dX4_digest_152 : decode cX4_digest 152 = .ok (.if_icmp .ge 22, 3) := by decide +kernel
theorem dX4_digest_155 : decode cX4_digest 155 = .ok (.lload_n 1, 1) := by decide +kernel
theorem dX4_digest_156 : decode cX4_digest 156 = .ok (.aload_n 0, 1) := by decide +kernel
theorem dX4_digest_157 : decode cX4_digest 157 = .ok (.iload_n 3, 1) := by decide +kernel
theorem dX4_digest_158 : decode cX4_digest 158 = .ok (.iload 4, 2) := by decide +kernel
theorem dX4_digest_160 : decode cX4_digest 160 = .ok (.invokevirtual 294, 3) := by decide +kernel
theorem dX4_digest_163 : decode cX4_digest 163 = .ok (.i2l, 1) := by decide +kernel
theorem dX4_digest_164 : decode cX4_digest 164 = .ok (.invokestatic 284, 3) := by decide +kernel
theorem dX4_digest_167 : decode cX4_digest 167 = .ok (.lstore_n 1, 1) := by decide +kernel
theorem dX4_digest_168 : decode cX4_digest 168 = .ok (.iinc 4 1, 3) := by decide +kernel
theorem dX4_digest_171 : decode cX4_digest 171 = .ok (.goto (-22), 3) := by decide +kernel
theorem dX4_digest_174 : decode cX4_digest 174 = .ok (.iinc 3 1, 3) := by decide +kernel
theorem dX4_digest_177 : decode cX4_digest 177 = .ok (.goto (-37), 3) := by decide +kernel
theorem dX4_digest_180 : decode cX4_digest 180 = .ok (.lload_n 1, 1) := by decide +kernel
theorem dX4_digest_181 : decode cX4_digest 181 = .ok (.aload_n 0, 1) := by decide +kernel
theorem dX4_digest_182 : decode cX4_digest 182 = .ok (.invokevirtual 297, 3) := by decide +kernel
theorem dX4_digest_185 : decode cX4_digest 185 = .ok (.i2l, 1) := by decide +kernel
theorem dX4_digest_186 : decode cX4_digest 186 = .ok (.invokestatic 284, 3) := by decide +kernel
theorem dX4_digest_189 : decode cX4_digest 189 = .ok (.lstore_n 1, 1) := by decide +kernel
theorem dX4_digest_190 : decode cX4_digest 190 = .ok (.lload_n 1, 1) := by decide +kernel
theorem dX4_digest_191 : decode cX4_digest 191 = .ok (.aload_n 0, 1) := by decide +kernel
theorem dX4_digest_192 : decode cX4_digest 192 = .ok (.invokevirtual 300, 3) := by decide +kernel
theorem dX4_digest_195 : decode cX4_digest 195 = .ok (.i2l, 1) := by decide +kernel
theorem dX4_digest_196 : decode cX4_digest 196 = .ok (.invokestatic 284, 3) := by decide +kernel
theorem dX4_digest_199 : decode cX4_digest 199 = .ok (.lstore_n 1, 1) := by decide +kernel
theorem dX4_digest_200 : decode cX4_digest 200 = .ok (.lload_n 1, 1) := by decide +kernel
theorem dX4_digest_201 : decode cX4_digest 201 = .ok (.aload_n 0, 1) := by decide +kernel
theorem dX4_digest_202 : decode cX4_digest 202 = .ok (.invokevirtual 303, 3) := by decide +kernel
theorem dX4_digest_205 : decode cX4_digest 205 = .ok (.i2l, 1) := by decide +kernel
theorem dX4_digest_206 : decode cX4_digest 206 = .ok (.invokestatic 284, 3) := by decide +kernel
theorem dX4_digest_209 : decode cX4_digest 209 = .ok (.lstore_n 1, 1) := by decide +kernel
theorem dX4_digest_210 : decode cX4_digest 210 = .ok (.lload_n 1, 1) := by decide +kernel
theorem dX4_digest_211 : decode cX4_digest 211 = .ok (.aload_n 0, 1) := by decide +kernel
theorem dX4_digest_212 : decode cX4_digest 212 = .ok (.invokevirtual 306, 3) := by decide +kernel
theorem dX4_digest_215 : decode cX4_digest 215 = .ok (.invokestatic 310, 3) := by decide +kernel
theorem dX4_digest_218 : decode cX4_digest 218 = .ok (.invokestatic 284, 3) := by decide +kernel
theorem dX4_digest_221 : decode cX4_digest 221 = .ok (.lstore_n 1, 1) := by decide +kernel
theorem dX4_digest_222 : decode cX4_digest 222 = .ok (.lload_n 1, 1) := by decide +kernel
theorem dX4_digest_223 : decode cX4_digest 223 = .ok (.aload_n 0, 1) := by decide +kernel
theorem dX4_digest_224 : decode cX4_digest 224 = .ok (.invokevirtual 314, 3) := by decide +kernel
theorem dX4_digest_227 : decode cX4_digest 227 = .ok (.invokestatic 318, 3) := by decide +kernel
theorem dX4_digest_230 : decode cX4_digest 230 = .ok (.i2l, 1) := by decide +kernel
theorem dX4_digest_231 : decode cX4_digest 231 = .ok (.invokestatic 284, 3) := by decide +kernel
theorem dX4_digest_234 : decode cX4_digest 234 = .ok (.lstore_n 1, 1) := by decide +kernel
theorem dX4_digest_235 : decode cX4_digest 235 = .ok (.lload_n 1, 1) := by decide +kernel
theorem dX4_digest_236 : decode cX4_digest 236 = .ok (.aload_n 0, 1) := by decide +kernel
theorem dX4_digest_237 : decode cX4_digest 237 = .ok (.getfield 44, 3) := by decide +kernel
theorem dX4_digest_240 : decode cX4_digest 240 = .ok (.ifCond .eq 7, 3) := by decide +kernel
theorem dX4_digest_243 : decode cX4_digest 243 = .ok (.lconst 1, 1) := by decide +kernel
theorem dX4_digest_244 : decode cX4_digest 244 = .ok (.goto 4, 3) := by decide +kernel
theorem dX4_digest_247 : decode cX4_digest 247 = .ok (.lconst 0, 1) := by decide +kernel
theorem dX4_digest_248 : decode cX4_digest 248 = .ok (.invokestatic 284, 3) := by decide +kernel
theorem dX4_digest_251 : decode cX4_digest 251 = .ok (.lstore_n 1, 1) := by decide +kernel
theorem dX4_digest_252 : decode cX4_digest 252 = .ok (.aload_n 0, 1) := by decide +kernel
theorem dX4_digest_253 : decode cX4_digest 253 = .ok (.lload_n 1, 1) := by decide +kernel
theorem dX4_digest_254 : decode cX4_digest 254 = .ok (.invokevirtual 322, 3) := by decide +kernel
theorem dX4_digest_257 : decode cX4_digest 257 = .ok (.lreturn, 1) := by decide +kernel
theorem dX4_readBuffer_0 : decode cX4_readBuffer 0 = .ok (.aload_n 0, 1) := by decide +kernel
theorem dX4_readBuffer_1 : decode cX4_readBuffer 1 = .ok (.getfield 32, 3) := by decide +kernel
theorem dX4_readBuffer_4 : decode cX4_readBuffer 4 = .ok (.invokevirtual 326, 3) := by decide +kernel
theorem dX4_readBuffer_7 : decode cX4_readBuffer 7 = .ok (.iconst 0, 1) := by decide +kernel
theorem dX4_readBuffer_8 : decode cX4_readBuffer 8 = .ok (.istore_n 1, 1) := by decide +kernel
theorem dX4_readBuffer_9 : decode cX4_readBuffer 9 = .ok (.iload_n 1, 1) := by decide +kernel
theorem dX4_readBuffer_10 : decode cX4_readBuffer 10 = .ok (.aload_n 0, 1) := by decide +kernel
theorem dX4_readBuffer_11 : decode cX4_readBuffer 11 = .ok (.getfield 40, 3) := by decide +kernel
theorem dX4_readBuffer_14 : decode cX4_readBuffer 14 = .ok (.if_icmp .ge 29, 3) := by decide +kernel
theorem dX4_readBuffer_17 : decode cX4_readBuffer 17 = .ok (.aload_n 0, 1) := by decide +kernel
theorem dX4_readBuffer_18 : decode cX4_readBuffer 18 = .ok (.getfield 32, 3) := by decide +kernel
theorem dX4_readBuffer_21 : decode cX4_readBuffer 21 = .ok (.aload_n 0, 1) := by decide +kernel
theorem dX4_readBuffer_22 : decode cX4_readBuffer 22 = .ok (.getfield 36, 3) := by decide +kernel
theorem dX4_readBuffer_25 : decode cX4_readBuffer 25 = .ok (.iload_n 1, 1) := by decide +kernel
theorem dX4_readBuffer_26 : decode cX4_readBuffer 26 = .ok (.invokestatic 130, 3) := by decide +kernel
theorem dX4_readBuffer_29 : decode cX4_readBuffer 29 = .ok (.invokevirtual 329, 3) := by decide +kernel
theorem dX4_readBuffer_32 : decode cX4_readBuffer 32 = .ok (.ifCond .ne 5, 3) := by decide +kernel
theorem dX4_readBuffer_35 : decode cX4_readBuffer 35 = .ok (.iload_n 1, 1) := by decide +kernel
theorem dX4_readBuffer_36 : decode cX4_readBuffer 36 = .ok (.ireturn, 1) := by decide +kernel
theorem dX4_readBuffer_37 : decode cX4_readBuffer 37 = .ok (.iinc 1 1, 3) := by decide +kernel
theorem dX4_readBuffer_40 : decode cX4_readBuffer 40 = .ok (.goto (-31), 3) := by decide +kernel
theorem dX4_readBuffer_43 : decode cX4_readBuffer 43 = .ok (.aload_n 0, 1) := by decide +kernel
theorem dX4_readBuffer_44 : decode cX4_readBuffer 44 = .ok (.getfield 40, 3) := by decide +kernel
theorem dX4_readBuffer_47 : decode cX4_readBuffer 47 = .ok (.ireturn, 1) := by decide +kernel
theorem dX4_doParts_0 : decode cX4_doParts 0 = .ok (.iconst 0, 1) := by decide +kernel
theorem dX4_doParts_1 : decode cX4_doParts 1 = .ok (.istore_n 1, 1) := by decide +kernel
theorem dX4_doParts_2 : decode cX4_doParts 2 = .ok (.aload_n 0, 1) := by decide +kernel
theorem dX4_doParts_3 : decode cX4_doParts 3 = .ok (.getfield 32, 3) := by decide +kernel
theorem dX4_doParts_6 : decode cX4_doParts 6 = .ok (.invokevirtual 326, 3) := by decide +kernel
theorem dX4_doParts_9 : decode cX4_doParts 9 = .ok (.iconst 0, 1) := by decide +kernel
theorem dX4_doParts_10 : decode cX4_doParts 10 = .ok (.istore_n 2, 1) := by decide +kernel
theorem dX4_doParts_11 : decode cX4_doParts 11 = .ok (.iload_n 2, 1) := by decide +kernel
theorem dX4_doParts_12 : decode cX4_doParts 12 = .ok (.aload_n 0, 1) := by decide +kernel
theorem dX4_doParts_13 : decode cX4_doParts 13 = .ok (.getfield 40, 3) := by decide +kernel
theorem dX4_doParts_16 : decode cX4_doParts 16 = .ok (.if_icmp .gt 92, 3) := by decide +kernel
theorem dX4_doParts_19 : decode cX4_doParts 19 = .ok (.iload_n 2, 1) := by decide +kernel
theorem dX4_doParts_20 : decode cX4_doParts 20 = .ok (.aload_n 0, 1) := by decide +kernel
theorem dX4_doParts_21 : decode cX4_doParts 21 = .ok (.getfield 40, 3) := by decide +kernel
theorem dX4_doParts_24 : decode cX4_doParts 24 = .ok (.if_icmp .eq 16, 3) := by decide +kernel
theorem dX4_doParts_27 : decode cX4_doParts 27 = .ok (.aload_n 0, 1) := by decide +kernel
theorem dX4_doParts_28 : decode cX4_doParts 28 = .ok (.getfield 36, 3) := by decide +kernel
theorem dX4_doParts_31 : decode cX4_doParts 31 = .ok (.iload_n 2, 1) := by decide +kernel
theorem dX4_doParts_32 : decode cX4_doParts 32 = .ok (.invokestatic 130, 3) := by decide +kernel
theorem dX4_doParts_35 : decode cX4_doParts 35 = .ok (.bipush 59, 2) := by decide +kernel
theorem dX4_doParts_37 : decode cX4_doParts 37 = .ok (.if_icmp .ne 7, 3) := by decide +kernel
theorem dX4_doParts_40 : decode cX4_doParts 40 = .ok (.iconst 1, 1) := by decide +kernel
theorem dX4_doParts_41 : decode cX4_doParts 41 = .ok (.goto 4, 3) := by decide +kernel
theorem dX4_doParts_44 : decode cX4_doParts 44 = .ok (.iconst 0, 1) := by decide +kernel
theorem dX4_doParts_45 : decode cX4_doParts 45 = .ok (.istore_n 3, 1) := by decide +kernel
theorem dX4_doParts_46 : decode cX4_doParts 46 = .ok (.iload_n 3, 1) := by decide +kernel
theorem dX4_doParts_47 : decode cX4_doParts 47 = .ok (.ifCond .eq 20, 3) := by decide +kernel
theorem dX4_doParts_50 : decode cX4_doParts 50 = .ok (.aload_n 0, 1) := by decide +kernel
theorem dX4_doParts_51 : decode cX4_doParts 51 = .ok (.invokevirtual 332, 3) := by decide +kernel
theorem dX4_doParts_54 : decode cX4_doParts 54 = .ok (.ifCond .ne 13, 3) := by decide +kernel
theorem dX4_doParts_57 : decode cX4_doParts 57 = .ok (.aload_n 0, 1) := by decide +kernel
theorem dX4_doParts_58 : decode cX4_doParts 58 = .ok (.getfield 10, 3) := by decide +kernel
theorem dX4_doParts_61 : decode cX4_doParts 61 = .ok (.iload_n 1, 1) := by decide +kernel
theorem dX4_doParts_62 : decode cX4_doParts 62 = .ok (.putfield 246, 3) := by decide +kernel
theorem dX4_doParts_65 : decode cX4_doParts 65 = .ok (.iload_n 1, 1) := by decide +kernel
theorem dX4_doParts_66 : decode cX4_doParts 66 = .ok (.ireturn, 1) := by decide +kernel
theorem dX4_doParts_67 : decode cX4_doParts 67 = .ok (.iload_n 3, 1) := by decide +kernel
theorem dX4_doParts_68 : decode cX4_doParts 68 = .ok (.ifCond .eq 10, 3) := by decide +kernel
theorem dX4_doParts_71 : decode cX4_doParts 71 = .ok (.aload_n 0, 1) := by decide +kernel
theorem dX4_doParts_72 : decode cX4_doParts 72 = .ok (.invokevirtual 335, 3) := by decide +kernel
theorem dX4_doParts_75 : decode cX4_doParts 75 = .ok (.iinc 1 1, 3) := by decide +kernel
theorem dX4_doParts_78 : decode cX4_doParts 78 = .ok (.iload_n 2, 1) := by decide +kernel
theorem dX4_doParts_79 : decode cX4_doParts 79 = .ok (.aload_n 0, 1) := by decide +kernel
theorem dX4_doParts_80 : decode cX4_doParts 80 = .ok (.getfield 40, 3) := by decide +kernel
theorem dX4_doParts_83 : decode cX4_doParts 83 = .ok (.if_icmp .ge 19, 3) := by decide +kernel
theorem dX4_doParts_86 : decode cX4_doParts 86 = .ok (.aload_n 0, 1) := by decide +kernel
theorem dX4_doParts_87 : decode cX4_doParts 87 = .ok (.getfield 32, 3) := by decide +kernel
theorem dX4_doParts_90 : decode cX4_doParts 90 = .ok (.aload_n 0, 1) := by decide +kernel
theorem dX4_doParts_91 : decode cX4_doParts 91 = .ok (.getfield 36, 3) := by decide +kernel
theorem dX4_doParts_94 : decode cX4_doParts 94 = .ok (.iload_n 2, 1) := by decide +kernel
theorem dX4_doParts_95 : decode cX4_doParts 95 = .ok (.invokestatic 130, 3) := by decide +kernel
theorem dX4_doParts_98 : decode cX4_doParts 98 = .ok (.invokevirtual 329, 3) := by decide +kernel
theorem dX4_doParts_101 : decode cX4_doParts 101 = .ok (.pop, 1) := by decide +kernel
theorem dX4_doParts_102 : decode cX4_doParts 102 = .ok (.iinc 2 1, 3) := by decide +kernel
theorem dX4_doParts_105 : decode cX4_doParts 105 = .ok (.goto (-94), 3) := by decide +kernel
theorem dX4_doParts_108 : decode cX4_doParts 108 = .ok (.aload_n 0, 1) := by decide +kernel
theorem dX4_doParts_109 : decode cX4_doParts 109 = .ok (.getfield 10, 3) := by decide +kernel
theorem dX4_doParts_112 : decode cX4_doParts 112 = .ok (.iconst (-1), 1) := by decide +kernel
theorem dX4_doParts_113 : decode cX4_doParts 113 = .ok (.putfield 246, 3) := by decide +kernel
theorem dX4_doParts_116 : decode cX4_doParts 116 = .ok (.iload_n 1, 1) := by decide +kernel
theorem dX4_doParts_117 : decode cX4_doParts 117 = .ok (.ireturn, 1) := by decide +kernel
theorem dX4_partCanBeDone_0 : decode cX4_partCanBeDone 0 = .ok (.aload_n 0, 1) := by decide +kernel
theorem dX4_partCanBeDone_1 : decode cX4_partCanBeDone 1 = .ok (.getfield 32, 3) := by decide +kernel
theorem dX4_partCanBeDone_4 : decode cX4_partCanBeDone 4 = .ok (.getfield 338, 3) := by decide +kernel
theorem dX4_partCanBeDone_7 : decode cX4_partCanBeDone 7 = .ok (.lookupswitch 120 #[(102, 56), (103, 41), (109, 74), (112, 56)], 41) := by decide +kernel
theorem dX4_partCanBeDone_48 : decode cX4_partCanBeDone 48 = .ok (.aload_n 0, 1) := by decide +kernel
theorem dX4_partCanBeDone_49 : decode cX4_partCanBeDone 49 = .ok (.getfield 10, 3) := by decide +kernel
theorem dX4_partCanBeDone_52 : decode cX4_partCanBeDone 52 = .ok (.aload_n 0, 1) := by decide +kernel
theorem dX4_partCanBeDone_53 : decode cX4_partCanBeDone 53 = .ok (.getfield 32, 3) := by decide +kernel
theorem dX4_partCanBeDone_56 : decode cX4_partCanBeDone 56 = .ok (.getfield 342, 3) := by decide +kernel
theorem dX4_partCanBeDone_59 : decode cX4_partCanBeDone 59 = .ok (.invokevirtual 59, 3) := by decide +kernel
theorem dX4_partCanBeDone_62 : decode cX4_partCanBeDone 62 = .ok (.ireturn, 1) := by decide +kernel
theorem dX4_partCanBeDone_63 : decode cX4_partCanBeDone 63 = .ok (.aload_n 0, 1) := by decide +kernel
theorem dX4_partCanBeDone_64 : decode cX4_partCanBeDone 64 = .ok (.getfield 10, 3) := by decide +kernel
theorem dX4_partCanBeDone_67 : decode cX4_partCanBeDone 67 = .ok (.getfield 71, 3) := by decide +kernel
theorem dX4_partCanBeDone_70 : decode cX4_partCanBeDone 70 = .ok (.aload_n 0, 1) := by decide +kernel
theorem dX4_partCanBeDone_71 : decode cX4_partCanBeDone 71 = .ok (.getfield 32, 3) := by decide +kernel
theorem dX4_partCanBeDone_74 : decode cX4_partCanBeDone 74 = .ok (.getfield 342, 3) := by decide +kernel
theorem dX4_partCanBeDone_77 : decode cX4_partCanBeDone 77 = .ok (.invokevirtual 86, 3) := by decide +kernel
theorem dX4_partCanBeDone_80 : decode cX4_partCanBeDone 80 = .ok (.ireturn, 1) := by decide +kernel
theorem dX4_partCanBeDone_81 : decode cX4_partCanBeDone 81 = .ok (.aload_n 0, 1) := by decide +kernel
theorem dX4_partCanBeDone_82 : decode cX4_partCanBeDone 82 = .ok (.getfield 10, 3) := by decide +kernel
theorem dX4_partCanBeDone_85 : decode cX4_partCanBeDone 85 = .ok (.getfield 71, 3) := by decide +kernel
theorem dX4_partCanBeDone_88 : decode cX4_partCanBeDone 88 = .ok (.aload_n 0, 1) := by decide +kernel
theorem dX4_partCanBeDone_89 : decode cX4_partCanBeDone 89 = .ok (.getfield 32, 3) := by decide +kernel
theorem dX4_partCanBeDone_92 : decode cX4_partCanBeDone 92 = .ok (.getfield 345, 3) := by decide +kernel
theorem dX4_partCanBeDone_95 : decode cX4_partCanBeDone 95 = .ok (.invokevirtual 86, 3) := by decide +kernel
theorem dX4_partCanBeDone_98 : decode cX4_partCanBeDone 98 = .ok (.ifCond .eq 27, 3) := by decide +kernel
theorem dX4_partCanBeDone_101 : decode cX4_partCanBeDone 101 = .ok (.aload_n 0, 1) := by decide +kernel
theorem dX4_partCanBeDone_102 : decode cX4_partCanBeDone 102 = .ok (.getfield 10, 3) := by decide +kernel
theorem dX4_partCanBeDone_105 : decode cX4_partCanBeDone 105 = .ok (.getfield 71, 3) := by decide +kernel
theorem dX4_partCanBeDone_108 : decode cX4_partCanBeDone 108 = .ok (.aload_n 0, 1) := by decide +kernel
theorem dX4_partCanBeDone_109 : decode cX4_partCanBeDone 109 = .ok (.getfield 32, 3) := by decide +kernel
theorem dX4_partCanBeDone_112 : decode cX4_partCanBeDone 112 = .ok (.getfield 342, 3) := by decide +kernel
theorem dX4_partCanBeDone_115 : decode cX4_partCanBeDone 115 = .ok (.invokevirtual 86, 3) := by decide +kernel
theorem dX4_partCanBeDone_118 : decode cX4_partCanBeDone 118 = .ok (.ifCond .eq 7, 3) := by decide +kernel
theorem dX4_partCanBeDone_121 : decode cX4_partCanBeDone 121 = .ok (.iconst 1, 1) := by decide +kernel
theorem dX4_partCanBeDone_122 : decode cX4_partCanBeDone 122 = .ok (.goto 4, 3) := by decide +kernel
theorem dX4_partCanBeDone_125 : decode cX4_partCanBeDone 125 = .ok (.iconst 0, 1) := by decide +kernel
theorem dX4_partCanBeDone_126 : decode cX4_partCanBeDone 126 = .ok (.ireturn, 1) := by decide +kernel
theorem dX4_partCanBeDone_127 : decode cX4_partCanBeDone 127 = .ok (.aload_n 0, 1) := by decide +kernel
theorem dX4_partCanBeDone_128 : decode cX4_partCanBeDone 128 = .ok (.getfield 10, 3) := by decide +kernel
theorem dX4_partCanBeDone_131 : decode cX4_partCanBeDone 131 = .ok (.invokevirtual 111, 3) := by decide +kernel
theorem dX4_partCanBeDone_134 : decode cX4_partCanBeDone 134 = .ok (.ifCond .ne 7, 3) := by decide +kernel
theorem dX4_partCanBeDone_137 : decode cX4_partCanBeDone 137 = .ok (.iconst 1, 1) := by decide +kernel
theorem dX4_partCanBeDone_138 : decode cX4_partCanBeDone 138 = .ok (.goto 4, 3) := by decide +kernel
theorem dX4_partCanBeDone_141 : decode cX4_partCanBeDone 141 = .ok (.iconst 0, 1) := by decide +kernel
theorem dX4_partCanBeDone_142 : decode cX4_partCanBeDone 142 = .ok (.ireturn, 1) := by decide +kernel
theorem dX4_doPart_0 : decode cX4_doPart 0 = .ok (.aload_n 0, 1) := by decide +kernel
theorem dX4_doPart_1 : decode cX4_doPart 1 = .ok (.getfield 32, 3) := by decide +kernel
theorem dX4_doPart_4 : decode cX4_doPart 4 = .ok (.getfield 338, 3) := by decide +kernel
theorem dX4_doPart_7 : decode cX4_doPart 7 = .ok (.lookupswitch 133 #[(102, 86), (103, 41), (109, 106), (112, 68)], 41) := by decide +kernel
theorem dX4_doPart_48 : decode cX4_doPart 48 = .ok (.aload_n 0, 1) := by decide +kernel
theorem dX4_doPart_49 : decode cX4_doPart 49 = .ok (.getfield 10, 3) := by decide +kernel
theorem dX4_doPart_52 : decode cX4_doPart 52 = .ok (.aload_n 0, 1) := by decide +kernel
theorem dX4_doPart_53 : decode cX4_doPart 53 = .ok (.getfield 10, 3) := by decide +kernel
theorem dX4_doPart_56 : decode cX4_doPart 56 = .ok (.getfield 71, 3) := by decide +kernel
theorem dX4_doPart_59 : decode cX4_doPart 59 = .ok (.getfield 75, 3) := by decide +kernel
theorem dX4_doPart_62 : decode cX4_doPart 62 = .ok (.aload_n 0, 1) := by decide +kernel
theorem dX4_doPart_63 : decode cX4_doPart 63 = .ok (.getfield 32, 3) := by decide +kernel
theorem dX4_doPart_66 : decode cX4_doPart 66 = .ok (.getfield 342, 3) := by decide +kernel
theorem dX4_doPart_69 : decode cX4_doPart 69 = .ok (.invokevirtual 80, 3) := by decide +kernel
theorem dX4_doPart_72 : decode cX4_doPart 72 = .ok (.goto 75, 3) := by decide +kernel
theorem dX4_doPart_75 : decode cX4_doPart 75 = .ok (.aload_n 0, 1) := by decide +kernel
theorem dX4_doPart_76 : decode cX4_doPart 76 = .ok (.getfield 10, 3) := by decide +kernel
theorem dX4_doPart_79 : decode cX4_doPart 79 = .ok (.aload_n 0, 1) := by decide +kernel
theorem dX4_doPart_80 : decode cX4_doPart 80 = .ok (.getfield 32, 3) := by decide +kernel
theorem dX4_doPart_83 : decode cX4_doPart 83 = .ok (.getfield 342, 3) := by decide +kernel
theorem dX4_doPart_86 : decode cX4_doPart 86 = .ok (.invokevirtual 91, 3) := by decide +kernel
theorem dX4_doPart_89 : decode cX4_doPart 89 = .ok (.pop, 1) := by decide +kernel
theorem dX4_doPart_90 : decode cX4_doPart 90 = .ok (.goto 57, 3) := by decide +kernel
theorem dX4_doPart_93 : decode cX4_doPart 93 = .ok (.aload_n 0, 1) := by decide +kernel
theorem dX4_doPart_94 : decode cX4_doPart 94 = .ok (.getfield 10, 3) := by decide +kernel
theorem dX4_doPart_97 : decode cX4_doPart 97 = .ok (.getfield 71, 3) := by decide +kernel
theorem dX4_doPart_100 : decode cX4_doPart 100 = .ok (.aload_n 0, 1) := by decide +kernel
theorem dX4_doPart_101 : decode cX4_doPart 101 = .ok (.getfield 32, 3) := by decide +kernel
theorem dX4_doPart_104 : decode cX4_doPart 104 = .ok (.getfield 342, 3) := by decide +kernel
theorem dX4_doPart_107 : decode cX4_doPart 107 = .ok (.invokevirtual 95, 3) := by decide +kernel
theorem dX4_doPart_110 : decode cX4_doPart 110 = .ok (.goto 37, 3) := by decide +kernel
theorem dX4_doPart_113 : decode cX4_doPart 113 = .ok (.aload_n 0, 1) := by decide +kernel
theorem dX4_doPart_114 : decode cX4_doPart 114 = .ok (.getfield 10, 3) := by decide +kernel
theorem dX4_doPart_117 : decode cX4_doPart 117 = .ok (.getfield 71, 3) := by decide +kernel
theorem dX4_doPart_120 : decode cX4_doPart 120 = .ok (.aload_n 0, 1) := by decide +kernel
theorem dX4_doPart_121 : decode cX4_doPart 121 = .ok (.getfield 32, 3) := by decide +kernel
theorem dX4_doPart_124 : decode cX4_doPart 124 = .ok (.getfield 345, 3) := by decide +kernel
theorem dX4_doPart_127 : decode cX4_doPart 127 = .ok (.aload_n 0, 1) := by decide +kernel
theorem dX4_doPart_128 : decode cX4_doPart 128 = .ok (.getfield 32, 3) := by decide +kernel
theorem dX4_doPart_131 : decode cX4_doPart 131 = .ok (.getfield 342, 3) := by decide +kernel
theorem dX4_doPart_134 : decode cX4_doPart 134 = .ok (.invokevirtual 104, 3) := by decide +kernel
theorem dX4_doPart_137 : decode cX4_doPart 137 = .ok (.goto 10, 3) := by decide +kernel
theorem dX4_doPart_140 : decode cX4_doPart 140 = .ok (.aload_n 0, 1) := by decide +kernel
theorem dX4_doPart_141 : decode cX4_doPart 141 = .ok (.getfield 10, 3) := by decide +kernel
theorem dX4_doPart_144 : decode cX4_doPart 144 = .ok (.invokevirtual 116, 3) := by decide +kernel
theorem dX4_doPart_147 : decode cX4_doPart 147 = .ok (.return_, 1) := by decide +kernel
theorem dX4_hashWith_0 : decode cX4_hashWith 0 = .ok (.ldc2_w 348, 3) := by decide +kernel
theorem dX4_hashWith_3 : decode cX4_hashWith 3 = .ok (.lload_n 0, 1) := by decide +kernel
theorem dX4_hashWith_4 : decode cX4_hashWith 4 = .ok (.lmul, 1) := by decide +kernel
theorem dX4_hashWith_5 : decode cX4_hashWith 5 = .ok (.lload_n 2, 1) := by decide +kernel
theorem dX4_hashWith_6 : decode cX4_hashWith 6 = .ok (.ladd, 1) := by decide +kernel
theorem dX4_hashWith_7 : decode cX4_hashWith 7 = .ok (.lreturn, 1) := by decide +kernel
theorem dX4_hashWithBuffer_0 : decode cX4_hashWithBuffer 0 = .ok (.lload_n 1, 1) := by decide +kernel
theorem dX4_hashWithBuffer_1 : decode cX4_hashWithBuffer 1 = .ok (.aload_n 0, 1) := by decide +kernel
theorem dX4_hashWithBuffer_2 : decode cX4_hashWithBuffer 2 = .ok (.getfield 40, 3) := by decide +kernel
theorem dX4_hashWithBuffer_5 : decode cX4_hashWithBuffer 5 = .ok (.i2l, 1) := by decide +kernel
theorem dX4_hashWithBuffer_6 : decode cX4_hashWithBuffer 6 = .ok (.invokestatic 284, 3) := by decide +kernel
theorem dX4_hashWithBuffer_9 : decode cX4_hashWithBuffer 9 = .ok (.lstore_n 3, 1) := by decide +kernel
theorem dX4_hashWithBuffer_10 : decode cX4_hashWithBuffer 10 = .ok (.iconst 0, 1) := by decide +kernel
theorem dX4_hashWithBuffer_11 : decode cX4_hashWithBuffer 11 = .ok (.istore 5, 2) := by decide +kernel
theorem dX4_hashWithBuffer_13 : decode cX4_hashWithBuffer 13 = .ok (.iload 5, 2) := by decide +kernel
theorem dX4_hashWithBuffer_15 : decode cX4_hashWithBuffer 15 = .ok (.aload_n 0, 1) := by decide +kernel
theorem dX4_hashWithBuffer_16 : decode cX4_hashWithBuffer 16 = .ok (.getfield 40, 3) := by decide +kernel
theorem dX4_hashWithBuffer_19 : decode cX4_hashWithBuffer 19 = .ok (.if_icmp .ge 24, 3) := by decide +kernel
theorem dX4_hashWithBuffer_22 : decode cX4_hashWithBuffer 22 = .ok (.lload_n 3, 1) := by decide +kernel
theorem dX4_hashWithBuffer_23 : decode cX4_hashWithBuffer 23 = .ok (.aload_n 0, 1) := by decide +kernel
theorem dX4_hashWithBuffer_24 : decode cX4_hashWithBuffer 24 = .ok (.getfield 36, 3) := by decide +kernel
theorem dX4_hashWithBuffer_27 : decode cX4_hashWithBuffer 27 = .ok (.iload 5, 2) := by decide +kernel
theorem dX4_hashWithBuffer_29 : decode cX4_hashWithBuffer 29 = .ok (.invokestatic 130, 3) := by decide +kernel
theorem dX4_hashWithBuffer_32 : decode cX4_hashWithBuffer 32 = .ok (.i2l, 1) := by decide +kernel
theorem dX4_hashWithBuffer_33 : decode cX4_hashWithBuffer 33 = .ok (.invokestatic 284, 3) := by decide +kernel
theorem dX4_hashWithBuffer_36 : decode cX4_hashWithBuffer 36 = .ok (.lstore_n 3, 1) := by decide +kernel
theorem dX4_hashWithBuffer_37 : decode cX4_hashWithBuffer 37 = .ok (.iinc 5 1, 3) := by decide +kernel
theorem dX4_hashWithBuffer_40 : decode cX4_hashWithBuffer 40 = .ok (.goto (-27), 3) := by decide +kernel
theorem dX4_hashWithBuffer_43 : decode cX4_hashWithBuffer 43 = .ok (.lload_n 3, 1) := by decide +kernel
theorem dX4_hashWithBuffer_44 : decode cX4_hashWithBuffer 44 = .ok (.lreturn, 1) := by decide +kernel
theorem dX4_bitsOfDouble_0 : decode cX4_bitsOfDouble 0 = .ok (.dload_n 0, 1) := by decide +kernel
theorem dX4_bitsOfDouble_1 : decode cX4_bitsOfDouble 1 = .ok (.dconst 0, 1) := by decide +kernel
theorem dX4_bitsOfDouble_2 : decode cX4_bitsOfDouble 2 = .ok (.dcmp .l, 1) := by decide +kernel
theorem dX4_bitsOfDouble_3 : decode cX4_bitsOfDouble 3 = .ok (.ifCond .gt 5, 3) := by decide +kernel
theorem dX4_bitsOfDouble_6 : decode cX4_bitsOfDouble 6 = .ok (.lconst 0, 1) := by decide +kernel
theorem dX4_bitsOfDouble_7 : decode cX4_bitsOfDouble 7 = .ok (.lreturn, 1) := by decide +kernel
theorem dX4_bitsOfDouble_8 : decode cX4_bitsOfDouble 8 = .ok (.dload_n 0, 1) := by decide +kernel
theorem dX4_bitsOfDouble_9 : decode cX4_bitsOfDouble 9 = .ok (.dstore_n 2, 1) := by decide +kernel
theorem dX4_bitsOfDouble_10 : decode cX4_bitsOfDouble 10 = .ok (.iconst 0, 1) := by decide +kernel
theorem dX4_bitsOfDouble_11 : decode cX4_bitsOfDouble 11 = .ok (.istore 4, 2) := by decide +kernel
theorem dX4_bitsOfDouble_13 : decode cX4_bitsOfDouble 13 = .ok (.dload_n 2, 1) := by decide +kernel
theorem dX4_bitsOfDouble_14 : decode cX4_bitsOfDouble 14 = .ok (.ldc2_w 350, 3) := by decide +kernel
theorem dX4_bitsOfDouble_17 : decode cX4_bitsOfDouble 17 = .ok (.dcmp .l, 1) := by decide +kernel
theorem dX4_bitsOfDouble_18 : decode cX4_bitsOfDouble 18 = .ok (.ifCond .lt 23, 3) := by decide +kernel
theorem dX4_bitsOfDouble_21 : decode cX4_bitsOfDouble 21 = .ok (.iload 4, 2) := by decide +kernel
theorem dX4_bitsOfDouble_23 : decode cX4_bitsOfDouble 23 = .ok (.sipush 1023, 3) := by decide +kernel
theorem dX4_bitsOfDouble_26 : decode cX4_bitsOfDouble 26 = .ok (.if_icmp .ge 15, 3) := by decide +kernel
theorem dX4_bitsOfDouble_29 : decode cX4_bitsOfDouble 29 = .ok (.dload_n 2, 1) := by decide +kernel
theorem dX4_bitsOfDouble_30 : decode cX4_bitsOfDouble 30 = .ok (.ldc2_w 350, 3) := by decide +kernel
theorem dX4_bitsOfDouble_33 : decode cX4_bitsOfDouble 33 = .ok (.ddiv, 1) := by decide +kernel
theorem dX4_bitsOfDouble_34 : decode cX4_bitsOfDouble 34 = .ok (.dstore_n 2, 1) := by decide +kernel
theorem dX4_bitsOfDouble_35 : decode cX4_bitsOfDouble 35 = .ok (.iinc 4 1, 3) := by decide +kernel
theorem dX4_bitsOfDouble_38 : decode cX4_bitsOfDouble 38 = .ok (.goto (-25), 3) := by decide +kernel
theorem dX4_bitsOfDouble_41 : decode cX4_bitsOfDouble 41 = .ok (.dload_n 2, 1) := by decide +kernel
theorem dX4_bitsOfDouble_42 : decode cX4_bitsOfDouble 42 = .ok (.dconst 1, 1) := by decide +kernel
theorem dX4_bitsOfDouble_43 : decode cX4_bitsOfDouble 43 = .ok (.dcmp .g, 1) := by decide +kernel
theorem dX4_bitsOfDouble_44 : decode cX4_bitsOfDouble 44 = .ok (.ifCond .ge 23, 3) := by decide +kernel
theorem dX4_bitsOfDouble_47 : decode cX4_bitsOfDouble 47 = .ok (.iload 4, 2) := by decide +kernel
theorem dX4_bitsOfDouble_49 : decode cX4_bitsOfDouble 49 = .ok (.sipush (-1022), 3) := by decide +kernel
theorem dX4_bitsOfDouble_52 : decode cX4_bitsOfDouble 52 = .ok (.if_icmp .le 15, 3) := by decide +kernel
theorem dX4_bitsOfDouble_55 : decode cX4_bitsOfDouble 55 = .ok (.dload_n 2, 1) := by decide +kernel
theorem dX4_bitsOfDouble_56 : decode cX4_bitsOfDouble 56 = .ok (.ldc2_w 350, 3) := by decide +kernel
theorem dX4_bitsOfDouble_59 : decode cX4_bitsOfDouble 59 = .ok (.dmul, 1) := by decide +kernel
theorem dX4_bitsOfDouble_60 : decode cX4_bitsOfDouble 60 = .ok (.dstore_n 2, 1) := by decide +kernel
theorem dX4_bitsOfDouble_61 : decode cX4_bitsOfDouble 61 = .ok (.iinc 4 (-1), 3) := by decide +kernel
theorem dX4_bitsOfDouble_64 : decode cX4_bitsOfDouble 64 = .ok (.goto (-23), 3) := by decide +kernel
theorem dX4_bitsOfDouble_67 : decode cX4_bitsOfDouble 67 = .ok (.dload_n 2, 1) := by decide +kernel
theorem dX4_bitsOfDouble_68 : decode cX4_bitsOfDouble 68 = .ok (.dconst 1, 1) := by decide +kernel
theorem dX4_bitsOfDouble_69 : decode cX4_bitsOfDouble 69 = .ok (.dsub, 1) := by decide +kernel
theorem dX4_bitsOfDouble_70 : decode cX4_bitsOfDouble 70 = .ok (.ldc2_w 352, 3) := by decide +kernel
theorem dX4_bitsOfDouble_73 : decode cX4_bitsOfDouble 73 = .ok (.dmul, 1) := by decide +kernel
theorem dX4_bitsOfDouble_74 : decode cX4_bitsOfDouble 74 = .ok (.d2l, 1) := by decide +kernel
theorem dX4_bitsOfDouble_75 : decode cX4_bitsOfDouble 75 = .ok (.lstore 5, 2) := by decide +kernel
theorem dX4_bitsOfDouble_77 : decode cX4_bitsOfDouble 77 = .ok (.iload 4, 2) := by decide +kernel
theorem dX4_bitsOfDouble_79 : decode cX4_bitsOfDouble 79 = .ok (.sipush 1023, 3) := by decide +kernel
theorem dX4_bitsOfDouble_82 : decode cX4_bitsOfDouble 82 = .ok (.iadd, 1) := by decide +kernel
theorem dX4_bitsOfDouble_83 : decode cX4_bitsOfDouble 83 = .ok (.i2l, 1) := by decide +kernel
theorem dX4_bitsOfDouble_84 : decode cX4_bitsOfDouble 84 = .ok (.bipush 52, 2) := by decide +kernel
theorem dX4_bitsOfDouble_86 : decode cX4_bitsOfDouble 86 = .ok (.lshl, 1) := by decide +kernel
theorem dX4_bitsOfDouble_87 : decode cX4_bitsOfDouble 87 = .ok (.lload 5, 2) := by decide +kernel
theorem dX4_bitsOfDouble_89 : decode cX4_bitsOfDouble 89 = .ok (.ladd, 1) := by decide +kernel
theorem dX4_bitsOfDouble_90 : decode cX4_bitsOfDouble 90 = .ok (.lreturn, 1) := by decide +kernel
theorem dX4_bitsOfFloat_0 : decode cX4_bitsOfFloat 0 = .ok (.fload_n 0, 1) := by decide +kernel
theorem dX4_bitsOfFloat_1 : decode cX4_bitsOfFloat 1 = .ok (.fconst 0, 1) := by decide +kernel
theorem dX4_bitsOfFloat_2 : decode cX4_bitsOfFloat 2 = .ok (.fcmp .l, 1) := by decide +kernel
theorem dX4_bitsOfFloat_3 : decode cX4_bitsOfFloat 3 = .ok (.ifCond .gt 5, 3) := by decide +kernel
theorem dX4_bitsOfFloat_6 : decode cX4_bitsOfFloat 6 = .ok (.iconst 0, 1) := by decide +kernel
theorem dX4_bitsOfFloat_7 : decode cX4_bitsOfFloat 7 = .ok (.ireturn, 1) := by decide +kernel
theorem dX4_bitsOfFloat_8 : decode cX4_bitsOfFloat 8 = .ok (.fload_n 0, 1) := by decide +kernel
theorem dX4_bitsOfFloat_9 : decode cX4_bitsOfFloat 9 = .ok (.f2d, 1) := by decide +kernel
theorem dX4_bitsOfFloat_10 : decode cX4_bitsOfFloat 10 = .ok (.invokestatic 310, 3) := by decide +kernel
theorem dX4_bitsOfFloat_13 : decode cX4_bitsOfFloat 13 = .ok (.lstore_n 1, 1) := by decide +kernel
theorem dX4_bitsOfFloat_14 : decode cX4_bitsOfFloat 14 = .ok (.lload_n 1, 1) := by decide +kernel
theorem dX4_bitsOfFloat_15 : decode cX4_bitsOfFloat 15 = .ok (.bipush 29, 2) := by decide +kernel
theorem dX4_bitsOfFloat_17 : decode cX4_bitsOfFloat 17 = .ok (.lshr, 1) := by decide +kernel
theorem dX4_bitsOfFloat_18 : decode cX4_bitsOfFloat 18 = .ok (.ldc2_w 354, 3) := by decide +kernel
theorem dX4_bitsOfFloat_21 : decode cX4_bitsOfFloat 21 = .ok (.lsub, 1) := by decide +kernel
theorem dX4_bitsOfFloat_22 : decode cX4_bitsOfFloat 22 = .ok (.l2i, 1) := by decide +kernel
theorem dX4_bitsOfFloat_23 : decode cX4_bitsOfFloat 23 = .ok (.ireturn, 1) := by decide +kernel
theorem dX4_isBin_0 : decode cX4_isBin 0 = .ok (.iload_n 0, 1) := by decide +kernel
theorem dX4_isBin_1 : decode cX4_isBin 1 = .ok (.ifCond .lt 13, 3) := by decide +kernel
theorem dX4_isBin_4 : decode cX4_isBin 4 = .ok (.iload_n 0, 1) := by decide +kernel
theorem dX4_isBin_5 : decode cX4_isBin 5 = .ok (.bipush 16, 2) := by decide +kernel
theorem dX4_isBin_7 : decode cX4_isBin 7 = .ok (.if_icmp .ge 7, 3) := by decide +kernel
theorem dX4_isBin_10 : decode cX4_isBin 10 = .ok (.iconst 1, 1) := by decide +kernel
theorem dX4_isBin_11 : decode cX4_isBin 11 = .ok (.goto 4, 3) := by decide +kernel
theorem dX4_isBin_14 : decode cX4_isBin 14 = .ok (.iconst 0, 1) := by decide +kernel
theorem dX4_isBin_15 : decode cX4_isBin 15 = .ok (.ireturn, 1) := by decide +kernel
theorem dX4_isSetting_0 : decode cX4_isSetting 0 = .ok (.iload_n 0, 1) := by decide +kernel
theorem dX4_isSetting_1 : decode cX4_isSetting 1 = .ok (.ifCond .lt 12, 3) := by decide +kernel
theorem dX4_isSetting_4 : decode cX4_isSetting 4 = .ok (.iload_n 0, 1) := by decide +kernel
theorem dX4_isSetting_5 : decode cX4_isSetting 5 = .ok (.iconst 3, 1) := by decide +kernel
theorem dX4_isSetting_6 : decode cX4_isSetting 6 = .ok (.if_icmp .ge 7, 3) := by decide +kernel
theorem dX4_isSetting_9 : decode cX4_isSetting 9 = .ok (.iconst 1, 1) := by decide +kernel
theorem dX4_isSetting_10 : decode cX4_isSetting 10 = .ok (.goto 4, 3) := by decide +kernel
theorem dX4_isSetting_13 : decode cX4_isSetting 13 = .ok (.iconst 0, 1) := by decide +kernel
theorem dX4_isSetting_14 : decode cX4_isSetting 14 = .ok (.ireturn, 1) := by decide +kernel
theorem dX4_at_0 : decode cX4_at 0 = .ok (.aload_n 0, 1) := by decide +kernel
theorem dX4_at_1 : decode cX4_at 1 = .ok (.ifnull 19, 3) := by decide +kernel
theorem dX4_at_4 : decode cX4_at 4 = .ok (.iload_n 1, 1) := by decide +kernel
theorem dX4_at_5 : decode cX4_at 5 = .ok (.ifCond .lt 15, 3) := by decide +kernel
theorem dX4_at_8 : decode cX4_at 8 = .ok (.iload_n 1, 1) := by decide +kernel
theorem dX4_at_9 : decode cX4_at 9 = .ok (.aload_n 0, 1) := by decide +kernel
theorem dX4_at_10 : decode cX4_at 10 = .ok (.arraylength, 1) := by decide +kernel
theorem dX4_at_11 : decode cX4_at 11 = .ok (.if_icmp .ge 9, 3) := by decide +kernel
theorem dX4_at_14 : decode cX4_at 14 = .ok (.aload_n 0, 1) := by decide +kernel
theorem dX4_at_15 : decode cX4_at 15 = .ok (.iload_n 1, 1) := by decide +kernel
theorem dX4_at_16 : decode cX4_at 16 = .ok (.iaload, 1) := by decide +kernel
theorem dX4_at_17 : decode cX4_at 17 = .ok (.goto 4, 3) := by decide +kernel
theorem dX4_at_20 : decode cX4_at 20 = .ok (.iconst 0, 1) := by decide +kernel
theorem dX4_at_21 : decode cX4_at 21 = .ok (.ireturn, 1) := by decide +kernel
theorem dX4_put_0 : decode cX4_put 0 = .ok (.aload_n 0, 1) := by decide +kernel
theorem dX4_put_1 : decode cX4_put 1 = .ok (.ifnull 17, 3) := by decide +kernel
theorem dX4_put_4 : decode cX4_put 4 = .ok (.iload_n 1, 1) := by decide +kernel
theorem dX4_put_5 : decode cX4_put 5 = .ok (.ifCond .lt 13, 3) := by decide +kernel
theorem dX4_put_8 : decode cX4_put 8 = .ok (.iload_n 1, 1) := by decide +kernel
theorem dX4_put_9 : decode cX4_put 9 = .ok (.aload_n 0, 1) := by decide +kernel
theorem dX4_put_10 : decode cX4_put 10 = .ok (.arraylength, 1) := by decide +kernel
theorem dX4_put_11 : decode cX4_put 11 = .ok (.if_icmp .ge 7, 3) := by decide +kernel
theorem dX4_put_14 : decode cX4_put 14 = .ok (.aload_n 0, 1) := by decide +kernel
theorem dX4_put_15 : decode cX4_put 15 = .ok (.iload_n 1, 1) := by decide +kernel
theorem dX4_put_16 : decode cX4_put 16 = .ok (.iload_n 2, 1) := by decide +kernel
theorem dX4_put_17 : decode cX4_put 17 = .ok (.iastore, 1) := by decide +kernel
theorem dX4_put_18 : decode cX4_put 18 = .ok (.return_, 1) := by decide +kernel
theorem dX4_addTo_0 : decode cX4_addTo 0 = .ok (.aload_n 0, 1) := by decide +kernel
theorem dX4_addTo_1 : decode cX4_addTo 1 = .ok (.iload_n 1, 1) := by decide +kernel
theorem dX4_addTo_2 : decode cX4_addTo 2 = .ok (.aload_n 0, 1) := by decide +kernel
theorem dX4_addTo_3 : decode cX4_addTo 3 = .ok (.iload_n 1, 1) := by decide +kernel
theorem dX4_addTo_4 : decode cX4_addTo 4 = .ok (.invokestatic 130, 3) := by decide +kernel
theorem dX4_addTo_7 : decode cX4_addTo 7 = .ok (.iload_n 2, 1) := by decide +kernel
theorem dX4_addTo_8 : decode cX4_addTo 8 = .ok (.iadd, 1) := by decide +kernel
theorem dX4_addTo_9 : decode cX4_addTo 9 = .ok (.invokestatic 148, 3) := by decide +kernel
theorem dX4_addTo_12 : decode cX4_addTo 12 = .ok (.return_, 1) := by decide +kernel
theorem dX4_copyRow_0 : decode cX4_copyRow 0 = .ok (.aload_n 0, 1) := by decide +kernel
theorem dX4_copyRow_1 : decode cX4_copyRow 1 = .ok (.ifnull 21, 3) := by decide +kernel
theorem dX4_copyRow_4 : decode cX4_copyRow 4 = .ok (.aload_n 1, 1) := by decide +kernel
theorem dX4_copyRow_5 : decode cX4_copyRow 5 = .ok (.ifnull 17, 3) := by decide +kernel
theorem dX4_copyRow_8 : decode cX4_copyRow 8 = .ok (.aload_n 0, 1) := by decide +kernel
theorem dX4_copyRow_9 : decode cX4_copyRow 9 = .ok (.iconst 0, 1) := by decide +kernel
theorem dX4_copyRow_10 : decode cX4_copyRow 10 = .ok (.aload_n 1, 1) := by decide +kernel
theorem dX4_copyRow_11 : decode cX4_copyRow 11 = .ok (.iconst 0, 1) := by decide +kernel
theorem dX4_copyRow_12 : decode cX4_copyRow 12 = .ok (.aload_n 0, 1) := by decide +kernel
theorem dX4_copyRow_13 : decode cX4_copyRow 13 = .ok (.arraylength, 1) := by decide +kernel
theorem dX4_copyRow_14 : decode cX4_copyRow 14 = .ok (.aload_n 1, 1) := by decide +kernel
theorem dX4_copyRow_15 : decode cX4_copyRow 15 = .ok (.arraylength, 1) := by decide +kernel
theorem dX4_copyRow_16 : decode cX4_copyRow 16 = .ok (.invokestatic 274, 3) := by decide +kernel
theorem dX4_copyRow_19 : decode cX4_copyRow 19 = .ok (.invokestatic 356, 3) := by decide +kernel
theorem dX4_copyRow_22 : decode cX4_copyRow 22 = .ok (.return_, 1) := by decide +kernel
theorem dX5_init_0 : decode cX5_init 0 = .ok (.aload_n 0, 1) := by decide +kernel
theorem dX5_init_1 : decode cX5_init 1 = .ok (.invokespecial 1, 3) := by decide +kernel
theorem dX5_init_4 : decode cX5_init 4 = .ok (.aload_n 0, 1) := by decide +kernel
theorem dX5_init_5 : decode cX5_init 5 = .ok (.sipush 880, 3) := by decide +kernel
theorem dX5_init_8 : decode cX5_init 8 = .ok (.newarray .int, 2) := by decide +kernel
theorem dX5_init_10 : decode cX5_init 10 = .ok (.putfield 7, 3) := by decide +kernel
theorem dX5_init_13 : decode cX5_init 13 = .ok (.aload_n 0, 1) := by decide +kernel
theorem dX5_init_14 : decode cX5_init 14 = .ok (.bipush 60, 2) := by decide +kernel
theorem dX5_init_16 : decode cX5_init 16 = .ok (.newarray .int, 2) := by decide +kernel
theorem dX5_init_18 : decode cX5_init 18 = .ok (.putfield 13, 3) := by decide +kernel
theorem dX5_init_21 : decode cX5_init 21 = .ok (.aload_n 0, 1) := by decide +kernel
theorem dX5_init_22 : decode cX5_init 22 = .ok (.bipush 21, 2) := by decide +kernel
theorem dX5_init_24 : decode cX5_init 24 = .ok (.newarray .int, 2) := by decide +kernel
theorem dX5_init_26 : decode cX5_init 26 = .ok (.putfield 16, 3) := by decide +kernel
theorem dX5_init_29 : decode cX5_init 29 = .ok (.aload_n 0, 1) := by decide +kernel
theorem dX5_init_30 : decode cX5_init 30 = .ok (.bipush 21, 2) := by decide +kernel
theorem dX5_init_32 : decode cX5_init 32 = .ok (.newarray .int, 2) := by decide +kernel
theorem dX5_init_34 : decode cX5_init 34 = .ok (.putfield 19, 3) := by decide +kernel
theorem dX5_init_37 : decode cX5_init 37 = .ok (.aload_n 0, 1) := by decide +kernel
theorem dX5_init_38 : decode cX5_init 38 = .ok (.bipush 21, 2) := by decide +kernel
theorem dX5_init_40 : decode cX5_init 40 = .ok (.newarray .int, 2) := by decide +kernel
theorem dX5_init_42 : decode cX5_init 42 = .ok (.putfield 22, 3) := by decide +kernel
theorem dX5_init_45 : decode cX5_init 45 = .ok (.aload_n 0, 1) := by decide +kernel
theorem dX5_init_46 : decode cX5_init 46 = .ok (.getfield 7, 3) := by decide +kernel
theorem dX5_init_49 : decode cX5_init 49 = .ok (.iconst 0, 1) := by decide +kernel
theorem dX5_init_50 : decode cX5_init 50 = .ok (.bipush 8, 2) := by decide +kernel
theorem dX5_init_52 : decode cX5_init 52 = .ok (.iastore, 1) := by decide +kernel
theorem dX5_init_53 : decode cX5_init 53 = .ok (.aload_n 0, 1) := by decide +kernel
theorem dX5_init_54 : decode cX5_init 54 = .ok (.getfield 7, 3) := by decide +kernel
theorem dX5_init_57 : decode cX5_init 57 = .ok (.iconst 1, 1) := by decide +kernel
theorem dX5_init_58 : decode cX5_init 58 = .ok (.iconst 5, 1) := by decide +kernel
theorem dX5_init_59 : decode cX5_init 59 = .ok (.iastore, 1) := by decide +kernel
theorem dX5_init_60 : decode cX5_init 60 = .ok (.aload_n 0, 1) := by decide +kernel
theorem dX5_init_61 : decode cX5_init 61 = .ok (.getfield 7, 3) := by decide +kernel
theorem dX5_init_64 : decode cX5_init 64 = .ok (.iconst 2, 1) := by decide +kernel
theorem dX5_init_65 : decode cX5_init 65 = .ok (.iconst 2, 1) := by decide +kernel
theorem dX5_init_66 : decode cX5_init 66 = .ok (.iastore, 1) := by decide +kernel
theorem dX5_init_67 : decode cX5_init 67 = .ok (.aload_n 0, 1) := by decide +kernel
theorem dX5_init_68 : decode cX5_init 68 = .ok (.getfield 7, 3) := by decide +kernel
theorem dX5_init_71 : decode cX5_init 71 = .ok (.iconst 5, 1) := by decide +kernel
theorem dX5_init_72 : decode cX5_init 72 = .ok (.iconst (-1), 1) := by decide +kernel
theorem dX5_init_73 : decode cX5_init 73 = .ok (.iastore, 1) := by decide +kernel
theorem dX5_init_74 : decode cX5_init 74 = .ok (.iconst 0, 1) := by decide +kernel
theorem dX5_init_75 : decode cX5_init 75 = .ok (.istore_n 1, 1) := by decide +kernel
theorem dX5_init_76 : decode cX5_init 76 = .ok (.iload_n 1, 1) := by decide +kernel
theorem dX5_init_77 : decode cX5_init 77 = .ok (.bipush 16, 2) := by decide +kernel
theorem dX5_init_79 : decode cX5_init 79 = .ok (.if_icmp .ge 40, 3) := by decide +kernel
theorem dX5_init_82 : decode cX5_init 82 = .ok (.aload_n 0, 1) := by decide +kernel
theorem dX5_init_83 : decode cX5_init 83 = .ok (.getfield 7, 3) := by decide +kernel
theorem dX5_init_86 : decode cX5_init 86 = .ok (.bipush 6, 2) := by decide +kernel
theorem dX5_init_88 : decode cX5_init 88 = .ok (.iload_n 1, 1) := by decide +kernel
theorem dX5_init_89 : decode cX5_init 89 = .ok (.iadd, 1) := by decide +kernel
theorem dX5_init_90 : decode cX5_init 90 = .ok (.iconst 2, 1) := by decide +kernel
theorem dX5_init_91 : decode cX5_init 91 = .ok (.iastore, 1) := by decide +kernel
theorem dX5_init_92 : decode cX5_init 92 = .ok (.aload_n 0, 1) := by decide +kernel
theorem dX5_init_93 : decode cX5_init 93 = .ok (.getfield 7, 3) := by decide +kernel
theorem dX5_init_96 : decode cX5_init 96 = .ok (.bipush 38, 2) := by decide +kernel
theorem dX5_init_98 : decode cX5_init 98 = .ok (.iload_n 1, 1) := by decide +kernel
theorem dX5_init_99 : decode cX5_init 99 = .ok (.iadd, 1) := by decide +kernel
theorem dX5_init_100 : decode cX5_init 100 = .ok (.iconst 2, 1) := by decide +kernel
theorem dX5_init_101 : decode cX5_init 101 = .ok (.iastore, 1) := by decide +kernel
theorem dX5_init_102 : decode cX5_init 102 = .ok (.aload_n 0, 1) := by decide +kernel
theorem dX5_init_103 : decode cX5_init 103 = .ok (.getfield 7, 3) := by decide +kernel
theorem dX5_init_106 : decode cX5_init 106 = .ok (.bipush 54, 2) := by decide +kernel
theorem dX5_init_108 : decode cX5_init 108 = .ok (.iload_n 1, 1) := by decide +kernel
theorem dX5_init_109 : decode cX5_init 109 = .ok (.iadd, 1) := by decide +kernel
theorem dX5_init_110 : decode cX5_init 110 = .ok (.bipush 31, 2) := by decide +kernel
theorem dX5_init_112 : decode cX5_init 112 = .ok (.iastore, 1) := by decide +kernel
theorem dX5_init_113 : decode cX5_init 113 = .ok (.iinc 1 1, 3) := by decide +kernel
theorem dX5_init_116 : decode cX5_init 116 = .ok (.goto (-40), 3) := by decide +kernel
theorem dX5_init_119 : decode cX5_init 119 = .ok (.return_, 1) := by decide +kernel
theorem dX5_thrown_0 : decode cX5_thrown 0 = .ok (.aload_n 0, 1) := by decide +kernel
theorem dX5_thrown_1 : decode cX5_thrown 1 = .ok (.getfield 25, 3) := by decide +kernel
theorem dX5_thrown_4 : decode cX5_thrown 4 = .ok (.ireturn, 1) := by decide +kernel
theorem dX5_in_0 : decode cX5_in 0 = .ok (.iload_n 0, 1) := by decide +kernel
theorem dX5_in_1 : decode cX5_in 1 = .ok (.iload_n 1, 1) := by decide +kernel
theorem dX5_in_2 : decode cX5_in 2 = .ok (.if_icmp .lt 12, 3) := by decide +kernel
theorem dX5_in_5 : decode cX5_in 5 = .ok (.iload_n 0, 1) := by decide +kernel
theorem dX5_in_6 : decode cX5_in 6 = .ok (.iload_n 2, 1) := by decide +kernel
theorem dX5_in_7 : decode cX5_in 7 = .ok (.if_icmp .gt 7, 3) := by decide +kernel
theorem dX5_in_10 : decode cX5_in 10 = .ok (.iconst 1, 1) := by decide +kernel
theorem dX5_in_11 : decode cX5_in 11 = .ok (.goto 4, 3) := by decide +kernel
theorem dX5_in_14 : decode cX5_in 14 = .ok (.iconst 0, 1) := by decide +kernel
theorem dX5_in_15 : decode cX5_in 15 = .ok (.ireturn, 1) := by decide +kernel
theorem dX5_holds_0 : decode cX5_holds 0 = .ok (.aload_n 0, 1) := by decide +kernel
theorem dX5_holds_1 : decode cX5_holds 1 = .ok (.iload_n 1, 1) := by decide +kernel
theorem dX5_holds_2 : decode cX5_holds 2 = .ok (.putfield 25, 3) := by decide +kernel
theorem dX5_holds_5 : decode cX5_holds 5 = .ok (.iload_n 1, 1) := by decide +kernel
theorem dX5_holds_6 : decode cX5_holds 6 = .ok (.ifCond .ne 7, 3) := by decide +kernel
theorem dX5_holds_9 : decode cX5_holds 9 = .ok (.iconst 1, 1) := by decide +kernel
theorem dX5_holds_10 : decode cX5_holds 10 = .ok (.goto 4, 3) := by decide +kernel
theorem dX5_holds_13 : decode cX5_holds 13 = .ok (.iconst 0, 1) := by decide +kernel
theorem dX5_holds_14 : decode cX5_holds 14 = .ok (.ireturn, 1) := by decide +kernel
theorem dX5_isBin_0 : decode cX5_isBin 0 = .ok (.iload_n 0, 1) := by decide +kernel
theorem dX5_isBin_1 : decode cX5_isBin 1 = .ok (.iconst 0, 1) := by decide +kernel
theorem dX5_isBin_2 : decode cX5_isBin 2 = .ok (.bipush 15, 2) := by decide +kernel
theorem dX5_isBin_4 : decode cX5_isBin 4 = .ok (.invokestatic 29, 3) := by decide +kernel
theorem dX5_isBin_7 : decode cX5_isBin 7 = .ok (.ireturn, 1) := by decide +kernel
theorem dX5_isPlace_0 : decode cX5_isPlace 0 = .ok (.iload_n 1, 1) := by decide +kernel
theorem dX5_isPlace_1 : decode cX5_isPlace 1 = .ok (.iconst 0, 1) := by decide +kernel
theorem dX5_isPlace_2 : decode cX5_isPlace 2 = .ok (.aload_n 0, 1) := by decide +kernel
theorem dX5_isPlace_3 : decode cX5_isPlace 3 = .ok (.getfield 7, 3) := by decide +kernel
theorem dX5_isPlace_6 : decode cX5_isPlace 6 = .ok (.iconst 3, 1) := by decide +kernel
theorem dX5_isPlace_7 : decode cX5_isPlace 7 = .ok (.iaload, 1) := by decide +kernel
theorem dX5_isPlace_8 : decode cX5_isPlace 8 = .ok (.iconst 1, 1) := by decide +kernel
theorem dX5_isPlace_9 : decode cX5_isPlace 9 = .ok (.isub, 1) := by decide +kernel
theorem dX5_isPlace_10 : decode cX5_isPlace 10 = .ok (.invokestatic 29, 3) := by decide +kernel
theorem dX5_isPlace_13 : decode cX5_isPlace 13 = .ok (.ireturn, 1) := by decide +kernel
theorem dX5_laysOut_0 : decode cX5_laysOut 0 = .ok (.aload_n 0, 1) := by decide +kernel
theorem dX5_laysOut_1 : decode cX5_laysOut 1 = .ok (.iconst 0, 1) := by decide +kernel
theorem dX5_laysOut_2 : decode cX5_laysOut 2 = .ok (.putfield 33, 3) := by decide +kernel
theorem dX5_laysOut_5 : decode cX5_laysOut 5 = .ok (.iconst 0, 1) := by decide +kernel
theorem dX5_laysOut_6 : decode cX5_laysOut 6 = .ok (.istore_n 2, 1) := by decide +kernel
theorem dX5_laysOut_7 : decode cX5_laysOut 7 = .ok (.iload_n 2, 1) := by decide +kernel
theorem dX5_laysOut_8 : decode cX5_laysOut 8 = .ok (.aload_n 0, 1) := by decide +kernel
theorem dX5_laysOut_9 : decode cX5_laysOut 9 = .ok (.getfield 7, 3) := by decide +kernel
theorem dX5_laysOut_12 : decode cX5_laysOut 12 = .ok (.iconst 3, 1) := by decide +kernel
theorem dX5_laysOut_13 : decode cX5_laysOut 13 = .ok (.iaload, 1) := by decide +kernel
theorem dX5_laysOut_14 : decode cX5_laysOut 14 = .ok (.if_icmp .ge 60, 3) := by decide +kernel
theorem dX5_laysOut_17 : decode cX5_laysOut 17 = .ok (.iload_n 2, 1) := by decide +kernel
theorem dX5_laysOut_18 : decode cX5_laysOut 18 = .ok (.iload_n 1, 1) := by decide +kernel
theorem dX5_laysOut_19 : decode cX5_laysOut 19 = .ok (.if_icmp .eq 49, 3) := by decide +kernel
theorem dX5_laysOut_22 : decode cX5_laysOut 22 = .ok (.aload_n 0, 1) := by decide +kernel
theorem dX5_laysOut_23 : decode cX5_laysOut 23 = .ok (.getfield 16, 3) := by decide +kernel
theorem dX5_laysOut_26 : decode cX5_laysOut 26 = .ok (.aload_n 0, 1) := by decide +kernel
theorem dX5_laysOut_27 : decode cX5_laysOut 27 = .ok (.getfield 33, 3) := by decide +kernel
theorem dX5_laysOut_30 : decode cX5_laysOut 30 = .ok (.aload_n 0, 1) := by decide +kernel
theorem dX5_laysOut_31 : decode cX5_laysOut 31 = .ok (.getfield 7, 3) := by decide +kernel
theorem dX5_laysOut_34 : decode cX5_laysOut 34 = .ok (.bipush 70, 2) := by decide +kernel
theorem dX5_laysOut_36 : decode cX5_laysOut 36 = .ok (.iload_n 2, 1) := by decide +kernel
theorem dX5_laysOut_37 : decode cX5_laysOut 37 = .ok (.iadd, 1) := by decide +kernel
theorem dX5_laysOut_38 : decode cX5_laysOut 38 = .ok (.iaload, 1) := by decide +kernel
theorem dX5_laysOut_39 : decode cX5_laysOut 39 = .ok (.iastore, 1) := by decide +kernel
theorem dX5_laysOut_40 : decode cX5_laysOut 40 = .ok (.aload_n 0, 1) := by decide +kernel
theorem dX5_laysOut_41 : decode cX5_laysOut 41 = .ok (.getfield 19, 3) := by decide +kernel
theorem dX5_laysOut_44 : decode cX5_laysOut 44 = .ok (.aload_n 0, 1) := by decide +kernel
theorem dX5_laysOut_45 : decode cX5_laysOut 45 = .ok (.getfield 33, 3) := by decide +kernel
theorem dX5_laysOut_48 : decode cX5_laysOut 48 = .ok (.aload_n 0, 1) := by decide +kernel
theorem dX5_laysOut_49 : decode cX5_laysOut 49 = .ok (.getfield 7, 3) := by decide +kernel
theorem dX5_laysOut_52 : decode cX5_laysOut 52 = .ok (.bipush 90, 2) := by decide +kernel
theorem dX5_laysOut_54 : decode cX5_laysOut 54 = .ok (.iload_n 2, 1) := by decide +kernel
theorem dX5_laysOut_55 : decode cX5_laysOut 55 = .ok (.iadd, 1) := by decide +kernel
theorem dX5_laysOut_56 : decode cX5_laysOut 56 = .ok (.iaload, 1) := by decide +kernel
theorem dX5_laysOut_57 : decode cX5_laysOut 57 = .ok (.iastore, 1) := by decide +kernel
theorem dX5_laysOut_58 : decode cX5_laysOut 58 = .ok (.aload_n 0, 1) := by decide +kernel
theorem dX5_laysOut_59 : decode cX5_laysOut 59 = .ok (.dup, 1) := by decide +kernel
theorem dX5_laysOut_60 : decode cX5_laysOut 60 = .ok (.getfield 33, 3) := by decide +kernel
theorem dX5_laysOut_63 : decode cX5_laysOut 63 = .ok (.iconst 1, 1) := by decide +kernel
theorem dX5_laysOut_64 : decode cX5_laysOut 64 = .ok (.iadd, 1) := by decide +kernel
theorem dX5_laysOut_65 : decode cX5_laysOut 65 = .ok (.putfield 33, 3) := by decide +kernel
theorem dX5_laysOut_68 : decode cX5_laysOut 68 = .ok (.iinc 2 1, 3) := by decide +kernel
theorem dX5_laysOut_71 : decode cX5_laysOut 71 = .ok (.goto (-64), 3) := by decide +kernel
theorem dX5_laysOut_74 : decode cX5_laysOut 74 = .ok (.return_, 1) := by decide +kernel
theorem dX5_mark_0 : decode cX5_mark 0 = .ok (.iload_n 1, 1) := by decide +kernel
theorem dX5_mark_1 : decode cX5_mark 1 = .ok (.aload_n 0, 1) := by decide +kernel
theorem dX5_mark_2 : decode cX5_mark 2 = .ok (.getfield 7, 3) := by decide +kernel
theorem dX5_mark_5 : decode cX5_mark 5 = .ok (.iconst 1, 1) := by decide +kernel
theorem dX5_mark_6 : decode cX5_mark 6 = .ok (.iaload, 1) := by decide +kernel
theorem dX5_mark_7 : decode cX5_mark 7 = .ok (.irem, 1) := by decide +kernel
theorem dX5_mark_8 : decode cX5_mark 8 = .ok (.istore_n 3, 1) := by decide +kernel
theorem dX5_mark_9 : decode cX5_mark 9 = .ok (.iload_n 2, 1) := by decide +kernel
theorem dX5_mark_10 : decode cX5_mark 10 = .ok (.iconst 1, 1) := by decide +kernel
theorem dX5_mark_11 : decode cX5_mark 11 = .ok (.if_icmp .ne 16, 3) := by decide +kernel
theorem dX5_mark_14 : decode cX5_mark 14 = .ok (.aload_n 0, 1) := by decide +kernel
theorem dX5_mark_15 : decode cX5_mark 15 = .ok (.getfield 7, 3) := by decide +kernel
theorem dX5_mark_18 : decode cX5_mark 18 = .ok (.iconst 1, 1) := by decide +kernel
theorem dX5_mark_19 : decode cX5_mark 19 = .ok (.iaload, 1) := by decide +kernel
theorem dX5_mark_20 : decode cX5_mark 20 = .ok (.iconst 1, 1) := by decide +kernel
theorem dX5_mark_21 : decode cX5_mark 21 = .ok (.isub, 1) := by decide +kernel
theorem dX5_mark_22 : decode cX5_mark 22 = .ok (.iload_n 3, 1) := by decide +kernel
theorem dX5_mark_23 : decode cX5_mark 23 = .ok (.isub, 1) := by decide +kernel
theorem dX5_mark_24 : decode cX5_mark 24 = .ok (.goto 4, 3) := by decide +kernel
theorem dX5_mark_27 : decode cX5_mark 27 = .ok (.iload_n 3, 1) := by decide +kernel
theorem dX5_mark_28 : decode cX5_mark 28 = .ok (.ireturn, 1) := by decide +kernel
theorem dX5_breaksAt_0 : decode cX5_breaksAt 0 = .ok (.iload_n 1, 1) := by decide +kernel
theorem dX5_breaksAt_1 : decode cX5_breaksAt 1 = .ok (.ifCond .ne 7, 3) := by decide +kernel
theorem dX5_breaksAt_4 : decode cX5_breaksAt 4 = .ok (.iconst 0, 1) := by decide +kernel
theorem dX5_breaksAt_5 : decode cX5_breaksAt 5 = .ok (.goto 32, 3) := by decide +kernel
theorem dX5_breaksAt_8 : decode cX5_breaksAt 8 = .ok (.aload_n 0, 1) := by decide +kernel
theorem dX5_breaksAt_9 : decode cX5_breaksAt 9 = .ok (.aload_n 0, 1) := by decide +kernel
theorem dX5_breaksAt_10 : decode cX5_breaksAt 10 = .ok (.getfield 16, 3) := by decide +kernel
theorem dX5_breaksAt_13 : decode cX5_breaksAt 13 = .ok (.iload_n 1, 1) := by decide +kernel
theorem dX5_breaksAt_14 : decode cX5_breaksAt 14 = .ok (.iconst 1, 1) := by decide +kernel
theorem dX5_breaksAt_15 : decode cX5_breaksAt 15 = .ok (.isub, 1) := by decide +kernel
theorem dX5_breaksAt_16 : decode cX5_breaksAt 16 = .ok (.iaload, 1) := by decide +kernel
theorem dX5_breaksAt_17 : decode cX5_breaksAt 17 = .ok (.aload_n 0, 1) := by decide +kernel
theorem dX5_breaksAt_18 : decode cX5_breaksAt 18 = .ok (.getfield 19, 3) := by decide +kernel
theorem dX5_breaksAt_21 : decode cX5_breaksAt 21 = .ok (.iload_n 1, 1) := by decide +kernel
theorem dX5_breaksAt_22 : decode cX5_breaksAt 22 = .ok (.iconst 1, 1) := by decide +kernel
theorem dX5_breaksAt_23 : decode cX5_breaksAt 23 = .ok (.isub, 1) := by decide +kernel
theorem dX5_breaksAt_24 : decode cX5_breaksAt 24 = .ok (.iaload, 1) := by decide +kernel
theorem dX5_breaksAt_25 : decode cX5_breaksAt 25 = .ok (.invokevirtual 36, 3) := by decide +kernel
theorem dX5_breaksAt_28 : decode cX5_breaksAt 28 = .ok (.iconst 1, 1) := by decide +kernel
theorem dX5_breaksAt_29 : decode cX5_breaksAt 29 = .ok (.iadd, 1) := by decide +kernel
theorem dX5_breaksAt_30 : decode cX5_breaksAt 30 = .ok (.aload_n 0, 1) := by decide +kernel
theorem dX5_breaksAt_31 : decode cX5_breaksAt 31 = .ok (.getfield 7, 3) := by decide +kernel
theorem dX5_breaksAt_34 : decode cX5_breaksAt 34 = .ok (.iconst 1, 1) := by decide +kernel
theorem dX5_breaksAt_35 : decode cX5_breaksAt 35 = .ok (.iaload, 1) := by decide +kernel
theorem dX5_breaksAt_36 : decode cX5_breaksAt 36 = .ok (.irem, 1) := by decide +kernel
theorem dX5_breaksAt_37 : decode cX5_breaksAt 37 = .ok (.istore_n 2, 1) := by decide +kernel
theorem dX5_breaksAt_38 : decode cX5_breaksAt 38 = .ok (.aload_n 0, 1) := by decide +kernel
theorem dX5_breaksAt_39 : decode cX5_breaksAt 39 = .ok (.aload_n 0, 1) := by decide +kernel
theorem dX5_breaksAt_40 : decode cX5_breaksAt 40 = .ok (.getfield 16, 3) := by decide +kernel
theorem dX5_breaksAt_43 : decode cX5_breaksAt 43 = .ok (.iload_n 1, 1) := by decide +kernel
theorem dX5_breaksAt_44 : decode cX5_breaksAt 44 = .ok (.iaload, 1) := by decide +kernel
theorem dX5_breaksAt_45 : decode cX5_breaksAt 45 = .ok (.aload_n 0, 1) := by decide +kernel
theorem dX5_breaksAt_46 : decode cX5_breaksAt 46 = .ok (.getfield 19, 3) := by decide +kernel
theorem dX5_breaksAt_49 : decode cX5_breaksAt 49 = .ok (.iload_n 1, 1) := by decide +kernel
theorem dX5_breaksAt_50 : decode cX5_breaksAt 50 = .ok (.iaload, 1) := by decide +kernel
theorem dX5_breaksAt_51 : decode cX5_breaksAt 51 = .ok (.invokevirtual 36, 3) := by decide +kernel
theorem dX5_breaksAt_54 : decode cX5_breaksAt 54 = .ok (.iload_n 2, 1) := by decide +kernel
theorem dX5_breaksAt_55 : decode cX5_breaksAt 55 = .ok (.if_icmp .eq 7, 3) := by decide +kernel
theorem dX5_breaksAt_58 : decode cX5_breaksAt 58 = .ok (.iconst 1, 1) := by decide +kernel
theorem dX5_breaksAt_59 : decode cX5_breaksAt 59 = .ok (.goto 4, 3) := by decide +kernel
theorem dX5_breaksAt_62 : decode cX5_breaksAt 62 = .ok (.iconst 0, 1) := by decide +kernel
theorem dX5_breaksAt_63 : decode cX5_breaksAt 63 = .ok (.ireturn, 1) := by decide +kernel
theorem dX5_breaks_0 : decode cX5_breaks 0 = .ok (.iconst 0, 1) := by decide +kernel
theorem dX5_breaks_1 : decode cX5_breaks 1 = .ok (.istore_n 1, 1) := by decide +kernel
theorem dX5_breaks_2 : decode cX5_breaks 2 = .ok (.iconst 0, 1) := by decide +kernel
theorem dX5_breaks_3 : decode cX5_breaks 3 = .ok (.istore_n 2, 1) := by decide +kernel
theorem dX5_breaks_4 : decode cX5_breaks 4 = .ok (.iload_n 2, 1) := by decide +kernel
theorem dX5_breaks_5 : decode cX5_breaks 5 = .ok (.aload_n 0, 1) := by decide +kernel
theorem dX5_breaks_6 : decode cX5_breaks 6 = .ok (.getfield 33, 3) := by decide +kernel
theorem dX5_breaks_9 : decode cX5_breaks 9 = .ok (.if_icmp .ge 25, 3) := by decide +kernel
theorem dX5_breaks_12 : decode cX5_breaks 12 = .ok (.iload_n 1, 1) := by decide +kernel
theorem dX5_breaks_13 : decode cX5_breaks 13 = .ok (.aload_n 0, 1) := by decide +kernel
theorem dX5_breaks_14 : decode cX5_breaks 14 = .ok (.iload_n 2, 1) := by decide +kernel
theorem dX5_breaks_15 : decode cX5_breaks 15 = .ok (.invokevirtual 40, 3) := by decide +kernel
theorem dX5_breaks_18 : decode cX5_breaks 18 = .ok (.ifCond .eq 7, 3) := by decide +kernel
theorem dX5_breaks_21 : decode cX5_breaks 21 = .ok (.iconst 1, 1) := by decide +kernel
theorem dX5_breaks_22 : decode cX5_breaks 22 = .ok (.goto 4, 3) := by decide +kernel
theorem dX5_breaks_25 : decode cX5_breaks 25 = .ok (.iconst 0, 1) := by decide +kernel
theorem dX5_breaks_26 : decode cX5_breaks 26 = .ok (.iadd, 1) := by decide +kernel
theorem dX5_breaks_27 : decode cX5_breaks 27 = .ok (.istore_n 1, 1) := by decide +kernel
theorem dX5_breaks_28 : decode cX5_breaks 28 = .ok (.iinc 2 1, 3) := by decide +kernel
theorem dX5_breaks_31 : decode cX5_breaks 31 = .ok (.goto (-27), 3) := by decide +kernel
theorem dX5_breaks_34 : decode cX5_breaks 34 = .ok (.iload_n 1, 1) := by decide +kernel
theorem dX5_breaks_35 : decode cX5_breaks 35 = .ok (.ireturn, 1) := by decide +kernel
theorem dX5_isAhead_0 : decode cX5_isAhead 0 = .ok (.iconst 0, 1) := by decide +kernel
theorem dX5_isAhead_1 : decode cX5_isAhead 1 = .ok (.istore_n 2, 1) := by decide +kernel
theorem dX5_isAhead_2 : decode cX5_isAhead 2 = .ok (.iconst 0, 1) := by decide +kernel
theorem dX5_isAhead_3 : decode cX5_isAhead 3 = .ok (.istore_n 3, 1) := by decide +kernel
theorem dX5_isAhead_4 : decode cX5_isAhead 4 = .ok (.iload_n 3, 1) := by decide +kernel
theorem dX5_isAhead_5 : decode cX5_isAhead 5 = .ok (.iload_n 1, 1) := by decide +kernel
theorem dX5_isAhead_6 : decode cX5_isAhead 6 = .ok (.if_icmp .ge 34, 3) := by decide +kernel
theorem dX5_isAhead_9 : decode cX5_isAhead 9 = .ok (.iload_n 2, 1) := by decide +kernel
theorem dX5_isAhead_10 : decode cX5_isAhead 10 = .ok (.ifCond .ne 18, 3) := by decide +kernel
theorem dX5_isAhead_13 : decode cX5_isAhead 13 = .ok (.aload_n 0, 1) := by decide +kernel
theorem dX5_isAhead_14 : decode cX5_isAhead 14 = .ok (.getfield 16, 3) := by decide +kernel
theorem dX5_isAhead_17 : decode cX5_isAhead 17 = .ok (.iload_n 3, 1) := by decide +kernel
