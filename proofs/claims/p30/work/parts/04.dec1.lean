theorem dX0_init_0 : decode cX0_init 0 = .ok (.aload_n 0, 1) := by decide +kernel
theorem dX0_init_1 : decode cX0_init 1 = .ok (.invokespecial 3, 3) := by decide +kernel
theorem dX0_init_4 : decode cX0_init 4 = .ok (.aload_n 0, 1) := by decide +kernel
theorem dX0_init_5 : decode cX0_init 5 = .ok (.bipush 20, 2) := by decide +kernel
theorem dX0_init_7 : decode cX0_init 7 = .ok (.newarray .int, 2) := by decide +kernel
theorem dX0_init_9 : decode cX0_init 9 = .ok (.putfield 9, 3) := by decide +kernel
theorem dX0_init_12 : decode cX0_init 12 = .ok (.aload_n 0, 1) := by decide +kernel
theorem dX0_init_13 : decode cX0_init 13 = .ok (.bipush 20, 2) := by decide +kernel
theorem dX0_init_15 : decode cX0_init 15 = .ok (.newarray .int, 2) := by decide +kernel
theorem dX0_init_17 : decode cX0_init 17 = .ok (.putfield 15, 3) := by decide +kernel
theorem dX0_init_20 : decode cX0_init 20 = .ok (.aload_n 0, 1) := by decide +kernel
theorem dX0_init_21 : decode cX0_init 21 = .ok (.bipush 20, 2) := by decide +kernel
theorem dX0_init_23 : decode cX0_init 23 = .ok (.newarray .int, 2) := by decide +kernel
theorem dX0_init_25 : decode cX0_init 25 = .ok (.putfield 18, 3) := by decide +kernel
theorem dX0_init_28 : decode cX0_init 28 = .ok (.aload_n 0, 1) := by decide +kernel
theorem dX0_init_29 : decode cX0_init 29 = .ok (.bipush 20, 2) := by decide +kernel
theorem dX0_init_31 : decode cX0_init 31 = .ok (.newarray .int, 2) := by decide +kernel
theorem dX0_init_33 : decode cX0_init 33 = .ok (.putfield 21, 3) := by decide +kernel
theorem dX0_init_36 : decode cX0_init 36 = .ok (.aload_n 0, 1) := by decide +kernel
theorem dX0_init_37 : decode cX0_init 37 = .ok (.bipush 20, 2) := by decide +kernel
theorem dX0_init_39 : decode cX0_init 39 = .ok (.newarray .int, 2) := by decide +kernel
theorem dX0_init_41 : decode cX0_init 41 = .ok (.putfield 24, 3) := by decide +kernel
theorem dX0_init_44 : decode cX0_init 44 = .ok (.return_, 1) := by decide +kernel
theorem dX0_hasPlace_0 : decode cX0_hasPlace 0 = .ok (.iload_n 1, 1) := by decide +kernel
theorem dX0_hasPlace_1 : decode cX0_hasPlace 1 = .ok (.ifCond .lt 15, 3) := by decide +kernel
theorem dX0_hasPlace_4 : decode cX0_hasPlace 4 = .ok (.iload_n 1, 1) := by decide +kernel
theorem dX0_hasPlace_5 : decode cX0_hasPlace 5 = .ok (.aload_n 0, 1) := by decide +kernel
theorem dX0_hasPlace_6 : decode cX0_hasPlace 6 = .ok (.getfield 27, 3) := by decide +kernel
theorem dX0_hasPlace_9 : decode cX0_hasPlace 9 = .ok (.if_icmp .ge 7, 3) := by decide +kernel
theorem dX0_hasPlace_12 : decode cX0_hasPlace 12 = .ok (.iconst 1, 1) := by decide +kernel
theorem dX0_hasPlace_13 : decode cX0_hasPlace 13 = .ok (.goto 4, 3) := by decide +kernel
theorem dX0_hasPlace_16 : decode cX0_hasPlace 16 = .ok (.iconst 0, 1) := by decide +kernel
theorem dX0_hasPlace_17 : decode cX0_hasPlace 17 = .ok (.ireturn, 1) := by decide +kernel
theorem dX0_copyFrom_0 : decode cX0_copyFrom 0 = .ok (.aload_n 1, 1) := by decide +kernel
theorem dX0_copyFrom_1 : decode cX0_copyFrom 1 = .ok (.ifnull 33, 3) := by decide +kernel
theorem dX0_copyFrom_4 : decode cX0_copyFrom 4 = .ok (.aload_n 1, 1) := by decide +kernel
theorem dX0_copyFrom_5 : decode cX0_copyFrom 5 = .ok (.getfield 9, 3) := by decide +kernel
theorem dX0_copyFrom_8 : decode cX0_copyFrom 8 = .ok (.aload_n 0, 1) := by decide +kernel
theorem dX0_copyFrom_9 : decode cX0_copyFrom 9 = .ok (.getfield 9, 3) := by decide +kernel
theorem dX0_copyFrom_12 : decode cX0_copyFrom 12 = .ok (.invokestatic 31, 3) := by decide +kernel
theorem dX0_copyFrom_15 : decode cX0_copyFrom 15 = .ok (.aload_n 1, 1) := by decide +kernel
theorem dX0_copyFrom_16 : decode cX0_copyFrom 16 = .ok (.getfield 15, 3) := by decide +kernel
theorem dX0_copyFrom_19 : decode cX0_copyFrom 19 = .ok (.aload_n 0, 1) := by decide +kernel
theorem dX0_copyFrom_20 : decode cX0_copyFrom 20 = .ok (.getfield 15, 3) := by decide +kernel
theorem dX0_copyFrom_23 : decode cX0_copyFrom 23 = .ok (.invokestatic 31, 3) := by decide +kernel
theorem dX0_copyFrom_26 : decode cX0_copyFrom 26 = .ok (.aload_n 0, 1) := by decide +kernel
theorem dX0_copyFrom_27 : decode cX0_copyFrom 27 = .ok (.aload_n 1, 1) := by decide +kernel
theorem dX0_copyFrom_28 : decode cX0_copyFrom 28 = .ok (.getfield 27, 3) := by decide +kernel
theorem dX0_copyFrom_31 : decode cX0_copyFrom 31 = .ok (.putfield 27, 3) := by decide +kernel
theorem dX0_copyFrom_34 : decode cX0_copyFrom 34 = .ok (.return_, 1) := by decide +kernel
theorem dX0_putIn_0 : decode cX0_putIn 0 = .ok (.iload_n 1, 1) := by decide +kernel
theorem dX0_putIn_1 : decode cX0_putIn 1 = .ok (.ifCond .lt 20, 3) := by decide +kernel
theorem dX0_putIn_4 : decode cX0_putIn 4 = .ok (.iload_n 1, 1) := by decide +kernel
theorem dX0_putIn_5 : decode cX0_putIn 5 = .ok (.aload_n 0, 1) := by decide +kernel
theorem dX0_putIn_6 : decode cX0_putIn 6 = .ok (.getfield 27, 3) := by decide +kernel
theorem dX0_putIn_9 : decode cX0_putIn 9 = .ok (.if_icmp .gt 12, 3) := by decide +kernel
theorem dX0_putIn_12 : decode cX0_putIn 12 = .ok (.aload_n 0, 1) := by decide +kernel
theorem dX0_putIn_13 : decode cX0_putIn 13 = .ok (.getfield 27, 3) := by decide +kernel
theorem dX0_putIn_16 : decode cX0_putIn 16 = .ok (.bipush 20, 2) := by decide +kernel
theorem dX0_putIn_18 : decode cX0_putIn 18 = .ok (.if_icmp .lt 4, 3) := by decide +kernel
theorem dX0_putIn_21 : decode cX0_putIn 21 = .ok (.return_, 1) := by decide +kernel
theorem dX0_putIn_22 : decode cX0_putIn 22 = .ok (.aload_n 0, 1) := by decide +kernel
theorem dX0_putIn_23 : decode cX0_putIn 23 = .ok (.getfield 27, 3) := by decide +kernel
theorem dX0_putIn_26 : decode cX0_putIn 26 = .ok (.istore 4, 2) := by decide +kernel
theorem dX0_putIn_28 : decode cX0_putIn 28 = .ok (.iload 4, 2) := by decide +kernel
theorem dX0_putIn_30 : decode cX0_putIn 30 = .ok (.iload_n 1, 1) := by decide +kernel
theorem dX0_putIn_31 : decode cX0_putIn 31 = .ok (.if_icmp .le 49, 3) := by decide +kernel
theorem dX0_putIn_34 : decode cX0_putIn 34 = .ok (.aload_n 0, 1) := by decide +kernel
theorem dX0_putIn_35 : decode cX0_putIn 35 = .ok (.getfield 9, 3) := by decide +kernel
theorem dX0_putIn_38 : decode cX0_putIn 38 = .ok (.iload 4, 2) := by decide +kernel
theorem dX0_putIn_40 : decode cX0_putIn 40 = .ok (.aload_n 0, 1) := by decide +kernel
theorem dX0_putIn_41 : decode cX0_putIn 41 = .ok (.getfield 9, 3) := by decide +kernel
theorem dX0_putIn_44 : decode cX0_putIn 44 = .ok (.iload 4, 2) := by decide +kernel
theorem dX0_putIn_46 : decode cX0_putIn 46 = .ok (.iconst 1, 1) := by decide +kernel
theorem dX0_putIn_47 : decode cX0_putIn 47 = .ok (.isub, 1) := by decide +kernel
theorem dX0_putIn_48 : decode cX0_putIn 48 = .ok (.invokestatic 35, 3) := by decide +kernel
theorem dX0_putIn_51 : decode cX0_putIn 51 = .ok (.invokestatic 39, 3) := by decide +kernel
theorem dX0_putIn_54 : decode cX0_putIn 54 = .ok (.aload_n 0, 1) := by decide +kernel
theorem dX0_putIn_55 : decode cX0_putIn 55 = .ok (.getfield 15, 3) := by decide +kernel
theorem dX0_putIn_58 : decode cX0_putIn 58 = .ok (.iload 4, 2) := by decide +kernel
theorem dX0_putIn_60 : decode cX0_putIn 60 = .ok (.aload_n 0, 1) := by decide +kernel
theorem dX0_putIn_61 : decode cX0_putIn 61 = .ok (.getfield 15, 3) := by decide +kernel
theorem dX0_putIn_64 : decode cX0_putIn 64 = .ok (.iload 4, 2) := by decide +kernel
theorem dX0_putIn_66 : decode cX0_putIn 66 = .ok (.iconst 1, 1) := by decide +kernel
theorem dX0_putIn_67 : decode cX0_putIn 67 = .ok (.isub, 1) := by decide +kernel
theorem dX0_putIn_68 : decode cX0_putIn 68 = .ok (.invokestatic 35, 3) := by decide +kernel
theorem dX0_putIn_71 : decode cX0_putIn 71 = .ok (.invokestatic 39, 3) := by decide +kernel
theorem dX0_putIn_74 : decode cX0_putIn 74 = .ok (.iinc 4 (-1), 3) := by decide +kernel
theorem dX0_putIn_77 : decode cX0_putIn 77 = .ok (.goto (-49), 3) := by decide +kernel
theorem dX0_putIn_80 : decode cX0_putIn 80 = .ok (.aload_n 0, 1) := by decide +kernel
theorem dX0_putIn_81 : decode cX0_putIn 81 = .ok (.getfield 9, 3) := by decide +kernel
theorem dX0_putIn_84 : decode cX0_putIn 84 = .ok (.iload_n 1, 1) := by decide +kernel
theorem dX0_putIn_85 : decode cX0_putIn 85 = .ok (.iload_n 2, 1) := by decide +kernel
theorem dX0_putIn_86 : decode cX0_putIn 86 = .ok (.invokestatic 39, 3) := by decide +kernel
theorem dX0_putIn_89 : decode cX0_putIn 89 = .ok (.aload_n 0, 1) := by decide +kernel
theorem dX0_putIn_90 : decode cX0_putIn 90 = .ok (.getfield 15, 3) := by decide +kernel
theorem dX0_putIn_93 : decode cX0_putIn 93 = .ok (.iload_n 1, 1) := by decide +kernel
theorem dX0_putIn_94 : decode cX0_putIn 94 = .ok (.iload_n 3, 1) := by decide +kernel
theorem dX0_putIn_95 : decode cX0_putIn 95 = .ok (.invokestatic 39, 3) := by decide +kernel
theorem dX0_putIn_98 : decode cX0_putIn 98 = .ok (.aload_n 0, 1) := by decide +kernel
theorem dX0_putIn_99 : decode cX0_putIn 99 = .ok (.dup, 1) := by decide +kernel
theorem dX0_putIn_100 : decode cX0_putIn 100 = .ok (.getfield 27, 3) := by decide +kernel
theorem dX0_putIn_103 : decode cX0_putIn 103 = .ok (.iconst 1, 1) := by decide +kernel
theorem dX0_putIn_104 : decode cX0_putIn 104 = .ok (.iadd, 1) := by decide +kernel
theorem dX0_putIn_105 : decode cX0_putIn 105 = .ok (.putfield 27, 3) := by decide +kernel
theorem dX0_putIn_108 : decode cX0_putIn 108 = .ok (.return_, 1) := by decide +kernel
theorem dX0_takeOut_0 : decode cX0_takeOut 0 = .ok (.aload_n 0, 1) := by decide +kernel
theorem dX0_takeOut_1 : decode cX0_takeOut 1 = .ok (.iload_n 1, 1) := by decide +kernel
theorem dX0_takeOut_2 : decode cX0_takeOut 2 = .ok (.invokevirtual 43, 3) := by decide +kernel
theorem dX0_takeOut_5 : decode cX0_takeOut 5 = .ok (.ifCond .ne 4, 3) := by decide +kernel
theorem dX0_takeOut_8 : decode cX0_takeOut 8 = .ok (.return_, 1) := by decide +kernel
theorem dX0_takeOut_9 : decode cX0_takeOut 9 = .ok (.iload_n 1, 1) := by decide +kernel
theorem dX0_takeOut_10 : decode cX0_takeOut 10 = .ok (.istore_n 2, 1) := by decide +kernel
theorem dX0_takeOut_11 : decode cX0_takeOut 11 = .ok (.iload_n 2, 1) := by decide +kernel
theorem dX0_takeOut_12 : decode cX0_takeOut 12 = .ok (.aload_n 0, 1) := by decide +kernel
theorem dX0_takeOut_13 : decode cX0_takeOut 13 = .ok (.getfield 27, 3) := by decide +kernel
theorem dX0_takeOut_16 : decode cX0_takeOut 16 = .ok (.iconst 1, 1) := by decide +kernel
theorem dX0_takeOut_17 : decode cX0_takeOut 17 = .ok (.isub, 1) := by decide +kernel
theorem dX0_takeOut_18 : decode cX0_takeOut 18 = .ok (.if_icmp .ge 45, 3) := by decide +kernel
theorem dX0_takeOut_21 : decode cX0_takeOut 21 = .ok (.aload_n 0, 1) := by decide +kernel
theorem dX0_takeOut_22 : decode cX0_takeOut 22 = .ok (.getfield 9, 3) := by decide +kernel
theorem dX0_takeOut_25 : decode cX0_takeOut 25 = .ok (.iload_n 2, 1) := by decide +kernel
theorem dX0_takeOut_26 : decode cX0_takeOut 26 = .ok (.aload_n 0, 1) := by decide +kernel
theorem dX0_takeOut_27 : decode cX0_takeOut 27 = .ok (.getfield 9, 3) := by decide +kernel
theorem dX0_takeOut_30 : decode cX0_takeOut 30 = .ok (.iload_n 2, 1) := by decide +kernel
theorem dX0_takeOut_31 : decode cX0_takeOut 31 = .ok (.iconst 1, 1) := by decide +kernel
theorem dX0_takeOut_32 : decode cX0_takeOut 32 = .ok (.iadd, 1) := by decide +kernel
theorem dX0_takeOut_33 : decode cX0_takeOut 33 = .ok (.invokestatic 35, 3) := by decide +kernel
theorem dX0_takeOut_36 : decode cX0_takeOut 36 = .ok (.invokestatic 39, 3) := by decide +kernel
theorem dX0_takeOut_39 : decode cX0_takeOut 39 = .ok (.aload_n 0, 1) := by decide +kernel
theorem dX0_takeOut_40 : decode cX0_takeOut 40 = .ok (.getfield 15, 3) := by decide +kernel
theorem dX0_takeOut_43 : decode cX0_takeOut 43 = .ok (.iload_n 2, 1) := by decide +kernel
theorem dX0_takeOut_44 : decode cX0_takeOut 44 = .ok (.aload_n 0, 1) := by decide +kernel
theorem dX0_takeOut_45 : decode cX0_takeOut 45 = .ok (.getfield 15, 3) := by decide +kernel
theorem dX0_takeOut_48 : decode cX0_takeOut 48 = .ok (.iload_n 2, 1) := by decide +kernel
theorem dX0_takeOut_49 : decode cX0_takeOut 49 = .ok (.iconst 1, 1) := by decide +kernel
theorem dX0_takeOut_50 : decode cX0_takeOut 50 = .ok (.iadd, 1) := by decide +kernel
theorem dX0_takeOut_51 : decode cX0_takeOut 51 = .ok (.invokestatic 35, 3) := by decide +kernel
theorem dX0_takeOut_54 : decode cX0_takeOut 54 = .ok (.invokestatic 39, 3) := by decide +kernel
theorem dX0_takeOut_57 : decode cX0_takeOut 57 = .ok (.iinc 2 1, 3) := by decide +kernel
theorem dX0_takeOut_60 : decode cX0_takeOut 60 = .ok (.goto (-49), 3) := by decide +kernel
theorem dX0_takeOut_63 : decode cX0_takeOut 63 = .ok (.aload_n 0, 1) := by decide +kernel
theorem dX0_takeOut_64 : decode cX0_takeOut 64 = .ok (.dup, 1) := by decide +kernel
theorem dX0_takeOut_65 : decode cX0_takeOut 65 = .ok (.getfield 27, 3) := by decide +kernel
theorem dX0_takeOut_68 : decode cX0_takeOut 68 = .ok (.iconst 1, 1) := by decide +kernel
theorem dX0_takeOut_69 : decode cX0_takeOut 69 = .ok (.isub, 1) := by decide +kernel
theorem dX0_takeOut_70 : decode cX0_takeOut 70 = .ok (.putfield 27, 3) := by decide +kernel
theorem dX0_takeOut_73 : decode cX0_takeOut 73 = .ok (.return_, 1) := by decide +kernel
theorem dX0_turnOver_0 : decode cX0_turnOver 0 = .ok (.aload_n 0, 1) := by decide +kernel
theorem dX0_turnOver_1 : decode cX0_turnOver 1 = .ok (.iload_n 1, 1) := by decide +kernel
theorem dX0_turnOver_2 : decode cX0_turnOver 2 = .ok (.invokevirtual 43, 3) := by decide +kernel
theorem dX0_turnOver_5 : decode cX0_turnOver 5 = .ok (.ifCond .eq 21, 3) := by decide +kernel
theorem dX0_turnOver_8 : decode cX0_turnOver 8 = .ok (.aload_n 0, 1) := by decide +kernel
theorem dX0_turnOver_9 : decode cX0_turnOver 9 = .ok (.getfield 15, 3) := by decide +kernel
theorem dX0_turnOver_12 : decode cX0_turnOver 12 = .ok (.iload_n 1, 1) := by decide +kernel
theorem dX0_turnOver_13 : decode cX0_turnOver 13 = .ok (.iconst 1, 1) := by decide +kernel
theorem dX0_turnOver_14 : decode cX0_turnOver 14 = .ok (.aload_n 0, 1) := by decide +kernel
theorem dX0_turnOver_15 : decode cX0_turnOver 15 = .ok (.getfield 15, 3) := by decide +kernel
theorem dX0_turnOver_18 : decode cX0_turnOver 18 = .ok (.iload_n 1, 1) := by decide +kernel
theorem dX0_turnOver_19 : decode cX0_turnOver 19 = .ok (.invokestatic 35, 3) := by decide +kernel
theorem dX0_turnOver_22 : decode cX0_turnOver 22 = .ok (.isub, 1) := by decide +kernel
theorem dX0_turnOver_23 : decode cX0_turnOver 23 = .ok (.invokestatic 39, 3) := by decide +kernel
theorem dX0_turnOver_26 : decode cX0_turnOver 26 = .ok (.return_, 1) := by decide +kernel
theorem dX0_shift_0 : decode cX0_shift 0 = .ok (.aload_n 0, 1) := by decide +kernel
theorem dX0_shift_1 : decode cX0_shift 1 = .ok (.iload_n 1, 1) := by decide +kernel
theorem dX0_shift_2 : decode cX0_shift 2 = .ok (.invokevirtual 43, 3) := by decide +kernel
theorem dX0_shift_5 : decode cX0_shift 5 = .ok (.ifCond .eq 11, 3) := by decide +kernel
theorem dX0_shift_8 : decode cX0_shift 8 = .ok (.aload_n 0, 1) := by decide +kernel
theorem dX0_shift_9 : decode cX0_shift 9 = .ok (.iload_n 2, 1) := by decide +kernel
theorem dX0_shift_10 : decode cX0_shift 10 = .ok (.invokevirtual 43, 3) := by decide +kernel
theorem dX0_shift_13 : decode cX0_shift 13 = .ok (.ifCond .ne 4, 3) := by decide +kernel
theorem dX0_shift_16 : decode cX0_shift 16 = .ok (.return_, 1) := by decide +kernel
theorem dX0_shift_17 : decode cX0_shift 17 = .ok (.aload_n 0, 1) := by decide +kernel
theorem dX0_shift_18 : decode cX0_shift 18 = .ok (.getfield 9, 3) := by decide +kernel
theorem dX0_shift_21 : decode cX0_shift 21 = .ok (.iload_n 1, 1) := by decide +kernel
theorem dX0_shift_22 : decode cX0_shift 22 = .ok (.invokestatic 35, 3) := by decide +kernel
theorem dX0_shift_25 : decode cX0_shift 25 = .ok (.istore_n 3, 1) := by decide +kernel
theorem dX0_shift_26 : decode cX0_shift 26 = .ok (.aload_n 0, 1) := by decide +kernel
theorem dX0_shift_27 : decode cX0_shift 27 = .ok (.getfield 15, 3) := by decide +kernel
theorem dX0_shift_30 : decode cX0_shift 30 = .ok (.iload_n 1, 1) := by decide +kernel
theorem dX0_shift_31 : decode cX0_shift 31 = .ok (.invokestatic 35, 3) := by decide +kernel
theorem dX0_shift_34 : decode cX0_shift 34 = .ok (.istore 4, 2) := by decide +kernel
theorem dX0_shift_36 : decode cX0_shift 36 = .ok (.aload_n 0, 1) := by decide +kernel
theorem dX0_shift_37 : decode cX0_shift 37 = .ok (.iload_n 1, 1) := by decide +kernel
theorem dX0_shift_38 : decode cX0_shift 38 = .ok (.invokevirtual 47, 3) := by decide +kernel
theorem dX0_shift_41 : decode cX0_shift 41 = .ok (.aload_n 0, 1) := by decide +kernel
theorem dX0_shift_42 : decode cX0_shift 42 = .ok (.iload_n 2, 1) := by decide +kernel
theorem dX0_shift_43 : decode cX0_shift 43 = .ok (.iload_n 3, 1) := by decide +kernel
theorem dX0_shift_44 : decode cX0_shift 44 = .ok (.iload 4, 2) := by decide +kernel
theorem dX0_shift_46 : decode cX0_shift 46 = .ok (.invokevirtual 51, 3) := by decide +kernel
theorem dX0_shift_49 : decode cX0_shift 49 = .ok (.return_, 1) := by decide +kernel
theorem dX0_copiesOf_0 : decode cX0_copiesOf 0 = .ok (.iconst 0, 1) := by decide +kernel
theorem dX0_copiesOf_1 : decode cX0_copiesOf 1 = .ok (.istore_n 2, 1) := by decide +kernel
theorem dX0_copiesOf_2 : decode cX0_copiesOf 2 = .ok (.iconst 0, 1) := by decide +kernel
theorem dX0_copiesOf_3 : decode cX0_copiesOf 3 = .ok (.istore_n 3, 1) := by decide +kernel
theorem dX0_copiesOf_4 : decode cX0_copiesOf 4 = .ok (.iload_n 3, 1) := by decide +kernel
theorem dX0_copiesOf_5 : decode cX0_copiesOf 5 = .ok (.aload_n 0, 1) := by decide +kernel
theorem dX0_copiesOf_6 : decode cX0_copiesOf 6 = .ok (.getfield 27, 3) := by decide +kernel
theorem dX0_copiesOf_9 : decode cX0_copiesOf 9 = .ok (.if_icmp .ge 24, 3) := by decide +kernel
theorem dX0_copiesOf_12 : decode cX0_copiesOf 12 = .ok (.aload_n 0, 1) := by decide +kernel
theorem dX0_copiesOf_13 : decode cX0_copiesOf 13 = .ok (.getfield 9, 3) := by decide +kernel
theorem dX0_copiesOf_16 : decode cX0_copiesOf 16 = .ok (.iload_n 3, 1) := by decide +kernel
theorem dX0_copiesOf_17 : decode cX0_copiesOf 17 = .ok (.invokestatic 35, 3) := by decide +kernel
theorem dX0_copiesOf_20 : decode cX0_copiesOf 20 = .ok (.iload_n 1, 1) := by decide +kernel
theorem dX0_copiesOf_21 : decode cX0_copiesOf 21 = .ok (.if_icmp .ne 6, 3) := by decide +kernel
theorem dX0_copiesOf_24 : decode cX0_copiesOf 24 = .ok (.iinc 2 1, 3) := by decide +kernel
theorem dX0_copiesOf_27 : decode cX0_copiesOf 27 = .ok (.iinc 3 1, 3) := by decide +kernel
theorem dX0_copiesOf_30 : decode cX0_copiesOf 30 = .ok (.goto (-26), 3) := by decide +kernel
theorem dX0_copiesOf_33 : decode cX0_copiesOf 33 = .ok (.iload_n 2, 1) := by decide +kernel
theorem dX0_copiesOf_34 : decode cX0_copiesOf 34 = .ok (.ireturn, 1) := by decide +kernel
theorem dX0_firstTurned_0 : decode cX0_firstTurned 0 = .ok (.iconst 0, 1) := by decide +kernel
theorem dX0_firstTurned_1 : decode cX0_firstTurned 1 = .ok (.istore_n 1, 1) := by decide +kernel
theorem dX0_firstTurned_2 : decode cX0_firstTurned 2 = .ok (.iload_n 1, 1) := by decide +kernel
theorem dX0_firstTurned_3 : decode cX0_firstTurned 3 = .ok (.aload_n 0, 1) := by decide +kernel
theorem dX0_firstTurned_4 : decode cX0_firstTurned 4 = .ok (.getfield 27, 3) := by decide +kernel
theorem dX0_firstTurned_7 : decode cX0_firstTurned 7 = .ok (.if_icmp .ge 22, 3) := by decide +kernel
theorem dX0_firstTurned_10 : decode cX0_firstTurned 10 = .ok (.aload_n 0, 1) := by decide +kernel
theorem dX0_firstTurned_11 : decode cX0_firstTurned 11 = .ok (.getfield 15, 3) := by decide +kernel
theorem dX0_firstTurned_14 : decode cX0_firstTurned 14 = .ok (.iload_n 1, 1) := by decide +kernel
theorem dX0_firstTurned_15 : decode cX0_firstTurned 15 = .ok (.invokestatic 35, 3) := by decide +kernel
theorem dX0_firstTurned_18 : decode cX0_firstTurned 18 = .ok (.ifCond .eq 5, 3) := by decide +kernel
theorem dX0_firstTurned_21 : decode cX0_firstTurned 21 = .ok (.iload_n 1, 1) := by decide +kernel
theorem dX0_firstTurned_22 : decode cX0_firstTurned 22 = .ok (.ireturn, 1) := by decide +kernel
theorem dX0_firstTurned_23 : decode cX0_firstTurned 23 = .ok (.iinc 1 1, 3) := by decide +kernel
theorem dX0_firstTurned_26 : decode cX0_firstTurned 26 = .ok (.goto (-24), 3) := by decide +kernel
theorem dX0_firstTurned_29 : decode cX0_firstTurned 29 = .ok (.iconst (-1), 1) := by decide +kernel
theorem dX0_firstTurned_30 : decode cX0_firstTurned 30 = .ok (.ireturn, 1) := by decide +kernel
theorem dX0_firstNotBelow_0 : decode cX0_firstNotBelow 0 = .ok (.iconst 0, 1) := by decide +kernel
theorem dX0_firstNotBelow_1 : decode cX0_firstNotBelow 1 = .ok (.istore_n 2, 1) := by decide +kernel
theorem dX0_firstNotBelow_2 : decode cX0_firstNotBelow 2 = .ok (.iload_n 2, 1) := by decide +kernel
theorem dX0_firstNotBelow_3 : decode cX0_firstNotBelow 3 = .ok (.aload_n 0, 1) := by decide +kernel
theorem dX0_firstNotBelow_4 : decode cX0_firstNotBelow 4 = .ok (.getfield 27, 3) := by decide +kernel
theorem dX0_firstNotBelow_7 : decode cX0_firstNotBelow 7 = .ok (.if_icmp .ge 23, 3) := by decide +kernel
theorem dX0_firstNotBelow_10 : decode cX0_firstNotBelow 10 = .ok (.aload_n 0, 1) := by decide +kernel
theorem dX0_firstNotBelow_11 : decode cX0_firstNotBelow 11 = .ok (.getfield 9, 3) := by decide +kernel
theorem dX0_firstNotBelow_14 : decode cX0_firstNotBelow 14 = .ok (.iload_n 2, 1) := by decide +kernel
theorem dX0_firstNotBelow_15 : decode cX0_firstNotBelow 15 = .ok (.invokestatic 35, 3) := by decide +kernel
theorem dX0_firstNotBelow_18 : decode cX0_firstNotBelow 18 = .ok (.iload_n 1, 1) := by decide +kernel
theorem dX0_firstNotBelow_19 : decode cX0_firstNotBelow 19 = .ok (.if_icmp .lt 5, 3) := by decide +kernel
theorem dX0_firstNotBelow_22 : decode cX0_firstNotBelow 22 = .ok (.iload_n 2, 1) := by decide +kernel
theorem dX0_firstNotBelow_23 : decode cX0_firstNotBelow 23 = .ok (.ireturn, 1) := by decide +kernel
theorem dX0_firstNotBelow_24 : decode cX0_firstNotBelow 24 = .ok (.iinc 2 1, 3) := by decide +kernel
theorem dX0_firstNotBelow_27 : decode cX0_firstNotBelow 27 = .ok (.goto (-25), 3) := by decide +kernel
theorem dX0_firstNotBelow_30 : decode cX0_firstNotBelow 30 = .ok (.iconst (-1), 1) := by decide +kernel
theorem dX0_firstNotBelow_31 : decode cX0_firstNotBelow 31 = .ok (.ireturn, 1) := by decide +kernel
theorem dX0_firstDouble_0 : decode cX0_firstDouble 0 = .ok (.iconst 1, 1) := by decide +kernel
theorem dX0_firstDouble_1 : decode cX0_firstDouble 1 = .ok (.istore_n 1, 1) := by decide +kernel
theorem dX0_firstDouble_2 : decode cX0_firstDouble 2 = .ok (.iload_n 1, 1) := by decide +kernel
theorem dX0_firstDouble_3 : decode cX0_firstDouble 3 = .ok (.aload_n 0, 1) := by decide +kernel
theorem dX0_firstDouble_4 : decode cX0_firstDouble 4 = .ok (.getfield 27, 3) := by decide +kernel
theorem dX0_firstDouble_7 : decode cX0_firstDouble 7 = .ok (.if_icmp .ge 43, 3) := by decide +kernel
theorem dX0_firstDouble_10 : decode cX0_firstDouble 10 = .ok (.iconst 0, 1) := by decide +kernel
theorem dX0_firstDouble_11 : decode cX0_firstDouble 11 = .ok (.istore_n 2, 1) := by decide +kernel
theorem dX0_firstDouble_12 : decode cX0_firstDouble 12 = .ok (.iload_n 2, 1) := by decide +kernel
theorem dX0_firstDouble_13 : decode cX0_firstDouble 13 = .ok (.iload_n 1, 1) := by decide +kernel
theorem dX0_firstDouble_14 : decode cX0_firstDouble 14 = .ok (.if_icmp .ge 30, 3) := by decide +kernel
theorem dX0_firstDouble_17 : decode cX0_firstDouble 17 = .ok (.aload_n 0, 1) := by decide +kernel
theorem dX0_firstDouble_18 : decode cX0_firstDouble 18 = .ok (.getfield 9, 3) := by decide +kernel
theorem dX0_firstDouble_21 : decode cX0_firstDouble 21 = .ok (.iload_n 2, 1) := by decide +kernel
theorem dX0_firstDouble_22 : decode cX0_firstDouble 22 = .ok (.invokestatic 35, 3) := by decide +kernel
theorem dX0_firstDouble_25 : decode cX0_firstDouble 25 = .ok (.aload_n 0, 1) := by decide +kernel
theorem dX0_firstDouble_26 : decode cX0_firstDouble 26 = .ok (.getfield 9, 3) := by decide +kernel
theorem dX0_firstDouble_29 : decode cX0_firstDouble 29 = .ok (.iload_n 1, 1) := by decide +kernel
theorem dX0_firstDouble_30 : decode cX0_firstDouble 30 = .ok (.invokestatic 35, 3) := by decide +kernel
theorem dX0_firstDouble_33 : decode cX0_firstDouble 33 = .ok (.if_icmp .ne 5, 3) := by decide +kernel
theorem dX0_firstDouble_36 : decode cX0_firstDouble 36 = .ok (.iload_n 1, 1) := by decide +kernel
theorem dX0_firstDouble_37 : decode cX0_firstDouble 37 = .ok (.ireturn, 1) := by decide +kernel
theorem dX0_firstDouble_38 : decode cX0_firstDouble 38 = .ok (.iinc 2 1, 3) := by decide +kernel
theorem dX0_firstDouble_41 : decode cX0_firstDouble 41 = .ok (.goto (-29), 3) := by decide +kernel
theorem dX0_firstDouble_44 : decode cX0_firstDouble 44 = .ok (.iinc 1 1, 3) := by decide +kernel
theorem dX0_firstDouble_47 : decode cX0_firstDouble 47 = .ok (.goto (-45), 3) := by decide +kernel
theorem dX0_firstDouble_50 : decode cX0_firstDouble 50 = .ok (.iconst (-1), 1) := by decide +kernel
theorem dX0_firstDouble_51 : decode cX0_firstDouble 51 = .ok (.ireturn, 1) := by decide +kernel
theorem dX0_firstFall_0 : decode cX0_firstFall 0 = .ok (.iconst 1, 1) := by decide +kernel
theorem dX0_firstFall_1 : decode cX0_firstFall 1 = .ok (.istore_n 1, 1) := by decide +kernel
theorem dX0_firstFall_2 : decode cX0_firstFall 2 = .ok (.iload_n 1, 1) := by decide +kernel
theorem dX0_firstFall_3 : decode cX0_firstFall 3 = .ok (.aload_n 0, 1) := by decide +kernel
theorem dX0_firstFall_4 : decode cX0_firstFall 4 = .ok (.getfield 27, 3) := by decide +kernel
theorem dX0_firstFall_7 : decode cX0_firstFall 7 = .ok (.if_icmp .ge 32, 3) := by decide +kernel
theorem dX0_firstFall_10 : decode cX0_firstFall 10 = .ok (.aload_n 0, 1) := by decide +kernel
theorem dX0_firstFall_11 : decode cX0_firstFall 11 = .ok (.getfield 9, 3) := by decide +kernel
theorem dX0_firstFall_14 : decode cX0_firstFall 14 = .ok (.iload_n 1, 1) := by decide +kernel
theorem dX0_firstFall_15 : decode cX0_firstFall 15 = .ok (.invokestatic 35, 3) := by decide +kernel
theorem dX0_firstFall_18 : decode cX0_firstFall 18 = .ok (.aload_n 0, 1) := by decide +kernel
theorem dX0_firstFall_19 : decode cX0_firstFall 19 = .ok (.getfield 9, 3) := by decide +kernel
theorem dX0_firstFall_22 : decode cX0_firstFall 22 = .ok (.iload_n 1, 1) := by decide +kernel
theorem dX0_firstFall_23 : decode cX0_firstFall 23 = .ok (.iconst 1, 1) := by decide +kernel
theorem dX0_firstFall_24 : decode cX0_firstFall 24 = .ok (.isub, 1) := by decide +kernel
theorem dX0_firstFall_25 : decode cX0_firstFall 25 = .ok (.invokestatic 35, 3) := by decide +kernel
theorem dX0_firstFall_28 : decode cX0_firstFall 28 = .ok (.if_icmp .ge 5, 3) := by decide +kernel
theorem dX0_firstFall_31 : decode cX0_firstFall 31 = .ok (.iload_n 1, 1) := by decide +kernel
theorem dX0_firstFall_32 : decode cX0_firstFall 32 = .ok (.ireturn, 1) := by decide +kernel
theorem dX0_firstFall_33 : decode cX0_firstFall 33 = .ok (.iinc 1 1, 3) := by decide +kernel
theorem dX0_firstFall_36 : decode cX0_firstFall 36 = .ok (.goto (-34), 3) := by decide +kernel
theorem dX0_firstFall_39 : decode cX0_firstFall 39 = .ok (.iconst (-1), 1) := by decide +kernel
theorem dX0_firstFall_40 : decode cX0_firstFall 40 = .ok (.ireturn, 1) := by decide +kernel
theorem dX0_greaterAheadOf_0 : decode cX0_greaterAheadOf 0 = .ok (.iconst 0, 1) := by decide +kernel
theorem dX0_greaterAheadOf_1 : decode cX0_greaterAheadOf 1 = .ok (.istore_n 2, 1) := by decide +kernel
theorem dX0_greaterAheadOf_2 : decode cX0_greaterAheadOf 2 = .ok (.iconst 0, 1) := by decide +kernel
theorem dX0_greaterAheadOf_3 : decode cX0_greaterAheadOf 3 = .ok (.istore_n 3, 1) := by decide +kernel
theorem dX0_greaterAheadOf_4 : decode cX0_greaterAheadOf 4 = .ok (.iload_n 3, 1) := by decide +kernel
theorem dX0_greaterAheadOf_5 : decode cX0_greaterAheadOf 5 = .ok (.iload_n 1, 1) := by decide +kernel
theorem dX0_greaterAheadOf_6 : decode cX0_greaterAheadOf 6 = .ok (.if_icmp .ge 39, 3) := by decide +kernel
theorem dX0_greaterAheadOf_9 : decode cX0_greaterAheadOf 9 = .ok (.iload_n 3, 1) := by decide +kernel
theorem dX0_greaterAheadOf_10 : decode cX0_greaterAheadOf 10 = .ok (.aload_n 0, 1) := by decide +kernel
theorem dX0_greaterAheadOf_11 : decode cX0_greaterAheadOf 11 = .ok (.getfield 27, 3) := by decide +kernel
theorem dX0_greaterAheadOf_14 : decode cX0_greaterAheadOf 14 = .ok (.if_icmp .ge 31, 3) := by decide +kernel
theorem dX0_greaterAheadOf_17 : decode cX0_greaterAheadOf 17 = .ok (.aload_n 0, 1) := by decide +kernel
theorem dX0_greaterAheadOf_18 : decode cX0_greaterAheadOf 18 = .ok (.getfield 9, 3) := by decide +kernel
theorem dX0_greaterAheadOf_21 : decode cX0_greaterAheadOf 21 = .ok (.iload_n 3, 1) := by decide +kernel
theorem dX0_greaterAheadOf_22 : decode cX0_greaterAheadOf 22 = .ok (.invokestatic 35, 3) := by decide +kernel
theorem dX0_greaterAheadOf_25 : decode cX0_greaterAheadOf 25 = .ok (.aload_n 0, 1) := by decide +kernel
theorem dX0_greaterAheadOf_26 : decode cX0_greaterAheadOf 26 = .ok (.getfield 9, 3) := by decide +kernel
theorem dX0_greaterAheadOf_29 : decode cX0_greaterAheadOf 29 = .ok (.iload_n 1, 1) := by decide +kernel
theorem dX0_greaterAheadOf_30 : decode cX0_greaterAheadOf 30 = .ok (.invokestatic 35, 3) := by decide +kernel
theorem dX0_greaterAheadOf_33 : decode cX0_greaterAheadOf 33 = .ok (.if_icmp .le 6, 3) := by decide +kernel
theorem dX0_greaterAheadOf_36 : decode cX0_greaterAheadOf 36 = .ok (.iinc 2 1, 3) := by decide +kernel
theorem dX0_greaterAheadOf_39 : decode cX0_greaterAheadOf 39 = .ok (.iinc 3 1, 3) := by decide +kernel
theorem dX0_greaterAheadOf_42 : decode cX0_greaterAheadOf 42 = .ok (.goto (-38), 3) := by decide +kernel
theorem dX0_greaterAheadOf_45 : decode cX0_greaterAheadOf 45 = .ok (.iload_n 2, 1) := by decide +kernel
theorem dX0_greaterAheadOf_46 : decode cX0_greaterAheadOf 46 = .ok (.ireturn, 1) := by decide +kernel
theorem dX0_fallingPairs_0 : decode cX0_fallingPairs 0 = .ok (.iconst 0, 1) := by decide +kernel
theorem dX0_fallingPairs_1 : decode cX0_fallingPairs 1 = .ok (.istore_n 1, 1) := by decide +kernel
theorem dX0_fallingPairs_2 : decode cX0_fallingPairs 2 = .ok (.iconst 0, 1) := by decide +kernel
theorem dX0_fallingPairs_3 : decode cX0_fallingPairs 3 = .ok (.istore_n 2, 1) := by decide +kernel
theorem dX0_fallingPairs_4 : decode cX0_fallingPairs 4 = .ok (.iload_n 2, 1) := by decide +kernel
theorem dX0_fallingPairs_5 : decode cX0_fallingPairs 5 = .ok (.aload_n 0, 1) := by decide +kernel
theorem dX0_fallingPairs_6 : decode cX0_fallingPairs 6 = .ok (.getfield 27, 3) := by decide +kernel
theorem dX0_fallingPairs_9 : decode cX0_fallingPairs 9 = .ok (.if_icmp .ge 17, 3) := by decide +kernel
theorem dX0_fallingPairs_12 : decode cX0_fallingPairs 12 = .ok (.iload_n 1, 1) := by decide +kernel
theorem dX0_fallingPairs_13 : decode cX0_fallingPairs 13 = .ok (.aload_n 0, 1) := by decide +kernel
theorem dX0_fallingPairs_14 : decode cX0_fallingPairs 14 = .ok (.iload_n 2, 1) := by decide +kernel
theorem dX0_fallingPairs_15 : decode cX0_fallingPairs 15 = .ok (.invokevirtual 55, 3) := by decide +kernel
theorem dX0_fallingPairs_18 : decode cX0_fallingPairs 18 = .ok (.iadd, 1) := by decide +kernel
theorem dX0_fallingPairs_19 : decode cX0_fallingPairs 19 = .ok (.istore_n 1, 1) := by decide +kernel
theorem dX0_fallingPairs_20 : decode cX0_fallingPairs 20 = .ok (.iinc 2 1, 3) := by decide +kernel
theorem dX0_fallingPairs_23 : decode cX0_fallingPairs 23 = .ok (.goto (-19), 3) := by decide +kernel
theorem dX0_fallingPairs_26 : decode cX0_fallingPairs 26 = .ok (.iload_n 1, 1) := by decide +kernel
theorem dX0_fallingPairs_27 : decode cX0_fallingPairs 27 = .ok (.ireturn, 1) := by decide +kernel
theorem dX0_fewestMovesBySheets_0 : decode cX0_fewestMovesBySheets 0 = .ok (.aload_n 0, 1) := by decide +kernel
theorem dX0_fewestMovesBySheets_1 : decode cX0_fewestMovesBySheets 1 = .ok (.getfield 27, 3) := by decide +kernel
theorem dX0_fewestMovesBySheets_4 : decode cX0_fewestMovesBySheets 4 = .ok (.aload_n 0, 1) := by decide +kernel
theorem dX0_fewestMovesBySheets_5 : decode cX0_fewestMovesBySheets 5 = .ok (.invokevirtual 59, 3) := by decide +kernel
theorem dX0_fewestMovesBySheets_8 : decode cX0_fewestMovesBySheets 8 = .ok (.isub, 1) := by decide +kernel
theorem dX0_fewestMovesBySheets_9 : decode cX0_fewestMovesBySheets 9 = .ok (.ireturn, 1) := by decide +kernel
theorem dX0_fewestMovesByPiles_0 : decode cX0_fewestMovesByPiles 0 = .ok (.aload_n 0, 1) := by decide +kernel
theorem dX0_fewestMovesByPiles_1 : decode cX0_fewestMovesByPiles 1 = .ok (.getfield 27, 3) := by decide +kernel
theorem dX0_fewestMovesByPiles_4 : decode cX0_fewestMovesByPiles 4 = .ok (.aload_n 0, 1) := by decide +kernel
theorem dX0_fewestMovesByPiles_5 : decode cX0_fewestMovesByPiles 5 = .ok (.invokevirtual 63, 3) := by decide +kernel
theorem dX0_fewestMovesByPiles_8 : decode cX0_fewestMovesByPiles 8 = .ok (.isub, 1) := by decide +kernel
theorem dX0_fewestMovesByPiles_9 : decode cX0_fewestMovesByPiles 9 = .ok (.ireturn, 1) := by decide +kernel
theorem dX0_longestRowBySheets_0 : decode cX0_longestRowBySheets 0 = .ok (.aload_n 0, 1) := by decide +kernel
theorem dX0_longestRowBySheets_1 : decode cX0_longestRowBySheets 1 = .ok (.invokevirtual 66, 3) := by decide +kernel
theorem dX0_longestRowBySheets_4 : decode cX0_longestRowBySheets 4 = .ok (.iconst 0, 1) := by decide +kernel
theorem dX0_longestRowBySheets_5 : decode cX0_longestRowBySheets 5 = .ok (.istore_n 1, 1) := by decide +kernel
theorem dX0_longestRowBySheets_6 : decode cX0_longestRowBySheets 6 = .ok (.iconst 0, 1) := by decide +kernel
theorem dX0_longestRowBySheets_7 : decode cX0_longestRowBySheets 7 = .ok (.istore_n 2, 1) := by decide +kernel
theorem dX0_longestRowBySheets_8 : decode cX0_longestRowBySheets 8 = .ok (.iload_n 2, 1) := by decide +kernel
theorem dX0_longestRowBySheets_9 : decode cX0_longestRowBySheets 9 = .ok (.aload_n 0, 1) := by decide +kernel
theorem dX0_longestRowBySheets_10 : decode cX0_longestRowBySheets 10 = .ok (.getfield 27, 3) := by decide +kernel
theorem dX0_longestRowBySheets_13 : decode cX0_longestRowBySheets 13 = .ok (.if_icmp .ge 22, 3) := by decide +kernel
theorem dX0_longestRowBySheets_16 : decode cX0_longestRowBySheets 16 = .ok (.iload_n 1, 1) := by decide +kernel
theorem dX0_longestRowBySheets_17 : decode cX0_longestRowBySheets 17 = .ok (.aload_n 0, 1) := by decide +kernel
theorem dX0_longestRowBySheets_18 : decode cX0_longestRowBySheets 18 = .ok (.getfield 18, 3) := by decide +kernel
theorem dX0_longestRowBySheets_21 : decode cX0_longestRowBySheets 21 = .ok (.iload_n 2, 1) := by decide +kernel
theorem dX0_longestRowBySheets_22 : decode cX0_longestRowBySheets 22 = .ok (.invokestatic 35, 3) := by decide +kernel
theorem dX0_longestRowBySheets_25 : decode cX0_longestRowBySheets 25 = .ok (.invokestatic 69, 3) := by decide +kernel
theorem dX0_longestRowBySheets_28 : decode cX0_longestRowBySheets 28 = .ok (.istore_n 1, 1) := by decide +kernel
theorem dX0_longestRowBySheets_29 : decode cX0_longestRowBySheets 29 = .ok (.iinc 2 1, 3) := by decide +kernel
theorem dX0_longestRowBySheets_32 : decode cX0_longestRowBySheets 32 = .ok (.goto (-24), 3) := by decide +kernel
theorem dX0_longestRowBySheets_35 : decode cX0_longestRowBySheets 35 = .ok (.iload_n 1, 1) := by decide +kernel
theorem dX0_longestRowBySheets_36 : decode cX0_longestRowBySheets 36 = .ok (.ireturn, 1) := by decide +kernel
theorem dX0_findLongestEnding_0 : decode cX0_findLongestEnding 0 = .ok (.iconst 0, 1) := by decide +kernel
theorem dX0_findLongestEnding_1 : decode cX0_findLongestEnding 1 = .ok (.istore_n 1, 1) := by decide +kernel
theorem dX0_findLongestEnding_2 : decode cX0_findLongestEnding 2 = .ok (.iload_n 1, 1) := by decide +kernel
theorem dX0_findLongestEnding_3 : decode cX0_findLongestEnding 3 = .ok (.aload_n 0, 1) := by decide +kernel
theorem dX0_findLongestEnding_4 : decode cX0_findLongestEnding 4 = .ok (.getfield 27, 3) := by decide +kernel
theorem dX0_findLongestEnding_7 : decode cX0_findLongestEnding 7 = .ok (.if_icmp .ge 32, 3) := by decide +kernel
theorem dX0_findLongestEnding_10 : decode cX0_findLongestEnding 10 = .ok (.aload_n 0, 1) := by decide +kernel
theorem dX0_findLongestEnding_11 : decode cX0_findLongestEnding 11 = .ok (.getfield 18, 3) := by decide +kernel
theorem dX0_findLongestEnding_14 : decode cX0_findLongestEnding 14 = .ok (.iload_n 1, 1) := by decide +kernel
theorem dX0_findLongestEnding_15 : decode cX0_findLongestEnding 15 = .ok (.iconst 1, 1) := by decide +kernel
theorem dX0_findLongestEnding_16 : decode cX0_findLongestEnding 16 = .ok (.aload_n 0, 1) := by decide +kernel
theorem dX0_findLongestEnding_17 : decode cX0_findLongestEnding 17 = .ok (.iload_n 1, 1) := by decide +kernel
theorem dX0_findLongestEnding_18 : decode cX0_findLongestEnding 18 = .ok (.aload_n 0, 1) := by decide +kernel
theorem dX0_findLongestEnding_19 : decode cX0_findLongestEnding 19 = .ok (.getfield 9, 3) := by decide +kernel
theorem dX0_findLongestEnding_22 : decode cX0_findLongestEnding 22 = .ok (.iload_n 1, 1) := by decide +kernel
theorem dX0_findLongestEnding_23 : decode cX0_findLongestEnding 23 = .ok (.invokestatic 35, 3) := by decide +kernel
theorem dX0_findLongestEnding_26 : decode cX0_findLongestEnding 26 = .ok (.invokevirtual 75, 3) := by decide +kernel
theorem dX0_findLongestEnding_29 : decode cX0_findLongestEnding 29 = .ok (.iadd, 1) := by decide +kernel
theorem dX0_findLongestEnding_30 : decode cX0_findLongestEnding 30 = .ok (.invokestatic 39, 3) := by decide +kernel
theorem dX0_findLongestEnding_33 : decode cX0_findLongestEnding 33 = .ok (.iinc 1 1, 3) := by decide +kernel
theorem dX0_findLongestEnding_36 : decode cX0_findLongestEnding 36 = .ok (.goto (-34), 3) := by decide +kernel
theorem dX0_findLongestEnding_39 : decode cX0_findLongestEnding 39 = .ok (.return_, 1) := by decide +kernel
theorem dX0_findLongestBeginning_0 : decode cX0_findLongestBeginning 0 = .ok (.aload_n 0, 1) := by decide +kernel
theorem dX0_findLongestBeginning_1 : decode cX0_findLongestBeginning 1 = .ok (.getfield 27, 3) := by decide +kernel
theorem dX0_findLongestBeginning_4 : decode cX0_findLongestBeginning 4 = .ok (.iconst 1, 1) := by decide +kernel
theorem dX0_findLongestBeginning_5 : decode cX0_findLongestBeginning 5 = .ok (.isub, 1) := by decide +kernel
theorem dX0_findLongestBeginning_6 : decode cX0_findLongestBeginning 6 = .ok (.istore_n 1, 1) := by decide +kernel
theorem dX0_findLongestBeginning_7 : decode cX0_findLongestBeginning 7 = .ok (.iload_n 1, 1) := by decide +kernel
theorem dX0_findLongestBeginning_8 : decode cX0_findLongestBeginning 8 = .ok (.ifCond .lt 34, 3) := by decide +kernel
theorem dX0_findLongestBeginning_11 : decode cX0_findLongestBeginning 11 = .ok (.aload_n 0, 1) := by decide +kernel
theorem dX0_findLongestBeginning_12 : decode cX0_findLongestBeginning 12 = .ok (.getfield 21, 3) := by decide +kernel
theorem dX0_findLongestBeginning_15 : decode cX0_findLongestBeginning 15 = .ok (.iload_n 1, 1) := by decide +kernel
theorem dX0_findLongestBeginning_16 : decode cX0_findLongestBeginning 16 = .ok (.iconst 1, 1) := by decide +kernel
theorem dX0_findLongestBeginning_17 : decode cX0_findLongestBeginning 17 = .ok (.aload_n 0, 1) := by decide +kernel
theorem dX0_findLongestBeginning_18 : decode cX0_findLongestBeginning 18 = .ok (.iload_n 1, 1) := by decide +kernel
theorem dX0_findLongestBeginning_19 : decode cX0_findLongestBeginning 19 = .ok (.iconst 1, 1) := by decide +kernel
theorem dX0_findLongestBeginning_20 : decode cX0_findLongestBeginning 20 = .ok (.iadd, 1) := by decide +kernel
theorem dX0_findLongestBeginning_21 : decode cX0_findLongestBeginning 21 = .ok (.aload_n 0, 1) := by decide +kernel
theorem dX0_findLongestBeginning_22 : decode cX0_findLongestBeginning 22 = .ok (.getfield 9, 3) := by decide +kernel
theorem dX0_findLongestBeginning_25 : decode cX0_findLongestBeginning 25 = .ok (.iload_n 1, 1) := by decide +kernel
theorem dX0_findLongestBeginning_26 : decode cX0_findLongestBeginning 26 = .ok (.invokestatic 35, 3) := by decide +kernel
theorem dX0_findLongestBeginning_29 : decode cX0_findLongestBeginning 29 = .ok (.invokevirtual 78, 3) := by decide +kernel
theorem dX0_findLongestBeginning_32 : decode cX0_findLongestBeginning 32 = .ok (.iadd, 1) := by decide +kernel
theorem dX0_findLongestBeginning_33 : decode cX0_findLongestBeginning 33 = .ok (.invokestatic 39, 3) := by decide +kernel
theorem dX0_findLongestBeginning_36 : decode cX0_findLongestBeginning 36 = .ok (.iinc 1 (-1), 3) := by decide +kernel
theorem dX0_findLongestBeginning_39 : decode cX0_findLongestBeginning 39 = .ok (.goto (-32), 3) := by decide +kernel
theorem dX0_findLongestBeginning_42 : decode cX0_findLongestBeginning 42 = .ok (.return_, 1) := by decide +kernel
theorem dX0_longestAhead_0 : decode cX0_longestAhead 0 = .ok (.iconst 0, 1) := by decide +kernel
theorem dX0_longestAhead_1 : decode cX0_longestAhead 1 = .ok (.istore_n 3, 1) := by decide +kernel
theorem dX0_longestAhead_2 : decode cX0_longestAhead 2 = .ok (.iconst 0, 1) := by decide +kernel
theorem dX0_longestAhead_3 : decode cX0_longestAhead 3 = .ok (.istore 4, 2) := by decide +kernel
theorem dX0_longestAhead_5 : decode cX0_longestAhead 5 = .ok (.iload 4, 2) := by decide +kernel
theorem dX0_longestAhead_7 : decode cX0_longestAhead 7 = .ok (.iload_n 1, 1) := by decide +kernel
theorem dX0_longestAhead_8 : decode cX0_longestAhead 8 = .ok (.if_icmp .ge 45, 3) := by decide +kernel
theorem dX0_longestAhead_11 : decode cX0_longestAhead 11 = .ok (.iload 4, 2) := by decide +kernel
theorem dX0_longestAhead_13 : decode cX0_longestAhead 13 = .ok (.aload_n 0, 1) := by decide +kernel
theorem dX0_longestAhead_14 : decode cX0_longestAhead 14 = .ok (.getfield 27, 3) := by decide +kernel
theorem dX0_longestAhead_17 : decode cX0_longestAhead 17 = .ok (.if_icmp .ge 36, 3) := by decide +kernel
theorem dX0_longestAhead_20 : decode cX0_longestAhead 20 = .ok (.aload_n 0, 1) := by decide +kernel
theorem dX0_longestAhead_21 : decode cX0_longestAhead 21 = .ok (.getfield 9, 3) := by decide +kernel
theorem dX0_longestAhead_24 : decode cX0_longestAhead 24 = .ok (.iload 4, 2) := by decide +kernel
theorem dX0_longestAhead_26 : decode cX0_longestAhead 26 = .ok (.invokestatic 35, 3) := by decide +kernel
theorem dX0_longestAhead_29 : decode cX0_longestAhead 29 = .ok (.iload_n 2, 1) := by decide +kernel
theorem dX0_longestAhead_30 : decode cX0_longestAhead 30 = .ok (.if_icmp .gt 17, 3) := by decide +kernel
theorem dX0_longestAhead_33 : decode cX0_longestAhead 33 = .ok (.iload_n 3, 1) := by decide +kernel
theorem dX0_longestAhead_34 : decode cX0_longestAhead 34 = .ok (.aload_n 0, 1) := by decide +kernel
theorem dX0_longestAhead_35 : decode cX0_longestAhead 35 = .ok (.getfield 18, 3) := by decide +kernel
theorem dX0_longestAhead_38 : decode cX0_longestAhead 38 = .ok (.iload 4, 2) := by decide +kernel
theorem dX0_longestAhead_40 : decode cX0_longestAhead 40 = .ok (.invokestatic 35, 3) := by decide +kernel
theorem dX0_longestAhead_43 : decode cX0_longestAhead 43 = .ok (.invokestatic 69, 3) := by decide +kernel
theorem dX0_longestAhead_46 : decode cX0_longestAhead 46 = .ok (.istore_n 3, 1) := by decide +kernel
theorem dX0_longestAhead_47 : decode cX0_longestAhead 47 = .ok (.iinc 4 1, 3) := by decide +kernel
theorem dX0_longestAhead_50 : decode cX0_longestAhead 50 = .ok (.goto (-45), 3) := by decide +kernel
theorem dX0_longestAhead_53 : decode cX0_longestAhead 53 = .ok (.iload_n 3, 1) := by decide +kernel
theorem dX0_longestAhead_54 : decode cX0_longestAhead 54 = .ok (.ireturn, 1) := by decide +kernel
theorem dX0_longestFrom_0 : decode cX0_longestFrom 0 = .ok (.iconst 0, 1) := by decide +kernel
theorem dX0_longestFrom_1 : decode cX0_longestFrom 1 = .ok (.istore_n 3, 1) := by decide +kernel
theorem dX0_longestFrom_2 : decode cX0_longestFrom 2 = .ok (.iload_n 1, 1) := by decide +kernel
theorem dX0_longestFrom_3 : decode cX0_longestFrom 3 = .ok (.istore 4, 2) := by decide +kernel
theorem dX0_longestFrom_5 : decode cX0_longestFrom 5 = .ok (.iload 4, 2) := by decide +kernel
theorem dX0_longestFrom_7 : decode cX0_longestFrom 7 = .ok (.aload_n 0, 1) := by decide +kernel
theorem dX0_longestFrom_8 : decode cX0_longestFrom 8 = .ok (.getfield 27, 3) := by decide +kernel
theorem dX0_longestFrom_11 : decode cX0_longestFrom 11 = .ok (.if_icmp .ge 36, 3) := by decide +kernel
theorem dX0_longestFrom_14 : decode cX0_longestFrom 14 = .ok (.aload_n 0, 1) := by decide +kernel
theorem dX0_longestFrom_15 : decode cX0_longestFrom 15 = .ok (.getfield 9, 3) := by decide +kernel
theorem dX0_longestFrom_18 : decode cX0_longestFrom 18 = .ok (.iload 4, 2) := by decide +kernel
theorem dX0_longestFrom_20 : decode cX0_longestFrom 20 = .ok (.invokestatic 35, 3) := by decide +kernel
theorem dX0_longestFrom_23 : decode cX0_longestFrom 23 = .ok (.iload_n 2, 1) := by decide +kernel
theorem dX0_longestFrom_24 : decode cX0_longestFrom 24 = .ok (.if_icmp .lt 17, 3) := by decide +kernel
theorem dX0_longestFrom_27 : decode cX0_longestFrom 27 = .ok (.iload_n 3, 1) := by decide +kernel
theorem dX0_longestFrom_28 : decode cX0_longestFrom 28 = .ok (.aload_n 0, 1) := by decide +kernel
theorem dX0_longestFrom_29 : decode cX0_longestFrom 29 = .ok (.getfield 21, 3) := by decide +kernel
theorem dX0_longestFrom_32 : decode cX0_longestFrom 32 = .ok (.iload 4, 2) := by decide +kernel
theorem dX0_longestFrom_34 : decode cX0_longestFrom 34 = .ok (.invokestatic 35, 3) := by decide +kernel
theorem dX0_longestFrom_37 : decode cX0_longestFrom 37 = .ok (.invokestatic 69, 3) := by decide +kernel
theorem dX0_longestFrom_40 : decode cX0_longestFrom 40 = .ok (.istore_n 3, 1) := by decide +kernel
theorem dX0_longestFrom_41 : decode cX0_longestFrom 41 = .ok (.iinc 4 1, 3) := by decide +kernel
theorem dX0_longestFrom_44 : decode cX0_longestFrom 44 = .ok (.goto (-39), 3) := by decide +kernel
theorem dX0_longestFrom_47 : decode cX0_longestFrom 47 = .ok (.iload_n 3, 1) := by decide +kernel
theorem dX0_longestFrom_48 : decode cX0_longestFrom 48 = .ok (.ireturn, 1) := by decide +kernel
theorem dX0_pilesOfSheets_0 : decode cX0_pilesOfSheets 0 = .ok (.iconst 0, 1) := by decide +kernel
theorem dX0_pilesOfSheets_1 : decode cX0_pilesOfSheets 1 = .ok (.istore_n 1, 1) := by decide +kernel
theorem dX0_pilesOfSheets_2 : decode cX0_pilesOfSheets 2 = .ok (.iconst 0, 1) := by decide +kernel
theorem dX0_pilesOfSheets_3 : decode cX0_pilesOfSheets 3 = .ok (.istore_n 2, 1) := by decide +kernel
theorem dX0_pilesOfSheets_4 : decode cX0_pilesOfSheets 4 = .ok (.iload_n 2, 1) := by decide +kernel
theorem dX0_pilesOfSheets_5 : decode cX0_pilesOfSheets 5 = .ok (.aload_n 0, 1) := by decide +kernel
theorem dX0_pilesOfSheets_6 : decode cX0_pilesOfSheets 6 = .ok (.getfield 27, 3) := by decide +kernel
theorem dX0_pilesOfSheets_9 : decode cX0_pilesOfSheets 9 = .ok (.if_icmp .ge 65, 3) := by decide +kernel
theorem dX0_pilesOfSheets_12 : decode cX0_pilesOfSheets 12 = .ok (.aload_n 0, 1) := by decide +kernel
theorem dX0_pilesOfSheets_13 : decode cX0_pilesOfSheets 13 = .ok (.getfield 9, 3) := by decide +kernel
theorem dX0_pilesOfSheets_16 : decode cX0_pilesOfSheets 16 = .ok (.iload_n 2, 1) := by decide +kernel
theorem dX0_pilesOfSheets_17 : decode cX0_pilesOfSheets 17 = .ok (.invokestatic 35, 3) := by decide +kernel
theorem dX0_pilesOfSheets_20 : decode cX0_pilesOfSheets 20 = .ok (.istore_n 3, 1) := by decide +kernel
theorem dX0_pilesOfSheets_21 : decode cX0_pilesOfSheets 21 = .ok (.iconst 0, 1) := by decide +kernel
theorem dX0_pilesOfSheets_22 : decode cX0_pilesOfSheets 22 = .ok (.istore 4, 2) := by decide +kernel
theorem dX0_pilesOfSheets_24 : decode cX0_pilesOfSheets 24 = .ok (.iload 4, 2) := by decide +kernel
theorem dX0_pilesOfSheets_26 : decode cX0_pilesOfSheets 26 = .ok (.iload_n 1, 1) := by decide +kernel
theorem dX0_pilesOfSheets_27 : decode cX0_pilesOfSheets 27 = .ok (.if_icmp .ge 22, 3) := by decide +kernel
theorem dX0_pilesOfSheets_30 : decode cX0_pilesOfSheets 30 = .ok (.aload_n 0, 1) := by decide +kernel
theorem dX0_pilesOfSheets_31 : decode cX0_pilesOfSheets 31 = .ok (.getfield 24, 3) := by decide +kernel
theorem dX0_pilesOfSheets_34 : decode cX0_pilesOfSheets 34 = .ok (.iload 4, 2) := by decide +kernel
theorem dX0_pilesOfSheets_36 : decode cX0_pilesOfSheets 36 = .ok (.invokestatic 35, 3) := by decide +kernel
theorem dX0_pilesOfSheets_39 : decode cX0_pilesOfSheets 39 = .ok (.iload_n 3, 1) := by decide +kernel
theorem dX0_pilesOfSheets_40 : decode cX0_pilesOfSheets 40 = .ok (.if_icmp .gt 9, 3) := by decide +kernel
theorem dX0_pilesOfSheets_43 : decode cX0_pilesOfSheets 43 = .ok (.iinc 4 1, 3) := by decide +kernel
theorem dX0_pilesOfSheets_46 : decode cX0_pilesOfSheets 46 = .ok (.goto (-22), 3) := by decide +kernel
theorem dX0_pilesOfSheets_49 : decode cX0_pilesOfSheets 49 = .ok (.aload_n 0, 1) := by decide +kernel
theorem dX0_pilesOfSheets_50 : decode cX0_pilesOfSheets 50 = .ok (.getfield 24, 3) := by decide +kernel
theorem dX0_pilesOfSheets_53 : decode cX0_pilesOfSheets 53 = .ok (.iload 4, 2) := by decide +kernel
theorem dX0_pilesOfSheets_55 : decode cX0_pilesOfSheets 55 = .ok (.iload_n 3, 1) := by decide +kernel
theorem dX0_pilesOfSheets_56 : decode cX0_pilesOfSheets 56 = .ok (.invokestatic 39, 3) := by decide +kernel
theorem dX0_pilesOfSheets_59 : decode cX0_pilesOfSheets 59 = .ok (.iload_n 1, 1) := by decide +kernel
theorem dX0_pilesOfSheets_60 : decode cX0_pilesOfSheets 60 = .ok (.iload 4, 2) := by decide +kernel
theorem dX0_pilesOfSheets_62 : decode cX0_pilesOfSheets 62 = .ok (.iconst 1, 1) := by decide +kernel
theorem dX0_pilesOfSheets_63 : decode cX0_pilesOfSheets 63 = .ok (.iadd, 1) := by decide +kernel
theorem dX0_pilesOfSheets_64 : decode cX0_pilesOfSheets 64 = .ok (.invokestatic 69, 3) := by decide +kernel
theorem dX0_pilesOfSheets_67 : decode cX0_pilesOfSheets 67 = .ok (.istore_n 1, 1) := by decide +kernel
theorem dX0_pilesOfSheets_68 : decode cX0_pilesOfSheets 68 = .ok (.iinc 2 1, 3) := by decide +kernel
theorem dX0_pilesOfSheets_71 : decode cX0_pilesOfSheets 71 = .ok (.goto (-67), 3) := by decide +kernel
theorem dX0_pilesOfSheets_74 : decode cX0_pilesOfSheets 74 = .ok (.iload_n 1, 1) := by decide +kernel
theorem dX0_pilesOfSheets_75 : decode cX0_pilesOfSheets 75 = .ok (.ireturn, 1) := by decide +kernel
theorem dX0_placeThatMakesRowOf_0 : decode cX0_placeThatMakesRowOf 0 = .ok (.aload_n 0, 1) := by decide +kernel
theorem dX0_placeThatMakesRowOf_1 : decode cX0_placeThatMakesRowOf 1 = .ok (.invokevirtual 66, 3) := by decide +kernel
theorem dX0_placeThatMakesRowOf_4 : decode cX0_placeThatMakesRowOf 4 = .ok (.aload_n 0, 1) := by decide +kernel
theorem dX0_placeThatMakesRowOf_5 : decode cX0_placeThatMakesRowOf 5 = .ok (.invokevirtual 81, 3) := by decide +kernel
theorem dX0_placeThatMakesRowOf_8 : decode cX0_placeThatMakesRowOf 8 = .ok (.iconst 0, 1) := by decide +kernel
theorem dX0_placeThatMakesRowOf_9 : decode cX0_placeThatMakesRowOf 9 = .ok (.istore_n 3, 1) := by decide +kernel
theorem dX0_placeThatMakesRowOf_10 : decode cX0_placeThatMakesRowOf 10 = .ok (.iload_n 3, 1) := by decide +kernel
theorem dX0_placeThatMakesRowOf_11 : decode cX0_placeThatMakesRowOf 11 = .ok (.aload_n 0, 1) := by decide +kernel
theorem dX0_placeThatMakesRowOf_12 : decode cX0_placeThatMakesRowOf 12 = .ok (.getfield 27, 3) := by decide +kernel
theorem dX0_placeThatMakesRowOf_15 : decode cX0_placeThatMakesRowOf 15 = .ok (.if_icmp .gt 30, 3) := by decide +kernel
theorem dX0_placeThatMakesRowOf_18 : decode cX0_placeThatMakesRowOf 18 = .ok (.aload_n 0, 1) := by decide +kernel
theorem dX0_placeThatMakesRowOf_19 : decode cX0_placeThatMakesRowOf 19 = .ok (.iload_n 3, 1) := by decide +kernel
theorem dX0_placeThatMakesRowOf_20 : decode cX0_placeThatMakesRowOf 20 = .ok (.iload_n 2, 1) := by decide +kernel
theorem dX0_placeThatMakesRowOf_21 : decode cX0_placeThatMakesRowOf 21 = .ok (.invokevirtual 75, 3) := by decide +kernel
theorem dX0_placeThatMakesRowOf_24 : decode cX0_placeThatMakesRowOf 24 = .ok (.iconst 1, 1) := by decide +kernel
theorem dX0_placeThatMakesRowOf_25 : decode cX0_placeThatMakesRowOf 25 = .ok (.iadd, 1) := by decide +kernel
theorem dX0_placeThatMakesRowOf_26 : decode cX0_placeThatMakesRowOf 26 = .ok (.aload_n 0, 1) := by decide +kernel
theorem dX0_placeThatMakesRowOf_27 : decode cX0_placeThatMakesRowOf 27 = .ok (.iload_n 3, 1) := by decide +kernel
theorem dX0_placeThatMakesRowOf_28 : decode cX0_placeThatMakesRowOf 28 = .ok (.iload_n 2, 1) := by decide +kernel
theorem dX0_placeThatMakesRowOf_29 : decode cX0_placeThatMakesRowOf 29 = .ok (.invokevirtual 78, 3) := by decide +kernel
theorem dX0_placeThatMakesRowOf_32 : decode cX0_placeThatMakesRowOf 32 = .ok (.iadd, 1) := by decide +kernel
theorem dX0_placeThatMakesRowOf_33 : decode cX0_placeThatMakesRowOf 33 = .ok (.iload_n 1, 1) := by decide +kernel
theorem dX0_placeThatMakesRowOf_34 : decode cX0_placeThatMakesRowOf 34 = .ok (.if_icmp .lt 5, 3) := by decide +kernel
theorem dX0_placeThatMakesRowOf_37 : decode cX0_placeThatMakesRowOf 37 = .ok (.iload_n 3, 1) := by decide +kernel
theorem dX0_placeThatMakesRowOf_38 : decode cX0_placeThatMakesRowOf 38 = .ok (.ireturn, 1) := by decide +kernel
theorem dX0_placeThatMakesRowOf_39 : decode cX0_placeThatMakesRowOf 39 = .ok (.iinc 3 1, 3) := by decide +kernel
theorem dX0_placeThatMakesRowOf_42 : decode cX0_placeThatMakesRowOf 42 = .ok (.goto (-32), 3) := by decide +kernel
theorem dX0_placeThatMakesRowOf_45 : decode cX0_placeThatMakesRowOf 45 = .ok (.iconst (-1), 1) := by decide +kernel
theorem dX0_placeThatMakesRowOf_46 : decode cX0_placeThatMakesRowOf 46 = .ok (.ireturn, 1) := by decide +kernel
theorem dX1_init_0 : decode cX1_init 0 = .ok (.aload_n 0, 1) := by decide +kernel
theorem dX1_init_1 : decode cX1_init 1 = .ok (.invokespecial 3, 3) := by decide +kernel
theorem dX1_init_4 : decode cX1_init 4 = .ok (.aload_n 0, 1) := by decide +kernel
theorem dX1_init_5 : decode cX1_init 5 = .ok (.bipush 6, 2) := by decide +kernel
theorem dX1_init_7 : decode cX1_init 7 = .ok (.anewarray 9, 3) := by decide +kernel
theorem dX1_init_10 : decode cX1_init 10 = .ok (.putfield 11, 3) := by decide +kernel
theorem dX1_init_13 : decode cX1_init 13 = .ok (.iconst 0, 1) := by decide +kernel
theorem dX1_init_14 : decode cX1_init 14 = .ok (.istore_n 1, 1) := by decide +kernel
theorem dX1_init_15 : decode cX1_init 15 = .ok (.iload_n 1, 1) := by decide +kernel
theorem dX1_init_16 : decode cX1_init 16 = .ok (.aload_n 0, 1) := by decide +kernel
theorem dX1_init_17 : decode cX1_init 17 = .ok (.getfield 11, 3) := by decide +kernel
theorem dX1_init_20 : decode cX1_init 20 = .ok (.arraylength, 1) := by decide +kernel
theorem dX1_init_21 : decode cX1_init 21 = .ok (.if_icmp .ge 22, 3) := by decide +kernel
theorem dX1_init_24 : decode cX1_init 24 = .ok (.aload_n 0, 1) := by decide +kernel
theorem dX1_init_25 : decode cX1_init 25 = .ok (.getfield 11, 3) := by decide +kernel
theorem dX1_init_28 : decode cX1_init 28 = .ok (.iload_n 1, 1) := by decide +kernel
theorem dX1_init_29 : decode cX1_init 29 = .ok (.new 9, 3) := by decide +kernel
theorem dX1_init_32 : decode cX1_init 32 = .ok (.dup, 1) := by decide +kernel
theorem dX1_init_33 : decode cX1_init 33 = .ok (.invokespecial 17, 3) := by decide +kernel
theorem dX1_init_36 : decode cX1_init 36 = .ok (.aastore, 1) := by decide +kernel
theorem dX1_init_37 : decode cX1_init 37 = .ok (.iinc 1 1, 3) := by decide +kernel
theorem dX1_init_40 : decode cX1_init 40 = .ok (.goto (-25), 3) := by decide +kernel
theorem dX1_init_43 : decode cX1_init 43 = .ok (.aload_n 0, 1) := by decide +kernel
theorem dX1_init_44 : decode cX1_init 44 = .ok (.iconst 0, 1) := by decide +kernel
theorem dX1_init_45 : decode cX1_init 45 = .ok (.putfield 18, 3) := by decide +kernel
theorem dX1_init_48 : decode cX1_init 48 = .ok (.return_, 1) := by decide +kernel
theorem dX1_save_0 : decode cX1_save 0 = .ok (.aload_n 0, 1) := by decide +kernel
theorem dX1_save_1 : decode cX1_save 1 = .ok (.getfield 18, 3) := by decide +kernel
theorem dX1_save_4 : decode cX1_save 4 = .ok (.aload_n 0, 1) := by decide +kernel
theorem dX1_save_5 : decode cX1_save 5 = .ok (.getfield 11, 3) := by decide +kernel
theorem dX1_save_8 : decode cX1_save 8 = .ok (.arraylength, 1) := by decide +kernel
theorem dX1_save_9 : decode cX1_save 9 = .ok (.if_icmp .lt 7, 3) := by decide +kernel
theorem dX1_save_12 : decode cX1_save 12 = .ok (.aload_n 0, 1) := by decide +kernel
theorem dX1_save_13 : decode cX1_save 13 = .ok (.invokevirtual 22, 3) := by decide +kernel
theorem dX1_save_16 : decode cX1_save 16 = .ok (.aload_n 0, 1) := by decide +kernel
theorem dX1_save_17 : decode cX1_save 17 = .ok (.getfield 18, 3) := by decide +kernel
theorem dX1_save_20 : decode cX1_save 20 = .ok (.ifCond .lt 50, 3) := by decide +kernel
theorem dX1_save_23 : decode cX1_save 23 = .ok (.aload_n 0, 1) := by decide +kernel
theorem dX1_save_24 : decode cX1_save 24 = .ok (.getfield 18, 3) := by decide +kernel
theorem dX1_save_27 : decode cX1_save 27 = .ok (.aload_n 0, 1) := by decide +kernel
theorem dX1_save_28 : decode cX1_save 28 = .ok (.getfield 11, 3) := by decide +kernel
theorem dX1_save_31 : decode cX1_save 31 = .ok (.arraylength, 1) := by decide +kernel
theorem dX1_save_32 : decode cX1_save 32 = .ok (.if_icmp .ge 38, 3) := by decide +kernel
theorem dX1_save_35 : decode cX1_save 35 = .ok (.aload_n 0, 1) := by decide +kernel
theorem dX1_save_36 : decode cX1_save 36 = .ok (.getfield 11, 3) := by decide +kernel
theorem dX1_save_39 : decode cX1_save 39 = .ok (.aload_n 0, 1) := by decide +kernel
theorem dX1_save_40 : decode cX1_save 40 = .ok (.getfield 18, 3) := by decide +kernel
theorem dX1_save_43 : decode cX1_save 43 = .ok (.aaload, 1) := by decide +kernel
theorem dX1_save_44 : decode cX1_save 44 = .ok (.ifnull 26, 3) := by decide +kernel
theorem dX1_save_47 : decode cX1_save 47 = .ok (.aload_n 0, 1) := by decide +kernel
theorem dX1_save_48 : decode cX1_save 48 = .ok (.getfield 11, 3) := by decide +kernel
theorem dX1_save_51 : decode cX1_save 51 = .ok (.aload_n 0, 1) := by decide +kernel
theorem dX1_save_52 : decode cX1_save 52 = .ok (.getfield 18, 3) := by decide +kernel
theorem dX1_save_55 : decode cX1_save 55 = .ok (.aaload, 1) := by decide +kernel
theorem dX1_save_56 : decode cX1_save 56 = .ok (.aload_n 1, 1) := by decide +kernel
theorem dX1_save_57 : decode cX1_save 57 = .ok (.invokevirtual 25, 3) := by decide +kernel
theorem dX1_save_60 : decode cX1_save 60 = .ok (.aload_n 0, 1) := by decide +kernel
theorem dX1_save_61 : decode cX1_save 61 = .ok (.dup, 1) := by decide +kernel
theorem dX1_save_62 : decode cX1_save 62 = .ok (.getfield 18, 3) := by decide +kernel
theorem dX1_save_65 : decode cX1_save 65 = .ok (.iconst 1, 1) := by decide +kernel
theorem dX1_save_66 : decode cX1_save 66 = .ok (.iadd, 1) := by decide +kernel
theorem dX1_save_67 : decode cX1_save 67 = .ok (.putfield 18, 3) := by decide +kernel
theorem dX1_save_70 : decode cX1_save 70 = .ok (.return_, 1) := by decide +kernel
theorem dX1_dropOldest_0 : decode cX1_dropOldest 0 = .ok (.aload_n 0, 1) := by decide +kernel
theorem dX1_dropOldest_1 : decode cX1_dropOldest 1 = .ok (.getfield 11, 3) := by decide +kernel
theorem dX1_dropOldest_4 : decode cX1_dropOldest 4 = .ok (.arraylength, 1) := by decide +kernel
theorem dX1_dropOldest_5 : decode cX1_dropOldest 5 = .ok (.ifCond .le 12, 3) := by decide +kernel
theorem dX1_dropOldest_8 : decode cX1_dropOldest 8 = .ok (.aload_n 0, 1) := by decide +kernel
theorem dX1_dropOldest_9 : decode cX1_dropOldest 9 = .ok (.getfield 11, 3) := by decide +kernel
theorem dX1_dropOldest_12 : decode cX1_dropOldest 12 = .ok (.iconst 0, 1) := by decide +kernel
theorem dX1_dropOldest_13 : decode cX1_dropOldest 13 = .ok (.aaload, 1) := by decide +kernel
theorem dX1_dropOldest_14 : decode cX1_dropOldest 14 = .ok (.goto 4, 3) := by decide +kernel
theorem dX1_dropOldest_17 : decode cX1_dropOldest 17 = .ok (.aconst_null, 1) := by decide +kernel
theorem dX1_dropOldest_18 : decode cX1_dropOldest 18 = .ok (.astore_n 1, 1) := by decide +kernel
theorem dX1_dropOldest_19 : decode cX1_dropOldest 19 = .ok (.iconst 1, 1) := by decide +kernel
theorem dX1_dropOldest_20 : decode cX1_dropOldest 20 = .ok (.istore_n 2, 1) := by decide +kernel
theorem dX1_dropOldest_21 : decode cX1_dropOldest 21 = .ok (.iload_n 2, 1) := by decide +kernel
theorem dX1_dropOldest_22 : decode cX1_dropOldest 22 = .ok (.aload_n 0, 1) := by decide +kernel
theorem dX1_dropOldest_23 : decode cX1_dropOldest 23 = .ok (.getfield 11, 3) := by decide +kernel
theorem dX1_dropOldest_26 : decode cX1_dropOldest 26 = .ok (.arraylength, 1) := by decide +kernel
theorem dX1_dropOldest_27 : decode cX1_dropOldest 27 = .ok (.if_icmp .ge 30, 3) := by decide +kernel
theorem dX1_dropOldest_30 : decode cX1_dropOldest 30 = .ok (.aload_n 0, 1) := by decide +kernel
theorem dX1_dropOldest_31 : decode cX1_dropOldest 31 = .ok (.getfield 11, 3) := by decide +kernel
theorem dX1_dropOldest_34 : decode cX1_dropOldest 34 = .ok (.iload_n 2, 1) := by decide +kernel
theorem dX1_dropOldest_35 : decode cX1_dropOldest 35 = .ok (.iconst 1, 1) := by decide +kernel
theorem dX1_dropOldest_36 : decode cX1_dropOldest 36 = .ok (.isub, 1) := by decide +kernel
theorem dX1_dropOldest_37 : decode cX1_dropOldest 37 = .ok (.aload_n 0, 1) := by decide +kernel
theorem dX1_dropOldest_38 : decode cX1_dropOldest 38 = .ok (.getfield 11, 3) := by decide +kernel
theorem dX1_dropOldest_41 : decode cX1_dropOldest 41 = .ok (.iload_n 2, 1) := by decide +kernel
theorem dX1_dropOldest_42 : decode cX1_dropOldest 42 = .ok (.aaload, 1) := by decide +kernel
theorem dX1_dropOldest_43 : decode cX1_dropOldest 43 = .ok (.aastore, 1) := by decide +kernel
theorem dX1_dropOldest_44 : decode cX1_dropOldest 44 = .ok (.aload_n 0, 1) := by decide +kernel
theorem dX1_dropOldest_45 : decode cX1_dropOldest 45 = .ok (.getfield 11, 3) := by decide +kernel
theorem dX1_dropOldest_48 : decode cX1_dropOldest 48 = .ok (.iload_n 2, 1) := by decide +kernel
theorem dX1_dropOldest_49 : decode cX1_dropOldest 49 = .ok (.aload_n 1, 1) := by decide +kernel
theorem dX1_dropOldest_50 : decode cX1_dropOldest 50 = .ok (.aastore, 1) := by decide +kernel
theorem dX1_dropOldest_51 : decode cX1_dropOldest 51 = .ok (.iinc 2 1, 3) := by decide +kernel
theorem dX1_dropOldest_54 : decode cX1_dropOldest 54 = .ok (.goto (-33), 3) := by decide +kernel
theorem dX1_dropOldest_57 : decode cX1_dropOldest 57 = .ok (.aload_n 0, 1) := by decide +kernel
theorem dX1_dropOldest_58 : decode cX1_dropOldest 58 = .ok (.dup, 1) := by decide +kernel
theorem dX1_dropOldest_59 : decode cX1_dropOldest 59 = .ok (.getfield 18, 3) := by decide +kernel
theorem dX1_dropOldest_62 : decode cX1_dropOldest 62 = .ok (.iconst 1, 1) := by decide +kernel
theorem dX1_dropOldest_63 : decode cX1_dropOldest 63 = .ok (.isub, 1) := by decide +kernel
theorem dX1_dropOldest_64 : decode cX1_dropOldest 64 = .ok (.putfield 18, 3) := by decide +kernel
theorem dX1_dropOldest_67 : decode cX1_dropOldest 67 = .ok (.return_, 1) := by decide +kernel
theorem dX1_restore_0 : decode cX1_restore 0 = .ok (.aload_n 1, 1) := by decide +kernel
theorem dX1_restore_1 : decode cX1_restore 1 = .ok (.ifnull 45, 3) := by decide +kernel
theorem dX1_restore_4 : decode cX1_restore 4 = .ok (.aload_n 0, 1) := by decide +kernel
theorem dX1_restore_5 : decode cX1_restore 5 = .ok (.getfield 18, 3) := by decide +kernel
theorem dX1_restore_8 : decode cX1_restore 8 = .ok (.ifCond .le 38, 3) := by decide +kernel
theorem dX1_restore_11 : decode cX1_restore 11 = .ok (.aload_n 0, 1) := by decide +kernel
theorem dX1_restore_12 : decode cX1_restore 12 = .ok (.getfield 18, 3) := by decide +kernel
theorem dX1_restore_15 : decode cX1_restore 15 = .ok (.aload_n 0, 1) := by decide +kernel
theorem dX1_restore_16 : decode cX1_restore 16 = .ok (.getfield 11, 3) := by decide +kernel
theorem dX1_restore_19 : decode cX1_restore 19 = .ok (.arraylength, 1) := by decide +kernel
theorem dX1_restore_20 : decode cX1_restore 20 = .ok (.if_icmp .gt 26, 3) := by decide +kernel
theorem dX1_restore_23 : decode cX1_restore 23 = .ok (.aload_n 0, 1) := by decide +kernel
theorem dX1_restore_24 : decode cX1_restore 24 = .ok (.dup, 1) := by decide +kernel
theorem dX1_restore_25 : decode cX1_restore 25 = .ok (.getfield 18, 3) := by decide +kernel
theorem dX1_restore_28 : decode cX1_restore 28 = .ok (.iconst 1, 1) := by decide +kernel
theorem dX1_restore_29 : decode cX1_restore 29 = .ok (.isub, 1) := by decide +kernel
theorem dX1_restore_30 : decode cX1_restore 30 = .ok (.putfield 18, 3) := by decide +kernel
theorem dX1_restore_33 : decode cX1_restore 33 = .ok (.aload_n 1, 1) := by decide +kernel
theorem dX1_restore_34 : decode cX1_restore 34 = .ok (.aload_n 0, 1) := by decide +kernel
theorem dX1_restore_35 : decode cX1_restore 35 = .ok (.getfield 11, 3) := by decide +kernel
theorem dX1_restore_38 : decode cX1_restore 38 = .ok (.aload_n 0, 1) := by decide +kernel
theorem dX1_restore_39 : decode cX1_restore 39 = .ok (.getfield 18, 3) := by decide +kernel
theorem dX1_restore_42 : decode cX1_restore 42 = .ok (.aaload, 1) := by decide +kernel
theorem dX1_restore_43 : decode cX1_restore 43 = .ok (.invokevirtual 25, 3) := by decide +kernel
theorem dX1_restore_46 : decode cX1_restore 46 = .ok (.return_, 1) := by decide +kernel
theorem dX2_init_0 : decode cX2_init 0 = .ok (.aload_n 0, 1) := by decide +kernel
theorem dX2_init_1 : decode cX2_init 1 = .ok (.invokespecial 3, 3) := by decide +kernel
theorem dX2_init_4 : decode cX2_init 4 = .ok (.return_, 1) := by decide +kernel
theorem dX3_init_0 : decode cX3_init 0 = .ok (.aload_n 0, 1) := by decide +kernel
theorem dX3_init_1 : decode cX3_init 1 = .ok (.invokespecial 3, 3) := by decide +kernel
theorem dX3_init_4 : decode cX3_init 4 = .ok (.aload_n 0, 1) := by decide +kernel
theorem dX3_init_5 : decode cX3_init 5 = .ok (.new 9, 3) := by decide +kernel
theorem dX3_init_8 : decode cX3_init 8 = .ok (.dup, 1) := by decide +kernel
theorem dX3_init_9 : decode cX3_init 9 = .ok (.invokespecial 11, 3) := by decide +kernel
theorem dX3_init_12 : decode cX3_init 12 = .ok (.putfield 12, 3) := by decide +kernel
theorem dX3_init_15 : decode cX3_init 15 = .ok (.aload_n 0, 1) := by decide +kernel
theorem dX3_init_16 : decode cX3_init 16 = .ok (.bipush 16, 2) := by decide +kernel
theorem dX3_init_18 : decode cX3_init 18 = .ok (.newarray .int, 2) := by decide +kernel
theorem dX3_init_20 : decode cX3_init 20 = .ok (.putfield 18, 3) := by decide +kernel
theorem dX3_init_23 : decode cX3_init 23 = .ok (.aload_n 0, 1) := by decide +kernel
theorem dX3_init_24 : decode cX3_init 24 = .ok (.bipush 16, 2) := by decide +kernel
theorem dX3_init_26 : decode cX3_init 26 = .ok (.newarray .int, 2) := by decide +kernel
theorem dX3_init_28 : decode cX3_init 28 = .ok (.putfield 22, 3) := by decide +kernel
theorem dX3_init_31 : decode cX3_init 31 = .ok (.aload_n 0, 1) := by decide +kernel
theorem dX3_init_32 : decode cX3_init 32 = .ok (.bipush 16, 2) := by decide +kernel
theorem dX3_init_34 : decode cX3_init 34 = .ok (.newarray .int, 2) := by decide +kernel
theorem dX3_init_36 : decode cX3_init 36 = .ok (.putfield 25, 3) := by decide +kernel
theorem dX3_init_39 : decode cX3_init 39 = .ok (.aload_n 0, 1) := by decide +kernel
theorem dX3_init_40 : decode cX3_init 40 = .ok (.bipush 16, 2) := by decide +kernel
theorem dX3_init_42 : decode cX3_init 42 = .ok (.newarray .int, 2) := by decide +kernel
theorem dX3_init_44 : decode cX3_init 44 = .ok (.putfield 28, 3) := by decide +kernel
theorem dX3_init_47 : decode cX3_init 47 = .ok (.aload_n 0, 1) := by decide +kernel
theorem dX3_init_48 : decode cX3_init 48 = .ok (.iconst 3, 1) := by decide +kernel
theorem dX3_init_49 : decode cX3_init 49 = .ok (.newarray .int, 2) := by decide +kernel
theorem dX3_init_51 : decode cX3_init 51 = .ok (.putfield 31, 3) := by decide +kernel
theorem dX3_init_54 : decode cX3_init 54 = .ok (.aload_n 0, 1) := by decide +kernel
theorem dX3_init_55 : decode cX3_init 55 = .ok (.getfield 18, 3) := by decide +kernel
theorem dX3_init_58 : decode cX3_init 58 = .ok (.iconst 2, 1) := by decide +kernel
theorem dX3_init_59 : decode cX3_init 59 = .ok (.invokestatic 34, 3) := by decide +kernel
theorem dX3_init_62 : decode cX3_init 62 = .ok (.aload_n 0, 1) := by decide +kernel
theorem dX3_init_63 : decode cX3_init 63 = .ok (.getfield 25, 3) := by decide +kernel
theorem dX3_init_66 : decode cX3_init 66 = .ok (.iconst 2, 1) := by decide +kernel
theorem dX3_init_67 : decode cX3_init 67 = .ok (.invokestatic 34, 3) := by decide +kernel
theorem dX3_init_70 : decode cX3_init 70 = .ok (.aload_n 0, 1) := by decide +kernel
theorem dX3_init_71 : decode cX3_init 71 = .ok (.getfield 28, 3) := by decide +kernel
theorem dX3_init_74 : decode cX3_init 74 = .ok (.bipush 31, 2) := by decide +kernel
theorem dX3_init_76 : decode cX3_init 76 = .ok (.invokestatic 34, 3) := by decide +kernel
theorem dX3_init_79 : decode cX3_init 79 = .ok (.getstatic 40, 3) := by decide +kernel
theorem dX3_init_82 : decode cX3_init 82 = .ok (.aload_n 0, 1) := by decide +kernel
theorem dX3_init_83 : decode cX3_init 83 = .ok (.getfield 31, 3) := by decide +kernel
theorem dX3_init_86 : decode cX3_init 86 = .ok (.invokestatic 43, 3) := by decide +kernel
theorem dX3_init_89 : decode cX3_init 89 = .ok (.aload_n 0, 1) := by decide +kernel
theorem dX3_init_90 : decode cX3_init 90 = .ok (.iconst 0, 1) := by decide +kernel
theorem dX3_init_91 : decode cX3_init 91 = .ok (.putfield 47, 3) := by decide +kernel
theorem dX3_init_94 : decode cX3_init 94 = .ok (.aload_n 0, 1) := by decide +kernel
theorem dX3_init_95 : decode cX3_init 95 = .ok (.iconst (-1), 1) := by decide +kernel
theorem dX3_init_96 : decode cX3_init 96 = .ok (.putfield 51, 3) := by decide +kernel
theorem dX3_init_99 : decode cX3_init 99 = .ok (.return_, 1) := by decide +kernel
