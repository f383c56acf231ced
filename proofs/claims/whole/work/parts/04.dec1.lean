theorem dX0_init_0 : decode cX0_init 0 = .ok (.aload_n 0, 1) := by decide +kernel
theorem dX0_init_1 : decode cX0_init 1 = .ok (.invokespecial 3, 3) := by decide +kernel
theorem dX0_init_4 : decode cX0_init 4 = .ok (.aload_n 0, 1) := by decide +kernel
theorem dX0_init_5 : decode cX0_init 5 = .ok (.bipush 20, 2) := by decide +kernel
theorem dX0_init_7 : decode cX0_init 7 = .ok (.newarray .int, 2) := by decide +kernel
theorem dX0_init_9 : decode cX0_init 9 = .ok (.putfield 9, 3) := by decide +kernel
theorem dX0_init_12 : decode cX0_init 12 = .ok (.aload_n 0, 1) := by decide +kernel
theorem dX0_init_13 : decode cX0_init 13 = .ok (.bipush 20, 2) := by decide +kernel
theorem dX0_init_15 : decode cX0_init 15 = .ok (.newarray .int, 2) := by decide +kernel
theorem dX0_init_17 : decode cX0_init 17 = .ok (.putfield 15, 3) := by decide +kernel
theorem dX0_init_20 : decode cX0_init 20 = .ok (.aload_n 0, 1) := by decide +kernel
theorem dX0_init_21 : decode cX0_init 21 = .ok (.bipush 20, 2) := by decide +kernel
theorem dX0_init_23 : decode cX0_init 23 = .ok (.newarray .int, 2) := by decide +kernel
theorem dX0_init_25 : decode cX0_init 25 = .ok (.putfield 18, 3) := by decide +kernel
theorem dX0_init_28 : decode cX0_init 28 = .ok (.aload_n 0, 1) := by decide +kernel
theorem dX0_init_29 : decode cX0_init 29 = .ok (.bipush 20, 2) := by decide +kernel
theorem dX0_init_31 : decode cX0_init 31 = .ok (.newarray .int, 2) := by decide +kernel
theorem dX0_init_33 : decode cX0_init 33 = .ok (.putfield 21, 3) := by decide +kernel
theorem dX0_init_36 : decode cX0_init 36 = .ok (.aload_n 0, 1) := by decide +kernel
theorem dX0_init_37 : decode cX0_init 37 = .ok (.bipush 20, 2) := by decide +kernel
theorem dX0_init_39 : decode cX0_init 39 = .ok (.newarray .int, 2) := by decide +kernel
theorem dX0_init_41 : decode cX0_init 41 = .ok (.putfield 24, 3) := by decide +kernel
theorem dX0_init_44 : decode cX0_init 44 = .ok (.return_, 1) := by decide +kernel
theorem dX0_hasPlace_0 : decode cX0_hasPlace 0 = .ok (.iload_n 1, 1) := by decide +kernel
theorem dX0_hasPlace_1 : decode cX0_hasPlace 1 = .ok (.ifCond .lt 15, 3) := by decide +kernel
theorem dX0_hasPlace_4 : decode cX0_hasPlace 4 = .ok (.iload_n 1, 1) := by decide +kernel
theorem dX0_hasPlace_5 : decode cX0_hasPlace 5 = .ok (.aload_n 0, 1) := by decide +kernel
theorem dX0_hasPlace_6 : decode cX0_hasPlace 6 = .ok (.getfield 27, 3) := by decide +kernel
theorem dX0_hasPlace_9 : decode cX0_hasPlace 9 = .ok (.if_icmp .ge 7, 3) := by decide +kernel
theorem dX0_hasPlace_12 : decode cX0_hasPlace 12 = .ok (.iconst 1, 1) := by decide +kernel
theorem dX0_hasPlace_13 : decode cX0_hasPlace 13 = .ok (.goto 4, 3) := by decide +kernel
theorem dX0_hasPlace_16 : decode cX0_hasPlace 16 = .ok (.iconst 0, 1) := by decide +kernel
theorem dX0_hasPlace_17 : decode cX0_hasPlace 17 = .ok (.ireturn, 1) := by decide +kernel
theorem dX0_copyFrom_0 : decode cX0_copyFrom 0 = .ok (.aload_n 1, 1) := by decide +kernel
theorem dX0_copyFrom_1 : decode cX0_copyFrom 1 = .ok (.ifnull 33, 3) := by decide +kernel
theorem dX0_copyFrom_4 : decode cX0_copyFrom 4 = .ok (.aload_n 1, 1) := by decide +kernel
theorem dX0_copyFrom_5 : decode cX0_copyFrom 5 = .ok (.getfield 9, 3) := by decide +kernel
theorem dX0_copyFrom_8 : decode cX0_copyFrom 8 = .ok (.aload_n 0, 1) := by decide +kernel
theorem dX0_copyFrom_9 : decode cX0_copyFrom 9 = .ok (.getfield 9, 3) := by decide +kernel
theorem dX0_copyFrom_12 : decode cX0_copyFrom 12 = .ok (.invokestatic 31, 3) := by decide +kernel
theorem dX0_copyFrom_15 : decode cX0_copyFrom 15 = .ok (.aload_n 1, 1) := by decide +kernel
theorem dX0_copyFrom_16 : decode cX0_copyFrom 16 = .ok (.getfield 15, 3) := by decide +kernel
theorem dX0_copyFrom_19 : decode cX0_copyFrom 19 = .ok (.aload_n 0, 1) := by decide +kernel
theorem dX0_copyFrom_20 : decode cX0_copyFrom 20 = .ok (.getfield 15, 3) := by decide +kernel
theorem dX0_copyFrom_23 : decode cX0_copyFrom 23 = .ok (.invokestatic 31, 3) := by decide +kernel
theorem dX0_copyFrom_26 : decode cX0_copyFrom 26 = .ok (.aload_n 0, 1) := by decide +kernel
theorem dX0_copyFrom_27 : decode cX0_copyFrom 27 = .ok (.aload_n 1, 1) := by decide +kernel
theorem dX0_copyFrom_28 : decode cX0_copyFrom 28 = .ok (.getfield 27, 3) := by decide +kernel
theorem dX0_copyFrom_31 : decode cX0_copyFrom 31 = .ok (.putfield 27, 3) := by decide +kernel
theorem dX0_copyFrom_34 : decode cX0_copyFrom 34 = .ok (.return_, 1) := by decide +kernel
theorem dX0_putIn_0 : decode cX0_putIn 0 = .ok (.iload_n 1, 1) := by decide +kernel
theorem dX0_putIn_1 : decode cX0_putIn 1 = .ok (.ifCond .lt 20, 3) := by decide +kernel
theorem dX0_putIn_4 : decode cX0_putIn 4 = .ok (.iload_n 1, 1) := by decide +kernel
theorem dX0_putIn_5 : decode cX0_putIn 5 = .ok (.aload_n 0, 1) := by decide +kernel
theorem dX0_putIn_6 : decode cX0_putIn 6 = .ok (.getfield 27, 3) := by decide +kernel
theorem dX0_putIn_9 : decode cX0_putIn 9 = .ok (.if_icmp .gt 12, 3) := by decide +kernel
theorem dX0_putIn_12 : decode cX0_putIn 12 = .ok (.aload_n 0, 1) := by decide +kernel
theorem dX0_putIn_13 : decode cX0_putIn 13 = .ok (.getfield 27, 3) := by decide +kernel
theorem dX0_putIn_16 : decode cX0_putIn 16 = .ok (.bipush 20, 2) := by decide +kernel
theorem dX0_putIn_18 : decode cX0_putIn 18 = .ok (.if_icmp .lt 4, 3) := by decide +kernel
theorem dX0_putIn_21 : decode cX0_putIn 21 = .ok (.return_, 1) := by decide +kernel
theorem dX0_putIn_22 : decode cX0_putIn 22 = .ok (.aload_n 0, 1) := by decide +kernel
theorem dX0_putIn_23 : decode cX0_putIn 23 = .ok (.getfield 27, 3) := by decide +kernel
theorem dX0_putIn_26 : decode cX0_putIn 26 = .ok (.istore 4, 2) := by decide +kernel
theorem dX0_putIn_28 : decode cX0_putIn 28 = .ok (.iload 4, 2) := by decide +kernel
theorem dX0_putIn_30 : decode cX0_putIn 30 = .ok (.iload_n 1, 1) := by decide +kernel
theorem dX0_putIn_31 : decode cX0_putIn 31 = .ok (.if_icmp .le 49, 3) := by decide +kernel
theorem dX0_putIn_34 : decode cX0_putIn 34 = .ok (.aload_n 0, 1) := by decide +kernel
theorem dX0_putIn_35 : decode cX0_putIn 35 = .ok (.getfield 9, 3) := by decide +kernel
theorem dX0_putIn_38 : decode cX0_putIn 38 = .ok (.iload 4, 2) := by decide +kernel
theorem dX0_putIn_40 : decode cX0_putIn 40 = .ok (.aload_n 0, 1) := by decide +kernel
theorem dX0_putIn_41 : decode cX0_putIn 41 = .ok (.getfield 9, 3) := by decide +kernel
theorem dX0_putIn_44 : decode cX0_putIn 44 = .ok (.iload 4, 2) := by decide +kernel
theorem dX0_putIn_46 : decode cX0_putIn 46 = .ok (.iconst 1, 1) := by decide +kernel
theorem dX0_putIn_47 : decode cX0_putIn 47 = .ok (.isub, 1) := by decide +kernel
theorem dX0_putIn_48 : decode cX0_putIn 48 = .ok (.invokestatic 35, 3) := by decide +kernel
theorem dX0_putIn_51 : decode cX0_putIn 51 = .ok (.invokestatic 39, 3) := by decide +kernel
theorem dX0_putIn_54 : decode cX0_putIn 54 = .ok (.aload_n 0, 1) := by decide +kernel
theorem dX0_putIn_55 : decode cX0_putIn 55 = .ok (.getfield 15, 3) := by decide +kernel
theorem dX0_putIn_58 : decode cX0_putIn 58 = .ok (.iload 4, 2) := by decide +kernel
theorem dX0_putIn_60 : decode cX0_putIn 60 = .ok (.aload_n 0, 1) := by decide +kernel
theorem dX0_putIn_61 : decode cX0_putIn 61 = .ok (.getfield 15, 3) := by decide +kernel
theorem dX0_putIn_64 : decode cX0_putIn 64 = .ok (.iload 4, 2) := by decide +kernel
theorem dX0_putIn_66 : decode cX0_putIn 66 = .ok (.iconst 1, 1) := by decide +kernel
theorem dX0_putIn_67 : decode cX0_putIn 67 = .ok (.isub, 1) := by decide +kernel
theorem dX0_putIn_68 : decode cX0_putIn 68 = .ok (.invokestatic 35, 3) := by decide +kernel
theorem dX0_putIn_71 : decode cX0_putIn 71 = .ok (.invokestatic 39, 3) := by decide +kernel
theorem dX0_putIn_74 : decode cX0_putIn 74 = .ok (.iinc 4 (-1), 3) := by decide +kernel
theorem dX0_putIn_77 : decode cX0_putIn 77 = .ok (.goto (-49), 3) := by decide +kernel
theorem dX0_putIn_80 : decode cX0_putIn 80 = .ok (.aload_n 0, 1) := by decide +kernel
theorem dX0_putIn_81 : decode cX0_putIn 81 = .ok (.getfield 9, 3) := by decide +kernel
theorem dX0_putIn_84 : decode cX0_putIn 84 = .ok (.iload_n 1, 1) := by decide +kernel
theorem dX0_putIn_85 : decode cX0_putIn 85 = .ok (.iload_n 2, 1) := by decide +kernel
theorem dX0_putIn_86 : decode cX0_putIn 86 = .ok (.invokestatic 39, 3) := by decide +kernel
theorem dX0_putIn_89 : decode cX0_putIn 89 = .ok (.aload_n 0, 1) := by decide +kernel
theorem dX0_putIn_90 : decode cX0_putIn 90 = .ok (.getfield 15, 3) := by decide +kernel
theorem dX0_putIn_93 : decode cX0_putIn 93 = .ok (.iload_n 1, 1) := by decide +kernel
theorem dX0_putIn_94 : decode cX0_putIn 94 = .ok (.iload_n 3, 1) := by decide +kernel
theorem dX0_putIn_95 : decode cX0_putIn 95 = .ok (.invokestatic 39, 3) := by decide +kernel
theorem dX0_putIn_98 : decode cX0_putIn 98 = .ok (.aload_n 0, 1) := by decide +kernel
theorem dX0_putIn_99 : decode cX0_putIn 99 = .ok (.dup, 1) := by decide +kernel
theorem dX0_putIn_100 : decode cX0_putIn 100 = .ok (.getfield 27, 3) := by decide +kernel
theorem dX0_putIn_103 : decode cX0_putIn 103 = .ok (.iconst 1, 1) := by decide +kernel
theorem dX0_putIn_104 : decode cX0_putIn 104 = .ok (.iadd, 1) := by decide +kernel
theorem dX0_putIn_105 : decode cX0_putIn 105 = .ok (.putfield 27, 3) := by decide +kernel
theorem dX0_putIn_108 : decode cX0_putIn 108 = .ok (.return_, 1) := by decide +kernel
theorem dX0_takeOut_0 : decode cX0_takeOut 0 = .ok (.aload_n 0, 1) := by decide +kernel
theorem dX0_takeOut_1 : decode cX0_takeOut 1 = .ok (.iload_n 1, 1) := by decide +kernel
theorem dX0_takeOut_2 : decode cX0_takeOut 2 = .ok (.invokevirtual 43, 3) := by decide +kernel
theorem dX0_takeOut_5 : decode cX0_takeOut 5 = .ok (.ifCond .ne 4, 3) := by decide +kernel
theorem dX0_takeOut_8 : decode cX0_takeOut 8 = .ok (.return_, 1) := by decide +kernel
theorem dX0_takeOut_9 : decode cX0_takeOut 9 = .ok (.iload_n 1, 1) := by decide +kernel
theorem dX0_takeOut_10 : decode cX0_takeOut 10 = .ok (.istore_n 2, 1) := by decide +kernel
theorem dX0_takeOut_11 : decode cX0_takeOut 11 = .ok (.iload_n 2, 1) := by decide +kernel
theorem dX0_takeOut_12 : decode cX0_takeOut 12 = .ok (.aload_n 0, 1) := by decide +kernel
theorem dX0_takeOut_13 : decode cX0_takeOut 13 = .ok (.getfield 27, 3) := by decide +kernel
theorem dX0_takeOut_16 : decode cX0_takeOut 16 = .ok (.iconst 1, 1) := by decide +kernel
theorem dX0_takeOut_17 : decode cX0_takeOut 17 = .ok (.isub, 1) := by decide +kernel
theorem dX0_takeOut_18 : decode cX0_takeOut 18 = .ok (.if_icmp .ge 45, 3) := by decide +kernel
theorem dX0_takeOut_21 : decode cX0_takeOut 21 = .ok (.aload_n 0, 1) := by decide +kernel
theorem dX0_takeOut_22 : decode cX0_takeOut 22 = .ok (.getfield 9, 3) := by decide +kernel
theorem dX0_takeOut_25 : decode cX0_takeOut 25 = .ok (.iload_n 2, 1) := by decide +kernel
theorem dX0_takeOut_26 : decode cX0_takeOut 26 = .ok (.aload_n 0, 1) := by decide +kernel
theorem dX0_takeOut_27 : decode cX0_takeOut 27 = .ok (.getfield 9, 3) := by decide +kernel
theorem dX0_takeOut_30 : decode cX0_takeOut 30 = .ok (.iload_n 2, 1) := by decide +kernel
theorem dX0_takeOut_31 : decode cX0_takeOut 31 = .ok (.iconst 1, 1) := by decide +kernel
theorem dX0_takeOut_32 : decode cX0_takeOut 32 = .ok (.iadd, 1) := by decide +kernel
theorem dX0_takeOut_33 : decode cX0_takeOut 33 = .ok (.invokestatic 35, 3) := by decide +kernel
theorem dX0_takeOut_36 : decode cX0_takeOut 36 = .ok (.invokestatic 39, 3) := by decide +kernel
theorem dX0_takeOut_39 : decode cX0_takeOut 39 = .ok (.aload_n 0, 1) := by decide +kernel
theorem dX0_takeOut_40 : decode cX0_takeOut 40 = .ok (.getfield 15, 3) := by decide +kernel
theorem dX0_takeOut_43 : decode cX0_takeOut 43 = .ok (.iload_n 2, 1) := by decide +kernel
theorem dX0_takeOut_44 : decode cX0_takeOut 44 = .ok (.aload_n 0, 1) := by decide +kernel
theorem dX0_takeOut_45 : decode cX0_takeOut 45 = .ok (.getfield 15, 3) := by decide +kernel
theorem dX0_takeOut_48 : decode cX0_takeOut 48 = .ok (.iload_n 2, 1) := by decide +kernel
theorem dX0_takeOut_49 : decode cX0_takeOut 49 = .ok (.iconst 1, 1) := by decide +kernel
theorem dX0_takeOut_50 : decode cX0_takeOut 50 = .ok (.iadd, 1) := by decide +kernel
theorem dX0_takeOut_51 : decode cX0_takeOut 51 = .ok (.invokestatic 35, 3) := by decide +kernel
theorem dX0_takeOut_54 : decode cX0_takeOut 54 = .ok (.invokestatic 39, 3) := by decide +kernel
theorem dX0_takeOut_57 : decode cX0_takeOut 57 = .ok (.iinc 2 1, 3) := by decide +kernel
theorem dX0_takeOut_60 : decode cX0_takeOut 60 = .ok (.goto (-49), 3) := by decide +kernel
theorem dX0_takeOut_63 : decode cX0_takeOut 63 = .ok (.aload_n 0, 1) := by decide +kernel
theorem dX0_takeOut_64 : decode cX0_takeOut 64 = .ok (.dup, 1) := by decide +kernel
theorem dX0_takeOut_65 : decode cX0_takeOut 65 = .ok (.getfield 27, 3) := by decide +kernel
theorem dX0_takeOut_68 : decode cX0_takeOut 68 = .ok (.iconst 1, 1) := by decide +kernel
theorem dX0_takeOut_69 : decode cX0_takeOut 69 = .ok (.isub, 1) := by decide +kernel
theorem dX0_takeOut_70 : decode cX0_takeOut 70 = .ok (.putfield 27, 3) := by decide +kernel
theorem dX0_takeOut_73 : decode cX0_takeOut 73 = .ok (.return_, 1) := by decide +kernel
theorem dX0_turnOver_0 : decode cX0_turnOver 0 = .ok (.aload_n 0, 1) := by decide +kernel
theorem dX0_turnOver_1 : decode cX0_turnOver 1 = .ok (.iload_n 1, 1) := by decide +kernel
theorem dX0_turnOver_2 : decode cX0_turnOver 2 = .ok (.invokevirtual 43, 3) := by decide +kernel
theorem dX0_turnOver_5 : decode cX0_turnOver 5 = .ok (.ifCond .eq 21, 3) := by decide +kernel
theorem dX0_turnOver_8 : decode cX0_turnOver 8 = .ok (.aload_n 0, 1) := by decide +kernel
theorem dX0_turnOver_9 : decode cX0_turnOver 9 = .ok (.getfield 15, 3) := by decide +kernel
theorem dX0_turnOver_12 : decode cX0_turnOver 12 = .ok (.iload_n 1, 1) := by decide +kernel
theorem dX0_turnOver_13 : decode cX0_turnOver 13 = .ok (.iconst 1, 1) := by decide +kernel
theorem dX0_turnOver_14 : decode cX0_turnOver 14 = .ok (.aload_n 0, 1) := by decide +kernel
theorem dX0_turnOver_15 : decode cX0_turnOver 15 = .ok (.getfield 15, 3) := by decide +kernel
theorem dX0_turnOver_18 : decode cX0_turnOver 18 = .ok (.iload_n 1, 1) := by decide +kernel
theorem dX0_turnOver_19 : decode cX0_turnOver 19 = .ok (.invokestatic 35, 3) := by decide +kernel
theorem dX0_turnOver_22 : decode cX0_turnOver 22 = .ok (.isub, 1) := by decide +kernel
theorem dX0_turnOver_23 : decode cX0_turnOver 23 = .ok (.invokestatic 39, 3) := by decide +kernel
theorem dX0_turnOver_26 : decode cX0_turnOver 26 = .ok (.return_, 1) := by decide +kernel
theorem dX0_shift_0 : decode cX0_shift 0 = .ok (.aload_n 0, 1) := by decide +kernel
theorem dX0_shift_1 : decode cX0_shift 1 = .ok (.iload_n 1, 1) := by decide +kernel
theorem dX0_shift_2 : decode cX0_shift 2 = .ok (.invokevirtual 43, 3) := by decide +kernel
theorem dX0_shift_5 : decode cX0_shift 5 = .ok (.ifCond .eq 11, 3) := by decide +kernel
theorem dX0_shift_8 : decode cX0_shift 8 = .ok (.aload_n 0, 1) := by decide +kernel
theorem dX0_shift_9 : decode cX0_shift 9 = .ok (.iload_n 2, 1) := by decide +kernel
theorem dX0_shift_10 : decode cX0_shift 10 = .ok (.invokevirtual 43, 3) := by decide +kernel
theorem dX0_shift_13 : decode cX0_shift 13 = .ok (.ifCond .ne 4, 3) := by decide +kernel
theorem dX0_shift_16 : decode cX0_shift 16 = .ok (.return_, 1) := by decide +kernel
theorem dX0_shift_17 : decode cX0_shift 17 = .ok (.aload_n 0, 1) := by decide +kernel
theorem dX0_shift_18 : decode cX0_shift 18 = .ok (.getfield 9, 3) := by decide +kernel
theorem dX0_shift_21 : decode cX0_shift 21 = .ok (.iload_n 1, 1) := by decide +kernel
theorem dX0_shift_22 : decode cX0_shift 22 = .ok (.invokestatic 35, 3) := by decide +kernel
theorem dX0_shift_25 : decode cX0_shift 25 = .ok (.istore_n 3, 1) := by decide +kernel
theorem dX0_shift_26 : decode cX0_shift 26 = .ok (.aload_n 0, 1) := by decide +kernel
theorem dX0_shift_27 : decode cX0_shift 27 = .ok (.getfield 15, 3) := by decide +kernel
theorem dX0_shift_30 : decode cX0_shift 30 = .ok (.iload_n 1, 1) := by decide +kernel
theorem dX0_shift_31 : decode cX0_shift 31 = .ok (.invokestatic 35, 3) := by decide +kernel
theorem dX0_shift_34 : decode cX0_shift 34 = .ok (.istore 4, 2) := by decide +kernel
theorem dX0_shift_36 : decode cX0_shift 36 = .ok (.aload_n 0, 1) := by decide +kernel
theorem dX0_shift_37 : decode cX0_shift 37 = .ok (.iload_n 1, 1) := by decide +kernel
theorem dX0_shift_38 : decode cX0_shift 38 = .ok (.invokevirtual 47, 3) := by decide +kernel
theorem dX0_shift_41 : decode cX0_shift 41 = .ok (.aload_n 0, 1) := by decide +kernel
theorem dX0_shift_42 : decode cX0_shift 42 = .ok (.iload_n 2, 1) := by decide +kernel
theorem dX0_shift_43 : decode cX0_shift 43 = .ok (.iload_n 3, 1) := by decide +kernel
theorem dX0_shift_44 : decode cX0_shift 44 = .ok (.iload 4, 2) := by decide +kernel
theorem dX0_shift_46 : decode cX0_shift 46 = .ok (.invokevirtual 51, 3) := by decide +kernel
theorem dX0_shift_49 : decode cX0_shift 49 = .ok (.return_, 1) := by decide +kernel
theorem dX0_copiesOf_0 : decode cX0_copiesOf 0 = .ok (.iconst 0, 1) := by decide +kernel
theorem dX0_copiesOf_1 : decode cX0_copiesOf 1 = .ok (.istore_n 2, 1) := by decide +kernel
theorem dX0_copiesOf_2 : decode cX0_copiesOf 2 = .ok (.iconst 0, 1) := by decide +kernel
theorem dX0_copiesOf_3 : decode cX0_copiesOf 3 = .ok (.istore_n 3, 1) := by decide +kernel
theorem dX0_copiesOf_4 : decode cX0_copiesOf 4 = .ok (.iload_n 3, 1) := by decide +kernel
theorem dX0_copiesOf_5 : decode cX0_copiesOf 5 = .ok (.aload_n 0, 1) := by decide +kernel
theorem dX0_copiesOf_6 : decode cX0_copiesOf 6 = .ok (.getfield 27, 3) := by decide +kernel
theorem dX0_copiesOf_9 : decode cX0_copiesOf 9 = .ok (.if_icmp .ge 24, 3) := by decide +kernel
theorem dX0_copiesOf_12 : decode cX0_copiesOf 12 = .ok (.aload_n 0, 1) := by decide +kernel
theorem dX0_copiesOf_13 : decode cX0_copiesOf 13 = .ok (.getfield 9, 3) := by decide +kernel
theorem dX0_copiesOf_16 : decode cX0_copiesOf 16 = .ok (.iload_n 3, 1) := by decide +kernel
theorem dX0_copiesOf_17 : decode cX0_copiesOf 17 = .ok (.invokestatic 35, 3) := by decide +kernel
theorem dX0_copiesOf_20 : decode cX0_copiesOf 20 = .ok (.iload_n 1, 1) := by decide +kernel
theorem dX0_copiesOf_21 : decode cX0_copiesOf 21 = .ok (.if_icmp .ne 6, 3) := by decide +kernel
theorem dX0_copiesOf_24 : decode cX0_copiesOf 24 = .ok (.iinc 2 1, 3) := by decide +kernel
theorem dX0_copiesOf_27 : decode cX0_copiesOf 27 = .ok (.iinc 3 1, 3) := by decide +kernel
theorem dX0_copiesOf_30 : decode cX0_copiesOf 30 = .ok (.goto (-26), 3) := by decide +kernel
theorem dX0_copiesOf_33 : decode cX0_copiesOf 33 = .ok (.iload_n 2, 1) := by decide +kernel
theorem dX0_copiesOf_34 : decode cX0_copiesOf 34 = .ok (.ireturn, 1) := by decide +kernel
theorem dX0_firstTurned_0 : decode cX0_firstTurned 0 = .ok (.iconst 0, 1) := by decide +kernel
theorem dX0_firstTurned_1 : decode cX0_firstTurned 1 = .ok (.istore_n 1, 1) := by decide +kernel
theorem dX0_firstTurned_2 : decode cX0_firstTurned 2 = .ok (.iload_n 1, 1) := by decide +kernel
theorem dX0_firstTurned_3 : decode cX0_firstTurned 3 = .ok (.aload_n 0, 1) := by decide +kernel
theorem dX0_firstTurned_4 : decode cX0_firstTurned 4 = .ok (.getfield 27, 3) := by decide +kernel
theorem dX0_firstTurned_7 : decode cX0_firstTurned 7 = .ok (.if_icmp .ge 22, 3) := by decide +kernel
theorem dX0_firstTurned_10 : decode cX0_firstTurned 10 = .ok (.aload_n 0, 1) := by decide +kernel
theorem dX0_firstTurned_11 : decode cX0_firstTurned 11 = .ok (.getfield 15, 3) := by decide +kernel
theorem dX0_firstTurned_14 : decode cX0_firstTurned 14 = .ok (.iload_n 1, 1) := by decide +kernel
theorem dX0_firstTurned_15 : decode cX0_firstTurned 15 = .ok (.invokestatic 35, 3) := by decide +kernel
theorem dX0_firstTurned_18 : decode cX0_firstTurned 18 = .ok (.ifCond .eq 5, 3) := by decide +kernel
theorem dX0_firstTurned_21 : decode cX0_firstTurned 21 = .ok (.iload_n 1, 1) := by decide +kernel
theorem dX0_firstTurned_22 : decode cX0_firstTurned 22 = .ok (.ireturn, 1) := by decide +kernel
theorem dX0_firstTurned_23 : decode cX0_firstTurned 23 = .ok (.iinc 1 1, 3) := by decide +kernel
theorem dX0_firstTurned_26 : decode cX0_firstTurned 26 = .ok (.goto (-24), 3) := by decide +kernel
theorem dX0_firstTurned_29 : decode cX0_firstTurned 29 = .ok (.iconst (-1), 1) := by decide +kernel
theorem dX0_firstTurned_30 : decode cX0_firstTurned 30 = .ok (.ireturn, 1) := by decide +kernel
theorem dX0_firstNotBelow_0 : decode cX0_firstNotBelow 0 = .ok (.iconst 0, 1) := by decide +kernel
theorem dX0_firstNotBelow_1 : decode cX0_firstNotBelow 1 = .ok (.istore_n 2, 1) := by decide +kernel
theorem dX0_firstNotBelow_2 : decode cX0_firstNotBelow 2 = .ok (.iload_n 2, 1) := by decide +kernel
theorem dX0_firstNotBelow_3 : decode cX0_firstNotBelow 3 = .ok (.aload_n 0, 1) := by decide +kernel
theorem dX0_firstNotBelow_4 : decode cX0_firstNotBelow 4 = .ok (.getfield 27, 3) := by decide +kernel
theorem dX0_firstNotBelow_7 : decode cX0_firstNotBelow 7 = .ok (.if_icmp .ge 23, 3) := by decide +kernel
theorem dX0_firstNotBelow_10 : decode cX0_firstNotBelow 10 = .ok (.aload_n 0, 1) := by decide +kernel
theorem dX0_firstNotBelow_11 : decode cX0_firstNotBelow 11 = .ok (.getfield 9, 3) := by decide +kernel
theorem dX0_firstNotBelow_14 : decode cX0_firstNotBelow 14 = .ok (.iload_n 2, 1) := by decide +kernel
theorem dX0_firstNotBelow_15 : decode cX0_firstNotBelow 15 = .ok (.invokestatic 35, 3) := by decide +kernel
theorem dX0_firstNotBelow_18 : decode cX0_firstNotBelow 18 = .ok (.iload_n 1, 1) := by decide +kernel
theorem dX0_firstNotBelow_19 : decode cX0_firstNotBelow 19 = .ok (.if_icmp .lt 5, 3) := by decide +kernel
theorem dX0_firstNotBelow_22 : decode cX0_firstNotBelow 22 = .ok (.iload_n 2, 1) := by decide +kernel
theorem dX0_firstNotBelow_23 : decode cX0_firstNotBelow 23 = .ok (.ireturn, 1) := by decide +kernel
theorem dX0_firstNotBelow_24 : decode cX0_firstNotBelow 24 = .ok (.iinc 2 1, 3) := by decide +kernel
theorem dX0_firstNotBelow_27 : decode cX0_firstNotBelow 27 = .ok (.goto (-25), 3) := by decide +kernel
theorem dX0_firstNotBelow_30 : decode cX0_firstNotBelow 30 = .ok (.iconst (-1), 1) := by decide +kernel
theorem dX0_firstNotBelow_31 : decode cX0_firstNotBelow 31 = .ok (.ireturn, 1) := by decide +kernel
theorem dX0_firstDouble_0 : decode cX0_firstDouble 0 = .ok (.iconst 1, 1) := by decide +kernel
theorem dX0_firstDouble_1 : decode cX0_firstDouble 1 = .ok (.istore_n 1, 1) := by decide +kernel
theorem dX0_firstDouble_2 : decode cX0_firstDouble 2 = .ok (.iload_n 1, 1) := by decide +kernel
theorem dX0_firstDouble_3 : decode cX0_firstDouble 3 = .ok (.aload_n 0, 1) := by decide +kernel
theorem dX0_firstDouble_4 : decode cX0_firstDouble 4 = .ok (.getfield 27, 3) := by decide +kernel
theorem dX0_firstDouble_7 : decode cX0_firstDouble 7 = .ok (.if_icmp .ge 43, 3) := by decide +kernel
theorem dX0_firstDouble_10 : decode cX0_firstDouble 10 = .ok (.iconst 0, 1) := by decide +kernel
theorem dX0_firstDouble_11 : decode cX0_firstDouble 11 = .ok (.istore_n 2, 1) := by decide +kernel
theorem dX0_firstDouble_12 : decode cX0_firstDouble 12 = .ok (.iload_n 2, 1) := by decide +kernel
theorem dX0_firstDouble_13 : decode cX0_firstDouble 13 = .ok (.iload_n 1, 1) := by decide +kernel
theorem dX0_firstDouble_14 : decode cX0_firstDouble 14 = .ok (.if_icmp .ge 30, 3) := by decide +kernel
theorem dX0_firstDouble_17 : decode cX0_firstDouble 17 = .ok (.aload_n 0, 1) := by decide +kernel
theorem dX0_firstDouble_18 : decode cX0_firstDouble 18 = .ok (.getfield 9, 3) := by decide +kernel
theorem dX0_firstDouble_21 : decode cX0_firstDouble 21 = .ok (.iload_n 2, 1) := by decide +kernel
theorem dX0_firstDouble_22 : decode cX0_firstDouble 22 = .ok (.invokestatic 35, 3) := by decide +kernel
theorem dX0_firstDouble_25 : decode cX0_firstDouble 25 = .ok (.aload_n 0, 1) := by decide +kernel
theorem dX0_firstDouble_26 : decode cX0_firstDouble 26 = .ok (.getfield 9, 3) := by decide +kernel
theorem dX0_firstDouble_29 : decode cX0_firstDouble 29 = .ok (.iload_n 1, 1) := by decide +kernel
theorem dX0_firstDouble_30 : decode cX0_firstDouble 30 = .ok (.invokestatic 35, 3) := by decide +kernel
theorem dX0_firstDouble_33 : decode cX0_firstDouble 33 = .ok (.if_icmp .ne 5, 3) := by decide +kernel
theorem dX0_firstDouble_36 : decode cX0_firstDouble 36 = .ok (.iload_n 1, 1) := by decide +kernel
theorem dX0_firstDouble_37 : decode cX0_firstDouble 37 = .ok (.ireturn, 1) := by decide +kernel
theorem dX0_firstDouble_38 : decode cX0_firstDouble 38 = .ok (.iinc 2 1, 3) := by decide +kernel
theorem dX0_firstDouble_41 : decode cX0_firstDouble 41 = .ok (.goto (-29), 3) := by decide +kernel
theorem dX0_firstDouble_44 : decode cX0_firstDouble 44 = .ok (.iinc 1 1, 3) := by decide +kernel
theorem dX0_firstDouble_47 : decode cX0_firstDouble 47 = .ok (.goto (-45), 3) := by decide +kernel
theorem dX0_firstDouble_50 : decode cX0_firstDouble 50 = .ok (.iconst (-1), 1) := by decide +kernel
theorem dX0_firstDouble_51 : decode cX0_firstDouble 51 = .ok (.ireturn, 1) := by decide +kernel
theorem dX0_firstFall_0 : decode cX0_firstFall 0 = .ok (.iconst 1, 1) := by decide +kernel
theorem dX0_firstFall_1 : decode cX0_firstFall 1 = .ok (.istore_n 1, 1) := by decide +kernel
theorem dX0_firstFall_2 : decode cX0_firstFall 2 = .ok (.iload_n 1, 1) := by decide +kernel
theorem dX0_firstFall_3 : decode cX0_firstFall 3 = .ok (.aload_n 0, 1) := by decide +kernel
theorem dX0_firstFall_4 : decode cX0_firstFall 4 = .ok (.getfield 27, 3) := by decide +kernel
theorem dX0_firstFall_7 : decode cX0_firstFall 7 = .ok (.if_icmp .ge 32, 3) := by decide +kernel
theorem dX0_firstFall_10 : decode cX0_firstFall 10 = .ok (.aload_n 0, 1) := by decide +kernel
theorem dX0_firstFall_11 : decode cX0_firstFall 11 = .ok (.getfield 9, 3) := by decide +kernel
theorem dX0_firstFall_14 : decode cX0_firstFall 14 = .ok (.iload_n 1, 1) := by decide +kernel
theorem dX0_firstFall_15 : decode cX0_firstFall 15 = .ok (.invokestatic 35, 3) := by decide +kernel
theorem dX0_firstFall_18 : decode cX0_firstFall 18 = .ok (.aload_n 0, 1) := by decide +kernel
theorem dX0_firstFall_19 : decode cX0_firstFall 19 = .ok (.getfield 9, 3) := by decide +kernel
theorem dX0_firstFall_22 : decode cX0_firstFall 22 = .ok (.iload_n 1, 1) := by decide +kernel
theorem dX0_firstFall_23 : decode cX0_firstFall 23 = .ok (.iconst 1, 1) := by decide +kernel
theorem dX0_firstFall_24 : decode cX0_firstFall 24 = .ok (.isub, 1) := by decide +kernel
theorem dX0_firstFall_25 : decode cX0_firstFall 25 = .ok (.invokestatic 35, 3) := by decide +kernel
theorem dX0_firstFall_28 : decode cX0_firstFall 28 = .ok (.if_icmp .ge 5, 3) := by decide +kernel
theorem dX0_firstFall_31 : decode cX0_firstFall 31 = .ok (.iload_n 1, 1) := by decide +kernel
theorem dX0_firstFall_32 : decode cX0_firstFall 32 = .ok (.ireturn, 1) := by decide +kernel
theorem dX0_firstFall_33 : decode cX0_firstFall 33 = .ok (.iinc 1 1, 3) := by decide +kernel
theorem dX0_firstFall_36 : decode cX0_firstFall 36 = .ok (.goto (-34), 3) := by decide +kernel
theorem dX0_firstFall_39 : decode cX0_firstFall 39 = .ok (.iconst (-1), 1) := by decide +kernel
theorem dX0_firstFall_40 : decode cX0_firstFall 40 = .ok (.ireturn, 1) := by decide +kernel
theorem dX0_greaterAheadOf_0 : decode cX0_greaterAheadOf 0 = .ok (.iconst 0, 1) := by decide +kernel
theorem dX0_greaterAheadOf_1 : decode cX0_greaterAheadOf 1 = .ok (.istore_n 2, 1) := by decide +kernel
theorem dX0_greaterAheadOf_2 : decode cX0_greaterAheadOf 2 = .ok (.iconst 0, 1) := by decide +kernel
theorem dX0_greaterAheadOf_3 : decode cX0_greaterAheadOf 3 = .ok (.istore_n 3, 1) := by decide +kernel
theorem dX0_greaterAheadOf_4 : decode cX0_greaterAheadOf 4 = .ok (.iload_n 3, 1) := by decide +kernel
theorem dX0_greaterAheadOf_5 : decode cX0_greaterAheadOf 5 = .ok (.iload_n 1, 1) := by decide +kernel
theorem dX0_greaterAheadOf_6 : decode cX0_greaterAheadOf 6 = .ok (.if_icmp .ge 39, 3) := by decide +kernel
theorem dX0_greaterAheadOf_9 : decode cX0_greaterAheadOf 9 = .ok (.iload_n 3, 1) := by decide +kernel
theorem dX0_greaterAheadOf_10 : decode cX0_greaterAheadOf 10 = .ok (.aload_n 0, 1) := by decide +kernel
theorem dX0_greaterAheadOf_11 : decode cX0_greaterAheadOf 11 = .ok (.getfield 27, 3) := by decide +kernel
theorem dX0_greaterAheadOf_14 : decode cX0_greaterAheadOf 14 = .ok (.if_icmp .ge 31, 3) := by decide +kernel
theorem dX0_greaterAheadOf_17 : decode cX0_greaterAheadOf 17 = .ok (.aload_n 0, 1) := by decide +kernel
theorem dX0_greaterAheadOf_18 : decode cX0_greaterAheadOf 18 = .ok (.getfield 9, 3) := by decide +kernel
theorem dX0_greaterAheadOf_21 : decode cX0_greaterAheadOf 21 = .ok (.iload_n 3, 1) := by decide +kernel
theorem dX0_greaterAheadOf_22 : decode cX0_greaterAheadOf 22 = .ok (.invokestatic 35, 3) := by decide +kernel
theorem dX0_greaterAheadOf_25 : decode cX0_greaterAheadOf 25 = .ok (.aload_n 0, 1) := by decide +kernel
theorem dX0_greaterAheadOf_26 : decode cX0_greaterAheadOf 26 = .ok (.getfield 9, 3) := by decide +kernel
theorem dX0_greaterAheadOf_29 : decode cX0_greaterAheadOf 29 = .ok (.iload_n 1, 1) := by decide +kernel
theorem dX0_greaterAheadOf_30 : decode cX0_greaterAheadOf 30 = .ok (.invokestatic 35, 3) := by decide +kernel
theorem dX0_greaterAheadOf_33 : decode cX0_greaterAheadOf 33 = .ok (.if_icmp .le 6, 3) := by decide +kernel
theorem dX0_greaterAheadOf_36 : decode cX0_greaterAheadOf 36 = .ok (.iinc 2 1, 3) := by decide +kernel
theorem dX0_greaterAheadOf_39 : decode cX0_greaterAheadOf 39 = .ok (.iinc 3 1, 3) := by decide +kernel
theorem dX0_greaterAheadOf_42 : decode cX0_greaterAheadOf 42 = .ok (.goto (-38), 3) := by decide +kernel
theorem dX0_greaterAheadOf_45 : decode cX0_greaterAheadOf 45 = .ok (.iload_n 2, 1) := by decide +kernel
theorem dX0_greaterAheadOf_46 : decode cX0_greaterAheadOf 46 = .ok (.ireturn, 1) := by decide +kernel
theorem dX0_fallingPairs_0 : decode cX0_fallingPairs 0 = .ok (.iconst 0, 1) := by decide +kernel
theorem dX0_fallingPairs_1 : decode cX0_fallingPairs 1 = .ok (.istore_n 1, 1) := by decide +kernel
theorem dX0_fallingPairs_2 : decode cX0_fallingPairs 2 = .ok (.iconst 0, 1) := by decide +kernel
theorem dX0_fallingPairs_3 : decode cX0_fallingPairs 3 = .ok (.istore_n 2, 1) := by decide +kernel
theorem dX0_fallingPairs_4 : decode cX0_fallingPairs 4 = .ok (.iload_n 2, 1) := by decide +kernel
theorem dX0_fallingPairs_5 : decode cX0_fallingPairs 5 = .ok (.aload_n 0, 1) := by decide +kernel
theorem dX0_fallingPairs_6 : decode cX0_fallingPairs 6 = .ok (.getfield 27, 3) := by decide +kernel
theorem dX0_fallingPairs_9 : decode cX0_fallingPairs 9 = .ok (.if_icmp .ge 17, 3) := by decide +kernel
theorem dX0_fallingPairs_12 : decode cX0_fallingPairs 12 = .ok (.iload_n 1, 1) := by decide +kernel
theorem dX0_fallingPairs_13 : decode cX0_fallingPairs 13 = .ok (.aload_n 0, 1) := by decide +kernel
theorem dX0_fallingPairs_14 : decode cX0_fallingPairs 14 = .ok (.iload_n 2, 1) := by decide +kernel
theorem dX0_fallingPairs_15 : decode cX0_fallingPairs 15 = .ok (.invokevirtual 55, 3) := by decide +kernel
theorem dX0_fallingPairs_18 : decode cX0_fallingPairs 18 = .ok (.iadd, 1) := by decide +kernel
theorem dX0_fallingPairs_19 : decode cX0_fallingPairs 19 = .ok (.istore_n 1, 1) := by decide +kernel
theorem dX0_fallingPairs_20 : decode cX0_fallingPairs 20 = .ok (.iinc 2 1, 3) := by decide +kernel
theorem dX0_fallingPairs_23 : decode cX0_fallingPairs 23 = .ok (.goto (-19), 3) := by decide +kernel
theorem dX0_fallingPairs_26 : decode cX0_fallingPairs 26 = .ok (.iload_n 1, 1) := by decide +kernel
theorem dX0_fallingPairs_27 : decode cX0_fallingPairs 27 = .ok (.ireturn, 1) := by decide +kernel
theorem dX0_fewestMovesBySheets_0 : decode cX0_fewestMovesBySheets 0 = .ok (.aload_n 0, 1) := by decide +kernel
theorem dX0_fewestMovesBySheets_1 : decode cX0_fewestMovesBySheets 1 = .ok (.getfield 27, 3) := by decide +kernel
theorem dX0_fewestMovesBySheets_4 : decode cX0_fewestMovesBySheets 4 = .ok (.aload_n 0, 1) := by decide +kernel
theorem dX0_fewestMovesBySheets_5 : decode cX0_fewestMovesBySheets 5 = .ok (.invokevirtual 59, 3) := by decide +kernel
theorem dX0_fewestMovesBySheets_8 : decode cX0_fewestMovesBySheets 8 = .ok (.isub, 1) := by decide +kernel
theorem dX0_fewestMovesBySheets_9 : decode cX0_fewestMovesBySheets 9 = .ok (.ireturn, 1) := by decide +kernel
theorem dX0_fewestMovesByPiles_0 : decode cX0_fewestMovesByPiles 0 = .ok (.aload_n 0, 1) := by decide +kernel
theorem dX0_fewestMovesByPiles_1 : decode cX0_fewestMovesByPiles 1 = .ok (.getfield 27, 3) := by decide +kernel
theorem dX0_fewestMovesByPiles_4 : decode cX0_fewestMovesByPiles 4 = .ok (.aload_n 0, 1) := by decide +kernel
theorem dX0_fewestMovesByPiles_5 : decode cX0_fewestMovesByPiles 5 = .ok (.invokevirtual 63, 3) := by decide +kernel
theorem dX0_fewestMovesByPiles_8 : decode cX0_fewestMovesByPiles 8 = .ok (.isub, 1) := by decide +kernel
theorem dX0_fewestMovesByPiles_9 : decode cX0_fewestMovesByPiles 9 = .ok (.ireturn, 1) := by decide +kernel
theorem dX0_longestRowBySheets_0 : decode cX0_longestRowBySheets 0 = .ok (.aload_n 0, 1) := by decide +kernel
theorem dX0_longestRowBySheets_1 : decode cX0_longestRowBySheets 1 = .ok (.invokevirtual 66, 3) := by decide +kernel
theorem dX0_longestRowBySheets_4 : decode cX0_longestRowBySheets 4 = .ok (.iconst 0, 1) := by decide +kernel
theorem dX0_longestRowBySheets_5 : decode cX0_longestRowBySheets 5 = .ok (.istore_n 1, 1) := by decide +kernel
theorem dX0_longestRowBySheets_6 : decode cX0_longestRowBySheets 6 = .ok (.iconst 0, 1) := by decide +kernel
theorem dX0_longestRowBySheets_7 : decode cX0_longestRowBySheets 7 = .ok (.istore_n 2, 1) := by decide +kernel
theorem dX0_longestRowBySheets_8 : decode cX0_longestRowBySheets 8 = .ok (.iload_n 2, 1) := by decide +kernel
theorem dX0_longestRowBySheets_9 : decode cX0_longestRowBySheets 9 = .ok (.aload_n 0, 1) := by decide +kernel
theorem dX0_longestRowBySheets_10 : decode cX0_longestRowBySheets 10 = .ok (.getfield 27, 3) := by decide +kernel
theorem dX0_longestRowBySheets_13 : decode cX0_longestRowBySheets 13 = .ok (.if_icmp .ge 22, 3) := by decide +kernel
theorem dX0_longestRowBySheets_16 : decode cX0_longestRowBySheets 16 = .ok (.iload_n 1, 1) := by decide +kernel
theorem dX0_longestRowBySheets_17 : decode cX0_longestRowBySheets 17 = .ok (.aload_n 0, 1) := by decide +kernel
theorem dX0_longestRowBySheets_18 : decode cX0_longestRowBySheets 18 = .ok (.getfield 18, 3) := by decide +kernel
theorem dX0_longestRowBySheets_21 : decode cX0_longestRowBySheets 21 = .ok (.iload_n 2, 1) := by decide +kernel
theorem dX0_longestRowBySheets_22 : decode cX0_longestRowBySheets 22 = .ok (.invokestatic 35, 3) := by decide +kernel
theorem dX0_longestRowBySheets_25 : decode cX0_longestRowBySheets 25 = .ok (.invokestatic 69, 3) := by decide +kernel
theorem dX0_longestRowBySheets_28 : decode cX0_longestRowBySheets 28 = .ok (.istore_n 1, 1) := by decide +kernel
theorem dX0_longestRowBySheets_29 : decode cX0_longestRowBySheets 29 = .ok (.iinc 2 1, 3) := by decide +kernel
theorem dX0_longestRowBySheets_32 : decode cX0_longestRowBySheets 32 = .ok (.goto (-24), 3) := by decide +kernel
theorem dX0_longestRowBySheets_35 : decode cX0_longestRowBySheets 35 = .ok (.iload_n 1, 1) := by decide +kernel
theorem dX0_longestRowBySheets_36 : decode cX0_longestRowBySheets 36 = .ok (.ireturn, 1) := by decide +kernel
theorem dX0_findLongestEnding_0 : decode cX0_findLongestEnding 0 = .ok (.iconst 0, 1) := by decide +kernel
theorem dX0_findLongestEnding_1 : decode cX0_findLongestEnding 1 = .ok (.istore_n 1, 1) := by decide +kernel
theorem dX0_findLongestEnding_2 : decode cX0_findLongestEnding 2 = .ok (.iload_n 1, 1) := by decide +kernel
theorem dX0_findLongestEnding_3 : decode cX0_findLongestEnding 3 = .ok (.aload_n 0, 1) := by decide +kernel
theorem dX0_findLongestEnding_4 : decode cX0_findLongestEnding 4 = .ok (.getfield 27, 3) := by decide +kernel
theorem dX0_findLongestEnding_7 : decode cX0_findLongestEnding 7 = .ok (.if_icmp .ge 32, 3) := by decide +kernel
theorem dX0_findLongestEnding_10 : decode cX0_findLongestEnding 10 = .ok (.aload_n 0, 1) := by decide +kernel
theorem dX0_findLongestEnding_11 : decode cX0_findLongestEnding 11 = .ok (.getfield 18, 3) := by decide +kernel
theorem dX0_findLongestEnding_14 : decode cX0_findLongestEnding 14 = .ok (.iload_n 1, 1) := by decide +kernel
theorem dX0_findLongestEnding_15 : decode cX0_findLongestEnding 15 = .ok (.iconst 1, 1) := by decide +kernel
theorem dX0_findLongestEnding_16 : decode cX0_findLongestEnding 16 = .ok (.aload_n 0, 1) := by decide +kernel
theorem dX0_findLongestEnding_17 : decode cX0_findLongestEnding 17 = .ok (.iload_n 1, 1) := by decide +kernel
theorem dX0_findLongestEnding_18 : decode cX0_findLongestEnding 18 = .ok (.aload_n 0, 1) := by decide +kernel
theorem dX0_findLongestEnding_19 : decode cX0_findLongestEnding 19 = .ok (.getfield 9, 3) := by decide +kernel
theorem dX0_findLongestEnding_22 : decode cX0_findLongestEnding 22 = .ok (.iload_n 1, 1) := by decide +kernel
theorem dX0_findLongestEnding_23 : decode cX0_findLongestEnding 23 = .ok (.invokestatic 35, 3) := by decide +kernel
theorem dX0_findLongestEnding_26 : decode cX0_findLongestEnding 26 = .ok (.invokevirtual 75, 3) := by decide +kernel
theorem dX0_findLongestEnding_29 : decode cX0_findLongestEnding 29 = .ok (.iadd, 1) := by decide +kernel
theorem dX0_findLongestEnding_30 : decode cX0_findLongestEnding 30 = .ok (.invokestatic 39, 3) := by decide +kernel
theorem dX0_findLongestEnding_33 : decode cX0_findLongestEnding 33 = .ok (.iinc 1 1, 3) := by decide +kernel
theorem dX0_findLongestEnding_36 : decode cX0_findLongestEnding 36 = .ok (.goto (-34), 3) := by decide +kernel
theorem dX0_findLongestEnding_39 : decode cX0_findLongestEnding 39 = .ok (.return_, 1) := by decide +kernel
theorem dX0_findLongestBeginning_0 : decode cX0_findLongestBeginning 0 = .ok (.aload_n 0, 1) := by decide +kernel
theorem dX0_findLongestBeginning_1 : decode cX0_findLongestBeginning 1 = .ok (.getfield 27, 3) := by decide +kernel
theorem dX0_findLongestBeginning_4 : decode cX0_findLongestBeginning 4 = .ok (.iconst 1, 1) := by decide +kernel
theorem dX0_findLongestBeginning_5 : decode cX0_findLongestBeginning 5 = .ok (.isub, 1) := by decide +kernel
theorem dX0_findLongestBeginning_6 : decode cX0_findLongestBeginning 6 = .ok (.istore_n 1, 1) := by decide +kernel
theorem dX0_findLongestBeginning_7 : decode cX0_findLongestBeginning 7 = .ok (.iload_n 1, 1) := by decide +kernel
theorem dX0_findLongestBeginning_8 : decode cX0_findLongestBeginning 8 = .ok (.ifCond .lt 34, 3) := by decide +kernel
theorem dX0_findLongestBeginning_11 : decode cX0_findLongestBeginning 11 = .ok (.aload_n 0, 1) := by decide +kernel
theorem dX0_findLongestBeginning_12 : decode cX0_findLongestBeginning 12 = .ok (.getfield 21, 3) := by decide +kernel
theorem dX0_findLongestBeginning_15 : decode cX0_findLongestBeginning 15 = .ok (.iload_n 1, 1) := by decide +kernel
theorem dX0_findLongestBeginning_16 : decode cX0_findLongestBeginning 16 = .ok (.iconst 1, 1) := by decide +kernel
theorem dX0_findLongestBeginning_17 : decode cX0_findLongestBeginning 17 = .ok (.aload_n 0, 1) := by decide +kernel
theorem dX0_findLongestBeginning_18 : decode cX0_findLongestBeginning 18 = .ok (.iload_n 1, 1) := by decide +kernel
theorem dX0_findLongestBeginning_19 : decode cX0_findLongestBeginning 19 = .ok (.iconst 1, 1) := by decide +kernel
theorem dX0_findLongestBeginning_20 : decode cX0_findLongestBeginning 20 = .ok (.iadd, 1) := by decide +kernel
theorem dX0_findLongestBeginning_21 : decode cX0_findLongestBeginning 21 = .ok (.aload_n 0, 1) := by decide +kernel
theorem dX0_findLongestBeginning_22 : decode cX0_findLongestBeginning 22 = .ok (.getfield 9, 3) := by decide +kernel
theorem dX0_findLongestBeginning_25 : decode cX0_findLongestBeginning 25 = .ok (.iload_n 1, 1) := by decide +kernel
theorem dX0_findLongestBeginning_26 : decode cX0_findLongestBeginning 26 = .ok (.invokestatic 35, 3) := by decide +kernel
theorem dX0_findLongestBeginning_29 : decode cX0_findLongestBeginning 29 = .ok (.invokevirtual 78, 3) := by decide +kernel
theorem dX0_findLongestBeginning_32 : decode cX0_findLongestBeginning 32 = .ok (.iadd, 1) := by decide +kernel
theorem dX0_findLongestBeginning_33 : decode cX0_findLongestBeginning 33 = .ok (.invokestatic 39, 3) := by decide +kernel
theorem dX0_findLongestBeginning_36 : decode cX0_findLongestBeginning 36 = .ok (.iinc 1 (-1), 3) := by decide +kernel
theorem dX0_findLongestBeginning_39 : decode cX0_findLongestBeginning 39 = .ok (.goto (-32), 3) := by decide +kernel
theorem dX0_findLongestBeginning_42 : decode cX0_findLongestBeginning 42 = .ok (.return_, 1) := by decide +kernel
theorem dX0_longestAhead_0 : decode cX0_longestAhead 0 = .ok (.iconst 0, 1) := by decide +kernel
theorem dX0_longestAhead_1 : decode cX0_longestAhead 1 = .ok (.istore_n 3, 1) := by decide +kernel
theorem dX0_longestAhead_2 : decode cX0_longestAhead 2 = .ok (.iconst 0, 1) := by decide +kernel
theorem dX0_longestAhead_3 : decode cX0_longestAhead 3 = .ok (.istore 4, 2) := by decide +kernel
theorem dX0_longestAhead_5 : decode cX0_longestAhead 5 = .ok (.iload 4, 2) := by decide +kernel
theorem dX0_longestAhead_7 : decode cX0_longestAhead 7 = .ok (.iload_n 1, 1) := by decide +kernel
theorem dX0_longestAhead_8 : decode cX0_longestAhead 8 = .ok (.if_icmp .ge 45, 3) := by decide +kernel
theorem dX0_longestAhead_11 : decode cX0_longestAhead 11 = .ok (.iload 4, 2) := by decide +kernel
theorem dX0_longestAhead_13 : decode cX0_longestAhead 13 = .ok (.aload_n 0, 1) := by decide +kernel
theorem dX0_longestAhead_14 : decode cX0_longestAhead 14 = .ok (.getfield 27, 3) := by decide +kernel
theorem dX0_longestAhead_17 : decode cX0_longestAhead 17 = .ok (.if_icmp .ge 36, 3) := by decide +kernel
theorem dX0_longestAhead_20 : decode cX0_longestAhead 20 = .ok (.aload_n 0, 1) := by decide +kernel
theorem dX0_longestAhead_21 : decode cX0_longestAhead 21 = .ok (.getfield 9, 3) := by decide +kernel
theorem dX0_longestAhead_24 : decode cX0_longestAhead 24 = .ok (.iload 4, 2) := by decide +kernel
theorem dX0_longestAhead_26 : decode cX0_longestAhead 26 = .ok (.invokestatic 35, 3) := by decide +kernel
theorem dX0_longestAhead_29 : decode cX0_longestAhead 29 = .ok (.iload_n 2, 1) := by decide +kernel
theorem dX0_longestAhead_30 : decode cX0_longestAhead 30 = .ok (.if_icmp .gt 17, 3) := by decide +kernel
theorem dX0_longestAhead_33 : decode cX0_longestAhead 33 = .ok (.iload_n 3, 1) := by decide +kernel
theorem dX0_longestAhead_34 : decode cX0_longestAhead 34 = .ok (.aload_n 0, 1) := by decide +kernel
theorem dX0_longestAhead_35 : decode cX0_longestAhead 35 = .ok (.getfield 18, 3) := by decide +kernel
theorem dX0_longestAhead_38 : decode cX0_longestAhead 38 = .ok (.iload 4, 2) := by decide +kernel
theorem dX0_longestAhead_40 : decode cX0_longestAhead 40 = .ok (.invokestatic 35, 3) := by decide +kernel
theorem dX0_longestAhead_43 : decode cX0_longestAhead 43 = .ok (.invokestatic 69, 3) := by decide +kernel
theorem dX0_longestAhead_46 : decode cX0_longestAhead 46 = .ok (.istore_n 3, 1) := by decide +kernel
theorem dX0_longestAhead_47 : decode cX0_longestAhead 47 = .ok (.iinc 4 1, 3) := by decide +kernel
theorem dX0_longestAhead_50 : decode cX0_longestAhead 50 = .ok (.goto (-45), 3) := by decide +kernel
theorem dX0_longestAhead_53 : decode cX0_longestAhead 53 = .ok (.iload_n 3, 1) := by decide +kernel
theorem dX0_longestAhead_54 : decode cX0_longestAhead 54 = .ok (.ireturn, 1) := by decide +kernel
theorem dX0_longestFrom_0 : decode cX0_longestFrom 0 = .ok (.iconst 0, 1) := by decide +kernel
theorem dX0_longestFrom_1 : decode cX0_longestFrom 1 = .ok (.istore_n 3, 1) := by decide +kernel
theorem dX0_longestFrom_2 : decode cX0_longestFrom 2 = .ok (.iload_n 1, 1) := by decide +kernel
theorem dX0_longestFrom_3 : decode cX0_longestFrom 3 = .ok (.istore 4, 2) := by decide +kernel
theorem dX0_longestFrom_5 : decode cX0_longestFrom 5 = .ok (.iload 4, 2) := by decide +kernel
theorem dX0_longestFrom_7 : decode cX0_longestFrom 7 = .ok (.aload_n 0, 1) := by decide +kernel
theorem dX0_longestFrom_8 : decode cX0_longestFrom 8 = .ok (.getfield 27, 3) := by decide +kernel
theorem dX0_longestFrom_11 : decode cX0_longestFrom 11 = .ok (.if_icmp .ge 36, 3) := by decide +kernel
theorem dX0_longestFrom_14 : decode cX0_longestFrom 14 = .ok (.aload_n 0, 1) := by decide +kernel
theorem dX0_longestFrom_15 : decode cX0_longestFrom 15 = .ok (.getfield 9, 3) := by decide +kernel
theorem dX0_longestFrom_18 : decode cX0_longestFrom 18 = .ok (.iload 4, 2) := by decide +kernel
theorem dX0_longestFrom_20 : decode cX0_longestFrom 20 = .ok (.invokestatic 35, 3) := by decide +kernel
theorem dX0_longestFrom_23 : decode cX0_longestFrom 23 = .ok (.iload_n 2, 1) := by decide +kernel
theorem dX0_longestFrom_24 : decode cX0_longestFrom 24 = .ok (.if_icmp .lt 17, 3) := by decide +kernel
theorem dX0_longestFrom_27 : decode cX0_longestFrom 27 = .ok (.iload_n 3, 1) := by decide +kernel
theorem dX0_longestFrom_28 : decode cX0_longestFrom 28 = .ok (.aload_n 0, 1) := by decide +kernel
theorem dX0_longestFrom_29 : decode cX0_longestFrom 29 = .ok (.getfield 21, 3) := by decide +kernel
theorem dX0_longestFrom_32 : decode cX0_longestFrom 32 = .ok (.iload 4, 2) := by decide +kernel
theorem dX0_longestFrom_34 : decode cX0_longestFrom 34 = .ok (.invokestatic 35, 3) := by decide +kernel
theorem dX0_longestFrom_37 : decode cX0_longestFrom 37 = .ok (.invokestatic 69, 3) := by decide +kernel
theorem dX0_longestFrom_40 : decode cX0_longestFrom 40 = .ok (.istore_n 3, 1) := by decide +kernel
theorem dX0_longestFrom_41 : decode cX0_longestFrom 41 = .ok (.iinc 4 1, 3) := by decide +kernel
theorem dX0_longestFrom_44 : decode cX0_longestFrom 44 = .ok (.goto (-39), 3) := by decide +kernel
theorem dX0_longestFrom_47 : decode cX0_longestFrom 47 = .ok (.iload_n 3, 1) := by decide +kernel
theorem dX0_longestFrom_48 : decode cX0_longestFrom 48 = .ok (.ireturn, 1) := by decide +kernel
theorem dX0_pilesOfSheets_0 : decode cX0_pilesOfSheets 0 = .ok (.iconst 0, 1) := by decide +kernel
theorem dX0_pilesOfSheets_1 : decode cX0_pilesOfSheets 1 = .ok (.istore_n 1, 1) := by decide +kernel
theorem dX0_pilesOfSheets_2 : decode cX0_pilesOfSheets 2 = .ok (.iconst 0, 1) := by decide +kernel
theorem dX0_pilesOfSheets_3 : decode cX0_pilesOfSheets 3 = .ok (.istore_n 2, 1) := by decide +kernel
theorem dX0_pilesOfSheets_4 : decode cX0_pilesOfSheets 4 = .ok (.iload_n 2, 1) := by decide +kernel
theorem dX0_pilesOfSheets_5 : decode cX0_pilesOfSheets 5 = .ok (.aload_n 0, 1) := by decide +kernel
theorem dX0_pilesOfSheets_6 : decode cX0_pilesOfSheets 6 = .ok (.getfield 27, 3) := by decide +kernel
theorem dX0_pilesOfSheets_9 : decode cX0_pilesOfSheets 9 = .ok (.if_icmp .ge 65, 3) := by decide +kernel
theorem dX0_pilesOfSheets_12 : decode cX0_pilesOfSheets 12 = .ok (.aload_n 0, 1) := by decide +kernel
theorem dX0_pilesOfSheets_13 : decode cX0_pilesOfSheets 13 = .ok (.getfield 9, 3) := by decide +kernel
theorem dX0_pilesOfSheets_16 : decode cX0_pilesOfSheets 16 = .ok (.iload_n 2, 1) := by decide +kernel
theorem dX0_pilesOfSheets_17 : decode cX0_pilesOfSheets 17 = .ok (.invokestatic 35, 3) := by decide +kernel
theorem dX0_pilesOfSheets_20 : decode cX0_pilesOfSheets 20 = .ok (.istore_n 3, 1) := by decide +kernel
theorem dX0_pilesOfSheets_21 : decode cX0_pilesOfSheets 21 = .ok (.iconst 0, 1) := by decide +kernel
theorem dX0_pilesOfSheets_22 : decode cX0_pilesOfSheets 22 = .ok (.istore 4, 2) := by decide +kernel
theorem dX0_pilesOfSheets_24 : decode cX0_pilesOfSheets 24 = .ok (.iload 4, 2) := by decide +kernel
theorem dX0_pilesOfSheets_26 : decode cX0_pilesOfSheets 26 = .ok (.iload_n 1, 1) := by decide +kernel
theorem dX0_pilesOfSheets_27 : decode cX0_pilesOfSheets 27 = .ok (.if_icmp .ge 22, 3) := by decide +kernel
theorem dX0_pilesOfSheets_30 : decode cX0_pilesOfSheets 30 = .ok (.aload_n 0, 1) := by decide +kernel
theorem dX0_pilesOfSheets_31 : decode cX0_pilesOfSheets 31 = .ok (.getfield 24, 3) := by decide +kernel
theorem dX0_pilesOfSheets_34 : decode cX0_pilesOfSheets 34 = .ok (.iload 4, 2) := by decide +kernel
theorem dX0_pilesOfSheets_36 : decode cX0_pilesOfSheets 36 = .ok (.invokestatic 35, 3) := by decide +kernel
theorem dX0_pilesOfSheets_39 : decode cX0_pilesOfSheets 39 = .ok (.iload_n 3, 1) := by decide +kernel
theorem dX0_pilesOfSheets_40 : decode cX0_pilesOfSheets 40 = .ok (.if_icmp .gt 9, 3) := by decide +kernel
theorem dX0_pilesOfSheets_43 : decode cX0_pilesOfSheets 43 = .ok (.iinc 4 1, 3) := by decide +kernel
theorem dX0_pilesOfSheets_46 : decode cX0_pilesOfSheets 46 = .ok (.goto (-22), 3) := by decide +kernel
theorem dX0_pilesOfSheets_49 : decode cX0_pilesOfSheets 49 = .ok (.aload_n 0, 1) := by decide +kernel
theorem dX0_pilesOfSheets_50 : decode cX0_pilesOfSheets 50 = .ok (.getfield 24, 3) := by decide +kernel
theorem dX0_pilesOfSheets_53 : decode cX0_pilesOfSheets 53 = .ok (.iload 4, 2) := by decide +kernel
theorem dX0_pilesOfSheets_55 : decode cX0_pilesOfSheets 55 = .ok (.iload_n 3, 1) := by decide +kernel
theorem dX0_pilesOfSheets_56 : decode cX0_pilesOfSheets 56 = .ok (.invokestatic 39, 3) := by decide +kernel
theorem dX0_pilesOfSheets_59 : decode cX0_pilesOfSheets 59 = .ok (.iload_n 1, 1) := by decide +kernel
theorem dX0_pilesOfSheets_60 : decode cX0_pilesOfSheets 60 = .ok (.iload 4, 2) := by decide +kernel
theorem dX0_pilesOfSheets_62 : decode cX0_pilesOfSheets 62 = .ok (.iconst 1, 1) := by decide +kernel
theorem dX0_pilesOfSheets_63 : decode cX0_pilesOfSheets 63 = .ok (.iadd, 1) := by decide +kernel
theorem dX0_pilesOfSheets_64 : decode cX0_pilesOfSheets 64 = .ok (.invokestatic 69, 3) := by decide +kernel
theorem dX0_pilesOfSheets_67 : decode cX0_pilesOfSheets 67 = .ok (.istore_n 1, 1) := by decide +kernel
theorem dX0_pilesOfSheets_68 : decode cX0_pilesOfSheets 68 = .ok (.iinc 2 1, 3) := by decide +kernel
theorem dX0_pilesOfSheets_71 : decode cX0_pilesOfSheets 71 = .ok (.goto (-67), 3) := by decide +kernel
theorem dX0_pilesOfSheets_74 : decode cX0_pilesOfSheets 74 = .ok (.iload_n 1, 1) := by decide +kernel
theorem dX0_pilesOfSheets_75 : decode cX0_pilesOfSheets 75 = .ok (.ireturn, 1) := by decide +kernel
theorem dX0_placeThatMakesRowOf_0 : decode cX0_placeThatMakesRowOf 0 = .ok (.aload_n 0, 1) := by decide +kernel
theorem dX0_placeThatMakesRowOf_1 : decode cX0_placeThatMakesRowOf 1 = .ok (.invokevirtual 66, 3) := by decide +kernel
theorem dX0_placeThatMakesRowOf_4 : decode cX0_placeThatMakesRowOf 4 = .ok (.aload_n 0, 1) := by decide +kernel
theorem dX0_placeThatMakesRowOf_5 : decode cX0_placeThatMakesRowOf 5 = .ok (.invokevirtual 81, 3) := by decide +kernel
theorem dX0_placeThatMakesRowOf_8 : decode cX0_placeThatMakesRowOf 8 = .ok (.iconst 0, 1) := by decide +kernel
theorem dX0_placeThatMakesRowOf_9 : decode cX0_placeThatMakesRowOf 9 = .ok (.istore_n 3, 1) := by decide +kernel
theorem dX0_placeThatMakesRowOf_10 : decode cX0_placeThatMakesRowOf 10 = .ok (.iload_n 3, 1) := by decide +kernel
theorem dX0_placeThatMakesRowOf_11 : decode cX0_placeThatMakesRowOf 11 = .ok (.aload_n 0, 1) := by decide +kernel
theorem dX0_placeThatMakesRowOf_12 : decode cX0_placeThatMakesRowOf 12 = .ok (.getfield 27, 3) := by decide +kernel
theorem dX0_placeThatMakesRowOf_15 : decode cX0_placeThatMakesRowOf 15 = .ok (.if_icmp .gt 30, 3) := by decide +kernel
theorem dX0_placeThatMakesRowOf_18 : decode cX0_placeThatMakesRowOf 18 = .ok (.aload_n 0, 1) := by decide +kernel
theorem dX0_placeThatMakesRowOf_19 : decode cX0_placeThatMakesRowOf 19 = .ok (.iload_n 3, 1) := by decide +kernel
theorem dX0_placeThatMakesRowOf_20 : decode cX0_placeThatMakesRowOf 20 = .ok (.iload_n 2, 1) := by decide +kernel
theorem dX0_placeThatMakesRowOf_21 : decode cX0_placeThatMakesRowOf 21 = .ok (.invokevirtual 75, 3) := by decide +kernel
theorem dX0_placeThatMakesRowOf_24 : decode cX0_placeThatMakesRowOf 24 = .ok (.iconst 1, 1) := by decide +kernel
theorem dX0_placeThatMakesRowOf_25 : decode cX0_placeThatMakesRowOf 25 = .ok (.iadd, 1) := by decide +kernel
theorem dX0_placeThatMakesRowOf_26 : decode cX0_placeThatMakesRowOf 26 = .ok (.aload_n 0, 1) := by decide +kernel
theorem dX0_placeThatMakesRowOf_27 : decode cX0_placeThatMakesRowOf 27 = .ok (.iload_n 3, 1) := by decide +kernel
theorem dX0_placeThatMakesRowOf_28 : decode cX0_placeThatMakesRowOf 28 = .ok (.iload_n 2, 1) := by decide +kernel
theorem dX0_placeThatMakesRowOf_29 : decode cX0_placeThatMakesRowOf 29 = .ok (.invokevirtual 78, 3) := by decide +kernel
theorem dX0_placeThatMakesRowOf_32 : decode cX0_placeThatMakesRowOf 32 = .ok (.iadd, 1) := by decide +kernel
theorem dX0_placeThatMakesRowOf_33 : decode cX0_placeThatMakesRowOf 33 = .ok (.iload_n 1, 1) := by decide +kernel
theorem dX0_placeThatMakesRowOf_34 : decode cX0_placeThatMakesRowOf 34 = .ok (.if_icmp .lt 5, 3) := by decide +kernel
theorem dX0_placeThatMakesRowOf_37 : decode cX0_placeThatMakesRowOf 37 = .ok (.iload_n 3, 1) := by decide +kernel
theorem dX0_placeThatMakesRowOf_38 : decode cX0_placeThatMakesRowOf 38 = .ok (.ireturn, 1) := by decide +kernel
theorem dX0_placeThatMakesRowOf_39 : decode cX0_placeThatMakesRowOf 39 = .ok (.iinc 3 1, 3) := by decide +kernel
theorem dX0_placeThatMakesRowOf_42 : decode cX0_placeThatMakesRowOf 42 = .ok (.goto (-32), 3) := by decide +kernel
theorem dX0_placeThatMakesRowOf_45 : decode cX0_placeThatMakesRowOf 45 = .ok (.iconst (-1), 1) := by decide +kernel
theorem dX0_placeThatMakesRowOf_46 : decode cX0_placeThatMakesRowOf 46 = .ok (.ireturn, 1) := by decide +kernel
theorem dX1_init_0 : decode cX1_init 0 = .ok (.aload_n 0, 1) := by decide +kernel
theorem dX1_init_1 : decode cX1_init 1 = .ok (.invokespecial 3, 3) := by decide +kernel
theorem dX1_init_4 : decode cX1_init 4 = .ok (.aload_n 0, 1) := by decide +kernel
theorem dX1_init_5 : decode cX1_init 5 = .ok (.bipush 6, 2) := by decide +kernel
theorem dX1_init_7 : decode cX1_init 7 = .ok (.anewarray 9, 3) := by decide +kernel
theorem dX1_init_10 : decode cX1_init 10 = .ok (.putfield 11, 3) := by decide +kernel
theorem dX1_init_13 : decode cX1_init 13 = .ok (.iconst 0, 1) := by decide +kernel
theorem dX1_init_14 : decode cX1_init 14 = .ok (.istore_n 1, 1) := by decide +kernel
theorem dX1_init_15 : decode cX1_init 15 = .ok (.iload_n 1, 1) := by decide +kernel
theorem dX1_init_16 : decode cX1_init 16 = .ok (.aload_n 0, 1) := by decide +kernel
theorem dX1_init_17 : decode cX1_init 17 = .ok (.getfield 11, 3) := by decide +kernel
theorem dX1_init_20 : decode cX1_init 20 = .ok (.arraylength, 1) := by decide +kernel
theorem dX1_init_21 : decode cX1_init 21 = .ok (.if_icmp .ge 22, 3) := by decide +kernel
theorem dX1_init_24 : decode cX1_init 24 = .ok (.aload_n 0, 1) := by decide +kernel
theorem dX1_init_25 : decode cX1_init 25 = .ok (.getfield 11, 3) := by decide +kernel
theorem dX1_init_28 : decode cX1_init 28 = .ok (.iload_n 1, 1) := by decide +kernel
theorem dX1_init_29 : decode cX1_init 29 = .ok (.new 9, 3) := by decide +kernel
theorem dX1_init_32 : decode cX1_init 32 = .ok (.dup, 1) := by decide +kernel
theorem dX1_init_33 : decode cX1_init 33 = .ok (.invokespecial 17, 3) := by decide +kernel
theorem dX1_init_36 : decode cX1_init 36 = .ok (.aastore, 1) := by decide +kernel
theorem dX1_init_37 : decode cX1_init 37 = .ok (.iinc 1 1, 3) := by decide +kernel
theorem dX1_init_40 : decode cX1_init 40 = .ok (.goto (-25), 3) := by decide +kernel
theorem dX1_init_43 : decode cX1_init 43 = .ok (.aload_n 0, 1) := by decide +kernel
theorem dX1_init_44 : decode cX1_init 44 = .ok (.iconst 0, 1) := by decide +kernel
theorem dX1_init_45 : decode cX1_init 45 = .ok (.putfield 18, 3) := by decide +kernel
theorem dX1_init_48 : decode cX1_init 48 = .ok (.return_, 1) := by decide +kernel
theorem dX1_save_0 : decode cX1_save 0 = .ok (.aload_n 0, 1) := by decide +kernel
theorem dX1_save_1 : decode cX1_save 1 = .ok (.getfield 18, 3) := by decide +kernel
theorem dX1_save_4 : decode cX1_save 4 = .ok (.aload_n 0, 1) := by decide +kernel
theorem dX1_save_5 : decode cX1_save 5 = .ok (.getfield 11, 3) := by decide +kernel
theorem dX1_save_8 : decode cX1_save 8 = .ok (.arraylength, 1) := by decide +kernel
theorem dX1_save_9 : decode cX1_save 9 = .ok (.if_icmp .lt 7, 3) := by decide +kernel
theorem dX1_save_12 : decode cX1_save 12 = .ok (.aload_n 0, 1) := by decide +kernel
theorem dX1_save_13 : decode cX1_save 13 = .ok (.invokevirtual 22, 3) := by decide +kernel
theorem dX1_save_16 : decode cX1_save 16 = .ok (.aload_n 0, 1) := by decide +kernel
theorem dX1_save_17 : decode cX1_save 17 = .ok (.getfield 18, 3) := by decide +kernel
theorem dX1_save_20 : decode cX1_save 20 = .ok (.ifCond .lt 50, 3) := by decide +kernel
theorem dX1_save_23 : decode cX1_save 23 = .ok (.aload_n 0, 1) := by decide +kernel
theorem dX1_save_24 : decode cX1_save 24 = .ok (.getfield 18, 3) := by decide +kernel
theorem dX1_save_27 : decode cX1_save 27 = .ok (.aload_n 0, 1) := by decide +kernel
theorem dX1_save_28 : decode cX1_save 28 = .ok (.getfield 11, 3) := by decide +kernel
theorem dX1_save_31 : decode cX1_save 31 = .ok (.arraylength, 1) := by decide +kernel
theorem dX1_save_32 : decode cX1_save 32 = .ok (.if_icmp .ge 38, 3) := by decide +kernel
theorem dX1_save_35 : decode cX1_save 35 = .ok (.aload_n 0, 1) := by decide +kernel
theorem dX1_save_36 : decode cX1_save 36 = .ok (.getfield 11, 3) := by decide +kernel
theorem dX1_save_39 : decode cX1_save 39 = .ok (.aload_n 0, 1) := by decide +kernel
theorem dX1_save_40 : decode cX1_save 40 = .ok (.getfield 18, 3) := by decide +kernel
theorem dX1_save_43 : decode cX1_save 43 = .ok (.aaload, 1) := by decide +kernel
theorem dX1_save_44 : decode cX1_save 44 = .ok (.ifnull 26, 3) := by decide +kernel
theorem dX1_save_47 : decode cX1_save 47 = .ok (.aload_n 0, 1) := by decide +kernel
theorem dX1_save_48 : decode cX1_save 48 = .ok (.getfield 11, 3) := by decide +kernel
theorem dX1_save_51 : decode cX1_save 51 = .ok (.aload_n 0, 1) := by decide +kernel
theorem dX1_save_52 : decode cX1_save 52 = .ok (.getfield 18, 3) := by decide +kernel
theorem dX1_save_55 : decode cX1_save 55 = .ok (.aaload, 1) := by decide +kernel
theorem dX1_save_56 : decode cX1_save 56 = .ok (.aload_n 1, 1) := by decide +kernel
theorem dX1_save_57 : decode cX1_save 57 = .ok (.invokevirtual 25, 3) := by decide +kernel
theorem dX1_save_60 : decode cX1_save 60 = .ok (.aload_n 0, 1) := by decide +kernel
theorem dX1_save_61 : decode cX1_save 61 = .ok (.dup, 1) := by decide +kernel
theorem dX1_save_62 : decode cX1_save 62 = .ok (.getfield 18, 3) := by decide +kernel
theorem dX1_save_65 : decode cX1_save 65 = .ok (.iconst 1, 1) := by decide +kernel
theorem dX1_save_66 : decode cX1_save 66 = .ok (.iadd, 1) := by decide +kernel
theorem dX1_save_67 : decode cX1_save 67 = .ok (.putfield 18, 3) := by decide +kernel
theorem dX1_save_70 : decode cX1_save 70 = .ok (.return_, 1) := by decide +kernel
theorem dX1_dropOldest_0 : decode cX1_dropOldest 0 = .ok (.aload_n 0, 1) := by decide +kernel
theorem dX1_dropOldest_1 : decode cX1_dropOldest 1 = .ok (.getfield 11, 3) := by decide +kernel
theorem dX1_dropOldest_4 : decode cX1_dropOldest 4 = .ok (.arraylength, 1) := by decide +kernel
theorem dX1_dropOldest_5 : decode cX1_dropOldest 5 = .ok (.ifCond .le 12, 3) := by decide +kernel
theorem dX1_dropOldest_8 : decode cX1_dropOldest 8 = .ok (.aload_n 0, 1) := by decide +kernel
theorem dX1_dropOldest_9 : decode cX1_dropOldest 9 = .ok (.getfield 11, 3) := by decide +kernel
theorem dX1_dropOldest_12 : decode cX1_dropOldest 12 = .ok (.iconst 0, 1) := by decide +kernel
theorem dX1_dropOldest_13 : decode cX1_dropOldest 13 = .ok (.aaload, 1) := by decide +kernel
theorem dX1_dropOldest_14 : decode cX1_dropOldest 14 = .ok (.goto 4, 3) := by decide +kernel
theorem dX1_dropOldest_17 : decode cX1_dropOldest 17 = .ok (.aconst_null, 1) := by decide +kernel
theorem dX1_dropOldest_18 : decode cX1_dropOldest 18 = .ok (.astore_n 1, 1) := by decide +kernel
theorem dX1_dropOldest_19 : decode cX1_dropOldest 19 = .ok (.iconst 1, 1) := by decide +kernel
theorem dX1_dropOldest_20 : decode cX1_dropOldest 20 = .ok (.istore_n 2, 1) := by decide +kernel
theorem dX1_dropOldest_21 : decode cX1_dropOldest 21 = .ok (.iload_n 2, 1) := by decide +kernel
theorem dX1_dropOldest_22 : decode cX1_dropOldest 22 = .ok (.aload_n 0, 1) := by decide +kernel
theorem dX1_dropOldest_23 : decode cX1_dropOldest 23 = .ok (.getfield 11, 3) := by decide +kernel
theorem dX1_dropOldest_26 : decode cX1_dropOldest 26 = .ok (.arraylength, 1) := by decide +kernel
theorem dX1_dropOldest_27 : decode cX1_dropOldest 27 = .ok (.if_icmp .ge 30, 3) := by decide +kernel
theorem dX1_dropOldest_30 : decode cX1_dropOldest 30 = .ok (.aload_n 0, 1) := by decide +kernel
theorem dX1_dropOldest_31 : decode cX1_dropOldest 31 = .ok (.getfield 11, 3) := by decide +kernel
theorem dX1_dropOldest_34 : decode cX1_dropOldest 34 = .ok (.iload_n 2, 1) := by decide +kernel
theorem dX1_dropOldest_35 : decode cX1_dropOldest 35 = .ok (.iconst 1, 1) := by decide +kernel
theorem dX1_dropOldest_36 : decode cX1_dropOldest 36 = .ok (.isub, 1) := by decide +kernel
theorem dX1_dropOldest_37 : decode cX1_dropOldest 37 = .ok (.aload_n 0, 1) := by decide +kernel
theorem dX1_dropOldest_38 : decode cX1_dropOldest 38 = .ok (.getfield 11, 3) := by decide +kernel
theorem dX1_dropOldest_41 : decode cX1_dropOldest 41 = .ok (.iload_n 2, 1) := by decide +kernel
theorem dX1_dropOldest_42 : decode cX1_dropOldest 42 = .ok (.aaload, 1) := by decide +kernel
theorem dX1_dropOldest_43 : decode cX1_dropOldest 43 = .ok (.aastore, 1) := by decide +kernel
theorem dX1_dropOldest_44 : decode cX1_dropOldest 44 = .ok (.aload_n 0, 1) := by decide +kernel
theorem dX1_dropOldest_45 : decode cX1_dropOldest 45 = .ok (.getfield 11, 3) := by decide +kernel
theorem dX1_dropOldest_48 : decode cX1_dropOldest 48 = .ok (.iload_n 2, 1) := by decide +kernel
theorem dX1_dropOldest_49 : decode cX1_dropOldest 49 = .ok (.aload_n 1, 1) := by decide +kernel
theorem dX1_dropOldest_50 : decode cX1_dropOldest 50 = .ok (.aastore, 1) := by decide +kernel
theorem dX1_dropOldest_51 : decode cX1_dropOldest 51 = .ok (.iinc 2 1, 3) := by decide +kernel
theorem dX1_dropOldest_54 : decode cX1_dropOldest 54 = .ok (.goto (-33), 3) := by decide +kernel
theorem dX1_dropOldest_57 : decode cX1_dropOldest 57 = .ok (.aload_n 0, 1) := by decide +kernel
theorem dX1_dropOldest_58 : decode cX1_dropOldest 58 = .ok (.dup, 1) := by decide +kernel
theorem dX1_dropOldest_59 : decode cX1_dropOldest 59 = .ok (.getfield 18, 3) := by decide +kernel
theorem dX1_dropOldest_62 : decode cX1_dropOldest 62 = .ok (.iconst 1, 1) := by decide +kernel
theorem dX1_dropOldest_63 : decode cX1_dropOldest 63 = .ok (.isub, 1) := by decide +kernel
theorem dX1_dropOldest_64 : decode cX1_dropOldest 64 = .ok (.putfield 18, 3) := by decide +kernel
theorem dX1_dropOldest_67 : decode cX1_dropOldest 67 = .ok (.return_, 1) := by decide +kernel
theorem dX1_restore_0 : decode cX1_restore 0 = .ok (.aload_n 1, 1) := by decide +kernel
theorem dX1_restore_1 : decode cX1_restore 1 = .ok (.ifnull 45, 3) := by decide +kernel
theorem dX1_restore_4 : decode cX1_restore 4 = .ok (.aload_n 0, 1) := by decide +kernel
theorem dX1_restore_5 : decode cX1_restore 5 = .ok (.getfield 18, 3) := by decide +kernel
theorem dX1_restore_8 : decode cX1_restore 8 = .ok (.ifCond .le 38, 3) := by decide +kernel
theorem dX1_restore_11 : decode cX1_restore 11 = .ok (.aload_n 0, 1) := by decide +kernel
theorem dX1_restore_12 : decode cX1_restore 12 = .ok (.getfield 18, 3) := by decide +kernel
theorem dX1_restore_15 : decode cX1_restore 15 = .ok (.aload_n 0, 1) := by decide +kernel
theorem dX1_restore_16 : decode cX1_restore 16 = .ok (.getfield 11, 3) := by decide +kernel
theorem dX1_restore_19 : decode cX1_restore 19 = .ok (.arraylength, 1) := by decide +kernel
theorem dX1_restore_20 : decode cX1_restore 20 = .ok (.if_icmp .gt 26, 3) := by decide +kernel
theorem dX1_restore_23 : decode cX1_restore 23 = .ok (.aload_n 0, 1) := by decide +kernel
theorem dX1_restore_24 : decode cX1_restore 24 = .ok (.dup, 1) := by decide +kernel
theorem dX1_restore_25 : decode cX1_restore 25 = .ok (.getfield 18, 3) := by decide +kernel
theorem dX1_restore_28 : decode cX1_restore 28 = .ok (.iconst 1, 1) := by decide +kernel
theorem dX1_restore_29 : decode cX1_restore 29 = .ok (.isub, 1) := by decide +kernel
theorem dX1_restore_30 : decode cX1_restore 30 = .ok (.putfield 18, 3) := by decide +kernel
theorem dX1_restore_33 : decode cX1_restore 33 = .ok (.aload_n 1, 1) := by decide +kernel
theorem dX1_restore_34 : decode cX1_restore 34 = .ok (.aload_n 0, 1) := by decide +kernel
theorem dX1_restore_35 : decode cX1_restore 35 = .ok (.getfield 11, 3) := by decide +kernel
theorem dX1_restore_38 : decode cX1_restore 38 = .ok (.aload_n 0, 1) := by decide +kernel
theorem dX1_restore_39 : decode cX1_restore 39 = .ok (.getfield 18, 3) := by decide +kernel
theorem dX1_restore_42 : decode cX1_restore 42 = .ok (.aaload, 1) := by decide +kernel
theorem dX1_restore_43 : decode cX1_restore 43 = .ok (.invokevirtual 25, 3) := by decide +kernel
theorem dX1_restore_46 : decode cX1_restore 46 = .ok (.return_, 1) := by decide +kernel
theorem dX2_init_0 : decode cX2_init 0 = .ok (.aload_n 0, 1) := by decide +kernel
theorem dX2_init_1 : decode cX2_init 1 = .ok (.invokespecial 3, 3) := by decide +kernel
theorem dX2_init_4 : decode cX2_init 4 = .ok (.return_, 1) := by decide +kernel
theorem dX2_start_0 : decode cX2_start 0 = .ok (.aload_n 0, 1) := by decide +kernel
theorem dX2_start_1 : decode cX2_start 1 = .ok (.bipush 32, 2) := by decide +kernel
theorem dX2_start_3 : decode cX2_start 3 = .ok (.putfield 9, 3) := by decide +kernel
theorem dX2_start_6 : decode cX2_start 6 = .ok (.aload_n 0, 1) := by decide +kernel
theorem dX2_start_7 : decode cX2_start 7 = .ok (.iconst 0, 1) := by decide +kernel
theorem dX2_start_8 : decode cX2_start 8 = .ok (.putfield 15, 3) := by decide +kernel
theorem dX2_start_11 : decode cX2_start 11 = .ok (.aload_n 0, 1) := by decide +kernel
theorem dX2_start_12 : decode cX2_start 12 = .ok (.iconst 0, 1) := by decide +kernel
theorem dX2_start_13 : decode cX2_start 13 = .ok (.putfield 19, 3) := by decide +kernel
theorem dX2_start_16 : decode cX2_start 16 = .ok (.aload_n 0, 1) := by decide +kernel
theorem dX2_start_17 : decode cX2_start 17 = .ok (.iconst 0, 1) := by decide +kernel
theorem dX2_start_18 : decode cX2_start 18 = .ok (.putfield 22, 3) := by decide +kernel
theorem dX2_start_21 : decode cX2_start 21 = .ok (.aload_n 0, 1) := by decide +kernel
theorem dX2_start_22 : decode cX2_start 22 = .ok (.iconst 0, 1) := by decide +kernel
theorem dX2_start_23 : decode cX2_start 23 = .ok (.putfield 25, 3) := by decide +kernel
theorem dX2_start_26 : decode cX2_start 26 = .ok (.return_, 1) := by decide +kernel
theorem dX2_accepts_0 : decode cX2_accepts 0 = .ok (.aload_n 0, 1) := by decide +kernel
theorem dX2_accepts_1 : decode cX2_accepts 1 = .ok (.getfield 22, 3) := by decide +kernel
theorem dX2_accepts_4 : decode cX2_accepts 4 = .ok (.tableswitch 70 0 2 #[28, 34, 40], 28) := by decide +kernel
theorem dX2_accepts_32 : decode cX2_accepts 32 = .ok (.aload_n 0, 1) := by decide +kernel
theorem dX2_accepts_33 : decode cX2_accepts 33 = .ok (.iload_n 1, 1) := by decide +kernel
theorem dX2_accepts_34 : decode cX2_accepts 34 = .ok (.invokevirtual 29, 3) := by decide +kernel
theorem dX2_accepts_37 : decode cX2_accepts 37 = .ok (.ireturn, 1) := by decide +kernel
theorem dX2_accepts_38 : decode cX2_accepts 38 = .ok (.aload_n 0, 1) := by decide +kernel
theorem dX2_accepts_39 : decode cX2_accepts 39 = .ok (.iload_n 1, 1) := by decide +kernel
theorem dX2_accepts_40 : decode cX2_accepts 40 = .ok (.invokevirtual 33, 3) := by decide +kernel
theorem dX2_accepts_43 : decode cX2_accepts 43 = .ok (.ireturn, 1) := by decide +kernel
theorem dX2_accepts_44 : decode cX2_accepts 44 = .ok (.aload_n 0, 1) := by decide +kernel
theorem dX2_accepts_45 : decode cX2_accepts 45 = .ok (.iload_n 1, 1) := by decide +kernel
theorem dX2_accepts_46 : decode cX2_accepts 46 = .ok (.invokevirtual 36, 3) := by decide +kernel
theorem dX2_accepts_49 : decode cX2_accepts 49 = .ok (.ifCond .ne 19, 3) := by decide +kernel
theorem dX2_accepts_52 : decode cX2_accepts 52 = .ok (.aload_n 0, 1) := by decide +kernel
theorem dX2_accepts_53 : decode cX2_accepts 53 = .ok (.iload_n 1, 1) := by decide +kernel
theorem dX2_accepts_54 : decode cX2_accepts 54 = .ok (.invokevirtual 39, 3) := by decide +kernel
theorem dX2_accepts_57 : decode cX2_accepts 57 = .ok (.ifCond .ne 11, 3) := by decide +kernel
theorem dX2_accepts_60 : decode cX2_accepts 60 = .ok (.aload_n 0, 1) := by decide +kernel
theorem dX2_accepts_61 : decode cX2_accepts 61 = .ok (.iload_n 1, 1) := by decide +kernel
theorem dX2_accepts_62 : decode cX2_accepts 62 = .ok (.invokevirtual 42, 3) := by decide +kernel
theorem dX2_accepts_65 : decode cX2_accepts 65 = .ok (.ifCond .eq 7, 3) := by decide +kernel
theorem dX2_accepts_68 : decode cX2_accepts 68 = .ok (.iconst 1, 1) := by decide +kernel
theorem dX2_accepts_69 : decode cX2_accepts 69 = .ok (.goto 4, 3) := by decide +kernel
theorem dX2_accepts_72 : decode cX2_accepts 72 = .ok (.iconst 0, 1) := by decide +kernel
theorem dX2_accepts_73 : decode cX2_accepts 73 = .ok (.ireturn, 1) := by decide +kernel
theorem dX2_accepts_74 : decode cX2_accepts 74 = .ok (.aload_n 0, 1) := by decide +kernel
theorem dX2_accepts_75 : decode cX2_accepts 75 = .ok (.iload_n 1, 1) := by decide +kernel
theorem dX2_accepts_76 : decode cX2_accepts 76 = .ok (.invokevirtual 42, 3) := by decide +kernel
theorem dX2_accepts_79 : decode cX2_accepts 79 = .ok (.ireturn, 1) := by decide +kernel
theorem dX2_isComplete_0 : decode cX2_isComplete 0 = .ok (.aload_n 0, 1) := by decide +kernel
theorem dX2_isComplete_1 : decode cX2_isComplete 1 = .ok (.getfield 22, 3) := by decide +kernel
theorem dX2_isComplete_4 : decode cX2_isComplete 4 = .ok (.iconst 3, 1) := by decide +kernel
theorem dX2_isComplete_5 : decode cX2_isComplete 5 = .ok (.if_icmp .eq 18, 3) := by decide +kernel
theorem dX2_isComplete_8 : decode cX2_isComplete 8 = .ok (.aload_n 0, 1) := by decide +kernel
theorem dX2_isComplete_9 : decode cX2_isComplete 9 = .ok (.getfield 22, 3) := by decide +kernel
theorem dX2_isComplete_12 : decode cX2_isComplete 12 = .ok (.iconst 2, 1) := by decide +kernel
theorem dX2_isComplete_13 : decode cX2_isComplete 13 = .ok (.if_icmp .ne 14, 3) := by decide +kernel
theorem dX2_isComplete_16 : decode cX2_isComplete 16 = .ok (.aload_n 0, 1) := by decide +kernel
theorem dX2_isComplete_17 : decode cX2_isComplete 17 = .ok (.invokevirtual 45, 3) := by decide +kernel
theorem dX2_isComplete_20 : decode cX2_isComplete 20 = .ok (.ifCond .ne 7, 3) := by decide +kernel
theorem dX2_isComplete_23 : decode cX2_isComplete 23 = .ok (.iconst 1, 1) := by decide +kernel
theorem dX2_isComplete_24 : decode cX2_isComplete 24 = .ok (.goto 4, 3) := by decide +kernel
theorem dX2_isComplete_27 : decode cX2_isComplete 27 = .ok (.iconst 0, 1) := by decide +kernel
theorem dX2_isComplete_28 : decode cX2_isComplete 28 = .ok (.ireturn, 1) := by decide +kernel
theorem dX2_arrowIsDue_0 : decode cX2_arrowIsDue 0 = .ok (.aload_n 0, 1) := by decide +kernel
theorem dX2_arrowIsDue_1 : decode cX2_arrowIsDue 1 = .ok (.getfield 9, 3) := by decide +kernel
theorem dX2_arrowIsDue_4 : decode cX2_arrowIsDue 4 = .ok (.bipush 109, 2) := by decide +kernel
theorem dX2_arrowIsDue_6 : decode cX2_arrowIsDue 6 = .ok (.if_icmp .ne 14, 3) := by decide +kernel
theorem dX2_arrowIsDue_9 : decode cX2_arrowIsDue 9 = .ok (.aload_n 0, 1) := by decide +kernel
theorem dX2_arrowIsDue_10 : decode cX2_arrowIsDue 10 = .ok (.getfield 25, 3) := by decide +kernel
theorem dX2_arrowIsDue_13 : decode cX2_arrowIsDue 13 = .ok (.ifCond .ne 7, 3) := by decide +kernel
theorem dX2_arrowIsDue_16 : decode cX2_arrowIsDue 16 = .ok (.iconst 1, 1) := by decide +kernel
theorem dX2_arrowIsDue_17 : decode cX2_arrowIsDue 17 = .ok (.goto 4, 3) := by decide +kernel
theorem dX2_arrowIsDue_20 : decode cX2_arrowIsDue 20 = .ok (.iconst 0, 1) := by decide +kernel
theorem dX2_arrowIsDue_21 : decode cX2_arrowIsDue 21 = .ok (.ireturn, 1) := by decide +kernel
theorem dX2_acceptsLetter_0 : decode cX2_acceptsLetter 0 = .ok (.iload_n 1, 1) := by decide +kernel
theorem dX2_acceptsLetter_1 : decode cX2_acceptsLetter 1 = .ok (.bipush 103, 2) := by decide +kernel
theorem dX2_acceptsLetter_3 : decode cX2_acceptsLetter 3 = .ok (.if_icmp .eq 29, 3) := by decide +kernel
theorem dX2_acceptsLetter_6 : decode cX2_acceptsLetter 6 = .ok (.iload_n 1, 1) := by decide +kernel
theorem dX2_acceptsLetter_7 : decode cX2_acceptsLetter 7 = .ok (.bipush 112, 2) := by decide +kernel
theorem dX2_acceptsLetter_9 : decode cX2_acceptsLetter 9 = .ok (.if_icmp .eq 23, 3) := by decide +kernel
theorem dX2_acceptsLetter_12 : decode cX2_acceptsLetter 12 = .ok (.iload_n 1, 1) := by decide +kernel
theorem dX2_acceptsLetter_13 : decode cX2_acceptsLetter 13 = .ok (.bipush 102, 2) := by decide +kernel
theorem dX2_acceptsLetter_15 : decode cX2_acceptsLetter 15 = .ok (.if_icmp .eq 17, 3) := by decide +kernel
theorem dX2_acceptsLetter_18 : decode cX2_acceptsLetter 18 = .ok (.iload_n 1, 1) := by decide +kernel
theorem dX2_acceptsLetter_19 : decode cX2_acceptsLetter 19 = .ok (.bipush 109, 2) := by decide +kernel
theorem dX2_acceptsLetter_21 : decode cX2_acceptsLetter 21 = .ok (.if_icmp .eq 11, 3) := by decide +kernel
theorem dX2_acceptsLetter_24 : decode cX2_acceptsLetter 24 = .ok (.iload_n 1, 1) := by decide +kernel
theorem dX2_acceptsLetter_25 : decode cX2_acceptsLetter 25 = .ok (.bipush 98, 2) := by decide +kernel
theorem dX2_acceptsLetter_27 : decode cX2_acceptsLetter 27 = .ok (.if_icmp .eq 5, 3) := by decide +kernel
theorem dX2_acceptsLetter_30 : decode cX2_acceptsLetter 30 = .ok (.iconst 0, 1) := by decide +kernel
theorem dX2_acceptsLetter_31 : decode cX2_acceptsLetter 31 = .ok (.ireturn, 1) := by decide +kernel
theorem dX2_acceptsLetter_32 : decode cX2_acceptsLetter 32 = .ok (.aload_n 0, 1) := by decide +kernel
theorem dX2_acceptsLetter_33 : decode cX2_acceptsLetter 33 = .ok (.iload_n 1, 1) := by decide +kernel
theorem dX2_acceptsLetter_34 : decode cX2_acceptsLetter 34 = .ok (.i2c, 1) := by decide +kernel
theorem dX2_acceptsLetter_35 : decode cX2_acceptsLetter 35 = .ok (.putfield 9, 3) := by decide +kernel
theorem dX2_acceptsLetter_38 : decode cX2_acceptsLetter 38 = .ok (.aload_n 0, 1) := by decide +kernel
theorem dX2_acceptsLetter_39 : decode cX2_acceptsLetter 39 = .ok (.iconst 0, 1) := by decide +kernel
theorem dX2_acceptsLetter_40 : decode cX2_acceptsLetter 40 = .ok (.putfield 25, 3) := by decide +kernel
theorem dX2_acceptsLetter_43 : decode cX2_acceptsLetter 43 = .ok (.aload_n 0, 1) := by decide +kernel
theorem dX2_acceptsLetter_44 : decode cX2_acceptsLetter 44 = .ok (.iload_n 1, 1) := by decide +kernel
theorem dX2_acceptsLetter_45 : decode cX2_acceptsLetter 45 = .ok (.bipush 98, 2) := by decide +kernel
theorem dX2_acceptsLetter_47 : decode cX2_acceptsLetter 47 = .ok (.if_icmp .ne 7, 3) := by decide +kernel
theorem dX2_acceptsLetter_50 : decode cX2_acceptsLetter 50 = .ok (.iconst 3, 1) := by decide +kernel
theorem dX2_acceptsLetter_51 : decode cX2_acceptsLetter 51 = .ok (.goto 4, 3) := by decide +kernel
theorem dX2_acceptsLetter_54 : decode cX2_acceptsLetter 54 = .ok (.iconst 1, 1) := by decide +kernel
theorem dX2_acceptsLetter_55 : decode cX2_acceptsLetter 55 = .ok (.putfield 22, 3) := by decide +kernel
theorem dX2_acceptsLetter_58 : decode cX2_acceptsLetter 58 = .ok (.iconst 1, 1) := by decide +kernel
theorem dX2_acceptsLetter_59 : decode cX2_acceptsLetter 59 = .ok (.ireturn, 1) := by decide +kernel
theorem dX2_acceptsFirstDigit_0 : decode cX2_acceptsFirstDigit 0 = .ok (.iload_n 1, 1) := by decide +kernel
theorem dX2_acceptsFirstDigit_1 : decode cX2_acceptsFirstDigit 1 = .ok (.bipush 48, 2) := by decide +kernel
theorem dX2_acceptsFirstDigit_3 : decode cX2_acceptsFirstDigit 3 = .ok (.if_icmp .lt 9, 3) := by decide +kernel
theorem dX2_acceptsFirstDigit_6 : decode cX2_acceptsFirstDigit 6 = .ok (.iload_n 1, 1) := by decide +kernel
theorem dX2_acceptsFirstDigit_7 : decode cX2_acceptsFirstDigit 7 = .ok (.bipush 57, 2) := by decide +kernel
theorem dX2_acceptsFirstDigit_9 : decode cX2_acceptsFirstDigit 9 = .ok (.if_icmp .le 5, 3) := by decide +kernel
theorem dX2_acceptsFirstDigit_12 : decode cX2_acceptsFirstDigit 12 = .ok (.iconst 0, 1) := by decide +kernel
theorem dX2_acceptsFirstDigit_13 : decode cX2_acceptsFirstDigit 13 = .ok (.ireturn, 1) := by decide +kernel
theorem dX2_acceptsFirstDigit_14 : decode cX2_acceptsFirstDigit 14 = .ok (.aload_n 0, 1) := by decide +kernel
theorem dX2_acceptsFirstDigit_15 : decode cX2_acceptsFirstDigit 15 = .ok (.iload_n 1, 1) := by decide +kernel
theorem dX2_acceptsFirstDigit_16 : decode cX2_acceptsFirstDigit 16 = .ok (.bipush 48, 2) := by decide +kernel
theorem dX2_acceptsFirstDigit_18 : decode cX2_acceptsFirstDigit 18 = .ok (.isub, 1) := by decide +kernel
theorem dX2_acceptsFirstDigit_19 : decode cX2_acceptsFirstDigit 19 = .ok (.putfield 19, 3) := by decide +kernel
theorem dX2_acceptsFirstDigit_22 : decode cX2_acceptsFirstDigit 22 = .ok (.aload_n 0, 1) := by decide +kernel
theorem dX2_acceptsFirstDigit_23 : decode cX2_acceptsFirstDigit 23 = .ok (.iconst 2, 1) := by decide +kernel
theorem dX2_acceptsFirstDigit_24 : decode cX2_acceptsFirstDigit 24 = .ok (.putfield 22, 3) := by decide +kernel
theorem dX2_acceptsFirstDigit_27 : decode cX2_acceptsFirstDigit 27 = .ok (.iconst 1, 1) := by decide +kernel
theorem dX2_acceptsFirstDigit_28 : decode cX2_acceptsFirstDigit 28 = .ok (.ireturn, 1) := by decide +kernel
theorem dX2_acceptsSecondDigit_0 : decode cX2_acceptsSecondDigit 0 = .ok (.iload_n 1, 1) := by decide +kernel
theorem dX2_acceptsSecondDigit_1 : decode cX2_acceptsSecondDigit 1 = .ok (.bipush 48, 2) := by decide +kernel
theorem dX2_acceptsSecondDigit_3 : decode cX2_acceptsSecondDigit 3 = .ok (.if_icmp .lt 9, 3) := by decide +kernel
theorem dX2_acceptsSecondDigit_6 : decode cX2_acceptsSecondDigit 6 = .ok (.iload_n 1, 1) := by decide +kernel
theorem dX2_acceptsSecondDigit_7 : decode cX2_acceptsSecondDigit 7 = .ok (.bipush 57, 2) := by decide +kernel
theorem dX2_acceptsSecondDigit_9 : decode cX2_acceptsSecondDigit 9 = .ok (.if_icmp .le 5, 3) := by decide +kernel
theorem dX2_acceptsSecondDigit_12 : decode cX2_acceptsSecondDigit 12 = .ok (.iconst 0, 1) := by decide +kernel
theorem dX2_acceptsSecondDigit_13 : decode cX2_acceptsSecondDigit 13 = .ok (.ireturn, 1) := by decide +kernel
theorem dX2_acceptsSecondDigit_14 : decode cX2_acceptsSecondDigit 14 = .ok (.aload_n 0, 1) := by decide +kernel
theorem dX2_acceptsSecondDigit_15 : decode cX2_acceptsSecondDigit 15 = .ok (.getfield 9, 3) := by decide +kernel
theorem dX2_acceptsSecondDigit_18 : decode cX2_acceptsSecondDigit 18 = .ok (.bipush 103, 2) := by decide +kernel
theorem dX2_acceptsSecondDigit_20 : decode cX2_acceptsSecondDigit 20 = .ok (.if_icmp .ne 8, 3) := by decide +kernel
theorem dX2_acceptsSecondDigit_23 : decode cX2_acceptsSecondDigit 23 = .ok (.bipush 15, 2) := by decide +kernel
theorem dX2_acceptsSecondDigit_25 : decode cX2_acceptsSecondDigit 25 = .ok (.goto 5, 3) := by decide +kernel
theorem dX2_acceptsSecondDigit_28 : decode cX2_acceptsSecondDigit 28 = .ok (.bipush 19, 2) := by decide +kernel
theorem dX2_acceptsSecondDigit_30 : decode cX2_acceptsSecondDigit 30 = .ok (.istore_n 2, 1) := by decide +kernel
theorem dX2_acceptsSecondDigit_31 : decode cX2_acceptsSecondDigit 31 = .ok (.bipush 10, 2) := by decide +kernel
theorem dX2_acceptsSecondDigit_33 : decode cX2_acceptsSecondDigit 33 = .ok (.aload_n 0, 1) := by decide +kernel
theorem dX2_acceptsSecondDigit_34 : decode cX2_acceptsSecondDigit 34 = .ok (.getfield 19, 3) := by decide +kernel
theorem dX2_acceptsSecondDigit_37 : decode cX2_acceptsSecondDigit 37 = .ok (.imul, 1) := by decide +kernel
theorem dX2_acceptsSecondDigit_38 : decode cX2_acceptsSecondDigit 38 = .ok (.iload_n 1, 1) := by decide +kernel
theorem dX2_acceptsSecondDigit_39 : decode cX2_acceptsSecondDigit 39 = .ok (.iadd, 1) := by decide +kernel
theorem dX2_acceptsSecondDigit_40 : decode cX2_acceptsSecondDigit 40 = .ok (.bipush 48, 2) := by decide +kernel
theorem dX2_acceptsSecondDigit_42 : decode cX2_acceptsSecondDigit 42 = .ok (.isub, 1) := by decide +kernel
theorem dX2_acceptsSecondDigit_43 : decode cX2_acceptsSecondDigit 43 = .ok (.istore_n 3, 1) := by decide +kernel
theorem dX2_acceptsSecondDigit_44 : decode cX2_acceptsSecondDigit 44 = .ok (.aload_n 0, 1) := by decide +kernel
theorem dX2_acceptsSecondDigit_45 : decode cX2_acceptsSecondDigit 45 = .ok (.getfield 19, 3) := by decide +kernel
theorem dX2_acceptsSecondDigit_48 : decode cX2_acceptsSecondDigit 48 = .ok (.ifCond .eq 8, 3) := by decide +kernel
theorem dX2_acceptsSecondDigit_51 : decode cX2_acceptsSecondDigit 51 = .ok (.iload_n 3, 1) := by decide +kernel
theorem dX2_acceptsSecondDigit_52 : decode cX2_acceptsSecondDigit 52 = .ok (.iload_n 2, 1) := by decide +kernel
theorem dX2_acceptsSecondDigit_53 : decode cX2_acceptsSecondDigit 53 = .ok (.if_icmp .le 5, 3) := by decide +kernel
theorem dX2_acceptsSecondDigit_56 : decode cX2_acceptsSecondDigit 56 = .ok (.iconst 0, 1) := by decide +kernel
theorem dX2_acceptsSecondDigit_57 : decode cX2_acceptsSecondDigit 57 = .ok (.ireturn, 1) := by decide +kernel
theorem dX2_acceptsSecondDigit_58 : decode cX2_acceptsSecondDigit 58 = .ok (.aload_n 0, 1) := by decide +kernel
theorem dX2_acceptsSecondDigit_59 : decode cX2_acceptsSecondDigit 59 = .ok (.iload_n 3, 1) := by decide +kernel
theorem dX2_acceptsSecondDigit_60 : decode cX2_acceptsSecondDigit 60 = .ok (.putfield 19, 3) := by decide +kernel
theorem dX2_acceptsSecondDigit_63 : decode cX2_acceptsSecondDigit 63 = .ok (.iconst 1, 1) := by decide +kernel
theorem dX2_acceptsSecondDigit_64 : decode cX2_acceptsSecondDigit 64 = .ok (.ireturn, 1) := by decide +kernel
theorem dX2_acceptsArrow_0 : decode cX2_acceptsArrow 0 = .ok (.iload_n 1, 1) := by decide +kernel
theorem dX2_acceptsArrow_1 : decode cX2_acceptsArrow 1 = .ok (.bipush 62, 2) := by decide +kernel
theorem dX2_acceptsArrow_3 : decode cX2_acceptsArrow 3 = .ok (.if_icmp .ne 10, 3) := by decide +kernel
theorem dX2_acceptsArrow_6 : decode cX2_acceptsArrow 6 = .ok (.aload_n 0, 1) := by decide +kernel
theorem dX2_acceptsArrow_7 : decode cX2_acceptsArrow 7 = .ok (.invokevirtual 45, 3) := by decide +kernel
theorem dX2_acceptsArrow_10 : decode cX2_acceptsArrow 10 = .ok (.ifCond .ne 5, 3) := by decide +kernel
theorem dX2_acceptsArrow_13 : decode cX2_acceptsArrow 13 = .ok (.iconst 0, 1) := by decide +kernel
theorem dX2_acceptsArrow_14 : decode cX2_acceptsArrow 14 = .ok (.ireturn, 1) := by decide +kernel
theorem dX2_acceptsArrow_15 : decode cX2_acceptsArrow 15 = .ok (.aload_n 0, 1) := by decide +kernel
theorem dX2_acceptsArrow_16 : decode cX2_acceptsArrow 16 = .ok (.aload_n 0, 1) := by decide +kernel
theorem dX2_acceptsArrow_17 : decode cX2_acceptsArrow 17 = .ok (.getfield 19, 3) := by decide +kernel
theorem dX2_acceptsArrow_20 : decode cX2_acceptsArrow 20 = .ok (.putfield 15, 3) := by decide +kernel
theorem dX2_acceptsArrow_23 : decode cX2_acceptsArrow 23 = .ok (.aload_n 0, 1) := by decide +kernel
theorem dX2_acceptsArrow_24 : decode cX2_acceptsArrow 24 = .ok (.iconst 1, 1) := by decide +kernel
theorem dX2_acceptsArrow_25 : decode cX2_acceptsArrow 25 = .ok (.putfield 25, 3) := by decide +kernel
theorem dX2_acceptsArrow_28 : decode cX2_acceptsArrow 28 = .ok (.aload_n 0, 1) := by decide +kernel
theorem dX2_acceptsArrow_29 : decode cX2_acceptsArrow 29 = .ok (.iconst 1, 1) := by decide +kernel
theorem dX2_acceptsArrow_30 : decode cX2_acceptsArrow 30 = .ok (.putfield 22, 3) := by decide +kernel
theorem dX2_acceptsArrow_33 : decode cX2_acceptsArrow 33 = .ok (.iconst 1, 1) := by decide +kernel
theorem dX2_acceptsArrow_34 : decode cX2_acceptsArrow 34 = .ok (.ireturn, 1) := by decide +kernel
theorem dX2_acceptsEndOfPart_0 : decode cX2_acceptsEndOfPart 0 = .ok (.iload_n 1, 1) := by decide +kernel
theorem dX2_acceptsEndOfPart_1 : decode cX2_acceptsEndOfPart 1 = .ok (.bipush 59, 2) := by decide +kernel
theorem dX2_acceptsEndOfPart_3 : decode cX2_acceptsEndOfPart 3 = .ok (.if_icmp .ne 10, 3) := by decide +kernel
theorem dX2_acceptsEndOfPart_6 : decode cX2_acceptsEndOfPart 6 = .ok (.aload_n 0, 1) := by decide +kernel
theorem dX2_acceptsEndOfPart_7 : decode cX2_acceptsEndOfPart 7 = .ok (.invokevirtual 49, 3) := by decide +kernel
theorem dX2_acceptsEndOfPart_10 : decode cX2_acceptsEndOfPart 10 = .ok (.ifCond .ne 5, 3) := by decide +kernel
theorem dX2_acceptsEndOfPart_13 : decode cX2_acceptsEndOfPart 13 = .ok (.iconst 0, 1) := by decide +kernel
theorem dX2_acceptsEndOfPart_14 : decode cX2_acceptsEndOfPart 14 = .ok (.ireturn, 1) := by decide +kernel
theorem dX2_acceptsEndOfPart_15 : decode cX2_acceptsEndOfPart 15 = .ok (.aload_n 0, 1) := by decide +kernel
theorem dX2_acceptsEndOfPart_16 : decode cX2_acceptsEndOfPart 16 = .ok (.iconst 0, 1) := by decide +kernel
theorem dX2_acceptsEndOfPart_17 : decode cX2_acceptsEndOfPart 17 = .ok (.putfield 22, 3) := by decide +kernel
theorem dX2_acceptsEndOfPart_20 : decode cX2_acceptsEndOfPart 20 = .ok (.iconst 1, 1) := by decide +kernel
theorem dX2_acceptsEndOfPart_21 : decode cX2_acceptsEndOfPart 21 = .ok (.ireturn, 1) := by decide +kernel
theorem dX3_init_0 : decode cX3_init 0 = .ok (.aload_n 0, 1) := by decide +kernel
theorem dX3_init_1 : decode cX3_init 1 = .ok (.invokespecial 3, 3) := by decide +kernel
theorem dX3_init_4 : decode cX3_init 4 = .ok (.aload_n 0, 1) := by decide +kernel
theorem dX3_init_5 : decode cX3_init 5 = .ok (.new 9, 3) := by decide +kernel
theorem dX3_init_8 : decode cX3_init 8 = .ok (.dup, 1) := by decide +kernel
theorem dX3_init_9 : decode cX3_init 9 = .ok (.invokespecial 11, 3) := by decide +kernel
theorem dX3_init_12 : decode cX3_init 12 = .ok (.putfield 12, 3) := by decide +kernel
theorem dX3_init_15 : decode cX3_init 15 = .ok (.aload_n 0, 1) := by decide +kernel
theorem dX3_init_16 : decode cX3_init 16 = .ok (.bipush 16, 2) := by decide +kernel
theorem dX3_init_18 : decode cX3_init 18 = .ok (.newarray .int, 2) := by decide +kernel
theorem dX3_init_20 : decode cX3_init 20 = .ok (.putfield 18, 3) := by decide +kernel
theorem dX3_init_23 : decode cX3_init 23 = .ok (.aload_n 0, 1) := by decide +kernel
theorem dX3_init_24 : decode cX3_init 24 = .ok (.bipush 16, 2) := by decide +kernel
theorem dX3_init_26 : decode cX3_init 26 = .ok (.newarray .int, 2) := by decide +kernel
theorem dX3_init_28 : decode cX3_init 28 = .ok (.putfield 22, 3) := by decide +kernel
theorem dX3_init_31 : decode cX3_init 31 = .ok (.aload_n 0, 1) := by decide +kernel
theorem dX3_init_32 : decode cX3_init 32 = .ok (.bipush 16, 2) := by decide +kernel
theorem dX3_init_34 : decode cX3_init 34 = .ok (.newarray .int, 2) := by decide +kernel
theorem dX3_init_36 : decode cX3_init 36 = .ok (.putfield 25, 3) := by decide +kernel
theorem dX3_init_39 : decode cX3_init 39 = .ok (.aload_n 0, 1) := by decide +kernel
theorem dX3_init_40 : decode cX3_init 40 = .ok (.bipush 16, 2) := by decide +kernel
theorem dX3_init_42 : decode cX3_init 42 = .ok (.newarray .int, 2) := by decide +kernel
theorem dX3_init_44 : decode cX3_init 44 = .ok (.putfield 28, 3) := by decide +kernel
theorem dX3_init_47 : decode cX3_init 47 = .ok (.aload_n 0, 1) := by decide +kernel
theorem dX3_init_48 : decode cX3_init 48 = .ok (.iconst 3, 1) := by decide +kernel
theorem dX3_init_49 : decode cX3_init 49 = .ok (.newarray .int, 2) := by decide +kernel
theorem dX3_init_51 : decode cX3_init 51 = .ok (.putfield 31, 3) := by decide +kernel
theorem dX3_init_54 : decode cX3_init 54 = .ok (.aload_n 0, 1) := by decide +kernel
theorem dX3_init_55 : decode cX3_init 55 = .ok (.getfield 18, 3) := by decide +kernel
theorem dX3_init_58 : decode cX3_init 58 = .ok (.iconst 2, 1) := by decide +kernel
theorem dX3_init_59 : decode cX3_init 59 = .ok (.invokestatic 34, 3) := by decide +kernel
theorem dX3_init_62 : decode cX3_init 62 = .ok (.aload_n 0, 1) := by decide +kernel
theorem dX3_init_63 : decode cX3_init 63 = .ok (.getfield 25, 3) := by decide +kernel
theorem dX3_init_66 : decode cX3_init 66 = .ok (.iconst 2, 1) := by decide +kernel
theorem dX3_init_67 : decode cX3_init 67 = .ok (.invokestatic 34, 3) := by decide +kernel
theorem dX3_init_70 : decode cX3_init 70 = .ok (.aload_n 0, 1) := by decide +kernel
theorem dX3_init_71 : decode cX3_init 71 = .ok (.getfield 28, 3) := by decide +kernel
theorem dX3_init_74 : decode cX3_init 74 = .ok (.bipush 31, 2) := by decide +kernel
theorem dX3_init_76 : decode cX3_init 76 = .ok (.invokestatic 34, 3) := by decide +kernel
theorem dX3_init_79 : decode cX3_init 79 = .ok (.getstatic 40, 3) := by decide +kernel
theorem dX3_init_82 : decode cX3_init 82 = .ok (.aload_n 0, 1) := by decide +kernel
theorem dX3_init_83 : decode cX3_init 83 = .ok (.getfield 31, 3) := by decide +kernel
theorem dX3_init_86 : decode cX3_init 86 = .ok (.invokestatic 43, 3) := by decide +kernel
theorem dX3_init_89 : decode cX3_init 89 = .ok (.aload_n 0, 1) := by decide +kernel
theorem dX3_init_90 : decode cX3_init 90 = .ok (.iconst 0, 1) := by decide +kernel
theorem dX3_init_91 : decode cX3_init 91 = .ok (.putfield 47, 3) := by decide +kernel
theorem dX3_init_94 : decode cX3_init 94 = .ok (.aload_n 0, 1) := by decide +kernel
theorem dX3_init_95 : decode cX3_init 95 = .ok (.iconst (-1), 1) := by decide +kernel
theorem dX3_init_96 : decode cX3_init 96 = .ok (.putfield 51, 3) := by decide +kernel
theorem dX3_init_99 : decode cX3_init 99 = .ok (.return_, 1) := by decide +kernel
theorem dX3_copyFrom_0 : decode cX3_copyFrom 0 = .ok (.aload_n 1, 1) := by decide +kernel
theorem dX3_copyFrom_1 : decode cX3_copyFrom 1 = .ok (.ifnull 85, 3) := by decide +kernel
theorem dX3_copyFrom_4 : decode cX3_copyFrom 4 = .ok (.aload_n 0, 1) := by decide +kernel
theorem dX3_copyFrom_5 : decode cX3_copyFrom 5 = .ok (.getfield 12, 3) := by decide +kernel
theorem dX3_copyFrom_8 : decode cX3_copyFrom 8 = .ok (.aload_n 1, 1) := by decide +kernel
theorem dX3_copyFrom_9 : decode cX3_copyFrom 9 = .ok (.getfield 12, 3) := by decide +kernel
theorem dX3_copyFrom_12 : decode cX3_copyFrom 12 = .ok (.invokevirtual 54, 3) := by decide +kernel
theorem dX3_copyFrom_15 : decode cX3_copyFrom 15 = .ok (.aload_n 1, 1) := by decide +kernel
theorem dX3_copyFrom_16 : decode cX3_copyFrom 16 = .ok (.getfield 18, 3) := by decide +kernel
theorem dX3_copyFrom_19 : decode cX3_copyFrom 19 = .ok (.aload_n 0, 1) := by decide +kernel
theorem dX3_copyFrom_20 : decode cX3_copyFrom 20 = .ok (.getfield 18, 3) := by decide +kernel
theorem dX3_copyFrom_23 : decode cX3_copyFrom 23 = .ok (.invokestatic 43, 3) := by decide +kernel
theorem dX3_copyFrom_26 : decode cX3_copyFrom 26 = .ok (.aload_n 1, 1) := by decide +kernel
theorem dX3_copyFrom_27 : decode cX3_copyFrom 27 = .ok (.getfield 22, 3) := by decide +kernel
theorem dX3_copyFrom_30 : decode cX3_copyFrom 30 = .ok (.aload_n 0, 1) := by decide +kernel
theorem dX3_copyFrom_31 : decode cX3_copyFrom 31 = .ok (.getfield 22, 3) := by decide +kernel
theorem dX3_copyFrom_34 : decode cX3_copyFrom 34 = .ok (.invokestatic 43, 3) := by decide +kernel
theorem dX3_copyFrom_37 : decode cX3_copyFrom 37 = .ok (.aload_n 1, 1) := by decide +kernel
theorem dX3_copyFrom_38 : decode cX3_copyFrom 38 = .ok (.getfield 25, 3) := by decide +kernel
theorem dX3_copyFrom_41 : decode cX3_copyFrom 41 = .ok (.aload_n 0, 1) := by decide +kernel
theorem dX3_copyFrom_42 : decode cX3_copyFrom 42 = .ok (.getfield 25, 3) := by decide +kernel
theorem dX3_copyFrom_45 : decode cX3_copyFrom 45 = .ok (.invokestatic 43, 3) := by decide +kernel
theorem dX3_copyFrom_48 : decode cX3_copyFrom 48 = .ok (.aload_n 1, 1) := by decide +kernel
theorem dX3_copyFrom_49 : decode cX3_copyFrom 49 = .ok (.getfield 28, 3) := by decide +kernel
theorem dX3_copyFrom_52 : decode cX3_copyFrom 52 = .ok (.aload_n 0, 1) := by decide +kernel
theorem dX3_copyFrom_53 : decode cX3_copyFrom 53 = .ok (.getfield 28, 3) := by decide +kernel
theorem dX3_copyFrom_56 : decode cX3_copyFrom 56 = .ok (.invokestatic 43, 3) := by decide +kernel
theorem dX3_copyFrom_59 : decode cX3_copyFrom 59 = .ok (.aload_n 1, 1) := by decide +kernel
theorem dX3_copyFrom_60 : decode cX3_copyFrom 60 = .ok (.getfield 31, 3) := by decide +kernel
theorem dX3_copyFrom_63 : decode cX3_copyFrom 63 = .ok (.aload_n 0, 1) := by decide +kernel
theorem dX3_copyFrom_64 : decode cX3_copyFrom 64 = .ok (.getfield 31, 3) := by decide +kernel
theorem dX3_copyFrom_67 : decode cX3_copyFrom 67 = .ok (.invokestatic 43, 3) := by decide +kernel
theorem dX3_copyFrom_70 : decode cX3_copyFrom 70 = .ok (.aload_n 0, 1) := by decide +kernel
theorem dX3_copyFrom_71 : decode cX3_copyFrom 71 = .ok (.aload_n 1, 1) := by decide +kernel
theorem dX3_copyFrom_72 : decode cX3_copyFrom 72 = .ok (.getfield 47, 3) := by decide +kernel
theorem dX3_copyFrom_75 : decode cX3_copyFrom 75 = .ok (.putfield 47, 3) := by decide +kernel
theorem dX3_copyFrom_78 : decode cX3_copyFrom 78 = .ok (.aload_n 0, 1) := by decide +kernel
theorem dX3_copyFrom_79 : decode cX3_copyFrom 79 = .ok (.aload_n 1, 1) := by decide +kernel
theorem dX3_copyFrom_80 : decode cX3_copyFrom 80 = .ok (.getfield 51, 3) := by decide +kernel
theorem dX3_copyFrom_83 : decode cX3_copyFrom 83 = .ok (.putfield 51, 3) := by decide +kernel
theorem dX3_copyFrom_86 : decode cX3_copyFrom 86 = .ok (.return_, 1) := by decide +kernel
theorem dX3_bookSheets_0 : decode cX3_bookSheets 0 = .ok (.aload_n 0, 1) := by decide +kernel
theorem dX3_bookSheets_1 : decode cX3_bookSheets 1 = .ok (.getfield 31, 3) := by decide +kernel
theorem dX3_bookSheets_4 : decode cX3_bookSheets 4 = .ok (.iconst 0, 1) := by decide +kernel
theorem dX3_bookSheets_5 : decode cX3_bookSheets 5 = .ok (.invokestatic 58, 3) := by decide +kernel
theorem dX3_bookSheets_8 : decode cX3_bookSheets 8 = .ok (.ireturn, 1) := by decide +kernel
theorem dX3_hasCopyAndRoom_0 : decode cX3_hasCopyAndRoom 0 = .ok (.aload_n 0, 1) := by decide +kernel
theorem dX3_hasCopyAndRoom_1 : decode cX3_hasCopyAndRoom 1 = .ok (.getfield 18, 3) := by decide +kernel
theorem dX3_hasCopyAndRoom_4 : decode cX3_hasCopyAndRoom 4 = .ok (.iload_n 1, 1) := by decide +kernel
theorem dX3_hasCopyAndRoom_5 : decode cX3_hasCopyAndRoom 5 = .ok (.invokestatic 58, 3) := by decide +kernel
theorem dX3_hasCopyAndRoom_8 : decode cX3_hasCopyAndRoom 8 = .ok (.ifCond .le 19, 3) := by decide +kernel
theorem dX3_hasCopyAndRoom_11 : decode cX3_hasCopyAndRoom 11 = .ok (.aload_n 0, 1) := by decide +kernel
theorem dX3_hasCopyAndRoom_12 : decode cX3_hasCopyAndRoom 12 = .ok (.getfield 12, 3) := by decide +kernel
theorem dX3_hasCopyAndRoom_15 : decode cX3_hasCopyAndRoom 15 = .ok (.getfield 62, 3) := by decide +kernel
theorem dX3_hasCopyAndRoom_18 : decode cX3_hasCopyAndRoom 18 = .ok (.bipush 20, 2) := by decide +kernel
theorem dX3_hasCopyAndRoom_20 : decode cX3_hasCopyAndRoom 20 = .ok (.if_icmp .ge 7, 3) := by decide +kernel
theorem dX3_hasCopyAndRoom_23 : decode cX3_hasCopyAndRoom 23 = .ok (.iconst 1, 1) := by decide +kernel
theorem dX3_hasCopyAndRoom_24 : decode cX3_hasCopyAndRoom 24 = .ok (.goto 4, 3) := by decide +kernel
theorem dX3_hasCopyAndRoom_27 : decode cX3_hasCopyAndRoom 27 = .ok (.iconst 0, 1) := by decide +kernel
theorem dX3_hasCopyAndRoom_28 : decode cX3_hasCopyAndRoom 28 = .ok (.ireturn, 1) := by decide +kernel
theorem dX3_putFromBin_0 : decode cX3_putFromBin 0 = .ok (.aload_n 0, 1) := by decide +kernel
theorem dX3_putFromBin_1 : decode cX3_putFromBin 1 = .ok (.getfield 18, 3) := by decide +kernel
theorem dX3_putFromBin_4 : decode cX3_putFromBin 4 = .ok (.iload_n 2, 1) := by decide +kernel
theorem dX3_putFromBin_5 : decode cX3_putFromBin 5 = .ok (.iconst (-1), 1) := by decide +kernel
theorem dX3_putFromBin_6 : decode cX3_putFromBin 6 = .ok (.invokestatic 65, 3) := by decide +kernel
theorem dX3_putFromBin_9 : decode cX3_putFromBin 9 = .ok (.aload_n 0, 1) := by decide +kernel
theorem dX3_putFromBin_10 : decode cX3_putFromBin 10 = .ok (.getfield 12, 3) := by decide +kernel
theorem dX3_putFromBin_13 : decode cX3_putFromBin 13 = .ok (.iload_n 1, 1) := by decide +kernel
theorem dX3_putFromBin_14 : decode cX3_putFromBin 14 = .ok (.iload_n 2, 1) := by decide +kernel
theorem dX3_putFromBin_15 : decode cX3_putFromBin 15 = .ok (.iconst 0, 1) := by decide +kernel
theorem dX3_putFromBin_16 : decode cX3_putFromBin 16 = .ok (.invokevirtual 69, 3) := by decide +kernel
theorem dX3_putFromBin_19 : decode cX3_putFromBin 19 = .ok (.return_, 1) := by decide +kernel
theorem dX3_putBack_0 : decode cX3_putBack 0 = .ok (.aload_n 0, 1) := by decide +kernel
theorem dX3_putBack_1 : decode cX3_putBack 1 = .ok (.getfield 12, 3) := by decide +kernel
theorem dX3_putBack_4 : decode cX3_putBack 4 = .ok (.getfield 73, 3) := by decide +kernel
theorem dX3_putBack_7 : decode cX3_putBack 7 = .ok (.iload_n 1, 1) := by decide +kernel
theorem dX3_putBack_8 : decode cX3_putBack 8 = .ok (.invokestatic 58, 3) := by decide +kernel
theorem dX3_putBack_11 : decode cX3_putBack 11 = .ok (.istore_n 2, 1) := by decide +kernel
theorem dX3_putBack_12 : decode cX3_putBack 12 = .ok (.aload_n 0, 1) := by decide +kernel
theorem dX3_putBack_13 : decode cX3_putBack 13 = .ok (.getfield 12, 3) := by decide +kernel
theorem dX3_putBack_16 : decode cX3_putBack 16 = .ok (.iload_n 1, 1) := by decide +kernel
theorem dX3_putBack_17 : decode cX3_putBack 17 = .ok (.invokevirtual 76, 3) := by decide +kernel
theorem dX3_putBack_20 : decode cX3_putBack 20 = .ok (.aload_n 0, 1) := by decide +kernel
theorem dX3_putBack_21 : decode cX3_putBack 21 = .ok (.getfield 18, 3) := by decide +kernel
theorem dX3_putBack_24 : decode cX3_putBack 24 = .ok (.iload_n 2, 1) := by decide +kernel
theorem dX3_putBack_25 : decode cX3_putBack 25 = .ok (.iconst 1, 1) := by decide +kernel
theorem dX3_putBack_26 : decode cX3_putBack 26 = .ok (.invokestatic 65, 3) := by decide +kernel
theorem dX3_putBack_29 : decode cX3_putBack 29 = .ok (.iload_n 2, 1) := by decide +kernel
theorem dX3_putBack_30 : decode cX3_putBack 30 = .ok (.ireturn, 1) := by decide +kernel
theorem dX3_bindBlock_0 : decode cX3_bindBlock 0 = .ok (.iconst 0, 1) := by decide +kernel
theorem dX3_bindBlock_1 : decode cX3_bindBlock 1 = .ok (.istore_n 1, 1) := by decide +kernel
theorem dX3_bindBlock_2 : decode cX3_bindBlock 2 = .ok (.iload_n 1, 1) := by decide +kernel
theorem dX3_bindBlock_3 : decode cX3_bindBlock 3 = .ok (.aload_n 0, 1) := by decide +kernel
theorem dX3_bindBlock_4 : decode cX3_bindBlock 4 = .ok (.getfield 12, 3) := by decide +kernel
theorem dX3_bindBlock_7 : decode cX3_bindBlock 7 = .ok (.getfield 62, 3) := by decide +kernel
theorem dX3_bindBlock_10 : decode cX3_bindBlock 10 = .ok (.if_icmp .ge 28, 3) := by decide +kernel
theorem dX3_bindBlock_13 : decode cX3_bindBlock 13 = .ok (.aload_n 0, 1) := by decide +kernel
theorem dX3_bindBlock_14 : decode cX3_bindBlock 14 = .ok (.getfield 22, 3) := by decide +kernel
theorem dX3_bindBlock_17 : decode cX3_bindBlock 17 = .ok (.aload_n 0, 1) := by decide +kernel
theorem dX3_bindBlock_18 : decode cX3_bindBlock 18 = .ok (.getfield 12, 3) := by decide +kernel
theorem dX3_bindBlock_21 : decode cX3_bindBlock 21 = .ok (.getfield 73, 3) := by decide +kernel
theorem dX3_bindBlock_24 : decode cX3_bindBlock 24 = .ok (.iload_n 1, 1) := by decide +kernel
theorem dX3_bindBlock_25 : decode cX3_bindBlock 25 = .ok (.invokestatic 58, 3) := by decide +kernel
theorem dX3_bindBlock_28 : decode cX3_bindBlock 28 = .ok (.iconst 1, 1) := by decide +kernel
theorem dX3_bindBlock_29 : decode cX3_bindBlock 29 = .ok (.invokestatic 65, 3) := by decide +kernel
theorem dX3_bindBlock_32 : decode cX3_bindBlock 32 = .ok (.iinc 1 1, 3) := by decide +kernel
theorem dX3_bindBlock_35 : decode cX3_bindBlock 35 = .ok (.goto (-33), 3) := by decide +kernel
theorem dX3_bindBlock_38 : decode cX3_bindBlock 38 = .ok (.aload_n 0, 1) := by decide +kernel
theorem dX3_bindBlock_39 : decode cX3_bindBlock 39 = .ok (.getfield 12, 3) := by decide +kernel
theorem dX3_bindBlock_42 : decode cX3_bindBlock 42 = .ok (.iconst 0, 1) := by decide +kernel
theorem dX3_bindBlock_43 : decode cX3_bindBlock 43 = .ok (.putfield 62, 3) := by decide +kernel
theorem dX3_bindBlock_46 : decode cX3_bindBlock 46 = .ok (.aload_n 0, 1) := by decide +kernel
theorem dX3_bindBlock_47 : decode cX3_bindBlock 47 = .ok (.dup, 1) := by decide +kernel
theorem dX3_bindBlock_48 : decode cX3_bindBlock 48 = .ok (.getfield 47, 3) := by decide +kernel
theorem dX3_bindBlock_51 : decode cX3_bindBlock 51 = .ok (.iconst 1, 1) := by decide +kernel
theorem dX3_bindBlock_52 : decode cX3_bindBlock 52 = .ok (.iadd, 1) := by decide +kernel
theorem dX3_bindBlock_53 : decode cX3_bindBlock 53 = .ok (.putfield 47, 3) := by decide +kernel
theorem dX3_bindBlock_56 : decode cX3_bindBlock 56 = .ok (.return_, 1) := by decide +kernel
theorem dX3_copiesInBinAndBlock_0 : decode cX3_copiesInBinAndBlock 0 = .ok (.aload_n 0, 1) := by decide +kernel
theorem dX3_copiesInBinAndBlock_1 : decode cX3_copiesInBinAndBlock 1 = .ok (.getfield 18, 3) := by decide +kernel
theorem dX3_copiesInBinAndBlock_4 : decode cX3_copiesInBinAndBlock 4 = .ok (.iload_n 1, 1) := by decide +kernel
theorem dX3_copiesInBinAndBlock_5 : decode cX3_copiesInBinAndBlock 5 = .ok (.invokestatic 58, 3) := by decide +kernel
theorem dX3_copiesInBinAndBlock_8 : decode cX3_copiesInBinAndBlock 8 = .ok (.aload_n 0, 1) := by decide +kernel
theorem dX3_copiesInBinAndBlock_9 : decode cX3_copiesInBinAndBlock 9 = .ok (.getfield 12, 3) := by decide +kernel
theorem dX3_copiesInBinAndBlock_12 : decode cX3_copiesInBinAndBlock 12 = .ok (.iload_n 1, 1) := by decide +kernel
theorem dX3_copiesInBinAndBlock_13 : decode cX3_copiesInBinAndBlock 13 = .ok (.invokevirtual 80, 3) := by decide +kernel
theorem dX3_copiesInBinAndBlock_16 : decode cX3_copiesInBinAndBlock 16 = .ok (.iadd, 1) := by decide +kernel
theorem dX3_copiesInBinAndBlock_17 : decode cX3_copiesInBinAndBlock 17 = .ok (.ireturn, 1) := by decide +kernel
theorem dX3_sheetsInBooks_0 : decode cX3_sheetsInBooks 0 = .ok (.iconst 0, 1) := by decide +kernel
theorem dX3_sheetsInBooks_1 : decode cX3_sheetsInBooks 1 = .ok (.istore_n 1, 1) := by decide +kernel
theorem dX3_sheetsInBooks_2 : decode cX3_sheetsInBooks 2 = .ok (.iconst 0, 1) := by decide +kernel
theorem dX3_sheetsInBooks_3 : decode cX3_sheetsInBooks 3 = .ok (.istore_n 2, 1) := by decide +kernel
theorem dX3_sheetsInBooks_4 : decode cX3_sheetsInBooks 4 = .ok (.iload_n 2, 1) := by decide +kernel
theorem dX3_sheetsInBooks_5 : decode cX3_sheetsInBooks 5 = .ok (.bipush 16, 2) := by decide +kernel
theorem dX3_sheetsInBooks_7 : decode cX3_sheetsInBooks 7 = .ok (.if_icmp .ge 20, 3) := by decide +kernel
theorem dX3_sheetsInBooks_10 : decode cX3_sheetsInBooks 10 = .ok (.iload_n 1, 1) := by decide +kernel
theorem dX3_sheetsInBooks_11 : decode cX3_sheetsInBooks 11 = .ok (.aload_n 0, 1) := by decide +kernel
theorem dX3_sheetsInBooks_12 : decode cX3_sheetsInBooks 12 = .ok (.getfield 22, 3) := by decide +kernel
theorem dX3_sheetsInBooks_15 : decode cX3_sheetsInBooks 15 = .ok (.iload_n 2, 1) := by decide +kernel
theorem dX3_sheetsInBooks_16 : decode cX3_sheetsInBooks 16 = .ok (.invokestatic 58, 3) := by decide +kernel
theorem dX3_sheetsInBooks_19 : decode cX3_sheetsInBooks 19 = .ok (.iadd, 1) := by decide +kernel
theorem dX3_sheetsInBooks_20 : decode cX3_sheetsInBooks 20 = .ok (.istore_n 1, 1) := by decide +kernel
theorem dX3_sheetsInBooks_21 : decode cX3_sheetsInBooks 21 = .ok (.iinc 2 1, 3) := by decide +kernel
theorem dX3_sheetsInBooks_24 : decode cX3_sheetsInBooks 24 = .ok (.goto (-20), 3) := by decide +kernel
theorem dX3_sheetsInBooks_27 : decode cX3_sheetsInBooks 27 = .ok (.iload_n 1, 1) := by decide +kernel
theorem dX3_sheetsInBooks_28 : decode cX3_sheetsInBooks 28 = .ok (.ireturn, 1) := by decide +kernel
theorem dX3_stepOfNumber_0 : decode cX3_stepOfNumber 0 = .ok (.aload_n 0, 1) := by decide +kernel
theorem dX3_stepOfNumber_1 : decode cX3_stepOfNumber 1 = .ok (.getfield 31, 3) := by decide +kernel
theorem dX3_stepOfNumber_4 : decode cX3_stepOfNumber 4 = .ok (.iconst 1, 1) := by decide +kernel
theorem dX3_stepOfNumber_5 : decode cX3_stepOfNumber 5 = .ok (.invokestatic 58, 3) := by decide +kernel
theorem dX3_stepOfNumber_8 : decode cX3_stepOfNumber 8 = .ok (.istore_n 2, 1) := by decide +kernel
theorem dX3_stepOfNumber_9 : decode cX3_stepOfNumber 9 = .ok (.iload_n 2, 1) := by decide +kernel
theorem dX3_stepOfNumber_10 : decode cX3_stepOfNumber 10 = .ok (.ifCond .le 9, 3) := by decide +kernel
theorem dX3_stepOfNumber_13 : decode cX3_stepOfNumber 13 = .ok (.iload_n 1, 1) := by decide +kernel
theorem dX3_stepOfNumber_14 : decode cX3_stepOfNumber 14 = .ok (.iload_n 2, 1) := by decide +kernel
theorem dX3_stepOfNumber_15 : decode cX3_stepOfNumber 15 = .ok (.irem, 1) := by decide +kernel
theorem dX3_stepOfNumber_16 : decode cX3_stepOfNumber 16 = .ok (.goto 4, 3) := by decide +kernel
theorem dX3_stepOfNumber_19 : decode cX3_stepOfNumber 19 = .ok (.iconst 0, 1) := by decide +kernel
theorem dX3_stepOfNumber_20 : decode cX3_stepOfNumber 20 = .ok (.ireturn, 1) := by decide +kernel
theorem dX3_stepOfMark_0 : decode cX3_stepOfMark 0 = .ok (.aload_n 0, 1) := by decide +kernel
theorem dX3_stepOfMark_1 : decode cX3_stepOfMark 1 = .ok (.aload_n 0, 1) := by decide +kernel
theorem dX3_stepOfMark_2 : decode cX3_stepOfMark 2 = .ok (.getfield 12, 3) := by decide +kernel
theorem dX3_stepOfMark_5 : decode cX3_stepOfMark 5 = .ok (.getfield 73, 3) := by decide +kernel
theorem dX3_stepOfMark_8 : decode cX3_stepOfMark 8 = .ok (.iload_n 1, 1) := by decide +kernel
theorem dX3_stepOfMark_9 : decode cX3_stepOfMark 9 = .ok (.invokestatic 58, 3) := by decide +kernel
theorem dX3_stepOfMark_12 : decode cX3_stepOfMark 12 = .ok (.invokevirtual 84, 3) := by decide +kernel
theorem dX3_stepOfMark_15 : decode cX3_stepOfMark 15 = .ok (.istore_n 2, 1) := by decide +kernel
theorem dX3_stepOfMark_16 : decode cX3_stepOfMark 16 = .ok (.aload_n 0, 1) := by decide +kernel
theorem dX3_stepOfMark_17 : decode cX3_stepOfMark 17 = .ok (.getfield 12, 3) := by decide +kernel
theorem dX3_stepOfMark_20 : decode cX3_stepOfMark 20 = .ok (.getfield 87, 3) := by decide +kernel
theorem dX3_stepOfMark_23 : decode cX3_stepOfMark 23 = .ok (.iload_n 1, 1) := by decide +kernel
theorem dX3_stepOfMark_24 : decode cX3_stepOfMark 24 = .ok (.invokestatic 58, 3) := by decide +kernel
theorem dX3_stepOfMark_27 : decode cX3_stepOfMark 27 = .ok (.ifCond .ne 7, 3) := by decide +kernel
theorem dX3_stepOfMark_30 : decode cX3_stepOfMark 30 = .ok (.iload_n 2, 1) := by decide +kernel
theorem dX3_stepOfMark_31 : decode cX3_stepOfMark 31 = .ok (.goto 15, 3) := by decide +kernel
theorem dX3_stepOfMark_34 : decode cX3_stepOfMark 34 = .ok (.aload_n 0, 1) := by decide +kernel
theorem dX3_stepOfMark_35 : decode cX3_stepOfMark 35 = .ok (.getfield 31, 3) := by decide +kernel
theorem dX3_stepOfMark_38 : decode cX3_stepOfMark 38 = .ok (.iconst 1, 1) := by decide +kernel
theorem dX3_stepOfMark_39 : decode cX3_stepOfMark 39 = .ok (.invokestatic 58, 3) := by decide +kernel
theorem dX3_stepOfMark_42 : decode cX3_stepOfMark 42 = .ok (.iconst 1, 1) := by decide +kernel
theorem dX3_stepOfMark_43 : decode cX3_stepOfMark 43 = .ok (.isub, 1) := by decide +kernel
theorem dX3_stepOfMark_44 : decode cX3_stepOfMark 44 = .ok (.iload_n 2, 1) := by decide +kernel
theorem dX3_stepOfMark_45 : decode cX3_stepOfMark 45 = .ok (.isub, 1) := by decide +kernel
theorem dX3_stepOfMark_46 : decode cX3_stepOfMark 46 = .ok (.ireturn, 1) := by decide +kernel
theorem dX3_stepDueAt_0 : decode cX3_stepDueAt 0 = .ok (.iload_n 1, 1) := by decide +kernel
theorem dX3_stepDueAt_1 : decode cX3_stepDueAt 1 = .ok (.ifCond .le 19, 3) := by decide +kernel
theorem dX3_stepDueAt_4 : decode cX3_stepDueAt 4 = .ok (.aload_n 0, 1) := by decide +kernel
theorem dX3_stepDueAt_5 : decode cX3_stepDueAt 5 = .ok (.aload_n 0, 1) := by decide +kernel
theorem dX3_stepDueAt_6 : decode cX3_stepDueAt 6 = .ok (.iload_n 1, 1) := by decide +kernel
theorem dX3_stepDueAt_7 : decode cX3_stepDueAt 7 = .ok (.iconst 1, 1) := by decide +kernel
theorem dX3_stepDueAt_8 : decode cX3_stepDueAt 8 = .ok (.isub, 1) := by decide +kernel
theorem dX3_stepDueAt_9 : decode cX3_stepDueAt 9 = .ok (.invokevirtual 90, 3) := by decide +kernel
theorem dX3_stepDueAt_12 : decode cX3_stepDueAt 12 = .ok (.iconst 1, 1) := by decide +kernel
theorem dX3_stepDueAt_13 : decode cX3_stepDueAt 13 = .ok (.iadd, 1) := by decide +kernel
theorem dX3_stepDueAt_14 : decode cX3_stepDueAt 14 = .ok (.invokevirtual 84, 3) := by decide +kernel
theorem dX3_stepDueAt_17 : decode cX3_stepDueAt 17 = .ok (.goto 4, 3) := by decide +kernel
theorem dX3_stepDueAt_20 : decode cX3_stepDueAt 20 = .ok (.iconst 0, 1) := by decide +kernel
theorem dX3_stepDueAt_21 : decode cX3_stepDueAt 21 = .ok (.ireturn, 1) := by decide +kernel
theorem dX3_breaksAheadOf_0 : decode cX3_breaksAheadOf 0 = .ok (.aload_n 0, 1) := by decide +kernel
theorem dX3_breaksAheadOf_1 : decode cX3_breaksAheadOf 1 = .ok (.iload_n 1, 1) := by decide +kernel
theorem dX3_breaksAheadOf_2 : decode cX3_breaksAheadOf 2 = .ok (.invokevirtual 90, 3) := by decide +kernel
theorem dX3_breaksAheadOf_5 : decode cX3_breaksAheadOf 5 = .ok (.aload_n 0, 1) := by decide +kernel
theorem dX3_breaksAheadOf_6 : decode cX3_breaksAheadOf 6 = .ok (.iload_n 1, 1) := by decide +kernel
theorem dX3_breaksAheadOf_7 : decode cX3_breaksAheadOf 7 = .ok (.invokevirtual 93, 3) := by decide +kernel
theorem dX3_breaksAheadOf_10 : decode cX3_breaksAheadOf 10 = .ok (.if_icmp .eq 7, 3) := by decide +kernel
theorem dX3_breaksAheadOf_13 : decode cX3_breaksAheadOf 13 = .ok (.iconst 1, 1) := by decide +kernel
theorem dX3_breaksAheadOf_14 : decode cX3_breaksAheadOf 14 = .ok (.goto 4, 3) := by decide +kernel
theorem dX3_breaksAheadOf_17 : decode cX3_breaksAheadOf 17 = .ok (.iconst 0, 1) := by decide +kernel
theorem dX3_breaksAheadOf_18 : decode cX3_breaksAheadOf 18 = .ok (.ireturn, 1) := by decide +kernel
theorem dX3_breaks_0 : decode cX3_breaks 0 = .ok (.iconst 0, 1) := by decide +kernel
theorem dX3_breaks_1 : decode cX3_breaks 1 = .ok (.istore_n 1, 1) := by decide +kernel
theorem dX3_breaks_2 : decode cX3_breaks 2 = .ok (.iconst 0, 1) := by decide +kernel
theorem dX3_breaks_3 : decode cX3_breaks 3 = .ok (.istore_n 2, 1) := by decide +kernel
theorem dX3_breaks_4 : decode cX3_breaks 4 = .ok (.iconst 0, 1) := by decide +kernel
theorem dX3_breaks_5 : decode cX3_breaks 5 = .ok (.istore_n 3, 1) := by decide +kernel
theorem dX3_breaks_6 : decode cX3_breaks 6 = .ok (.iload_n 3, 1) := by decide +kernel
theorem dX3_breaks_7 : decode cX3_breaks 7 = .ok (.aload_n 0, 1) := by decide +kernel
theorem dX3_breaks_8 : decode cX3_breaks 8 = .ok (.getfield 12, 3) := by decide +kernel
theorem dX3_breaks_11 : decode cX3_breaks 11 = .ok (.getfield 62, 3) := by decide +kernel
theorem dX3_breaks_14 : decode cX3_breaks 14 = .ok (.if_icmp .ge 34, 3) := by decide +kernel
theorem dX3_breaks_17 : decode cX3_breaks 17 = .ok (.aload_n 0, 1) := by decide +kernel
theorem dX3_breaks_18 : decode cX3_breaks 18 = .ok (.iload_n 3, 1) := by decide +kernel
theorem dX3_breaks_19 : decode cX3_breaks 19 = .ok (.invokevirtual 90, 3) := by decide +kernel
theorem dX3_breaks_22 : decode cX3_breaks 22 = .ok (.istore 4, 2) := by decide +kernel
theorem dX3_breaks_24 : decode cX3_breaks 24 = .ok (.iload 4, 2) := by decide +kernel
theorem dX3_breaks_26 : decode cX3_breaks 26 = .ok (.iload_n 2, 1) := by decide +kernel
theorem dX3_breaks_27 : decode cX3_breaks 27 = .ok (.if_icmp .eq 6, 3) := by decide +kernel
theorem dX3_breaks_30 : decode cX3_breaks 30 = .ok (.iinc 1 1, 3) := by decide +kernel
theorem dX3_breaks_33 : decode cX3_breaks 33 = .ok (.aload_n 0, 1) := by decide +kernel
theorem dX3_breaks_34 : decode cX3_breaks 34 = .ok (.iload 4, 2) := by decide +kernel
theorem dX3_breaks_36 : decode cX3_breaks 36 = .ok (.iconst 1, 1) := by decide +kernel
theorem dX3_breaks_37 : decode cX3_breaks 37 = .ok (.iadd, 1) := by decide +kernel
theorem dX3_breaks_38 : decode cX3_breaks 38 = .ok (.invokevirtual 84, 3) := by decide +kernel
theorem dX3_breaks_41 : decode cX3_breaks 41 = .ok (.istore_n 2, 1) := by decide +kernel
theorem dX3_breaks_42 : decode cX3_breaks 42 = .ok (.iinc 3 1, 3) := by decide +kernel
theorem dX3_breaks_45 : decode cX3_breaks 45 = .ok (.goto (-39), 3) := by decide +kernel
theorem dX3_breaks_48 : decode cX3_breaks 48 = .ok (.iload_n 1, 1) := by decide +kernel
theorem dX3_breaks_49 : decode cX3_breaks 49 = .ok (.ireturn, 1) := by decide +kernel
theorem dX3_fault_0 : decode cX3_fault 0 = .ok (.aload_n 0, 1) := by decide +kernel
theorem dX3_fault_1 : decode cX3_fault 1 = .ok (.getfield 12, 3) := by decide +kernel
theorem dX3_fault_4 : decode cX3_fault 4 = .ok (.getfield 62, 3) := by decide +kernel
theorem dX3_fault_7 : decode cX3_fault 7 = .ok (.ifCond .ne 5, 3) := by decide +kernel
theorem dX3_fault_10 : decode cX3_fault 10 = .ok (.iconst 1, 1) := by decide +kernel
theorem dX3_fault_11 : decode cX3_fault 11 = .ok (.ireturn, 1) := by decide +kernel
theorem dX3_fault_12 : decode cX3_fault 12 = .ok (.aload_n 0, 1) := by decide +kernel
theorem dX3_fault_13 : decode cX3_fault 13 = .ok (.getfield 12, 3) := by decide +kernel
theorem dX3_fault_16 : decode cX3_fault 16 = .ok (.invokevirtual 96, 3) := by decide +kernel
theorem dX3_fault_19 : decode cX3_fault 19 = .ok (.iconst (-1), 1) := by decide +kernel
theorem dX3_fault_20 : decode cX3_fault 20 = .ok (.if_icmp .eq 5, 3) := by decide +kernel
theorem dX3_fault_23 : decode cX3_fault 23 = .ok (.iconst 2, 1) := by decide +kernel
theorem dX3_fault_24 : decode cX3_fault 24 = .ok (.ireturn, 1) := by decide +kernel
theorem dX3_fault_25 : decode cX3_fault 25 = .ok (.aload_n 0, 1) := by decide +kernel
theorem dX3_fault_26 : decode cX3_fault 26 = .ok (.getfield 12, 3) := by decide +kernel
theorem dX3_fault_29 : decode cX3_fault 29 = .ok (.aload_n 0, 1) := by decide +kernel
theorem dX3_fault_30 : decode cX3_fault 30 = .ok (.invokevirtual 100, 3) := by decide +kernel
theorem dX3_fault_33 : decode cX3_fault 33 = .ok (.invokevirtual 103, 3) := by decide +kernel
theorem dX3_fault_36 : decode cX3_fault 36 = .ok (.iconst (-1), 1) := by decide +kernel
theorem dX3_fault_37 : decode cX3_fault 37 = .ok (.if_icmp .eq 5, 3) := by decide +kernel
theorem dX3_fault_40 : decode cX3_fault 40 = .ok (.iconst 3, 1) := by decide +kernel
theorem dX3_fault_41 : decode cX3_fault 41 = .ok (.ireturn, 1) := by decide +kernel
theorem dX3_fault_42 : decode cX3_fault 42 = .ok (.aload_n 0, 1) := by decide +kernel
theorem dX3_fault_43 : decode cX3_fault 43 = .ok (.getfield 12, 3) := by decide +kernel
theorem dX3_fault_46 : decode cX3_fault 46 = .ok (.invokevirtual 106, 3) := by decide +kernel
theorem dX3_fault_49 : decode cX3_fault 49 = .ok (.iconst (-1), 1) := by decide +kernel
theorem dX3_fault_50 : decode cX3_fault 50 = .ok (.if_icmp .eq 5, 3) := by decide +kernel
theorem dX3_fault_53 : decode cX3_fault 53 = .ok (.iconst 4, 1) := by decide +kernel
theorem dX3_fault_54 : decode cX3_fault 54 = .ok (.ireturn, 1) := by decide +kernel
theorem dX3_fault_55 : decode cX3_fault 55 = .ok (.aload_n 0, 1) := by decide +kernel
theorem dX3_fault_56 : decode cX3_fault 56 = .ok (.invokevirtual 109, 3) := by decide +kernel
theorem dX3_fault_59 : decode cX3_fault 59 = .ok (.iconst (-1), 1) := by decide +kernel
theorem dX3_fault_60 : decode cX3_fault 60 = .ok (.if_icmp .eq 5, 3) := by decide +kernel
theorem dX3_fault_63 : decode cX3_fault 63 = .ok (.iconst 5, 1) := by decide +kernel
theorem dX3_fault_64 : decode cX3_fault 64 = .ok (.ireturn, 1) := by decide +kernel
theorem dX3_fault_65 : decode cX3_fault 65 = .ok (.aload_n 0, 1) := by decide +kernel
theorem dX3_fault_66 : decode cX3_fault 66 = .ok (.getfield 12, 3) := by decide +kernel
theorem dX3_fault_69 : decode cX3_fault 69 = .ok (.invokevirtual 112, 3) := by decide +kernel
theorem dX3_fault_72 : decode cX3_fault 72 = .ok (.iconst (-1), 1) := by decide +kernel
theorem dX3_fault_73 : decode cX3_fault 73 = .ok (.if_icmp .eq 8, 3) := by decide +kernel
theorem dX3_fault_76 : decode cX3_fault 76 = .ok (.bipush 6, 2) := by decide +kernel
theorem dX3_fault_78 : decode cX3_fault 78 = .ok (.goto 4, 3) := by decide +kernel
theorem dX3_fault_81 : decode cX3_fault 81 = .ok (.iconst 0, 1) := by decide +kernel
theorem dX3_fault_82 : decode cX3_fault 82 = .ok (.ireturn, 1) := by decide +kernel
theorem dX3_placeOfFault_0 : decode cX3_placeOfFault 0 = .ok (.aload_n 0, 1) := by decide +kernel
theorem dX3_placeOfFault_1 : decode cX3_placeOfFault 1 = .ok (.invokevirtual 115, 3) := by decide +kernel
theorem dX3_placeOfFault_4 : decode cX3_placeOfFault 4 = .ok (.tableswitch 72 2 6 #[36, 44, 56, 72, 64], 36) := by decide +kernel
theorem dX3_placeOfFault_40 : decode cX3_placeOfFault 40 = .ok (.aload_n 0, 1) := by decide +kernel
theorem dX3_placeOfFault_41 : decode cX3_placeOfFault 41 = .ok (.getfield 12, 3) := by decide +kernel
theorem dX3_placeOfFault_44 : decode cX3_placeOfFault 44 = .ok (.invokevirtual 96, 3) := by decide +kernel
theorem dX3_placeOfFault_47 : decode cX3_placeOfFault 47 = .ok (.ireturn, 1) := by decide +kernel
theorem dX3_placeOfFault_48 : decode cX3_placeOfFault 48 = .ok (.aload_n 0, 1) := by decide +kernel
theorem dX3_placeOfFault_49 : decode cX3_placeOfFault 49 = .ok (.getfield 12, 3) := by decide +kernel
theorem dX3_placeOfFault_52 : decode cX3_placeOfFault 52 = .ok (.aload_n 0, 1) := by decide +kernel
theorem dX3_placeOfFault_53 : decode cX3_placeOfFault 53 = .ok (.invokevirtual 100, 3) := by decide +kernel
theorem dX3_placeOfFault_56 : decode cX3_placeOfFault 56 = .ok (.invokevirtual 103, 3) := by decide +kernel
theorem dX3_placeOfFault_59 : decode cX3_placeOfFault 59 = .ok (.ireturn, 1) := by decide +kernel
theorem dX3_placeOfFault_60 : decode cX3_placeOfFault 60 = .ok (.aload_n 0, 1) := by decide +kernel
theorem dX3_placeOfFault_61 : decode cX3_placeOfFault 61 = .ok (.getfield 12, 3) := by decide +kernel
theorem dX3_placeOfFault_64 : decode cX3_placeOfFault 64 = .ok (.invokevirtual 106, 3) := by decide +kernel
theorem dX3_placeOfFault_67 : decode cX3_placeOfFault 67 = .ok (.ireturn, 1) := by decide +kernel
theorem dX3_placeOfFault_68 : decode cX3_placeOfFault 68 = .ok (.aload_n 0, 1) := by decide +kernel
theorem dX3_placeOfFault_69 : decode cX3_placeOfFault 69 = .ok (.getfield 12, 3) := by decide +kernel
theorem dX3_placeOfFault_72 : decode cX3_placeOfFault 72 = .ok (.invokevirtual 112, 3) := by decide +kernel
theorem dX3_placeOfFault_75 : decode cX3_placeOfFault 75 = .ok (.ireturn, 1) := by decide +kernel
theorem dX3_placeOfFault_76 : decode cX3_placeOfFault 76 = .ok (.iconst (-1), 1) := by decide +kernel
theorem dX3_placeOfFault_77 : decode cX3_placeOfFault 77 = .ok (.ireturn, 1) := by decide +kernel
theorem dX3_lowestMissing_0 : decode cX3_lowestMissing 0 = .ok (.iconst 0, 1) := by decide +kernel
theorem dX3_lowestMissing_1 : decode cX3_lowestMissing 1 = .ok (.istore_n 1, 1) := by decide +kernel
theorem dX3_lowestMissing_2 : decode cX3_lowestMissing 2 = .ok (.iload_n 1, 1) := by decide +kernel
theorem dX3_lowestMissing_3 : decode cX3_lowestMissing 3 = .ok (.aload_n 0, 1) := by decide +kernel
theorem dX3_lowestMissing_4 : decode cX3_lowestMissing 4 = .ok (.invokevirtual 100, 3) := by decide +kernel
theorem dX3_lowestMissing_7 : decode cX3_lowestMissing 7 = .ok (.if_icmp .ge 28, 3) := by decide +kernel
theorem dX3_lowestMissing_10 : decode cX3_lowestMissing 10 = .ok (.iload_n 1, 1) := by decide +kernel
theorem dX3_lowestMissing_11 : decode cX3_lowestMissing 11 = .ok (.bipush 16, 2) := by decide +kernel
theorem dX3_lowestMissing_13 : decode cX3_lowestMissing 13 = .ok (.if_icmp .ge 22, 3) := by decide +kernel
theorem dX3_lowestMissing_16 : decode cX3_lowestMissing 16 = .ok (.aload_n 0, 1) := by decide +kernel
theorem dX3_lowestMissing_17 : decode cX3_lowestMissing 17 = .ok (.getfield 12, 3) := by decide +kernel
theorem dX3_lowestMissing_20 : decode cX3_lowestMissing 20 = .ok (.iload_n 1, 1) := by decide +kernel
theorem dX3_lowestMissing_21 : decode cX3_lowestMissing 21 = .ok (.invokevirtual 80, 3) := by decide +kernel
theorem dX3_lowestMissing_24 : decode cX3_lowestMissing 24 = .ok (.ifCond .ne 5, 3) := by decide +kernel
theorem dX3_lowestMissing_27 : decode cX3_lowestMissing 27 = .ok (.iload_n 1, 1) := by decide +kernel
theorem dX3_lowestMissing_28 : decode cX3_lowestMissing 28 = .ok (.ireturn, 1) := by decide +kernel
theorem dX3_lowestMissing_29 : decode cX3_lowestMissing 29 = .ok (.iinc 1 1, 3) := by decide +kernel
theorem dX3_lowestMissing_32 : decode cX3_lowestMissing 32 = .ok (.goto (-30), 3) := by decide +kernel
theorem dX3_lowestMissing_35 : decode cX3_lowestMissing 35 = .ok (.iconst (-1), 1) := by decide +kernel
theorem dX3_lowestMissing_36 : decode cX3_lowestMissing 36 = .ok (.ireturn, 1) := by decide +kernel
theorem dX3_holesAt_0 : decode cX3_holesAt 0 = .ok (.aload_n 0, 1) := by decide +kernel
theorem dX3_holesAt_1 : decode cX3_holesAt 1 = .ok (.getfield 28, 3) := by decide +kernel
theorem dX3_holesAt_4 : decode cX3_holesAt 4 = .ok (.aload_n 0, 1) := by decide +kernel
theorem dX3_holesAt_5 : decode cX3_holesAt 5 = .ok (.getfield 12, 3) := by decide +kernel
theorem dX3_holesAt_8 : decode cX3_holesAt 8 = .ok (.getfield 73, 3) := by decide +kernel
theorem dX3_holesAt_11 : decode cX3_holesAt 11 = .ok (.iload_n 1, 1) := by decide +kernel
theorem dX3_holesAt_12 : decode cX3_holesAt 12 = .ok (.invokestatic 58, 3) := by decide +kernel
theorem dX3_holesAt_15 : decode cX3_holesAt 15 = .ok (.invokestatic 58, 3) := by decide +kernel
theorem dX3_holesAt_18 : decode cX3_holesAt 18 = .ok (.ireturn, 1) := by decide +kernel
theorem dX3_stitchesAheadOf_0 : decode cX3_stitchesAheadOf 0 = .ok (.iload_n 1, 1) := by decide +kernel
theorem dX3_stitchesAheadOf_1 : decode cX3_stitchesAheadOf 1 = .ok (.ifCond .le 22, 3) := by decide +kernel
theorem dX3_stitchesAheadOf_4 : decode cX3_stitchesAheadOf 4 = .ok (.aload_n 0, 1) := by decide +kernel
theorem dX3_stitchesAheadOf_5 : decode cX3_stitchesAheadOf 5 = .ok (.iload_n 1, 1) := by decide +kernel
theorem dX3_stitchesAheadOf_6 : decode cX3_stitchesAheadOf 6 = .ok (.iconst 1, 1) := by decide +kernel
theorem dX3_stitchesAheadOf_7 : decode cX3_stitchesAheadOf 7 = .ok (.isub, 1) := by decide +kernel
theorem dX3_stitchesAheadOf_8 : decode cX3_stitchesAheadOf 8 = .ok (.invokevirtual 118, 3) := by decide +kernel
theorem dX3_stitchesAheadOf_11 : decode cX3_stitchesAheadOf 11 = .ok (.aload_n 0, 1) := by decide +kernel
theorem dX3_stitchesAheadOf_12 : decode cX3_stitchesAheadOf 12 = .ok (.iload_n 1, 1) := by decide +kernel
theorem dX3_stitchesAheadOf_13 : decode cX3_stitchesAheadOf 13 = .ok (.invokevirtual 118, 3) := by decide +kernel
theorem dX3_stitchesAheadOf_16 : decode cX3_stitchesAheadOf 16 = .ok (.iand, 1) := by decide +kernel
theorem dX3_stitchesAheadOf_17 : decode cX3_stitchesAheadOf 17 = .ok (.invokestatic 121, 3) := by decide +kernel
theorem dX3_stitchesAheadOf_20 : decode cX3_stitchesAheadOf 20 = .ok (.goto 4, 3) := by decide +kernel
theorem dX3_stitchesAheadOf_23 : decode cX3_stitchesAheadOf 23 = .ok (.iconst 0, 1) := by decide +kernel
theorem dX3_stitchesAheadOf_24 : decode cX3_stitchesAheadOf 24 = .ok (.ireturn, 1) := by decide +kernel
theorem dX3_stitches_0 : decode cX3_stitches 0 = .ok (.iconst 0, 1) := by decide +kernel
theorem dX3_stitches_1 : decode cX3_stitches 1 = .ok (.istore_n 1, 1) := by decide +kernel
theorem dX3_stitches_2 : decode cX3_stitches 2 = .ok (.iconst 1, 1) := by decide +kernel
theorem dX3_stitches_3 : decode cX3_stitches 3 = .ok (.istore_n 2, 1) := by decide +kernel
theorem dX3_stitches_4 : decode cX3_stitches 4 = .ok (.iload_n 2, 1) := by decide +kernel
theorem dX3_stitches_5 : decode cX3_stitches 5 = .ok (.aload_n 0, 1) := by decide +kernel
theorem dX3_stitches_6 : decode cX3_stitches 6 = .ok (.getfield 12, 3) := by decide +kernel
theorem dX3_stitches_9 : decode cX3_stitches 9 = .ok (.getfield 62, 3) := by decide +kernel
theorem dX3_stitches_12 : decode cX3_stitches 12 = .ok (.if_icmp .ge 17, 3) := by decide +kernel
theorem dX3_stitches_15 : decode cX3_stitches 15 = .ok (.iload_n 1, 1) := by decide +kernel
theorem dX3_stitches_16 : decode cX3_stitches 16 = .ok (.aload_n 0, 1) := by decide +kernel
theorem dX3_stitches_17 : decode cX3_stitches 17 = .ok (.iload_n 2, 1) := by decide +kernel
theorem dX3_stitches_18 : decode cX3_stitches 18 = .ok (.invokevirtual 126, 3) := by decide +kernel
theorem dX3_stitches_21 : decode cX3_stitches 21 = .ok (.iadd, 1) := by decide +kernel
theorem dX3_stitches_22 : decode cX3_stitches 22 = .ok (.istore_n 1, 1) := by decide +kernel
theorem dX3_stitches_23 : decode cX3_stitches 23 = .ok (.iinc 2 1, 3) := by decide +kernel
theorem dX3_stitches_26 : decode cX3_stitches 26 = .ok (.goto (-22), 3) := by decide +kernel
theorem dX3_stitches_29 : decode cX3_stitches 29 = .ok (.iload_n 1, 1) := by decide +kernel
theorem dX3_stitches_30 : decode cX3_stitches 30 = .ok (.ireturn, 1) := by decide +kernel
theorem dX3_loosePlaces_0 : decode cX3_loosePlaces 0 = .ok (.iconst 0, 1) := by decide +kernel
theorem dX3_loosePlaces_1 : decode cX3_loosePlaces 1 = .ok (.istore_n 1, 1) := by decide +kernel
theorem dX3_loosePlaces_2 : decode cX3_loosePlaces 2 = .ok (.iconst 1, 1) := by decide +kernel
theorem dX3_loosePlaces_3 : decode cX3_loosePlaces 3 = .ok (.istore_n 2, 1) := by decide +kernel
theorem dX3_loosePlaces_4 : decode cX3_loosePlaces 4 = .ok (.iload_n 2, 1) := by decide +kernel
theorem dX3_loosePlaces_5 : decode cX3_loosePlaces 5 = .ok (.aload_n 0, 1) := by decide +kernel
theorem dX3_loosePlaces_6 : decode cX3_loosePlaces 6 = .ok (.getfield 12, 3) := by decide +kernel
theorem dX3_loosePlaces_9 : decode cX3_loosePlaces 9 = .ok (.getfield 62, 3) := by decide +kernel
theorem dX3_loosePlaces_12 : decode cX3_loosePlaces 12 = .ok (.if_icmp .ge 20, 3) := by decide +kernel
theorem dX3_loosePlaces_15 : decode cX3_loosePlaces 15 = .ok (.aload_n 0, 1) := by decide +kernel
theorem dX3_loosePlaces_16 : decode cX3_loosePlaces 16 = .ok (.iload_n 2, 1) := by decide +kernel
theorem dX3_loosePlaces_17 : decode cX3_loosePlaces 17 = .ok (.invokevirtual 126, 3) := by decide +kernel
theorem dX3_loosePlaces_20 : decode cX3_loosePlaces 20 = .ok (.ifCond .ne 6, 3) := by decide +kernel
theorem dX3_loosePlaces_23 : decode cX3_loosePlaces 23 = .ok (.iinc 1 1, 3) := by decide +kernel
theorem dX3_loosePlaces_26 : decode cX3_loosePlaces 26 = .ok (.iinc 2 1, 3) := by decide +kernel
theorem dX3_loosePlaces_29 : decode cX3_loosePlaces 29 = .ok (.goto (-25), 3) := by decide +kernel
theorem dX3_loosePlaces_32 : decode cX3_loosePlaces 32 = .ok (.iload_n 1, 1) := by decide +kernel
theorem dX3_loosePlaces_33 : decode cX3_loosePlaces 33 = .ok (.ireturn, 1) := by decide +kernel
theorem dX3_threadLength_0 : decode cX3_threadLength 0 = .ok (.aload_n 0, 1) := by decide +kernel
theorem dX3_threadLength_1 : decode cX3_threadLength 1 = .ok (.invokevirtual 129, 3) := by decide +kernel
theorem dX3_threadLength_4 : decode cX3_threadLength 4 = .ok (.aload_n 0, 1) := by decide +kernel
theorem dX3_threadLength_5 : decode cX3_threadLength 5 = .ok (.getfield 31, 3) := by decide +kernel
theorem dX3_threadLength_8 : decode cX3_threadLength 8 = .ok (.iconst 2, 1) := by decide +kernel
theorem dX3_threadLength_9 : decode cX3_threadLength 9 = .ok (.invokestatic 58, 3) := by decide +kernel
theorem dX3_threadLength_12 : decode cX3_threadLength 12 = .ok (.imul, 1) := by decide +kernel
theorem dX3_threadLength_13 : decode cX3_threadLength 13 = .ok (.istore_n 1, 1) := by decide +kernel
theorem dX3_threadLength_14 : decode cX3_threadLength 14 = .ok (.iconst 0, 1) := by decide +kernel
theorem dX3_threadLength_15 : decode cX3_threadLength 15 = .ok (.istore_n 2, 1) := by decide +kernel
theorem dX3_threadLength_16 : decode cX3_threadLength 16 = .ok (.iload_n 2, 1) := by decide +kernel
theorem dX3_threadLength_17 : decode cX3_threadLength 17 = .ok (.aload_n 0, 1) := by decide +kernel
theorem dX3_threadLength_18 : decode cX3_threadLength 18 = .ok (.getfield 12, 3) := by decide +kernel
theorem dX3_threadLength_21 : decode cX3_threadLength 21 = .ok (.getfield 62, 3) := by decide +kernel
theorem dX3_threadLength_24 : decode cX3_threadLength 24 = .ok (.if_icmp .ge 20, 3) := by decide +kernel
theorem dX3_threadLength_27 : decode cX3_threadLength 27 = .ok (.iload_n 1, 1) := by decide +kernel
theorem dX3_threadLength_28 : decode cX3_threadLength 28 = .ok (.aload_n 0, 1) := by decide +kernel
theorem dX3_threadLength_29 : decode cX3_threadLength 29 = .ok (.iload_n 2, 1) := by decide +kernel
theorem dX3_threadLength_30 : decode cX3_threadLength 30 = .ok (.invokevirtual 118, 3) := by decide +kernel
theorem dX3_threadLength_33 : decode cX3_threadLength 33 = .ok (.invokestatic 132, 3) := by decide +kernel
theorem dX3_threadLength_36 : decode cX3_threadLength 36 = .ok (.iadd, 1) := by decide +kernel
theorem dX3_threadLength_37 : decode cX3_threadLength 37 = .ok (.istore_n 1, 1) := by decide +kernel
theorem dX3_threadLength_38 : decode cX3_threadLength 38 = .ok (.iinc 2 1, 3) := by decide +kernel
theorem dX3_threadLength_41 : decode cX3_threadLength 41 = .ok (.goto (-25), 3) := by decide +kernel
theorem dX3_threadLength_44 : decode cX3_threadLength 44 = .ok (.iload_n 1, 1) := by decide +kernel
theorem dX3_threadLength_45 : decode cX3_threadLength 45 = .ok (.ireturn, 1) := by decide +kernel
theorem dX3_spanOfHoles_0 : decode cX3_spanOfHoles 0 = .ok (.iconst 0, 1) := by decide +kernel
theorem dX3_spanOfHoles_1 : decode cX3_spanOfHoles 1 = .ok (.istore_n 1, 1) := by decide +kernel
theorem dX3_spanOfHoles_2 : decode cX3_spanOfHoles 2 = .ok (.iload_n 1, 1) := by decide +kernel
theorem dX3_spanOfHoles_3 : decode cX3_spanOfHoles 3 = .ok (.iconst 5, 1) := by decide +kernel
theorem dX3_spanOfHoles_4 : decode cX3_spanOfHoles 4 = .ok (.if_icmp .ge 17, 3) := by decide +kernel
theorem dX3_spanOfHoles_7 : decode cX3_spanOfHoles 7 = .ok (.iload_n 0, 1) := by decide +kernel
theorem dX3_spanOfHoles_8 : decode cX3_spanOfHoles 8 = .ok (.iload_n 1, 1) := by decide +kernel
theorem dX3_spanOfHoles_9 : decode cX3_spanOfHoles 9 = .ok (.ishr, 1) := by decide +kernel
theorem dX3_spanOfHoles_10 : decode cX3_spanOfHoles 10 = .ok (.iconst 1, 1) := by decide +kernel
theorem dX3_spanOfHoles_11 : decode cX3_spanOfHoles 11 = .ok (.iand, 1) := by decide +kernel
theorem dX3_spanOfHoles_12 : decode cX3_spanOfHoles 12 = .ok (.ifCond .ne 9, 3) := by decide +kernel
theorem dX3_spanOfHoles_15 : decode cX3_spanOfHoles 15 = .ok (.iinc 1 1, 3) := by decide +kernel
theorem dX3_spanOfHoles_18 : decode cX3_spanOfHoles 18 = .ok (.goto (-16), 3) := by decide +kernel
theorem dX3_spanOfHoles_21 : decode cX3_spanOfHoles 21 = .ok (.iconst 4, 1) := by decide +kernel
theorem dX3_spanOfHoles_22 : decode cX3_spanOfHoles 22 = .ok (.istore_n 2, 1) := by decide +kernel
theorem dX3_spanOfHoles_23 : decode cX3_spanOfHoles 23 = .ok (.iload_n 2, 1) := by decide +kernel
theorem dX3_spanOfHoles_24 : decode cX3_spanOfHoles 24 = .ok (.iload_n 1, 1) := by decide +kernel
theorem dX3_spanOfHoles_25 : decode cX3_spanOfHoles 25 = .ok (.if_icmp .le 17, 3) := by decide +kernel
theorem dX3_spanOfHoles_28 : decode cX3_spanOfHoles 28 = .ok (.iload_n 0, 1) := by decide +kernel
theorem dX3_spanOfHoles_29 : decode cX3_spanOfHoles 29 = .ok (.iload_n 2, 1) := by decide +kernel
theorem dX3_spanOfHoles_30 : decode cX3_spanOfHoles 30 = .ok (.ishr, 1) := by decide +kernel
theorem dX3_spanOfHoles_31 : decode cX3_spanOfHoles 31 = .ok (.iconst 1, 1) := by decide +kernel
theorem dX3_spanOfHoles_32 : decode cX3_spanOfHoles 32 = .ok (.iand, 1) := by decide +kernel
theorem dX3_spanOfHoles_33 : decode cX3_spanOfHoles 33 = .ok (.ifCond .ne 9, 3) := by decide +kernel
theorem dX3_spanOfHoles_36 : decode cX3_spanOfHoles 36 = .ok (.iinc 2 (-1), 3) := by decide +kernel
theorem dX3_spanOfHoles_39 : decode cX3_spanOfHoles 39 = .ok (.goto (-16), 3) := by decide +kernel
theorem dX3_spanOfHoles_42 : decode cX3_spanOfHoles 42 = .ok (.iconst 0, 1) := by decide +kernel
theorem dX3_spanOfHoles_43 : decode cX3_spanOfHoles 43 = .ok (.iload_n 2, 1) := by decide +kernel
theorem dX3_spanOfHoles_44 : decode cX3_spanOfHoles 44 = .ok (.iload_n 1, 1) := by decide +kernel
theorem dX3_spanOfHoles_45 : decode cX3_spanOfHoles 45 = .ok (.isub, 1) := by decide +kernel
theorem dX3_spanOfHoles_46 : decode cX3_spanOfHoles 46 = .ok (.invokestatic 135, 3) := by decide +kernel
theorem dX3_spanOfHoles_49 : decode cX3_spanOfHoles 49 = .ok (.ireturn, 1) := by decide +kernel
theorem dX4_init_0 : decode cX4_init 0 = .ok (.aload_n 0, 1) := by decide +kernel
theorem dX4_init_1 : decode cX4_init 1 = .ok (.invokespecial 1, 3) := by decide +kernel
theorem dX4_init_4 : decode cX4_init 4 = .ok (.aload_n 0, 1) := by decide +kernel
theorem dX4_init_5 : decode cX4_init 5 = .ok (.new 7, 3) := by decide +kernel
theorem dX4_init_8 : decode cX4_init 8 = .ok (.dup, 1) := by decide +kernel
theorem dX4_init_9 : decode cX4_init 9 = .ok (.invokespecial 9, 3) := by decide +kernel
theorem dX4_init_12 : decode cX4_init 12 = .ok (.putfield 10, 3) := by decide +kernel
theorem dX4_init_15 : decode cX4_init 15 = .ok (.aload_n 0, 1) := by decide +kernel
theorem dX4_init_16 : decode cX4_init 16 = .ok (.new 7, 3) := by decide +kernel
theorem dX4_init_19 : decode cX4_init 19 = .ok (.dup, 1) := by decide +kernel
theorem dX4_init_20 : decode cX4_init 20 = .ok (.invokespecial 9, 3) := by decide +kernel
theorem dX4_init_23 : decode cX4_init 23 = .ok (.putfield 16, 3) := by decide +kernel
theorem dX4_init_26 : decode cX4_init 26 = .ok (.aload_n 0, 1) := by decide +kernel
theorem dX4_init_27 : decode cX4_init 27 = .ok (.new 7, 3) := by decide +kernel
theorem dX4_init_30 : decode cX4_init 30 = .ok (.dup, 1) := by decide +kernel
theorem dX4_init_31 : decode cX4_init 31 = .ok (.invokespecial 9, 3) := by decide +kernel
theorem dX4_init_34 : decode cX4_init 34 = .ok (.putfield 19, 3) := by decide +kernel
theorem dX4_init_37 : decode cX4_init 37 = .ok (.aload_n 0, 1) := by decide +kernel
theorem dX4_init_38 : decode cX4_init 38 = .ok (.new 22, 3) := by decide +kernel
theorem dX4_init_41 : decode cX4_init 41 = .ok (.dup, 1) := by decide +kernel
theorem dX4_init_42 : decode cX4_init 42 = .ok (.invokespecial 24, 3) := by decide +kernel
theorem dX4_init_45 : decode cX4_init 45 = .ok (.putfield 25, 3) := by decide +kernel
theorem dX4_init_48 : decode cX4_init 48 = .ok (.aload_n 0, 1) := by decide +kernel
theorem dX4_init_49 : decode cX4_init 49 = .ok (.new 29, 3) := by decide +kernel
theorem dX4_init_52 : decode cX4_init 52 = .ok (.dup, 1) := by decide +kernel
theorem dX4_init_53 : decode cX4_init 53 = .ok (.invokespecial 31, 3) := by decide +kernel
theorem dX4_init_56 : decode cX4_init 56 = .ok (.putfield 32, 3) := by decide +kernel
theorem dX4_init_59 : decode cX4_init 59 = .ok (.aload_n 0, 1) := by decide +kernel
theorem dX4_init_60 : decode cX4_init 60 = .ok (.bipush 60, 2) := by decide +kernel
theorem dX4_init_62 : decode cX4_init 62 = .ok (.newarray .int, 2) := by decide +kernel
theorem dX4_init_64 : decode cX4_init 64 = .ok (.putfield 36, 3) := by decide +kernel
theorem dX4_init_67 : decode cX4_init 67 = .ok (.aload_n 0, 1) := by decide +kernel
theorem dX4_init_68 : decode cX4_init 68 = .ok (.iconst 0, 1) := by decide +kernel
theorem dX4_init_69 : decode cX4_init 69 = .ok (.putfield 40, 3) := by decide +kernel
theorem dX4_init_72 : decode cX4_init 72 = .ok (.aload_n 0, 1) := by decide +kernel
theorem dX4_init_73 : decode cX4_init 73 = .ok (.iconst 0, 1) := by decide +kernel
theorem dX4_init_74 : decode cX4_init 74 = .ok (.putfield 44, 3) := by decide +kernel
theorem dX4_init_77 : decode cX4_init 77 = .ok (.return_, 1) := by decide +kernel
theorem dX4_gather_0 : decode cX4_gather 0 = .ok (.iload_n 1, 1) := by decide +kernel
theorem dX4_gather_1 : decode cX4_gather 1 = .ok (.invokestatic 48, 3) := by decide +kernel
theorem dX4_gather_4 : decode cX4_gather 4 = .ok (.ifCond .ne 13, 3) := by decide +kernel
theorem dX4_gather_7 : decode cX4_gather 7 = .ok (.new 52, 3) := by decide +kernel
theorem dX4_gather_10 : decode cX4_gather 10 = .ok (.dup, 1) := by decide +kernel
theorem dX4_gather_11 : decode cX4_gather 11 = .ok (.ldc 54, 2) := by decide +kernel
theorem dX4_gather_13 : decode cX4_gather 13 = .ok (.invokespecial 56, 3) := by decide +kernel
theorem dX4_gather_16 : decode cX4_gather 16 = .ok (.athrow, 1) := by decide +kernel
theorem dX4_gather_17 : decode cX4_gather 17 = .ok (.aload_n 0, 1) := by decide +kernel
theorem dX4_gather_18 : decode cX4_gather 18 = .ok (.getfield 10, 3) := by decide +kernel
theorem dX4_gather_21 : decode cX4_gather 21 = .ok (.iload_n 1, 1) := by decide +kernel
theorem dX4_gather_22 : decode cX4_gather 22 = .ok (.invokevirtual 59, 3) := by decide +kernel
theorem dX4_gather_25 : decode cX4_gather 25 = .ok (.ifCond .ne 13, 3) := by decide +kernel
theorem dX4_gather_28 : decode cX4_gather 28 = .ok (.new 62, 3) := by decide +kernel
theorem dX4_gather_31 : decode cX4_gather 31 = .ok (.dup, 1) := by decide +kernel
theorem dX4_gather_32 : decode cX4_gather 32 = .ok (.ldc 64, 2) := by decide +kernel
theorem dX4_gather_34 : decode cX4_gather 34 = .ok (.invokespecial 66, 3) := by decide +kernel
theorem dX4_gather_37 : decode cX4_gather 37 = .ok (.athrow, 1) := by decide +kernel
theorem dX4_gather_38 : decode cX4_gather 38 = .ok (.aload_n 0, 1) := by decide +kernel
theorem dX4_gather_39 : decode cX4_gather 39 = .ok (.getfield 25, 3) := by decide +kernel
theorem dX4_gather_42 : decode cX4_gather 42 = .ok (.aload_n 0, 1) := by decide +kernel
theorem dX4_gather_43 : decode cX4_gather 43 = .ok (.getfield 10, 3) := by decide +kernel
theorem dX4_gather_46 : decode cX4_gather 46 = .ok (.invokevirtual 67, 3) := by decide +kernel
theorem dX4_gather_49 : decode cX4_gather 49 = .ok (.aload_n 0, 1) := by decide +kernel
theorem dX4_gather_50 : decode cX4_gather 50 = .ok (.getfield 10, 3) := by decide +kernel
theorem dX4_gather_53 : decode cX4_gather 53 = .ok (.aload_n 0, 1) := by decide +kernel
theorem dX4_gather_54 : decode cX4_gather 54 = .ok (.getfield 10, 3) := by decide +kernel
theorem dX4_gather_57 : decode cX4_gather 57 = .ok (.getfield 71, 3) := by decide +kernel
theorem dX4_gather_60 : decode cX4_gather 60 = .ok (.getfield 75, 3) := by decide +kernel
theorem dX4_gather_63 : decode cX4_gather 63 = .ok (.iload_n 1, 1) := by decide +kernel
theorem dX4_gather_64 : decode cX4_gather 64 = .ok (.invokevirtual 80, 3) := by decide +kernel
theorem dX4_gather_67 : decode cX4_gather 67 = .ok (.aload_n 0, 1) := by decide +kernel
theorem dX4_gather_68 : decode cX4_gather 68 = .ok (.getfield 10, 3) := by decide +kernel
theorem dX4_gather_71 : decode cX4_gather 71 = .ok (.getfield 71, 3) := by decide +kernel
theorem dX4_gather_74 : decode cX4_gather 74 = .ok (.getfield 75, 3) := by decide +kernel
theorem dX4_gather_77 : decode cX4_gather 77 = .ok (.ireturn, 1) := by decide +kernel
theorem dX4_insert_0 : decode cX4_insert 0 = .ok (.iload_n 1, 1) := by decide +kernel
theorem dX4_insert_1 : decode cX4_insert 1 = .ok (.ifCond .lt 24, 3) := by decide +kernel
theorem dX4_insert_4 : decode cX4_insert 4 = .ok (.iload_n 1, 1) := by decide +kernel
theorem dX4_insert_5 : decode cX4_insert 5 = .ok (.aload_n 0, 1) := by decide +kernel
theorem dX4_insert_6 : decode cX4_insert 6 = .ok (.getfield 10, 3) := by decide +kernel
theorem dX4_insert_9 : decode cX4_insert 9 = .ok (.getfield 71, 3) := by decide +kernel
theorem dX4_insert_12 : decode cX4_insert 12 = .ok (.getfield 75, 3) := by decide +kernel
theorem dX4_insert_15 : decode cX4_insert 15 = .ok (.if_icmp .gt 10, 3) := by decide +kernel
theorem dX4_insert_18 : decode cX4_insert 18 = .ok (.iload_n 2, 1) := by decide +kernel
theorem dX4_insert_19 : decode cX4_insert 19 = .ok (.invokestatic 48, 3) := by decide +kernel
theorem dX4_insert_22 : decode cX4_insert 22 = .ok (.ifCond .ne 13, 3) := by decide +kernel
theorem dX4_insert_25 : decode cX4_insert 25 = .ok (.new 52, 3) := by decide +kernel
theorem dX4_insert_28 : decode cX4_insert 28 = .ok (.dup, 1) := by decide +kernel
theorem dX4_insert_29 : decode cX4_insert 29 = .ok (.ldc 84, 2) := by decide +kernel
theorem dX4_insert_31 : decode cX4_insert 31 = .ok (.invokespecial 56, 3) := by decide +kernel
theorem dX4_insert_34 : decode cX4_insert 34 = .ok (.athrow, 1) := by decide +kernel
theorem dX4_insert_35 : decode cX4_insert 35 = .ok (.aload_n 0, 1) := by decide +kernel
theorem dX4_insert_36 : decode cX4_insert 36 = .ok (.getfield 10, 3) := by decide +kernel
theorem dX4_insert_39 : decode cX4_insert 39 = .ok (.iload_n 2, 1) := by decide +kernel
theorem dX4_insert_40 : decode cX4_insert 40 = .ok (.invokevirtual 59, 3) := by decide +kernel
theorem dX4_insert_43 : decode cX4_insert 43 = .ok (.ifCond .ne 13, 3) := by decide +kernel
theorem dX4_insert_46 : decode cX4_insert 46 = .ok (.new 62, 3) := by decide +kernel
theorem dX4_insert_49 : decode cX4_insert 49 = .ok (.dup, 1) := by decide +kernel
theorem dX4_insert_50 : decode cX4_insert 50 = .ok (.ldc 64, 2) := by decide +kernel
theorem dX4_insert_52 : decode cX4_insert 52 = .ok (.invokespecial 66, 3) := by decide +kernel
theorem dX4_insert_55 : decode cX4_insert 55 = .ok (.athrow, 1) := by decide +kernel
theorem dX4_insert_56 : decode cX4_insert 56 = .ok (.aload_n 0, 1) := by decide +kernel
theorem dX4_insert_57 : decode cX4_insert 57 = .ok (.getfield 25, 3) := by decide +kernel
theorem dX4_insert_60 : decode cX4_insert 60 = .ok (.aload_n 0, 1) := by decide +kernel
theorem dX4_insert_61 : decode cX4_insert 61 = .ok (.getfield 10, 3) := by decide +kernel
theorem dX4_insert_64 : decode cX4_insert 64 = .ok (.invokevirtual 67, 3) := by decide +kernel
theorem dX4_insert_67 : decode cX4_insert 67 = .ok (.aload_n 0, 1) := by decide +kernel
theorem dX4_insert_68 : decode cX4_insert 68 = .ok (.getfield 10, 3) := by decide +kernel
theorem dX4_insert_71 : decode cX4_insert 71 = .ok (.iload_n 1, 1) := by decide +kernel
theorem dX4_insert_72 : decode cX4_insert 72 = .ok (.iload_n 2, 1) := by decide +kernel
theorem dX4_insert_73 : decode cX4_insert 73 = .ok (.invokevirtual 80, 3) := by decide +kernel
theorem dX4_insert_76 : decode cX4_insert 76 = .ok (.aload_n 0, 1) := by decide +kernel
theorem dX4_insert_77 : decode cX4_insert 77 = .ok (.getfield 10, 3) := by decide +kernel
theorem dX4_insert_80 : decode cX4_insert 80 = .ok (.getfield 71, 3) := by decide +kernel
theorem dX4_insert_83 : decode cX4_insert 83 = .ok (.getfield 75, 3) := by decide +kernel
theorem dX4_insert_86 : decode cX4_insert 86 = .ok (.ireturn, 1) := by decide +kernel
theorem dX4_pull_0 : decode cX4_pull 0 = .ok (.aload_n 0, 1) := by decide +kernel
theorem dX4_pull_1 : decode cX4_pull 1 = .ok (.getfield 10, 3) := by decide +kernel
theorem dX4_pull_4 : decode cX4_pull 4 = .ok (.getfield 71, 3) := by decide +kernel
theorem dX4_pull_7 : decode cX4_pull 7 = .ok (.iload_n 1, 1) := by decide +kernel
theorem dX4_pull_8 : decode cX4_pull 8 = .ok (.invokevirtual 86, 3) := by decide +kernel
theorem dX4_pull_11 : decode cX4_pull 11 = .ok (.ifCond .ne 13, 3) := by decide +kernel
theorem dX4_pull_14 : decode cX4_pull 14 = .ok (.new 52, 3) := by decide +kernel
theorem dX4_pull_17 : decode cX4_pull 17 = .ok (.dup, 1) := by decide +kernel
theorem dX4_pull_18 : decode cX4_pull 18 = .ok (.ldc 89, 2) := by decide +kernel
theorem dX4_pull_20 : decode cX4_pull 20 = .ok (.invokespecial 56, 3) := by decide +kernel
theorem dX4_pull_23 : decode cX4_pull 23 = .ok (.athrow, 1) := by decide +kernel
theorem dX4_pull_24 : decode cX4_pull 24 = .ok (.aload_n 0, 1) := by decide +kernel
theorem dX4_pull_25 : decode cX4_pull 25 = .ok (.getfield 25, 3) := by decide +kernel
theorem dX4_pull_28 : decode cX4_pull 28 = .ok (.aload_n 0, 1) := by decide +kernel
theorem dX4_pull_29 : decode cX4_pull 29 = .ok (.getfield 10, 3) := by decide +kernel
theorem dX4_pull_32 : decode cX4_pull 32 = .ok (.invokevirtual 67, 3) := by decide +kernel
theorem dX4_pull_35 : decode cX4_pull 35 = .ok (.aload_n 0, 1) := by decide +kernel
theorem dX4_pull_36 : decode cX4_pull 36 = .ok (.getfield 10, 3) := by decide +kernel
theorem dX4_pull_39 : decode cX4_pull 39 = .ok (.iload_n 1, 1) := by decide +kernel
theorem dX4_pull_40 : decode cX4_pull 40 = .ok (.invokevirtual 91, 3) := by decide +kernel
