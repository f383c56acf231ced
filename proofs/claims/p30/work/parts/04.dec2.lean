theorem dX3_copyFrom_0 : decode cX3_copyFrom 0 = .ok (.aload_n 1, 1) := by decide +kernel
theorem dX3_copyFrom_1 : decode cX3_copyFrom 1 = .ok (.ifnull 85, 3) := by decide +kernel
theorem dX3_copyFrom_4 : decode cX3_copyFrom 4 = .ok (.aload_n 0, 1) := by decide +kernel
theorem dX3_copyFrom_5 : decode cX3_copyFrom 5 = .ok (.getfield 12, 3) := by decide +kernel
theorem dX3_copyFrom_8 : decode cX3_copyFrom 8 = .ok (.aload_n 1, 1) := by decide +kernel
theorem dX3_copyFrom_9 : decode cX3_copyFrom 9 = .ok (.getfield 12, 3) := by decide +kernel
theorem dX3_copyFrom_12 : decode cX3_copyFrom 12 = .ok (.invokevirtual 54, 3) := by decide +kernel
theorem dX3_copyFrom_15 : decode cX3_copyFrom 15 = .ok (.aload_n 1, 1) := by decide +kernel
theorem dX3_copyFrom_16 : decode cX3_copyFrom 16 = .ok (.getfield 18, 3) := by decide +kernel
theorem dX3_copyFrom_19 : decode cX3_copyFrom 19 = .ok (.aload_n 0, 1) := by decide +kernel
theorem dX3_copyFrom_20 : decode cX3_copyFrom 20 = .ok (.getfield 18, 3) := by decide +kernel
theorem dX3_copyFrom_23 : decode cX3_copyFrom 23 = .ok (.invokestatic 43, 3) := by decide +kernel
theorem dX3_copyFrom_26 : decode cX3_copyFrom 26 = .ok (.aload_n 1, 1) := by decide +kernel
theorem dX3_copyFrom_27 : decode cX3_copyFrom 27 = .ok (.getfield 22, 3) := by decide +kernel
theorem dX3_copyFrom_30 : decode cX3_copyFrom 30 = .ok (.aload_n 0, 1) := by decide +kernel
theorem dX3_copyFrom_31 : decode cX3_copyFrom 31 = .ok (.getfield 22, 3) := by decide +kernel
theorem dX3_copyFrom_34 : decode cX3_copyFrom 34 = .ok (.invokestatic 43, 3) := by decide +kernel
theorem dX3_copyFrom_37 : decode cX3_copyFrom 37 = .ok (.aload_n 1, 1) := by decide +kernel
theorem dX3_copyFrom_38 : decode cX3_copyFrom 38 = .ok (.getfield 25, 3) := by decide +kernel
theorem dX3_copyFrom_41 : decode cX3_copyFrom 41 = .ok (.aload_n 0, 1) := by decide +kernel
theorem dX3_copyFrom_42 : decode cX3_copyFrom 42 = .ok (.getfield 25, 3) := by decide +kernel
theorem dX3_copyFrom_45 : decode cX3_copyFrom 45 = .ok (.invokestatic 43, 3) := by decide +kernel
theorem dX3_copyFrom_48 : decode cX3_copyFrom 48 = .ok (.aload_n 1, 1) := by decide +kernel
theorem dX3_copyFrom_49 : decode cX3_copyFrom 49 = .ok (.getfield 28, 3) := by decide +kernel
theorem dX3_copyFrom_52 : decode cX3_copyFrom 52 = .ok (.aload_n 0, 1) := by decide +kernel
theorem dX3_copyFrom_53 : decode cX3_copyFrom 53 = .ok (.getfield 28, 3) := by decide +kernel
theorem dX3_copyFrom_56 : decode cX3_copyFrom 56 = .ok (.invokestatic 43, 3) := by decide +kernel
theorem dX3_copyFrom_59 : decode cX3_copyFrom 59 = .ok (.aload_n 1, 1) := by decide +kernel
theorem dX3_copyFrom_60 : decode cX3_copyFrom 60 = .ok (.getfield 31, 3) := by decide +kernel
theorem dX3_copyFrom_63 : decode cX3_copyFrom 63 = .ok (.aload_n 0, 1) := by decide +kernel
theorem dX3_copyFrom_64 : decode cX3_copyFrom 64 = .ok (.getfield 31, 3) := by decide +kernel
theorem dX3_copyFrom_67 : decode cX3_copyFrom 67 = .ok (.invokestatic 43, 3) := by decide +kernel
theorem dX3_copyFrom_70 : decode cX3_copyFrom 70 = .ok (.aload_n 0, 1) := by decide +kernel
theorem dX3_copyFrom_71 : decode cX3_copyFrom 71 = .ok (.aload_n 1, 1) := by decide +kernel
theorem dX3_copyFrom_72 : decode cX3_copyFrom 72 = .ok (.getfield 47, 3) := by decide +kernel
theorem dX3_copyFrom_75 : decode cX3_copyFrom 75 = .ok (.putfield 47, 3) := by decide +kernel
theorem dX3_copyFrom_78 : decode cX3_copyFrom 78 = .ok (.aload_n 0, 1) := by decide +kernel
theorem dX3_copyFrom_79 : decode cX3_copyFrom 79 = .ok (.aload_n 1, 1) := by decide +kernel
theorem dX3_copyFrom_80 : decode cX3_copyFrom 80 = .ok (.getfield 51, 3) := by decide +kernel
theorem dX3_copyFrom_83 : decode cX3_copyFrom 83 = .ok (.putfield 51, 3) := by decide +kernel
theorem dX3_copyFrom_86 : decode cX3_copyFrom 86 = .ok (.return_, 1) := by decide +kernel
theorem dX3_bookSheets_0 : decode cX3_bookSheets 0 = .ok (.aload_n 0, 1) := by decide +kernel
theorem dX3_bookSheets_1 : decode cX3_bookSheets 1 = .ok (.getfield 31, 3) := by decide +kernel
theorem dX3_bookSheets_4 : decode cX3_bookSheets 4 = .ok (.iconst 0, 1) := by decide +kernel
theorem dX3_bookSheets_5 : decode cX3_bookSheets 5 = .ok (.invokestatic 58, 3) := by decide +kernel
theorem dX3_bookSheets_8 : decode cX3_bookSheets 8 = .ok (.ireturn, 1) := by decide +kernel
theorem dX3_hasCopyAndRoom_0 : decode cX3_hasCopyAndRoom 0 = .ok (.aload_n 0, 1) := by decide +kernel
theorem dX3_hasCopyAndRoom_1 : decode cX3_hasCopyAndRoom 1 = .ok (.getfield 18, 3) := by decide +kernel
theorem dX3_hasCopyAndRoom_4 : decode cX3_hasCopyAndRoom 4 = .ok (.iload_n 1, 1) := by decide +kernel
theorem dX3_hasCopyAndRoom_5 : decode cX3_hasCopyAndRoom 5 = .ok (.invokestatic 58, 3) := by decide +kernel
theorem dX3_hasCopyAndRoom_8 : decode cX3_hasCopyAndRoom 8 = .ok (.ifCond .le 19, 3) := by decide +kernel
theorem dX3_hasCopyAndRoom_11 : decode cX3_hasCopyAndRoom 11 = .ok (.aload_n 0, 1) := by decide +kernel
theorem dX3_hasCopyAndRoom_12 : decode cX3_hasCopyAndRoom 12 = .ok (.getfield 12, 3) := by decide +kernel
theorem dX3_hasCopyAndRoom_15 : decode cX3_hasCopyAndRoom 15 = .ok (.getfield 62, 3) := by decide +kernel
theorem dX3_hasCopyAndRoom_18 : decode cX3_hasCopyAndRoom 18 = .ok (.bipush 20, 2) := by decide +kernel
theorem dX3_hasCopyAndRoom_20 : decode cX3_hasCopyAndRoom 20 = .ok (.if_icmp .ge 7, 3) := by decide +kernel
theorem dX3_hasCopyAndRoom_23 : decode cX3_hasCopyAndRoom 23 = .ok (.iconst 1, 1) := by decide +kernel
theorem dX3_hasCopyAndRoom_24 : decode cX3_hasCopyAndRoom 24 = .ok (.goto 4, 3) := by decide +kernel
theorem dX3_hasCopyAndRoom_27 : decode cX3_hasCopyAndRoom 27 = .ok (.iconst 0, 1) := by decide +kernel
theorem dX3_hasCopyAndRoom_28 : decode cX3_hasCopyAndRoom 28 = .ok (.ireturn, 1) := by decide +kernel
theorem dX3_putFromBin_0 : decode cX3_putFromBin 0 = .ok (.aload_n 0, 1) := by decide +kernel
theorem dX3_putFromBin_1 : decode cX3_putFromBin 1 = .ok (.getfield 18, 3) := by decide +kernel
theorem dX3_putFromBin_4 : decode cX3_putFromBin 4 = .ok (.iload_n 2, 1) := by decide +kernel
theorem dX3_putFromBin_5 : decode cX3_putFromBin 5 = .ok (.iconst (-1), 1) := by decide +kernel
theorem dX3_putFromBin_6 : decode cX3_putFromBin 6 = .ok (.invokestatic 65, 3) := by decide +kernel
theorem dX3_putFromBin_9 : decode cX3_putFromBin 9 = .ok (.aload_n 0, 1) := by decide +kernel
theorem dX3_putFromBin_10 : decode cX3_putFromBin 10 = .ok (.getfield 12, 3) := by decide +kernel
theorem dX3_putFromBin_13 : decode cX3_putFromBin 13 = .ok (.iload_n 1, 1) := by decide +kernel
theorem dX3_putFromBin_14 : decode cX3_putFromBin 14 = .ok (.iload_n 2, 1) := by decide +kernel
theorem dX3_putFromBin_15 : decode cX3_putFromBin 15 = .ok (.iconst 0, 1) := by decide +kernel
theorem dX3_putFromBin_16 : decode cX3_putFromBin 16 = .ok (.invokevirtual 69, 3) := by decide +kernel
theorem dX3_putFromBin_19 : decode cX3_putFromBin 19 = .ok (.return_, 1) := by decide +kernel
theorem dX3_putBack_0 : decode cX3_putBack 0 = .ok (.aload_n 0, 1) := by decide +kernel
theorem dX3_putBack_1 : decode cX3_putBack 1 = .ok (.getfield 12, 3) := by decide +kernel
theorem dX3_putBack_4 : decode cX3_putBack 4 = .ok (.getfield 73, 3) := by decide +kernel
theorem dX3_putBack_7 : decode cX3_putBack 7 = .ok (.iload_n 1, 1) := by decide +kernel
theorem dX3_putBack_8 : decode cX3_putBack 8 = .ok (.invokestatic 58, 3) := by decide +kernel
theorem dX3_putBack_11 : decode cX3_putBack 11 = .ok (.istore_n 2, 1) := by decide +kernel
theorem dX3_putBack_12 : decode cX3_putBack 12 = .ok (.aload_n 0, 1) := by decide +kernel
theorem dX3_putBack_13 : decode cX3_putBack 13 = .ok (.getfield 12, 3) := by decide +kernel
theorem dX3_putBack_16 : decode cX3_putBack 16 = .ok (.iload_n 1, 1) := by decide +kernel
theorem dX3_putBack_17 : decode cX3_putBack 17 = .ok (.invokevirtual 76, 3) := by decide +kernel
theorem dX3_putBack_20 : decode cX3_putBack 20 = .ok (.aload_n 0, 1) := by decide +kernel
theorem dX3_putBack_21 : decode cX3_putBack 21 = .ok (.getfield 18, 3) := by decide +kernel
theorem dX3_putBack_24 : decode cX3_putBack 24 = .ok (.iload_n 2, 1) := by decide +kernel
theorem dX3_putBack_25 : decode cX3_putBack 25 = .ok (.iconst 1, 1) := by decide +kernel
theorem dX3_putBack_26 : decode cX3_putBack 26 = .ok (.invokestatic 65, 3) := by decide +kernel
theorem dX3_putBack_29 : decode cX3_putBack 29 = .ok (.iload_n 2, 1) := by decide +kernel
theorem dX3_putBack_30 : decode cX3_putBack 30 = .ok (.ireturn, 1) := by decide +kernel
theorem dX3_bindBlock_0 : decode cX3_bindBlock 0 = .ok (.iconst 0, 1) := by decide +kernel
theorem dX3_bindBlock_1 : decode cX3_bindBlock 1 = .ok (.istore_n 1, 1) := by decide +kernel
theorem dX3_bindBlock_2 : decode cX3_bindBlock 2 = .ok (.iload_n 1, 1) := by decide +kernel
theorem dX3_bindBlock_3 : decode cX3_bindBlock 3 = .ok (.aload_n 0, 1) := by decide +kernel
theorem dX3_bindBlock_4 : decode cX3_bindBlock 4 = .ok (.getfield 12, 3) := by decide +kernel
theorem dX3_bindBlock_7 : decode cX3_bindBlock 7 = .ok (.getfield 62, 3) := by decide +kernel
theorem dX3_bindBlock_10 : decode cX3_bindBlock 10 = .ok (.if_icmp .ge 28, 3) := by decide +kernel
theorem dX3_bindBlock_13 : decode cX3_bindBlock 13 = .ok (.aload_n 0, 1) := by decide +kernel
theorem dX3_bindBlock_14 : decode cX3_bindBlock 14 = .ok (.getfield 22, 3) := by decide +kernel
theorem dX3_bindBlock_17 : decode cX3_bindBlock 17 = .ok (.aload_n 0, 1) := by decide +kernel
theorem dX3_bindBlock_18 : decode cX3_bindBlock 18 = .ok (.getfield 12, 3) := by decide +kernel
theorem dX3_bindBlock_21 : decode cX3_bindBlock 21 = .ok (.getfield 73, 3) := by decide +kernel
theorem dX3_bindBlock_24 : decode cX3_bindBlock 24 = .ok (.iload_n 1, 1) := by decide +kernel
theorem dX3_bindBlock_25 : decode cX3_bindBlock 25 = .ok (.invokestatic 58, 3) := by decide +kernel
theorem dX3_bindBlock_28 : decode cX3_bindBlock 28 = .ok (.iconst 1, 1) := by decide +kernel
theorem dX3_bindBlock_29 : decode cX3_bindBlock 29 = .ok (.invokestatic 65, 3) := by decide +kernel
theorem dX3_bindBlock_32 : decode cX3_bindBlock 32 = .ok (.iinc 1 1, 3) := by decide +kernel
theorem dX3_bindBlock_35 : decode cX3_bindBlock 35 = .ok (.goto (-33), 3) := by decide +kernel
theorem dX3_bindBlock_38 : decode cX3_bindBlock 38 = .ok (.aload_n 0, 1) := by decide +kernel
theorem dX3_bindBlock_39 : decode cX3_bindBlock 39 = .ok (.getfield 12, 3) := by decide +kernel
theorem dX3_bindBlock_42 : decode cX3_bindBlock 42 = .ok (.iconst 0, 1) := by decide +kernel
theorem dX3_bindBlock_43 : decode cX3_bindBlock 43 = .ok (.putfield 62, 3) := by decide +kernel
theorem dX3_bindBlock_46 : decode cX3_bindBlock 46 = .ok (.aload_n 0, 1) := by decide +kernel
theorem dX3_bindBlock_47 : decode cX3_bindBlock 47 = .ok (.dup, 1) := by decide +kernel
theorem dX3_bindBlock_48 : decode cX3_bindBlock 48 = .ok (.getfield 47, 3) := by decide +kernel
theorem dX3_bindBlock_51 : decode cX3_bindBlock 51 = .ok (.iconst 1, 1) := by decide +kernel
theorem dX3_bindBlock_52 : decode cX3_bindBlock 52 = .ok (.iadd, 1) := by decide +kernel
theorem dX3_bindBlock_53 : decode cX3_bindBlock 53 = .ok (.putfield 47, 3) := by decide +kernel
theorem dX3_bindBlock_56 : decode cX3_bindBlock 56 = .ok (.return_, 1) := by decide +kernel
theorem dX3_copiesInBinAndBlock_0 : decode cX3_copiesInBinAndBlock 0 = .ok (.aload_n 0, 1) := by decide +kernel
theorem dX3_copiesInBinAndBlock_1 : decode cX3_copiesInBinAndBlock 1 = .ok (.getfield 18, 3) := by decide +kernel
theorem dX3_copiesInBinAndBlock_4 : decode cX3_copiesInBinAndBlock 4 = .ok (.iload_n 1, 1) := by decide +kernel
theorem dX3_copiesInBinAndBlock_5 : decode cX3_copiesInBinAndBlock 5 = .ok (.invokestatic 58, 3) := by decide +kernel
theorem dX3_copiesInBinAndBlock_8 : decode cX3_copiesInBinAndBlock 8 = .ok (.aload_n 0, 1) := by decide +kernel
theorem dX3_copiesInBinAndBlock_9 : decode cX3_copiesInBinAndBlock 9 = .ok (.getfield 12, 3) := by decide +kernel
theorem dX3_copiesInBinAndBlock_12 : decode cX3_copiesInBinAndBlock 12 = .ok (.iload_n 1, 1) := by decide +kernel
theorem dX3_copiesInBinAndBlock_13 : decode cX3_copiesInBinAndBlock 13 = .ok (.invokevirtual 80, 3) := by decide +kernel
theorem dX3_copiesInBinAndBlock_16 : decode cX3_copiesInBinAndBlock 16 = .ok (.iadd, 1) := by decide +kernel
theorem dX3_copiesInBinAndBlock_17 : decode cX3_copiesInBinAndBlock 17 = .ok (.ireturn, 1) := by decide +kernel
theorem dX3_sheetsInBooks_0 : decode cX3_sheetsInBooks 0 = .ok (.iconst 0, 1) := by decide +kernel
theorem dX3_sheetsInBooks_1 : decode cX3_sheetsInBooks 1 = .ok (.istore_n 1, 1) := by decide +kernel
theorem dX3_sheetsInBooks_2 : decode cX3_sheetsInBooks 2 = .ok (.iconst 0, 1) := by decide +kernel
theorem dX3_sheetsInBooks_3 : decode cX3_sheetsInBooks 3 = .ok (.istore_n 2, 1) := by decide +kernel
theorem dX3_sheetsInBooks_4 : decode cX3_sheetsInBooks 4 = .ok (.iload_n 2, 1) := by decide +kernel
theorem dX3_sheetsInBooks_5 : decode cX3_sheetsInBooks 5 = .ok (.bipush 16, 2) := by decide +kernel
theorem dX3_sheetsInBooks_7 : decode cX3_sheetsInBooks 7 = .ok (.if_icmp .ge 20, 3) := by decide +kernel
theorem dX3_sheetsInBooks_10 : decode cX3_sheetsInBooks 10 = .ok (.iload_n 1, 1) := by decide +kernel
theorem dX3_sheetsInBooks_11 : decode cX3_sheetsInBooks 11 = .ok (.aload_n 0, 1) := by decide +kernel
theorem dX3_sheetsInBooks_12 : decode cX3_sheetsInBooks 12 = .ok (.getfield 22, 3) := by decide +kernel
theorem dX3_sheetsInBooks_15 : decode cX3_sheetsInBooks 15 = .ok (.iload_n 2, 1) := by decide +kernel
theorem dX3_sheetsInBooks_16 : decode cX3_sheetsInBooks 16 = .ok (.invokestatic 58, 3) := by decide +kernel
theorem dX3_sheetsInBooks_19 : decode cX3_sheetsInBooks 19 = .ok (.iadd, 1) := by decide +kernel
theorem dX3_sheetsInBooks_20 : decode cX3_sheetsInBooks 20 = .ok (.istore_n 1, 1) := by decide +kernel
theorem dX3_sheetsInBooks_21 : decode cX3_sheetsInBooks 21 = .ok (.iinc 2 1, 3) := by decide +kernel
theorem dX3_sheetsInBooks_24 : decode cX3_sheetsInBooks 24 = .ok (.goto (-20), 3) := by decide +kernel
theorem dX3_sheetsInBooks_27 : decode cX3_sheetsInBooks 27 = .ok (.iload_n 1, 1) := by decide +kernel
theorem dX3_sheetsInBooks_28 : decode cX3_sheetsInBooks 28 = .ok (.ireturn, 1) := by decide +kernel
theorem dX3_stepOfNumber_0 : decode cX3_stepOfNumber 0 = .ok (.aload_n 0, 1) := by decide +kernel
theorem dX3_stepOfNumber_1 : decode cX3_stepOfNumber 1 = .ok (.getfield 31, 3) := by decide +kernel
theorem dX3_stepOfNumber_4 : decode cX3_stepOfNumber 4 = .ok (.iconst 1, 1) := by decide +kernel
theorem dX3_stepOfNumber_5 : decode cX3_stepOfNumber 5 = .ok (.invokestatic 58, 3) := by decide +kernel
theorem dX3_stepOfNumber_8 : decode cX3_stepOfNumber 8 = .ok (.istore_n 2, 1) := by decide +kernel
theorem dX3_stepOfNumber_9 : decode cX3_stepOfNumber 9 = .ok (.iload_n 2, 1) := by decide +kernel
theorem dX3_stepOfNumber_10 : decode cX3_stepOfNumber 10 = .ok (.ifCond .le 9, 3) := by decide +kernel
theorem dX3_stepOfNumber_13 : decode cX3_stepOfNumber 13 = .ok (.iload_n 1, 1) := by decide +kernel
theorem dX3_stepOfNumber_14 : decode cX3_stepOfNumber 14 = .ok (.iload_n 2, 1) := by decide +kernel
theorem dX3_stepOfNumber_15 : decode cX3_stepOfNumber 15 = .ok (.irem, 1) := by decide +kernel
theorem dX3_stepOfNumber_16 : decode cX3_stepOfNumber 16 = .ok (.goto 4, 3) := by decide +kernel
theorem dX3_stepOfNumber_19 : decode cX3_stepOfNumber 19 = .ok (.iconst 0, 1) := by decide +kernel
theorem dX3_stepOfNumber_20 : decode cX3_stepOfNumber 20 = .ok (.ireturn, 1) := by decide +kernel
theorem dX3_stepOfMark_0 : decode cX3_stepOfMark 0 = .ok (.aload_n 0, 1) := by decide +kernel
theorem dX3_stepOfMark_1 : decode cX3_stepOfMark 1 = .ok (.aload_n 0, 1) := by decide +kernel
theorem dX3_stepOfMark_2 : decode cX3_stepOfMark 2 = .ok (.getfield 12, 3) := by decide +kernel
theorem dX3_stepOfMark_5 : decode cX3_stepOfMark 5 = .ok (.getfield 73, 3) := by decide +kernel
theorem dX3_stepOfMark_8 : decode cX3_stepOfMark 8 = .ok (.iload_n 1, 1) := by decide +kernel
theorem dX3_stepOfMark_9 : decode cX3_stepOfMark 9 = .ok (.invokestatic 58, 3) := by decide +kernel
theorem dX3_stepOfMark_12 : decode cX3_stepOfMark 12 = .ok (.invokevirtual 84, 3) := by decide +kernel
theorem dX3_stepOfMark_15 : decode cX3_stepOfMark 15 = .ok (.istore_n 2, 1) := by decide +kernel
theorem dX3_stepOfMark_16 : decode cX3_stepOfMark 16 = .ok (.aload_n 0, 1) := by decide +kernel
theorem dX3_stepOfMark_17 : decode cX3_stepOfMark 17 = .ok (.getfield 12, 3) := by decide +kernel
theorem dX3_stepOfMark_20 : decode cX3_stepOfMark 20 = .ok (.getfield 87, 3) := by decide +kernel
theorem dX3_stepOfMark_23 : decode cX3_stepOfMark 23 = .ok (.iload_n 1, 1) := by decide +kernel
theorem dX3_stepOfMark_24 : decode cX3_stepOfMark 24 = .ok (.invokestatic 58, 3) := by decide +kernel
theorem dX3_stepOfMark_27 : decode cX3_stepOfMark 27 = .ok (.ifCond .ne 7, 3) := by decide +kernel
theorem dX3_stepOfMark_30 : decode cX3_stepOfMark 30 = .ok (.iload_n 2, 1) := by decide +kernel
theorem dX3_stepOfMark_31 : decode cX3_stepOfMark 31 = .ok (.goto 15, 3) := by decide +kernel
theorem dX3_stepOfMark_34 : decode cX3_stepOfMark 34 = .ok (.aload_n 0, 1) := by decide +kernel
theorem dX3_stepOfMark_35 : decode cX3_stepOfMark 35 = .ok (.getfield 31, 3) := by decide +kernel
theorem dX3_stepOfMark_38 : decode cX3_stepOfMark 38 = .ok (.iconst 1, 1) := by decide +kernel
theorem dX3_stepOfMark_39 : decode cX3_stepOfMark 39 = .ok (.invokestatic 58, 3) := by decide +kernel
theorem dX3_stepOfMark_42 : decode cX3_stepOfMark 42 = .ok (.iconst 1, 1) := by decide +kernel
theorem dX3_stepOfMark_43 : decode cX3_stepOfMark 43 = .ok (.isub, 1) := by decide +kernel
theorem dX3_stepOfMark_44 : decode cX3_stepOfMark 44 = .ok (.iload_n 2, 1) := by decide +kernel
theorem dX3_stepOfMark_45 : decode cX3_stepOfMark 45 = .ok (.isub, 1) := by decide +kernel
theorem dX3_stepOfMark_46 : decode cX3_stepOfMark 46 = .ok (.ireturn, 1) := by decide +kernel
theorem dX3_stepDueAt_0 : decode cX3_stepDueAt 0 = .ok (.iload_n 1, 1) := by decide +kernel
theorem dX3_stepDueAt_1 : decode cX3_stepDueAt 1 = .ok (.ifCond .le 19, 3) := by decide +kernel
theorem dX3_stepDueAt_4 : decode cX3_stepDueAt 4 = .ok (.aload_n 0, 1) := by decide +kernel
theorem dX3_stepDueAt_5 : decode cX3_stepDueAt 5 = .ok (.aload_n 0, 1) := by decide +kernel
theorem dX3_stepDueAt_6 : decode cX3_stepDueAt 6 = .ok (.iload_n 1, 1) := by decide +kernel
theorem dX3_stepDueAt_7 : decode cX3_stepDueAt 7 = .ok (.iconst 1, 1) := by decide +kernel
theorem dX3_stepDueAt_8 : decode cX3_stepDueAt 8 = .ok (.isub, 1) := by decide +kernel
theorem dX3_stepDueAt_9 : decode cX3_stepDueAt 9 = .ok (.invokevirtual 90, 3) := by decide +kernel
theorem dX3_stepDueAt_12 : decode cX3_stepDueAt 12 = .ok (.iconst 1, 1) := by decide +kernel
theorem dX3_stepDueAt_13 : decode cX3_stepDueAt 13 = .ok (.iadd, 1) := by decide +kernel
theorem dX3_stepDueAt_14 : decode cX3_stepDueAt 14 = .ok (.invokevirtual 84, 3) := by decide +kernel
theorem dX3_stepDueAt_17 : decode cX3_stepDueAt 17 = .ok (.goto 4, 3) := by decide +kernel
theorem dX3_stepDueAt_20 : decode cX3_stepDueAt 20 = .ok (.iconst 0, 1) := by decide +kernel
theorem dX3_stepDueAt_21 : decode cX3_stepDueAt 21 = .ok (.ireturn, 1) := by decide +kernel
theorem dX3_breaksAheadOf_0 : decode cX3_breaksAheadOf 0 = .ok (.aload_n 0, 1) := by decide +kernel
theorem dX3_breaksAheadOf_1 : decode cX3_breaksAheadOf 1 = .ok (.iload_n 1, 1) := by decide +kernel
theorem dX3_breaksAheadOf_2 : decode cX3_breaksAheadOf 2 = .ok (.invokevirtual 90, 3) := by decide +kernel
theorem dX3_breaksAheadOf_5 : decode cX3_breaksAheadOf 5 = .ok (.aload_n 0, 1) := by decide +kernel
theorem dX3_breaksAheadOf_6 : decode cX3_breaksAheadOf 6 = .ok (.iload_n 1, 1) := by decide +kernel
theorem dX3_breaksAheadOf_7 : decode cX3_breaksAheadOf 7 = .ok (.invokevirtual 93, 3) := by decide +kernel
theorem dX3_breaksAheadOf_10 : decode cX3_breaksAheadOf 10 = .ok (.if_icmp .eq 7, 3) := by decide +kernel
theorem dX3_breaksAheadOf_13 : decode cX3_breaksAheadOf 13 = .ok (.iconst 1, 1) := by decide +kernel
theorem dX3_breaksAheadOf_14 : decode cX3_breaksAheadOf 14 = .ok (.goto 4, 3) := by decide +kernel
theorem dX3_breaksAheadOf_17 : decode cX3_breaksAheadOf 17 = .ok (.iconst 0, 1) := by decide +kernel
theorem dX3_breaksAheadOf_18 : decode cX3_breaksAheadOf 18 = .ok (.ireturn, 1) := by decide +kernel
theorem dX3_breaks_0 : decode cX3_breaks 0 = .ok (.iconst 0, 1) := by decide +kernel
theorem dX3_breaks_1 : decode cX3_breaks 1 = .ok (.istore_n 1, 1) := by decide +kernel
theorem dX3_breaks_2 : decode cX3_breaks 2 = .ok (.iconst 0, 1) := by decide +kernel
theorem dX3_breaks_3 : decode cX3_breaks 3 = .ok (.istore_n 2, 1) := by decide +kernel
theorem dX3_breaks_4 : decode cX3_breaks 4 = .ok (.iconst 0, 1) := by decide +kernel
theorem dX3_breaks_5 : decode cX3_breaks 5 = .ok (.istore_n 3, 1) := by decide +kernel
theorem dX3_breaks_6 : decode cX3_breaks 6 = .ok (.iload_n 3, 1) := by decide +kernel
theorem dX3_breaks_7 : decode cX3_breaks 7 = .ok (.aload_n 0, 1) := by decide +kernel
theorem dX3_breaks_8 : decode cX3_breaks 8 = .ok (.getfield 12, 3) := by decide +kernel
theorem dX3_breaks_11 : decode cX3_breaks 11 = .ok (.getfield 62, 3) := by decide +kernel
theorem dX3_breaks_14 : decode cX3_breaks 14 = .ok (.if_icmp .ge 34, 3) := by decide +kernel
theorem dX3_breaks_17 : decode cX3_breaks 17 = .ok (.aload_n 0, 1) := by decide +kernel
theorem dX3_breaks_18 : decode cX3_breaks 18 = .ok (.iload_n 3, 1) := by decide +kernel
theorem dX3_breaks_19 : decode cX3_breaks 19 = .ok (.invokevirtual 90, 3) := by decide +kernel
theorem dX3_breaks_22 : decode cX3_breaks 22 = .ok (.istore 4, 2) := by decide +kernel
theorem dX3_breaks_24 : decode cX3_breaks 24 = .ok (.iload 4, 2) := by decide +kernel
theorem dX3_breaks_26 : decode cX3_breaks 26 = .ok (.iload_n 2, 1) := by decide +kernel
theorem dX3_breaks_27 : decode cX3_breaks 27 = .ok (.if_icmp .eq 6, 3) := by decide +kernel
theorem dX3_breaks_30 : decode cX3_breaks 30 = .ok (.iinc 1 1, 3) := by decide +kernel
theorem dX3_breaks_33 : decode cX3_breaks 33 = .ok (.aload_n 0, 1) := by decide +kernel
theorem dX3_breaks_34 : decode cX3_breaks 34 = .ok (.iload 4, 2) := by decide +kernel
theorem dX3_breaks_36 : decode cX3_breaks 36 = .ok (.iconst 1, 1) := by decide +kernel
theorem dX3_breaks_37 : decode cX3_breaks 37 = .ok (.iadd, 1) := by decide +kernel
theorem dX3_breaks_38 : decode cX3_breaks 38 = .ok (.invokevirtual 84, 3) := by decide +kernel
theorem dX3_breaks_41 : decode cX3_breaks 41 = .ok (.istore_n 2, 1) := by decide +kernel
theorem dX3_breaks_42 : decode cX3_breaks 42 = .ok (.iinc 3 1, 3) := by decide +kernel
theorem dX3_breaks_45 : decode cX3_breaks 45 = .ok (.goto (-39), 3) := by decide +kernel
theorem dX3_breaks_48 : decode cX3_breaks 48 = .ok (.iload_n 1, 1) := by decide +kernel
theorem dX3_breaks_49 : decode cX3_breaks 49 = .ok (.ireturn, 1) := by decide +kernel
theorem dX3_fault_0 : decode cX3_fault 0 = .ok (.aload_n 0, 1) := by decide +kernel
theorem dX3_fault_1 : decode cX3_fault 1 = .ok (.getfield 12, 3) := by decide +kernel
theorem dX3_fault_4 : decode cX3_fault 4 = .ok (.getfield 62, 3) := by decide +kernel
theorem dX3_fault_7 : decode cX3_fault 7 = .ok (.ifCond .ne 5, 3) := by decide +kernel
theorem dX3_fault_10 : decode cX3_fault 10 = .ok (.iconst 1, 1) := by decide +kernel
theorem dX3_fault_11 : decode cX3_fault 11 = .ok (.ireturn, 1) := by decide +kernel
theorem dX3_fault_12 : decode cX3_fault 12 = .ok (.aload_n 0, 1) := by decide +kernel
theorem dX3_fault_13 : decode cX3_fault 13 = .ok (.getfield 12, 3) := by decide +kernel
theorem dX3_fault_16 : decode cX3_fault 16 = .ok (.invokevirtual 96, 3) := by decide +kernel
theorem dX3_fault_19 : decode cX3_fault 19 = .ok (.iconst (-1), 1) := by decide +kernel
theorem dX3_fault_20 : decode cX3_fault 20 = .ok (.if_icmp .eq 5, 3) := by decide +kernel
theorem dX3_fault_23 : decode cX3_fault 23 = .ok (.iconst 2, 1) := by decide +kernel
theorem dX3_fault_24 : decode cX3_fault 24 = .ok (.ireturn, 1) := by decide +kernel
theorem dX3_fault_25 : decode cX3_fault 25 = .ok (.aload_n 0, 1) := by decide +kernel
theorem dX3_fault_26 : decode cX3_fault 26 = .ok (.getfield 12, 3) := by decide +kernel
theorem dX3_fault_29 : decode cX3_fault 29 = .ok (.aload_n 0, 1) := by decide +kernel
theorem dX3_fault_30 : decode cX3_fault 30 = .ok (.invokevirtual 100, 3) := by decide +kernel
theorem dX3_fault_33 : decode cX3_fault 33 = .ok (.invokevirtual 103, 3) := by decide +kernel
theorem dX3_fault_36 : decode cX3_fault 36 = .ok (.iconst (-1), 1) := by decide +kernel
theorem dX3_fault_37 : decode cX3_fault 37 = .ok (.if_icmp .eq 5, 3) := by decide +kernel
theorem dX3_fault_40 : decode cX3_fault 40 = .ok (.iconst 3, 1) := by decide +kernel
theorem dX3_fault_41 : decode cX3_fault 41 = .ok (.ireturn, 1) := by decide +kernel
theorem dX3_fault_42 : decode cX3_fault 42 = .ok (.aload_n 0, 1) := by decide +kernel
theorem dX3_fault_43 : decode cX3_fault 43 = .ok (.getfield 12, 3) := by decide +kernel
theorem dX3_fault_46 : decode cX3_fault 46 = .ok (.invokevirtual 106, 3) := by decide +kernel
theorem dX3_fault_49 : decode cX3_fault 49 = .ok (.iconst (-1), 1) := by decide +kernel
theorem dX3_fault_50 : decode cX3_fault 50 = .ok (.if_icmp .eq 5, 3) := by decide +kernel
theorem dX3_fault_53 : decode cX3_fault 53 = .ok (.iconst 4, 1) := by decide +kernel
theorem dX3_fault_54 : decode cX3_fault 54 = .ok (.ireturn, 1) := by decide +kernel
theorem dX3_fault_55 : decode cX3_fault 55 = .ok (.aload_n 0, 1) := by decide +kernel
theorem dX3_fault_56 : decode cX3_fault 56 = .ok (.invokevirtual 109, 3) := by decide +kernel
theorem dX3_fault_59 : decode cX3_fault 59 = .ok (.iconst (-1), 1) := by decide +kernel
theorem dX3_fault_60 : decode cX3_fault 60 = .ok (.if_icmp .eq 5, 3) := by decide +kernel
theorem dX3_fault_63 : decode cX3_fault 63 = .ok (.iconst 5, 1) := by decide +kernel
theorem dX3_fault_64 : decode cX3_fault 64 = .ok (.ireturn, 1) := by decide +kernel
theorem dX3_fault_65 : decode cX3_fault 65 = .ok (.aload_n 0, 1) := by decide +kernel
theorem dX3_fault_66 : decode cX3_fault 66 = .ok (.getfield 12, 3) := by decide +kernel
theorem dX3_fault_69 : decode cX3_fault 69 = .ok (.invokevirtual 112, 3) := by decide +kernel
theorem dX3_fault_72 : decode cX3_fault 72 = .ok (.iconst (-1), 1) := by decide +kernel
theorem dX3_fault_73 : decode cX3_fault 73 = .ok (.if_icmp .eq 8, 3) := by decide +kernel
theorem dX3_fault_76 : decode cX3_fault 76 = .ok (.bipush 6, 2) := by decide +kernel
theorem dX3_fault_78 : decode cX3_fault 78 = .ok (.goto 4, 3) := by decide +kernel
theorem dX3_fault_81 : decode cX3_fault 81 = .ok (.iconst 0, 1) := by decide +kernel
theorem dX3_fault_82 : decode cX3_fault 82 = .ok (.ireturn, 1) := by decide +kernel
theorem dX3_placeOfFault_0 : decode cX3_placeOfFault 0 = .ok (.aload_n 0, 1) := by decide +kernel
theorem dX3_placeOfFault_1 : decode cX3_placeOfFault 1 = .ok (.invokevirtual 115, 3) := by decide +kernel
theorem dX3_placeOfFault_4 : decode cX3_placeOfFault 4 = .ok (.tableswitch 72 2 6 #[36, 44, 56, 72, 64], 36) := by decide +kernel
theorem dX3_placeOfFault_40 : decode cX3_placeOfFault 40 = .ok (.aload_n 0, 1) := by decide +kernel
theorem dX3_placeOfFault_41 : decode cX3_placeOfFault 41 = .ok (.getfield 12, 3) := by decide +kernel
theorem dX3_placeOfFault_44 : decode cX3_placeOfFault 44 = .ok (.invokevirtual 96, 3) := by decide +kernel
theorem dX3_placeOfFault_47 : decode cX3_placeOfFault 47 = .ok (.ireturn, 1) := by decide +kernel
theorem dX3_placeOfFault_48 : decode cX3_placeOfFault 48 = .ok (.aload_n 0, 1) := by decide +kernel
theorem dX3_placeOfFault_49 : decode cX3_placeOfFault 49 = .ok (.getfield 12, 3) := by decide +kernel
theorem dX3_placeOfFault_52 : decode cX3_placeOfFault 52 = .ok (.aload_n 0, 1) := by decide +kernel
theorem dX3_placeOfFault_53 : decode cX3_placeOfFault 53 = .ok (.invokevirtual 100, 3) := by decide +kernel
theorem dX3_placeOfFault_56 : decode cX3_placeOfFault 56 = .ok (.invokevirtual 103, 3) := by decide +kernel
theorem dX3_placeOfFault_59 : decode cX3_placeOfFault 59 = .ok (.ireturn, 1) := by decide +kernel
theorem dX3_placeOfFault_60 : decode cX3_placeOfFault 60 = .ok (.aload_n 0, 1) := by decide +kernel
theorem dX3_placeOfFault_61 : decode cX3_placeOfFault 61 = .ok (.getfield 12, 3) := by decide +kernel
theorem dX3_placeOfFault_64 : decode cX3_placeOfFault 64 = .ok (.invokevirtual 106, 3) := by decide +kernel
theorem dX3_placeOfFault_67 : decode cX3_placeOfFault 67 = .ok (.ireturn, 1) := by decide +kernel
theorem dX3_placeOfFault_68 : decode cX3_placeOfFault 68 = .ok (.aload_n 0, 1) := by decide +kernel
theorem dX3_placeOfFault_69 : decode cX3_placeOfFault 69 = .ok (.getfield 12, 3) := by decide +kernel
theorem dX3_placeOfFault_72 : decode cX3_placeOfFault 72 = .ok (.invokevirtual 112, 3) := by decide +kernel
theorem dX3_placeOfFault_75 : decode cX3_placeOfFault 75 = .ok (.ireturn, 1) := by decide +kernel
theorem dX3_placeOfFault_76 : decode cX3_placeOfFault 76 = .ok (.iconst (-1), 1) := by decide +kernel
theorem dX3_placeOfFault_77 : decode cX3_placeOfFault 77 = .ok (.ireturn, 1) := by decide +kernel
theorem dX3_lowestMissing_0 : decode cX3_lowestMissing 0 = .ok (.iconst 0, 1) := by decide +kernel
theorem dX3_lowestMissing_1 : decode cX3_lowestMissing 1 = .ok (.istore_n 1, 1) := by decide +kernel
theorem dX3_lowestMissing_2 : decode cX3_lowestMissing 2 = .ok (.iload_n 1, 1) := by decide +kernel
theorem dX3_lowestMissing_3 : decode cX3_lowestMissing 3 = .ok (.aload_n 0, 1) := by decide +kernel
theorem dX3_lowestMissing_4 : decode cX3_lowestMissing 4 = .ok (.invokevirtual 100, 3) := by decide +kernel
theorem dX3_lowestMissing_7 : decode cX3_lowestMissing 7 = .ok (.if_icmp .ge 28, 3) := by decide +kernel
theorem dX3_lowestMissing_10 : decode cX3_lowestMissing 10 = .ok (.iload_n 1, 1) := by decide +kernel
theorem dX3_lowestMissing_11 : decode cX3_lowestMissing 11 = .ok (.bipush 16, 2) := by decide +kernel
theorem dX3_lowestMissing_13 : decode cX3_lowestMissing 13 = .ok (.if_icmp .ge 22, 3) := by decide +kernel
theorem dX3_lowestMissing_16 : decode cX3_lowestMissing 16 = .ok (.aload_n 0, 1) := by decide +kernel
theorem dX3_lowestMissing_17 : decode cX3_lowestMissing 17 = .ok (.getfield 12, 3) := by decide +kernel
theorem dX3_lowestMissing_20 : decode cX3_lowestMissing 20 = .ok (.iload_n 1, 1) := by decide +kernel
theorem dX3_lowestMissing_21 : decode cX3_lowestMissing 21 = .ok (.invokevirtual 80, 3) := by decide +kernel
theorem dX3_lowestMissing_24 : decode cX3_lowestMissing 24 = .ok (.ifCond .ne 5, 3) := by decide +kernel
theorem dX3_lowestMissing_27 : decode cX3_lowestMissing 27 = .ok (.iload_n 1, 1) := by decide +kernel
theorem dX3_lowestMissing_28 : decode cX3_lowestMissing 28 = .ok (.ireturn, 1) := by decide +kernel
theorem dX3_lowestMissing_29 : decode cX3_lowestMissing 29 = .ok (.iinc 1 1, 3) := by decide +kernel
theorem dX3_lowestMissing_32 : decode cX3_lowestMissing 32 = .ok (.goto (-30), 3) := by decide +kernel
theorem dX3_lowestMissing_35 : decode cX3_lowestMissing 35 = .ok (.iconst (-1), 1) := by decide +kernel
theorem dX3_lowestMissing_36 : decode cX3_lowestMissing 36 = .ok (.ireturn, 1) := by decide +kernel
theorem dX3_holesAt_0 : decode cX3_holesAt 0 = .ok (.aload_n 0, 1) := by decide +kernel
theorem dX3_holesAt_1 : decode cX3_holesAt 1 = .ok (.getfield 28, 3) := by decide +kernel
theorem dX3_holesAt_4 : decode cX3_holesAt 4 = .ok (.aload_n 0, 1) := by decide +kernel
theorem dX3_holesAt_5 : decode cX3_holesAt 5 = .ok (.getfield 12, 3) := by decide +kernel
theorem dX3_holesAt_8 : decode cX3_holesAt 8 = .ok (.getfield 73, 3) := by decide +kernel
theorem dX3_holesAt_11 : decode cX3_holesAt 11 = .ok (.iload_n 1, 1) := by decide +kernel
theorem dX3_holesAt_12 : decode cX3_holesAt 12 = .ok (.invokestatic 58, 3) := by decide +kernel
theorem dX3_holesAt_15 : decode cX3_holesAt 15 = .ok (.invokestatic 58, 3) := by decide +kernel
theorem dX3_holesAt_18 : decode cX3_holesAt 18 = .ok (.ireturn, 1) := by decide +kernel
theorem dX3_stitchesAheadOf_0 : decode cX3_stitchesAheadOf 0 = .ok (.iload_n 1, 1) := by decide +kernel
theorem dX3_stitchesAheadOf_1 : decode cX3_stitchesAheadOf 1 = .ok (.ifCond .le 22, 3) := by decide +kernel
theorem dX3_stitchesAheadOf_4 : decode cX3_stitchesAheadOf 4 = .ok (.aload_n 0, 1) := by decide +kernel
theorem dX3_stitchesAheadOf_5 : decode cX3_stitchesAheadOf 5 = .ok (.iload_n 1, 1) := by decide +kernel
theorem dX3_stitchesAheadOf_6 : decode cX3_stitchesAheadOf 6 = .ok (.iconst 1, 1) := by decide +kernel
theorem dX3_stitchesAheadOf_7 : decode cX3_stitchesAheadOf 7 = .ok (.isub, 1) := by decide +kernel
theorem dX3_stitchesAheadOf_8 : decode cX3_stitchesAheadOf 8 = .ok (.invokevirtual 118, 3) := by decide +kernel
theorem dX3_stitchesAheadOf_11 : decode cX3_stitchesAheadOf 11 = .ok (.aload_n 0, 1) := by decide +kernel
theorem dX3_stitchesAheadOf_12 : decode cX3_stitchesAheadOf 12 = .ok (.iload_n 1, 1) := by decide +kernel
theorem dX3_stitchesAheadOf_13 : decode cX3_stitchesAheadOf 13 = .ok (.invokevirtual 118, 3) := by decide +kernel
theorem dX3_stitchesAheadOf_16 : decode cX3_stitchesAheadOf 16 = .ok (.iand, 1) := by decide +kernel
theorem dX3_stitchesAheadOf_17 : decode cX3_stitchesAheadOf 17 = .ok (.invokestatic 121, 3) := by decide +kernel
theorem dX3_stitchesAheadOf_20 : decode cX3_stitchesAheadOf 20 = .ok (.goto 4, 3) := by decide +kernel
theorem dX3_stitchesAheadOf_23 : decode cX3_stitchesAheadOf 23 = .ok (.iconst 0, 1) := by decide +kernel
theorem dX3_stitchesAheadOf_24 : decode cX3_stitchesAheadOf 24 = .ok (.ireturn, 1) := by decide +kernel
theorem dX3_stitches_0 : decode cX3_stitches 0 = .ok (.iconst 0, 1) := by decide +kernel
theorem dX3_stitches_1 : decode cX3_stitches 1 = .ok (.istore_n 1, 1) := by decide +kernel
theorem dX3_stitches_2 : decode cX3_stitches 2 = .ok (.iconst 1, 1) := by decide +kernel
theorem dX3_stitches_3 : decode cX3_stitches 3 = .ok (.istore_n 2, 1) := by decide +kernel
theorem dX3_stitches_4 : decode cX3_stitches 4 = .ok (.iload_n 2, 1) := by decide +kernel
theorem dX3_stitches_5 : decode cX3_stitches 5 = .ok (.aload_n 0, 1) := by decide +kernel
theorem dX3_stitches_6 : decode cX3_stitches 6 = .ok (.getfield 12, 3) := by decide +kernel
theorem dX3_stitches_9 : decode cX3_stitches 9 = .ok (.getfield 62, 3) := by decide +kernel
theorem dX3_stitches_12 : decode cX3_stitches 12 = .ok (.if_icmp .ge 17, 3) := by decide +kernel
theorem dX3_stitches_15 : decode cX3_stitches 15 = .ok (.iload_n 1, 1) := by decide +kernel
theorem dX3_stitches_16 : decode cX3_stitches 16 = .ok (.aload_n 0, 1) := by decide +kernel
theorem dX3_stitches_17 : decode cX3_stitches 17 = .ok (.iload_n 2, 1) := by decide +kernel
theorem dX3_stitches_18 : decode cX3_stitches 18 = .ok (.invokevirtual 126, 3) := by decide +kernel
theorem dX3_stitches_21 : decode cX3_stitches 21 = .ok (.iadd, 1) := by decide +kernel
theorem dX3_stitches_22 : decode cX3_stitches 22 = .ok (.istore_n 1, 1) := by decide +kernel
theorem dX3_stitches_23 : decode cX3_stitches 23 = .ok (.iinc 2 1, 3) := by decide +kernel
theorem dX3_stitches_26 : decode cX3_stitches 26 = .ok (.goto (-22), 3) := by decide +kernel
theorem dX3_stitches_29 : decode cX3_stitches 29 = .ok (.iload_n 1, 1) := by decide +kernel
theorem dX3_stitches_30 : decode cX3_stitches 30 = .ok (.ireturn, 1) := by decide +kernel
theorem dX3_loosePlaces_0 : decode cX3_loosePlaces 0 = .ok (.iconst 0, 1) := by decide +kernel
theorem dX3_loosePlaces_1 : decode cX3_loosePlaces 1 = .ok (.istore_n 1, 1) := by decide +kernel
theorem dX3_loosePlaces_2 : decode cX3_loosePlaces 2 = .ok (.iconst 1, 1) := by decide +kernel
theorem dX3_loosePlaces_3 : decode cX3_loosePlaces 3 = .ok (.istore_n 2, 1) := by decide +kernel
theorem dX3_loosePlaces_4 : decode cX3_loosePlaces 4 = .ok (.iload_n 2, 1) := by decide +kernel
theorem dX3_loosePlaces_5 : decode cX3_loosePlaces 5 = .ok (.aload_n 0, 1) := by decide +kernel
theorem dX3_loosePlaces_6 : decode cX3_loosePlaces 6 = .ok (.getfield 12, 3) := by decide +kernel
theorem dX3_loosePlaces_9 : decode cX3_loosePlaces 9 = .ok (.getfield 62, 3) := by decide +kernel
theorem dX3_loosePlaces_12 : decode cX3_loosePlaces 12 = .ok (.if_icmp .ge 20, 3) := by decide +kernel
theorem dX3_loosePlaces_15 : decode cX3_loosePlaces 15 = .ok (.aload_n 0, 1) := by decide +kernel
theorem dX3_loosePlaces_16 : decode cX3_loosePlaces 16 = .ok (.iload_n 2, 1) := by decide +kernel
theorem dX3_loosePlaces_17 : decode cX3_loosePlaces 17 = .ok (.invokevirtual 126, 3) := by decide +kernel
theorem dX3_loosePlaces_20 : decode cX3_loosePlaces 20 = .ok (.ifCond .ne 6, 3) := by decide +kernel
theorem dX3_loosePlaces_23 : decode cX3_loosePlaces 23 = .ok (.iinc 1 1, 3) := by decide +kernel
theorem dX3_loosePlaces_26 : decode cX3_loosePlaces 26 = .ok (.iinc 2 1, 3) := by decide +kernel
theorem dX3_loosePlaces_29 : decode cX3_loosePlaces 29 = .ok (.goto (-25), 3) := by decide +kernel
theorem dX3_loosePlaces_32 : decode cX3_loosePlaces 32 = .ok (.iload_n 1, 1) := by decide +kernel
theorem dX3_loosePlaces_33 : decode cX3_loosePlaces 33 = .ok (.ireturn, 1) := by decide +kernel
theorem dX3_threadLength_0 : decode cX3_threadLength 0 = .ok (.aload_n 0, 1) := by decide +kernel
theorem dX3_threadLength_1 : decode cX3_threadLength 1 = .ok (.invokevirtual 129, 3) := by decide +kernel
theorem dX3_threadLength_4 : decode cX3_threadLength 4 = .ok (.aload_n 0, 1) := by decide +kernel
theorem dX3_threadLength_5 : decode cX3_threadLength 5 = .ok (.getfield 31, 3) := by decide +kernel
theorem dX3_threadLength_8 : decode cX3_threadLength 8 = .ok (.iconst 2, 1) := by decide +kernel
theorem dX3_threadLength_9 : decode cX3_threadLength 9 = .ok (.invokestatic 58, 3) := by decide +kernel
theorem dX3_threadLength_12 : decode cX3_threadLength 12 = .ok (.imul, 1) := by decide +kernel
theorem dX3_threadLength_13 : decode cX3_threadLength 13 = .ok (.istore_n 1, 1) := by decide +kernel
theorem dX3_threadLength_14 : decode cX3_threadLength 14 = .ok (.iconst 0, 1) := by decide +kernel
theorem dX3_threadLength_15 : decode cX3_threadLength 15 = .ok (.istore_n 2, 1) := by decide +kernel
theorem dX3_threadLength_16 : decode cX3_threadLength 16 = .ok (.iload_n 2, 1) := by decide +kernel
theorem dX3_threadLength_17 : decode cX3_threadLength 17 = .ok (.aload_n 0, 1) := by decide +kernel
theorem dX3_threadLength_18 : decode cX3_threadLength 18 = .ok (.getfield 12, 3) := by decide +kernel
theorem dX3_threadLength_21 : decode cX3_threadLength 21 = .ok (.getfield 62, 3) := by decide +kernel
theorem dX3_threadLength_24 : decode cX3_threadLength 24 = .ok (.if_icmp .ge 20, 3) := by decide +kernel
theorem dX3_threadLength_27 : decode cX3_threadLength 27 = .ok (.iload_n 1, 1) := by decide +kernel
theorem dX3_threadLength_28 : decode cX3_threadLength 28 = .ok (.aload_n 0, 1) := by decide +kernel
theorem dX3_threadLength_29 : decode cX3_threadLength 29 = .ok (.iload_n 2, 1) := by decide +kernel
theorem dX3_threadLength_30 : decode cX3_threadLength 30 = .ok (.invokevirtual 118, 3) := by decide +kernel
theorem dX3_threadLength_33 : decode cX3_threadLength 33 = .ok (.invokestatic 132, 3) := by decide +kernel
theorem dX3_threadLength_36 : decode cX3_threadLength 36 = .ok (.iadd, 1) := by decide +kernel
theorem dX3_threadLength_37 : decode cX3_threadLength 37 = .ok (.istore_n 1, 1) := by decide +kernel
theorem dX3_threadLength_38 : decode cX3_threadLength 38 = .ok (.iinc 2 1, 3) := by decide +kernel
theorem dX3_threadLength_41 : decode cX3_threadLength 41 = .ok (.goto (-25), 3) := by decide +kernel
theorem dX3_threadLength_44 : decode cX3_threadLength 44 = .ok (.iload_n 1, 1) := by decide +kernel
theorem dX3_threadLength_45 : decode cX3_threadLength 45 = .ok (.ireturn, 1) := by decide +kernel
theorem dX3_spanOfHoles_0 : decode cX3_spanOfHoles 0 = .ok (.iconst 0, 1) := by decide +kernel
theorem dX3_spanOfHoles_1 : decode cX3_spanOfHoles 1 = .ok (.istore_n 1, 1) := by decide +kernel
theorem dX3_spanOfHoles_2 : decode cX3_spanOfHoles 2 = .ok (.iload_n 1, 1) := by decide +kernel
theorem dX3_spanOfHoles_3 : decode cX3_spanOfHoles 3 = .ok (.iconst 5, 1) := by decide +kernel
theorem dX3_spanOfHoles_4 : decode cX3_spanOfHoles 4 = .ok (.if_icmp .ge 17, 3) := by decide +kernel
theorem dX3_spanOfHoles_7 : decode cX3_spanOfHoles 7 = .ok (.iload_n 0, 1) := by decide +kernel
theorem dX3_spanOfHoles_8 : decode cX3_spanOfHoles 8 = .ok (.iload_n 1, 1) := by decide +kernel
theorem dX3_spanOfHoles_9 : decode cX3_spanOfHoles 9 = .ok (.ishr, 1) := by decide +kernel
theorem dX3_spanOfHoles_10 : decode cX3_spanOfHoles 10 = .ok (.iconst 1, 1) := by decide +kernel
theorem dX3_spanOfHoles_11 : decode cX3_spanOfHoles 11 = .ok (.iand, 1) := by decide +kernel
theorem dX3_spanOfHoles_12 : decode cX3_spanOfHoles 12 = .ok (.ifCond .ne 9, 3) := by decide +kernel
theorem dX3_spanOfHoles_15 : decode cX3_spanOfHoles 15 = .ok (.iinc 1 1, 3) := by decide +kernel
theorem dX3_spanOfHoles_18 : decode cX3_spanOfHoles 18 = .ok (.goto (-16), 3) := by decide +kernel
theorem dX3_spanOfHoles_21 : decode cX3_spanOfHoles 21 = .ok (.iconst 4, 1) := by decide +kernel
theorem dX3_spanOfHoles_22 : decode cX3_spanOfHoles 22 = .ok (.istore_n 2, 1) := by decide +kernel
theorem dX3_spanOfHoles_23 : decode cX3_spanOfHoles 23 = .ok (.iload_n 2, 1) := by decide +kernel
theorem dX3_spanOfHoles_24 : decode cX3_spanOfHoles 24 = .ok (.iload_n 1, 1) := by decide +kernel
theorem dX3_spanOfHoles_25 : decode cX3_spanOfHoles 25 = .ok (.if_icmp .le 17, 3) := by decide +kernel
theorem dX3_spanOfHoles_28 : decode cX3_spanOfHoles 28 = .ok (.iload_n 0, 1) := by decide +kernel
theorem dX3_spanOfHoles_29 : decode cX3_spanOfHoles 29 = .ok (.iload_n 2, 1) := by decide +kernel
theorem dX3_spanOfHoles_30 : decode cX3_spanOfHoles 30 = .ok (.ishr, 1) := by decide +kernel
theorem dX3_spanOfHoles_31 : decode cX3_spanOfHoles 31 = .ok (.iconst 1, 1) := by decide +kernel
theorem dX3_spanOfHoles_32 : decode cX3_spanOfHoles 32 = .ok (.iand, 1) := by decide +kernel
theorem dX3_spanOfHoles_33 : decode cX3_spanOfHoles 33 = .ok (.ifCond .ne 9, 3) := by decide +kernel
theorem dX3_spanOfHoles_36 : decode cX3_spanOfHoles 36 = .ok (.iinc 2 (-1), 3) := by decide +kernel
theorem dX3_spanOfHoles_39 : decode cX3_spanOfHoles 39 = .ok (.goto (-16), 3) := by decide +kernel
theorem dX3_spanOfHoles_42 : decode cX3_spanOfHoles 42 = .ok (.iconst 0, 1) := by decide +kernel
theorem dX3_spanOfHoles_43 : decode cX3_spanOfHoles 43 = .ok (.iload_n 2, 1) := by decide +kernel
theorem dX3_spanOfHoles_44 : decode cX3_spanOfHoles 44 = .ok (.iload_n 1, 1) := by decide +kernel
theorem dX3_spanOfHoles_45 : decode cX3_spanOfHoles 45 = .ok (.isub, 1) := by decide +kernel
theorem dX3_spanOfHoles_46 : decode cX3_spanOfHoles 46 = .ok (.invokestatic 135, 3) := by decide +kernel
theorem dX3_spanOfHoles_49 : decode cX3_spanOfHoles 49 = .ok (.ireturn, 1) := by decide +kernel
theorem dX4_init_0 : decode cX4_init 0 = .ok (.aload_n 0, 1) := by decide +kernel
theorem dX4_init_1 : decode cX4_init 1 = .ok (.invokespecial 1, 3) := by decide +kernel
theorem dX4_init_4 : decode cX4_init 4 = .ok (.aload_n 0, 1) := by decide +kernel
theorem dX4_init_5 : decode cX4_init 5 = .ok (.new 7, 3) := by decide +kernel
theorem dX4_init_8 : decode cX4_init 8 = .ok (.dup, 1) := by decide +kernel
theorem dX4_init_9 : decode cX4_init 9 = .ok (.invokespecial 9, 3) := by decide +kernel
theorem dX4_init_12 : decode cX4_init 12 = .ok (.putfield 10, 3) := by decide +kernel
theorem dX4_init_15 : decode cX4_init 15 = .ok (.aload_n 0, 1) := by decide +kernel
theorem dX4_init_16 : decode cX4_init 16 = .ok (.new 7, 3) := by decide +kernel
theorem dX4_init_19 : decode cX4_init 19 = .ok (.dup, 1) := by decide +kernel
theorem dX4_init_20 : decode cX4_init 20 = .ok (.invokespecial 9, 3) := by decide +kernel
theorem dX4_init_23 : decode cX4_init 23 = .ok (.putfield 16, 3) := by decide +kernel
theorem dX4_init_26 : decode cX4_init 26 = .ok (.aload_n 0, 1) := by decide +kernel
theorem dX4_init_27 : decode cX4_init 27 = .ok (.new 7, 3) := by decide +kernel
theorem dX4_init_30 : decode cX4_init 30 = .ok (.dup, 1) := by decide +kernel
theorem dX4_init_31 : decode cX4_init 31 = .ok (.invokespecial 9, 3) := by decide +kernel
theorem dX4_init_34 : decode cX4_init 34 = .ok (.putfield 19, 3) := by decide +kernel
theorem dX4_init_37 : decode cX4_init 37 = .ok (.aload_n 0, 1) := by decide +kernel
theorem dX4_init_38 : decode cX4_init 38 = .ok (.new 22, 3) := by decide +kernel
theorem dX4_init_41 : decode cX4_init 41 = .ok (.dup, 1) := by decide +kernel
theorem dX4_init_42 : decode cX4_init 42 = .ok (.invokespecial 24, 3) := by decide +kernel
theorem dX4_init_45 : decode cX4_init 45 = .ok (.putfield 25, 3) := by decide +kernel
theorem dX4_init_48 : decode cX4_init 48 = .ok (.aload_n 0, 1) := by decide +kernel
theorem dX4_init_49 : decode cX4_init 49 = .ok (.new 29, 3) := by decide +kernel
theorem dX4_init_52 : decode cX4_init 52 = .ok (.dup, 1) := by decide +kernel
theorem dX4_init_53 : decode cX4_init 53 = .ok (.invokespecial 31, 3) := by decide +kernel
theorem dX4_init_56 : decode cX4_init 56 = .ok (.putfield 32, 3) := by decide +kernel
theorem dX4_init_59 : decode cX4_init 59 = .ok (.aload_n 0, 1) := by decide +kernel
theorem dX4_init_60 : decode cX4_init 60 = .ok (.bipush 60, 2) := by decide +kernel
theorem dX4_init_62 : decode cX4_init 62 = .ok (.newarray .int, 2) := by decide +kernel
theorem dX4_init_64 : decode cX4_init 64 = .ok (.putfield 36, 3) := by decide +kernel
theorem dX4_init_67 : decode cX4_init 67 = .ok (.aload_n 0, 1) := by decide +kernel
theorem dX4_init_68 : decode cX4_init 68 = .ok (.iconst 0, 1) := by decide +kernel
theorem dX4_init_69 : decode cX4_init 69 = .ok (.putfield 40, 3) := by decide +kernel
theorem dX4_init_72 : decode cX4_init 72 = .ok (.aload_n 0, 1) := by decide +kernel
theorem dX4_init_73 : decode cX4_init 73 = .ok (.iconst 0, 1) := by decide +kernel
theorem dX4_init_74 : decode cX4_init 74 = .ok (.putfield 44, 3) := by decide +kernel
theorem dX4_init_77 : decode cX4_init 77 = .ok (.return_, 1) := by decide +kernel
theorem dX4_gather_0 : decode cX4_gather 0 = .ok (.iload_n 1, 1) := by decide +kernel
theorem dX4_gather_1 : decode cX4_gather 1 = .ok (.invokestatic 48, 3) := by decide +kernel
theorem dX4_gather_4 : decode cX4_gather 4 = .ok (.ifCond .ne 13, 3) := by decide +kernel
theorem dX4_gather_7 : decode cX4_gather 7 = .ok (.new 52, 3) := by decide +kernel
theorem dX4_gather_10 : decode cX4_gather 10 = .ok (.dup, 1) := by decide +kernel
theorem dX4_gather_11 : decode cX4_gather 11 = .ok (.ldc 54, 2) := by decide +kernel
theorem dX4_gather_13 : decode cX4_gather 13 = .ok (.invokespecial 56, 3) := by decide +kernel
theorem dX4_gather_16 : decode cX4_gather 16 = .ok (.athrow, 1) := by decide +kernel
theorem dX4_gather_17 : decode cX4_gather 17 = .ok (.aload_n 0, 1) := by decide +kernel
theorem dX4_gather_18 : decode cX4_gather 18 = .ok (.getfield 10, 3) := by decide +kernel
theorem dX4_gather_21 : decode cX4_gather 21 = .ok (.iload_n 1, 1) := by decide +kernel
theorem dX4_gather_22 : decode cX4_gather 22 = .ok (.invokevirtual 59, 3) := by decide +kernel
theorem dX4_gather_25 : decode cX4_gather 25 = .ok (.ifCond .ne 13, 3) := by decide +kernel
theorem dX4_gather_28 : decode cX4_gather 28 = .ok (.new 62, 3) := by decide +kernel
theorem dX4_gather_31 : decode cX4_gather 31 = .ok (.dup, 1) := by decide +kernel
theorem dX4_gather_32 : decode cX4_gather 32 = .ok (.ldc 64, 2) := by decide +kernel
theorem dX4_gather_34 : decode cX4_gather 34 = .ok (.invokespecial 66, 3) := by decide +kernel
theorem dX4_gather_37 : decode cX4_gather 37 = .ok (.athrow, 1) := by decide +kernel
theorem dX4_gather_38 : decode cX4_gather 38 = .ok (.aload_n 0, 1) := by decide +kernel
theorem dX4_gather_39 : decode cX4_gather 39 = .ok (.getfield 25, 3) := by decide +kernel
theorem dX4_gather_42 : decode cX4_gather 42 = .ok (.aload_n 0, 1) := by decide +kernel
theorem dX4_gather_43 : decode cX4_gather 43 = .ok (.getfield 10, 3) := by decide +kernel
theorem dX4_gather_46 : decode cX4_gather 46 = .ok (.invokevirtual 67, 3) := by decide +kernel
theorem dX4_gather_49 : decode cX4_gather 49 = .ok (.aload_n 0, 1) := by decide +kernel
theorem dX4_gather_50 : decode cX4_gather 50 = .ok (.getfield 10, 3) := by decide +kernel
theorem dX4_gather_53 : decode cX4_gather 53 = .ok (.aload_n 0, 1) := by decide +kernel
theorem dX4_gather_54 : decode cX4_gather 54 = .ok (.getfield 10, 3) := by decide +kernel
theorem dX4_gather_57 : decode cX4_gather 57 = .ok (.getfield 71, 3) := by decide +kernel
theorem dX4_gather_60 : decode cX4_gather 60 = .ok (.getfield 75, 3) := by decide +kernel
theorem dX4_gather_63 : decode cX4_gather 63 = .ok (.iload_n 1, 1) := by decide +kernel
theorem dX4_gather_64 : decode cX4_gather 64 = .ok (.invokevirtual 80, 3) := by decide +kernel
theorem dX4_gather_67 : decode cX4_gather 67 = .ok (.aload_n 0, 1) := by decide +kernel
theorem dX4_gather_68 : decode cX4_gather 68 = .ok (.getfield 10, 3) := by decide +kernel
theorem dX4_gather_71 : decode cX4_gather 71 = .ok (.getfield 71, 3) := by decide +kernel
theorem dX4_gather_74 : decode cX4_gather 74 = .ok (.getfield 75, 3) := by decide +kernel
theorem dX4_gather_77 : decode cX4_gather 77 = .ok (.ireturn, 1) := by decide +kernel
theorem dX4_insert_0 : decode cX4_insert 0 = .ok (.iload_n 1, 1) := by decide +kernel
theorem dX4_insert_1 : decode cX4_insert 1 = .ok (.ifCond .lt 24, 3) := by decide +kernel
theorem dX4_insert_4 : decode cX4_insert 4 = .ok (.iload_n 1, 1) := by decide +kernel
theorem dX4_insert_5 : decode cX4_insert 5 = .ok (.aload_n 0, 1) := by decide +kernel
theorem dX4_insert_6 : decode cX4_insert 6 = .ok (.getfield 10, 3) := by decide +kernel
theorem dX4_insert_9 : decode cX4_insert 9 = .ok (.getfield 71, 3) := by decide +kernel
theorem dX4_insert_12 : decode cX4_insert 12 = .ok (.getfield 75, 3) := by decide +kernel
theorem dX4_insert_15 : decode cX4_insert 15 = .ok (.if_icmp .gt 10, 3) := by decide +kernel
theorem dX4_insert_18 : decode cX4_insert 18 = .ok (.iload_n 2, 1) := by decide +kernel
theorem dX4_insert_19 : decode cX4_insert 19 = .ok (.invokestatic 48, 3) := by decide +kernel
theorem dX4_insert_22 : decode cX4_insert 22 = .ok (.ifCond .ne 13, 3) := by decide +kernel
theorem dX4_insert_25 : decode cX4_insert 25 = .ok (.new 52, 3) := by decide +kernel
theorem dX4_insert_28 : decode cX4_insert 28 = .ok (.dup, 1) := by decide +kernel
theorem dX4_insert_29 : decode cX4_insert 29 = .ok (.ldc 84, 2) := by decide +kernel
theorem dX4_insert_31 : decode cX4_insert 31 = .ok (.invokespecial 56, 3) := by decide +kernel
theorem dX4_insert_34 : decode cX4_insert 34 = .ok (.athrow, 1) := by decide +kernel
theorem dX4_insert_35 : decode cX4_insert 35 = .ok (.aload_n 0, 1) := by decide +kernel
theorem dX4_insert_36 : decode cX4_insert 36 = .ok (.getfield 10, 3) := by decide +kernel
theorem dX4_insert_39 : decode cX4_insert 39 = .ok (.iload_n 2, 1) := by decide +kernel
theorem dX4_insert_40 : decode cX4_insert 40 = .ok (.invokevirtual 59, 3) := by decide +kernel
theorem dX4_insert_43 : decode cX4_insert 43 = .ok (.ifCond .ne 13, 3) := by decide +kernel
theorem dX4_insert_46 : decode cX4_insert 46 = .ok (.new 62, 3) := by decide +kernel
theorem dX4_insert_49 : decode cX4_insert 49 = .ok (.dup, 1) := by decide +kernel
theorem dX4_insert_50 : decode cX4_insert 50 = .ok (.ldc 64, 2) := by decide +kernel
theorem dX4_insert_52 : decode cX4_insert 52 = .ok (.invokespecial 66, 3) := by decide +kernel
theorem dX4_insert_55 : decode cX4_insert 55 = .ok (.athrow, 1) := by decide +kernel
theorem dX4_insert_56 : decode cX4_insert 56 = .ok (.aload_n 0, 1) := by decide +kernel
theorem dX4_insert_57 : decode cX4_insert 57 = .ok (.getfield 25, 3) := by decide +kernel
theorem dX4_insert_60 : decode cX4_insert 60 = .ok (.aload_n 0, 1) := by decide +kernel
theorem dX4_insert_61 : decode cX4_insert 61 = .ok (.getfield 10, 3) := by decide +kernel
theorem dX4_insert_64 : decode cX4_insert 64 = .ok (.invokevirtual 67, 3) := by decide +kernel
theorem dX4_insert_67 : decode cX4_insert 67 = .ok (.aload_n 0, 1) := by decide +kernel
theorem dX4_insert_68 : decode cX4_insert 68 = .ok (.getfield 10, 3) := by decide +kernel
theorem dX4_insert_71 : decode cX4_insert 71 = .ok (.iload_n 1, 1) := by decide +kernel
theorem dX4_insert_72 : decode cX4_insert 72 = .ok (.iload_n 2, 1) := by decide +kernel
theorem dX4_insert_73 : decode cX4_insert 73 = .ok (.invokevirtual 80, 3) := by decide +kernel
theorem dX4_insert_76 : decode cX4_insert 76 = .ok (.aload_n 0, 1) := by decide +kernel
theorem dX4_insert_77 : decode cX4_insert 77 = .ok (.getfield 10, 3) := by decide +kernel
theorem dX4_insert_80 : decode cX4_insert 80 = .ok (.getfield 71, 3) := by decide +kernel
theorem dX4_insert_83 : decode cX4_insert 83 = .ok (.getfield 75, 3) := by decide +kernel
theorem dX4_insert_86 : decode cX4_insert 86 = .ok (.ireturn, 1) := by decide +kernel
theorem dX4_pull_0 : decode cX4_pull 0 = .ok (.aload_n 0, 1) := by decide +kernel
theorem dX4_pull_1 : decode cX4_pull 1 = .ok (.getfield 10, 3) := by decide +kernel
theorem dX4_pull_4 : decode cX4_pull 4 = .ok (.getfield 71, 3) := by decide +kernel
theorem dX4_pull_7 : decode cX4_pull 7 = .ok (.iload_n 1, 1) := by decide +kernel
theorem dX4_pull_8 : decode cX4_pull 8 = .ok (.invokevirtual 86, 3) := by decide +kernel
theorem dX4_pull_11 : decode cX4_pull 11 = .ok (.ifCond .ne 13, 3) := by decide +kernel
theorem dX4_pull_14 : decode cX4_pull 14 = .ok (.new 52, 3) := by decide +kernel
theorem dX4_pull_17 : decode cX4_pull 17 = .ok (.dup, 1) := by decide +kernel
theorem dX4_pull_18 : decode cX4_pull 18 = .ok (.ldc 89, 2) := by decide +kernel
theorem dX4_pull_20 : decode cX4_pull 20 = .ok (.invokespecial 56, 3) := by decide +kernel
theorem dX4_pull_23 : decode cX4_pull 23 = .ok (.athrow, 1) := by decide +kernel
theorem dX4_pull_24 : decode cX4_pull 24 = .ok (.aload_n 0, 1) := by decide +kernel
theorem dX4_pull_25 : decode cX4_pull 25 = .ok (.getfield 25, 3) := by decide +kernel
theorem dX4_pull_28 : decode cX4_pull 28 = .ok (.aload_n 0, 1) := by decide +kernel
theorem dX4_pull_29 : decode cX4_pull 29 = .ok (.getfield 10, 3) := by decide +kernel
theorem dX4_pull_32 : decode cX4_pull 32 = .ok (.invokevirtual 67, 3) := by decide +kernel
theorem dX4_pull_35 : decode cX4_pull 35 = .ok (.aload_n 0, 1) := by decide +kernel
theorem dX4_pull_36 : decode cX4_pull 36 = .ok (.getfield 10, 3) := by decide +kernel
theorem dX4_pull_39 : decode cX4_pull 39 = .ok (.iload_n 1, 1) := by decide +kernel
theorem dX4_pull_40 : decode cX4_pull 40 = .ok (.invokevirtual 91, 3) := by decide +kernel
theorem dX4_pull_43 : decode cX4_pull 43 = .ok (.ireturn, 1) := by decide +kernel
theorem dX4_flip_0 : decode cX4_flip 0 = .ok (.aload_n 0, 1) := by decide +kernel
theorem dX4_flip_1 : decode cX4_flip 1 = .ok (.getfield 10, 3) := by decide +kernel
theorem dX4_flip_4 : decode cX4_flip 4 = .ok (.getfield 71, 3) := by decide +kernel
theorem dX4_flip_7 : decode cX4_flip 7 = .ok (.iload_n 1, 1) := by decide +kernel
theorem dX4_flip_8 : decode cX4_flip 8 = .ok (.invokevirtual 86, 3) := by decide +kernel
theorem dX4_flip_11 : decode cX4_flip 11 = .ok (.ifCond .ne 13, 3) := by decide +kernel
theorem dX4_flip_14 : decode cX4_flip 14 = .ok (.new 52, 3) := by decide +kernel
theorem dX4_flip_17 : decode cX4_flip 17 = .ok (.dup, 1) := by decide +kernel
theorem dX4_flip_18 : decode cX4_flip 18 = .ok (.ldc 89, 2) := by decide +kernel
theorem dX4_flip_20 : decode cX4_flip 20 = .ok (.invokespecial 56, 3) := by decide +kernel
theorem dX4_flip_23 : decode cX4_flip 23 = .ok (.athrow, 1) := by decide +kernel
theorem dX4_flip_24 : decode cX4_flip 24 = .ok (.aload_n 0, 1) := by decide +kernel
theorem dX4_flip_25 : decode cX4_flip 25 = .ok (.getfield 25, 3) := by decide +kernel
theorem dX4_flip_28 : decode cX4_flip 28 = .ok (.aload_n 0, 1) := by decide +kernel
theorem dX4_flip_29 : decode cX4_flip 29 = .ok (.getfield 10, 3) := by decide +kernel
theorem dX4_flip_32 : decode cX4_flip 32 = .ok (.invokevirtual 67, 3) := by decide +kernel
theorem dX4_flip_35 : decode cX4_flip 35 = .ok (.aload_n 0, 1) := by decide +kernel
theorem dX4_flip_36 : decode cX4_flip 36 = .ok (.getfield 10, 3) := by decide +kernel
theorem dX4_flip_39 : decode cX4_flip 39 = .ok (.getfield 71, 3) := by decide +kernel
theorem dX4_flip_42 : decode cX4_flip 42 = .ok (.iload_n 1, 1) := by decide +kernel
theorem dX4_flip_43 : decode cX4_flip 43 = .ok (.invokevirtual 95, 3) := by decide +kernel
theorem dX4_flip_46 : decode cX4_flip 46 = .ok (.aload_n 0, 1) := by decide +kernel
theorem dX4_flip_47 : decode cX4_flip 47 = .ok (.getfield 10, 3) := by decide +kernel
theorem dX4_flip_50 : decode cX4_flip 50 = .ok (.iload_n 1, 1) := by decide +kernel
theorem dX4_flip_51 : decode cX4_flip 51 = .ok (.invokevirtual 99, 3) := by decide +kernel
theorem dX4_flip_54 : decode cX4_flip 54 = .ok (.ireturn, 1) := by decide +kernel
theorem dX4_move_0 : decode cX4_move 0 = .ok (.aload_n 0, 1) := by decide +kernel
theorem dX4_move_1 : decode cX4_move 1 = .ok (.getfield 10, 3) := by decide +kernel
theorem dX4_move_4 : decode cX4_move 4 = .ok (.getfield 71, 3) := by decide +kernel
theorem dX4_move_7 : decode cX4_move 7 = .ok (.iload_n 1, 1) := by decide +kernel
theorem dX4_move_8 : decode cX4_move 8 = .ok (.invokevirtual 86, 3) := by decide +kernel
theorem dX4_move_11 : decode cX4_move 11 = .ok (.ifCond .eq 17, 3) := by decide +kernel
theorem dX4_move_14 : decode cX4_move 14 = .ok (.aload_n 0, 1) := by decide +kernel
theorem dX4_move_15 : decode cX4_move 15 = .ok (.getfield 10, 3) := by decide +kernel
theorem dX4_move_18 : decode cX4_move 18 = .ok (.getfield 71, 3) := by decide +kernel
theorem dX4_move_21 : decode cX4_move 21 = .ok (.iload_n 2, 1) := by decide +kernel
theorem dX4_move_22 : decode cX4_move 22 = .ok (.invokevirtual 86, 3) := by decide +kernel
theorem dX4_move_25 : decode cX4_move 25 = .ok (.ifCond .ne 13, 3) := by decide +kernel
theorem dX4_move_28 : decode cX4_move 28 = .ok (.new 52, 3) := by decide +kernel
theorem dX4_move_31 : decode cX4_move 31 = .ok (.dup, 1) := by decide +kernel
theorem dX4_move_32 : decode cX4_move 32 = .ok (.ldc 102, 2) := by decide +kernel
theorem dX4_move_34 : decode cX4_move 34 = .ok (.invokespecial 56, 3) := by decide +kernel
theorem dX4_move_37 : decode cX4_move 37 = .ok (.athrow, 1) := by decide +kernel
theorem dX4_move_38 : decode cX4_move 38 = .ok (.aload_n 0, 1) := by decide +kernel
theorem dX4_move_39 : decode cX4_move 39 = .ok (.getfield 25, 3) := by decide +kernel
theorem dX4_move_42 : decode cX4_move 42 = .ok (.aload_n 0, 1) := by decide +kernel
theorem dX4_move_43 : decode cX4_move 43 = .ok (.getfield 10, 3) := by decide +kernel
theorem dX4_move_46 : decode cX4_move 46 = .ok (.invokevirtual 67, 3) := by decide +kernel
theorem dX4_move_49 : decode cX4_move 49 = .ok (.aload_n 0, 1) := by decide +kernel
theorem dX4_move_50 : decode cX4_move 50 = .ok (.getfield 10, 3) := by decide +kernel
theorem dX4_move_53 : decode cX4_move 53 = .ok (.getfield 71, 3) := by decide +kernel
theorem dX4_move_56 : decode cX4_move 56 = .ok (.iload_n 1, 1) := by decide +kernel
theorem dX4_move_57 : decode cX4_move 57 = .ok (.iload_n 2, 1) := by decide +kernel
theorem dX4_move_58 : decode cX4_move 58 = .ok (.invokevirtual 104, 3) := by decide +kernel
theorem dX4_move_61 : decode cX4_move 61 = .ok (.aload_n 0, 1) := by decide +kernel
theorem dX4_move_62 : decode cX4_move 62 = .ok (.getfield 10, 3) := by decide +kernel
theorem dX4_move_65 : decode cX4_move 65 = .ok (.invokevirtual 107, 3) := by decide +kernel
theorem dX4_move_68 : decode cX4_move 68 = .ok (.ireturn, 1) := by decide +kernel
theorem dX4_bind_0 : decode cX4_bind 0 = .ok (.aload_n 0, 1) := by decide +kernel
theorem dX4_bind_1 : decode cX4_bind 1 = .ok (.getfield 10, 3) := by decide +kernel
theorem dX4_bind_4 : decode cX4_bind 4 = .ok (.invokevirtual 111, 3) := by decide +kernel
theorem dX4_bind_7 : decode cX4_bind 7 = .ok (.ifCond .eq 13, 3) := by decide +kernel
theorem dX4_bind_10 : decode cX4_bind 10 = .ok (.new 62, 3) := by decide +kernel
theorem dX4_bind_13 : decode cX4_bind 13 = .ok (.dup, 1) := by decide +kernel
theorem dX4_bind_14 : decode cX4_bind 14 = .ok (.ldc 114, 2) := by decide +kernel
theorem dX4_bind_16 : decode cX4_bind 16 = .ok (.invokespecial 66, 3) := by decide +kernel
theorem dX4_bind_19 : decode cX4_bind 19 = .ok (.athrow, 1) := by decide +kernel
theorem dX4_bind_20 : decode cX4_bind 20 = .ok (.aload_n 0, 1) := by decide +kernel
theorem dX4_bind_21 : decode cX4_bind 21 = .ok (.getfield 25, 3) := by decide +kernel
theorem dX4_bind_24 : decode cX4_bind 24 = .ok (.aload_n 0, 1) := by decide +kernel
theorem dX4_bind_25 : decode cX4_bind 25 = .ok (.getfield 10, 3) := by decide +kernel
theorem dX4_bind_28 : decode cX4_bind 28 = .ok (.invokevirtual 67, 3) := by decide +kernel
theorem dX4_bind_31 : decode cX4_bind 31 = .ok (.aload_n 0, 1) := by decide +kernel
theorem dX4_bind_32 : decode cX4_bind 32 = .ok (.getfield 10, 3) := by decide +kernel
theorem dX4_bind_35 : decode cX4_bind 35 = .ok (.invokevirtual 116, 3) := by decide +kernel
theorem dX4_bind_38 : decode cX4_bind 38 = .ok (.aload_n 0, 1) := by decide +kernel
theorem dX4_bind_39 : decode cX4_bind 39 = .ok (.getfield 10, 3) := by decide +kernel
theorem dX4_bind_42 : decode cX4_bind 42 = .ok (.getfield 119, 3) := by decide +kernel
theorem dX4_bind_45 : decode cX4_bind 45 = .ok (.ireturn, 1) := by decide +kernel
theorem dX4_print_0 : decode cX4_print 0 = .ok (.iload_n 1, 1) := by decide +kernel
theorem dX4_print_1 : decode cX4_print 1 = .ok (.invokestatic 48, 3) := by decide +kernel
theorem dX4_print_4 : decode cX4_print 4 = .ok (.ifCond .ne 13, 3) := by decide +kernel
theorem dX4_print_7 : decode cX4_print 7 = .ok (.new 52, 3) := by decide +kernel
theorem dX4_print_10 : decode cX4_print 10 = .ok (.dup, 1) := by decide +kernel
theorem dX4_print_11 : decode cX4_print 11 = .ok (.ldc 54, 2) := by decide +kernel
theorem dX4_print_13 : decode cX4_print 13 = .ok (.invokespecial 56, 3) := by decide +kernel
theorem dX4_print_16 : decode cX4_print 16 = .ok (.athrow, 1) := by decide +kernel
theorem dX4_print_17 : decode cX4_print 17 = .ok (.iload_n 2, 1) := by decide +kernel
theorem dX4_print_18 : decode cX4_print 18 = .ok (.iconst 1, 1) := by decide +kernel
theorem dX4_print_19 : decode cX4_print 19 = .ok (.if_icmp .lt 9, 3) := by decide +kernel
theorem dX4_print_22 : decode cX4_print 22 = .ok (.iload_n 2, 1) := by decide +kernel
theorem dX4_print_23 : decode cX4_print 23 = .ok (.bipush 20, 2) := by decide +kernel
theorem dX4_print_25 : decode cX4_print 25 = .ok (.if_icmp .le 13, 3) := by decide +kernel
theorem dX4_print_28 : decode cX4_print 28 = .ok (.new 122, 3) := by decide +kernel
theorem dX4_print_31 : decode cX4_print 31 = .ok (.dup, 1) := by decide +kernel
theorem dX4_print_32 : decode cX4_print 32 = .ok (.ldc 124, 2) := by decide +kernel
theorem dX4_print_34 : decode cX4_print 34 = .ok (.invokespecial 126, 3) := by decide +kernel
theorem dX4_print_37 : decode cX4_print 37 = .ok (.athrow, 1) := by decide +kernel
theorem dX4_print_38 : decode cX4_print 38 = .ok (.aload_n 0, 1) := by decide +kernel
theorem dX4_print_39 : decode cX4_print 39 = .ok (.getfield 10, 3) := by decide +kernel
theorem dX4_print_42 : decode cX4_print 42 = .ok (.getfield 127, 3) := by decide +kernel
theorem dX4_print_45 : decode cX4_print 45 = .ok (.iload_n 1, 1) := by decide +kernel
theorem dX4_print_46 : decode cX4_print 46 = .ok (.invokestatic 130, 3) := by decide +kernel
theorem dX4_print_49 : decode cX4_print 49 = .ok (.iload_n 2, 1) := by decide +kernel
theorem dX4_print_50 : decode cX4_print 50 = .ok (.iadd, 1) := by decide +kernel
theorem dX4_print_51 : decode cX4_print 51 = .ok (.bipush 99, 2) := by decide +kernel
theorem dX4_print_53 : decode cX4_print 53 = .ok (.if_icmp .le 13, 3) := by decide +kernel
theorem dX4_print_56 : decode cX4_print 56 = .ok (.new 62, 3) := by decide +kernel
theorem dX4_print_59 : decode cX4_print 59 = .ok (.dup, 1) := by decide +kernel
theorem dX4_print_60 : decode cX4_print 60 = .ok (.ldc 134, 2) := by decide +kernel
theorem dX4_print_62 : decode cX4_print 62 = .ok (.invokespecial 66, 3) := by decide +kernel
theorem dX4_print_65 : decode cX4_print 65 = .ok (.athrow, 1) := by decide +kernel
theorem dX4_print_66 : decode cX4_print 66 = .ok (.aload_n 0, 1) := by decide +kernel
theorem dX4_print_67 : decode cX4_print 67 = .ok (.getfield 25, 3) := by decide +kernel
theorem dX4_print_70 : decode cX4_print 70 = .ok (.aload_n 0, 1) := by decide +kernel
theorem dX4_print_71 : decode cX4_print 71 = .ok (.getfield 10, 3) := by decide +kernel
theorem dX4_print_74 : decode cX4_print 74 = .ok (.invokevirtual 67, 3) := by decide +kernel
theorem dX4_print_77 : decode cX4_print 77 = .ok (.aload_n 0, 1) := by decide +kernel
theorem dX4_print_78 : decode cX4_print 78 = .ok (.getfield 10, 3) := by decide +kernel
theorem dX4_print_81 : decode cX4_print 81 = .ok (.getfield 127, 3) := by decide +kernel
theorem dX4_print_84 : decode cX4_print 84 = .ok (.iload_n 1, 1) := by decide +kernel
theorem dX4_print_85 : decode cX4_print 85 = .ok (.iload_n 2, 1) := by decide +kernel
theorem dX4_print_86 : decode cX4_print 86 = .ok (.invokestatic 136, 3) := by decide +kernel
theorem dX4_print_89 : decode cX4_print 89 = .ok (.aload_n 0, 1) := by decide +kernel
theorem dX4_print_90 : decode cX4_print 90 = .ok (.getfield 10, 3) := by decide +kernel
theorem dX4_print_93 : decode cX4_print 93 = .ok (.getfield 140, 3) := by decide +kernel
theorem dX4_print_96 : decode cX4_print 96 = .ok (.iload_n 1, 1) := by decide +kernel
theorem dX4_print_97 : decode cX4_print 97 = .ok (.iload_n 2, 1) := by decide +kernel
theorem dX4_print_98 : decode cX4_print 98 = .ok (.invokestatic 136, 3) := by decide +kernel
theorem dX4_print_101 : decode cX4_print 101 = .ok (.aload_n 0, 1) := by decide +kernel
theorem dX4_print_102 : decode cX4_print 102 = .ok (.getfield 10, 3) := by decide +kernel
theorem dX4_print_105 : decode cX4_print 105 = .ok (.getfield 127, 3) := by decide +kernel
theorem dX4_print_108 : decode cX4_print 108 = .ok (.iload_n 1, 1) := by decide +kernel
theorem dX4_print_109 : decode cX4_print 109 = .ok (.invokestatic 130, 3) := by decide +kernel
theorem dX4_print_112 : decode cX4_print 112 = .ok (.ireturn, 1) := by decide +kernel
theorem dX4_punch_0 : decode cX4_punch 0 = .ok (.iload_n 1, 1) := by decide +kernel
theorem dX4_punch_1 : decode cX4_punch 1 = .ok (.invokestatic 48, 3) := by decide +kernel
theorem dX4_punch_4 : decode cX4_punch 4 = .ok (.ifCond .ne 13, 3) := by decide +kernel
theorem dX4_punch_7 : decode cX4_punch 7 = .ok (.new 52, 3) := by decide +kernel
theorem dX4_punch_10 : decode cX4_punch 10 = .ok (.dup, 1) := by decide +kernel
theorem dX4_punch_11 : decode cX4_punch 11 = .ok (.ldc 54, 2) := by decide +kernel
theorem dX4_punch_13 : decode cX4_punch 13 = .ok (.invokespecial 56, 3) := by decide +kernel
theorem dX4_punch_16 : decode cX4_punch 16 = .ok (.athrow, 1) := by decide +kernel
theorem dX4_punch_17 : decode cX4_punch 17 = .ok (.iload_n 2, 1) := by decide +kernel
theorem dX4_punch_18 : decode cX4_punch 18 = .ok (.iconst 1, 1) := by decide +kernel
theorem dX4_punch_19 : decode cX4_punch 19 = .ok (.if_icmp .lt 9, 3) := by decide +kernel
theorem dX4_punch_22 : decode cX4_punch 22 = .ok (.iload_n 2, 1) := by decide +kernel
theorem dX4_punch_23 : decode cX4_punch 23 = .ok (.bipush 31, 2) := by decide +kernel
theorem dX4_punch_25 : decode cX4_punch 25 = .ok (.if_icmp .le 13, 3) := by decide +kernel
theorem dX4_punch_28 : decode cX4_punch 28 = .ok (.new 122, 3) := by decide +kernel
theorem dX4_punch_31 : decode cX4_punch 31 = .ok (.dup, 1) := by decide +kernel
theorem dX4_punch_32 : decode cX4_punch 32 = .ok (.ldc 143, 2) := by decide +kernel
theorem dX4_punch_34 : decode cX4_punch 34 = .ok (.invokespecial 126, 3) := by decide +kernel
theorem dX4_punch_37 : decode cX4_punch 37 = .ok (.athrow, 1) := by decide +kernel
theorem dX4_punch_38 : decode cX4_punch 38 = .ok (.aload_n 0, 1) := by decide +kernel
theorem dX4_punch_39 : decode cX4_punch 39 = .ok (.getfield 25, 3) := by decide +kernel
theorem dX4_punch_42 : decode cX4_punch 42 = .ok (.aload_n 0, 1) := by decide +kernel
theorem dX4_punch_43 : decode cX4_punch 43 = .ok (.getfield 10, 3) := by decide +kernel
theorem dX4_punch_46 : decode cX4_punch 46 = .ok (.invokevirtual 67, 3) := by decide +kernel
theorem dX4_punch_49 : decode cX4_punch 49 = .ok (.aload_n 0, 1) := by decide +kernel
theorem dX4_punch_50 : decode cX4_punch 50 = .ok (.getfield 10, 3) := by decide +kernel
theorem dX4_punch_53 : decode cX4_punch 53 = .ok (.getfield 145, 3) := by decide +kernel
theorem dX4_punch_56 : decode cX4_punch 56 = .ok (.iload_n 1, 1) := by decide +kernel
theorem dX4_punch_57 : decode cX4_punch 57 = .ok (.invokestatic 130, 3) := by decide +kernel
theorem dX4_punch_60 : decode cX4_punch 60 = .ok (.istore_n 3, 1) := by decide +kernel
theorem dX4_punch_61 : decode cX4_punch 61 = .ok (.aload_n 0, 1) := by decide +kernel
theorem dX4_punch_62 : decode cX4_punch 62 = .ok (.getfield 10, 3) := by decide +kernel
theorem dX4_punch_65 : decode cX4_punch 65 = .ok (.getfield 145, 3) := by decide +kernel
theorem dX4_punch_68 : decode cX4_punch 68 = .ok (.iload_n 1, 1) := by decide +kernel
theorem dX4_punch_69 : decode cX4_punch 69 = .ok (.iload_n 2, 1) := by decide +kernel
theorem dX4_punch_70 : decode cX4_punch 70 = .ok (.invokestatic 148, 3) := by decide +kernel
theorem dX4_punch_73 : decode cX4_punch 73 = .ok (.iload_n 3, 1) := by decide +kernel
theorem dX4_punch_74 : decode cX4_punch 74 = .ok (.ireturn, 1) := by decide +kernel
