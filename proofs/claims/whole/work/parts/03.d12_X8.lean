theorem dX8_goOnByWord_61 : decode cX8_goOnByWord 61 = .ok (.aload_n 0, 1) := by decide +kernel
theorem dX8_goOnByWord_62 : decode cX8_goOnByWord 62 = .ok (.getfield 42, 3) := by decide +kernel
theorem dX8_goOnByWord_65 : decode cX8_goOnByWord 65 = .ok (.iload_n 1, 1) := by decide +kernel
theorem dX8_goOnByWord_66 : decode cX8_goOnByWord 66 = .ok (.iconst 0, 1) := by decide +kernel
theorem dX8_goOnByWord_67 : decode cX8_goOnByWord 67 = .ok (.invokevirtual 171, 3) := by decide +kernel
theorem dX8_goOnByWord_70 : decode cX8_goOnByWord 70 = .ok (.iconst 1, 1) := by decide +kernel
theorem dX8_goOnByWord_71 : decode cX8_goOnByWord 71 = .ok (.ireturn, 1) := by decide +kernel
theorem dX8_goBackByWord_0 : decode cX8_goBackByWord 0 = .ok (.aload_n 0, 1) := by decide +kernel
theorem dX8_goBackByWord_1 : decode cX8_goBackByWord 1 = .ok (.getfield 42, 3) := by decide +kernel
theorem dX8_goBackByWord_4 : decode cX8_goBackByWord 4 = .ok (.invokevirtual 91, 3) := by decide +kernel
theorem dX8_goBackByWord_7 : decode cX8_goBackByWord 7 = .ok (.ifCond .ne 5, 3) := by decide +kernel
theorem dX8_goBackByWord_10 : decode cX8_goBackByWord 10 = .ok (.iconst 0, 1) := by decide +kernel
theorem dX8_goBackByWord_11 : decode cX8_goBackByWord 11 = .ok (.ireturn, 1) := by decide +kernel
theorem dX8_goBackByWord_12 : decode cX8_goBackByWord 12 = .ok (.aload_n 0, 1) := by decide +kernel
theorem dX8_goBackByWord_13 : decode cX8_goBackByWord 13 = .ok (.getfield 42, 3) := by decide +kernel
theorem dX8_goBackByWord_16 : decode cX8_goBackByWord 16 = .ok (.invokevirtual 91, 3) := by decide +kernel
theorem dX8_goBackByWord_19 : decode cX8_goBackByWord 19 = .ok (.iconst 1, 1) := by decide +kernel
theorem dX8_goBackByWord_20 : decode cX8_goBackByWord 20 = .ok (.isub, 1) := by decide +kernel
theorem dX8_goBackByWord_21 : decode cX8_goBackByWord 21 = .ok (.istore_n 1, 1) := by decide +kernel
theorem dX8_goBackByWord_22 : decode cX8_goBackByWord 22 = .ok (.iload_n 1, 1) := by decide +kernel
theorem dX8_goBackByWord_23 : decode cX8_goBackByWord 23 = .ok (.ifCond .le 17, 3) := by decide +kernel
theorem dX8_goBackByWord_26 : decode cX8_goBackByWord 26 = .ok (.aload_n 0, 1) := by decide +kernel
theorem dX8_goBackByWord_27 : decode cX8_goBackByWord 27 = .ok (.iload_n 1, 1) := by decide +kernel
theorem dX8_goBackByWord_28 : decode cX8_goBackByWord 28 = .ok (.invokevirtual 262, 3) := by decide +kernel
theorem dX8_goBackByWord_31 : decode cX8_goBackByWord 31 = .ok (.ifCond .ne 9, 3) := by decide +kernel
theorem dX8_goBackByWord_34 : decode cX8_goBackByWord 34 = .ok (.iinc 1 (-1), 3) := by decide +kernel
theorem dX8_goBackByWord_37 : decode cX8_goBackByWord 37 = .ok (.goto (-15), 3) := by decide +kernel
theorem dX8_goBackByWord_40 : decode cX8_goBackByWord 40 = .ok (.aload_n 0, 1) := by decide +kernel
theorem dX8_goBackByWord_41 : decode cX8_goBackByWord 41 = .ok (.getfield 42, 3) := by decide +kernel
theorem dX8_goBackByWord_44 : decode cX8_goBackByWord 44 = .ok (.iload_n 1, 1) := by decide +kernel
theorem dX8_goBackByWord_45 : decode cX8_goBackByWord 45 = .ok (.iconst 1, 1) := by decide +kernel
theorem dX8_goBackByWord_46 : decode cX8_goBackByWord 46 = .ok (.invokevirtual 171, 3) := by decide +kernel
theorem dX8_goBackByWord_49 : decode cX8_goBackByWord 49 = .ok (.iconst 1, 1) := by decide +kernel
theorem dX8_goBackByWord_50 : decode cX8_goBackByWord 50 = .ok (.ireturn, 1) := by decide +kernel
theorem dX8_beginsWord_0 : decode cX8_beginsWord 0 = .ok (.aload_n 0, 1) := by decide +kernel
theorem dX8_beginsWord_1 : decode cX8_beginsWord 1 = .ok (.getfield 19, 3) := by decide +kernel
theorem dX8_beginsWord_4 : decode cX8_beginsWord 4 = .ok (.iload_n 1, 1) := by decide +kernel
theorem dX8_beginsWord_5 : decode cX8_beginsWord 5 = .ok (.invokevirtual 265, 3) := by decide +kernel
theorem dX8_beginsWord_8 : decode cX8_beginsWord 8 = .ok (.istore_n 2, 1) := by decide +kernel
theorem dX8_beginsWord_9 : decode cX8_beginsWord 9 = .ok (.aload_n 0, 1) := by decide +kernel
theorem dX8_beginsWord_10 : decode cX8_beginsWord 10 = .ok (.getfield 19, 3) := by decide +kernel
theorem dX8_beginsWord_13 : decode cX8_beginsWord 13 = .ok (.iload_n 1, 1) := by decide +kernel
theorem dX8_beginsWord_14 : decode cX8_beginsWord 14 = .ok (.invokevirtual 268, 3) := by decide +kernel
theorem dX8_beginsWord_17 : decode cX8_beginsWord 17 = .ok (.istore_n 3, 1) := by decide +kernel
theorem dX8_beginsWord_18 : decode cX8_beginsWord 18 = .ok (.iload_n 2, 1) := by decide +kernel
theorem dX8_beginsWord_19 : decode cX8_beginsWord 19 = .ok (.iconst (-1), 1) := by decide +kernel
theorem dX8_beginsWord_20 : decode cX8_beginsWord 20 = .ok (.if_icmp .eq 54, 3) := by decide +kernel
theorem dX8_beginsWord_23 : decode cX8_beginsWord 23 = .ok (.iload_n 3, 1) := by decide +kernel
theorem dX8_beginsWord_24 : decode cX8_beginsWord 24 = .ok (.iconst (-1), 1) := by decide +kernel
theorem dX8_beginsWord_25 : decode cX8_beginsWord 25 = .ok (.if_icmp .eq 49, 3) := by decide +kernel
theorem dX8_beginsWord_28 : decode cX8_beginsWord 28 = .ok (.aload_n 0, 1) := by decide +kernel
theorem dX8_beginsWord_29 : decode cX8_beginsWord 29 = .ok (.getfield 10, 3) := by decide +kernel
theorem dX8_beginsWord_32 : decode cX8_beginsWord 32 = .ok (.aload_n 0, 1) := by decide +kernel
theorem dX8_beginsWord_33 : decode cX8_beginsWord 33 = .ok (.getfield 19, 3) := by decide +kernel
theorem dX8_beginsWord_36 : decode cX8_beginsWord 36 = .ok (.iload_n 2, 1) := by decide +kernel
theorem dX8_beginsWord_37 : decode cX8_beginsWord 37 = .ok (.invokevirtual 134, 3) := by decide +kernel
theorem dX8_beginsWord_40 : decode cX8_beginsWord 40 = .ok (.invokevirtual 123, 3) := by decide +kernel
theorem dX8_beginsWord_43 : decode cX8_beginsWord 43 = .ok (.invokestatic 271, 3) := by decide +kernel
theorem dX8_beginsWord_46 : decode cX8_beginsWord 46 = .ok (.ifCond .ne 28, 3) := by decide +kernel
theorem dX8_beginsWord_49 : decode cX8_beginsWord 49 = .ok (.aload_n 0, 1) := by decide +kernel
theorem dX8_beginsWord_50 : decode cX8_beginsWord 50 = .ok (.getfield 10, 3) := by decide +kernel
theorem dX8_beginsWord_53 : decode cX8_beginsWord 53 = .ok (.aload_n 0, 1) := by decide +kernel
theorem dX8_beginsWord_54 : decode cX8_beginsWord 54 = .ok (.getfield 19, 3) := by decide +kernel
theorem dX8_beginsWord_57 : decode cX8_beginsWord 57 = .ok (.iload_n 3, 1) := by decide +kernel
theorem dX8_beginsWord_58 : decode cX8_beginsWord 58 = .ok (.invokevirtual 134, 3) := by decide +kernel
theorem dX8_beginsWord_61 : decode cX8_beginsWord 61 = .ok (.invokevirtual 123, 3) := by decide +kernel
theorem dX8_beginsWord_64 : decode cX8_beginsWord 64 = .ok (.invokestatic 271, 3) := by decide +kernel
theorem dX8_beginsWord_67 : decode cX8_beginsWord 67 = .ok (.ifCond .eq 7, 3) := by decide +kernel
theorem dX8_beginsWord_70 : decode cX8_beginsWord 70 = .ok (.iconst 1, 1) := by decide +kernel
theorem dX8_beginsWord_71 : decode cX8_beginsWord 71 = .ok (.goto 4, 3) := by decide +kernel
theorem dX8_beginsWord_74 : decode cX8_beginsWord 74 = .ok (.iconst 0, 1) := by decide +kernel
theorem dX8_beginsWord_75 : decode cX8_beginsWord 75 = .ok (.ireturn, 1) := by decide +kernel
theorem dX8_pickWithin_0 : decode cX8_pickWithin 0 = .ok (.iload_n 2, 1) := by decide +kernel
theorem dX8_pickWithin_1 : decode cX8_pickWithin 1 = .ok (.aload_n 0, 1) := by decide +kernel
theorem dX8_pickWithin_2 : decode cX8_pickWithin 2 = .ok (.getfield 33, 3) := by decide +kernel
theorem dX8_pickWithin_5 : decode cX8_pickWithin 5 = .ok (.iload_n 1, 1) := by decide +kernel
theorem dX8_pickWithin_6 : decode cX8_pickWithin 6 = .ok (.invokevirtual 141, 3) := by decide +kernel
theorem dX8_pickWithin_9 : decode cX8_pickWithin 9 = .ok (.isub, 1) := by decide +kernel
theorem dX8_pickWithin_10 : decode cX8_pickWithin 10 = .ok (.istore_n 3, 1) := by decide +kernel
theorem dX8_pickWithin_11 : decode cX8_pickWithin 11 = .ok (.aload_n 0, 1) := by decide +kernel
theorem dX8_pickWithin_12 : decode cX8_pickWithin 12 = .ok (.getfield 19, 3) := by decide +kernel
theorem dX8_pickWithin_15 : decode cX8_pickWithin 15 = .ok (.iload_n 1, 1) := by decide +kernel
theorem dX8_pickWithin_16 : decode cX8_pickWithin 16 = .ok (.invokevirtual 144, 3) := by decide +kernel
theorem dX8_pickWithin_19 : decode cX8_pickWithin 19 = .ok (.istore 4, 2) := by decide +kernel
theorem dX8_pickWithin_21 : decode cX8_pickWithin 21 = .ok (.aload_n 0, 1) := by decide +kernel
theorem dX8_pickWithin_22 : decode cX8_pickWithin 22 = .ok (.getfield 19, 3) := by decide +kernel
theorem dX8_pickWithin_25 : decode cX8_pickWithin 25 = .ok (.iload_n 1, 1) := by decide +kernel
theorem dX8_pickWithin_26 : decode cX8_pickWithin 26 = .ok (.invokevirtual 147, 3) := by decide +kernel
theorem dX8_pickWithin_29 : decode cX8_pickWithin 29 = .ok (.ifCond .eq 32, 3) := by decide +kernel
theorem dX8_pickWithin_32 : decode cX8_pickWithin 32 = .ok (.iconst 4, 1) := by decide +kernel
theorem dX8_pickWithin_33 : decode cX8_pickWithin 33 = .ok (.iload_n 3, 1) := by decide +kernel
theorem dX8_pickWithin_34 : decode cX8_pickWithin 34 = .ok (.imul, 1) := by decide +kernel
theorem dX8_pickWithin_35 : decode cX8_pickWithin 35 = .ok (.iload 4, 2) := by decide +kernel
theorem dX8_pickWithin_37 : decode cX8_pickWithin 37 = .ok (.if_icmp .lt 24, 3) := by decide +kernel
theorem dX8_pickWithin_40 : decode cX8_pickWithin 40 = .ok (.iconst 4, 1) := by decide +kernel
theorem dX8_pickWithin_41 : decode cX8_pickWithin 41 = .ok (.iload_n 3, 1) := by decide +kernel
theorem dX8_pickWithin_42 : decode cX8_pickWithin 42 = .ok (.imul, 1) := by decide +kernel
theorem dX8_pickWithin_43 : decode cX8_pickWithin 43 = .ok (.iconst 3, 1) := by decide +kernel
theorem dX8_pickWithin_44 : decode cX8_pickWithin 44 = .ok (.iload 4, 2) := by decide +kernel
theorem dX8_pickWithin_46 : decode cX8_pickWithin 46 = .ok (.imul, 1) := by decide +kernel
theorem dX8_pickWithin_47 : decode cX8_pickWithin 47 = .ok (.if_icmp .ge 14, 3) := by decide +kernel
theorem dX8_pickWithin_50 : decode cX8_pickWithin 50 = .ok (.aload_n 0, 1) := by decide +kernel
theorem dX8_pickWithin_51 : decode cX8_pickWithin 51 = .ok (.getfield 42, 3) := by decide +kernel
theorem dX8_pickWithin_54 : decode cX8_pickWithin 54 = .ok (.iload_n 1, 1) := by decide +kernel
theorem dX8_pickWithin_55 : decode cX8_pickWithin 55 = .ok (.invokevirtual 274, 3) := by decide +kernel
theorem dX8_pickWithin_58 : decode cX8_pickWithin 58 = .ok (.goto 24, 3) := by decide +kernel
theorem dX8_pickWithin_61 : decode cX8_pickWithin 61 = .ok (.aload_n 0, 1) := by decide +kernel
theorem dX8_pickWithin_62 : decode cX8_pickWithin 62 = .ok (.getfield 42, 3) := by decide +kernel
theorem dX8_pickWithin_65 : decode cX8_pickWithin 65 = .ok (.iload_n 1, 1) := by decide +kernel
theorem dX8_pickWithin_66 : decode cX8_pickWithin 66 = .ok (.iconst 2, 1) := by decide +kernel
theorem dX8_pickWithin_67 : decode cX8_pickWithin 67 = .ok (.iload_n 3, 1) := by decide +kernel
theorem dX8_pickWithin_68 : decode cX8_pickWithin 68 = .ok (.imul, 1) := by decide +kernel
theorem dX8_pickWithin_69 : decode cX8_pickWithin 69 = .ok (.iload 4, 2) := by decide +kernel
theorem dX8_pickWithin_71 : decode cX8_pickWithin 71 = .ok (.if_icmp .lt 7, 3) := by decide +kernel
theorem dX8_pickWithin_74 : decode cX8_pickWithin 74 = .ok (.iconst 1, 1) := by decide +kernel
theorem dX8_pickWithin_75 : decode cX8_pickWithin 75 = .ok (.goto 4, 3) := by decide +kernel
theorem dX8_pickWithin_78 : decode cX8_pickWithin 78 = .ok (.iconst 0, 1) := by decide +kernel
theorem dX8_pickWithin_79 : decode cX8_pickWithin 79 = .ok (.invokevirtual 191, 3) := by decide +kernel
theorem dX8_pickWithin_82 : decode cX8_pickWithin 82 = .ok (.return_, 1) := by decide +kernel
theorem dX8_byteOf_0 : decode cX8_byteOf 0 = .ok (.iload 4, 2) := by decide +kernel
theorem dX8_byteOf_2 : decode cX8_byteOf 2 = .ok (.iconst 4, 1) := by decide +kernel
theorem dX8_byteOf_3 : decode cX8_byteOf 3 = .ok (.if_icmp .ge 7, 3) := by decide +kernel
theorem dX8_byteOf_6 : decode cX8_byteOf 6 = .ok (.iload_n 0, 1) := by decide +kernel
theorem dX8_byteOf_7 : decode cX8_byteOf 7 = .ok (.goto 26, 3) := by decide +kernel
theorem dX8_byteOf_10 : decode cX8_byteOf 10 = .ok (.iload 4, 2) := by decide +kernel
theorem dX8_byteOf_12 : decode cX8_byteOf 12 = .ok (.bipush 8, 2) := by decide +kernel
theorem dX8_byteOf_14 : decode cX8_byteOf 14 = .ok (.if_icmp .ge 7, 3) := by decide +kernel
theorem dX8_byteOf_17 : decode cX8_byteOf 17 = .ok (.iload_n 1, 1) := by decide +kernel
theorem dX8_byteOf_18 : decode cX8_byteOf 18 = .ok (.goto 15, 3) := by decide +kernel
theorem dX8_byteOf_21 : decode cX8_byteOf 21 = .ok (.iload 4, 2) := by decide +kernel
theorem dX8_byteOf_23 : decode cX8_byteOf 23 = .ok (.bipush 12, 2) := by decide +kernel
theorem dX8_byteOf_25 : decode cX8_byteOf 25 = .ok (.if_icmp .ge 7, 3) := by decide +kernel
theorem dX8_byteOf_28 : decode cX8_byteOf 28 = .ok (.iload_n 2, 1) := by decide +kernel
theorem dX8_byteOf_29 : decode cX8_byteOf 29 = .ok (.goto 4, 3) := by decide +kernel
theorem dX8_byteOf_32 : decode cX8_byteOf 32 = .ok (.iload_n 3, 1) := by decide +kernel
theorem dX8_byteOf_33 : decode cX8_byteOf 33 = .ok (.istore 5, 2) := by decide +kernel
theorem dX8_byteOf_35 : decode cX8_byteOf 35 = .ok (.iload 5, 2) := by decide +kernel
theorem dX8_byteOf_37 : decode cX8_byteOf 37 = .ok (.bipush 24, 2) := by decide +kernel
theorem dX8_byteOf_39 : decode cX8_byteOf 39 = .ok (.bipush 8, 2) := by decide +kernel
theorem dX8_byteOf_41 : decode cX8_byteOf 41 = .ok (.iload 4, 2) := by decide +kernel
theorem dX8_byteOf_43 : decode cX8_byteOf 43 = .ok (.iconst 3, 1) := by decide +kernel
theorem dX8_byteOf_44 : decode cX8_byteOf 44 = .ok (.iand, 1) := by decide +kernel
theorem dX8_byteOf_45 : decode cX8_byteOf 45 = .ok (.imul, 1) := by decide +kernel
theorem dX8_byteOf_46 : decode cX8_byteOf 46 = .ok (.isub, 1) := by decide +kernel
theorem dX8_byteOf_47 : decode cX8_byteOf 47 = .ok (.iushr, 1) := by decide +kernel
theorem dX8_byteOf_48 : decode cX8_byteOf 48 = .ok (.sipush 255, 3) := by decide +kernel
theorem dX8_byteOf_51 : decode cX8_byteOf 51 = .ok (.iand, 1) := by decide +kernel
theorem dX8_byteOf_52 : decode cX8_byteOf 52 = .ok (.ireturn, 1) := by decide +kernel
theorem dX8_isEven_0 : decode cX8_isEven 0 = .ok (.iload_n 0, 1) := by decide +kernel
theorem dX8_isEven_1 : decode cX8_isEven 1 = .ok (.iconst 1, 1) := by decide +kernel
theorem dX8_isEven_2 : decode cX8_isEven 2 = .ok (.iand, 1) := by decide +kernel
theorem dX8_isEven_3 : decode cX8_isEven 3 = .ok (.ifCond .ne 7, 3) := by decide +kernel
theorem dX8_isEven_6 : decode cX8_isEven 6 = .ok (.iconst 1, 1) := by decide +kernel
theorem dX8_isEven_7 : decode cX8_isEven 7 = .ok (.goto 4, 3) := by decide +kernel
theorem dX8_isEven_10 : decode cX8_isEven 10 = .ok (.iconst 0, 1) := by decide +kernel
theorem dX8_isEven_11 : decode cX8_isEven 11 = .ok (.ireturn, 1) := by decide +kernel
theorem dX8_valueAt_0 : decode cX8_valueAt 0 = .ok (.iload_n 1, 1) := by decide +kernel
theorem dX8_valueAt_1 : decode cX8_valueAt 1 = .ok (.ifCond .lt 15, 3) := by decide +kernel
theorem dX8_valueAt_4 : decode cX8_valueAt 4 = .ok (.iload_n 1, 1) := by decide +kernel
theorem dX8_valueAt_5 : decode cX8_valueAt 5 = .ok (.aload_n 0, 1) := by decide +kernel
theorem dX8_valueAt_6 : decode cX8_valueAt 6 = .ok (.arraylength, 1) := by decide +kernel
theorem dX8_valueAt_7 : decode cX8_valueAt 7 = .ok (.if_icmp .ge 9, 3) := by decide +kernel
theorem dX8_valueAt_10 : decode cX8_valueAt 10 = .ok (.aload_n 0, 1) := by decide +kernel
theorem dX8_valueAt_11 : decode cX8_valueAt 11 = .ok (.iload_n 1, 1) := by decide +kernel
theorem dX8_valueAt_12 : decode cX8_valueAt 12 = .ok (.iaload, 1) := by decide +kernel
theorem dX8_valueAt_13 : decode cX8_valueAt 13 = .ok (.goto 4, 3) := by decide +kernel
theorem dX8_valueAt_16 : decode cX8_valueAt 16 = .ok (.iload_n 2, 1) := by decide +kernel
theorem dX8_valueAt_17 : decode cX8_valueAt 17 = .ok (.ireturn, 1) := by decide +kernel
