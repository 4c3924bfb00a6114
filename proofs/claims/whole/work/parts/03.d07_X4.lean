theorem dX4_init_0 : decode cX4_init 0 = .ok (.aload_n 0, 1) := by decide +kernel
theorem dX4_init_1 : decode cX4_init 1 = .ok (.invokespecial 3, 3) := by decide +kernel
theorem dX4_init_4 : decode cX4_init 4 = .ok (.aload_n 0, 1) := by decide +kernel
theorem dX4_init_5 : decode cX4_init 5 = .ok (.bipush 60, 2) := by decide +kernel
theorem dX4_init_7 : decode cX4_init 7 = .ok (.newarray .int, 2) := by decide +kernel
theorem dX4_init_9 : decode cX4_init 9 = .ok (.putfield 9, 3) := by decide +kernel
theorem dX4_init_12 : decode cX4_init 12 = .ok (.aload_n 0, 1) := by decide +kernel
theorem dX4_init_13 : decode cX4_init 13 = .ok (.bipush 60, 2) := by decide +kernel
theorem dX4_init_15 : decode cX4_init 15 = .ok (.newarray .int, 2) := by decide +kernel
theorem dX4_init_17 : decode cX4_init 17 = .ok (.putfield 15, 3) := by decide +kernel
theorem dX4_init_20 : decode cX4_init 20 = .ok (.aload_n 0, 1) := by decide +kernel
theorem dX4_init_21 : decode cX4_init 21 = .ok (.iconst 0, 1) := by decide +kernel
theorem dX4_init_22 : decode cX4_init 22 = .ok (.putfield 18, 3) := by decide +kernel
theorem dX4_init_25 : decode cX4_init 25 = .ok (.return_, 1) := by decide +kernel
theorem dX4_gather_0 : decode cX4_gather 0 = .ok (.aload_n 0, 1) := by decide +kernel
theorem dX4_gather_1 : decode cX4_gather 1 = .ok (.iconst 0, 1) := by decide +kernel
theorem dX4_gather_2 : decode cX4_gather 2 = .ok (.putfield 18, 3) := by decide +kernel
theorem dX4_gather_5 : decode cX4_gather 5 = .ok (.iconst 0, 1) := by decide +kernel
theorem dX4_gather_6 : decode cX4_gather 6 = .ok (.istore 5, 2) := by decide +kernel
theorem dX4_gather_8 : decode cX4_gather 8 = .ok (.iconst 0, 1) := by decide +kernel
theorem dX4_gather_9 : decode cX4_gather 9 = .ok (.istore 6, 2) := by decide +kernel
theorem dX4_gather_11 : decode cX4_gather 11 = .ok (.iload 6, 2) := by decide +kernel
theorem dX4_gather_13 : decode cX4_gather 13 = .ok (.aload_n 1, 1) := by decide +kernel
theorem dX4_gather_14 : decode cX4_gather 14 = .ok (.invokevirtual 22, 3) := by decide +kernel
theorem dX4_gather_17 : decode cX4_gather 17 = .ok (.if_icmp .ge 72, 3) := by decide +kernel
theorem dX4_gather_20 : decode cX4_gather 20 = .ok (.aload_n 2, 1) := by decide +kernel
theorem dX4_gather_21 : decode cX4_gather 21 = .ok (.iload 6, 2) := by decide +kernel
theorem dX4_gather_23 : decode cX4_gather 23 = .ok (.invokevirtual 27, 3) := by decide +kernel
theorem dX4_gather_26 : decode cX4_gather 26 = .ok (.istore 7, 2) := by decide +kernel
theorem dX4_gather_28 : decode cX4_gather 28 = .ok (.aload_n 1, 1) := by decide +kernel
theorem dX4_gather_29 : decode cX4_gather 29 = .ok (.iload 7, 2) := by decide +kernel
theorem dX4_gather_31 : decode cX4_gather 31 = .ok (.invokevirtual 33, 3) := by decide +kernel
theorem dX4_gather_34 : decode cX4_gather 34 = .ok (.istore 8, 2) := by decide +kernel
theorem dX4_gather_36 : decode cX4_gather 36 = .ok (.iload 8, 2) := by decide +kernel
theorem dX4_gather_38 : decode cX4_gather 38 = .ok (.iload_n 3, 1) := by decide +kernel
theorem dX4_gather_39 : decode cX4_gather 39 = .ok (.if_icmp .lt 14, 3) := by decide +kernel
theorem dX4_gather_42 : decode cX4_gather 42 = .ok (.iload 8, 2) := by decide +kernel
theorem dX4_gather_44 : decode cX4_gather 44 = .ok (.iload 4, 2) := by decide +kernel
theorem dX4_gather_46 : decode cX4_gather 46 = .ok (.if_icmp .ge 7, 3) := by decide +kernel
theorem dX4_gather_49 : decode cX4_gather 49 = .ok (.iconst 1, 1) := by decide +kernel
theorem dX4_gather_50 : decode cX4_gather 50 = .ok (.goto 4, 3) := by decide +kernel
theorem dX4_gather_53 : decode cX4_gather 53 = .ok (.iconst 0, 1) := by decide +kernel
theorem dX4_gather_54 : decode cX4_gather 54 = .ok (.istore 9, 2) := by decide +kernel
theorem dX4_gather_56 : decode cX4_gather 56 = .ok (.iload 9, 2) := by decide +kernel
theorem dX4_gather_58 : decode cX4_gather 58 = .ok (.ifCond .eq 21, 3) := by decide +kernel
theorem dX4_gather_61 : decode cX4_gather 61 = .ok (.aload_n 0, 1) := by decide +kernel
theorem dX4_gather_62 : decode cX4_gather 62 = .ok (.aload_n 2, 1) := by decide +kernel
theorem dX4_gather_63 : decode cX4_gather 63 = .ok (.iload 7, 2) := by decide +kernel
theorem dX4_gather_65 : decode cX4_gather 65 = .ok (.invokevirtual 36, 3) := by decide +kernel
theorem dX4_gather_68 : decode cX4_gather 68 = .ok (.aload_n 2, 1) := by decide +kernel
theorem dX4_gather_69 : decode cX4_gather 69 = .ok (.iload 7, 2) := by decide +kernel
theorem dX4_gather_71 : decode cX4_gather 71 = .ok (.invokevirtual 39, 3) := by decide +kernel
theorem dX4_gather_74 : decode cX4_gather 74 = .ok (.iload 5, 2) := by decide +kernel
theorem dX4_gather_76 : decode cX4_gather 76 = .ok (.invokevirtual 42, 3) := by decide +kernel
theorem dX4_gather_79 : decode cX4_gather 79 = .ok (.iload 9, 2) := by decide +kernel
theorem dX4_gather_81 : decode cX4_gather 81 = .ok (.istore 5, 2) := by decide +kernel
theorem dX4_gather_83 : decode cX4_gather 83 = .ok (.iinc 6 1, 3) := by decide +kernel
theorem dX4_gather_86 : decode cX4_gather 86 = .ok (.goto (-75), 3) := by decide +kernel
theorem dX4_gather_89 : decode cX4_gather 89 = .ok (.return_, 1) := by decide +kernel
theorem dX4_add_0 : decode cX4_add 0 = .ok (.iload_n 3, 1) := by decide +kernel
theorem dX4_add_1 : decode cX4_add 1 = .ok (.ifCond .eq 37, 3) := by decide +kernel
theorem dX4_add_4 : decode cX4_add 4 = .ok (.aload_n 0, 1) := by decide +kernel
theorem dX4_add_5 : decode cX4_add 5 = .ok (.getfield 18, 3) := by decide +kernel
theorem dX4_add_8 : decode cX4_add 8 = .ok (.ifCond .le 30, 3) := by decide +kernel
theorem dX4_add_11 : decode cX4_add 11 = .ok (.aload_n 0, 1) := by decide +kernel
theorem dX4_add_12 : decode cX4_add 12 = .ok (.getfield 18, 3) := by decide +kernel
theorem dX4_add_15 : decode cX4_add 15 = .ok (.aload_n 0, 1) := by decide +kernel
theorem dX4_add_16 : decode cX4_add 16 = .ok (.getfield 15, 3) := by decide +kernel
theorem dX4_add_19 : decode cX4_add 19 = .ok (.arraylength, 1) := by decide +kernel
theorem dX4_add_20 : decode cX4_add 20 = .ok (.if_icmp .gt 18, 3) := by decide +kernel
theorem dX4_add_23 : decode cX4_add 23 = .ok (.aload_n 0, 1) := by decide +kernel
theorem dX4_add_24 : decode cX4_add 24 = .ok (.getfield 15, 3) := by decide +kernel
theorem dX4_add_27 : decode cX4_add 27 = .ok (.aload_n 0, 1) := by decide +kernel
theorem dX4_add_28 : decode cX4_add 28 = .ok (.getfield 18, 3) := by decide +kernel
theorem dX4_add_31 : decode cX4_add 31 = .ok (.iconst 1, 1) := by decide +kernel
theorem dX4_add_32 : decode cX4_add 32 = .ok (.isub, 1) := by decide +kernel
theorem dX4_add_33 : decode cX4_add 33 = .ok (.iload_n 2, 1) := by decide +kernel
theorem dX4_add_34 : decode cX4_add 34 = .ok (.iastore, 1) := by decide +kernel
theorem dX4_add_35 : decode cX4_add 35 = .ok (.goto 52, 3) := by decide +kernel
theorem dX4_add_38 : decode cX4_add 38 = .ok (.aload_n 0, 1) := by decide +kernel
theorem dX4_add_39 : decode cX4_add 39 = .ok (.getfield 18, 3) := by decide +kernel
theorem dX4_add_42 : decode cX4_add 42 = .ok (.ifCond .lt 45, 3) := by decide +kernel
theorem dX4_add_45 : decode cX4_add 45 = .ok (.aload_n 0, 1) := by decide +kernel
theorem dX4_add_46 : decode cX4_add 46 = .ok (.getfield 18, 3) := by decide +kernel
theorem dX4_add_49 : decode cX4_add 49 = .ok (.aload_n 0, 1) := by decide +kernel
theorem dX4_add_50 : decode cX4_add 50 = .ok (.getfield 9, 3) := by decide +kernel
theorem dX4_add_53 : decode cX4_add 53 = .ok (.arraylength, 1) := by decide +kernel
theorem dX4_add_54 : decode cX4_add 54 = .ok (.if_icmp .ge 33, 3) := by decide +kernel
theorem dX4_add_57 : decode cX4_add 57 = .ok (.aload_n 0, 1) := by decide +kernel
theorem dX4_add_58 : decode cX4_add 58 = .ok (.getfield 9, 3) := by decide +kernel
theorem dX4_add_61 : decode cX4_add 61 = .ok (.aload_n 0, 1) := by decide +kernel
theorem dX4_add_62 : decode cX4_add 62 = .ok (.getfield 18, 3) := by decide +kernel
theorem dX4_add_65 : decode cX4_add 65 = .ok (.iload_n 1, 1) := by decide +kernel
theorem dX4_add_66 : decode cX4_add 66 = .ok (.iastore, 1) := by decide +kernel
theorem dX4_add_67 : decode cX4_add 67 = .ok (.aload_n 0, 1) := by decide +kernel
theorem dX4_add_68 : decode cX4_add 68 = .ok (.getfield 15, 3) := by decide +kernel
theorem dX4_add_71 : decode cX4_add 71 = .ok (.aload_n 0, 1) := by decide +kernel
theorem dX4_add_72 : decode cX4_add 72 = .ok (.getfield 18, 3) := by decide +kernel
theorem dX4_add_75 : decode cX4_add 75 = .ok (.iload_n 2, 1) := by decide +kernel
theorem dX4_add_76 : decode cX4_add 76 = .ok (.iastore, 1) := by decide +kernel
theorem dX4_add_77 : decode cX4_add 77 = .ok (.aload_n 0, 1) := by decide +kernel
theorem dX4_add_78 : decode cX4_add 78 = .ok (.dup, 1) := by decide +kernel
theorem dX4_add_79 : decode cX4_add 79 = .ok (.getfield 18, 3) := by decide +kernel
theorem dX4_add_82 : decode cX4_add 82 = .ok (.iconst 1, 1) := by decide +kernel
theorem dX4_add_83 : decode cX4_add 83 = .ok (.iadd, 1) := by decide +kernel
theorem dX4_add_84 : decode cX4_add 84 = .ok (.putfield 18, 3) := by decide +kernel
theorem dX4_add_87 : decode cX4_add 87 = .ok (.return_, 1) := by decide +kernel
theorem dX4_number_0 : decode cX4_number 0 = .ok (.aload_n 0, 1) := by decide +kernel
theorem dX4_number_1 : decode cX4_number 1 = .ok (.getfield 18, 3) := by decide +kernel
theorem dX4_number_4 : decode cX4_number 4 = .ok (.ireturn, 1) := by decide +kernel
theorem dX4_leftOf_0 : decode cX4_leftOf 0 = .ok (.iload_n 1, 1) := by decide +kernel
theorem dX4_leftOf_1 : decode cX4_leftOf 1 = .ok (.aload_n 0, 1) := by decide +kernel
theorem dX4_leftOf_2 : decode cX4_leftOf 2 = .ok (.getfield 18, 3) := by decide +kernel
theorem dX4_leftOf_5 : decode cX4_leftOf 5 = .ok (.if_icmp .ge 15, 3) := by decide +kernel
theorem dX4_leftOf_8 : decode cX4_leftOf 8 = .ok (.aload_n 0, 1) := by decide +kernel
theorem dX4_leftOf_9 : decode cX4_leftOf 9 = .ok (.getfield 9, 3) := by decide +kernel
theorem dX4_leftOf_12 : decode cX4_leftOf 12 = .ok (.iload_n 1, 1) := by decide +kernel
theorem dX4_leftOf_13 : decode cX4_leftOf 13 = .ok (.iconst (-1), 1) := by decide +kernel
theorem dX4_leftOf_14 : decode cX4_leftOf 14 = .ok (.invokestatic 46, 3) := by decide +kernel
theorem dX4_leftOf_17 : decode cX4_leftOf 17 = .ok (.goto 4, 3) := by decide +kernel
theorem dX4_leftOf_20 : decode cX4_leftOf 20 = .ok (.iconst (-1), 1) := by decide +kernel
theorem dX4_leftOf_21 : decode cX4_leftOf 21 = .ok (.ireturn, 1) := by decide +kernel
theorem dX4_rightOf_0 : decode cX4_rightOf 0 = .ok (.iload_n 1, 1) := by decide +kernel
theorem dX4_rightOf_1 : decode cX4_rightOf 1 = .ok (.aload_n 0, 1) := by decide +kernel
theorem dX4_rightOf_2 : decode cX4_rightOf 2 = .ok (.getfield 18, 3) := by decide +kernel
theorem dX4_rightOf_5 : decode cX4_rightOf 5 = .ok (.if_icmp .ge 15, 3) := by decide +kernel
theorem dX4_rightOf_8 : decode cX4_rightOf 8 = .ok (.aload_n 0, 1) := by decide +kernel
theorem dX4_rightOf_9 : decode cX4_rightOf 9 = .ok (.getfield 15, 3) := by decide +kernel
theorem dX4_rightOf_12 : decode cX4_rightOf 12 = .ok (.iload_n 1, 1) := by decide +kernel
theorem dX4_rightOf_13 : decode cX4_rightOf 13 = .ok (.iconst (-1), 1) := by decide +kernel
theorem dX4_rightOf_14 : decode cX4_rightOf 14 = .ok (.invokestatic 46, 3) := by decide +kernel
theorem dX4_rightOf_17 : decode cX4_rightOf 17 = .ok (.goto 4, 3) := by decide +kernel
theorem dX4_rightOf_20 : decode cX4_rightOf 20 = .ok (.iconst (-1), 1) := by decide +kernel
theorem dX4_rightOf_21 : decode cX4_rightOf 21 = .ok (.ireturn, 1) := by decide +kernel
