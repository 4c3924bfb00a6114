theorem dX6_init_0 : decode cX6_init 0 = .ok (.aload_n 0, 1) := by decide +kernel
theorem dX6_init_1 : decode cX6_init 1 = .ok (.invokespecial 3, 3) := by decide +kernel
theorem dX6_init_4 : decode cX6_init 4 = .ok (.aload_n 0, 1) := by decide +kernel
theorem dX6_init_5 : decode cX6_init 5 = .ok (.bipush 60, 2) := by decide +kernel
theorem dX6_init_7 : decode cX6_init 7 = .ok (.newarray .int, 2) := by decide +kernel
theorem dX6_init_9 : decode cX6_init 9 = .ok (.putfield 9, 3) := by decide +kernel
theorem dX6_init_12 : decode cX6_init 12 = .ok (.aload_n 0, 1) := by decide +kernel
theorem dX6_init_13 : decode cX6_init 13 = .ok (.bipush 60, 2) := by decide +kernel
theorem dX6_init_15 : decode cX6_init 15 = .ok (.newarray .int, 2) := by decide +kernel
theorem dX6_init_17 : decode cX6_init 17 = .ok (.putfield 15, 3) := by decide +kernel
theorem dX6_init_20 : decode cX6_init 20 = .ok (.aload_n 0, 1) := by decide +kernel
theorem dX6_init_21 : decode cX6_init 21 = .ok (.bipush 60, 2) := by decide +kernel
theorem dX6_init_23 : decode cX6_init 23 = .ok (.newarray .int, 2) := by decide +kernel
theorem dX6_init_25 : decode cX6_init 25 = .ok (.putfield 18, 3) := by decide +kernel
theorem dX6_init_28 : decode cX6_init 28 = .ok (.aload_n 0, 1) := by decide +kernel
theorem dX6_init_29 : decode cX6_init 29 = .ok (.bipush 60, 2) := by decide +kernel
theorem dX6_init_31 : decode cX6_init 31 = .ok (.newarray .int, 2) := by decide +kernel
theorem dX6_init_33 : decode cX6_init 33 = .ok (.putfield 21, 3) := by decide +kernel
theorem dX6_init_36 : decode cX6_init 36 = .ok (.return_, 1) := by decide +kernel
theorem dX6_lay_0 : decode cX6_lay 0 = .ok (.aload_n 0, 1) := by decide +kernel
theorem dX6_lay_1 : decode cX6_lay 1 = .ok (.aload_n 2, 1) := by decide +kernel
theorem dX6_lay_2 : decode cX6_lay 2 = .ok (.invokevirtual 24, 3) := by decide +kernel
theorem dX6_lay_5 : decode cX6_lay 5 = .ok (.putfield 30, 3) := by decide +kernel
theorem dX6_lay_8 : decode cX6_lay 8 = .ok (.aload_n 0, 1) := by decide +kernel
theorem dX6_lay_9 : decode cX6_lay 9 = .ok (.aload_n 1, 1) := by decide +kernel
theorem dX6_lay_10 : decode cX6_lay 10 = .ok (.invokevirtual 34, 3) := by decide +kernel
theorem dX6_lay_13 : decode cX6_lay 13 = .ok (.putfield 39, 3) := by decide +kernel
theorem dX6_lay_16 : decode cX6_lay 16 = .ok (.aload_n 0, 1) := by decide +kernel
theorem dX6_lay_17 : decode cX6_lay 17 = .ok (.iconst 0, 1) := by decide +kernel
theorem dX6_lay_18 : decode cX6_lay 18 = .ok (.putfield 42, 3) := by decide +kernel
theorem dX6_lay_21 : decode cX6_lay 21 = .ok (.iconst 0, 1) := by decide +kernel
theorem dX6_lay_22 : decode cX6_lay 22 = .ok (.istore 4, 2) := by decide +kernel
theorem dX6_lay_24 : decode cX6_lay 24 = .ok (.iload 4, 2) := by decide +kernel
theorem dX6_lay_26 : decode cX6_lay 26 = .ok (.aload_n 0, 1) := by decide +kernel
theorem dX6_lay_27 : decode cX6_lay 27 = .ok (.getfield 30, 3) := by decide +kernel
theorem dX6_lay_30 : decode cX6_lay 30 = .ok (.if_icmp .ge 53, 3) := by decide +kernel
theorem dX6_lay_33 : decode cX6_lay 33 = .ok (.aload_n 0, 1) := by decide +kernel
theorem dX6_lay_34 : decode cX6_lay 34 = .ok (.getfield 9, 3) := by decide +kernel
theorem dX6_lay_37 : decode cX6_lay 37 = .ok (.iload 4, 2) := by decide +kernel
theorem dX6_lay_39 : decode cX6_lay 39 = .ok (.aload_n 3, 1) := by decide +kernel
theorem dX6_lay_40 : decode cX6_lay 40 = .ok (.aload_n 2, 1) := by decide +kernel
theorem dX6_lay_41 : decode cX6_lay 41 = .ok (.iload 4, 2) := by decide +kernel
theorem dX6_lay_43 : decode cX6_lay 43 = .ok (.invokevirtual 45, 3) := by decide +kernel
theorem dX6_lay_46 : decode cX6_lay 46 = .ok (.invokevirtual 49, 3) := by decide +kernel
theorem dX6_lay_49 : decode cX6_lay 49 = .ok (.iastore, 1) := by decide +kernel
theorem dX6_lay_50 : decode cX6_lay 50 = .ok (.aload_n 0, 1) := by decide +kernel
theorem dX6_lay_51 : decode cX6_lay 51 = .ok (.getfield 15, 3) := by decide +kernel
theorem dX6_lay_54 : decode cX6_lay 54 = .ok (.iload 4, 2) := by decide +kernel
theorem dX6_lay_56 : decode cX6_lay 56 = .ok (.iload 4, 2) := by decide +kernel
theorem dX6_lay_58 : decode cX6_lay 58 = .ok (.iastore, 1) := by decide +kernel
theorem dX6_lay_59 : decode cX6_lay 59 = .ok (.aload_n 0, 1) := by decide +kernel
theorem dX6_lay_60 : decode cX6_lay 60 = .ok (.aload_n 0, 1) := by decide +kernel
theorem dX6_lay_61 : decode cX6_lay 61 = .ok (.getfield 42, 3) := by decide +kernel
theorem dX6_lay_64 : decode cX6_lay 64 = .ok (.aload_n 0, 1) := by decide +kernel
theorem dX6_lay_65 : decode cX6_lay 65 = .ok (.getfield 9, 3) := by decide +kernel
theorem dX6_lay_68 : decode cX6_lay 68 = .ok (.iload 4, 2) := by decide +kernel
theorem dX6_lay_70 : decode cX6_lay 70 = .ok (.iaload, 1) := by decide +kernel
theorem dX6_lay_71 : decode cX6_lay 71 = .ok (.invokestatic 54, 3) := by decide +kernel
theorem dX6_lay_74 : decode cX6_lay 74 = .ok (.putfield 42, 3) := by decide +kernel
theorem dX6_lay_77 : decode cX6_lay 77 = .ok (.iinc 4 1, 3) := by decide +kernel
theorem dX6_lay_80 : decode cX6_lay 80 = .ok (.goto (-56), 3) := by decide +kernel
theorem dX6_lay_83 : decode cX6_lay 83 = .ok (.aload_n 0, 1) := by decide +kernel
theorem dX6_lay_84 : decode cX6_lay 84 = .ok (.getfield 42, 3) := by decide +kernel
theorem dX6_lay_87 : decode cX6_lay 87 = .ok (.istore 4, 2) := by decide +kernel
theorem dX6_lay_89 : decode cX6_lay 89 = .ok (.iload 4, 2) := by decide +kernel
theorem dX6_lay_91 : decode cX6_lay 91 = .ok (.iconst 1, 1) := by decide +kernel
theorem dX6_lay_92 : decode cX6_lay 92 = .ok (.if_icmp .lt 15, 3) := by decide +kernel
theorem dX6_lay_95 : decode cX6_lay 95 = .ok (.aload_n 0, 1) := by decide +kernel
theorem dX6_lay_96 : decode cX6_lay 96 = .ok (.iload 4, 2) := by decide +kernel
theorem dX6_lay_98 : decode cX6_lay 98 = .ok (.invokevirtual 60, 3) := by decide +kernel
theorem dX6_lay_101 : decode cX6_lay 101 = .ok (.iinc 4 (-1), 3) := by decide +kernel
theorem dX6_lay_104 : decode cX6_lay 104 = .ok (.goto (-15), 3) := by decide +kernel
theorem dX6_lay_107 : decode cX6_lay 107 = .ok (.aload_n 0, 1) := by decide +kernel
theorem dX6_lay_108 : decode cX6_lay 108 = .ok (.aload_n 2, 1) := by decide +kernel
theorem dX6_lay_109 : decode cX6_lay 109 = .ok (.invokevirtual 64, 3) := by decide +kernel
theorem dX6_lay_112 : decode cX6_lay 112 = .ok (.return_, 1) := by decide +kernel
theorem dX6_turnRuns_0 : decode cX6_turnRuns 0 = .ok (.iconst 0, 1) := by decide +kernel
theorem dX6_turnRuns_1 : decode cX6_turnRuns 1 = .ok (.istore_n 2, 1) := by decide +kernel
theorem dX6_turnRuns_2 : decode cX6_turnRuns 2 = .ok (.iconst 0, 1) := by decide +kernel
theorem dX6_turnRuns_3 : decode cX6_turnRuns 3 = .ok (.istore_n 3, 1) := by decide +kernel
theorem dX6_turnRuns_4 : decode cX6_turnRuns 4 = .ok (.iload_n 3, 1) := by decide +kernel
theorem dX6_turnRuns_5 : decode cX6_turnRuns 5 = .ok (.aload_n 0, 1) := by decide +kernel
theorem dX6_turnRuns_6 : decode cX6_turnRuns 6 = .ok (.getfield 30, 3) := by decide +kernel
theorem dX6_turnRuns_9 : decode cX6_turnRuns 9 = .ok (.if_icmp .gt 47, 3) := by decide +kernel
theorem dX6_turnRuns_12 : decode cX6_turnRuns 12 = .ok (.iload_n 3, 1) := by decide +kernel
theorem dX6_turnRuns_13 : decode cX6_turnRuns 13 = .ok (.aload_n 0, 1) := by decide +kernel
theorem dX6_turnRuns_14 : decode cX6_turnRuns 14 = .ok (.getfield 30, 3) := by decide +kernel
theorem dX6_turnRuns_17 : decode cX6_turnRuns 17 = .ok (.if_icmp .eq 21, 3) := by decide +kernel
theorem dX6_turnRuns_20 : decode cX6_turnRuns 20 = .ok (.aload_n 0, 1) := by decide +kernel
theorem dX6_turnRuns_21 : decode cX6_turnRuns 21 = .ok (.getfield 9, 3) := by decide +kernel
theorem dX6_turnRuns_24 : decode cX6_turnRuns 24 = .ok (.aload_n 0, 1) := by decide +kernel
theorem dX6_turnRuns_25 : decode cX6_turnRuns 25 = .ok (.getfield 15, 3) := by decide +kernel
theorem dX6_turnRuns_28 : decode cX6_turnRuns 28 = .ok (.iload_n 3, 1) := by decide +kernel
theorem dX6_turnRuns_29 : decode cX6_turnRuns 29 = .ok (.iaload, 1) := by decide +kernel
theorem dX6_turnRuns_30 : decode cX6_turnRuns 30 = .ok (.iconst 0, 1) := by decide +kernel
theorem dX6_turnRuns_31 : decode cX6_turnRuns 31 = .ok (.invokestatic 68, 3) := by decide +kernel
theorem dX6_turnRuns_34 : decode cX6_turnRuns 34 = .ok (.iload_n 1, 1) := by decide +kernel
theorem dX6_turnRuns_35 : decode cX6_turnRuns 35 = .ok (.if_icmp .ge 15, 3) := by decide +kernel
theorem dX6_turnRuns_38 : decode cX6_turnRuns 38 = .ok (.aload_n 0, 1) := by decide +kernel
theorem dX6_turnRuns_39 : decode cX6_turnRuns 39 = .ok (.iload_n 2, 1) := by decide +kernel
theorem dX6_turnRuns_40 : decode cX6_turnRuns 40 = .ok (.iload_n 3, 1) := by decide +kernel
theorem dX6_turnRuns_41 : decode cX6_turnRuns 41 = .ok (.iconst 1, 1) := by decide +kernel
theorem dX6_turnRuns_42 : decode cX6_turnRuns 42 = .ok (.isub, 1) := by decide +kernel
theorem dX6_turnRuns_43 : decode cX6_turnRuns 43 = .ok (.invokevirtual 72, 3) := by decide +kernel
theorem dX6_turnRuns_46 : decode cX6_turnRuns 46 = .ok (.iload_n 3, 1) := by decide +kernel
theorem dX6_turnRuns_47 : decode cX6_turnRuns 47 = .ok (.iconst 1, 1) := by decide +kernel
theorem dX6_turnRuns_48 : decode cX6_turnRuns 48 = .ok (.iadd, 1) := by decide +kernel
theorem dX6_turnRuns_49 : decode cX6_turnRuns 49 = .ok (.istore_n 2, 1) := by decide +kernel
theorem dX6_turnRuns_50 : decode cX6_turnRuns 50 = .ok (.iinc 3 1, 3) := by decide +kernel
theorem dX6_turnRuns_53 : decode cX6_turnRuns 53 = .ok (.goto (-49), 3) := by decide +kernel
theorem dX6_turnRuns_56 : decode cX6_turnRuns 56 = .ok (.return_, 1) := by decide +kernel
theorem dX6_turn_0 : decode cX6_turn 0 = .ok (.iload_n 1, 1) := by decide +kernel
theorem dX6_turn_1 : decode cX6_turn 1 = .ok (.istore_n 3, 1) := by decide +kernel
theorem dX6_turn_2 : decode cX6_turn 2 = .ok (.iload_n 2, 1) := by decide +kernel
theorem dX6_turn_3 : decode cX6_turn 3 = .ok (.istore 4, 2) := by decide +kernel
theorem dX6_turn_5 : decode cX6_turn 5 = .ok (.iload_n 3, 1) := by decide +kernel
theorem dX6_turn_6 : decode cX6_turn 6 = .ok (.iload 4, 2) := by decide +kernel
theorem dX6_turn_8 : decode cX6_turn 8 = .ok (.if_icmp .ge 42, 3) := by decide +kernel
theorem dX6_turn_11 : decode cX6_turn 11 = .ok (.aload_n 0, 1) := by decide +kernel
theorem dX6_turn_12 : decode cX6_turn 12 = .ok (.getfield 15, 3) := by decide +kernel
theorem dX6_turn_15 : decode cX6_turn 15 = .ok (.iload_n 3, 1) := by decide +kernel
theorem dX6_turn_16 : decode cX6_turn 16 = .ok (.iaload, 1) := by decide +kernel
theorem dX6_turn_17 : decode cX6_turn 17 = .ok (.istore 5, 2) := by decide +kernel
theorem dX6_turn_19 : decode cX6_turn 19 = .ok (.aload_n 0, 1) := by decide +kernel
theorem dX6_turn_20 : decode cX6_turn 20 = .ok (.getfield 15, 3) := by decide +kernel
theorem dX6_turn_23 : decode cX6_turn 23 = .ok (.iload_n 3, 1) := by decide +kernel
theorem dX6_turn_24 : decode cX6_turn 24 = .ok (.aload_n 0, 1) := by decide +kernel
theorem dX6_turn_25 : decode cX6_turn 25 = .ok (.getfield 15, 3) := by decide +kernel
theorem dX6_turn_28 : decode cX6_turn 28 = .ok (.iload 4, 2) := by decide +kernel
theorem dX6_turn_30 : decode cX6_turn 30 = .ok (.iaload, 1) := by decide +kernel
theorem dX6_turn_31 : decode cX6_turn 31 = .ok (.iastore, 1) := by decide +kernel
theorem dX6_turn_32 : decode cX6_turn 32 = .ok (.aload_n 0, 1) := by decide +kernel
theorem dX6_turn_33 : decode cX6_turn 33 = .ok (.getfield 15, 3) := by decide +kernel
theorem dX6_turn_36 : decode cX6_turn 36 = .ok (.iload 4, 2) := by decide +kernel
theorem dX6_turn_38 : decode cX6_turn 38 = .ok (.iload 5, 2) := by decide +kernel
theorem dX6_turn_40 : decode cX6_turn 40 = .ok (.iastore, 1) := by decide +kernel
theorem dX6_turn_41 : decode cX6_turn 41 = .ok (.iinc 3 1, 3) := by decide +kernel
theorem dX6_turn_44 : decode cX6_turn 44 = .ok (.iinc 4 (-1), 3) := by decide +kernel
theorem dX6_turn_47 : decode cX6_turn 47 = .ok (.goto (-42), 3) := by decide +kernel
theorem dX6_turn_50 : decode cX6_turn 50 = .ok (.return_, 1) := by decide +kernel
theorem dX6_placeAll_0 : decode cX6_placeAll 0 = .ok (.aload_n 0, 1) := by decide +kernel
theorem dX6_placeAll_1 : decode cX6_placeAll 1 = .ok (.iconst 0, 1) := by decide +kernel
theorem dX6_placeAll_2 : decode cX6_placeAll 2 = .ok (.putfield 76, 3) := by decide +kernel
theorem dX6_placeAll_5 : decode cX6_placeAll 5 = .ok (.iconst 0, 1) := by decide +kernel
theorem dX6_placeAll_6 : decode cX6_placeAll 6 = .ok (.istore_n 2, 1) := by decide +kernel
theorem dX6_placeAll_7 : decode cX6_placeAll 7 = .ok (.iload_n 2, 1) := by decide +kernel
theorem dX6_placeAll_8 : decode cX6_placeAll 8 = .ok (.aload_n 0, 1) := by decide +kernel
theorem dX6_placeAll_9 : decode cX6_placeAll 9 = .ok (.getfield 30, 3) := by decide +kernel
theorem dX6_placeAll_12 : decode cX6_placeAll 12 = .ok (.if_icmp .ge 55, 3) := by decide +kernel
theorem dX6_placeAll_15 : decode cX6_placeAll 15 = .ok (.aload_n 0, 1) := by decide +kernel
theorem dX6_placeAll_16 : decode cX6_placeAll 16 = .ok (.getfield 15, 3) := by decide +kernel
theorem dX6_placeAll_19 : decode cX6_placeAll 19 = .ok (.iload_n 2, 1) := by decide +kernel
theorem dX6_placeAll_20 : decode cX6_placeAll 20 = .ok (.iaload, 1) := by decide +kernel
theorem dX6_placeAll_21 : decode cX6_placeAll 21 = .ok (.istore_n 3, 1) := by decide +kernel
theorem dX6_placeAll_22 : decode cX6_placeAll 22 = .ok (.aload_n 1, 1) := by decide +kernel
theorem dX6_placeAll_23 : decode cX6_placeAll 23 = .ok (.iload_n 3, 1) := by decide +kernel
theorem dX6_placeAll_24 : decode cX6_placeAll 24 = .ok (.invokevirtual 79, 3) := by decide +kernel
theorem dX6_placeAll_27 : decode cX6_placeAll 27 = .ok (.ifCond .eq 34, 3) := by decide +kernel
theorem dX6_placeAll_30 : decode cX6_placeAll 30 = .ok (.aload_n 0, 1) := by decide +kernel
theorem dX6_placeAll_31 : decode cX6_placeAll 31 = .ok (.getfield 18, 3) := by decide +kernel
theorem dX6_placeAll_34 : decode cX6_placeAll 34 = .ok (.iload_n 3, 1) := by decide +kernel
theorem dX6_placeAll_35 : decode cX6_placeAll 35 = .ok (.iload_n 2, 1) := by decide +kernel
theorem dX6_placeAll_36 : decode cX6_placeAll 36 = .ok (.iastore, 1) := by decide +kernel
theorem dX6_placeAll_37 : decode cX6_placeAll 37 = .ok (.aload_n 0, 1) := by decide +kernel
theorem dX6_placeAll_38 : decode cX6_placeAll 38 = .ok (.getfield 21, 3) := by decide +kernel
theorem dX6_placeAll_41 : decode cX6_placeAll 41 = .ok (.iload_n 3, 1) := by decide +kernel
theorem dX6_placeAll_42 : decode cX6_placeAll 42 = .ok (.aload_n 0, 1) := by decide +kernel
theorem dX6_placeAll_43 : decode cX6_placeAll 43 = .ok (.getfield 76, 3) := by decide +kernel
theorem dX6_placeAll_46 : decode cX6_placeAll 46 = .ok (.iastore, 1) := by decide +kernel
theorem dX6_placeAll_47 : decode cX6_placeAll 47 = .ok (.aload_n 0, 1) := by decide +kernel
theorem dX6_placeAll_48 : decode cX6_placeAll 48 = .ok (.dup, 1) := by decide +kernel
theorem dX6_placeAll_49 : decode cX6_placeAll 49 = .ok (.getfield 76, 3) := by decide +kernel
theorem dX6_placeAll_52 : decode cX6_placeAll 52 = .ok (.aload_n 1, 1) := by decide +kernel
theorem dX6_placeAll_53 : decode cX6_placeAll 53 = .ok (.iload_n 3, 1) := by decide +kernel
theorem dX6_placeAll_54 : decode cX6_placeAll 54 = .ok (.invokevirtual 83, 3) := by decide +kernel
theorem dX6_placeAll_57 : decode cX6_placeAll 57 = .ok (.iadd, 1) := by decide +kernel
theorem dX6_placeAll_58 : decode cX6_placeAll 58 = .ok (.putfield 76, 3) := by decide +kernel
theorem dX6_placeAll_61 : decode cX6_placeAll 61 = .ok (.iinc 2 1, 3) := by decide +kernel
theorem dX6_placeAll_64 : decode cX6_placeAll 64 = .ok (.goto (-57), 3) := by decide +kernel
theorem dX6_placeAll_67 : decode cX6_placeAll 67 = .ok (.return_, 1) := by decide +kernel
theorem dX6_width_0 : decode cX6_width 0 = .ok (.aload_n 0, 1) := by decide +kernel
theorem dX6_width_1 : decode cX6_width 1 = .ok (.getfield 76, 3) := by decide +kernel
theorem dX6_width_4 : decode cX6_width 4 = .ok (.ireturn, 1) := by decide +kernel
theorem dX6_levelOf_0 : decode cX6_levelOf 0 = .ok (.aload_n 0, 1) := by decide +kernel
theorem dX6_levelOf_1 : decode cX6_levelOf 1 = .ok (.getfield 9, 3) := by decide +kernel
theorem dX6_levelOf_4 : decode cX6_levelOf 4 = .ok (.iload_n 1, 1) := by decide +kernel
theorem dX6_levelOf_5 : decode cX6_levelOf 5 = .ok (.iconst (-1), 1) := by decide +kernel
theorem dX6_levelOf_6 : decode cX6_levelOf 6 = .ok (.invokestatic 68, 3) := by decide +kernel
theorem dX6_levelOf_9 : decode cX6_levelOf 9 = .ok (.ireturn, 1) := by decide +kernel
theorem dX6_placeOf_0 : decode cX6_placeOf 0 = .ok (.aload_n 0, 1) := by decide +kernel
theorem dX6_placeOf_1 : decode cX6_placeOf 1 = .ok (.getfield 18, 3) := by decide +kernel
theorem dX6_placeOf_4 : decode cX6_placeOf 4 = .ok (.iload_n 1, 1) := by decide +kernel
theorem dX6_placeOf_5 : decode cX6_placeOf 5 = .ok (.iconst (-1), 1) := by decide +kernel
theorem dX6_placeOf_6 : decode cX6_placeOf 6 = .ok (.invokestatic 68, 3) := by decide +kernel
theorem dX6_placeOf_9 : decode cX6_placeOf 9 = .ok (.ireturn, 1) := by decide +kernel
theorem dX6_leftOf_0 : decode cX6_leftOf 0 = .ok (.aload_n 0, 1) := by decide +kernel
theorem dX6_leftOf_1 : decode cX6_leftOf 1 = .ok (.getfield 21, 3) := by decide +kernel
theorem dX6_leftOf_4 : decode cX6_leftOf 4 = .ok (.iload_n 1, 1) := by decide +kernel
theorem dX6_leftOf_5 : decode cX6_leftOf 5 = .ok (.iconst (-1), 1) := by decide +kernel
theorem dX6_leftOf_6 : decode cX6_leftOf 6 = .ok (.invokestatic 68, 3) := by decide +kernel
theorem dX6_leftOf_9 : decode cX6_leftOf 9 = .ok (.ireturn, 1) := by decide +kernel
theorem dX6_rightOf_0 : decode cX6_rightOf 0 = .ok (.aload_n 0, 1) := by decide +kernel
theorem dX6_rightOf_1 : decode cX6_rightOf 1 = .ok (.iload_n 1, 1) := by decide +kernel
theorem dX6_rightOf_2 : decode cX6_rightOf 2 = .ok (.invokevirtual 86, 3) := by decide +kernel
theorem dX6_rightOf_5 : decode cX6_rightOf 5 = .ok (.iconst 1, 1) := by decide +kernel
theorem dX6_rightOf_6 : decode cX6_rightOf 6 = .ok (.iadd, 1) := by decide +kernel
theorem dX6_rightOf_7 : decode cX6_rightOf 7 = .ok (.istore_n 2, 1) := by decide +kernel
theorem dX6_rightOf_8 : decode cX6_rightOf 8 = .ok (.iload_n 2, 1) := by decide +kernel
theorem dX6_rightOf_9 : decode cX6_rightOf 9 = .ok (.aload_n 0, 1) := by decide +kernel
theorem dX6_rightOf_10 : decode cX6_rightOf 10 = .ok (.getfield 30, 3) := by decide +kernel
theorem dX6_rightOf_13 : decode cX6_rightOf 13 = .ok (.if_icmp .ge 15, 3) := by decide +kernel
theorem dX6_rightOf_16 : decode cX6_rightOf 16 = .ok (.aload_n 0, 1) := by decide +kernel
theorem dX6_rightOf_17 : decode cX6_rightOf 17 = .ok (.aload_n 0, 1) := by decide +kernel
theorem dX6_rightOf_18 : decode cX6_rightOf 18 = .ok (.iload_n 2, 1) := by decide +kernel
theorem dX6_rightOf_19 : decode cX6_rightOf 19 = .ok (.invokevirtual 89, 3) := by decide +kernel
theorem dX6_rightOf_22 : decode cX6_rightOf 22 = .ok (.invokevirtual 92, 3) := by decide +kernel
theorem dX6_rightOf_25 : decode cX6_rightOf 25 = .ok (.goto 7, 3) := by decide +kernel
theorem dX6_rightOf_28 : decode cX6_rightOf 28 = .ok (.aload_n 0, 1) := by decide +kernel
theorem dX6_rightOf_29 : decode cX6_rightOf 29 = .ok (.getfield 76, 3) := by decide +kernel
theorem dX6_rightOf_32 : decode cX6_rightOf 32 = .ok (.ireturn, 1) := by decide +kernel
theorem dX6_clusterAtPlace_0 : decode cX6_clusterAtPlace 0 = .ok (.iload_n 1, 1) := by decide +kernel
theorem dX6_clusterAtPlace_1 : decode cX6_clusterAtPlace 1 = .ok (.ifCond .lt 20, 3) := by decide +kernel
theorem dX6_clusterAtPlace_4 : decode cX6_clusterAtPlace 4 = .ok (.iload_n 1, 1) := by decide +kernel
theorem dX6_clusterAtPlace_5 : decode cX6_clusterAtPlace 5 = .ok (.aload_n 0, 1) := by decide +kernel
theorem dX6_clusterAtPlace_6 : decode cX6_clusterAtPlace 6 = .ok (.getfield 30, 3) := by decide +kernel
theorem dX6_clusterAtPlace_9 : decode cX6_clusterAtPlace 9 = .ok (.if_icmp .ge 12, 3) := by decide +kernel
theorem dX6_clusterAtPlace_12 : decode cX6_clusterAtPlace 12 = .ok (.aload_n 0, 1) := by decide +kernel
theorem dX6_clusterAtPlace_13 : decode cX6_clusterAtPlace 13 = .ok (.getfield 15, 3) := by decide +kernel
theorem dX6_clusterAtPlace_16 : decode cX6_clusterAtPlace 16 = .ok (.iload_n 1, 1) := by decide +kernel
theorem dX6_clusterAtPlace_17 : decode cX6_clusterAtPlace 17 = .ok (.iaload, 1) := by decide +kernel
theorem dX6_clusterAtPlace_18 : decode cX6_clusterAtPlace 18 = .ok (.goto 4, 3) := by decide +kernel
theorem dX6_clusterAtPlace_21 : decode cX6_clusterAtPlace 21 = .ok (.iconst (-1), 1) := by decide +kernel
theorem dX6_clusterAtPlace_22 : decode cX6_clusterAtPlace 22 = .ok (.ireturn, 1) := by decide +kernel
theorem dX6_clusterWithLeft_0 : decode cX6_clusterWithLeft 0 = .ok (.aload_n 0, 1) := by decide +kernel
theorem dX6_clusterWithLeft_1 : decode cX6_clusterWithLeft 1 = .ok (.iload_n 1, 1) := by decide +kernel
theorem dX6_clusterWithLeft_2 : decode cX6_clusterWithLeft 2 = .ok (.invokevirtual 95, 3) := by decide +kernel
theorem dX6_clusterWithLeft_5 : decode cX6_clusterWithLeft 5 = .ok (.istore_n 2, 1) := by decide +kernel
theorem dX6_clusterWithLeft_6 : decode cX6_clusterWithLeft 6 = .ok (.iload_n 2, 1) := by decide +kernel
theorem dX6_clusterWithLeft_7 : decode cX6_clusterWithLeft 7 = .ok (.iconst (-1), 1) := by decide +kernel
theorem dX6_clusterWithLeft_8 : decode cX6_clusterWithLeft 8 = .ok (.if_icmp .eq 16, 3) := by decide +kernel
theorem dX6_clusterWithLeft_11 : decode cX6_clusterWithLeft 11 = .ok (.aload_n 0, 1) := by decide +kernel
theorem dX6_clusterWithLeft_12 : decode cX6_clusterWithLeft 12 = .ok (.iload_n 2, 1) := by decide +kernel
theorem dX6_clusterWithLeft_13 : decode cX6_clusterWithLeft 13 = .ok (.invokevirtual 92, 3) := by decide +kernel
theorem dX6_clusterWithLeft_16 : decode cX6_clusterWithLeft 16 = .ok (.iload_n 1, 1) := by decide +kernel
theorem dX6_clusterWithLeft_17 : decode cX6_clusterWithLeft 17 = .ok (.if_icmp .ne 7, 3) := by decide +kernel
theorem dX6_clusterWithLeft_20 : decode cX6_clusterWithLeft 20 = .ok (.iload_n 2, 1) := by decide +kernel
theorem dX6_clusterWithLeft_21 : decode cX6_clusterWithLeft 21 = .ok (.goto 4, 3) := by decide +kernel
theorem dX6_clusterWithLeft_24 : decode cX6_clusterWithLeft 24 = .ok (.iconst (-1), 1) := by decide +kernel
theorem dX6_clusterWithLeft_25 : decode cX6_clusterWithLeft 25 = .ok (.ireturn, 1) := by decide +kernel
theorem dX6_clusterWithRight_0 : decode cX6_clusterWithRight 0 = .ok (.aload_n 0, 1) := by decide +kernel
theorem dX6_clusterWithRight_1 : decode cX6_clusterWithRight 1 = .ok (.iload_n 1, 1) := by decide +kernel
theorem dX6_clusterWithRight_2 : decode cX6_clusterWithRight 2 = .ok (.iconst 1, 1) := by decide +kernel
theorem dX6_clusterWithRight_3 : decode cX6_clusterWithRight 3 = .ok (.isub, 1) := by decide +kernel
theorem dX6_clusterWithRight_4 : decode cX6_clusterWithRight 4 = .ok (.invokevirtual 95, 3) := by decide +kernel
theorem dX6_clusterWithRight_7 : decode cX6_clusterWithRight 7 = .ok (.ireturn, 1) := by decide +kernel
theorem dX6_clusterOver_0 : decode cX6_clusterOver 0 = .ok (.iconst 0, 1) := by decide +kernel
theorem dX6_clusterOver_1 : decode cX6_clusterOver 1 = .ok (.istore_n 2, 1) := by decide +kernel
theorem dX6_clusterOver_2 : decode cX6_clusterOver 2 = .ok (.iload_n 2, 1) := by decide +kernel
theorem dX6_clusterOver_3 : decode cX6_clusterOver 3 = .ok (.aload_n 0, 1) := by decide +kernel
theorem dX6_clusterOver_4 : decode cX6_clusterOver 4 = .ok (.getfield 30, 3) := by decide +kernel
theorem dX6_clusterOver_7 : decode cX6_clusterOver 7 = .ok (.if_icmp .ge 36, 3) := by decide +kernel
theorem dX6_clusterOver_10 : decode cX6_clusterOver 10 = .ok (.aload_n 0, 1) := by decide +kernel
theorem dX6_clusterOver_11 : decode cX6_clusterOver 11 = .ok (.getfield 15, 3) := by decide +kernel
theorem dX6_clusterOver_14 : decode cX6_clusterOver 14 = .ok (.iload_n 2, 1) := by decide +kernel
theorem dX6_clusterOver_15 : decode cX6_clusterOver 15 = .ok (.iaload, 1) := by decide +kernel
theorem dX6_clusterOver_16 : decode cX6_clusterOver 16 = .ok (.istore_n 3, 1) := by decide +kernel
theorem dX6_clusterOver_17 : decode cX6_clusterOver 17 = .ok (.aload_n 0, 1) := by decide +kernel
theorem dX6_clusterOver_18 : decode cX6_clusterOver 18 = .ok (.iload_n 3, 1) := by decide +kernel
theorem dX6_clusterOver_19 : decode cX6_clusterOver 19 = .ok (.invokevirtual 92, 3) := by decide +kernel
theorem dX6_clusterOver_22 : decode cX6_clusterOver 22 = .ok (.iload_n 1, 1) := by decide +kernel
theorem dX6_clusterOver_23 : decode cX6_clusterOver 23 = .ok (.if_icmp .gt 14, 3) := by decide +kernel
theorem dX6_clusterOver_26 : decode cX6_clusterOver 26 = .ok (.iload_n 1, 1) := by decide +kernel
theorem dX6_clusterOver_27 : decode cX6_clusterOver 27 = .ok (.aload_n 0, 1) := by decide +kernel
theorem dX6_clusterOver_28 : decode cX6_clusterOver 28 = .ok (.iload_n 3, 1) := by decide +kernel
theorem dX6_clusterOver_29 : decode cX6_clusterOver 29 = .ok (.invokevirtual 98, 3) := by decide +kernel
theorem dX6_clusterOver_32 : decode cX6_clusterOver 32 = .ok (.if_icmp .ge 5, 3) := by decide +kernel
theorem dX6_clusterOver_35 : decode cX6_clusterOver 35 = .ok (.iload_n 3, 1) := by decide +kernel
theorem dX6_clusterOver_36 : decode cX6_clusterOver 36 = .ok (.ireturn, 1) := by decide +kernel
theorem dX6_clusterOver_37 : decode cX6_clusterOver 37 = .ok (.iinc 2 1, 3) := by decide +kernel
theorem dX6_clusterOver_40 : decode cX6_clusterOver 40 = .ok (.goto (-38), 3) := by decide +kernel
theorem dX6_clusterOver_43 : decode cX6_clusterOver 43 = .ok (.iconst (-1), 1) := by decide +kernel
theorem dX6_clusterOver_44 : decode cX6_clusterOver 44 = .ok (.ireturn, 1) := by decide +kernel
theorem dX6_xOfBeginning_0 : decode cX6_xOfBeginning 0 = .ok (.aload_n 0, 1) := by decide +kernel
theorem dX6_xOfBeginning_1 : decode cX6_xOfBeginning 1 = .ok (.getfield 39, 3) := by decide +kernel
theorem dX6_xOfBeginning_4 : decode cX6_xOfBeginning 4 = .ok (.ifCond .ne 7, 3) := by decide +kernel
theorem dX6_xOfBeginning_7 : decode cX6_xOfBeginning 7 = .ok (.iconst 0, 1) := by decide +kernel
theorem dX6_xOfBeginning_8 : decode cX6_xOfBeginning 8 = .ok (.goto 7, 3) := by decide +kernel
theorem dX6_xOfBeginning_11 : decode cX6_xOfBeginning 11 = .ok (.aload_n 0, 1) := by decide +kernel
theorem dX6_xOfBeginning_12 : decode cX6_xOfBeginning 12 = .ok (.getfield 76, 3) := by decide +kernel
theorem dX6_xOfBeginning_15 : decode cX6_xOfBeginning 15 = .ok (.ireturn, 1) := by decide +kernel
theorem dX6_xOfEnd_0 : decode cX6_xOfEnd 0 = .ok (.aload_n 0, 1) := by decide +kernel
theorem dX6_xOfEnd_1 : decode cX6_xOfEnd 1 = .ok (.getfield 39, 3) := by decide +kernel
theorem dX6_xOfEnd_4 : decode cX6_xOfEnd 4 = .ok (.ifCond .ne 10, 3) := by decide +kernel
theorem dX6_xOfEnd_7 : decode cX6_xOfEnd 7 = .ok (.aload_n 0, 1) := by decide +kernel
theorem dX6_xOfEnd_8 : decode cX6_xOfEnd 8 = .ok (.getfield 76, 3) := by decide +kernel
theorem dX6_xOfEnd_11 : decode cX6_xOfEnd 11 = .ok (.goto 4, 3) := by decide +kernel
theorem dX6_xOfEnd_14 : decode cX6_xOfEnd 14 = .ok (.iconst 0, 1) := by decide +kernel
theorem dX6_xOfEnd_15 : decode cX6_xOfEnd 15 = .ok (.ireturn, 1) := by decide +kernel
