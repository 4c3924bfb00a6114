theorem dX0_init_0 : decode cX0_init 0 = .ok (.aload_n 0, 1) := by decide +kernel
theorem dX0_init_1 : decode cX0_init 1 = .ok (.invokespecial 3, 3) := by decide +kernel
theorem dX0_init_4 : decode cX0_init 4 = .ok (.aload_n 0, 1) := by decide +kernel
theorem dX0_init_5 : decode cX0_init 5 = .ok (.aload_n 1, 1) := by decide +kernel
theorem dX0_init_6 : decode cX0_init 6 = .ok (.putfield 9, 3) := by decide +kernel
theorem dX0_init_9 : decode cX0_init 9 = .ok (.aload_n 0, 1) := by decide +kernel
theorem dX0_init_10 : decode cX0_init 10 = .ok (.aload_n 2, 1) := by decide +kernel
theorem dX0_init_11 : decode cX0_init 11 = .ok (.putfield 15, 3) := by decide +kernel
theorem dX0_init_14 : decode cX0_init 14 = .ok (.aload_n 0, 1) := by decide +kernel
theorem dX0_init_15 : decode cX0_init 15 = .ok (.iconst 0, 1) := by decide +kernel
theorem dX0_init_16 : decode cX0_init 16 = .ok (.putfield 19, 3) := by decide +kernel
theorem dX0_init_19 : decode cX0_init 19 = .ok (.aload_n 0, 1) := by decide +kernel
theorem dX0_init_20 : decode cX0_init 20 = .ok (.iconst 0, 1) := by decide +kernel
theorem dX0_init_21 : decode cX0_init 21 = .ok (.putfield 23, 3) := by decide +kernel
theorem dX0_init_24 : decode cX0_init 24 = .ok (.return_, 1) := by decide +kernel
theorem dX0_stand_0 : decode cX0_stand 0 = .ok (.aload_n 0, 1) := by decide +kernel
theorem dX0_stand_1 : decode cX0_stand 1 = .ok (.getfield 19, 3) := by decide +kernel
theorem dX0_stand_4 : decode cX0_stand 4 = .ok (.ireturn, 1) := by decide +kernel
theorem dX0_side_0 : decode cX0_side 0 = .ok (.aload_n 0, 1) := by decide +kernel
theorem dX0_side_1 : decode cX0_side 1 = .ok (.getfield 23, 3) := by decide +kernel
theorem dX0_side_4 : decode cX0_side 4 = .ok (.ireturn, 1) := by decide +kernel
theorem dX0_place_0 : decode cX0_place 0 = .ok (.aload_n 0, 1) := by decide +kernel
theorem dX0_place_1 : decode cX0_place 1 = .ok (.iload_n 1, 1) := by decide +kernel
theorem dX0_place_2 : decode cX0_place 2 = .ok (.putfield 19, 3) := by decide +kernel
theorem dX0_place_5 : decode cX0_place 5 = .ok (.aload_n 0, 1) := by decide +kernel
theorem dX0_place_6 : decode cX0_place 6 = .ok (.aload_n 0, 1) := by decide +kernel
theorem dX0_place_7 : decode cX0_place 7 = .ok (.getfield 9, 3) := by decide +kernel
theorem dX0_place_10 : decode cX0_place 10 = .ok (.iload_n 1, 1) := by decide +kernel
theorem dX0_place_11 : decode cX0_place 11 = .ok (.invokevirtual 26, 3) := by decide +kernel
theorem dX0_place_14 : decode cX0_place 14 = .ok (.iconst (-1), 1) := by decide +kernel
theorem dX0_place_15 : decode cX0_place 15 = .ok (.if_icmp .ne 7, 3) := by decide +kernel
theorem dX0_place_18 : decode cX0_place 18 = .ok (.iload_n 2, 1) := by decide +kernel
theorem dX0_place_19 : decode cX0_place 19 = .ok (.goto 4, 3) := by decide +kernel
theorem dX0_place_22 : decode cX0_place 22 = .ok (.iconst 0, 1) := by decide +kernel
theorem dX0_place_23 : decode cX0_place 23 = .ok (.putfield 23, 3) := by decide +kernel
theorem dX0_place_26 : decode cX0_place 26 = .ok (.return_, 1) := by decide +kernel
theorem dX0_settle_0 : decode cX0_settle 0 = .ok (.aload_n 0, 1) := by decide +kernel
theorem dX0_settle_1 : decode cX0_settle 1 = .ok (.getfield 9, 3) := by decide +kernel
theorem dX0_settle_4 : decode cX0_settle 4 = .ok (.iload_n 1, 1) := by decide +kernel
theorem dX0_settle_5 : decode cX0_settle 5 = .ok (.invokevirtual 32, 3) := by decide +kernel
theorem dX0_settle_8 : decode cX0_settle 8 = .ok (.istore_n 3, 1) := by decide +kernel
theorem dX0_settle_9 : decode cX0_settle 9 = .ok (.iload_n 3, 1) := by decide +kernel
theorem dX0_settle_10 : decode cX0_settle 10 = .ok (.iload_n 1, 1) := by decide +kernel
theorem dX0_settle_11 : decode cX0_settle 11 = .ok (.if_icmp .ne 12, 3) := by decide +kernel
theorem dX0_settle_14 : decode cX0_settle 14 = .ok (.aload_n 0, 1) := by decide +kernel
theorem dX0_settle_15 : decode cX0_settle 15 = .ok (.iload_n 1, 1) := by decide +kernel
theorem dX0_settle_16 : decode cX0_settle 16 = .ok (.iload_n 2, 1) := by decide +kernel
theorem dX0_settle_17 : decode cX0_settle 17 = .ok (.invokevirtual 35, 3) := by decide +kernel
theorem dX0_settle_20 : decode cX0_settle 20 = .ok (.goto 13, 3) := by decide +kernel
theorem dX0_settle_23 : decode cX0_settle 23 = .ok (.aload_n 0, 1) := by decide +kernel
theorem dX0_settle_24 : decode cX0_settle 24 = .ok (.iload_n 3, 1) := by decide +kernel
theorem dX0_settle_25 : decode cX0_settle 25 = .ok (.iconst 0, 1) := by decide +kernel
theorem dX0_settle_26 : decode cX0_settle 26 = .ok (.invokestatic 39, 3) := by decide +kernel
theorem dX0_settle_29 : decode cX0_settle 29 = .ok (.iconst 0, 1) := by decide +kernel
theorem dX0_settle_30 : decode cX0_settle 30 = .ok (.invokevirtual 35, 3) := by decide +kernel
theorem dX0_settle_33 : decode cX0_settle 33 = .ok (.return_, 1) := by decide +kernel
theorem dX0_x_0 : decode cX0_x 0 = .ok (.aload_n 0, 1) := by decide +kernel
theorem dX0_x_1 : decode cX0_x 1 = .ok (.getfield 9, 3) := by decide +kernel
theorem dX0_x_4 : decode cX0_x 4 = .ok (.aload_n 0, 1) := by decide +kernel
theorem dX0_x_5 : decode cX0_x 5 = .ok (.getfield 19, 3) := by decide +kernel
theorem dX0_x_8 : decode cX0_x 8 = .ok (.invokevirtual 26, 3) := by decide +kernel
theorem dX0_x_11 : decode cX0_x 11 = .ok (.istore_n 1, 1) := by decide +kernel
theorem dX0_x_12 : decode cX0_x 12 = .ok (.iload_n 1, 1) := by decide +kernel
theorem dX0_x_13 : decode cX0_x 13 = .ok (.iconst (-1), 1) := by decide +kernel
theorem dX0_x_14 : decode cX0_x 14 = .ok (.if_icmp .eq 23, 3) := by decide +kernel
theorem dX0_x_17 : decode cX0_x 17 = .ok (.aload_n 0, 1) := by decide +kernel
theorem dX0_x_18 : decode cX0_x 18 = .ok (.getfield 15, 3) := by decide +kernel
theorem dX0_x_21 : decode cX0_x 21 = .ok (.iload_n 1, 1) := by decide +kernel
theorem dX0_x_22 : decode cX0_x 22 = .ok (.invokevirtual 45, 3) := by decide +kernel
theorem dX0_x_25 : decode cX0_x 25 = .ok (.aload_n 0, 1) := by decide +kernel
theorem dX0_x_26 : decode cX0_x 26 = .ok (.getfield 9, 3) := by decide +kernel
theorem dX0_x_29 : decode cX0_x 29 = .ok (.iload_n 1, 1) := by decide +kernel
theorem dX0_x_30 : decode cX0_x 30 = .ok (.invokevirtual 50, 3) := by decide +kernel
theorem dX0_x_33 : decode cX0_x 33 = .ok (.iconst 2, 1) := by decide +kernel
theorem dX0_x_34 : decode cX0_x 34 = .ok (.idiv, 1) := by decide +kernel
theorem dX0_x_35 : decode cX0_x 35 = .ok (.iadd, 1) := by decide +kernel
theorem dX0_x_36 : decode cX0_x 36 = .ok (.ireturn, 1) := by decide +kernel
theorem dX0_x_37 : decode cX0_x 37 = .ok (.aload_n 0, 1) := by decide +kernel
theorem dX0_x_38 : decode cX0_x 38 = .ok (.getfield 23, 3) := by decide +kernel
theorem dX0_x_41 : decode cX0_x 41 = .ok (.iconst 1, 1) := by decide +kernel
theorem dX0_x_42 : decode cX0_x 42 = .ok (.if_icmp .ne 10, 3) := by decide +kernel
theorem dX0_x_45 : decode cX0_x 45 = .ok (.aload_n 0, 1) := by decide +kernel
theorem dX0_x_46 : decode cX0_x 46 = .ok (.invokevirtual 53, 3) := by decide +kernel
theorem dX0_x_49 : decode cX0_x 49 = .ok (.goto 7, 3) := by decide +kernel
theorem dX0_x_52 : decode cX0_x 52 = .ok (.aload_n 0, 1) := by decide +kernel
theorem dX0_x_53 : decode cX0_x 53 = .ok (.invokevirtual 57, 3) := by decide +kernel
theorem dX0_x_56 : decode cX0_x 56 = .ok (.ireturn, 1) := by decide +kernel
theorem dX0_xWithBehind_0 : decode cX0_xWithBehind 0 = .ok (.aload_n 0, 1) := by decide +kernel
theorem dX0_xWithBehind_1 : decode cX0_xWithBehind 1 = .ok (.getfield 9, 3) := by decide +kernel
theorem dX0_xWithBehind_4 : decode cX0_xWithBehind 4 = .ok (.aload_n 0, 1) := by decide +kernel
theorem dX0_xWithBehind_5 : decode cX0_xWithBehind 5 = .ok (.getfield 19, 3) := by decide +kernel
theorem dX0_xWithBehind_8 : decode cX0_xWithBehind 8 = .ok (.invokevirtual 60, 3) := by decide +kernel
theorem dX0_xWithBehind_11 : decode cX0_xWithBehind 11 = .ok (.istore_n 1, 1) := by decide +kernel
theorem dX0_xWithBehind_12 : decode cX0_xWithBehind 12 = .ok (.iload_n 1, 1) := by decide +kernel
theorem dX0_xWithBehind_13 : decode cX0_xWithBehind 13 = .ok (.iconst (-1), 1) := by decide +kernel
theorem dX0_xWithBehind_14 : decode cX0_xWithBehind 14 = .ok (.if_icmp .ne 11, 3) := by decide +kernel
theorem dX0_xWithBehind_17 : decode cX0_xWithBehind 17 = .ok (.aload_n 0, 1) := by decide +kernel
theorem dX0_xWithBehind_18 : decode cX0_xWithBehind 18 = .ok (.getfield 15, 3) := by decide +kernel
theorem dX0_xWithBehind_21 : decode cX0_xWithBehind 21 = .ok (.invokevirtual 63, 3) := by decide +kernel
theorem dX0_xWithBehind_24 : decode cX0_xWithBehind 24 = .ok (.ireturn, 1) := by decide +kernel
theorem dX0_xWithBehind_25 : decode cX0_xWithBehind 25 = .ok (.aload_n 0, 1) := by decide +kernel
theorem dX0_xWithBehind_26 : decode cX0_xWithBehind 26 = .ok (.getfield 15, 3) := by decide +kernel
theorem dX0_xWithBehind_29 : decode cX0_xWithBehind 29 = .ok (.iload_n 1, 1) := by decide +kernel
theorem dX0_xWithBehind_30 : decode cX0_xWithBehind 30 = .ok (.invokevirtual 66, 3) := by decide +kernel
theorem dX0_xWithBehind_33 : decode cX0_xWithBehind 33 = .ok (.invokestatic 69, 3) := by decide +kernel
theorem dX0_xWithBehind_36 : decode cX0_xWithBehind 36 = .ok (.ifCond .eq 14, 3) := by decide +kernel
theorem dX0_xWithBehind_39 : decode cX0_xWithBehind 39 = .ok (.aload_n 0, 1) := by decide +kernel
theorem dX0_xWithBehind_40 : decode cX0_xWithBehind 40 = .ok (.getfield 15, 3) := by decide +kernel
theorem dX0_xWithBehind_43 : decode cX0_xWithBehind 43 = .ok (.iload_n 1, 1) := by decide +kernel
theorem dX0_xWithBehind_44 : decode cX0_xWithBehind 44 = .ok (.invokevirtual 45, 3) := by decide +kernel
theorem dX0_xWithBehind_47 : decode cX0_xWithBehind 47 = .ok (.goto 11, 3) := by decide +kernel
theorem dX0_xWithBehind_50 : decode cX0_xWithBehind 50 = .ok (.aload_n 0, 1) := by decide +kernel
theorem dX0_xWithBehind_51 : decode cX0_xWithBehind 51 = .ok (.getfield 15, 3) := by decide +kernel
theorem dX0_xWithBehind_54 : decode cX0_xWithBehind 54 = .ok (.iload_n 1, 1) := by decide +kernel
theorem dX0_xWithBehind_55 : decode cX0_xWithBehind 55 = .ok (.invokevirtual 73, 3) := by decide +kernel
theorem dX0_xWithBehind_58 : decode cX0_xWithBehind 58 = .ok (.ireturn, 1) := by decide +kernel
theorem dX0_xWithAhead_0 : decode cX0_xWithAhead 0 = .ok (.aload_n 0, 1) := by decide +kernel
theorem dX0_xWithAhead_1 : decode cX0_xWithAhead 1 = .ok (.getfield 9, 3) := by decide +kernel
theorem dX0_xWithAhead_4 : decode cX0_xWithAhead 4 = .ok (.aload_n 0, 1) := by decide +kernel
theorem dX0_xWithAhead_5 : decode cX0_xWithAhead 5 = .ok (.getfield 19, 3) := by decide +kernel
theorem dX0_xWithAhead_8 : decode cX0_xWithAhead 8 = .ok (.invokevirtual 76, 3) := by decide +kernel
theorem dX0_xWithAhead_11 : decode cX0_xWithAhead 11 = .ok (.istore_n 1, 1) := by decide +kernel
theorem dX0_xWithAhead_12 : decode cX0_xWithAhead 12 = .ok (.iload_n 1, 1) := by decide +kernel
theorem dX0_xWithAhead_13 : decode cX0_xWithAhead 13 = .ok (.iconst (-1), 1) := by decide +kernel
theorem dX0_xWithAhead_14 : decode cX0_xWithAhead 14 = .ok (.if_icmp .ne 11, 3) := by decide +kernel
theorem dX0_xWithAhead_17 : decode cX0_xWithAhead 17 = .ok (.aload_n 0, 1) := by decide +kernel
theorem dX0_xWithAhead_18 : decode cX0_xWithAhead 18 = .ok (.getfield 15, 3) := by decide +kernel
theorem dX0_xWithAhead_21 : decode cX0_xWithAhead 21 = .ok (.invokevirtual 79, 3) := by decide +kernel
theorem dX0_xWithAhead_24 : decode cX0_xWithAhead 24 = .ok (.ireturn, 1) := by decide +kernel
theorem dX0_xWithAhead_25 : decode cX0_xWithAhead 25 = .ok (.aload_n 0, 1) := by decide +kernel
theorem dX0_xWithAhead_26 : decode cX0_xWithAhead 26 = .ok (.getfield 15, 3) := by decide +kernel
theorem dX0_xWithAhead_29 : decode cX0_xWithAhead 29 = .ok (.iload_n 1, 1) := by decide +kernel
theorem dX0_xWithAhead_30 : decode cX0_xWithAhead 30 = .ok (.invokevirtual 66, 3) := by decide +kernel
theorem dX0_xWithAhead_33 : decode cX0_xWithAhead 33 = .ok (.invokestatic 69, 3) := by decide +kernel
theorem dX0_xWithAhead_36 : decode cX0_xWithAhead 36 = .ok (.ifCond .eq 14, 3) := by decide +kernel
theorem dX0_xWithAhead_39 : decode cX0_xWithAhead 39 = .ok (.aload_n 0, 1) := by decide +kernel
theorem dX0_xWithAhead_40 : decode cX0_xWithAhead 40 = .ok (.getfield 15, 3) := by decide +kernel
theorem dX0_xWithAhead_43 : decode cX0_xWithAhead 43 = .ok (.iload_n 1, 1) := by decide +kernel
theorem dX0_xWithAhead_44 : decode cX0_xWithAhead 44 = .ok (.invokevirtual 73, 3) := by decide +kernel
theorem dX0_xWithAhead_47 : decode cX0_xWithAhead 47 = .ok (.goto 11, 3) := by decide +kernel
theorem dX0_xWithAhead_50 : decode cX0_xWithAhead 50 = .ok (.aload_n 0, 1) := by decide +kernel
theorem dX0_xWithAhead_51 : decode cX0_xWithAhead 51 = .ok (.getfield 15, 3) := by decide +kernel
theorem dX0_xWithAhead_54 : decode cX0_xWithAhead 54 = .ok (.iload_n 1, 1) := by decide +kernel
theorem dX0_xWithAhead_55 : decode cX0_xWithAhead 55 = .ok (.invokevirtual 45, 3) := by decide +kernel
theorem dX0_xWithAhead_58 : decode cX0_xWithAhead 58 = .ok (.ireturn, 1) := by decide +kernel
theorem dX0_toSideOf_0 : decode cX0_toSideOf 0 = .ok (.aload_n 0, 1) := by decide +kernel
theorem dX0_toSideOf_1 : decode cX0_toSideOf 1 = .ok (.getfield 9, 3) := by decide +kernel
theorem dX0_toSideOf_4 : decode cX0_toSideOf 4 = .ok (.iload_n 1, 1) := by decide +kernel
theorem dX0_toSideOf_5 : decode cX0_toSideOf 5 = .ok (.invokevirtual 82, 3) := by decide +kernel
theorem dX0_toSideOf_8 : decode cX0_toSideOf 8 = .ok (.ifCond .ne 4, 3) := by decide +kernel
theorem dX0_toSideOf_11 : decode cX0_toSideOf 11 = .ok (.return_, 1) := by decide +kernel
theorem dX0_toSideOf_12 : decode cX0_toSideOf 12 = .ok (.aload_n 0, 1) := by decide +kernel
theorem dX0_toSideOf_13 : decode cX0_toSideOf 13 = .ok (.getfield 15, 3) := by decide +kernel
theorem dX0_toSideOf_16 : decode cX0_toSideOf 16 = .ok (.iload_n 1, 1) := by decide +kernel
theorem dX0_toSideOf_17 : decode cX0_toSideOf 17 = .ok (.invokevirtual 66, 3) := by decide +kernel
theorem dX0_toSideOf_20 : decode cX0_toSideOf 20 = .ok (.invokestatic 69, 3) := by decide +kernel
theorem dX0_toSideOf_23 : decode cX0_toSideOf 23 = .ok (.iload_n 2, 1) := by decide +kernel
theorem dX0_toSideOf_24 : decode cX0_toSideOf 24 = .ok (.if_icmp .ne 19, 3) := by decide +kernel
theorem dX0_toSideOf_27 : decode cX0_toSideOf 27 = .ok (.aload_n 0, 1) := by decide +kernel
theorem dX0_toSideOf_28 : decode cX0_toSideOf 28 = .ok (.aload_n 0, 1) := by decide +kernel
theorem dX0_toSideOf_29 : decode cX0_toSideOf 29 = .ok (.getfield 9, 3) := by decide +kernel
theorem dX0_toSideOf_32 : decode cX0_toSideOf 32 = .ok (.iload_n 1, 1) := by decide +kernel
theorem dX0_toSideOf_33 : decode cX0_toSideOf 33 = .ok (.invokevirtual 85, 3) := by decide +kernel
theorem dX0_toSideOf_36 : decode cX0_toSideOf 36 = .ok (.iconst 0, 1) := by decide +kernel
theorem dX0_toSideOf_37 : decode cX0_toSideOf 37 = .ok (.invokevirtual 35, 3) := by decide +kernel
theorem dX0_toSideOf_40 : decode cX0_toSideOf 40 = .ok (.goto 16, 3) := by decide +kernel
theorem dX0_toSideOf_43 : decode cX0_toSideOf 43 = .ok (.aload_n 0, 1) := by decide +kernel
theorem dX0_toSideOf_44 : decode cX0_toSideOf 44 = .ok (.aload_n 0, 1) := by decide +kernel
theorem dX0_toSideOf_45 : decode cX0_toSideOf 45 = .ok (.getfield 9, 3) := by decide +kernel
theorem dX0_toSideOf_48 : decode cX0_toSideOf 48 = .ok (.iload_n 1, 1) := by decide +kernel
theorem dX0_toSideOf_49 : decode cX0_toSideOf 49 = .ok (.invokevirtual 88, 3) := by decide +kernel
theorem dX0_toSideOf_52 : decode cX0_toSideOf 52 = .ok (.iconst 1, 1) := by decide +kernel
theorem dX0_toSideOf_53 : decode cX0_toSideOf 53 = .ok (.invokevirtual 35, 3) := by decide +kernel
theorem dX0_toSideOf_56 : decode cX0_toSideOf 56 = .ok (.return_, 1) := by decide +kernel
theorem dX0_toMiddleOf_0 : decode cX0_toMiddleOf 0 = .ok (.aload_n 0, 1) := by decide +kernel
theorem dX0_toMiddleOf_1 : decode cX0_toMiddleOf 1 = .ok (.getfield 9, 3) := by decide +kernel
theorem dX0_toMiddleOf_4 : decode cX0_toMiddleOf 4 = .ok (.iload_n 1, 1) := by decide +kernel
theorem dX0_toMiddleOf_5 : decode cX0_toMiddleOf 5 = .ok (.invokevirtual 91, 3) := by decide +kernel
theorem dX0_toMiddleOf_8 : decode cX0_toMiddleOf 8 = .ok (.ifCond .eq 18, 3) := by decide +kernel
theorem dX0_toMiddleOf_11 : decode cX0_toMiddleOf 11 = .ok (.aload_n 0, 1) := by decide +kernel
theorem dX0_toMiddleOf_12 : decode cX0_toMiddleOf 12 = .ok (.aload_n 0, 1) := by decide +kernel
theorem dX0_toMiddleOf_13 : decode cX0_toMiddleOf 13 = .ok (.getfield 9, 3) := by decide +kernel
theorem dX0_toMiddleOf_16 : decode cX0_toMiddleOf 16 = .ok (.iload_n 1, 1) := by decide +kernel
theorem dX0_toMiddleOf_17 : decode cX0_toMiddleOf 17 = .ok (.invokevirtual 88, 3) := by decide +kernel
theorem dX0_toMiddleOf_20 : decode cX0_toMiddleOf 20 = .ok (.iconst 2, 1) := by decide +kernel
theorem dX0_toMiddleOf_21 : decode cX0_toMiddleOf 21 = .ok (.iadd, 1) := by decide +kernel
theorem dX0_toMiddleOf_22 : decode cX0_toMiddleOf 22 = .ok (.iconst 0, 1) := by decide +kernel
theorem dX0_toMiddleOf_23 : decode cX0_toMiddleOf 23 = .ok (.invokevirtual 35, 3) := by decide +kernel
theorem dX0_toMiddleOf_26 : decode cX0_toMiddleOf 26 = .ok (.return_, 1) := by decide +kernel
theorem dX0_stepOver_0 : decode cX0_stepOver 0 = .ok (.aload_n 0, 1) := by decide +kernel
theorem dX0_stepOver_1 : decode cX0_stepOver 1 = .ok (.getfield 9, 3) := by decide +kernel
theorem dX0_stepOver_4 : decode cX0_stepOver 4 = .ok (.aload_n 0, 1) := by decide +kernel
theorem dX0_stepOver_5 : decode cX0_stepOver 5 = .ok (.getfield 19, 3) := by decide +kernel
theorem dX0_stepOver_8 : decode cX0_stepOver 8 = .ok (.invokevirtual 26, 3) := by decide +kernel
theorem dX0_stepOver_11 : decode cX0_stepOver 11 = .ok (.istore_n 2, 1) := by decide +kernel
theorem dX0_stepOver_12 : decode cX0_stepOver 12 = .ok (.iload_n 2, 1) := by decide +kernel
theorem dX0_stepOver_13 : decode cX0_stepOver 13 = .ok (.iconst (-1), 1) := by decide +kernel
theorem dX0_stepOver_14 : decode cX0_stepOver 14 = .ok (.if_icmp .eq 11, 3) := by decide +kernel
theorem dX0_stepOver_17 : decode cX0_stepOver 17 = .ok (.aload_n 0, 1) := by decide +kernel
theorem dX0_stepOver_18 : decode cX0_stepOver 18 = .ok (.iload_n 2, 1) := by decide +kernel
theorem dX0_stepOver_19 : decode cX0_stepOver 19 = .ok (.iload_n 1, 1) := by decide +kernel
theorem dX0_stepOver_20 : decode cX0_stepOver 20 = .ok (.invokevirtual 94, 3) := by decide +kernel
theorem dX0_stepOver_23 : decode cX0_stepOver 23 = .ok (.iconst 1, 1) := by decide +kernel
theorem dX0_stepOver_24 : decode cX0_stepOver 24 = .ok (.ireturn, 1) := by decide +kernel
theorem dX0_stepOver_25 : decode cX0_stepOver 25 = .ok (.iload_n 1, 1) := by decide +kernel
theorem dX0_stepOver_26 : decode cX0_stepOver 26 = .ok (.ifCond .eq 17, 3) := by decide +kernel
theorem dX0_stepOver_29 : decode cX0_stepOver 29 = .ok (.aload_n 0, 1) := by decide +kernel
theorem dX0_stepOver_30 : decode cX0_stepOver 30 = .ok (.getfield 15, 3) := by decide +kernel
theorem dX0_stepOver_33 : decode cX0_stepOver 33 = .ok (.aload_n 0, 1) := by decide +kernel
theorem dX0_stepOver_34 : decode cX0_stepOver 34 = .ok (.invokevirtual 98, 3) := by decide +kernel
theorem dX0_stepOver_37 : decode cX0_stepOver 37 = .ok (.invokevirtual 101, 3) := by decide +kernel
theorem dX0_stepOver_40 : decode cX0_stepOver 40 = .ok (.goto 14, 3) := by decide +kernel
theorem dX0_stepOver_43 : decode cX0_stepOver 43 = .ok (.aload_n 0, 1) := by decide +kernel
theorem dX0_stepOver_44 : decode cX0_stepOver 44 = .ok (.getfield 15, 3) := by decide +kernel
theorem dX0_stepOver_47 : decode cX0_stepOver 47 = .ok (.aload_n 0, 1) := by decide +kernel
theorem dX0_stepOver_48 : decode cX0_stepOver 48 = .ok (.invokevirtual 98, 3) := by decide +kernel
theorem dX0_stepOver_51 : decode cX0_stepOver 51 = .ok (.invokevirtual 104, 3) := by decide +kernel
theorem dX0_stepOver_54 : decode cX0_stepOver 54 = .ok (.istore_n 3, 1) := by decide +kernel
theorem dX0_stepOver_55 : decode cX0_stepOver 55 = .ok (.iload_n 3, 1) := by decide +kernel
theorem dX0_stepOver_56 : decode cX0_stepOver 56 = .ok (.iconst (-1), 1) := by decide +kernel
theorem dX0_stepOver_57 : decode cX0_stepOver 57 = .ok (.if_icmp .ne 5, 3) := by decide +kernel
theorem dX0_stepOver_60 : decode cX0_stepOver 60 = .ok (.iconst 0, 1) := by decide +kernel
theorem dX0_stepOver_61 : decode cX0_stepOver 61 = .ok (.ireturn, 1) := by decide +kernel
theorem dX0_stepOver_62 : decode cX0_stepOver 62 = .ok (.aload_n 0, 1) := by decide +kernel
theorem dX0_stepOver_63 : decode cX0_stepOver 63 = .ok (.getfield 9, 3) := by decide +kernel
theorem dX0_stepOver_66 : decode cX0_stepOver 66 = .ok (.iload_n 3, 1) := by decide +kernel
theorem dX0_stepOver_67 : decode cX0_stepOver 67 = .ok (.invokevirtual 91, 3) := by decide +kernel
theorem dX0_stepOver_70 : decode cX0_stepOver 70 = .ok (.ifCond .eq 11, 3) := by decide +kernel
theorem dX0_stepOver_73 : decode cX0_stepOver 73 = .ok (.aload_n 0, 1) := by decide +kernel
theorem dX0_stepOver_74 : decode cX0_stepOver 74 = .ok (.iload_n 3, 1) := by decide +kernel
theorem dX0_stepOver_75 : decode cX0_stepOver 75 = .ok (.invokevirtual 107, 3) := by decide +kernel
theorem dX0_stepOver_78 : decode cX0_stepOver 78 = .ok (.goto 9, 3) := by decide +kernel
theorem dX0_stepOver_81 : decode cX0_stepOver 81 = .ok (.aload_n 0, 1) := by decide +kernel
theorem dX0_stepOver_82 : decode cX0_stepOver 82 = .ok (.iload_n 3, 1) := by decide +kernel
theorem dX0_stepOver_83 : decode cX0_stepOver 83 = .ok (.iload_n 1, 1) := by decide +kernel
theorem dX0_stepOver_84 : decode cX0_stepOver 84 = .ok (.invokevirtual 94, 3) := by decide +kernel
theorem dX0_stepOver_87 : decode cX0_stepOver 87 = .ok (.iconst 1, 1) := by decide +kernel
theorem dX0_stepOver_88 : decode cX0_stepOver 88 = .ok (.ireturn, 1) := by decide +kernel
