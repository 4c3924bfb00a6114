theorem dX3_init_0 : decode cX3_init 0 = .ok (.aload_n 0, 1) := by decide +kernel
theorem dX3_init_1 : decode cX3_init 1 = .ok (.invokespecial 3, 3) := by decide +kernel
theorem dX3_init_4 : decode cX3_init 4 = .ok (.aload_n 0, 1) := by decide +kernel
theorem dX3_init_5 : decode cX3_init 5 = .ok (.bipush 60, 2) := by decide +kernel
theorem dX3_init_7 : decode cX3_init 7 = .ok (.newarray .int, 2) := by decide +kernel
theorem dX3_init_9 : decode cX3_init 9 = .ok (.putfield 9, 3) := by decide +kernel
theorem dX3_init_12 : decode cX3_init 12 = .ok (.aload_n 0, 1) := by decide +kernel
theorem dX3_init_13 : decode cX3_init 13 = .ok (.iconst 0, 1) := by decide +kernel
theorem dX3_init_14 : decode cX3_init 14 = .ok (.putfield 15, 3) := by decide +kernel
theorem dX3_init_17 : decode cX3_init 17 = .ok (.aload_n 0, 1) := by decide +kernel
theorem dX3_init_18 : decode cX3_init 18 = .ok (.iconst 0, 1) := by decide +kernel
theorem dX3_init_19 : decode cX3_init 19 = .ok (.putfield 19, 3) := by decide +kernel
theorem dX3_init_22 : decode cX3_init 22 = .ok (.return_, 1) := by decide +kernel
theorem dX3_length_0 : decode cX3_length 0 = .ok (.aload_n 0, 1) := by decide +kernel
theorem dX3_length_1 : decode cX3_length 1 = .ok (.getfield 15, 3) := by decide +kernel
theorem dX3_length_4 : decode cX3_length 4 = .ok (.ireturn, 1) := by decide +kernel
theorem dX3_base_0 : decode cX3_base 0 = .ok (.aload_n 0, 1) := by decide +kernel
theorem dX3_base_1 : decode cX3_base 1 = .ok (.getfield 19, 3) := by decide +kernel
theorem dX3_base_4 : decode cX3_base 4 = .ok (.ireturn, 1) := by decide +kernel
theorem dX3_turnTo_0 : decode cX3_turnTo 0 = .ok (.aload_n 0, 1) := by decide +kernel
theorem dX3_turnTo_1 : decode cX3_turnTo 1 = .ok (.iload_n 1, 1) := by decide +kernel
theorem dX3_turnTo_2 : decode cX3_turnTo 2 = .ok (.putfield 19, 3) := by decide +kernel
theorem dX3_turnTo_5 : decode cX3_turnTo 5 = .ok (.return_, 1) := by decide +kernel
theorem dX3_has_0 : decode cX3_has 0 = .ok (.iload_n 1, 1) := by decide +kernel
theorem dX3_has_1 : decode cX3_has 1 = .ok (.ifCond .lt 15, 3) := by decide +kernel
theorem dX3_has_4 : decode cX3_has 4 = .ok (.iload_n 1, 1) := by decide +kernel
theorem dX3_has_5 : decode cX3_has 5 = .ok (.aload_n 0, 1) := by decide +kernel
theorem dX3_has_6 : decode cX3_has 6 = .ok (.getfield 15, 3) := by decide +kernel
theorem dX3_has_9 : decode cX3_has 9 = .ok (.if_icmp .ge 7, 3) := by decide +kernel
theorem dX3_has_12 : decode cX3_has 12 = .ok (.iconst 1, 1) := by decide +kernel
theorem dX3_has_13 : decode cX3_has 13 = .ok (.goto 4, 3) := by decide +kernel
theorem dX3_has_16 : decode cX3_has 16 = .ok (.iconst 0, 1) := by decide +kernel
theorem dX3_has_17 : decode cX3_has 17 = .ok (.ireturn, 1) := by decide +kernel
theorem dX3_at_0 : decode cX3_at 0 = .ok (.aload_n 0, 1) := by decide +kernel
theorem dX3_at_1 : decode cX3_at 1 = .ok (.iload_n 1, 1) := by decide +kernel
theorem dX3_at_2 : decode cX3_at 2 = .ok (.invokevirtual 22, 3) := by decide +kernel
theorem dX3_at_5 : decode cX3_at 5 = .ok (.ifCond .eq 12, 3) := by decide +kernel
theorem dX3_at_8 : decode cX3_at 8 = .ok (.aload_n 0, 1) := by decide +kernel
theorem dX3_at_9 : decode cX3_at 9 = .ok (.getfield 9, 3) := by decide +kernel
theorem dX3_at_12 : decode cX3_at 12 = .ok (.iload_n 1, 1) := by decide +kernel
theorem dX3_at_13 : decode cX3_at 13 = .ok (.iaload, 1) := by decide +kernel
theorem dX3_at_14 : decode cX3_at 14 = .ok (.goto 4, 3) := by decide +kernel
theorem dX3_at_17 : decode cX3_at 17 = .ok (.iconst (-1), 1) := by decide +kernel
theorem dX3_at_18 : decode cX3_at 18 = .ok (.ireturn, 1) := by decide +kernel
theorem dX3_hasRoomFor_0 : decode cX3_hasRoomFor 0 = .ok (.iload_n 1, 1) := by decide +kernel
theorem dX3_hasRoomFor_1 : decode cX3_hasRoomFor 1 = .ok (.bipush 60, 2) := by decide +kernel
theorem dX3_hasRoomFor_3 : decode cX3_hasRoomFor 3 = .ok (.aload_n 0, 1) := by decide +kernel
theorem dX3_hasRoomFor_4 : decode cX3_hasRoomFor 4 = .ok (.getfield 15, 3) := by decide +kernel
theorem dX3_hasRoomFor_7 : decode cX3_hasRoomFor 7 = .ok (.isub, 1) := by decide +kernel
theorem dX3_hasRoomFor_8 : decode cX3_hasRoomFor 8 = .ok (.if_icmp .gt 7, 3) := by decide +kernel
theorem dX3_hasRoomFor_11 : decode cX3_hasRoomFor 11 = .ok (.iconst 1, 1) := by decide +kernel
theorem dX3_hasRoomFor_12 : decode cX3_hasRoomFor 12 = .ok (.goto 4, 3) := by decide +kernel
theorem dX3_hasRoomFor_15 : decode cX3_hasRoomFor 15 = .ok (.iconst 0, 1) := by decide +kernel
theorem dX3_hasRoomFor_16 : decode cX3_hasRoomFor 16 = .ok (.ireturn, 1) := by decide +kernel
theorem dX3_insert_0 : decode cX3_insert 0 = .ok (.iload_n 1, 1) := by decide +kernel
theorem dX3_insert_1 : decode cX3_insert 1 = .ok (.ifCond .lt 20, 3) := by decide +kernel
theorem dX3_insert_4 : decode cX3_insert 4 = .ok (.iload_n 1, 1) := by decide +kernel
theorem dX3_insert_5 : decode cX3_insert 5 = .ok (.aload_n 0, 1) := by decide +kernel
theorem dX3_insert_6 : decode cX3_insert 6 = .ok (.getfield 15, 3) := by decide +kernel
theorem dX3_insert_9 : decode cX3_insert 9 = .ok (.if_icmp .gt 12, 3) := by decide +kernel
theorem dX3_insert_12 : decode cX3_insert 12 = .ok (.aload_n 0, 1) := by decide +kernel
theorem dX3_insert_13 : decode cX3_insert 13 = .ok (.getfield 15, 3) := by decide +kernel
theorem dX3_insert_16 : decode cX3_insert 16 = .ok (.bipush 60, 2) := by decide +kernel
theorem dX3_insert_18 : decode cX3_insert 18 = .ok (.if_icmp .lt 4, 3) := by decide +kernel
theorem dX3_insert_21 : decode cX3_insert 21 = .ok (.return_, 1) := by decide +kernel
theorem dX3_insert_22 : decode cX3_insert 22 = .ok (.aload_n 0, 1) := by decide +kernel
theorem dX3_insert_23 : decode cX3_insert 23 = .ok (.getfield 15, 3) := by decide +kernel
theorem dX3_insert_26 : decode cX3_insert 26 = .ok (.istore_n 3, 1) := by decide +kernel
theorem dX3_insert_27 : decode cX3_insert 27 = .ok (.iload_n 3, 1) := by decide +kernel
theorem dX3_insert_28 : decode cX3_insert 28 = .ok (.iload_n 1, 1) := by decide +kernel
theorem dX3_insert_29 : decode cX3_insert 29 = .ok (.if_icmp .le 23, 3) := by decide +kernel
theorem dX3_insert_32 : decode cX3_insert 32 = .ok (.aload_n 0, 1) := by decide +kernel
theorem dX3_insert_33 : decode cX3_insert 33 = .ok (.getfield 9, 3) := by decide +kernel
theorem dX3_insert_36 : decode cX3_insert 36 = .ok (.iload_n 3, 1) := by decide +kernel
theorem dX3_insert_37 : decode cX3_insert 37 = .ok (.aload_n 0, 1) := by decide +kernel
theorem dX3_insert_38 : decode cX3_insert 38 = .ok (.getfield 9, 3) := by decide +kernel
theorem dX3_insert_41 : decode cX3_insert 41 = .ok (.iload_n 3, 1) := by decide +kernel
theorem dX3_insert_42 : decode cX3_insert 42 = .ok (.iconst 1, 1) := by decide +kernel
theorem dX3_insert_43 : decode cX3_insert 43 = .ok (.isub, 1) := by decide +kernel
theorem dX3_insert_44 : decode cX3_insert 44 = .ok (.iaload, 1) := by decide +kernel
theorem dX3_insert_45 : decode cX3_insert 45 = .ok (.iastore, 1) := by decide +kernel
theorem dX3_insert_46 : decode cX3_insert 46 = .ok (.iinc 3 (-1), 3) := by decide +kernel
theorem dX3_insert_49 : decode cX3_insert 49 = .ok (.goto (-22), 3) := by decide +kernel
theorem dX3_insert_52 : decode cX3_insert 52 = .ok (.aload_n 0, 1) := by decide +kernel
theorem dX3_insert_53 : decode cX3_insert 53 = .ok (.getfield 9, 3) := by decide +kernel
theorem dX3_insert_56 : decode cX3_insert 56 = .ok (.iload_n 1, 1) := by decide +kernel
theorem dX3_insert_57 : decode cX3_insert 57 = .ok (.iload_n 2, 1) := by decide +kernel
theorem dX3_insert_58 : decode cX3_insert 58 = .ok (.iastore, 1) := by decide +kernel
theorem dX3_insert_59 : decode cX3_insert 59 = .ok (.aload_n 0, 1) := by decide +kernel
theorem dX3_insert_60 : decode cX3_insert 60 = .ok (.dup, 1) := by decide +kernel
theorem dX3_insert_61 : decode cX3_insert 61 = .ok (.getfield 15, 3) := by decide +kernel
theorem dX3_insert_64 : decode cX3_insert 64 = .ok (.iconst 1, 1) := by decide +kernel
theorem dX3_insert_65 : decode cX3_insert 65 = .ok (.iadd, 1) := by decide +kernel
theorem dX3_insert_66 : decode cX3_insert 66 = .ok (.putfield 15, 3) := by decide +kernel
theorem dX3_insert_69 : decode cX3_insert 69 = .ok (.return_, 1) := by decide +kernel
theorem dX3_remove_0 : decode cX3_remove 0 = .ok (.iload_n 1, 1) := by decide +kernel
theorem dX3_remove_1 : decode cX3_remove 1 = .ok (.ifCond .lt 16, 3) := by decide +kernel
theorem dX3_remove_4 : decode cX3_remove 4 = .ok (.iload_n 1, 1) := by decide +kernel
theorem dX3_remove_5 : decode cX3_remove 5 = .ok (.iload_n 2, 1) := by decide +kernel
theorem dX3_remove_6 : decode cX3_remove 6 = .ok (.if_icmp .gt 11, 3) := by decide +kernel
theorem dX3_remove_9 : decode cX3_remove 9 = .ok (.iload_n 2, 1) := by decide +kernel
theorem dX3_remove_10 : decode cX3_remove 10 = .ok (.aload_n 0, 1) := by decide +kernel
theorem dX3_remove_11 : decode cX3_remove 11 = .ok (.getfield 15, 3) := by decide +kernel
theorem dX3_remove_14 : decode cX3_remove 14 = .ok (.if_icmp .le 4, 3) := by decide +kernel
theorem dX3_remove_17 : decode cX3_remove 17 = .ok (.return_, 1) := by decide +kernel
theorem dX3_remove_18 : decode cX3_remove 18 = .ok (.iload_n 2, 1) := by decide +kernel
theorem dX3_remove_19 : decode cX3_remove 19 = .ok (.iload_n 1, 1) := by decide +kernel
theorem dX3_remove_20 : decode cX3_remove 20 = .ok (.isub, 1) := by decide +kernel
theorem dX3_remove_21 : decode cX3_remove 21 = .ok (.istore_n 3, 1) := by decide +kernel
theorem dX3_remove_22 : decode cX3_remove 22 = .ok (.iload_n 2, 1) := by decide +kernel
theorem dX3_remove_23 : decode cX3_remove 23 = .ok (.istore 4, 2) := by decide +kernel
theorem dX3_remove_25 : decode cX3_remove 25 = .ok (.iload 4, 2) := by decide +kernel
theorem dX3_remove_27 : decode cX3_remove 27 = .ok (.aload_n 0, 1) := by decide +kernel
theorem dX3_remove_28 : decode cX3_remove 28 = .ok (.getfield 15, 3) := by decide +kernel
theorem dX3_remove_31 : decode cX3_remove 31 = .ok (.if_icmp .ge 25, 3) := by decide +kernel
theorem dX3_remove_34 : decode cX3_remove 34 = .ok (.aload_n 0, 1) := by decide +kernel
theorem dX3_remove_35 : decode cX3_remove 35 = .ok (.getfield 9, 3) := by decide +kernel
theorem dX3_remove_38 : decode cX3_remove 38 = .ok (.iload 4, 2) := by decide +kernel
theorem dX3_remove_40 : decode cX3_remove 40 = .ok (.iload_n 3, 1) := by decide +kernel
theorem dX3_remove_41 : decode cX3_remove 41 = .ok (.isub, 1) := by decide +kernel
theorem dX3_remove_42 : decode cX3_remove 42 = .ok (.aload_n 0, 1) := by decide +kernel
theorem dX3_remove_43 : decode cX3_remove 43 = .ok (.getfield 9, 3) := by decide +kernel
theorem dX3_remove_46 : decode cX3_remove 46 = .ok (.iload 4, 2) := by decide +kernel
theorem dX3_remove_48 : decode cX3_remove 48 = .ok (.iaload, 1) := by decide +kernel
theorem dX3_remove_49 : decode cX3_remove 49 = .ok (.iastore, 1) := by decide +kernel
theorem dX3_remove_50 : decode cX3_remove 50 = .ok (.iinc 4 1, 3) := by decide +kernel
theorem dX3_remove_53 : decode cX3_remove 53 = .ok (.goto (-28), 3) := by decide +kernel
theorem dX3_remove_56 : decode cX3_remove 56 = .ok (.aload_n 0, 1) := by decide +kernel
theorem dX3_remove_57 : decode cX3_remove 57 = .ok (.dup, 1) := by decide +kernel
theorem dX3_remove_58 : decode cX3_remove 58 = .ok (.getfield 15, 3) := by decide +kernel
theorem dX3_remove_61 : decode cX3_remove 61 = .ok (.iload_n 3, 1) := by decide +kernel
theorem dX3_remove_62 : decode cX3_remove 62 = .ok (.isub, 1) := by decide +kernel
theorem dX3_remove_63 : decode cX3_remove 63 = .ok (.putfield 15, 3) := by decide +kernel
theorem dX3_remove_66 : decode cX3_remove 66 = .ok (.return_, 1) := by decide +kernel
theorem dX3_saveTo_0 : decode cX3_saveTo 0 = .ok (.iconst 0, 1) := by decide +kernel
theorem dX3_saveTo_1 : decode cX3_saveTo 1 = .ok (.istore_n 2, 1) := by decide +kernel
theorem dX3_saveTo_2 : decode cX3_saveTo 2 = .ok (.iload_n 2, 1) := by decide +kernel
theorem dX3_saveTo_3 : decode cX3_saveTo 3 = .ok (.aload_n 0, 1) := by decide +kernel
theorem dX3_saveTo_4 : decode cX3_saveTo 4 = .ok (.getfield 15, 3) := by decide +kernel
theorem dX3_saveTo_7 : decode cX3_saveTo 7 = .ok (.if_icmp .ge 24, 3) := by decide +kernel
theorem dX3_saveTo_10 : decode cX3_saveTo 10 = .ok (.iload_n 2, 1) := by decide +kernel
theorem dX3_saveTo_11 : decode cX3_saveTo 11 = .ok (.aload_n 1, 1) := by decide +kernel
theorem dX3_saveTo_12 : decode cX3_saveTo 12 = .ok (.arraylength, 1) := by decide +kernel
theorem dX3_saveTo_13 : decode cX3_saveTo 13 = .ok (.if_icmp .ge 18, 3) := by decide +kernel
theorem dX3_saveTo_16 : decode cX3_saveTo 16 = .ok (.aload_n 1, 1) := by decide +kernel
theorem dX3_saveTo_17 : decode cX3_saveTo 17 = .ok (.iload_n 2, 1) := by decide +kernel
theorem dX3_saveTo_18 : decode cX3_saveTo 18 = .ok (.aload_n 0, 1) := by decide +kernel
theorem dX3_saveTo_19 : decode cX3_saveTo 19 = .ok (.getfield 9, 3) := by decide +kernel
theorem dX3_saveTo_22 : decode cX3_saveTo 22 = .ok (.iload_n 2, 1) := by decide +kernel
theorem dX3_saveTo_23 : decode cX3_saveTo 23 = .ok (.iaload, 1) := by decide +kernel
theorem dX3_saveTo_24 : decode cX3_saveTo 24 = .ok (.iastore, 1) := by decide +kernel
theorem dX3_saveTo_25 : decode cX3_saveTo 25 = .ok (.iinc 2 1, 3) := by decide +kernel
theorem dX3_saveTo_28 : decode cX3_saveTo 28 = .ok (.goto (-26), 3) := by decide +kernel
theorem dX3_saveTo_31 : decode cX3_saveTo 31 = .ok (.return_, 1) := by decide +kernel
theorem dX3_loadFrom_0 : decode cX3_loadFrom 0 = .ok (.aload_n 0, 1) := by decide +kernel
theorem dX3_loadFrom_1 : decode cX3_loadFrom 1 = .ok (.iconst 0, 1) := by decide +kernel
theorem dX3_loadFrom_2 : decode cX3_loadFrom 2 = .ok (.putfield 15, 3) := by decide +kernel
theorem dX3_loadFrom_5 : decode cX3_loadFrom 5 = .ok (.iconst 0, 1) := by decide +kernel
theorem dX3_loadFrom_6 : decode cX3_loadFrom 6 = .ok (.istore_n 3, 1) := by decide +kernel
theorem dX3_loadFrom_7 : decode cX3_loadFrom 7 = .ok (.iload_n 3, 1) := by decide +kernel
theorem dX3_loadFrom_8 : decode cX3_loadFrom 8 = .ok (.iload_n 2, 1) := by decide +kernel
theorem dX3_loadFrom_9 : decode cX3_loadFrom 9 = .ok (.if_icmp .ge 40, 3) := by decide +kernel
theorem dX3_loadFrom_12 : decode cX3_loadFrom 12 = .ok (.iload_n 3, 1) := by decide +kernel
theorem dX3_loadFrom_13 : decode cX3_loadFrom 13 = .ok (.aload_n 1, 1) := by decide +kernel
theorem dX3_loadFrom_14 : decode cX3_loadFrom 14 = .ok (.arraylength, 1) := by decide +kernel
theorem dX3_loadFrom_15 : decode cX3_loadFrom 15 = .ok (.if_icmp .ge 34, 3) := by decide +kernel
theorem dX3_loadFrom_18 : decode cX3_loadFrom 18 = .ok (.iload_n 3, 1) := by decide +kernel
theorem dX3_loadFrom_19 : decode cX3_loadFrom 19 = .ok (.bipush 60, 2) := by decide +kernel
theorem dX3_loadFrom_21 : decode cX3_loadFrom 21 = .ok (.if_icmp .ge 28, 3) := by decide +kernel
theorem dX3_loadFrom_24 : decode cX3_loadFrom 24 = .ok (.aload_n 0, 1) := by decide +kernel
theorem dX3_loadFrom_25 : decode cX3_loadFrom 25 = .ok (.getfield 9, 3) := by decide +kernel
theorem dX3_loadFrom_28 : decode cX3_loadFrom 28 = .ok (.iload_n 3, 1) := by decide +kernel
theorem dX3_loadFrom_29 : decode cX3_loadFrom 29 = .ok (.aload_n 1, 1) := by decide +kernel
theorem dX3_loadFrom_30 : decode cX3_loadFrom 30 = .ok (.iload_n 3, 1) := by decide +kernel
theorem dX3_loadFrom_31 : decode cX3_loadFrom 31 = .ok (.iaload, 1) := by decide +kernel
theorem dX3_loadFrom_32 : decode cX3_loadFrom 32 = .ok (.iastore, 1) := by decide +kernel
theorem dX3_loadFrom_33 : decode cX3_loadFrom 33 = .ok (.aload_n 0, 1) := by decide +kernel
theorem dX3_loadFrom_34 : decode cX3_loadFrom 34 = .ok (.dup, 1) := by decide +kernel
theorem dX3_loadFrom_35 : decode cX3_loadFrom 35 = .ok (.getfield 15, 3) := by decide +kernel
theorem dX3_loadFrom_38 : decode cX3_loadFrom 38 = .ok (.iconst 1, 1) := by decide +kernel
theorem dX3_loadFrom_39 : decode cX3_loadFrom 39 = .ok (.iadd, 1) := by decide +kernel
theorem dX3_loadFrom_40 : decode cX3_loadFrom 40 = .ok (.putfield 15, 3) := by decide +kernel
theorem dX3_loadFrom_43 : decode cX3_loadFrom 43 = .ok (.iinc 3 1, 3) := by decide +kernel
theorem dX3_loadFrom_46 : decode cX3_loadFrom 46 = .ok (.goto (-39), 3) := by decide +kernel
theorem dX3_loadFrom_49 : decode cX3_loadFrom 49 = .ok (.return_, 1) := by decide +kernel
