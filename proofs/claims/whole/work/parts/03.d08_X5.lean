theorem dX5_init_0 : decode cX5_init 0 = .ok (.aload_n 0, 1) := by decide +kernel
theorem dX5_init_1 : decode cX5_init 1 = .ok (.invokespecial 3, 3) := by decide +kernel
theorem dX5_init_4 : decode cX5_init 4 = .ok (.aload_n 0, 1) := by decide +kernel
theorem dX5_init_5 : decode cX5_init 5 = .ok (.bipush 61, 2) := by decide +kernel
theorem dX5_init_7 : decode cX5_init 7 = .ok (.newarray .int, 2) := by decide +kernel
theorem dX5_init_9 : decode cX5_init 9 = .ok (.putfield 9, 3) := by decide +kernel
theorem dX5_init_12 : decode cX5_init 12 = .ok (.aload_n 0, 1) := by decide +kernel
theorem dX5_init_13 : decode cX5_init 13 = .ok (.bipush 61, 2) := by decide +kernel
theorem dX5_init_15 : decode cX5_init 15 = .ok (.newarray .int, 2) := by decide +kernel
theorem dX5_init_17 : decode cX5_init 17 = .ok (.putfield 15, 3) := by decide +kernel
theorem dX5_init_20 : decode cX5_init 20 = .ok (.aload_n 0, 1) := by decide +kernel
theorem dX5_init_21 : decode cX5_init 21 = .ok (.bipush 61, 2) := by decide +kernel
theorem dX5_init_23 : decode cX5_init 23 = .ok (.newarray .int, 2) := by decide +kernel
theorem dX5_init_25 : decode cX5_init 25 = .ok (.putfield 18, 3) := by decide +kernel
theorem dX5_init_28 : decode cX5_init 28 = .ok (.aload_n 0, 1) := by decide +kernel
theorem dX5_init_29 : decode cX5_init 29 = .ok (.bipush 60, 2) := by decide +kernel
theorem dX5_init_31 : decode cX5_init 31 = .ok (.newarray .int, 2) := by decide +kernel
theorem dX5_init_33 : decode cX5_init 33 = .ok (.putfield 21, 3) := by decide +kernel
theorem dX5_init_36 : decode cX5_init 36 = .ok (.aload_n 0, 1) := by decide +kernel
theorem dX5_init_37 : decode cX5_init 37 = .ok (.bipush 60, 2) := by decide +kernel
theorem dX5_init_39 : decode cX5_init 39 = .ok (.newarray .int, 2) := by decide +kernel
theorem dX5_init_41 : decode cX5_init 41 = .ok (.putfield 24, 3) := by decide +kernel
theorem dX5_init_44 : decode cX5_init 44 = .ok (.aload_n 0, 1) := by decide +kernel
theorem dX5_init_45 : decode cX5_init 45 = .ok (.bipush 60, 2) := by decide +kernel
theorem dX5_init_47 : decode cX5_init 47 = .ok (.newarray .int, 2) := by decide +kernel
theorem dX5_init_49 : decode cX5_init 49 = .ok (.putfield 27, 3) := by decide +kernel
theorem dX5_init_52 : decode cX5_init 52 = .ok (.aload_n 0, 1) := by decide +kernel
theorem dX5_init_53 : decode cX5_init 53 = .ok (.bipush 60, 2) := by decide +kernel
theorem dX5_init_55 : decode cX5_init 55 = .ok (.newarray .int, 2) := by decide +kernel
theorem dX5_init_57 : decode cX5_init 57 = .ok (.putfield 30, 3) := by decide +kernel
theorem dX5_init_60 : decode cX5_init 60 = .ok (.aload_n 0, 1) := by decide +kernel
theorem dX5_init_61 : decode cX5_init 61 = .ok (.bipush 60, 2) := by decide +kernel
theorem dX5_init_63 : decode cX5_init 63 = .ok (.newarray .int, 2) := by decide +kernel
theorem dX5_init_65 : decode cX5_init 65 = .ok (.putfield 33, 3) := by decide +kernel
theorem dX5_init_68 : decode cX5_init 68 = .ok (.aload_n 0, 1) := by decide +kernel
theorem dX5_init_69 : decode cX5_init 69 = .ok (.bipush 60, 2) := by decide +kernel
theorem dX5_init_71 : decode cX5_init 71 = .ok (.newarray .int, 2) := by decide +kernel
theorem dX5_init_73 : decode cX5_init 73 = .ok (.putfield 36, 3) := by decide +kernel
theorem dX5_init_76 : decode cX5_init 76 = .ok (.aload_n 0, 1) := by decide +kernel
theorem dX5_init_77 : decode cX5_init 77 = .ok (.bipush 60, 2) := by decide +kernel
theorem dX5_init_79 : decode cX5_init 79 = .ok (.newarray .int, 2) := by decide +kernel
theorem dX5_init_81 : decode cX5_init 81 = .ok (.putfield 39, 3) := by decide +kernel
theorem dX5_init_84 : decode cX5_init 84 = .ok (.return_, 1) := by decide +kernel
theorem dX5_lay_0 : decode cX5_lay 0 = .ok (.aload_n 0, 1) := by decide +kernel
theorem dX5_lay_1 : decode cX5_lay 1 = .ok (.aload_n 1, 1) := by decide +kernel
theorem dX5_lay_2 : decode cX5_lay 2 = .ok (.invokevirtual 42, 3) := by decide +kernel
theorem dX5_lay_5 : decode cX5_lay 5 = .ok (.putfield 48, 3) := by decide +kernel
theorem dX5_lay_8 : decode cX5_lay 8 = .ok (.aload_n 0, 1) := by decide +kernel
theorem dX5_lay_9 : decode cX5_lay 9 = .ok (.aload_n 1, 1) := by decide +kernel
theorem dX5_lay_10 : decode cX5_lay 10 = .ok (.invokevirtual 51, 3) := by decide +kernel
theorem dX5_lay_13 : decode cX5_lay 13 = .ok (.putfield 54, 3) := by decide +kernel
theorem dX5_lay_16 : decode cX5_lay 16 = .ok (.aload_n 0, 1) := by decide +kernel
theorem dX5_lay_17 : decode cX5_lay 17 = .ok (.aload_n 1, 1) := by decide +kernel
theorem dX5_lay_18 : decode cX5_lay 18 = .ok (.invokevirtual 57, 3) := by decide +kernel
theorem dX5_lay_21 : decode cX5_lay 21 = .ok (.aload_n 0, 1) := by decide +kernel
theorem dX5_lay_22 : decode cX5_lay 22 = .ok (.aload_n 1, 1) := by decide +kernel
theorem dX5_lay_23 : decode cX5_lay 23 = .ok (.aload_n 2, 1) := by decide +kernel
theorem dX5_lay_24 : decode cX5_lay 24 = .ok (.invokevirtual 61, 3) := by decide +kernel
theorem dX5_lay_27 : decode cX5_lay 27 = .ok (.aload_n 0, 1) := by decide +kernel
theorem dX5_lay_28 : decode cX5_lay 28 = .ok (.invokevirtual 65, 3) := by decide +kernel
theorem dX5_lay_31 : decode cX5_lay 31 = .ok (.aload_n 0, 1) := by decide +kernel
theorem dX5_lay_32 : decode cX5_lay 32 = .ok (.invokevirtual 68, 3) := by decide +kernel
theorem dX5_lay_35 : decode cX5_lay 35 = .ok (.aload_n 0, 1) := by decide +kernel
theorem dX5_lay_36 : decode cX5_lay 36 = .ok (.invokevirtual 71, 3) := by decide +kernel
theorem dX5_lay_39 : decode cX5_lay 39 = .ok (.aload_n 0, 1) := by decide +kernel
theorem dX5_lay_40 : decode cX5_lay 40 = .ok (.invokevirtual 74, 3) := by decide +kernel
theorem dX5_lay_43 : decode cX5_lay 43 = .ok (.aload_n 0, 1) := by decide +kernel
theorem dX5_lay_44 : decode cX5_lay 44 = .ok (.aload_n 1, 1) := by decide +kernel
theorem dX5_lay_45 : decode cX5_lay 45 = .ok (.invokevirtual 77, 3) := by decide +kernel
theorem dX5_lay_48 : decode cX5_lay 48 = .ok (.return_, 1) := by decide +kernel
theorem dX5_divide_0 : decode cX5_divide 0 = .ok (.aload_n 0, 1) := by decide +kernel
theorem dX5_divide_1 : decode cX5_divide 1 = .ok (.iconst 0, 1) := by decide +kernel
theorem dX5_divide_2 : decode cX5_divide 2 = .ok (.putfield 80, 3) := by decide +kernel
theorem dX5_divide_5 : decode cX5_divide 5 = .ok (.aload_n 0, 1) := by decide +kernel
theorem dX5_divide_6 : decode cX5_divide 6 = .ok (.aload_n 0, 1) := by decide +kernel
theorem dX5_divide_7 : decode cX5_divide 7 = .ok (.getfield 54, 3) := by decide +kernel
theorem dX5_divide_10 : decode cX5_divide 10 = .ok (.iconst 0, 1) := by decide +kernel
theorem dX5_divide_11 : decode cX5_divide 11 = .ok (.invokevirtual 83, 3) := by decide +kernel
theorem dX5_divide_14 : decode cX5_divide 14 = .ok (.istore_n 2, 1) := by decide +kernel
theorem dX5_divide_15 : decode cX5_divide 15 = .ok (.iconst 0, 1) := by decide +kernel
theorem dX5_divide_16 : decode cX5_divide 16 = .ok (.istore_n 3, 1) := by decide +kernel
theorem dX5_divide_17 : decode cX5_divide 17 = .ok (.iload_n 3, 1) := by decide +kernel
theorem dX5_divide_18 : decode cX5_divide 18 = .ok (.aload_n 0, 1) := by decide +kernel
theorem dX5_divide_19 : decode cX5_divide 19 = .ok (.getfield 48, 3) := by decide +kernel
theorem dX5_divide_22 : decode cX5_divide 22 = .ok (.if_icmp .ge 78, 3) := by decide +kernel
theorem dX5_divide_25 : decode cX5_divide 25 = .ok (.aload_n 1, 1) := by decide +kernel
theorem dX5_divide_26 : decode cX5_divide 26 = .ok (.iload_n 3, 1) := by decide +kernel
theorem dX5_divide_27 : decode cX5_divide 27 = .ok (.invokevirtual 87, 3) := by decide +kernel
theorem dX5_divide_30 : decode cX5_divide 30 = .ok (.istore 4, 2) := by decide +kernel
theorem dX5_divide_32 : decode cX5_divide 32 = .ok (.iload 4, 2) := by decide +kernel
theorem dX5_divide_34 : decode cX5_divide 34 = .ok (.bipush 93, 2) := by decide +kernel
theorem dX5_divide_36 : decode cX5_divide 36 = .ok (.if_icmp .ne 13, 3) := by decide +kernel
theorem dX5_divide_39 : decode cX5_divide 39 = .ok (.aload_n 0, 1) := by decide +kernel
theorem dX5_divide_40 : decode cX5_divide 40 = .ok (.getfield 15, 3) := by decide +kernel
theorem dX5_divide_43 : decode cX5_divide 43 = .ok (.iload_n 2, 1) := by decide +kernel
theorem dX5_divide_44 : decode cX5_divide 44 = .ok (.iconst 0, 1) := by decide +kernel
theorem dX5_divide_45 : decode cX5_divide 45 = .ok (.invokestatic 91, 3) := by decide +kernel
theorem dX5_divide_48 : decode cX5_divide 48 = .ok (.istore_n 2, 1) := by decide +kernel
theorem dX5_divide_49 : decode cX5_divide 49 = .ok (.aload_n 0, 1) := by decide +kernel
theorem dX5_divide_50 : decode cX5_divide 50 = .ok (.iload_n 3, 1) := by decide +kernel
theorem dX5_divide_51 : decode cX5_divide 51 = .ok (.iload_n 2, 1) := by decide +kernel
theorem dX5_divide_52 : decode cX5_divide 52 = .ok (.invokevirtual 95, 3) := by decide +kernel
theorem dX5_divide_55 : decode cX5_divide 55 = .ok (.iload 4, 2) := by decide +kernel
theorem dX5_divide_57 : decode cX5_divide 57 = .ok (.invokestatic 99, 3) := by decide +kernel
theorem dX5_divide_60 : decode cX5_divide 60 = .ok (.ifCond .eq 34, 3) := by decide +kernel
theorem dX5_divide_63 : decode cX5_divide 63 = .ok (.iload 4, 2) := by decide +kernel
theorem dX5_divide_65 : decode cX5_divide 65 = .ok (.bipush 91, 2) := by decide +kernel
theorem dX5_divide_67 : decode cX5_divide 67 = .ok (.if_icmp .ne 7, 3) := by decide +kernel
theorem dX5_divide_70 : decode cX5_divide 70 = .ok (.iconst 0, 1) := by decide +kernel
theorem dX5_divide_71 : decode cX5_divide 71 = .ok (.goto 4, 3) := by decide +kernel
theorem dX5_divide_74 : decode cX5_divide 74 = .ok (.iconst 1, 1) := by decide +kernel
theorem dX5_divide_75 : decode cX5_divide 75 = .ok (.istore 5, 2) := by decide +kernel
theorem dX5_divide_77 : decode cX5_divide 77 = .ok (.aload_n 0, 1) := by decide +kernel
theorem dX5_divide_78 : decode cX5_divide 78 = .ok (.aload_n 0, 1) := by decide +kernel
theorem dX5_divide_79 : decode cX5_divide 79 = .ok (.getfield 21, 3) := by decide +kernel
theorem dX5_divide_82 : decode cX5_divide 82 = .ok (.iload_n 3, 1) := by decide +kernel
theorem dX5_divide_83 : decode cX5_divide 83 = .ok (.iaload, 1) := by decide +kernel
theorem dX5_divide_84 : decode cX5_divide 84 = .ok (.iload 5, 2) := by decide +kernel
theorem dX5_divide_86 : decode cX5_divide 86 = .ok (.invokestatic 105, 3) := by decide +kernel
theorem dX5_divide_89 : decode cX5_divide 89 = .ok (.iload_n 2, 1) := by decide +kernel
theorem dX5_divide_90 : decode cX5_divide 90 = .ok (.invokevirtual 83, 3) := by decide +kernel
theorem dX5_divide_93 : decode cX5_divide 93 = .ok (.istore_n 2, 1) := by decide +kernel
theorem dX5_divide_94 : decode cX5_divide 94 = .ok (.iinc 3 1, 3) := by decide +kernel
theorem dX5_divide_97 : decode cX5_divide 97 = .ok (.goto (-80), 3) := by decide +kernel
theorem dX5_divide_100 : decode cX5_divide 100 = .ok (.return_, 1) := by decide +kernel
theorem dX5_make_0 : decode cX5_make 0 = .ok (.aload_n 0, 1) := by decide +kernel
theorem dX5_make_1 : decode cX5_make 1 = .ok (.getfield 80, 3) := by decide +kernel
theorem dX5_make_4 : decode cX5_make 4 = .ok (.aload_n 0, 1) := by decide +kernel
theorem dX5_make_5 : decode cX5_make 5 = .ok (.getfield 9, 3) := by decide +kernel
theorem dX5_make_8 : decode cX5_make 8 = .ok (.arraylength, 1) := by decide +kernel
theorem dX5_make_9 : decode cX5_make 9 = .ok (.if_icmp .lt 5, 3) := by decide +kernel
theorem dX5_make_12 : decode cX5_make 12 = .ok (.iload_n 2, 1) := by decide +kernel
theorem dX5_make_13 : decode cX5_make 13 = .ok (.ireturn, 1) := by decide +kernel
theorem dX5_make_14 : decode cX5_make 14 = .ok (.aload_n 0, 1) := by decide +kernel
theorem dX5_make_15 : decode cX5_make 15 = .ok (.getfield 9, 3) := by decide +kernel
theorem dX5_make_18 : decode cX5_make 18 = .ok (.aload_n 0, 1) := by decide +kernel
theorem dX5_make_19 : decode cX5_make 19 = .ok (.getfield 80, 3) := by decide +kernel
theorem dX5_make_22 : decode cX5_make 22 = .ok (.iload_n 1, 1) := by decide +kernel
theorem dX5_make_23 : decode cX5_make 23 = .ok (.iastore, 1) := by decide +kernel
theorem dX5_make_24 : decode cX5_make 24 = .ok (.aload_n 0, 1) := by decide +kernel
theorem dX5_make_25 : decode cX5_make 25 = .ok (.getfield 15, 3) := by decide +kernel
theorem dX5_make_28 : decode cX5_make 28 = .ok (.aload_n 0, 1) := by decide +kernel
theorem dX5_make_29 : decode cX5_make 29 = .ok (.getfield 80, 3) := by decide +kernel
theorem dX5_make_32 : decode cX5_make 32 = .ok (.iload_n 2, 1) := by decide +kernel
theorem dX5_make_33 : decode cX5_make 33 = .ok (.iastore, 1) := by decide +kernel
theorem dX5_make_34 : decode cX5_make 34 = .ok (.aload_n 0, 1) := by decide +kernel
theorem dX5_make_35 : decode cX5_make 35 = .ok (.getfield 18, 3) := by decide +kernel
theorem dX5_make_38 : decode cX5_make 38 = .ok (.aload_n 0, 1) := by decide +kernel
theorem dX5_make_39 : decode cX5_make 39 = .ok (.getfield 80, 3) := by decide +kernel
theorem dX5_make_42 : decode cX5_make 42 = .ok (.iconst (-1), 1) := by decide +kernel
theorem dX5_make_43 : decode cX5_make 43 = .ok (.iastore, 1) := by decide +kernel
theorem dX5_make_44 : decode cX5_make 44 = .ok (.aload_n 0, 1) := by decide +kernel
theorem dX5_make_45 : decode cX5_make 45 = .ok (.dup, 1) := by decide +kernel
theorem dX5_make_46 : decode cX5_make 46 = .ok (.getfield 80, 3) := by decide +kernel
theorem dX5_make_49 : decode cX5_make 49 = .ok (.iconst 1, 1) := by decide +kernel
theorem dX5_make_50 : decode cX5_make 50 = .ok (.iadd, 1) := by decide +kernel
theorem dX5_make_51 : decode cX5_make 51 = .ok (.putfield 80, 3) := by decide +kernel
theorem dX5_make_54 : decode cX5_make 54 = .ok (.aload_n 0, 1) := by decide +kernel
theorem dX5_make_55 : decode cX5_make 55 = .ok (.getfield 80, 3) := by decide +kernel
theorem dX5_make_58 : decode cX5_make 58 = .ok (.iconst 1, 1) := by decide +kernel
theorem dX5_make_59 : decode cX5_make 59 = .ok (.isub, 1) := by decide +kernel
theorem dX5_make_60 : decode cX5_make 60 = .ok (.ireturn, 1) := by decide +kernel
theorem dX5_baseWithin_0 : decode cX5_baseWithin 0 = .ok (.iload_n 0, 1) := by decide +kernel
theorem dX5_baseWithin_1 : decode cX5_baseWithin 1 = .ok (.iconst 1, 1) := by decide +kernel
theorem dX5_baseWithin_2 : decode cX5_baseWithin 2 = .ok (.iadd, 1) := by decide +kernel
theorem dX5_baseWithin_3 : decode cX5_baseWithin 3 = .ok (.istore_n 2, 1) := by decide +kernel
theorem dX5_baseWithin_4 : decode cX5_baseWithin 4 = .ok (.iload_n 2, 1) := by decide +kernel
theorem dX5_baseWithin_5 : decode cX5_baseWithin 5 = .ok (.iconst 1, 1) := by decide +kernel
theorem dX5_baseWithin_6 : decode cX5_baseWithin 6 = .ok (.iand, 1) := by decide +kernel
theorem dX5_baseWithin_7 : decode cX5_baseWithin 7 = .ok (.iload_n 1, 1) := by decide +kernel
theorem dX5_baseWithin_8 : decode cX5_baseWithin 8 = .ok (.if_icmp .ne 7, 3) := by decide +kernel
theorem dX5_baseWithin_11 : decode cX5_baseWithin 11 = .ok (.iload_n 2, 1) := by decide +kernel
theorem dX5_baseWithin_12 : decode cX5_baseWithin 12 = .ok (.goto 6, 3) := by decide +kernel
theorem dX5_baseWithin_15 : decode cX5_baseWithin 15 = .ok (.iload_n 2, 1) := by decide +kernel
theorem dX5_baseWithin_16 : decode cX5_baseWithin 16 = .ok (.iconst 1, 1) := by decide +kernel
theorem dX5_baseWithin_17 : decode cX5_baseWithin 17 = .ok (.iadd, 1) := by decide +kernel
theorem dX5_baseWithin_18 : decode cX5_baseWithin 18 = .ok (.ireturn, 1) := by decide +kernel
theorem dX5_append_0 : decode cX5_append 0 = .ok (.aload_n 0, 1) := by decide +kernel
theorem dX5_append_1 : decode cX5_append 1 = .ok (.getfield 21, 3) := by decide +kernel
theorem dX5_append_4 : decode cX5_append 4 = .ok (.iload_n 1, 1) := by decide +kernel
theorem dX5_append_5 : decode cX5_append 5 = .ok (.aload_n 0, 1) := by decide +kernel
theorem dX5_append_6 : decode cX5_append 6 = .ok (.getfield 9, 3) := by decide +kernel
theorem dX5_append_9 : decode cX5_append 9 = .ok (.iload_n 2, 1) := by decide +kernel
theorem dX5_append_10 : decode cX5_append 10 = .ok (.aload_n 0, 1) := by decide +kernel
theorem dX5_append_11 : decode cX5_append 11 = .ok (.getfield 54, 3) := by decide +kernel
theorem dX5_append_14 : decode cX5_append 14 = .ok (.invokestatic 91, 3) := by decide +kernel
theorem dX5_append_17 : decode cX5_append 17 = .ok (.iastore, 1) := by decide +kernel
theorem dX5_append_18 : decode cX5_append 18 = .ok (.aload_n 0, 1) := by decide +kernel
theorem dX5_append_19 : decode cX5_append 19 = .ok (.getfield 24, 3) := by decide +kernel
theorem dX5_append_22 : decode cX5_append 22 = .ok (.iload_n 1, 1) := by decide +kernel
theorem dX5_append_23 : decode cX5_append 23 = .ok (.aload_n 0, 1) := by decide +kernel
theorem dX5_append_24 : decode cX5_append 24 = .ok (.getfield 18, 3) := by decide +kernel
theorem dX5_append_27 : decode cX5_append 27 = .ok (.iload_n 2, 1) := by decide +kernel
theorem dX5_append_28 : decode cX5_append 28 = .ok (.iconst (-1), 1) := by decide +kernel
theorem dX5_append_29 : decode cX5_append 29 = .ok (.invokestatic 91, 3) := by decide +kernel
theorem dX5_append_32 : decode cX5_append 32 = .ok (.iastore, 1) := by decide +kernel
theorem dX5_append_33 : decode cX5_append 33 = .ok (.aload_n 0, 1) := by decide +kernel
theorem dX5_append_34 : decode cX5_append 34 = .ok (.getfield 27, 3) := by decide +kernel
theorem dX5_append_37 : decode cX5_append 37 = .ok (.iload_n 1, 1) := by decide +kernel
theorem dX5_append_38 : decode cX5_append 38 = .ok (.iconst (-1), 1) := by decide +kernel
theorem dX5_append_39 : decode cX5_append 39 = .ok (.iastore, 1) := by decide +kernel
theorem dX5_append_40 : decode cX5_append 40 = .ok (.aload_n 0, 1) := by decide +kernel
theorem dX5_append_41 : decode cX5_append 41 = .ok (.getfield 24, 3) := by decide +kernel
theorem dX5_append_44 : decode cX5_append 44 = .ok (.iload_n 1, 1) := by decide +kernel
theorem dX5_append_45 : decode cX5_append 45 = .ok (.iaload, 1) := by decide +kernel
theorem dX5_append_46 : decode cX5_append 46 = .ok (.ifCond .lt 25, 3) := by decide +kernel
theorem dX5_append_49 : decode cX5_append 49 = .ok (.aload_n 0, 1) := by decide +kernel
theorem dX5_append_50 : decode cX5_append 50 = .ok (.getfield 24, 3) := by decide +kernel
theorem dX5_append_53 : decode cX5_append 53 = .ok (.iload_n 1, 1) := by decide +kernel
theorem dX5_append_54 : decode cX5_append 54 = .ok (.iaload, 1) := by decide +kernel
theorem dX5_append_55 : decode cX5_append 55 = .ok (.iload_n 1, 1) := by decide +kernel
theorem dX5_append_56 : decode cX5_append 56 = .ok (.if_icmp .ge 15, 3) := by decide +kernel
theorem dX5_append_59 : decode cX5_append 59 = .ok (.aload_n 0, 1) := by decide +kernel
theorem dX5_append_60 : decode cX5_append 60 = .ok (.getfield 27, 3) := by decide +kernel
theorem dX5_append_63 : decode cX5_append 63 = .ok (.aload_n 0, 1) := by decide +kernel
theorem dX5_append_64 : decode cX5_append 64 = .ok (.getfield 24, 3) := by decide +kernel
theorem dX5_append_67 : decode cX5_append 67 = .ok (.iload_n 1, 1) := by decide +kernel
theorem dX5_append_68 : decode cX5_append 68 = .ok (.iaload, 1) := by decide +kernel
theorem dX5_append_69 : decode cX5_append 69 = .ok (.iload_n 1, 1) := by decide +kernel
theorem dX5_append_70 : decode cX5_append 70 = .ok (.iastore, 1) := by decide +kernel
theorem dX5_append_71 : decode cX5_append 71 = .ok (.iload_n 2, 1) := by decide +kernel
theorem dX5_append_72 : decode cX5_append 72 = .ok (.ifCond .lt 19, 3) := by decide +kernel
theorem dX5_append_75 : decode cX5_append 75 = .ok (.iload_n 2, 1) := by decide +kernel
theorem dX5_append_76 : decode cX5_append 76 = .ok (.aload_n 0, 1) := by decide +kernel
theorem dX5_append_77 : decode cX5_append 77 = .ok (.getfield 18, 3) := by decide +kernel
theorem dX5_append_80 : decode cX5_append 80 = .ok (.arraylength, 1) := by decide +kernel
theorem dX5_append_81 : decode cX5_append 81 = .ok (.if_icmp .ge 10, 3) := by decide +kernel
theorem dX5_append_84 : decode cX5_append 84 = .ok (.aload_n 0, 1) := by decide +kernel
theorem dX5_append_85 : decode cX5_append 85 = .ok (.getfield 18, 3) := by decide +kernel
theorem dX5_append_88 : decode cX5_append 88 = .ok (.iload_n 2, 1) := by decide +kernel
theorem dX5_append_89 : decode cX5_append 89 = .ok (.iload_n 1, 1) := by decide +kernel
theorem dX5_append_90 : decode cX5_append 90 = .ok (.iastore, 1) := by decide +kernel
theorem dX5_append_91 : decode cX5_append 91 = .ok (.return_, 1) := by decide +kernel
theorem dX5_wayAround_0 : decode cX5_wayAround 0 = .ok (.aload_n 0, 1) := by decide +kernel
theorem dX5_wayAround_1 : decode cX5_wayAround 1 = .ok (.getfield 21, 3) := by decide +kernel
theorem dX5_wayAround_4 : decode cX5_wayAround 4 = .ok (.iload_n 1, 1) := by decide +kernel
theorem dX5_wayAround_5 : decode cX5_wayAround 5 = .ok (.iaload, 1) := by decide +kernel
theorem dX5_wayAround_6 : decode cX5_wayAround 6 = .ok (.iconst 1, 1) := by decide +kernel
theorem dX5_wayAround_7 : decode cX5_wayAround 7 = .ok (.iand, 1) := by decide +kernel
theorem dX5_wayAround_8 : decode cX5_wayAround 8 = .ok (.ireturn, 1) := by decide +kernel
theorem dX5_findKinds_0 : decode cX5_findKinds 0 = .ok (.iconst 0, 1) := by decide +kernel
theorem dX5_findKinds_1 : decode cX5_findKinds 1 = .ok (.istore_n 3, 1) := by decide +kernel
theorem dX5_findKinds_2 : decode cX5_findKinds 2 = .ok (.iload_n 3, 1) := by decide +kernel
theorem dX5_findKinds_3 : decode cX5_findKinds 3 = .ok (.aload_n 0, 1) := by decide +kernel
theorem dX5_findKinds_4 : decode cX5_findKinds 4 = .ok (.getfield 48, 3) := by decide +kernel
theorem dX5_findKinds_7 : decode cX5_findKinds 7 = .ok (.if_icmp .ge 90, 3) := by decide +kernel
theorem dX5_findKinds_10 : decode cX5_findKinds 10 = .ok (.aload_n 1, 1) := by decide +kernel
theorem dX5_findKinds_11 : decode cX5_findKinds 11 = .ok (.iload_n 3, 1) := by decide +kernel
theorem dX5_findKinds_12 : decode cX5_findKinds 12 = .ok (.invokevirtual 87, 3) := by decide +kernel
theorem dX5_findKinds_15 : decode cX5_findKinds 15 = .ok (.istore 4, 2) := by decide +kernel
theorem dX5_findKinds_17 : decode cX5_findKinds 17 = .ok (.iload 4, 2) := by decide +kernel
theorem dX5_findKinds_19 : decode cX5_findKinds 19 = .ok (.invokestatic 108, 3) := by decide +kernel
theorem dX5_findKinds_22 : decode cX5_findKinds 22 = .ok (.ifCond .eq 30, 3) := by decide +kernel
theorem dX5_findKinds_25 : decode cX5_findKinds 25 = .ok (.aload_n 0, 1) := by decide +kernel
theorem dX5_findKinds_26 : decode cX5_findKinds 26 = .ok (.getfield 30, 3) := by decide +kernel
theorem dX5_findKinds_29 : decode cX5_findKinds 29 = .ok (.iload_n 3, 1) := by decide +kernel
theorem dX5_findKinds_30 : decode cX5_findKinds 30 = .ok (.aload_n 0, 1) := by decide +kernel
theorem dX5_findKinds_31 : decode cX5_findKinds 31 = .ok (.getfield 30, 3) := by decide +kernel
theorem dX5_findKinds_34 : decode cX5_findKinds 34 = .ok (.aload_n 0, 1) := by decide +kernel
theorem dX5_findKinds_35 : decode cX5_findKinds 35 = .ok (.getfield 24, 3) := by decide +kernel
theorem dX5_findKinds_38 : decode cX5_findKinds 38 = .ok (.iload_n 3, 1) := by decide +kernel
theorem dX5_findKinds_39 : decode cX5_findKinds 39 = .ok (.iaload, 1) := by decide +kernel
theorem dX5_findKinds_40 : decode cX5_findKinds 40 = .ok (.aload_n 0, 1) := by decide +kernel
theorem dX5_findKinds_41 : decode cX5_findKinds 41 = .ok (.iload_n 3, 1) := by decide +kernel
theorem dX5_findKinds_42 : decode cX5_findKinds 42 = .ok (.invokevirtual 111, 3) := by decide +kernel
theorem dX5_findKinds_45 : decode cX5_findKinds 45 = .ok (.invokestatic 91, 3) := by decide +kernel
theorem dX5_findKinds_48 : decode cX5_findKinds 48 = .ok (.iastore, 1) := by decide +kernel
theorem dX5_findKinds_49 : decode cX5_findKinds 49 = .ok (.goto 42, 3) := by decide +kernel
theorem dX5_findKinds_52 : decode cX5_findKinds 52 = .ok (.aload_n 2, 1) := by decide +kernel
theorem dX5_findKinds_53 : decode cX5_findKinds 53 = .ok (.iload_n 3, 1) := by decide +kernel
theorem dX5_findKinds_54 : decode cX5_findKinds 54 = .ok (.invokevirtual 114, 3) := by decide +kernel
theorem dX5_findKinds_57 : decode cX5_findKinds 57 = .ok (.ifCond .eq 23, 3) := by decide +kernel
theorem dX5_findKinds_60 : decode cX5_findKinds 60 = .ok (.aload_n 0, 1) := by decide +kernel
theorem dX5_findKinds_61 : decode cX5_findKinds 61 = .ok (.getfield 30, 3) := by decide +kernel
theorem dX5_findKinds_64 : decode cX5_findKinds 64 = .ok (.iload_n 3, 1) := by decide +kernel
theorem dX5_findKinds_65 : decode cX5_findKinds 65 = .ok (.aload_n 0, 1) := by decide +kernel
theorem dX5_findKinds_66 : decode cX5_findKinds 66 = .ok (.getfield 30, 3) := by decide +kernel
theorem dX5_findKinds_69 : decode cX5_findKinds 69 = .ok (.iload_n 3, 1) := by decide +kernel
theorem dX5_findKinds_70 : decode cX5_findKinds 70 = .ok (.iconst 1, 1) := by decide +kernel
theorem dX5_findKinds_71 : decode cX5_findKinds 71 = .ok (.isub, 1) := by decide +kernel
theorem dX5_findKinds_72 : decode cX5_findKinds 72 = .ok (.iconst 4, 1) := by decide +kernel
theorem dX5_findKinds_73 : decode cX5_findKinds 73 = .ok (.invokestatic 91, 3) := by decide +kernel
theorem dX5_findKinds_76 : decode cX5_findKinds 76 = .ok (.iastore, 1) := by decide +kernel
theorem dX5_findKinds_77 : decode cX5_findKinds 77 = .ok (.goto 14, 3) := by decide +kernel
theorem dX5_findKinds_80 : decode cX5_findKinds 80 = .ok (.aload_n 0, 1) := by decide +kernel
theorem dX5_findKinds_81 : decode cX5_findKinds 81 = .ok (.getfield 30, 3) := by decide +kernel
theorem dX5_findKinds_84 : decode cX5_findKinds 84 = .ok (.iload_n 3, 1) := by decide +kernel
theorem dX5_findKinds_85 : decode cX5_findKinds 85 = .ok (.iload 4, 2) := by decide +kernel
theorem dX5_findKinds_87 : decode cX5_findKinds 87 = .ok (.invokestatic 119, 3) := by decide +kernel
theorem dX5_findKinds_90 : decode cX5_findKinds 90 = .ok (.iastore, 1) := by decide +kernel
theorem dX5_findKinds_91 : decode cX5_findKinds 91 = .ok (.iinc 3 1, 3) := by decide +kernel
theorem dX5_findKinds_94 : decode cX5_findKinds 94 = .ok (.goto (-92), 3) := by decide +kernel
theorem dX5_findKinds_97 : decode cX5_findKinds 97 = .ok (.return_, 1) := by decide +kernel
theorem dX5_settleSeparators_0 : decode cX5_settleSeparators 0 = .ok (.iconst 0, 1) := by decide +kernel
theorem dX5_settleSeparators_1 : decode cX5_settleSeparators 1 = .ok (.istore_n 1, 1) := by decide +kernel
theorem dX5_settleSeparators_2 : decode cX5_settleSeparators 2 = .ok (.iload_n 1, 1) := by decide +kernel
theorem dX5_settleSeparators_3 : decode cX5_settleSeparators 3 = .ok (.aload_n 0, 1) := by decide +kernel
theorem dX5_settleSeparators_4 : decode cX5_settleSeparators 4 = .ok (.getfield 48, 3) := by decide +kernel
theorem dX5_settleSeparators_7 : decode cX5_settleSeparators 7 = .ok (.if_icmp .ge 76, 3) := by decide +kernel
theorem dX5_settleSeparators_10 : decode cX5_settleSeparators 10 = .ok (.aload_n 0, 1) := by decide +kernel
theorem dX5_settleSeparators_11 : decode cX5_settleSeparators 11 = .ok (.getfield 30, 3) := by decide +kernel
theorem dX5_settleSeparators_14 : decode cX5_settleSeparators 14 = .ok (.iload_n 1, 1) := by decide +kernel
theorem dX5_settleSeparators_15 : decode cX5_settleSeparators 15 = .ok (.iaload, 1) := by decide +kernel
theorem dX5_settleSeparators_16 : decode cX5_settleSeparators 16 = .ok (.iconst 3, 1) := by decide +kernel
theorem dX5_settleSeparators_17 : decode cX5_settleSeparators 17 = .ok (.if_icmp .ne 60, 3) := by decide +kernel
theorem dX5_settleSeparators_20 : decode cX5_settleSeparators 20 = .ok (.aload_n 0, 1) := by decide +kernel
theorem dX5_settleSeparators_21 : decode cX5_settleSeparators 21 = .ok (.getfield 30, 3) := by decide +kernel
theorem dX5_settleSeparators_24 : decode cX5_settleSeparators 24 = .ok (.aload_n 0, 1) := by decide +kernel
theorem dX5_settleSeparators_25 : decode cX5_settleSeparators 25 = .ok (.getfield 24, 3) := by decide +kernel
theorem dX5_settleSeparators_28 : decode cX5_settleSeparators 28 = .ok (.iload_n 1, 1) := by decide +kernel
theorem dX5_settleSeparators_29 : decode cX5_settleSeparators 29 = .ok (.iaload, 1) := by decide +kernel
theorem dX5_settleSeparators_30 : decode cX5_settleSeparators 30 = .ok (.iconst 4, 1) := by decide +kernel
theorem dX5_settleSeparators_31 : decode cX5_settleSeparators 31 = .ok (.invokestatic 91, 3) := by decide +kernel
theorem dX5_settleSeparators_34 : decode cX5_settleSeparators 34 = .ok (.iconst 2, 1) := by decide +kernel
theorem dX5_settleSeparators_35 : decode cX5_settleSeparators 35 = .ok (.if_icmp .ne 25, 3) := by decide +kernel
theorem dX5_settleSeparators_38 : decode cX5_settleSeparators 38 = .ok (.aload_n 0, 1) := by decide +kernel
theorem dX5_settleSeparators_39 : decode cX5_settleSeparators 39 = .ok (.getfield 30, 3) := by decide +kernel
theorem dX5_settleSeparators_42 : decode cX5_settleSeparators 42 = .ok (.aload_n 0, 1) := by decide +kernel
theorem dX5_settleSeparators_43 : decode cX5_settleSeparators 43 = .ok (.getfield 27, 3) := by decide +kernel
theorem dX5_settleSeparators_46 : decode cX5_settleSeparators 46 = .ok (.iload_n 1, 1) := by decide +kernel
theorem dX5_settleSeparators_47 : decode cX5_settleSeparators 47 = .ok (.iaload, 1) := by decide +kernel
theorem dX5_settleSeparators_48 : decode cX5_settleSeparators 48 = .ok (.iconst 4, 1) := by decide +kernel
theorem dX5_settleSeparators_49 : decode cX5_settleSeparators 49 = .ok (.invokestatic 91, 3) := by decide +kernel
theorem dX5_settleSeparators_52 : decode cX5_settleSeparators 52 = .ok (.iconst 2, 1) := by decide +kernel
theorem dX5_settleSeparators_53 : decode cX5_settleSeparators 53 = .ok (.if_icmp .ne 7, 3) := by decide +kernel
theorem dX5_settleSeparators_56 : decode cX5_settleSeparators 56 = .ok (.iconst 1, 1) := by decide +kernel
theorem dX5_settleSeparators_57 : decode cX5_settleSeparators 57 = .ok (.goto 4, 3) := by decide +kernel
theorem dX5_settleSeparators_60 : decode cX5_settleSeparators 60 = .ok (.iconst 0, 1) := by decide +kernel
theorem dX5_settleSeparators_61 : decode cX5_settleSeparators 61 = .ok (.istore_n 2, 1) := by decide +kernel
theorem dX5_settleSeparators_62 : decode cX5_settleSeparators 62 = .ok (.aload_n 0, 1) := by decide +kernel
theorem dX5_settleSeparators_63 : decode cX5_settleSeparators 63 = .ok (.getfield 30, 3) := by decide +kernel
theorem dX5_settleSeparators_66 : decode cX5_settleSeparators 66 = .ok (.iload_n 1, 1) := by decide +kernel
theorem dX5_settleSeparators_67 : decode cX5_settleSeparators 67 = .ok (.iload_n 2, 1) := by decide +kernel
theorem dX5_settleSeparators_68 : decode cX5_settleSeparators 68 = .ok (.ifCond .eq 7, 3) := by decide +kernel
theorem dX5_settleSeparators_71 : decode cX5_settleSeparators 71 = .ok (.iconst 2, 1) := by decide +kernel
theorem dX5_settleSeparators_72 : decode cX5_settleSeparators 72 = .ok (.goto 4, 3) := by decide +kernel
theorem dX5_settleSeparators_75 : decode cX5_settleSeparators 75 = .ok (.iconst 4, 1) := by decide +kernel
theorem dX5_settleSeparators_76 : decode cX5_settleSeparators 76 = .ok (.iastore, 1) := by decide +kernel
theorem dX5_settleSeparators_77 : decode cX5_settleSeparators 77 = .ok (.iinc 1 1, 3) := by decide +kernel
theorem dX5_settleSeparators_80 : decode cX5_settleSeparators 80 = .ok (.goto (-78), 3) := by decide +kernel
theorem dX5_settleSeparators_83 : decode cX5_settleSeparators 83 = .ok (.return_, 1) := by decide +kernel
theorem dX5_settleDigits_0 : decode cX5_settleDigits 0 = .ok (.iconst 0, 1) := by decide +kernel
theorem dX5_settleDigits_1 : decode cX5_settleDigits 1 = .ok (.istore_n 1, 1) := by decide +kernel
theorem dX5_settleDigits_2 : decode cX5_settleDigits 2 = .ok (.iload_n 1, 1) := by decide +kernel
theorem dX5_settleDigits_3 : decode cX5_settleDigits 3 = .ok (.aload_n 0, 1) := by decide +kernel
theorem dX5_settleDigits_4 : decode cX5_settleDigits 4 = .ok (.getfield 48, 3) := by decide +kernel
theorem dX5_settleDigits_7 : decode cX5_settleDigits 7 = .ok (.if_icmp .ge 80, 3) := by decide +kernel
theorem dX5_settleDigits_10 : decode cX5_settleDigits 10 = .ok (.aload_n 0, 1) := by decide +kernel
theorem dX5_settleDigits_11 : decode cX5_settleDigits 11 = .ok (.getfield 33, 3) := by decide +kernel
theorem dX5_settleDigits_14 : decode cX5_settleDigits 14 = .ok (.iload_n 1, 1) := by decide +kernel
theorem dX5_settleDigits_15 : decode cX5_settleDigits 15 = .ok (.aload_n 0, 1) := by decide +kernel
theorem dX5_settleDigits_16 : decode cX5_settleDigits 16 = .ok (.getfield 30, 3) := by decide +kernel
theorem dX5_settleDigits_19 : decode cX5_settleDigits 19 = .ok (.iload_n 1, 1) := by decide +kernel
theorem dX5_settleDigits_20 : decode cX5_settleDigits 20 = .ok (.iaload, 1) := by decide +kernel
theorem dX5_settleDigits_21 : decode cX5_settleDigits 21 = .ok (.invokestatic 122, 3) := by decide +kernel
theorem dX5_settleDigits_24 : decode cX5_settleDigits 24 = .ok (.ifCond .eq 12, 3) := by decide +kernel
theorem dX5_settleDigits_27 : decode cX5_settleDigits 27 = .ok (.aload_n 0, 1) := by decide +kernel
theorem dX5_settleDigits_28 : decode cX5_settleDigits 28 = .ok (.getfield 30, 3) := by decide +kernel
theorem dX5_settleDigits_31 : decode cX5_settleDigits 31 = .ok (.iload_n 1, 1) := by decide +kernel
theorem dX5_settleDigits_32 : decode cX5_settleDigits 32 = .ok (.iaload, 1) := by decide +kernel
theorem dX5_settleDigits_33 : decode cX5_settleDigits 33 = .ok (.goto 21, 3) := by decide +kernel
theorem dX5_settleDigits_36 : decode cX5_settleDigits 36 = .ok (.aload_n 0, 1) := by decide +kernel
theorem dX5_settleDigits_37 : decode cX5_settleDigits 37 = .ok (.getfield 33, 3) := by decide +kernel
theorem dX5_settleDigits_40 : decode cX5_settleDigits 40 = .ok (.aload_n 0, 1) := by decide +kernel
theorem dX5_settleDigits_41 : decode cX5_settleDigits 41 = .ok (.getfield 24, 3) := by decide +kernel
theorem dX5_settleDigits_44 : decode cX5_settleDigits 44 = .ok (.iload_n 1, 1) := by decide +kernel
theorem dX5_settleDigits_45 : decode cX5_settleDigits 45 = .ok (.iaload, 1) := by decide +kernel
theorem dX5_settleDigits_46 : decode cX5_settleDigits 46 = .ok (.aload_n 0, 1) := by decide +kernel
theorem dX5_settleDigits_47 : decode cX5_settleDigits 47 = .ok (.iload_n 1, 1) := by decide +kernel
theorem dX5_settleDigits_48 : decode cX5_settleDigits 48 = .ok (.invokevirtual 111, 3) := by decide +kernel
theorem dX5_settleDigits_51 : decode cX5_settleDigits 51 = .ok (.invokestatic 91, 3) := by decide +kernel
theorem dX5_settleDigits_54 : decode cX5_settleDigits 54 = .ok (.iastore, 1) := by decide +kernel
theorem dX5_settleDigits_55 : decode cX5_settleDigits 55 = .ok (.aload_n 0, 1) := by decide +kernel
theorem dX5_settleDigits_56 : decode cX5_settleDigits 56 = .ok (.getfield 30, 3) := by decide +kernel
theorem dX5_settleDigits_59 : decode cX5_settleDigits 59 = .ok (.iload_n 1, 1) := by decide +kernel
theorem dX5_settleDigits_60 : decode cX5_settleDigits 60 = .ok (.iaload, 1) := by decide +kernel
theorem dX5_settleDigits_61 : decode cX5_settleDigits 61 = .ok (.iconst 2, 1) := by decide +kernel
theorem dX5_settleDigits_62 : decode cX5_settleDigits 62 = .ok (.if_icmp .ne 19, 3) := by decide +kernel
theorem dX5_settleDigits_65 : decode cX5_settleDigits 65 = .ok (.aload_n 0, 1) := by decide +kernel
theorem dX5_settleDigits_66 : decode cX5_settleDigits 66 = .ok (.getfield 33, 3) := by decide +kernel
theorem dX5_settleDigits_69 : decode cX5_settleDigits 69 = .ok (.iload_n 1, 1) := by decide +kernel
theorem dX5_settleDigits_70 : decode cX5_settleDigits 70 = .ok (.iaload, 1) := by decide +kernel
theorem dX5_settleDigits_71 : decode cX5_settleDigits 71 = .ok (.ifCond .ne 10, 3) := by decide +kernel
theorem dX5_settleDigits_74 : decode cX5_settleDigits 74 = .ok (.aload_n 0, 1) := by decide +kernel
theorem dX5_settleDigits_75 : decode cX5_settleDigits 75 = .ok (.getfield 30, 3) := by decide +kernel
theorem dX5_settleDigits_78 : decode cX5_settleDigits 78 = .ok (.iload_n 1, 1) := by decide +kernel
theorem dX5_settleDigits_79 : decode cX5_settleDigits 79 = .ok (.iconst 0, 1) := by decide +kernel
theorem dX5_settleDigits_80 : decode cX5_settleDigits 80 = .ok (.iastore, 1) := by decide +kernel
theorem dX5_settleDigits_81 : decode cX5_settleDigits 81 = .ok (.iinc 1 1, 3) := by decide +kernel
theorem dX5_settleDigits_84 : decode cX5_settleDigits 84 = .ok (.goto (-82), 3) := by decide +kernel
theorem dX5_settleDigits_87 : decode cX5_settleDigits 87 = .ok (.return_, 1) := by decide +kernel
theorem dX5_settlePlain_0 : decode cX5_settlePlain 0 = .ok (.iconst 0, 1) := by decide +kernel
theorem dX5_settlePlain_1 : decode cX5_settlePlain 1 = .ok (.istore_n 1, 1) := by decide +kernel
theorem dX5_settlePlain_2 : decode cX5_settlePlain 2 = .ok (.iload_n 1, 1) := by decide +kernel
theorem dX5_settlePlain_3 : decode cX5_settlePlain 3 = .ok (.aload_n 0, 1) := by decide +kernel
theorem dX5_settlePlain_4 : decode cX5_settlePlain 4 = .ok (.getfield 48, 3) := by decide +kernel
theorem dX5_settlePlain_7 : decode cX5_settlePlain 7 = .ok (.if_icmp .ge 55, 3) := by decide +kernel
theorem dX5_settlePlain_10 : decode cX5_settlePlain 10 = .ok (.aload_n 0, 1) := by decide +kernel
theorem dX5_settlePlain_11 : decode cX5_settlePlain 11 = .ok (.getfield 33, 3) := by decide +kernel
theorem dX5_settlePlain_14 : decode cX5_settlePlain 14 = .ok (.iload_n 1, 1) := by decide +kernel
theorem dX5_settlePlain_15 : decode cX5_settlePlain 15 = .ok (.aload_n 0, 1) := by decide +kernel
theorem dX5_settlePlain_16 : decode cX5_settlePlain 16 = .ok (.getfield 30, 3) := by decide +kernel
theorem dX5_settlePlain_19 : decode cX5_settlePlain 19 = .ok (.iload_n 1, 1) := by decide +kernel
theorem dX5_settlePlain_20 : decode cX5_settlePlain 20 = .ok (.iaload, 1) := by decide +kernel
theorem dX5_settlePlain_21 : decode cX5_settlePlain 21 = .ok (.iconst 4, 1) := by decide +kernel
theorem dX5_settlePlain_22 : decode cX5_settlePlain 22 = .ok (.if_icmp .ne 24, 3) := by decide +kernel
theorem dX5_settlePlain_25 : decode cX5_settlePlain 25 = .ok (.aload_n 0, 1) := by decide +kernel
theorem dX5_settlePlain_26 : decode cX5_settlePlain 26 = .ok (.getfield 33, 3) := by decide +kernel
theorem dX5_settlePlain_29 : decode cX5_settlePlain 29 = .ok (.aload_n 0, 1) := by decide +kernel
theorem dX5_settlePlain_30 : decode cX5_settlePlain 30 = .ok (.getfield 24, 3) := by decide +kernel
theorem dX5_settlePlain_33 : decode cX5_settlePlain 33 = .ok (.iload_n 1, 1) := by decide +kernel
theorem dX5_settlePlain_34 : decode cX5_settlePlain 34 = .ok (.iaload, 1) := by decide +kernel
theorem dX5_settlePlain_35 : decode cX5_settlePlain 35 = .ok (.aload_n 0, 1) := by decide +kernel
theorem dX5_settlePlain_36 : decode cX5_settlePlain 36 = .ok (.iload_n 1, 1) := by decide +kernel
theorem dX5_settlePlain_37 : decode cX5_settlePlain 37 = .ok (.invokevirtual 111, 3) := by decide +kernel
theorem dX5_settlePlain_40 : decode cX5_settlePlain 40 = .ok (.invokestatic 91, 3) := by decide +kernel
theorem dX5_settlePlain_43 : decode cX5_settlePlain 43 = .ok (.goto 12, 3) := by decide +kernel
theorem dX5_settlePlain_46 : decode cX5_settlePlain 46 = .ok (.aload_n 0, 1) := by decide +kernel
theorem dX5_settlePlain_47 : decode cX5_settlePlain 47 = .ok (.getfield 30, 3) := by decide +kernel
theorem dX5_settlePlain_50 : decode cX5_settlePlain 50 = .ok (.iload_n 1, 1) := by decide +kernel
theorem dX5_settlePlain_51 : decode cX5_settlePlain 51 = .ok (.iaload, 1) := by decide +kernel
theorem dX5_settlePlain_52 : decode cX5_settlePlain 52 = .ok (.invokestatic 125, 3) := by decide +kernel
theorem dX5_settlePlain_55 : decode cX5_settlePlain 55 = .ok (.iastore, 1) := by decide +kernel
theorem dX5_settlePlain_56 : decode cX5_settlePlain 56 = .ok (.iinc 1 1, 3) := by decide +kernel
theorem dX5_settlePlain_59 : decode cX5_settlePlain 59 = .ok (.goto (-57), 3) := by decide +kernel
theorem dX5_settlePlain_62 : decode cX5_settlePlain 62 = .ok (.aload_n 0, 1) := by decide +kernel
theorem dX5_settlePlain_63 : decode cX5_settlePlain 63 = .ok (.getfield 48, 3) := by decide +kernel
theorem dX5_settlePlain_66 : decode cX5_settlePlain 66 = .ok (.iconst 1, 1) := by decide +kernel
theorem dX5_settlePlain_67 : decode cX5_settlePlain 67 = .ok (.isub, 1) := by decide +kernel
theorem dX5_settlePlain_68 : decode cX5_settlePlain 68 = .ok (.istore_n 1, 1) := by decide +kernel
theorem dX5_settlePlain_69 : decode cX5_settlePlain 69 = .ok (.iload_n 1, 1) := by decide +kernel
theorem dX5_settlePlain_70 : decode cX5_settlePlain 70 = .ok (.ifCond .lt 55, 3) := by decide +kernel
theorem dX5_settlePlain_73 : decode cX5_settlePlain 73 = .ok (.aload_n 0, 1) := by decide +kernel
theorem dX5_settlePlain_74 : decode cX5_settlePlain 74 = .ok (.getfield 36, 3) := by decide +kernel
theorem dX5_settlePlain_77 : decode cX5_settlePlain 77 = .ok (.iload_n 1, 1) := by decide +kernel
theorem dX5_settlePlain_78 : decode cX5_settlePlain 78 = .ok (.aload_n 0, 1) := by decide +kernel
theorem dX5_settlePlain_79 : decode cX5_settlePlain 79 = .ok (.getfield 30, 3) := by decide +kernel
theorem dX5_settlePlain_82 : decode cX5_settlePlain 82 = .ok (.iload_n 1, 1) := by decide +kernel
theorem dX5_settlePlain_83 : decode cX5_settlePlain 83 = .ok (.iaload, 1) := by decide +kernel
theorem dX5_settlePlain_84 : decode cX5_settlePlain 84 = .ok (.iconst 4, 1) := by decide +kernel
theorem dX5_settlePlain_85 : decode cX5_settlePlain 85 = .ok (.if_icmp .ne 24, 3) := by decide +kernel
theorem dX5_settlePlain_88 : decode cX5_settlePlain 88 = .ok (.aload_n 0, 1) := by decide +kernel
theorem dX5_settlePlain_89 : decode cX5_settlePlain 89 = .ok (.getfield 36, 3) := by decide +kernel
theorem dX5_settlePlain_92 : decode cX5_settlePlain 92 = .ok (.aload_n 0, 1) := by decide +kernel
theorem dX5_settlePlain_93 : decode cX5_settlePlain 93 = .ok (.getfield 27, 3) := by decide +kernel
theorem dX5_settlePlain_96 : decode cX5_settlePlain 96 = .ok (.iload_n 1, 1) := by decide +kernel
theorem dX5_settlePlain_97 : decode cX5_settlePlain 97 = .ok (.iaload, 1) := by decide +kernel
theorem dX5_settlePlain_98 : decode cX5_settlePlain 98 = .ok (.aload_n 0, 1) := by decide +kernel
theorem dX5_settlePlain_99 : decode cX5_settlePlain 99 = .ok (.iload_n 1, 1) := by decide +kernel
theorem dX5_settlePlain_100 : decode cX5_settlePlain 100 = .ok (.invokevirtual 111, 3) := by decide +kernel
theorem dX5_settlePlain_103 : decode cX5_settlePlain 103 = .ok (.invokestatic 91, 3) := by decide +kernel
theorem dX5_settlePlain_106 : decode cX5_settlePlain 106 = .ok (.goto 12, 3) := by decide +kernel
theorem dX5_settlePlain_109 : decode cX5_settlePlain 109 = .ok (.aload_n 0, 1) := by decide +kernel
theorem dX5_settlePlain_110 : decode cX5_settlePlain 110 = .ok (.getfield 30, 3) := by decide +kernel
theorem dX5_settlePlain_113 : decode cX5_settlePlain 113 = .ok (.iload_n 1, 1) := by decide +kernel
theorem dX5_settlePlain_114 : decode cX5_settlePlain 114 = .ok (.iaload, 1) := by decide +kernel
theorem dX5_settlePlain_115 : decode cX5_settlePlain 115 = .ok (.invokestatic 125, 3) := by decide +kernel
theorem dX5_settlePlain_118 : decode cX5_settlePlain 118 = .ok (.iastore, 1) := by decide +kernel
theorem dX5_settlePlain_119 : decode cX5_settlePlain 119 = .ok (.iinc 1 (-1), 3) := by decide +kernel
theorem dX5_settlePlain_122 : decode cX5_settlePlain 122 = .ok (.goto (-53), 3) := by decide +kernel
theorem dX5_settlePlain_125 : decode cX5_settlePlain 125 = .ok (.iconst 0, 1) := by decide +kernel
theorem dX5_settlePlain_126 : decode cX5_settlePlain 126 = .ok (.istore_n 1, 1) := by decide +kernel
theorem dX5_settlePlain_127 : decode cX5_settlePlain 127 = .ok (.iload_n 1, 1) := by decide +kernel
theorem dX5_settlePlain_128 : decode cX5_settlePlain 128 = .ok (.aload_n 0, 1) := by decide +kernel
theorem dX5_settlePlain_129 : decode cX5_settlePlain 129 = .ok (.getfield 48, 3) := by decide +kernel
theorem dX5_settlePlain_132 : decode cX5_settlePlain 132 = .ok (.if_icmp .ge 54, 3) := by decide +kernel
theorem dX5_settlePlain_135 : decode cX5_settlePlain 135 = .ok (.aload_n 0, 1) := by decide +kernel
theorem dX5_settlePlain_136 : decode cX5_settlePlain 136 = .ok (.getfield 30, 3) := by decide +kernel
theorem dX5_settlePlain_139 : decode cX5_settlePlain 139 = .ok (.iload_n 1, 1) := by decide +kernel
theorem dX5_settlePlain_140 : decode cX5_settlePlain 140 = .ok (.iaload, 1) := by decide +kernel
theorem dX5_settlePlain_141 : decode cX5_settlePlain 141 = .ok (.iconst 4, 1) := by decide +kernel
theorem dX5_settlePlain_142 : decode cX5_settlePlain 142 = .ok (.if_icmp .ne 38, 3) := by decide +kernel
theorem dX5_settlePlain_145 : decode cX5_settlePlain 145 = .ok (.aload_n 0, 1) := by decide +kernel
theorem dX5_settlePlain_146 : decode cX5_settlePlain 146 = .ok (.getfield 30, 3) := by decide +kernel
theorem dX5_settlePlain_149 : decode cX5_settlePlain 149 = .ok (.iload_n 1, 1) := by decide +kernel
theorem dX5_settlePlain_150 : decode cX5_settlePlain 150 = .ok (.aload_n 0, 1) := by decide +kernel
theorem dX5_settlePlain_151 : decode cX5_settlePlain 151 = .ok (.getfield 33, 3) := by decide +kernel
theorem dX5_settlePlain_154 : decode cX5_settlePlain 154 = .ok (.iload_n 1, 1) := by decide +kernel
theorem dX5_settlePlain_155 : decode cX5_settlePlain 155 = .ok (.iaload, 1) := by decide +kernel
theorem dX5_settlePlain_156 : decode cX5_settlePlain 156 = .ok (.aload_n 0, 1) := by decide +kernel
theorem dX5_settlePlain_157 : decode cX5_settlePlain 157 = .ok (.getfield 36, 3) := by decide +kernel
theorem dX5_settlePlain_160 : decode cX5_settlePlain 160 = .ok (.iload_n 1, 1) := by decide +kernel
theorem dX5_settlePlain_161 : decode cX5_settlePlain 161 = .ok (.iaload, 1) := by decide +kernel
theorem dX5_settlePlain_162 : decode cX5_settlePlain 162 = .ok (.if_icmp .ne 12, 3) := by decide +kernel
theorem dX5_settlePlain_165 : decode cX5_settlePlain 165 = .ok (.aload_n 0, 1) := by decide +kernel
theorem dX5_settlePlain_166 : decode cX5_settlePlain 166 = .ok (.getfield 33, 3) := by decide +kernel
theorem dX5_settlePlain_169 : decode cX5_settlePlain 169 = .ok (.iload_n 1, 1) := by decide +kernel
theorem dX5_settlePlain_170 : decode cX5_settlePlain 170 = .ok (.iaload, 1) := by decide +kernel
theorem dX5_settlePlain_171 : decode cX5_settlePlain 171 = .ok (.goto 8, 3) := by decide +kernel
theorem dX5_settlePlain_174 : decode cX5_settlePlain 174 = .ok (.aload_n 0, 1) := by decide +kernel
theorem dX5_settlePlain_175 : decode cX5_settlePlain 175 = .ok (.iload_n 1, 1) := by decide +kernel
theorem dX5_settlePlain_176 : decode cX5_settlePlain 176 = .ok (.invokevirtual 111, 3) := by decide +kernel
theorem dX5_settlePlain_179 : decode cX5_settlePlain 179 = .ok (.iastore, 1) := by decide +kernel
theorem dX5_settlePlain_180 : decode cX5_settlePlain 180 = .ok (.iinc 1 1, 3) := by decide +kernel
theorem dX5_settlePlain_183 : decode cX5_settlePlain 183 = .ok (.goto (-56), 3) := by decide +kernel
theorem dX5_settlePlain_186 : decode cX5_settlePlain 186 = .ok (.return_, 1) := by decide +kernel
theorem dX5_wayBesidePlain_0 : decode cX5_wayBesidePlain 0 = .ok (.iload_n 0, 1) := by decide +kernel
theorem dX5_wayBesidePlain_1 : decode cX5_wayBesidePlain 1 = .ok (.ifCond .ne 7, 3) := by decide +kernel
theorem dX5_wayBesidePlain_4 : decode cX5_wayBesidePlain 4 = .ok (.iconst 0, 1) := by decide +kernel
theorem dX5_wayBesidePlain_5 : decode cX5_wayBesidePlain 5 = .ok (.goto 4, 3) := by decide +kernel
theorem dX5_wayBesidePlain_8 : decode cX5_wayBesidePlain 8 = .ok (.iconst 1, 1) := by decide +kernel
theorem dX5_wayBesidePlain_9 : decode cX5_wayBesidePlain 9 = .ok (.ireturn, 1) := by decide +kernel
theorem dX5_findLevels_0 : decode cX5_findLevels 0 = .ok (.iconst 0, 1) := by decide +kernel
theorem dX5_findLevels_1 : decode cX5_findLevels 1 = .ok (.istore_n 1, 1) := by decide +kernel
theorem dX5_findLevels_2 : decode cX5_findLevels 2 = .ok (.iload_n 1, 1) := by decide +kernel
theorem dX5_findLevels_3 : decode cX5_findLevels 3 = .ok (.aload_n 0, 1) := by decide +kernel
theorem dX5_findLevels_4 : decode cX5_findLevels 4 = .ok (.getfield 48, 3) := by decide +kernel
theorem dX5_findLevels_7 : decode cX5_findLevels 7 = .ok (.if_icmp .ge 36, 3) := by decide +kernel
theorem dX5_findLevels_10 : decode cX5_findLevels 10 = .ok (.aload_n 0, 1) := by decide +kernel
theorem dX5_findLevels_11 : decode cX5_findLevels 11 = .ok (.getfield 39, 3) := by decide +kernel
theorem dX5_findLevels_14 : decode cX5_findLevels 14 = .ok (.iload_n 1, 1) := by decide +kernel
theorem dX5_findLevels_15 : decode cX5_findLevels 15 = .ok (.aload_n 0, 1) := by decide +kernel
theorem dX5_findLevels_16 : decode cX5_findLevels 16 = .ok (.getfield 21, 3) := by decide +kernel
theorem dX5_findLevels_19 : decode cX5_findLevels 19 = .ok (.iload_n 1, 1) := by decide +kernel
theorem dX5_findLevels_20 : decode cX5_findLevels 20 = .ok (.iaload, 1) := by decide +kernel
theorem dX5_findLevels_21 : decode cX5_findLevels 21 = .ok (.aload_n 0, 1) := by decide +kernel
theorem dX5_findLevels_22 : decode cX5_findLevels 22 = .ok (.getfield 30, 3) := by decide +kernel
theorem dX5_findLevels_25 : decode cX5_findLevels 25 = .ok (.iload_n 1, 1) := by decide +kernel
theorem dX5_findLevels_26 : decode cX5_findLevels 26 = .ok (.iaload, 1) := by decide +kernel
theorem dX5_findLevels_27 : decode cX5_findLevels 27 = .ok (.aload_n 0, 1) := by decide +kernel
theorem dX5_findLevels_28 : decode cX5_findLevels 28 = .ok (.iload_n 1, 1) := by decide +kernel
theorem dX5_findLevels_29 : decode cX5_findLevels 29 = .ok (.invokevirtual 111, 3) := by decide +kernel
theorem dX5_findLevels_32 : decode cX5_findLevels 32 = .ok (.invokestatic 128, 3) := by decide +kernel
theorem dX5_findLevels_35 : decode cX5_findLevels 35 = .ok (.iadd, 1) := by decide +kernel
theorem dX5_findLevels_36 : decode cX5_findLevels 36 = .ok (.iastore, 1) := by decide +kernel
theorem dX5_findLevels_37 : decode cX5_findLevels 37 = .ok (.iinc 1 1, 3) := by decide +kernel
theorem dX5_findLevels_40 : decode cX5_findLevels 40 = .ok (.goto (-38), 3) := by decide +kernel
theorem dX5_findLevels_43 : decode cX5_findLevels 43 = .ok (.return_, 1) := by decide +kernel
theorem dX5_rise_0 : decode cX5_rise 0 = .ok (.iload_n 0, 1) := by decide +kernel
theorem dX5_rise_1 : decode cX5_rise 1 = .ok (.iload_n 1, 1) := by decide +kernel
theorem dX5_rise_2 : decode cX5_rise 2 = .ok (.if_icmp .ne 5, 3) := by decide +kernel
theorem dX5_rise_5 : decode cX5_rise 5 = .ok (.iconst 0, 1) := by decide +kernel
theorem dX5_rise_6 : decode cX5_rise 6 = .ok (.ireturn, 1) := by decide +kernel
theorem dX5_rise_7 : decode cX5_rise 7 = .ok (.iload_n 0, 1) := by decide +kernel
theorem dX5_rise_8 : decode cX5_rise 8 = .ok (.iconst 2, 1) := by decide +kernel
theorem dX5_rise_9 : decode cX5_rise 9 = .ok (.if_icmp .ne 11, 3) := by decide +kernel
theorem dX5_rise_12 : decode cX5_rise 12 = .ok (.iload_n 1, 1) := by decide +kernel
theorem dX5_rise_13 : decode cX5_rise 13 = .ok (.ifCond .ne 7, 3) := by decide +kernel
theorem dX5_rise_16 : decode cX5_rise 16 = .ok (.iconst 2, 1) := by decide +kernel
theorem dX5_rise_17 : decode cX5_rise 17 = .ok (.goto 4, 3) := by decide +kernel
theorem dX5_rise_20 : decode cX5_rise 20 = .ok (.iconst 1, 1) := by decide +kernel
theorem dX5_rise_21 : decode cX5_rise 21 = .ok (.ireturn, 1) := by decide +kernel
theorem dX5_lowerEnd_0 : decode cX5_lowerEnd 0 = .ok (.aload_n 0, 1) := by decide +kernel
theorem dX5_lowerEnd_1 : decode cX5_lowerEnd 1 = .ok (.getfield 48, 3) := by decide +kernel
theorem dX5_lowerEnd_4 : decode cX5_lowerEnd 4 = .ok (.iconst 1, 1) := by decide +kernel
theorem dX5_lowerEnd_5 : decode cX5_lowerEnd 5 = .ok (.isub, 1) := by decide +kernel
theorem dX5_lowerEnd_6 : decode cX5_lowerEnd 6 = .ok (.istore_n 2, 1) := by decide +kernel
theorem dX5_lowerEnd_7 : decode cX5_lowerEnd 7 = .ok (.iload_n 2, 1) := by decide +kernel
theorem dX5_lowerEnd_8 : decode cX5_lowerEnd 8 = .ok (.ifCond .lt 30, 3) := by decide +kernel
theorem dX5_lowerEnd_11 : decode cX5_lowerEnd 11 = .ok (.aload_n 1, 1) := by decide +kernel
theorem dX5_lowerEnd_12 : decode cX5_lowerEnd 12 = .ok (.iload_n 2, 1) := by decide +kernel
theorem dX5_lowerEnd_13 : decode cX5_lowerEnd 13 = .ok (.invokevirtual 87, 3) := by decide +kernel
theorem dX5_lowerEnd_16 : decode cX5_lowerEnd 16 = .ok (.invokestatic 131, 3) := by decide +kernel
theorem dX5_lowerEnd_19 : decode cX5_lowerEnd 19 = .ok (.ifCond .eq 19, 3) := by decide +kernel
theorem dX5_lowerEnd_22 : decode cX5_lowerEnd 22 = .ok (.aload_n 0, 1) := by decide +kernel
theorem dX5_lowerEnd_23 : decode cX5_lowerEnd 23 = .ok (.getfield 39, 3) := by decide +kernel
theorem dX5_lowerEnd_26 : decode cX5_lowerEnd 26 = .ok (.iload_n 2, 1) := by decide +kernel
theorem dX5_lowerEnd_27 : decode cX5_lowerEnd 27 = .ok (.aload_n 0, 1) := by decide +kernel
theorem dX5_lowerEnd_28 : decode cX5_lowerEnd 28 = .ok (.getfield 54, 3) := by decide +kernel
theorem dX5_lowerEnd_31 : decode cX5_lowerEnd 31 = .ok (.iastore, 1) := by decide +kernel
theorem dX5_lowerEnd_32 : decode cX5_lowerEnd 32 = .ok (.iinc 2 (-1), 3) := by decide +kernel
theorem dX5_lowerEnd_35 : decode cX5_lowerEnd 35 = .ok (.goto (-28), 3) := by decide +kernel
theorem dX5_lowerEnd_38 : decode cX5_lowerEnd 38 = .ok (.return_, 1) := by decide +kernel
theorem dX5_levelOf_0 : decode cX5_levelOf 0 = .ok (.aload_n 0, 1) := by decide +kernel
theorem dX5_levelOf_1 : decode cX5_levelOf 1 = .ok (.getfield 39, 3) := by decide +kernel
theorem dX5_levelOf_4 : decode cX5_levelOf 4 = .ok (.iload_n 1, 1) := by decide +kernel
theorem dX5_levelOf_5 : decode cX5_levelOf 5 = .ok (.iconst (-1), 1) := by decide +kernel
theorem dX5_levelOf_6 : decode cX5_levelOf 6 = .ok (.invokestatic 91, 3) := by decide +kernel
theorem dX5_levelOf_9 : decode cX5_levelOf 9 = .ok (.ireturn, 1) := by decide +kernel
theorem dX5_highest_0 : decode cX5_highest 0 = .ok (.aload_n 0, 1) := by decide +kernel
theorem dX5_highest_1 : decode cX5_highest 1 = .ok (.getfield 48, 3) := by decide +kernel
theorem dX5_highest_4 : decode cX5_highest 4 = .ok (.ifCond .ne 10, 3) := by decide +kernel
theorem dX5_highest_7 : decode cX5_highest 7 = .ok (.aload_n 0, 1) := by decide +kernel
theorem dX5_highest_8 : decode cX5_highest 8 = .ok (.getfield 54, 3) := by decide +kernel
theorem dX5_highest_11 : decode cX5_highest 11 = .ok (.goto 4, 3) := by decide +kernel
theorem dX5_highest_14 : decode cX5_highest 14 = .ok (.iconst 0, 1) := by decide +kernel
theorem dX5_highest_15 : decode cX5_highest 15 = .ok (.istore_n 1, 1) := by decide +kernel
theorem dX5_highest_16 : decode cX5_highest 16 = .ok (.iconst 0, 1) := by decide +kernel
theorem dX5_highest_17 : decode cX5_highest 17 = .ok (.istore_n 2, 1) := by decide +kernel
theorem dX5_highest_18 : decode cX5_highest 18 = .ok (.iload_n 2, 1) := by decide +kernel
theorem dX5_highest_19 : decode cX5_highest 19 = .ok (.aload_n 0, 1) := by decide +kernel
theorem dX5_highest_20 : decode cX5_highest 20 = .ok (.getfield 48, 3) := by decide +kernel
theorem dX5_highest_23 : decode cX5_highest 23 = .ok (.if_icmp .ge 20, 3) := by decide +kernel
theorem dX5_highest_26 : decode cX5_highest 26 = .ok (.iload_n 1, 1) := by decide +kernel
theorem dX5_highest_27 : decode cX5_highest 27 = .ok (.aload_n 0, 1) := by decide +kernel
theorem dX5_highest_28 : decode cX5_highest 28 = .ok (.getfield 39, 3) := by decide +kernel
theorem dX5_highest_31 : decode cX5_highest 31 = .ok (.iload_n 2, 1) := by decide +kernel
theorem dX5_highest_32 : decode cX5_highest 32 = .ok (.iaload, 1) := by decide +kernel
theorem dX5_highest_33 : decode cX5_highest 33 = .ok (.invokestatic 134, 3) := by decide +kernel
theorem dX5_highest_36 : decode cX5_highest 36 = .ok (.istore_n 1, 1) := by decide +kernel
theorem dX5_highest_37 : decode cX5_highest 37 = .ok (.iinc 2 1, 3) := by decide +kernel
theorem dX5_highest_40 : decode cX5_highest 40 = .ok (.goto (-22), 3) := by decide +kernel
theorem dX5_highest_43 : decode cX5_highest 43 = .ok (.iload_n 1, 1) := by decide +kernel
theorem dX5_highest_44 : decode cX5_highest 44 = .ok (.ireturn, 1) := by decide +kernel
theorem dX5_numberWithSigns_0 : decode cX5_numberWithSigns 0 = .ok (.iconst 0, 1) := by decide +kernel
theorem dX5_numberWithSigns_1 : decode cX5_numberWithSigns 1 = .ok (.istore_n 1, 1) := by decide +kernel
theorem dX5_numberWithSigns_2 : decode cX5_numberWithSigns 2 = .ok (.iconst 0, 1) := by decide +kernel
theorem dX5_numberWithSigns_3 : decode cX5_numberWithSigns 3 = .ok (.istore_n 2, 1) := by decide +kernel
theorem dX5_numberWithSigns_4 : decode cX5_numberWithSigns 4 = .ok (.iload_n 2, 1) := by decide +kernel
theorem dX5_numberWithSigns_5 : decode cX5_numberWithSigns 5 = .ok (.aload_n 0, 1) := by decide +kernel
theorem dX5_numberWithSigns_6 : decode cX5_numberWithSigns 6 = .ok (.getfield 80, 3) := by decide +kernel
theorem dX5_numberWithSigns_9 : decode cX5_numberWithSigns 9 = .ok (.if_icmp .ge 22, 3) := by decide +kernel
theorem dX5_numberWithSigns_12 : decode cX5_numberWithSigns 12 = .ok (.aload_n 0, 1) := by decide +kernel
theorem dX5_numberWithSigns_13 : decode cX5_numberWithSigns 13 = .ok (.getfield 18, 3) := by decide +kernel
theorem dX5_numberWithSigns_16 : decode cX5_numberWithSigns 16 = .ok (.iload_n 2, 1) := by decide +kernel
theorem dX5_numberWithSigns_17 : decode cX5_numberWithSigns 17 = .ok (.iaload, 1) := by decide +kernel
theorem dX5_numberWithSigns_18 : decode cX5_numberWithSigns 18 = .ok (.iconst (-1), 1) := by decide +kernel
theorem dX5_numberWithSigns_19 : decode cX5_numberWithSigns 19 = .ok (.if_icmp .eq 6, 3) := by decide +kernel
theorem dX5_numberWithSigns_22 : decode cX5_numberWithSigns 22 = .ok (.iinc 1 1, 3) := by decide +kernel
theorem dX5_numberWithSigns_25 : decode cX5_numberWithSigns 25 = .ok (.iinc 2 1, 3) := by decide +kernel
theorem dX5_numberWithSigns_28 : decode cX5_numberWithSigns 28 = .ok (.goto (-24), 3) := by decide +kernel
theorem dX5_numberWithSigns_31 : decode cX5_numberWithSigns 31 = .ok (.iload_n 1, 1) := by decide +kernel
theorem dX5_numberWithSigns_32 : decode cX5_numberWithSigns 32 = .ok (.ireturn, 1) := by decide +kernel
