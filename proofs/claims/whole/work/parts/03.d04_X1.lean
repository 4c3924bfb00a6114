theorem dX1_init_0 : decode cX1_init 0 = .ok (.aload_n 0, 1) := by decide +kernel
theorem dX1_init_1 : decode cX1_init 1 = .ok (.invokespecial 3, 3) := by decide +kernel
theorem dX1_init_4 : decode cX1_init 4 = .ok (.aload_n 0, 1) := by decide +kernel
theorem dX1_init_5 : decode cX1_init 5 = .ok (.bipush 60, 2) := by decide +kernel
theorem dX1_init_7 : decode cX1_init 7 = .ok (.newarray .boolean, 2) := by decide +kernel
theorem dX1_init_9 : decode cX1_init 9 = .ok (.putfield 9, 3) := by decide +kernel
theorem dX1_init_12 : decode cX1_init 12 = .ok (.aload_n 0, 1) := by decide +kernel
theorem dX1_init_13 : decode cX1_init 13 = .ok (.bipush 60, 2) := by decide +kernel
theorem dX1_init_15 : decode cX1_init 15 = .ok (.newarray .int, 2) := by decide +kernel
theorem dX1_init_17 : decode cX1_init 17 = .ok (.putfield 15, 3) := by decide +kernel
theorem dX1_init_20 : decode cX1_init 20 = .ok (.aload_n 0, 1) := by decide +kernel
theorem dX1_init_21 : decode cX1_init 21 = .ok (.bipush 60, 2) := by decide +kernel
theorem dX1_init_23 : decode cX1_init 23 = .ok (.newarray .int, 2) := by decide +kernel
theorem dX1_init_25 : decode cX1_init 25 = .ok (.putfield 19, 3) := by decide +kernel
theorem dX1_init_28 : decode cX1_init 28 = .ok (.aload_n 0, 1) := by decide +kernel
theorem dX1_init_29 : decode cX1_init 29 = .ok (.bipush 60, 2) := by decide +kernel
theorem dX1_init_31 : decode cX1_init 31 = .ok (.newarray .int, 2) := by decide +kernel
theorem dX1_init_33 : decode cX1_init 33 = .ok (.putfield 22, 3) := by decide +kernel
theorem dX1_init_36 : decode cX1_init 36 = .ok (.aload_n 0, 1) := by decide +kernel
theorem dX1_init_37 : decode cX1_init 37 = .ok (.bipush 61, 2) := by decide +kernel
theorem dX1_init_39 : decode cX1_init 39 = .ok (.newarray .int, 2) := by decide +kernel
theorem dX1_init_41 : decode cX1_init 41 = .ok (.putfield 25, 3) := by decide +kernel
theorem dX1_init_44 : decode cX1_init 44 = .ok (.aload_n 0, 1) := by decide +kernel
theorem dX1_init_45 : decode cX1_init 45 = .ok (.bipush 61, 2) := by decide +kernel
theorem dX1_init_47 : decode cX1_init 47 = .ok (.newarray .int, 2) := by decide +kernel
theorem dX1_init_49 : decode cX1_init 49 = .ok (.putfield 28, 3) := by decide +kernel
theorem dX1_init_52 : decode cX1_init 52 = .ok (.aload_n 0, 1) := by decide +kernel
theorem dX1_init_53 : decode cX1_init 53 = .ok (.bipush 61, 2) := by decide +kernel
theorem dX1_init_55 : decode cX1_init 55 = .ok (.newarray .int, 2) := by decide +kernel
theorem dX1_init_57 : decode cX1_init 57 = .ok (.putfield 31, 3) := by decide +kernel
theorem dX1_init_60 : decode cX1_init 60 = .ok (.return_, 1) := by decide +kernel
theorem dX1_gather_0 : decode cX1_gather 0 = .ok (.aload_n 0, 1) := by decide +kernel
theorem dX1_gather_1 : decode cX1_gather 1 = .ok (.aload_n 1, 1) := by decide +kernel
theorem dX1_gather_2 : decode cX1_gather 2 = .ok (.invokevirtual 34, 3) := by decide +kernel
theorem dX1_gather_5 : decode cX1_gather 5 = .ok (.aload_n 0, 1) := by decide +kernel
theorem dX1_gather_6 : decode cX1_gather 6 = .ok (.getfield 25, 3) := by decide +kernel
theorem dX1_gather_9 : decode cX1_gather 9 = .ok (.iconst (-1), 1) := by decide +kernel
theorem dX1_gather_10 : decode cX1_gather 10 = .ok (.invokestatic 38, 3) := by decide +kernel
theorem dX1_gather_13 : decode cX1_gather 13 = .ok (.aload_n 0, 1) := by decide +kernel
theorem dX1_gather_14 : decode cX1_gather 14 = .ok (.getfield 28, 3) := by decide +kernel
theorem dX1_gather_17 : decode cX1_gather 17 = .ok (.iconst (-1), 1) := by decide +kernel
theorem dX1_gather_18 : decode cX1_gather 18 = .ok (.invokestatic 38, 3) := by decide +kernel
theorem dX1_gather_21 : decode cX1_gather 21 = .ok (.aload_n 0, 1) := by decide +kernel
theorem dX1_gather_22 : decode cX1_gather 22 = .ok (.getfield 31, 3) := by decide +kernel
theorem dX1_gather_25 : decode cX1_gather 25 = .ok (.iconst (-1), 1) := by decide +kernel
theorem dX1_gather_26 : decode cX1_gather 26 = .ok (.invokestatic 38, 3) := by decide +kernel
theorem dX1_gather_29 : decode cX1_gather 29 = .ok (.aload_n 0, 1) := by decide +kernel
theorem dX1_gather_30 : decode cX1_gather 30 = .ok (.iconst 0, 1) := by decide +kernel
theorem dX1_gather_31 : decode cX1_gather 31 = .ok (.putfield 44, 3) := by decide +kernel
theorem dX1_gather_34 : decode cX1_gather 34 = .ok (.aload_n 0, 1) := by decide +kernel
theorem dX1_gather_35 : decode cX1_gather 35 = .ok (.iconst 0, 1) := by decide +kernel
theorem dX1_gather_36 : decode cX1_gather 36 = .ok (.putfield 48, 3) := by decide +kernel
theorem dX1_gather_39 : decode cX1_gather 39 = .ok (.aload_n 0, 1) := by decide +kernel
theorem dX1_gather_40 : decode cX1_gather 40 = .ok (.aload_n 1, 1) := by decide +kernel
theorem dX1_gather_41 : decode cX1_gather 41 = .ok (.invokevirtual 51, 3) := by decide +kernel
theorem dX1_gather_44 : decode cX1_gather 44 = .ok (.putfield 57, 3) := by decide +kernel
theorem dX1_gather_47 : decode cX1_gather 47 = .ok (.iconst 1, 1) := by decide +kernel
theorem dX1_gather_48 : decode cX1_gather 48 = .ok (.istore_n 2, 1) := by decide +kernel
theorem dX1_gather_49 : decode cX1_gather 49 = .ok (.iconst 0, 1) := by decide +kernel
theorem dX1_gather_50 : decode cX1_gather 50 = .ok (.istore_n 3, 1) := by decide +kernel
theorem dX1_gather_51 : decode cX1_gather 51 = .ok (.iconst 1, 1) := by decide +kernel
theorem dX1_gather_52 : decode cX1_gather 52 = .ok (.istore 4, 2) := by decide +kernel
theorem dX1_gather_54 : decode cX1_gather 54 = .ok (.iload 4, 2) := by decide +kernel
theorem dX1_gather_56 : decode cX1_gather 56 = .ok (.aload_n 0, 1) := by decide +kernel
theorem dX1_gather_57 : decode cX1_gather 57 = .ok (.getfield 57, 3) := by decide +kernel
theorem dX1_gather_60 : decode cX1_gather 60 = .ok (.if_icmp .gt 64, 3) := by decide +kernel
theorem dX1_gather_63 : decode cX1_gather 63 = .ok (.iload_n 2, 1) := by decide +kernel
theorem dX1_gather_64 : decode cX1_gather 64 = .ok (.ifCond .eq 21, 3) := by decide +kernel
theorem dX1_gather_67 : decode cX1_gather 67 = .ok (.aload_n 1, 1) := by decide +kernel
theorem dX1_gather_68 : decode cX1_gather 68 = .ok (.iload 4, 2) := by decide +kernel
theorem dX1_gather_70 : decode cX1_gather 70 = .ok (.iconst 1, 1) := by decide +kernel
theorem dX1_gather_71 : decode cX1_gather 71 = .ok (.isub, 1) := by decide +kernel
theorem dX1_gather_72 : decode cX1_gather 72 = .ok (.invokevirtual 60, 3) := by decide +kernel
theorem dX1_gather_75 : decode cX1_gather 75 = .ok (.invokestatic 64, 3) := by decide +kernel
theorem dX1_gather_78 : decode cX1_gather 78 = .ok (.ifCond .eq 7, 3) := by decide +kernel
theorem dX1_gather_81 : decode cX1_gather 81 = .ok (.iconst 1, 1) := by decide +kernel
theorem dX1_gather_82 : decode cX1_gather 82 = .ok (.goto 4, 3) := by decide +kernel
theorem dX1_gather_85 : decode cX1_gather 85 = .ok (.iconst 0, 1) := by decide +kernel
theorem dX1_gather_86 : decode cX1_gather 86 = .ok (.istore_n 2, 1) := by decide +kernel
theorem dX1_gather_87 : decode cX1_gather 87 = .ok (.iload 4, 2) := by decide +kernel
theorem dX1_gather_89 : decode cX1_gather 89 = .ok (.aload_n 0, 1) := by decide +kernel
theorem dX1_gather_90 : decode cX1_gather 90 = .ok (.getfield 57, 3) := by decide +kernel
theorem dX1_gather_93 : decode cX1_gather 93 = .ok (.if_icmp .eq 14, 3) := by decide +kernel
theorem dX1_gather_96 : decode cX1_gather 96 = .ok (.aload_n 0, 1) := by decide +kernel
theorem dX1_gather_97 : decode cX1_gather 97 = .ok (.aload_n 1, 1) := by decide +kernel
theorem dX1_gather_98 : decode cX1_gather 98 = .ok (.iload 4, 2) := by decide +kernel
theorem dX1_gather_100 : decode cX1_gather 100 = .ok (.iload_n 2, 1) := by decide +kernel
theorem dX1_gather_101 : decode cX1_gather 101 = .ok (.invokevirtual 70, 3) := by decide +kernel
theorem dX1_gather_104 : decode cX1_gather 104 = .ok (.ifCond .eq 14, 3) := by decide +kernel
theorem dX1_gather_107 : decode cX1_gather 107 = .ok (.aload_n 0, 1) := by decide +kernel
theorem dX1_gather_108 : decode cX1_gather 108 = .ok (.aload_n 1, 1) := by decide +kernel
theorem dX1_gather_109 : decode cX1_gather 109 = .ok (.iload_n 3, 1) := by decide +kernel
theorem dX1_gather_110 : decode cX1_gather 110 = .ok (.iload 4, 2) := by decide +kernel
theorem dX1_gather_112 : decode cX1_gather 112 = .ok (.invokevirtual 74, 3) := by decide +kernel
theorem dX1_gather_115 : decode cX1_gather 115 = .ok (.iload 4, 2) := by decide +kernel
theorem dX1_gather_117 : decode cX1_gather 117 = .ok (.istore_n 3, 1) := by decide +kernel
theorem dX1_gather_118 : decode cX1_gather 118 = .ok (.iinc 4 1, 3) := by decide +kernel
theorem dX1_gather_121 : decode cX1_gather 121 = .ok (.goto (-67), 3) := by decide +kernel
theorem dX1_gather_124 : decode cX1_gather 124 = .ok (.return_, 1) := by decide +kernel
theorem dX1_findJoins_0 : decode cX1_findJoins 0 = .ok (.iconst 0, 1) := by decide +kernel
theorem dX1_findJoins_1 : decode cX1_findJoins 1 = .ok (.istore_n 2, 1) := by decide +kernel
theorem dX1_findJoins_2 : decode cX1_findJoins 2 = .ok (.iload_n 2, 1) := by decide +kernel
theorem dX1_findJoins_3 : decode cX1_findJoins 3 = .ok (.aload_n 1, 1) := by decide +kernel
theorem dX1_findJoins_4 : decode cX1_findJoins 4 = .ok (.invokevirtual 51, 3) := by decide +kernel
theorem dX1_findJoins_7 : decode cX1_findJoins 7 = .ok (.if_icmp .ge 76, 3) := by decide +kernel
theorem dX1_findJoins_10 : decode cX1_findJoins 10 = .ok (.aload_n 0, 1) := by decide +kernel
theorem dX1_findJoins_11 : decode cX1_findJoins 11 = .ok (.getfield 9, 3) := by decide +kernel
theorem dX1_findJoins_14 : decode cX1_findJoins 14 = .ok (.iload_n 2, 1) := by decide +kernel
theorem dX1_findJoins_15 : decode cX1_findJoins 15 = .ok (.aload_n 1, 1) := by decide +kernel
theorem dX1_findJoins_16 : decode cX1_findJoins 16 = .ok (.iload_n 2, 1) := by decide +kernel
theorem dX1_findJoins_17 : decode cX1_findJoins 17 = .ok (.invokevirtual 60, 3) := by decide +kernel
theorem dX1_findJoins_20 : decode cX1_findJoins 20 = .ok (.bipush 94, 2) := by decide +kernel
theorem dX1_findJoins_22 : decode cX1_findJoins 22 = .ok (.if_icmp .ne 53, 3) := by decide +kernel
theorem dX1_findJoins_25 : decode cX1_findJoins 25 = .ok (.aload_n 1, 1) := by decide +kernel
theorem dX1_findJoins_26 : decode cX1_findJoins 26 = .ok (.iload_n 2, 1) := by decide +kernel
theorem dX1_findJoins_27 : decode cX1_findJoins 27 = .ok (.iconst 1, 1) := by decide +kernel
theorem dX1_findJoins_28 : decode cX1_findJoins 28 = .ok (.isub, 1) := by decide +kernel
theorem dX1_findJoins_29 : decode cX1_findJoins 29 = .ok (.invokevirtual 60, 3) := by decide +kernel
theorem dX1_findJoins_32 : decode cX1_findJoins 32 = .ok (.invokestatic 78, 3) := by decide +kernel
theorem dX1_findJoins_35 : decode cX1_findJoins 35 = .ok (.ifCond .eq 40, 3) := by decide +kernel
theorem dX1_findJoins_38 : decode cX1_findJoins 38 = .ok (.aload_n 1, 1) := by decide +kernel
theorem dX1_findJoins_39 : decode cX1_findJoins 39 = .ok (.iload_n 2, 1) := by decide +kernel
theorem dX1_findJoins_40 : decode cX1_findJoins 40 = .ok (.iconst 1, 1) := by decide +kernel
theorem dX1_findJoins_41 : decode cX1_findJoins 41 = .ok (.isub, 1) := by decide +kernel
theorem dX1_findJoins_42 : decode cX1_findJoins 42 = .ok (.invokevirtual 60, 3) := by decide +kernel
theorem dX1_findJoins_45 : decode cX1_findJoins 45 = .ok (.invokestatic 81, 3) := by decide +kernel
theorem dX1_findJoins_48 : decode cX1_findJoins 48 = .ok (.aload_n 1, 1) := by decide +kernel
theorem dX1_findJoins_49 : decode cX1_findJoins 49 = .ok (.iload_n 2, 1) := by decide +kernel
theorem dX1_findJoins_50 : decode cX1_findJoins 50 = .ok (.iconst 1, 1) := by decide +kernel
theorem dX1_findJoins_51 : decode cX1_findJoins 51 = .ok (.iadd, 1) := by decide +kernel
theorem dX1_findJoins_52 : decode cX1_findJoins 52 = .ok (.invokevirtual 60, 3) := by decide +kernel
theorem dX1_findJoins_55 : decode cX1_findJoins 55 = .ok (.invokestatic 81, 3) := by decide +kernel
theorem dX1_findJoins_58 : decode cX1_findJoins 58 = .ok (.if_icmp .ne 17, 3) := by decide +kernel
theorem dX1_findJoins_61 : decode cX1_findJoins 61 = .ok (.aload_n 0, 1) := by decide +kernel
theorem dX1_findJoins_62 : decode cX1_findJoins 62 = .ok (.iload_n 2, 1) := by decide +kernel
theorem dX1_findJoins_63 : decode cX1_findJoins 63 = .ok (.iconst 2, 1) := by decide +kernel
theorem dX1_findJoins_64 : decode cX1_findJoins 64 = .ok (.isub, 1) := by decide +kernel
theorem dX1_findJoins_65 : decode cX1_findJoins 65 = .ok (.invokevirtual 84, 3) := by decide +kernel
theorem dX1_findJoins_68 : decode cX1_findJoins 68 = .ok (.ifCond .ne 7, 3) := by decide +kernel
theorem dX1_findJoins_71 : decode cX1_findJoins 71 = .ok (.iconst 1, 1) := by decide +kernel
theorem dX1_findJoins_72 : decode cX1_findJoins 72 = .ok (.goto 4, 3) := by decide +kernel
theorem dX1_findJoins_75 : decode cX1_findJoins 75 = .ok (.iconst 0, 1) := by decide +kernel
theorem dX1_findJoins_76 : decode cX1_findJoins 76 = .ok (.bastore, 1) := by decide +kernel
theorem dX1_findJoins_77 : decode cX1_findJoins 77 = .ok (.iinc 2 1, 3) := by decide +kernel
theorem dX1_findJoins_80 : decode cX1_findJoins 80 = .ok (.goto (-78), 3) := by decide +kernel
theorem dX1_findJoins_83 : decode cX1_findJoins 83 = .ok (.aload_n 1, 1) := by decide +kernel
theorem dX1_findJoins_84 : decode cX1_findJoins 84 = .ok (.invokevirtual 51, 3) := by decide +kernel
theorem dX1_findJoins_87 : decode cX1_findJoins 87 = .ok (.istore_n 2, 1) := by decide +kernel
theorem dX1_findJoins_88 : decode cX1_findJoins 88 = .ok (.iload_n 2, 1) := by decide +kernel
theorem dX1_findJoins_89 : decode cX1_findJoins 89 = .ok (.bipush 60, 2) := by decide +kernel
theorem dX1_findJoins_91 : decode cX1_findJoins 91 = .ok (.if_icmp .ge 16, 3) := by decide +kernel
theorem dX1_findJoins_94 : decode cX1_findJoins 94 = .ok (.aload_n 0, 1) := by decide +kernel
theorem dX1_findJoins_95 : decode cX1_findJoins 95 = .ok (.getfield 9, 3) := by decide +kernel
theorem dX1_findJoins_98 : decode cX1_findJoins 98 = .ok (.iload_n 2, 1) := by decide +kernel
theorem dX1_findJoins_99 : decode cX1_findJoins 99 = .ok (.iconst 0, 1) := by decide +kernel
theorem dX1_findJoins_100 : decode cX1_findJoins 100 = .ok (.bastore, 1) := by decide +kernel
theorem dX1_findJoins_101 : decode cX1_findJoins 101 = .ok (.iinc 2 1, 3) := by decide +kernel
theorem dX1_findJoins_104 : decode cX1_findJoins 104 = .ok (.goto (-16), 3) := by decide +kernel
theorem dX1_findJoins_107 : decode cX1_findJoins 107 = .ok (.return_, 1) := by decide +kernel
theorem dX1_begins_0 : decode cX1_begins 0 = .ok (.aload_n 1, 1) := by decide +kernel
theorem dX1_begins_1 : decode cX1_begins 1 = .ok (.iload_n 2, 1) := by decide +kernel
theorem dX1_begins_2 : decode cX1_begins 2 = .ok (.invokevirtual 60, 3) := by decide +kernel
theorem dX1_begins_5 : decode cX1_begins 5 = .ok (.invokestatic 64, 3) := by decide +kernel
theorem dX1_begins_8 : decode cX1_begins 8 = .ok (.ifCond .eq 5, 3) := by decide +kernel
theorem dX1_begins_11 : decode cX1_begins 11 = .ok (.iload_n 3, 1) := by decide +kernel
theorem dX1_begins_12 : decode cX1_begins 12 = .ok (.ireturn, 1) := by decide +kernel
theorem dX1_begins_13 : decode cX1_begins 13 = .ok (.aload_n 0, 1) := by decide +kernel
theorem dX1_begins_14 : decode cX1_begins 14 = .ok (.iload_n 2, 1) := by decide +kernel
theorem dX1_begins_15 : decode cX1_begins 15 = .ok (.invokevirtual 84, 3) := by decide +kernel
theorem dX1_begins_18 : decode cX1_begins 18 = .ok (.ifCond .ne 17, 3) := by decide +kernel
theorem dX1_begins_21 : decode cX1_begins 21 = .ok (.aload_n 0, 1) := by decide +kernel
theorem dX1_begins_22 : decode cX1_begins 22 = .ok (.iload_n 2, 1) := by decide +kernel
theorem dX1_begins_23 : decode cX1_begins 23 = .ok (.iconst 1, 1) := by decide +kernel
theorem dX1_begins_24 : decode cX1_begins 24 = .ok (.isub, 1) := by decide +kernel
theorem dX1_begins_25 : decode cX1_begins 25 = .ok (.invokevirtual 84, 3) := by decide +kernel
theorem dX1_begins_28 : decode cX1_begins 28 = .ok (.ifCond .ne 7, 3) := by decide +kernel
theorem dX1_begins_31 : decode cX1_begins 31 = .ok (.iconst 1, 1) := by decide +kernel
theorem dX1_begins_32 : decode cX1_begins 32 = .ok (.goto 4, 3) := by decide +kernel
theorem dX1_begins_35 : decode cX1_begins 35 = .ok (.iconst 0, 1) := by decide +kernel
theorem dX1_begins_36 : decode cX1_begins 36 = .ok (.ireturn, 1) := by decide +kernel
theorem dX1_add_0 : decode cX1_add 0 = .ok (.aload_n 0, 1) := by decide +kernel
theorem dX1_add_1 : decode cX1_add 1 = .ok (.getfield 44, 3) := by decide +kernel
theorem dX1_add_4 : decode cX1_add 4 = .ok (.bipush 60, 2) := by decide +kernel
theorem dX1_add_6 : decode cX1_add 6 = .ok (.if_icmp .ge 18, 3) := by decide +kernel
theorem dX1_add_9 : decode cX1_add 9 = .ok (.iload_n 2, 1) := by decide +kernel
theorem dX1_add_10 : decode cX1_add 10 = .ok (.ifCond .lt 14, 3) := by decide +kernel
theorem dX1_add_13 : decode cX1_add 13 = .ok (.iload_n 2, 1) := by decide +kernel
theorem dX1_add_14 : decode cX1_add 14 = .ok (.iload_n 3, 1) := by decide +kernel
theorem dX1_add_15 : decode cX1_add 15 = .ok (.if_icmp .ge 9, 3) := by decide +kernel
theorem dX1_add_18 : decode cX1_add 18 = .ok (.iload_n 3, 1) := by decide +kernel
theorem dX1_add_19 : decode cX1_add 19 = .ok (.bipush 60, 2) := by decide +kernel
theorem dX1_add_21 : decode cX1_add 21 = .ok (.if_icmp .le 4, 3) := by decide +kernel
theorem dX1_add_24 : decode cX1_add 24 = .ok (.return_, 1) := by decide +kernel
theorem dX1_add_25 : decode cX1_add 25 = .ok (.aload_n 0, 1) := by decide +kernel
theorem dX1_add_26 : decode cX1_add 26 = .ok (.getfield 15, 3) := by decide +kernel
theorem dX1_add_29 : decode cX1_add 29 = .ok (.aload_n 0, 1) := by decide +kernel
theorem dX1_add_30 : decode cX1_add 30 = .ok (.getfield 44, 3) := by decide +kernel
theorem dX1_add_33 : decode cX1_add 33 = .ok (.iload_n 2, 1) := by decide +kernel
theorem dX1_add_34 : decode cX1_add 34 = .ok (.iastore, 1) := by decide +kernel
theorem dX1_add_35 : decode cX1_add 35 = .ok (.aload_n 0, 1) := by decide +kernel
theorem dX1_add_36 : decode cX1_add 36 = .ok (.getfield 19, 3) := by decide +kernel
theorem dX1_add_39 : decode cX1_add 39 = .ok (.aload_n 0, 1) := by decide +kernel
theorem dX1_add_40 : decode cX1_add 40 = .ok (.getfield 44, 3) := by decide +kernel
theorem dX1_add_43 : decode cX1_add 43 = .ok (.iload_n 3, 1) := by decide +kernel
theorem dX1_add_44 : decode cX1_add 44 = .ok (.iastore, 1) := by decide +kernel
theorem dX1_add_45 : decode cX1_add 45 = .ok (.aload_n 0, 1) := by decide +kernel
theorem dX1_add_46 : decode cX1_add 46 = .ok (.getfield 22, 3) := by decide +kernel
theorem dX1_add_49 : decode cX1_add 49 = .ok (.aload_n 0, 1) := by decide +kernel
theorem dX1_add_50 : decode cX1_add 50 = .ok (.getfield 44, 3) := by decide +kernel
theorem dX1_add_53 : decode cX1_add 53 = .ok (.aload_n 1, 1) := by decide +kernel
theorem dX1_add_54 : decode cX1_add 54 = .ok (.iload_n 2, 1) := by decide +kernel
theorem dX1_add_55 : decode cX1_add 55 = .ok (.invokevirtual 60, 3) := by decide +kernel
theorem dX1_add_58 : decode cX1_add 58 = .ok (.invokestatic 87, 3) := by decide +kernel
theorem dX1_add_61 : decode cX1_add 61 = .ok (.iastore, 1) := by decide +kernel
theorem dX1_add_62 : decode cX1_add 62 = .ok (.aload_n 0, 1) := by decide +kernel
theorem dX1_add_63 : decode cX1_add 63 = .ok (.getfield 25, 3) := by decide +kernel
theorem dX1_add_66 : decode cX1_add 66 = .ok (.iload_n 2, 1) := by decide +kernel
theorem dX1_add_67 : decode cX1_add 67 = .ok (.aload_n 0, 1) := by decide +kernel
theorem dX1_add_68 : decode cX1_add 68 = .ok (.getfield 44, 3) := by decide +kernel
theorem dX1_add_71 : decode cX1_add 71 = .ok (.iastore, 1) := by decide +kernel
theorem dX1_add_72 : decode cX1_add 72 = .ok (.aload_n 0, 1) := by decide +kernel
theorem dX1_add_73 : decode cX1_add 73 = .ok (.getfield 28, 3) := by decide +kernel
theorem dX1_add_76 : decode cX1_add 76 = .ok (.iload_n 3, 1) := by decide +kernel
theorem dX1_add_77 : decode cX1_add 77 = .ok (.aload_n 0, 1) := by decide +kernel
theorem dX1_add_78 : decode cX1_add 78 = .ok (.getfield 44, 3) := by decide +kernel
theorem dX1_add_81 : decode cX1_add 81 = .ok (.iastore, 1) := by decide +kernel
theorem dX1_add_82 : decode cX1_add 82 = .ok (.aload_n 0, 1) := by decide +kernel
theorem dX1_add_83 : decode cX1_add 83 = .ok (.iload_n 2, 1) := by decide +kernel
theorem dX1_add_84 : decode cX1_add 84 = .ok (.iconst 1, 1) := by decide +kernel
theorem dX1_add_85 : decode cX1_add 85 = .ok (.iadd, 1) := by decide +kernel
theorem dX1_add_86 : decode cX1_add 86 = .ok (.invokevirtual 84, 3) := by decide +kernel
theorem dX1_add_89 : decode cX1_add 89 = .ok (.ifCond .eq 36, 3) := by decide +kernel
theorem dX1_add_92 : decode cX1_add 92 = .ok (.aload_n 0, 1) := by decide +kernel
theorem dX1_add_93 : decode cX1_add 93 = .ok (.getfield 22, 3) := by decide +kernel
theorem dX1_add_96 : decode cX1_add 96 = .ok (.aload_n 0, 1) := by decide +kernel
theorem dX1_add_97 : decode cX1_add 97 = .ok (.getfield 44, 3) := by decide +kernel
theorem dX1_add_100 : decode cX1_add 100 = .ok (.bipush 16, 2) := by decide +kernel
theorem dX1_add_102 : decode cX1_add 102 = .ok (.iastore, 1) := by decide +kernel
theorem dX1_add_103 : decode cX1_add 103 = .ok (.aload_n 0, 1) := by decide +kernel
theorem dX1_add_104 : decode cX1_add 104 = .ok (.getfield 31, 3) := by decide +kernel
theorem dX1_add_107 : decode cX1_add 107 = .ok (.iload_n 2, 1) := by decide +kernel
theorem dX1_add_108 : decode cX1_add 108 = .ok (.iconst 2, 1) := by decide +kernel
theorem dX1_add_109 : decode cX1_add 109 = .ok (.iadd, 1) := by decide +kernel
theorem dX1_add_110 : decode cX1_add 110 = .ok (.aload_n 0, 1) := by decide +kernel
theorem dX1_add_111 : decode cX1_add 111 = .ok (.getfield 44, 3) := by decide +kernel
theorem dX1_add_114 : decode cX1_add 114 = .ok (.iastore, 1) := by decide +kernel
theorem dX1_add_115 : decode cX1_add 115 = .ok (.aload_n 0, 1) := by decide +kernel
theorem dX1_add_116 : decode cX1_add 116 = .ok (.dup, 1) := by decide +kernel
theorem dX1_add_117 : decode cX1_add 117 = .ok (.getfield 48, 3) := by decide +kernel
theorem dX1_add_120 : decode cX1_add 120 = .ok (.iconst 1, 1) := by decide +kernel
theorem dX1_add_121 : decode cX1_add 121 = .ok (.iadd, 1) := by decide +kernel
theorem dX1_add_122 : decode cX1_add 122 = .ok (.putfield 48, 3) := by decide +kernel
theorem dX1_add_125 : decode cX1_add 125 = .ok (.aload_n 0, 1) := by decide +kernel
theorem dX1_add_126 : decode cX1_add 126 = .ok (.dup, 1) := by decide +kernel
theorem dX1_add_127 : decode cX1_add 127 = .ok (.getfield 44, 3) := by decide +kernel
theorem dX1_add_130 : decode cX1_add 130 = .ok (.iconst 1, 1) := by decide +kernel
theorem dX1_add_131 : decode cX1_add 131 = .ok (.iadd, 1) := by decide +kernel
theorem dX1_add_132 : decode cX1_add 132 = .ok (.putfield 44, 3) := by decide +kernel
theorem dX1_add_135 : decode cX1_add 135 = .ok (.return_, 1) := by decide +kernel
theorem dX1_joinsAt_0 : decode cX1_joinsAt 0 = .ok (.iload_n 1, 1) := by decide +kernel
theorem dX1_joinsAt_1 : decode cX1_joinsAt 1 = .ok (.ifCond .lt 25, 3) := by decide +kernel
theorem dX1_joinsAt_4 : decode cX1_joinsAt 4 = .ok (.iload_n 1, 1) := by decide +kernel
theorem dX1_joinsAt_5 : decode cX1_joinsAt 5 = .ok (.aload_n 0, 1) := by decide +kernel
theorem dX1_joinsAt_6 : decode cX1_joinsAt 6 = .ok (.getfield 9, 3) := by decide +kernel
theorem dX1_joinsAt_9 : decode cX1_joinsAt 9 = .ok (.arraylength, 1) := by decide +kernel
theorem dX1_joinsAt_10 : decode cX1_joinsAt 10 = .ok (.if_icmp .ge 16, 3) := by decide +kernel
theorem dX1_joinsAt_13 : decode cX1_joinsAt 13 = .ok (.aload_n 0, 1) := by decide +kernel
theorem dX1_joinsAt_14 : decode cX1_joinsAt 14 = .ok (.getfield 9, 3) := by decide +kernel
theorem dX1_joinsAt_17 : decode cX1_joinsAt 17 = .ok (.iload_n 1, 1) := by decide +kernel
theorem dX1_joinsAt_18 : decode cX1_joinsAt 18 = .ok (.baload, 1) := by decide +kernel
theorem dX1_joinsAt_19 : decode cX1_joinsAt 19 = .ok (.ifCond .eq 7, 3) := by decide +kernel
theorem dX1_joinsAt_22 : decode cX1_joinsAt 22 = .ok (.iconst 1, 1) := by decide +kernel
theorem dX1_joinsAt_23 : decode cX1_joinsAt 23 = .ok (.goto 4, 3) := by decide +kernel
theorem dX1_joinsAt_26 : decode cX1_joinsAt 26 = .ok (.iconst 0, 1) := by decide +kernel
theorem dX1_joinsAt_27 : decode cX1_joinsAt 27 = .ok (.ireturn, 1) := by decide +kernel
theorem dX1_number_0 : decode cX1_number 0 = .ok (.aload_n 0, 1) := by decide +kernel
theorem dX1_number_1 : decode cX1_number 1 = .ok (.getfield 44, 3) := by decide +kernel
theorem dX1_number_4 : decode cX1_number 4 = .ok (.ireturn, 1) := by decide +kernel
theorem dX1_standNumber_0 : decode cX1_standNumber 0 = .ok (.aload_n 0, 1) := by decide +kernel
theorem dX1_standNumber_1 : decode cX1_standNumber 1 = .ok (.getfield 44, 3) := by decide +kernel
theorem dX1_standNumber_4 : decode cX1_standNumber 4 = .ok (.iconst 1, 1) := by decide +kernel
theorem dX1_standNumber_5 : decode cX1_standNumber 5 = .ok (.iadd, 1) := by decide +kernel
theorem dX1_standNumber_6 : decode cX1_standNumber 6 = .ok (.aload_n 0, 1) := by decide +kernel
theorem dX1_standNumber_7 : decode cX1_standNumber 7 = .ok (.getfield 48, 3) := by decide +kernel
theorem dX1_standNumber_10 : decode cX1_standNumber 10 = .ok (.iadd, 1) := by decide +kernel
theorem dX1_standNumber_11 : decode cX1_standNumber 11 = .ok (.ireturn, 1) := by decide +kernel
theorem dX1_has_0 : decode cX1_has 0 = .ok (.iload_n 1, 1) := by decide +kernel
theorem dX1_has_1 : decode cX1_has 1 = .ok (.ifCond .lt 15, 3) := by decide +kernel
theorem dX1_has_4 : decode cX1_has 4 = .ok (.iload_n 1, 1) := by decide +kernel
theorem dX1_has_5 : decode cX1_has 5 = .ok (.aload_n 0, 1) := by decide +kernel
theorem dX1_has_6 : decode cX1_has 6 = .ok (.getfield 44, 3) := by decide +kernel
theorem dX1_has_9 : decode cX1_has 9 = .ok (.if_icmp .ge 7, 3) := by decide +kernel
theorem dX1_has_12 : decode cX1_has 12 = .ok (.iconst 1, 1) := by decide +kernel
theorem dX1_has_13 : decode cX1_has 13 = .ok (.goto 4, 3) := by decide +kernel
theorem dX1_has_16 : decode cX1_has 16 = .ok (.iconst 0, 1) := by decide +kernel
theorem dX1_has_17 : decode cX1_has 17 = .ok (.ireturn, 1) := by decide +kernel
theorem dX1_firstOf_0 : decode cX1_firstOf 0 = .ok (.aload_n 0, 1) := by decide +kernel
theorem dX1_firstOf_1 : decode cX1_firstOf 1 = .ok (.iload_n 1, 1) := by decide +kernel
theorem dX1_firstOf_2 : decode cX1_firstOf 2 = .ok (.invokevirtual 90, 3) := by decide +kernel
theorem dX1_firstOf_5 : decode cX1_firstOf 5 = .ok (.ifCond .eq 12, 3) := by decide +kernel
theorem dX1_firstOf_8 : decode cX1_firstOf 8 = .ok (.aload_n 0, 1) := by decide +kernel
theorem dX1_firstOf_9 : decode cX1_firstOf 9 = .ok (.getfield 15, 3) := by decide +kernel
theorem dX1_firstOf_12 : decode cX1_firstOf 12 = .ok (.iload_n 1, 1) := by decide +kernel
theorem dX1_firstOf_13 : decode cX1_firstOf 13 = .ok (.iaload, 1) := by decide +kernel
theorem dX1_firstOf_14 : decode cX1_firstOf 14 = .ok (.goto 4, 3) := by decide +kernel
theorem dX1_firstOf_17 : decode cX1_firstOf 17 = .ok (.iconst (-1), 1) := by decide +kernel
theorem dX1_firstOf_18 : decode cX1_firstOf 18 = .ok (.ireturn, 1) := by decide +kernel
theorem dX1_endOf_0 : decode cX1_endOf 0 = .ok (.aload_n 0, 1) := by decide +kernel
theorem dX1_endOf_1 : decode cX1_endOf 1 = .ok (.iload_n 1, 1) := by decide +kernel
theorem dX1_endOf_2 : decode cX1_endOf 2 = .ok (.invokevirtual 90, 3) := by decide +kernel
theorem dX1_endOf_5 : decode cX1_endOf 5 = .ok (.ifCond .eq 12, 3) := by decide +kernel
theorem dX1_endOf_8 : decode cX1_endOf 8 = .ok (.aload_n 0, 1) := by decide +kernel
theorem dX1_endOf_9 : decode cX1_endOf 9 = .ok (.getfield 19, 3) := by decide +kernel
theorem dX1_endOf_12 : decode cX1_endOf 12 = .ok (.iload_n 1, 1) := by decide +kernel
theorem dX1_endOf_13 : decode cX1_endOf 13 = .ok (.iaload, 1) := by decide +kernel
theorem dX1_endOf_14 : decode cX1_endOf 14 = .ok (.goto 4, 3) := by decide +kernel
theorem dX1_endOf_17 : decode cX1_endOf 17 = .ok (.iconst (-1), 1) := by decide +kernel
theorem dX1_endOf_18 : decode cX1_endOf 18 = .ok (.ireturn, 1) := by decide +kernel
theorem dX1_widthOf_0 : decode cX1_widthOf 0 = .ok (.aload_n 0, 1) := by decide +kernel
theorem dX1_widthOf_1 : decode cX1_widthOf 1 = .ok (.iload_n 1, 1) := by decide +kernel
theorem dX1_widthOf_2 : decode cX1_widthOf 2 = .ok (.invokevirtual 90, 3) := by decide +kernel
theorem dX1_widthOf_5 : decode cX1_widthOf 5 = .ok (.ifCond .eq 12, 3) := by decide +kernel
theorem dX1_widthOf_8 : decode cX1_widthOf 8 = .ok (.aload_n 0, 1) := by decide +kernel
theorem dX1_widthOf_9 : decode cX1_widthOf 9 = .ok (.getfield 22, 3) := by decide +kernel
theorem dX1_widthOf_12 : decode cX1_widthOf 12 = .ok (.iload_n 1, 1) := by decide +kernel
theorem dX1_widthOf_13 : decode cX1_widthOf 13 = .ok (.iaload, 1) := by decide +kernel
theorem dX1_widthOf_14 : decode cX1_widthOf 14 = .ok (.goto 4, 3) := by decide +kernel
theorem dX1_widthOf_17 : decode cX1_widthOf 17 = .ok (.iconst 0, 1) := by decide +kernel
theorem dX1_widthOf_18 : decode cX1_widthOf 18 = .ok (.ireturn, 1) := by decide +kernel
theorem dX1_isJoined_0 : decode cX1_isJoined 0 = .ok (.aload_n 0, 1) := by decide +kernel
theorem dX1_isJoined_1 : decode cX1_isJoined 1 = .ok (.iload_n 1, 1) := by decide +kernel
theorem dX1_isJoined_2 : decode cX1_isJoined 2 = .ok (.invokevirtual 90, 3) := by decide +kernel
theorem dX1_isJoined_5 : decode cX1_isJoined 5 = .ok (.ifCond .eq 22, 3) := by decide +kernel
theorem dX1_isJoined_8 : decode cX1_isJoined 8 = .ok (.aload_n 0, 1) := by decide +kernel
theorem dX1_isJoined_9 : decode cX1_isJoined 9 = .ok (.aload_n 0, 1) := by decide +kernel
theorem dX1_isJoined_10 : decode cX1_isJoined 10 = .ok (.getfield 15, 3) := by decide +kernel
theorem dX1_isJoined_13 : decode cX1_isJoined 13 = .ok (.iload_n 1, 1) := by decide +kernel
theorem dX1_isJoined_14 : decode cX1_isJoined 14 = .ok (.iaload, 1) := by decide +kernel
theorem dX1_isJoined_15 : decode cX1_isJoined 15 = .ok (.iconst 1, 1) := by decide +kernel
theorem dX1_isJoined_16 : decode cX1_isJoined 16 = .ok (.iadd, 1) := by decide +kernel
theorem dX1_isJoined_17 : decode cX1_isJoined 17 = .ok (.invokevirtual 84, 3) := by decide +kernel
theorem dX1_isJoined_20 : decode cX1_isJoined 20 = .ok (.ifCond .eq 7, 3) := by decide +kernel
theorem dX1_isJoined_23 : decode cX1_isJoined 23 = .ok (.iconst 1, 1) := by decide +kernel
theorem dX1_isJoined_24 : decode cX1_isJoined 24 = .ok (.goto 4, 3) := by decide +kernel
theorem dX1_isJoined_27 : decode cX1_isJoined 27 = .ok (.iconst 0, 1) := by decide +kernel
theorem dX1_isJoined_28 : decode cX1_isJoined 28 = .ok (.ireturn, 1) := by decide +kernel
theorem dX1_beginningAt_0 : decode cX1_beginningAt 0 = .ok (.aload_n 0, 1) := by decide +kernel
theorem dX1_beginningAt_1 : decode cX1_beginningAt 1 = .ok (.getfield 25, 3) := by decide +kernel
theorem dX1_beginningAt_4 : decode cX1_beginningAt 4 = .ok (.iload_n 1, 1) := by decide +kernel
theorem dX1_beginningAt_5 : decode cX1_beginningAt 5 = .ok (.iconst (-1), 1) := by decide +kernel
theorem dX1_beginningAt_6 : decode cX1_beginningAt 6 = .ok (.invokestatic 93, 3) := by decide +kernel
theorem dX1_beginningAt_9 : decode cX1_beginningAt 9 = .ok (.ireturn, 1) := by decide +kernel
theorem dX1_endingAt_0 : decode cX1_endingAt 0 = .ok (.aload_n 0, 1) := by decide +kernel
theorem dX1_endingAt_1 : decode cX1_endingAt 1 = .ok (.getfield 28, 3) := by decide +kernel
theorem dX1_endingAt_4 : decode cX1_endingAt 4 = .ok (.iload_n 1, 1) := by decide +kernel
theorem dX1_endingAt_5 : decode cX1_endingAt 5 = .ok (.iconst (-1), 1) := by decide +kernel
theorem dX1_endingAt_6 : decode cX1_endingAt 6 = .ok (.invokestatic 93, 3) := by decide +kernel
theorem dX1_endingAt_9 : decode cX1_endingAt 9 = .ok (.ireturn, 1) := by decide +kernel
theorem dX1_joinedAround_0 : decode cX1_joinedAround 0 = .ok (.aload_n 0, 1) := by decide +kernel
theorem dX1_joinedAround_1 : decode cX1_joinedAround 1 = .ok (.getfield 31, 3) := by decide +kernel
theorem dX1_joinedAround_4 : decode cX1_joinedAround 4 = .ok (.iload_n 1, 1) := by decide +kernel
theorem dX1_joinedAround_5 : decode cX1_joinedAround 5 = .ok (.iconst (-1), 1) := by decide +kernel
theorem dX1_joinedAround_6 : decode cX1_joinedAround 6 = .ok (.invokestatic 93, 3) := by decide +kernel
theorem dX1_joinedAround_9 : decode cX1_joinedAround 9 = .ok (.ireturn, 1) := by decide +kernel
theorem dX1_aroundOrAheadOf_0 : decode cX1_aroundOrAheadOf 0 = .ok (.aload_n 0, 1) := by decide +kernel
theorem dX1_aroundOrAheadOf_1 : decode cX1_aroundOrAheadOf 1 = .ok (.iload_n 1, 1) := by decide +kernel
theorem dX1_aroundOrAheadOf_2 : decode cX1_aroundOrAheadOf 2 = .ok (.invokevirtual 97, 3) := by decide +kernel
theorem dX1_aroundOrAheadOf_5 : decode cX1_aroundOrAheadOf 5 = .ok (.istore_n 2, 1) := by decide +kernel
theorem dX1_aroundOrAheadOf_6 : decode cX1_aroundOrAheadOf 6 = .ok (.iload_n 2, 1) := by decide +kernel
theorem dX1_aroundOrAheadOf_7 : decode cX1_aroundOrAheadOf 7 = .ok (.iconst (-1), 1) := by decide +kernel
theorem dX1_aroundOrAheadOf_8 : decode cX1_aroundOrAheadOf 8 = .ok (.if_icmp .eq 7, 3) := by decide +kernel
theorem dX1_aroundOrAheadOf_11 : decode cX1_aroundOrAheadOf 11 = .ok (.iload_n 2, 1) := by decide +kernel
theorem dX1_aroundOrAheadOf_12 : decode cX1_aroundOrAheadOf 12 = .ok (.goto 8, 3) := by decide +kernel
theorem dX1_aroundOrAheadOf_15 : decode cX1_aroundOrAheadOf 15 = .ok (.aload_n 0, 1) := by decide +kernel
theorem dX1_aroundOrAheadOf_16 : decode cX1_aroundOrAheadOf 16 = .ok (.iload_n 1, 1) := by decide +kernel
theorem dX1_aroundOrAheadOf_17 : decode cX1_aroundOrAheadOf 17 = .ok (.invokevirtual 100, 3) := by decide +kernel
theorem dX1_aroundOrAheadOf_20 : decode cX1_aroundOrAheadOf 20 = .ok (.ireturn, 1) := by decide +kernel
theorem dX1_aroundOrBehind_0 : decode cX1_aroundOrBehind 0 = .ok (.aload_n 0, 1) := by decide +kernel
theorem dX1_aroundOrBehind_1 : decode cX1_aroundOrBehind 1 = .ok (.iload_n 1, 1) := by decide +kernel
theorem dX1_aroundOrBehind_2 : decode cX1_aroundOrBehind 2 = .ok (.invokevirtual 97, 3) := by decide +kernel
theorem dX1_aroundOrBehind_5 : decode cX1_aroundOrBehind 5 = .ok (.istore_n 2, 1) := by decide +kernel
theorem dX1_aroundOrBehind_6 : decode cX1_aroundOrBehind 6 = .ok (.iload_n 2, 1) := by decide +kernel
theorem dX1_aroundOrBehind_7 : decode cX1_aroundOrBehind 7 = .ok (.iconst (-1), 1) := by decide +kernel
theorem dX1_aroundOrBehind_8 : decode cX1_aroundOrBehind 8 = .ok (.if_icmp .eq 7, 3) := by decide +kernel
theorem dX1_aroundOrBehind_11 : decode cX1_aroundOrBehind 11 = .ok (.iload_n 2, 1) := by decide +kernel
theorem dX1_aroundOrBehind_12 : decode cX1_aroundOrBehind 12 = .ok (.goto 8, 3) := by decide +kernel
theorem dX1_aroundOrBehind_15 : decode cX1_aroundOrBehind 15 = .ok (.aload_n 0, 1) := by decide +kernel
theorem dX1_aroundOrBehind_16 : decode cX1_aroundOrBehind 16 = .ok (.iload_n 1, 1) := by decide +kernel
theorem dX1_aroundOrBehind_17 : decode cX1_aroundOrBehind 17 = .ok (.invokevirtual 103, 3) := by decide +kernel
theorem dX1_aroundOrBehind_20 : decode cX1_aroundOrBehind 20 = .ok (.ireturn, 1) := by decide +kernel
theorem dX1_isBetween_0 : decode cX1_isBetween 0 = .ok (.iload_n 1, 1) := by decide +kernel
theorem dX1_isBetween_1 : decode cX1_isBetween 1 = .ok (.aload_n 0, 1) := by decide +kernel
theorem dX1_isBetween_2 : decode cX1_isBetween 2 = .ok (.getfield 57, 3) := by decide +kernel
theorem dX1_isBetween_5 : decode cX1_isBetween 5 = .ok (.if_icmp .eq 16, 3) := by decide +kernel
theorem dX1_isBetween_8 : decode cX1_isBetween 8 = .ok (.aload_n 0, 1) := by decide +kernel
theorem dX1_isBetween_9 : decode cX1_isBetween 9 = .ok (.getfield 25, 3) := by decide +kernel
theorem dX1_isBetween_12 : decode cX1_isBetween 12 = .ok (.iload_n 1, 1) := by decide +kernel
theorem dX1_isBetween_13 : decode cX1_isBetween 13 = .ok (.iconst (-1), 1) := by decide +kernel
theorem dX1_isBetween_14 : decode cX1_isBetween 14 = .ok (.invokestatic 93, 3) := by decide +kernel
theorem dX1_isBetween_17 : decode cX1_isBetween 17 = .ok (.iconst (-1), 1) := by decide +kernel
theorem dX1_isBetween_18 : decode cX1_isBetween 18 = .ok (.if_icmp .eq 7, 3) := by decide +kernel
theorem dX1_isBetween_21 : decode cX1_isBetween 21 = .ok (.iconst 1, 1) := by decide +kernel
theorem dX1_isBetween_22 : decode cX1_isBetween 22 = .ok (.goto 4, 3) := by decide +kernel
theorem dX1_isBetween_25 : decode cX1_isBetween 25 = .ok (.iconst 0, 1) := by decide +kernel
theorem dX1_isBetween_26 : decode cX1_isBetween 26 = .ok (.ireturn, 1) := by decide +kernel
theorem dX1_isStand_0 : decode cX1_isStand 0 = .ok (.aload_n 0, 1) := by decide +kernel
theorem dX1_isStand_1 : decode cX1_isStand 1 = .ok (.iload_n 1, 1) := by decide +kernel
theorem dX1_isStand_2 : decode cX1_isStand 2 = .ok (.invokevirtual 106, 3) := by decide +kernel
theorem dX1_isStand_5 : decode cX1_isStand 5 = .ok (.ifCond .ne 16, 3) := by decide +kernel
theorem dX1_isStand_8 : decode cX1_isStand 8 = .ok (.aload_n 0, 1) := by decide +kernel
theorem dX1_isStand_9 : decode cX1_isStand 9 = .ok (.getfield 31, 3) := by decide +kernel
theorem dX1_isStand_12 : decode cX1_isStand 12 = .ok (.iload_n 1, 1) := by decide +kernel
theorem dX1_isStand_13 : decode cX1_isStand 13 = .ok (.iconst (-1), 1) := by decide +kernel
theorem dX1_isStand_14 : decode cX1_isStand 14 = .ok (.invokestatic 93, 3) := by decide +kernel
theorem dX1_isStand_17 : decode cX1_isStand 17 = .ok (.iconst (-1), 1) := by decide +kernel
theorem dX1_isStand_18 : decode cX1_isStand 18 = .ok (.if_icmp .eq 7, 3) := by decide +kernel
theorem dX1_isStand_21 : decode cX1_isStand 21 = .ok (.iconst 1, 1) := by decide +kernel
theorem dX1_isStand_22 : decode cX1_isStand 22 = .ok (.goto 4, 3) := by decide +kernel
theorem dX1_isStand_25 : decode cX1_isStand 25 = .ok (.iconst 0, 1) := by decide +kernel
theorem dX1_isStand_26 : decode cX1_isStand 26 = .ok (.ireturn, 1) := by decide +kernel
theorem dX1_standFrom_0 : decode cX1_standFrom 0 = .ok (.iload_n 1, 1) := by decide +kernel
theorem dX1_standFrom_1 : decode cX1_standFrom 1 = .ok (.iconst 0, 1) := by decide +kernel
theorem dX1_standFrom_2 : decode cX1_standFrom 2 = .ok (.invokestatic 109, 3) := by decide +kernel
theorem dX1_standFrom_5 : decode cX1_standFrom 5 = .ok (.istore_n 2, 1) := by decide +kernel
theorem dX1_standFrom_6 : decode cX1_standFrom 6 = .ok (.iload_n 2, 1) := by decide +kernel
theorem dX1_standFrom_7 : decode cX1_standFrom 7 = .ok (.aload_n 0, 1) := by decide +kernel
theorem dX1_standFrom_8 : decode cX1_standFrom 8 = .ok (.getfield 57, 3) := by decide +kernel
theorem dX1_standFrom_11 : decode cX1_standFrom 11 = .ok (.if_icmp .gt 19, 3) := by decide +kernel
theorem dX1_standFrom_14 : decode cX1_standFrom 14 = .ok (.aload_n 0, 1) := by decide +kernel
theorem dX1_standFrom_15 : decode cX1_standFrom 15 = .ok (.iload_n 2, 1) := by decide +kernel
theorem dX1_standFrom_16 : decode cX1_standFrom 16 = .ok (.invokevirtual 115, 3) := by decide +kernel
theorem dX1_standFrom_19 : decode cX1_standFrom 19 = .ok (.ifCond .eq 5, 3) := by decide +kernel
theorem dX1_standFrom_22 : decode cX1_standFrom 22 = .ok (.iload_n 2, 1) := by decide +kernel
theorem dX1_standFrom_23 : decode cX1_standFrom 23 = .ok (.ireturn, 1) := by decide +kernel
theorem dX1_standFrom_24 : decode cX1_standFrom 24 = .ok (.iinc 2 1, 3) := by decide +kernel
theorem dX1_standFrom_27 : decode cX1_standFrom 27 = .ok (.goto (-21), 3) := by decide +kernel
theorem dX1_standFrom_30 : decode cX1_standFrom 30 = .ok (.iconst (-1), 1) := by decide +kernel
theorem dX1_standFrom_31 : decode cX1_standFrom 31 = .ok (.ireturn, 1) := by decide +kernel
theorem dX1_standUpTo_0 : decode cX1_standUpTo 0 = .ok (.iload_n 1, 1) := by decide +kernel
theorem dX1_standUpTo_1 : decode cX1_standUpTo 1 = .ok (.aload_n 0, 1) := by decide +kernel
theorem dX1_standUpTo_2 : decode cX1_standUpTo 2 = .ok (.getfield 57, 3) := by decide +kernel
theorem dX1_standUpTo_5 : decode cX1_standUpTo 5 = .ok (.invokestatic 118, 3) := by decide +kernel
theorem dX1_standUpTo_8 : decode cX1_standUpTo 8 = .ok (.istore_n 2, 1) := by decide +kernel
theorem dX1_standUpTo_9 : decode cX1_standUpTo 9 = .ok (.iload_n 2, 1) := by decide +kernel
theorem dX1_standUpTo_10 : decode cX1_standUpTo 10 = .ok (.ifCond .lt 19, 3) := by decide +kernel
theorem dX1_standUpTo_13 : decode cX1_standUpTo 13 = .ok (.aload_n 0, 1) := by decide +kernel
theorem dX1_standUpTo_14 : decode cX1_standUpTo 14 = .ok (.iload_n 2, 1) := by decide +kernel
theorem dX1_standUpTo_15 : decode cX1_standUpTo 15 = .ok (.invokevirtual 115, 3) := by decide +kernel
theorem dX1_standUpTo_18 : decode cX1_standUpTo 18 = .ok (.ifCond .eq 5, 3) := by decide +kernel
theorem dX1_standUpTo_21 : decode cX1_standUpTo 21 = .ok (.iload_n 2, 1) := by decide +kernel
theorem dX1_standUpTo_22 : decode cX1_standUpTo 22 = .ok (.ireturn, 1) := by decide +kernel
theorem dX1_standUpTo_23 : decode cX1_standUpTo 23 = .ok (.iinc 2 (-1), 3) := by decide +kernel
theorem dX1_standUpTo_26 : decode cX1_standUpTo 26 = .ok (.goto (-17), 3) := by decide +kernel
theorem dX1_standUpTo_29 : decode cX1_standUpTo 29 = .ok (.iconst (-1), 1) := by decide +kernel
theorem dX1_standUpTo_30 : decode cX1_standUpTo 30 = .ok (.ireturn, 1) := by decide +kernel
