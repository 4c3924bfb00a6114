theorem dX2_init_0 : decode cX2_init 0 = .ok (.aload_n 0, 1) := by decide +kernel
theorem dX2_init_1 : decode cX2_init 1 = .ok (.invokespecial 3, 3) := by decide +kernel
theorem dX2_init_4 : decode cX2_init 4 = .ok (.aload_n 0, 1) := by decide +kernel
theorem dX2_init_5 : decode cX2_init 5 = .ok (.bipush 8, 2) := by decide +kernel
theorem dX2_init_7 : decode cX2_init 7 = .ok (.bipush 60, 2) := by decide +kernel
theorem dX2_init_9 : decode cX2_init 9 = .ok (.multianewarray 9 2, 4) := by decide +kernel
theorem dX2_init_13 : decode cX2_init 13 = .ok (.putfield 11, 3) := by decide +kernel
theorem dX2_init_16 : decode cX2_init 16 = .ok (.aload_n 0, 1) := by decide +kernel
theorem dX2_init_17 : decode cX2_init 17 = .ok (.bipush 8, 2) := by decide +kernel
theorem dX2_init_19 : decode cX2_init 19 = .ok (.newarray .int, 2) := by decide +kernel
theorem dX2_init_21 : decode cX2_init 21 = .ok (.putfield 16, 3) := by decide +kernel
theorem dX2_init_24 : decode cX2_init 24 = .ok (.aload_n 0, 1) := by decide +kernel
theorem dX2_init_25 : decode cX2_init 25 = .ok (.bipush 8, 2) := by decide +kernel
theorem dX2_init_27 : decode cX2_init 27 = .ok (.newarray .int, 2) := by decide +kernel
theorem dX2_init_29 : decode cX2_init 29 = .ok (.putfield 20, 3) := by decide +kernel
theorem dX2_init_32 : decode cX2_init 32 = .ok (.aload_n 0, 1) := by decide +kernel
theorem dX2_init_33 : decode cX2_init 33 = .ok (.bipush 8, 2) := by decide +kernel
theorem dX2_init_35 : decode cX2_init 35 = .ok (.newarray .int, 2) := by decide +kernel
theorem dX2_init_37 : decode cX2_init 37 = .ok (.putfield 23, 3) := by decide +kernel
theorem dX2_init_40 : decode cX2_init 40 = .ok (.aload_n 0, 1) := by decide +kernel
theorem dX2_init_41 : decode cX2_init 41 = .ok (.iconst 0, 1) := by decide +kernel
theorem dX2_init_42 : decode cX2_init 42 = .ok (.putfield 26, 3) := by decide +kernel
theorem dX2_init_45 : decode cX2_init 45 = .ok (.aload_n 0, 1) := by decide +kernel
theorem dX2_init_46 : decode cX2_init 46 = .ok (.iconst 0, 1) := by decide +kernel
theorem dX2_init_47 : decode cX2_init 47 = .ok (.putfield 30, 3) := by decide +kernel
theorem dX2_init_50 : decode cX2_init 50 = .ok (.return_, 1) := by decide +kernel
theorem dX2_number_0 : decode cX2_number 0 = .ok (.aload_n 0, 1) := by decide +kernel
theorem dX2_number_1 : decode cX2_number 1 = .ok (.getfield 30, 3) := by decide +kernel
theorem dX2_number_4 : decode cX2_number 4 = .ok (.ireturn, 1) := by decide +kernel
theorem dX2_keep_0 : decode cX2_keep 0 = .ok (.aload_n 0, 1) := by decide +kernel
theorem dX2_keep_1 : decode cX2_keep 1 = .ok (.getfield 26, 3) := by decide +kernel
theorem dX2_keep_4 : decode cX2_keep 4 = .ok (.ifCond .lt 12, 3) := by decide +kernel
theorem dX2_keep_7 : decode cX2_keep 7 = .ok (.aload_n 0, 1) := by decide +kernel
theorem dX2_keep_8 : decode cX2_keep 8 = .ok (.getfield 26, 3) := by decide +kernel
theorem dX2_keep_11 : decode cX2_keep 11 = .ok (.bipush 8, 2) := by decide +kernel
theorem dX2_keep_13 : decode cX2_keep 13 = .ok (.if_icmp .lt 4, 3) := by decide +kernel
theorem dX2_keep_16 : decode cX2_keep 16 = .ok (.return_, 1) := by decide +kernel
theorem dX2_keep_17 : decode cX2_keep 17 = .ok (.aload_n 1, 1) := by decide +kernel
theorem dX2_keep_18 : decode cX2_keep 18 = .ok (.aload_n 0, 1) := by decide +kernel
theorem dX2_keep_19 : decode cX2_keep 19 = .ok (.getfield 11, 3) := by decide +kernel
theorem dX2_keep_22 : decode cX2_keep 22 = .ok (.aload_n 0, 1) := by decide +kernel
theorem dX2_keep_23 : decode cX2_keep 23 = .ok (.getfield 26, 3) := by decide +kernel
theorem dX2_keep_26 : decode cX2_keep 26 = .ok (.aaload, 1) := by decide +kernel
theorem dX2_keep_27 : decode cX2_keep 27 = .ok (.invokevirtual 33, 3) := by decide +kernel
theorem dX2_keep_30 : decode cX2_keep 30 = .ok (.aload_n 0, 1) := by decide +kernel
theorem dX2_keep_31 : decode cX2_keep 31 = .ok (.getfield 16, 3) := by decide +kernel
theorem dX2_keep_34 : decode cX2_keep 34 = .ok (.aload_n 0, 1) := by decide +kernel
theorem dX2_keep_35 : decode cX2_keep 35 = .ok (.getfield 26, 3) := by decide +kernel
theorem dX2_keep_38 : decode cX2_keep 38 = .ok (.aload_n 1, 1) := by decide +kernel
theorem dX2_keep_39 : decode cX2_keep 39 = .ok (.invokevirtual 39, 3) := by decide +kernel
theorem dX2_keep_42 : decode cX2_keep 42 = .ok (.iastore, 1) := by decide +kernel
theorem dX2_keep_43 : decode cX2_keep 43 = .ok (.aload_n 0, 1) := by decide +kernel
theorem dX2_keep_44 : decode cX2_keep 44 = .ok (.getfield 20, 3) := by decide +kernel
theorem dX2_keep_47 : decode cX2_keep 47 = .ok (.aload_n 0, 1) := by decide +kernel
theorem dX2_keep_48 : decode cX2_keep 48 = .ok (.getfield 26, 3) := by decide +kernel
theorem dX2_keep_51 : decode cX2_keep 51 = .ok (.iload_n 2, 1) := by decide +kernel
theorem dX2_keep_52 : decode cX2_keep 52 = .ok (.iastore, 1) := by decide +kernel
theorem dX2_keep_53 : decode cX2_keep 53 = .ok (.aload_n 0, 1) := by decide +kernel
theorem dX2_keep_54 : decode cX2_keep 54 = .ok (.getfield 23, 3) := by decide +kernel
theorem dX2_keep_57 : decode cX2_keep 57 = .ok (.aload_n 0, 1) := by decide +kernel
theorem dX2_keep_58 : decode cX2_keep 58 = .ok (.getfield 26, 3) := by decide +kernel
theorem dX2_keep_61 : decode cX2_keep 61 = .ok (.iload_n 3, 1) := by decide +kernel
theorem dX2_keep_62 : decode cX2_keep 62 = .ok (.iastore, 1) := by decide +kernel
theorem dX2_keep_63 : decode cX2_keep 63 = .ok (.aload_n 0, 1) := by decide +kernel
theorem dX2_keep_64 : decode cX2_keep 64 = .ok (.aload_n 0, 1) := by decide +kernel
theorem dX2_keep_65 : decode cX2_keep 65 = .ok (.getfield 26, 3) := by decide +kernel
theorem dX2_keep_68 : decode cX2_keep 68 = .ok (.bipush 7, 2) := by decide +kernel
theorem dX2_keep_70 : decode cX2_keep 70 = .ok (.if_icmp .ne 7, 3) := by decide +kernel
theorem dX2_keep_73 : decode cX2_keep 73 = .ok (.iconst 0, 1) := by decide +kernel
theorem dX2_keep_74 : decode cX2_keep 74 = .ok (.goto 9, 3) := by decide +kernel
theorem dX2_keep_77 : decode cX2_keep 77 = .ok (.aload_n 0, 1) := by decide +kernel
theorem dX2_keep_78 : decode cX2_keep 78 = .ok (.getfield 26, 3) := by decide +kernel
theorem dX2_keep_81 : decode cX2_keep 81 = .ok (.iconst 1, 1) := by decide +kernel
theorem dX2_keep_82 : decode cX2_keep 82 = .ok (.iadd, 1) := by decide +kernel
theorem dX2_keep_83 : decode cX2_keep 83 = .ok (.putfield 26, 3) := by decide +kernel
theorem dX2_keep_86 : decode cX2_keep 86 = .ok (.aload_n 0, 1) := by decide +kernel
theorem dX2_keep_87 : decode cX2_keep 87 = .ok (.aload_n 0, 1) := by decide +kernel
theorem dX2_keep_88 : decode cX2_keep 88 = .ok (.getfield 30, 3) := by decide +kernel
theorem dX2_keep_91 : decode cX2_keep 91 = .ok (.iconst 1, 1) := by decide +kernel
theorem dX2_keep_92 : decode cX2_keep 92 = .ok (.iadd, 1) := by decide +kernel
theorem dX2_keep_93 : decode cX2_keep 93 = .ok (.bipush 8, 2) := by decide +kernel
theorem dX2_keep_95 : decode cX2_keep 95 = .ok (.invokestatic 43, 3) := by decide +kernel
theorem dX2_keep_98 : decode cX2_keep 98 = .ok (.putfield 30, 3) := by decide +kernel
theorem dX2_keep_101 : decode cX2_keep 101 = .ok (.return_, 1) := by decide +kernel
theorem dX2_takeBack_0 : decode cX2_takeBack 0 = .ok (.aload_n 0, 1) := by decide +kernel
theorem dX2_takeBack_1 : decode cX2_takeBack 1 = .ok (.getfield 30, 3) := by decide +kernel
theorem dX2_takeBack_4 : decode cX2_takeBack 4 = .ok (.ifCond .gt 5, 3) := by decide +kernel
theorem dX2_takeBack_7 : decode cX2_takeBack 7 = .ok (.iconst 0, 1) := by decide +kernel
theorem dX2_takeBack_8 : decode cX2_takeBack 8 = .ok (.ireturn, 1) := by decide +kernel
theorem dX2_takeBack_9 : decode cX2_takeBack 9 = .ok (.aload_n 0, 1) := by decide +kernel
theorem dX2_takeBack_10 : decode cX2_takeBack 10 = .ok (.aload_n 0, 1) := by decide +kernel
theorem dX2_takeBack_11 : decode cX2_takeBack 11 = .ok (.getfield 26, 3) := by decide +kernel
theorem dX2_takeBack_14 : decode cX2_takeBack 14 = .ok (.ifCond .gt 8, 3) := by decide +kernel
theorem dX2_takeBack_17 : decode cX2_takeBack 17 = .ok (.bipush 7, 2) := by decide +kernel
theorem dX2_takeBack_19 : decode cX2_takeBack 19 = .ok (.goto 9, 3) := by decide +kernel
theorem dX2_takeBack_22 : decode cX2_takeBack 22 = .ok (.aload_n 0, 1) := by decide +kernel
theorem dX2_takeBack_23 : decode cX2_takeBack 23 = .ok (.getfield 26, 3) := by decide +kernel
theorem dX2_takeBack_26 : decode cX2_takeBack 26 = .ok (.iconst 1, 1) := by decide +kernel
theorem dX2_takeBack_27 : decode cX2_takeBack 27 = .ok (.isub, 1) := by decide +kernel
theorem dX2_takeBack_28 : decode cX2_takeBack 28 = .ok (.putfield 26, 3) := by decide +kernel
theorem dX2_takeBack_31 : decode cX2_takeBack 31 = .ok (.aload_n 0, 1) := by decide +kernel
theorem dX2_takeBack_32 : decode cX2_takeBack 32 = .ok (.dup, 1) := by decide +kernel
theorem dX2_takeBack_33 : decode cX2_takeBack 33 = .ok (.getfield 30, 3) := by decide +kernel
theorem dX2_takeBack_36 : decode cX2_takeBack 36 = .ok (.iconst 1, 1) := by decide +kernel
theorem dX2_takeBack_37 : decode cX2_takeBack 37 = .ok (.isub, 1) := by decide +kernel
theorem dX2_takeBack_38 : decode cX2_takeBack 38 = .ok (.putfield 30, 3) := by decide +kernel
theorem dX2_takeBack_41 : decode cX2_takeBack 41 = .ok (.aload_n 0, 1) := by decide +kernel
theorem dX2_takeBack_42 : decode cX2_takeBack 42 = .ok (.getfield 26, 3) := by decide +kernel
theorem dX2_takeBack_45 : decode cX2_takeBack 45 = .ok (.bipush 8, 2) := by decide +kernel
theorem dX2_takeBack_47 : decode cX2_takeBack 47 = .ok (.if_icmp .ge 25, 3) := by decide +kernel
theorem dX2_takeBack_50 : decode cX2_takeBack 50 = .ok (.aload_n 1, 1) := by decide +kernel
theorem dX2_takeBack_51 : decode cX2_takeBack 51 = .ok (.aload_n 0, 1) := by decide +kernel
theorem dX2_takeBack_52 : decode cX2_takeBack 52 = .ok (.getfield 11, 3) := by decide +kernel
theorem dX2_takeBack_55 : decode cX2_takeBack 55 = .ok (.aload_n 0, 1) := by decide +kernel
theorem dX2_takeBack_56 : decode cX2_takeBack 56 = .ok (.getfield 26, 3) := by decide +kernel
theorem dX2_takeBack_59 : decode cX2_takeBack 59 = .ok (.aaload, 1) := by decide +kernel
theorem dX2_takeBack_60 : decode cX2_takeBack 60 = .ok (.aload_n 0, 1) := by decide +kernel
theorem dX2_takeBack_61 : decode cX2_takeBack 61 = .ok (.getfield 16, 3) := by decide +kernel
theorem dX2_takeBack_64 : decode cX2_takeBack 64 = .ok (.aload_n 0, 1) := by decide +kernel
theorem dX2_takeBack_65 : decode cX2_takeBack 65 = .ok (.getfield 26, 3) := by decide +kernel
theorem dX2_takeBack_68 : decode cX2_takeBack 68 = .ok (.iaload, 1) := by decide +kernel
theorem dX2_takeBack_69 : decode cX2_takeBack 69 = .ok (.invokevirtual 49, 3) := by decide +kernel
theorem dX2_takeBack_72 : decode cX2_takeBack 72 = .ok (.iconst 1, 1) := by decide +kernel
theorem dX2_takeBack_73 : decode cX2_takeBack 73 = .ok (.ireturn, 1) := by decide +kernel
theorem dX2_standTaken_0 : decode cX2_standTaken 0 = .ok (.aload_n 0, 1) := by decide +kernel
theorem dX2_standTaken_1 : decode cX2_standTaken 1 = .ok (.getfield 20, 3) := by decide +kernel
theorem dX2_standTaken_4 : decode cX2_standTaken 4 = .ok (.aload_n 0, 1) := by decide +kernel
theorem dX2_standTaken_5 : decode cX2_standTaken 5 = .ok (.getfield 26, 3) := by decide +kernel
theorem dX2_standTaken_8 : decode cX2_standTaken 8 = .ok (.iconst 0, 1) := by decide +kernel
theorem dX2_standTaken_9 : decode cX2_standTaken 9 = .ok (.invokestatic 53, 3) := by decide +kernel
theorem dX2_standTaken_12 : decode cX2_standTaken 12 = .ok (.ireturn, 1) := by decide +kernel
theorem dX2_sideTaken_0 : decode cX2_sideTaken 0 = .ok (.aload_n 0, 1) := by decide +kernel
theorem dX2_sideTaken_1 : decode cX2_sideTaken 1 = .ok (.getfield 23, 3) := by decide +kernel
theorem dX2_sideTaken_4 : decode cX2_sideTaken 4 = .ok (.aload_n 0, 1) := by decide +kernel
theorem dX2_sideTaken_5 : decode cX2_sideTaken 5 = .ok (.getfield 26, 3) := by decide +kernel
theorem dX2_sideTaken_8 : decode cX2_sideTaken 8 = .ok (.iconst 0, 1) := by decide +kernel
theorem dX2_sideTaken_9 : decode cX2_sideTaken 9 = .ok (.invokestatic 53, 3) := by decide +kernel
theorem dX2_sideTaken_12 : decode cX2_sideTaken 12 = .ok (.ireturn, 1) := by decide +kernel
