theorem dX8_init_0 : decode cX8_init 0 = .ok (.aload_n 0, 1) := by decide +kernel
theorem dX8_init_1 : decode cX8_init 1 = .ok (.invokespecial 1, 3) := by decide +kernel
theorem dX8_init_4 : decode cX8_init 4 = .ok (.aload_n 0, 1) := by decide +kernel
theorem dX8_init_5 : decode cX8_init 5 = .ok (.new 7, 3) := by decide +kernel
theorem dX8_init_8 : decode cX8_init 8 = .ok (.dup, 1) := by decide +kernel
theorem dX8_init_9 : decode cX8_init 9 = .ok (.invokespecial 9, 3) := by decide +kernel
theorem dX8_init_12 : decode cX8_init 12 = .ok (.putfield 10, 3) := by decide +kernel
theorem dX8_init_15 : decode cX8_init 15 = .ok (.aload_n 0, 1) := by decide +kernel
theorem dX8_init_16 : decode cX8_init 16 = .ok (.new 16, 3) := by decide +kernel
theorem dX8_init_19 : decode cX8_init 19 = .ok (.dup, 1) := by decide +kernel
theorem dX8_init_20 : decode cX8_init 20 = .ok (.invokespecial 18, 3) := by decide +kernel
theorem dX8_init_23 : decode cX8_init 23 = .ok (.putfield 19, 3) := by decide +kernel
theorem dX8_init_26 : decode cX8_init 26 = .ok (.aload_n 0, 1) := by decide +kernel
theorem dX8_init_27 : decode cX8_init 27 = .ok (.new 23, 3) := by decide +kernel
theorem dX8_init_30 : decode cX8_init 30 = .ok (.dup, 1) := by decide +kernel
theorem dX8_init_31 : decode cX8_init 31 = .ok (.invokespecial 25, 3) := by decide +kernel
theorem dX8_init_34 : decode cX8_init 34 = .ok (.putfield 26, 3) := by decide +kernel
theorem dX8_init_37 : decode cX8_init 37 = .ok (.aload_n 0, 1) := by decide +kernel
theorem dX8_init_38 : decode cX8_init 38 = .ok (.new 30, 3) := by decide +kernel
theorem dX8_init_41 : decode cX8_init 41 = .ok (.dup, 1) := by decide +kernel
theorem dX8_init_42 : decode cX8_init 42 = .ok (.invokespecial 32, 3) := by decide +kernel
theorem dX8_init_45 : decode cX8_init 45 = .ok (.putfield 33, 3) := by decide +kernel
theorem dX8_init_48 : decode cX8_init 48 = .ok (.aload_n 0, 1) := by decide +kernel
theorem dX8_init_49 : decode cX8_init 49 = .ok (.new 37, 3) := by decide +kernel
theorem dX8_init_52 : decode cX8_init 52 = .ok (.dup, 1) := by decide +kernel
theorem dX8_init_53 : decode cX8_init 53 = .ok (.aload_n 0, 1) := by decide +kernel
theorem dX8_init_54 : decode cX8_init 54 = .ok (.getfield 19, 3) := by decide +kernel
theorem dX8_init_57 : decode cX8_init 57 = .ok (.aload_n 0, 1) := by decide +kernel
theorem dX8_init_58 : decode cX8_init 58 = .ok (.getfield 33, 3) := by decide +kernel
theorem dX8_init_61 : decode cX8_init 61 = .ok (.invokespecial 39, 3) := by decide +kernel
theorem dX8_init_64 : decode cX8_init 64 = .ok (.putfield 42, 3) := by decide +kernel
theorem dX8_init_67 : decode cX8_init 67 = .ok (.aload_n 0, 1) := by decide +kernel
theorem dX8_init_68 : decode cX8_init 68 = .ok (.new 46, 3) := by decide +kernel
theorem dX8_init_71 : decode cX8_init 71 = .ok (.dup, 1) := by decide +kernel
theorem dX8_init_72 : decode cX8_init 72 = .ok (.invokespecial 48, 3) := by decide +kernel
theorem dX8_init_75 : decode cX8_init 75 = .ok (.putfield 49, 3) := by decide +kernel
theorem dX8_init_78 : decode cX8_init 78 = .ok (.aload_n 0, 1) := by decide +kernel
theorem dX8_init_79 : decode cX8_init 79 = .ok (.new 53, 3) := by decide +kernel
theorem dX8_init_82 : decode cX8_init 82 = .ok (.dup, 1) := by decide +kernel
theorem dX8_init_83 : decode cX8_init 83 = .ok (.invokespecial 55, 3) := by decide +kernel
theorem dX8_init_86 : decode cX8_init 86 = .ok (.putfield 56, 3) := by decide +kernel
theorem dX8_init_89 : decode cX8_init 89 = .ok (.aload_n 0, 1) := by decide +kernel
theorem dX8_init_90 : decode cX8_init 90 = .ok (.invokevirtual 60, 3) := by decide +kernel
theorem dX8_init_93 : decode cX8_init 93 = .ok (.return_, 1) := by decide +kernel
theorem dX8_way_0 : decode cX8_way 0 = .ok (.iload_n 1, 1) := by decide +kernel
theorem dX8_way_1 : decode cX8_way 1 = .ok (.ifCond .eq 10, 3) := by decide +kernel
theorem dX8_way_4 : decode cX8_way 4 = .ok (.iload_n 1, 1) := by decide +kernel
theorem dX8_way_5 : decode cX8_way 5 = .ok (.iconst 1, 1) := by decide +kernel
theorem dX8_way_6 : decode cX8_way 6 = .ok (.if_icmp .eq 5, 3) := by decide +kernel
theorem dX8_way_9 : decode cX8_way 9 = .ok (.iconst (-1), 1) := by decide +kernel
theorem dX8_way_10 : decode cX8_way 10 = .ok (.ireturn, 1) := by decide +kernel
theorem dX8_way_11 : decode cX8_way 11 = .ok (.aload_n 0, 1) := by decide +kernel
theorem dX8_way_12 : decode cX8_way 12 = .ok (.getfield 10, 3) := by decide +kernel
theorem dX8_way_15 : decode cX8_way 15 = .ok (.invokevirtual 63, 3) := by decide +kernel
theorem dX8_way_18 : decode cX8_way 18 = .ok (.istore_n 2, 1) := by decide +kernel
theorem dX8_way_19 : decode cX8_way 19 = .ok (.aload_n 0, 1) := by decide +kernel
theorem dX8_way_20 : decode cX8_way 20 = .ok (.getfield 10, 3) := by decide +kernel
theorem dX8_way_23 : decode cX8_way 23 = .ok (.iload_n 1, 1) := by decide +kernel
theorem dX8_way_24 : decode cX8_way 24 = .ok (.invokevirtual 67, 3) := by decide +kernel
theorem dX8_way_27 : decode cX8_way 27 = .ok (.aload_n 0, 1) := by decide +kernel
theorem dX8_way_28 : decode cX8_way 28 = .ok (.invokevirtual 60, 3) := by decide +kernel
theorem dX8_way_31 : decode cX8_way 31 = .ok (.iload_n 2, 1) := by decide +kernel
theorem dX8_way_32 : decode cX8_way 32 = .ok (.ireturn, 1) := by decide +kernel
theorem dX8_put_0 : decode cX8_put 0 = .ok (.iconst 0, 1) := by decide +kernel
theorem dX8_put_1 : decode cX8_put 1 = .ok (.istore 5, 2) := by decide +kernel
theorem dX8_put_3 : decode cX8_put 3 = .ok (.iconst 0, 1) := by decide +kernel
theorem dX8_put_4 : decode cX8_put 4 = .ok (.istore 6, 2) := by decide +kernel
theorem dX8_put_6 : decode cX8_put 6 = .ok (.iload 6, 2) := by decide +kernel
theorem dX8_put_8 : decode cX8_put 8 = .ok (.bipush 16, 2) := by decide +kernel
theorem dX8_put_10 : decode cX8_put 10 = .ok (.if_icmp .ge 39, 3) := by decide +kernel
theorem dX8_put_13 : decode cX8_put 13 = .ok (.iload_n 1, 1) := by decide +kernel
theorem dX8_put_14 : decode cX8_put 14 = .ok (.iload_n 2, 1) := by decide +kernel
theorem dX8_put_15 : decode cX8_put 15 = .ok (.iload_n 3, 1) := by decide +kernel
theorem dX8_put_16 : decode cX8_put 16 = .ok (.iload 4, 2) := by decide +kernel
theorem dX8_put_18 : decode cX8_put 18 = .ok (.iload 6, 2) := by decide +kernel
theorem dX8_put_20 : decode cX8_put 20 = .ok (.invokestatic 71, 3) := by decide +kernel
theorem dX8_put_23 : decode cX8_put 23 = .ok (.istore 7, 2) := by decide +kernel
theorem dX8_put_25 : decode cX8_put 25 = .ok (.iload 7, 2) := by decide +kernel
theorem dX8_put_27 : decode cX8_put 27 = .ok (.ifCond .eq 16, 3) := by decide +kernel
theorem dX8_put_30 : decode cX8_put 30 = .ok (.iload 7, 2) := by decide +kernel
theorem dX8_put_32 : decode cX8_put 32 = .ok (.invokestatic 75, 3) := by decide +kernel
theorem dX8_put_35 : decode cX8_put 35 = .ok (.ifCond .ne 5, 3) := by decide +kernel
theorem dX8_put_38 : decode cX8_put 38 = .ok (.iconst (-1), 1) := by decide +kernel
theorem dX8_put_39 : decode cX8_put 39 = .ok (.ireturn, 1) := by decide +kernel
theorem dX8_put_40 : decode cX8_put 40 = .ok (.iinc 5 1, 3) := by decide +kernel
theorem dX8_put_43 : decode cX8_put 43 = .ok (.iinc 6 1, 3) := by decide +kernel
theorem dX8_put_46 : decode cX8_put 46 = .ok (.goto (-40), 3) := by decide +kernel
theorem dX8_put_49 : decode cX8_put 49 = .ok (.aload_n 0, 1) := by decide +kernel
theorem dX8_put_50 : decode cX8_put 50 = .ok (.getfield 10, 3) := by decide +kernel
theorem dX8_put_53 : decode cX8_put 53 = .ok (.iload 5, 2) := by decide +kernel
theorem dX8_put_55 : decode cX8_put 55 = .ok (.invokevirtual 81, 3) := by decide +kernel
theorem dX8_put_58 : decode cX8_put 58 = .ok (.ifCond .ne 6, 3) := by decide +kernel
theorem dX8_put_61 : decode cX8_put 61 = .ok (.bipush (-2), 2) := by decide +kernel
theorem dX8_put_63 : decode cX8_put 63 = .ok (.ireturn, 1) := by decide +kernel
theorem dX8_put_64 : decode cX8_put 64 = .ok (.iload 5, 2) := by decide +kernel
theorem dX8_put_66 : decode cX8_put 66 = .ok (.ifCond .le 41, 3) := by decide +kernel
theorem dX8_put_69 : decode cX8_put 69 = .ok (.aload_n 0, 1) := by decide +kernel
theorem dX8_put_70 : decode cX8_put 70 = .ok (.invokevirtual 84, 3) := by decide +kernel
theorem dX8_put_73 : decode cX8_put 73 = .ok (.aload_n 0, 1) := by decide +kernel
theorem dX8_put_74 : decode cX8_put 74 = .ok (.iload_n 1, 1) := by decide +kernel
theorem dX8_put_75 : decode cX8_put 75 = .ok (.iload_n 2, 1) := by decide +kernel
theorem dX8_put_76 : decode cX8_put 76 = .ok (.iload_n 3, 1) := by decide +kernel
theorem dX8_put_77 : decode cX8_put 77 = .ok (.iload 4, 2) := by decide +kernel
theorem dX8_put_79 : decode cX8_put 79 = .ok (.invokevirtual 87, 3) := by decide +kernel
theorem dX8_put_82 : decode cX8_put 82 = .ok (.aload_n 0, 1) := by decide +kernel
theorem dX8_put_83 : decode cX8_put 83 = .ok (.invokevirtual 60, 3) := by decide +kernel
theorem dX8_put_86 : decode cX8_put 86 = .ok (.aload_n 0, 1) := by decide +kernel
theorem dX8_put_87 : decode cX8_put 87 = .ok (.getfield 42, 3) := by decide +kernel
theorem dX8_put_90 : decode cX8_put 90 = .ok (.aload_n 0, 1) := by decide +kernel
theorem dX8_put_91 : decode cX8_put 91 = .ok (.getfield 42, 3) := by decide +kernel
theorem dX8_put_94 : decode cX8_put 94 = .ok (.invokevirtual 91, 3) := by decide +kernel
theorem dX8_put_97 : decode cX8_put 97 = .ok (.aload_n 0, 1) := by decide +kernel
theorem dX8_put_98 : decode cX8_put 98 = .ok (.getfield 42, 3) := by decide +kernel
theorem dX8_put_101 : decode cX8_put 101 = .ok (.invokevirtual 94, 3) := by decide +kernel
theorem dX8_put_104 : decode cX8_put 104 = .ok (.invokevirtual 97, 3) := by decide +kernel
theorem dX8_put_107 : decode cX8_put 107 = .ok (.aload_n 0, 1) := by decide +kernel
theorem dX8_put_108 : decode cX8_put 108 = .ok (.getfield 10, 3) := by decide +kernel
theorem dX8_put_111 : decode cX8_put 111 = .ok (.invokevirtual 101, 3) := by decide +kernel
theorem dX8_put_114 : decode cX8_put 114 = .ok (.ireturn, 1) := by decide +kernel
theorem dX8_clear_0 : decode cX8_clear 0 = .ok (.aload_n 0, 1) := by decide +kernel
theorem dX8_clear_1 : decode cX8_clear 1 = .ok (.iconst 0, 1) := by decide +kernel
theorem dX8_clear_2 : decode cX8_clear 2 = .ok (.aload_n 0, 1) := by decide +kernel
theorem dX8_clear_3 : decode cX8_clear 3 = .ok (.getfield 10, 3) := by decide +kernel
theorem dX8_clear_6 : decode cX8_clear 6 = .ok (.invokevirtual 101, 3) := by decide +kernel
theorem dX8_clear_9 : decode cX8_clear 9 = .ok (.iconst 0, 1) := by decide +kernel
theorem dX8_clear_10 : decode cX8_clear 10 = .ok (.invokevirtual 104, 3) := by decide +kernel
theorem dX8_clear_13 : decode cX8_clear 13 = .ok (.ireturn, 1) := by decide +kernel
theorem dX8_count_0 : decode cX8_count 0 = .ok (.iload_n 1, 1) := by decide +kernel
theorem dX8_count_1 : decode cX8_count 1 = .ok (.tableswitch 87 0 5 #[39, 47, 55, 63, 71, 79], 39) := by decide +kernel
theorem dX8_count_40 : decode cX8_count 40 = .ok (.aload_n 0, 1) := by decide +kernel
theorem dX8_count_41 : decode cX8_count 41 = .ok (.getfield 10, 3) := by decide +kernel
theorem dX8_count_44 : decode cX8_count 44 = .ok (.invokevirtual 101, 3) := by decide +kernel
theorem dX8_count_47 : decode cX8_count 47 = .ok (.ireturn, 1) := by decide +kernel
theorem dX8_count_48 : decode cX8_count 48 = .ok (.aload_n 0, 1) := by decide +kernel
theorem dX8_count_49 : decode cX8_count 49 = .ok (.getfield 19, 3) := by decide +kernel
theorem dX8_count_52 : decode cX8_count 52 = .ok (.invokevirtual 108, 3) := by decide +kernel
theorem dX8_count_55 : decode cX8_count 55 = .ok (.ireturn, 1) := by decide +kernel
theorem dX8_count_56 : decode cX8_count 56 = .ok (.aload_n 0, 1) := by decide +kernel
theorem dX8_count_57 : decode cX8_count 57 = .ok (.getfield 19, 3) := by decide +kernel
theorem dX8_count_60 : decode cX8_count 60 = .ok (.invokevirtual 111, 3) := by decide +kernel
theorem dX8_count_63 : decode cX8_count 63 = .ok (.ireturn, 1) := by decide +kernel
theorem dX8_count_64 : decode cX8_count 64 = .ok (.aload_n 0, 1) := by decide +kernel
theorem dX8_count_65 : decode cX8_count 65 = .ok (.getfield 33, 3) := by decide +kernel
theorem dX8_count_68 : decode cX8_count 68 = .ok (.invokevirtual 114, 3) := by decide +kernel
theorem dX8_count_71 : decode cX8_count 71 = .ok (.ireturn, 1) := by decide +kernel
theorem dX8_count_72 : decode cX8_count 72 = .ok (.aload_n 0, 1) := by decide +kernel
theorem dX8_count_73 : decode cX8_count 73 = .ok (.getfield 26, 3) := by decide +kernel
theorem dX8_count_76 : decode cX8_count 76 = .ok (.invokevirtual 117, 3) := by decide +kernel
theorem dX8_count_79 : decode cX8_count 79 = .ok (.ireturn, 1) := by decide +kernel
theorem dX8_count_80 : decode cX8_count 80 = .ok (.aload_n 0, 1) := by decide +kernel
theorem dX8_count_81 : decode cX8_count 81 = .ok (.getfield 26, 3) := by decide +kernel
theorem dX8_count_84 : decode cX8_count 84 = .ok (.invokevirtual 120, 3) := by decide +kernel
theorem dX8_count_87 : decode cX8_count 87 = .ok (.ireturn, 1) := by decide +kernel
theorem dX8_count_88 : decode cX8_count 88 = .ok (.iconst (-1), 1) := by decide +kernel
theorem dX8_count_89 : decode cX8_count 89 = .ok (.ireturn, 1) := by decide +kernel
theorem dX8_sign_0 : decode cX8_sign 0 = .ok (.aload_n 0, 1) := by decide +kernel
theorem dX8_sign_1 : decode cX8_sign 1 = .ok (.getfield 10, 3) := by decide +kernel
theorem dX8_sign_4 : decode cX8_sign 4 = .ok (.iload_n 1, 1) := by decide +kernel
theorem dX8_sign_5 : decode cX8_sign 5 = .ok (.invokevirtual 123, 3) := by decide +kernel
theorem dX8_sign_8 : decode cX8_sign 8 = .ok (.ireturn, 1) := by decide +kernel
theorem dX8_level_0 : decode cX8_level 0 = .ok (.aload_n 0, 1) := by decide +kernel
theorem dX8_level_1 : decode cX8_level 1 = .ok (.getfield 10, 3) := by decide +kernel
theorem dX8_level_4 : decode cX8_level 4 = .ok (.iload_n 1, 1) := by decide +kernel
theorem dX8_level_5 : decode cX8_level 5 = .ok (.invokevirtual 127, 3) := by decide +kernel
theorem dX8_level_8 : decode cX8_level 8 = .ok (.ifCond .eq 14, 3) := by decide +kernel
theorem dX8_level_11 : decode cX8_level 11 = .ok (.aload_n 0, 1) := by decide +kernel
theorem dX8_level_12 : decode cX8_level 12 = .ok (.getfield 26, 3) := by decide +kernel
theorem dX8_level_15 : decode cX8_level 15 = .ok (.iload_n 1, 1) := by decide +kernel
theorem dX8_level_16 : decode cX8_level 16 = .ok (.invokevirtual 130, 3) := by decide +kernel
theorem dX8_level_19 : decode cX8_level 19 = .ok (.goto 4, 3) := by decide +kernel
theorem dX8_level_22 : decode cX8_level 22 = .ok (.iconst (-1), 1) := by decide +kernel
theorem dX8_level_23 : decode cX8_level 23 = .ok (.ireturn, 1) := by decide +kernel
theorem dX8_cluster_0 : decode cX8_cluster 0 = .ok (.aload_n 0, 1) := by decide +kernel
theorem dX8_cluster_1 : decode cX8_cluster 1 = .ok (.getfield 19, 3) := by decide +kernel
theorem dX8_cluster_4 : decode cX8_cluster 4 = .ok (.iload_n 1, 1) := by decide +kernel
theorem dX8_cluster_5 : decode cX8_cluster 5 = .ok (.invokevirtual 133, 3) := by decide +kernel
theorem dX8_cluster_8 : decode cX8_cluster 8 = .ok (.ifCond .ne 5, 3) := by decide +kernel
theorem dX8_cluster_11 : decode cX8_cluster 11 = .ok (.iconst (-1), 1) := by decide +kernel
theorem dX8_cluster_12 : decode cX8_cluster 12 = .ok (.ireturn, 1) := by decide +kernel
theorem dX8_cluster_13 : decode cX8_cluster 13 = .ok (.iload_n 2, 1) := by decide +kernel
theorem dX8_cluster_14 : decode cX8_cluster 14 = .ok (.tableswitch 122 0 6 #[42, 51, 69, 78, 87, 96, 113], 42) := by decide +kernel
theorem dX8_cluster_56 : decode cX8_cluster 56 = .ok (.aload_n 0, 1) := by decide +kernel
theorem dX8_cluster_57 : decode cX8_cluster 57 = .ok (.getfield 19, 3) := by decide +kernel
theorem dX8_cluster_60 : decode cX8_cluster 60 = .ok (.iload_n 1, 1) := by decide +kernel
theorem dX8_cluster_61 : decode cX8_cluster 61 = .ok (.invokevirtual 134, 3) := by decide +kernel
theorem dX8_cluster_64 : decode cX8_cluster 64 = .ok (.ireturn, 1) := by decide +kernel
theorem dX8_cluster_65 : decode cX8_cluster 65 = .ok (.aload_n 0, 1) := by decide +kernel
theorem dX8_cluster_66 : decode cX8_cluster 66 = .ok (.getfield 19, 3) := by decide +kernel
theorem dX8_cluster_69 : decode cX8_cluster 69 = .ok (.iload_n 1, 1) := by decide +kernel
theorem dX8_cluster_70 : decode cX8_cluster 70 = .ok (.invokevirtual 137, 3) := by decide +kernel
theorem dX8_cluster_73 : decode cX8_cluster 73 = .ok (.aload_n 0, 1) := by decide +kernel
theorem dX8_cluster_74 : decode cX8_cluster 74 = .ok (.getfield 19, 3) := by decide +kernel
theorem dX8_cluster_77 : decode cX8_cluster 77 = .ok (.iload_n 1, 1) := by decide +kernel
theorem dX8_cluster_78 : decode cX8_cluster 78 = .ok (.invokevirtual 134, 3) := by decide +kernel
theorem dX8_cluster_81 : decode cX8_cluster 81 = .ok (.isub, 1) := by decide +kernel
theorem dX8_cluster_82 : decode cX8_cluster 82 = .ok (.ireturn, 1) := by decide +kernel
theorem dX8_cluster_83 : decode cX8_cluster 83 = .ok (.aload_n 0, 1) := by decide +kernel
theorem dX8_cluster_84 : decode cX8_cluster 84 = .ok (.getfield 33, 3) := by decide +kernel
theorem dX8_cluster_87 : decode cX8_cluster 87 = .ok (.iload_n 1, 1) := by decide +kernel
theorem dX8_cluster_88 : decode cX8_cluster 88 = .ok (.invokevirtual 140, 3) := by decide +kernel
theorem dX8_cluster_91 : decode cX8_cluster 91 = .ok (.ireturn, 1) := by decide +kernel
theorem dX8_cluster_92 : decode cX8_cluster 92 = .ok (.aload_n 0, 1) := by decide +kernel
theorem dX8_cluster_93 : decode cX8_cluster 93 = .ok (.getfield 33, 3) := by decide +kernel
theorem dX8_cluster_96 : decode cX8_cluster 96 = .ok (.iload_n 1, 1) := by decide +kernel
theorem dX8_cluster_97 : decode cX8_cluster 97 = .ok (.invokevirtual 141, 3) := by decide +kernel
theorem dX8_cluster_100 : decode cX8_cluster 100 = .ok (.ireturn, 1) := by decide +kernel
theorem dX8_cluster_101 : decode cX8_cluster 101 = .ok (.aload_n 0, 1) := by decide +kernel
theorem dX8_cluster_102 : decode cX8_cluster 102 = .ok (.getfield 19, 3) := by decide +kernel
theorem dX8_cluster_105 : decode cX8_cluster 105 = .ok (.iload_n 1, 1) := by decide +kernel
theorem dX8_cluster_106 : decode cX8_cluster 106 = .ok (.invokevirtual 144, 3) := by decide +kernel
theorem dX8_cluster_109 : decode cX8_cluster 109 = .ok (.ireturn, 1) := by decide +kernel
theorem dX8_cluster_110 : decode cX8_cluster 110 = .ok (.aload_n 0, 1) := by decide +kernel
theorem dX8_cluster_111 : decode cX8_cluster 111 = .ok (.getfield 19, 3) := by decide +kernel
theorem dX8_cluster_114 : decode cX8_cluster 114 = .ok (.iload_n 1, 1) := by decide +kernel
theorem dX8_cluster_115 : decode cX8_cluster 115 = .ok (.invokevirtual 147, 3) := by decide +kernel
theorem dX8_cluster_118 : decode cX8_cluster 118 = .ok (.ifCond .eq 7, 3) := by decide +kernel
theorem dX8_cluster_121 : decode cX8_cluster 121 = .ok (.iconst 1, 1) := by decide +kernel
theorem dX8_cluster_122 : decode cX8_cluster 122 = .ok (.goto 4, 3) := by decide +kernel
theorem dX8_cluster_125 : decode cX8_cluster 125 = .ok (.iconst 0, 1) := by decide +kernel
theorem dX8_cluster_126 : decode cX8_cluster 126 = .ok (.ireturn, 1) := by decide +kernel
theorem dX8_cluster_127 : decode cX8_cluster 127 = .ok (.aload_n 0, 1) := by decide +kernel
theorem dX8_cluster_128 : decode cX8_cluster 128 = .ok (.getfield 33, 3) := by decide +kernel
theorem dX8_cluster_131 : decode cX8_cluster 131 = .ok (.iload_n 1, 1) := by decide +kernel
theorem dX8_cluster_132 : decode cX8_cluster 132 = .ok (.invokevirtual 150, 3) := by decide +kernel
theorem dX8_cluster_135 : decode cX8_cluster 135 = .ok (.ireturn, 1) := by decide +kernel
theorem dX8_cluster_136 : decode cX8_cluster 136 = .ok (.iconst (-1), 1) := by decide +kernel
theorem dX8_cluster_137 : decode cX8_cluster 137 = .ok (.ireturn, 1) := by decide +kernel
theorem dX8_seen_0 : decode cX8_seen 0 = .ok (.aload_n 0, 1) := by decide +kernel
theorem dX8_seen_1 : decode cX8_seen 1 = .ok (.getfield 33, 3) := by decide +kernel
theorem dX8_seen_4 : decode cX8_seen 4 = .ok (.iload_n 1, 1) := by decide +kernel
theorem dX8_seen_5 : decode cX8_seen 5 = .ok (.invokevirtual 153, 3) := by decide +kernel
theorem dX8_seen_8 : decode cX8_seen 8 = .ok (.istore_n 2, 1) := by decide +kernel
theorem dX8_seen_9 : decode cX8_seen 9 = .ok (.iload_n 2, 1) := by decide +kernel
theorem dX8_seen_10 : decode cX8_seen 10 = .ok (.iconst (-1), 1) := by decide +kernel
theorem dX8_seen_11 : decode cX8_seen 11 = .ok (.if_icmp .ne 5, 3) := by decide +kernel
theorem dX8_seen_14 : decode cX8_seen 14 = .ok (.iconst (-1), 1) := by decide +kernel
theorem dX8_seen_15 : decode cX8_seen 15 = .ok (.ireturn, 1) := by decide +kernel
theorem dX8_seen_16 : decode cX8_seen 16 = .ok (.aload_n 0, 1) := by decide +kernel
theorem dX8_seen_17 : decode cX8_seen 17 = .ok (.getfield 10, 3) := by decide +kernel
theorem dX8_seen_20 : decode cX8_seen 20 = .ok (.aload_n 0, 1) := by decide +kernel
theorem dX8_seen_21 : decode cX8_seen 21 = .ok (.getfield 19, 3) := by decide +kernel
theorem dX8_seen_24 : decode cX8_seen 24 = .ok (.iload_n 2, 1) := by decide +kernel
theorem dX8_seen_25 : decode cX8_seen 25 = .ok (.invokevirtual 134, 3) := by decide +kernel
theorem dX8_seen_28 : decode cX8_seen 28 = .ok (.invokevirtual 123, 3) := by decide +kernel
theorem dX8_seen_31 : decode cX8_seen 31 = .ok (.istore_n 3, 1) := by decide +kernel
theorem dX8_seen_32 : decode cX8_seen 32 = .ok (.aload_n 0, 1) := by decide +kernel
theorem dX8_seen_33 : decode cX8_seen 33 = .ok (.getfield 33, 3) := by decide +kernel
theorem dX8_seen_36 : decode cX8_seen 36 = .ok (.iload_n 2, 1) := by decide +kernel
theorem dX8_seen_37 : decode cX8_seen 37 = .ok (.invokevirtual 140, 3) := by decide +kernel
theorem dX8_seen_40 : decode cX8_seen 40 = .ok (.invokestatic 156, 3) := by decide +kernel
theorem dX8_seen_43 : decode cX8_seen 43 = .ok (.ifCond .eq 7, 3) := by decide +kernel
theorem dX8_seen_46 : decode cX8_seen 46 = .ok (.iload_n 3, 1) := by decide +kernel
theorem dX8_seen_47 : decode cX8_seen 47 = .ok (.goto 7, 3) := by decide +kernel
theorem dX8_seen_50 : decode cX8_seen 50 = .ok (.iload_n 3, 1) := by decide +kernel
theorem dX8_seen_51 : decode cX8_seen 51 = .ok (.invokestatic 159, 3) := by decide +kernel
theorem dX8_seen_54 : decode cX8_seen 54 = .ok (.ireturn, 1) := by decide +kernel
theorem dX8_caret_0 : decode cX8_caret 0 = .ok (.iload_n 1, 1) := by decide +kernel
theorem dX8_caret_1 : decode cX8_caret 1 = .ok (.tableswitch 51 0 2 #[27, 35, 43], 27) := by decide +kernel
theorem dX8_caret_28 : decode cX8_caret 28 = .ok (.aload_n 0, 1) := by decide +kernel
theorem dX8_caret_29 : decode cX8_caret 29 = .ok (.getfield 42, 3) := by decide +kernel
theorem dX8_caret_32 : decode cX8_caret 32 = .ok (.invokevirtual 91, 3) := by decide +kernel
theorem dX8_caret_35 : decode cX8_caret 35 = .ok (.ireturn, 1) := by decide +kernel
theorem dX8_caret_36 : decode cX8_caret 36 = .ok (.aload_n 0, 1) := by decide +kernel
theorem dX8_caret_37 : decode cX8_caret 37 = .ok (.getfield 42, 3) := by decide +kernel
theorem dX8_caret_40 : decode cX8_caret 40 = .ok (.invokevirtual 94, 3) := by decide +kernel
theorem dX8_caret_43 : decode cX8_caret 43 = .ok (.ireturn, 1) := by decide +kernel
theorem dX8_caret_44 : decode cX8_caret 44 = .ok (.aload_n 0, 1) := by decide +kernel
theorem dX8_caret_45 : decode cX8_caret 45 = .ok (.getfield 42, 3) := by decide +kernel
theorem dX8_caret_48 : decode cX8_caret 48 = .ok (.invokevirtual 162, 3) := by decide +kernel
theorem dX8_caret_51 : decode cX8_caret 51 = .ok (.ireturn, 1) := by decide +kernel
theorem dX8_caret_52 : decode cX8_caret 52 = .ok (.iconst (-1), 1) := by decide +kernel
theorem dX8_caret_53 : decode cX8_caret 53 = .ok (.ireturn, 1) := by decide +kernel
theorem dX8_go_0 : decode cX8_go 0 = .ok (.iload_n 2, 1) := by decide +kernel
theorem dX8_go_1 : decode cX8_go 1 = .ok (.ifCond .eq 20, 3) := by decide +kernel
theorem dX8_go_4 : decode cX8_go 4 = .ok (.iload_n 2, 1) := by decide +kernel
theorem dX8_go_5 : decode cX8_go 5 = .ok (.iconst 1, 1) := by decide +kernel
theorem dX8_go_6 : decode cX8_go 6 = .ok (.if_icmp .ne 19, 3) := by decide +kernel
theorem dX8_go_9 : decode cX8_go 9 = .ok (.aload_n 0, 1) := by decide +kernel
theorem dX8_go_10 : decode cX8_go 10 = .ok (.getfield 19, 3) := by decide +kernel
theorem dX8_go_13 : decode cX8_go 13 = .ok (.iload_n 1, 1) := by decide +kernel
theorem dX8_go_14 : decode cX8_go 14 = .ok (.invokevirtual 165, 3) := by decide +kernel
theorem dX8_go_17 : decode cX8_go 17 = .ok (.iconst (-1), 1) := by decide +kernel
theorem dX8_go_18 : decode cX8_go 18 = .ok (.if_icmp .ne 7, 3) := by decide +kernel
theorem dX8_go_21 : decode cX8_go 21 = .ok (.iconst 1, 1) := by decide +kernel
theorem dX8_go_22 : decode cX8_go 22 = .ok (.goto 4, 3) := by decide +kernel
theorem dX8_go_25 : decode cX8_go 25 = .ok (.iconst 0, 1) := by decide +kernel
theorem dX8_go_26 : decode cX8_go 26 = .ok (.istore_n 3, 1) := by decide +kernel
theorem dX8_go_27 : decode cX8_go 27 = .ok (.iload_n 3, 1) := by decide +kernel
theorem dX8_go_28 : decode cX8_go 28 = .ok (.ifCond .eq 14, 3) := by decide +kernel
theorem dX8_go_31 : decode cX8_go 31 = .ok (.aload_n 0, 1) := by decide +kernel
theorem dX8_go_32 : decode cX8_go 32 = .ok (.getfield 19, 3) := by decide +kernel
theorem dX8_go_35 : decode cX8_go 35 = .ok (.iload_n 1, 1) := by decide +kernel
theorem dX8_go_36 : decode cX8_go 36 = .ok (.invokevirtual 168, 3) := by decide +kernel
theorem dX8_go_39 : decode cX8_go 39 = .ok (.ifCond .ne 5, 3) := by decide +kernel
theorem dX8_go_42 : decode cX8_go 42 = .ok (.iconst 0, 1) := by decide +kernel
theorem dX8_go_43 : decode cX8_go 43 = .ok (.ireturn, 1) := by decide +kernel
theorem dX8_go_44 : decode cX8_go 44 = .ok (.aload_n 0, 1) := by decide +kernel
theorem dX8_go_45 : decode cX8_go 45 = .ok (.getfield 42, 3) := by decide +kernel
theorem dX8_go_48 : decode cX8_go 48 = .ok (.iload_n 1, 1) := by decide +kernel
theorem dX8_go_49 : decode cX8_go 49 = .ok (.iload_n 2, 1) := by decide +kernel
theorem dX8_go_50 : decode cX8_go 50 = .ok (.invokevirtual 171, 3) := by decide +kernel
theorem dX8_go_53 : decode cX8_go 53 = .ok (.iconst 1, 1) := by decide +kernel
theorem dX8_go_54 : decode cX8_go 54 = .ok (.ireturn, 1) := by decide +kernel
theorem dX8_on_0 : decode cX8_on 0 = .ok (.iload_n 1, 1) := by decide +kernel
theorem dX8_on_1 : decode cX8_on 1 = .ok (.ifCond .eq 22, 3) := by decide +kernel
theorem dX8_on_4 : decode cX8_on 4 = .ok (.aload_n 0, 1) := by decide +kernel
theorem dX8_on_5 : decode cX8_on 5 = .ok (.getfield 19, 3) := by decide +kernel
theorem dX8_on_8 : decode cX8_on 8 = .ok (.aload_n 0, 1) := by decide +kernel
theorem dX8_on_9 : decode cX8_on 9 = .ok (.getfield 42, 3) := by decide +kernel
theorem dX8_on_12 : decode cX8_on 12 = .ok (.invokevirtual 91, 3) := by decide +kernel
theorem dX8_on_15 : decode cX8_on 15 = .ok (.iconst 1, 1) := by decide +kernel
theorem dX8_on_16 : decode cX8_on 16 = .ok (.iadd, 1) := by decide +kernel
theorem dX8_on_17 : decode cX8_on 17 = .ok (.invokevirtual 174, 3) := by decide +kernel
theorem dX8_on_20 : decode cX8_on 20 = .ok (.goto 19, 3) := by decide +kernel
theorem dX8_on_23 : decode cX8_on 23 = .ok (.aload_n 0, 1) := by decide +kernel
theorem dX8_on_24 : decode cX8_on 24 = .ok (.getfield 19, 3) := by decide +kernel
theorem dX8_on_27 : decode cX8_on 27 = .ok (.aload_n 0, 1) := by decide +kernel
theorem dX8_on_28 : decode cX8_on 28 = .ok (.getfield 42, 3) := by decide +kernel
theorem dX8_on_31 : decode cX8_on 31 = .ok (.invokevirtual 91, 3) := by decide +kernel
theorem dX8_on_34 : decode cX8_on 34 = .ok (.iconst 1, 1) := by decide +kernel
theorem dX8_on_35 : decode cX8_on 35 = .ok (.isub, 1) := by decide +kernel
theorem dX8_on_36 : decode cX8_on 36 = .ok (.invokevirtual 177, 3) := by decide +kernel
theorem dX8_on_39 : decode cX8_on 39 = .ok (.istore_n 2, 1) := by decide +kernel
theorem dX8_on_40 : decode cX8_on 40 = .ok (.iload_n 2, 1) := by decide +kernel
theorem dX8_on_41 : decode cX8_on 41 = .ok (.iconst (-1), 1) := by decide +kernel
theorem dX8_on_42 : decode cX8_on 42 = .ok (.if_icmp .ne 5, 3) := by decide +kernel
theorem dX8_on_45 : decode cX8_on 45 = .ok (.iconst 0, 1) := by decide +kernel
theorem dX8_on_46 : decode cX8_on 46 = .ok (.ireturn, 1) := by decide +kernel
theorem dX8_on_47 : decode cX8_on 47 = .ok (.aload_n 0, 1) := by decide +kernel
theorem dX8_on_48 : decode cX8_on 48 = .ok (.getfield 42, 3) := by decide +kernel
theorem dX8_on_51 : decode cX8_on 51 = .ok (.iload_n 2, 1) := by decide +kernel
theorem dX8_on_52 : decode cX8_on 52 = .ok (.iload_n 1, 1) := by decide +kernel
theorem dX8_on_53 : decode cX8_on 53 = .ok (.ifCond .eq 7, 3) := by decide +kernel
theorem dX8_on_56 : decode cX8_on 56 = .ok (.iconst 0, 1) := by decide +kernel
theorem dX8_on_57 : decode cX8_on 57 = .ok (.goto 4, 3) := by decide +kernel
theorem dX8_on_60 : decode cX8_on 60 = .ok (.iconst 1, 1) := by decide +kernel
theorem dX8_on_61 : decode cX8_on 61 = .ok (.invokevirtual 171, 3) := by decide +kernel
theorem dX8_on_64 : decode cX8_on 64 = .ok (.iconst 1, 1) := by decide +kernel
theorem dX8_on_65 : decode cX8_on 65 = .ok (.ireturn, 1) := by decide +kernel
theorem dX8_step_0 : decode cX8_step 0 = .ok (.aload_n 0, 1) := by decide +kernel
theorem dX8_step_1 : decode cX8_step 1 = .ok (.getfield 42, 3) := by decide +kernel
theorem dX8_step_4 : decode cX8_step 4 = .ok (.iload_n 1, 1) := by decide +kernel
theorem dX8_step_5 : decode cX8_step 5 = .ok (.invokevirtual 180, 3) := by decide +kernel
theorem dX8_step_8 : decode cX8_step 8 = .ok (.ireturn, 1) := by decide +kernel
theorem dX8_word_0 : decode cX8_word 0 = .ok (.iload_n 1, 1) := by decide +kernel
theorem dX8_word_1 : decode cX8_word 1 = .ok (.ifCond .eq 10, 3) := by decide +kernel
theorem dX8_word_4 : decode cX8_word 4 = .ok (.aload_n 0, 1) := by decide +kernel
theorem dX8_word_5 : decode cX8_word 5 = .ok (.invokevirtual 184, 3) := by decide +kernel
theorem dX8_word_8 : decode cX8_word 8 = .ok (.goto 7, 3) := by decide +kernel
theorem dX8_word_11 : decode cX8_word 11 = .ok (.aload_n 0, 1) := by decide +kernel
theorem dX8_word_12 : decode cX8_word 12 = .ok (.invokevirtual 188, 3) := by decide +kernel
theorem dX8_word_15 : decode cX8_word 15 = .ok (.ireturn, 1) := by decide +kernel
theorem dX8_pick_0 : decode cX8_pick 0 = .ok (.aload_n 0, 1) := by decide +kernel
theorem dX8_pick_1 : decode cX8_pick 1 = .ok (.getfield 19, 3) := by decide +kernel
theorem dX8_pick_4 : decode cX8_pick 4 = .ok (.invokevirtual 108, 3) := by decide +kernel
theorem dX8_pick_7 : decode cX8_pick 7 = .ok (.istore_n 2, 1) := by decide +kernel
theorem dX8_pick_8 : decode cX8_pick 8 = .ok (.iload_n 2, 1) := by decide +kernel
theorem dX8_pick_9 : decode cX8_pick 9 = .ok (.ifCond .ne 15, 3) := by decide +kernel
theorem dX8_pick_12 : decode cX8_pick 12 = .ok (.aload_n 0, 1) := by decide +kernel
theorem dX8_pick_13 : decode cX8_pick 13 = .ok (.getfield 42, 3) := by decide +kernel
theorem dX8_pick_16 : decode cX8_pick 16 = .ok (.iconst 0, 1) := by decide +kernel
theorem dX8_pick_17 : decode cX8_pick 17 = .ok (.iconst 0, 1) := by decide +kernel
theorem dX8_pick_18 : decode cX8_pick 18 = .ok (.invokevirtual 171, 3) := by decide +kernel
theorem dX8_pick_21 : decode cX8_pick 21 = .ok (.goto 71, 3) := by decide +kernel
theorem dX8_pick_24 : decode cX8_pick 24 = .ok (.iload_n 1, 1) := by decide +kernel
theorem dX8_pick_25 : decode cX8_pick 25 = .ok (.ifCond .ge 22, 3) := by decide +kernel
theorem dX8_pick_28 : decode cX8_pick 28 = .ok (.aload_n 0, 1) := by decide +kernel
theorem dX8_pick_29 : decode cX8_pick 29 = .ok (.getfield 42, 3) := by decide +kernel
theorem dX8_pick_32 : decode cX8_pick 32 = .ok (.aload_n 0, 1) := by decide +kernel
theorem dX8_pick_33 : decode cX8_pick 33 = .ok (.getfield 33, 3) := by decide +kernel
theorem dX8_pick_36 : decode cX8_pick 36 = .ok (.iconst 0, 1) := by decide +kernel
theorem dX8_pick_37 : decode cX8_pick 37 = .ok (.invokevirtual 153, 3) := by decide +kernel
theorem dX8_pick_40 : decode cX8_pick 40 = .ok (.iconst 0, 1) := by decide +kernel
theorem dX8_pick_41 : decode cX8_pick 41 = .ok (.invokevirtual 191, 3) := by decide +kernel
theorem dX8_pick_44 : decode cX8_pick 44 = .ok (.goto 48, 3) := by decide +kernel
theorem dX8_pick_47 : decode cX8_pick 47 = .ok (.iload_n 1, 1) := by decide +kernel
theorem dX8_pick_48 : decode cX8_pick 48 = .ok (.aload_n 0, 1) := by decide +kernel
theorem dX8_pick_49 : decode cX8_pick 49 = .ok (.getfield 33, 3) := by decide +kernel
theorem dX8_pick_52 : decode cX8_pick 52 = .ok (.invokevirtual 114, 3) := by decide +kernel
theorem dX8_pick_55 : decode cX8_pick 55 = .ok (.if_icmp .lt 24, 3) := by decide +kernel
theorem dX8_pick_58 : decode cX8_pick 58 = .ok (.aload_n 0, 1) := by decide +kernel
theorem dX8_pick_59 : decode cX8_pick 59 = .ok (.getfield 42, 3) := by decide +kernel
theorem dX8_pick_62 : decode cX8_pick 62 = .ok (.aload_n 0, 1) := by decide +kernel
theorem dX8_pick_63 : decode cX8_pick 63 = .ok (.getfield 33, 3) := by decide +kernel
theorem dX8_pick_66 : decode cX8_pick 66 = .ok (.iload_n 2, 1) := by decide +kernel
theorem dX8_pick_67 : decode cX8_pick 67 = .ok (.iconst 1, 1) := by decide +kernel
theorem dX8_pick_68 : decode cX8_pick 68 = .ok (.isub, 1) := by decide +kernel
theorem dX8_pick_69 : decode cX8_pick 69 = .ok (.invokevirtual 153, 3) := by decide +kernel
theorem dX8_pick_72 : decode cX8_pick 72 = .ok (.iconst 1, 1) := by decide +kernel
theorem dX8_pick_73 : decode cX8_pick 73 = .ok (.invokevirtual 191, 3) := by decide +kernel
theorem dX8_pick_76 : decode cX8_pick 76 = .ok (.goto 16, 3) := by decide +kernel
theorem dX8_pick_79 : decode cX8_pick 79 = .ok (.aload_n 0, 1) := by decide +kernel
theorem dX8_pick_80 : decode cX8_pick 80 = .ok (.aload_n 0, 1) := by decide +kernel
theorem dX8_pick_81 : decode cX8_pick 81 = .ok (.getfield 33, 3) := by decide +kernel
theorem dX8_pick_84 : decode cX8_pick 84 = .ok (.iload_n 1, 1) := by decide +kernel
theorem dX8_pick_85 : decode cX8_pick 85 = .ok (.invokevirtual 195, 3) := by decide +kernel
theorem dX8_pick_88 : decode cX8_pick 88 = .ok (.iload_n 1, 1) := by decide +kernel
theorem dX8_pick_89 : decode cX8_pick 89 = .ok (.invokevirtual 198, 3) := by decide +kernel
theorem dX8_pick_92 : decode cX8_pick 92 = .ok (.aload_n 0, 1) := by decide +kernel
theorem dX8_pick_93 : decode cX8_pick 93 = .ok (.getfield 42, 3) := by decide +kernel
theorem dX8_pick_96 : decode cX8_pick 96 = .ok (.invokevirtual 91, 3) := by decide +kernel
theorem dX8_pick_99 : decode cX8_pick 99 = .ok (.ireturn, 1) := by decide +kernel
theorem dX8_select_0 : decode cX8_select 0 = .ok (.aload_n 0, 1) := by decide +kernel
theorem dX8_select_1 : decode cX8_select 1 = .ok (.getfield 19, 3) := by decide +kernel
theorem dX8_select_4 : decode cX8_select 4 = .ok (.iload_n 1, 1) := by decide +kernel
theorem dX8_select_5 : decode cX8_select 5 = .ok (.invokevirtual 201, 3) := by decide +kernel
theorem dX8_select_8 : decode cX8_select 8 = .ok (.ifCond .eq 14, 3) := by decide +kernel
theorem dX8_select_11 : decode cX8_select 11 = .ok (.aload_n 0, 1) := by decide +kernel
theorem dX8_select_12 : decode cX8_select 12 = .ok (.getfield 19, 3) := by decide +kernel
theorem dX8_select_15 : decode cX8_select 15 = .ok (.iload_n 2, 1) := by decide +kernel
theorem dX8_select_16 : decode cX8_select 16 = .ok (.invokevirtual 201, 3) := by decide +kernel
theorem dX8_select_19 : decode cX8_select 19 = .ok (.ifCond .ne 5, 3) := by decide +kernel
theorem dX8_select_22 : decode cX8_select 22 = .ok (.iconst (-1), 1) := by decide +kernel
theorem dX8_select_23 : decode cX8_select 23 = .ok (.ireturn, 1) := by decide +kernel
theorem dX8_select_24 : decode cX8_select 24 = .ok (.aload_n 0, 1) := by decide +kernel
theorem dX8_select_25 : decode cX8_select 25 = .ok (.getfield 49, 3) := by decide +kernel
theorem dX8_select_28 : decode cX8_select 28 = .ok (.aload_n 0, 1) := by decide +kernel
theorem dX8_select_29 : decode cX8_select 29 = .ok (.getfield 19, 3) := by decide +kernel
theorem dX8_select_32 : decode cX8_select 32 = .ok (.aload_n 0, 1) := by decide +kernel
theorem dX8_select_33 : decode cX8_select 33 = .ok (.getfield 33, 3) := by decide +kernel
theorem dX8_select_36 : decode cX8_select 36 = .ok (.iload_n 1, 1) := by decide +kernel
theorem dX8_select_37 : decode cX8_select 37 = .ok (.iload_n 2, 1) := by decide +kernel
theorem dX8_select_38 : decode cX8_select 38 = .ok (.invokestatic 204, 3) := by decide +kernel
theorem dX8_select_41 : decode cX8_select 41 = .ok (.iload_n 1, 1) := by decide +kernel
theorem dX8_select_42 : decode cX8_select 42 = .ok (.iload_n 2, 1) := by decide +kernel
theorem dX8_select_43 : decode cX8_select 43 = .ok (.invokestatic 210, 3) := by decide +kernel
theorem dX8_select_46 : decode cX8_select 46 = .ok (.invokevirtual 213, 3) := by decide +kernel
theorem dX8_select_49 : decode cX8_select 49 = .ok (.aload_n 0, 1) := by decide +kernel
theorem dX8_select_50 : decode cX8_select 50 = .ok (.getfield 49, 3) := by decide +kernel
theorem dX8_select_53 : decode cX8_select 53 = .ok (.invokevirtual 217, 3) := by decide +kernel
theorem dX8_select_56 : decode cX8_select 56 = .ok (.ireturn, 1) := by decide +kernel
theorem dX8_piece_0 : decode cX8_piece 0 = .ok (.iload_n 2, 1) := by decide +kernel
theorem dX8_piece_1 : decode cX8_piece 1 = .ok (.lookupswitch 45 #[(0, 27), (1, 36)], 27) := by decide +kernel
theorem dX8_piece_28 : decode cX8_piece 28 = .ok (.aload_n 0, 1) := by decide +kernel
theorem dX8_piece_29 : decode cX8_piece 29 = .ok (.getfield 49, 3) := by decide +kernel
theorem dX8_piece_32 : decode cX8_piece 32 = .ok (.iload_n 1, 1) := by decide +kernel
theorem dX8_piece_33 : decode cX8_piece 33 = .ok (.invokevirtual 218, 3) := by decide +kernel
theorem dX8_piece_36 : decode cX8_piece 36 = .ok (.ireturn, 1) := by decide +kernel
theorem dX8_piece_37 : decode cX8_piece 37 = .ok (.aload_n 0, 1) := by decide +kernel
theorem dX8_piece_38 : decode cX8_piece 38 = .ok (.getfield 49, 3) := by decide +kernel
theorem dX8_piece_41 : decode cX8_piece 41 = .ok (.iload_n 1, 1) := by decide +kernel
theorem dX8_piece_42 : decode cX8_piece 42 = .ok (.invokevirtual 219, 3) := by decide +kernel
theorem dX8_piece_45 : decode cX8_piece 45 = .ok (.ireturn, 1) := by decide +kernel
theorem dX8_piece_46 : decode cX8_piece 46 = .ok (.iconst (-1), 1) := by decide +kernel
theorem dX8_piece_47 : decode cX8_piece 47 = .ok (.ireturn, 1) := by decide +kernel
theorem dX8_back_0 : decode cX8_back 0 = .ok (.aload_n 0, 1) := by decide +kernel
theorem dX8_back_1 : decode cX8_back 1 = .ok (.getfield 42, 3) := by decide +kernel
theorem dX8_back_4 : decode cX8_back 4 = .ok (.invokevirtual 91, 3) := by decide +kernel
theorem dX8_back_7 : decode cX8_back 7 = .ok (.istore_n 1, 1) := by decide +kernel
theorem dX8_back_8 : decode cX8_back 8 = .ok (.aload_n 0, 1) := by decide +kernel
theorem dX8_back_9 : decode cX8_back 9 = .ok (.getfield 10, 3) := by decide +kernel
theorem dX8_back_12 : decode cX8_back 12 = .ok (.iload_n 1, 1) := by decide +kernel
theorem dX8_back_13 : decode cX8_back 13 = .ok (.iconst 1, 1) := by decide +kernel
theorem dX8_back_14 : decode cX8_back 14 = .ok (.isub, 1) := by decide +kernel
theorem dX8_back_15 : decode cX8_back 15 = .ok (.invokevirtual 123, 3) := by decide +kernel
theorem dX8_back_18 : decode cX8_back 18 = .ok (.invokestatic 222, 3) := by decide +kernel
theorem dX8_back_21 : decode cX8_back 21 = .ok (.ifCond .eq 13, 3) := by decide +kernel
theorem dX8_back_24 : decode cX8_back 24 = .ok (.aload_n 0, 1) := by decide +kernel
theorem dX8_back_25 : decode cX8_back 25 = .ok (.iload_n 1, 1) := by decide +kernel
theorem dX8_back_26 : decode cX8_back 26 = .ok (.iconst 1, 1) := by decide +kernel
theorem dX8_back_27 : decode cX8_back 27 = .ok (.isub, 1) := by decide +kernel
theorem dX8_back_28 : decode cX8_back 28 = .ok (.iload_n 1, 1) := by decide +kernel
theorem dX8_back_29 : decode cX8_back 29 = .ok (.iconst 1, 1) := by decide +kernel
theorem dX8_back_30 : decode cX8_back 30 = .ok (.invokevirtual 104, 3) := by decide +kernel
theorem dX8_back_33 : decode cX8_back 33 = .ok (.ireturn, 1) := by decide +kernel
theorem dX8_back_34 : decode cX8_back 34 = .ok (.aload_n 0, 1) := by decide +kernel
theorem dX8_back_35 : decode cX8_back 35 = .ok (.getfield 19, 3) := by decide +kernel
theorem dX8_back_38 : decode cX8_back 38 = .ok (.iload_n 1, 1) := by decide +kernel
theorem dX8_back_39 : decode cX8_back 39 = .ok (.invokevirtual 225, 3) := by decide +kernel
theorem dX8_back_42 : decode cX8_back 42 = .ok (.istore_n 2, 1) := by decide +kernel
theorem dX8_back_43 : decode cX8_back 43 = .ok (.iload_n 2, 1) := by decide +kernel
theorem dX8_back_44 : decode cX8_back 44 = .ok (.iconst (-1), 1) := by decide +kernel
theorem dX8_back_45 : decode cX8_back 45 = .ok (.if_icmp .ne 7, 3) := by decide +kernel
theorem dX8_back_48 : decode cX8_back 48 = .ok (.iconst 0, 1) := by decide +kernel
theorem dX8_back_49 : decode cX8_back 49 = .ok (.goto 24, 3) := by decide +kernel
theorem dX8_back_52 : decode cX8_back 52 = .ok (.aload_n 0, 1) := by decide +kernel
theorem dX8_back_53 : decode cX8_back 53 = .ok (.aload_n 0, 1) := by decide +kernel
theorem dX8_back_54 : decode cX8_back 54 = .ok (.getfield 19, 3) := by decide +kernel
theorem dX8_back_57 : decode cX8_back 57 = .ok (.iload_n 2, 1) := by decide +kernel
theorem dX8_back_58 : decode cX8_back 58 = .ok (.invokevirtual 134, 3) := by decide +kernel
theorem dX8_back_61 : decode cX8_back 61 = .ok (.aload_n 0, 1) := by decide +kernel
theorem dX8_back_62 : decode cX8_back 62 = .ok (.getfield 19, 3) := by decide +kernel
theorem dX8_back_65 : decode cX8_back 65 = .ok (.iload_n 2, 1) := by decide +kernel
theorem dX8_back_66 : decode cX8_back 66 = .ok (.invokevirtual 137, 3) := by decide +kernel
theorem dX8_back_69 : decode cX8_back 69 = .ok (.iconst 1, 1) := by decide +kernel
theorem dX8_back_70 : decode cX8_back 70 = .ok (.invokevirtual 104, 3) := by decide +kernel
theorem dX8_back_73 : decode cX8_back 73 = .ok (.ireturn, 1) := by decide +kernel
theorem dX8_ahead_0 : decode cX8_ahead 0 = .ok (.aload_n 0, 1) := by decide +kernel
theorem dX8_ahead_1 : decode cX8_ahead 1 = .ok (.getfield 19, 3) := by decide +kernel
theorem dX8_ahead_4 : decode cX8_ahead 4 = .ok (.aload_n 0, 1) := by decide +kernel
theorem dX8_ahead_5 : decode cX8_ahead 5 = .ok (.getfield 42, 3) := by decide +kernel
theorem dX8_ahead_8 : decode cX8_ahead 8 = .ok (.invokevirtual 91, 3) := by decide +kernel
theorem dX8_ahead_11 : decode cX8_ahead 11 = .ok (.invokevirtual 228, 3) := by decide +kernel
theorem dX8_ahead_14 : decode cX8_ahead 14 = .ok (.istore_n 1, 1) := by decide +kernel
theorem dX8_ahead_15 : decode cX8_ahead 15 = .ok (.iload_n 1, 1) := by decide +kernel
theorem dX8_ahead_16 : decode cX8_ahead 16 = .ok (.iconst (-1), 1) := by decide +kernel
theorem dX8_ahead_17 : decode cX8_ahead 17 = .ok (.if_icmp .ne 7, 3) := by decide +kernel
theorem dX8_ahead_20 : decode cX8_ahead 20 = .ok (.iconst 0, 1) := by decide +kernel
theorem dX8_ahead_21 : decode cX8_ahead 21 = .ok (.goto 24, 3) := by decide +kernel
theorem dX8_ahead_24 : decode cX8_ahead 24 = .ok (.aload_n 0, 1) := by decide +kernel
theorem dX8_ahead_25 : decode cX8_ahead 25 = .ok (.aload_n 0, 1) := by decide +kernel
theorem dX8_ahead_26 : decode cX8_ahead 26 = .ok (.getfield 19, 3) := by decide +kernel
theorem dX8_ahead_29 : decode cX8_ahead 29 = .ok (.iload_n 1, 1) := by decide +kernel
theorem dX8_ahead_30 : decode cX8_ahead 30 = .ok (.invokevirtual 134, 3) := by decide +kernel
theorem dX8_ahead_33 : decode cX8_ahead 33 = .ok (.aload_n 0, 1) := by decide +kernel
theorem dX8_ahead_34 : decode cX8_ahead 34 = .ok (.getfield 19, 3) := by decide +kernel
theorem dX8_ahead_37 : decode cX8_ahead 37 = .ok (.iload_n 1, 1) := by decide +kernel
theorem dX8_ahead_38 : decode cX8_ahead 38 = .ok (.invokevirtual 137, 3) := by decide +kernel
theorem dX8_ahead_41 : decode cX8_ahead 41 = .ok (.iconst 0, 1) := by decide +kernel
theorem dX8_ahead_42 : decode cX8_ahead 42 = .ok (.invokevirtual 104, 3) := by decide +kernel
theorem dX8_ahead_45 : decode cX8_ahead 45 = .ok (.ireturn, 1) := by decide +kernel
theorem dX8_type_0 : decode cX8_type 0 = .ok (.iload_n 1, 1) := by decide +kernel
theorem dX8_type_1 : decode cX8_type 1 = .ok (.invokestatic 75, 3) := by decide +kernel
theorem dX8_type_4 : decode cX8_type 4 = .ok (.ifCond .eq 14, 3) := by decide +kernel
theorem dX8_type_7 : decode cX8_type 7 = .ok (.aload_n 0, 1) := by decide +kernel
theorem dX8_type_8 : decode cX8_type 8 = .ok (.getfield 10, 3) := by decide +kernel
theorem dX8_type_11 : decode cX8_type 11 = .ok (.iconst 1, 1) := by decide +kernel
theorem dX8_type_12 : decode cX8_type 12 = .ok (.invokevirtual 81, 3) := by decide +kernel
theorem dX8_type_15 : decode cX8_type 15 = .ok (.ifCond .ne 5, 3) := by decide +kernel
theorem dX8_type_18 : decode cX8_type 18 = .ok (.iconst 0, 1) := by decide +kernel
theorem dX8_type_19 : decode cX8_type 19 = .ok (.ireturn, 1) := by decide +kernel
theorem dX8_type_20 : decode cX8_type 20 = .ok (.aload_n 0, 1) := by decide +kernel
theorem dX8_type_21 : decode cX8_type 21 = .ok (.invokevirtual 84, 3) := by decide +kernel
theorem dX8_type_24 : decode cX8_type 24 = .ok (.aload_n 0, 1) := by decide +kernel
theorem dX8_type_25 : decode cX8_type 25 = .ok (.getfield 10, 3) := by decide +kernel
theorem dX8_type_28 : decode cX8_type 28 = .ok (.aload_n 0, 1) := by decide +kernel
theorem dX8_type_29 : decode cX8_type 29 = .ok (.getfield 42, 3) := by decide +kernel
theorem dX8_type_32 : decode cX8_type 32 = .ok (.invokevirtual 91, 3) := by decide +kernel
theorem dX8_type_35 : decode cX8_type 35 = .ok (.iload_n 1, 1) := by decide +kernel
theorem dX8_type_36 : decode cX8_type 36 = .ok (.invokevirtual 231, 3) := by decide +kernel
theorem dX8_type_39 : decode cX8_type 39 = .ok (.aload_n 0, 1) := by decide +kernel
theorem dX8_type_40 : decode cX8_type 40 = .ok (.invokevirtual 60, 3) := by decide +kernel
theorem dX8_type_43 : decode cX8_type 43 = .ok (.aload_n 0, 1) := by decide +kernel
theorem dX8_type_44 : decode cX8_type 44 = .ok (.getfield 42, 3) := by decide +kernel
theorem dX8_type_47 : decode cX8_type 47 = .ok (.aload_n 0, 1) := by decide +kernel
theorem dX8_type_48 : decode cX8_type 48 = .ok (.getfield 42, 3) := by decide +kernel
theorem dX8_type_51 : decode cX8_type 51 = .ok (.invokevirtual 91, 3) := by decide +kernel
theorem dX8_type_54 : decode cX8_type 54 = .ok (.iconst 1, 1) := by decide +kernel
theorem dX8_type_55 : decode cX8_type 55 = .ok (.iadd, 1) := by decide +kernel
theorem dX8_type_56 : decode cX8_type 56 = .ok (.iconst 0, 1) := by decide +kernel
theorem dX8_type_57 : decode cX8_type 57 = .ok (.invokevirtual 97, 3) := by decide +kernel
theorem dX8_type_60 : decode cX8_type 60 = .ok (.iconst 1, 1) := by decide +kernel
theorem dX8_type_61 : decode cX8_type 61 = .ok (.ireturn, 1) := by decide +kernel
theorem dX8_cut_0 : decode cX8_cut 0 = .ok (.aload_n 0, 1) := by decide +kernel
theorem dX8_cut_1 : decode cX8_cut 1 = .ok (.getfield 19, 3) := by decide +kernel
theorem dX8_cut_4 : decode cX8_cut 4 = .ok (.iload_n 1, 1) := by decide +kernel
theorem dX8_cut_5 : decode cX8_cut 5 = .ok (.invokevirtual 168, 3) := by decide +kernel
theorem dX8_cut_8 : decode cX8_cut 8 = .ok (.ifCond .eq 14, 3) := by decide +kernel
theorem dX8_cut_11 : decode cX8_cut 11 = .ok (.aload_n 0, 1) := by decide +kernel
theorem dX8_cut_12 : decode cX8_cut 12 = .ok (.getfield 19, 3) := by decide +kernel
theorem dX8_cut_15 : decode cX8_cut 15 = .ok (.iload_n 2, 1) := by decide +kernel
theorem dX8_cut_16 : decode cX8_cut 16 = .ok (.invokevirtual 168, 3) := by decide +kernel
theorem dX8_cut_19 : decode cX8_cut 19 = .ok (.ifCond .ne 5, 3) := by decide +kernel
theorem dX8_cut_22 : decode cX8_cut 22 = .ok (.iconst (-1), 1) := by decide +kernel
theorem dX8_cut_23 : decode cX8_cut 23 = .ok (.ireturn, 1) := by decide +kernel
theorem dX8_cut_24 : decode cX8_cut 24 = .ok (.aload_n 0, 1) := by decide +kernel
theorem dX8_cut_25 : decode cX8_cut 25 = .ok (.iload_n 1, 1) := by decide +kernel
theorem dX8_cut_26 : decode cX8_cut 26 = .ok (.iload_n 2, 1) := by decide +kernel
theorem dX8_cut_27 : decode cX8_cut 27 = .ok (.invokestatic 204, 3) := by decide +kernel
theorem dX8_cut_30 : decode cX8_cut 30 = .ok (.iload_n 1, 1) := by decide +kernel
theorem dX8_cut_31 : decode cX8_cut 31 = .ok (.iload_n 2, 1) := by decide +kernel
theorem dX8_cut_32 : decode cX8_cut 32 = .ok (.invokestatic 210, 3) := by decide +kernel
theorem dX8_cut_35 : decode cX8_cut 35 = .ok (.iconst 0, 1) := by decide +kernel
theorem dX8_cut_36 : decode cX8_cut 36 = .ok (.invokevirtual 104, 3) := by decide +kernel
theorem dX8_cut_39 : decode cX8_cut 39 = .ok (.ireturn, 1) := by decide +kernel
theorem dX8_undo_0 : decode cX8_undo 0 = .ok (.aload_n 0, 1) := by decide +kernel
theorem dX8_undo_1 : decode cX8_undo 1 = .ok (.getfield 56, 3) := by decide +kernel
theorem dX8_undo_4 : decode cX8_undo 4 = .ok (.aload_n 0, 1) := by decide +kernel
theorem dX8_undo_5 : decode cX8_undo 5 = .ok (.getfield 10, 3) := by decide +kernel
theorem dX8_undo_8 : decode cX8_undo 8 = .ok (.invokevirtual 234, 3) := by decide +kernel
theorem dX8_undo_11 : decode cX8_undo 11 = .ok (.ifCond .ne 5, 3) := by decide +kernel
theorem dX8_undo_14 : decode cX8_undo 14 = .ok (.iconst (-1), 1) := by decide +kernel
theorem dX8_undo_15 : decode cX8_undo 15 = .ok (.ireturn, 1) := by decide +kernel
theorem dX8_undo_16 : decode cX8_undo 16 = .ok (.aload_n 0, 1) := by decide +kernel
theorem dX8_undo_17 : decode cX8_undo 17 = .ok (.invokevirtual 60, 3) := by decide +kernel
theorem dX8_undo_20 : decode cX8_undo 20 = .ok (.aload_n 0, 1) := by decide +kernel
theorem dX8_undo_21 : decode cX8_undo 21 = .ok (.getfield 42, 3) := by decide +kernel
theorem dX8_undo_24 : decode cX8_undo 24 = .ok (.aload_n 0, 1) := by decide +kernel
theorem dX8_undo_25 : decode cX8_undo 25 = .ok (.getfield 56, 3) := by decide +kernel
theorem dX8_undo_28 : decode cX8_undo 28 = .ok (.invokevirtual 238, 3) := by decide +kernel
theorem dX8_undo_31 : decode cX8_undo 31 = .ok (.aload_n 0, 1) := by decide +kernel
theorem dX8_undo_32 : decode cX8_undo 32 = .ok (.getfield 56, 3) := by decide +kernel
theorem dX8_undo_35 : decode cX8_undo 35 = .ok (.invokevirtual 241, 3) := by decide +kernel
theorem dX8_undo_38 : decode cX8_undo 38 = .ok (.invokevirtual 97, 3) := by decide +kernel
theorem dX8_undo_41 : decode cX8_undo 41 = .ok (.aload_n 0, 1) := by decide +kernel
theorem dX8_undo_42 : decode cX8_undo 42 = .ok (.getfield 56, 3) := by decide +kernel
theorem dX8_undo_45 : decode cX8_undo 45 = .ok (.invokevirtual 244, 3) := by decide +kernel
theorem dX8_undo_48 : decode cX8_undo 48 = .ok (.ireturn, 1) := by decide +kernel
theorem dX8_layOut_0 : decode cX8_layOut 0 = .ok (.aload_n 0, 1) := by decide +kernel
theorem dX8_layOut_1 : decode cX8_layOut 1 = .ok (.getfield 19, 3) := by decide +kernel
theorem dX8_layOut_4 : decode cX8_layOut 4 = .ok (.aload_n 0, 1) := by decide +kernel
theorem dX8_layOut_5 : decode cX8_layOut 5 = .ok (.getfield 10, 3) := by decide +kernel
theorem dX8_layOut_8 : decode cX8_layOut 8 = .ok (.invokevirtual 245, 3) := by decide +kernel
theorem dX8_layOut_11 : decode cX8_layOut 11 = .ok (.aload_n 0, 1) := by decide +kernel
theorem dX8_layOut_12 : decode cX8_layOut 12 = .ok (.getfield 26, 3) := by decide +kernel
theorem dX8_layOut_15 : decode cX8_layOut 15 = .ok (.aload_n 0, 1) := by decide +kernel
theorem dX8_layOut_16 : decode cX8_layOut 16 = .ok (.getfield 10, 3) := by decide +kernel
theorem dX8_layOut_19 : decode cX8_layOut 19 = .ok (.aload_n 0, 1) := by decide +kernel
theorem dX8_layOut_20 : decode cX8_layOut 20 = .ok (.getfield 19, 3) := by decide +kernel
theorem dX8_layOut_23 : decode cX8_layOut 23 = .ok (.invokevirtual 248, 3) := by decide +kernel
theorem dX8_layOut_26 : decode cX8_layOut 26 = .ok (.aload_n 0, 1) := by decide +kernel
theorem dX8_layOut_27 : decode cX8_layOut 27 = .ok (.getfield 33, 3) := by decide +kernel
theorem dX8_layOut_30 : decode cX8_layOut 30 = .ok (.aload_n 0, 1) := by decide +kernel
theorem dX8_layOut_31 : decode cX8_layOut 31 = .ok (.getfield 10, 3) := by decide +kernel
theorem dX8_layOut_34 : decode cX8_layOut 34 = .ok (.aload_n 0, 1) := by decide +kernel
theorem dX8_layOut_35 : decode cX8_layOut 35 = .ok (.getfield 19, 3) := by decide +kernel
theorem dX8_layOut_38 : decode cX8_layOut 38 = .ok (.aload_n 0, 1) := by decide +kernel
theorem dX8_layOut_39 : decode cX8_layOut 39 = .ok (.getfield 26, 3) := by decide +kernel
theorem dX8_layOut_42 : decode cX8_layOut 42 = .ok (.invokevirtual 252, 3) := by decide +kernel
theorem dX8_layOut_45 : decode cX8_layOut 45 = .ok (.return_, 1) := by decide +kernel
theorem dX8_keepForUndo_0 : decode cX8_keepForUndo 0 = .ok (.aload_n 0, 1) := by decide +kernel
theorem dX8_keepForUndo_1 : decode cX8_keepForUndo 1 = .ok (.getfield 56, 3) := by decide +kernel
theorem dX8_keepForUndo_4 : decode cX8_keepForUndo 4 = .ok (.aload_n 0, 1) := by decide +kernel
theorem dX8_keepForUndo_5 : decode cX8_keepForUndo 5 = .ok (.getfield 10, 3) := by decide +kernel
theorem dX8_keepForUndo_8 : decode cX8_keepForUndo 8 = .ok (.aload_n 0, 1) := by decide +kernel
theorem dX8_keepForUndo_9 : decode cX8_keepForUndo 9 = .ok (.getfield 42, 3) := by decide +kernel
theorem dX8_keepForUndo_12 : decode cX8_keepForUndo 12 = .ok (.invokevirtual 91, 3) := by decide +kernel
theorem dX8_keepForUndo_15 : decode cX8_keepForUndo 15 = .ok (.aload_n 0, 1) := by decide +kernel
theorem dX8_keepForUndo_16 : decode cX8_keepForUndo 16 = .ok (.getfield 42, 3) := by decide +kernel
theorem dX8_keepForUndo_19 : decode cX8_keepForUndo 19 = .ok (.invokevirtual 94, 3) := by decide +kernel
theorem dX8_keepForUndo_22 : decode cX8_keepForUndo 22 = .ok (.invokevirtual 255, 3) := by decide +kernel
theorem dX8_keepForUndo_25 : decode cX8_keepForUndo 25 = .ok (.return_, 1) := by decide +kernel
theorem dX8_strike_0 : decode cX8_strike 0 = .ok (.iload_n 1, 1) := by decide +kernel
theorem dX8_strike_1 : decode cX8_strike 1 = .ok (.iload_n 2, 1) := by decide +kernel
theorem dX8_strike_2 : decode cX8_strike 2 = .ok (.if_icmp .ge 20, 3) := by decide +kernel
theorem dX8_strike_5 : decode cX8_strike 5 = .ok (.aload_n 0, 1) := by decide +kernel
theorem dX8_strike_6 : decode cX8_strike 6 = .ok (.invokevirtual 84, 3) := by decide +kernel
theorem dX8_strike_9 : decode cX8_strike 9 = .ok (.aload_n 0, 1) := by decide +kernel
theorem dX8_strike_10 : decode cX8_strike 10 = .ok (.getfield 10, 3) := by decide +kernel
theorem dX8_strike_13 : decode cX8_strike 13 = .ok (.iload_n 1, 1) := by decide +kernel
theorem dX8_strike_14 : decode cX8_strike 14 = .ok (.iload_n 2, 1) := by decide +kernel
theorem dX8_strike_15 : decode cX8_strike 15 = .ok (.invokevirtual 259, 3) := by decide +kernel
theorem dX8_strike_18 : decode cX8_strike 18 = .ok (.aload_n 0, 1) := by decide +kernel
theorem dX8_strike_19 : decode cX8_strike 19 = .ok (.invokevirtual 60, 3) := by decide +kernel
theorem dX8_strike_22 : decode cX8_strike 22 = .ok (.aload_n 0, 1) := by decide +kernel
theorem dX8_strike_23 : decode cX8_strike 23 = .ok (.getfield 42, 3) := by decide +kernel
theorem dX8_strike_26 : decode cX8_strike 26 = .ok (.iload_n 1, 1) := by decide +kernel
theorem dX8_strike_27 : decode cX8_strike 27 = .ok (.iload_n 3, 1) := by decide +kernel
theorem dX8_strike_28 : decode cX8_strike 28 = .ok (.invokevirtual 97, 3) := by decide +kernel
theorem dX8_strike_31 : decode cX8_strike 31 = .ok (.iload_n 2, 1) := by decide +kernel
theorem dX8_strike_32 : decode cX8_strike 32 = .ok (.iload_n 1, 1) := by decide +kernel
theorem dX8_strike_33 : decode cX8_strike 33 = .ok (.isub, 1) := by decide +kernel
theorem dX8_strike_34 : decode cX8_strike 34 = .ok (.ireturn, 1) := by decide +kernel
theorem dX8_appendBytes_0 : decode cX8_appendBytes 0 = .ok (.iconst 0, 1) := by decide +kernel
theorem dX8_appendBytes_1 : decode cX8_appendBytes 1 = .ok (.istore 5, 2) := by decide +kernel
theorem dX8_appendBytes_3 : decode cX8_appendBytes 3 = .ok (.iload 5, 2) := by decide +kernel
theorem dX8_appendBytes_5 : decode cX8_appendBytes 5 = .ok (.bipush 16, 2) := by decide +kernel
theorem dX8_appendBytes_7 : decode cX8_appendBytes 7 = .ok (.if_icmp .ge 42, 3) := by decide +kernel
theorem dX8_appendBytes_10 : decode cX8_appendBytes 10 = .ok (.iload_n 1, 1) := by decide +kernel
theorem dX8_appendBytes_11 : decode cX8_appendBytes 11 = .ok (.iload_n 2, 1) := by decide +kernel
theorem dX8_appendBytes_12 : decode cX8_appendBytes 12 = .ok (.iload_n 3, 1) := by decide +kernel
theorem dX8_appendBytes_13 : decode cX8_appendBytes 13 = .ok (.iload 4, 2) := by decide +kernel
theorem dX8_appendBytes_15 : decode cX8_appendBytes 15 = .ok (.iload 5, 2) := by decide +kernel
theorem dX8_appendBytes_17 : decode cX8_appendBytes 17 = .ok (.invokestatic 71, 3) := by decide +kernel
theorem dX8_appendBytes_20 : decode cX8_appendBytes 20 = .ok (.istore 6, 2) := by decide +kernel
theorem dX8_appendBytes_22 : decode cX8_appendBytes 22 = .ok (.iload 6, 2) := by decide +kernel
theorem dX8_appendBytes_24 : decode cX8_appendBytes 24 = .ok (.ifCond .eq 19, 3) := by decide +kernel
theorem dX8_appendBytes_27 : decode cX8_appendBytes 27 = .ok (.aload_n 0, 1) := by decide +kernel
theorem dX8_appendBytes_28 : decode cX8_appendBytes 28 = .ok (.getfield 10, 3) := by decide +kernel
theorem dX8_appendBytes_31 : decode cX8_appendBytes 31 = .ok (.aload_n 0, 1) := by decide +kernel
theorem dX8_appendBytes_32 : decode cX8_appendBytes 32 = .ok (.getfield 10, 3) := by decide +kernel
theorem dX8_appendBytes_35 : decode cX8_appendBytes 35 = .ok (.invokevirtual 101, 3) := by decide +kernel
theorem dX8_appendBytes_38 : decode cX8_appendBytes 38 = .ok (.iload 6, 2) := by decide +kernel
theorem dX8_appendBytes_40 : decode cX8_appendBytes 40 = .ok (.invokevirtual 231, 3) := by decide +kernel
theorem dX8_appendBytes_43 : decode cX8_appendBytes 43 = .ok (.iinc 5 1, 3) := by decide +kernel
theorem dX8_appendBytes_46 : decode cX8_appendBytes 46 = .ok (.goto (-43), 3) := by decide +kernel
theorem dX8_appendBytes_49 : decode cX8_appendBytes 49 = .ok (.return_, 1) := by decide +kernel
theorem dX8_goOnByWord_0 : decode cX8_goOnByWord 0 = .ok (.aload_n 0, 1) := by decide +kernel
theorem dX8_goOnByWord_1 : decode cX8_goOnByWord 1 = .ok (.getfield 10, 3) := by decide +kernel
theorem dX8_goOnByWord_4 : decode cX8_goOnByWord 4 = .ok (.invokevirtual 101, 3) := by decide +kernel
theorem dX8_goOnByWord_7 : decode cX8_goOnByWord 7 = .ok (.istore_n 1, 1) := by decide +kernel
theorem dX8_goOnByWord_8 : decode cX8_goOnByWord 8 = .ok (.aload_n 0, 1) := by decide +kernel
theorem dX8_goOnByWord_9 : decode cX8_goOnByWord 9 = .ok (.getfield 42, 3) := by decide +kernel
theorem dX8_goOnByWord_12 : decode cX8_goOnByWord 12 = .ok (.invokevirtual 91, 3) := by decide +kernel
theorem dX8_goOnByWord_15 : decode cX8_goOnByWord 15 = .ok (.iload_n 1, 1) := by decide +kernel
theorem dX8_goOnByWord_16 : decode cX8_goOnByWord 16 = .ok (.if_icmp .ne 5, 3) := by decide +kernel
theorem dX8_goOnByWord_19 : decode cX8_goOnByWord 19 = .ok (.iconst 0, 1) := by decide +kernel
theorem dX8_goOnByWord_20 : decode cX8_goOnByWord 20 = .ok (.ireturn, 1) := by decide +kernel
theorem dX8_goOnByWord_21 : decode cX8_goOnByWord 21 = .ok (.aload_n 0, 1) := by decide +kernel
theorem dX8_goOnByWord_22 : decode cX8_goOnByWord 22 = .ok (.getfield 42, 3) := by decide +kernel
theorem dX8_goOnByWord_25 : decode cX8_goOnByWord 25 = .ok (.invokevirtual 91, 3) := by decide +kernel
theorem dX8_goOnByWord_28 : decode cX8_goOnByWord 28 = .ok (.iconst 1, 1) := by decide +kernel
theorem dX8_goOnByWord_29 : decode cX8_goOnByWord 29 = .ok (.iadd, 1) := by decide +kernel
theorem dX8_goOnByWord_30 : decode cX8_goOnByWord 30 = .ok (.istore_n 2, 1) := by decide +kernel
theorem dX8_goOnByWord_31 : decode cX8_goOnByWord 31 = .ok (.iload_n 2, 1) := by decide +kernel
theorem dX8_goOnByWord_32 : decode cX8_goOnByWord 32 = .ok (.iload_n 1, 1) := by decide +kernel
theorem dX8_goOnByWord_33 : decode cX8_goOnByWord 33 = .ok (.if_icmp .ge 28, 3) := by decide +kernel
theorem dX8_goOnByWord_36 : decode cX8_goOnByWord 36 = .ok (.aload_n 0, 1) := by decide +kernel
theorem dX8_goOnByWord_37 : decode cX8_goOnByWord 37 = .ok (.iload_n 2, 1) := by decide +kernel
theorem dX8_goOnByWord_38 : decode cX8_goOnByWord 38 = .ok (.invokevirtual 262, 3) := by decide +kernel
theorem dX8_goOnByWord_41 : decode cX8_goOnByWord 41 = .ok (.ifCond .eq 14, 3) := by decide +kernel
theorem dX8_goOnByWord_44 : decode cX8_goOnByWord 44 = .ok (.aload_n 0, 1) := by decide +kernel
theorem dX8_goOnByWord_45 : decode cX8_goOnByWord 45 = .ok (.getfield 42, 3) := by decide +kernel
theorem dX8_goOnByWord_48 : decode cX8_goOnByWord 48 = .ok (.iload_n 2, 1) := by decide +kernel
theorem dX8_goOnByWord_49 : decode cX8_goOnByWord 49 = .ok (.iconst 1, 1) := by decide +kernel
theorem dX8_goOnByWord_50 : decode cX8_goOnByWord 50 = .ok (.invokevirtual 171, 3) := by decide +kernel
theorem dX8_goOnByWord_53 : decode cX8_goOnByWord 53 = .ok (.iconst 1, 1) := by decide +kernel
theorem dX8_goOnByWord_54 : decode cX8_goOnByWord 54 = .ok (.ireturn, 1) := by decide +kernel
theorem dX8_goOnByWord_55 : decode cX8_goOnByWord 55 = .ok (.iinc 2 1, 3) := by decide +kernel
theorem dX8_goOnByWord_58 : decode cX8_goOnByWord 58 = .ok (.goto (-27), 3) := by decide +kernel
