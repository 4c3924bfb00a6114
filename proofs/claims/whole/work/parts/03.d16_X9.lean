theorem dX9_step_57 : decode cX9_step 57 = .ok (.iload_n 3, 1) := by decide +kernel
theorem dX9_step_58 : decode cX9_step 58 = .ok (.ifCond .ne 51, 3) := by decide +kernel
theorem dX9_step_61 : decode cX9_step 61 = .ok (.iload_n 1, 1) := by decide +kernel
theorem dX9_step_62 : decode cX9_step 62 = .ok (.ifCond .eq 18, 3) := by decide +kernel
theorem dX9_step_65 : decode cX9_step 65 = .ok (.aload_n 0, 1) := by decide +kernel
theorem dX9_step_66 : decode cX9_step 66 = .ok (.getfield 62, 3) := by decide +kernel
theorem dX9_step_69 : decode cX9_step 69 = .ok (.iload 5, 2) := by decide +kernel
theorem dX9_step_71 : decode cX9_step 71 = .ok (.iaload, 1) := by decide +kernel
theorem dX9_step_72 : decode cX9_step 72 = .ok (.iload 4, 2) := by decide +kernel
theorem dX9_step_74 : decode cX9_step 74 = .ok (.if_icmp .ne 29, 3) := by decide +kernel
theorem dX9_step_77 : decode cX9_step 77 = .ok (.goto 23, 3) := by decide +kernel
theorem dX9_step_80 : decode cX9_step 80 = .ok (.aload_n 0, 1) := by decide +kernel
theorem dX9_step_81 : decode cX9_step 81 = .ok (.getfield 62, 3) := by decide +kernel
theorem dX9_step_84 : decode cX9_step 84 = .ok (.iload 5, 2) := by decide +kernel
theorem dX9_step_86 : decode cX9_step 86 = .ok (.iaload, 1) := by decide +kernel
theorem dX9_step_87 : decode cX9_step 87 = .ok (.aload_n 0, 1) := by decide +kernel
theorem dX9_step_88 : decode cX9_step 88 = .ok (.getfield 59, 3) := by decide +kernel
theorem dX9_step_91 : decode cX9_step 91 = .ok (.iload 5, 2) := by decide +kernel
theorem dX9_step_93 : decode cX9_step 93 = .ok (.iaload, 1) := by decide +kernel
theorem dX9_step_94 : decode cX9_step 94 = .ok (.iadd, 1) := by decide +kernel
theorem dX9_step_95 : decode cX9_step 95 = .ok (.iload 4, 2) := by decide +kernel
theorem dX9_step_97 : decode cX9_step 97 = .ok (.if_icmp .ne 6, 3) := by decide +kernel
theorem dX9_step_100 : decode cX9_step 100 = .ok (.iload 5, 2) := by decide +kernel
theorem dX9_step_102 : decode cX9_step 102 = .ok (.istore_n 2, 1) := by decide +kernel
theorem dX9_step_103 : decode cX9_step 103 = .ok (.iinc 5 1, 3) := by decide +kernel
theorem dX9_step_106 : decode cX9_step 106 = .ok (.goto (-58), 3) := by decide +kernel
theorem dX9_step_109 : decode cX9_step 109 = .ok (.iload_n 2, 1) := by decide +kernel
theorem dX9_step_110 : decode cX9_step 110 = .ok (.iconst (-1), 1) := by decide +kernel
theorem dX9_step_111 : decode cX9_step 111 = .ok (.if_icmp .ne 5, 3) := by decide +kernel
theorem dX9_step_114 : decode cX9_step 114 = .ok (.iconst 0, 1) := by decide +kernel
theorem dX9_step_115 : decode cX9_step 115 = .ok (.ireturn, 1) := by decide +kernel
theorem dX9_step_116 : decode cX9_step 116 = .ok (.aload_n 0, 1) := by decide +kernel
theorem dX9_step_117 : decode cX9_step 117 = .ok (.getfield 56, 3) := by decide +kernel
theorem dX9_step_120 : decode cX9_step 120 = .ok (.iload_n 2, 1) := by decide +kernel
theorem dX9_step_121 : decode cX9_step 121 = .ok (.baload, 1) := by decide +kernel
theorem dX9_step_122 : decode cX9_step 122 = .ok (.ifCond .eq 23, 3) := by decide +kernel
theorem dX9_step_125 : decode cX9_step 125 = .ok (.iload_n 3, 1) := by decide +kernel
theorem dX9_step_126 : decode cX9_step 126 = .ok (.ifCond .ne 19, 3) := by decide +kernel
theorem dX9_step_129 : decode cX9_step 129 = .ok (.aload_n 0, 1) := by decide +kernel
theorem dX9_step_130 : decode cX9_step 130 = .ok (.aload_n 0, 1) := by decide +kernel
theorem dX9_step_131 : decode cX9_step 131 = .ok (.getfield 50, 3) := by decide +kernel
theorem dX9_step_134 : decode cX9_step 134 = .ok (.iload_n 2, 1) := by decide +kernel
theorem dX9_step_135 : decode cX9_step 135 = .ok (.iaload, 1) := by decide +kernel
theorem dX9_step_136 : decode cX9_step 136 = .ok (.iconst 2, 1) := by decide +kernel
theorem dX9_step_137 : decode cX9_step 137 = .ok (.iadd, 1) := by decide +kernel
theorem dX9_step_138 : decode cX9_step 138 = .ok (.iconst 0, 1) := by decide +kernel
theorem dX9_step_139 : decode cX9_step 139 = .ok (.invokevirtual 187, 3) := by decide +kernel
theorem dX9_step_142 : decode cX9_step 142 = .ok (.goto 20, 3) := by decide +kernel
theorem dX9_step_145 : decode cX9_step 145 = .ok (.iload_n 1, 1) := by decide +kernel
theorem dX9_step_146 : decode cX9_step 146 = .ok (.ifCond .eq 11, 3) := by decide +kernel
theorem dX9_step_149 : decode cX9_step 149 = .ok (.aload_n 0, 1) := by decide +kernel
theorem dX9_step_150 : decode cX9_step 150 = .ok (.iload_n 2, 1) := by decide +kernel
theorem dX9_step_151 : decode cX9_step 151 = .ok (.invokevirtual 191, 3) := by decide +kernel
theorem dX9_step_154 : decode cX9_step 154 = .ok (.goto 8, 3) := by decide +kernel
theorem dX9_step_157 : decode cX9_step 157 = .ok (.aload_n 0, 1) := by decide +kernel
theorem dX9_step_158 : decode cX9_step 158 = .ok (.iload_n 2, 1) := by decide +kernel
theorem dX9_step_159 : decode cX9_step 159 = .ok (.invokevirtual 194, 3) := by decide +kernel
theorem dX9_step_162 : decode cX9_step 162 = .ok (.iconst 1, 1) := by decide +kernel
theorem dX9_step_163 : decode cX9_step 163 = .ok (.ireturn, 1) := by decide +kernel
theorem dX9_isWord_0 : decode cX9_isWord 0 = .ok (.aload_n 0, 1) := by decide +kernel
theorem dX9_isWord_1 : decode cX9_isWord 1 = .ok (.iload_n 1, 1) := by decide +kernel
theorem dX9_isWord_2 : decode cX9_isWord 2 = .ok (.invokevirtual 177, 3) := by decide +kernel
theorem dX9_isWord_5 : decode cX9_isWord 5 = .ok (.istore_n 2, 1) := by decide +kernel
theorem dX9_isWord_6 : decode cX9_isWord 6 = .ok (.aload_n 0, 1) := by decide +kernel
theorem dX9_isWord_7 : decode cX9_isWord 7 = .ok (.iload_n 1, 1) := by decide +kernel
theorem dX9_isWord_8 : decode cX9_isWord 8 = .ok (.invokevirtual 153, 3) := by decide +kernel
theorem dX9_isWord_11 : decode cX9_isWord 11 = .ok (.istore_n 3, 1) := by decide +kernel
theorem dX9_isWord_12 : decode cX9_isWord 12 = .ok (.iload_n 2, 1) := by decide +kernel
theorem dX9_isWord_13 : decode cX9_isWord 13 = .ok (.iconst (-1), 1) := by decide +kernel
theorem dX9_isWord_14 : decode cX9_isWord 14 = .ok (.if_icmp .eq 8, 3) := by decide +kernel
theorem dX9_isWord_17 : decode cX9_isWord 17 = .ok (.iload_n 3, 1) := by decide +kernel
theorem dX9_isWord_18 : decode cX9_isWord 18 = .ok (.iconst (-1), 1) := by decide +kernel
theorem dX9_isWord_19 : decode cX9_isWord 19 = .ok (.if_icmp .ne 5, 3) := by decide +kernel
theorem dX9_isWord_22 : decode cX9_isWord 22 = .ok (.iconst 0, 1) := by decide +kernel
theorem dX9_isWord_23 : decode cX9_isWord 23 = .ok (.ireturn, 1) := by decide +kernel
theorem dX9_isWord_24 : decode cX9_isWord 24 = .ok (.aload_n 0, 1) := by decide +kernel
theorem dX9_isWord_25 : decode cX9_isWord 25 = .ok (.getfield 7, 3) := by decide +kernel
theorem dX9_isWord_28 : decode cX9_isWord 28 = .ok (.aload_n 0, 1) := by decide +kernel
theorem dX9_isWord_29 : decode cX9_isWord 29 = .ok (.getfield 50, 3) := by decide +kernel
theorem dX9_isWord_32 : decode cX9_isWord 32 = .ok (.iload_n 2, 1) := by decide +kernel
theorem dX9_isWord_33 : decode cX9_isWord 33 = .ok (.iaload, 1) := by decide +kernel
theorem dX9_isWord_34 : decode cX9_isWord 34 = .ok (.iaload, 1) := by decide +kernel
theorem dX9_isWord_35 : decode cX9_isWord 35 = .ok (.istore 4, 2) := by decide +kernel
theorem dX9_isWord_37 : decode cX9_isWord 37 = .ok (.aload_n 0, 1) := by decide +kernel
theorem dX9_isWord_38 : decode cX9_isWord 38 = .ok (.getfield 7, 3) := by decide +kernel
theorem dX9_isWord_41 : decode cX9_isWord 41 = .ok (.aload_n 0, 1) := by decide +kernel
theorem dX9_isWord_42 : decode cX9_isWord 42 = .ok (.getfield 50, 3) := by decide +kernel
theorem dX9_isWord_45 : decode cX9_isWord 45 = .ok (.iload_n 3, 1) := by decide +kernel
theorem dX9_isWord_46 : decode cX9_isWord 46 = .ok (.iaload, 1) := by decide +kernel
theorem dX9_isWord_47 : decode cX9_isWord 47 = .ok (.iaload, 1) := by decide +kernel
theorem dX9_isWord_48 : decode cX9_isWord 48 = .ok (.istore 5, 2) := by decide +kernel
theorem dX9_isWord_50 : decode cX9_isWord 50 = .ok (.iload 5, 2) := by decide +kernel
theorem dX9_isWord_52 : decode cX9_isWord 52 = .ok (.invokestatic 97, 3) := by decide +kernel
theorem dX9_isWord_55 : decode cX9_isWord 55 = .ok (.ifCond .ne 11, 3) := by decide +kernel
theorem dX9_isWord_58 : decode cX9_isWord 58 = .ok (.iload 5, 2) := by decide +kernel
theorem dX9_isWord_60 : decode cX9_isWord 60 = .ok (.invokestatic 100, 3) := by decide +kernel
theorem dX9_isWord_63 : decode cX9_isWord 63 = .ok (.ifCond .eq 23, 3) := by decide +kernel
theorem dX9_isWord_66 : decode cX9_isWord 66 = .ok (.iload 4, 2) := by decide +kernel
theorem dX9_isWord_68 : decode cX9_isWord 68 = .ok (.invokestatic 97, 3) := by decide +kernel
theorem dX9_isWord_71 : decode cX9_isWord 71 = .ok (.ifCond .ne 15, 3) := by decide +kernel
theorem dX9_isWord_74 : decode cX9_isWord 74 = .ok (.iload 4, 2) := by decide +kernel
theorem dX9_isWord_76 : decode cX9_isWord 76 = .ok (.invokestatic 100, 3) := by decide +kernel
theorem dX9_isWord_79 : decode cX9_isWord 79 = .ok (.ifCond .ne 7, 3) := by decide +kernel
theorem dX9_isWord_82 : decode cX9_isWord 82 = .ok (.iconst 1, 1) := by decide +kernel
theorem dX9_isWord_83 : decode cX9_isWord 83 = .ok (.goto 4, 3) := by decide +kernel
theorem dX9_isWord_86 : decode cX9_isWord 86 = .ok (.iconst 0, 1) := by decide +kernel
theorem dX9_isWord_87 : decode cX9_isWord 87 = .ok (.ireturn, 1) := by decide +kernel
theorem dX9_word_0 : decode cX9_word 0 = .ok (.aload_n 0, 1) := by decide +kernel
theorem dX9_word_1 : decode cX9_word 1 = .ok (.invokevirtual 162, 3) := by decide +kernel
theorem dX9_word_4 : decode cX9_word 4 = .ok (.iload_n 1, 1) := by decide +kernel
theorem dX9_word_5 : decode cX9_word 5 = .ok (.ifCond .eq 17, 3) := by decide +kernel
theorem dX9_word_8 : decode cX9_word 8 = .ok (.aload_n 0, 1) := by decide +kernel
theorem dX9_word_9 : decode cX9_word 9 = .ok (.getfield 84, 3) := by decide +kernel
theorem dX9_word_12 : decode cX9_word 12 = .ok (.aload_n 0, 1) := by decide +kernel
theorem dX9_word_13 : decode cX9_word 13 = .ok (.getfield 81, 3) := by decide +kernel
theorem dX9_word_16 : decode cX9_word 16 = .ok (.if_icmp .ne 15, 3) := by decide +kernel
theorem dX9_word_19 : decode cX9_word 19 = .ok (.goto 10, 3) := by decide +kernel
theorem dX9_word_22 : decode cX9_word 22 = .ok (.aload_n 0, 1) := by decide +kernel
theorem dX9_word_23 : decode cX9_word 23 = .ok (.getfield 84, 3) := by decide +kernel
theorem dX9_word_26 : decode cX9_word 26 = .ok (.ifCond .ne 5, 3) := by decide +kernel
theorem dX9_word_29 : decode cX9_word 29 = .ok (.iconst 0, 1) := by decide +kernel
theorem dX9_word_30 : decode cX9_word 30 = .ok (.ireturn, 1) := by decide +kernel
theorem dX9_word_31 : decode cX9_word 31 = .ok (.iload_n 1, 1) := by decide +kernel
theorem dX9_word_32 : decode cX9_word 32 = .ok (.ifCond .eq 12, 3) := by decide +kernel
theorem dX9_word_35 : decode cX9_word 35 = .ok (.aload_n 0, 1) := by decide +kernel
theorem dX9_word_36 : decode cX9_word 36 = .ok (.getfield 84, 3) := by decide +kernel
theorem dX9_word_39 : decode cX9_word 39 = .ok (.iconst 1, 1) := by decide +kernel
theorem dX9_word_40 : decode cX9_word 40 = .ok (.iadd, 1) := by decide +kernel
theorem dX9_word_41 : decode cX9_word 41 = .ok (.goto 9, 3) := by decide +kernel
theorem dX9_word_44 : decode cX9_word 44 = .ok (.aload_n 0, 1) := by decide +kernel
theorem dX9_word_45 : decode cX9_word 45 = .ok (.getfield 84, 3) := by decide +kernel
theorem dX9_word_48 : decode cX9_word 48 = .ok (.iconst 1, 1) := by decide +kernel
theorem dX9_word_49 : decode cX9_word 49 = .ok (.isub, 1) := by decide +kernel
theorem dX9_word_50 : decode cX9_word 50 = .ok (.istore_n 2, 1) := by decide +kernel
theorem dX9_word_51 : decode cX9_word 51 = .ok (.iload_n 2, 1) := by decide +kernel
theorem dX9_word_52 : decode cX9_word 52 = .ok (.ifCond .le 34, 3) := by decide +kernel
theorem dX9_word_55 : decode cX9_word 55 = .ok (.iload_n 2, 1) := by decide +kernel
theorem dX9_word_56 : decode cX9_word 56 = .ok (.aload_n 0, 1) := by decide +kernel
theorem dX9_word_57 : decode cX9_word 57 = .ok (.getfield 81, 3) := by decide +kernel
theorem dX9_word_60 : decode cX9_word 60 = .ok (.if_icmp .ge 26, 3) := by decide +kernel
theorem dX9_word_63 : decode cX9_word 63 = .ok (.aload_n 0, 1) := by decide +kernel
theorem dX9_word_64 : decode cX9_word 64 = .ok (.iload_n 2, 1) := by decide +kernel
theorem dX9_word_65 : decode cX9_word 65 = .ok (.invokevirtual 197, 3) := by decide +kernel
theorem dX9_word_68 : decode cX9_word 68 = .ok (.ifCond .ne 18, 3) := by decide +kernel
theorem dX9_word_71 : decode cX9_word 71 = .ok (.iload_n 2, 1) := by decide +kernel
theorem dX9_word_72 : decode cX9_word 72 = .ok (.iload_n 1, 1) := by decide +kernel
theorem dX9_word_73 : decode cX9_word 73 = .ok (.ifCond .eq 7, 3) := by decide +kernel
theorem dX9_word_76 : decode cX9_word 76 = .ok (.iconst 1, 1) := by decide +kernel
theorem dX9_word_77 : decode cX9_word 77 = .ok (.goto 4, 3) := by decide +kernel
theorem dX9_word_80 : decode cX9_word 80 = .ok (.iconst (-1), 1) := by decide +kernel
theorem dX9_word_81 : decode cX9_word 81 = .ok (.iadd, 1) := by decide +kernel
theorem dX9_word_82 : decode cX9_word 82 = .ok (.istore_n 2, 1) := by decide +kernel
theorem dX9_word_83 : decode cX9_word 83 = .ok (.goto (-32), 3) := by decide +kernel
theorem dX9_word_86 : decode cX9_word 86 = .ok (.aload_n 0, 1) := by decide +kernel
theorem dX9_word_87 : decode cX9_word 87 = .ok (.iload_n 2, 1) := by decide +kernel
theorem dX9_word_88 : decode cX9_word 88 = .ok (.iload_n 2, 1) := by decide +kernel
theorem dX9_word_89 : decode cX9_word 89 = .ok (.aload_n 0, 1) := by decide +kernel
theorem dX9_word_90 : decode cX9_word 90 = .ok (.getfield 81, 3) := by decide +kernel
theorem dX9_word_93 : decode cX9_word 93 = .ok (.if_icmp .ne 11, 3) := by decide +kernel
theorem dX9_word_96 : decode cX9_word 96 = .ok (.iload_n 1, 1) := by decide +kernel
theorem dX9_word_97 : decode cX9_word 97 = .ok (.ifCond .eq 7, 3) := by decide +kernel
theorem dX9_word_100 : decode cX9_word 100 = .ok (.iconst 0, 1) := by decide +kernel
theorem dX9_word_101 : decode cX9_word 101 = .ok (.goto 4, 3) := by decide +kernel
theorem dX9_word_104 : decode cX9_word 104 = .ok (.iconst 1, 1) := by decide +kernel
theorem dX9_word_105 : decode cX9_word 105 = .ok (.invokevirtual 187, 3) := by decide +kernel
theorem dX9_word_108 : decode cX9_word 108 = .ok (.iconst 1, 1) := by decide +kernel
theorem dX9_word_109 : decode cX9_word 109 = .ok (.ireturn, 1) := by decide +kernel
theorem dX9_far_0 : decode cX9_far 0 = .ok (.iload_n 0, 1) := by decide +kernel
theorem dX9_far_1 : decode cX9_far 1 = .ok (.iload_n 1, 1) := by decide +kernel
theorem dX9_far_2 : decode cX9_far 2 = .ok (.if_icmp .ge 9, 3) := by decide +kernel
theorem dX9_far_5 : decode cX9_far 5 = .ok (.iload_n 1, 1) := by decide +kernel
theorem dX9_far_6 : decode cX9_far 6 = .ok (.iload_n 0, 1) := by decide +kernel
theorem dX9_far_7 : decode cX9_far 7 = .ok (.isub, 1) := by decide +kernel
theorem dX9_far_8 : decode cX9_far 8 = .ok (.goto 6, 3) := by decide +kernel
theorem dX9_far_11 : decode cX9_far 11 = .ok (.iload_n 0, 1) := by decide +kernel
theorem dX9_far_12 : decode cX9_far 12 = .ok (.iload_n 1, 1) := by decide +kernel
theorem dX9_far_13 : decode cX9_far 13 = .ok (.isub, 1) := by decide +kernel
theorem dX9_far_14 : decode cX9_far 14 = .ok (.ireturn, 1) := by decide +kernel
theorem dX9_pick_0 : decode cX9_pick 0 = .ok (.aload_n 0, 1) := by decide +kernel
theorem dX9_pick_1 : decode cX9_pick 1 = .ok (.invokevirtual 162, 3) := by decide +kernel
theorem dX9_pick_4 : decode cX9_pick 4 = .ok (.aload_n 0, 1) := by decide +kernel
theorem dX9_pick_5 : decode cX9_pick 5 = .ok (.getfield 129, 3) := by decide +kernel
theorem dX9_pick_8 : decode cX9_pick 8 = .ok (.ifCond .ne 11, 3) := by decide +kernel
theorem dX9_pick_11 : decode cX9_pick 11 = .ok (.aload_n 0, 1) := by decide +kernel
theorem dX9_pick_12 : decode cX9_pick 12 = .ok (.iconst 0, 1) := by decide +kernel
theorem dX9_pick_13 : decode cX9_pick 13 = .ok (.iconst 0, 1) := by decide +kernel
theorem dX9_pick_14 : decode cX9_pick 14 = .ok (.invokevirtual 187, 3) := by decide +kernel
theorem dX9_pick_17 : decode cX9_pick 17 = .ok (.iconst 0, 1) := by decide +kernel
theorem dX9_pick_18 : decode cX9_pick 18 = .ok (.ireturn, 1) := by decide +kernel
theorem dX9_pick_19 : decode cX9_pick 19 = .ok (.iload_n 1, 1) := by decide +kernel
theorem dX9_pick_20 : decode cX9_pick 20 = .ok (.ifCond .ge 18, 3) := by decide +kernel
theorem dX9_pick_23 : decode cX9_pick 23 = .ok (.aload_n 0, 1) := by decide +kernel
theorem dX9_pick_24 : decode cX9_pick 24 = .ok (.aload_n 0, 1) := by decide +kernel
theorem dX9_pick_25 : decode cX9_pick 25 = .ok (.getfield 68, 3) := by decide +kernel
theorem dX9_pick_28 : decode cX9_pick 28 = .ok (.iconst 0, 1) := by decide +kernel
theorem dX9_pick_29 : decode cX9_pick 29 = .ok (.iaload, 1) := by decide +kernel
theorem dX9_pick_30 : decode cX9_pick 30 = .ok (.invokevirtual 194, 3) := by decide +kernel
theorem dX9_pick_33 : decode cX9_pick 33 = .ok (.aload_n 0, 1) := by decide +kernel
theorem dX9_pick_34 : decode cX9_pick 34 = .ok (.getfield 84, 3) := by decide +kernel
theorem dX9_pick_37 : decode cX9_pick 37 = .ok (.ireturn, 1) := by decide +kernel
theorem dX9_pick_38 : decode cX9_pick 38 = .ok (.iload_n 1, 1) := by decide +kernel
theorem dX9_pick_39 : decode cX9_pick 39 = .ok (.aload_n 0, 1) := by decide +kernel
theorem dX9_pick_40 : decode cX9_pick 40 = .ok (.getfield 147, 3) := by decide +kernel
theorem dX9_pick_43 : decode cX9_pick 43 = .ok (.if_icmp .lt 23, 3) := by decide +kernel
theorem dX9_pick_46 : decode cX9_pick 46 = .ok (.aload_n 0, 1) := by decide +kernel
theorem dX9_pick_47 : decode cX9_pick 47 = .ok (.aload_n 0, 1) := by decide +kernel
theorem dX9_pick_48 : decode cX9_pick 48 = .ok (.getfield 68, 3) := by decide +kernel
theorem dX9_pick_51 : decode cX9_pick 51 = .ok (.aload_n 0, 1) := by decide +kernel
theorem dX9_pick_52 : decode cX9_pick 52 = .ok (.getfield 129, 3) := by decide +kernel
theorem dX9_pick_55 : decode cX9_pick 55 = .ok (.iconst 1, 1) := by decide +kernel
theorem dX9_pick_56 : decode cX9_pick 56 = .ok (.isub, 1) := by decide +kernel
theorem dX9_pick_57 : decode cX9_pick 57 = .ok (.iaload, 1) := by decide +kernel
theorem dX9_pick_58 : decode cX9_pick 58 = .ok (.invokevirtual 191, 3) := by decide +kernel
theorem dX9_pick_61 : decode cX9_pick 61 = .ok (.aload_n 0, 1) := by decide +kernel
theorem dX9_pick_62 : decode cX9_pick 62 = .ok (.getfield 84, 3) := by decide +kernel
theorem dX9_pick_65 : decode cX9_pick 65 = .ok (.ireturn, 1) := by decide +kernel
theorem dX9_pick_66 : decode cX9_pick 66 = .ok (.iconst 0, 1) := by decide +kernel
theorem dX9_pick_67 : decode cX9_pick 67 = .ok (.istore_n 2, 1) := by decide +kernel
theorem dX9_pick_68 : decode cX9_pick 68 = .ok (.iload_n 1, 1) := by decide +kernel
theorem dX9_pick_69 : decode cX9_pick 69 = .ok (.aload_n 0, 1) := by decide +kernel
theorem dX9_pick_70 : decode cX9_pick 70 = .ok (.getfield 62, 3) := by decide +kernel
theorem dX9_pick_73 : decode cX9_pick 73 = .ok (.iload_n 2, 1) := by decide +kernel
theorem dX9_pick_74 : decode cX9_pick 74 = .ok (.iaload, 1) := by decide +kernel
theorem dX9_pick_75 : decode cX9_pick 75 = .ok (.if_icmp .lt 20, 3) := by decide +kernel
theorem dX9_pick_78 : decode cX9_pick 78 = .ok (.iload_n 1, 1) := by decide +kernel
theorem dX9_pick_79 : decode cX9_pick 79 = .ok (.aload_n 0, 1) := by decide +kernel
theorem dX9_pick_80 : decode cX9_pick 80 = .ok (.getfield 62, 3) := by decide +kernel
theorem dX9_pick_83 : decode cX9_pick 83 = .ok (.iload_n 2, 1) := by decide +kernel
theorem dX9_pick_84 : decode cX9_pick 84 = .ok (.iaload, 1) := by decide +kernel
theorem dX9_pick_85 : decode cX9_pick 85 = .ok (.aload_n 0, 1) := by decide +kernel
theorem dX9_pick_86 : decode cX9_pick 86 = .ok (.getfield 59, 3) := by decide +kernel
theorem dX9_pick_89 : decode cX9_pick 89 = .ok (.iload_n 2, 1) := by decide +kernel
theorem dX9_pick_90 : decode cX9_pick 90 = .ok (.iaload, 1) := by decide +kernel
theorem dX9_pick_91 : decode cX9_pick 91 = .ok (.iadd, 1) := by decide +kernel
theorem dX9_pick_92 : decode cX9_pick 92 = .ok (.if_icmp .lt 9, 3) := by decide +kernel
theorem dX9_pick_95 : decode cX9_pick 95 = .ok (.iinc 2 1, 3) := by decide +kernel
theorem dX9_pick_98 : decode cX9_pick 98 = .ok (.goto (-30), 3) := by decide +kernel
theorem dX9_pick_101 : decode cX9_pick 101 = .ok (.iload_n 1, 1) := by decide +kernel
theorem dX9_pick_102 : decode cX9_pick 102 = .ok (.aload_n 0, 1) := by decide +kernel
theorem dX9_pick_103 : decode cX9_pick 103 = .ok (.getfield 62, 3) := by decide +kernel
theorem dX9_pick_106 : decode cX9_pick 106 = .ok (.iload_n 2, 1) := by decide +kernel
theorem dX9_pick_107 : decode cX9_pick 107 = .ok (.iaload, 1) := by decide +kernel
theorem dX9_pick_108 : decode cX9_pick 108 = .ok (.invokestatic 200, 3) := by decide +kernel
theorem dX9_pick_111 : decode cX9_pick 111 = .ok (.istore_n 3, 1) := by decide +kernel
theorem dX9_pick_112 : decode cX9_pick 112 = .ok (.iload_n 1, 1) := by decide +kernel
theorem dX9_pick_113 : decode cX9_pick 113 = .ok (.aload_n 0, 1) := by decide +kernel
theorem dX9_pick_114 : decode cX9_pick 114 = .ok (.getfield 62, 3) := by decide +kernel
theorem dX9_pick_117 : decode cX9_pick 117 = .ok (.iload_n 2, 1) := by decide +kernel
theorem dX9_pick_118 : decode cX9_pick 118 = .ok (.iaload, 1) := by decide +kernel
theorem dX9_pick_119 : decode cX9_pick 119 = .ok (.aload_n 0, 1) := by decide +kernel
theorem dX9_pick_120 : decode cX9_pick 120 = .ok (.getfield 59, 3) := by decide +kernel
theorem dX9_pick_123 : decode cX9_pick 123 = .ok (.iload_n 2, 1) := by decide +kernel
theorem dX9_pick_124 : decode cX9_pick 124 = .ok (.iaload, 1) := by decide +kernel
theorem dX9_pick_125 : decode cX9_pick 125 = .ok (.iadd, 1) := by decide +kernel
theorem dX9_pick_126 : decode cX9_pick 126 = .ok (.invokestatic 200, 3) := by decide +kernel
theorem dX9_pick_129 : decode cX9_pick 129 = .ok (.istore 4, 2) := by decide +kernel
theorem dX9_pick_131 : decode cX9_pick 131 = .ok (.iload_n 1, 1) := by decide +kernel
theorem dX9_pick_132 : decode cX9_pick 132 = .ok (.aload_n 0, 1) := by decide +kernel
theorem dX9_pick_133 : decode cX9_pick 133 = .ok (.getfield 62, 3) := by decide +kernel
theorem dX9_pick_136 : decode cX9_pick 136 = .ok (.iload_n 2, 1) := by decide +kernel
theorem dX9_pick_137 : decode cX9_pick 137 = .ok (.iaload, 1) := by decide +kernel
theorem dX9_pick_138 : decode cX9_pick 138 = .ok (.bipush 8, 2) := by decide +kernel
theorem dX9_pick_140 : decode cX9_pick 140 = .ok (.iadd, 1) := by decide +kernel
theorem dX9_pick_141 : decode cX9_pick 141 = .ok (.invokestatic 200, 3) := by decide +kernel
theorem dX9_pick_144 : decode cX9_pick 144 = .ok (.istore 5, 2) := by decide +kernel
theorem dX9_pick_146 : decode cX9_pick 146 = .ok (.aload_n 0, 1) := by decide +kernel
theorem dX9_pick_147 : decode cX9_pick 147 = .ok (.getfield 56, 3) := by decide +kernel
theorem dX9_pick_150 : decode cX9_pick 150 = .ok (.iload_n 2, 1) := by decide +kernel
theorem dX9_pick_151 : decode cX9_pick 151 = .ok (.baload, 1) := by decide +kernel
theorem dX9_pick_152 : decode cX9_pick 152 = .ok (.ifCond .eq 32, 3) := by decide +kernel
theorem dX9_pick_155 : decode cX9_pick 155 = .ok (.iload 5, 2) := by decide +kernel
theorem dX9_pick_157 : decode cX9_pick 157 = .ok (.iload_n 3, 1) := by decide +kernel
theorem dX9_pick_158 : decode cX9_pick 158 = .ok (.if_icmp .gt 26, 3) := by decide +kernel
theorem dX9_pick_161 : decode cX9_pick 161 = .ok (.iload 5, 2) := by decide +kernel
theorem dX9_pick_163 : decode cX9_pick 163 = .ok (.iload 4, 2) := by decide +kernel
theorem dX9_pick_165 : decode cX9_pick 165 = .ok (.if_icmp .ge 19, 3) := by decide +kernel
theorem dX9_pick_168 : decode cX9_pick 168 = .ok (.aload_n 0, 1) := by decide +kernel
theorem dX9_pick_169 : decode cX9_pick 169 = .ok (.aload_n 0, 1) := by decide +kernel
theorem dX9_pick_170 : decode cX9_pick 170 = .ok (.getfield 50, 3) := by decide +kernel
theorem dX9_pick_173 : decode cX9_pick 173 = .ok (.iload_n 2, 1) := by decide +kernel
theorem dX9_pick_174 : decode cX9_pick 174 = .ok (.iaload, 1) := by decide +kernel
theorem dX9_pick_175 : decode cX9_pick 175 = .ok (.iconst 2, 1) := by decide +kernel
theorem dX9_pick_176 : decode cX9_pick 176 = .ok (.iadd, 1) := by decide +kernel
theorem dX9_pick_177 : decode cX9_pick 177 = .ok (.iconst 0, 1) := by decide +kernel
theorem dX9_pick_178 : decode cX9_pick 178 = .ok (.invokevirtual 187, 3) := by decide +kernel
theorem dX9_pick_181 : decode cX9_pick 181 = .ok (.goto 22, 3) := by decide +kernel
theorem dX9_pick_184 : decode cX9_pick 184 = .ok (.iload_n 3, 1) := by decide +kernel
theorem dX9_pick_185 : decode cX9_pick 185 = .ok (.iload 4, 2) := by decide +kernel
theorem dX9_pick_187 : decode cX9_pick 187 = .ok (.if_icmp .ge 11, 3) := by decide +kernel
theorem dX9_pick_190 : decode cX9_pick 190 = .ok (.aload_n 0, 1) := by decide +kernel
theorem dX9_pick_191 : decode cX9_pick 191 = .ok (.iload_n 2, 1) := by decide +kernel
theorem dX9_pick_192 : decode cX9_pick 192 = .ok (.invokevirtual 194, 3) := by decide +kernel
theorem dX9_pick_195 : decode cX9_pick 195 = .ok (.goto 8, 3) := by decide +kernel
theorem dX9_pick_198 : decode cX9_pick 198 = .ok (.aload_n 0, 1) := by decide +kernel
theorem dX9_pick_199 : decode cX9_pick 199 = .ok (.iload_n 2, 1) := by decide +kernel
theorem dX9_pick_200 : decode cX9_pick 200 = .ok (.invokevirtual 191, 3) := by decide +kernel
theorem dX9_pick_203 : decode cX9_pick 203 = .ok (.aload_n 0, 1) := by decide +kernel
theorem dX9_pick_204 : decode cX9_pick 204 = .ok (.getfield 84, 3) := by decide +kernel
theorem dX9_pick_207 : decode cX9_pick 207 = .ok (.ireturn, 1) := by decide +kernel
theorem dX9_select_0 : decode cX9_select 0 = .ok (.aload_n 0, 1) := by decide +kernel
theorem dX9_select_1 : decode cX9_select 1 = .ok (.invokevirtual 162, 3) := by decide +kernel
theorem dX9_select_4 : decode cX9_select 4 = .ok (.aload_n 0, 1) := by decide +kernel
theorem dX9_select_5 : decode cX9_select 5 = .ok (.iload_n 1, 1) := by decide +kernel
theorem dX9_select_6 : decode cX9_select 6 = .ok (.invokevirtual 156, 3) := by decide +kernel
theorem dX9_select_9 : decode cX9_select 9 = .ok (.ifCond .eq 11, 3) := by decide +kernel
theorem dX9_select_12 : decode cX9_select 12 = .ok (.aload_n 0, 1) := by decide +kernel
theorem dX9_select_13 : decode cX9_select 13 = .ok (.iload_n 2, 1) := by decide +kernel
theorem dX9_select_14 : decode cX9_select 14 = .ok (.invokevirtual 156, 3) := by decide +kernel
theorem dX9_select_17 : decode cX9_select 17 = .ok (.ifCond .ne 5, 3) := by decide +kernel
theorem dX9_select_20 : decode cX9_select 20 = .ok (.iconst (-1), 1) := by decide +kernel
theorem dX9_select_21 : decode cX9_select 21 = .ok (.ireturn, 1) := by decide +kernel
theorem dX9_select_22 : decode cX9_select 22 = .ok (.iload_n 1, 1) := by decide +kernel
theorem dX9_select_23 : decode cX9_select 23 = .ok (.iload_n 2, 1) := by decide +kernel
theorem dX9_select_24 : decode cX9_select 24 = .ok (.if_icmp .ge 7, 3) := by decide +kernel
theorem dX9_select_27 : decode cX9_select 27 = .ok (.iload_n 1, 1) := by decide +kernel
theorem dX9_select_28 : decode cX9_select 28 = .ok (.goto 4, 3) := by decide +kernel
theorem dX9_select_31 : decode cX9_select 31 = .ok (.iload_n 2, 1) := by decide +kernel
theorem dX9_select_32 : decode cX9_select 32 = .ok (.istore_n 3, 1) := by decide +kernel
theorem dX9_select_33 : decode cX9_select 33 = .ok (.iload_n 1, 1) := by decide +kernel
theorem dX9_select_34 : decode cX9_select 34 = .ok (.iload_n 2, 1) := by decide +kernel
theorem dX9_select_35 : decode cX9_select 35 = .ok (.if_icmp .ge 7, 3) := by decide +kernel
theorem dX9_select_38 : decode cX9_select 38 = .ok (.iload_n 2, 1) := by decide +kernel
theorem dX9_select_39 : decode cX9_select 39 = .ok (.goto 4, 3) := by decide +kernel
theorem dX9_select_42 : decode cX9_select 42 = .ok (.iload_n 1, 1) := by decide +kernel
theorem dX9_select_43 : decode cX9_select 43 = .ok (.istore 4, 2) := by decide +kernel
theorem dX9_select_45 : decode cX9_select 45 = .ok (.aload_n 0, 1) := by decide +kernel
theorem dX9_select_46 : decode cX9_select 46 = .ok (.iconst 0, 1) := by decide +kernel
theorem dX9_select_47 : decode cX9_select 47 = .ok (.putfield 203, 3) := by decide +kernel
theorem dX9_select_50 : decode cX9_select 50 = .ok (.iconst 0, 1) := by decide +kernel
theorem dX9_select_51 : decode cX9_select 51 = .ok (.istore 5, 2) := by decide +kernel
theorem dX9_select_53 : decode cX9_select 53 = .ok (.iconst 0, 1) := by decide +kernel
theorem dX9_select_54 : decode cX9_select 54 = .ok (.istore 6, 2) := by decide +kernel
theorem dX9_select_56 : decode cX9_select 56 = .ok (.iload 6, 2) := by decide +kernel
theorem dX9_select_58 : decode cX9_select 58 = .ok (.aload_n 0, 1) := by decide +kernel
theorem dX9_select_59 : decode cX9_select 59 = .ok (.getfield 129, 3) := by decide +kernel
theorem dX9_select_62 : decode cX9_select 62 = .ok (.if_icmp .ge 119, 3) := by decide +kernel
theorem dX9_select_65 : decode cX9_select 65 = .ok (.aload_n 0, 1) := by decide +kernel
theorem dX9_select_66 : decode cX9_select 66 = .ok (.getfield 68, 3) := by decide +kernel
theorem dX9_select_69 : decode cX9_select 69 = .ok (.iload 6, 2) := by decide +kernel
theorem dX9_select_71 : decode cX9_select 71 = .ok (.iaload, 1) := by decide +kernel
theorem dX9_select_72 : decode cX9_select 72 = .ok (.istore 7, 2) := by decide +kernel
theorem dX9_select_74 : decode cX9_select 74 = .ok (.aload_n 0, 1) := by decide +kernel
theorem dX9_select_75 : decode cX9_select 75 = .ok (.getfield 50, 3) := by decide +kernel
theorem dX9_select_78 : decode cX9_select 78 = .ok (.iload 7, 2) := by decide +kernel
theorem dX9_select_80 : decode cX9_select 80 = .ok (.iaload, 1) := by decide +kernel
theorem dX9_select_81 : decode cX9_select 81 = .ok (.iload_n 3, 1) := by decide +kernel
theorem dX9_select_82 : decode cX9_select 82 = .ok (.if_icmp .lt 19, 3) := by decide +kernel
theorem dX9_select_85 : decode cX9_select 85 = .ok (.aload_n 0, 1) := by decide +kernel
theorem dX9_select_86 : decode cX9_select 86 = .ok (.getfield 50, 3) := by decide +kernel
theorem dX9_select_89 : decode cX9_select 89 = .ok (.iload 7, 2) := by decide +kernel
theorem dX9_select_91 : decode cX9_select 91 = .ok (.iaload, 1) := by decide +kernel
theorem dX9_select_92 : decode cX9_select 92 = .ok (.iload 4, 2) := by decide +kernel
theorem dX9_select_94 : decode cX9_select 94 = .ok (.if_icmp .ge 7, 3) := by decide +kernel
theorem dX9_select_97 : decode cX9_select 97 = .ok (.iconst 1, 1) := by decide +kernel
theorem dX9_select_98 : decode cX9_select 98 = .ok (.goto 4, 3) := by decide +kernel
theorem dX9_select_101 : decode cX9_select 101 = .ok (.iconst 0, 1) := by decide +kernel
theorem dX9_select_102 : decode cX9_select 102 = .ok (.istore 8, 2) := by decide +kernel
theorem dX9_select_104 : decode cX9_select 104 = .ok (.iload 8, 2) := by decide +kernel
theorem dX9_select_106 : decode cX9_select 106 = .ok (.ifCond .eq 34, 3) := by decide +kernel
theorem dX9_select_109 : decode cX9_select 109 = .ok (.iload 5, 2) := by decide +kernel
theorem dX9_select_111 : decode cX9_select 111 = .ok (.ifCond .ne 29, 3) := by decide +kernel
theorem dX9_select_114 : decode cX9_select 114 = .ok (.aload_n 0, 1) := by decide +kernel
theorem dX9_select_115 : decode cX9_select 115 = .ok (.getfield 71, 3) := by decide +kernel
theorem dX9_select_118 : decode cX9_select 118 = .ok (.aload_n 0, 1) := by decide +kernel
theorem dX9_select_119 : decode cX9_select 119 = .ok (.getfield 203, 3) := by decide +kernel
theorem dX9_select_122 : decode cX9_select 122 = .ok (.aload_n 0, 1) := by decide +kernel
theorem dX9_select_123 : decode cX9_select 123 = .ok (.getfield 62, 3) := by decide +kernel
theorem dX9_select_126 : decode cX9_select 126 = .ok (.iload 7, 2) := by decide +kernel
theorem dX9_select_128 : decode cX9_select 128 = .ok (.iaload, 1) := by decide +kernel
theorem dX9_select_129 : decode cX9_select 129 = .ok (.iastore, 1) := by decide +kernel
theorem dX9_select_130 : decode cX9_select 130 = .ok (.aload_n 0, 1) := by decide +kernel
theorem dX9_select_131 : decode cX9_select 131 = .ok (.dup, 1) := by decide +kernel
theorem dX9_select_132 : decode cX9_select 132 = .ok (.getfield 203, 3) := by decide +kernel
theorem dX9_select_135 : decode cX9_select 135 = .ok (.iconst 1, 1) := by decide +kernel
theorem dX9_select_136 : decode cX9_select 136 = .ok (.iadd, 1) := by decide +kernel
theorem dX9_select_137 : decode cX9_select 137 = .ok (.putfield 203, 3) := by decide +kernel
theorem dX9_select_140 : decode cX9_select 140 = .ok (.iload 8, 2) := by decide +kernel
theorem dX9_select_142 : decode cX9_select 142 = .ok (.ifCond .eq 29, 3) := by decide +kernel
theorem dX9_select_145 : decode cX9_select 145 = .ok (.aload_n 0, 1) := by decide +kernel
theorem dX9_select_146 : decode cX9_select 146 = .ok (.getfield 74, 3) := by decide +kernel
theorem dX9_select_149 : decode cX9_select 149 = .ok (.aload_n 0, 1) := by decide +kernel
theorem dX9_select_150 : decode cX9_select 150 = .ok (.getfield 203, 3) := by decide +kernel
theorem dX9_select_153 : decode cX9_select 153 = .ok (.iconst 1, 1) := by decide +kernel
theorem dX9_select_154 : decode cX9_select 154 = .ok (.isub, 1) := by decide +kernel
theorem dX9_select_155 : decode cX9_select 155 = .ok (.aload_n 0, 1) := by decide +kernel
theorem dX9_select_156 : decode cX9_select 156 = .ok (.getfield 62, 3) := by decide +kernel
theorem dX9_select_159 : decode cX9_select 159 = .ok (.iload 7, 2) := by decide +kernel
theorem dX9_select_161 : decode cX9_select 161 = .ok (.iaload, 1) := by decide +kernel
theorem dX9_select_162 : decode cX9_select 162 = .ok (.aload_n 0, 1) := by decide +kernel
theorem dX9_select_163 : decode cX9_select 163 = .ok (.getfield 59, 3) := by decide +kernel
theorem dX9_select_166 : decode cX9_select 166 = .ok (.iload 7, 2) := by decide +kernel
theorem dX9_select_168 : decode cX9_select 168 = .ok (.iaload, 1) := by decide +kernel
theorem dX9_select_169 : decode cX9_select 169 = .ok (.iadd, 1) := by decide +kernel
theorem dX9_select_170 : decode cX9_select 170 = .ok (.iastore, 1) := by decide +kernel
theorem dX9_select_171 : decode cX9_select 171 = .ok (.iload 8, 2) := by decide +kernel
theorem dX9_select_173 : decode cX9_select 173 = .ok (.istore 5, 2) := by decide +kernel
theorem dX9_select_175 : decode cX9_select 175 = .ok (.iinc 6 1, 3) := by decide +kernel
theorem dX9_select_178 : decode cX9_select 178 = .ok (.goto (-122), 3) := by decide +kernel
theorem dX9_select_181 : decode cX9_select 181 = .ok (.aload_n 0, 1) := by decide +kernel
theorem dX9_select_182 : decode cX9_select 182 = .ok (.getfield 203, 3) := by decide +kernel
theorem dX9_select_185 : decode cX9_select 185 = .ok (.ireturn, 1) := by decide +kernel
theorem dX9_piece_0 : decode cX9_piece 0 = .ok (.iload_n 1, 1) := by decide +kernel
theorem dX9_piece_1 : decode cX9_piece 1 = .ok (.ifCond .lt 11, 3) := by decide +kernel
theorem dX9_piece_4 : decode cX9_piece 4 = .ok (.iload_n 1, 1) := by decide +kernel
theorem dX9_piece_5 : decode cX9_piece 5 = .ok (.aload_n 0, 1) := by decide +kernel
theorem dX9_piece_6 : decode cX9_piece 6 = .ok (.getfield 203, 3) := by decide +kernel
theorem dX9_piece_9 : decode cX9_piece 9 = .ok (.if_icmp .lt 5, 3) := by decide +kernel
theorem dX9_piece_12 : decode cX9_piece 12 = .ok (.iconst (-1), 1) := by decide +kernel
theorem dX9_piece_13 : decode cX9_piece 13 = .ok (.ireturn, 1) := by decide +kernel
theorem dX9_piece_14 : decode cX9_piece 14 = .ok (.iload_n 2, 1) := by decide +kernel
theorem dX9_piece_15 : decode cX9_piece 15 = .ok (.ifCond .ne 12, 3) := by decide +kernel
theorem dX9_piece_18 : decode cX9_piece 18 = .ok (.aload_n 0, 1) := by decide +kernel
theorem dX9_piece_19 : decode cX9_piece 19 = .ok (.getfield 71, 3) := by decide +kernel
theorem dX9_piece_22 : decode cX9_piece 22 = .ok (.iload_n 1, 1) := by decide +kernel
theorem dX9_piece_23 : decode cX9_piece 23 = .ok (.iaload, 1) := by decide +kernel
theorem dX9_piece_24 : decode cX9_piece 24 = .ok (.goto 18, 3) := by decide +kernel
theorem dX9_piece_27 : decode cX9_piece 27 = .ok (.iload_n 2, 1) := by decide +kernel
theorem dX9_piece_28 : decode cX9_piece 28 = .ok (.iconst 1, 1) := by decide +kernel
theorem dX9_piece_29 : decode cX9_piece 29 = .ok (.if_icmp .ne 12, 3) := by decide +kernel
theorem dX9_piece_32 : decode cX9_piece 32 = .ok (.aload_n 0, 1) := by decide +kernel
theorem dX9_piece_33 : decode cX9_piece 33 = .ok (.getfield 74, 3) := by decide +kernel
theorem dX9_piece_36 : decode cX9_piece 36 = .ok (.iload_n 1, 1) := by decide +kernel
theorem dX9_piece_37 : decode cX9_piece 37 = .ok (.iaload, 1) := by decide +kernel
theorem dX9_piece_38 : decode cX9_piece 38 = .ok (.goto 4, 3) := by decide +kernel
theorem dX9_piece_41 : decode cX9_piece 41 = .ok (.iconst (-1), 1) := by decide +kernel
theorem dX9_piece_42 : decode cX9_piece 42 = .ok (.ireturn, 1) := by decide +kernel
theorem dX9_strikes_0 : decode cX9_strikes 0 = .ok (.iload_n 1, 1) := by decide +kernel
theorem dX9_strikes_1 : decode cX9_strikes 1 = .ok (.iload_n 2, 1) := by decide +kernel
theorem dX9_strikes_2 : decode cX9_strikes 2 = .ok (.if_icmp .ge 7, 3) := by decide +kernel
theorem dX9_strikes_5 : decode cX9_strikes 5 = .ok (.aload_n 0, 1) := by decide +kernel
theorem dX9_strikes_6 : decode cX9_strikes 6 = .ok (.invokevirtual 171, 3) := by decide +kernel
theorem dX9_strikes_9 : decode cX9_strikes 9 = .ok (.iload_n 2, 1) := by decide +kernel
theorem dX9_strikes_10 : decode cX9_strikes 10 = .ok (.istore 4, 2) := by decide +kernel
theorem dX9_strikes_12 : decode cX9_strikes 12 = .ok (.iload 4, 2) := by decide +kernel
theorem dX9_strikes_14 : decode cX9_strikes 14 = .ok (.aload_n 0, 1) := by decide +kernel
theorem dX9_strikes_15 : decode cX9_strikes 15 = .ok (.getfield 81, 3) := by decide +kernel
theorem dX9_strikes_18 : decode cX9_strikes 18 = .ok (.if_icmp .ge 27, 3) := by decide +kernel
theorem dX9_strikes_21 : decode cX9_strikes 21 = .ok (.aload_n 0, 1) := by decide +kernel
theorem dX9_strikes_22 : decode cX9_strikes 22 = .ok (.getfield 7, 3) := by decide +kernel
theorem dX9_strikes_25 : decode cX9_strikes 25 = .ok (.iload_n 1, 1) := by decide +kernel
theorem dX9_strikes_26 : decode cX9_strikes 26 = .ok (.iload 4, 2) := by decide +kernel
theorem dX9_strikes_28 : decode cX9_strikes 28 = .ok (.iadd, 1) := by decide +kernel
theorem dX9_strikes_29 : decode cX9_strikes 29 = .ok (.iload_n 2, 1) := by decide +kernel
theorem dX9_strikes_30 : decode cX9_strikes 30 = .ok (.isub, 1) := by decide +kernel
theorem dX9_strikes_31 : decode cX9_strikes 31 = .ok (.aload_n 0, 1) := by decide +kernel
theorem dX9_strikes_32 : decode cX9_strikes 32 = .ok (.getfield 7, 3) := by decide +kernel
theorem dX9_strikes_35 : decode cX9_strikes 35 = .ok (.iload 4, 2) := by decide +kernel
theorem dX9_strikes_37 : decode cX9_strikes 37 = .ok (.iaload, 1) := by decide +kernel
theorem dX9_strikes_38 : decode cX9_strikes 38 = .ok (.iastore, 1) := by decide +kernel
theorem dX9_strikes_39 : decode cX9_strikes 39 = .ok (.iinc 4 1, 3) := by decide +kernel
theorem dX9_strikes_42 : decode cX9_strikes 42 = .ok (.goto (-30), 3) := by decide +kernel
theorem dX9_strikes_45 : decode cX9_strikes 45 = .ok (.aload_n 0, 1) := by decide +kernel
theorem dX9_strikes_46 : decode cX9_strikes 46 = .ok (.dup, 1) := by decide +kernel
theorem dX9_strikes_47 : decode cX9_strikes 47 = .ok (.getfield 81, 3) := by decide +kernel
theorem dX9_strikes_50 : decode cX9_strikes 50 = .ok (.iload_n 2, 1) := by decide +kernel
theorem dX9_strikes_51 : decode cX9_strikes 51 = .ok (.iload_n 1, 1) := by decide +kernel
theorem dX9_strikes_52 : decode cX9_strikes 52 = .ok (.isub, 1) := by decide +kernel
theorem dX9_strikes_53 : decode cX9_strikes 53 = .ok (.isub, 1) := by decide +kernel
theorem dX9_strikes_54 : decode cX9_strikes 54 = .ok (.putfield 81, 3) := by decide +kernel
theorem dX9_strikes_57 : decode cX9_strikes 57 = .ok (.aload_n 0, 1) := by decide +kernel
theorem dX9_strikes_58 : decode cX9_strikes 58 = .ok (.iload_n 1, 1) := by decide +kernel
theorem dX9_strikes_59 : decode cX9_strikes 59 = .ok (.iload_n 3, 1) := by decide +kernel
theorem dX9_strikes_60 : decode cX9_strikes 60 = .ok (.invokevirtual 187, 3) := by decide +kernel
theorem dX9_strikes_63 : decode cX9_strikes 63 = .ok (.aload_n 0, 1) := by decide +kernel
theorem dX9_strikes_64 : decode cX9_strikes 64 = .ok (.invokevirtual 174, 3) := by decide +kernel
theorem dX9_strikes_67 : decode cX9_strikes 67 = .ok (.iload_n 2, 1) := by decide +kernel
theorem dX9_strikes_68 : decode cX9_strikes 68 = .ok (.iload_n 1, 1) := by decide +kernel
theorem dX9_strikes_69 : decode cX9_strikes 69 = .ok (.isub, 1) := by decide +kernel
theorem dX9_strikes_70 : decode cX9_strikes 70 = .ok (.ireturn, 1) := by decide +kernel
theorem dX9_back_0 : decode cX9_back 0 = .ok (.aload_n 0, 1) := by decide +kernel
theorem dX9_back_1 : decode cX9_back 1 = .ok (.invokevirtual 162, 3) := by decide +kernel
theorem dX9_back_4 : decode cX9_back 4 = .ok (.aload_n 0, 1) := by decide +kernel
theorem dX9_back_5 : decode cX9_back 5 = .ok (.aload_n 0, 1) := by decide +kernel
theorem dX9_back_6 : decode cX9_back 6 = .ok (.getfield 84, 3) := by decide +kernel
theorem dX9_back_9 : decode cX9_back 9 = .ok (.invokevirtual 156, 3) := by decide +kernel
theorem dX9_back_12 : decode cX9_back 12 = .ok (.ifCond .eq 7, 3) := by decide +kernel
theorem dX9_back_15 : decode cX9_back 15 = .ok (.iconst (-1), 1) := by decide +kernel
theorem dX9_back_16 : decode cX9_back 16 = .ok (.goto 11, 3) := by decide +kernel
theorem dX9_back_19 : decode cX9_back 19 = .ok (.aload_n 0, 1) := by decide +kernel
theorem dX9_back_20 : decode cX9_back 20 = .ok (.aload_n 0, 1) := by decide +kernel
theorem dX9_back_21 : decode cX9_back 21 = .ok (.getfield 84, 3) := by decide +kernel
theorem dX9_back_24 : decode cX9_back 24 = .ok (.invokevirtual 159, 3) := by decide +kernel
theorem dX9_back_27 : decode cX9_back 27 = .ok (.istore_n 1, 1) := by decide +kernel
theorem dX9_back_28 : decode cX9_back 28 = .ok (.iload_n 1, 1) := by decide +kernel
theorem dX9_back_29 : decode cX9_back 29 = .ok (.iconst (-1), 1) := by decide +kernel
theorem dX9_back_30 : decode cX9_back 30 = .ok (.if_icmp .eq 28, 3) := by decide +kernel
theorem dX9_back_33 : decode cX9_back 33 = .ok (.aload_n 0, 1) := by decide +kernel
theorem dX9_back_34 : decode cX9_back 34 = .ok (.aload_n 0, 1) := by decide +kernel
theorem dX9_back_35 : decode cX9_back 35 = .ok (.getfield 50, 3) := by decide +kernel
theorem dX9_back_38 : decode cX9_back 38 = .ok (.iload_n 1, 1) := by decide +kernel
theorem dX9_back_39 : decode cX9_back 39 = .ok (.iaload, 1) := by decide +kernel
theorem dX9_back_40 : decode cX9_back 40 = .ok (.aload_n 0, 1) := by decide +kernel
theorem dX9_back_41 : decode cX9_back 41 = .ok (.getfield 50, 3) := by decide +kernel
theorem dX9_back_44 : decode cX9_back 44 = .ok (.iload_n 1, 1) := by decide +kernel
theorem dX9_back_45 : decode cX9_back 45 = .ok (.iaload, 1) := by decide +kernel
theorem dX9_back_46 : decode cX9_back 46 = .ok (.aload_n 0, 1) := by decide +kernel
theorem dX9_back_47 : decode cX9_back 47 = .ok (.getfield 53, 3) := by decide +kernel
theorem dX9_back_50 : decode cX9_back 50 = .ok (.iload_n 1, 1) := by decide +kernel
theorem dX9_back_51 : decode cX9_back 51 = .ok (.iaload, 1) := by decide +kernel
theorem dX9_back_52 : decode cX9_back 52 = .ok (.iadd, 1) := by decide +kernel
theorem dX9_back_53 : decode cX9_back 53 = .ok (.iconst 1, 1) := by decide +kernel
theorem dX9_back_54 : decode cX9_back 54 = .ok (.invokevirtual 206, 3) := by decide +kernel
theorem dX9_back_57 : decode cX9_back 57 = .ok (.ireturn, 1) := by decide +kernel
theorem dX9_back_58 : decode cX9_back 58 = .ok (.aload_n 0, 1) := by decide +kernel
theorem dX9_back_59 : decode cX9_back 59 = .ok (.getfield 84, 3) := by decide +kernel
theorem dX9_back_62 : decode cX9_back 62 = .ok (.ifCond .ne 5, 3) := by decide +kernel
theorem dX9_back_65 : decode cX9_back 65 = .ok (.iconst 0, 1) := by decide +kernel
theorem dX9_back_66 : decode cX9_back 66 = .ok (.ireturn, 1) := by decide +kernel
theorem dX9_back_67 : decode cX9_back 67 = .ok (.aload_n 0, 1) := by decide +kernel
theorem dX9_back_68 : decode cX9_back 68 = .ok (.getfield 7, 3) := by decide +kernel
theorem dX9_back_71 : decode cX9_back 71 = .ok (.aload_n 0, 1) := by decide +kernel
theorem dX9_back_72 : decode cX9_back 72 = .ok (.getfield 84, 3) := by decide +kernel
theorem dX9_back_75 : decode cX9_back 75 = .ok (.iconst 1, 1) := by decide +kernel
theorem dX9_back_76 : decode cX9_back 76 = .ok (.isub, 1) := by decide +kernel
theorem dX9_back_77 : decode cX9_back 77 = .ok (.iaload, 1) := by decide +kernel
theorem dX9_back_78 : decode cX9_back 78 = .ok (.invokestatic 103, 3) := by decide +kernel
theorem dX9_back_81 : decode cX9_back 81 = .ok (.ifCond .eq 19, 3) := by decide +kernel
theorem dX9_back_84 : decode cX9_back 84 = .ok (.aload_n 0, 1) := by decide +kernel
theorem dX9_back_85 : decode cX9_back 85 = .ok (.aload_n 0, 1) := by decide +kernel
theorem dX9_back_86 : decode cX9_back 86 = .ok (.getfield 84, 3) := by decide +kernel
theorem dX9_back_89 : decode cX9_back 89 = .ok (.iconst 1, 1) := by decide +kernel
theorem dX9_back_90 : decode cX9_back 90 = .ok (.isub, 1) := by decide +kernel
theorem dX9_back_91 : decode cX9_back 91 = .ok (.aload_n 0, 1) := by decide +kernel
theorem dX9_back_92 : decode cX9_back 92 = .ok (.getfield 84, 3) := by decide +kernel
theorem dX9_back_95 : decode cX9_back 95 = .ok (.iconst 1, 1) := by decide +kernel
theorem dX9_back_96 : decode cX9_back 96 = .ok (.invokevirtual 206, 3) := by decide +kernel
theorem dX9_back_99 : decode cX9_back 99 = .ok (.ireturn, 1) := by decide +kernel
theorem dX9_back_100 : decode cX9_back 100 = .ok (.aload_n 0, 1) := by decide +kernel
theorem dX9_back_101 : decode cX9_back 101 = .ok (.aload_n 0, 1) := by decide +kernel
theorem dX9_back_102 : decode cX9_back 102 = .ok (.getfield 84, 3) := by decide +kernel
theorem dX9_back_105 : decode cX9_back 105 = .ok (.invokevirtual 177, 3) := by decide +kernel
theorem dX9_back_108 : decode cX9_back 108 = .ok (.istore_n 1, 1) := by decide +kernel
theorem dX9_back_109 : decode cX9_back 109 = .ok (.aload_n 0, 1) := by decide +kernel
theorem dX9_back_110 : decode cX9_back 110 = .ok (.aload_n 0, 1) := by decide +kernel
theorem dX9_back_111 : decode cX9_back 111 = .ok (.getfield 50, 3) := by decide +kernel
theorem dX9_back_114 : decode cX9_back 114 = .ok (.iload_n 1, 1) := by decide +kernel
theorem dX9_back_115 : decode cX9_back 115 = .ok (.iaload, 1) := by decide +kernel
theorem dX9_back_116 : decode cX9_back 116 = .ok (.aload_n 0, 1) := by decide +kernel
theorem dX9_back_117 : decode cX9_back 117 = .ok (.getfield 84, 3) := by decide +kernel
theorem dX9_back_120 : decode cX9_back 120 = .ok (.iconst 1, 1) := by decide +kernel
theorem dX9_back_121 : decode cX9_back 121 = .ok (.invokevirtual 206, 3) := by decide +kernel
theorem dX9_back_124 : decode cX9_back 124 = .ok (.ireturn, 1) := by decide +kernel
theorem dX9_ahead_0 : decode cX9_ahead 0 = .ok (.aload_n 0, 1) := by decide +kernel
theorem dX9_ahead_1 : decode cX9_ahead 1 = .ok (.invokevirtual 162, 3) := by decide +kernel
theorem dX9_ahead_4 : decode cX9_ahead 4 = .ok (.aload_n 0, 1) := by decide +kernel
theorem dX9_ahead_5 : decode cX9_ahead 5 = .ok (.aload_n 0, 1) := by decide +kernel
theorem dX9_ahead_6 : decode cX9_ahead 6 = .ok (.getfield 84, 3) := by decide +kernel
theorem dX9_ahead_9 : decode cX9_ahead 9 = .ok (.invokevirtual 156, 3) := by decide +kernel
theorem dX9_ahead_12 : decode cX9_ahead 12 = .ok (.ifCond .eq 14, 3) := by decide +kernel
theorem dX9_ahead_15 : decode cX9_ahead 15 = .ok (.aload_n 0, 1) := by decide +kernel
theorem dX9_ahead_16 : decode cX9_ahead 16 = .ok (.aload_n 0, 1) := by decide +kernel
theorem dX9_ahead_17 : decode cX9_ahead 17 = .ok (.getfield 84, 3) := by decide +kernel
theorem dX9_ahead_20 : decode cX9_ahead 20 = .ok (.invokevirtual 153, 3) := by decide +kernel
theorem dX9_ahead_23 : decode cX9_ahead 23 = .ok (.goto 11, 3) := by decide +kernel
theorem dX9_ahead_26 : decode cX9_ahead 26 = .ok (.aload_n 0, 1) := by decide +kernel
theorem dX9_ahead_27 : decode cX9_ahead 27 = .ok (.aload_n 0, 1) := by decide +kernel
theorem dX9_ahead_28 : decode cX9_ahead 28 = .ok (.getfield 84, 3) := by decide +kernel
theorem dX9_ahead_31 : decode cX9_ahead 31 = .ok (.invokevirtual 159, 3) := by decide +kernel
theorem dX9_ahead_34 : decode cX9_ahead 34 = .ok (.istore_n 1, 1) := by decide +kernel
theorem dX9_ahead_35 : decode cX9_ahead 35 = .ok (.aload_n 0, 1) := by decide +kernel
theorem dX9_ahead_36 : decode cX9_ahead 36 = .ok (.getfield 84, 3) := by decide +kernel
theorem dX9_ahead_39 : decode cX9_ahead 39 = .ok (.aload_n 0, 1) := by decide +kernel
theorem dX9_ahead_40 : decode cX9_ahead 40 = .ok (.getfield 81, 3) := by decide +kernel
theorem dX9_ahead_43 : decode cX9_ahead 43 = .ok (.if_icmp .ne 5, 3) := by decide +kernel
theorem dX9_ahead_46 : decode cX9_ahead 46 = .ok (.iconst 0, 1) := by decide +kernel
theorem dX9_ahead_47 : decode cX9_ahead 47 = .ok (.ireturn, 1) := by decide +kernel
theorem dX9_ahead_48 : decode cX9_ahead 48 = .ok (.aload_n 0, 1) := by decide +kernel
theorem dX9_ahead_49 : decode cX9_ahead 49 = .ok (.aload_n 0, 1) := by decide +kernel
theorem dX9_ahead_50 : decode cX9_ahead 50 = .ok (.getfield 50, 3) := by decide +kernel
theorem dX9_ahead_53 : decode cX9_ahead 53 = .ok (.iload_n 1, 1) := by decide +kernel
theorem dX9_ahead_54 : decode cX9_ahead 54 = .ok (.iaload, 1) := by decide +kernel
theorem dX9_ahead_55 : decode cX9_ahead 55 = .ok (.aload_n 0, 1) := by decide +kernel
theorem dX9_ahead_56 : decode cX9_ahead 56 = .ok (.getfield 50, 3) := by decide +kernel
theorem dX9_ahead_59 : decode cX9_ahead 59 = .ok (.iload_n 1, 1) := by decide +kernel
theorem dX9_ahead_60 : decode cX9_ahead 60 = .ok (.iaload, 1) := by decide +kernel
theorem dX9_ahead_61 : decode cX9_ahead 61 = .ok (.aload_n 0, 1) := by decide +kernel
theorem dX9_ahead_62 : decode cX9_ahead 62 = .ok (.getfield 53, 3) := by decide +kernel
theorem dX9_ahead_65 : decode cX9_ahead 65 = .ok (.iload_n 1, 1) := by decide +kernel
theorem dX9_ahead_66 : decode cX9_ahead 66 = .ok (.iaload, 1) := by decide +kernel
theorem dX9_ahead_67 : decode cX9_ahead 67 = .ok (.iadd, 1) := by decide +kernel
theorem dX9_ahead_68 : decode cX9_ahead 68 = .ok (.iconst 0, 1) := by decide +kernel
theorem dX9_ahead_69 : decode cX9_ahead 69 = .ok (.invokevirtual 206, 3) := by decide +kernel
theorem dX9_ahead_72 : decode cX9_ahead 72 = .ok (.ireturn, 1) := by decide +kernel
theorem dX9_type_0 : decode cX9_type 0 = .ok (.iload_n 1, 1) := by decide +kernel
theorem dX9_type_1 : decode cX9_type 1 = .ok (.invokestatic 168, 3) := by decide +kernel
theorem dX9_type_4 : decode cX9_type 4 = .ok (.ifCond .eq 12, 3) := by decide +kernel
theorem dX9_type_7 : decode cX9_type 7 = .ok (.aload_n 0, 1) := by decide +kernel
theorem dX9_type_8 : decode cX9_type 8 = .ok (.getfield 81, 3) := by decide +kernel
theorem dX9_type_11 : decode cX9_type 11 = .ok (.bipush 60, 2) := by decide +kernel
theorem dX9_type_13 : decode cX9_type 13 = .ok (.if_icmp .ne 5, 3) := by decide +kernel
theorem dX9_type_16 : decode cX9_type 16 = .ok (.iconst 0, 1) := by decide +kernel
theorem dX9_type_17 : decode cX9_type 17 = .ok (.ireturn, 1) := by decide +kernel
theorem dX9_type_18 : decode cX9_type 18 = .ok (.aload_n 0, 1) := by decide +kernel
theorem dX9_type_19 : decode cX9_type 19 = .ok (.invokevirtual 171, 3) := by decide +kernel
theorem dX9_type_22 : decode cX9_type 22 = .ok (.aload_n 0, 1) := by decide +kernel
theorem dX9_type_23 : decode cX9_type 23 = .ok (.getfield 81, 3) := by decide +kernel
theorem dX9_type_26 : decode cX9_type 26 = .ok (.istore_n 2, 1) := by decide +kernel
theorem dX9_type_27 : decode cX9_type 27 = .ok (.iload_n 2, 1) := by decide +kernel
theorem dX9_type_28 : decode cX9_type 28 = .ok (.aload_n 0, 1) := by decide +kernel
theorem dX9_type_29 : decode cX9_type 29 = .ok (.getfield 84, 3) := by decide +kernel
theorem dX9_type_32 : decode cX9_type 32 = .ok (.if_icmp .le 23, 3) := by decide +kernel
theorem dX9_type_35 : decode cX9_type 35 = .ok (.aload_n 0, 1) := by decide +kernel
theorem dX9_type_36 : decode cX9_type 36 = .ok (.getfield 7, 3) := by decide +kernel
theorem dX9_type_39 : decode cX9_type 39 = .ok (.iload_n 2, 1) := by decide +kernel
theorem dX9_type_40 : decode cX9_type 40 = .ok (.aload_n 0, 1) := by decide +kernel
theorem dX9_type_41 : decode cX9_type 41 = .ok (.getfield 7, 3) := by decide +kernel
theorem dX9_type_44 : decode cX9_type 44 = .ok (.iload_n 2, 1) := by decide +kernel
theorem dX9_type_45 : decode cX9_type 45 = .ok (.iconst 1, 1) := by decide +kernel
theorem dX9_type_46 : decode cX9_type 46 = .ok (.isub, 1) := by decide +kernel
theorem dX9_type_47 : decode cX9_type 47 = .ok (.iaload, 1) := by decide +kernel
theorem dX9_type_48 : decode cX9_type 48 = .ok (.iastore, 1) := by decide +kernel
theorem dX9_type_49 : decode cX9_type 49 = .ok (.iinc 2 (-1), 3) := by decide +kernel
theorem dX9_type_52 : decode cX9_type 52 = .ok (.goto (-25), 3) := by decide +kernel
theorem dX9_type_55 : decode cX9_type 55 = .ok (.aload_n 0, 1) := by decide +kernel
theorem dX9_type_56 : decode cX9_type 56 = .ok (.getfield 7, 3) := by decide +kernel
theorem dX9_type_59 : decode cX9_type 59 = .ok (.aload_n 0, 1) := by decide +kernel
theorem dX9_type_60 : decode cX9_type 60 = .ok (.getfield 84, 3) := by decide +kernel
theorem dX9_type_63 : decode cX9_type 63 = .ok (.iload_n 1, 1) := by decide +kernel
theorem dX9_type_64 : decode cX9_type 64 = .ok (.iastore, 1) := by decide +kernel
theorem dX9_type_65 : decode cX9_type 65 = .ok (.aload_n 0, 1) := by decide +kernel
theorem dX9_type_66 : decode cX9_type 66 = .ok (.dup, 1) := by decide +kernel
theorem dX9_type_67 : decode cX9_type 67 = .ok (.getfield 81, 3) := by decide +kernel
theorem dX9_type_70 : decode cX9_type 70 = .ok (.iconst 1, 1) := by decide +kernel
theorem dX9_type_71 : decode cX9_type 71 = .ok (.iadd, 1) := by decide +kernel
theorem dX9_type_72 : decode cX9_type 72 = .ok (.putfield 81, 3) := by decide +kernel
theorem dX9_type_75 : decode cX9_type 75 = .ok (.aload_n 0, 1) := by decide +kernel
theorem dX9_type_76 : decode cX9_type 76 = .ok (.aload_n 0, 1) := by decide +kernel
theorem dX9_type_77 : decode cX9_type 77 = .ok (.getfield 84, 3) := by decide +kernel
theorem dX9_type_80 : decode cX9_type 80 = .ok (.iconst 1, 1) := by decide +kernel
theorem dX9_type_81 : decode cX9_type 81 = .ok (.iadd, 1) := by decide +kernel
theorem dX9_type_82 : decode cX9_type 82 = .ok (.iconst 0, 1) := by decide +kernel
theorem dX9_type_83 : decode cX9_type 83 = .ok (.invokevirtual 187, 3) := by decide +kernel
theorem dX9_type_86 : decode cX9_type 86 = .ok (.aload_n 0, 1) := by decide +kernel
theorem dX9_type_87 : decode cX9_type 87 = .ok (.invokevirtual 174, 3) := by decide +kernel
theorem dX9_type_90 : decode cX9_type 90 = .ok (.iconst 1, 1) := by decide +kernel
theorem dX9_type_91 : decode cX9_type 91 = .ok (.ireturn, 1) := by decide +kernel
theorem dX9_cut_0 : decode cX9_cut 0 = .ok (.aload_n 0, 1) := by decide +kernel
theorem dX9_cut_1 : decode cX9_cut 1 = .ok (.invokevirtual 162, 3) := by decide +kernel
theorem dX9_cut_4 : decode cX9_cut 4 = .ok (.iload_n 1, 1) := by decide +kernel
theorem dX9_cut_5 : decode cX9_cut 5 = .ok (.ifCond .lt 39, 3) := by decide +kernel
theorem dX9_cut_8 : decode cX9_cut 8 = .ok (.iload_n 1, 1) := by decide +kernel
theorem dX9_cut_9 : decode cX9_cut 9 = .ok (.aload_n 0, 1) := by decide +kernel
theorem dX9_cut_10 : decode cX9_cut 10 = .ok (.getfield 81, 3) := by decide +kernel
theorem dX9_cut_13 : decode cX9_cut 13 = .ok (.if_icmp .gt 31, 3) := by decide +kernel
theorem dX9_cut_16 : decode cX9_cut 16 = .ok (.iload_n 2, 1) := by decide +kernel
theorem dX9_cut_17 : decode cX9_cut 17 = .ok (.ifCond .lt 27, 3) := by decide +kernel
theorem dX9_cut_20 : decode cX9_cut 20 = .ok (.iload_n 2, 1) := by decide +kernel
theorem dX9_cut_21 : decode cX9_cut 21 = .ok (.aload_n 0, 1) := by decide +kernel
theorem dX9_cut_22 : decode cX9_cut 22 = .ok (.getfield 81, 3) := by decide +kernel
theorem dX9_cut_25 : decode cX9_cut 25 = .ok (.if_icmp .gt 19, 3) := by decide +kernel
theorem dX9_cut_28 : decode cX9_cut 28 = .ok (.aload_n 0, 1) := by decide +kernel
theorem dX9_cut_29 : decode cX9_cut 29 = .ok (.iload_n 1, 1) := by decide +kernel
theorem dX9_cut_30 : decode cX9_cut 30 = .ok (.invokevirtual 165, 3) := by decide +kernel
theorem dX9_cut_33 : decode cX9_cut 33 = .ok (.ifCond .eq 11, 3) := by decide +kernel
theorem dX9_cut_36 : decode cX9_cut 36 = .ok (.aload_n 0, 1) := by decide +kernel
theorem dX9_cut_37 : decode cX9_cut 37 = .ok (.iload_n 2, 1) := by decide +kernel
theorem dX9_cut_38 : decode cX9_cut 38 = .ok (.invokevirtual 165, 3) := by decide +kernel
theorem dX9_cut_41 : decode cX9_cut 41 = .ok (.ifCond .ne 5, 3) := by decide +kernel
theorem dX9_cut_44 : decode cX9_cut 44 = .ok (.iconst (-1), 1) := by decide +kernel
theorem dX9_cut_45 : decode cX9_cut 45 = .ok (.ireturn, 1) := by decide +kernel
theorem dX9_cut_46 : decode cX9_cut 46 = .ok (.aload_n 0, 1) := by decide +kernel
theorem dX9_cut_47 : decode cX9_cut 47 = .ok (.iload_n 1, 1) := by decide +kernel
theorem dX9_cut_48 : decode cX9_cut 48 = .ok (.iload_n 2, 1) := by decide +kernel
theorem dX9_cut_49 : decode cX9_cut 49 = .ok (.if_icmp .ge 7, 3) := by decide +kernel
theorem dX9_cut_52 : decode cX9_cut 52 = .ok (.iload_n 1, 1) := by decide +kernel
theorem dX9_cut_53 : decode cX9_cut 53 = .ok (.goto 4, 3) := by decide +kernel
theorem dX9_cut_56 : decode cX9_cut 56 = .ok (.iload_n 2, 1) := by decide +kernel
theorem dX9_cut_57 : decode cX9_cut 57 = .ok (.iload_n 1, 1) := by decide +kernel
theorem dX9_cut_58 : decode cX9_cut 58 = .ok (.iload_n 2, 1) := by decide +kernel
theorem dX9_cut_59 : decode cX9_cut 59 = .ok (.if_icmp .ge 7, 3) := by decide +kernel
theorem dX9_cut_62 : decode cX9_cut 62 = .ok (.iload_n 2, 1) := by decide +kernel
theorem dX9_cut_63 : decode cX9_cut 63 = .ok (.goto 4, 3) := by decide +kernel
theorem dX9_cut_66 : decode cX9_cut 66 = .ok (.iload_n 1, 1) := by decide +kernel
theorem dX9_cut_67 : decode cX9_cut 67 = .ok (.iconst 0, 1) := by decide +kernel
theorem dX9_cut_68 : decode cX9_cut 68 = .ok (.invokevirtual 206, 3) := by decide +kernel
theorem dX9_cut_71 : decode cX9_cut 71 = .ok (.ireturn, 1) := by decide +kernel
