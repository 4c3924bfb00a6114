theorem dX9_init_0 : decode cX9_init 0 = .ok (.aload_n 0, 1) := by decide +kernel
theorem dX9_init_1 : decode cX9_init 1 = .ok (.invokespecial 1, 3) := by decide +kernel
theorem dX9_init_4 : decode cX9_init 4 = .ok (.aload_n 0, 1) := by decide +kernel
theorem dX9_init_5 : decode cX9_init 5 = .ok (.bipush 64, 2) := by decide +kernel
theorem dX9_init_7 : decode cX9_init 7 = .ok (.newarray .int, 2) := by decide +kernel
theorem dX9_init_9 : decode cX9_init 9 = .ok (.putfield 7, 3) := by decide +kernel
theorem dX9_init_12 : decode cX9_init 12 = .ok (.aload_n 0, 1) := by decide +kernel
theorem dX9_init_13 : decode cX9_init 13 = .ok (.bipush 8, 2) := by decide +kernel
theorem dX9_init_15 : decode cX9_init 15 = .ok (.newarray .int, 2) := by decide +kernel
theorem dX9_init_17 : decode cX9_init 17 = .ok (.putfield 13, 3) := by decide +kernel
theorem dX9_init_20 : decode cX9_init 20 = .ok (.aload_n 0, 1) := by decide +kernel
theorem dX9_init_21 : decode cX9_init 21 = .ok (.sipush 512, 3) := by decide +kernel
theorem dX9_init_24 : decode cX9_init 24 = .ok (.newarray .int, 2) := by decide +kernel
theorem dX9_init_26 : decode cX9_init 26 = .ok (.putfield 16, 3) := by decide +kernel
theorem dX9_init_29 : decode cX9_init 29 = .ok (.aload_n 0, 1) := by decide +kernel
theorem dX9_init_30 : decode cX9_init 30 = .ok (.bipush 8, 2) := by decide +kernel
theorem dX9_init_32 : decode cX9_init 32 = .ok (.newarray .int, 2) := by decide +kernel
theorem dX9_init_34 : decode cX9_init 34 = .ok (.putfield 19, 3) := by decide +kernel
theorem dX9_init_37 : decode cX9_init 37 = .ok (.aload_n 0, 1) := by decide +kernel
theorem dX9_init_38 : decode cX9_init 38 = .ok (.bipush 8, 2) := by decide +kernel
theorem dX9_init_40 : decode cX9_init 40 = .ok (.newarray .int, 2) := by decide +kernel
theorem dX9_init_42 : decode cX9_init 42 = .ok (.putfield 22, 3) := by decide +kernel
theorem dX9_init_45 : decode cX9_init 45 = .ok (.aload_n 0, 1) := by decide +kernel
theorem dX9_init_46 : decode cX9_init 46 = .ok (.bipush 64, 2) := by decide +kernel
theorem dX9_init_48 : decode cX9_init 48 = .ok (.newarray .int, 2) := by decide +kernel
theorem dX9_init_50 : decode cX9_init 50 = .ok (.putfield 25, 3) := by decide +kernel
theorem dX9_init_53 : decode cX9_init 53 = .ok (.aload_n 0, 1) := by decide +kernel
theorem dX9_init_54 : decode cX9_init 54 = .ok (.bipush 64, 2) := by decide +kernel
theorem dX9_init_56 : decode cX9_init 56 = .ok (.newarray .int, 2) := by decide +kernel
theorem dX9_init_58 : decode cX9_init 58 = .ok (.putfield 28, 3) := by decide +kernel
theorem dX9_init_61 : decode cX9_init 61 = .ok (.aload_n 0, 1) := by decide +kernel
theorem dX9_init_62 : decode cX9_init 62 = .ok (.bipush 64, 2) := by decide +kernel
theorem dX9_init_64 : decode cX9_init 64 = .ok (.newarray .int, 2) := by decide +kernel
theorem dX9_init_66 : decode cX9_init 66 = .ok (.putfield 31, 3) := by decide +kernel
theorem dX9_init_69 : decode cX9_init 69 = .ok (.aload_n 0, 1) := by decide +kernel
theorem dX9_init_70 : decode cX9_init 70 = .ok (.bipush 64, 2) := by decide +kernel
theorem dX9_init_72 : decode cX9_init 72 = .ok (.newarray .boolean, 2) := by decide +kernel
theorem dX9_init_74 : decode cX9_init 74 = .ok (.putfield 34, 3) := by decide +kernel
theorem dX9_init_77 : decode cX9_init 77 = .ok (.aload_n 0, 1) := by decide +kernel
theorem dX9_init_78 : decode cX9_init 78 = .ok (.bipush 64, 2) := by decide +kernel
theorem dX9_init_80 : decode cX9_init 80 = .ok (.newarray .int, 2) := by decide +kernel
theorem dX9_init_82 : decode cX9_init 82 = .ok (.putfield 38, 3) := by decide +kernel
theorem dX9_init_85 : decode cX9_init 85 = .ok (.aload_n 0, 1) := by decide +kernel
theorem dX9_init_86 : decode cX9_init 86 = .ok (.bipush 64, 2) := by decide +kernel
theorem dX9_init_88 : decode cX9_init 88 = .ok (.newarray .int, 2) := by decide +kernel
theorem dX9_init_90 : decode cX9_init 90 = .ok (.putfield 41, 3) := by decide +kernel
theorem dX9_init_93 : decode cX9_init 93 = .ok (.aload_n 0, 1) := by decide +kernel
theorem dX9_init_94 : decode cX9_init 94 = .ok (.bipush 64, 2) := by decide +kernel
theorem dX9_init_96 : decode cX9_init 96 = .ok (.newarray .int, 2) := by decide +kernel
theorem dX9_init_98 : decode cX9_init 98 = .ok (.putfield 44, 3) := by decide +kernel
theorem dX9_init_101 : decode cX9_init 101 = .ok (.aload_n 0, 1) := by decide +kernel
theorem dX9_init_102 : decode cX9_init 102 = .ok (.bipush 64, 2) := by decide +kernel
theorem dX9_init_104 : decode cX9_init 104 = .ok (.newarray .boolean, 2) := by decide +kernel
theorem dX9_init_106 : decode cX9_init 106 = .ok (.putfield 47, 3) := by decide +kernel
theorem dX9_init_109 : decode cX9_init 109 = .ok (.aload_n 0, 1) := by decide +kernel
theorem dX9_init_110 : decode cX9_init 110 = .ok (.bipush 64, 2) := by decide +kernel
theorem dX9_init_112 : decode cX9_init 112 = .ok (.newarray .int, 2) := by decide +kernel
theorem dX9_init_114 : decode cX9_init 114 = .ok (.putfield 50, 3) := by decide +kernel
theorem dX9_init_117 : decode cX9_init 117 = .ok (.aload_n 0, 1) := by decide +kernel
theorem dX9_init_118 : decode cX9_init 118 = .ok (.bipush 64, 2) := by decide +kernel
theorem dX9_init_120 : decode cX9_init 120 = .ok (.newarray .int, 2) := by decide +kernel
theorem dX9_init_122 : decode cX9_init 122 = .ok (.putfield 53, 3) := by decide +kernel
theorem dX9_init_125 : decode cX9_init 125 = .ok (.aload_n 0, 1) := by decide +kernel
theorem dX9_init_126 : decode cX9_init 126 = .ok (.bipush 64, 2) := by decide +kernel
theorem dX9_init_128 : decode cX9_init 128 = .ok (.newarray .boolean, 2) := by decide +kernel
theorem dX9_init_130 : decode cX9_init 130 = .ok (.putfield 56, 3) := by decide +kernel
theorem dX9_init_133 : decode cX9_init 133 = .ok (.aload_n 0, 1) := by decide +kernel
theorem dX9_init_134 : decode cX9_init 134 = .ok (.bipush 64, 2) := by decide +kernel
theorem dX9_init_136 : decode cX9_init 136 = .ok (.newarray .int, 2) := by decide +kernel
theorem dX9_init_138 : decode cX9_init 138 = .ok (.putfield 59, 3) := by decide +kernel
theorem dX9_init_141 : decode cX9_init 141 = .ok (.aload_n 0, 1) := by decide +kernel
theorem dX9_init_142 : decode cX9_init 142 = .ok (.bipush 64, 2) := by decide +kernel
theorem dX9_init_144 : decode cX9_init 144 = .ok (.newarray .int, 2) := by decide +kernel
theorem dX9_init_146 : decode cX9_init 146 = .ok (.putfield 62, 3) := by decide +kernel
theorem dX9_init_149 : decode cX9_init 149 = .ok (.aload_n 0, 1) := by decide +kernel
theorem dX9_init_150 : decode cX9_init 150 = .ok (.bipush 64, 2) := by decide +kernel
theorem dX9_init_152 : decode cX9_init 152 = .ok (.newarray .int, 2) := by decide +kernel
theorem dX9_init_154 : decode cX9_init 154 = .ok (.putfield 65, 3) := by decide +kernel
theorem dX9_init_157 : decode cX9_init 157 = .ok (.aload_n 0, 1) := by decide +kernel
theorem dX9_init_158 : decode cX9_init 158 = .ok (.bipush 64, 2) := by decide +kernel
theorem dX9_init_160 : decode cX9_init 160 = .ok (.newarray .int, 2) := by decide +kernel
theorem dX9_init_162 : decode cX9_init 162 = .ok (.putfield 68, 3) := by decide +kernel
theorem dX9_init_165 : decode cX9_init 165 = .ok (.aload_n 0, 1) := by decide +kernel
theorem dX9_init_166 : decode cX9_init 166 = .ok (.bipush 64, 2) := by decide +kernel
theorem dX9_init_168 : decode cX9_init 168 = .ok (.newarray .int, 2) := by decide +kernel
theorem dX9_init_170 : decode cX9_init 170 = .ok (.putfield 71, 3) := by decide +kernel
theorem dX9_init_173 : decode cX9_init 173 = .ok (.aload_n 0, 1) := by decide +kernel
theorem dX9_init_174 : decode cX9_init 174 = .ok (.bipush 64, 2) := by decide +kernel
theorem dX9_init_176 : decode cX9_init 176 = .ok (.newarray .int, 2) := by decide +kernel
theorem dX9_init_178 : decode cX9_init 178 = .ok (.putfield 74, 3) := by decide +kernel
theorem dX9_init_181 : decode cX9_init 181 = .ok (.return_, 1) := by decide +kernel
theorem dX9_keeps_0 : decode cX9_keeps 0 = .ok (.aload_n 0, 1) := by decide +kernel
theorem dX9_keeps_1 : decode cX9_keeps 1 = .ok (.getfield 77, 3) := by decide +kernel
theorem dX9_keeps_4 : decode cX9_keeps 4 = .ok (.bipush 8, 2) := by decide +kernel
theorem dX9_keeps_6 : decode cX9_keeps 6 = .ok (.if_icmp .ne 95, 3) := by decide +kernel
theorem dX9_keeps_9 : decode cX9_keeps 9 = .ok (.iconst 0, 1) := by decide +kernel
theorem dX9_keeps_10 : decode cX9_keeps 10 = .ok (.istore_n 1, 1) := by decide +kernel
theorem dX9_keeps_11 : decode cX9_keeps 11 = .ok (.iload_n 1, 1) := by decide +kernel
theorem dX9_keeps_12 : decode cX9_keeps 12 = .ok (.bipush 7, 2) := by decide +kernel
theorem dX9_keeps_14 : decode cX9_keeps 14 = .ok (.if_icmp .ge 51, 3) := by decide +kernel
theorem dX9_keeps_17 : decode cX9_keeps 17 = .ok (.aload_n 0, 1) := by decide +kernel
theorem dX9_keeps_18 : decode cX9_keeps 18 = .ok (.getfield 13, 3) := by decide +kernel
theorem dX9_keeps_21 : decode cX9_keeps 21 = .ok (.iload_n 1, 1) := by decide +kernel
theorem dX9_keeps_22 : decode cX9_keeps 22 = .ok (.aload_n 0, 1) := by decide +kernel
theorem dX9_keeps_23 : decode cX9_keeps 23 = .ok (.getfield 13, 3) := by decide +kernel
theorem dX9_keeps_26 : decode cX9_keeps 26 = .ok (.iload_n 1, 1) := by decide +kernel
theorem dX9_keeps_27 : decode cX9_keeps 27 = .ok (.iconst 1, 1) := by decide +kernel
theorem dX9_keeps_28 : decode cX9_keeps 28 = .ok (.iadd, 1) := by decide +kernel
theorem dX9_keeps_29 : decode cX9_keeps 29 = .ok (.iaload, 1) := by decide +kernel
theorem dX9_keeps_30 : decode cX9_keeps 30 = .ok (.iastore, 1) := by decide +kernel
theorem dX9_keeps_31 : decode cX9_keeps 31 = .ok (.aload_n 0, 1) := by decide +kernel
theorem dX9_keeps_32 : decode cX9_keeps 32 = .ok (.getfield 19, 3) := by decide +kernel
theorem dX9_keeps_35 : decode cX9_keeps 35 = .ok (.iload_n 1, 1) := by decide +kernel
theorem dX9_keeps_36 : decode cX9_keeps 36 = .ok (.aload_n 0, 1) := by decide +kernel
theorem dX9_keeps_37 : decode cX9_keeps 37 = .ok (.getfield 19, 3) := by decide +kernel
theorem dX9_keeps_40 : decode cX9_keeps 40 = .ok (.iload_n 1, 1) := by decide +kernel
theorem dX9_keeps_41 : decode cX9_keeps 41 = .ok (.iconst 1, 1) := by decide +kernel
theorem dX9_keeps_42 : decode cX9_keeps 42 = .ok (.iadd, 1) := by decide +kernel
theorem dX9_keeps_43 : decode cX9_keeps 43 = .ok (.iaload, 1) := by decide +kernel
theorem dX9_keeps_44 : decode cX9_keeps 44 = .ok (.iastore, 1) := by decide +kernel
theorem dX9_keeps_45 : decode cX9_keeps 45 = .ok (.aload_n 0, 1) := by decide +kernel
theorem dX9_keeps_46 : decode cX9_keeps 46 = .ok (.getfield 22, 3) := by decide +kernel
theorem dX9_keeps_49 : decode cX9_keeps 49 = .ok (.iload_n 1, 1) := by decide +kernel
theorem dX9_keeps_50 : decode cX9_keeps 50 = .ok (.aload_n 0, 1) := by decide +kernel
theorem dX9_keeps_51 : decode cX9_keeps 51 = .ok (.getfield 22, 3) := by decide +kernel
theorem dX9_keeps_54 : decode cX9_keeps 54 = .ok (.iload_n 1, 1) := by decide +kernel
theorem dX9_keeps_55 : decode cX9_keeps 55 = .ok (.iconst 1, 1) := by decide +kernel
theorem dX9_keeps_56 : decode cX9_keeps 56 = .ok (.iadd, 1) := by decide +kernel
theorem dX9_keeps_57 : decode cX9_keeps 57 = .ok (.iaload, 1) := by decide +kernel
theorem dX9_keeps_58 : decode cX9_keeps 58 = .ok (.iastore, 1) := by decide +kernel
theorem dX9_keeps_59 : decode cX9_keeps 59 = .ok (.iinc 1 1, 3) := by decide +kernel
theorem dX9_keeps_62 : decode cX9_keeps 62 = .ok (.goto (-51), 3) := by decide +kernel
theorem dX9_keeps_65 : decode cX9_keeps 65 = .ok (.iconst 0, 1) := by decide +kernel
theorem dX9_keeps_66 : decode cX9_keeps 66 = .ok (.istore_n 1, 1) := by decide +kernel
theorem dX9_keeps_67 : decode cX9_keeps 67 = .ok (.iload_n 1, 1) := by decide +kernel
theorem dX9_keeps_68 : decode cX9_keeps 68 = .ok (.sipush 448, 3) := by decide +kernel
theorem dX9_keeps_71 : decode cX9_keeps 71 = .ok (.if_icmp .ge 24, 3) := by decide +kernel
theorem dX9_keeps_74 : decode cX9_keeps 74 = .ok (.aload_n 0, 1) := by decide +kernel
theorem dX9_keeps_75 : decode cX9_keeps 75 = .ok (.getfield 16, 3) := by decide +kernel
theorem dX9_keeps_78 : decode cX9_keeps 78 = .ok (.iload_n 1, 1) := by decide +kernel
theorem dX9_keeps_79 : decode cX9_keeps 79 = .ok (.aload_n 0, 1) := by decide +kernel
theorem dX9_keeps_80 : decode cX9_keeps 80 = .ok (.getfield 16, 3) := by decide +kernel
theorem dX9_keeps_83 : decode cX9_keeps 83 = .ok (.iload_n 1, 1) := by decide +kernel
theorem dX9_keeps_84 : decode cX9_keeps 84 = .ok (.bipush 64, 2) := by decide +kernel
theorem dX9_keeps_86 : decode cX9_keeps 86 = .ok (.iadd, 1) := by decide +kernel
theorem dX9_keeps_87 : decode cX9_keeps 87 = .ok (.iaload, 1) := by decide +kernel
theorem dX9_keeps_88 : decode cX9_keeps 88 = .ok (.iastore, 1) := by decide +kernel
theorem dX9_keeps_89 : decode cX9_keeps 89 = .ok (.iinc 1 1, 3) := by decide +kernel
theorem dX9_keeps_92 : decode cX9_keeps 92 = .ok (.goto (-25), 3) := by decide +kernel
theorem dX9_keeps_95 : decode cX9_keeps 95 = .ok (.aload_n 0, 1) := by decide +kernel
theorem dX9_keeps_96 : decode cX9_keeps 96 = .ok (.bipush 7, 2) := by decide +kernel
theorem dX9_keeps_98 : decode cX9_keeps 98 = .ok (.putfield 77, 3) := by decide +kernel
theorem dX9_keeps_101 : decode cX9_keeps 101 = .ok (.aload_n 0, 1) := by decide +kernel
theorem dX9_keeps_102 : decode cX9_keeps 102 = .ok (.getfield 13, 3) := by decide +kernel
theorem dX9_keeps_105 : decode cX9_keeps 105 = .ok (.aload_n 0, 1) := by decide +kernel
theorem dX9_keeps_106 : decode cX9_keeps 106 = .ok (.getfield 77, 3) := by decide +kernel
theorem dX9_keeps_109 : decode cX9_keeps 109 = .ok (.aload_n 0, 1) := by decide +kernel
theorem dX9_keeps_110 : decode cX9_keeps 110 = .ok (.getfield 81, 3) := by decide +kernel
theorem dX9_keeps_113 : decode cX9_keeps 113 = .ok (.iastore, 1) := by decide +kernel
theorem dX9_keeps_114 : decode cX9_keeps 114 = .ok (.aload_n 0, 1) := by decide +kernel
theorem dX9_keeps_115 : decode cX9_keeps 115 = .ok (.getfield 19, 3) := by decide +kernel
theorem dX9_keeps_118 : decode cX9_keeps 118 = .ok (.aload_n 0, 1) := by decide +kernel
theorem dX9_keeps_119 : decode cX9_keeps 119 = .ok (.getfield 77, 3) := by decide +kernel
theorem dX9_keeps_122 : decode cX9_keeps 122 = .ok (.aload_n 0, 1) := by decide +kernel
theorem dX9_keeps_123 : decode cX9_keeps 123 = .ok (.getfield 84, 3) := by decide +kernel
theorem dX9_keeps_126 : decode cX9_keeps 126 = .ok (.iastore, 1) := by decide +kernel
theorem dX9_keeps_127 : decode cX9_keeps 127 = .ok (.aload_n 0, 1) := by decide +kernel
theorem dX9_keeps_128 : decode cX9_keeps 128 = .ok (.getfield 22, 3) := by decide +kernel
theorem dX9_keeps_131 : decode cX9_keeps 131 = .ok (.aload_n 0, 1) := by decide +kernel
theorem dX9_keeps_132 : decode cX9_keeps 132 = .ok (.getfield 77, 3) := by decide +kernel
theorem dX9_keeps_135 : decode cX9_keeps 135 = .ok (.aload_n 0, 1) := by decide +kernel
theorem dX9_keeps_136 : decode cX9_keeps 136 = .ok (.getfield 87, 3) := by decide +kernel
theorem dX9_keeps_139 : decode cX9_keeps 139 = .ok (.iastore, 1) := by decide +kernel
theorem dX9_keeps_140 : decode cX9_keeps 140 = .ok (.iconst 0, 1) := by decide +kernel
theorem dX9_keeps_141 : decode cX9_keeps 141 = .ok (.istore_n 1, 1) := by decide +kernel
theorem dX9_keeps_142 : decode cX9_keeps 142 = .ok (.iload_n 1, 1) := by decide +kernel
theorem dX9_keeps_143 : decode cX9_keeps 143 = .ok (.bipush 64, 2) := by decide +kernel
theorem dX9_keeps_145 : decode cX9_keeps 145 = .ok (.if_icmp .ge 29, 3) := by decide +kernel
theorem dX9_keeps_148 : decode cX9_keeps 148 = .ok (.aload_n 0, 1) := by decide +kernel
theorem dX9_keeps_149 : decode cX9_keeps 149 = .ok (.getfield 16, 3) := by decide +kernel
theorem dX9_keeps_152 : decode cX9_keeps 152 = .ok (.bipush 64, 2) := by decide +kernel
theorem dX9_keeps_154 : decode cX9_keeps 154 = .ok (.aload_n 0, 1) := by decide +kernel
theorem dX9_keeps_155 : decode cX9_keeps 155 = .ok (.getfield 77, 3) := by decide +kernel
theorem dX9_keeps_158 : decode cX9_keeps 158 = .ok (.imul, 1) := by decide +kernel
theorem dX9_keeps_159 : decode cX9_keeps 159 = .ok (.iload_n 1, 1) := by decide +kernel
theorem dX9_keeps_160 : decode cX9_keeps 160 = .ok (.iadd, 1) := by decide +kernel
theorem dX9_keeps_161 : decode cX9_keeps 161 = .ok (.aload_n 0, 1) := by decide +kernel
theorem dX9_keeps_162 : decode cX9_keeps 162 = .ok (.getfield 7, 3) := by decide +kernel
theorem dX9_keeps_165 : decode cX9_keeps 165 = .ok (.iload_n 1, 1) := by decide +kernel
theorem dX9_keeps_166 : decode cX9_keeps 166 = .ok (.iaload, 1) := by decide +kernel
theorem dX9_keeps_167 : decode cX9_keeps 167 = .ok (.iastore, 1) := by decide +kernel
theorem dX9_keeps_168 : decode cX9_keeps 168 = .ok (.iinc 1 1, 3) := by decide +kernel
theorem dX9_keeps_171 : decode cX9_keeps 171 = .ok (.goto (-29), 3) := by decide +kernel
theorem dX9_keeps_174 : decode cX9_keeps 174 = .ok (.aload_n 0, 1) := by decide +kernel
theorem dX9_keeps_175 : decode cX9_keeps 175 = .ok (.dup, 1) := by decide +kernel
theorem dX9_keeps_176 : decode cX9_keeps 176 = .ok (.getfield 77, 3) := by decide +kernel
theorem dX9_keeps_179 : decode cX9_keeps 179 = .ok (.iconst 1, 1) := by decide +kernel
theorem dX9_keeps_180 : decode cX9_keeps 180 = .ok (.iadd, 1) := by decide +kernel
theorem dX9_keeps_181 : decode cX9_keeps 181 = .ok (.putfield 77, 3) := by decide +kernel
theorem dX9_keeps_184 : decode cX9_keeps 184 = .ok (.return_, 1) := by decide +kernel
theorem dX9_undo_0 : decode cX9_undo 0 = .ok (.aload_n 0, 1) := by decide +kernel
theorem dX9_undo_1 : decode cX9_undo 1 = .ok (.getfield 77, 3) := by decide +kernel
theorem dX9_undo_4 : decode cX9_undo 4 = .ok (.ifCond .ne 5, 3) := by decide +kernel
theorem dX9_undo_7 : decode cX9_undo 7 = .ok (.iconst (-1), 1) := by decide +kernel
theorem dX9_undo_8 : decode cX9_undo 8 = .ok (.ireturn, 1) := by decide +kernel
theorem dX9_undo_9 : decode cX9_undo 9 = .ok (.aload_n 0, 1) := by decide +kernel
theorem dX9_undo_10 : decode cX9_undo 10 = .ok (.dup, 1) := by decide +kernel
theorem dX9_undo_11 : decode cX9_undo 11 = .ok (.getfield 77, 3) := by decide +kernel
theorem dX9_undo_14 : decode cX9_undo 14 = .ok (.iconst 1, 1) := by decide +kernel
theorem dX9_undo_15 : decode cX9_undo 15 = .ok (.isub, 1) := by decide +kernel
theorem dX9_undo_16 : decode cX9_undo 16 = .ok (.putfield 77, 3) := by decide +kernel
theorem dX9_undo_19 : decode cX9_undo 19 = .ok (.aload_n 0, 1) := by decide +kernel
theorem dX9_undo_20 : decode cX9_undo 20 = .ok (.aload_n 0, 1) := by decide +kernel
theorem dX9_undo_21 : decode cX9_undo 21 = .ok (.getfield 13, 3) := by decide +kernel
theorem dX9_undo_24 : decode cX9_undo 24 = .ok (.aload_n 0, 1) := by decide +kernel
theorem dX9_undo_25 : decode cX9_undo 25 = .ok (.getfield 77, 3) := by decide +kernel
theorem dX9_undo_28 : decode cX9_undo 28 = .ok (.iaload, 1) := by decide +kernel
theorem dX9_undo_29 : decode cX9_undo 29 = .ok (.putfield 81, 3) := by decide +kernel
theorem dX9_undo_32 : decode cX9_undo 32 = .ok (.aload_n 0, 1) := by decide +kernel
theorem dX9_undo_33 : decode cX9_undo 33 = .ok (.aload_n 0, 1) := by decide +kernel
theorem dX9_undo_34 : decode cX9_undo 34 = .ok (.getfield 19, 3) := by decide +kernel
theorem dX9_undo_37 : decode cX9_undo 37 = .ok (.aload_n 0, 1) := by decide +kernel
theorem dX9_undo_38 : decode cX9_undo 38 = .ok (.getfield 77, 3) := by decide +kernel
theorem dX9_undo_41 : decode cX9_undo 41 = .ok (.iaload, 1) := by decide +kernel
theorem dX9_undo_42 : decode cX9_undo 42 = .ok (.putfield 84, 3) := by decide +kernel
theorem dX9_undo_45 : decode cX9_undo 45 = .ok (.aload_n 0, 1) := by decide +kernel
theorem dX9_undo_46 : decode cX9_undo 46 = .ok (.aload_n 0, 1) := by decide +kernel
theorem dX9_undo_47 : decode cX9_undo 47 = .ok (.getfield 22, 3) := by decide +kernel
theorem dX9_undo_50 : decode cX9_undo 50 = .ok (.aload_n 0, 1) := by decide +kernel
theorem dX9_undo_51 : decode cX9_undo 51 = .ok (.getfield 77, 3) := by decide +kernel
theorem dX9_undo_54 : decode cX9_undo 54 = .ok (.iaload, 1) := by decide +kernel
theorem dX9_undo_55 : decode cX9_undo 55 = .ok (.putfield 87, 3) := by decide +kernel
theorem dX9_undo_58 : decode cX9_undo 58 = .ok (.iconst 0, 1) := by decide +kernel
theorem dX9_undo_59 : decode cX9_undo 59 = .ok (.istore_n 1, 1) := by decide +kernel
theorem dX9_undo_60 : decode cX9_undo 60 = .ok (.iload_n 1, 1) := by decide +kernel
theorem dX9_undo_61 : decode cX9_undo 61 = .ok (.bipush 64, 2) := by decide +kernel
theorem dX9_undo_63 : decode cX9_undo 63 = .ok (.if_icmp .ge 29, 3) := by decide +kernel
theorem dX9_undo_66 : decode cX9_undo 66 = .ok (.aload_n 0, 1) := by decide +kernel
theorem dX9_undo_67 : decode cX9_undo 67 = .ok (.getfield 7, 3) := by decide +kernel
theorem dX9_undo_70 : decode cX9_undo 70 = .ok (.iload_n 1, 1) := by decide +kernel
theorem dX9_undo_71 : decode cX9_undo 71 = .ok (.aload_n 0, 1) := by decide +kernel
theorem dX9_undo_72 : decode cX9_undo 72 = .ok (.getfield 16, 3) := by decide +kernel
theorem dX9_undo_75 : decode cX9_undo 75 = .ok (.bipush 64, 2) := by decide +kernel
theorem dX9_undo_77 : decode cX9_undo 77 = .ok (.aload_n 0, 1) := by decide +kernel
theorem dX9_undo_78 : decode cX9_undo 78 = .ok (.getfield 77, 3) := by decide +kernel
theorem dX9_undo_81 : decode cX9_undo 81 = .ok (.imul, 1) := by decide +kernel
theorem dX9_undo_82 : decode cX9_undo 82 = .ok (.iload_n 1, 1) := by decide +kernel
theorem dX9_undo_83 : decode cX9_undo 83 = .ok (.iadd, 1) := by decide +kernel
theorem dX9_undo_84 : decode cX9_undo 84 = .ok (.iaload, 1) := by decide +kernel
theorem dX9_undo_85 : decode cX9_undo 85 = .ok (.iastore, 1) := by decide +kernel
theorem dX9_undo_86 : decode cX9_undo 86 = .ok (.iinc 1 1, 3) := by decide +kernel
theorem dX9_undo_89 : decode cX9_undo 89 = .ok (.goto (-29), 3) := by decide +kernel
theorem dX9_undo_92 : decode cX9_undo 92 = .ok (.aload_n 0, 1) := by decide +kernel
theorem dX9_undo_93 : decode cX9_undo 93 = .ok (.getfield 77, 3) := by decide +kernel
theorem dX9_undo_96 : decode cX9_undo 96 = .ok (.ireturn, 1) := by decide +kernel
theorem dX9_isForward_0 : decode cX9_isForward 0 = .ok (.iload_n 0, 1) := by decide +kernel
theorem dX9_isForward_1 : decode cX9_isForward 1 = .ok (.bipush 97, 2) := by decide +kernel
theorem dX9_isForward_3 : decode cX9_isForward 3 = .ok (.if_icmp .lt 13, 3) := by decide +kernel
theorem dX9_isForward_6 : decode cX9_isForward 6 = .ok (.iload_n 0, 1) := by decide +kernel
theorem dX9_isForward_7 : decode cX9_isForward 7 = .ok (.bipush 122, 2) := by decide +kernel
theorem dX9_isForward_9 : decode cX9_isForward 9 = .ok (.if_icmp .gt 7, 3) := by decide +kernel
theorem dX9_isForward_12 : decode cX9_isForward 12 = .ok (.iconst 1, 1) := by decide +kernel
theorem dX9_isForward_13 : decode cX9_isForward 13 = .ok (.goto 4, 3) := by decide +kernel
theorem dX9_isForward_16 : decode cX9_isForward 16 = .ok (.iconst 0, 1) := by decide +kernel
theorem dX9_isForward_17 : decode cX9_isForward 17 = .ok (.ireturn, 1) := by decide +kernel
theorem dX9_isBackward_0 : decode cX9_isBackward 0 = .ok (.iload_n 0, 1) := by decide +kernel
theorem dX9_isBackward_1 : decode cX9_isBackward 1 = .ok (.bipush 65, 2) := by decide +kernel
theorem dX9_isBackward_3 : decode cX9_isBackward 3 = .ok (.if_icmp .lt 13, 3) := by decide +kernel
theorem dX9_isBackward_6 : decode cX9_isBackward 6 = .ok (.iload_n 0, 1) := by decide +kernel
theorem dX9_isBackward_7 : decode cX9_isBackward 7 = .ok (.bipush 90, 2) := by decide +kernel
theorem dX9_isBackward_9 : decode cX9_isBackward 9 = .ok (.if_icmp .gt 7, 3) := by decide +kernel
theorem dX9_isBackward_12 : decode cX9_isBackward 12 = .ok (.iconst 1, 1) := by decide +kernel
theorem dX9_isBackward_13 : decode cX9_isBackward 13 = .ok (.goto 4, 3) := by decide +kernel
theorem dX9_isBackward_16 : decode cX9_isBackward 16 = .ok (.iconst 0, 1) := by decide +kernel
theorem dX9_isBackward_17 : decode cX9_isBackward 17 = .ok (.ireturn, 1) := by decide +kernel
theorem dX9_isLetter_0 : decode cX9_isLetter 0 = .ok (.iload_n 0, 1) := by decide +kernel
theorem dX9_isLetter_1 : decode cX9_isLetter 1 = .ok (.invokestatic 90, 3) := by decide +kernel
theorem dX9_isLetter_4 : decode cX9_isLetter 4 = .ok (.ifCond .ne 10, 3) := by decide +kernel
theorem dX9_isLetter_7 : decode cX9_isLetter 7 = .ok (.iload_n 0, 1) := by decide +kernel
theorem dX9_isLetter_8 : decode cX9_isLetter 8 = .ok (.invokestatic 94, 3) := by decide +kernel
theorem dX9_isLetter_11 : decode cX9_isLetter 11 = .ok (.ifCond .eq 7, 3) := by decide +kernel
theorem dX9_isLetter_14 : decode cX9_isLetter 14 = .ok (.iconst 1, 1) := by decide +kernel
theorem dX9_isLetter_15 : decode cX9_isLetter 15 = .ok (.goto 4, 3) := by decide +kernel
theorem dX9_isLetter_18 : decode cX9_isLetter 18 = .ok (.iconst 0, 1) := by decide +kernel
theorem dX9_isLetter_19 : decode cX9_isLetter 19 = .ok (.ireturn, 1) := by decide +kernel
theorem dX9_isDigit_0 : decode cX9_isDigit 0 = .ok (.iload_n 0, 1) := by decide +kernel
theorem dX9_isDigit_1 : decode cX9_isDigit 1 = .ok (.bipush 48, 2) := by decide +kernel
theorem dX9_isDigit_3 : decode cX9_isDigit 3 = .ok (.if_icmp .lt 13, 3) := by decide +kernel
theorem dX9_isDigit_6 : decode cX9_isDigit 6 = .ok (.iload_n 0, 1) := by decide +kernel
theorem dX9_isDigit_7 : decode cX9_isDigit 7 = .ok (.bipush 57, 2) := by decide +kernel
theorem dX9_isDigit_9 : decode cX9_isDigit 9 = .ok (.if_icmp .gt 7, 3) := by decide +kernel
theorem dX9_isDigit_12 : decode cX9_isDigit 12 = .ok (.iconst 1, 1) := by decide +kernel
theorem dX9_isDigit_13 : decode cX9_isDigit 13 = .ok (.goto 4, 3) := by decide +kernel
theorem dX9_isDigit_16 : decode cX9_isDigit 16 = .ok (.iconst 0, 1) := by decide +kernel
theorem dX9_isDigit_17 : decode cX9_isDigit 17 = .ok (.ireturn, 1) := by decide +kernel
theorem dX9_isMark_0 : decode cX9_isMark 0 = .ok (.iload_n 0, 1) := by decide +kernel
theorem dX9_isMark_1 : decode cX9_isMark 1 = .ok (.bipush 39, 2) := by decide +kernel
theorem dX9_isMark_3 : decode cX9_isMark 3 = .ok (.if_icmp .eq 9, 3) := by decide +kernel
theorem dX9_isMark_6 : decode cX9_isMark 6 = .ok (.iload_n 0, 1) := by decide +kernel
theorem dX9_isMark_7 : decode cX9_isMark 7 = .ok (.bipush 126, 2) := by decide +kernel
theorem dX9_isMark_9 : decode cX9_isMark 9 = .ok (.if_icmp .ne 7, 3) := by decide +kernel
theorem dX9_isMark_12 : decode cX9_isMark 12 = .ok (.iconst 1, 1) := by decide +kernel
theorem dX9_isMark_13 : decode cX9_isMark 13 = .ok (.goto 4, 3) := by decide +kernel
theorem dX9_isMark_16 : decode cX9_isMark 16 = .ok (.iconst 0, 1) := by decide +kernel
theorem dX9_isMark_17 : decode cX9_isMark 17 = .ok (.ireturn, 1) := by decide +kernel
theorem dX9_isIsle_0 : decode cX9_isIsle 0 = .ok (.iload_n 0, 1) := by decide +kernel
theorem dX9_isIsle_1 : decode cX9_isIsle 1 = .ok (.bipush 91, 2) := by decide +kernel
theorem dX9_isIsle_3 : decode cX9_isIsle 3 = .ok (.if_icmp .eq 15, 3) := by decide +kernel
theorem dX9_isIsle_6 : decode cX9_isIsle 6 = .ok (.iload_n 0, 1) := by decide +kernel
theorem dX9_isIsle_7 : decode cX9_isIsle 7 = .ok (.bipush 123, 2) := by decide +kernel
theorem dX9_isIsle_9 : decode cX9_isIsle 9 = .ok (.if_icmp .eq 9, 3) := by decide +kernel
theorem dX9_isIsle_12 : decode cX9_isIsle 12 = .ok (.iload_n 0, 1) := by decide +kernel
theorem dX9_isIsle_13 : decode cX9_isIsle 13 = .ok (.bipush 93, 2) := by decide +kernel
theorem dX9_isIsle_15 : decode cX9_isIsle 15 = .ok (.if_icmp .ne 7, 3) := by decide +kernel
theorem dX9_isIsle_18 : decode cX9_isIsle 18 = .ok (.iconst 1, 1) := by decide +kernel
theorem dX9_isIsle_19 : decode cX9_isIsle 19 = .ok (.goto 4, 3) := by decide +kernel
theorem dX9_isIsle_22 : decode cX9_isIsle 22 = .ok (.iconst 0, 1) := by decide +kernel
theorem dX9_isIsle_23 : decode cX9_isIsle 23 = .ok (.ireturn, 1) := by decide +kernel
theorem dX9_isSign_0 : decode cX9_isSign 0 = .ok (.iload_n 0, 1) := by decide +kernel
theorem dX9_isSign_1 : decode cX9_isSign 1 = .ok (.invokestatic 97, 3) := by decide +kernel
theorem dX9_isSign_4 : decode cX9_isSign 4 = .ok (.ifCond .ne 24, 3) := by decide +kernel
theorem dX9_isSign_7 : decode cX9_isSign 7 = .ok (.iload_n 0, 1) := by decide +kernel
theorem dX9_isSign_8 : decode cX9_isSign 8 = .ok (.invokestatic 100, 3) := by decide +kernel
theorem dX9_isSign_11 : decode cX9_isSign 11 = .ok (.ifCond .ne 17, 3) := by decide +kernel
theorem dX9_isSign_14 : decode cX9_isSign 14 = .ok (.iload_n 0, 1) := by decide +kernel
theorem dX9_isSign_15 : decode cX9_isSign 15 = .ok (.invokestatic 103, 3) := by decide +kernel
theorem dX9_isSign_18 : decode cX9_isSign 18 = .ok (.ifCond .ne 10, 3) := by decide +kernel
theorem dX9_isSign_21 : decode cX9_isSign 21 = .ok (.iload_n 0, 1) := by decide +kernel
theorem dX9_isSign_22 : decode cX9_isSign 22 = .ok (.invokestatic 106, 3) := by decide +kernel
theorem dX9_isSign_25 : decode cX9_isSign 25 = .ok (.ifCond .eq 5, 3) := by decide +kernel
theorem dX9_isSign_28 : decode cX9_isSign 28 = .ok (.iconst 1, 1) := by decide +kernel
theorem dX9_isSign_29 : decode cX9_isSign 29 = .ok (.ireturn, 1) := by decide +kernel
theorem dX9_isSign_30 : decode cX9_isSign 30 = .ok (.iload_n 0, 1) := by decide +kernel
theorem dX9_isSign_31 : decode cX9_isSign 31 = .ok (.lookupswitch 99 #[(32, 97), (33, 97), (40, 97), (41, 97), (43, 97), (44, 97), (45, 97), (46, 97), (60, 97), (62, 97), (94, 97)], 97) := by decide +kernel
theorem dX9_isSign_128 : decode cX9_isSign 128 = .ok (.iconst 1, 1) := by decide +kernel
theorem dX9_isSign_129 : decode cX9_isSign 129 = .ok (.ireturn, 1) := by decide +kernel
theorem dX9_isSign_130 : decode cX9_isSign 130 = .ok (.iconst 0, 1) := by decide +kernel
theorem dX9_isSign_131 : decode cX9_isSign 131 = .ok (.ireturn, 1) := by decide +kernel
theorem dX9_aboveBase_0 : decode cX9_aboveBase 0 = .ok (.iload_n 0, 1) := by decide +kernel
theorem dX9_aboveBase_1 : decode cX9_aboveBase 1 = .ok (.iconst 1, 1) := by decide +kernel
theorem dX9_aboveBase_2 : decode cX9_aboveBase 2 = .ok (.iadd, 1) := by decide +kernel
theorem dX9_aboveBase_3 : decode cX9_aboveBase 3 = .ok (.iconst 2, 1) := by decide +kernel
theorem dX9_aboveBase_4 : decode cX9_aboveBase 4 = .ok (.irem, 1) := by decide +kernel
theorem dX9_aboveBase_5 : decode cX9_aboveBase 5 = .ok (.iload_n 1, 1) := by decide +kernel
theorem dX9_aboveBase_6 : decode cX9_aboveBase 6 = .ok (.if_icmp .ne 9, 3) := by decide +kernel
theorem dX9_aboveBase_9 : decode cX9_aboveBase 9 = .ok (.iload_n 0, 1) := by decide +kernel
theorem dX9_aboveBase_10 : decode cX9_aboveBase 10 = .ok (.iconst 1, 1) := by decide +kernel
theorem dX9_aboveBase_11 : decode cX9_aboveBase 11 = .ok (.iadd, 1) := by decide +kernel
theorem dX9_aboveBase_12 : decode cX9_aboveBase 12 = .ok (.goto 6, 3) := by decide +kernel
theorem dX9_aboveBase_15 : decode cX9_aboveBase 15 = .ok (.iload_n 0, 1) := by decide +kernel
theorem dX9_aboveBase_16 : decode cX9_aboveBase 16 = .ok (.iconst 2, 1) := by decide +kernel
theorem dX9_aboveBase_17 : decode cX9_aboveBase 17 = .ok (.iadd, 1) := by decide +kernel
theorem dX9_aboveBase_18 : decode cX9_aboveBase 18 = .ok (.ireturn, 1) := by decide +kernel
theorem dX9_rows_0 : decode cX9_rows 0 = .ok (.iconst 0, 1) := by decide +kernel
theorem dX9_rows_1 : decode cX9_rows 1 = .ok (.istore_n 1, 1) := by decide +kernel
theorem dX9_rows_2 : decode cX9_rows 2 = .ok (.aload_n 0, 1) := by decide +kernel
theorem dX9_rows_3 : decode cX9_rows 3 = .ok (.getfield 31, 3) := by decide +kernel
theorem dX9_rows_6 : decode cX9_rows 6 = .ok (.iconst 0, 1) := by decide +kernel
theorem dX9_rows_7 : decode cX9_rows 7 = .ok (.iconst 0, 1) := by decide +kernel
theorem dX9_rows_8 : decode cX9_rows 8 = .ok (.iastore, 1) := by decide +kernel
theorem dX9_rows_9 : decode cX9_rows 9 = .ok (.aload_n 0, 1) := by decide +kernel
theorem dX9_rows_10 : decode cX9_rows 10 = .ok (.getfield 28, 3) := by decide +kernel
theorem dX9_rows_13 : decode cX9_rows 13 = .ok (.iconst 0, 1) := by decide +kernel
theorem dX9_rows_14 : decode cX9_rows 14 = .ok (.aload_n 0, 1) := by decide +kernel
theorem dX9_rows_15 : decode cX9_rows 15 = .ok (.getfield 109, 3) := by decide +kernel
theorem dX9_rows_18 : decode cX9_rows 18 = .ok (.iastore, 1) := by decide +kernel
theorem dX9_rows_19 : decode cX9_rows 19 = .ok (.aload_n 0, 1) := by decide +kernel
theorem dX9_rows_20 : decode cX9_rows 20 = .ok (.iconst 1, 1) := by decide +kernel
theorem dX9_rows_21 : decode cX9_rows 21 = .ok (.putfield 112, 3) := by decide +kernel
theorem dX9_rows_24 : decode cX9_rows 24 = .ok (.iconst 0, 1) := by decide +kernel
theorem dX9_rows_25 : decode cX9_rows 25 = .ok (.istore_n 2, 1) := by decide +kernel
theorem dX9_rows_26 : decode cX9_rows 26 = .ok (.iload_n 2, 1) := by decide +kernel
theorem dX9_rows_27 : decode cX9_rows 27 = .ok (.aload_n 0, 1) := by decide +kernel
theorem dX9_rows_28 : decode cX9_rows 28 = .ok (.getfield 81, 3) := by decide +kernel
theorem dX9_rows_31 : decode cX9_rows 31 = .ok (.if_icmp .ge 113, 3) := by decide +kernel
theorem dX9_rows_34 : decode cX9_rows 34 = .ok (.aload_n 0, 1) := by decide +kernel
theorem dX9_rows_35 : decode cX9_rows 35 = .ok (.getfield 7, 3) := by decide +kernel
theorem dX9_rows_38 : decode cX9_rows 38 = .ok (.iload_n 2, 1) := by decide +kernel
theorem dX9_rows_39 : decode cX9_rows 39 = .ok (.iaload, 1) := by decide +kernel
theorem dX9_rows_40 : decode cX9_rows 40 = .ok (.istore_n 3, 1) := by decide +kernel
theorem dX9_rows_41 : decode cX9_rows 41 = .ok (.iload_n 3, 1) := by decide +kernel
theorem dX9_rows_42 : decode cX9_rows 42 = .ok (.bipush 93, 2) := by decide +kernel
theorem dX9_rows_44 : decode cX9_rows 44 = .ok (.if_icmp .ne 10, 3) := by decide +kernel
theorem dX9_rows_47 : decode cX9_rows 47 = .ok (.iload_n 1, 1) := by decide +kernel
theorem dX9_rows_48 : decode cX9_rows 48 = .ok (.ifCond .le 6, 3) := by decide +kernel
theorem dX9_rows_51 : decode cX9_rows 51 = .ok (.iinc 1 (-1), 3) := by decide +kernel
theorem dX9_rows_54 : decode cX9_rows 54 = .ok (.aload_n 0, 1) := by decide +kernel
theorem dX9_rows_55 : decode cX9_rows 55 = .ok (.getfield 25, 3) := by decide +kernel
theorem dX9_rows_58 : decode cX9_rows 58 = .ok (.iload_n 2, 1) := by decide +kernel
theorem dX9_rows_59 : decode cX9_rows 59 = .ok (.aload_n 0, 1) := by decide +kernel
theorem dX9_rows_60 : decode cX9_rows 60 = .ok (.getfield 31, 3) := by decide +kernel
theorem dX9_rows_63 : decode cX9_rows 63 = .ok (.iload_n 1, 1) := by decide +kernel
theorem dX9_rows_64 : decode cX9_rows 64 = .ok (.iaload, 1) := by decide +kernel
theorem dX9_rows_65 : decode cX9_rows 65 = .ok (.iastore, 1) := by decide +kernel
theorem dX9_rows_66 : decode cX9_rows 66 = .ok (.iload_n 3, 1) := by decide +kernel
theorem dX9_rows_67 : decode cX9_rows 67 = .ok (.bipush 91, 2) := by decide +kernel
theorem dX9_rows_69 : decode cX9_rows 69 = .ok (.if_icmp .eq 12, 3) := by decide +kernel
theorem dX9_rows_72 : decode cX9_rows 72 = .ok (.iload_n 3, 1) := by decide +kernel
theorem dX9_rows_73 : decode cX9_rows 73 = .ok (.bipush 123, 2) := by decide +kernel
theorem dX9_rows_75 : decode cX9_rows 75 = .ok (.if_icmp .eq 6, 3) := by decide +kernel
theorem dX9_rows_78 : decode cX9_rows 78 = .ok (.goto 60, 3) := by decide +kernel
theorem dX9_rows_81 : decode cX9_rows 81 = .ok (.aload_n 0, 1) := by decide +kernel
theorem dX9_rows_82 : decode cX9_rows 82 = .ok (.getfield 28, 3) := by decide +kernel
theorem dX9_rows_85 : decode cX9_rows 85 = .ok (.aload_n 0, 1) := by decide +kernel
theorem dX9_rows_86 : decode cX9_rows 86 = .ok (.getfield 112, 3) := by decide +kernel
theorem dX9_rows_89 : decode cX9_rows 89 = .ok (.aload_n 0, 1) := by decide +kernel
theorem dX9_rows_90 : decode cX9_rows 90 = .ok (.getfield 28, 3) := by decide +kernel
theorem dX9_rows_93 : decode cX9_rows 93 = .ok (.aload_n 0, 1) := by decide +kernel
theorem dX9_rows_94 : decode cX9_rows 94 = .ok (.getfield 31, 3) := by decide +kernel
theorem dX9_rows_97 : decode cX9_rows 97 = .ok (.iload_n 1, 1) := by decide +kernel
theorem dX9_rows_98 : decode cX9_rows 98 = .ok (.iaload, 1) := by decide +kernel
theorem dX9_rows_99 : decode cX9_rows 99 = .ok (.iaload, 1) := by decide +kernel
theorem dX9_rows_100 : decode cX9_rows 100 = .ok (.iload_n 3, 1) := by decide +kernel
theorem dX9_rows_101 : decode cX9_rows 101 = .ok (.bipush 91, 2) := by decide +kernel
theorem dX9_rows_103 : decode cX9_rows 103 = .ok (.if_icmp .ne 7, 3) := by decide +kernel
theorem dX9_rows_106 : decode cX9_rows 106 = .ok (.iconst 0, 1) := by decide +kernel
theorem dX9_rows_107 : decode cX9_rows 107 = .ok (.goto 4, 3) := by decide +kernel
theorem dX9_rows_110 : decode cX9_rows 110 = .ok (.iconst 1, 1) := by decide +kernel
theorem dX9_rows_111 : decode cX9_rows 111 = .ok (.invokestatic 115, 3) := by decide +kernel
theorem dX9_rows_114 : decode cX9_rows 114 = .ok (.iastore, 1) := by decide +kernel
theorem dX9_rows_115 : decode cX9_rows 115 = .ok (.iinc 1 1, 3) := by decide +kernel
theorem dX9_rows_118 : decode cX9_rows 118 = .ok (.aload_n 0, 1) := by decide +kernel
theorem dX9_rows_119 : decode cX9_rows 119 = .ok (.getfield 31, 3) := by decide +kernel
theorem dX9_rows_122 : decode cX9_rows 122 = .ok (.iload_n 1, 1) := by decide +kernel
theorem dX9_rows_123 : decode cX9_rows 123 = .ok (.aload_n 0, 1) := by decide +kernel
theorem dX9_rows_124 : decode cX9_rows 124 = .ok (.getfield 112, 3) := by decide +kernel
theorem dX9_rows_127 : decode cX9_rows 127 = .ok (.iastore, 1) := by decide +kernel
theorem dX9_rows_128 : decode cX9_rows 128 = .ok (.aload_n 0, 1) := by decide +kernel
theorem dX9_rows_129 : decode cX9_rows 129 = .ok (.dup, 1) := by decide +kernel
theorem dX9_rows_130 : decode cX9_rows 130 = .ok (.getfield 112, 3) := by decide +kernel
theorem dX9_rows_133 : decode cX9_rows 133 = .ok (.iconst 1, 1) := by decide +kernel
theorem dX9_rows_134 : decode cX9_rows 134 = .ok (.iadd, 1) := by decide +kernel
theorem dX9_rows_135 : decode cX9_rows 135 = .ok (.putfield 112, 3) := by decide +kernel
theorem dX9_rows_138 : decode cX9_rows 138 = .ok (.iinc 2 1, 3) := by decide +kernel
theorem dX9_rows_141 : decode cX9_rows 141 = .ok (.goto (-115), 3) := by decide +kernel
theorem dX9_rows_144 : decode cX9_rows 144 = .ok (.return_, 1) := by decide +kernel
theorem dX9_joinsOf_0 : decode cX9_joinsOf 0 = .ok (.iconst 0, 1) := by decide +kernel
theorem dX9_joinsOf_1 : decode cX9_joinsOf 1 = .ok (.istore_n 1, 1) := by decide +kernel
theorem dX9_joinsOf_2 : decode cX9_joinsOf 2 = .ok (.iload_n 1, 1) := by decide +kernel
theorem dX9_joinsOf_3 : decode cX9_joinsOf 3 = .ok (.aload_n 0, 1) := by decide +kernel
theorem dX9_joinsOf_4 : decode cX9_joinsOf 4 = .ok (.getfield 81, 3) := by decide +kernel
theorem dX9_joinsOf_7 : decode cX9_joinsOf 7 = .ok (.if_icmp .ge 137, 3) := by decide +kernel
theorem dX9_joinsOf_10 : decode cX9_joinsOf 10 = .ok (.aload_n 0, 1) := by decide +kernel
theorem dX9_joinsOf_11 : decode cX9_joinsOf 11 = .ok (.getfield 34, 3) := by decide +kernel
theorem dX9_joinsOf_14 : decode cX9_joinsOf 14 = .ok (.iload_n 1, 1) := by decide +kernel
theorem dX9_joinsOf_15 : decode cX9_joinsOf 15 = .ok (.iconst 0, 1) := by decide +kernel
theorem dX9_joinsOf_16 : decode cX9_joinsOf 16 = .ok (.bastore, 1) := by decide +kernel
theorem dX9_joinsOf_17 : decode cX9_joinsOf 17 = .ok (.aload_n 0, 1) := by decide +kernel
theorem dX9_joinsOf_18 : decode cX9_joinsOf 18 = .ok (.getfield 7, 3) := by decide +kernel
theorem dX9_joinsOf_21 : decode cX9_joinsOf 21 = .ok (.iload_n 1, 1) := by decide +kernel
theorem dX9_joinsOf_22 : decode cX9_joinsOf 22 = .ok (.iaload, 1) := by decide +kernel
theorem dX9_joinsOf_23 : decode cX9_joinsOf 23 = .ok (.bipush 94, 2) := by decide +kernel
theorem dX9_joinsOf_25 : decode cX9_joinsOf 25 = .ok (.if_icmp .ne 113, 3) := by decide +kernel
theorem dX9_joinsOf_28 : decode cX9_joinsOf 28 = .ok (.iload_n 1, 1) := by decide +kernel
theorem dX9_joinsOf_29 : decode cX9_joinsOf 29 = .ok (.ifCond .eq 109, 3) := by decide +kernel
theorem dX9_joinsOf_32 : decode cX9_joinsOf 32 = .ok (.iload_n 1, 1) := by decide +kernel
theorem dX9_joinsOf_33 : decode cX9_joinsOf 33 = .ok (.iconst 1, 1) := by decide +kernel
theorem dX9_joinsOf_34 : decode cX9_joinsOf 34 = .ok (.iadd, 1) := by decide +kernel
theorem dX9_joinsOf_35 : decode cX9_joinsOf 35 = .ok (.aload_n 0, 1) := by decide +kernel
theorem dX9_joinsOf_36 : decode cX9_joinsOf 36 = .ok (.getfield 81, 3) := by decide +kernel
theorem dX9_joinsOf_39 : decode cX9_joinsOf 39 = .ok (.if_icmp .lt 6, 3) := by decide +kernel
theorem dX9_joinsOf_42 : decode cX9_joinsOf 42 = .ok (.goto 96, 3) := by decide +kernel
theorem dX9_joinsOf_45 : decode cX9_joinsOf 45 = .ok (.aload_n 0, 1) := by decide +kernel
theorem dX9_joinsOf_46 : decode cX9_joinsOf 46 = .ok (.getfield 7, 3) := by decide +kernel
theorem dX9_joinsOf_49 : decode cX9_joinsOf 49 = .ok (.iload_n 1, 1) := by decide +kernel
theorem dX9_joinsOf_50 : decode cX9_joinsOf 50 = .ok (.iconst 1, 1) := by decide +kernel
theorem dX9_joinsOf_51 : decode cX9_joinsOf 51 = .ok (.isub, 1) := by decide +kernel
theorem dX9_joinsOf_52 : decode cX9_joinsOf 52 = .ok (.iaload, 1) := by decide +kernel
theorem dX9_joinsOf_53 : decode cX9_joinsOf 53 = .ok (.invokestatic 90, 3) := by decide +kernel
theorem dX9_joinsOf_56 : decode cX9_joinsOf 56 = .ok (.ifCond .eq 17, 3) := by decide +kernel
theorem dX9_joinsOf_59 : decode cX9_joinsOf 59 = .ok (.aload_n 0, 1) := by decide +kernel
theorem dX9_joinsOf_60 : decode cX9_joinsOf 60 = .ok (.getfield 7, 3) := by decide +kernel
theorem dX9_joinsOf_63 : decode cX9_joinsOf 63 = .ok (.iload_n 1, 1) := by decide +kernel
theorem dX9_joinsOf_64 : decode cX9_joinsOf 64 = .ok (.iconst 1, 1) := by decide +kernel
theorem dX9_joinsOf_65 : decode cX9_joinsOf 65 = .ok (.iadd, 1) := by decide +kernel
theorem dX9_joinsOf_66 : decode cX9_joinsOf 66 = .ok (.iaload, 1) := by decide +kernel
theorem dX9_joinsOf_67 : decode cX9_joinsOf 67 = .ok (.invokestatic 90, 3) := by decide +kernel
theorem dX9_joinsOf_70 : decode cX9_joinsOf 70 = .ok (.ifCond .ne 31, 3) := by decide +kernel
theorem dX9_joinsOf_73 : decode cX9_joinsOf 73 = .ok (.aload_n 0, 1) := by decide +kernel
theorem dX9_joinsOf_74 : decode cX9_joinsOf 74 = .ok (.getfield 7, 3) := by decide +kernel
theorem dX9_joinsOf_77 : decode cX9_joinsOf 77 = .ok (.iload_n 1, 1) := by decide +kernel
theorem dX9_joinsOf_78 : decode cX9_joinsOf 78 = .ok (.iconst 1, 1) := by decide +kernel
theorem dX9_joinsOf_79 : decode cX9_joinsOf 79 = .ok (.isub, 1) := by decide +kernel
theorem dX9_joinsOf_80 : decode cX9_joinsOf 80 = .ok (.iaload, 1) := by decide +kernel
theorem dX9_joinsOf_81 : decode cX9_joinsOf 81 = .ok (.invokestatic 94, 3) := by decide +kernel
theorem dX9_joinsOf_84 : decode cX9_joinsOf 84 = .ok (.ifCond .eq 21, 3) := by decide +kernel
theorem dX9_joinsOf_87 : decode cX9_joinsOf 87 = .ok (.aload_n 0, 1) := by decide +kernel
theorem dX9_joinsOf_88 : decode cX9_joinsOf 88 = .ok (.getfield 7, 3) := by decide +kernel
theorem dX9_joinsOf_91 : decode cX9_joinsOf 91 = .ok (.iload_n 1, 1) := by decide +kernel
theorem dX9_joinsOf_92 : decode cX9_joinsOf 92 = .ok (.iconst 1, 1) := by decide +kernel
theorem dX9_joinsOf_93 : decode cX9_joinsOf 93 = .ok (.iadd, 1) := by decide +kernel
theorem dX9_joinsOf_94 : decode cX9_joinsOf 94 = .ok (.iaload, 1) := by decide +kernel
theorem dX9_joinsOf_95 : decode cX9_joinsOf 95 = .ok (.invokestatic 94, 3) := by decide +kernel
theorem dX9_joinsOf_98 : decode cX9_joinsOf 98 = .ok (.ifCond .eq 7, 3) := by decide +kernel
theorem dX9_joinsOf_101 : decode cX9_joinsOf 101 = .ok (.iconst 1, 1) := by decide +kernel
theorem dX9_joinsOf_102 : decode cX9_joinsOf 102 = .ok (.goto 4, 3) := by decide +kernel
theorem dX9_joinsOf_105 : decode cX9_joinsOf 105 = .ok (.iconst 0, 1) := by decide +kernel
theorem dX9_joinsOf_106 : decode cX9_joinsOf 106 = .ok (.istore_n 2, 1) := by decide +kernel
theorem dX9_joinsOf_107 : decode cX9_joinsOf 107 = .ok (.aload_n 0, 1) := by decide +kernel
theorem dX9_joinsOf_108 : decode cX9_joinsOf 108 = .ok (.getfield 34, 3) := by decide +kernel
theorem dX9_joinsOf_111 : decode cX9_joinsOf 111 = .ok (.iload_n 1, 1) := by decide +kernel
theorem dX9_joinsOf_112 : decode cX9_joinsOf 112 = .ok (.iload_n 2, 1) := by decide +kernel
theorem dX9_joinsOf_113 : decode cX9_joinsOf 113 = .ok (.ifCond .eq 23, 3) := by decide +kernel
theorem dX9_joinsOf_116 : decode cX9_joinsOf 116 = .ok (.iload_n 1, 1) := by decide +kernel
theorem dX9_joinsOf_117 : decode cX9_joinsOf 117 = .ok (.iconst 1, 1) := by decide +kernel
theorem dX9_joinsOf_118 : decode cX9_joinsOf 118 = .ok (.if_icmp .le 14, 3) := by decide +kernel
theorem dX9_joinsOf_121 : decode cX9_joinsOf 121 = .ok (.aload_n 0, 1) := by decide +kernel
theorem dX9_joinsOf_122 : decode cX9_joinsOf 122 = .ok (.getfield 34, 3) := by decide +kernel
theorem dX9_joinsOf_125 : decode cX9_joinsOf 125 = .ok (.iload_n 1, 1) := by decide +kernel
theorem dX9_joinsOf_126 : decode cX9_joinsOf 126 = .ok (.iconst 2, 1) := by decide +kernel
theorem dX9_joinsOf_127 : decode cX9_joinsOf 127 = .ok (.isub, 1) := by decide +kernel
theorem dX9_joinsOf_128 : decode cX9_joinsOf 128 = .ok (.baload, 1) := by decide +kernel
theorem dX9_joinsOf_129 : decode cX9_joinsOf 129 = .ok (.ifCond .ne 7, 3) := by decide +kernel
theorem dX9_joinsOf_132 : decode cX9_joinsOf 132 = .ok (.iconst 1, 1) := by decide +kernel
theorem dX9_joinsOf_133 : decode cX9_joinsOf 133 = .ok (.goto 4, 3) := by decide +kernel
theorem dX9_joinsOf_136 : decode cX9_joinsOf 136 = .ok (.iconst 0, 1) := by decide +kernel
theorem dX9_joinsOf_137 : decode cX9_joinsOf 137 = .ok (.bastore, 1) := by decide +kernel
theorem dX9_joinsOf_138 : decode cX9_joinsOf 138 = .ok (.iinc 1 1, 3) := by decide +kernel
theorem dX9_joinsOf_141 : decode cX9_joinsOf 141 = .ok (.goto (-139), 3) := by decide +kernel
theorem dX9_joinsOf_144 : decode cX9_joinsOf 144 = .ok (.return_, 1) := by decide +kernel
theorem dX9_plainSort_0 : decode cX9_plainSort 0 = .ok (.aload_n 0, 1) := by decide +kernel
theorem dX9_plainSort_1 : decode cX9_plainSort 1 = .ok (.getfield 7, 3) := by decide +kernel
theorem dX9_plainSort_4 : decode cX9_plainSort 4 = .ok (.iload_n 1, 1) := by decide +kernel
theorem dX9_plainSort_5 : decode cX9_plainSort 5 = .ok (.iaload, 1) := by decide +kernel
theorem dX9_plainSort_6 : decode cX9_plainSort 6 = .ok (.istore_n 2, 1) := by decide +kernel
theorem dX9_plainSort_7 : decode cX9_plainSort 7 = .ok (.iload_n 2, 1) := by decide +kernel
theorem dX9_plainSort_8 : decode cX9_plainSort 8 = .ok (.invokestatic 90, 3) := by decide +kernel
theorem dX9_plainSort_11 : decode cX9_plainSort 11 = .ok (.ifCond .eq 5, 3) := by decide +kernel
theorem dX9_plainSort_14 : decode cX9_plainSort 14 = .ok (.iconst 0, 1) := by decide +kernel
theorem dX9_plainSort_15 : decode cX9_plainSort 15 = .ok (.ireturn, 1) := by decide +kernel
theorem dX9_plainSort_16 : decode cX9_plainSort 16 = .ok (.iload_n 2, 1) := by decide +kernel
theorem dX9_plainSort_17 : decode cX9_plainSort 17 = .ok (.invokestatic 94, 3) := by decide +kernel
theorem dX9_plainSort_20 : decode cX9_plainSort 20 = .ok (.ifCond .eq 5, 3) := by decide +kernel
theorem dX9_plainSort_23 : decode cX9_plainSort 23 = .ok (.iconst 1, 1) := by decide +kernel
theorem dX9_plainSort_24 : decode cX9_plainSort 24 = .ok (.ireturn, 1) := by decide +kernel
theorem dX9_plainSort_25 : decode cX9_plainSort 25 = .ok (.iload_n 2, 1) := by decide +kernel
theorem dX9_plainSort_26 : decode cX9_plainSort 26 = .ok (.invokestatic 100, 3) := by decide +kernel
theorem dX9_plainSort_29 : decode cX9_plainSort 29 = .ok (.ifCond .eq 5, 3) := by decide +kernel
theorem dX9_plainSort_32 : decode cX9_plainSort 32 = .ok (.iconst 2, 1) := by decide +kernel
theorem dX9_plainSort_33 : decode cX9_plainSort 33 = .ok (.ireturn, 1) := by decide +kernel
theorem dX9_plainSort_34 : decode cX9_plainSort 34 = .ok (.iload_n 2, 1) := by decide +kernel
theorem dX9_plainSort_35 : decode cX9_plainSort 35 = .ok (.bipush 43, 2) := by decide +kernel
theorem dX9_plainSort_37 : decode cX9_plainSort 37 = .ok (.if_icmp .eq 9, 3) := by decide +kernel
theorem dX9_plainSort_40 : decode cX9_plainSort 40 = .ok (.iload_n 2, 1) := by decide +kernel
theorem dX9_plainSort_41 : decode cX9_plainSort 41 = .ok (.bipush 45, 2) := by decide +kernel
theorem dX9_plainSort_43 : decode cX9_plainSort 43 = .ok (.if_icmp .ne 5, 3) := by decide +kernel
theorem dX9_plainSort_46 : decode cX9_plainSort 46 = .ok (.iconst 3, 1) := by decide +kernel
theorem dX9_plainSort_47 : decode cX9_plainSort 47 = .ok (.ireturn, 1) := by decide +kernel
theorem dX9_plainSort_48 : decode cX9_plainSort 48 = .ok (.iload_n 2, 1) := by decide +kernel
theorem dX9_plainSort_49 : decode cX9_plainSort 49 = .ok (.bipush 44, 2) := by decide +kernel
theorem dX9_plainSort_51 : decode cX9_plainSort 51 = .ok (.if_icmp .eq 9, 3) := by decide +kernel
theorem dX9_plainSort_54 : decode cX9_plainSort 54 = .ok (.iload_n 2, 1) := by decide +kernel
theorem dX9_plainSort_55 : decode cX9_plainSort 55 = .ok (.bipush 46, 2) := by decide +kernel
theorem dX9_plainSort_57 : decode cX9_plainSort 57 = .ok (.if_icmp .ne 7, 3) := by decide +kernel
theorem dX9_plainSort_60 : decode cX9_plainSort 60 = .ok (.iconst 4, 1) := by decide +kernel
theorem dX9_plainSort_61 : decode cX9_plainSort 61 = .ok (.goto 4, 3) := by decide +kernel
theorem dX9_plainSort_64 : decode cX9_plainSort 64 = .ok (.iconst 5, 1) := by decide +kernel
theorem dX9_plainSort_65 : decode cX9_plainSort 65 = .ok (.ireturn, 1) := by decide +kernel
theorem dX9_isDigitAt_0 : decode cX9_isDigitAt 0 = .ok (.iload_n 1, 1) := by decide +kernel
theorem dX9_isDigitAt_1 : decode cX9_isDigitAt 1 = .ok (.ifCond .lt 30, 3) := by decide +kernel
theorem dX9_isDigitAt_4 : decode cX9_isDigitAt 4 = .ok (.iload_n 1, 1) := by decide +kernel
theorem dX9_isDigitAt_5 : decode cX9_isDigitAt 5 = .ok (.aload_n 0, 1) := by decide +kernel
theorem dX9_isDigitAt_6 : decode cX9_isDigitAt 6 = .ok (.getfield 119, 3) := by decide +kernel
theorem dX9_isDigitAt_9 : decode cX9_isDigitAt 9 = .ok (.if_icmp .ge 22, 3) := by decide +kernel
theorem dX9_isDigitAt_12 : decode cX9_isDigitAt 12 = .ok (.aload_n 0, 1) := by decide +kernel
theorem dX9_isDigitAt_13 : decode cX9_isDigitAt 13 = .ok (.getfield 38, 3) := by decide +kernel
theorem dX9_isDigitAt_16 : decode cX9_isDigitAt 16 = .ok (.aload_n 0, 1) := by decide +kernel
theorem dX9_isDigitAt_17 : decode cX9_isDigitAt 17 = .ok (.getfield 44, 3) := by decide +kernel
theorem dX9_isDigitAt_20 : decode cX9_isDigitAt 20 = .ok (.iload_n 1, 1) := by decide +kernel
theorem dX9_isDigitAt_21 : decode cX9_isDigitAt 21 = .ok (.iaload, 1) := by decide +kernel
theorem dX9_isDigitAt_22 : decode cX9_isDigitAt 22 = .ok (.iaload, 1) := by decide +kernel
theorem dX9_isDigitAt_23 : decode cX9_isDigitAt 23 = .ok (.iconst 2, 1) := by decide +kernel
theorem dX9_isDigitAt_24 : decode cX9_isDigitAt 24 = .ok (.if_icmp .ne 7, 3) := by decide +kernel
theorem dX9_isDigitAt_27 : decode cX9_isDigitAt 27 = .ok (.iconst 1, 1) := by decide +kernel
theorem dX9_isDigitAt_28 : decode cX9_isDigitAt 28 = .ok (.goto 4, 3) := by decide +kernel
theorem dX9_isDigitAt_31 : decode cX9_isDigitAt 31 = .ok (.iconst 0, 1) := by decide +kernel
theorem dX9_isDigitAt_32 : decode cX9_isDigitAt 32 = .ok (.ireturn, 1) := by decide +kernel
theorem dX9_row_0 : decode cX9_row 0 = .ok (.aload_n 0, 1) := by decide +kernel
theorem dX9_row_1 : decode cX9_row 1 = .ok (.iconst 0, 1) := by decide +kernel
theorem dX9_row_2 : decode cX9_row 2 = .ok (.putfield 119, 3) := by decide +kernel
theorem dX9_row_5 : decode cX9_row 5 = .ok (.iconst 0, 1) := by decide +kernel
theorem dX9_row_6 : decode cX9_row 6 = .ok (.istore_n 2, 1) := by decide +kernel
theorem dX9_row_7 : decode cX9_row 7 = .ok (.iload_n 2, 1) := by decide +kernel
theorem dX9_row_8 : decode cX9_row 8 = .ok (.aload_n 0, 1) := by decide +kernel
theorem dX9_row_9 : decode cX9_row 9 = .ok (.getfield 81, 3) := by decide +kernel
theorem dX9_row_12 : decode cX9_row 12 = .ok (.if_icmp .ge 42, 3) := by decide +kernel
theorem dX9_row_15 : decode cX9_row 15 = .ok (.aload_n 0, 1) := by decide +kernel
theorem dX9_row_16 : decode cX9_row 16 = .ok (.getfield 25, 3) := by decide +kernel
theorem dX9_row_19 : decode cX9_row 19 = .ok (.iload_n 2, 1) := by decide +kernel
theorem dX9_row_20 : decode cX9_row 20 = .ok (.iaload, 1) := by decide +kernel
theorem dX9_row_21 : decode cX9_row 21 = .ok (.iload_n 1, 1) := by decide +kernel
theorem dX9_row_22 : decode cX9_row 22 = .ok (.if_icmp .eq 6, 3) := by decide +kernel
theorem dX9_row_25 : decode cX9_row 25 = .ok (.goto 23, 3) := by decide +kernel
theorem dX9_row_28 : decode cX9_row 28 = .ok (.aload_n 0, 1) := by decide +kernel
theorem dX9_row_29 : decode cX9_row 29 = .ok (.getfield 44, 3) := by decide +kernel
theorem dX9_row_32 : decode cX9_row 32 = .ok (.aload_n 0, 1) := by decide +kernel
theorem dX9_row_33 : decode cX9_row 33 = .ok (.getfield 119, 3) := by decide +kernel
theorem dX9_row_36 : decode cX9_row 36 = .ok (.iload_n 2, 1) := by decide +kernel
theorem dX9_row_37 : decode cX9_row 37 = .ok (.iastore, 1) := by decide +kernel
theorem dX9_row_38 : decode cX9_row 38 = .ok (.aload_n 0, 1) := by decide +kernel
theorem dX9_row_39 : decode cX9_row 39 = .ok (.dup, 1) := by decide +kernel
theorem dX9_row_40 : decode cX9_row 40 = .ok (.getfield 119, 3) := by decide +kernel
theorem dX9_row_43 : decode cX9_row 43 = .ok (.iconst 1, 1) := by decide +kernel
theorem dX9_row_44 : decode cX9_row 44 = .ok (.iadd, 1) := by decide +kernel
theorem dX9_row_45 : decode cX9_row 45 = .ok (.putfield 119, 3) := by decide +kernel
theorem dX9_row_48 : decode cX9_row 48 = .ok (.iinc 2 1, 3) := by decide +kernel
theorem dX9_row_51 : decode cX9_row 51 = .ok (.goto (-44), 3) := by decide +kernel
theorem dX9_row_54 : decode cX9_row 54 = .ok (.aload_n 0, 1) := by decide +kernel
theorem dX9_row_55 : decode cX9_row 55 = .ok (.getfield 28, 3) := by decide +kernel
theorem dX9_row_58 : decode cX9_row 58 = .ok (.iload_n 1, 1) := by decide +kernel
theorem dX9_row_59 : decode cX9_row 59 = .ok (.iaload, 1) := by decide +kernel
theorem dX9_row_60 : decode cX9_row 60 = .ok (.iconst 2, 1) := by decide +kernel
theorem dX9_row_61 : decode cX9_row 61 = .ok (.irem, 1) := by decide +kernel
theorem dX9_row_62 : decode cX9_row 62 = .ok (.istore_n 2, 1) := by decide +kernel
theorem dX9_row_63 : decode cX9_row 63 = .ok (.iconst 0, 1) := by decide +kernel
theorem dX9_row_64 : decode cX9_row 64 = .ok (.istore_n 3, 1) := by decide +kernel
theorem dX9_row_65 : decode cX9_row 65 = .ok (.iload_n 3, 1) := by decide +kernel
theorem dX9_row_66 : decode cX9_row 66 = .ok (.aload_n 0, 1) := by decide +kernel
theorem dX9_row_67 : decode cX9_row 67 = .ok (.getfield 119, 3) := by decide +kernel
theorem dX9_row_70 : decode cX9_row 70 = .ok (.if_icmp .ge 89, 3) := by decide +kernel
theorem dX9_row_73 : decode cX9_row 73 = .ok (.aload_n 0, 1) := by decide +kernel
theorem dX9_row_74 : decode cX9_row 74 = .ok (.getfield 44, 3) := by decide +kernel
theorem dX9_row_77 : decode cX9_row 77 = .ok (.iload_n 3, 1) := by decide +kernel
theorem dX9_row_78 : decode cX9_row 78 = .ok (.iaload, 1) := by decide +kernel
theorem dX9_row_79 : decode cX9_row 79 = .ok (.istore 4, 2) := by decide +kernel
theorem dX9_row_81 : decode cX9_row 81 = .ok (.aload_n 0, 1) := by decide +kernel
theorem dX9_row_82 : decode cX9_row 82 = .ok (.getfield 38, 3) := by decide +kernel
theorem dX9_row_85 : decode cX9_row 85 = .ok (.iload 4, 2) := by decide +kernel
theorem dX9_row_87 : decode cX9_row 87 = .ok (.aload_n 0, 1) := by decide +kernel
theorem dX9_row_88 : decode cX9_row 88 = .ok (.getfield 7, 3) := by decide +kernel
theorem dX9_row_91 : decode cX9_row 91 = .ok (.iload 4, 2) := by decide +kernel
theorem dX9_row_93 : decode cX9_row 93 = .ok (.iaload, 1) := by decide +kernel
theorem dX9_row_94 : decode cX9_row 94 = .ok (.invokestatic 103, 3) := by decide +kernel
theorem dX9_row_97 : decode cX9_row 97 = .ok (.ifCond .eq 27, 3) := by decide +kernel
theorem dX9_row_100 : decode cX9_row 100 = .ok (.iload_n 3, 1) := by decide +kernel
theorem dX9_row_101 : decode cX9_row 101 = .ok (.ifCond .ne 7, 3) := by decide +kernel
theorem dX9_row_104 : decode cX9_row 104 = .ok (.iload_n 2, 1) := by decide +kernel
theorem dX9_row_105 : decode cX9_row 105 = .ok (.goto 47, 3) := by decide +kernel
theorem dX9_row_108 : decode cX9_row 108 = .ok (.aload_n 0, 1) := by decide +kernel
theorem dX9_row_109 : decode cX9_row 109 = .ok (.getfield 38, 3) := by decide +kernel
theorem dX9_row_112 : decode cX9_row 112 = .ok (.aload_n 0, 1) := by decide +kernel
theorem dX9_row_113 : decode cX9_row 113 = .ok (.getfield 44, 3) := by decide +kernel
theorem dX9_row_116 : decode cX9_row 116 = .ok (.iload_n 3, 1) := by decide +kernel
theorem dX9_row_117 : decode cX9_row 117 = .ok (.iconst 1, 1) := by decide +kernel
theorem dX9_row_118 : decode cX9_row 118 = .ok (.isub, 1) := by decide +kernel
theorem dX9_row_119 : decode cX9_row 119 = .ok (.iaload, 1) := by decide +kernel
theorem dX9_row_120 : decode cX9_row 120 = .ok (.iaload, 1) := by decide +kernel
theorem dX9_row_121 : decode cX9_row 121 = .ok (.goto 31, 3) := by decide +kernel
theorem dX9_row_124 : decode cX9_row 124 = .ok (.aload_n 0, 1) := by decide +kernel
theorem dX9_row_125 : decode cX9_row 125 = .ok (.getfield 34, 3) := by decide +kernel
theorem dX9_row_128 : decode cX9_row 128 = .ok (.iload 4, 2) := by decide +kernel
theorem dX9_row_130 : decode cX9_row 130 = .ok (.baload, 1) := by decide +kernel
theorem dX9_row_131 : decode cX9_row 131 = .ok (.ifCond .eq 15, 3) := by decide +kernel
theorem dX9_row_134 : decode cX9_row 134 = .ok (.aload_n 0, 1) := by decide +kernel
theorem dX9_row_135 : decode cX9_row 135 = .ok (.getfield 38, 3) := by decide +kernel
theorem dX9_row_138 : decode cX9_row 138 = .ok (.iload 4, 2) := by decide +kernel
theorem dX9_row_140 : decode cX9_row 140 = .ok (.iconst 1, 1) := by decide +kernel
theorem dX9_row_141 : decode cX9_row 141 = .ok (.isub, 1) := by decide +kernel
theorem dX9_row_142 : decode cX9_row 142 = .ok (.iaload, 1) := by decide +kernel
theorem dX9_row_143 : decode cX9_row 143 = .ok (.goto 9, 3) := by decide +kernel
theorem dX9_row_146 : decode cX9_row 146 = .ok (.aload_n 0, 1) := by decide +kernel
theorem dX9_row_147 : decode cX9_row 147 = .ok (.iload 4, 2) := by decide +kernel
theorem dX9_row_149 : decode cX9_row 149 = .ok (.invokevirtual 122, 3) := by decide +kernel
theorem dX9_row_152 : decode cX9_row 152 = .ok (.iastore, 1) := by decide +kernel
theorem dX9_row_153 : decode cX9_row 153 = .ok (.iinc 3 1, 3) := by decide +kernel
theorem dX9_row_156 : decode cX9_row 156 = .ok (.goto (-91), 3) := by decide +kernel
theorem dX9_row_159 : decode cX9_row 159 = .ok (.iconst 0, 1) := by decide +kernel
theorem dX9_row_160 : decode cX9_row 160 = .ok (.istore_n 3, 1) := by decide +kernel
theorem dX9_row_161 : decode cX9_row 161 = .ok (.iload_n 3, 1) := by decide +kernel
theorem dX9_row_162 : decode cX9_row 162 = .ok (.aload_n 0, 1) := by decide +kernel
theorem dX9_row_163 : decode cX9_row 163 = .ok (.getfield 119, 3) := by decide +kernel
theorem dX9_row_166 : decode cX9_row 166 = .ok (.if_icmp .ge 70, 3) := by decide +kernel
theorem dX9_row_169 : decode cX9_row 169 = .ok (.aload_n 0, 1) := by decide +kernel
theorem dX9_row_170 : decode cX9_row 170 = .ok (.getfield 47, 3) := by decide +kernel
theorem dX9_row_173 : decode cX9_row 173 = .ok (.iload_n 3, 1) := by decide +kernel
theorem dX9_row_174 : decode cX9_row 174 = .ok (.aload_n 0, 1) := by decide +kernel
theorem dX9_row_175 : decode cX9_row 175 = .ok (.getfield 38, 3) := by decide +kernel
theorem dX9_row_178 : decode cX9_row 178 = .ok (.aload_n 0, 1) := by decide +kernel
theorem dX9_row_179 : decode cX9_row 179 = .ok (.getfield 44, 3) := by decide +kernel
theorem dX9_row_182 : decode cX9_row 182 = .ok (.iload_n 3, 1) := by decide +kernel
theorem dX9_row_183 : decode cX9_row 183 = .ok (.iaload, 1) := by decide +kernel
theorem dX9_row_184 : decode cX9_row 184 = .ok (.iaload, 1) := by decide +kernel
theorem dX9_row_185 : decode cX9_row 185 = .ok (.iconst 3, 1) := by decide +kernel
theorem dX9_row_186 : decode cX9_row 186 = .ok (.if_icmp .eq 18, 3) := by decide +kernel
theorem dX9_row_189 : decode cX9_row 189 = .ok (.aload_n 0, 1) := by decide +kernel
theorem dX9_row_190 : decode cX9_row 190 = .ok (.getfield 38, 3) := by decide +kernel
theorem dX9_row_193 : decode cX9_row 193 = .ok (.aload_n 0, 1) := by decide +kernel
theorem dX9_row_194 : decode cX9_row 194 = .ok (.getfield 44, 3) := by decide +kernel
theorem dX9_row_197 : decode cX9_row 197 = .ok (.iload_n 3, 1) := by decide +kernel
theorem dX9_row_198 : decode cX9_row 198 = .ok (.iaload, 1) := by decide +kernel
theorem dX9_row_199 : decode cX9_row 199 = .ok (.iaload, 1) := by decide +kernel
theorem dX9_row_200 : decode cX9_row 200 = .ok (.iconst 4, 1) := by decide +kernel
theorem dX9_row_201 : decode cX9_row 201 = .ok (.if_icmp .ne 27, 3) := by decide +kernel
theorem dX9_row_204 : decode cX9_row 204 = .ok (.aload_n 0, 1) := by decide +kernel
theorem dX9_row_205 : decode cX9_row 205 = .ok (.iload_n 3, 1) := by decide +kernel
theorem dX9_row_206 : decode cX9_row 206 = .ok (.iconst 1, 1) := by decide +kernel
theorem dX9_row_207 : decode cX9_row 207 = .ok (.isub, 1) := by decide +kernel
theorem dX9_row_208 : decode cX9_row 208 = .ok (.invokevirtual 126, 3) := by decide +kernel
theorem dX9_row_211 : decode cX9_row 211 = .ok (.ifCond .eq 17, 3) := by decide +kernel
theorem dX9_row_214 : decode cX9_row 214 = .ok (.aload_n 0, 1) := by decide +kernel
