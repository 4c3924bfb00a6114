theorem dX9_settles_9 : decode cX9_settles 9 = .ok (.invokevirtual 165, 3) := by decide +kernel
theorem dX9_settles_12 : decode cX9_settles 12 = .ok (.ifCond .ne 32, 3) := by decide +kernel
theorem dX9_settles_15 : decode cX9_settles 15 = .ok (.aload_n 0, 1) := by decide +kernel
theorem dX9_settles_16 : decode cX9_settles 16 = .ok (.iconst 0, 1) := by decide +kernel
theorem dX9_settles_17 : decode cX9_settles 17 = .ok (.putfield 87, 3) := by decide +kernel
theorem dX9_settles_20 : decode cX9_settles 20 = .ok (.aload_n 0, 1) := by decide +kernel
theorem dX9_settles_21 : decode cX9_settles 21 = .ok (.aload_n 0, 1) := by decide +kernel
theorem dX9_settles_22 : decode cX9_settles 22 = .ok (.getfield 84, 3) := by decide +kernel
theorem dX9_settles_25 : decode cX9_settles 25 = .ok (.invokevirtual 165, 3) := by decide +kernel
theorem dX9_settles_28 : decode cX9_settles 28 = .ok (.ifCond .ne 16, 3) := by decide +kernel
theorem dX9_settles_31 : decode cX9_settles 31 = .ok (.aload_n 0, 1) := by decide +kernel
theorem dX9_settles_32 : decode cX9_settles 32 = .ok (.dup, 1) := by decide +kernel
theorem dX9_settles_33 : decode cX9_settles 33 = .ok (.getfield 84, 3) := by decide +kernel
theorem dX9_settles_36 : decode cX9_settles 36 = .ok (.iconst 1, 1) := by decide +kernel
theorem dX9_settles_37 : decode cX9_settles 37 = .ok (.iadd, 1) := by decide +kernel
theorem dX9_settles_38 : decode cX9_settles 38 = .ok (.putfield 84, 3) := by decide +kernel
theorem dX9_settles_41 : decode cX9_settles 41 = .ok (.goto (-21), 3) := by decide +kernel
theorem dX9_settles_44 : decode cX9_settles 44 = .ok (.aload_n 0, 1) := by decide +kernel
theorem dX9_settles_45 : decode cX9_settles 45 = .ok (.aload_n 0, 1) := by decide +kernel
theorem dX9_settles_46 : decode cX9_settles 46 = .ok (.getfield 84, 3) := by decide +kernel
theorem dX9_settles_49 : decode cX9_settles 49 = .ok (.invokevirtual 156, 3) := by decide +kernel
theorem dX9_settles_52 : decode cX9_settles 52 = .ok (.ifCond .ne 8, 3) := by decide +kernel
theorem dX9_settles_55 : decode cX9_settles 55 = .ok (.aload_n 0, 1) := by decide +kernel
theorem dX9_settles_56 : decode cX9_settles 56 = .ok (.iconst 0, 1) := by decide +kernel
theorem dX9_settles_57 : decode cX9_settles 57 = .ok (.putfield 87, 3) := by decide +kernel
theorem dX9_settles_60 : decode cX9_settles 60 = .ok (.return_, 1) := by decide +kernel
theorem dX9_put_0 : decode cX9_put 0 = .ok (.iconst 0, 1) := by decide +kernel
theorem dX9_put_1 : decode cX9_put 1 = .ok (.istore 5, 2) := by decide +kernel
theorem dX9_put_3 : decode cX9_put 3 = .ok (.iconst 1, 1) := by decide +kernel
theorem dX9_put_4 : decode cX9_put 4 = .ok (.istore 6, 2) := by decide +kernel
theorem dX9_put_6 : decode cX9_put 6 = .ok (.iconst 0, 1) := by decide +kernel
theorem dX9_put_7 : decode cX9_put 7 = .ok (.istore 7, 2) := by decide +kernel
theorem dX9_put_9 : decode cX9_put 9 = .ok (.iload 7, 2) := by decide +kernel
theorem dX9_put_11 : decode cX9_put 11 = .ok (.iconst 4, 1) := by decide +kernel
theorem dX9_put_12 : decode cX9_put 12 = .ok (.if_icmp .ge 101, 3) := by decide +kernel
theorem dX9_put_15 : decode cX9_put 15 = .ok (.iload 7, 2) := by decide +kernel
theorem dX9_put_17 : decode cX9_put 17 = .ok (.ifCond .ne 7, 3) := by decide +kernel
theorem dX9_put_20 : decode cX9_put 20 = .ok (.iload_n 1, 1) := by decide +kernel
theorem dX9_put_21 : decode cX9_put 21 = .ok (.goto 25, 3) := by decide +kernel
theorem dX9_put_24 : decode cX9_put 24 = .ok (.iload 7, 2) := by decide +kernel
theorem dX9_put_26 : decode cX9_put 26 = .ok (.iconst 1, 1) := by decide +kernel
theorem dX9_put_27 : decode cX9_put 27 = .ok (.if_icmp .ne 7, 3) := by decide +kernel
theorem dX9_put_30 : decode cX9_put 30 = .ok (.iload_n 2, 1) := by decide +kernel
theorem dX9_put_31 : decode cX9_put 31 = .ok (.goto 15, 3) := by decide +kernel
theorem dX9_put_34 : decode cX9_put 34 = .ok (.iload 7, 2) := by decide +kernel
theorem dX9_put_36 : decode cX9_put 36 = .ok (.iconst 2, 1) := by decide +kernel
theorem dX9_put_37 : decode cX9_put 37 = .ok (.if_icmp .ne 7, 3) := by decide +kernel
theorem dX9_put_40 : decode cX9_put 40 = .ok (.iload_n 3, 1) := by decide +kernel
theorem dX9_put_41 : decode cX9_put 41 = .ok (.goto 5, 3) := by decide +kernel
theorem dX9_put_44 : decode cX9_put 44 = .ok (.iload 4, 2) := by decide +kernel
theorem dX9_put_46 : decode cX9_put 46 = .ok (.istore 8, 2) := by decide +kernel
theorem dX9_put_48 : decode cX9_put 48 = .ok (.bipush 24, 2) := by decide +kernel
theorem dX9_put_50 : decode cX9_put 50 = .ok (.istore 9, 2) := by decide +kernel
theorem dX9_put_52 : decode cX9_put 52 = .ok (.iload 9, 2) := by decide +kernel
theorem dX9_put_54 : decode cX9_put 54 = .ok (.ifCond .lt 53, 3) := by decide +kernel
theorem dX9_put_57 : decode cX9_put 57 = .ok (.iload 8, 2) := by decide +kernel
theorem dX9_put_59 : decode cX9_put 59 = .ok (.iload 9, 2) := by decide +kernel
theorem dX9_put_61 : decode cX9_put 61 = .ok (.ishr, 1) := by decide +kernel
theorem dX9_put_62 : decode cX9_put 62 = .ok (.sipush 255, 3) := by decide +kernel
theorem dX9_put_65 : decode cX9_put 65 = .ok (.iand, 1) := by decide +kernel
theorem dX9_put_66 : decode cX9_put 66 = .ok (.istore 10, 2) := by decide +kernel
theorem dX9_put_68 : decode cX9_put 68 = .ok (.iload 10, 2) := by decide +kernel
theorem dX9_put_70 : decode cX9_put 70 = .ok (.ifCond .eq 6, 3) := by decide +kernel
theorem dX9_put_73 : decode cX9_put 73 = .ok (.iinc 5 1, 3) := by decide +kernel
theorem dX9_put_76 : decode cX9_put 76 = .ok (.iload 6, 2) := by decide +kernel
theorem dX9_put_78 : decode cX9_put 78 = .ok (.ifCond .eq 20, 3) := by decide +kernel
theorem dX9_put_81 : decode cX9_put 81 = .ok (.iload 10, 2) := by decide +kernel
theorem dX9_put_83 : decode cX9_put 83 = .ok (.ifCond .eq 11, 3) := by decide +kernel
theorem dX9_put_86 : decode cX9_put 86 = .ok (.iload 10, 2) := by decide +kernel
theorem dX9_put_88 : decode cX9_put 88 = .ok (.invokestatic 168, 3) := by decide +kernel
theorem dX9_put_91 : decode cX9_put 91 = .ok (.ifCond .eq 7, 3) := by decide +kernel
theorem dX9_put_94 : decode cX9_put 94 = .ok (.iconst 1, 1) := by decide +kernel
theorem dX9_put_95 : decode cX9_put 95 = .ok (.goto 4, 3) := by decide +kernel
theorem dX9_put_98 : decode cX9_put 98 = .ok (.iconst 0, 1) := by decide +kernel
theorem dX9_put_99 : decode cX9_put 99 = .ok (.istore 6, 2) := by decide +kernel
theorem dX9_put_101 : decode cX9_put 101 = .ok (.iinc 9 (-8), 3) := by decide +kernel
theorem dX9_put_104 : decode cX9_put 104 = .ok (.goto (-52), 3) := by decide +kernel
theorem dX9_put_107 : decode cX9_put 107 = .ok (.iinc 7 1, 3) := by decide +kernel
theorem dX9_put_110 : decode cX9_put 110 = .ok (.goto (-101), 3) := by decide +kernel
theorem dX9_put_113 : decode cX9_put 113 = .ok (.iload 6, 2) := by decide +kernel
theorem dX9_put_115 : decode cX9_put 115 = .ok (.ifCond .ne 5, 3) := by decide +kernel
theorem dX9_put_118 : decode cX9_put 118 = .ok (.iconst (-1), 1) := by decide +kernel
theorem dX9_put_119 : decode cX9_put 119 = .ok (.ireturn, 1) := by decide +kernel
theorem dX9_put_120 : decode cX9_put 120 = .ok (.aload_n 0, 1) := by decide +kernel
theorem dX9_put_121 : decode cX9_put 121 = .ok (.getfield 81, 3) := by decide +kernel
theorem dX9_put_124 : decode cX9_put 124 = .ok (.iload 5, 2) := by decide +kernel
theorem dX9_put_126 : decode cX9_put 126 = .ok (.iadd, 1) := by decide +kernel
theorem dX9_put_127 : decode cX9_put 127 = .ok (.bipush 60, 2) := by decide +kernel
theorem dX9_put_129 : decode cX9_put 129 = .ok (.if_icmp .le 6, 3) := by decide +kernel
theorem dX9_put_132 : decode cX9_put 132 = .ok (.bipush (-2), 2) := by decide +kernel
theorem dX9_put_134 : decode cX9_put 134 = .ok (.ireturn, 1) := by decide +kernel
theorem dX9_put_135 : decode cX9_put 135 = .ok (.iload 5, 2) := by decide +kernel
theorem dX9_put_137 : decode cX9_put 137 = .ok (.ifCond .le 7, 3) := by decide +kernel
theorem dX9_put_140 : decode cX9_put 140 = .ok (.aload_n 0, 1) := by decide +kernel
theorem dX9_put_141 : decode cX9_put 141 = .ok (.invokevirtual 171, 3) := by decide +kernel
theorem dX9_put_144 : decode cX9_put 144 = .ok (.iconst 0, 1) := by decide +kernel
theorem dX9_put_145 : decode cX9_put 145 = .ok (.istore 7, 2) := by decide +kernel
theorem dX9_put_147 : decode cX9_put 147 = .ok (.iload 7, 2) := by decide +kernel
theorem dX9_put_149 : decode cX9_put 149 = .ok (.iconst 4, 1) := by decide +kernel
theorem dX9_put_150 : decode cX9_put 150 = .ok (.if_icmp .ge 97, 3) := by decide +kernel
theorem dX9_put_153 : decode cX9_put 153 = .ok (.iload 7, 2) := by decide +kernel
theorem dX9_put_155 : decode cX9_put 155 = .ok (.ifCond .ne 7, 3) := by decide +kernel
theorem dX9_put_158 : decode cX9_put 158 = .ok (.iload_n 1, 1) := by decide +kernel
theorem dX9_put_159 : decode cX9_put 159 = .ok (.goto 25, 3) := by decide +kernel
theorem dX9_put_162 : decode cX9_put 162 = .ok (.iload 7, 2) := by decide +kernel
theorem dX9_put_164 : decode cX9_put 164 = .ok (.iconst 1, 1) := by decide +kernel
theorem dX9_put_165 : decode cX9_put 165 = .ok (.if_icmp .ne 7, 3) := by decide +kernel
theorem dX9_put_168 : decode cX9_put 168 = .ok (.iload_n 2, 1) := by decide +kernel
theorem dX9_put_169 : decode cX9_put 169 = .ok (.goto 15, 3) := by decide +kernel
theorem dX9_put_172 : decode cX9_put 172 = .ok (.iload 7, 2) := by decide +kernel
theorem dX9_put_174 : decode cX9_put 174 = .ok (.iconst 2, 1) := by decide +kernel
theorem dX9_put_175 : decode cX9_put 175 = .ok (.if_icmp .ne 7, 3) := by decide +kernel
theorem dX9_put_178 : decode cX9_put 178 = .ok (.iload_n 3, 1) := by decide +kernel
theorem dX9_put_179 : decode cX9_put 179 = .ok (.goto 5, 3) := by decide +kernel
theorem dX9_put_182 : decode cX9_put 182 = .ok (.iload 4, 2) := by decide +kernel
theorem dX9_put_184 : decode cX9_put 184 = .ok (.istore 8, 2) := by decide +kernel
theorem dX9_put_186 : decode cX9_put 186 = .ok (.bipush 24, 2) := by decide +kernel
theorem dX9_put_188 : decode cX9_put 188 = .ok (.istore 9, 2) := by decide +kernel
theorem dX9_put_190 : decode cX9_put 190 = .ok (.iload 9, 2) := by decide +kernel
theorem dX9_put_192 : decode cX9_put 192 = .ok (.ifCond .lt 49, 3) := by decide +kernel
theorem dX9_put_195 : decode cX9_put 195 = .ok (.iload 8, 2) := by decide +kernel
theorem dX9_put_197 : decode cX9_put 197 = .ok (.iload 9, 2) := by decide +kernel
theorem dX9_put_199 : decode cX9_put 199 = .ok (.ishr, 1) := by decide +kernel
theorem dX9_put_200 : decode cX9_put 200 = .ok (.sipush 255, 3) := by decide +kernel
theorem dX9_put_203 : decode cX9_put 203 = .ok (.iand, 1) := by decide +kernel
theorem dX9_put_204 : decode cX9_put 204 = .ok (.istore 10, 2) := by decide +kernel
theorem dX9_put_206 : decode cX9_put 206 = .ok (.iload 10, 2) := by decide +kernel
theorem dX9_put_208 : decode cX9_put 208 = .ok (.ifCond .ne 6, 3) := by decide +kernel
theorem dX9_put_211 : decode cX9_put 211 = .ok (.goto 24, 3) := by decide +kernel
theorem dX9_put_214 : decode cX9_put 214 = .ok (.aload_n 0, 1) := by decide +kernel
theorem dX9_put_215 : decode cX9_put 215 = .ok (.getfield 7, 3) := by decide +kernel
theorem dX9_put_218 : decode cX9_put 218 = .ok (.aload_n 0, 1) := by decide +kernel
theorem dX9_put_219 : decode cX9_put 219 = .ok (.getfield 81, 3) := by decide +kernel
theorem dX9_put_222 : decode cX9_put 222 = .ok (.iload 10, 2) := by decide +kernel
theorem dX9_put_224 : decode cX9_put 224 = .ok (.iastore, 1) := by decide +kernel
theorem dX9_put_225 : decode cX9_put 225 = .ok (.aload_n 0, 1) := by decide +kernel
theorem dX9_put_226 : decode cX9_put 226 = .ok (.dup, 1) := by decide +kernel
theorem dX9_put_227 : decode cX9_put 227 = .ok (.getfield 81, 3) := by decide +kernel
theorem dX9_put_230 : decode cX9_put 230 = .ok (.iconst 1, 1) := by decide +kernel
theorem dX9_put_231 : decode cX9_put 231 = .ok (.iadd, 1) := by decide +kernel
theorem dX9_put_232 : decode cX9_put 232 = .ok (.putfield 81, 3) := by decide +kernel
theorem dX9_put_235 : decode cX9_put 235 = .ok (.iinc 9 (-8), 3) := by decide +kernel
theorem dX9_put_238 : decode cX9_put 238 = .ok (.goto (-48), 3) := by decide +kernel
theorem dX9_put_241 : decode cX9_put 241 = .ok (.iinc 7 1, 3) := by decide +kernel
theorem dX9_put_244 : decode cX9_put 244 = .ok (.goto (-97), 3) := by decide +kernel
theorem dX9_put_247 : decode cX9_put 247 = .ok (.aload_n 0, 1) := by decide +kernel
theorem dX9_put_248 : decode cX9_put 248 = .ok (.invokevirtual 174, 3) := by decide +kernel
theorem dX9_put_251 : decode cX9_put 251 = .ok (.aload_n 0, 1) := by decide +kernel
theorem dX9_put_252 : decode cX9_put 252 = .ok (.getfield 81, 3) := by decide +kernel
theorem dX9_put_255 : decode cX9_put 255 = .ok (.ireturn, 1) := by decide +kernel
theorem dX9_clear_0 : decode cX9_clear 0 = .ok (.aload_n 0, 1) := by decide +kernel
theorem dX9_clear_1 : decode cX9_clear 1 = .ok (.getfield 81, 3) := by decide +kernel
theorem dX9_clear_4 : decode cX9_clear 4 = .ok (.istore_n 1, 1) := by decide +kernel
theorem dX9_clear_5 : decode cX9_clear 5 = .ok (.iload_n 1, 1) := by decide +kernel
theorem dX9_clear_6 : decode cX9_clear 6 = .ok (.ifCond .le 7, 3) := by decide +kernel
theorem dX9_clear_9 : decode cX9_clear 9 = .ok (.aload_n 0, 1) := by decide +kernel
theorem dX9_clear_10 : decode cX9_clear 10 = .ok (.invokevirtual 171, 3) := by decide +kernel
theorem dX9_clear_13 : decode cX9_clear 13 = .ok (.aload_n 0, 1) := by decide +kernel
theorem dX9_clear_14 : decode cX9_clear 14 = .ok (.iconst 0, 1) := by decide +kernel
theorem dX9_clear_15 : decode cX9_clear 15 = .ok (.putfield 81, 3) := by decide +kernel
theorem dX9_clear_18 : decode cX9_clear 18 = .ok (.aload_n 0, 1) := by decide +kernel
theorem dX9_clear_19 : decode cX9_clear 19 = .ok (.iconst 0, 1) := by decide +kernel
theorem dX9_clear_20 : decode cX9_clear 20 = .ok (.putfield 84, 3) := by decide +kernel
theorem dX9_clear_23 : decode cX9_clear 23 = .ok (.aload_n 0, 1) := by decide +kernel
theorem dX9_clear_24 : decode cX9_clear 24 = .ok (.iconst 0, 1) := by decide +kernel
theorem dX9_clear_25 : decode cX9_clear 25 = .ok (.putfield 87, 3) := by decide +kernel
theorem dX9_clear_28 : decode cX9_clear 28 = .ok (.iload_n 1, 1) := by decide +kernel
theorem dX9_clear_29 : decode cX9_clear 29 = .ok (.ireturn, 1) := by decide +kernel
theorem dX9_count_0 : decode cX9_count 0 = .ok (.aload_n 0, 1) := by decide +kernel
theorem dX9_count_1 : decode cX9_count 1 = .ok (.invokevirtual 162, 3) := by decide +kernel
theorem dX9_count_4 : decode cX9_count 4 = .ok (.iconst 0, 1) := by decide +kernel
theorem dX9_count_5 : decode cX9_count 5 = .ok (.istore_n 2, 1) := by decide +kernel
theorem dX9_count_6 : decode cX9_count 6 = .ok (.iload_n 1, 1) := by decide +kernel
theorem dX9_count_7 : decode cX9_count 7 = .ok (.tableswitch 202 0 5 #[37, 42, 47, 76, 81, 151], 37) := by decide +kernel
theorem dX9_count_44 : decode cX9_count 44 = .ok (.aload_n 0, 1) := by decide +kernel
theorem dX9_count_45 : decode cX9_count 45 = .ok (.getfield 81, 3) := by decide +kernel
theorem dX9_count_48 : decode cX9_count 48 = .ok (.ireturn, 1) := by decide +kernel
theorem dX9_count_49 : decode cX9_count 49 = .ok (.aload_n 0, 1) := by decide +kernel
theorem dX9_count_50 : decode cX9_count 50 = .ok (.getfield 129, 3) := by decide +kernel
theorem dX9_count_53 : decode cX9_count 53 = .ok (.ireturn, 1) := by decide +kernel
theorem dX9_count_54 : decode cX9_count 54 = .ok (.iconst 0, 1) := by decide +kernel
theorem dX9_count_55 : decode cX9_count 55 = .ok (.istore_n 3, 1) := by decide +kernel
theorem dX9_count_56 : decode cX9_count 56 = .ok (.iload_n 3, 1) := by decide +kernel
theorem dX9_count_57 : decode cX9_count 57 = .ok (.aload_n 0, 1) := by decide +kernel
theorem dX9_count_58 : decode cX9_count 58 = .ok (.getfield 81, 3) := by decide +kernel
theorem dX9_count_61 : decode cX9_count 61 = .ok (.if_icmp .gt 20, 3) := by decide +kernel
theorem dX9_count_64 : decode cX9_count 64 = .ok (.aload_n 0, 1) := by decide +kernel
theorem dX9_count_65 : decode cX9_count 65 = .ok (.iload_n 3, 1) := by decide +kernel
theorem dX9_count_66 : decode cX9_count 66 = .ok (.invokevirtual 165, 3) := by decide +kernel
theorem dX9_count_69 : decode cX9_count 69 = .ok (.ifCond .eq 6, 3) := by decide +kernel
theorem dX9_count_72 : decode cX9_count 72 = .ok (.iinc 2 1, 3) := by decide +kernel
theorem dX9_count_75 : decode cX9_count 75 = .ok (.iinc 3 1, 3) := by decide +kernel
theorem dX9_count_78 : decode cX9_count 78 = .ok (.goto (-22), 3) := by decide +kernel
theorem dX9_count_81 : decode cX9_count 81 = .ok (.iload_n 2, 1) := by decide +kernel
theorem dX9_count_82 : decode cX9_count 82 = .ok (.ireturn, 1) := by decide +kernel
theorem dX9_count_83 : decode cX9_count 83 = .ok (.aload_n 0, 1) := by decide +kernel
theorem dX9_count_84 : decode cX9_count 84 = .ok (.getfield 147, 3) := by decide +kernel
theorem dX9_count_87 : decode cX9_count 87 = .ok (.ireturn, 1) := by decide +kernel
theorem dX9_count_88 : decode cX9_count 88 = .ok (.iconst 0, 1) := by decide +kernel
theorem dX9_count_89 : decode cX9_count 89 = .ok (.istore_n 3, 1) := by decide +kernel
theorem dX9_count_90 : decode cX9_count 90 = .ok (.iload_n 3, 1) := by decide +kernel
theorem dX9_count_91 : decode cX9_count 91 = .ok (.aload_n 0, 1) := by decide +kernel
theorem dX9_count_92 : decode cX9_count 92 = .ok (.getfield 112, 3) := by decide +kernel
theorem dX9_count_95 : decode cX9_count 95 = .ok (.if_icmp .ge 61, 3) := by decide +kernel
theorem dX9_count_98 : decode cX9_count 98 = .ok (.iconst 0, 1) := by decide +kernel
theorem dX9_count_99 : decode cX9_count 99 = .ok (.istore 4, 2) := by decide +kernel
theorem dX9_count_101 : decode cX9_count 101 = .ok (.iconst 0, 1) := by decide +kernel
theorem dX9_count_102 : decode cX9_count 102 = .ok (.istore 5, 2) := by decide +kernel
theorem dX9_count_104 : decode cX9_count 104 = .ok (.iload 5, 2) := by decide +kernel
theorem dX9_count_106 : decode cX9_count 106 = .ok (.aload_n 0, 1) := by decide +kernel
theorem dX9_count_107 : decode cX9_count 107 = .ok (.getfield 81, 3) := by decide +kernel
theorem dX9_count_110 : decode cX9_count 110 = .ok (.if_icmp .ge 32, 3) := by decide +kernel
theorem dX9_count_113 : decode cX9_count 113 = .ok (.iload 4, 2) := by decide +kernel
theorem dX9_count_115 : decode cX9_count 115 = .ok (.ifCond .ne 14, 3) := by decide +kernel
theorem dX9_count_118 : decode cX9_count 118 = .ok (.aload_n 0, 1) := by decide +kernel
theorem dX9_count_119 : decode cX9_count 119 = .ok (.getfield 25, 3) := by decide +kernel
theorem dX9_count_122 : decode cX9_count 122 = .ok (.iload 5, 2) := by decide +kernel
theorem dX9_count_124 : decode cX9_count 124 = .ok (.iaload, 1) := by decide +kernel
theorem dX9_count_125 : decode cX9_count 125 = .ok (.iload_n 3, 1) := by decide +kernel
theorem dX9_count_126 : decode cX9_count 126 = .ok (.if_icmp .ne 7, 3) := by decide +kernel
theorem dX9_count_129 : decode cX9_count 129 = .ok (.iconst 1, 1) := by decide +kernel
theorem dX9_count_130 : decode cX9_count 130 = .ok (.goto 4, 3) := by decide +kernel
theorem dX9_count_133 : decode cX9_count 133 = .ok (.iconst 0, 1) := by decide +kernel
theorem dX9_count_134 : decode cX9_count 134 = .ok (.istore 4, 2) := by decide +kernel
theorem dX9_count_136 : decode cX9_count 136 = .ok (.iinc 5 1, 3) := by decide +kernel
theorem dX9_count_139 : decode cX9_count 139 = .ok (.goto (-35), 3) := by decide +kernel
theorem dX9_count_142 : decode cX9_count 142 = .ok (.iload 4, 2) := by decide +kernel
theorem dX9_count_144 : decode cX9_count 144 = .ok (.ifCond .eq 6, 3) := by decide +kernel
theorem dX9_count_147 : decode cX9_count 147 = .ok (.iinc 2 1, 3) := by decide +kernel
theorem dX9_count_150 : decode cX9_count 150 = .ok (.iinc 3 1, 3) := by decide +kernel
theorem dX9_count_153 : decode cX9_count 153 = .ok (.goto (-63), 3) := by decide +kernel
theorem dX9_count_156 : decode cX9_count 156 = .ok (.iload_n 2, 1) := by decide +kernel
theorem dX9_count_157 : decode cX9_count 157 = .ok (.ireturn, 1) := by decide +kernel
theorem dX9_count_158 : decode cX9_count 158 = .ok (.aload_n 0, 1) := by decide +kernel
theorem dX9_count_159 : decode cX9_count 159 = .ok (.getfield 81, 3) := by decide +kernel
theorem dX9_count_162 : decode cX9_count 162 = .ok (.ifCond .ne 10, 3) := by decide +kernel
theorem dX9_count_165 : decode cX9_count 165 = .ok (.aload_n 0, 1) := by decide +kernel
theorem dX9_count_166 : decode cX9_count 166 = .ok (.getfield 109, 3) := by decide +kernel
theorem dX9_count_169 : decode cX9_count 169 = .ok (.goto 4, 3) := by decide +kernel
theorem dX9_count_172 : decode cX9_count 172 = .ok (.iconst 0, 1) := by decide +kernel
theorem dX9_count_173 : decode cX9_count 173 = .ok (.istore_n 2, 1) := by decide +kernel
theorem dX9_count_174 : decode cX9_count 174 = .ok (.iconst 0, 1) := by decide +kernel
theorem dX9_count_175 : decode cX9_count 175 = .ok (.istore_n 3, 1) := by decide +kernel
theorem dX9_count_176 : decode cX9_count 176 = .ok (.iload_n 3, 1) := by decide +kernel
theorem dX9_count_177 : decode cX9_count 177 = .ok (.aload_n 0, 1) := by decide +kernel
theorem dX9_count_178 : decode cX9_count 178 = .ok (.getfield 81, 3) := by decide +kernel
theorem dX9_count_181 : decode cX9_count 181 = .ok (.if_icmp .ge 26, 3) := by decide +kernel
theorem dX9_count_184 : decode cX9_count 184 = .ok (.aload_n 0, 1) := by decide +kernel
theorem dX9_count_185 : decode cX9_count 185 = .ok (.getfield 41, 3) := by decide +kernel
theorem dX9_count_188 : decode cX9_count 188 = .ok (.iload_n 3, 1) := by decide +kernel
theorem dX9_count_189 : decode cX9_count 189 = .ok (.iaload, 1) := by decide +kernel
theorem dX9_count_190 : decode cX9_count 190 = .ok (.iload_n 2, 1) := by decide +kernel
theorem dX9_count_191 : decode cX9_count 191 = .ok (.if_icmp .le 10, 3) := by decide +kernel
theorem dX9_count_194 : decode cX9_count 194 = .ok (.aload_n 0, 1) := by decide +kernel
theorem dX9_count_195 : decode cX9_count 195 = .ok (.getfield 41, 3) := by decide +kernel
theorem dX9_count_198 : decode cX9_count 198 = .ok (.iload_n 3, 1) := by decide +kernel
theorem dX9_count_199 : decode cX9_count 199 = .ok (.iaload, 1) := by decide +kernel
theorem dX9_count_200 : decode cX9_count 200 = .ok (.istore_n 2, 1) := by decide +kernel
theorem dX9_count_201 : decode cX9_count 201 = .ok (.iinc 3 1, 3) := by decide +kernel
theorem dX9_count_204 : decode cX9_count 204 = .ok (.goto (-28), 3) := by decide +kernel
theorem dX9_count_207 : decode cX9_count 207 = .ok (.iload_n 2, 1) := by decide +kernel
theorem dX9_count_208 : decode cX9_count 208 = .ok (.ireturn, 1) := by decide +kernel
theorem dX9_count_209 : decode cX9_count 209 = .ok (.iconst (-1), 1) := by decide +kernel
theorem dX9_count_210 : decode cX9_count 210 = .ok (.ireturn, 1) := by decide +kernel
theorem dX9_sign_0 : decode cX9_sign 0 = .ok (.iload_n 1, 1) := by decide +kernel
theorem dX9_sign_1 : decode cX9_sign 1 = .ok (.ifCond .lt 20, 3) := by decide +kernel
theorem dX9_sign_4 : decode cX9_sign 4 = .ok (.iload_n 1, 1) := by decide +kernel
theorem dX9_sign_5 : decode cX9_sign 5 = .ok (.aload_n 0, 1) := by decide +kernel
theorem dX9_sign_6 : decode cX9_sign 6 = .ok (.getfield 81, 3) := by decide +kernel
theorem dX9_sign_9 : decode cX9_sign 9 = .ok (.if_icmp .ge 12, 3) := by decide +kernel
theorem dX9_sign_12 : decode cX9_sign 12 = .ok (.aload_n 0, 1) := by decide +kernel
theorem dX9_sign_13 : decode cX9_sign 13 = .ok (.getfield 7, 3) := by decide +kernel
theorem dX9_sign_16 : decode cX9_sign 16 = .ok (.iload_n 1, 1) := by decide +kernel
theorem dX9_sign_17 : decode cX9_sign 17 = .ok (.iaload, 1) := by decide +kernel
theorem dX9_sign_18 : decode cX9_sign 18 = .ok (.goto 4, 3) := by decide +kernel
theorem dX9_sign_21 : decode cX9_sign 21 = .ok (.iconst (-1), 1) := by decide +kernel
theorem dX9_sign_22 : decode cX9_sign 22 = .ok (.ireturn, 1) := by decide +kernel
theorem dX9_level_0 : decode cX9_level 0 = .ok (.iload_n 1, 1) := by decide +kernel
theorem dX9_level_1 : decode cX9_level 1 = .ok (.ifCond .lt 11, 3) := by decide +kernel
theorem dX9_level_4 : decode cX9_level 4 = .ok (.iload_n 1, 1) := by decide +kernel
theorem dX9_level_5 : decode cX9_level 5 = .ok (.aload_n 0, 1) := by decide +kernel
theorem dX9_level_6 : decode cX9_level 6 = .ok (.getfield 81, 3) := by decide +kernel
theorem dX9_level_9 : decode cX9_level 9 = .ok (.if_icmp .lt 5, 3) := by decide +kernel
theorem dX9_level_12 : decode cX9_level 12 = .ok (.iconst (-1), 1) := by decide +kernel
theorem dX9_level_13 : decode cX9_level 13 = .ok (.ireturn, 1) := by decide +kernel
theorem dX9_level_14 : decode cX9_level 14 = .ok (.aload_n 0, 1) := by decide +kernel
theorem dX9_level_15 : decode cX9_level 15 = .ok (.invokevirtual 162, 3) := by decide +kernel
theorem dX9_level_18 : decode cX9_level 18 = .ok (.aload_n 0, 1) := by decide +kernel
theorem dX9_level_19 : decode cX9_level 19 = .ok (.getfield 41, 3) := by decide +kernel
theorem dX9_level_22 : decode cX9_level 22 = .ok (.iload_n 1, 1) := by decide +kernel
theorem dX9_level_23 : decode cX9_level 23 = .ok (.iaload, 1) := by decide +kernel
theorem dX9_level_24 : decode cX9_level 24 = .ok (.ireturn, 1) := by decide +kernel
theorem dX9_cluster_0 : decode cX9_cluster 0 = .ok (.aload_n 0, 1) := by decide +kernel
theorem dX9_cluster_1 : decode cX9_cluster 1 = .ok (.invokevirtual 162, 3) := by decide +kernel
theorem dX9_cluster_4 : decode cX9_cluster 4 = .ok (.iload_n 1, 1) := by decide +kernel
theorem dX9_cluster_5 : decode cX9_cluster 5 = .ok (.ifCond .lt 11, 3) := by decide +kernel
theorem dX9_cluster_8 : decode cX9_cluster 8 = .ok (.iload_n 1, 1) := by decide +kernel
theorem dX9_cluster_9 : decode cX9_cluster 9 = .ok (.aload_n 0, 1) := by decide +kernel
theorem dX9_cluster_10 : decode cX9_cluster 10 = .ok (.getfield 129, 3) := by decide +kernel
theorem dX9_cluster_13 : decode cX9_cluster 13 = .ok (.if_icmp .lt 5, 3) := by decide +kernel
theorem dX9_cluster_16 : decode cX9_cluster 16 = .ok (.iconst (-1), 1) := by decide +kernel
theorem dX9_cluster_17 : decode cX9_cluster 17 = .ok (.ireturn, 1) := by decide +kernel
theorem dX9_cluster_18 : decode cX9_cluster 18 = .ok (.iload_n 2, 1) := by decide +kernel
theorem dX9_cluster_19 : decode cX9_cluster 19 = .ok (.tableswitch 103 0 6 #[41, 48, 55, 67, 74, 81, 96], 41) := by decide +kernel
theorem dX9_cluster_60 : decode cX9_cluster 60 = .ok (.aload_n 0, 1) := by decide +kernel
theorem dX9_cluster_61 : decode cX9_cluster 61 = .ok (.getfield 50, 3) := by decide +kernel
theorem dX9_cluster_64 : decode cX9_cluster 64 = .ok (.iload_n 1, 1) := by decide +kernel
theorem dX9_cluster_65 : decode cX9_cluster 65 = .ok (.iaload, 1) := by decide +kernel
theorem dX9_cluster_66 : decode cX9_cluster 66 = .ok (.ireturn, 1) := by decide +kernel
theorem dX9_cluster_67 : decode cX9_cluster 67 = .ok (.aload_n 0, 1) := by decide +kernel
theorem dX9_cluster_68 : decode cX9_cluster 68 = .ok (.getfield 53, 3) := by decide +kernel
theorem dX9_cluster_71 : decode cX9_cluster 71 = .ok (.iload_n 1, 1) := by decide +kernel
theorem dX9_cluster_72 : decode cX9_cluster 72 = .ok (.iaload, 1) := by decide +kernel
theorem dX9_cluster_73 : decode cX9_cluster 73 = .ok (.ireturn, 1) := by decide +kernel
theorem dX9_cluster_74 : decode cX9_cluster 74 = .ok (.aload_n 0, 1) := by decide +kernel
theorem dX9_cluster_75 : decode cX9_cluster 75 = .ok (.getfield 41, 3) := by decide +kernel
theorem dX9_cluster_78 : decode cX9_cluster 78 = .ok (.aload_n 0, 1) := by decide +kernel
theorem dX9_cluster_79 : decode cX9_cluster 79 = .ok (.getfield 50, 3) := by decide +kernel
theorem dX9_cluster_82 : decode cX9_cluster 82 = .ok (.iload_n 1, 1) := by decide +kernel
theorem dX9_cluster_83 : decode cX9_cluster 83 = .ok (.iaload, 1) := by decide +kernel
theorem dX9_cluster_84 : decode cX9_cluster 84 = .ok (.iaload, 1) := by decide +kernel
theorem dX9_cluster_85 : decode cX9_cluster 85 = .ok (.ireturn, 1) := by decide +kernel
theorem dX9_cluster_86 : decode cX9_cluster 86 = .ok (.aload_n 0, 1) := by decide +kernel
theorem dX9_cluster_87 : decode cX9_cluster 87 = .ok (.getfield 62, 3) := by decide +kernel
theorem dX9_cluster_90 : decode cX9_cluster 90 = .ok (.iload_n 1, 1) := by decide +kernel
theorem dX9_cluster_91 : decode cX9_cluster 91 = .ok (.iaload, 1) := by decide +kernel
theorem dX9_cluster_92 : decode cX9_cluster 92 = .ok (.ireturn, 1) := by decide +kernel
theorem dX9_cluster_93 : decode cX9_cluster 93 = .ok (.aload_n 0, 1) := by decide +kernel
theorem dX9_cluster_94 : decode cX9_cluster 94 = .ok (.getfield 59, 3) := by decide +kernel
theorem dX9_cluster_97 : decode cX9_cluster 97 = .ok (.iload_n 1, 1) := by decide +kernel
theorem dX9_cluster_98 : decode cX9_cluster 98 = .ok (.iaload, 1) := by decide +kernel
theorem dX9_cluster_99 : decode cX9_cluster 99 = .ok (.ireturn, 1) := by decide +kernel
theorem dX9_cluster_100 : decode cX9_cluster 100 = .ok (.aload_n 0, 1) := by decide +kernel
theorem dX9_cluster_101 : decode cX9_cluster 101 = .ok (.getfield 56, 3) := by decide +kernel
theorem dX9_cluster_104 : decode cX9_cluster 104 = .ok (.iload_n 1, 1) := by decide +kernel
theorem dX9_cluster_105 : decode cX9_cluster 105 = .ok (.baload, 1) := by decide +kernel
theorem dX9_cluster_106 : decode cX9_cluster 106 = .ok (.ifCond .eq 7, 3) := by decide +kernel
theorem dX9_cluster_109 : decode cX9_cluster 109 = .ok (.iconst 1, 1) := by decide +kernel
theorem dX9_cluster_110 : decode cX9_cluster 110 = .ok (.goto 4, 3) := by decide +kernel
theorem dX9_cluster_113 : decode cX9_cluster 113 = .ok (.iconst 0, 1) := by decide +kernel
theorem dX9_cluster_114 : decode cX9_cluster 114 = .ok (.ireturn, 1) := by decide +kernel
theorem dX9_cluster_115 : decode cX9_cluster 115 = .ok (.aload_n 0, 1) := by decide +kernel
theorem dX9_cluster_116 : decode cX9_cluster 116 = .ok (.getfield 65, 3) := by decide +kernel
theorem dX9_cluster_119 : decode cX9_cluster 119 = .ok (.iload_n 1, 1) := by decide +kernel
theorem dX9_cluster_120 : decode cX9_cluster 120 = .ok (.iaload, 1) := by decide +kernel
theorem dX9_cluster_121 : decode cX9_cluster 121 = .ok (.ireturn, 1) := by decide +kernel
theorem dX9_cluster_122 : decode cX9_cluster 122 = .ok (.iconst (-1), 1) := by decide +kernel
theorem dX9_cluster_123 : decode cX9_cluster 123 = .ok (.ireturn, 1) := by decide +kernel
theorem dX9_seen_0 : decode cX9_seen 0 = .ok (.aload_n 0, 1) := by decide +kernel
theorem dX9_seen_1 : decode cX9_seen 1 = .ok (.invokevirtual 162, 3) := by decide +kernel
theorem dX9_seen_4 : decode cX9_seen 4 = .ok (.iload_n 1, 1) := by decide +kernel
theorem dX9_seen_5 : decode cX9_seen 5 = .ok (.ifCond .lt 11, 3) := by decide +kernel
theorem dX9_seen_8 : decode cX9_seen 8 = .ok (.iload_n 1, 1) := by decide +kernel
theorem dX9_seen_9 : decode cX9_seen 9 = .ok (.aload_n 0, 1) := by decide +kernel
theorem dX9_seen_10 : decode cX9_seen 10 = .ok (.getfield 129, 3) := by decide +kernel
theorem dX9_seen_13 : decode cX9_seen 13 = .ok (.if_icmp .lt 5, 3) := by decide +kernel
theorem dX9_seen_16 : decode cX9_seen 16 = .ok (.iconst (-1), 1) := by decide +kernel
theorem dX9_seen_17 : decode cX9_seen 17 = .ok (.ireturn, 1) := by decide +kernel
theorem dX9_seen_18 : decode cX9_seen 18 = .ok (.aload_n 0, 1) := by decide +kernel
theorem dX9_seen_19 : decode cX9_seen 19 = .ok (.getfield 7, 3) := by decide +kernel
theorem dX9_seen_22 : decode cX9_seen 22 = .ok (.aload_n 0, 1) := by decide +kernel
theorem dX9_seen_23 : decode cX9_seen 23 = .ok (.getfield 50, 3) := by decide +kernel
theorem dX9_seen_26 : decode cX9_seen 26 = .ok (.aload_n 0, 1) := by decide +kernel
theorem dX9_seen_27 : decode cX9_seen 27 = .ok (.getfield 68, 3) := by decide +kernel
theorem dX9_seen_30 : decode cX9_seen 30 = .ok (.iload_n 1, 1) := by decide +kernel
theorem dX9_seen_31 : decode cX9_seen 31 = .ok (.iaload, 1) := by decide +kernel
theorem dX9_seen_32 : decode cX9_seen 32 = .ok (.iaload, 1) := by decide +kernel
theorem dX9_seen_33 : decode cX9_seen 33 = .ok (.iaload, 1) := by decide +kernel
theorem dX9_seen_34 : decode cX9_seen 34 = .ok (.istore_n 2, 1) := by decide +kernel
theorem dX9_seen_35 : decode cX9_seen 35 = .ok (.aload_n 0, 1) := by decide +kernel
theorem dX9_seen_36 : decode cX9_seen 36 = .ok (.getfield 41, 3) := by decide +kernel
theorem dX9_seen_39 : decode cX9_seen 39 = .ok (.aload_n 0, 1) := by decide +kernel
theorem dX9_seen_40 : decode cX9_seen 40 = .ok (.getfield 50, 3) := by decide +kernel
theorem dX9_seen_43 : decode cX9_seen 43 = .ok (.aload_n 0, 1) := by decide +kernel
theorem dX9_seen_44 : decode cX9_seen 44 = .ok (.getfield 68, 3) := by decide +kernel
theorem dX9_seen_47 : decode cX9_seen 47 = .ok (.iload_n 1, 1) := by decide +kernel
theorem dX9_seen_48 : decode cX9_seen 48 = .ok (.iaload, 1) := by decide +kernel
theorem dX9_seen_49 : decode cX9_seen 49 = .ok (.iaload, 1) := by decide +kernel
theorem dX9_seen_50 : decode cX9_seen 50 = .ok (.iaload, 1) := by decide +kernel
theorem dX9_seen_51 : decode cX9_seen 51 = .ok (.iconst 2, 1) := by decide +kernel
theorem dX9_seen_52 : decode cX9_seen 52 = .ok (.irem, 1) := by decide +kernel
theorem dX9_seen_53 : decode cX9_seen 53 = .ok (.ifCond .ne 5, 3) := by decide +kernel
theorem dX9_seen_56 : decode cX9_seen 56 = .ok (.iload_n 2, 1) := by decide +kernel
theorem dX9_seen_57 : decode cX9_seen 57 = .ok (.ireturn, 1) := by decide +kernel
theorem dX9_seen_58 : decode cX9_seen 58 = .ok (.iload_n 2, 1) := by decide +kernel
theorem dX9_seen_59 : decode cX9_seen 59 = .ok (.bipush 40, 2) := by decide +kernel
theorem dX9_seen_61 : decode cX9_seen 61 = .ok (.if_icmp .ne 8, 3) := by decide +kernel
theorem dX9_seen_64 : decode cX9_seen 64 = .ok (.bipush 41, 2) := by decide +kernel
theorem dX9_seen_66 : decode cX9_seen 66 = .ok (.goto 37, 3) := by decide +kernel
theorem dX9_seen_69 : decode cX9_seen 69 = .ok (.iload_n 2, 1) := by decide +kernel
theorem dX9_seen_70 : decode cX9_seen 70 = .ok (.bipush 41, 2) := by decide +kernel
theorem dX9_seen_72 : decode cX9_seen 72 = .ok (.if_icmp .ne 8, 3) := by decide +kernel
theorem dX9_seen_75 : decode cX9_seen 75 = .ok (.bipush 40, 2) := by decide +kernel
theorem dX9_seen_77 : decode cX9_seen 77 = .ok (.goto 26, 3) := by decide +kernel
theorem dX9_seen_80 : decode cX9_seen 80 = .ok (.iload_n 2, 1) := by decide +kernel
theorem dX9_seen_81 : decode cX9_seen 81 = .ok (.bipush 60, 2) := by decide +kernel
theorem dX9_seen_83 : decode cX9_seen 83 = .ok (.if_icmp .ne 8, 3) := by decide +kernel
theorem dX9_seen_86 : decode cX9_seen 86 = .ok (.bipush 62, 2) := by decide +kernel
theorem dX9_seen_88 : decode cX9_seen 88 = .ok (.goto 15, 3) := by decide +kernel
theorem dX9_seen_91 : decode cX9_seen 91 = .ok (.iload_n 2, 1) := by decide +kernel
theorem dX9_seen_92 : decode cX9_seen 92 = .ok (.bipush 62, 2) := by decide +kernel
theorem dX9_seen_94 : decode cX9_seen 94 = .ok (.if_icmp .ne 8, 3) := by decide +kernel
theorem dX9_seen_97 : decode cX9_seen 97 = .ok (.bipush 60, 2) := by decide +kernel
theorem dX9_seen_99 : decode cX9_seen 99 = .ok (.goto 4, 3) := by decide +kernel
theorem dX9_seen_102 : decode cX9_seen 102 = .ok (.iload_n 2, 1) := by decide +kernel
theorem dX9_seen_103 : decode cX9_seen 103 = .ok (.ireturn, 1) := by decide +kernel
theorem dX9_isEven_0 : decode cX9_isEven 0 = .ok (.aload_n 0, 1) := by decide +kernel
theorem dX9_isEven_1 : decode cX9_isEven 1 = .ok (.getfield 41, 3) := by decide +kernel
theorem dX9_isEven_4 : decode cX9_isEven 4 = .ok (.aload_n 0, 1) := by decide +kernel
theorem dX9_isEven_5 : decode cX9_isEven 5 = .ok (.getfield 50, 3) := by decide +kernel
theorem dX9_isEven_8 : decode cX9_isEven 8 = .ok (.iload_n 1, 1) := by decide +kernel
theorem dX9_isEven_9 : decode cX9_isEven 9 = .ok (.iaload, 1) := by decide +kernel
theorem dX9_isEven_10 : decode cX9_isEven 10 = .ok (.iaload, 1) := by decide +kernel
theorem dX9_isEven_11 : decode cX9_isEven 11 = .ok (.iconst 2, 1) := by decide +kernel
theorem dX9_isEven_12 : decode cX9_isEven 12 = .ok (.irem, 1) := by decide +kernel
theorem dX9_isEven_13 : decode cX9_isEven 13 = .ok (.ifCond .ne 7, 3) := by decide +kernel
theorem dX9_isEven_16 : decode cX9_isEven 16 = .ok (.iconst 1, 1) := by decide +kernel
theorem dX9_isEven_17 : decode cX9_isEven 17 = .ok (.goto 4, 3) := by decide +kernel
theorem dX9_isEven_20 : decode cX9_isEven 20 = .ok (.iconst 0, 1) := by decide +kernel
theorem dX9_isEven_21 : decode cX9_isEven 21 = .ok (.ireturn, 1) := by decide +kernel
theorem dX9_place_0 : decode cX9_place 0 = .ok (.aload_n 0, 1) := by decide +kernel
theorem dX9_place_1 : decode cX9_place 1 = .ok (.aload_n 0, 1) := by decide +kernel
theorem dX9_place_2 : decode cX9_place 2 = .ok (.getfield 84, 3) := by decide +kernel
theorem dX9_place_5 : decode cX9_place 5 = .ok (.invokevirtual 156, 3) := by decide +kernel
theorem dX9_place_8 : decode cX9_place 8 = .ok (.ifCond .ne 20, 3) := by decide +kernel
theorem dX9_place_11 : decode cX9_place 11 = .ok (.aload_n 0, 1) := by decide +kernel
theorem dX9_place_12 : decode cX9_place 12 = .ok (.getfield 62, 3) := by decide +kernel
theorem dX9_place_15 : decode cX9_place 15 = .ok (.aload_n 0, 1) := by decide +kernel
theorem dX9_place_16 : decode cX9_place 16 = .ok (.aload_n 0, 1) := by decide +kernel
theorem dX9_place_17 : decode cX9_place 17 = .ok (.getfield 84, 3) := by decide +kernel
theorem dX9_place_20 : decode cX9_place 20 = .ok (.invokevirtual 159, 3) := by decide +kernel
theorem dX9_place_23 : decode cX9_place 23 = .ok (.iaload, 1) := by decide +kernel
theorem dX9_place_24 : decode cX9_place 24 = .ok (.bipush 8, 2) := by decide +kernel
theorem dX9_place_26 : decode cX9_place 26 = .ok (.iadd, 1) := by decide +kernel
theorem dX9_place_27 : decode cX9_place 27 = .ok (.ireturn, 1) := by decide +kernel
theorem dX9_place_28 : decode cX9_place 28 = .ok (.aload_n 0, 1) := by decide +kernel
theorem dX9_place_29 : decode cX9_place 29 = .ok (.getfield 87, 3) := by decide +kernel
theorem dX9_place_32 : decode cX9_place 32 = .ok (.iconst 1, 1) := by decide +kernel
theorem dX9_place_33 : decode cX9_place 33 = .ok (.if_icmp .ne 14, 3) := by decide +kernel
theorem dX9_place_36 : decode cX9_place 36 = .ok (.aload_n 0, 1) := by decide +kernel
theorem dX9_place_37 : decode cX9_place 37 = .ok (.aload_n 0, 1) := by decide +kernel
theorem dX9_place_38 : decode cX9_place 38 = .ok (.getfield 84, 3) := by decide +kernel
theorem dX9_place_41 : decode cX9_place 41 = .ok (.invokevirtual 153, 3) := by decide +kernel
theorem dX9_place_44 : decode cX9_place 44 = .ok (.goto 11, 3) := by decide +kernel
theorem dX9_place_47 : decode cX9_place 47 = .ok (.aload_n 0, 1) := by decide +kernel
theorem dX9_place_48 : decode cX9_place 48 = .ok (.aload_n 0, 1) := by decide +kernel
theorem dX9_place_49 : decode cX9_place 49 = .ok (.getfield 84, 3) := by decide +kernel
theorem dX9_place_52 : decode cX9_place 52 = .ok (.invokevirtual 177, 3) := by decide +kernel
theorem dX9_place_55 : decode cX9_place 55 = .ok (.istore_n 1, 1) := by decide +kernel
theorem dX9_place_56 : decode cX9_place 56 = .ok (.iload_n 1, 1) := by decide +kernel
theorem dX9_place_57 : decode cX9_place 57 = .ok (.iconst (-1), 1) := by decide +kernel
theorem dX9_place_58 : decode cX9_place 58 = .ok (.if_icmp .eq 22, 3) := by decide +kernel
theorem dX9_place_61 : decode cX9_place 61 = .ok (.aload_n 0, 1) := by decide +kernel
theorem dX9_place_62 : decode cX9_place 62 = .ok (.getfield 87, 3) := by decide +kernel
theorem dX9_place_65 : decode cX9_place 65 = .ok (.iconst 1, 1) := by decide +kernel
theorem dX9_place_66 : decode cX9_place 66 = .ok (.if_icmp .ne 50, 3) := by decide +kernel
theorem dX9_place_69 : decode cX9_place 69 = .ok (.aload_n 0, 1) := by decide +kernel
theorem dX9_place_70 : decode cX9_place 70 = .ok (.getfield 84, 3) := by decide +kernel
theorem dX9_place_73 : decode cX9_place 73 = .ok (.aload_n 0, 1) := by decide +kernel
theorem dX9_place_74 : decode cX9_place 74 = .ok (.getfield 81, 3) := by decide +kernel
theorem dX9_place_77 : decode cX9_place 77 = .ok (.if_icmp .ne 39, 3) := by decide +kernel
theorem dX9_place_80 : decode cX9_place 80 = .ok (.aload_n 0, 1) := by decide +kernel
theorem dX9_place_81 : decode cX9_place 81 = .ok (.getfield 84, 3) := by decide +kernel
theorem dX9_place_84 : decode cX9_place 84 = .ok (.ifCond .ne 7, 3) := by decide +kernel
theorem dX9_place_87 : decode cX9_place 87 = .ok (.iconst 1, 1) := by decide +kernel
theorem dX9_place_88 : decode cX9_place 88 = .ok (.goto 4, 3) := by decide +kernel
theorem dX9_place_91 : decode cX9_place 91 = .ok (.iconst 0, 1) := by decide +kernel
theorem dX9_place_92 : decode cX9_place 92 = .ok (.aload_n 0, 1) := by decide +kernel
theorem dX9_place_93 : decode cX9_place 93 = .ok (.getfield 109, 3) := by decide +kernel
theorem dX9_place_96 : decode cX9_place 96 = .ok (.ifCond .ne 7, 3) := by decide +kernel
theorem dX9_place_99 : decode cX9_place 99 = .ok (.iconst 1, 1) := by decide +kernel
theorem dX9_place_100 : decode cX9_place 100 = .ok (.goto 4, 3) := by decide +kernel
theorem dX9_place_103 : decode cX9_place 103 = .ok (.iconst 0, 1) := by decide +kernel
theorem dX9_place_104 : decode cX9_place 104 = .ok (.if_icmp .ne 7, 3) := by decide +kernel
theorem dX9_place_107 : decode cX9_place 107 = .ok (.iconst 0, 1) := by decide +kernel
theorem dX9_place_108 : decode cX9_place 108 = .ok (.goto 7, 3) := by decide +kernel
theorem dX9_place_111 : decode cX9_place 111 = .ok (.aload_n 0, 1) := by decide +kernel
theorem dX9_place_112 : decode cX9_place 112 = .ok (.getfield 147, 3) := by decide +kernel
theorem dX9_place_115 : decode cX9_place 115 = .ok (.ireturn, 1) := by decide +kernel
theorem dX9_place_116 : decode cX9_place 116 = .ok (.aload_n 0, 1) := by decide +kernel
theorem dX9_place_117 : decode cX9_place 117 = .ok (.iload_n 1, 1) := by decide +kernel
theorem dX9_place_118 : decode cX9_place 118 = .ok (.invokevirtual 180, 3) := by decide +kernel
theorem dX9_place_121 : decode cX9_place 121 = .ok (.aload_n 0, 1) := by decide +kernel
theorem dX9_place_122 : decode cX9_place 122 = .ok (.getfield 87, 3) := by decide +kernel
theorem dX9_place_125 : decode cX9_place 125 = .ok (.iconst 1, 1) := by decide +kernel
theorem dX9_place_126 : decode cX9_place 126 = .ok (.if_icmp .ne 7, 3) := by decide +kernel
theorem dX9_place_129 : decode cX9_place 129 = .ok (.iconst 1, 1) := by decide +kernel
theorem dX9_place_130 : decode cX9_place 130 = .ok (.goto 4, 3) := by decide +kernel
theorem dX9_place_133 : decode cX9_place 133 = .ok (.iconst 0, 1) := by decide +kernel
theorem dX9_place_134 : decode cX9_place 134 = .ok (.if_icmp .ne 12, 3) := by decide +kernel
theorem dX9_place_137 : decode cX9_place 137 = .ok (.aload_n 0, 1) := by decide +kernel
theorem dX9_place_138 : decode cX9_place 138 = .ok (.getfield 62, 3) := by decide +kernel
theorem dX9_place_141 : decode cX9_place 141 = .ok (.iload_n 1, 1) := by decide +kernel
theorem dX9_place_142 : decode cX9_place 142 = .ok (.iaload, 1) := by decide +kernel
theorem dX9_place_143 : decode cX9_place 143 = .ok (.goto 16, 3) := by decide +kernel
theorem dX9_place_146 : decode cX9_place 146 = .ok (.aload_n 0, 1) := by decide +kernel
theorem dX9_place_147 : decode cX9_place 147 = .ok (.getfield 62, 3) := by decide +kernel
theorem dX9_place_150 : decode cX9_place 150 = .ok (.iload_n 1, 1) := by decide +kernel
theorem dX9_place_151 : decode cX9_place 151 = .ok (.iaload, 1) := by decide +kernel
theorem dX9_place_152 : decode cX9_place 152 = .ok (.aload_n 0, 1) := by decide +kernel
theorem dX9_place_153 : decode cX9_place 153 = .ok (.getfield 59, 3) := by decide +kernel
theorem dX9_place_156 : decode cX9_place 156 = .ok (.iload_n 1, 1) := by decide +kernel
theorem dX9_place_157 : decode cX9_place 157 = .ok (.iaload, 1) := by decide +kernel
theorem dX9_place_158 : decode cX9_place 158 = .ok (.iadd, 1) := by decide +kernel
theorem dX9_place_159 : decode cX9_place 159 = .ok (.ireturn, 1) := by decide +kernel
theorem dX9_caret_0 : decode cX9_caret 0 = .ok (.aload_n 0, 1) := by decide +kernel
theorem dX9_caret_1 : decode cX9_caret 1 = .ok (.invokevirtual 162, 3) := by decide +kernel
theorem dX9_caret_4 : decode cX9_caret 4 = .ok (.iload_n 1, 1) := by decide +kernel
theorem dX9_caret_5 : decode cX9_caret 5 = .ok (.ifCond .ne 10, 3) := by decide +kernel
theorem dX9_caret_8 : decode cX9_caret 8 = .ok (.aload_n 0, 1) := by decide +kernel
theorem dX9_caret_9 : decode cX9_caret 9 = .ok (.getfield 84, 3) := by decide +kernel
theorem dX9_caret_12 : decode cX9_caret 12 = .ok (.goto 28, 3) := by decide +kernel
theorem dX9_caret_15 : decode cX9_caret 15 = .ok (.iload_n 1, 1) := by decide +kernel
theorem dX9_caret_16 : decode cX9_caret 16 = .ok (.iconst 1, 1) := by decide +kernel
theorem dX9_caret_17 : decode cX9_caret 17 = .ok (.if_icmp .ne 10, 3) := by decide +kernel
theorem dX9_caret_20 : decode cX9_caret 20 = .ok (.aload_n 0, 1) := by decide +kernel
theorem dX9_caret_21 : decode cX9_caret 21 = .ok (.getfield 87, 3) := by decide +kernel
theorem dX9_caret_24 : decode cX9_caret 24 = .ok (.goto 16, 3) := by decide +kernel
theorem dX9_caret_27 : decode cX9_caret 27 = .ok (.iload_n 1, 1) := by decide +kernel
theorem dX9_caret_28 : decode cX9_caret 28 = .ok (.iconst 2, 1) := by decide +kernel
theorem dX9_caret_29 : decode cX9_caret 29 = .ok (.if_icmp .ne 10, 3) := by decide +kernel
theorem dX9_caret_32 : decode cX9_caret 32 = .ok (.aload_n 0, 1) := by decide +kernel
theorem dX9_caret_33 : decode cX9_caret 33 = .ok (.invokevirtual 183, 3) := by decide +kernel
theorem dX9_caret_36 : decode cX9_caret 36 = .ok (.goto 4, 3) := by decide +kernel
theorem dX9_caret_39 : decode cX9_caret 39 = .ok (.iconst (-1), 1) := by decide +kernel
theorem dX9_caret_40 : decode cX9_caret 40 = .ok (.ireturn, 1) := by decide +kernel
theorem dX9_goes_0 : decode cX9_goes 0 = .ok (.aload_n 0, 1) := by decide +kernel
theorem dX9_goes_1 : decode cX9_goes 1 = .ok (.iload_n 1, 1) := by decide +kernel
theorem dX9_goes_2 : decode cX9_goes 2 = .ok (.putfield 84, 3) := by decide +kernel
theorem dX9_goes_5 : decode cX9_goes 5 = .ok (.aload_n 0, 1) := by decide +kernel
theorem dX9_goes_6 : decode cX9_goes 6 = .ok (.iload_n 2, 1) := by decide +kernel
theorem dX9_goes_7 : decode cX9_goes 7 = .ok (.putfield 87, 3) := by decide +kernel
theorem dX9_goes_10 : decode cX9_goes 10 = .ok (.return_, 1) := by decide +kernel
theorem dX9_go_0 : decode cX9_go 0 = .ok (.aload_n 0, 1) := by decide +kernel
theorem dX9_go_1 : decode cX9_go 1 = .ok (.invokevirtual 162, 3) := by decide +kernel
theorem dX9_go_4 : decode cX9_go 4 = .ok (.iload_n 1, 1) := by decide +kernel
theorem dX9_go_5 : decode cX9_go 5 = .ok (.ifCond .lt 41, 3) := by decide +kernel
theorem dX9_go_8 : decode cX9_go 8 = .ok (.iload_n 1, 1) := by decide +kernel
theorem dX9_go_9 : decode cX9_go 9 = .ok (.aload_n 0, 1) := by decide +kernel
theorem dX9_go_10 : decode cX9_go 10 = .ok (.getfield 81, 3) := by decide +kernel
theorem dX9_go_13 : decode cX9_go 13 = .ok (.if_icmp .gt 33, 3) := by decide +kernel
theorem dX9_go_16 : decode cX9_go 16 = .ok (.aload_n 0, 1) := by decide +kernel
theorem dX9_go_17 : decode cX9_go 17 = .ok (.iload_n 1, 1) := by decide +kernel
theorem dX9_go_18 : decode cX9_go 18 = .ok (.invokevirtual 165, 3) := by decide +kernel
theorem dX9_go_21 : decode cX9_go 21 = .ok (.ifCond .eq 25, 3) := by decide +kernel
theorem dX9_go_24 : decode cX9_go 24 = .ok (.iload_n 2, 1) := by decide +kernel
theorem dX9_go_25 : decode cX9_go 25 = .ok (.ifCond .eq 8, 3) := by decide +kernel
theorem dX9_go_28 : decode cX9_go 28 = .ok (.iload_n 2, 1) := by decide +kernel
theorem dX9_go_29 : decode cX9_go 29 = .ok (.iconst 1, 1) := by decide +kernel
theorem dX9_go_30 : decode cX9_go 30 = .ok (.if_icmp .ne 16, 3) := by decide +kernel
theorem dX9_go_33 : decode cX9_go 33 = .ok (.iload_n 2, 1) := by decide +kernel
theorem dX9_go_34 : decode cX9_go 34 = .ok (.iconst 1, 1) := by decide +kernel
theorem dX9_go_35 : decode cX9_go 35 = .ok (.if_icmp .ne 13, 3) := by decide +kernel
theorem dX9_go_38 : decode cX9_go 38 = .ok (.aload_n 0, 1) := by decide +kernel
theorem dX9_go_39 : decode cX9_go 39 = .ok (.iload_n 1, 1) := by decide +kernel
theorem dX9_go_40 : decode cX9_go 40 = .ok (.invokevirtual 156, 3) := by decide +kernel
theorem dX9_go_43 : decode cX9_go 43 = .ok (.ifCond .ne 5, 3) := by decide +kernel
theorem dX9_go_46 : decode cX9_go 46 = .ok (.iconst 0, 1) := by decide +kernel
theorem dX9_go_47 : decode cX9_go 47 = .ok (.ireturn, 1) := by decide +kernel
theorem dX9_go_48 : decode cX9_go 48 = .ok (.aload_n 0, 1) := by decide +kernel
theorem dX9_go_49 : decode cX9_go 49 = .ok (.iload_n 1, 1) := by decide +kernel
theorem dX9_go_50 : decode cX9_go 50 = .ok (.iload_n 2, 1) := by decide +kernel
theorem dX9_go_51 : decode cX9_go 51 = .ok (.invokevirtual 187, 3) := by decide +kernel
theorem dX9_go_54 : decode cX9_go 54 = .ok (.iconst 1, 1) := by decide +kernel
theorem dX9_go_55 : decode cX9_go 55 = .ok (.ireturn, 1) := by decide +kernel
theorem dX9_on_0 : decode cX9_on 0 = .ok (.aload_n 0, 1) := by decide +kernel
theorem dX9_on_1 : decode cX9_on 1 = .ok (.invokevirtual 162, 3) := by decide +kernel
theorem dX9_on_4 : decode cX9_on 4 = .ok (.iload_n 1, 1) := by decide +kernel
theorem dX9_on_5 : decode cX9_on 5 = .ok (.ifCond .eq 12, 3) := by decide +kernel
theorem dX9_on_8 : decode cX9_on 8 = .ok (.aload_n 0, 1) := by decide +kernel
theorem dX9_on_9 : decode cX9_on 9 = .ok (.getfield 84, 3) := by decide +kernel
theorem dX9_on_12 : decode cX9_on 12 = .ok (.iconst 1, 1) := by decide +kernel
theorem dX9_on_13 : decode cX9_on 13 = .ok (.iadd, 1) := by decide +kernel
theorem dX9_on_14 : decode cX9_on 14 = .ok (.goto 9, 3) := by decide +kernel
theorem dX9_on_17 : decode cX9_on 17 = .ok (.aload_n 0, 1) := by decide +kernel
theorem dX9_on_18 : decode cX9_on 18 = .ok (.getfield 84, 3) := by decide +kernel
theorem dX9_on_21 : decode cX9_on 21 = .ok (.iconst 1, 1) := by decide +kernel
theorem dX9_on_22 : decode cX9_on 22 = .ok (.isub, 1) := by decide +kernel
theorem dX9_on_23 : decode cX9_on 23 = .ok (.istore_n 2, 1) := by decide +kernel
theorem dX9_on_24 : decode cX9_on 24 = .ok (.iload_n 2, 1) := by decide +kernel
theorem dX9_on_25 : decode cX9_on 25 = .ok (.ifCond .lt 34, 3) := by decide +kernel
theorem dX9_on_28 : decode cX9_on 28 = .ok (.iload_n 2, 1) := by decide +kernel
theorem dX9_on_29 : decode cX9_on 29 = .ok (.aload_n 0, 1) := by decide +kernel
theorem dX9_on_30 : decode cX9_on 30 = .ok (.getfield 81, 3) := by decide +kernel
theorem dX9_on_33 : decode cX9_on 33 = .ok (.if_icmp .gt 26, 3) := by decide +kernel
theorem dX9_on_36 : decode cX9_on 36 = .ok (.aload_n 0, 1) := by decide +kernel
theorem dX9_on_37 : decode cX9_on 37 = .ok (.iload_n 2, 1) := by decide +kernel
theorem dX9_on_38 : decode cX9_on 38 = .ok (.invokevirtual 165, 3) := by decide +kernel
theorem dX9_on_41 : decode cX9_on 41 = .ok (.ifCond .ne 18, 3) := by decide +kernel
theorem dX9_on_44 : decode cX9_on 44 = .ok (.iload_n 2, 1) := by decide +kernel
theorem dX9_on_45 : decode cX9_on 45 = .ok (.iload_n 1, 1) := by decide +kernel
theorem dX9_on_46 : decode cX9_on 46 = .ok (.ifCond .eq 7, 3) := by decide +kernel
theorem dX9_on_49 : decode cX9_on 49 = .ok (.iconst 1, 1) := by decide +kernel
theorem dX9_on_50 : decode cX9_on 50 = .ok (.goto 4, 3) := by decide +kernel
theorem dX9_on_53 : decode cX9_on 53 = .ok (.iconst (-1), 1) := by decide +kernel
theorem dX9_on_54 : decode cX9_on 54 = .ok (.iadd, 1) := by decide +kernel
theorem dX9_on_55 : decode cX9_on 55 = .ok (.istore_n 2, 1) := by decide +kernel
theorem dX9_on_56 : decode cX9_on 56 = .ok (.goto (-32), 3) := by decide +kernel
theorem dX9_on_59 : decode cX9_on 59 = .ok (.iload_n 2, 1) := by decide +kernel
theorem dX9_on_60 : decode cX9_on 60 = .ok (.ifCond .lt 11, 3) := by decide +kernel
theorem dX9_on_63 : decode cX9_on 63 = .ok (.iload_n 2, 1) := by decide +kernel
theorem dX9_on_64 : decode cX9_on 64 = .ok (.aload_n 0, 1) := by decide +kernel
theorem dX9_on_65 : decode cX9_on 65 = .ok (.getfield 81, 3) := by decide +kernel
theorem dX9_on_68 : decode cX9_on 68 = .ok (.if_icmp .le 5, 3) := by decide +kernel
theorem dX9_on_71 : decode cX9_on 71 = .ok (.iconst 0, 1) := by decide +kernel
theorem dX9_on_72 : decode cX9_on 72 = .ok (.ireturn, 1) := by decide +kernel
theorem dX9_on_73 : decode cX9_on 73 = .ok (.aload_n 0, 1) := by decide +kernel
theorem dX9_on_74 : decode cX9_on 74 = .ok (.iload_n 2, 1) := by decide +kernel
theorem dX9_on_75 : decode cX9_on 75 = .ok (.iload_n 1, 1) := by decide +kernel
theorem dX9_on_76 : decode cX9_on 76 = .ok (.ifCond .ne 11, 3) := by decide +kernel
theorem dX9_on_79 : decode cX9_on 79 = .ok (.aload_n 0, 1) := by decide +kernel
theorem dX9_on_80 : decode cX9_on 80 = .ok (.iload_n 2, 1) := by decide +kernel
theorem dX9_on_81 : decode cX9_on 81 = .ok (.invokevirtual 156, 3) := by decide +kernel
theorem dX9_on_84 : decode cX9_on 84 = .ok (.ifCond .ne 7, 3) := by decide +kernel
theorem dX9_on_87 : decode cX9_on 87 = .ok (.iconst 0, 1) := by decide +kernel
theorem dX9_on_88 : decode cX9_on 88 = .ok (.goto 4, 3) := by decide +kernel
theorem dX9_on_91 : decode cX9_on 91 = .ok (.iconst 1, 1) := by decide +kernel
theorem dX9_on_92 : decode cX9_on 92 = .ok (.invokevirtual 187, 3) := by decide +kernel
theorem dX9_on_95 : decode cX9_on 95 = .ok (.iconst 1, 1) := by decide +kernel
theorem dX9_on_96 : decode cX9_on 96 = .ok (.ireturn, 1) := by decide +kernel
theorem dX9_toRight_0 : decode cX9_toRight 0 = .ok (.aload_n 0, 1) := by decide +kernel
theorem dX9_toRight_1 : decode cX9_toRight 1 = .ok (.iload_n 1, 1) := by decide +kernel
theorem dX9_toRight_2 : decode cX9_toRight 2 = .ok (.invokevirtual 180, 3) := by decide +kernel
theorem dX9_toRight_5 : decode cX9_toRight 5 = .ok (.ifCond .eq 24, 3) := by decide +kernel
theorem dX9_toRight_8 : decode cX9_toRight 8 = .ok (.aload_n 0, 1) := by decide +kernel
theorem dX9_toRight_9 : decode cX9_toRight 9 = .ok (.aload_n 0, 1) := by decide +kernel
theorem dX9_toRight_10 : decode cX9_toRight 10 = .ok (.getfield 50, 3) := by decide +kernel
theorem dX9_toRight_13 : decode cX9_toRight 13 = .ok (.iload_n 1, 1) := by decide +kernel
theorem dX9_toRight_14 : decode cX9_toRight 14 = .ok (.iaload, 1) := by decide +kernel
theorem dX9_toRight_15 : decode cX9_toRight 15 = .ok (.aload_n 0, 1) := by decide +kernel
theorem dX9_toRight_16 : decode cX9_toRight 16 = .ok (.getfield 53, 3) := by decide +kernel
theorem dX9_toRight_19 : decode cX9_toRight 19 = .ok (.iload_n 1, 1) := by decide +kernel
theorem dX9_toRight_20 : decode cX9_toRight 20 = .ok (.iaload, 1) := by decide +kernel
theorem dX9_toRight_21 : decode cX9_toRight 21 = .ok (.iadd, 1) := by decide +kernel
theorem dX9_toRight_22 : decode cX9_toRight 22 = .ok (.iconst 0, 1) := by decide +kernel
theorem dX9_toRight_23 : decode cX9_toRight 23 = .ok (.invokevirtual 187, 3) := by decide +kernel
theorem dX9_toRight_26 : decode cX9_toRight 26 = .ok (.goto 14, 3) := by decide +kernel
theorem dX9_toRight_29 : decode cX9_toRight 29 = .ok (.aload_n 0, 1) := by decide +kernel
theorem dX9_toRight_30 : decode cX9_toRight 30 = .ok (.aload_n 0, 1) := by decide +kernel
theorem dX9_toRight_31 : decode cX9_toRight 31 = .ok (.getfield 50, 3) := by decide +kernel
theorem dX9_toRight_34 : decode cX9_toRight 34 = .ok (.iload_n 1, 1) := by decide +kernel
theorem dX9_toRight_35 : decode cX9_toRight 35 = .ok (.iaload, 1) := by decide +kernel
theorem dX9_toRight_36 : decode cX9_toRight 36 = .ok (.iconst 1, 1) := by decide +kernel
theorem dX9_toRight_37 : decode cX9_toRight 37 = .ok (.invokevirtual 187, 3) := by decide +kernel
theorem dX9_toRight_40 : decode cX9_toRight 40 = .ok (.return_, 1) := by decide +kernel
theorem dX9_toLeft_0 : decode cX9_toLeft 0 = .ok (.aload_n 0, 1) := by decide +kernel
theorem dX9_toLeft_1 : decode cX9_toLeft 1 = .ok (.iload_n 1, 1) := by decide +kernel
theorem dX9_toLeft_2 : decode cX9_toLeft 2 = .ok (.invokevirtual 180, 3) := by decide +kernel
theorem dX9_toLeft_5 : decode cX9_toLeft 5 = .ok (.ifCond .eq 17, 3) := by decide +kernel
theorem dX9_toLeft_8 : decode cX9_toLeft 8 = .ok (.aload_n 0, 1) := by decide +kernel
theorem dX9_toLeft_9 : decode cX9_toLeft 9 = .ok (.aload_n 0, 1) := by decide +kernel
theorem dX9_toLeft_10 : decode cX9_toLeft 10 = .ok (.getfield 50, 3) := by decide +kernel
theorem dX9_toLeft_13 : decode cX9_toLeft 13 = .ok (.iload_n 1, 1) := by decide +kernel
theorem dX9_toLeft_14 : decode cX9_toLeft 14 = .ok (.iaload, 1) := by decide +kernel
theorem dX9_toLeft_15 : decode cX9_toLeft 15 = .ok (.iconst 1, 1) := by decide +kernel
theorem dX9_toLeft_16 : decode cX9_toLeft 16 = .ok (.invokevirtual 187, 3) := by decide +kernel
theorem dX9_toLeft_19 : decode cX9_toLeft 19 = .ok (.goto 21, 3) := by decide +kernel
theorem dX9_toLeft_22 : decode cX9_toLeft 22 = .ok (.aload_n 0, 1) := by decide +kernel
theorem dX9_toLeft_23 : decode cX9_toLeft 23 = .ok (.aload_n 0, 1) := by decide +kernel
theorem dX9_toLeft_24 : decode cX9_toLeft 24 = .ok (.getfield 50, 3) := by decide +kernel
theorem dX9_toLeft_27 : decode cX9_toLeft 27 = .ok (.iload_n 1, 1) := by decide +kernel
theorem dX9_toLeft_28 : decode cX9_toLeft 28 = .ok (.iaload, 1) := by decide +kernel
theorem dX9_toLeft_29 : decode cX9_toLeft 29 = .ok (.aload_n 0, 1) := by decide +kernel
theorem dX9_toLeft_30 : decode cX9_toLeft 30 = .ok (.getfield 53, 3) := by decide +kernel
theorem dX9_toLeft_33 : decode cX9_toLeft 33 = .ok (.iload_n 1, 1) := by decide +kernel
theorem dX9_toLeft_34 : decode cX9_toLeft 34 = .ok (.iaload, 1) := by decide +kernel
theorem dX9_toLeft_35 : decode cX9_toLeft 35 = .ok (.iadd, 1) := by decide +kernel
theorem dX9_toLeft_36 : decode cX9_toLeft 36 = .ok (.iconst 0, 1) := by decide +kernel
theorem dX9_toLeft_37 : decode cX9_toLeft 37 = .ok (.invokevirtual 187, 3) := by decide +kernel
theorem dX9_toLeft_40 : decode cX9_toLeft 40 = .ok (.return_, 1) := by decide +kernel
theorem dX9_step_0 : decode cX9_step 0 = .ok (.aload_n 0, 1) := by decide +kernel
theorem dX9_step_1 : decode cX9_step 1 = .ok (.invokevirtual 162, 3) := by decide +kernel
theorem dX9_step_4 : decode cX9_step 4 = .ok (.aload_n 0, 1) := by decide +kernel
theorem dX9_step_5 : decode cX9_step 5 = .ok (.aload_n 0, 1) := by decide +kernel
theorem dX9_step_6 : decode cX9_step 6 = .ok (.getfield 84, 3) := by decide +kernel
theorem dX9_step_9 : decode cX9_step 9 = .ok (.invokevirtual 156, 3) := by decide +kernel
theorem dX9_step_12 : decode cX9_step 12 = .ok (.ifCond .eq 7, 3) := by decide +kernel
theorem dX9_step_15 : decode cX9_step 15 = .ok (.iconst (-1), 1) := by decide +kernel
theorem dX9_step_16 : decode cX9_step 16 = .ok (.goto 11, 3) := by decide +kernel
theorem dX9_step_19 : decode cX9_step 19 = .ok (.aload_n 0, 1) := by decide +kernel
theorem dX9_step_20 : decode cX9_step 20 = .ok (.aload_n 0, 1) := by decide +kernel
theorem dX9_step_21 : decode cX9_step 21 = .ok (.getfield 84, 3) := by decide +kernel
theorem dX9_step_24 : decode cX9_step 24 = .ok (.invokevirtual 159, 3) := by decide +kernel
theorem dX9_step_27 : decode cX9_step 27 = .ok (.istore_n 2, 1) := by decide +kernel
theorem dX9_step_28 : decode cX9_step 28 = .ok (.iload_n 2, 1) := by decide +kernel
theorem dX9_step_29 : decode cX9_step 29 = .ok (.iconst (-1), 1) := by decide +kernel
theorem dX9_step_30 : decode cX9_step 30 = .ok (.if_icmp .eq 7, 3) := by decide +kernel
theorem dX9_step_33 : decode cX9_step 33 = .ok (.iconst 1, 1) := by decide +kernel
theorem dX9_step_34 : decode cX9_step 34 = .ok (.goto 4, 3) := by decide +kernel
theorem dX9_step_37 : decode cX9_step 37 = .ok (.iconst 0, 1) := by decide +kernel
theorem dX9_step_38 : decode cX9_step 38 = .ok (.istore_n 3, 1) := by decide +kernel
theorem dX9_step_39 : decode cX9_step 39 = .ok (.aload_n 0, 1) := by decide +kernel
theorem dX9_step_40 : decode cX9_step 40 = .ok (.invokevirtual 183, 3) := by decide +kernel
theorem dX9_step_43 : decode cX9_step 43 = .ok (.istore 4, 2) := by decide +kernel
theorem dX9_step_45 : decode cX9_step 45 = .ok (.iconst 0, 1) := by decide +kernel
theorem dX9_step_46 : decode cX9_step 46 = .ok (.istore 5, 2) := by decide +kernel
theorem dX9_step_48 : decode cX9_step 48 = .ok (.iload 5, 2) := by decide +kernel
theorem dX9_step_50 : decode cX9_step 50 = .ok (.aload_n 0, 1) := by decide +kernel
theorem dX9_step_51 : decode cX9_step 51 = .ok (.getfield 129, 3) := by decide +kernel
theorem dX9_step_54 : decode cX9_step 54 = .ok (.if_icmp .ge 55, 3) := by decide +kernel
