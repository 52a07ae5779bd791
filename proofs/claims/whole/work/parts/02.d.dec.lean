theorem dX8_pairs_14 : decode cX8_pairs 14 = .ok (.if_icmp .ge 26, 3) := by decide +kernel
theorem dX8_pairs_17 : decode cX8_pairs 17 = .ok (.aload_n 0, 1) := by decide +kernel
theorem dX8_pairs_18 : decode cX8_pairs 18 = .ok (.getfield 26, 3) := by decide +kernel
theorem dX8_pairs_21 : decode cX8_pairs 21 = .ok (.iload 4, 2) := by decide +kernel
theorem dX8_pairs_23 : decode cX8_pairs 23 = .ok (.aload_n 0, 1) := by decide +kernel
theorem dX8_pairs_24 : decode cX8_pairs 24 = .ok (.getfield 7, 3) := by decide +kernel
theorem dX8_pairs_27 : decode cX8_pairs 27 = .ok (.bipush 58, 2) := by decide +kernel
theorem dX8_pairs_29 : decode cX8_pairs 29 = .ok (.iload 4, 2) := by decide +kernel
theorem dX8_pairs_31 : decode cX8_pairs 31 = .ok (.iadd, 1) := by decide +kernel
theorem dX8_pairs_32 : decode cX8_pairs 32 = .ok (.iaload, 1) := by decide +kernel
theorem dX8_pairs_33 : decode cX8_pairs 33 = .ok (.iastore, 1) := by decide +kernel
theorem dX8_pairs_34 : decode cX8_pairs 34 = .ok (.iinc 4 1, 3) := by decide +kernel
theorem dX8_pairs_37 : decode cX8_pairs 37 = .ok (.goto (-26), 3) := by decide +kernel
theorem dX8_pairs_40 : decode cX8_pairs 40 = .ok (.iload_n 2, 1) := by decide +kernel
theorem dX8_pairs_41 : decode cX8_pairs 41 = .ok (.iconst (-1), 1) := by decide +kernel
theorem dX8_pairs_42 : decode cX8_pairs 42 = .ok (.if_icmp .eq 13, 3) := by decide +kernel
theorem dX8_pairs_45 : decode cX8_pairs 45 = .ok (.aload_n 0, 1) := by decide +kernel
theorem dX8_pairs_46 : decode cX8_pairs 46 = .ok (.getfield 26, 3) := by decide +kernel
theorem dX8_pairs_49 : decode cX8_pairs 49 = .ok (.iload_n 3, 1) := by decide +kernel
theorem dX8_pairs_50 : decode cX8_pairs 50 = .ok (.iload_n 2, 1) := by decide +kernel
theorem dX8_pairs_51 : decode cX8_pairs 51 = .ok (.iastore, 1) := by decide +kernel
theorem dX8_pairs_52 : decode cX8_pairs 52 = .ok (.iinc 3 1, 3) := by decide +kernel
theorem dX8_pairs_55 : decode cX8_pairs 55 = .ok (.iconst 0, 1) := by decide +kernel
theorem dX8_pairs_56 : decode cX8_pairs 56 = .ok (.istore 4, 2) := by decide +kernel
theorem dX8_pairs_58 : decode cX8_pairs 58 = .ok (.iload 4, 2) := by decide +kernel
theorem dX8_pairs_60 : decode cX8_pairs 60 = .ok (.bipush 24, 2) := by decide +kernel
theorem dX8_pairs_62 : decode cX8_pairs 62 = .ok (.if_icmp .ge 17, 3) := by decide +kernel
theorem dX8_pairs_65 : decode cX8_pairs 65 = .ok (.aload_n 0, 1) := by decide +kernel
theorem dX8_pairs_66 : decode cX8_pairs 66 = .ok (.getfield 20, 3) := by decide +kernel
theorem dX8_pairs_69 : decode cX8_pairs 69 = .ok (.iload 4, 2) := by decide +kernel
theorem dX8_pairs_71 : decode cX8_pairs 71 = .ok (.iconst (-1), 1) := by decide +kernel
theorem dX8_pairs_72 : decode cX8_pairs 72 = .ok (.iastore, 1) := by decide +kernel
theorem dX8_pairs_73 : decode cX8_pairs 73 = .ok (.iinc 4 1, 3) := by decide +kernel
theorem dX8_pairs_76 : decode cX8_pairs 76 = .ok (.goto (-18), 3) := by decide +kernel
theorem dX8_pairs_79 : decode cX8_pairs 79 = .ok (.iconst 0, 1) := by decide +kernel
theorem dX8_pairs_80 : decode cX8_pairs 80 = .ok (.istore 4, 2) := by decide +kernel
theorem dX8_pairs_82 : decode cX8_pairs 82 = .ok (.iload 4, 2) := by decide +kernel
theorem dX8_pairs_84 : decode cX8_pairs 84 = .ok (.bipush 24, 2) := by decide +kernel
theorem dX8_pairs_86 : decode cX8_pairs 86 = .ok (.if_icmp .gt 17, 3) := by decide +kernel
theorem dX8_pairs_89 : decode cX8_pairs 89 = .ok (.aload_n 0, 1) := by decide +kernel
theorem dX8_pairs_90 : decode cX8_pairs 90 = .ok (.getfield 23, 3) := by decide +kernel
theorem dX8_pairs_93 : decode cX8_pairs 93 = .ok (.iload 4, 2) := by decide +kernel
theorem dX8_pairs_95 : decode cX8_pairs 95 = .ok (.iconst (-1), 1) := by decide +kernel
theorem dX8_pairs_96 : decode cX8_pairs 96 = .ok (.iastore, 1) := by decide +kernel
theorem dX8_pairs_97 : decode cX8_pairs 97 = .ok (.iinc 4 1, 3) := by decide +kernel
theorem dX8_pairs_100 : decode cX8_pairs 100 = .ok (.goto (-18), 3) := by decide +kernel
theorem dX8_pairs_103 : decode cX8_pairs 103 = .ok (.iconst 0, 1) := by decide +kernel
theorem dX8_pairs_104 : decode cX8_pairs 104 = .ok (.istore 4, 2) := by decide +kernel
theorem dX8_pairs_106 : decode cX8_pairs 106 = .ok (.iconst (-1), 1) := by decide +kernel
theorem dX8_pairs_107 : decode cX8_pairs 107 = .ok (.istore 5, 2) := by decide +kernel
theorem dX8_pairs_109 : decode cX8_pairs 109 = .ok (.iconst (-1), 1) := by decide +kernel
theorem dX8_pairs_110 : decode cX8_pairs 110 = .ok (.istore 6, 2) := by decide +kernel
theorem dX8_pairs_112 : decode cX8_pairs 112 = .ok (.iconst 0, 1) := by decide +kernel
theorem dX8_pairs_113 : decode cX8_pairs 113 = .ok (.istore 7, 2) := by decide +kernel
theorem dX8_pairs_115 : decode cX8_pairs 115 = .ok (.iload 7, 2) := by decide +kernel
theorem dX8_pairs_117 : decode cX8_pairs 117 = .ok (.iload_n 3, 1) := by decide +kernel
theorem dX8_pairs_118 : decode cX8_pairs 118 = .ok (.if_icmp .ge 152, 3) := by decide +kernel
theorem dX8_pairs_121 : decode cX8_pairs 121 = .ok (.iconst (-1), 1) := by decide +kernel
theorem dX8_pairs_122 : decode cX8_pairs 122 = .ok (.istore 8, 2) := by decide +kernel
theorem dX8_pairs_124 : decode cX8_pairs 124 = .ok (.iload_n 3, 1) := by decide +kernel
theorem dX8_pairs_125 : decode cX8_pairs 125 = .ok (.iconst 1, 1) := by decide +kernel
theorem dX8_pairs_126 : decode cX8_pairs 126 = .ok (.isub, 1) := by decide +kernel
theorem dX8_pairs_127 : decode cX8_pairs 127 = .ok (.istore 9, 2) := by decide +kernel
theorem dX8_pairs_129 : decode cX8_pairs 129 = .ok (.iload 9, 2) := by decide +kernel
theorem dX8_pairs_131 : decode cX8_pairs 131 = .ok (.ifCond .lt 84, 3) := by decide +kernel
theorem dX8_pairs_134 : decode cX8_pairs 134 = .ok (.aload_n 0, 1) := by decide +kernel
theorem dX8_pairs_135 : decode cX8_pairs 135 = .ok (.getfield 26, 3) := by decide +kernel
theorem dX8_pairs_138 : decode cX8_pairs 138 = .ok (.iload 9, 2) := by decide +kernel
theorem dX8_pairs_140 : decode cX8_pairs 140 = .ok (.iaload, 1) := by decide +kernel
theorem dX8_pairs_141 : decode cX8_pairs 141 = .ok (.iload 6, 2) := by decide +kernel
theorem dX8_pairs_143 : decode cX8_pairs 143 = .ok (.if_icmp .gt 22, 3) := by decide +kernel
theorem dX8_pairs_146 : decode cX8_pairs 146 = .ok (.aload_n 0, 1) := by decide +kernel
theorem dX8_pairs_147 : decode cX8_pairs 147 = .ok (.getfield 26, 3) := by decide +kernel
theorem dX8_pairs_150 : decode cX8_pairs 150 = .ok (.iload 9, 2) := by decide +kernel
theorem dX8_pairs_152 : decode cX8_pairs 152 = .ok (.iaload, 1) := by decide +kernel
theorem dX8_pairs_153 : decode cX8_pairs 153 = .ok (.iload 6, 2) := by decide +kernel
theorem dX8_pairs_155 : decode cX8_pairs 155 = .ok (.if_icmp .ne 14, 3) := by decide +kernel
theorem dX8_pairs_158 : decode cX8_pairs 158 = .ok (.iload 9, 2) := by decide +kernel
theorem dX8_pairs_160 : decode cX8_pairs 160 = .ok (.iload 5, 2) := by decide +kernel
theorem dX8_pairs_162 : decode cX8_pairs 162 = .ok (.if_icmp .le 7, 3) := by decide +kernel
theorem dX8_pairs_165 : decode cX8_pairs 165 = .ok (.iconst 1, 1) := by decide +kernel
theorem dX8_pairs_166 : decode cX8_pairs 166 = .ok (.goto 4, 3) := by decide +kernel
theorem dX8_pairs_169 : decode cX8_pairs 169 = .ok (.iconst 0, 1) := by decide +kernel
theorem dX8_pairs_170 : decode cX8_pairs 170 = .ok (.istore 10, 2) := by decide +kernel
theorem dX8_pairs_172 : decode cX8_pairs 172 = .ok (.iload 10, 2) := by decide +kernel
theorem dX8_pairs_174 : decode cX8_pairs 174 = .ok (.ifCond .eq 31, 3) := by decide +kernel
theorem dX8_pairs_177 : decode cX8_pairs 177 = .ok (.iload 8, 2) := by decide +kernel
theorem dX8_pairs_179 : decode cX8_pairs 179 = .ok (.iconst (-1), 1) := by decide +kernel
theorem dX8_pairs_180 : decode cX8_pairs 180 = .ok (.if_icmp .eq 20, 3) := by decide +kernel
theorem dX8_pairs_183 : decode cX8_pairs 183 = .ok (.aload_n 0, 1) := by decide +kernel
theorem dX8_pairs_184 : decode cX8_pairs 184 = .ok (.getfield 26, 3) := by decide +kernel
theorem dX8_pairs_187 : decode cX8_pairs 187 = .ok (.iload 9, 2) := by decide +kernel
theorem dX8_pairs_189 : decode cX8_pairs 189 = .ok (.iaload, 1) := by decide +kernel
theorem dX8_pairs_190 : decode cX8_pairs 190 = .ok (.aload_n 0, 1) := by decide +kernel
theorem dX8_pairs_191 : decode cX8_pairs 191 = .ok (.getfield 26, 3) := by decide +kernel
theorem dX8_pairs_194 : decode cX8_pairs 194 = .ok (.iload 8, 2) := by decide +kernel
theorem dX8_pairs_196 : decode cX8_pairs 196 = .ok (.iaload, 1) := by decide +kernel
theorem dX8_pairs_197 : decode cX8_pairs 197 = .ok (.if_icmp .gt 8, 3) := by decide +kernel
theorem dX8_pairs_200 : decode cX8_pairs 200 = .ok (.iload 9, 2) := by decide +kernel
theorem dX8_pairs_202 : decode cX8_pairs 202 = .ok (.goto 5, 3) := by decide +kernel
theorem dX8_pairs_205 : decode cX8_pairs 205 = .ok (.iload 8, 2) := by decide +kernel
theorem dX8_pairs_207 : decode cX8_pairs 207 = .ok (.istore 8, 2) := by decide +kernel
theorem dX8_pairs_209 : decode cX8_pairs 209 = .ok (.iinc 9 (-1), 3) := by decide +kernel
theorem dX8_pairs_212 : decode cX8_pairs 212 = .ok (.goto (-83), 3) := by decide +kernel
theorem dX8_pairs_215 : decode cX8_pairs 215 = .ok (.iload 8, 2) := by decide +kernel
theorem dX8_pairs_217 : decode cX8_pairs 217 = .ok (.istore 5, 2) := by decide +kernel
theorem dX8_pairs_219 : decode cX8_pairs 219 = .ok (.aload_n 0, 1) := by decide +kernel
theorem dX8_pairs_220 : decode cX8_pairs 220 = .ok (.getfield 26, 3) := by decide +kernel
theorem dX8_pairs_223 : decode cX8_pairs 223 = .ok (.iload 8, 2) := by decide +kernel
theorem dX8_pairs_225 : decode cX8_pairs 225 = .ok (.iaload, 1) := by decide +kernel
theorem dX8_pairs_226 : decode cX8_pairs 226 = .ok (.istore 6, 2) := by decide +kernel
theorem dX8_pairs_228 : decode cX8_pairs 228 = .ok (.aload_n 0, 1) := by decide +kernel
theorem dX8_pairs_229 : decode cX8_pairs 229 = .ok (.iload 6, 2) := by decide +kernel
theorem dX8_pairs_231 : decode cX8_pairs 231 = .ok (.iload_n 1, 1) := by decide +kernel
theorem dX8_pairs_232 : decode cX8_pairs 232 = .ok (.invokevirtual 63, 3) := by decide +kernel
theorem dX8_pairs_235 : decode cX8_pairs 235 = .ok (.istore 9, 2) := by decide +kernel
theorem dX8_pairs_237 : decode cX8_pairs 237 = .ok (.aload_n 0, 1) := by decide +kernel
theorem dX8_pairs_238 : decode cX8_pairs 238 = .ok (.getfield 23, 3) := by decide +kernel
theorem dX8_pairs_241 : decode cX8_pairs 241 = .ok (.iload 8, 2) := by decide +kernel
theorem dX8_pairs_243 : decode cX8_pairs 243 = .ok (.iload 9, 2) := by decide +kernel
theorem dX8_pairs_245 : decode cX8_pairs 245 = .ok (.iastore, 1) := by decide +kernel
theorem dX8_pairs_246 : decode cX8_pairs 246 = .ok (.iload 9, 2) := by decide +kernel
theorem dX8_pairs_248 : decode cX8_pairs 248 = .ok (.iconst (-1), 1) := by decide +kernel
theorem dX8_pairs_249 : decode cX8_pairs 249 = .ok (.if_icmp .eq 15, 3) := by decide +kernel
theorem dX8_pairs_252 : decode cX8_pairs 252 = .ok (.aload_n 0, 1) := by decide +kernel
theorem dX8_pairs_253 : decode cX8_pairs 253 = .ok (.getfield 20, 3) := by decide +kernel
theorem dX8_pairs_256 : decode cX8_pairs 256 = .ok (.iload 9, 2) := by decide +kernel
theorem dX8_pairs_258 : decode cX8_pairs 258 = .ok (.iload 8, 2) := by decide +kernel
theorem dX8_pairs_260 : decode cX8_pairs 260 = .ok (.iastore, 1) := by decide +kernel
theorem dX8_pairs_261 : decode cX8_pairs 261 = .ok (.iinc 4 1, 3) := by decide +kernel
theorem dX8_pairs_264 : decode cX8_pairs 264 = .ok (.iinc 7 1, 3) := by decide +kernel
theorem dX8_pairs_267 : decode cX8_pairs 267 = .ok (.goto (-152), 3) := by decide +kernel
theorem dX8_pairs_270 : decode cX8_pairs 270 = .ok (.iload 4, 2) := by decide +kernel
theorem dX8_pairs_272 : decode cX8_pairs 272 = .ok (.ireturn, 1) := by decide +kernel
theorem dX8_now_0 : decode cX8_now 0 = .ok (.aload_n 0, 1) := by decide +kernel
theorem dX8_now_1 : decode cX8_now 1 = .ok (.iconst 0, 1) := by decide +kernel
theorem dX8_now_2 : decode cX8_now 2 = .ok (.iconst (-1), 1) := by decide +kernel
theorem dX8_now_3 : decode cX8_now 3 = .ok (.invokevirtual 67, 3) := by decide +kernel
theorem dX8_now_6 : decode cX8_now 6 = .ok (.ireturn, 1) := by decide +kernel
theorem dX8_playOf_0 : decode cX8_playOf 0 = .ok (.iconst (-1), 1) := by decide +kernel
theorem dX8_playOf_1 : decode cX8_playOf 1 = .ok (.istore_n 2, 1) := by decide +kernel
theorem dX8_playOf_2 : decode cX8_playOf 2 = .ok (.aload_n 0, 1) := by decide +kernel
theorem dX8_playOf_3 : decode cX8_playOf 3 = .ok (.invokevirtual 70, 3) := by decide +kernel
theorem dX8_playOf_6 : decode cX8_playOf 6 = .ok (.istore_n 3, 1) := by decide +kernel
theorem dX8_playOf_7 : decode cX8_playOf 7 = .ok (.iconst 0, 1) := by decide +kernel
theorem dX8_playOf_8 : decode cX8_playOf 8 = .ok (.istore 4, 2) := by decide +kernel
theorem dX8_playOf_10 : decode cX8_playOf 10 = .ok (.iload 4, 2) := by decide +kernel
theorem dX8_playOf_12 : decode cX8_playOf 12 = .ok (.aload_n 0, 1) := by decide +kernel
theorem dX8_playOf_13 : decode cX8_playOf 13 = .ok (.getfield 7, 3) := by decide +kernel
theorem dX8_playOf_16 : decode cX8_playOf 16 = .ok (.bipush 8, 2) := by decide +kernel
theorem dX8_playOf_18 : decode cX8_playOf 18 = .ok (.iaload, 1) := by decide +kernel
theorem dX8_playOf_19 : decode cX8_playOf 19 = .ok (.if_icmp .ge 83, 3) := by decide +kernel
theorem dX8_playOf_22 : decode cX8_playOf 22 = .ok (.iload_n 3, 1) := by decide +kernel
theorem dX8_playOf_23 : decode cX8_playOf 23 = .ok (.ifCond .le 79, 3) := by decide +kernel
theorem dX8_playOf_26 : decode cX8_playOf 26 = .ok (.aload_n 0, 1) := by decide +kernel
theorem dX8_playOf_27 : decode cX8_playOf 27 = .ok (.getfield 20, 3) := by decide +kernel
theorem dX8_playOf_30 : decode cX8_playOf 30 = .ok (.iload 4, 2) := by decide +kernel
theorem dX8_playOf_32 : decode cX8_playOf 32 = .ok (.iaload, 1) := by decide +kernel
theorem dX8_playOf_33 : decode cX8_playOf 33 = .ok (.iconst (-1), 1) := by decide +kernel
theorem dX8_playOf_34 : decode cX8_playOf 34 = .ok (.if_icmp .eq 62, 3) := by decide +kernel
theorem dX8_playOf_37 : decode cX8_playOf 37 = .ok (.aload_n 0, 1) := by decide +kernel
theorem dX8_playOf_38 : decode cX8_playOf 38 = .ok (.getfield 7, 3) := by decide +kernel
theorem dX8_playOf_41 : decode cX8_playOf 41 = .ok (.bipush 58, 2) := by decide +kernel
theorem dX8_playOf_43 : decode cX8_playOf 43 = .ok (.aload_n 0, 1) := by decide +kernel
theorem dX8_playOf_44 : decode cX8_playOf 44 = .ok (.getfield 20, 3) := by decide +kernel
theorem dX8_playOf_47 : decode cX8_playOf 47 = .ok (.iload 4, 2) := by decide +kernel
theorem dX8_playOf_49 : decode cX8_playOf 49 = .ok (.iaload, 1) := by decide +kernel
theorem dX8_playOf_50 : decode cX8_playOf 50 = .ok (.iadd, 1) := by decide +kernel
theorem dX8_playOf_51 : decode cX8_playOf 51 = .ok (.iaload, 1) := by decide +kernel
theorem dX8_playOf_52 : decode cX8_playOf 52 = .ok (.aload_n 0, 1) := by decide +kernel
theorem dX8_playOf_53 : decode cX8_playOf 53 = .ok (.getfield 7, 3) := by decide +kernel
theorem dX8_playOf_56 : decode cX8_playOf 56 = .ok (.bipush 33, 2) := by decide +kernel
theorem dX8_playOf_58 : decode cX8_playOf 58 = .ok (.iload 4, 2) := by decide +kernel
theorem dX8_playOf_60 : decode cX8_playOf 60 = .ok (.iadd, 1) := by decide +kernel
theorem dX8_playOf_61 : decode cX8_playOf 61 = .ok (.iaload, 1) := by decide +kernel
theorem dX8_playOf_62 : decode cX8_playOf 62 = .ok (.isub, 1) := by decide +kernel
theorem dX8_playOf_63 : decode cX8_playOf 63 = .ok (.istore 5, 2) := by decide +kernel
theorem dX8_playOf_65 : decode cX8_playOf 65 = .ok (.iload_n 2, 1) := by decide +kernel
theorem dX8_playOf_66 : decode cX8_playOf 66 = .ok (.iconst (-1), 1) := by decide +kernel
theorem dX8_playOf_67 : decode cX8_playOf 67 = .ok (.if_icmp .eq 22, 3) := by decide +kernel
theorem dX8_playOf_70 : decode cX8_playOf 70 = .ok (.iload_n 1, 1) := by decide +kernel
theorem dX8_playOf_71 : decode cX8_playOf 71 = .ok (.ifCond .eq 12, 3) := by decide +kernel
theorem dX8_playOf_74 : decode cX8_playOf 74 = .ok (.iload 5, 2) := by decide +kernel
theorem dX8_playOf_76 : decode cX8_playOf 76 = .ok (.iload_n 2, 1) := by decide +kernel
theorem dX8_playOf_77 : decode cX8_playOf 77 = .ok (.if_icmp .le 17, 3) := by decide +kernel
theorem dX8_playOf_80 : decode cX8_playOf 80 = .ok (.goto 9, 3) := by decide +kernel
theorem dX8_playOf_83 : decode cX8_playOf 83 = .ok (.iload 5, 2) := by decide +kernel
theorem dX8_playOf_85 : decode cX8_playOf 85 = .ok (.iload_n 2, 1) := by decide +kernel
theorem dX8_playOf_86 : decode cX8_playOf 86 = .ok (.if_icmp .ge 8, 3) := by decide +kernel
theorem dX8_playOf_89 : decode cX8_playOf 89 = .ok (.iload 5, 2) := by decide +kernel
theorem dX8_playOf_91 : decode cX8_playOf 91 = .ok (.goto 4, 3) := by decide +kernel
theorem dX8_playOf_94 : decode cX8_playOf 94 = .ok (.iload_n 2, 1) := by decide +kernel
theorem dX8_playOf_95 : decode cX8_playOf 95 = .ok (.istore_n 2, 1) := by decide +kernel
theorem dX8_playOf_96 : decode cX8_playOf 96 = .ok (.iinc 4 1, 3) := by decide +kernel
theorem dX8_playOf_99 : decode cX8_playOf 99 = .ok (.goto (-89), 3) := by decide +kernel
theorem dX8_playOf_102 : decode cX8_playOf 102 = .ok (.iload_n 2, 1) := by decide +kernel
theorem dX8_playOf_103 : decode cX8_playOf 103 = .ok (.ireturn, 1) := by decide +kernel
theorem dX8_ease_0 : decode cX8_ease 0 = .ok (.aload_n 0, 1) := by decide +kernel
theorem dX8_ease_1 : decode cX8_ease 1 = .ok (.sipush 999, 3) := by decide +kernel
theorem dX8_ease_4 : decode cX8_ease 4 = .ok (.iconst (-1), 1) := by decide +kernel
theorem dX8_ease_5 : decode cX8_ease 5 = .ok (.invokevirtual 67, 3) := by decide +kernel
theorem dX8_ease_8 : decode cX8_ease 8 = .ok (.aload_n 0, 1) := by decide +kernel
theorem dX8_ease_9 : decode cX8_ease 9 = .ok (.getfield 7, 3) := by decide +kernel
theorem dX8_ease_12 : decode cX8_ease 12 = .ok (.bipush 8, 2) := by decide +kernel
theorem dX8_ease_14 : decode cX8_ease 14 = .ok (.iaload, 1) := by decide +kernel
theorem dX8_ease_15 : decode cX8_ease 15 = .ok (.if_icmp .ge 5, 3) := by decide +kernel
theorem dX8_ease_18 : decode cX8_ease 18 = .ok (.iconst (-1), 1) := by decide +kernel
theorem dX8_ease_19 : decode cX8_ease 19 = .ok (.ireturn, 1) := by decide +kernel
theorem dX8_ease_20 : decode cX8_ease 20 = .ok (.iconst 0, 1) := by decide +kernel
theorem dX8_ease_21 : decode cX8_ease 21 = .ok (.istore_n 1, 1) := by decide +kernel
theorem dX8_ease_22 : decode cX8_ease 22 = .ok (.sipush 999, 3) := by decide +kernel
theorem dX8_ease_25 : decode cX8_ease 25 = .ok (.istore_n 2, 1) := by decide +kernel
theorem dX8_ease_26 : decode cX8_ease 26 = .ok (.iload_n 1, 1) := by decide +kernel
theorem dX8_ease_27 : decode cX8_ease 27 = .ok (.iload_n 2, 1) := by decide +kernel
theorem dX8_ease_28 : decode cX8_ease 28 = .ok (.if_icmp .ge 37, 3) := by decide +kernel
theorem dX8_ease_31 : decode cX8_ease 31 = .ok (.iload_n 1, 1) := by decide +kernel
theorem dX8_ease_32 : decode cX8_ease 32 = .ok (.iload_n 2, 1) := by decide +kernel
theorem dX8_ease_33 : decode cX8_ease 33 = .ok (.iadd, 1) := by decide +kernel
theorem dX8_ease_34 : decode cX8_ease 34 = .ok (.iconst 2, 1) := by decide +kernel
theorem dX8_ease_35 : decode cX8_ease 35 = .ok (.idiv, 1) := by decide +kernel
theorem dX8_ease_36 : decode cX8_ease 36 = .ok (.istore_n 3, 1) := by decide +kernel
theorem dX8_ease_37 : decode cX8_ease 37 = .ok (.aload_n 0, 1) := by decide +kernel
theorem dX8_ease_38 : decode cX8_ease 38 = .ok (.iload_n 3, 1) := by decide +kernel
theorem dX8_ease_39 : decode cX8_ease 39 = .ok (.iconst (-1), 1) := by decide +kernel
theorem dX8_ease_40 : decode cX8_ease 40 = .ok (.invokevirtual 67, 3) := by decide +kernel
theorem dX8_ease_43 : decode cX8_ease 43 = .ok (.aload_n 0, 1) := by decide +kernel
theorem dX8_ease_44 : decode cX8_ease 44 = .ok (.getfield 7, 3) := by decide +kernel
theorem dX8_ease_47 : decode cX8_ease 47 = .ok (.bipush 8, 2) := by decide +kernel
theorem dX8_ease_49 : decode cX8_ease 49 = .ok (.iaload, 1) := by decide +kernel
theorem dX8_ease_50 : decode cX8_ease 50 = .ok (.if_icmp .ne 8, 3) := by decide +kernel
theorem dX8_ease_53 : decode cX8_ease 53 = .ok (.iload_n 3, 1) := by decide +kernel
theorem dX8_ease_54 : decode cX8_ease 54 = .ok (.istore_n 2, 1) := by decide +kernel
theorem dX8_ease_55 : decode cX8_ease 55 = .ok (.goto 7, 3) := by decide +kernel
theorem dX8_ease_58 : decode cX8_ease 58 = .ok (.iload_n 3, 1) := by decide +kernel
theorem dX8_ease_59 : decode cX8_ease 59 = .ok (.iconst 1, 1) := by decide +kernel
theorem dX8_ease_60 : decode cX8_ease 60 = .ok (.iadd, 1) := by decide +kernel
theorem dX8_ease_61 : decode cX8_ease 61 = .ok (.istore_n 1, 1) := by decide +kernel
theorem dX8_ease_62 : decode cX8_ease 62 = .ok (.goto (-36), 3) := by decide +kernel
theorem dX8_ease_65 : decode cX8_ease 65 = .ok (.iload_n 1, 1) := by decide +kernel
theorem dX8_ease_66 : decode cX8_ease 66 = .ok (.ireturn, 1) := by decide +kernel
theorem dX8_more_0 : decode cX8_more 0 = .ok (.iconst (-1), 1) := by decide +kernel
theorem dX8_more_1 : decode cX8_more 1 = .ok (.istore_n 1, 1) := by decide +kernel
theorem dX8_more_2 : decode cX8_more 2 = .ok (.aload_n 0, 1) := by decide +kernel
theorem dX8_more_3 : decode cX8_more 3 = .ok (.invokevirtual 70, 3) := by decide +kernel
theorem dX8_more_6 : decode cX8_more 6 = .ok (.istore_n 2, 1) := by decide +kernel
theorem dX8_more_7 : decode cX8_more 7 = .ok (.iconst 0, 1) := by decide +kernel
theorem dX8_more_8 : decode cX8_more 8 = .ok (.istore_n 3, 1) := by decide +kernel
theorem dX8_more_9 : decode cX8_more 9 = .ok (.iload_n 3, 1) := by decide +kernel
theorem dX8_more_10 : decode cX8_more 10 = .ok (.aload_n 0, 1) := by decide +kernel
theorem dX8_more_11 : decode cX8_more 11 = .ok (.getfield 7, 3) := by decide +kernel
theorem dX8_more_14 : decode cX8_more 14 = .ok (.bipush 8, 2) := by decide +kernel
theorem dX8_more_16 : decode cX8_more 16 = .ok (.iaload, 1) := by decide +kernel
theorem dX8_more_17 : decode cX8_more 17 = .ok (.if_icmp .ge 65, 3) := by decide +kernel
theorem dX8_more_20 : decode cX8_more 20 = .ok (.aload_n 0, 1) := by decide +kernel
theorem dX8_more_21 : decode cX8_more 21 = .ok (.iload_n 3, 1) := by decide +kernel
theorem dX8_more_22 : decode cX8_more 22 = .ok (.invokevirtual 56, 3) := by decide +kernel
theorem dX8_more_25 : decode cX8_more 25 = .ok (.istore 4, 2) := by decide +kernel
theorem dX8_more_27 : decode cX8_more 27 = .ok (.iload 4, 2) := by decide +kernel
theorem dX8_more_29 : decode cX8_more 29 = .ok (.invokestatic 74, 3) := by decide +kernel
theorem dX8_more_32 : decode cX8_more 32 = .ok (.ifCond .eq 29, 3) := by decide +kernel
theorem dX8_more_35 : decode cX8_more 35 = .ok (.iload_n 1, 1) := by decide +kernel
theorem dX8_more_36 : decode cX8_more 36 = .ok (.iconst (-1), 1) := by decide +kernel
theorem dX8_more_37 : decode cX8_more 37 = .ok (.if_icmp .eq 9, 3) := by decide +kernel
theorem dX8_more_40 : decode cX8_more 40 = .ok (.iload 4, 2) := by decide +kernel
theorem dX8_more_42 : decode cX8_more 42 = .ok (.iload_n 1, 1) := by decide +kernel
theorem dX8_more_43 : decode cX8_more 43 = .ok (.if_icmp .ge 18, 3) := by decide +kernel
theorem dX8_more_46 : decode cX8_more 46 = .ok (.aload_n 0, 1) := by decide +kernel
theorem dX8_more_47 : decode cX8_more 47 = .ok (.iconst 0, 1) := by decide +kernel
theorem dX8_more_48 : decode cX8_more 48 = .ok (.iload 4, 2) := by decide +kernel
theorem dX8_more_50 : decode cX8_more 50 = .ok (.invokevirtual 67, 3) := by decide +kernel
theorem dX8_more_53 : decode cX8_more 53 = .ok (.iload_n 2, 1) := by decide +kernel
theorem dX8_more_54 : decode cX8_more 54 = .ok (.if_icmp .le 7, 3) := by decide +kernel
theorem dX8_more_57 : decode cX8_more 57 = .ok (.iconst 1, 1) := by decide +kernel
theorem dX8_more_58 : decode cX8_more 58 = .ok (.goto 4, 3) := by decide +kernel
theorem dX8_more_61 : decode cX8_more 61 = .ok (.iconst 0, 1) := by decide +kernel
theorem dX8_more_62 : decode cX8_more 62 = .ok (.istore 5, 2) := by decide +kernel
theorem dX8_more_64 : decode cX8_more 64 = .ok (.iload 5, 2) := by decide +kernel
theorem dX8_more_66 : decode cX8_more 66 = .ok (.ifCond .eq 8, 3) := by decide +kernel
theorem dX8_more_69 : decode cX8_more 69 = .ok (.iload 4, 2) := by decide +kernel
theorem dX8_more_71 : decode cX8_more 71 = .ok (.goto 4, 3) := by decide +kernel
theorem dX8_more_74 : decode cX8_more 74 = .ok (.iload_n 1, 1) := by decide +kernel
theorem dX8_more_75 : decode cX8_more 75 = .ok (.istore_n 1, 1) := by decide +kernel
theorem dX8_more_76 : decode cX8_more 76 = .ok (.iinc 3 1, 3) := by decide +kernel
theorem dX8_more_79 : decode cX8_more 79 = .ok (.goto (-70), 3) := by decide +kernel
theorem dX8_more_82 : decode cX8_more 82 = .ok (.iload_n 1, 1) := by decide +kernel
theorem dX8_more_83 : decode cX8_more 83 = .ok (.ireturn, 1) := by decide +kernel
theorem dX8_isSo_0 : decode cX8_isSo 0 = .ok (.iconst 1, 1) := by decide +kernel
theorem dX8_isSo_1 : decode cX8_isSo 1 = .ok (.istore_n 2, 1) := by decide +kernel
theorem dX8_isSo_2 : decode cX8_isSo 2 = .ok (.iconst 0, 1) := by decide +kernel
theorem dX8_isSo_3 : decode cX8_isSo 3 = .ok (.istore_n 3, 1) := by decide +kernel
theorem dX8_isSo_4 : decode cX8_isSo 4 = .ok (.iload_n 3, 1) := by decide +kernel
theorem dX8_isSo_5 : decode cX8_isSo 5 = .ok (.aload_n 0, 1) := by decide +kernel
theorem dX8_isSo_6 : decode cX8_isSo 6 = .ok (.getfield 78, 3) := by decide +kernel
theorem dX8_isSo_9 : decode cX8_isSo 9 = .ok (.if_icmp .ge 79, 3) := by decide +kernel
theorem dX8_isSo_12 : decode cX8_isSo 12 = .ok (.iload_n 2, 1) := by decide +kernel
theorem dX8_isSo_13 : decode cX8_isSo 13 = .ok (.ifCond .eq 75, 3) := by decide +kernel
theorem dX8_isSo_16 : decode cX8_isSo 16 = .ok (.iload_n 1, 1) := by decide +kernel
theorem dX8_isSo_17 : decode cX8_isSo 17 = .ok (.i2l, 1) := by decide +kernel
theorem dX8_isSo_18 : decode cX8_isSo 18 = .ok (.aload_n 0, 1) := by decide +kernel
theorem dX8_isSo_19 : decode cX8_isSo 19 = .ok (.getfield 32, 3) := by decide +kernel
theorem dX8_isSo_22 : decode cX8_isSo 22 = .ok (.iload_n 3, 1) := by decide +kernel
theorem dX8_isSo_23 : decode cX8_isSo 23 = .ok (.iaload, 1) := by decide +kernel
theorem dX8_isSo_24 : decode cX8_isSo 24 = .ok (.aload_n 0, 1) := by decide +kernel
theorem dX8_isSo_25 : decode cX8_isSo 25 = .ok (.getfield 7, 3) := by decide +kernel
theorem dX8_isSo_28 : decode cX8_isSo 28 = .ok (.iconst 0, 1) := by decide +kernel
theorem dX8_isSo_29 : decode cX8_isSo 29 = .ok (.aload_n 0, 1) := by decide +kernel
theorem dX8_isSo_30 : decode cX8_isSo 30 = .ok (.getfield 29, 3) := by decide +kernel
theorem dX8_isSo_33 : decode cX8_isSo 33 = .ok (.iload_n 3, 1) := by decide +kernel
theorem dX8_isSo_34 : decode cX8_isSo 34 = .ok (.iaload, 1) := by decide +kernel
theorem dX8_isSo_35 : decode cX8_isSo 35 = .ok (.iadd, 1) := by decide +kernel
theorem dX8_isSo_36 : decode cX8_isSo 36 = .ok (.iaload, 1) := by decide +kernel
theorem dX8_isSo_37 : decode cX8_isSo 37 = .ok (.iadd, 1) := by decide +kernel
theorem dX8_isSo_38 : decode cX8_isSo 38 = .ok (.i2l, 1) := by decide +kernel
theorem dX8_isSo_39 : decode cX8_isSo 39 = .ok (.aload_n 0, 1) := by decide +kernel
theorem dX8_isSo_40 : decode cX8_isSo 40 = .ok (.getfield 32, 3) := by decide +kernel
theorem dX8_isSo_43 : decode cX8_isSo 43 = .ok (.iload_n 3, 1) := by decide +kernel
theorem dX8_isSo_44 : decode cX8_isSo 44 = .ok (.iaload, 1) := by decide +kernel
theorem dX8_isSo_45 : decode cX8_isSo 45 = .ok (.aload_n 0, 1) := by decide +kernel
theorem dX8_isSo_46 : decode cX8_isSo 46 = .ok (.getfield 7, 3) := by decide +kernel
theorem dX8_isSo_49 : decode cX8_isSo 49 = .ok (.iconst 4, 1) := by decide +kernel
theorem dX8_isSo_50 : decode cX8_isSo 50 = .ok (.aload_n 0, 1) := by decide +kernel
theorem dX8_isSo_51 : decode cX8_isSo 51 = .ok (.getfield 29, 3) := by decide +kernel
theorem dX8_isSo_54 : decode cX8_isSo 54 = .ok (.iload_n 3, 1) := by decide +kernel
theorem dX8_isSo_55 : decode cX8_isSo 55 = .ok (.iaload, 1) := by decide +kernel
theorem dX8_isSo_56 : decode cX8_isSo 56 = .ok (.iadd, 1) := by decide +kernel
theorem dX8_isSo_57 : decode cX8_isSo 57 = .ok (.iaload, 1) := by decide +kernel
theorem dX8_isSo_58 : decode cX8_isSo 58 = .ok (.iadd, 1) := by decide +kernel
theorem dX8_isSo_59 : decode cX8_isSo 59 = .ok (.i2l, 1) := by decide +kernel
theorem dX8_isSo_60 : decode cX8_isSo 60 = .ok (.invokestatic 50, 3) := by decide +kernel
theorem dX8_isSo_63 : decode cX8_isSo 63 = .ok (.istore 4, 2) := by decide +kernel
theorem dX8_isSo_65 : decode cX8_isSo 65 = .ok (.iload 4, 2) := by decide +kernel
theorem dX8_isSo_67 : decode cX8_isSo 67 = .ok (.aload_n 0, 1) := by decide +kernel
theorem dX8_isSo_68 : decode cX8_isSo 68 = .ok (.getfield 35, 3) := by decide +kernel
theorem dX8_isSo_71 : decode cX8_isSo 71 = .ok (.iload_n 3, 1) := by decide +kernel
theorem dX8_isSo_72 : decode cX8_isSo 72 = .ok (.baload, 1) := by decide +kernel
theorem dX8_isSo_73 : decode cX8_isSo 73 = .ok (.if_icmp .ne 7, 3) := by decide +kernel
theorem dX8_isSo_76 : decode cX8_isSo 76 = .ok (.iconst 1, 1) := by decide +kernel
theorem dX8_isSo_77 : decode cX8_isSo 77 = .ok (.goto 4, 3) := by decide +kernel
theorem dX8_isSo_80 : decode cX8_isSo 80 = .ok (.iconst 0, 1) := by decide +kernel
theorem dX8_isSo_81 : decode cX8_isSo 81 = .ok (.istore_n 2, 1) := by decide +kernel
theorem dX8_isSo_82 : decode cX8_isSo 82 = .ok (.iinc 3 1, 3) := by decide +kernel
theorem dX8_isSo_85 : decode cX8_isSo 85 = .ok (.goto (-81), 3) := by decide +kernel
theorem dX8_isSo_88 : decode cX8_isSo 88 = .ok (.iload_n 2, 1) := by decide +kernel
theorem dX8_isSo_89 : decode cX8_isSo 89 = .ok (.ireturn, 1) := by decide +kernel
theorem dX8_laySizes_0 : decode cX8_laySizes 0 = .ok (.aload_n 0, 1) := by decide +kernel
theorem dX8_laySizes_1 : decode cX8_laySizes 1 = .ok (.iconst 0, 1) := by decide +kernel
theorem dX8_laySizes_2 : decode cX8_laySizes 2 = .ok (.putfield 81, 3) := by decide +kernel
theorem dX8_laySizes_5 : decode cX8_laySizes 5 = .ok (.aload_n 0, 1) := by decide +kernel
theorem dX8_laySizes_6 : decode cX8_laySizes 6 = .ok (.iconst (-1), 1) := by decide +kernel
theorem dX8_laySizes_7 : decode cX8_laySizes 7 = .ok (.putfield 84, 3) := by decide +kernel
theorem dX8_laySizes_10 : decode cX8_laySizes 10 = .ok (.aload_n 0, 1) := by decide +kernel
theorem dX8_laySizes_11 : decode cX8_laySizes 11 = .ok (.iconst (-1), 1) := by decide +kernel
theorem dX8_laySizes_12 : decode cX8_laySizes 12 = .ok (.putfield 87, 3) := by decide +kernel
theorem dX8_laySizes_15 : decode cX8_laySizes 15 = .ok (.iconst 0, 1) := by decide +kernel
theorem dX8_laySizes_16 : decode cX8_laySizes 16 = .ok (.istore_n 1, 1) := by decide +kernel
theorem dX8_laySizes_17 : decode cX8_laySizes 17 = .ok (.iload_n 1, 1) := by decide +kernel
theorem dX8_laySizes_18 : decode cX8_laySizes 18 = .ok (.sipush 9999, 3) := by decide +kernel
theorem dX8_laySizes_21 : decode cX8_laySizes 21 = .ok (.if_icmp .gt 72, 3) := by decide +kernel
theorem dX8_laySizes_24 : decode cX8_laySizes 24 = .ok (.aload_n 0, 1) := by decide +kernel
theorem dX8_laySizes_25 : decode cX8_laySizes 25 = .ok (.iload_n 1, 1) := by decide +kernel
theorem dX8_laySizes_26 : decode cX8_laySizes 26 = .ok (.invokevirtual 90, 3) := by decide +kernel
theorem dX8_laySizes_29 : decode cX8_laySizes 29 = .ok (.istore_n 2, 1) := by decide +kernel
theorem dX8_laySizes_30 : decode cX8_laySizes 30 = .ok (.aload_n 0, 1) := by decide +kernel
theorem dX8_laySizes_31 : decode cX8_laySizes 31 = .ok (.iload_n 2, 1) := by decide +kernel
theorem dX8_laySizes_32 : decode cX8_laySizes 32 = .ok (.ifCond .eq 14, 3) := by decide +kernel
theorem dX8_laySizes_35 : decode cX8_laySizes 35 = .ok (.aload_n 0, 1) := by decide +kernel
theorem dX8_laySizes_36 : decode cX8_laySizes 36 = .ok (.getfield 81, 3) := by decide +kernel
theorem dX8_laySizes_39 : decode cX8_laySizes 39 = .ok (.ifCond .ne 7, 3) := by decide +kernel
theorem dX8_laySizes_42 : decode cX8_laySizes 42 = .ok (.iload_n 1, 1) := by decide +kernel
theorem dX8_laySizes_43 : decode cX8_laySizes 43 = .ok (.goto 7, 3) := by decide +kernel
theorem dX8_laySizes_46 : decode cX8_laySizes 46 = .ok (.aload_n 0, 1) := by decide +kernel
theorem dX8_laySizes_47 : decode cX8_laySizes 47 = .ok (.getfield 84, 3) := by decide +kernel
theorem dX8_laySizes_50 : decode cX8_laySizes 50 = .ok (.putfield 84, 3) := by decide +kernel
theorem dX8_laySizes_53 : decode cX8_laySizes 53 = .ok (.aload_n 0, 1) := by decide +kernel
theorem dX8_laySizes_54 : decode cX8_laySizes 54 = .ok (.iload_n 2, 1) := by decide +kernel
theorem dX8_laySizes_55 : decode cX8_laySizes 55 = .ok (.ifCond .eq 7, 3) := by decide +kernel
theorem dX8_laySizes_58 : decode cX8_laySizes 58 = .ok (.iload_n 1, 1) := by decide +kernel
theorem dX8_laySizes_59 : decode cX8_laySizes 59 = .ok (.goto 7, 3) := by decide +kernel
theorem dX8_laySizes_62 : decode cX8_laySizes 62 = .ok (.aload_n 0, 1) := by decide +kernel
theorem dX8_laySizes_63 : decode cX8_laySizes 63 = .ok (.getfield 87, 3) := by decide +kernel
theorem dX8_laySizes_66 : decode cX8_laySizes 66 = .ok (.putfield 87, 3) := by decide +kernel
theorem dX8_laySizes_69 : decode cX8_laySizes 69 = .ok (.aload_n 0, 1) := by decide +kernel
theorem dX8_laySizes_70 : decode cX8_laySizes 70 = .ok (.dup, 1) := by decide +kernel
theorem dX8_laySizes_71 : decode cX8_laySizes 71 = .ok (.getfield 81, 3) := by decide +kernel
theorem dX8_laySizes_74 : decode cX8_laySizes 74 = .ok (.iload_n 2, 1) := by decide +kernel
theorem dX8_laySizes_75 : decode cX8_laySizes 75 = .ok (.ifCond .eq 7, 3) := by decide +kernel
theorem dX8_laySizes_78 : decode cX8_laySizes 78 = .ok (.iconst 1, 1) := by decide +kernel
theorem dX8_laySizes_79 : decode cX8_laySizes 79 = .ok (.goto 4, 3) := by decide +kernel
theorem dX8_laySizes_82 : decode cX8_laySizes 82 = .ok (.iconst 0, 1) := by decide +kernel
theorem dX8_laySizes_83 : decode cX8_laySizes 83 = .ok (.iadd, 1) := by decide +kernel
theorem dX8_laySizes_84 : decode cX8_laySizes 84 = .ok (.putfield 81, 3) := by decide +kernel
theorem dX8_laySizes_87 : decode cX8_laySizes 87 = .ok (.iinc 1 1, 3) := by decide +kernel
theorem dX8_laySizes_90 : decode cX8_laySizes 90 = .ok (.goto (-73), 3) := by decide +kernel
theorem dX8_laySizes_93 : decode cX8_laySizes 93 = .ok (.return_, 1) := by decide +kernel
theorem dX8_fitting_0 : decode cX8_fitting 0 = .ok (.iconst 0, 1) := by decide +kernel
theorem dX8_fitting_1 : decode cX8_fitting 1 = .ok (.istore_n 2, 1) := by decide +kernel
theorem dX8_fitting_2 : decode cX8_fitting 2 = .ok (.aload_n 0, 1) := by decide +kernel
theorem dX8_fitting_3 : decode cX8_fitting 3 = .ok (.iload_n 1, 1) := by decide +kernel
theorem dX8_fitting_4 : decode cX8_fitting 4 = .ok (.invokevirtual 56, 3) := by decide +kernel
theorem dX8_fitting_7 : decode cX8_fitting 7 = .ok (.istore_n 3, 1) := by decide +kernel
theorem dX8_fitting_8 : decode cX8_fitting 8 = .ok (.iload_n 3, 1) := by decide +kernel
theorem dX8_fitting_9 : decode cX8_fitting 9 = .ok (.aload_n 0, 1) := by decide +kernel
theorem dX8_fitting_10 : decode cX8_fitting 10 = .ok (.iload_n 1, 1) := by decide +kernel
theorem dX8_fitting_11 : decode cX8_fitting 11 = .ok (.invokevirtual 60, 3) := by decide +kernel
theorem dX8_fitting_14 : decode cX8_fitting 14 = .ok (.if_icmp .gt 32, 3) := by decide +kernel
theorem dX8_fitting_17 : decode cX8_fitting 17 = .ok (.iload_n 3, 1) := by decide +kernel
theorem dX8_fitting_18 : decode cX8_fitting 18 = .ok (.sipush 9999, 3) := by decide +kernel
theorem dX8_fitting_21 : decode cX8_fitting 21 = .ok (.if_icmp .gt 25, 3) := by decide +kernel
theorem dX8_fitting_24 : decode cX8_fitting 24 = .ok (.iload_n 2, 1) := by decide +kernel
theorem dX8_fitting_25 : decode cX8_fitting 25 = .ok (.aload_n 0, 1) := by decide +kernel
theorem dX8_fitting_26 : decode cX8_fitting 26 = .ok (.iload_n 3, 1) := by decide +kernel
theorem dX8_fitting_27 : decode cX8_fitting 27 = .ok (.invokevirtual 90, 3) := by decide +kernel
theorem dX8_fitting_30 : decode cX8_fitting 30 = .ok (.ifCond .eq 7, 3) := by decide +kernel
theorem dX8_fitting_33 : decode cX8_fitting 33 = .ok (.iconst 1, 1) := by decide +kernel
theorem dX8_fitting_34 : decode cX8_fitting 34 = .ok (.goto 4, 3) := by decide +kernel
theorem dX8_fitting_37 : decode cX8_fitting 37 = .ok (.iconst 0, 1) := by decide +kernel
theorem dX8_fitting_38 : decode cX8_fitting 38 = .ok (.iadd, 1) := by decide +kernel
theorem dX8_fitting_39 : decode cX8_fitting 39 = .ok (.istore_n 2, 1) := by decide +kernel
theorem dX8_fitting_40 : decode cX8_fitting 40 = .ok (.iinc 3 1, 3) := by decide +kernel
theorem dX8_fitting_43 : decode cX8_fitting 43 = .ok (.goto (-35), 3) := by decide +kernel
theorem dX8_fitting_46 : decode cX8_fitting 46 = .ok (.iload_n 2, 1) := by decide +kernel
theorem dX8_fitting_47 : decode cX8_fitting 47 = .ok (.ireturn, 1) := by decide +kernel
theorem dX8_tryNext_0 : decode cX8_tryNext 0 = .ok (.aload_n 0, 1) := by decide +kernel
theorem dX8_tryNext_1 : decode cX8_tryNext 1 = .ok (.invokevirtual 93, 3) := by decide +kernel
theorem dX8_tryNext_4 : decode cX8_tryNext 4 = .ok (.iconst (-1), 1) := by decide +kernel
theorem dX8_tryNext_5 : decode cX8_tryNext 5 = .ok (.istore_n 1, 1) := by decide +kernel
theorem dX8_tryNext_6 : decode cX8_tryNext 6 = .ok (.aload_n 0, 1) := by decide +kernel
theorem dX8_tryNext_7 : decode cX8_tryNext 7 = .ok (.getfield 81, 3) := by decide +kernel
theorem dX8_tryNext_10 : decode cX8_tryNext 10 = .ok (.istore_n 2, 1) := by decide +kernel
theorem dX8_tryNext_11 : decode cX8_tryNext 11 = .ok (.iconst 0, 1) := by decide +kernel
theorem dX8_tryNext_12 : decode cX8_tryNext 12 = .ok (.istore_n 3, 1) := by decide +kernel
theorem dX8_tryNext_13 : decode cX8_tryNext 13 = .ok (.iload_n 3, 1) := by decide +kernel
theorem dX8_tryNext_14 : decode cX8_tryNext 14 = .ok (.aload_n 0, 1) := by decide +kernel
theorem dX8_tryNext_15 : decode cX8_tryNext 15 = .ok (.getfield 7, 3) := by decide +kernel
theorem dX8_tryNext_18 : decode cX8_tryNext 18 = .ok (.bipush 8, 2) := by decide +kernel
theorem dX8_tryNext_20 : decode cX8_tryNext 20 = .ok (.iaload, 1) := by decide +kernel
theorem dX8_tryNext_21 : decode cX8_tryNext 21 = .ok (.if_icmp .ge 67, 3) := by decide +kernel
theorem dX8_tryNext_24 : decode cX8_tryNext 24 = .ok (.aload_n 0, 1) := by decide +kernel
theorem dX8_tryNext_25 : decode cX8_tryNext 25 = .ok (.iload_n 3, 1) := by decide +kernel
theorem dX8_tryNext_26 : decode cX8_tryNext 26 = .ok (.invokevirtual 96, 3) := by decide +kernel
theorem dX8_tryNext_29 : decode cX8_tryNext 29 = .ok (.istore 4, 2) := by decide +kernel
theorem dX8_tryNext_31 : decode cX8_tryNext 31 = .ok (.iload 4, 2) := by decide +kernel
theorem dX8_tryNext_33 : decode cX8_tryNext 33 = .ok (.aload_n 0, 1) := by decide +kernel
theorem dX8_tryNext_34 : decode cX8_tryNext 34 = .ok (.getfield 81, 3) := by decide +kernel
theorem dX8_tryNext_37 : decode cX8_tryNext 37 = .ok (.iload 4, 2) := by decide +kernel
theorem dX8_tryNext_39 : decode cX8_tryNext 39 = .ok (.isub, 1) := by decide +kernel
theorem dX8_tryNext_40 : decode cX8_tryNext 40 = .ok (.if_icmp .le 8, 3) := by decide +kernel
theorem dX8_tryNext_43 : decode cX8_tryNext 43 = .ok (.iload 4, 2) := by decide +kernel
theorem dX8_tryNext_45 : decode cX8_tryNext 45 = .ok (.goto 10, 3) := by decide +kernel
theorem dX8_tryNext_48 : decode cX8_tryNext 48 = .ok (.aload_n 0, 1) := by decide +kernel
theorem dX8_tryNext_49 : decode cX8_tryNext 49 = .ok (.getfield 81, 3) := by decide +kernel
theorem dX8_tryNext_52 : decode cX8_tryNext 52 = .ok (.iload 4, 2) := by decide +kernel
theorem dX8_tryNext_54 : decode cX8_tryNext 54 = .ok (.isub, 1) := by decide +kernel
theorem dX8_tryNext_55 : decode cX8_tryNext 55 = .ok (.istore 5, 2) := by decide +kernel
theorem dX8_tryNext_57 : decode cX8_tryNext 57 = .ok (.iload 5, 2) := by decide +kernel
theorem dX8_tryNext_59 : decode cX8_tryNext 59 = .ok (.iload_n 2, 1) := by decide +kernel
theorem dX8_tryNext_60 : decode cX8_tryNext 60 = .ok (.if_icmp .ge 7, 3) := by decide +kernel
theorem dX8_tryNext_63 : decode cX8_tryNext 63 = .ok (.iload_n 3, 1) := by decide +kernel
theorem dX8_tryNext_64 : decode cX8_tryNext 64 = .ok (.goto 4, 3) := by decide +kernel
theorem dX8_tryNext_67 : decode cX8_tryNext 67 = .ok (.iload_n 1, 1) := by decide +kernel
theorem dX8_tryNext_68 : decode cX8_tryNext 68 = .ok (.istore_n 1, 1) := by decide +kernel
theorem dX8_tryNext_69 : decode cX8_tryNext 69 = .ok (.iload 5, 2) := by decide +kernel
theorem dX8_tryNext_71 : decode cX8_tryNext 71 = .ok (.iload_n 2, 1) := by decide +kernel
theorem dX8_tryNext_72 : decode cX8_tryNext 72 = .ok (.if_icmp .ge 8, 3) := by decide +kernel
theorem dX8_tryNext_75 : decode cX8_tryNext 75 = .ok (.iload 5, 2) := by decide +kernel
theorem dX8_tryNext_77 : decode cX8_tryNext 77 = .ok (.goto 4, 3) := by decide +kernel
theorem dX8_tryNext_80 : decode cX8_tryNext 80 = .ok (.iload_n 2, 1) := by decide +kernel
theorem dX8_tryNext_81 : decode cX8_tryNext 81 = .ok (.istore_n 2, 1) := by decide +kernel
theorem dX8_tryNext_82 : decode cX8_tryNext 82 = .ok (.iinc 3 1, 3) := by decide +kernel
theorem dX8_tryNext_85 : decode cX8_tryNext 85 = .ok (.goto (-72), 3) := by decide +kernel
theorem dX8_tryNext_88 : decode cX8_tryNext 88 = .ok (.iload_n 1, 1) := by decide +kernel
theorem dX8_tryNext_89 : decode cX8_tryNext 89 = .ok (.ireturn, 1) := by decide +kernel
theorem dX8_sizesTell_0 : decode cX8_sizesTell 0 = .ok (.aload_n 0, 1) := by decide +kernel
theorem dX8_sizesTell_1 : decode cX8_sizesTell 1 = .ok (.invokevirtual 93, 3) := by decide +kernel
theorem dX8_sizesTell_4 : decode cX8_sizesTell 4 = .ok (.iload_n 1, 1) := by decide +kernel
theorem dX8_sizesTell_5 : decode cX8_sizesTell 5 = .ok (.ifCond .ne 10, 3) := by decide +kernel
theorem dX8_sizesTell_8 : decode cX8_sizesTell 8 = .ok (.aload_n 0, 1) := by decide +kernel
theorem dX8_sizesTell_9 : decode cX8_sizesTell 9 = .ok (.getfield 81, 3) := by decide +kernel
theorem dX8_sizesTell_12 : decode cX8_sizesTell 12 = .ok (.goto 19, 3) := by decide +kernel
theorem dX8_sizesTell_15 : decode cX8_sizesTell 15 = .ok (.iload_n 1, 1) := by decide +kernel
theorem dX8_sizesTell_16 : decode cX8_sizesTell 16 = .ok (.iconst 1, 1) := by decide +kernel
theorem dX8_sizesTell_17 : decode cX8_sizesTell 17 = .ok (.if_icmp .ne 10, 3) := by decide +kernel
theorem dX8_sizesTell_20 : decode cX8_sizesTell 20 = .ok (.aload_n 0, 1) := by decide +kernel
theorem dX8_sizesTell_21 : decode cX8_sizesTell 21 = .ok (.getfield 84, 3) := by decide +kernel
theorem dX8_sizesTell_24 : decode cX8_sizesTell 24 = .ok (.goto 7, 3) := by decide +kernel
theorem dX8_sizesTell_27 : decode cX8_sizesTell 27 = .ok (.aload_n 0, 1) := by decide +kernel
theorem dX8_sizesTell_28 : decode cX8_sizesTell 28 = .ok (.getfield 87, 3) := by decide +kernel
theorem dX8_sizesTell_31 : decode cX8_sizesTell 31 = .ok (.ireturn, 1) := by decide +kernel
theorem dX8_told_0 : decode cX8_told 0 = .ok (.iload_n 1, 1) := by decide +kernel
theorem dX8_told_1 : decode cX8_told 1 = .ok (.tableswitch 189 0 15 #[79, 87, 95, 103, 108, 121, 134, 140, 146, 151, 156, 161, 167, 173, 179, 184], 79) := by decide +kernel
theorem dX8_told_80 : decode cX8_told 80 = .ok (.aload_n 0, 1) := by decide +kernel
theorem dX8_told_81 : decode cX8_told 81 = .ok (.getfield 7, 3) := by decide +kernel
theorem dX8_told_84 : decode cX8_told 84 = .ok (.bipush 8, 2) := by decide +kernel
theorem dX8_told_86 : decode cX8_told 86 = .ok (.iaload, 1) := by decide +kernel
theorem dX8_told_87 : decode cX8_told 87 = .ok (.ireturn, 1) := by decide +kernel
theorem dX8_told_88 : decode cX8_told 88 = .ok (.aload_n 0, 1) := by decide +kernel
theorem dX8_told_89 : decode cX8_told 89 = .ok (.getfield 7, 3) := by decide +kernel
theorem dX8_told_92 : decode cX8_told 92 = .ok (.bipush 57, 2) := by decide +kernel
theorem dX8_told_94 : decode cX8_told 94 = .ok (.iaload, 1) := by decide +kernel
theorem dX8_told_95 : decode cX8_told 95 = .ok (.ireturn, 1) := by decide +kernel
theorem dX8_told_96 : decode cX8_told 96 = .ok (.aload_n 0, 1) := by decide +kernel
theorem dX8_told_97 : decode cX8_told 97 = .ok (.getfield 7, 3) := by decide +kernel
theorem dX8_told_100 : decode cX8_told 100 = .ok (.bipush 82, 2) := by decide +kernel
theorem dX8_told_102 : decode cX8_told 102 = .ok (.iaload, 1) := by decide +kernel
theorem dX8_told_103 : decode cX8_told 103 = .ok (.ireturn, 1) := by decide +kernel
theorem dX8_told_104 : decode cX8_told 104 = .ok (.aload_n 0, 1) := by decide +kernel
theorem dX8_told_105 : decode cX8_told 105 = .ok (.invokevirtual 70, 3) := by decide +kernel
theorem dX8_told_108 : decode cX8_told 108 = .ok (.ireturn, 1) := by decide +kernel
theorem dX8_told_109 : decode cX8_told 109 = .ok (.aload_n 0, 1) := by decide +kernel
theorem dX8_told_110 : decode cX8_told 110 = .ok (.getfield 7, 3) := by decide +kernel
theorem dX8_told_113 : decode cX8_told 113 = .ok (.bipush 8, 2) := by decide +kernel
theorem dX8_told_115 : decode cX8_told 115 = .ok (.iaload, 1) := by decide +kernel
theorem dX8_told_116 : decode cX8_told 116 = .ok (.aload_n 0, 1) := by decide +kernel
theorem dX8_told_117 : decode cX8_told 117 = .ok (.invokevirtual 70, 3) := by decide +kernel
theorem dX8_told_120 : decode cX8_told 120 = .ok (.isub, 1) := by decide +kernel
theorem dX8_told_121 : decode cX8_told 121 = .ok (.ireturn, 1) := by decide +kernel
theorem dX8_told_122 : decode cX8_told 122 = .ok (.aload_n 0, 1) := by decide +kernel
theorem dX8_told_123 : decode cX8_told 123 = .ok (.getfield 7, 3) := by decide +kernel
theorem dX8_told_126 : decode cX8_told 126 = .ok (.bipush 57, 2) := by decide +kernel
theorem dX8_told_128 : decode cX8_told 128 = .ok (.iaload, 1) := by decide +kernel
theorem dX8_told_129 : decode cX8_told 129 = .ok (.aload_n 0, 1) := by decide +kernel
theorem dX8_told_130 : decode cX8_told 130 = .ok (.invokevirtual 70, 3) := by decide +kernel
theorem dX8_told_133 : decode cX8_told 133 = .ok (.isub, 1) := by decide +kernel
theorem dX8_told_134 : decode cX8_told 134 = .ok (.ireturn, 1) := by decide +kernel
theorem dX8_told_135 : decode cX8_told 135 = .ok (.aload_n 0, 1) := by decide +kernel
theorem dX8_told_136 : decode cX8_told 136 = .ok (.iconst 0, 1) := by decide +kernel
theorem dX8_told_137 : decode cX8_told 137 = .ok (.invokevirtual 99, 3) := by decide +kernel
theorem dX8_told_140 : decode cX8_told 140 = .ok (.ireturn, 1) := by decide +kernel
theorem dX8_told_141 : decode cX8_told 141 = .ok (.aload_n 0, 1) := by decide +kernel
theorem dX8_told_142 : decode cX8_told 142 = .ok (.iconst 1, 1) := by decide +kernel
theorem dX8_told_143 : decode cX8_told 143 = .ok (.invokevirtual 99, 3) := by decide +kernel
theorem dX8_told_146 : decode cX8_told 146 = .ok (.ireturn, 1) := by decide +kernel
theorem dX8_told_147 : decode cX8_told 147 = .ok (.aload_n 0, 1) := by decide +kernel
theorem dX8_told_148 : decode cX8_told 148 = .ok (.invokevirtual 103, 3) := by decide +kernel
theorem dX8_told_151 : decode cX8_told 151 = .ok (.ireturn, 1) := by decide +kernel
theorem dX8_told_152 : decode cX8_told 152 = .ok (.aload_n 0, 1) := by decide +kernel
theorem dX8_told_153 : decode cX8_told 153 = .ok (.invokevirtual 106, 3) := by decide +kernel
theorem dX8_told_156 : decode cX8_told 156 = .ok (.ireturn, 1) := by decide +kernel
theorem dX8_told_157 : decode cX8_told 157 = .ok (.aload_n 0, 1) := by decide +kernel
theorem dX8_told_158 : decode cX8_told 158 = .ok (.getfield 78, 3) := by decide +kernel
theorem dX8_told_161 : decode cX8_told 161 = .ok (.ireturn, 1) := by decide +kernel
theorem dX8_told_162 : decode cX8_told 162 = .ok (.aload_n 0, 1) := by decide +kernel
theorem dX8_told_163 : decode cX8_told 163 = .ok (.iconst 0, 1) := by decide +kernel
theorem dX8_told_164 : decode cX8_told 164 = .ok (.invokevirtual 109, 3) := by decide +kernel
theorem dX8_told_167 : decode cX8_told 167 = .ok (.ireturn, 1) := by decide +kernel
theorem dX8_told_168 : decode cX8_told 168 = .ok (.aload_n 0, 1) := by decide +kernel
theorem dX8_told_169 : decode cX8_told 169 = .ok (.iconst 1, 1) := by decide +kernel
theorem dX8_told_170 : decode cX8_told 170 = .ok (.invokevirtual 109, 3) := by decide +kernel
theorem dX8_told_173 : decode cX8_told 173 = .ok (.ireturn, 1) := by decide +kernel
theorem dX8_told_174 : decode cX8_told 174 = .ok (.aload_n 0, 1) := by decide +kernel
theorem dX8_told_175 : decode cX8_told 175 = .ok (.iconst 2, 1) := by decide +kernel
theorem dX8_told_176 : decode cX8_told 176 = .ok (.invokevirtual 109, 3) := by decide +kernel
theorem dX8_told_179 : decode cX8_told 179 = .ok (.ireturn, 1) := by decide +kernel
theorem dX8_told_180 : decode cX8_told 180 = .ok (.aload_n 0, 1) := by decide +kernel
theorem dX8_told_181 : decode cX8_told 181 = .ok (.invokevirtual 112, 3) := by decide +kernel
theorem dX8_told_184 : decode cX8_told 184 = .ok (.ireturn, 1) := by decide +kernel
theorem dX8_told_185 : decode cX8_told 185 = .ok (.aload_n 0, 1) := by decide +kernel
theorem dX8_told_186 : decode cX8_told 186 = .ok (.getfield 115, 3) := by decide +kernel
theorem dX8_told_189 : decode cX8_told 189 = .ok (.ireturn, 1) := by decide +kernel
theorem dX8_told_190 : decode cX8_told 190 = .ok (.ldc 118, 2) := by decide +kernel
theorem dX8_told_192 : decode cX8_told 192 = .ok (.ireturn, 1) := by decide +kernel
theorem dX8_sortOf_0 : decode cX8_sortOf 0 = .ok (.iconst 0, 1) := by decide +kernel
theorem dX8_sortOf_1 : decode cX8_sortOf 1 = .ok (.istore_n 3, 1) := by decide +kernel
theorem dX8_sortOf_2 : decode cX8_sortOf 2 = .ok (.iload_n 3, 1) := by decide +kernel
theorem dX8_sortOf_3 : decode cX8_sortOf 3 = .ok (.aload_n 0, 1) := by decide +kernel
theorem dX8_sortOf_4 : decode cX8_sortOf 4 = .ok (.getfield 7, 3) := by decide +kernel
theorem dX8_sortOf_7 : decode cX8_sortOf 7 = .ok (.bipush 82, 2) := by decide +kernel
theorem dX8_sortOf_9 : decode cX8_sortOf 9 = .ok (.iaload, 1) := by decide +kernel
theorem dX8_sortOf_10 : decode cX8_sortOf 10 = .ok (.if_icmp .ge 38, 3) := by decide +kernel
theorem dX8_sortOf_13 : decode cX8_sortOf 13 = .ok (.aload_n 0, 1) := by decide +kernel
theorem dX8_sortOf_14 : decode cX8_sortOf 14 = .ok (.getfield 7, 3) := by decide +kernel
theorem dX8_sortOf_17 : decode cX8_sortOf 17 = .ok (.bipush 83, 2) := by decide +kernel
theorem dX8_sortOf_19 : decode cX8_sortOf 19 = .ok (.iload_n 3, 1) := by decide +kernel
theorem dX8_sortOf_20 : decode cX8_sortOf 20 = .ok (.iadd, 1) := by decide +kernel
theorem dX8_sortOf_21 : decode cX8_sortOf 21 = .ok (.iaload, 1) := by decide +kernel
theorem dX8_sortOf_22 : decode cX8_sortOf 22 = .ok (.iload_n 1, 1) := by decide +kernel
theorem dX8_sortOf_23 : decode cX8_sortOf 23 = .ok (.if_icmp .ne 19, 3) := by decide +kernel
theorem dX8_sortOf_26 : decode cX8_sortOf 26 = .ok (.aload_n 0, 1) := by decide +kernel
theorem dX8_sortOf_27 : decode cX8_sortOf 27 = .ok (.getfield 7, 3) := by decide +kernel
theorem dX8_sortOf_30 : decode cX8_sortOf 30 = .ok (.sipush 131, 3) := by decide +kernel
theorem dX8_sortOf_33 : decode cX8_sortOf 33 = .ok (.iload_n 3, 1) := by decide +kernel
theorem dX8_sortOf_34 : decode cX8_sortOf 34 = .ok (.iadd, 1) := by decide +kernel
theorem dX8_sortOf_35 : decode cX8_sortOf 35 = .ok (.iaload, 1) := by decide +kernel
theorem dX8_sortOf_36 : decode cX8_sortOf 36 = .ok (.iload_n 2, 1) := by decide +kernel
theorem dX8_sortOf_37 : decode cX8_sortOf 37 = .ok (.if_icmp .ne 5, 3) := by decide +kernel
theorem dX8_sortOf_40 : decode cX8_sortOf 40 = .ok (.iload_n 3, 1) := by decide +kernel
theorem dX8_sortOf_41 : decode cX8_sortOf 41 = .ok (.ireturn, 1) := by decide +kernel
theorem dX8_sortOf_42 : decode cX8_sortOf 42 = .ok (.iinc 3 1, 3) := by decide +kernel
theorem dX8_sortOf_45 : decode cX8_sortOf 45 = .ok (.goto (-43), 3) := by decide +kernel
theorem dX8_sortOf_48 : decode cX8_sortOf 48 = .ok (.iconst (-1), 1) := by decide +kernel
theorem dX8_sortOf_49 : decode cX8_sortOf 49 = .ok (.ireturn, 1) := by decide +kernel
theorem dX8_shaftTells_0 : decode cX8_shaftTells 0 = .ok (.aload_n 0, 1) := by decide +kernel
theorem dX8_shaftTells_1 : decode cX8_shaftTells 1 = .ok (.invokevirtual 70, 3) := by decide +kernel
theorem dX8_shaftTells_4 : decode cX8_shaftTells 4 = .ok (.istore_n 3, 1) := by decide +kernel
theorem dX8_shaftTells_5 : decode cX8_shaftTells 5 = .ok (.iload_n 2, 1) := by decide +kernel
theorem dX8_shaftTells_6 : decode cX8_shaftTells 6 = .ok (.tableswitch 108 0 5 #[38, 48, 58, 73, 79, 85], 38) := by decide +kernel
theorem dX8_shaftTells_44 : decode cX8_shaftTells 44 = .ok (.aload_n 0, 1) := by decide +kernel
theorem dX8_shaftTells_45 : decode cX8_shaftTells 45 = .ok (.getfield 7, 3) := by decide +kernel
theorem dX8_shaftTells_48 : decode cX8_shaftTells 48 = .ok (.bipush 9, 2) := by decide +kernel
theorem dX8_shaftTells_50 : decode cX8_shaftTells 50 = .ok (.iload_n 1, 1) := by decide +kernel
theorem dX8_shaftTells_51 : decode cX8_shaftTells 51 = .ok (.iadd, 1) := by decide +kernel
theorem dX8_shaftTells_52 : decode cX8_shaftTells 52 = .ok (.iaload, 1) := by decide +kernel
theorem dX8_shaftTells_53 : decode cX8_shaftTells 53 = .ok (.ireturn, 1) := by decide +kernel
theorem dX8_shaftTells_54 : decode cX8_shaftTells 54 = .ok (.aload_n 0, 1) := by decide +kernel
theorem dX8_shaftTells_55 : decode cX8_shaftTells 55 = .ok (.getfield 7, 3) := by decide +kernel
theorem dX8_shaftTells_58 : decode cX8_shaftTells 58 = .ok (.bipush 33, 2) := by decide +kernel
theorem dX8_shaftTells_60 : decode cX8_shaftTells 60 = .ok (.iload_n 1, 1) := by decide +kernel
theorem dX8_shaftTells_61 : decode cX8_shaftTells 61 = .ok (.iadd, 1) := by decide +kernel
theorem dX8_shaftTells_62 : decode cX8_shaftTells 62 = .ok (.iaload, 1) := by decide +kernel
theorem dX8_shaftTells_63 : decode cX8_shaftTells 63 = .ok (.ireturn, 1) := by decide +kernel
theorem dX8_shaftTells_64 : decode cX8_shaftTells 64 = .ok (.iload_n 3, 1) := by decide +kernel
theorem dX8_shaftTells_65 : decode cX8_shaftTells 65 = .ok (.ifCond .le 12, 3) := by decide +kernel
theorem dX8_shaftTells_68 : decode cX8_shaftTells 68 = .ok (.aload_n 0, 1) := by decide +kernel
theorem dX8_shaftTells_69 : decode cX8_shaftTells 69 = .ok (.getfield 20, 3) := by decide +kernel
theorem dX8_shaftTells_72 : decode cX8_shaftTells 72 = .ok (.iload_n 1, 1) := by decide +kernel
theorem dX8_shaftTells_73 : decode cX8_shaftTells 73 = .ok (.iaload, 1) := by decide +kernel
theorem dX8_shaftTells_74 : decode cX8_shaftTells 74 = .ok (.goto 4, 3) := by decide +kernel
theorem dX8_shaftTells_77 : decode cX8_shaftTells 77 = .ok (.iconst (-1), 1) := by decide +kernel
theorem dX8_shaftTells_78 : decode cX8_shaftTells 78 = .ok (.ireturn, 1) := by decide +kernel
theorem dX8_shaftTells_79 : decode cX8_shaftTells 79 = .ok (.aload_n 0, 1) := by decide +kernel
theorem dX8_shaftTells_80 : decode cX8_shaftTells 80 = .ok (.iload_n 1, 1) := by decide +kernel
theorem dX8_shaftTells_81 : decode cX8_shaftTells 81 = .ok (.invokevirtual 56, 3) := by decide +kernel
theorem dX8_shaftTells_84 : decode cX8_shaftTells 84 = .ok (.ireturn, 1) := by decide +kernel
theorem dX8_shaftTells_85 : decode cX8_shaftTells 85 = .ok (.aload_n 0, 1) := by decide +kernel
theorem dX8_shaftTells_86 : decode cX8_shaftTells 86 = .ok (.iload_n 1, 1) := by decide +kernel
theorem dX8_shaftTells_87 : decode cX8_shaftTells 87 = .ok (.invokevirtual 60, 3) := by decide +kernel
theorem dX8_shaftTells_90 : decode cX8_shaftTells 90 = .ok (.ireturn, 1) := by decide +kernel
theorem dX8_shaftTells_91 : decode cX8_shaftTells 91 = .ok (.aload_n 0, 1) := by decide +kernel
theorem dX8_shaftTells_92 : decode cX8_shaftTells 92 = .ok (.aload_n 0, 1) := by decide +kernel
theorem dX8_shaftTells_93 : decode cX8_shaftTells 93 = .ok (.getfield 7, 3) := by decide +kernel
theorem dX8_shaftTells_96 : decode cX8_shaftTells 96 = .ok (.bipush 9, 2) := by decide +kernel
theorem dX8_shaftTells_98 : decode cX8_shaftTells 98 = .ok (.iload_n 1, 1) := by decide +kernel
theorem dX8_shaftTells_99 : decode cX8_shaftTells 99 = .ok (.iadd, 1) := by decide +kernel
theorem dX8_shaftTells_100 : decode cX8_shaftTells 100 = .ok (.iaload, 1) := by decide +kernel
theorem dX8_shaftTells_101 : decode cX8_shaftTells 101 = .ok (.aload_n 0, 1) := by decide +kernel
theorem dX8_shaftTells_102 : decode cX8_shaftTells 102 = .ok (.getfield 7, 3) := by decide +kernel
theorem dX8_shaftTells_105 : decode cX8_shaftTells 105 = .ok (.bipush 33, 2) := by decide +kernel
theorem dX8_shaftTells_107 : decode cX8_shaftTells 107 = .ok (.iload_n 1, 1) := by decide +kernel
theorem dX8_shaftTells_108 : decode cX8_shaftTells 108 = .ok (.iadd, 1) := by decide +kernel
theorem dX8_shaftTells_109 : decode cX8_shaftTells 109 = .ok (.iaload, 1) := by decide +kernel
theorem dX8_shaftTells_110 : decode cX8_shaftTells 110 = .ok (.invokevirtual 119, 3) := by decide +kernel
theorem dX8_shaftTells_113 : decode cX8_shaftTells 113 = .ok (.ireturn, 1) := by decide +kernel
theorem dX8_shaftTells_114 : decode cX8_shaftTells 114 = .ok (.ldc 118, 2) := by decide +kernel
theorem dX8_shaftTells_116 : decode cX8_shaftTells 116 = .ok (.ireturn, 1) := by decide +kernel
theorem dX8_shaftAt_0 : decode cX8_shaftAt 0 = .ok (.aload_n 0, 1) := by decide +kernel
theorem dX8_shaftAt_1 : decode cX8_shaftAt 1 = .ok (.iload_n 1, 1) := by decide +kernel
theorem dX8_shaftAt_2 : decode cX8_shaftAt 2 = .ok (.invokevirtual 122, 3) := by decide +kernel
theorem dX8_shaftAt_5 : decode cX8_shaftAt 5 = .ok (.ifCond .eq 12, 3) := by decide +kernel
theorem dX8_shaftAt_8 : decode cX8_shaftAt 8 = .ok (.aload_n 0, 1) := by decide +kernel
theorem dX8_shaftAt_9 : decode cX8_shaftAt 9 = .ok (.iload_n 1, 1) := by decide +kernel
theorem dX8_shaftAt_10 : decode cX8_shaftAt 10 = .ok (.iload_n 2, 1) := by decide +kernel
theorem dX8_shaftAt_11 : decode cX8_shaftAt 11 = .ok (.invokevirtual 125, 3) := by decide +kernel
theorem dX8_shaftAt_14 : decode cX8_shaftAt 14 = .ok (.goto 5, 3) := by decide +kernel
theorem dX8_shaftAt_17 : decode cX8_shaftAt 17 = .ok (.ldc 128, 2) := by decide +kernel
theorem dX8_shaftAt_19 : decode cX8_shaftAt 19 = .ok (.ireturn, 1) := by decide +kernel
theorem dX8_fitsMany_0 : decode cX8_fitsMany 0 = .ok (.iconst 0, 1) := by decide +kernel
theorem dX8_fitsMany_1 : decode cX8_fitsMany 1 = .ok (.istore_n 2, 1) := by decide +kernel
theorem dX8_fitsMany_2 : decode cX8_fitsMany 2 = .ok (.iconst 0, 1) := by decide +kernel
theorem dX8_fitsMany_3 : decode cX8_fitsMany 3 = .ok (.istore_n 3, 1) := by decide +kernel
theorem dX8_fitsMany_4 : decode cX8_fitsMany 4 = .ok (.iload_n 3, 1) := by decide +kernel
theorem dX8_fitsMany_5 : decode cX8_fitsMany 5 = .ok (.aload_n 0, 1) := by decide +kernel
theorem dX8_fitsMany_6 : decode cX8_fitsMany 6 = .ok (.getfield 7, 3) := by decide +kernel
theorem dX8_fitsMany_9 : decode cX8_fitsMany 9 = .ok (.bipush 8, 2) := by decide +kernel
theorem dX8_fitsMany_11 : decode cX8_fitsMany 11 = .ok (.iaload, 1) := by decide +kernel
theorem dX8_fitsMany_12 : decode cX8_fitsMany 12 = .ok (.if_icmp .ge 26, 3) := by decide +kernel
theorem dX8_fitsMany_15 : decode cX8_fitsMany 15 = .ok (.iload_n 2, 1) := by decide +kernel
theorem dX8_fitsMany_16 : decode cX8_fitsMany 16 = .ok (.aload_n 0, 1) := by decide +kernel
theorem dX8_fitsMany_17 : decode cX8_fitsMany 17 = .ok (.iload_n 3, 1) := by decide +kernel
theorem dX8_fitsMany_18 : decode cX8_fitsMany 18 = .ok (.iload_n 1, 1) := by decide +kernel
theorem dX8_fitsMany_19 : decode cX8_fitsMany 19 = .ok (.invokevirtual 129, 3) := by decide +kernel
theorem dX8_fitsMany_22 : decode cX8_fitsMany 22 = .ok (.ifCond .eq 7, 3) := by decide +kernel
theorem dX8_fitsMany_25 : decode cX8_fitsMany 25 = .ok (.iconst 1, 1) := by decide +kernel
theorem dX8_fitsMany_26 : decode cX8_fitsMany 26 = .ok (.goto 4, 3) := by decide +kernel
theorem dX8_fitsMany_29 : decode cX8_fitsMany 29 = .ok (.iconst 0, 1) := by decide +kernel
theorem dX8_fitsMany_30 : decode cX8_fitsMany 30 = .ok (.iadd, 1) := by decide +kernel
theorem dX8_fitsMany_31 : decode cX8_fitsMany 31 = .ok (.istore_n 2, 1) := by decide +kernel
theorem dX8_fitsMany_32 : decode cX8_fitsMany 32 = .ok (.iinc 3 1, 3) := by decide +kernel
theorem dX8_fitsMany_35 : decode cX8_fitsMany 35 = .ok (.goto (-31), 3) := by decide +kernel
theorem dX8_fitsMany_38 : decode cX8_fitsMany 38 = .ok (.iload_n 2, 1) := by decide +kernel
theorem dX8_fitsMany_39 : decode cX8_fitsMany 39 = .ok (.ireturn, 1) := by decide +kernel
theorem dX8_boreTells_0 : decode cX8_boreTells 0 = .ok (.aload_n 0, 1) := by decide +kernel
theorem dX8_boreTells_1 : decode cX8_boreTells 1 = .ok (.invokevirtual 70, 3) := by decide +kernel
theorem dX8_boreTells_4 : decode cX8_boreTells 4 = .ok (.istore_n 3, 1) := by decide +kernel
theorem dX8_boreTells_5 : decode cX8_boreTells 5 = .ok (.iload_n 2, 1) := by decide +kernel
theorem dX8_boreTells_6 : decode cX8_boreTells 6 = .ok (.tableswitch 84 0 3 #[30, 40, 55, 69], 30) := by decide +kernel
theorem dX8_boreTells_36 : decode cX8_boreTells 36 = .ok (.aload_n 0, 1) := by decide +kernel
theorem dX8_boreTells_37 : decode cX8_boreTells 37 = .ok (.getfield 7, 3) := by decide +kernel
theorem dX8_boreTells_40 : decode cX8_boreTells 40 = .ok (.bipush 58, 2) := by decide +kernel
theorem dX8_boreTells_42 : decode cX8_boreTells 42 = .ok (.iload_n 1, 1) := by decide +kernel
theorem dX8_boreTells_43 : decode cX8_boreTells 43 = .ok (.iadd, 1) := by decide +kernel
theorem dX8_boreTells_44 : decode cX8_boreTells 44 = .ok (.iaload, 1) := by decide +kernel
theorem dX8_boreTells_45 : decode cX8_boreTells 45 = .ok (.ireturn, 1) := by decide +kernel
theorem dX8_boreTells_46 : decode cX8_boreTells 46 = .ok (.iload_n 3, 1) := by decide +kernel
theorem dX8_boreTells_47 : decode cX8_boreTells 47 = .ok (.ifCond .le 12, 3) := by decide +kernel
theorem dX8_boreTells_50 : decode cX8_boreTells 50 = .ok (.aload_n 0, 1) := by decide +kernel
theorem dX8_boreTells_51 : decode cX8_boreTells 51 = .ok (.getfield 23, 3) := by decide +kernel
theorem dX8_boreTells_54 : decode cX8_boreTells 54 = .ok (.iload_n 1, 1) := by decide +kernel
theorem dX8_boreTells_55 : decode cX8_boreTells 55 = .ok (.iaload, 1) := by decide +kernel
theorem dX8_boreTells_56 : decode cX8_boreTells 56 = .ok (.goto 4, 3) := by decide +kernel
theorem dX8_boreTells_59 : decode cX8_boreTells 59 = .ok (.iconst (-1), 1) := by decide +kernel
theorem dX8_boreTells_60 : decode cX8_boreTells 60 = .ok (.ireturn, 1) := by decide +kernel
theorem dX8_boreTells_61 : decode cX8_boreTells 61 = .ok (.aload_n 0, 1) := by decide +kernel
theorem dX8_boreTells_62 : decode cX8_boreTells 62 = .ok (.aload_n 0, 1) := by decide +kernel
theorem dX8_boreTells_63 : decode cX8_boreTells 63 = .ok (.getfield 7, 3) := by decide +kernel
theorem dX8_boreTells_66 : decode cX8_boreTells 66 = .ok (.bipush 58, 2) := by decide +kernel
theorem dX8_boreTells_68 : decode cX8_boreTells 68 = .ok (.iload_n 1, 1) := by decide +kernel
theorem dX8_boreTells_69 : decode cX8_boreTells 69 = .ok (.iadd, 1) := by decide +kernel
theorem dX8_boreTells_70 : decode cX8_boreTells 70 = .ok (.iaload, 1) := by decide +kernel
theorem dX8_boreTells_71 : decode cX8_boreTells 71 = .ok (.invokevirtual 133, 3) := by decide +kernel
theorem dX8_boreTells_74 : decode cX8_boreTells 74 = .ok (.ireturn, 1) := by decide +kernel
theorem dX8_boreTells_75 : decode cX8_boreTells 75 = .ok (.aload_n 0, 1) := by decide +kernel
theorem dX8_boreTells_76 : decode cX8_boreTells 76 = .ok (.iconst 4, 1) := by decide +kernel
theorem dX8_boreTells_77 : decode cX8_boreTells 77 = .ok (.aload_n 0, 1) := by decide +kernel
theorem dX8_boreTells_78 : decode cX8_boreTells 78 = .ok (.getfield 7, 3) := by decide +kernel
theorem dX8_boreTells_81 : decode cX8_boreTells 81 = .ok (.bipush 58, 2) := by decide +kernel
theorem dX8_boreTells_83 : decode cX8_boreTells 83 = .ok (.iload_n 1, 1) := by decide +kernel
theorem dX8_boreTells_84 : decode cX8_boreTells 84 = .ok (.iadd, 1) := by decide +kernel
theorem dX8_boreTells_85 : decode cX8_boreTells 85 = .ok (.iaload, 1) := by decide +kernel
theorem dX8_boreTells_86 : decode cX8_boreTells 86 = .ok (.invokevirtual 119, 3) := by decide +kernel
theorem dX8_boreTells_89 : decode cX8_boreTells 89 = .ok (.ireturn, 1) := by decide +kernel
theorem dX8_boreTells_90 : decode cX8_boreTells 90 = .ok (.ldc 118, 2) := by decide +kernel
theorem dX8_boreTells_92 : decode cX8_boreTells 92 = .ok (.ireturn, 1) := by decide +kernel
theorem dX8_boreAt_0 : decode cX8_boreAt 0 = .ok (.aload_n 0, 1) := by decide +kernel
theorem dX8_boreAt_1 : decode cX8_boreAt 1 = .ok (.iload_n 1, 1) := by decide +kernel
theorem dX8_boreAt_2 : decode cX8_boreAt 2 = .ok (.invokevirtual 136, 3) := by decide +kernel
theorem dX8_boreAt_5 : decode cX8_boreAt 5 = .ok (.ifCond .eq 12, 3) := by decide +kernel
theorem dX8_boreAt_8 : decode cX8_boreAt 8 = .ok (.aload_n 0, 1) := by decide +kernel
theorem dX8_boreAt_9 : decode cX8_boreAt 9 = .ok (.iload_n 1, 1) := by decide +kernel
theorem dX8_boreAt_10 : decode cX8_boreAt 10 = .ok (.iload_n 2, 1) := by decide +kernel
theorem dX8_boreAt_11 : decode cX8_boreAt 11 = .ok (.invokevirtual 139, 3) := by decide +kernel
theorem dX8_boreAt_14 : decode cX8_boreAt 14 = .ok (.goto 5, 3) := by decide +kernel
theorem dX8_boreAt_17 : decode cX8_boreAt 17 = .ok (.ldc 128, 2) := by decide +kernel
theorem dX8_boreAt_19 : decode cX8_boreAt 19 = .ok (.ireturn, 1) := by decide +kernel
theorem dX8_ofGrade_0 : decode cX8_ofGrade 0 = .ok (.iconst 0, 1) := by decide +kernel
theorem dX8_ofGrade_1 : decode cX8_ofGrade 1 = .ok (.istore_n 2, 1) := by decide +kernel
theorem dX8_ofGrade_2 : decode cX8_ofGrade 2 = .ok (.iconst 0, 1) := by decide +kernel
theorem dX8_ofGrade_3 : decode cX8_ofGrade 3 = .ok (.istore_n 3, 1) := by decide +kernel
theorem dX8_ofGrade_4 : decode cX8_ofGrade 4 = .ok (.iload_n 3, 1) := by decide +kernel
theorem dX8_ofGrade_5 : decode cX8_ofGrade 5 = .ok (.aload_n 0, 1) := by decide +kernel
theorem dX8_ofGrade_6 : decode cX8_ofGrade 6 = .ok (.getfield 7, 3) := by decide +kernel
theorem dX8_ofGrade_9 : decode cX8_ofGrade 9 = .ok (.bipush 8, 2) := by decide +kernel
theorem dX8_ofGrade_11 : decode cX8_ofGrade 11 = .ok (.iaload, 1) := by decide +kernel
theorem dX8_ofGrade_12 : decode cX8_ofGrade 12 = .ok (.if_icmp .ge 30, 3) := by decide +kernel
theorem dX8_ofGrade_15 : decode cX8_ofGrade 15 = .ok (.iload_n 2, 1) := by decide +kernel
theorem dX8_ofGrade_16 : decode cX8_ofGrade 16 = .ok (.aload_n 0, 1) := by decide +kernel
theorem dX8_ofGrade_17 : decode cX8_ofGrade 17 = .ok (.getfield 7, 3) := by decide +kernel
theorem dX8_ofGrade_20 : decode cX8_ofGrade 20 = .ok (.bipush 9, 2) := by decide +kernel
theorem dX8_ofGrade_22 : decode cX8_ofGrade 22 = .ok (.iload_n 3, 1) := by decide +kernel
theorem dX8_ofGrade_23 : decode cX8_ofGrade 23 = .ok (.iadd, 1) := by decide +kernel
theorem dX8_ofGrade_24 : decode cX8_ofGrade 24 = .ok (.iaload, 1) := by decide +kernel
theorem dX8_ofGrade_25 : decode cX8_ofGrade 25 = .ok (.iload_n 1, 1) := by decide +kernel
theorem dX8_ofGrade_26 : decode cX8_ofGrade 26 = .ok (.if_icmp .ne 7, 3) := by decide +kernel
theorem dX8_ofGrade_29 : decode cX8_ofGrade 29 = .ok (.iconst 1, 1) := by decide +kernel
theorem dX8_ofGrade_30 : decode cX8_ofGrade 30 = .ok (.goto 4, 3) := by decide +kernel
theorem dX8_ofGrade_33 : decode cX8_ofGrade 33 = .ok (.iconst 0, 1) := by decide +kernel
theorem dX8_ofGrade_34 : decode cX8_ofGrade 34 = .ok (.iadd, 1) := by decide +kernel
theorem dX8_ofGrade_35 : decode cX8_ofGrade 35 = .ok (.istore_n 2, 1) := by decide +kernel
theorem dX8_ofGrade_36 : decode cX8_ofGrade 36 = .ok (.iinc 3 1, 3) := by decide +kernel
theorem dX8_ofGrade_39 : decode cX8_ofGrade 39 = .ok (.goto (-35), 3) := by decide +kernel
theorem dX8_ofGrade_42 : decode cX8_ofGrade 42 = .ok (.iload_n 2, 1) := by decide +kernel
theorem dX8_ofGrade_43 : decode cX8_ofGrade 43 = .ok (.ireturn, 1) := by decide +kernel
theorem dX8_gradeAt_0 : decode cX8_gradeAt 0 = .ok (.iload_n 1, 1) := by decide +kernel
theorem dX8_gradeAt_1 : decode cX8_gradeAt 1 = .ok (.invokestatic 142, 3) := by decide +kernel
theorem dX8_gradeAt_4 : decode cX8_gradeAt 4 = .ok (.ifCond .ne 6, 3) := by decide +kernel
theorem dX8_gradeAt_7 : decode cX8_gradeAt 7 = .ok (.ldc 128, 2) := by decide +kernel
theorem dX8_gradeAt_9 : decode cX8_gradeAt 9 = .ok (.ireturn, 1) := by decide +kernel
theorem dX8_gradeAt_10 : decode cX8_gradeAt 10 = .ok (.iload_n 2, 1) := by decide +kernel
theorem dX8_gradeAt_11 : decode cX8_gradeAt 11 = .ok (.ifCond .ne 14, 3) := by decide +kernel
theorem dX8_gradeAt_14 : decode cX8_gradeAt 14 = .ok (.aload_n 0, 1) := by decide +kernel
theorem dX8_gradeAt_15 : decode cX8_gradeAt 15 = .ok (.getfield 7, 3) := by decide +kernel
theorem dX8_gradeAt_18 : decode cX8_gradeAt 18 = .ok (.iconst 0, 1) := by decide +kernel
theorem dX8_gradeAt_19 : decode cX8_gradeAt 19 = .ok (.iload_n 1, 1) := by decide +kernel
theorem dX8_gradeAt_20 : decode cX8_gradeAt 20 = .ok (.iadd, 1) := by decide +kernel
theorem dX8_gradeAt_21 : decode cX8_gradeAt 21 = .ok (.iaload, 1) := by decide +kernel
theorem dX8_gradeAt_22 : decode cX8_gradeAt 22 = .ok (.goto 34, 3) := by decide +kernel
theorem dX8_gradeAt_25 : decode cX8_gradeAt 25 = .ok (.iload_n 2, 1) := by decide +kernel
theorem dX8_gradeAt_26 : decode cX8_gradeAt 26 = .ok (.iconst 1, 1) := by decide +kernel
theorem dX8_gradeAt_27 : decode cX8_gradeAt 27 = .ok (.if_icmp .ne 14, 3) := by decide +kernel
theorem dX8_gradeAt_30 : decode cX8_gradeAt 30 = .ok (.aload_n 0, 1) := by decide +kernel
theorem dX8_gradeAt_31 : decode cX8_gradeAt 31 = .ok (.getfield 7, 3) := by decide +kernel
theorem dX8_gradeAt_34 : decode cX8_gradeAt 34 = .ok (.iconst 4, 1) := by decide +kernel
theorem dX8_gradeAt_35 : decode cX8_gradeAt 35 = .ok (.iload_n 1, 1) := by decide +kernel
theorem dX8_gradeAt_36 : decode cX8_gradeAt 36 = .ok (.iadd, 1) := by decide +kernel
theorem dX8_gradeAt_37 : decode cX8_gradeAt 37 = .ok (.iaload, 1) := by decide +kernel
theorem dX8_gradeAt_38 : decode cX8_gradeAt 38 = .ok (.goto 18, 3) := by decide +kernel
theorem dX8_gradeAt_41 : decode cX8_gradeAt 41 = .ok (.iload_n 2, 1) := by decide +kernel
theorem dX8_gradeAt_42 : decode cX8_gradeAt 42 = .ok (.iconst 2, 1) := by decide +kernel
theorem dX8_gradeAt_43 : decode cX8_gradeAt 43 = .ok (.if_icmp .ne 11, 3) := by decide +kernel
theorem dX8_gradeAt_46 : decode cX8_gradeAt 46 = .ok (.aload_n 0, 1) := by decide +kernel
theorem dX8_gradeAt_47 : decode cX8_gradeAt 47 = .ok (.iload_n 1, 1) := by decide +kernel
theorem dX8_gradeAt_48 : decode cX8_gradeAt 48 = .ok (.invokevirtual 145, 3) := by decide +kernel
theorem dX8_gradeAt_51 : decode cX8_gradeAt 51 = .ok (.goto 5, 3) := by decide +kernel
theorem dX8_gradeAt_54 : decode cX8_gradeAt 54 = .ok (.ldc 118, 2) := by decide +kernel
theorem dX8_gradeAt_56 : decode cX8_gradeAt 56 = .ok (.ireturn, 1) := by decide +kernel
theorem dX8_sort_0 : decode cX8_sort 0 = .ok (.iload_n 1, 1) := by decide +kernel
theorem dX8_sort_1 : decode cX8_sort 1 = .ok (.i2l, 1) := by decide +kernel
theorem dX8_sort_2 : decode cX8_sort 2 = .ok (.lconst 0, 1) := by decide +kernel
theorem dX8_sort_3 : decode cX8_sort 3 = .ok (.aload_n 0, 1) := by decide +kernel
theorem dX8_sort_4 : decode cX8_sort 4 = .ok (.getfield 7, 3) := by decide +kernel
theorem dX8_sort_7 : decode cX8_sort 7 = .ok (.bipush 82, 2) := by decide +kernel
theorem dX8_sort_9 : decode cX8_sort 9 = .ok (.iaload, 1) := by decide +kernel
theorem dX8_sort_10 : decode cX8_sort 10 = .ok (.iconst 1, 1) := by decide +kernel
theorem dX8_sort_11 : decode cX8_sort 11 = .ok (.isub, 1) := by decide +kernel
theorem dX8_sort_12 : decode cX8_sort 12 = .ok (.i2l, 1) := by decide +kernel
theorem dX8_sort_13 : decode cX8_sort 13 = .ok (.invokestatic 50, 3) := by decide +kernel
theorem dX8_sort_16 : decode cX8_sort 16 = .ok (.ifCond .ne 6, 3) := by decide +kernel
theorem dX8_sort_19 : decode cX8_sort 19 = .ok (.ldc 128, 2) := by decide +kernel
theorem dX8_sort_21 : decode cX8_sort 21 = .ok (.ireturn, 1) := by decide +kernel
theorem dX8_sort_22 : decode cX8_sort 22 = .ok (.iload_n 2, 1) := by decide +kernel
theorem dX8_sort_23 : decode cX8_sort 23 = .ok (.i2l, 1) := by decide +kernel
theorem dX8_sort_24 : decode cX8_sort 24 = .ok (.lconst 0, 1) := by decide +kernel
theorem dX8_sort_25 : decode cX8_sort 25 = .ok (.ldc2_w 48, 3) := by decide +kernel
theorem dX8_sort_28 : decode cX8_sort 28 = .ok (.invokestatic 50, 3) := by decide +kernel
theorem dX8_sort_31 : decode cX8_sort 31 = .ok (.ifCond .eq 20, 3) := by decide +kernel
theorem dX8_sort_34 : decode cX8_sort 34 = .ok (.aload_n 0, 1) := by decide +kernel
theorem dX8_sort_35 : decode cX8_sort 35 = .ok (.getfield 7, 3) := by decide +kernel
theorem dX8_sort_38 : decode cX8_sort 38 = .ok (.bipush 83, 2) := by decide +kernel
theorem dX8_sort_40 : decode cX8_sort 40 = .ok (.bipush 48, 2) := by decide +kernel
theorem dX8_sort_42 : decode cX8_sort 42 = .ok (.iload_n 2, 1) := by decide +kernel
theorem dX8_sort_43 : decode cX8_sort 43 = .ok (.imul, 1) := by decide +kernel
theorem dX8_sort_44 : decode cX8_sort 44 = .ok (.iadd, 1) := by decide +kernel
theorem dX8_sort_45 : decode cX8_sort 45 = .ok (.iload_n 1, 1) := by decide +kernel
theorem dX8_sort_46 : decode cX8_sort 46 = .ok (.iadd, 1) := by decide +kernel
theorem dX8_sort_47 : decode cX8_sort 47 = .ok (.iaload, 1) := by decide +kernel
theorem dX8_sort_48 : decode cX8_sort 48 = .ok (.goto 5, 3) := by decide +kernel
theorem dX8_sort_51 : decode cX8_sort 51 = .ok (.ldc 118, 2) := by decide +kernel
theorem dX8_sort_53 : decode cX8_sort 53 = .ok (.ireturn, 1) := by decide +kernel
theorem dX8_find_0 : decode cX8_find 0 = .ok (.iload_n 1, 1) := by decide +kernel
theorem dX8_find_1 : decode cX8_find 1 = .ok (.i2l, 1) := by decide +kernel
theorem dX8_find_2 : decode cX8_find 2 = .ok (.lconst 0, 1) := by decide +kernel
theorem dX8_find_3 : decode cX8_find 3 = .ok (.ldc2_w 148, 3) := by decide +kernel
theorem dX8_find_6 : decode cX8_find 6 = .ok (.invokestatic 50, 3) := by decide +kernel
theorem dX8_find_9 : decode cX8_find 9 = .ok (.ifCond .eq 19, 3) := by decide +kernel
theorem dX8_find_12 : decode cX8_find 12 = .ok (.iload_n 2, 1) := by decide +kernel
theorem dX8_find_13 : decode cX8_find 13 = .ok (.invokestatic 74, 3) := by decide +kernel
theorem dX8_find_16 : decode cX8_find 16 = .ok (.ifCond .eq 12, 3) := by decide +kernel
theorem dX8_find_19 : decode cX8_find 19 = .ok (.aload_n 0, 1) := by decide +kernel
theorem dX8_find_20 : decode cX8_find 20 = .ok (.iload_n 1, 1) := by decide +kernel
theorem dX8_find_21 : decode cX8_find 21 = .ok (.iload_n 2, 1) := by decide +kernel
theorem dX8_find_22 : decode cX8_find 22 = .ok (.invokevirtual 119, 3) := by decide +kernel
theorem dX8_find_25 : decode cX8_find 25 = .ok (.goto 5, 3) := by decide +kernel
theorem dX8_find_28 : decode cX8_find 28 = .ok (.ldc 118, 2) := by decide +kernel
theorem dX8_find_30 : decode cX8_find 30 = .ok (.ireturn, 1) := by decide +kernel
theorem dX8_remember_0 : decode cX8_remember 0 = .ok (.aload_n 0, 1) := by decide +kernel
theorem dX8_remember_1 : decode cX8_remember 1 = .ok (.getfield 115, 3) := by decide +kernel
theorem dX8_remember_4 : decode cX8_remember 4 = .ok (.bipush 16, 2) := by decide +kernel
theorem dX8_remember_6 : decode cX8_remember 6 = .ok (.if_icmp .ne 52, 3) := by decide +kernel
theorem dX8_remember_9 : decode cX8_remember 9 = .ok (.iconst 0, 1) := by decide +kernel
theorem dX8_remember_10 : decode cX8_remember 10 = .ok (.istore_n 1, 1) := by decide +kernel
theorem dX8_remember_11 : decode cX8_remember 11 = .ok (.iload_n 1, 1) := by decide +kernel
theorem dX8_remember_12 : decode cX8_remember 12 = .ok (.sipush 4125, 3) := by decide +kernel
theorem dX8_remember_15 : decode cX8_remember 15 = .ok (.if_icmp .ge 33, 3) := by decide +kernel
theorem dX8_remember_18 : decode cX8_remember 18 = .ok (.aload_n 0, 1) := by decide +kernel
theorem dX8_remember_19 : decode cX8_remember 19 = .ok (.getfield 7, 3) := by decide +kernel
theorem dX8_remember_22 : decode cX8_remember 22 = .ok (.sipush 825, 3) := by decide +kernel
theorem dX8_remember_25 : decode cX8_remember 25 = .ok (.iload_n 1, 1) := by decide +kernel
theorem dX8_remember_26 : decode cX8_remember 26 = .ok (.iadd, 1) := by decide +kernel
theorem dX8_remember_27 : decode cX8_remember 27 = .ok (.aload_n 0, 1) := by decide +kernel
theorem dX8_remember_28 : decode cX8_remember 28 = .ok (.getfield 7, 3) := by decide +kernel
theorem dX8_remember_31 : decode cX8_remember 31 = .ok (.sipush 825, 3) := by decide +kernel
theorem dX8_remember_34 : decode cX8_remember 34 = .ok (.iload_n 1, 1) := by decide +kernel
theorem dX8_remember_35 : decode cX8_remember 35 = .ok (.iadd, 1) := by decide +kernel
theorem dX8_remember_36 : decode cX8_remember 36 = .ok (.sipush 275, 3) := by decide +kernel
theorem dX8_remember_39 : decode cX8_remember 39 = .ok (.iadd, 1) := by decide +kernel
theorem dX8_remember_40 : decode cX8_remember 40 = .ok (.iaload, 1) := by decide +kernel
theorem dX8_remember_41 : decode cX8_remember 41 = .ok (.iastore, 1) := by decide +kernel
theorem dX8_remember_42 : decode cX8_remember 42 = .ok (.iinc 1 1, 3) := by decide +kernel
theorem dX8_remember_45 : decode cX8_remember 45 = .ok (.goto (-34), 3) := by decide +kernel
theorem dX8_remember_48 : decode cX8_remember 48 = .ok (.aload_n 0, 1) := by decide +kernel
theorem dX8_remember_49 : decode cX8_remember 49 = .ok (.dup, 1) := by decide +kernel
theorem dX8_remember_50 : decode cX8_remember 50 = .ok (.getfield 115, 3) := by decide +kernel
theorem dX8_remember_53 : decode cX8_remember 53 = .ok (.iconst 1, 1) := by decide +kernel
theorem dX8_remember_54 : decode cX8_remember 54 = .ok (.isub, 1) := by decide +kernel
theorem dX8_remember_55 : decode cX8_remember 55 = .ok (.putfield 115, 3) := by decide +kernel
theorem dX8_remember_58 : decode cX8_remember 58 = .ok (.aload_n 0, 1) := by decide +kernel
theorem dX8_remember_59 : decode cX8_remember 59 = .ok (.iconst 0, 1) := by decide +kernel
theorem dX8_remember_60 : decode cX8_remember 60 = .ok (.sipush 825, 3) := by decide +kernel
theorem dX8_remember_63 : decode cX8_remember 63 = .ok (.sipush 275, 3) := by decide +kernel
theorem dX8_remember_66 : decode cX8_remember 66 = .ok (.aload_n 0, 1) := by decide +kernel
theorem dX8_remember_67 : decode cX8_remember 67 = .ok (.getfield 115, 3) := by decide +kernel
theorem dX8_remember_70 : decode cX8_remember 70 = .ok (.imul, 1) := by decide +kernel
theorem dX8_remember_71 : decode cX8_remember 71 = .ok (.iadd, 1) := by decide +kernel
theorem dX8_remember_72 : decode cX8_remember 72 = .ok (.invokevirtual 150, 3) := by decide +kernel
theorem dX8_remember_75 : decode cX8_remember 75 = .ok (.aload_n 0, 1) := by decide +kernel
theorem dX8_remember_76 : decode cX8_remember 76 = .ok (.dup, 1) := by decide +kernel
theorem dX8_remember_77 : decode cX8_remember 77 = .ok (.getfield 115, 3) := by decide +kernel
theorem dX8_remember_80 : decode cX8_remember 80 = .ok (.iconst 1, 1) := by decide +kernel
theorem dX8_remember_81 : decode cX8_remember 81 = .ok (.iadd, 1) := by decide +kernel
theorem dX8_remember_82 : decode cX8_remember 82 = .ok (.putfield 115, 3) := by decide +kernel
theorem dX8_remember_85 : decode cX8_remember 85 = .ok (.return_, 1) := by decide +kernel
theorem dX8_isRoomFor_0 : decode cX8_isRoomFor 0 = .ok (.iload_n 1, 1) := by decide +kernel
theorem dX8_isRoomFor_1 : decode cX8_isRoomFor 1 = .ok (.iconst 4, 1) := by decide +kernel
theorem dX8_isRoomFor_2 : decode cX8_isRoomFor 2 = .ok (.if_icmp .ne 13, 3) := by decide +kernel
theorem dX8_isRoomFor_5 : decode cX8_isRoomFor 5 = .ok (.aload_n 0, 1) := by decide +kernel
theorem dX8_isRoomFor_6 : decode cX8_isRoomFor 6 = .ok (.getfield 7, 3) := by decide +kernel
theorem dX8_isRoomFor_9 : decode cX8_isRoomFor 9 = .ok (.bipush 57, 2) := by decide +kernel
theorem dX8_isRoomFor_11 : decode cX8_isRoomFor 11 = .ok (.iaload, 1) := by decide +kernel
theorem dX8_isRoomFor_12 : decode cX8_isRoomFor 12 = .ok (.goto 10, 3) := by decide +kernel
theorem dX8_isRoomFor_15 : decode cX8_isRoomFor 15 = .ok (.aload_n 0, 1) := by decide +kernel
theorem dX8_isRoomFor_16 : decode cX8_isRoomFor 16 = .ok (.getfield 7, 3) := by decide +kernel
theorem dX8_isRoomFor_19 : decode cX8_isRoomFor 19 = .ok (.bipush 8, 2) := by decide +kernel
theorem dX8_isRoomFor_21 : decode cX8_isRoomFor 21 = .ok (.iaload, 1) := by decide +kernel
theorem dX8_isRoomFor_22 : decode cX8_isRoomFor 22 = .ok (.bipush 24, 2) := by decide +kernel
theorem dX8_isRoomFor_24 : decode cX8_isRoomFor 24 = .ok (.if_icmp .ge 29, 3) := by decide +kernel
theorem dX8_isRoomFor_27 : decode cX8_isRoomFor 27 = .ok (.aload_n 0, 1) := by decide +kernel
theorem dX8_isRoomFor_28 : decode cX8_isRoomFor 28 = .ok (.getfield 7, 3) := by decide +kernel
theorem dX8_isRoomFor_31 : decode cX8_isRoomFor 31 = .ok (.bipush 82, 2) := by decide +kernel
theorem dX8_isRoomFor_33 : decode cX8_isRoomFor 33 = .ok (.iaload, 1) := by decide +kernel
theorem dX8_isRoomFor_34 : decode cX8_isRoomFor 34 = .ok (.bipush 48, 2) := by decide +kernel
theorem dX8_isRoomFor_36 : decode cX8_isRoomFor 36 = .ok (.if_icmp .lt 13, 3) := by decide +kernel
theorem dX8_isRoomFor_39 : decode cX8_isRoomFor 39 = .ok (.aload_n 0, 1) := by decide +kernel
theorem dX8_isRoomFor_40 : decode cX8_isRoomFor 40 = .ok (.iload_n 1, 1) := by decide +kernel
theorem dX8_isRoomFor_41 : decode cX8_isRoomFor 41 = .ok (.iload_n 2, 1) := by decide +kernel
theorem dX8_isRoomFor_42 : decode cX8_isRoomFor 42 = .ok (.invokevirtual 119, 3) := by decide +kernel
theorem dX8_isRoomFor_45 : decode cX8_isRoomFor 45 = .ok (.iconst (-1), 1) := by decide +kernel
theorem dX8_isRoomFor_46 : decode cX8_isRoomFor 46 = .ok (.if_icmp .eq 7, 3) := by decide +kernel
theorem dX8_isRoomFor_49 : decode cX8_isRoomFor 49 = .ok (.iconst 1, 1) := by decide +kernel
theorem dX8_isRoomFor_50 : decode cX8_isRoomFor 50 = .ok (.goto 4, 3) := by decide +kernel
theorem dX8_isRoomFor_53 : decode cX8_isRoomFor 53 = .ok (.iconst 0, 1) := by decide +kernel
theorem dX8_isRoomFor_54 : decode cX8_isRoomFor 54 = .ok (.ireturn, 1) := by decide +kernel
theorem dX8_comesSort_0 : decode cX8_comesSort 0 = .ok (.aload_n 0, 1) := by decide +kernel
theorem dX8_comesSort_1 : decode cX8_comesSort 1 = .ok (.iload_n 1, 1) := by decide +kernel
theorem dX8_comesSort_2 : decode cX8_comesSort 2 = .ok (.iload_n 2, 1) := by decide +kernel
theorem dX8_comesSort_3 : decode cX8_comesSort 3 = .ok (.invokevirtual 119, 3) := by decide +kernel
theorem dX8_comesSort_6 : decode cX8_comesSort 6 = .ok (.istore_n 3, 1) := by decide +kernel
theorem dX8_comesSort_7 : decode cX8_comesSort 7 = .ok (.iload_n 3, 1) := by decide +kernel
theorem dX8_comesSort_8 : decode cX8_comesSort 8 = .ok (.iconst (-1), 1) := by decide +kernel
theorem dX8_comesSort_9 : decode cX8_comesSort 9 = .ok (.if_icmp .ne 65, 3) := by decide +kernel
theorem dX8_comesSort_12 : decode cX8_comesSort 12 = .ok (.aload_n 0, 1) := by decide +kernel
theorem dX8_comesSort_13 : decode cX8_comesSort 13 = .ok (.getfield 7, 3) := by decide +kernel
theorem dX8_comesSort_16 : decode cX8_comesSort 16 = .ok (.bipush 82, 2) := by decide +kernel
theorem dX8_comesSort_18 : decode cX8_comesSort 18 = .ok (.iaload, 1) := by decide +kernel
theorem dX8_comesSort_19 : decode cX8_comesSort 19 = .ok (.istore_n 3, 1) := by decide +kernel
theorem dX8_comesSort_20 : decode cX8_comesSort 20 = .ok (.aload_n 0, 1) := by decide +kernel
theorem dX8_comesSort_21 : decode cX8_comesSort 21 = .ok (.getfield 7, 3) := by decide +kernel
theorem dX8_comesSort_24 : decode cX8_comesSort 24 = .ok (.bipush 83, 2) := by decide +kernel
theorem dX8_comesSort_26 : decode cX8_comesSort 26 = .ok (.iload_n 3, 1) := by decide +kernel
theorem dX8_comesSort_27 : decode cX8_comesSort 27 = .ok (.iadd, 1) := by decide +kernel
theorem dX8_comesSort_28 : decode cX8_comesSort 28 = .ok (.iload_n 1, 1) := by decide +kernel
theorem dX8_comesSort_29 : decode cX8_comesSort 29 = .ok (.iastore, 1) := by decide +kernel
theorem dX8_comesSort_30 : decode cX8_comesSort 30 = .ok (.aload_n 0, 1) := by decide +kernel
theorem dX8_comesSort_31 : decode cX8_comesSort 31 = .ok (.getfield 7, 3) := by decide +kernel
theorem dX8_comesSort_34 : decode cX8_comesSort 34 = .ok (.sipush 131, 3) := by decide +kernel
theorem dX8_comesSort_37 : decode cX8_comesSort 37 = .ok (.iload_n 3, 1) := by decide +kernel
theorem dX8_comesSort_38 : decode cX8_comesSort 38 = .ok (.iadd, 1) := by decide +kernel
theorem dX8_comesSort_39 : decode cX8_comesSort 39 = .ok (.iload_n 2, 1) := by decide +kernel
theorem dX8_comesSort_40 : decode cX8_comesSort 40 = .ok (.iastore, 1) := by decide +kernel
theorem dX8_comesSort_41 : decode cX8_comesSort 41 = .ok (.aload_n 0, 1) := by decide +kernel
theorem dX8_comesSort_42 : decode cX8_comesSort 42 = .ok (.getfield 7, 3) := by decide +kernel
theorem dX8_comesSort_45 : decode cX8_comesSort 45 = .ok (.sipush 179, 3) := by decide +kernel
theorem dX8_comesSort_48 : decode cX8_comesSort 48 = .ok (.iload_n 3, 1) := by decide +kernel
theorem dX8_comesSort_49 : decode cX8_comesSort 49 = .ok (.iadd, 1) := by decide +kernel
theorem dX8_comesSort_50 : decode cX8_comesSort 50 = .ok (.iconst 0, 1) := by decide +kernel
theorem dX8_comesSort_51 : decode cX8_comesSort 51 = .ok (.iastore, 1) := by decide +kernel
theorem dX8_comesSort_52 : decode cX8_comesSort 52 = .ok (.aload_n 0, 1) := by decide +kernel
theorem dX8_comesSort_53 : decode cX8_comesSort 53 = .ok (.getfield 7, 3) := by decide +kernel
theorem dX8_comesSort_56 : decode cX8_comesSort 56 = .ok (.sipush 227, 3) := by decide +kernel
theorem dX8_comesSort_59 : decode cX8_comesSort 59 = .ok (.iload_n 3, 1) := by decide +kernel
theorem dX8_comesSort_60 : decode cX8_comesSort 60 = .ok (.iadd, 1) := by decide +kernel
theorem dX8_comesSort_61 : decode cX8_comesSort 61 = .ok (.iconst 0, 1) := by decide +kernel
theorem dX8_comesSort_62 : decode cX8_comesSort 62 = .ok (.iastore, 1) := by decide +kernel
theorem dX8_comesSort_63 : decode cX8_comesSort 63 = .ok (.aload_n 0, 1) := by decide +kernel
theorem dX8_comesSort_64 : decode cX8_comesSort 64 = .ok (.getfield 7, 3) := by decide +kernel
theorem dX8_comesSort_67 : decode cX8_comesSort 67 = .ok (.bipush 82, 2) := by decide +kernel
theorem dX8_comesSort_69 : decode cX8_comesSort 69 = .ok (.dup2, 1) := by decide +kernel
theorem dX8_comesSort_70 : decode cX8_comesSort 70 = .ok (.iaload, 1) := by decide +kernel
theorem dX8_comesSort_71 : decode cX8_comesSort 71 = .ok (.iconst 1, 1) := by decide +kernel
theorem dX8_comesSort_72 : decode cX8_comesSort 72 = .ok (.iadd, 1) := by decide +kernel
theorem dX8_comesSort_73 : decode cX8_comesSort 73 = .ok (.iastore, 1) := by decide +kernel
theorem dX8_comesSort_74 : decode cX8_comesSort 74 = .ok (.aload_n 0, 1) := by decide +kernel
theorem dX8_comesSort_75 : decode cX8_comesSort 75 = .ok (.getfield 7, 3) := by decide +kernel
theorem dX8_comesSort_78 : decode cX8_comesSort 78 = .ok (.sipush 179, 3) := by decide +kernel
theorem dX8_comesSort_81 : decode cX8_comesSort 81 = .ok (.iload_n 3, 1) := by decide +kernel
theorem dX8_comesSort_82 : decode cX8_comesSort 82 = .ok (.iadd, 1) := by decide +kernel
theorem dX8_comesSort_83 : decode cX8_comesSort 83 = .ok (.dup2, 1) := by decide +kernel
theorem dX8_comesSort_84 : decode cX8_comesSort 84 = .ok (.iaload, 1) := by decide +kernel
theorem dX8_comesSort_85 : decode cX8_comesSort 85 = .ok (.iconst 1, 1) := by decide +kernel
theorem dX8_comesSort_86 : decode cX8_comesSort 86 = .ok (.iadd, 1) := by decide +kernel
theorem dX8_comesSort_87 : decode cX8_comesSort 87 = .ok (.iastore, 1) := by decide +kernel
theorem dX8_comesSort_88 : decode cX8_comesSort 88 = .ok (.aload_n 0, 1) := by decide +kernel
theorem dX8_comesSort_89 : decode cX8_comesSort 89 = .ok (.getfield 7, 3) := by decide +kernel
theorem dX8_comesSort_92 : decode cX8_comesSort 92 = .ok (.sipush 227, 3) := by decide +kernel
theorem dX8_comesSort_95 : decode cX8_comesSort 95 = .ok (.iload_n 3, 1) := by decide +kernel
theorem dX8_comesSort_96 : decode cX8_comesSort 96 = .ok (.iadd, 1) := by decide +kernel
theorem dX8_comesSort_97 : decode cX8_comesSort 97 = .ok (.dup2, 1) := by decide +kernel
theorem dX8_comesSort_98 : decode cX8_comesSort 98 = .ok (.iaload, 1) := by decide +kernel
theorem dX8_comesSort_99 : decode cX8_comesSort 99 = .ok (.iconst 1, 1) := by decide +kernel
theorem dX8_comesSort_100 : decode cX8_comesSort 100 = .ok (.iadd, 1) := by decide +kernel
theorem dX8_comesSort_101 : decode cX8_comesSort 101 = .ok (.iastore, 1) := by decide +kernel
theorem dX8_comesSort_102 : decode cX8_comesSort 102 = .ok (.return_, 1) := by decide +kernel
theorem dX8_comes_0 : decode cX8_comes 0 = .ok (.iload_n 1, 1) := by decide +kernel
theorem dX8_comes_1 : decode cX8_comes 1 = .ok (.iconst 4, 1) := by decide +kernel
theorem dX8_comes_2 : decode cX8_comes 2 = .ok (.if_icmp .ne 33, 3) := by decide +kernel
theorem dX8_comes_5 : decode cX8_comes 5 = .ok (.aload_n 0, 1) := by decide +kernel
theorem dX8_comes_6 : decode cX8_comes 6 = .ok (.getfield 7, 3) := by decide +kernel
theorem dX8_comes_9 : decode cX8_comes 9 = .ok (.bipush 58, 2) := by decide +kernel
theorem dX8_comes_11 : decode cX8_comes 11 = .ok (.aload_n 0, 1) := by decide +kernel
theorem dX8_comes_12 : decode cX8_comes 12 = .ok (.getfield 7, 3) := by decide +kernel
theorem dX8_comes_15 : decode cX8_comes 15 = .ok (.bipush 57, 2) := by decide +kernel
theorem dX8_comes_17 : decode cX8_comes 17 = .ok (.iaload, 1) := by decide +kernel
