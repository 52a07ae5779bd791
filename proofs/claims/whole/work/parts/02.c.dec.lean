theorem dX7_told_226 : decode cX7_told 226 = .ok (.aload_n 0, 1) := by decide +kernel
theorem dX7_told_227 : decode cX7_told 227 = .ok (.getfield 47, 3) := by decide +kernel
theorem dX7_told_230 : decode cX7_told 230 = .ok (.aload_n 0, 1) := by decide +kernel
theorem dX7_told_231 : decode cX7_told 231 = .ok (.getfield 10, 3) := by decide +kernel
theorem dX7_told_234 : decode cX7_told 234 = .ok (.invokevirtual 94, 3) := by decide +kernel
theorem dX7_told_237 : decode cX7_told 237 = .ok (.aload_n 0, 1) := by decide +kernel
theorem dX7_told_238 : decode cX7_told 238 = .ok (.getfield 47, 3) := by decide +kernel
theorem dX7_told_241 : decode cX7_told 241 = .ok (.invokevirtual 100, 3) := by decide +kernel
theorem dX7_told_244 : decode cX7_told 244 = .ok (.ireturn, 1) := by decide +kernel
theorem dX7_told_245 : decode cX7_told 245 = .ok (.aload_n 0, 1) := by decide +kernel
theorem dX7_told_246 : decode cX7_told 246 = .ok (.getfield 47, 3) := by decide +kernel
theorem dX7_told_249 : decode cX7_told 249 = .ok (.aload_n 0, 1) := by decide +kernel
theorem dX7_told_250 : decode cX7_told 250 = .ok (.getfield 10, 3) := by decide +kernel
theorem dX7_told_253 : decode cX7_told 253 = .ok (.invokevirtual 94, 3) := by decide +kernel
theorem dX7_told_256 : decode cX7_told 256 = .ok (.aload_n 0, 1) := by decide +kernel
theorem dX7_told_257 : decode cX7_told 257 = .ok (.getfield 47, 3) := by decide +kernel
theorem dX7_told_260 : decode cX7_told 260 = .ok (.invokevirtual 103, 3) := by decide +kernel
theorem dX7_told_263 : decode cX7_told 263 = .ok (.ireturn, 1) := by decide +kernel
theorem dX7_told_264 : decode cX7_told 264 = .ok (.aload_n 0, 1) := by decide +kernel
theorem dX7_told_265 : decode cX7_told 265 = .ok (.getfield 47, 3) := by decide +kernel
theorem dX7_told_268 : decode cX7_told 268 = .ok (.aload_n 0, 1) := by decide +kernel
theorem dX7_told_269 : decode cX7_told 269 = .ok (.getfield 10, 3) := by decide +kernel
theorem dX7_told_272 : decode cX7_told 272 = .ok (.invokevirtual 94, 3) := by decide +kernel
theorem dX7_told_275 : decode cX7_told 275 = .ok (.aload_n 0, 1) := by decide +kernel
theorem dX7_told_276 : decode cX7_told 276 = .ok (.getfield 47, 3) := by decide +kernel
theorem dX7_told_279 : decode cX7_told 279 = .ok (.aload_n 0, 1) := by decide +kernel
theorem dX7_told_280 : decode cX7_told 280 = .ok (.getfield 10, 3) := by decide +kernel
theorem dX7_told_283 : decode cX7_told 283 = .ok (.invokevirtual 106, 3) := by decide +kernel
theorem dX7_told_286 : decode cX7_told 286 = .ok (.ireturn, 1) := by decide +kernel
theorem dX7_told_287 : decode cX7_told 287 = .ok (.aload_n 0, 1) := by decide +kernel
theorem dX7_told_288 : decode cX7_told 288 = .ok (.getfield 19, 3) := by decide +kernel
theorem dX7_told_291 : decode cX7_told 291 = .ok (.getfield 110, 3) := by decide +kernel
theorem dX7_told_294 : decode cX7_told 294 = .ok (.ireturn, 1) := by decide +kernel
theorem dX7_told_295 : decode cX7_told 295 = .ok (.ldc 113, 2) := by decide +kernel
theorem dX7_told_297 : decode cX7_told 297 = .ok (.ireturn, 1) := by decide +kernel
theorem dX7_shaftAt_0 : decode cX7_shaftAt 0 = .ok (.iload_n 1, 1) := by decide +kernel
theorem dX7_shaftAt_1 : decode cX7_shaftAt 1 = .ok (.aload_n 0, 1) := by decide +kernel
theorem dX7_shaftAt_2 : decode cX7_shaftAt 2 = .ok (.getfield 10, 3) := by decide +kernel
theorem dX7_shaftAt_5 : decode cX7_shaftAt 5 = .ok (.getfield 62, 3) := by decide +kernel
theorem dX7_shaftAt_8 : decode cX7_shaftAt 8 = .ok (.invokestatic 114, 3) := by decide +kernel
theorem dX7_shaftAt_11 : decode cX7_shaftAt 11 = .ok (.ifCond .ne 6, 3) := by decide +kernel
theorem dX7_shaftAt_14 : decode cX7_shaftAt 14 = .ok (.ldc 118, 2) := by decide +kernel
theorem dX7_shaftAt_16 : decode cX7_shaftAt 16 = .ok (.ireturn, 1) := by decide +kernel
theorem dX7_shaftAt_17 : decode cX7_shaftAt 17 = .ok (.iload_n 2, 1) := by decide +kernel
theorem dX7_shaftAt_18 : decode cX7_shaftAt 18 = .ok (.tableswitch 130 0 5 #[38, 51, 64, 79, 96, 113], 38) := by decide +kernel
theorem dX7_shaftAt_56 : decode cX7_shaftAt 56 = .ok (.aload_n 0, 1) := by decide +kernel
theorem dX7_shaftAt_57 : decode cX7_shaftAt 57 = .ok (.getfield 10, 3) := by decide +kernel
theorem dX7_shaftAt_60 : decode cX7_shaftAt 60 = .ok (.getfield 119, 3) := by decide +kernel
theorem dX7_shaftAt_63 : decode cX7_shaftAt 63 = .ok (.iload_n 1, 1) := by decide +kernel
theorem dX7_shaftAt_64 : decode cX7_shaftAt 64 = .ok (.iaload, 1) := by decide +kernel
theorem dX7_shaftAt_65 : decode cX7_shaftAt 65 = .ok (.invokestatic 123, 3) := by decide +kernel
theorem dX7_shaftAt_68 : decode cX7_shaftAt 68 = .ok (.ireturn, 1) := by decide +kernel
theorem dX7_shaftAt_69 : decode cX7_shaftAt 69 = .ok (.aload_n 0, 1) := by decide +kernel
theorem dX7_shaftAt_70 : decode cX7_shaftAt 70 = .ok (.getfield 10, 3) := by decide +kernel
theorem dX7_shaftAt_73 : decode cX7_shaftAt 73 = .ok (.getfield 119, 3) := by decide +kernel
theorem dX7_shaftAt_76 : decode cX7_shaftAt 76 = .ok (.iload_n 1, 1) := by decide +kernel
theorem dX7_shaftAt_77 : decode cX7_shaftAt 77 = .ok (.iaload, 1) := by decide +kernel
theorem dX7_shaftAt_78 : decode cX7_shaftAt 78 = .ok (.invokestatic 127, 3) := by decide +kernel
theorem dX7_shaftAt_81 : decode cX7_shaftAt 81 = .ok (.ireturn, 1) := by decide +kernel
theorem dX7_shaftAt_82 : decode cX7_shaftAt 82 = .ok (.aload_n 0, 1) := by decide +kernel
theorem dX7_shaftAt_83 : decode cX7_shaftAt 83 = .ok (.invokevirtual 71, 3) := by decide +kernel
theorem dX7_shaftAt_86 : decode cX7_shaftAt 86 = .ok (.pop, 1) := by decide +kernel
theorem dX7_shaftAt_87 : decode cX7_shaftAt 87 = .ok (.aload_n 0, 1) := by decide +kernel
theorem dX7_shaftAt_88 : decode cX7_shaftAt 88 = .ok (.getfield 26, 3) := by decide +kernel
theorem dX7_shaftAt_91 : decode cX7_shaftAt 91 = .ok (.getfield 130, 3) := by decide +kernel
theorem dX7_shaftAt_94 : decode cX7_shaftAt 94 = .ok (.iload_n 1, 1) := by decide +kernel
theorem dX7_shaftAt_95 : decode cX7_shaftAt 95 = .ok (.iaload, 1) := by decide +kernel
theorem dX7_shaftAt_96 : decode cX7_shaftAt 96 = .ok (.ireturn, 1) := by decide +kernel
theorem dX7_shaftAt_97 : decode cX7_shaftAt 97 = .ok (.aload_n 0, 1) := by decide +kernel
theorem dX7_shaftAt_98 : decode cX7_shaftAt 98 = .ok (.getfield 10, 3) := by decide +kernel
theorem dX7_shaftAt_101 : decode cX7_shaftAt 101 = .ok (.aload_n 0, 1) := by decide +kernel
theorem dX7_shaftAt_102 : decode cX7_shaftAt 102 = .ok (.getfield 10, 3) := by decide +kernel
theorem dX7_shaftAt_105 : decode cX7_shaftAt 105 = .ok (.getfield 119, 3) := by decide +kernel
theorem dX7_shaftAt_108 : decode cX7_shaftAt 108 = .ok (.iload_n 1, 1) := by decide +kernel
theorem dX7_shaftAt_109 : decode cX7_shaftAt 109 = .ok (.iaload, 1) := by decide +kernel
theorem dX7_shaftAt_110 : decode cX7_shaftAt 110 = .ok (.invokevirtual 133, 3) := by decide +kernel
theorem dX7_shaftAt_113 : decode cX7_shaftAt 113 = .ok (.ireturn, 1) := by decide +kernel
theorem dX7_shaftAt_114 : decode cX7_shaftAt 114 = .ok (.aload_n 0, 1) := by decide +kernel
theorem dX7_shaftAt_115 : decode cX7_shaftAt 115 = .ok (.getfield 10, 3) := by decide +kernel
theorem dX7_shaftAt_118 : decode cX7_shaftAt 118 = .ok (.aload_n 0, 1) := by decide +kernel
theorem dX7_shaftAt_119 : decode cX7_shaftAt 119 = .ok (.getfield 10, 3) := by decide +kernel
theorem dX7_shaftAt_122 : decode cX7_shaftAt 122 = .ok (.getfield 119, 3) := by decide +kernel
theorem dX7_shaftAt_125 : decode cX7_shaftAt 125 = .ok (.iload_n 1, 1) := by decide +kernel
theorem dX7_shaftAt_126 : decode cX7_shaftAt 126 = .ok (.iaload, 1) := by decide +kernel
theorem dX7_shaftAt_127 : decode cX7_shaftAt 127 = .ok (.invokevirtual 136, 3) := by decide +kernel
theorem dX7_shaftAt_130 : decode cX7_shaftAt 130 = .ok (.ireturn, 1) := by decide +kernel
theorem dX7_shaftAt_131 : decode cX7_shaftAt 131 = .ok (.aload_n 0, 1) := by decide +kernel
theorem dX7_shaftAt_132 : decode cX7_shaftAt 132 = .ok (.getfield 10, 3) := by decide +kernel
theorem dX7_shaftAt_135 : decode cX7_shaftAt 135 = .ok (.aload_n 0, 1) := by decide +kernel
theorem dX7_shaftAt_136 : decode cX7_shaftAt 136 = .ok (.getfield 10, 3) := by decide +kernel
theorem dX7_shaftAt_139 : decode cX7_shaftAt 139 = .ok (.getfield 119, 3) := by decide +kernel
theorem dX7_shaftAt_142 : decode cX7_shaftAt 142 = .ok (.iload_n 1, 1) := by decide +kernel
theorem dX7_shaftAt_143 : decode cX7_shaftAt 143 = .ok (.iaload, 1) := by decide +kernel
theorem dX7_shaftAt_144 : decode cX7_shaftAt 144 = .ok (.invokevirtual 139, 3) := by decide +kernel
theorem dX7_shaftAt_147 : decode cX7_shaftAt 147 = .ok (.ireturn, 1) := by decide +kernel
theorem dX7_shaftAt_148 : decode cX7_shaftAt 148 = .ok (.ldc 113, 2) := by decide +kernel
theorem dX7_shaftAt_150 : decode cX7_shaftAt 150 = .ok (.ireturn, 1) := by decide +kernel
theorem dX7_boreAt_0 : decode cX7_boreAt 0 = .ok (.iload_n 1, 1) := by decide +kernel
theorem dX7_boreAt_1 : decode cX7_boreAt 1 = .ok (.aload_n 0, 1) := by decide +kernel
theorem dX7_boreAt_2 : decode cX7_boreAt 2 = .ok (.getfield 10, 3) := by decide +kernel
theorem dX7_boreAt_5 : decode cX7_boreAt 5 = .ok (.getfield 65, 3) := by decide +kernel
theorem dX7_boreAt_8 : decode cX7_boreAt 8 = .ok (.invokestatic 114, 3) := by decide +kernel
theorem dX7_boreAt_11 : decode cX7_boreAt 11 = .ok (.ifCond .ne 6, 3) := by decide +kernel
theorem dX7_boreAt_14 : decode cX7_boreAt 14 = .ok (.ldc 118, 2) := by decide +kernel
theorem dX7_boreAt_16 : decode cX7_boreAt 16 = .ok (.ireturn, 1) := by decide +kernel
theorem dX7_boreAt_17 : decode cX7_boreAt 17 = .ok (.iload_n 2, 1) := by decide +kernel
theorem dX7_boreAt_18 : decode cX7_boreAt 18 = .ok (.tableswitch 95 0 3 #[30, 43, 58, 78], 30) := by decide +kernel
theorem dX7_boreAt_48 : decode cX7_boreAt 48 = .ok (.aload_n 0, 1) := by decide +kernel
theorem dX7_boreAt_49 : decode cX7_boreAt 49 = .ok (.getfield 10, 3) := by decide +kernel
theorem dX7_boreAt_52 : decode cX7_boreAt 52 = .ok (.getfield 142, 3) := by decide +kernel
theorem dX7_boreAt_55 : decode cX7_boreAt 55 = .ok (.iload_n 1, 1) := by decide +kernel
theorem dX7_boreAt_56 : decode cX7_boreAt 56 = .ok (.iaload, 1) := by decide +kernel
theorem dX7_boreAt_57 : decode cX7_boreAt 57 = .ok (.invokestatic 127, 3) := by decide +kernel
theorem dX7_boreAt_60 : decode cX7_boreAt 60 = .ok (.ireturn, 1) := by decide +kernel
theorem dX7_boreAt_61 : decode cX7_boreAt 61 = .ok (.aload_n 0, 1) := by decide +kernel
theorem dX7_boreAt_62 : decode cX7_boreAt 62 = .ok (.invokevirtual 71, 3) := by decide +kernel
theorem dX7_boreAt_65 : decode cX7_boreAt 65 = .ok (.pop, 1) := by decide +kernel
theorem dX7_boreAt_66 : decode cX7_boreAt 66 = .ok (.aload_n 0, 1) := by decide +kernel
theorem dX7_boreAt_67 : decode cX7_boreAt 67 = .ok (.getfield 26, 3) := by decide +kernel
theorem dX7_boreAt_70 : decode cX7_boreAt 70 = .ok (.getfield 145, 3) := by decide +kernel
theorem dX7_boreAt_73 : decode cX7_boreAt 73 = .ok (.iload_n 1, 1) := by decide +kernel
theorem dX7_boreAt_74 : decode cX7_boreAt 74 = .ok (.iaload, 1) := by decide +kernel
theorem dX7_boreAt_75 : decode cX7_boreAt 75 = .ok (.ireturn, 1) := by decide +kernel
theorem dX7_boreAt_76 : decode cX7_boreAt 76 = .ok (.aload_n 0, 1) := by decide +kernel
theorem dX7_boreAt_77 : decode cX7_boreAt 77 = .ok (.getfield 10, 3) := by decide +kernel
theorem dX7_boreAt_80 : decode cX7_boreAt 80 = .ok (.aload_n 0, 1) := by decide +kernel
theorem dX7_boreAt_81 : decode cX7_boreAt 81 = .ok (.getfield 10, 3) := by decide +kernel
theorem dX7_boreAt_84 : decode cX7_boreAt 84 = .ok (.getfield 142, 3) := by decide +kernel
theorem dX7_boreAt_87 : decode cX7_boreAt 87 = .ok (.iload_n 1, 1) := by decide +kernel
theorem dX7_boreAt_88 : decode cX7_boreAt 88 = .ok (.iaload, 1) := by decide +kernel
theorem dX7_boreAt_89 : decode cX7_boreAt 89 = .ok (.invokestatic 127, 3) := by decide +kernel
theorem dX7_boreAt_92 : decode cX7_boreAt 92 = .ok (.invokevirtual 148, 3) := by decide +kernel
theorem dX7_boreAt_95 : decode cX7_boreAt 95 = .ok (.ireturn, 1) := by decide +kernel
theorem dX7_boreAt_96 : decode cX7_boreAt 96 = .ok (.aload_n 0, 1) := by decide +kernel
theorem dX7_boreAt_97 : decode cX7_boreAt 97 = .ok (.getfield 10, 3) := by decide +kernel
theorem dX7_boreAt_100 : decode cX7_boreAt 100 = .ok (.aload_n 0, 1) := by decide +kernel
theorem dX7_boreAt_101 : decode cX7_boreAt 101 = .ok (.getfield 10, 3) := by decide +kernel
theorem dX7_boreAt_104 : decode cX7_boreAt 104 = .ok (.getfield 142, 3) := by decide +kernel
theorem dX7_boreAt_107 : decode cX7_boreAt 107 = .ok (.iload_n 1, 1) := by decide +kernel
theorem dX7_boreAt_108 : decode cX7_boreAt 108 = .ok (.iaload, 1) := by decide +kernel
theorem dX7_boreAt_109 : decode cX7_boreAt 109 = .ok (.invokevirtual 139, 3) := by decide +kernel
theorem dX7_boreAt_112 : decode cX7_boreAt 112 = .ok (.ireturn, 1) := by decide +kernel
theorem dX7_boreAt_113 : decode cX7_boreAt 113 = .ok (.ldc 113, 2) := by decide +kernel
theorem dX7_boreAt_115 : decode cX7_boreAt 115 = .ok (.ireturn, 1) := by decide +kernel
theorem dX7_gradeAt_0 : decode cX7_gradeAt 0 = .ok (.iload_n 1, 1) := by decide +kernel
theorem dX7_gradeAt_1 : decode cX7_gradeAt 1 = .ok (.iconst 4, 1) := by decide +kernel
theorem dX7_gradeAt_2 : decode cX7_gradeAt 2 = .ok (.invokestatic 114, 3) := by decide +kernel
theorem dX7_gradeAt_5 : decode cX7_gradeAt 5 = .ok (.ifCond .ne 6, 3) := by decide +kernel
theorem dX7_gradeAt_8 : decode cX7_gradeAt 8 = .ok (.ldc 118, 2) := by decide +kernel
theorem dX7_gradeAt_10 : decode cX7_gradeAt 10 = .ok (.ireturn, 1) := by decide +kernel
theorem dX7_gradeAt_11 : decode cX7_gradeAt 11 = .ok (.iload_n 2, 1) := by decide +kernel
theorem dX7_gradeAt_12 : decode cX7_gradeAt 12 = .ok (.tableswitch 57 0 2 #[28, 38, 48], 28) := by decide +kernel
theorem dX7_gradeAt_40 : decode cX7_gradeAt 40 = .ok (.aload_n 0, 1) := by decide +kernel
theorem dX7_gradeAt_41 : decode cX7_gradeAt 41 = .ok (.getfield 10, 3) := by decide +kernel
theorem dX7_gradeAt_44 : decode cX7_gradeAt 44 = .ok (.getfield 151, 3) := by decide +kernel
theorem dX7_gradeAt_47 : decode cX7_gradeAt 47 = .ok (.iload_n 1, 1) := by decide +kernel
theorem dX7_gradeAt_48 : decode cX7_gradeAt 48 = .ok (.iaload, 1) := by decide +kernel
theorem dX7_gradeAt_49 : decode cX7_gradeAt 49 = .ok (.ireturn, 1) := by decide +kernel
theorem dX7_gradeAt_50 : decode cX7_gradeAt 50 = .ok (.aload_n 0, 1) := by decide +kernel
theorem dX7_gradeAt_51 : decode cX7_gradeAt 51 = .ok (.getfield 10, 3) := by decide +kernel
theorem dX7_gradeAt_54 : decode cX7_gradeAt 54 = .ok (.getfield 154, 3) := by decide +kernel
theorem dX7_gradeAt_57 : decode cX7_gradeAt 57 = .ok (.iload_n 1, 1) := by decide +kernel
theorem dX7_gradeAt_58 : decode cX7_gradeAt 58 = .ok (.iaload, 1) := by decide +kernel
theorem dX7_gradeAt_59 : decode cX7_gradeAt 59 = .ok (.ireturn, 1) := by decide +kernel
theorem dX7_gradeAt_60 : decode cX7_gradeAt 60 = .ok (.aload_n 0, 1) := by decide +kernel
theorem dX7_gradeAt_61 : decode cX7_gradeAt 61 = .ok (.getfield 10, 3) := by decide +kernel
theorem dX7_gradeAt_64 : decode cX7_gradeAt 64 = .ok (.iload_n 1, 1) := by decide +kernel
theorem dX7_gradeAt_65 : decode cX7_gradeAt 65 = .ok (.invokevirtual 157, 3) := by decide +kernel
theorem dX7_gradeAt_68 : decode cX7_gradeAt 68 = .ok (.ireturn, 1) := by decide +kernel
theorem dX7_gradeAt_69 : decode cX7_gradeAt 69 = .ok (.ldc 113, 2) := by decide +kernel
theorem dX7_gradeAt_71 : decode cX7_gradeAt 71 = .ok (.ireturn, 1) := by decide +kernel
theorem dX7_sort_0 : decode cX7_sort 0 = .ok (.iload_n 1, 1) := by decide +kernel
theorem dX7_sort_1 : decode cX7_sort 1 = .ok (.aload_n 0, 1) := by decide +kernel
theorem dX7_sort_2 : decode cX7_sort 2 = .ok (.getfield 10, 3) := by decide +kernel
theorem dX7_sort_5 : decode cX7_sort 5 = .ok (.getfield 68, 3) := by decide +kernel
theorem dX7_sort_8 : decode cX7_sort 8 = .ok (.invokestatic 114, 3) := by decide +kernel
theorem dX7_sort_11 : decode cX7_sort 11 = .ok (.ifCond .ne 6, 3) := by decide +kernel
theorem dX7_sort_14 : decode cX7_sort 14 = .ok (.ldc 118, 2) := by decide +kernel
theorem dX7_sort_16 : decode cX7_sort 16 = .ok (.ireturn, 1) := by decide +kernel
theorem dX7_sort_17 : decode cX7_sort 17 = .ok (.iload_n 2, 1) := by decide +kernel
theorem dX7_sort_18 : decode cX7_sort 18 = .ok (.tableswitch 83 0 3 #[30, 43, 56, 73], 30) := by decide +kernel
theorem dX7_sort_48 : decode cX7_sort 48 = .ok (.aload_n 0, 1) := by decide +kernel
theorem dX7_sort_49 : decode cX7_sort 49 = .ok (.getfield 10, 3) := by decide +kernel
theorem dX7_sort_52 : decode cX7_sort 52 = .ok (.getfield 160, 3) := by decide +kernel
theorem dX7_sort_55 : decode cX7_sort 55 = .ok (.iload_n 1, 1) := by decide +kernel
theorem dX7_sort_56 : decode cX7_sort 56 = .ok (.iaload, 1) := by decide +kernel
theorem dX7_sort_57 : decode cX7_sort 57 = .ok (.invokestatic 123, 3) := by decide +kernel
theorem dX7_sort_60 : decode cX7_sort 60 = .ok (.ireturn, 1) := by decide +kernel
theorem dX7_sort_61 : decode cX7_sort 61 = .ok (.aload_n 0, 1) := by decide +kernel
theorem dX7_sort_62 : decode cX7_sort 62 = .ok (.getfield 10, 3) := by decide +kernel
theorem dX7_sort_65 : decode cX7_sort 65 = .ok (.getfield 160, 3) := by decide +kernel
theorem dX7_sort_68 : decode cX7_sort 68 = .ok (.iload_n 1, 1) := by decide +kernel
theorem dX7_sort_69 : decode cX7_sort 69 = .ok (.iaload, 1) := by decide +kernel
theorem dX7_sort_70 : decode cX7_sort 70 = .ok (.invokestatic 127, 3) := by decide +kernel
theorem dX7_sort_73 : decode cX7_sort 73 = .ok (.ireturn, 1) := by decide +kernel
theorem dX7_sort_74 : decode cX7_sort 74 = .ok (.aload_n 0, 1) := by decide +kernel
theorem dX7_sort_75 : decode cX7_sort 75 = .ok (.getfield 10, 3) := by decide +kernel
theorem dX7_sort_78 : decode cX7_sort 78 = .ok (.aload_n 0, 1) := by decide +kernel
theorem dX7_sort_79 : decode cX7_sort 79 = .ok (.getfield 10, 3) := by decide +kernel
theorem dX7_sort_82 : decode cX7_sort 82 = .ok (.getfield 160, 3) := by decide +kernel
theorem dX7_sort_85 : decode cX7_sort 85 = .ok (.iload_n 1, 1) := by decide +kernel
theorem dX7_sort_86 : decode cX7_sort 86 = .ok (.iaload, 1) := by decide +kernel
theorem dX7_sort_87 : decode cX7_sort 87 = .ok (.invokevirtual 163, 3) := by decide +kernel
theorem dX7_sort_90 : decode cX7_sort 90 = .ok (.ireturn, 1) := by decide +kernel
theorem dX7_sort_91 : decode cX7_sort 91 = .ok (.aload_n 0, 1) := by decide +kernel
theorem dX7_sort_92 : decode cX7_sort 92 = .ok (.getfield 10, 3) := by decide +kernel
theorem dX7_sort_95 : decode cX7_sort 95 = .ok (.getfield 166, 3) := by decide +kernel
theorem dX7_sort_98 : decode cX7_sort 98 = .ok (.iload_n 1, 1) := by decide +kernel
theorem dX7_sort_99 : decode cX7_sort 99 = .ok (.iaload, 1) := by decide +kernel
theorem dX7_sort_100 : decode cX7_sort 100 = .ok (.ireturn, 1) := by decide +kernel
theorem dX7_sort_101 : decode cX7_sort 101 = .ok (.ldc 113, 2) := by decide +kernel
theorem dX7_sort_103 : decode cX7_sort 103 = .ok (.ireturn, 1) := by decide +kernel
theorem dX7_find_0 : decode cX7_find 0 = .ok (.iload_n 1, 1) := by decide +kernel
theorem dX7_find_1 : decode cX7_find 1 = .ok (.iconst 5, 1) := by decide +kernel
theorem dX7_find_2 : decode cX7_find 2 = .ok (.invokestatic 114, 3) := by decide +kernel
theorem dX7_find_5 : decode cX7_find 5 = .ok (.ifCond .eq 13, 3) := by decide +kernel
theorem dX7_find_8 : decode cX7_find 8 = .ok (.iload_n 2, 1) := by decide +kernel
theorem dX7_find_9 : decode cX7_find 9 = .ok (.sipush 10000, 3) := by decide +kernel
theorem dX7_find_12 : decode cX7_find 12 = .ok (.invokestatic 114, 3) := by decide +kernel
theorem dX7_find_15 : decode cX7_find 15 = .ok (.ifCond .ne 6, 3) := by decide +kernel
theorem dX7_find_18 : decode cX7_find 18 = .ok (.ldc 113, 2) := by decide +kernel
theorem dX7_find_20 : decode cX7_find 20 = .ok (.ireturn, 1) := by decide +kernel
theorem dX7_find_21 : decode cX7_find 21 = .ok (.aload_n 0, 1) := by decide +kernel
theorem dX7_find_22 : decode cX7_find 22 = .ok (.getfield 10, 3) := by decide +kernel
theorem dX7_find_25 : decode cX7_find 25 = .ok (.iload_n 1, 1) := by decide +kernel
theorem dX7_find_26 : decode cX7_find 26 = .ok (.iload_n 2, 1) := by decide +kernel
theorem dX7_find_27 : decode cX7_find 27 = .ok (.invokestatic 169, 3) := by decide +kernel
theorem dX7_find_30 : decode cX7_find 30 = .ok (.invokevirtual 139, 3) := by decide +kernel
theorem dX7_find_33 : decode cX7_find 33 = .ok (.ireturn, 1) := by decide +kernel
theorem dX7_shaft_0 : decode cX7_shaft 0 = .ok (.iload_n 1, 1) := by decide +kernel
theorem dX7_shaft_1 : decode cX7_shaft 1 = .ok (.iconst 4, 1) := by decide +kernel
theorem dX7_shaft_2 : decode cX7_shaft 2 = .ok (.invokestatic 114, 3) := by decide +kernel
theorem dX7_shaft_5 : decode cX7_shaft 5 = .ok (.ifCond .ne 6, 3) := by decide +kernel
theorem dX7_shaft_8 : decode cX7_shaft 8 = .ok (.ldc 118, 2) := by decide +kernel
theorem dX7_shaft_10 : decode cX7_shaft 10 = .ok (.ireturn, 1) := by decide +kernel
theorem dX7_shaft_11 : decode cX7_shaft 11 = .ok (.iload_n 2, 1) := by decide +kernel
theorem dX7_shaft_12 : decode cX7_shaft 12 = .ok (.sipush 10000, 3) := by decide +kernel
theorem dX7_shaft_15 : decode cX7_shaft 15 = .ok (.invokestatic 114, 3) := by decide +kernel
theorem dX7_shaft_18 : decode cX7_shaft 18 = .ok (.ifCond .ne 6, 3) := by decide +kernel
theorem dX7_shaft_21 : decode cX7_shaft 21 = .ok (.ldc 113, 2) := by decide +kernel
theorem dX7_shaft_23 : decode cX7_shaft 23 = .ok (.ireturn, 1) := by decide +kernel
theorem dX7_shaft_24 : decode cX7_shaft 24 = .ok (.aload_n 0, 1) := by decide +kernel
theorem dX7_shaft_25 : decode cX7_shaft 25 = .ok (.iload_n 1, 1) := by decide +kernel
theorem dX7_shaft_26 : decode cX7_shaft 26 = .ok (.iload_n 2, 1) := by decide +kernel
theorem dX7_shaft_27 : decode cX7_shaft 27 = .ok (.invokestatic 169, 3) := by decide +kernel
theorem dX7_shaft_30 : decode cX7_shaft 30 = .ok (.invokevirtual 173, 3) := by decide +kernel
theorem dX7_shaft_33 : decode cX7_shaft 33 = .ok (.ireturn, 1) := by decide +kernel
theorem dX7_bore_0 : decode cX7_bore 0 = .ok (.iload_n 1, 1) := by decide +kernel
theorem dX7_bore_1 : decode cX7_bore 1 = .ok (.sipush 10000, 3) := by decide +kernel
theorem dX7_bore_4 : decode cX7_bore 4 = .ok (.invokestatic 114, 3) := by decide +kernel
theorem dX7_bore_7 : decode cX7_bore 7 = .ok (.ifCond .ne 6, 3) := by decide +kernel
theorem dX7_bore_10 : decode cX7_bore 10 = .ok (.ldc 113, 2) := by decide +kernel
theorem dX7_bore_12 : decode cX7_bore 12 = .ok (.ireturn, 1) := by decide +kernel
theorem dX7_bore_13 : decode cX7_bore 13 = .ok (.aload_n 0, 1) := by decide +kernel
theorem dX7_bore_14 : decode cX7_bore 14 = .ok (.iconst 4, 1) := by decide +kernel
theorem dX7_bore_15 : decode cX7_bore 15 = .ok (.iload_n 1, 1) := by decide +kernel
theorem dX7_bore_16 : decode cX7_bore 16 = .ok (.invokestatic 169, 3) := by decide +kernel
theorem dX7_bore_19 : decode cX7_bore 19 = .ok (.invokevirtual 173, 3) := by decide +kernel
theorem dX7_bore_22 : decode cX7_bore 22 = .ok (.ireturn, 1) := by decide +kernel
theorem dX7_takeShaft_0 : decode cX7_takeShaft 0 = .ok (.iload_n 1, 1) := by decide +kernel
theorem dX7_takeShaft_1 : decode cX7_takeShaft 1 = .ok (.aload_n 0, 1) := by decide +kernel
theorem dX7_takeShaft_2 : decode cX7_takeShaft 2 = .ok (.getfield 10, 3) := by decide +kernel
theorem dX7_takeShaft_5 : decode cX7_takeShaft 5 = .ok (.getfield 62, 3) := by decide +kernel
theorem dX7_takeShaft_8 : decode cX7_takeShaft 8 = .ok (.invokestatic 114, 3) := by decide +kernel
theorem dX7_takeShaft_11 : decode cX7_takeShaft 11 = .ok (.ifCond .ne 6, 3) := by decide +kernel
theorem dX7_takeShaft_14 : decode cX7_takeShaft 14 = .ok (.ldc 118, 2) := by decide +kernel
theorem dX7_takeShaft_16 : decode cX7_takeShaft 16 = .ok (.ireturn, 1) := by decide +kernel
theorem dX7_takeShaft_17 : decode cX7_takeShaft 17 = .ok (.aload_n 0, 1) := by decide +kernel
theorem dX7_takeShaft_18 : decode cX7_takeShaft 18 = .ok (.getfield 19, 3) := by decide +kernel
theorem dX7_takeShaft_21 : decode cX7_takeShaft 21 = .ok (.aload_n 0, 1) := by decide +kernel
theorem dX7_takeShaft_22 : decode cX7_takeShaft 22 = .ok (.getfield 10, 3) := by decide +kernel
theorem dX7_takeShaft_25 : decode cX7_takeShaft 25 = .ok (.invokevirtual 176, 3) := by decide +kernel
theorem dX7_takeShaft_28 : decode cX7_takeShaft 28 = .ok (.aload_n 0, 1) := by decide +kernel
theorem dX7_takeShaft_29 : decode cX7_takeShaft 29 = .ok (.getfield 10, 3) := by decide +kernel
theorem dX7_takeShaft_32 : decode cX7_takeShaft 32 = .ok (.getfield 119, 3) := by decide +kernel
theorem dX7_takeShaft_35 : decode cX7_takeShaft 35 = .ok (.iload_n 1, 1) := by decide +kernel
theorem dX7_takeShaft_36 : decode cX7_takeShaft 36 = .ok (.iaload, 1) := by decide +kernel
theorem dX7_takeShaft_37 : decode cX7_takeShaft 37 = .ok (.invokestatic 127, 3) := by decide +kernel
theorem dX7_takeShaft_40 : decode cX7_takeShaft 40 = .ok (.istore_n 2, 1) := by decide +kernel
theorem dX7_takeShaft_41 : decode cX7_takeShaft 41 = .ok (.aload_n 0, 1) := by decide +kernel
theorem dX7_takeShaft_42 : decode cX7_takeShaft 42 = .ok (.getfield 10, 3) := by decide +kernel
theorem dX7_takeShaft_45 : decode cX7_takeShaft 45 = .ok (.iload_n 1, 1) := by decide +kernel
theorem dX7_takeShaft_46 : decode cX7_takeShaft 46 = .ok (.invokevirtual 179, 3) := by decide +kernel
theorem dX7_takeShaft_49 : decode cX7_takeShaft 49 = .ok (.iload_n 2, 1) := by decide +kernel
theorem dX7_takeShaft_50 : decode cX7_takeShaft 50 = .ok (.ireturn, 1) := by decide +kernel
theorem dX7_takeBore_0 : decode cX7_takeBore 0 = .ok (.iload_n 1, 1) := by decide +kernel
theorem dX7_takeBore_1 : decode cX7_takeBore 1 = .ok (.aload_n 0, 1) := by decide +kernel
theorem dX7_takeBore_2 : decode cX7_takeBore 2 = .ok (.getfield 10, 3) := by decide +kernel
theorem dX7_takeBore_5 : decode cX7_takeBore 5 = .ok (.getfield 65, 3) := by decide +kernel
theorem dX7_takeBore_8 : decode cX7_takeBore 8 = .ok (.invokestatic 114, 3) := by decide +kernel
theorem dX7_takeBore_11 : decode cX7_takeBore 11 = .ok (.ifCond .ne 6, 3) := by decide +kernel
theorem dX7_takeBore_14 : decode cX7_takeBore 14 = .ok (.ldc 118, 2) := by decide +kernel
theorem dX7_takeBore_16 : decode cX7_takeBore 16 = .ok (.ireturn, 1) := by decide +kernel
theorem dX7_takeBore_17 : decode cX7_takeBore 17 = .ok (.aload_n 0, 1) := by decide +kernel
theorem dX7_takeBore_18 : decode cX7_takeBore 18 = .ok (.getfield 19, 3) := by decide +kernel
theorem dX7_takeBore_21 : decode cX7_takeBore 21 = .ok (.aload_n 0, 1) := by decide +kernel
theorem dX7_takeBore_22 : decode cX7_takeBore 22 = .ok (.getfield 10, 3) := by decide +kernel
theorem dX7_takeBore_25 : decode cX7_takeBore 25 = .ok (.invokevirtual 176, 3) := by decide +kernel
theorem dX7_takeBore_28 : decode cX7_takeBore 28 = .ok (.aload_n 0, 1) := by decide +kernel
theorem dX7_takeBore_29 : decode cX7_takeBore 29 = .ok (.getfield 10, 3) := by decide +kernel
theorem dX7_takeBore_32 : decode cX7_takeBore 32 = .ok (.getfield 142, 3) := by decide +kernel
theorem dX7_takeBore_35 : decode cX7_takeBore 35 = .ok (.iload_n 1, 1) := by decide +kernel
theorem dX7_takeBore_36 : decode cX7_takeBore 36 = .ok (.iaload, 1) := by decide +kernel
theorem dX7_takeBore_37 : decode cX7_takeBore 37 = .ok (.invokestatic 127, 3) := by decide +kernel
theorem dX7_takeBore_40 : decode cX7_takeBore 40 = .ok (.istore_n 2, 1) := by decide +kernel
theorem dX7_takeBore_41 : decode cX7_takeBore 41 = .ok (.aload_n 0, 1) := by decide +kernel
theorem dX7_takeBore_42 : decode cX7_takeBore 42 = .ok (.getfield 10, 3) := by decide +kernel
theorem dX7_takeBore_45 : decode cX7_takeBore 45 = .ok (.iload_n 1, 1) := by decide +kernel
theorem dX7_takeBore_46 : decode cX7_takeBore 46 = .ok (.invokevirtual 183, 3) := by decide +kernel
theorem dX7_takeBore_49 : decode cX7_takeBore 49 = .ok (.iload_n 2, 1) := by decide +kernel
theorem dX7_takeBore_50 : decode cX7_takeBore 50 = .ok (.ireturn, 1) := by decide +kernel
theorem dX7_grade_0 : decode cX7_grade 0 = .ok (.iload_n 1, 1) := by decide +kernel
theorem dX7_grade_1 : decode cX7_grade 1 = .ok (.iconst 4, 1) := by decide +kernel
theorem dX7_grade_2 : decode cX7_grade 2 = .ok (.invokestatic 114, 3) := by decide +kernel
theorem dX7_grade_5 : decode cX7_grade 5 = .ok (.ifCond .ne 6, 3) := by decide +kernel
theorem dX7_grade_8 : decode cX7_grade 8 = .ok (.ldc 118, 2) := by decide +kernel
theorem dX7_grade_10 : decode cX7_grade 10 = .ok (.ireturn, 1) := by decide +kernel
theorem dX7_grade_11 : decode cX7_grade 11 = .ok (.iload_n 2, 1) := by decide +kernel
theorem dX7_grade_12 : decode cX7_grade 12 = .ok (.sipush 1000, 3) := by decide +kernel
theorem dX7_grade_15 : decode cX7_grade 15 = .ok (.invokestatic 114, 3) := by decide +kernel
theorem dX7_grade_18 : decode cX7_grade 18 = .ok (.ifCond .eq 18, 3) := by decide +kernel
theorem dX7_grade_21 : decode cX7_grade 21 = .ok (.iload_n 3, 1) := by decide +kernel
theorem dX7_grade_22 : decode cX7_grade 22 = .ok (.sipush 1000, 3) := by decide +kernel
theorem dX7_grade_25 : decode cX7_grade 25 = .ok (.invokestatic 114, 3) := by decide +kernel
theorem dX7_grade_28 : decode cX7_grade 28 = .ok (.ifCond .eq 8, 3) := by decide +kernel
theorem dX7_grade_31 : decode cX7_grade 31 = .ok (.iload_n 2, 1) := by decide +kernel
theorem dX7_grade_32 : decode cX7_grade 32 = .ok (.iload_n 3, 1) := by decide +kernel
theorem dX7_grade_33 : decode cX7_grade 33 = .ok (.if_icmp .le 6, 3) := by decide +kernel
theorem dX7_grade_36 : decode cX7_grade 36 = .ok (.ldc 113, 2) := by decide +kernel
theorem dX7_grade_38 : decode cX7_grade 38 = .ok (.ireturn, 1) := by decide +kernel
theorem dX7_grade_39 : decode cX7_grade 39 = .ok (.aload_n 0, 1) := by decide +kernel
theorem dX7_grade_40 : decode cX7_grade 40 = .ok (.getfield 19, 3) := by decide +kernel
theorem dX7_grade_43 : decode cX7_grade 43 = .ok (.aload_n 0, 1) := by decide +kernel
theorem dX7_grade_44 : decode cX7_grade 44 = .ok (.getfield 10, 3) := by decide +kernel
theorem dX7_grade_47 : decode cX7_grade 47 = .ok (.invokevirtual 176, 3) := by decide +kernel
theorem dX7_grade_50 : decode cX7_grade 50 = .ok (.aload_n 0, 1) := by decide +kernel
theorem dX7_grade_51 : decode cX7_grade 51 = .ok (.getfield 10, 3) := by decide +kernel
theorem dX7_grade_54 : decode cX7_grade 54 = .ok (.getfield 151, 3) := by decide +kernel
theorem dX7_grade_57 : decode cX7_grade 57 = .ok (.iload_n 1, 1) := by decide +kernel
theorem dX7_grade_58 : decode cX7_grade 58 = .ok (.iload_n 2, 1) := by decide +kernel
theorem dX7_grade_59 : decode cX7_grade 59 = .ok (.iastore, 1) := by decide +kernel
theorem dX7_grade_60 : decode cX7_grade 60 = .ok (.aload_n 0, 1) := by decide +kernel
theorem dX7_grade_61 : decode cX7_grade 61 = .ok (.getfield 10, 3) := by decide +kernel
theorem dX7_grade_64 : decode cX7_grade 64 = .ok (.getfield 154, 3) := by decide +kernel
theorem dX7_grade_67 : decode cX7_grade 67 = .ok (.iload_n 1, 1) := by decide +kernel
theorem dX7_grade_68 : decode cX7_grade 68 = .ok (.iload_n 3, 1) := by decide +kernel
theorem dX7_grade_69 : decode cX7_grade 69 = .ok (.iastore, 1) := by decide +kernel
theorem dX7_grade_70 : decode cX7_grade 70 = .ok (.aload_n 0, 1) := by decide +kernel
theorem dX7_grade_71 : decode cX7_grade 71 = .ok (.invokevirtual 71, 3) := by decide +kernel
theorem dX7_grade_74 : decode cX7_grade 74 = .ok (.ireturn, 1) := by decide +kernel
theorem dX7_putAway_0 : decode cX7_putAway 0 = .ok (.aload_n 0, 1) := by decide +kernel
theorem dX7_putAway_1 : decode cX7_putAway 1 = .ok (.invokevirtual 71, 3) := by decide +kernel
theorem dX7_putAway_4 : decode cX7_putAway 4 = .ok (.istore_n 1, 1) := by decide +kernel
theorem dX7_putAway_5 : decode cX7_putAway 5 = .ok (.iload_n 1, 1) := by decide +kernel
theorem dX7_putAway_6 : decode cX7_putAway 6 = .ok (.ifCond .ne 6, 3) := by decide +kernel
theorem dX7_putAway_9 : decode cX7_putAway 9 = .ok (.ldc 186, 2) := by decide +kernel
theorem dX7_putAway_11 : decode cX7_putAway 11 = .ok (.ireturn, 1) := by decide +kernel
theorem dX7_putAway_12 : decode cX7_putAway 12 = .ok (.aload_n 0, 1) := by decide +kernel
theorem dX7_putAway_13 : decode cX7_putAway 13 = .ok (.getfield 19, 3) := by decide +kernel
theorem dX7_putAway_16 : decode cX7_putAway 16 = .ok (.aload_n 0, 1) := by decide +kernel
theorem dX7_putAway_17 : decode cX7_putAway 17 = .ok (.getfield 10, 3) := by decide +kernel
theorem dX7_putAway_20 : decode cX7_putAway 20 = .ok (.invokevirtual 176, 3) := by decide +kernel
theorem dX7_putAway_23 : decode cX7_putAway 23 = .ok (.aload_n 0, 1) := by decide +kernel
theorem dX7_putAway_24 : decode cX7_putAway 24 = .ok (.getfield 10, 3) := by decide +kernel
theorem dX7_putAway_27 : decode cX7_putAway 27 = .ok (.getfield 62, 3) := by decide +kernel
theorem dX7_putAway_30 : decode cX7_putAway 30 = .ok (.iconst 1, 1) := by decide +kernel
theorem dX7_putAway_31 : decode cX7_putAway 31 = .ok (.isub, 1) := by decide +kernel
theorem dX7_putAway_32 : decode cX7_putAway 32 = .ok (.istore_n 2, 1) := by decide +kernel
theorem dX7_putAway_33 : decode cX7_putAway 33 = .ok (.iload_n 2, 1) := by decide +kernel
theorem dX7_putAway_34 : decode cX7_putAway 34 = .ok (.ifCond .lt 30, 3) := by decide +kernel
theorem dX7_putAway_37 : decode cX7_putAway 37 = .ok (.aload_n 0, 1) := by decide +kernel
theorem dX7_putAway_38 : decode cX7_putAway 38 = .ok (.getfield 26, 3) := by decide +kernel
theorem dX7_putAway_41 : decode cX7_putAway 41 = .ok (.getfield 130, 3) := by decide +kernel
theorem dX7_putAway_44 : decode cX7_putAway 44 = .ok (.iload_n 2, 1) := by decide +kernel
theorem dX7_putAway_45 : decode cX7_putAway 45 = .ok (.iaload, 1) := by decide +kernel
theorem dX7_putAway_46 : decode cX7_putAway 46 = .ok (.iconst (-1), 1) := by decide +kernel
theorem dX7_putAway_47 : decode cX7_putAway 47 = .ok (.if_icmp .eq 11, 3) := by decide +kernel
theorem dX7_putAway_50 : decode cX7_putAway 50 = .ok (.aload_n 0, 1) := by decide +kernel
theorem dX7_putAway_51 : decode cX7_putAway 51 = .ok (.getfield 10, 3) := by decide +kernel
theorem dX7_putAway_54 : decode cX7_putAway 54 = .ok (.iload_n 2, 1) := by decide +kernel
theorem dX7_putAway_55 : decode cX7_putAway 55 = .ok (.invokevirtual 179, 3) := by decide +kernel
theorem dX7_putAway_58 : decode cX7_putAway 58 = .ok (.iinc 2 (-1), 3) := by decide +kernel
theorem dX7_putAway_61 : decode cX7_putAway 61 = .ok (.goto (-28), 3) := by decide +kernel
theorem dX7_putAway_64 : decode cX7_putAway 64 = .ok (.aload_n 0, 1) := by decide +kernel
theorem dX7_putAway_65 : decode cX7_putAway 65 = .ok (.getfield 10, 3) := by decide +kernel
theorem dX7_putAway_68 : decode cX7_putAway 68 = .ok (.getfield 65, 3) := by decide +kernel
theorem dX7_putAway_71 : decode cX7_putAway 71 = .ok (.iconst 1, 1) := by decide +kernel
theorem dX7_putAway_72 : decode cX7_putAway 72 = .ok (.isub, 1) := by decide +kernel
theorem dX7_putAway_73 : decode cX7_putAway 73 = .ok (.istore_n 2, 1) := by decide +kernel
theorem dX7_putAway_74 : decode cX7_putAway 74 = .ok (.iload_n 2, 1) := by decide +kernel
theorem dX7_putAway_75 : decode cX7_putAway 75 = .ok (.ifCond .lt 30, 3) := by decide +kernel
theorem dX7_putAway_78 : decode cX7_putAway 78 = .ok (.aload_n 0, 1) := by decide +kernel
theorem dX7_putAway_79 : decode cX7_putAway 79 = .ok (.getfield 26, 3) := by decide +kernel
theorem dX7_putAway_82 : decode cX7_putAway 82 = .ok (.getfield 145, 3) := by decide +kernel
theorem dX7_putAway_85 : decode cX7_putAway 85 = .ok (.iload_n 2, 1) := by decide +kernel
theorem dX7_putAway_86 : decode cX7_putAway 86 = .ok (.iaload, 1) := by decide +kernel
theorem dX7_putAway_87 : decode cX7_putAway 87 = .ok (.iconst (-1), 1) := by decide +kernel
theorem dX7_putAway_88 : decode cX7_putAway 88 = .ok (.if_icmp .eq 11, 3) := by decide +kernel
theorem dX7_putAway_91 : decode cX7_putAway 91 = .ok (.aload_n 0, 1) := by decide +kernel
theorem dX7_putAway_92 : decode cX7_putAway 92 = .ok (.getfield 10, 3) := by decide +kernel
theorem dX7_putAway_95 : decode cX7_putAway 95 = .ok (.iload_n 2, 1) := by decide +kernel
theorem dX7_putAway_96 : decode cX7_putAway 96 = .ok (.invokevirtual 183, 3) := by decide +kernel
theorem dX7_putAway_99 : decode cX7_putAway 99 = .ok (.iinc 2 (-1), 3) := by decide +kernel
theorem dX7_putAway_102 : decode cX7_putAway 102 = .ok (.goto (-28), 3) := by decide +kernel
theorem dX7_putAway_105 : decode cX7_putAway 105 = .ok (.iload_n 1, 1) := by decide +kernel
theorem dX7_putAway_106 : decode cX7_putAway 106 = .ok (.ireturn, 1) := by decide +kernel
theorem dX7_batch_0 : decode cX7_batch 0 = .ok (.iload_n 1, 1) := by decide +kernel
theorem dX7_batch_1 : decode cX7_batch 1 = .ok (.iconst 1, 1) := by decide +kernel
theorem dX7_batch_2 : decode cX7_batch 2 = .ok (.if_icmp .lt 9, 3) := by decide +kernel
theorem dX7_batch_5 : decode cX7_batch 5 = .ok (.iload_n 1, 1) := by decide +kernel
theorem dX7_batch_6 : decode cX7_batch 6 = .ok (.bipush 20, 2) := by decide +kernel
theorem dX7_batch_8 : decode cX7_batch 8 = .ok (.if_icmp .le 6, 3) := by decide +kernel
theorem dX7_batch_11 : decode cX7_batch 11 = .ok (.ldc 113, 2) := by decide +kernel
theorem dX7_batch_13 : decode cX7_batch 13 = .ok (.ireturn, 1) := by decide +kernel
theorem dX7_batch_14 : decode cX7_batch 14 = .ok (.aload_n 0, 1) := by decide +kernel
theorem dX7_batch_15 : decode cX7_batch 15 = .ok (.getfield 19, 3) := by decide +kernel
theorem dX7_batch_18 : decode cX7_batch 18 = .ok (.aload_n 0, 1) := by decide +kernel
theorem dX7_batch_19 : decode cX7_batch 19 = .ok (.getfield 10, 3) := by decide +kernel
theorem dX7_batch_22 : decode cX7_batch 22 = .ok (.invokevirtual 176, 3) := by decide +kernel
theorem dX7_batch_25 : decode cX7_batch 25 = .ok (.iconst 0, 1) := by decide +kernel
theorem dX7_batch_26 : decode cX7_batch 26 = .ok (.istore_n 2, 1) := by decide +kernel
theorem dX7_batch_27 : decode cX7_batch 27 = .ok (.iconst 0, 1) := by decide +kernel
theorem dX7_batch_28 : decode cX7_batch 28 = .ok (.istore_n 3, 1) := by decide +kernel
theorem dX7_batch_29 : decode cX7_batch 29 = .ok (.iload_n 3, 1) := by decide +kernel
theorem dX7_batch_30 : decode cX7_batch 30 = .ok (.iload_n 1, 1) := by decide +kernel
theorem dX7_batch_31 : decode cX7_batch 31 = .ok (.if_icmp .ge 50, 3) := by decide +kernel
theorem dX7_batch_34 : decode cX7_batch 34 = .ok (.aload_n 0, 1) := by decide +kernel
theorem dX7_batch_35 : decode cX7_batch 35 = .ok (.iconst 5, 1) := by decide +kernel
theorem dX7_batch_36 : decode cX7_batch 36 = .ok (.invokevirtual 187, 3) := by decide +kernel
theorem dX7_batch_39 : decode cX7_batch 39 = .ok (.istore 4, 2) := by decide +kernel
theorem dX7_batch_41 : decode cX7_batch 41 = .ok (.aload_n 0, 1) := by decide +kernel
theorem dX7_batch_42 : decode cX7_batch 42 = .ok (.bipush 100, 2) := by decide +kernel
theorem dX7_batch_44 : decode cX7_batch 44 = .ok (.invokevirtual 187, 3) := by decide +kernel
theorem dX7_batch_47 : decode cX7_batch 47 = .ok (.sipush 1000, 3) := by decide +kernel
theorem dX7_batch_50 : decode cX7_batch 50 = .ok (.iadd, 1) := by decide +kernel
theorem dX7_batch_51 : decode cX7_batch 51 = .ok (.istore 5, 2) := by decide +kernel
theorem dX7_batch_53 : decode cX7_batch 53 = .ok (.aload_n 0, 1) := by decide +kernel
theorem dX7_batch_54 : decode cX7_batch 54 = .ok (.getfield 10, 3) := by decide +kernel
theorem dX7_batch_57 : decode cX7_batch 57 = .ok (.iload 4, 2) := by decide +kernel
theorem dX7_batch_59 : decode cX7_batch 59 = .ok (.iload 5, 2) := by decide +kernel
theorem dX7_batch_61 : decode cX7_batch 61 = .ok (.invokestatic 169, 3) := by decide +kernel
theorem dX7_batch_64 : decode cX7_batch 64 = .ok (.invokevirtual 190, 3) := by decide +kernel
theorem dX7_batch_67 : decode cX7_batch 67 = .ok (.ldc 193, 2) := by decide +kernel
theorem dX7_batch_69 : decode cX7_batch 69 = .ok (.if_icmp .eq 6, 3) := by decide +kernel
theorem dX7_batch_72 : decode cX7_batch 72 = .ok (.iinc 2 1, 3) := by decide +kernel
theorem dX7_batch_75 : decode cX7_batch 75 = .ok (.iinc 3 1, 3) := by decide +kernel
theorem dX7_batch_78 : decode cX7_batch 78 = .ok (.goto (-49), 3) := by decide +kernel
theorem dX7_batch_81 : decode cX7_batch 81 = .ok (.iload_n 2, 1) := by decide +kernel
theorem dX7_batch_82 : decode cX7_batch 82 = .ok (.ireturn, 1) := by decide +kernel
theorem dX7_clear_0 : decode cX7_clear 0 = .ok (.aload_n 0, 1) := by decide +kernel
theorem dX7_clear_1 : decode cX7_clear 1 = .ok (.getfield 19, 3) := by decide +kernel
theorem dX7_clear_4 : decode cX7_clear 4 = .ok (.aload_n 0, 1) := by decide +kernel
theorem dX7_clear_5 : decode cX7_clear 5 = .ok (.getfield 10, 3) := by decide +kernel
theorem dX7_clear_8 : decode cX7_clear 8 = .ok (.invokevirtual 176, 3) := by decide +kernel
theorem dX7_clear_11 : decode cX7_clear 11 = .ok (.aload_n 0, 1) := by decide +kernel
theorem dX7_clear_12 : decode cX7_clear 12 = .ok (.getfield 10, 3) := by decide +kernel
theorem dX7_clear_15 : decode cX7_clear 15 = .ok (.invokevirtual 194, 3) := by decide +kernel
theorem dX7_clear_18 : decode cX7_clear 18 = .ok (.istore_n 1, 1) := by decide +kernel
theorem dX7_clear_19 : decode cX7_clear 19 = .ok (.aload_n 0, 1) := by decide +kernel
theorem dX7_clear_20 : decode cX7_clear 20 = .ok (.getfield 10, 3) := by decide +kernel
theorem dX7_clear_23 : decode cX7_clear 23 = .ok (.invokevirtual 197, 3) := by decide +kernel
theorem dX7_clear_26 : decode cX7_clear 26 = .ok (.iload_n 1, 1) := by decide +kernel
theorem dX7_clear_27 : decode cX7_clear 27 = .ok (.ireturn, 1) := by decide +kernel
theorem dX7_undo_0 : decode cX7_undo 0 = .ok (.iload_n 1, 1) := by decide +kernel
theorem dX7_undo_1 : decode cX7_undo 1 = .ok (.iconst 1, 1) := by decide +kernel
theorem dX7_undo_2 : decode cX7_undo 2 = .ok (.if_icmp .lt 9, 3) := by decide +kernel
theorem dX7_undo_5 : decode cX7_undo 5 = .ok (.iload_n 1, 1) := by decide +kernel
theorem dX7_undo_6 : decode cX7_undo 6 = .ok (.bipush 16, 2) := by decide +kernel
theorem dX7_undo_8 : decode cX7_undo 8 = .ok (.if_icmp .le 6, 3) := by decide +kernel
theorem dX7_undo_11 : decode cX7_undo 11 = .ok (.ldc 113, 2) := by decide +kernel
theorem dX7_undo_13 : decode cX7_undo 13 = .ok (.ireturn, 1) := by decide +kernel
theorem dX7_undo_14 : decode cX7_undo 14 = .ok (.iload_n 1, 1) := by decide +kernel
theorem dX7_undo_15 : decode cX7_undo 15 = .ok (.aload_n 0, 1) := by decide +kernel
theorem dX7_undo_16 : decode cX7_undo 16 = .ok (.getfield 19, 3) := by decide +kernel
theorem dX7_undo_19 : decode cX7_undo 19 = .ok (.getfield 110, 3) := by decide +kernel
theorem dX7_undo_22 : decode cX7_undo 22 = .ok (.if_icmp .le 6, 3) := by decide +kernel
theorem dX7_undo_25 : decode cX7_undo 25 = .ok (.ldc 186, 2) := by decide +kernel
theorem dX7_undo_27 : decode cX7_undo 27 = .ok (.ireturn, 1) := by decide +kernel
theorem dX7_undo_28 : decode cX7_undo 28 = .ok (.aload_n 0, 1) := by decide +kernel
theorem dX7_undo_29 : decode cX7_undo 29 = .ok (.getfield 19, 3) := by decide +kernel
theorem dX7_undo_32 : decode cX7_undo 32 = .ok (.aload_n 0, 1) := by decide +kernel
theorem dX7_undo_33 : decode cX7_undo 33 = .ok (.getfield 10, 3) := by decide +kernel
theorem dX7_undo_36 : decode cX7_undo 36 = .ok (.iload_n 1, 1) := by decide +kernel
theorem dX7_undo_37 : decode cX7_undo 37 = .ok (.invokevirtual 200, 3) := by decide +kernel
theorem dX7_undo_40 : decode cX7_undo 40 = .ok (.aload_n 0, 1) := by decide +kernel
theorem dX7_undo_41 : decode cX7_undo 41 = .ok (.getfield 10, 3) := by decide +kernel
theorem dX7_undo_44 : decode cX7_undo 44 = .ok (.invokevirtual 194, 3) := by decide +kernel
theorem dX7_undo_47 : decode cX7_undo 47 = .ok (.ireturn, 1) := by decide +kernel
theorem dX7_crowd_0 : decode cX7_crowd 0 = .ok (.iload_n 1, 1) := by decide +kernel
theorem dX7_crowd_1 : decode cX7_crowd 1 = .ok (.iconst 4, 1) := by decide +kernel
theorem dX7_crowd_2 : decode cX7_crowd 2 = .ok (.invokestatic 114, 3) := by decide +kernel
theorem dX7_crowd_5 : decode cX7_crowd 5 = .ok (.ifCond .ne 6, 3) := by decide +kernel
theorem dX7_crowd_8 : decode cX7_crowd 8 = .ok (.ldc 113, 2) := by decide +kernel
theorem dX7_crowd_10 : decode cX7_crowd 10 = .ok (.ireturn, 1) := by decide +kernel
theorem dX7_crowd_11 : decode cX7_crowd 11 = .ok (.aload_n 0, 1) := by decide +kernel
theorem dX7_crowd_12 : decode cX7_crowd 12 = .ok (.getfield 26, 3) := by decide +kernel
theorem dX7_crowd_15 : decode cX7_crowd 15 = .ok (.aload_n 0, 1) := by decide +kernel
theorem dX7_crowd_16 : decode cX7_crowd 16 = .ok (.getfield 10, 3) := by decide +kernel
theorem dX7_crowd_19 : decode cX7_crowd 19 = .ok (.invokevirtual 81, 3) := by decide +kernel
theorem dX7_crowd_22 : decode cX7_crowd 22 = .ok (.aload_n 0, 1) := by decide +kernel
theorem dX7_crowd_23 : decode cX7_crowd 23 = .ok (.getfield 33, 3) := by decide +kernel
theorem dX7_crowd_26 : decode cX7_crowd 26 = .ok (.aload_n 0, 1) := by decide +kernel
theorem dX7_crowd_27 : decode cX7_crowd 27 = .ok (.getfield 26, 3) := by decide +kernel
theorem dX7_crowd_30 : decode cX7_crowd 30 = .ok (.invokevirtual 204, 3) := by decide +kernel
theorem dX7_crowd_33 : decode cX7_crowd 33 = .ok (.aload_n 0, 1) := by decide +kernel
theorem dX7_crowd_34 : decode cX7_crowd 34 = .ok (.getfield 33, 3) := by decide +kernel
theorem dX7_crowd_37 : decode cX7_crowd 37 = .ok (.getfield 208, 3) := by decide +kernel
theorem dX7_crowd_40 : decode cX7_crowd 40 = .ok (.ifCond .ne 5, 3) := by decide +kernel
theorem dX7_crowd_43 : decode cX7_crowd 43 = .ok (.iconst (-1), 1) := by decide +kernel
theorem dX7_crowd_44 : decode cX7_crowd 44 = .ok (.ireturn, 1) := by decide +kernel
theorem dX7_crowd_45 : decode cX7_crowd 45 = .ok (.iload_n 1, 1) := by decide +kernel
theorem dX7_crowd_46 : decode cX7_crowd 46 = .ok (.tableswitch 50 0 2 #[26, 34, 42], 26) := by decide +kernel
theorem dX7_crowd_72 : decode cX7_crowd 72 = .ok (.aload_n 0, 1) := by decide +kernel
theorem dX7_crowd_73 : decode cX7_crowd 73 = .ok (.getfield 33, 3) := by decide +kernel
theorem dX7_crowd_76 : decode cX7_crowd 76 = .ok (.getfield 211, 3) := by decide +kernel
theorem dX7_crowd_79 : decode cX7_crowd 79 = .ok (.ireturn, 1) := by decide +kernel
theorem dX7_crowd_80 : decode cX7_crowd 80 = .ok (.aload_n 0, 1) := by decide +kernel
theorem dX7_crowd_81 : decode cX7_crowd 81 = .ok (.getfield 33, 3) := by decide +kernel
theorem dX7_crowd_84 : decode cX7_crowd 84 = .ok (.getfield 214, 3) := by decide +kernel
theorem dX7_crowd_87 : decode cX7_crowd 87 = .ok (.ireturn, 1) := by decide +kernel
theorem dX7_crowd_88 : decode cX7_crowd 88 = .ok (.aload_n 0, 1) := by decide +kernel
theorem dX7_crowd_89 : decode cX7_crowd 89 = .ok (.getfield 33, 3) := by decide +kernel
theorem dX7_crowd_92 : decode cX7_crowd 92 = .ok (.getfield 217, 3) := by decide +kernel
theorem dX7_crowd_95 : decode cX7_crowd 95 = .ok (.ireturn, 1) := by decide +kernel
theorem dX7_crowd_96 : decode cX7_crowd 96 = .ok (.aload_n 0, 1) := by decide +kernel
theorem dX7_crowd_97 : decode cX7_crowd 97 = .ok (.getfield 33, 3) := by decide +kernel
theorem dX7_crowd_100 : decode cX7_crowd 100 = .ok (.getfield 219, 3) := by decide +kernel
theorem dX7_crowd_103 : decode cX7_crowd 103 = .ok (.ireturn, 1) := by decide +kernel
theorem dX7_boxes_0 : decode cX7_boxes 0 = .ok (.iload_n 1, 1) := by decide +kernel
theorem dX7_boxes_1 : decode cX7_boxes 1 = .ok (.bipush 10, 2) := by decide +kernel
theorem dX7_boxes_3 : decode cX7_boxes 3 = .ok (.invokestatic 114, 3) := by decide +kernel
theorem dX7_boxes_6 : decode cX7_boxes 6 = .ok (.ifCond .ne 6, 3) := by decide +kernel
theorem dX7_boxes_9 : decode cX7_boxes 9 = .ok (.ldc 113, 2) := by decide +kernel
theorem dX7_boxes_11 : decode cX7_boxes 11 = .ok (.ireturn, 1) := by decide +kernel
theorem dX7_boxes_12 : decode cX7_boxes 12 = .ok (.aload_n 0, 1) := by decide +kernel
theorem dX7_boxes_13 : decode cX7_boxes 13 = .ok (.getfield 40, 3) := by decide +kernel
theorem dX7_boxes_16 : decode cX7_boxes 16 = .ok (.aload_n 0, 1) := by decide +kernel
theorem dX7_boxes_17 : decode cX7_boxes 17 = .ok (.getfield 10, 3) := by decide +kernel
theorem dX7_boxes_20 : decode cX7_boxes 20 = .ok (.invokevirtual 221, 3) := by decide +kernel
theorem dX7_boxes_23 : decode cX7_boxes 23 = .ok (.aload_n 0, 1) := by decide +kernel
theorem dX7_boxes_24 : decode cX7_boxes 24 = .ok (.getfield 40, 3) := by decide +kernel
theorem dX7_boxes_27 : decode cX7_boxes 27 = .ok (.iload_n 1, 1) := by decide +kernel
theorem dX7_boxes_28 : decode cX7_boxes 28 = .ok (.invokevirtual 222, 3) := by decide +kernel
theorem dX7_boxes_31 : decode cX7_boxes 31 = .ok (.ireturn, 1) := by decide +kernel
theorem dX7_withBore_0 : decode cX7_withBore 0 = .ok (.iload_n 1, 1) := by decide +kernel
theorem dX7_withBore_1 : decode cX7_withBore 1 = .ok (.sipush 10000, 3) := by decide +kernel
theorem dX7_withBore_4 : decode cX7_withBore 4 = .ok (.invokestatic 114, 3) := by decide +kernel
theorem dX7_withBore_7 : decode cX7_withBore 7 = .ok (.ifCond .ne 6, 3) := by decide +kernel
theorem dX7_withBore_10 : decode cX7_withBore 10 = .ok (.ldc 113, 2) := by decide +kernel
theorem dX7_withBore_12 : decode cX7_withBore 12 = .ok (.ireturn, 1) := by decide +kernel
theorem dX7_withBore_13 : decode cX7_withBore 13 = .ok (.aload_n 0, 1) := by decide +kernel
theorem dX7_withBore_14 : decode cX7_withBore 14 = .ok (.getfield 26, 3) := by decide +kernel
theorem dX7_withBore_17 : decode cX7_withBore 17 = .ok (.aload_n 0, 1) := by decide +kernel
theorem dX7_withBore_18 : decode cX7_withBore 18 = .ok (.getfield 10, 3) := by decide +kernel
theorem dX7_withBore_21 : decode cX7_withBore 21 = .ok (.invokevirtual 81, 3) := by decide +kernel
theorem dX7_withBore_24 : decode cX7_withBore 24 = .ok (.aload_n 0, 1) := by decide +kernel
theorem dX7_withBore_25 : decode cX7_withBore 25 = .ok (.getfield 26, 3) := by decide +kernel
theorem dX7_withBore_28 : decode cX7_withBore 28 = .ok (.iload_n 1, 1) := by decide +kernel
theorem dX7_withBore_29 : decode cX7_withBore 29 = .ok (.invokevirtual 225, 3) := by decide +kernel
theorem dX7_withBore_32 : decode cX7_withBore 32 = .ok (.ireturn, 1) := by decide +kernel
theorem dX7_see_0 : decode cX7_see 0 = .ok (.iload_n 1, 1) := by decide +kernel
theorem dX7_see_1 : decode cX7_see 1 = .ok (.iconst 4, 1) := by decide +kernel
theorem dX7_see_2 : decode cX7_see 2 = .ok (.invokestatic 114, 3) := by decide +kernel
theorem dX7_see_5 : decode cX7_see 5 = .ok (.ifCond .ne 6, 3) := by decide +kernel
theorem dX7_see_8 : decode cX7_see 8 = .ok (.ldc 118, 2) := by decide +kernel
theorem dX7_see_10 : decode cX7_see 10 = .ok (.ireturn, 1) := by decide +kernel
theorem dX7_see_11 : decode cX7_see 11 = .ok (.iload_n 2, 1) := by decide +kernel
theorem dX7_see_12 : decode cX7_see 12 = .ok (.sipush 10000, 3) := by decide +kernel
theorem dX7_see_15 : decode cX7_see 15 = .ok (.invokestatic 114, 3) := by decide +kernel
theorem dX7_see_18 : decode cX7_see 18 = .ok (.ifCond .ne 6, 3) := by decide +kernel
theorem dX7_see_21 : decode cX7_see 21 = .ok (.ldc 113, 2) := by decide +kernel
theorem dX7_see_23 : decode cX7_see 23 = .ok (.ireturn, 1) := by decide +kernel
theorem dX7_see_24 : decode cX7_see 24 = .ok (.aload_n 0, 1) := by decide +kernel
theorem dX7_see_25 : decode cX7_see 25 = .ok (.getfield 47, 3) := by decide +kernel
theorem dX7_see_28 : decode cX7_see 28 = .ok (.iload_n 1, 1) := by decide +kernel
theorem dX7_see_29 : decode cX7_see 29 = .ok (.iload_n 2, 1) := by decide +kernel
theorem dX7_see_30 : decode cX7_see 30 = .ok (.invokestatic 169, 3) := by decide +kernel
theorem dX7_see_33 : decode cX7_see 33 = .ok (.iload_n 3, 1) := by decide +kernel
theorem dX7_see_34 : decode cX7_see 34 = .ok (.invokevirtual 228, 3) := by decide +kernel
theorem dX7_see_37 : decode cX7_see 37 = .ok (.ireturn, 1) := by decide +kernel
theorem dX7_forget_0 : decode cX7_forget 0 = .ok (.aload_n 0, 1) := by decide +kernel
theorem dX7_forget_1 : decode cX7_forget 1 = .ok (.getfield 47, 3) := by decide +kernel
theorem dX7_forget_4 : decode cX7_forget 4 = .ok (.getfield 91, 3) := by decide +kernel
theorem dX7_forget_7 : decode cX7_forget 7 = .ok (.istore_n 1, 1) := by decide +kernel
theorem dX7_forget_8 : decode cX7_forget 8 = .ok (.aload_n 0, 1) := by decide +kernel
theorem dX7_forget_9 : decode cX7_forget 9 = .ok (.getfield 47, 3) := by decide +kernel
theorem dX7_forget_12 : decode cX7_forget 12 = .ok (.iconst 0, 1) := by decide +kernel
theorem dX7_forget_13 : decode cX7_forget 13 = .ok (.putfield 91, 3) := by decide +kernel
theorem dX7_forget_16 : decode cX7_forget 16 = .ok (.iload_n 1, 1) := by decide +kernel
theorem dX7_forget_17 : decode cX7_forget 17 = .ok (.ireturn, 1) := by decide +kernel
theorem dX7_seed_0 : decode cX7_seed 0 = .ok (.iload_n 1, 1) := by decide +kernel
theorem dX7_seed_1 : decode cX7_seed 1 = .ok (.ifCond .ge 6, 3) := by decide +kernel
theorem dX7_seed_4 : decode cX7_seed 4 = .ok (.ldc 113, 2) := by decide +kernel
theorem dX7_seed_6 : decode cX7_seed 6 = .ok (.ireturn, 1) := by decide +kernel
theorem dX7_seed_7 : decode cX7_seed 7 = .ok (.aload_n 0, 1) := by decide +kernel
theorem dX7_seed_8 : decode cX7_seed 8 = .ok (.getfield 57, 3) := by decide +kernel
theorem dX7_seed_11 : decode cX7_seed 11 = .ok (.istore_n 2, 1) := by decide +kernel
theorem dX7_seed_12 : decode cX7_seed 12 = .ok (.aload_n 0, 1) := by decide +kernel
theorem dX7_seed_13 : decode cX7_seed 13 = .ok (.iload_n 1, 1) := by decide +kernel
theorem dX7_seed_14 : decode cX7_seed 14 = .ok (.putfield 57, 3) := by decide +kernel
theorem dX7_seed_17 : decode cX7_seed 17 = .ok (.iload_n 2, 1) := by decide +kernel
theorem dX7_seed_18 : decode cX7_seed 18 = .ok (.ireturn, 1) := by decide +kernel
theorem dX7_keep_0 : decode cX7_keep 0 = .ok (.iload_n 1, 1) := by decide +kernel
theorem dX7_keep_1 : decode cX7_keep 1 = .ok (.iconst 2, 1) := by decide +kernel
theorem dX7_keep_2 : decode cX7_keep 2 = .ok (.invokestatic 114, 3) := by decide +kernel
theorem dX7_keep_5 : decode cX7_keep 5 = .ok (.ifCond .ne 6, 3) := by decide +kernel
theorem dX7_keep_8 : decode cX7_keep 8 = .ok (.ldc 118, 2) := by decide +kernel
theorem dX7_keep_10 : decode cX7_keep 10 = .ok (.ireturn, 1) := by decide +kernel
theorem dX7_keep_11 : decode cX7_keep 11 = .ok (.aload_n 0, 1) := by decide +kernel
theorem dX7_keep_12 : decode cX7_keep 12 = .ok (.getfield 53, 3) := by decide +kernel
theorem dX7_keep_15 : decode cX7_keep 15 = .ok (.iload_n 1, 1) := by decide +kernel
theorem dX7_keep_16 : decode cX7_keep 16 = .ok (.aaload, 1) := by decide +kernel
theorem dX7_keep_17 : decode cX7_keep 17 = .ok (.getfield 231, 3) := by decide +kernel
theorem dX7_keep_20 : decode cX7_keep 20 = .ok (.aload_n 0, 1) := by decide +kernel
theorem dX7_keep_21 : decode cX7_keep 21 = .ok (.getfield 10, 3) := by decide +kernel
theorem dX7_keep_24 : decode cX7_keep 24 = .ok (.invokevirtual 232, 3) := by decide +kernel
theorem dX7_keep_27 : decode cX7_keep 27 = .ok (.aload_n 0, 1) := by decide +kernel
theorem dX7_keep_28 : decode cX7_keep 28 = .ok (.getfield 53, 3) := by decide +kernel
theorem dX7_keep_31 : decode cX7_keep 31 = .ok (.iload_n 1, 1) := by decide +kernel
theorem dX7_keep_32 : decode cX7_keep 32 = .ok (.aaload, 1) := by decide +kernel
theorem dX7_keep_33 : decode cX7_keep 33 = .ok (.aload_n 0, 1) := by decide +kernel
theorem dX7_keep_34 : decode cX7_keep 34 = .ok (.getfield 57, 3) := by decide +kernel
theorem dX7_keep_37 : decode cX7_keep 37 = .ok (.putfield 235, 3) := by decide +kernel
theorem dX7_keep_40 : decode cX7_keep 40 = .ok (.aload_n 0, 1) := by decide +kernel
theorem dX7_keep_41 : decode cX7_keep 41 = .ok (.getfield 53, 3) := by decide +kernel
theorem dX7_keep_44 : decode cX7_keep 44 = .ok (.iload_n 1, 1) := by decide +kernel
theorem dX7_keep_45 : decode cX7_keep 45 = .ok (.aaload, 1) := by decide +kernel
theorem dX7_keep_46 : decode cX7_keep 46 = .ok (.iconst 1, 1) := by decide +kernel
theorem dX7_keep_47 : decode cX7_keep 47 = .ok (.putfield 238, 3) := by decide +kernel
theorem dX7_keep_50 : decode cX7_keep 50 = .ok (.aload_n 0, 1) := by decide +kernel
theorem dX7_keep_51 : decode cX7_keep 51 = .ok (.getfield 19, 3) := by decide +kernel
theorem dX7_keep_54 : decode cX7_keep 54 = .ok (.iconst 0, 1) := by decide +kernel
theorem dX7_keep_55 : decode cX7_keep 55 = .ok (.putfield 110, 3) := by decide +kernel
theorem dX7_keep_58 : decode cX7_keep 58 = .ok (.iconst 1, 1) := by decide +kernel
theorem dX7_keep_59 : decode cX7_keep 59 = .ok (.ireturn, 1) := by decide +kernel
theorem dX7_goBack_0 : decode cX7_goBack 0 = .ok (.iload_n 1, 1) := by decide +kernel
theorem dX7_goBack_1 : decode cX7_goBack 1 = .ok (.iconst 2, 1) := by decide +kernel
theorem dX7_goBack_2 : decode cX7_goBack 2 = .ok (.invokestatic 114, 3) := by decide +kernel
theorem dX7_goBack_5 : decode cX7_goBack 5 = .ok (.ifCond .ne 6, 3) := by decide +kernel
theorem dX7_goBack_8 : decode cX7_goBack 8 = .ok (.ldc 118, 2) := by decide +kernel
theorem dX7_goBack_10 : decode cX7_goBack 10 = .ok (.ireturn, 1) := by decide +kernel
theorem dX7_goBack_11 : decode cX7_goBack 11 = .ok (.aload_n 0, 1) := by decide +kernel
theorem dX7_goBack_12 : decode cX7_goBack 12 = .ok (.getfield 53, 3) := by decide +kernel
theorem dX7_goBack_15 : decode cX7_goBack 15 = .ok (.iload_n 1, 1) := by decide +kernel
theorem dX7_goBack_16 : decode cX7_goBack 16 = .ok (.aaload, 1) := by decide +kernel
theorem dX7_goBack_17 : decode cX7_goBack 17 = .ok (.getfield 238, 3) := by decide +kernel
theorem dX7_goBack_20 : decode cX7_goBack 20 = .ok (.ifCond .ne 6, 3) := by decide +kernel
theorem dX7_goBack_23 : decode cX7_goBack 23 = .ok (.ldc 186, 2) := by decide +kernel
theorem dX7_goBack_25 : decode cX7_goBack 25 = .ok (.ireturn, 1) := by decide +kernel
theorem dX7_goBack_26 : decode cX7_goBack 26 = .ok (.aload_n 0, 1) := by decide +kernel
theorem dX7_goBack_27 : decode cX7_goBack 27 = .ok (.getfield 10, 3) := by decide +kernel
theorem dX7_goBack_30 : decode cX7_goBack 30 = .ok (.aload_n 0, 1) := by decide +kernel
theorem dX7_goBack_31 : decode cX7_goBack 31 = .ok (.getfield 53, 3) := by decide +kernel
theorem dX7_goBack_34 : decode cX7_goBack 34 = .ok (.iload_n 1, 1) := by decide +kernel
theorem dX7_goBack_35 : decode cX7_goBack 35 = .ok (.aaload, 1) := by decide +kernel
theorem dX7_goBack_36 : decode cX7_goBack 36 = .ok (.getfield 231, 3) := by decide +kernel
theorem dX7_goBack_39 : decode cX7_goBack 39 = .ok (.invokevirtual 232, 3) := by decide +kernel
theorem dX7_goBack_42 : decode cX7_goBack 42 = .ok (.aload_n 0, 1) := by decide +kernel
theorem dX7_goBack_43 : decode cX7_goBack 43 = .ok (.getfield 10, 3) := by decide +kernel
theorem dX7_goBack_46 : decode cX7_goBack 46 = .ok (.invokevirtual 242, 3) := by decide +kernel
theorem dX7_goBack_49 : decode cX7_goBack 49 = .ok (.aload_n 0, 1) := by decide +kernel
theorem dX7_goBack_50 : decode cX7_goBack 50 = .ok (.aload_n 0, 1) := by decide +kernel
theorem dX7_goBack_51 : decode cX7_goBack 51 = .ok (.getfield 53, 3) := by decide +kernel
theorem dX7_goBack_54 : decode cX7_goBack 54 = .ok (.iload_n 1, 1) := by decide +kernel
theorem dX7_goBack_55 : decode cX7_goBack 55 = .ok (.aaload, 1) := by decide +kernel
theorem dX7_goBack_56 : decode cX7_goBack 56 = .ok (.getfield 235, 3) := by decide +kernel
theorem dX7_goBack_59 : decode cX7_goBack 59 = .ok (.putfield 57, 3) := by decide +kernel
theorem dX7_goBack_62 : decode cX7_goBack 62 = .ok (.aload_n 0, 1) := by decide +kernel
theorem dX7_goBack_63 : decode cX7_goBack 63 = .ok (.getfield 19, 3) := by decide +kernel
theorem dX7_goBack_66 : decode cX7_goBack 66 = .ok (.iconst 0, 1) := by decide +kernel
theorem dX7_goBack_67 : decode cX7_goBack 67 = .ok (.putfield 110, 3) := by decide +kernel
theorem dX7_goBack_70 : decode cX7_goBack 70 = .ok (.iconst 1, 1) := by decide +kernel
theorem dX7_goBack_71 : decode cX7_goBack 71 = .ok (.ireturn, 1) := by decide +kernel
theorem dX7_pairUp_0 : decode cX7_pairUp 0 = .ok (.aload_n 0, 1) := by decide +kernel
theorem dX7_pairUp_1 : decode cX7_pairUp 1 = .ok (.getfield 26, 3) := by decide +kernel
theorem dX7_pairUp_4 : decode cX7_pairUp 4 = .ok (.aload_n 0, 1) := by decide +kernel
theorem dX7_pairUp_5 : decode cX7_pairUp 5 = .ok (.getfield 10, 3) := by decide +kernel
theorem dX7_pairUp_8 : decode cX7_pairUp 8 = .ok (.invokevirtual 81, 3) := by decide +kernel
theorem dX7_pairUp_11 : decode cX7_pairUp 11 = .ok (.aload_n 0, 1) := by decide +kernel
theorem dX7_pairUp_12 : decode cX7_pairUp 12 = .ok (.getfield 26, 3) := by decide +kernel
theorem dX7_pairUp_15 : decode cX7_pairUp 15 = .ok (.iconst 0, 1) := by decide +kernel
theorem dX7_pairUp_16 : decode cX7_pairUp 16 = .ok (.invokevirtual 245, 3) := by decide +kernel
theorem dX7_pairUp_19 : decode cX7_pairUp 19 = .ok (.ireturn, 1) := by decide +kernel
theorem dX7_putAsDeed_0 : decode cX7_putAsDeed 0 = .ok (.aload_n 0, 1) := by decide +kernel
theorem dX7_putAsDeed_1 : decode cX7_putAsDeed 1 = .ok (.getfield 10, 3) := by decide +kernel
theorem dX7_putAsDeed_4 : decode cX7_putAsDeed 4 = .ok (.iload_n 1, 1) := by decide +kernel
theorem dX7_putAsDeed_5 : decode cX7_putAsDeed 5 = .ok (.invokevirtual 248, 3) := by decide +kernel
theorem dX7_putAsDeed_8 : decode cX7_putAsDeed 8 = .ok (.ifCond .ne 6, 3) := by decide +kernel
theorem dX7_putAsDeed_11 : decode cX7_putAsDeed 11 = .ok (.ldc 193, 2) := by decide +kernel
theorem dX7_putAsDeed_13 : decode cX7_putAsDeed 13 = .ok (.ireturn, 1) := by decide +kernel
theorem dX7_putAsDeed_14 : decode cX7_putAsDeed 14 = .ok (.aload_n 0, 1) := by decide +kernel
theorem dX7_putAsDeed_15 : decode cX7_putAsDeed 15 = .ok (.getfield 19, 3) := by decide +kernel
theorem dX7_putAsDeed_18 : decode cX7_putAsDeed 18 = .ok (.aload_n 0, 1) := by decide +kernel
theorem dX7_putAsDeed_19 : decode cX7_putAsDeed 19 = .ok (.getfield 10, 3) := by decide +kernel
theorem dX7_putAsDeed_22 : decode cX7_putAsDeed 22 = .ok (.invokevirtual 176, 3) := by decide +kernel
theorem dX7_putAsDeed_25 : decode cX7_putAsDeed 25 = .ok (.aload_n 0, 1) := by decide +kernel
theorem dX7_putAsDeed_26 : decode cX7_putAsDeed 26 = .ok (.getfield 10, 3) := by decide +kernel
theorem dX7_putAsDeed_29 : decode cX7_putAsDeed 29 = .ok (.iload_n 1, 1) := by decide +kernel
theorem dX7_putAsDeed_30 : decode cX7_putAsDeed 30 = .ok (.invokevirtual 190, 3) := by decide +kernel
theorem dX7_putAsDeed_33 : decode cX7_putAsDeed 33 = .ok (.ireturn, 1) := by decide +kernel
theorem dX7_draw_0 : decode cX7_draw 0 = .ok (.aload_n 0, 1) := by decide +kernel
theorem dX7_draw_1 : decode cX7_draw 1 = .ok (.aload_n 0, 1) := by decide +kernel
theorem dX7_draw_2 : decode cX7_draw 2 = .ok (.getfield 57, 3) := by decide +kernel
theorem dX7_draw_5 : decode cX7_draw 5 = .ok (.i2l, 1) := by decide +kernel
theorem dX7_draw_6 : decode cX7_draw 6 = .ok (.ldc2_w 252, 3) := by decide +kernel
theorem dX7_draw_9 : decode cX7_draw 9 = .ok (.lmul, 1) := by decide +kernel
theorem dX7_draw_10 : decode cX7_draw 10 = .ok (.ldc2_w 254, 3) := by decide +kernel
theorem dX7_draw_13 : decode cX7_draw 13 = .ok (.ladd, 1) := by decide +kernel
theorem dX7_draw_14 : decode cX7_draw 14 = .ok (.ldc2_w 256, 3) := by decide +kernel
theorem dX7_draw_17 : decode cX7_draw 17 = .ok (.lrem, 1) := by decide +kernel
theorem dX7_draw_18 : decode cX7_draw 18 = .ok (.l2i, 1) := by decide +kernel
theorem dX7_draw_19 : decode cX7_draw 19 = .ok (.putfield 57, 3) := by decide +kernel
theorem dX7_draw_22 : decode cX7_draw 22 = .ok (.iload_n 1, 1) := by decide +kernel
theorem dX7_draw_23 : decode cX7_draw 23 = .ok (.iconst 1, 1) := by decide +kernel
theorem dX7_draw_24 : decode cX7_draw 24 = .ok (.if_icmp .ge 7, 3) := by decide +kernel
theorem dX7_draw_27 : decode cX7_draw 27 = .ok (.iconst 0, 1) := by decide +kernel
theorem dX7_draw_28 : decode cX7_draw 28 = .ok (.goto 13, 3) := by decide +kernel
theorem dX7_draw_31 : decode cX7_draw 31 = .ok (.aload_n 0, 1) := by decide +kernel
theorem dX7_draw_32 : decode cX7_draw 32 = .ok (.getfield 57, 3) := by decide +kernel
theorem dX7_draw_35 : decode cX7_draw 35 = .ok (.ldc_w 258, 3) := by decide +kernel
theorem dX7_draw_38 : decode cX7_draw 38 = .ok (.idiv, 1) := by decide +kernel
theorem dX7_draw_39 : decode cX7_draw 39 = .ok (.iload_n 1, 1) := by decide +kernel
theorem dX7_draw_40 : decode cX7_draw 40 = .ok (.irem, 1) := by decide +kernel
theorem dX7_draw_41 : decode cX7_draw 41 = .ok (.ireturn, 1) := by decide +kernel
theorem dX7_isIn_0 : decode cX7_isIn 0 = .ok (.iload_n 0, 1) := by decide +kernel
theorem dX7_isIn_1 : decode cX7_isIn 1 = .ok (.ifCond .lt 12, 3) := by decide +kernel
theorem dX7_isIn_4 : decode cX7_isIn 4 = .ok (.iload_n 0, 1) := by decide +kernel
theorem dX7_isIn_5 : decode cX7_isIn 5 = .ok (.iload_n 1, 1) := by decide +kernel
theorem dX7_isIn_6 : decode cX7_isIn 6 = .ok (.if_icmp .ge 7, 3) := by decide +kernel
theorem dX7_isIn_9 : decode cX7_isIn 9 = .ok (.iconst 1, 1) := by decide +kernel
theorem dX7_isIn_10 : decode cX7_isIn 10 = .ok (.goto 4, 3) := by decide +kernel
theorem dX7_isIn_13 : decode cX7_isIn 13 = .ok (.iconst 0, 1) := by decide +kernel
theorem dX7_isIn_14 : decode cX7_isIn 14 = .ok (.ireturn, 1) := by decide +kernel
theorem dX7_kindOf_0 : decode cX7_kindOf 0 = .ok (.iload_n 0, 1) := by decide +kernel
theorem dX7_kindOf_1 : decode cX7_kindOf 1 = .ok (.sipush 10000, 3) := by decide +kernel
theorem dX7_kindOf_4 : decode cX7_kindOf 4 = .ok (.imul, 1) := by decide +kernel
theorem dX7_kindOf_5 : decode cX7_kindOf 5 = .ok (.iload_n 1, 1) := by decide +kernel
theorem dX7_kindOf_6 : decode cX7_kindOf 6 = .ok (.iadd, 1) := by decide +kernel
theorem dX7_kindOf_7 : decode cX7_kindOf 7 = .ok (.ireturn, 1) := by decide +kernel
theorem dX7_gradeOf_0 : decode cX7_gradeOf 0 = .ok (.iload_n 0, 1) := by decide +kernel
theorem dX7_gradeOf_1 : decode cX7_gradeOf 1 = .ok (.sipush 10000, 3) := by decide +kernel
theorem dX7_gradeOf_4 : decode cX7_gradeOf 4 = .ok (.idiv, 1) := by decide +kernel
theorem dX7_gradeOf_5 : decode cX7_gradeOf 5 = .ok (.ireturn, 1) := by decide +kernel
theorem dX7_sizeOf_0 : decode cX7_sizeOf 0 = .ok (.iload_n 0, 1) := by decide +kernel
theorem dX7_sizeOf_1 : decode cX7_sizeOf 1 = .ok (.sipush 10000, 3) := by decide +kernel
theorem dX7_sizeOf_4 : decode cX7_sizeOf 4 = .ok (.irem, 1) := by decide +kernel
theorem dX7_sizeOf_5 : decode cX7_sizeOf 5 = .ok (.ireturn, 1) := by decide +kernel
theorem dX8_init_0 : decode cX8_init 0 = .ok (.aload_n 0, 1) := by decide +kernel
theorem dX8_init_1 : decode cX8_init 1 = .ok (.invokespecial 1, 3) := by decide +kernel
theorem dX8_init_4 : decode cX8_init 4 = .ok (.aload_n 0, 1) := by decide +kernel
theorem dX8_init_5 : decode cX8_init 5 = .ok (.sipush 5225, 3) := by decide +kernel
theorem dX8_init_8 : decode cX8_init 8 = .ok (.newarray .int, 2) := by decide +kernel
theorem dX8_init_10 : decode cX8_init 10 = .ok (.putfield 7, 3) := by decide +kernel
theorem dX8_init_13 : decode cX8_init 13 = .ok (.aload_n 0, 1) := by decide +kernel
theorem dX8_init_14 : decode cX8_init 14 = .ok (.iconst 2, 1) := by decide +kernel
theorem dX8_init_15 : decode cX8_init 15 = .ok (.newarray .boolean, 2) := by decide +kernel
theorem dX8_init_17 : decode cX8_init 17 = .ok (.putfield 13, 3) := by decide +kernel
theorem dX8_init_20 : decode cX8_init 20 = .ok (.aload_n 0, 1) := by decide +kernel
theorem dX8_init_21 : decode cX8_init 21 = .ok (.iconst 2, 1) := by decide +kernel
theorem dX8_init_22 : decode cX8_init 22 = .ok (.newarray .int, 2) := by decide +kernel
theorem dX8_init_24 : decode cX8_init 24 = .ok (.putfield 17, 3) := by decide +kernel
theorem dX8_init_27 : decode cX8_init 27 = .ok (.aload_n 0, 1) := by decide +kernel
theorem dX8_init_28 : decode cX8_init 28 = .ok (.bipush 24, 2) := by decide +kernel
theorem dX8_init_30 : decode cX8_init 30 = .ok (.newarray .int, 2) := by decide +kernel
theorem dX8_init_32 : decode cX8_init 32 = .ok (.putfield 20, 3) := by decide +kernel
theorem dX8_init_35 : decode cX8_init 35 = .ok (.aload_n 0, 1) := by decide +kernel
theorem dX8_init_36 : decode cX8_init 36 = .ok (.bipush 25, 2) := by decide +kernel
theorem dX8_init_38 : decode cX8_init 38 = .ok (.newarray .int, 2) := by decide +kernel
theorem dX8_init_40 : decode cX8_init 40 = .ok (.putfield 23, 3) := by decide +kernel
theorem dX8_init_43 : decode cX8_init 43 = .ok (.aload_n 0, 1) := by decide +kernel
theorem dX8_init_44 : decode cX8_init 44 = .ok (.bipush 25, 2) := by decide +kernel
theorem dX8_init_46 : decode cX8_init 46 = .ok (.newarray .int, 2) := by decide +kernel
theorem dX8_init_48 : decode cX8_init 48 = .ok (.putfield 26, 3) := by decide +kernel
theorem dX8_init_51 : decode cX8_init 51 = .ok (.aload_n 0, 1) := by decide +kernel
theorem dX8_init_52 : decode cX8_init 52 = .ok (.bipush 6, 2) := by decide +kernel
theorem dX8_init_54 : decode cX8_init 54 = .ok (.newarray .int, 2) := by decide +kernel
theorem dX8_init_56 : decode cX8_init 56 = .ok (.putfield 29, 3) := by decide +kernel
theorem dX8_init_59 : decode cX8_init 59 = .ok (.aload_n 0, 1) := by decide +kernel
theorem dX8_init_60 : decode cX8_init 60 = .ok (.bipush 6, 2) := by decide +kernel
theorem dX8_init_62 : decode cX8_init 62 = .ok (.newarray .int, 2) := by decide +kernel
theorem dX8_init_64 : decode cX8_init 64 = .ok (.putfield 32, 3) := by decide +kernel
theorem dX8_init_67 : decode cX8_init 67 = .ok (.aload_n 0, 1) := by decide +kernel
theorem dX8_init_68 : decode cX8_init 68 = .ok (.bipush 6, 2) := by decide +kernel
theorem dX8_init_70 : decode cX8_init 70 = .ok (.newarray .boolean, 2) := by decide +kernel
theorem dX8_init_72 : decode cX8_init 72 = .ok (.putfield 35, 3) := by decide +kernel
theorem dX8_init_75 : decode cX8_init 75 = .ok (.aload_n 0, 1) := by decide +kernel
theorem dX8_init_76 : decode cX8_init 76 = .ok (.bipush 48, 2) := by decide +kernel
theorem dX8_init_78 : decode cX8_init 78 = .ok (.newarray .int, 2) := by decide +kernel
theorem dX8_init_80 : decode cX8_init 80 = .ok (.putfield 38, 3) := by decide +kernel
theorem dX8_init_83 : decode cX8_init 83 = .ok (.aload_n 0, 1) := by decide +kernel
theorem dX8_init_84 : decode cX8_init 84 = .ok (.sipush 490, 3) := by decide +kernel
theorem dX8_init_87 : decode cX8_init 87 = .ok (.newarray .int, 2) := by decide +kernel
theorem dX8_init_89 : decode cX8_init 89 = .ok (.putfield 41, 3) := by decide +kernel
theorem dX8_init_92 : decode cX8_init 92 = .ok (.aload_n 0, 1) := by decide +kernel
theorem dX8_init_93 : decode cX8_init 93 = .ok (.iconst 0, 1) := by decide +kernel
theorem dX8_init_94 : decode cX8_init 94 = .ok (.putfield 44, 3) := by decide +kernel
theorem dX8_init_97 : decode cX8_init 97 = .ok (.return_, 1) := by decide +kernel
theorem dX8_in_0 : decode cX8_in 0 = .ok (.lload_n 0, 1) := by decide +kernel
theorem dX8_in_1 : decode cX8_in 1 = .ok (.lload_n 2, 1) := by decide +kernel
theorem dX8_in_2 : decode cX8_in 2 = .ok (.lcmp, 1) := by decide +kernel
theorem dX8_in_3 : decode cX8_in 3 = .ok (.ifCond .lt 14, 3) := by decide +kernel
theorem dX8_in_6 : decode cX8_in 6 = .ok (.lload_n 0, 1) := by decide +kernel
theorem dX8_in_7 : decode cX8_in 7 = .ok (.lload 4, 2) := by decide +kernel
theorem dX8_in_9 : decode cX8_in 9 = .ok (.lcmp, 1) := by decide +kernel
theorem dX8_in_10 : decode cX8_in 10 = .ok (.ifCond .gt 7, 3) := by decide +kernel
theorem dX8_in_13 : decode cX8_in 13 = .ok (.iconst 1, 1) := by decide +kernel
theorem dX8_in_14 : decode cX8_in 14 = .ok (.goto 4, 3) := by decide +kernel
theorem dX8_in_17 : decode cX8_in 17 = .ok (.iconst 0, 1) := by decide +kernel
theorem dX8_in_18 : decode cX8_in 18 = .ok (.ireturn, 1) := by decide +kernel
theorem dX8_copy_0 : decode cX8_copy 0 = .ok (.iconst 0, 1) := by decide +kernel
theorem dX8_copy_1 : decode cX8_copy 1 = .ok (.istore_n 3, 1) := by decide +kernel
theorem dX8_copy_2 : decode cX8_copy 2 = .ok (.iload_n 3, 1) := by decide +kernel
theorem dX8_copy_3 : decode cX8_copy 3 = .ok (.sipush 275, 3) := by decide +kernel
theorem dX8_copy_6 : decode cX8_copy 6 = .ok (.if_icmp .ge 25, 3) := by decide +kernel
theorem dX8_copy_9 : decode cX8_copy 9 = .ok (.aload_n 0, 1) := by decide +kernel
theorem dX8_copy_10 : decode cX8_copy 10 = .ok (.getfield 7, 3) := by decide +kernel
theorem dX8_copy_13 : decode cX8_copy 13 = .ok (.iload_n 2, 1) := by decide +kernel
theorem dX8_copy_14 : decode cX8_copy 14 = .ok (.iload_n 3, 1) := by decide +kernel
theorem dX8_copy_15 : decode cX8_copy 15 = .ok (.iadd, 1) := by decide +kernel
theorem dX8_copy_16 : decode cX8_copy 16 = .ok (.aload_n 0, 1) := by decide +kernel
theorem dX8_copy_17 : decode cX8_copy 17 = .ok (.getfield 7, 3) := by decide +kernel
theorem dX8_copy_20 : decode cX8_copy 20 = .ok (.iload_n 1, 1) := by decide +kernel
theorem dX8_copy_21 : decode cX8_copy 21 = .ok (.iload_n 3, 1) := by decide +kernel
theorem dX8_copy_22 : decode cX8_copy 22 = .ok (.iadd, 1) := by decide +kernel
theorem dX8_copy_23 : decode cX8_copy 23 = .ok (.iaload, 1) := by decide +kernel
theorem dX8_copy_24 : decode cX8_copy 24 = .ok (.iastore, 1) := by decide +kernel
theorem dX8_copy_25 : decode cX8_copy 25 = .ok (.iinc 3 1, 3) := by decide +kernel
theorem dX8_copy_28 : decode cX8_copy 28 = .ok (.goto (-26), 3) := by decide +kernel
theorem dX8_copy_31 : decode cX8_copy 31 = .ok (.return_, 1) := by decide +kernel
theorem dX8_isGrade_0 : decode cX8_isGrade 0 = .ok (.iload_n 0, 1) := by decide +kernel
theorem dX8_isGrade_1 : decode cX8_isGrade 1 = .ok (.i2l, 1) := by decide +kernel
theorem dX8_isGrade_2 : decode cX8_isGrade 2 = .ok (.lconst 0, 1) := by decide +kernel
theorem dX8_isGrade_3 : decode cX8_isGrade 3 = .ok (.ldc2_w 48, 3) := by decide +kernel
theorem dX8_isGrade_6 : decode cX8_isGrade 6 = .ok (.invokestatic 50, 3) := by decide +kernel
theorem dX8_isGrade_9 : decode cX8_isGrade 9 = .ok (.ireturn, 1) := by decide +kernel
theorem dX8_isSize_0 : decode cX8_isSize 0 = .ok (.iload_n 0, 1) := by decide +kernel
theorem dX8_isSize_1 : decode cX8_isSize 1 = .ok (.i2l, 1) := by decide +kernel
theorem dX8_isSize_2 : decode cX8_isSize 2 = .ok (.lconst 0, 1) := by decide +kernel
theorem dX8_isSize_3 : decode cX8_isSize 3 = .ok (.ldc2_w 54, 3) := by decide +kernel
theorem dX8_isSize_6 : decode cX8_isSize 6 = .ok (.invokestatic 50, 3) := by decide +kernel
theorem dX8_isSize_9 : decode cX8_isSize 9 = .ok (.ireturn, 1) := by decide +kernel
theorem dX8_isShaft_0 : decode cX8_isShaft 0 = .ok (.iload_n 1, 1) := by decide +kernel
theorem dX8_isShaft_1 : decode cX8_isShaft 1 = .ok (.i2l, 1) := by decide +kernel
theorem dX8_isShaft_2 : decode cX8_isShaft 2 = .ok (.lconst 0, 1) := by decide +kernel
theorem dX8_isShaft_3 : decode cX8_isShaft 3 = .ok (.aload_n 0, 1) := by decide +kernel
theorem dX8_isShaft_4 : decode cX8_isShaft 4 = .ok (.getfield 7, 3) := by decide +kernel
theorem dX8_isShaft_7 : decode cX8_isShaft 7 = .ok (.bipush 8, 2) := by decide +kernel
theorem dX8_isShaft_9 : decode cX8_isShaft 9 = .ok (.iaload, 1) := by decide +kernel
theorem dX8_isShaft_10 : decode cX8_isShaft 10 = .ok (.iconst 1, 1) := by decide +kernel
theorem dX8_isShaft_11 : decode cX8_isShaft 11 = .ok (.isub, 1) := by decide +kernel
theorem dX8_isShaft_12 : decode cX8_isShaft 12 = .ok (.i2l, 1) := by decide +kernel
theorem dX8_isShaft_13 : decode cX8_isShaft 13 = .ok (.invokestatic 50, 3) := by decide +kernel
theorem dX8_isShaft_16 : decode cX8_isShaft 16 = .ok (.ireturn, 1) := by decide +kernel
theorem dX8_isBore_0 : decode cX8_isBore 0 = .ok (.iload_n 1, 1) := by decide +kernel
theorem dX8_isBore_1 : decode cX8_isBore 1 = .ok (.i2l, 1) := by decide +kernel
theorem dX8_isBore_2 : decode cX8_isBore 2 = .ok (.lconst 0, 1) := by decide +kernel
theorem dX8_isBore_3 : decode cX8_isBore 3 = .ok (.aload_n 0, 1) := by decide +kernel
theorem dX8_isBore_4 : decode cX8_isBore 4 = .ok (.getfield 7, 3) := by decide +kernel
theorem dX8_isBore_7 : decode cX8_isBore 7 = .ok (.bipush 57, 2) := by decide +kernel
theorem dX8_isBore_9 : decode cX8_isBore 9 = .ok (.iaload, 1) := by decide +kernel
theorem dX8_isBore_10 : decode cX8_isBore 10 = .ok (.iconst 1, 1) := by decide +kernel
theorem dX8_isBore_11 : decode cX8_isBore 11 = .ok (.isub, 1) := by decide +kernel
theorem dX8_isBore_12 : decode cX8_isBore 12 = .ok (.i2l, 1) := by decide +kernel
theorem dX8_isBore_13 : decode cX8_isBore 13 = .ok (.invokestatic 50, 3) := by decide +kernel
theorem dX8_isBore_16 : decode cX8_isBore 16 = .ok (.ireturn, 1) := by decide +kernel
theorem dX8_begin_0 : decode cX8_begin 0 = .ok (.aload_n 0, 1) := by decide +kernel
theorem dX8_begin_1 : decode cX8_begin 1 = .ok (.getfield 7, 3) := by decide +kernel
theorem dX8_begin_4 : decode cX8_begin 4 = .ok (.bipush 33, 2) := by decide +kernel
theorem dX8_begin_6 : decode cX8_begin 6 = .ok (.iload_n 1, 1) := by decide +kernel
theorem dX8_begin_7 : decode cX8_begin 7 = .ok (.iadd, 1) := by decide +kernel
theorem dX8_begin_8 : decode cX8_begin 8 = .ok (.iaload, 1) := by decide +kernel
theorem dX8_begin_9 : decode cX8_begin 9 = .ok (.aload_n 0, 1) := by decide +kernel
theorem dX8_begin_10 : decode cX8_begin 10 = .ok (.getfield 7, 3) := by decide +kernel
theorem dX8_begin_13 : decode cX8_begin 13 = .ok (.iconst 0, 1) := by decide +kernel
theorem dX8_begin_14 : decode cX8_begin 14 = .ok (.aload_n 0, 1) := by decide +kernel
theorem dX8_begin_15 : decode cX8_begin 15 = .ok (.getfield 7, 3) := by decide +kernel
theorem dX8_begin_18 : decode cX8_begin 18 = .ok (.bipush 9, 2) := by decide +kernel
theorem dX8_begin_20 : decode cX8_begin 20 = .ok (.iload_n 1, 1) := by decide +kernel
theorem dX8_begin_21 : decode cX8_begin 21 = .ok (.iadd, 1) := by decide +kernel
theorem dX8_begin_22 : decode cX8_begin 22 = .ok (.iaload, 1) := by decide +kernel
theorem dX8_begin_23 : decode cX8_begin 23 = .ok (.iadd, 1) := by decide +kernel
theorem dX8_begin_24 : decode cX8_begin 24 = .ok (.iaload, 1) := by decide +kernel
theorem dX8_begin_25 : decode cX8_begin 25 = .ok (.iadd, 1) := by decide +kernel
theorem dX8_begin_26 : decode cX8_begin 26 = .ok (.ireturn, 1) := by decide +kernel
theorem dX8_end_0 : decode cX8_end 0 = .ok (.aload_n 0, 1) := by decide +kernel
theorem dX8_end_1 : decode cX8_end 1 = .ok (.getfield 7, 3) := by decide +kernel
theorem dX8_end_4 : decode cX8_end 4 = .ok (.bipush 33, 2) := by decide +kernel
theorem dX8_end_6 : decode cX8_end 6 = .ok (.iload_n 1, 1) := by decide +kernel
theorem dX8_end_7 : decode cX8_end 7 = .ok (.iadd, 1) := by decide +kernel
theorem dX8_end_8 : decode cX8_end 8 = .ok (.iaload, 1) := by decide +kernel
theorem dX8_end_9 : decode cX8_end 9 = .ok (.aload_n 0, 1) := by decide +kernel
theorem dX8_end_10 : decode cX8_end 10 = .ok (.getfield 7, 3) := by decide +kernel
theorem dX8_end_13 : decode cX8_end 13 = .ok (.iconst 4, 1) := by decide +kernel
theorem dX8_end_14 : decode cX8_end 14 = .ok (.aload_n 0, 1) := by decide +kernel
theorem dX8_end_15 : decode cX8_end 15 = .ok (.getfield 7, 3) := by decide +kernel
theorem dX8_end_18 : decode cX8_end 18 = .ok (.bipush 9, 2) := by decide +kernel
theorem dX8_end_20 : decode cX8_end 20 = .ok (.iload_n 1, 1) := by decide +kernel
theorem dX8_end_21 : decode cX8_end 21 = .ok (.iadd, 1) := by decide +kernel
theorem dX8_end_22 : decode cX8_end 22 = .ok (.iaload, 1) := by decide +kernel
theorem dX8_end_23 : decode cX8_end 23 = .ok (.iadd, 1) := by decide +kernel
theorem dX8_end_24 : decode cX8_end 24 = .ok (.iaload, 1) := by decide +kernel
theorem dX8_end_25 : decode cX8_end 25 = .ok (.iadd, 1) := by decide +kernel
theorem dX8_end_26 : decode cX8_end 26 = .ok (.ireturn, 1) := by decide +kernel
theorem dX8_fits_0 : decode cX8_fits 0 = .ok (.iload_n 2, 1) := by decide +kernel
theorem dX8_fits_1 : decode cX8_fits 1 = .ok (.i2l, 1) := by decide +kernel
theorem dX8_fits_2 : decode cX8_fits 2 = .ok (.aload_n 0, 1) := by decide +kernel
theorem dX8_fits_3 : decode cX8_fits 3 = .ok (.iload_n 1, 1) := by decide +kernel
theorem dX8_fits_4 : decode cX8_fits 4 = .ok (.invokevirtual 56, 3) := by decide +kernel
theorem dX8_fits_7 : decode cX8_fits 7 = .ok (.i2l, 1) := by decide +kernel
theorem dX8_fits_8 : decode cX8_fits 8 = .ok (.aload_n 0, 1) := by decide +kernel
theorem dX8_fits_9 : decode cX8_fits 9 = .ok (.iload_n 1, 1) := by decide +kernel
theorem dX8_fits_10 : decode cX8_fits 10 = .ok (.invokevirtual 60, 3) := by decide +kernel
theorem dX8_fits_13 : decode cX8_fits 13 = .ok (.i2l, 1) := by decide +kernel
theorem dX8_fits_14 : decode cX8_fits 14 = .ok (.invokestatic 50, 3) := by decide +kernel
theorem dX8_fits_17 : decode cX8_fits 17 = .ok (.ireturn, 1) := by decide +kernel
theorem dX8_closesFirst_0 : decode cX8_closesFirst 0 = .ok (.iconst (-1), 1) := by decide +kernel
theorem dX8_closesFirst_1 : decode cX8_closesFirst 1 = .ok (.istore_n 3, 1) := by decide +kernel
theorem dX8_closesFirst_2 : decode cX8_closesFirst 2 = .ok (.iconst 0, 1) := by decide +kernel
theorem dX8_closesFirst_3 : decode cX8_closesFirst 3 = .ok (.istore 4, 2) := by decide +kernel
theorem dX8_closesFirst_5 : decode cX8_closesFirst 5 = .ok (.iload 4, 2) := by decide +kernel
theorem dX8_closesFirst_7 : decode cX8_closesFirst 7 = .ok (.aload_n 0, 1) := by decide +kernel
theorem dX8_closesFirst_8 : decode cX8_closesFirst 8 = .ok (.getfield 7, 3) := by decide +kernel
theorem dX8_closesFirst_11 : decode cX8_closesFirst 11 = .ok (.bipush 8, 2) := by decide +kernel
theorem dX8_closesFirst_13 : decode cX8_closesFirst 13 = .ok (.iaload, 1) := by decide +kernel
theorem dX8_closesFirst_14 : decode cX8_closesFirst 14 = .ok (.if_icmp .ge 120, 3) := by decide +kernel
theorem dX8_closesFirst_17 : decode cX8_closesFirst 17 = .ok (.aload_n 0, 1) := by decide +kernel
theorem dX8_closesFirst_18 : decode cX8_closesFirst 18 = .ok (.getfield 20, 3) := by decide +kernel
theorem dX8_closesFirst_21 : decode cX8_closesFirst 21 = .ok (.iload 4, 2) := by decide +kernel
theorem dX8_closesFirst_23 : decode cX8_closesFirst 23 = .ok (.iaload, 1) := by decide +kernel
theorem dX8_closesFirst_24 : decode cX8_closesFirst 24 = .ok (.iconst (-1), 1) := by decide +kernel
theorem dX8_closesFirst_25 : decode cX8_closesFirst 25 = .ok (.if_icmp .ne 103, 3) := by decide +kernel
theorem dX8_closesFirst_28 : decode cX8_closesFirst 28 = .ok (.iload_n 1, 1) := by decide +kernel
theorem dX8_closesFirst_29 : decode cX8_closesFirst 29 = .ok (.i2l, 1) := by decide +kernel
theorem dX8_closesFirst_30 : decode cX8_closesFirst 30 = .ok (.aload_n 0, 1) := by decide +kernel
theorem dX8_closesFirst_31 : decode cX8_closesFirst 31 = .ok (.iload 4, 2) := by decide +kernel
theorem dX8_closesFirst_33 : decode cX8_closesFirst 33 = .ok (.invokevirtual 56, 3) := by decide +kernel
theorem dX8_closesFirst_36 : decode cX8_closesFirst 36 = .ok (.iload_n 2, 1) := by decide +kernel
theorem dX8_closesFirst_37 : decode cX8_closesFirst 37 = .ok (.isub, 1) := by decide +kernel
theorem dX8_closesFirst_38 : decode cX8_closesFirst 38 = .ok (.i2l, 1) := by decide +kernel
theorem dX8_closesFirst_39 : decode cX8_closesFirst 39 = .ok (.aload_n 0, 1) := by decide +kernel
theorem dX8_closesFirst_40 : decode cX8_closesFirst 40 = .ok (.iload 4, 2) := by decide +kernel
theorem dX8_closesFirst_42 : decode cX8_closesFirst 42 = .ok (.invokevirtual 60, 3) := by decide +kernel
theorem dX8_closesFirst_45 : decode cX8_closesFirst 45 = .ok (.iload_n 2, 1) := by decide +kernel
theorem dX8_closesFirst_46 : decode cX8_closesFirst 46 = .ok (.iadd, 1) := by decide +kernel
theorem dX8_closesFirst_47 : decode cX8_closesFirst 47 = .ok (.i2l, 1) := by decide +kernel
theorem dX8_closesFirst_48 : decode cX8_closesFirst 48 = .ok (.invokestatic 50, 3) := by decide +kernel
theorem dX8_closesFirst_51 : decode cX8_closesFirst 51 = .ok (.ifCond .eq 77, 3) := by decide +kernel
theorem dX8_closesFirst_54 : decode cX8_closesFirst 54 = .ok (.iload_n 3, 1) := by decide +kernel
theorem dX8_closesFirst_55 : decode cX8_closesFirst 55 = .ok (.iconst (-1), 1) := by decide +kernel
theorem dX8_closesFirst_56 : decode cX8_closesFirst 56 = .ok (.if_icmp .eq 53, 3) := by decide +kernel
theorem dX8_closesFirst_59 : decode cX8_closesFirst 59 = .ok (.aload_n 0, 1) := by decide +kernel
theorem dX8_closesFirst_60 : decode cX8_closesFirst 60 = .ok (.iload 4, 2) := by decide +kernel
theorem dX8_closesFirst_62 : decode cX8_closesFirst 62 = .ok (.invokevirtual 60, 3) := by decide +kernel
theorem dX8_closesFirst_65 : decode cX8_closesFirst 65 = .ok (.aload_n 0, 1) := by decide +kernel
theorem dX8_closesFirst_66 : decode cX8_closesFirst 66 = .ok (.iload_n 3, 1) := by decide +kernel
theorem dX8_closesFirst_67 : decode cX8_closesFirst 67 = .ok (.invokevirtual 60, 3) := by decide +kernel
theorem dX8_closesFirst_70 : decode cX8_closesFirst 70 = .ok (.if_icmp .lt 39, 3) := by decide +kernel
theorem dX8_closesFirst_73 : decode cX8_closesFirst 73 = .ok (.aload_n 0, 1) := by decide +kernel
theorem dX8_closesFirst_74 : decode cX8_closesFirst 74 = .ok (.iload 4, 2) := by decide +kernel
theorem dX8_closesFirst_76 : decode cX8_closesFirst 76 = .ok (.invokevirtual 60, 3) := by decide +kernel
theorem dX8_closesFirst_79 : decode cX8_closesFirst 79 = .ok (.aload_n 0, 1) := by decide +kernel
theorem dX8_closesFirst_80 : decode cX8_closesFirst 80 = .ok (.iload_n 3, 1) := by decide +kernel
theorem dX8_closesFirst_81 : decode cX8_closesFirst 81 = .ok (.invokevirtual 60, 3) := by decide +kernel
theorem dX8_closesFirst_84 : decode cX8_closesFirst 84 = .ok (.if_icmp .ne 29, 3) := by decide +kernel
theorem dX8_closesFirst_87 : decode cX8_closesFirst 87 = .ok (.aload_n 0, 1) := by decide +kernel
theorem dX8_closesFirst_88 : decode cX8_closesFirst 88 = .ok (.getfield 7, 3) := by decide +kernel
theorem dX8_closesFirst_91 : decode cX8_closesFirst 91 = .ok (.bipush 33, 2) := by decide +kernel
theorem dX8_closesFirst_93 : decode cX8_closesFirst 93 = .ok (.iload 4, 2) := by decide +kernel
theorem dX8_closesFirst_95 : decode cX8_closesFirst 95 = .ok (.iadd, 1) := by decide +kernel
theorem dX8_closesFirst_96 : decode cX8_closesFirst 96 = .ok (.iaload, 1) := by decide +kernel
theorem dX8_closesFirst_97 : decode cX8_closesFirst 97 = .ok (.aload_n 0, 1) := by decide +kernel
theorem dX8_closesFirst_98 : decode cX8_closesFirst 98 = .ok (.getfield 7, 3) := by decide +kernel
theorem dX8_closesFirst_101 : decode cX8_closesFirst 101 = .ok (.bipush 33, 2) := by decide +kernel
theorem dX8_closesFirst_103 : decode cX8_closesFirst 103 = .ok (.iload_n 3, 1) := by decide +kernel
theorem dX8_closesFirst_104 : decode cX8_closesFirst 104 = .ok (.iadd, 1) := by decide +kernel
theorem dX8_closesFirst_105 : decode cX8_closesFirst 105 = .ok (.iaload, 1) := by decide +kernel
theorem dX8_closesFirst_106 : decode cX8_closesFirst 106 = .ok (.if_icmp .ge 7, 3) := by decide +kernel
theorem dX8_closesFirst_109 : decode cX8_closesFirst 109 = .ok (.iconst 1, 1) := by decide +kernel
theorem dX8_closesFirst_110 : decode cX8_closesFirst 110 = .ok (.goto 4, 3) := by decide +kernel
theorem dX8_closesFirst_113 : decode cX8_closesFirst 113 = .ok (.iconst 0, 1) := by decide +kernel
theorem dX8_closesFirst_114 : decode cX8_closesFirst 114 = .ok (.istore 5, 2) := by decide +kernel
theorem dX8_closesFirst_116 : decode cX8_closesFirst 116 = .ok (.iload 5, 2) := by decide +kernel
theorem dX8_closesFirst_118 : decode cX8_closesFirst 118 = .ok (.ifCond .eq 8, 3) := by decide +kernel
theorem dX8_closesFirst_121 : decode cX8_closesFirst 121 = .ok (.iload 4, 2) := by decide +kernel
theorem dX8_closesFirst_123 : decode cX8_closesFirst 123 = .ok (.goto 4, 3) := by decide +kernel
theorem dX8_closesFirst_126 : decode cX8_closesFirst 126 = .ok (.iload_n 3, 1) := by decide +kernel
theorem dX8_closesFirst_127 : decode cX8_closesFirst 127 = .ok (.istore_n 3, 1) := by decide +kernel
theorem dX8_closesFirst_128 : decode cX8_closesFirst 128 = .ok (.iinc 4 1, 3) := by decide +kernel
theorem dX8_closesFirst_131 : decode cX8_closesFirst 131 = .ok (.goto (-126), 3) := by decide +kernel
theorem dX8_closesFirst_134 : decode cX8_closesFirst 134 = .ok (.iload_n 3, 1) := by decide +kernel
theorem dX8_closesFirst_135 : decode cX8_closesFirst 135 = .ok (.ireturn, 1) := by decide +kernel
theorem dX8_pairs_0 : decode cX8_pairs 0 = .ok (.aload_n 0, 1) := by decide +kernel
theorem dX8_pairs_1 : decode cX8_pairs 1 = .ok (.getfield 7, 3) := by decide +kernel
theorem dX8_pairs_4 : decode cX8_pairs 4 = .ok (.bipush 57, 2) := by decide +kernel
theorem dX8_pairs_6 : decode cX8_pairs 6 = .ok (.iaload, 1) := by decide +kernel
theorem dX8_pairs_7 : decode cX8_pairs 7 = .ok (.istore_n 3, 1) := by decide +kernel
theorem dX8_pairs_8 : decode cX8_pairs 8 = .ok (.iconst 0, 1) := by decide +kernel
theorem dX8_pairs_9 : decode cX8_pairs 9 = .ok (.istore 4, 2) := by decide +kernel
theorem dX8_pairs_11 : decode cX8_pairs 11 = .ok (.iload 4, 2) := by decide +kernel
theorem dX8_pairs_13 : decode cX8_pairs 13 = .ok (.iload_n 3, 1) := by decide +kernel
