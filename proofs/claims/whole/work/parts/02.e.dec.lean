theorem dX8_comes_18 : decode cX8_comes 18 = .ok (.iadd, 1) := by decide +kernel
theorem dX8_comes_19 : decode cX8_comes 19 = .ok (.iload_n 2, 1) := by decide +kernel
theorem dX8_comes_20 : decode cX8_comes 20 = .ok (.iastore, 1) := by decide +kernel
theorem dX8_comes_21 : decode cX8_comes 21 = .ok (.aload_n 0, 1) := by decide +kernel
theorem dX8_comes_22 : decode cX8_comes 22 = .ok (.getfield 7, 3) := by decide +kernel
theorem dX8_comes_25 : decode cX8_comes 25 = .ok (.bipush 57, 2) := by decide +kernel
theorem dX8_comes_27 : decode cX8_comes 27 = .ok (.dup2, 1) := by decide +kernel
theorem dX8_comes_28 : decode cX8_comes 28 = .ok (.iaload, 1) := by decide +kernel
theorem dX8_comes_29 : decode cX8_comes 29 = .ok (.iconst 1, 1) := by decide +kernel
theorem dX8_comes_30 : decode cX8_comes 30 = .ok (.iadd, 1) := by decide +kernel
theorem dX8_comes_31 : decode cX8_comes 31 = .ok (.iastore, 1) := by decide +kernel
theorem dX8_comes_32 : decode cX8_comes 32 = .ok (.goto 46, 3) := by decide +kernel
theorem dX8_comes_35 : decode cX8_comes 35 = .ok (.aload_n 0, 1) := by decide +kernel
theorem dX8_comes_36 : decode cX8_comes 36 = .ok (.getfield 7, 3) := by decide +kernel
theorem dX8_comes_39 : decode cX8_comes 39 = .ok (.bipush 9, 2) := by decide +kernel
theorem dX8_comes_41 : decode cX8_comes 41 = .ok (.aload_n 0, 1) := by decide +kernel
theorem dX8_comes_42 : decode cX8_comes 42 = .ok (.getfield 7, 3) := by decide +kernel
theorem dX8_comes_45 : decode cX8_comes 45 = .ok (.bipush 8, 2) := by decide +kernel
theorem dX8_comes_47 : decode cX8_comes 47 = .ok (.iaload, 1) := by decide +kernel
theorem dX8_comes_48 : decode cX8_comes 48 = .ok (.iadd, 1) := by decide +kernel
theorem dX8_comes_49 : decode cX8_comes 49 = .ok (.iload_n 1, 1) := by decide +kernel
theorem dX8_comes_50 : decode cX8_comes 50 = .ok (.iastore, 1) := by decide +kernel
theorem dX8_comes_51 : decode cX8_comes 51 = .ok (.aload_n 0, 1) := by decide +kernel
theorem dX8_comes_52 : decode cX8_comes 52 = .ok (.getfield 7, 3) := by decide +kernel
theorem dX8_comes_55 : decode cX8_comes 55 = .ok (.bipush 33, 2) := by decide +kernel
theorem dX8_comes_57 : decode cX8_comes 57 = .ok (.aload_n 0, 1) := by decide +kernel
theorem dX8_comes_58 : decode cX8_comes 58 = .ok (.getfield 7, 3) := by decide +kernel
theorem dX8_comes_61 : decode cX8_comes 61 = .ok (.bipush 8, 2) := by decide +kernel
theorem dX8_comes_63 : decode cX8_comes 63 = .ok (.iaload, 1) := by decide +kernel
theorem dX8_comes_64 : decode cX8_comes 64 = .ok (.iadd, 1) := by decide +kernel
theorem dX8_comes_65 : decode cX8_comes 65 = .ok (.iload_n 2, 1) := by decide +kernel
theorem dX8_comes_66 : decode cX8_comes 66 = .ok (.iastore, 1) := by decide +kernel
theorem dX8_comes_67 : decode cX8_comes 67 = .ok (.aload_n 0, 1) := by decide +kernel
theorem dX8_comes_68 : decode cX8_comes 68 = .ok (.getfield 7, 3) := by decide +kernel
theorem dX8_comes_71 : decode cX8_comes 71 = .ok (.bipush 8, 2) := by decide +kernel
theorem dX8_comes_73 : decode cX8_comes 73 = .ok (.dup2, 1) := by decide +kernel
theorem dX8_comes_74 : decode cX8_comes 74 = .ok (.iaload, 1) := by decide +kernel
theorem dX8_comes_75 : decode cX8_comes 75 = .ok (.iconst 1, 1) := by decide +kernel
theorem dX8_comes_76 : decode cX8_comes 76 = .ok (.iadd, 1) := by decide +kernel
theorem dX8_comes_77 : decode cX8_comes 77 = .ok (.iastore, 1) := by decide +kernel
theorem dX8_comes_78 : decode cX8_comes 78 = .ok (.aload_n 0, 1) := by decide +kernel
theorem dX8_comes_79 : decode cX8_comes 79 = .ok (.iload_n 1, 1) := by decide +kernel
theorem dX8_comes_80 : decode cX8_comes 80 = .ok (.iload_n 2, 1) := by decide +kernel
theorem dX8_comes_81 : decode cX8_comes 81 = .ok (.invokevirtual 154, 3) := by decide +kernel
theorem dX8_comes_84 : decode cX8_comes 84 = .ok (.return_, 1) := by decide +kernel
theorem dX8_shaft_0 : decode cX8_shaft 0 = .ok (.iload_n 1, 1) := by decide +kernel
theorem dX8_shaft_1 : decode cX8_shaft 1 = .ok (.invokestatic 142, 3) := by decide +kernel
theorem dX8_shaft_4 : decode cX8_shaft 4 = .ok (.ifCond .ne 6, 3) := by decide +kernel
theorem dX8_shaft_7 : decode cX8_shaft 7 = .ok (.ldc 128, 2) := by decide +kernel
theorem dX8_shaft_9 : decode cX8_shaft 9 = .ok (.ireturn, 1) := by decide +kernel
theorem dX8_shaft_10 : decode cX8_shaft 10 = .ok (.iload_n 2, 1) := by decide +kernel
theorem dX8_shaft_11 : decode cX8_shaft 11 = .ok (.invokestatic 74, 3) := by decide +kernel
theorem dX8_shaft_14 : decode cX8_shaft 14 = .ok (.ifCond .ne 6, 3) := by decide +kernel
theorem dX8_shaft_17 : decode cX8_shaft 17 = .ok (.ldc 118, 2) := by decide +kernel
theorem dX8_shaft_19 : decode cX8_shaft 19 = .ok (.ireturn, 1) := by decide +kernel
theorem dX8_shaft_20 : decode cX8_shaft 20 = .ok (.aload_n 0, 1) := by decide +kernel
theorem dX8_shaft_21 : decode cX8_shaft 21 = .ok (.iload_n 1, 1) := by decide +kernel
theorem dX8_shaft_22 : decode cX8_shaft 22 = .ok (.iload_n 2, 1) := by decide +kernel
theorem dX8_shaft_23 : decode cX8_shaft 23 = .ok (.invokevirtual 157, 3) := by decide +kernel
theorem dX8_shaft_26 : decode cX8_shaft 26 = .ok (.ifCond .ne 6, 3) := by decide +kernel
theorem dX8_shaft_29 : decode cX8_shaft 29 = .ok (.ldc 160, 2) := by decide +kernel
theorem dX8_shaft_31 : decode cX8_shaft 31 = .ok (.ireturn, 1) := by decide +kernel
theorem dX8_shaft_32 : decode cX8_shaft 32 = .ok (.aload_n 0, 1) := by decide +kernel
theorem dX8_shaft_33 : decode cX8_shaft 33 = .ok (.invokevirtual 161, 3) := by decide +kernel
theorem dX8_shaft_36 : decode cX8_shaft 36 = .ok (.aload_n 0, 1) := by decide +kernel
theorem dX8_shaft_37 : decode cX8_shaft 37 = .ok (.iload_n 1, 1) := by decide +kernel
theorem dX8_shaft_38 : decode cX8_shaft 38 = .ok (.iload_n 2, 1) := by decide +kernel
theorem dX8_shaft_39 : decode cX8_shaft 39 = .ok (.invokevirtual 164, 3) := by decide +kernel
theorem dX8_shaft_42 : decode cX8_shaft 42 = .ok (.aload_n 0, 1) := by decide +kernel
theorem dX8_shaft_43 : decode cX8_shaft 43 = .ok (.getfield 7, 3) := by decide +kernel
theorem dX8_shaft_46 : decode cX8_shaft 46 = .ok (.bipush 8, 2) := by decide +kernel
theorem dX8_shaft_48 : decode cX8_shaft 48 = .ok (.iaload, 1) := by decide +kernel
theorem dX8_shaft_49 : decode cX8_shaft 49 = .ok (.iconst 1, 1) := by decide +kernel
theorem dX8_shaft_50 : decode cX8_shaft 50 = .ok (.isub, 1) := by decide +kernel
theorem dX8_shaft_51 : decode cX8_shaft 51 = .ok (.ireturn, 1) := by decide +kernel
theorem dX8_bore_0 : decode cX8_bore 0 = .ok (.iload_n 1, 1) := by decide +kernel
theorem dX8_bore_1 : decode cX8_bore 1 = .ok (.invokestatic 74, 3) := by decide +kernel
theorem dX8_bore_4 : decode cX8_bore 4 = .ok (.ifCond .ne 6, 3) := by decide +kernel
theorem dX8_bore_7 : decode cX8_bore 7 = .ok (.ldc 118, 2) := by decide +kernel
theorem dX8_bore_9 : decode cX8_bore 9 = .ok (.ireturn, 1) := by decide +kernel
theorem dX8_bore_10 : decode cX8_bore 10 = .ok (.aload_n 0, 1) := by decide +kernel
theorem dX8_bore_11 : decode cX8_bore 11 = .ok (.iconst 4, 1) := by decide +kernel
theorem dX8_bore_12 : decode cX8_bore 12 = .ok (.iload_n 1, 1) := by decide +kernel
theorem dX8_bore_13 : decode cX8_bore 13 = .ok (.invokevirtual 157, 3) := by decide +kernel
theorem dX8_bore_16 : decode cX8_bore 16 = .ok (.ifCond .ne 6, 3) := by decide +kernel
theorem dX8_bore_19 : decode cX8_bore 19 = .ok (.ldc 160, 2) := by decide +kernel
theorem dX8_bore_21 : decode cX8_bore 21 = .ok (.ireturn, 1) := by decide +kernel
theorem dX8_bore_22 : decode cX8_bore 22 = .ok (.aload_n 0, 1) := by decide +kernel
theorem dX8_bore_23 : decode cX8_bore 23 = .ok (.invokevirtual 161, 3) := by decide +kernel
theorem dX8_bore_26 : decode cX8_bore 26 = .ok (.aload_n 0, 1) := by decide +kernel
theorem dX8_bore_27 : decode cX8_bore 27 = .ok (.iconst 4, 1) := by decide +kernel
theorem dX8_bore_28 : decode cX8_bore 28 = .ok (.iload_n 1, 1) := by decide +kernel
theorem dX8_bore_29 : decode cX8_bore 29 = .ok (.invokevirtual 164, 3) := by decide +kernel
theorem dX8_bore_32 : decode cX8_bore 32 = .ok (.aload_n 0, 1) := by decide +kernel
theorem dX8_bore_33 : decode cX8_bore 33 = .ok (.getfield 7, 3) := by decide +kernel
theorem dX8_bore_36 : decode cX8_bore 36 = .ok (.bipush 57, 2) := by decide +kernel
theorem dX8_bore_38 : decode cX8_bore 38 = .ok (.iaload, 1) := by decide +kernel
theorem dX8_bore_39 : decode cX8_bore 39 = .ok (.iconst 1, 1) := by decide +kernel
theorem dX8_bore_40 : decode cX8_bore 40 = .ok (.isub, 1) := by decide +kernel
theorem dX8_bore_41 : decode cX8_bore 41 = .ok (.ireturn, 1) := by decide +kernel
theorem dX8_shaftGoes_0 : decode cX8_shaftGoes 0 = .ok (.aload_n 0, 1) := by decide +kernel
theorem dX8_shaftGoes_1 : decode cX8_shaftGoes 1 = .ok (.getfield 7, 3) := by decide +kernel
theorem dX8_shaftGoes_4 : decode cX8_shaftGoes 4 = .ok (.sipush 179, 3) := by decide +kernel
theorem dX8_shaftGoes_7 : decode cX8_shaftGoes 7 = .ok (.aload_n 0, 1) := by decide +kernel
theorem dX8_shaftGoes_8 : decode cX8_shaftGoes 8 = .ok (.aload_n 0, 1) := by decide +kernel
theorem dX8_shaftGoes_9 : decode cX8_shaftGoes 9 = .ok (.getfield 7, 3) := by decide +kernel
theorem dX8_shaftGoes_12 : decode cX8_shaftGoes 12 = .ok (.bipush 9, 2) := by decide +kernel
theorem dX8_shaftGoes_14 : decode cX8_shaftGoes 14 = .ok (.iload_n 1, 1) := by decide +kernel
theorem dX8_shaftGoes_15 : decode cX8_shaftGoes 15 = .ok (.iadd, 1) := by decide +kernel
theorem dX8_shaftGoes_16 : decode cX8_shaftGoes 16 = .ok (.iaload, 1) := by decide +kernel
theorem dX8_shaftGoes_17 : decode cX8_shaftGoes 17 = .ok (.aload_n 0, 1) := by decide +kernel
theorem dX8_shaftGoes_18 : decode cX8_shaftGoes 18 = .ok (.getfield 7, 3) := by decide +kernel
theorem dX8_shaftGoes_21 : decode cX8_shaftGoes 21 = .ok (.bipush 33, 2) := by decide +kernel
theorem dX8_shaftGoes_23 : decode cX8_shaftGoes 23 = .ok (.iload_n 1, 1) := by decide +kernel
theorem dX8_shaftGoes_24 : decode cX8_shaftGoes 24 = .ok (.iadd, 1) := by decide +kernel
theorem dX8_shaftGoes_25 : decode cX8_shaftGoes 25 = .ok (.iaload, 1) := by decide +kernel
theorem dX8_shaftGoes_26 : decode cX8_shaftGoes 26 = .ok (.invokevirtual 119, 3) := by decide +kernel
theorem dX8_shaftGoes_29 : decode cX8_shaftGoes 29 = .ok (.iadd, 1) := by decide +kernel
theorem dX8_shaftGoes_30 : decode cX8_shaftGoes 30 = .ok (.dup2, 1) := by decide +kernel
theorem dX8_shaftGoes_31 : decode cX8_shaftGoes 31 = .ok (.iaload, 1) := by decide +kernel
theorem dX8_shaftGoes_32 : decode cX8_shaftGoes 32 = .ok (.iconst 1, 1) := by decide +kernel
theorem dX8_shaftGoes_33 : decode cX8_shaftGoes 33 = .ok (.isub, 1) := by decide +kernel
theorem dX8_shaftGoes_34 : decode cX8_shaftGoes 34 = .ok (.iastore, 1) := by decide +kernel
theorem dX8_shaftGoes_35 : decode cX8_shaftGoes 35 = .ok (.aload_n 0, 1) := by decide +kernel
theorem dX8_shaftGoes_36 : decode cX8_shaftGoes 36 = .ok (.getfield 7, 3) := by decide +kernel
theorem dX8_shaftGoes_39 : decode cX8_shaftGoes 39 = .ok (.bipush 8, 2) := by decide +kernel
theorem dX8_shaftGoes_41 : decode cX8_shaftGoes 41 = .ok (.dup2, 1) := by decide +kernel
theorem dX8_shaftGoes_42 : decode cX8_shaftGoes 42 = .ok (.iaload, 1) := by decide +kernel
theorem dX8_shaftGoes_43 : decode cX8_shaftGoes 43 = .ok (.iconst 1, 1) := by decide +kernel
theorem dX8_shaftGoes_44 : decode cX8_shaftGoes 44 = .ok (.isub, 1) := by decide +kernel
theorem dX8_shaftGoes_45 : decode cX8_shaftGoes 45 = .ok (.iastore, 1) := by decide +kernel
theorem dX8_shaftGoes_46 : decode cX8_shaftGoes 46 = .ok (.iload_n 1, 1) := by decide +kernel
theorem dX8_shaftGoes_47 : decode cX8_shaftGoes 47 = .ok (.istore_n 2, 1) := by decide +kernel
theorem dX8_shaftGoes_48 : decode cX8_shaftGoes 48 = .ok (.iload_n 2, 1) := by decide +kernel
theorem dX8_shaftGoes_49 : decode cX8_shaftGoes 49 = .ok (.aload_n 0, 1) := by decide +kernel
theorem dX8_shaftGoes_50 : decode cX8_shaftGoes 50 = .ok (.getfield 7, 3) := by decide +kernel
theorem dX8_shaftGoes_53 : decode cX8_shaftGoes 53 = .ok (.bipush 8, 2) := by decide +kernel
theorem dX8_shaftGoes_55 : decode cX8_shaftGoes 55 = .ok (.iaload, 1) := by decide +kernel
theorem dX8_shaftGoes_56 : decode cX8_shaftGoes 56 = .ok (.if_icmp .ge 49, 3) := by decide +kernel
theorem dX8_shaftGoes_59 : decode cX8_shaftGoes 59 = .ok (.aload_n 0, 1) := by decide +kernel
theorem dX8_shaftGoes_60 : decode cX8_shaftGoes 60 = .ok (.getfield 7, 3) := by decide +kernel
theorem dX8_shaftGoes_63 : decode cX8_shaftGoes 63 = .ok (.bipush 9, 2) := by decide +kernel
theorem dX8_shaftGoes_65 : decode cX8_shaftGoes 65 = .ok (.iload_n 2, 1) := by decide +kernel
theorem dX8_shaftGoes_66 : decode cX8_shaftGoes 66 = .ok (.iadd, 1) := by decide +kernel
theorem dX8_shaftGoes_67 : decode cX8_shaftGoes 67 = .ok (.aload_n 0, 1) := by decide +kernel
theorem dX8_shaftGoes_68 : decode cX8_shaftGoes 68 = .ok (.getfield 7, 3) := by decide +kernel
theorem dX8_shaftGoes_71 : decode cX8_shaftGoes 71 = .ok (.bipush 9, 2) := by decide +kernel
theorem dX8_shaftGoes_73 : decode cX8_shaftGoes 73 = .ok (.iload_n 2, 1) := by decide +kernel
theorem dX8_shaftGoes_74 : decode cX8_shaftGoes 74 = .ok (.iadd, 1) := by decide +kernel
theorem dX8_shaftGoes_75 : decode cX8_shaftGoes 75 = .ok (.iconst 1, 1) := by decide +kernel
theorem dX8_shaftGoes_76 : decode cX8_shaftGoes 76 = .ok (.iadd, 1) := by decide +kernel
theorem dX8_shaftGoes_77 : decode cX8_shaftGoes 77 = .ok (.iaload, 1) := by decide +kernel
theorem dX8_shaftGoes_78 : decode cX8_shaftGoes 78 = .ok (.iastore, 1) := by decide +kernel
theorem dX8_shaftGoes_79 : decode cX8_shaftGoes 79 = .ok (.aload_n 0, 1) := by decide +kernel
theorem dX8_shaftGoes_80 : decode cX8_shaftGoes 80 = .ok (.getfield 7, 3) := by decide +kernel
theorem dX8_shaftGoes_83 : decode cX8_shaftGoes 83 = .ok (.bipush 33, 2) := by decide +kernel
theorem dX8_shaftGoes_85 : decode cX8_shaftGoes 85 = .ok (.iload_n 2, 1) := by decide +kernel
theorem dX8_shaftGoes_86 : decode cX8_shaftGoes 86 = .ok (.iadd, 1) := by decide +kernel
theorem dX8_shaftGoes_87 : decode cX8_shaftGoes 87 = .ok (.aload_n 0, 1) := by decide +kernel
theorem dX8_shaftGoes_88 : decode cX8_shaftGoes 88 = .ok (.getfield 7, 3) := by decide +kernel
theorem dX8_shaftGoes_91 : decode cX8_shaftGoes 91 = .ok (.bipush 33, 2) := by decide +kernel
theorem dX8_shaftGoes_93 : decode cX8_shaftGoes 93 = .ok (.iload_n 2, 1) := by decide +kernel
theorem dX8_shaftGoes_94 : decode cX8_shaftGoes 94 = .ok (.iadd, 1) := by decide +kernel
theorem dX8_shaftGoes_95 : decode cX8_shaftGoes 95 = .ok (.iconst 1, 1) := by decide +kernel
theorem dX8_shaftGoes_96 : decode cX8_shaftGoes 96 = .ok (.iadd, 1) := by decide +kernel
theorem dX8_shaftGoes_97 : decode cX8_shaftGoes 97 = .ok (.iaload, 1) := by decide +kernel
theorem dX8_shaftGoes_98 : decode cX8_shaftGoes 98 = .ok (.iastore, 1) := by decide +kernel
theorem dX8_shaftGoes_99 : decode cX8_shaftGoes 99 = .ok (.iinc 2 1, 3) := by decide +kernel
theorem dX8_shaftGoes_102 : decode cX8_shaftGoes 102 = .ok (.goto (-54), 3) := by decide +kernel
theorem dX8_shaftGoes_105 : decode cX8_shaftGoes 105 = .ok (.return_, 1) := by decide +kernel
theorem dX8_boreGoes_0 : decode cX8_boreGoes 0 = .ok (.aload_n 0, 1) := by decide +kernel
theorem dX8_boreGoes_1 : decode cX8_boreGoes 1 = .ok (.getfield 7, 3) := by decide +kernel
theorem dX8_boreGoes_4 : decode cX8_boreGoes 4 = .ok (.sipush 179, 3) := by decide +kernel
theorem dX8_boreGoes_7 : decode cX8_boreGoes 7 = .ok (.aload_n 0, 1) := by decide +kernel
theorem dX8_boreGoes_8 : decode cX8_boreGoes 8 = .ok (.iconst 4, 1) := by decide +kernel
theorem dX8_boreGoes_9 : decode cX8_boreGoes 9 = .ok (.aload_n 0, 1) := by decide +kernel
theorem dX8_boreGoes_10 : decode cX8_boreGoes 10 = .ok (.getfield 7, 3) := by decide +kernel
theorem dX8_boreGoes_13 : decode cX8_boreGoes 13 = .ok (.bipush 58, 2) := by decide +kernel
theorem dX8_boreGoes_15 : decode cX8_boreGoes 15 = .ok (.iload_n 1, 1) := by decide +kernel
theorem dX8_boreGoes_16 : decode cX8_boreGoes 16 = .ok (.iadd, 1) := by decide +kernel
theorem dX8_boreGoes_17 : decode cX8_boreGoes 17 = .ok (.iaload, 1) := by decide +kernel
theorem dX8_boreGoes_18 : decode cX8_boreGoes 18 = .ok (.invokevirtual 119, 3) := by decide +kernel
theorem dX8_boreGoes_21 : decode cX8_boreGoes 21 = .ok (.iadd, 1) := by decide +kernel
theorem dX8_boreGoes_22 : decode cX8_boreGoes 22 = .ok (.dup2, 1) := by decide +kernel
theorem dX8_boreGoes_23 : decode cX8_boreGoes 23 = .ok (.iaload, 1) := by decide +kernel
theorem dX8_boreGoes_24 : decode cX8_boreGoes 24 = .ok (.iconst 1, 1) := by decide +kernel
theorem dX8_boreGoes_25 : decode cX8_boreGoes 25 = .ok (.isub, 1) := by decide +kernel
theorem dX8_boreGoes_26 : decode cX8_boreGoes 26 = .ok (.iastore, 1) := by decide +kernel
theorem dX8_boreGoes_27 : decode cX8_boreGoes 27 = .ok (.aload_n 0, 1) := by decide +kernel
theorem dX8_boreGoes_28 : decode cX8_boreGoes 28 = .ok (.getfield 7, 3) := by decide +kernel
theorem dX8_boreGoes_31 : decode cX8_boreGoes 31 = .ok (.bipush 57, 2) := by decide +kernel
theorem dX8_boreGoes_33 : decode cX8_boreGoes 33 = .ok (.dup2, 1) := by decide +kernel
theorem dX8_boreGoes_34 : decode cX8_boreGoes 34 = .ok (.iaload, 1) := by decide +kernel
theorem dX8_boreGoes_35 : decode cX8_boreGoes 35 = .ok (.iconst 1, 1) := by decide +kernel
theorem dX8_boreGoes_36 : decode cX8_boreGoes 36 = .ok (.isub, 1) := by decide +kernel
theorem dX8_boreGoes_37 : decode cX8_boreGoes 37 = .ok (.iastore, 1) := by decide +kernel
theorem dX8_boreGoes_38 : decode cX8_boreGoes 38 = .ok (.iload_n 1, 1) := by decide +kernel
theorem dX8_boreGoes_39 : decode cX8_boreGoes 39 = .ok (.istore_n 2, 1) := by decide +kernel
theorem dX8_boreGoes_40 : decode cX8_boreGoes 40 = .ok (.iload_n 2, 1) := by decide +kernel
theorem dX8_boreGoes_41 : decode cX8_boreGoes 41 = .ok (.aload_n 0, 1) := by decide +kernel
theorem dX8_boreGoes_42 : decode cX8_boreGoes 42 = .ok (.getfield 7, 3) := by decide +kernel
theorem dX8_boreGoes_45 : decode cX8_boreGoes 45 = .ok (.bipush 57, 2) := by decide +kernel
theorem dX8_boreGoes_47 : decode cX8_boreGoes 47 = .ok (.iaload, 1) := by decide +kernel
theorem dX8_boreGoes_48 : decode cX8_boreGoes 48 = .ok (.if_icmp .ge 29, 3) := by decide +kernel
theorem dX8_boreGoes_51 : decode cX8_boreGoes 51 = .ok (.aload_n 0, 1) := by decide +kernel
theorem dX8_boreGoes_52 : decode cX8_boreGoes 52 = .ok (.getfield 7, 3) := by decide +kernel
theorem dX8_boreGoes_55 : decode cX8_boreGoes 55 = .ok (.bipush 58, 2) := by decide +kernel
theorem dX8_boreGoes_57 : decode cX8_boreGoes 57 = .ok (.iload_n 2, 1) := by decide +kernel
theorem dX8_boreGoes_58 : decode cX8_boreGoes 58 = .ok (.iadd, 1) := by decide +kernel
theorem dX8_boreGoes_59 : decode cX8_boreGoes 59 = .ok (.aload_n 0, 1) := by decide +kernel
theorem dX8_boreGoes_60 : decode cX8_boreGoes 60 = .ok (.getfield 7, 3) := by decide +kernel
theorem dX8_boreGoes_63 : decode cX8_boreGoes 63 = .ok (.bipush 58, 2) := by decide +kernel
theorem dX8_boreGoes_65 : decode cX8_boreGoes 65 = .ok (.iload_n 2, 1) := by decide +kernel
theorem dX8_boreGoes_66 : decode cX8_boreGoes 66 = .ok (.iadd, 1) := by decide +kernel
theorem dX8_boreGoes_67 : decode cX8_boreGoes 67 = .ok (.iconst 1, 1) := by decide +kernel
theorem dX8_boreGoes_68 : decode cX8_boreGoes 68 = .ok (.iadd, 1) := by decide +kernel
theorem dX8_boreGoes_69 : decode cX8_boreGoes 69 = .ok (.iaload, 1) := by decide +kernel
theorem dX8_boreGoes_70 : decode cX8_boreGoes 70 = .ok (.iastore, 1) := by decide +kernel
theorem dX8_boreGoes_71 : decode cX8_boreGoes 71 = .ok (.iinc 2 1, 3) := by decide +kernel
theorem dX8_boreGoes_74 : decode cX8_boreGoes 74 = .ok (.goto (-34), 3) := by decide +kernel
theorem dX8_boreGoes_77 : decode cX8_boreGoes 77 = .ok (.return_, 1) := by decide +kernel
theorem dX8_takeShaft_0 : decode cX8_takeShaft 0 = .ok (.aload_n 0, 1) := by decide +kernel
theorem dX8_takeShaft_1 : decode cX8_takeShaft 1 = .ok (.iload_n 1, 1) := by decide +kernel
theorem dX8_takeShaft_2 : decode cX8_takeShaft 2 = .ok (.invokevirtual 122, 3) := by decide +kernel
theorem dX8_takeShaft_5 : decode cX8_takeShaft 5 = .ok (.ifCond .ne 6, 3) := by decide +kernel
theorem dX8_takeShaft_8 : decode cX8_takeShaft 8 = .ok (.ldc 128, 2) := by decide +kernel
theorem dX8_takeShaft_10 : decode cX8_takeShaft 10 = .ok (.ireturn, 1) := by decide +kernel
theorem dX8_takeShaft_11 : decode cX8_takeShaft 11 = .ok (.aload_n 0, 1) := by decide +kernel
theorem dX8_takeShaft_12 : decode cX8_takeShaft 12 = .ok (.invokevirtual 161, 3) := by decide +kernel
theorem dX8_takeShaft_15 : decode cX8_takeShaft 15 = .ok (.aload_n 0, 1) := by decide +kernel
theorem dX8_takeShaft_16 : decode cX8_takeShaft 16 = .ok (.getfield 7, 3) := by decide +kernel
theorem dX8_takeShaft_19 : decode cX8_takeShaft 19 = .ok (.bipush 33, 2) := by decide +kernel
theorem dX8_takeShaft_21 : decode cX8_takeShaft 21 = .ok (.iload_n 1, 1) := by decide +kernel
theorem dX8_takeShaft_22 : decode cX8_takeShaft 22 = .ok (.iadd, 1) := by decide +kernel
theorem dX8_takeShaft_23 : decode cX8_takeShaft 23 = .ok (.iaload, 1) := by decide +kernel
theorem dX8_takeShaft_24 : decode cX8_takeShaft 24 = .ok (.istore_n 2, 1) := by decide +kernel
theorem dX8_takeShaft_25 : decode cX8_takeShaft 25 = .ok (.aload_n 0, 1) := by decide +kernel
theorem dX8_takeShaft_26 : decode cX8_takeShaft 26 = .ok (.iload_n 1, 1) := by decide +kernel
theorem dX8_takeShaft_27 : decode cX8_takeShaft 27 = .ok (.invokevirtual 167, 3) := by decide +kernel
theorem dX8_takeShaft_30 : decode cX8_takeShaft 30 = .ok (.iload_n 2, 1) := by decide +kernel
theorem dX8_takeShaft_31 : decode cX8_takeShaft 31 = .ok (.ireturn, 1) := by decide +kernel
theorem dX8_takeBore_0 : decode cX8_takeBore 0 = .ok (.aload_n 0, 1) := by decide +kernel
theorem dX8_takeBore_1 : decode cX8_takeBore 1 = .ok (.iload_n 1, 1) := by decide +kernel
theorem dX8_takeBore_2 : decode cX8_takeBore 2 = .ok (.invokevirtual 136, 3) := by decide +kernel
theorem dX8_takeBore_5 : decode cX8_takeBore 5 = .ok (.ifCond .ne 6, 3) := by decide +kernel
theorem dX8_takeBore_8 : decode cX8_takeBore 8 = .ok (.ldc 128, 2) := by decide +kernel
theorem dX8_takeBore_10 : decode cX8_takeBore 10 = .ok (.ireturn, 1) := by decide +kernel
theorem dX8_takeBore_11 : decode cX8_takeBore 11 = .ok (.aload_n 0, 1) := by decide +kernel
theorem dX8_takeBore_12 : decode cX8_takeBore 12 = .ok (.invokevirtual 161, 3) := by decide +kernel
theorem dX8_takeBore_15 : decode cX8_takeBore 15 = .ok (.aload_n 0, 1) := by decide +kernel
theorem dX8_takeBore_16 : decode cX8_takeBore 16 = .ok (.getfield 7, 3) := by decide +kernel
theorem dX8_takeBore_19 : decode cX8_takeBore 19 = .ok (.bipush 58, 2) := by decide +kernel
theorem dX8_takeBore_21 : decode cX8_takeBore 21 = .ok (.iload_n 1, 1) := by decide +kernel
theorem dX8_takeBore_22 : decode cX8_takeBore 22 = .ok (.iadd, 1) := by decide +kernel
theorem dX8_takeBore_23 : decode cX8_takeBore 23 = .ok (.iaload, 1) := by decide +kernel
theorem dX8_takeBore_24 : decode cX8_takeBore 24 = .ok (.istore_n 2, 1) := by decide +kernel
theorem dX8_takeBore_25 : decode cX8_takeBore 25 = .ok (.aload_n 0, 1) := by decide +kernel
theorem dX8_takeBore_26 : decode cX8_takeBore 26 = .ok (.iload_n 1, 1) := by decide +kernel
theorem dX8_takeBore_27 : decode cX8_takeBore 27 = .ok (.invokevirtual 171, 3) := by decide +kernel
theorem dX8_takeBore_30 : decode cX8_takeBore 30 = .ok (.iload_n 2, 1) := by decide +kernel
theorem dX8_takeBore_31 : decode cX8_takeBore 31 = .ok (.ireturn, 1) := by decide +kernel
theorem dX8_grade_0 : decode cX8_grade 0 = .ok (.iload_n 1, 1) := by decide +kernel
theorem dX8_grade_1 : decode cX8_grade 1 = .ok (.invokestatic 142, 3) := by decide +kernel
theorem dX8_grade_4 : decode cX8_grade 4 = .ok (.ifCond .ne 6, 3) := by decide +kernel
theorem dX8_grade_7 : decode cX8_grade 7 = .ok (.ldc 128, 2) := by decide +kernel
theorem dX8_grade_9 : decode cX8_grade 9 = .ok (.ireturn, 1) := by decide +kernel
theorem dX8_grade_10 : decode cX8_grade 10 = .ok (.iload_n 2, 1) := by decide +kernel
theorem dX8_grade_11 : decode cX8_grade 11 = .ok (.i2l, 1) := by decide +kernel
theorem dX8_grade_12 : decode cX8_grade 12 = .ok (.lconst 0, 1) := by decide +kernel
theorem dX8_grade_13 : decode cX8_grade 13 = .ok (.ldc2_w 174, 3) := by decide +kernel
theorem dX8_grade_16 : decode cX8_grade 16 = .ok (.invokestatic 50, 3) := by decide +kernel
theorem dX8_grade_19 : decode cX8_grade 19 = .ok (.ifCond .eq 16, 3) := by decide +kernel
theorem dX8_grade_22 : decode cX8_grade 22 = .ok (.iload_n 3, 1) := by decide +kernel
theorem dX8_grade_23 : decode cX8_grade 23 = .ok (.i2l, 1) := by decide +kernel
theorem dX8_grade_24 : decode cX8_grade 24 = .ok (.iload_n 2, 1) := by decide +kernel
theorem dX8_grade_25 : decode cX8_grade 25 = .ok (.i2l, 1) := by decide +kernel
theorem dX8_grade_26 : decode cX8_grade 26 = .ok (.ldc2_w 174, 3) := by decide +kernel
theorem dX8_grade_29 : decode cX8_grade 29 = .ok (.invokestatic 50, 3) := by decide +kernel
theorem dX8_grade_32 : decode cX8_grade 32 = .ok (.ifCond .ne 6, 3) := by decide +kernel
theorem dX8_grade_35 : decode cX8_grade 35 = .ok (.ldc 118, 2) := by decide +kernel
theorem dX8_grade_37 : decode cX8_grade 37 = .ok (.ireturn, 1) := by decide +kernel
theorem dX8_grade_38 : decode cX8_grade 38 = .ok (.aload_n 0, 1) := by decide +kernel
theorem dX8_grade_39 : decode cX8_grade 39 = .ok (.invokevirtual 161, 3) := by decide +kernel
theorem dX8_grade_42 : decode cX8_grade 42 = .ok (.aload_n 0, 1) := by decide +kernel
theorem dX8_grade_43 : decode cX8_grade 43 = .ok (.getfield 7, 3) := by decide +kernel
theorem dX8_grade_46 : decode cX8_grade 46 = .ok (.iconst 0, 1) := by decide +kernel
theorem dX8_grade_47 : decode cX8_grade 47 = .ok (.iload_n 1, 1) := by decide +kernel
theorem dX8_grade_48 : decode cX8_grade 48 = .ok (.iadd, 1) := by decide +kernel
theorem dX8_grade_49 : decode cX8_grade 49 = .ok (.iload_n 2, 1) := by decide +kernel
theorem dX8_grade_50 : decode cX8_grade 50 = .ok (.iastore, 1) := by decide +kernel
theorem dX8_grade_51 : decode cX8_grade 51 = .ok (.aload_n 0, 1) := by decide +kernel
theorem dX8_grade_52 : decode cX8_grade 52 = .ok (.getfield 7, 3) := by decide +kernel
theorem dX8_grade_55 : decode cX8_grade 55 = .ok (.iconst 4, 1) := by decide +kernel
theorem dX8_grade_56 : decode cX8_grade 56 = .ok (.iload_n 1, 1) := by decide +kernel
theorem dX8_grade_57 : decode cX8_grade 57 = .ok (.iadd, 1) := by decide +kernel
theorem dX8_grade_58 : decode cX8_grade 58 = .ok (.iload_n 3, 1) := by decide +kernel
theorem dX8_grade_59 : decode cX8_grade 59 = .ok (.iastore, 1) := by decide +kernel
theorem dX8_grade_60 : decode cX8_grade 60 = .ok (.aload_n 0, 1) := by decide +kernel
theorem dX8_grade_61 : decode cX8_grade 61 = .ok (.invokevirtual 70, 3) := by decide +kernel
theorem dX8_grade_64 : decode cX8_grade 64 = .ok (.ireturn, 1) := by decide +kernel
theorem dX8_putAway_0 : decode cX8_putAway 0 = .ok (.aload_n 0, 1) := by decide +kernel
theorem dX8_putAway_1 : decode cX8_putAway 1 = .ok (.invokevirtual 70, 3) := by decide +kernel
theorem dX8_putAway_4 : decode cX8_putAway 4 = .ok (.istore_n 1, 1) := by decide +kernel
theorem dX8_putAway_5 : decode cX8_putAway 5 = .ok (.iload_n 1, 1) := by decide +kernel
theorem dX8_putAway_6 : decode cX8_putAway 6 = .ok (.ifCond .ne 6, 3) := by decide +kernel
theorem dX8_putAway_9 : decode cX8_putAway 9 = .ok (.ldc 176, 2) := by decide +kernel
theorem dX8_putAway_11 : decode cX8_putAway 11 = .ok (.ireturn, 1) := by decide +kernel
theorem dX8_putAway_12 : decode cX8_putAway 12 = .ok (.aload_n 0, 1) := by decide +kernel
theorem dX8_putAway_13 : decode cX8_putAway 13 = .ok (.invokevirtual 161, 3) := by decide +kernel
theorem dX8_putAway_16 : decode cX8_putAway 16 = .ok (.aload_n 0, 1) := by decide +kernel
theorem dX8_putAway_17 : decode cX8_putAway 17 = .ok (.getfield 7, 3) := by decide +kernel
theorem dX8_putAway_20 : decode cX8_putAway 20 = .ok (.bipush 8, 2) := by decide +kernel
theorem dX8_putAway_22 : decode cX8_putAway 22 = .ok (.iaload, 1) := by decide +kernel
theorem dX8_putAway_23 : decode cX8_putAway 23 = .ok (.iconst 1, 1) := by decide +kernel
theorem dX8_putAway_24 : decode cX8_putAway 24 = .ok (.isub, 1) := by decide +kernel
theorem dX8_putAway_25 : decode cX8_putAway 25 = .ok (.istore_n 2, 1) := by decide +kernel
theorem dX8_putAway_26 : decode cX8_putAway 26 = .ok (.iload_n 2, 1) := by decide +kernel
theorem dX8_putAway_27 : decode cX8_putAway 27 = .ok (.ifCond .lt 24, 3) := by decide +kernel
theorem dX8_putAway_30 : decode cX8_putAway 30 = .ok (.aload_n 0, 1) := by decide +kernel
theorem dX8_putAway_31 : decode cX8_putAway 31 = .ok (.getfield 20, 3) := by decide +kernel
theorem dX8_putAway_34 : decode cX8_putAway 34 = .ok (.iload_n 2, 1) := by decide +kernel
theorem dX8_putAway_35 : decode cX8_putAway 35 = .ok (.iaload, 1) := by decide +kernel
theorem dX8_putAway_36 : decode cX8_putAway 36 = .ok (.iconst (-1), 1) := by decide +kernel
theorem dX8_putAway_37 : decode cX8_putAway 37 = .ok (.if_icmp .eq 8, 3) := by decide +kernel
theorem dX8_putAway_40 : decode cX8_putAway 40 = .ok (.aload_n 0, 1) := by decide +kernel
theorem dX8_putAway_41 : decode cX8_putAway 41 = .ok (.iload_n 2, 1) := by decide +kernel
theorem dX8_putAway_42 : decode cX8_putAway 42 = .ok (.invokevirtual 167, 3) := by decide +kernel
theorem dX8_putAway_45 : decode cX8_putAway 45 = .ok (.iinc 2 (-1), 3) := by decide +kernel
theorem dX8_putAway_48 : decode cX8_putAway 48 = .ok (.goto (-22), 3) := by decide +kernel
theorem dX8_putAway_51 : decode cX8_putAway 51 = .ok (.aload_n 0, 1) := by decide +kernel
theorem dX8_putAway_52 : decode cX8_putAway 52 = .ok (.getfield 7, 3) := by decide +kernel
theorem dX8_putAway_55 : decode cX8_putAway 55 = .ok (.bipush 57, 2) := by decide +kernel
theorem dX8_putAway_57 : decode cX8_putAway 57 = .ok (.iaload, 1) := by decide +kernel
theorem dX8_putAway_58 : decode cX8_putAway 58 = .ok (.iconst 1, 1) := by decide +kernel
theorem dX8_putAway_59 : decode cX8_putAway 59 = .ok (.isub, 1) := by decide +kernel
theorem dX8_putAway_60 : decode cX8_putAway 60 = .ok (.istore_n 2, 1) := by decide +kernel
theorem dX8_putAway_61 : decode cX8_putAway 61 = .ok (.iload_n 2, 1) := by decide +kernel
theorem dX8_putAway_62 : decode cX8_putAway 62 = .ok (.ifCond .lt 24, 3) := by decide +kernel
theorem dX8_putAway_65 : decode cX8_putAway 65 = .ok (.aload_n 0, 1) := by decide +kernel
theorem dX8_putAway_66 : decode cX8_putAway 66 = .ok (.getfield 23, 3) := by decide +kernel
theorem dX8_putAway_69 : decode cX8_putAway 69 = .ok (.iload_n 2, 1) := by decide +kernel
theorem dX8_putAway_70 : decode cX8_putAway 70 = .ok (.iaload, 1) := by decide +kernel
theorem dX8_putAway_71 : decode cX8_putAway 71 = .ok (.iconst (-1), 1) := by decide +kernel
theorem dX8_putAway_72 : decode cX8_putAway 72 = .ok (.if_icmp .eq 8, 3) := by decide +kernel
theorem dX8_putAway_75 : decode cX8_putAway 75 = .ok (.aload_n 0, 1) := by decide +kernel
theorem dX8_putAway_76 : decode cX8_putAway 76 = .ok (.iload_n 2, 1) := by decide +kernel
theorem dX8_putAway_77 : decode cX8_putAway 77 = .ok (.invokevirtual 171, 3) := by decide +kernel
theorem dX8_putAway_80 : decode cX8_putAway 80 = .ok (.iinc 2 (-1), 3) := by decide +kernel
theorem dX8_putAway_83 : decode cX8_putAway 83 = .ok (.goto (-22), 3) := by decide +kernel
theorem dX8_putAway_86 : decode cX8_putAway 86 = .ok (.iload_n 1, 1) := by decide +kernel
theorem dX8_putAway_87 : decode cX8_putAway 87 = .ok (.ireturn, 1) := by decide +kernel
theorem dX8_draw_0 : decode cX8_draw 0 = .ok (.aload_n 0, 1) := by decide +kernel
theorem dX8_draw_1 : decode cX8_draw 1 = .ok (.aload_n 0, 1) := by decide +kernel
theorem dX8_draw_2 : decode cX8_draw 2 = .ok (.getfield 44, 3) := by decide +kernel
theorem dX8_draw_5 : decode cX8_draw 5 = .ok (.i2l, 1) := by decide +kernel
theorem dX8_draw_6 : decode cX8_draw 6 = .ok (.ldc2_w 177, 3) := by decide +kernel
theorem dX8_draw_9 : decode cX8_draw 9 = .ok (.lmul, 1) := by decide +kernel
theorem dX8_draw_10 : decode cX8_draw 10 = .ok (.ldc2_w 179, 3) := by decide +kernel
theorem dX8_draw_13 : decode cX8_draw 13 = .ok (.ladd, 1) := by decide +kernel
theorem dX8_draw_14 : decode cX8_draw 14 = .ok (.ldc2_w 181, 3) := by decide +kernel
theorem dX8_draw_17 : decode cX8_draw 17 = .ok (.lrem, 1) := by decide +kernel
theorem dX8_draw_18 : decode cX8_draw 18 = .ok (.l2i, 1) := by decide +kernel
theorem dX8_draw_19 : decode cX8_draw 19 = .ok (.putfield 44, 3) := by decide +kernel
theorem dX8_draw_22 : decode cX8_draw 22 = .ok (.aload_n 0, 1) := by decide +kernel
theorem dX8_draw_23 : decode cX8_draw 23 = .ok (.getfield 44, 3) := by decide +kernel
theorem dX8_draw_26 : decode cX8_draw 26 = .ok (.ldc 183, 2) := by decide +kernel
theorem dX8_draw_28 : decode cX8_draw 28 = .ok (.idiv, 1) := by decide +kernel
theorem dX8_draw_29 : decode cX8_draw 29 = .ok (.iload_n 1, 1) := by decide +kernel
theorem dX8_draw_30 : decode cX8_draw 30 = .ok (.irem, 1) := by decide +kernel
theorem dX8_draw_31 : decode cX8_draw 31 = .ok (.ireturn, 1) := by decide +kernel
theorem dX8_batch_0 : decode cX8_batch 0 = .ok (.iload_n 1, 1) := by decide +kernel
theorem dX8_batch_1 : decode cX8_batch 1 = .ok (.i2l, 1) := by decide +kernel
theorem dX8_batch_2 : decode cX8_batch 2 = .ok (.lconst 1, 1) := by decide +kernel
theorem dX8_batch_3 : decode cX8_batch 3 = .ok (.ldc2_w 184, 3) := by decide +kernel
theorem dX8_batch_6 : decode cX8_batch 6 = .ok (.invokestatic 50, 3) := by decide +kernel
theorem dX8_batch_9 : decode cX8_batch 9 = .ok (.ifCond .ne 6, 3) := by decide +kernel
theorem dX8_batch_12 : decode cX8_batch 12 = .ok (.ldc 118, 2) := by decide +kernel
theorem dX8_batch_14 : decode cX8_batch 14 = .ok (.ireturn, 1) := by decide +kernel
theorem dX8_batch_15 : decode cX8_batch 15 = .ok (.aload_n 0, 1) := by decide +kernel
theorem dX8_batch_16 : decode cX8_batch 16 = .ok (.invokevirtual 161, 3) := by decide +kernel
theorem dX8_batch_19 : decode cX8_batch 19 = .ok (.iconst 0, 1) := by decide +kernel
theorem dX8_batch_20 : decode cX8_batch 20 = .ok (.istore_n 2, 1) := by decide +kernel
theorem dX8_batch_21 : decode cX8_batch 21 = .ok (.iconst 0, 1) := by decide +kernel
theorem dX8_batch_22 : decode cX8_batch 22 = .ok (.istore_n 3, 1) := by decide +kernel
theorem dX8_batch_23 : decode cX8_batch 23 = .ok (.iload_n 3, 1) := by decide +kernel
theorem dX8_batch_24 : decode cX8_batch 24 = .ok (.iload_n 1, 1) := by decide +kernel
theorem dX8_batch_25 : decode cX8_batch 25 = .ok (.if_icmp .ge 50, 3) := by decide +kernel
theorem dX8_batch_28 : decode cX8_batch 28 = .ok (.aload_n 0, 1) := by decide +kernel
theorem dX8_batch_29 : decode cX8_batch 29 = .ok (.iconst 5, 1) := by decide +kernel
theorem dX8_batch_30 : decode cX8_batch 30 = .ok (.invokevirtual 186, 3) := by decide +kernel
theorem dX8_batch_33 : decode cX8_batch 33 = .ok (.istore 4, 2) := by decide +kernel
theorem dX8_batch_35 : decode cX8_batch 35 = .ok (.sipush 1000, 3) := by decide +kernel
theorem dX8_batch_38 : decode cX8_batch 38 = .ok (.aload_n 0, 1) := by decide +kernel
theorem dX8_batch_39 : decode cX8_batch 39 = .ok (.bipush 100, 2) := by decide +kernel
theorem dX8_batch_41 : decode cX8_batch 41 = .ok (.invokevirtual 186, 3) := by decide +kernel
theorem dX8_batch_44 : decode cX8_batch 44 = .ok (.iadd, 1) := by decide +kernel
theorem dX8_batch_45 : decode cX8_batch 45 = .ok (.istore 5, 2) := by decide +kernel
theorem dX8_batch_47 : decode cX8_batch 47 = .ok (.aload_n 0, 1) := by decide +kernel
theorem dX8_batch_48 : decode cX8_batch 48 = .ok (.iload 4, 2) := by decide +kernel
theorem dX8_batch_50 : decode cX8_batch 50 = .ok (.iload 5, 2) := by decide +kernel
theorem dX8_batch_52 : decode cX8_batch 52 = .ok (.invokevirtual 157, 3) := by decide +kernel
theorem dX8_batch_55 : decode cX8_batch 55 = .ok (.ifCond .eq 14, 3) := by decide +kernel
theorem dX8_batch_58 : decode cX8_batch 58 = .ok (.aload_n 0, 1) := by decide +kernel
theorem dX8_batch_59 : decode cX8_batch 59 = .ok (.iload 4, 2) := by decide +kernel
theorem dX8_batch_61 : decode cX8_batch 61 = .ok (.iload 5, 2) := by decide +kernel
theorem dX8_batch_63 : decode cX8_batch 63 = .ok (.invokevirtual 164, 3) := by decide +kernel
theorem dX8_batch_66 : decode cX8_batch 66 = .ok (.iinc 2 1, 3) := by decide +kernel
theorem dX8_batch_69 : decode cX8_batch 69 = .ok (.iinc 3 1, 3) := by decide +kernel
theorem dX8_batch_72 : decode cX8_batch 72 = .ok (.goto (-49), 3) := by decide +kernel
theorem dX8_batch_75 : decode cX8_batch 75 = .ok (.iload_n 2, 1) := by decide +kernel
theorem dX8_batch_76 : decode cX8_batch 76 = .ok (.ireturn, 1) := by decide +kernel
theorem dX8_clear_0 : decode cX8_clear 0 = .ok (.aload_n 0, 1) := by decide +kernel
theorem dX8_clear_1 : decode cX8_clear 1 = .ok (.invokevirtual 161, 3) := by decide +kernel
theorem dX8_clear_4 : decode cX8_clear 4 = .ok (.aload_n 0, 1) := by decide +kernel
theorem dX8_clear_5 : decode cX8_clear 5 = .ok (.getfield 7, 3) := by decide +kernel
theorem dX8_clear_8 : decode cX8_clear 8 = .ok (.bipush 8, 2) := by decide +kernel
theorem dX8_clear_10 : decode cX8_clear 10 = .ok (.iaload, 1) := by decide +kernel
theorem dX8_clear_11 : decode cX8_clear 11 = .ok (.aload_n 0, 1) := by decide +kernel
theorem dX8_clear_12 : decode cX8_clear 12 = .ok (.getfield 7, 3) := by decide +kernel
theorem dX8_clear_15 : decode cX8_clear 15 = .ok (.bipush 57, 2) := by decide +kernel
theorem dX8_clear_17 : decode cX8_clear 17 = .ok (.iaload, 1) := by decide +kernel
theorem dX8_clear_18 : decode cX8_clear 18 = .ok (.iadd, 1) := by decide +kernel
theorem dX8_clear_19 : decode cX8_clear 19 = .ok (.istore_n 1, 1) := by decide +kernel
theorem dX8_clear_20 : decode cX8_clear 20 = .ok (.aload_n 0, 1) := by decide +kernel
theorem dX8_clear_21 : decode cX8_clear 21 = .ok (.getfield 7, 3) := by decide +kernel
theorem dX8_clear_24 : decode cX8_clear 24 = .ok (.bipush 8, 2) := by decide +kernel
theorem dX8_clear_26 : decode cX8_clear 26 = .ok (.iconst 0, 1) := by decide +kernel
theorem dX8_clear_27 : decode cX8_clear 27 = .ok (.iastore, 1) := by decide +kernel
theorem dX8_clear_28 : decode cX8_clear 28 = .ok (.aload_n 0, 1) := by decide +kernel
theorem dX8_clear_29 : decode cX8_clear 29 = .ok (.getfield 7, 3) := by decide +kernel
theorem dX8_clear_32 : decode cX8_clear 32 = .ok (.bipush 57, 2) := by decide +kernel
theorem dX8_clear_34 : decode cX8_clear 34 = .ok (.iconst 0, 1) := by decide +kernel
theorem dX8_clear_35 : decode cX8_clear 35 = .ok (.iastore, 1) := by decide +kernel
theorem dX8_clear_36 : decode cX8_clear 36 = .ok (.aload_n 0, 1) := by decide +kernel
theorem dX8_clear_37 : decode cX8_clear 37 = .ok (.getfield 7, 3) := by decide +kernel
theorem dX8_clear_40 : decode cX8_clear 40 = .ok (.bipush 82, 2) := by decide +kernel
theorem dX8_clear_42 : decode cX8_clear 42 = .ok (.iconst 0, 1) := by decide +kernel
theorem dX8_clear_43 : decode cX8_clear 43 = .ok (.iastore, 1) := by decide +kernel
theorem dX8_clear_44 : decode cX8_clear 44 = .ok (.iload_n 1, 1) := by decide +kernel
theorem dX8_clear_45 : decode cX8_clear 45 = .ok (.ireturn, 1) := by decide +kernel
theorem dX8_undo_0 : decode cX8_undo 0 = .ok (.iload_n 1, 1) := by decide +kernel
theorem dX8_undo_1 : decode cX8_undo 1 = .ok (.i2l, 1) := by decide +kernel
theorem dX8_undo_2 : decode cX8_undo 2 = .ok (.lconst 1, 1) := by decide +kernel
theorem dX8_undo_3 : decode cX8_undo 3 = .ok (.ldc2_w 189, 3) := by decide +kernel
theorem dX8_undo_6 : decode cX8_undo 6 = .ok (.invokestatic 50, 3) := by decide +kernel
theorem dX8_undo_9 : decode cX8_undo 9 = .ok (.ifCond .ne 6, 3) := by decide +kernel
theorem dX8_undo_12 : decode cX8_undo 12 = .ok (.ldc 118, 2) := by decide +kernel
theorem dX8_undo_14 : decode cX8_undo 14 = .ok (.ireturn, 1) := by decide +kernel
theorem dX8_undo_15 : decode cX8_undo 15 = .ok (.iload_n 1, 1) := by decide +kernel
theorem dX8_undo_16 : decode cX8_undo 16 = .ok (.aload_n 0, 1) := by decide +kernel
theorem dX8_undo_17 : decode cX8_undo 17 = .ok (.getfield 115, 3) := by decide +kernel
theorem dX8_undo_20 : decode cX8_undo 20 = .ok (.if_icmp .le 6, 3) := by decide +kernel
theorem dX8_undo_23 : decode cX8_undo 23 = .ok (.ldc 176, 2) := by decide +kernel
theorem dX8_undo_25 : decode cX8_undo 25 = .ok (.ireturn, 1) := by decide +kernel
theorem dX8_undo_26 : decode cX8_undo 26 = .ok (.aload_n 0, 1) := by decide +kernel
theorem dX8_undo_27 : decode cX8_undo 27 = .ok (.dup, 1) := by decide +kernel
theorem dX8_undo_28 : decode cX8_undo 28 = .ok (.getfield 115, 3) := by decide +kernel
theorem dX8_undo_31 : decode cX8_undo 31 = .ok (.iload_n 1, 1) := by decide +kernel
theorem dX8_undo_32 : decode cX8_undo 32 = .ok (.isub, 1) := by decide +kernel
theorem dX8_undo_33 : decode cX8_undo 33 = .ok (.putfield 115, 3) := by decide +kernel
theorem dX8_undo_36 : decode cX8_undo 36 = .ok (.aload_n 0, 1) := by decide +kernel
theorem dX8_undo_37 : decode cX8_undo 37 = .ok (.sipush 825, 3) := by decide +kernel
theorem dX8_undo_40 : decode cX8_undo 40 = .ok (.sipush 275, 3) := by decide +kernel
theorem dX8_undo_43 : decode cX8_undo 43 = .ok (.aload_n 0, 1) := by decide +kernel
theorem dX8_undo_44 : decode cX8_undo 44 = .ok (.getfield 115, 3) := by decide +kernel
theorem dX8_undo_47 : decode cX8_undo 47 = .ok (.imul, 1) := by decide +kernel
theorem dX8_undo_48 : decode cX8_undo 48 = .ok (.iadd, 1) := by decide +kernel
theorem dX8_undo_49 : decode cX8_undo 49 = .ok (.iconst 0, 1) := by decide +kernel
theorem dX8_undo_50 : decode cX8_undo 50 = .ok (.invokevirtual 150, 3) := by decide +kernel
theorem dX8_undo_53 : decode cX8_undo 53 = .ok (.aload_n 0, 1) := by decide +kernel
theorem dX8_undo_54 : decode cX8_undo 54 = .ok (.getfield 7, 3) := by decide +kernel
theorem dX8_undo_57 : decode cX8_undo 57 = .ok (.bipush 8, 2) := by decide +kernel
theorem dX8_undo_59 : decode cX8_undo 59 = .ok (.iaload, 1) := by decide +kernel
theorem dX8_undo_60 : decode cX8_undo 60 = .ok (.aload_n 0, 1) := by decide +kernel
theorem dX8_undo_61 : decode cX8_undo 61 = .ok (.getfield 7, 3) := by decide +kernel
theorem dX8_undo_64 : decode cX8_undo 64 = .ok (.bipush 57, 2) := by decide +kernel
theorem dX8_undo_66 : decode cX8_undo 66 = .ok (.iaload, 1) := by decide +kernel
theorem dX8_undo_67 : decode cX8_undo 67 = .ok (.iadd, 1) := by decide +kernel
theorem dX8_undo_68 : decode cX8_undo 68 = .ok (.ireturn, 1) := by decide +kernel
theorem dX8_shaftsWithin_0 : decode cX8_shaftsWithin 0 = .ok (.iconst 0, 1) := by decide +kernel
theorem dX8_shaftsWithin_1 : decode cX8_shaftsWithin 1 = .ok (.istore_n 3, 1) := by decide +kernel
theorem dX8_shaftsWithin_2 : decode cX8_shaftsWithin 2 = .ok (.iconst 0, 1) := by decide +kernel
theorem dX8_shaftsWithin_3 : decode cX8_shaftsWithin 3 = .ok (.istore 4, 2) := by decide +kernel
theorem dX8_shaftsWithin_5 : decode cX8_shaftsWithin 5 = .ok (.iload 4, 2) := by decide +kernel
theorem dX8_shaftsWithin_7 : decode cX8_shaftsWithin 7 = .ok (.aload_n 0, 1) := by decide +kernel
theorem dX8_shaftsWithin_8 : decode cX8_shaftsWithin 8 = .ok (.getfield 7, 3) := by decide +kernel
theorem dX8_shaftsWithin_11 : decode cX8_shaftsWithin 11 = .ok (.bipush 8, 2) := by decide +kernel
theorem dX8_shaftsWithin_13 : decode cX8_shaftsWithin 13 = .ok (.iaload, 1) := by decide +kernel
theorem dX8_shaftsWithin_14 : decode cX8_shaftsWithin 14 = .ok (.if_icmp .ge 37, 3) := by decide +kernel
theorem dX8_shaftsWithin_17 : decode cX8_shaftsWithin 17 = .ok (.iload_n 3, 1) := by decide +kernel
theorem dX8_shaftsWithin_18 : decode cX8_shaftsWithin 18 = .ok (.aload_n 0, 1) := by decide +kernel
theorem dX8_shaftsWithin_19 : decode cX8_shaftsWithin 19 = .ok (.iload 4, 2) := by decide +kernel
theorem dX8_shaftsWithin_21 : decode cX8_shaftsWithin 21 = .ok (.invokevirtual 56, 3) := by decide +kernel
theorem dX8_shaftsWithin_24 : decode cX8_shaftsWithin 24 = .ok (.iload_n 1, 1) := by decide +kernel
theorem dX8_shaftsWithin_25 : decode cX8_shaftsWithin 25 = .ok (.if_icmp .lt 17, 3) := by decide +kernel
theorem dX8_shaftsWithin_28 : decode cX8_shaftsWithin 28 = .ok (.aload_n 0, 1) := by decide +kernel
theorem dX8_shaftsWithin_29 : decode cX8_shaftsWithin 29 = .ok (.iload 4, 2) := by decide +kernel
theorem dX8_shaftsWithin_31 : decode cX8_shaftsWithin 31 = .ok (.invokevirtual 60, 3) := by decide +kernel
theorem dX8_shaftsWithin_34 : decode cX8_shaftsWithin 34 = .ok (.iload_n 2, 1) := by decide +kernel
theorem dX8_shaftsWithin_35 : decode cX8_shaftsWithin 35 = .ok (.if_icmp .gt 7, 3) := by decide +kernel
theorem dX8_shaftsWithin_38 : decode cX8_shaftsWithin 38 = .ok (.iconst 1, 1) := by decide +kernel
theorem dX8_shaftsWithin_39 : decode cX8_shaftsWithin 39 = .ok (.goto 4, 3) := by decide +kernel
theorem dX8_shaftsWithin_42 : decode cX8_shaftsWithin 42 = .ok (.iconst 0, 1) := by decide +kernel
theorem dX8_shaftsWithin_43 : decode cX8_shaftsWithin 43 = .ok (.iadd, 1) := by decide +kernel
theorem dX8_shaftsWithin_44 : decode cX8_shaftsWithin 44 = .ok (.istore_n 3, 1) := by decide +kernel
theorem dX8_shaftsWithin_45 : decode cX8_shaftsWithin 45 = .ok (.iinc 4 1, 3) := by decide +kernel
theorem dX8_shaftsWithin_48 : decode cX8_shaftsWithin 48 = .ok (.goto (-43), 3) := by decide +kernel
theorem dX8_shaftsWithin_51 : decode cX8_shaftsWithin 51 = .ok (.iload_n 3, 1) := by decide +kernel
theorem dX8_shaftsWithin_52 : decode cX8_shaftsWithin 52 = .ok (.ireturn, 1) := by decide +kernel
theorem dX8_boresWithin_0 : decode cX8_boresWithin 0 = .ok (.iconst 0, 1) := by decide +kernel
theorem dX8_boresWithin_1 : decode cX8_boresWithin 1 = .ok (.istore_n 3, 1) := by decide +kernel
theorem dX8_boresWithin_2 : decode cX8_boresWithin 2 = .ok (.iconst 0, 1) := by decide +kernel
theorem dX8_boresWithin_3 : decode cX8_boresWithin 3 = .ok (.istore 4, 2) := by decide +kernel
theorem dX8_boresWithin_5 : decode cX8_boresWithin 5 = .ok (.iload 4, 2) := by decide +kernel
theorem dX8_boresWithin_7 : decode cX8_boresWithin 7 = .ok (.aload_n 0, 1) := by decide +kernel
theorem dX8_boresWithin_8 : decode cX8_boresWithin 8 = .ok (.getfield 7, 3) := by decide +kernel
theorem dX8_boresWithin_11 : decode cX8_boresWithin 11 = .ok (.bipush 57, 2) := by decide +kernel
theorem dX8_boresWithin_13 : decode cX8_boresWithin 13 = .ok (.iaload, 1) := by decide +kernel
theorem dX8_boresWithin_14 : decode cX8_boresWithin 14 = .ok (.if_icmp .ge 38, 3) := by decide +kernel
theorem dX8_boresWithin_17 : decode cX8_boresWithin 17 = .ok (.iload_n 3, 1) := by decide +kernel
theorem dX8_boresWithin_18 : decode cX8_boresWithin 18 = .ok (.aload_n 0, 1) := by decide +kernel
theorem dX8_boresWithin_19 : decode cX8_boresWithin 19 = .ok (.getfield 7, 3) := by decide +kernel
theorem dX8_boresWithin_22 : decode cX8_boresWithin 22 = .ok (.bipush 58, 2) := by decide +kernel
theorem dX8_boresWithin_24 : decode cX8_boresWithin 24 = .ok (.iload 4, 2) := by decide +kernel
theorem dX8_boresWithin_26 : decode cX8_boresWithin 26 = .ok (.iadd, 1) := by decide +kernel
theorem dX8_boresWithin_27 : decode cX8_boresWithin 27 = .ok (.iaload, 1) := by decide +kernel
theorem dX8_boresWithin_28 : decode cX8_boresWithin 28 = .ok (.i2l, 1) := by decide +kernel
theorem dX8_boresWithin_29 : decode cX8_boresWithin 29 = .ok (.iload_n 1, 1) := by decide +kernel
theorem dX8_boresWithin_30 : decode cX8_boresWithin 30 = .ok (.i2l, 1) := by decide +kernel
theorem dX8_boresWithin_31 : decode cX8_boresWithin 31 = .ok (.iload_n 2, 1) := by decide +kernel
theorem dX8_boresWithin_32 : decode cX8_boresWithin 32 = .ok (.i2l, 1) := by decide +kernel
theorem dX8_boresWithin_33 : decode cX8_boresWithin 33 = .ok (.invokestatic 50, 3) := by decide +kernel
theorem dX8_boresWithin_36 : decode cX8_boresWithin 36 = .ok (.ifCond .eq 7, 3) := by decide +kernel
theorem dX8_boresWithin_39 : decode cX8_boresWithin 39 = .ok (.iconst 1, 1) := by decide +kernel
theorem dX8_boresWithin_40 : decode cX8_boresWithin 40 = .ok (.goto 4, 3) := by decide +kernel
theorem dX8_boresWithin_43 : decode cX8_boresWithin 43 = .ok (.iconst 0, 1) := by decide +kernel
theorem dX8_boresWithin_44 : decode cX8_boresWithin 44 = .ok (.iadd, 1) := by decide +kernel
theorem dX8_boresWithin_45 : decode cX8_boresWithin 45 = .ok (.istore_n 3, 1) := by decide +kernel
theorem dX8_boresWithin_46 : decode cX8_boresWithin 46 = .ok (.iinc 4 1, 3) := by decide +kernel
theorem dX8_boresWithin_49 : decode cX8_boresWithin 49 = .ok (.goto (-44), 3) := by decide +kernel
theorem dX8_boresWithin_52 : decode cX8_boresWithin 52 = .ok (.iload_n 3, 1) := by decide +kernel
theorem dX8_boresWithin_53 : decode cX8_boresWithin 53 = .ok (.ireturn, 1) := by decide +kernel
theorem dX8_crowd_0 : decode cX8_crowd 0 = .ok (.iload_n 1, 1) := by decide +kernel
theorem dX8_crowd_1 : decode cX8_crowd 1 = .ok (.i2l, 1) := by decide +kernel
theorem dX8_crowd_2 : decode cX8_crowd 2 = .ok (.lconst 0, 1) := by decide +kernel
theorem dX8_crowd_3 : decode cX8_crowd 3 = .ok (.ldc2_w 48, 3) := by decide +kernel
theorem dX8_crowd_6 : decode cX8_crowd 6 = .ok (.invokestatic 50, 3) := by decide +kernel
theorem dX8_crowd_9 : decode cX8_crowd 9 = .ok (.ifCond .ne 6, 3) := by decide +kernel
theorem dX8_crowd_12 : decode cX8_crowd 12 = .ok (.ldc 118, 2) := by decide +kernel
theorem dX8_crowd_14 : decode cX8_crowd 14 = .ok (.ireturn, 1) := by decide +kernel
theorem dX8_crowd_15 : decode cX8_crowd 15 = .ok (.iconst 0, 1) := by decide +kernel
theorem dX8_crowd_16 : decode cX8_crowd 16 = .ok (.istore_n 2, 1) := by decide +kernel
theorem dX8_crowd_17 : decode cX8_crowd 17 = .ok (.iconst (-1), 1) := by decide +kernel
theorem dX8_crowd_18 : decode cX8_crowd 18 = .ok (.istore_n 3, 1) := by decide +kernel
theorem dX8_crowd_19 : decode cX8_crowd 19 = .ok (.iconst (-1), 1) := by decide +kernel
theorem dX8_crowd_20 : decode cX8_crowd 20 = .ok (.istore 4, 2) := by decide +kernel
theorem dX8_crowd_22 : decode cX8_crowd 22 = .ok (.iconst 0, 1) := by decide +kernel
theorem dX8_crowd_23 : decode cX8_crowd 23 = .ok (.istore 5, 2) := by decide +kernel
theorem dX8_crowd_25 : decode cX8_crowd 25 = .ok (.iload 5, 2) := by decide +kernel
theorem dX8_crowd_27 : decode cX8_crowd 27 = .ok (.aload_n 0, 1) := by decide +kernel
theorem dX8_crowd_28 : decode cX8_crowd 28 = .ok (.getfield 7, 3) := by decide +kernel
theorem dX8_crowd_31 : decode cX8_crowd 31 = .ok (.bipush 8, 2) := by decide +kernel
theorem dX8_crowd_33 : decode cX8_crowd 33 = .ok (.iaload, 1) := by decide +kernel
theorem dX8_crowd_34 : decode cX8_crowd 34 = .ok (.if_icmp .ge 146, 3) := by decide +kernel
theorem dX8_crowd_37 : decode cX8_crowd 37 = .ok (.iconst 0, 1) := by decide +kernel
theorem dX8_crowd_38 : decode cX8_crowd 38 = .ok (.istore 6, 2) := by decide +kernel
theorem dX8_crowd_40 : decode cX8_crowd 40 = .ok (.iload 6, 2) := by decide +kernel
theorem dX8_crowd_42 : decode cX8_crowd 42 = .ok (.aload_n 0, 1) := by decide +kernel
theorem dX8_crowd_43 : decode cX8_crowd 43 = .ok (.getfield 7, 3) := by decide +kernel
theorem dX8_crowd_46 : decode cX8_crowd 46 = .ok (.bipush 8, 2) := by decide +kernel
theorem dX8_crowd_48 : decode cX8_crowd 48 = .ok (.iaload, 1) := by decide +kernel
theorem dX8_crowd_49 : decode cX8_crowd 49 = .ok (.if_icmp .ge 125, 3) := by decide +kernel
theorem dX8_crowd_52 : decode cX8_crowd 52 = .ok (.aload_n 0, 1) := by decide +kernel
theorem dX8_crowd_53 : decode cX8_crowd 53 = .ok (.iload 5, 2) := by decide +kernel
theorem dX8_crowd_55 : decode cX8_crowd 55 = .ok (.invokevirtual 56, 3) := by decide +kernel
theorem dX8_crowd_58 : decode cX8_crowd 58 = .ok (.istore 7, 2) := by decide +kernel
theorem dX8_crowd_60 : decode cX8_crowd 60 = .ok (.aload_n 0, 1) := by decide +kernel
theorem dX8_crowd_61 : decode cX8_crowd 61 = .ok (.iload 6, 2) := by decide +kernel
theorem dX8_crowd_63 : decode cX8_crowd 63 = .ok (.invokevirtual 60, 3) := by decide +kernel
theorem dX8_crowd_66 : decode cX8_crowd 66 = .ok (.istore 8, 2) := by decide +kernel
theorem dX8_crowd_68 : decode cX8_crowd 68 = .ok (.aload_n 0, 1) := by decide +kernel
theorem dX8_crowd_69 : decode cX8_crowd 69 = .ok (.iload 7, 2) := by decide +kernel
theorem dX8_crowd_71 : decode cX8_crowd 71 = .ok (.iload 8, 2) := by decide +kernel
theorem dX8_crowd_73 : decode cX8_crowd 73 = .ok (.invokevirtual 191, 3) := by decide +kernel
theorem dX8_crowd_76 : decode cX8_crowd 76 = .ok (.aload_n 0, 1) := by decide +kernel
theorem dX8_crowd_77 : decode cX8_crowd 77 = .ok (.iload 7, 2) := by decide +kernel
theorem dX8_crowd_79 : decode cX8_crowd 79 = .ok (.iload 8, 2) := by decide +kernel
theorem dX8_crowd_81 : decode cX8_crowd 81 = .ok (.invokevirtual 194, 3) := by decide +kernel
theorem dX8_crowd_84 : decode cX8_crowd 84 = .ok (.isub, 1) := by decide +kernel
theorem dX8_crowd_85 : decode cX8_crowd 85 = .ok (.istore 9, 2) := by decide +kernel
theorem dX8_crowd_87 : decode cX8_crowd 87 = .ok (.iload 9, 2) := by decide +kernel
theorem dX8_crowd_89 : decode cX8_crowd 89 = .ok (.iload_n 2, 1) := by decide +kernel
theorem dX8_crowd_90 : decode cX8_crowd 90 = .ok (.if_icmp .gt 33, 3) := by decide +kernel
theorem dX8_crowd_93 : decode cX8_crowd 93 = .ok (.iload 9, 2) := by decide +kernel
theorem dX8_crowd_95 : decode cX8_crowd 95 = .ok (.iload_n 2, 1) := by decide +kernel
theorem dX8_crowd_96 : decode cX8_crowd 96 = .ok (.if_icmp .ne 31, 3) := by decide +kernel
theorem dX8_crowd_99 : decode cX8_crowd 99 = .ok (.iload 9, 2) := by decide +kernel
theorem dX8_crowd_101 : decode cX8_crowd 101 = .ok (.ifCond .le 26, 3) := by decide +kernel
theorem dX8_crowd_104 : decode cX8_crowd 104 = .ok (.iload 7, 2) := by decide +kernel
theorem dX8_crowd_106 : decode cX8_crowd 106 = .ok (.iload_n 3, 1) := by decide +kernel
theorem dX8_crowd_107 : decode cX8_crowd 107 = .ok (.if_icmp .lt 16, 3) := by decide +kernel
theorem dX8_crowd_110 : decode cX8_crowd 110 = .ok (.iload 7, 2) := by decide +kernel
theorem dX8_crowd_112 : decode cX8_crowd 112 = .ok (.iload_n 3, 1) := by decide +kernel
theorem dX8_crowd_113 : decode cX8_crowd 113 = .ok (.if_icmp .ne 14, 3) := by decide +kernel
theorem dX8_crowd_116 : decode cX8_crowd 116 = .ok (.iload 8, 2) := by decide +kernel
theorem dX8_crowd_118 : decode cX8_crowd 118 = .ok (.iload 4, 2) := by decide +kernel
theorem dX8_crowd_120 : decode cX8_crowd 120 = .ok (.if_icmp .ge 7, 3) := by decide +kernel
theorem dX8_crowd_123 : decode cX8_crowd 123 = .ok (.iconst 1, 1) := by decide +kernel
theorem dX8_crowd_124 : decode cX8_crowd 124 = .ok (.goto 4, 3) := by decide +kernel
theorem dX8_crowd_127 : decode cX8_crowd 127 = .ok (.iconst 0, 1) := by decide +kernel
theorem dX8_crowd_128 : decode cX8_crowd 128 = .ok (.istore 10, 2) := by decide +kernel
theorem dX8_crowd_130 : decode cX8_crowd 130 = .ok (.iload 10, 2) := by decide +kernel
theorem dX8_crowd_132 : decode cX8_crowd 132 = .ok (.ifCond .eq 8, 3) := by decide +kernel
theorem dX8_crowd_135 : decode cX8_crowd 135 = .ok (.iload 9, 2) := by decide +kernel
theorem dX8_crowd_137 : decode cX8_crowd 137 = .ok (.goto 4, 3) := by decide +kernel
theorem dX8_crowd_140 : decode cX8_crowd 140 = .ok (.iload_n 2, 1) := by decide +kernel
theorem dX8_crowd_141 : decode cX8_crowd 141 = .ok (.istore_n 2, 1) := by decide +kernel
theorem dX8_crowd_142 : decode cX8_crowd 142 = .ok (.iload 10, 2) := by decide +kernel
theorem dX8_crowd_144 : decode cX8_crowd 144 = .ok (.ifCond .eq 8, 3) := by decide +kernel
theorem dX8_crowd_147 : decode cX8_crowd 147 = .ok (.iload 7, 2) := by decide +kernel
theorem dX8_crowd_149 : decode cX8_crowd 149 = .ok (.goto 4, 3) := by decide +kernel
theorem dX8_crowd_152 : decode cX8_crowd 152 = .ok (.iload_n 3, 1) := by decide +kernel
theorem dX8_crowd_153 : decode cX8_crowd 153 = .ok (.istore_n 3, 1) := by decide +kernel
theorem dX8_crowd_154 : decode cX8_crowd 154 = .ok (.iload 10, 2) := by decide +kernel
theorem dX8_crowd_156 : decode cX8_crowd 156 = .ok (.ifCond .eq 8, 3) := by decide +kernel
theorem dX8_crowd_159 : decode cX8_crowd 159 = .ok (.iload 8, 2) := by decide +kernel
theorem dX8_crowd_161 : decode cX8_crowd 161 = .ok (.goto 5, 3) := by decide +kernel
theorem dX8_crowd_164 : decode cX8_crowd 164 = .ok (.iload 4, 2) := by decide +kernel
theorem dX8_crowd_166 : decode cX8_crowd 166 = .ok (.istore 4, 2) := by decide +kernel
theorem dX8_crowd_168 : decode cX8_crowd 168 = .ok (.iinc 6 1, 3) := by decide +kernel
theorem dX8_crowd_171 : decode cX8_crowd 171 = .ok (.goto (-131), 3) := by decide +kernel
theorem dX8_crowd_174 : decode cX8_crowd 174 = .ok (.iinc 5 1, 3) := by decide +kernel
theorem dX8_crowd_177 : decode cX8_crowd 177 = .ok (.goto (-152), 3) := by decide +kernel
theorem dX8_crowd_180 : decode cX8_crowd 180 = .ok (.iload_n 2, 1) := by decide +kernel
theorem dX8_crowd_181 : decode cX8_crowd 181 = .ok (.ifCond .ne 5, 3) := by decide +kernel
theorem dX8_crowd_184 : decode cX8_crowd 184 = .ok (.iconst (-1), 1) := by decide +kernel
theorem dX8_crowd_185 : decode cX8_crowd 185 = .ok (.ireturn, 1) := by decide +kernel
theorem dX8_crowd_186 : decode cX8_crowd 186 = .ok (.iload_n 1, 1) := by decide +kernel
theorem dX8_crowd_187 : decode cX8_crowd 187 = .ok (.ifCond .ne 7, 3) := by decide +kernel
theorem dX8_crowd_190 : decode cX8_crowd 190 = .ok (.iload_n 3, 1) := by decide +kernel
theorem dX8_crowd_191 : decode cX8_crowd 191 = .ok (.goto 35, 3) := by decide +kernel
theorem dX8_crowd_194 : decode cX8_crowd 194 = .ok (.iload_n 1, 1) := by decide +kernel
theorem dX8_crowd_195 : decode cX8_crowd 195 = .ok (.iconst 1, 1) := by decide +kernel
theorem dX8_crowd_196 : decode cX8_crowd 196 = .ok (.if_icmp .ne 8, 3) := by decide +kernel
theorem dX8_crowd_199 : decode cX8_crowd 199 = .ok (.iload 4, 2) := by decide +kernel
theorem dX8_crowd_201 : decode cX8_crowd 201 = .ok (.goto 25, 3) := by decide +kernel
theorem dX8_crowd_204 : decode cX8_crowd 204 = .ok (.iload_n 1, 1) := by decide +kernel
theorem dX8_crowd_205 : decode cX8_crowd 205 = .ok (.iconst 2, 1) := by decide +kernel
theorem dX8_crowd_206 : decode cX8_crowd 206 = .ok (.if_icmp .ne 13, 3) := by decide +kernel
theorem dX8_crowd_209 : decode cX8_crowd 209 = .ok (.aload_n 0, 1) := by decide +kernel
theorem dX8_crowd_210 : decode cX8_crowd 210 = .ok (.iload_n 3, 1) := by decide +kernel
theorem dX8_crowd_211 : decode cX8_crowd 211 = .ok (.iload 4, 2) := by decide +kernel
theorem dX8_crowd_213 : decode cX8_crowd 213 = .ok (.invokevirtual 191, 3) := by decide +kernel
theorem dX8_crowd_216 : decode cX8_crowd 216 = .ok (.goto 10, 3) := by decide +kernel
theorem dX8_crowd_219 : decode cX8_crowd 219 = .ok (.aload_n 0, 1) := by decide +kernel
theorem dX8_crowd_220 : decode cX8_crowd 220 = .ok (.iload_n 3, 1) := by decide +kernel
theorem dX8_crowd_221 : decode cX8_crowd 221 = .ok (.iload 4, 2) := by decide +kernel
theorem dX8_crowd_223 : decode cX8_crowd 223 = .ok (.invokevirtual 194, 3) := by decide +kernel
theorem dX8_crowd_226 : decode cX8_crowd 226 = .ok (.ireturn, 1) := by decide +kernel
theorem dX8_keyOf_0 : decode cX8_keyOf 0 = .ok (.iload_n 1, 1) := by decide +kernel
theorem dX8_keyOf_1 : decode cX8_keyOf 1 = .ok (.bipush 24, 2) := by decide +kernel
theorem dX8_keyOf_3 : decode cX8_keyOf 3 = .ok (.if_icmp .ge 11, 3) := by decide +kernel
theorem dX8_keyOf_6 : decode cX8_keyOf 6 = .ok (.aload_n 0, 1) := by decide +kernel
theorem dX8_keyOf_7 : decode cX8_keyOf 7 = .ok (.iload_n 1, 1) := by decide +kernel
theorem dX8_keyOf_8 : decode cX8_keyOf 8 = .ok (.invokevirtual 56, 3) := by decide +kernel
theorem dX8_keyOf_11 : decode cX8_keyOf 11 = .ok (.goto 15, 3) := by decide +kernel
theorem dX8_keyOf_14 : decode cX8_keyOf 14 = .ok (.aload_n 0, 1) := by decide +kernel
theorem dX8_keyOf_15 : decode cX8_keyOf 15 = .ok (.getfield 7, 3) := by decide +kernel
theorem dX8_keyOf_18 : decode cX8_keyOf 18 = .ok (.bipush 58, 2) := by decide +kernel
theorem dX8_keyOf_20 : decode cX8_keyOf 20 = .ok (.iload_n 1, 1) := by decide +kernel
theorem dX8_keyOf_21 : decode cX8_keyOf 21 = .ok (.iadd, 1) := by decide +kernel
theorem dX8_keyOf_22 : decode cX8_keyOf 22 = .ok (.bipush 24, 2) := by decide +kernel
theorem dX8_keyOf_24 : decode cX8_keyOf 24 = .ok (.isub, 1) := by decide +kernel
theorem dX8_keyOf_25 : decode cX8_keyOf 25 = .ok (.iaload, 1) := by decide +kernel
theorem dX8_keyOf_26 : decode cX8_keyOf 26 = .ok (.ireturn, 1) := by decide +kernel
theorem dX8_isAhead_0 : decode cX8_isAhead 0 = .ok (.aload_n 0, 1) := by decide +kernel
theorem dX8_isAhead_1 : decode cX8_isAhead 1 = .ok (.iload_n 1, 1) := by decide +kernel
theorem dX8_isAhead_2 : decode cX8_isAhead 2 = .ok (.invokevirtual 197, 3) := by decide +kernel
theorem dX8_isAhead_5 : decode cX8_isAhead 5 = .ok (.aload_n 0, 1) := by decide +kernel
theorem dX8_isAhead_6 : decode cX8_isAhead 6 = .ok (.iload_n 2, 1) := by decide +kernel
theorem dX8_isAhead_7 : decode cX8_isAhead 7 = .ok (.invokevirtual 197, 3) := by decide +kernel
theorem dX8_isAhead_10 : decode cX8_isAhead 10 = .ok (.if_icmp .lt 21, 3) := by decide +kernel
theorem dX8_isAhead_13 : decode cX8_isAhead 13 = .ok (.aload_n 0, 1) := by decide +kernel
theorem dX8_isAhead_14 : decode cX8_isAhead 14 = .ok (.iload_n 1, 1) := by decide +kernel
theorem dX8_isAhead_15 : decode cX8_isAhead 15 = .ok (.invokevirtual 197, 3) := by decide +kernel
theorem dX8_isAhead_18 : decode cX8_isAhead 18 = .ok (.aload_n 0, 1) := by decide +kernel
theorem dX8_isAhead_19 : decode cX8_isAhead 19 = .ok (.iload_n 2, 1) := by decide +kernel
theorem dX8_isAhead_20 : decode cX8_isAhead 20 = .ok (.invokevirtual 197, 3) := by decide +kernel
theorem dX8_isAhead_23 : decode cX8_isAhead 23 = .ok (.if_icmp .ne 12, 3) := by decide +kernel
theorem dX8_isAhead_26 : decode cX8_isAhead 26 = .ok (.iload_n 1, 1) := by decide +kernel
theorem dX8_isAhead_27 : decode cX8_isAhead 27 = .ok (.iload_n 2, 1) := by decide +kernel
theorem dX8_isAhead_28 : decode cX8_isAhead 28 = .ok (.if_icmp .ge 7, 3) := by decide +kernel
theorem dX8_isAhead_31 : decode cX8_isAhead 31 = .ok (.iconst 1, 1) := by decide +kernel
theorem dX8_isAhead_32 : decode cX8_isAhead 32 = .ok (.goto 4, 3) := by decide +kernel
theorem dX8_isAhead_35 : decode cX8_isAhead 35 = .ok (.iconst 0, 1) := by decide +kernel
theorem dX8_isAhead_36 : decode cX8_isAhead 36 = .ok (.ireturn, 1) := by decide +kernel
theorem dX8_lines_0 : decode cX8_lines 0 = .ok (.iconst 0, 1) := by decide +kernel
theorem dX8_lines_1 : decode cX8_lines 1 = .ok (.istore_n 1, 1) := by decide +kernel
theorem dX8_lines_2 : decode cX8_lines 2 = .ok (.iconst 0, 1) := by decide +kernel
theorem dX8_lines_3 : decode cX8_lines 3 = .ok (.istore_n 2, 1) := by decide +kernel
theorem dX8_lines_4 : decode cX8_lines 4 = .ok (.iload_n 2, 1) := by decide +kernel
theorem dX8_lines_5 : decode cX8_lines 5 = .ok (.aload_n 0, 1) := by decide +kernel
theorem dX8_lines_6 : decode cX8_lines 6 = .ok (.getfield 7, 3) := by decide +kernel
theorem dX8_lines_9 : decode cX8_lines 9 = .ok (.bipush 8, 2) := by decide +kernel
theorem dX8_lines_11 : decode cX8_lines 11 = .ok (.iaload, 1) := by decide +kernel
theorem dX8_lines_12 : decode cX8_lines 12 = .ok (.aload_n 0, 1) := by decide +kernel
theorem dX8_lines_13 : decode cX8_lines 13 = .ok (.getfield 7, 3) := by decide +kernel
theorem dX8_lines_16 : decode cX8_lines 16 = .ok (.bipush 57, 2) := by decide +kernel
theorem dX8_lines_18 : decode cX8_lines 18 = .ok (.iaload, 1) := by decide +kernel
theorem dX8_lines_19 : decode cX8_lines 19 = .ok (.iadd, 1) := by decide +kernel
theorem dX8_lines_20 : decode cX8_lines 20 = .ok (.if_icmp .ge 95, 3) := by decide +kernel
theorem dX8_lines_23 : decode cX8_lines 23 = .ok (.iload_n 2, 1) := by decide +kernel
theorem dX8_lines_24 : decode cX8_lines 24 = .ok (.aload_n 0, 1) := by decide +kernel
theorem dX8_lines_25 : decode cX8_lines 25 = .ok (.getfield 7, 3) := by decide +kernel
theorem dX8_lines_28 : decode cX8_lines 28 = .ok (.bipush 8, 2) := by decide +kernel
theorem dX8_lines_30 : decode cX8_lines 30 = .ok (.iaload, 1) := by decide +kernel
theorem dX8_lines_31 : decode cX8_lines 31 = .ok (.if_icmp .ge 7, 3) := by decide +kernel
theorem dX8_lines_34 : decode cX8_lines 34 = .ok (.iload_n 2, 1) := by decide +kernel
theorem dX8_lines_35 : decode cX8_lines 35 = .ok (.goto 15, 3) := by decide +kernel
theorem dX8_lines_38 : decode cX8_lines 38 = .ok (.bipush 24, 2) := by decide +kernel
theorem dX8_lines_40 : decode cX8_lines 40 = .ok (.iload_n 2, 1) := by decide +kernel
theorem dX8_lines_41 : decode cX8_lines 41 = .ok (.iadd, 1) := by decide +kernel
theorem dX8_lines_42 : decode cX8_lines 42 = .ok (.aload_n 0, 1) := by decide +kernel
theorem dX8_lines_43 : decode cX8_lines 43 = .ok (.getfield 7, 3) := by decide +kernel
theorem dX8_lines_46 : decode cX8_lines 46 = .ok (.bipush 8, 2) := by decide +kernel
theorem dX8_lines_48 : decode cX8_lines 48 = .ok (.iaload, 1) := by decide +kernel
theorem dX8_lines_49 : decode cX8_lines 49 = .ok (.isub, 1) := by decide +kernel
theorem dX8_lines_50 : decode cX8_lines 50 = .ok (.istore_n 3, 1) := by decide +kernel
theorem dX8_lines_51 : decode cX8_lines 51 = .ok (.iload_n 1, 1) := by decide +kernel
theorem dX8_lines_52 : decode cX8_lines 52 = .ok (.istore 4, 2) := by decide +kernel
theorem dX8_lines_54 : decode cX8_lines 54 = .ok (.iload 4, 2) := by decide +kernel
theorem dX8_lines_56 : decode cX8_lines 56 = .ok (.ifCond .le 42, 3) := by decide +kernel
theorem dX8_lines_59 : decode cX8_lines 59 = .ok (.aload_n 0, 1) := by decide +kernel
theorem dX8_lines_60 : decode cX8_lines 60 = .ok (.iload_n 3, 1) := by decide +kernel
theorem dX8_lines_61 : decode cX8_lines 61 = .ok (.aload_n 0, 1) := by decide +kernel
theorem dX8_lines_62 : decode cX8_lines 62 = .ok (.getfield 38, 3) := by decide +kernel
theorem dX8_lines_65 : decode cX8_lines 65 = .ok (.iload 4, 2) := by decide +kernel
theorem dX8_lines_67 : decode cX8_lines 67 = .ok (.iconst 1, 1) := by decide +kernel
theorem dX8_lines_68 : decode cX8_lines 68 = .ok (.isub, 1) := by decide +kernel
theorem dX8_lines_69 : decode cX8_lines 69 = .ok (.iaload, 1) := by decide +kernel
theorem dX8_lines_70 : decode cX8_lines 70 = .ok (.invokevirtual 200, 3) := by decide +kernel
theorem dX8_lines_73 : decode cX8_lines 73 = .ok (.ifCond .eq 25, 3) := by decide +kernel
theorem dX8_lines_76 : decode cX8_lines 76 = .ok (.aload_n 0, 1) := by decide +kernel
theorem dX8_lines_77 : decode cX8_lines 77 = .ok (.getfield 38, 3) := by decide +kernel
theorem dX8_lines_80 : decode cX8_lines 80 = .ok (.iload 4, 2) := by decide +kernel
theorem dX8_lines_82 : decode cX8_lines 82 = .ok (.aload_n 0, 1) := by decide +kernel
theorem dX8_lines_83 : decode cX8_lines 83 = .ok (.getfield 38, 3) := by decide +kernel
theorem dX8_lines_86 : decode cX8_lines 86 = .ok (.iload 4, 2) := by decide +kernel
theorem dX8_lines_88 : decode cX8_lines 88 = .ok (.iconst 1, 1) := by decide +kernel
theorem dX8_lines_89 : decode cX8_lines 89 = .ok (.isub, 1) := by decide +kernel
theorem dX8_lines_90 : decode cX8_lines 90 = .ok (.iaload, 1) := by decide +kernel
theorem dX8_lines_91 : decode cX8_lines 91 = .ok (.iastore, 1) := by decide +kernel
theorem dX8_lines_92 : decode cX8_lines 92 = .ok (.iinc 4 (-1), 3) := by decide +kernel
theorem dX8_lines_95 : decode cX8_lines 95 = .ok (.goto (-41), 3) := by decide +kernel
theorem dX8_lines_98 : decode cX8_lines 98 = .ok (.aload_n 0, 1) := by decide +kernel
theorem dX8_lines_99 : decode cX8_lines 99 = .ok (.getfield 38, 3) := by decide +kernel
theorem dX8_lines_102 : decode cX8_lines 102 = .ok (.iload 4, 2) := by decide +kernel
theorem dX8_lines_104 : decode cX8_lines 104 = .ok (.iload_n 3, 1) := by decide +kernel
theorem dX8_lines_105 : decode cX8_lines 105 = .ok (.iastore, 1) := by decide +kernel
theorem dX8_lines_106 : decode cX8_lines 106 = .ok (.iinc 1 1, 3) := by decide +kernel
theorem dX8_lines_109 : decode cX8_lines 109 = .ok (.iinc 2 1, 3) := by decide +kernel
theorem dX8_lines_112 : decode cX8_lines 112 = .ok (.goto (-108), 3) := by decide +kernel
theorem dX8_lines_115 : decode cX8_lines 115 = .ok (.iload_n 1, 1) := by decide +kernel
theorem dX8_lines_116 : decode cX8_lines 116 = .ok (.ireturn, 1) := by decide +kernel
theorem dX8_goesWith_0 : decode cX8_goesWith 0 = .ok (.iconst 1, 1) := by decide +kernel
theorem dX8_goesWith_1 : decode cX8_goesWith 1 = .ok (.istore 4, 2) := by decide +kernel
theorem dX8_goesWith_3 : decode cX8_goesWith 3 = .ok (.iload_n 2, 1) := by decide +kernel
theorem dX8_goesWith_4 : decode cX8_goesWith 4 = .ok (.istore 5, 2) := by decide +kernel
theorem dX8_goesWith_6 : decode cX8_goesWith 6 = .ok (.iload 5, 2) := by decide +kernel
theorem dX8_goesWith_8 : decode cX8_goesWith 8 = .ok (.iload_n 3, 1) := by decide +kernel
theorem dX8_goesWith_9 : decode cX8_goesWith 9 = .ok (.if_icmp .ge 119, 3) := by decide +kernel
theorem dX8_goesWith_12 : decode cX8_goesWith 12 = .ok (.iload 4, 2) := by decide +kernel
theorem dX8_goesWith_14 : decode cX8_goesWith 14 = .ok (.ifCond .eq 114, 3) := by decide +kernel
theorem dX8_goesWith_17 : decode cX8_goesWith 17 = .ok (.aload_n 0, 1) := by decide +kernel
theorem dX8_goesWith_18 : decode cX8_goesWith 18 = .ok (.getfield 38, 3) := by decide +kernel
theorem dX8_goesWith_21 : decode cX8_goesWith 21 = .ok (.iload 5, 2) := by decide +kernel
theorem dX8_goesWith_23 : decode cX8_goesWith 23 = .ok (.iaload, 1) := by decide +kernel
theorem dX8_goesWith_24 : decode cX8_goesWith 24 = .ok (.istore 6, 2) := by decide +kernel
theorem dX8_goesWith_26 : decode cX8_goesWith 26 = .ok (.iload_n 1, 1) := by decide +kernel
theorem dX8_goesWith_27 : decode cX8_goesWith 27 = .ok (.bipush 24, 2) := by decide +kernel
theorem dX8_goesWith_29 : decode cX8_goesWith 29 = .ok (.if_icmp .ge 7, 3) := by decide +kernel
theorem dX8_goesWith_32 : decode cX8_goesWith 32 = .ok (.iconst 1, 1) := by decide +kernel
theorem dX8_goesWith_33 : decode cX8_goesWith 33 = .ok (.goto 4, 3) := by decide +kernel
theorem dX8_goesWith_36 : decode cX8_goesWith 36 = .ok (.iconst 0, 1) := by decide +kernel
theorem dX8_goesWith_37 : decode cX8_goesWith 37 = .ok (.iload 6, 2) := by decide +kernel
theorem dX8_goesWith_39 : decode cX8_goesWith 39 = .ok (.bipush 24, 2) := by decide +kernel
theorem dX8_goesWith_41 : decode cX8_goesWith 41 = .ok (.if_icmp .ge 7, 3) := by decide +kernel
theorem dX8_goesWith_44 : decode cX8_goesWith 44 = .ok (.iconst 1, 1) := by decide +kernel
theorem dX8_goesWith_45 : decode cX8_goesWith 45 = .ok (.goto 4, 3) := by decide +kernel
theorem dX8_goesWith_48 : decode cX8_goesWith 48 = .ok (.iconst 0, 1) := by decide +kernel
theorem dX8_goesWith_49 : decode cX8_goesWith 49 = .ok (.if_icmp .eq 7, 3) := by decide +kernel
theorem dX8_goesWith_52 : decode cX8_goesWith 52 = .ok (.iconst 1, 1) := by decide +kernel
theorem dX8_goesWith_53 : decode cX8_goesWith 53 = .ok (.goto 4, 3) := by decide +kernel
theorem dX8_goesWith_56 : decode cX8_goesWith 56 = .ok (.iconst 0, 1) := by decide +kernel
theorem dX8_goesWith_57 : decode cX8_goesWith 57 = .ok (.istore 7, 2) := by decide +kernel
theorem dX8_goesWith_59 : decode cX8_goesWith 59 = .ok (.iload 7, 2) := by decide +kernel
theorem dX8_goesWith_61 : decode cX8_goesWith 61 = .ok (.ifCond .eq 54, 3) := by decide +kernel
theorem dX8_goesWith_64 : decode cX8_goesWith 64 = .ok (.iload_n 1, 1) := by decide +kernel
theorem dX8_goesWith_65 : decode cX8_goesWith 65 = .ok (.bipush 24, 2) := by decide +kernel
theorem dX8_goesWith_67 : decode cX8_goesWith 67 = .ok (.if_icmp .ge 27, 3) := by decide +kernel
theorem dX8_goesWith_70 : decode cX8_goesWith 70 = .ok (.aload_n 0, 1) := by decide +kernel
theorem dX8_goesWith_71 : decode cX8_goesWith 71 = .ok (.iload_n 1, 1) := by decide +kernel
theorem dX8_goesWith_72 : decode cX8_goesWith 72 = .ok (.aload_n 0, 1) := by decide +kernel
theorem dX8_goesWith_73 : decode cX8_goesWith 73 = .ok (.getfield 7, 3) := by decide +kernel
theorem dX8_goesWith_76 : decode cX8_goesWith 76 = .ok (.bipush 58, 2) := by decide +kernel
theorem dX8_goesWith_78 : decode cX8_goesWith 78 = .ok (.iload 6, 2) := by decide +kernel
theorem dX8_goesWith_80 : decode cX8_goesWith 80 = .ok (.iadd, 1) := by decide +kernel
theorem dX8_goesWith_81 : decode cX8_goesWith 81 = .ok (.bipush 24, 2) := by decide +kernel
theorem dX8_goesWith_83 : decode cX8_goesWith 83 = .ok (.isub, 1) := by decide +kernel
theorem dX8_goesWith_84 : decode cX8_goesWith 84 = .ok (.iaload, 1) := by decide +kernel
theorem dX8_goesWith_85 : decode cX8_goesWith 85 = .ok (.invokevirtual 129, 3) := by decide +kernel
theorem dX8_goesWith_88 : decode cX8_goesWith 88 = .ok (.ifCond .eq 31, 3) := by decide +kernel
theorem dX8_goesWith_91 : decode cX8_goesWith 91 = .ok (.goto 24, 3) := by decide +kernel
theorem dX8_goesWith_94 : decode cX8_goesWith 94 = .ok (.aload_n 0, 1) := by decide +kernel
theorem dX8_goesWith_95 : decode cX8_goesWith 95 = .ok (.iload 6, 2) := by decide +kernel
theorem dX8_goesWith_97 : decode cX8_goesWith 97 = .ok (.aload_n 0, 1) := by decide +kernel
theorem dX8_goesWith_98 : decode cX8_goesWith 98 = .ok (.getfield 7, 3) := by decide +kernel
theorem dX8_goesWith_101 : decode cX8_goesWith 101 = .ok (.bipush 58, 2) := by decide +kernel
theorem dX8_goesWith_103 : decode cX8_goesWith 103 = .ok (.iload_n 1, 1) := by decide +kernel
theorem dX8_goesWith_104 : decode cX8_goesWith 104 = .ok (.iadd, 1) := by decide +kernel
theorem dX8_goesWith_105 : decode cX8_goesWith 105 = .ok (.bipush 24, 2) := by decide +kernel
theorem dX8_goesWith_107 : decode cX8_goesWith 107 = .ok (.isub, 1) := by decide +kernel
theorem dX8_goesWith_108 : decode cX8_goesWith 108 = .ok (.iaload, 1) := by decide +kernel
theorem dX8_goesWith_109 : decode cX8_goesWith 109 = .ok (.invokevirtual 129, 3) := by decide +kernel
theorem dX8_goesWith_112 : decode cX8_goesWith 112 = .ok (.ifCond .eq 7, 3) := by decide +kernel
theorem dX8_goesWith_115 : decode cX8_goesWith 115 = .ok (.iconst 1, 1) := by decide +kernel
theorem dX8_goesWith_116 : decode cX8_goesWith 116 = .ok (.goto 4, 3) := by decide +kernel
theorem dX8_goesWith_119 : decode cX8_goesWith 119 = .ok (.iconst 0, 1) := by decide +kernel
theorem dX8_goesWith_120 : decode cX8_goesWith 120 = .ok (.istore 4, 2) := by decide +kernel
theorem dX8_goesWith_122 : decode cX8_goesWith 122 = .ok (.iinc 5 1, 3) := by decide +kernel
theorem dX8_goesWith_125 : decode cX8_goesWith 125 = .ok (.goto (-119), 3) := by decide +kernel
theorem dX8_goesWith_128 : decode cX8_goesWith 128 = .ok (.iload 4, 2) := by decide +kernel
theorem dX8_goesWith_130 : decode cX8_goesWith 130 = .ok (.ireturn, 1) := by decide +kernel
theorem dX8_boxes_0 : decode cX8_boxes 0 = .ok (.iload_n 1, 1) := by decide +kernel
theorem dX8_boxes_1 : decode cX8_boxes 1 = .ok (.i2l, 1) := by decide +kernel
theorem dX8_boxes_2 : decode cX8_boxes 2 = .ok (.lconst 0, 1) := by decide +kernel
theorem dX8_boxes_3 : decode cX8_boxes 3 = .ok (.ldc2_w 203, 3) := by decide +kernel
theorem dX8_boxes_6 : decode cX8_boxes 6 = .ok (.invokestatic 50, 3) := by decide +kernel
theorem dX8_boxes_9 : decode cX8_boxes 9 = .ok (.ifCond .ne 6, 3) := by decide +kernel
theorem dX8_boxes_12 : decode cX8_boxes 12 = .ok (.ldc 118, 2) := by decide +kernel
theorem dX8_boxes_14 : decode cX8_boxes 14 = .ok (.ireturn, 1) := by decide +kernel
theorem dX8_boxes_15 : decode cX8_boxes 15 = .ok (.aload_n 0, 1) := by decide +kernel
theorem dX8_boxes_16 : decode cX8_boxes 16 = .ok (.invokevirtual 205, 3) := by decide +kernel
theorem dX8_boxes_19 : decode cX8_boxes 19 = .ok (.istore_n 2, 1) := by decide +kernel
theorem dX8_boxes_20 : decode cX8_boxes 20 = .ok (.iconst 0, 1) := by decide +kernel
theorem dX8_boxes_21 : decode cX8_boxes 21 = .ok (.istore_n 3, 1) := by decide +kernel
theorem dX8_boxes_22 : decode cX8_boxes 22 = .ok (.iload_n 3, 1) := by decide +kernel
theorem dX8_boxes_23 : decode cX8_boxes 23 = .ok (.sipush 490, 3) := by decide +kernel
theorem dX8_boxes_26 : decode cX8_boxes 26 = .ok (.if_icmp .ge 16, 3) := by decide +kernel
theorem dX8_boxes_29 : decode cX8_boxes 29 = .ok (.aload_n 0, 1) := by decide +kernel
theorem dX8_boxes_30 : decode cX8_boxes 30 = .ok (.getfield 41, 3) := by decide +kernel
theorem dX8_boxes_33 : decode cX8_boxes 33 = .ok (.iload_n 3, 1) := by decide +kernel
theorem dX8_boxes_34 : decode cX8_boxes 34 = .ok (.iconst 0, 1) := by decide +kernel
theorem dX8_boxes_35 : decode cX8_boxes 35 = .ok (.iastore, 1) := by decide +kernel
theorem dX8_boxes_36 : decode cX8_boxes 36 = .ok (.iinc 3 1, 3) := by decide +kernel
theorem dX8_boxes_39 : decode cX8_boxes 39 = .ok (.goto (-17), 3) := by decide +kernel
theorem dX8_boxes_42 : decode cX8_boxes 42 = .ok (.iconst 1, 1) := by decide +kernel
theorem dX8_boxes_43 : decode cX8_boxes 43 = .ok (.istore_n 3, 1) := by decide +kernel
theorem dX8_boxes_44 : decode cX8_boxes 44 = .ok (.iload_n 3, 1) := by decide +kernel
theorem dX8_boxes_45 : decode cX8_boxes 45 = .ok (.iload_n 1, 1) := by decide +kernel
theorem dX8_boxes_46 : decode cX8_boxes 46 = .ok (.if_icmp .gt 210, 3) := by decide +kernel
theorem dX8_boxes_49 : decode cX8_boxes 49 = .ok (.iconst 1, 1) := by decide +kernel
theorem dX8_boxes_50 : decode cX8_boxes 50 = .ok (.istore 4, 2) := by decide +kernel
theorem dX8_boxes_52 : decode cX8_boxes 52 = .ok (.iload 4, 2) := by decide +kernel
theorem dX8_boxes_54 : decode cX8_boxes 54 = .ok (.iload_n 2, 1) := by decide +kernel
theorem dX8_boxes_55 : decode cX8_boxes 55 = .ok (.if_icmp .gt 195, 3) := by decide +kernel
theorem dX8_boxes_58 : decode cX8_boxes 58 = .ok (.aload_n 0, 1) := by decide +kernel
theorem dX8_boxes_59 : decode cX8_boxes 59 = .ok (.getfield 41, 3) := by decide +kernel
theorem dX8_boxes_62 : decode cX8_boxes 62 = .ok (.bipush 49, 2) := by decide +kernel
theorem dX8_boxes_64 : decode cX8_boxes 64 = .ok (.iload_n 3, 1) := by decide +kernel
theorem dX8_boxes_65 : decode cX8_boxes 65 = .ok (.imul, 1) := by decide +kernel
theorem dX8_boxes_66 : decode cX8_boxes 66 = .ok (.iload 4, 2) := by decide +kernel
theorem dX8_boxes_68 : decode cX8_boxes 68 = .ok (.iadd, 1) := by decide +kernel
theorem dX8_boxes_69 : decode cX8_boxes 69 = .ok (.iconst 1, 1) := by decide +kernel
theorem dX8_boxes_70 : decode cX8_boxes 70 = .ok (.isub, 1) := by decide +kernel
theorem dX8_boxes_71 : decode cX8_boxes 71 = .ok (.iaload, 1) := by decide +kernel
theorem dX8_boxes_72 : decode cX8_boxes 72 = .ok (.istore 5, 2) := by decide +kernel
theorem dX8_boxes_74 : decode cX8_boxes 74 = .ok (.iconst 0, 1) := by decide +kernel
theorem dX8_boxes_75 : decode cX8_boxes 75 = .ok (.istore 6, 2) := by decide +kernel
theorem dX8_boxes_77 : decode cX8_boxes 77 = .ok (.iconst 0, 1) := by decide +kernel
theorem dX8_boxes_78 : decode cX8_boxes 78 = .ok (.istore 7, 2) := by decide +kernel
theorem dX8_boxes_80 : decode cX8_boxes 80 = .ok (.iconst 1, 1) := by decide +kernel
theorem dX8_boxes_81 : decode cX8_boxes 81 = .ok (.istore 8, 2) := by decide +kernel
theorem dX8_boxes_83 : decode cX8_boxes 83 = .ok (.iload 4, 2) := by decide +kernel
theorem dX8_boxes_85 : decode cX8_boxes 85 = .ok (.iconst 1, 1) := by decide +kernel
theorem dX8_boxes_86 : decode cX8_boxes 86 = .ok (.isub, 1) := by decide +kernel
theorem dX8_boxes_87 : decode cX8_boxes 87 = .ok (.istore 9, 2) := by decide +kernel
theorem dX8_boxes_89 : decode cX8_boxes 89 = .ok (.iload 9, 2) := by decide +kernel
theorem dX8_boxes_91 : decode cX8_boxes 91 = .ok (.ifCond .lt 139, 3) := by decide +kernel
theorem dX8_boxes_94 : decode cX8_boxes 94 = .ok (.iload 8, 2) := by decide +kernel
theorem dX8_boxes_96 : decode cX8_boxes 96 = .ok (.ifCond .eq 134, 3) := by decide +kernel
theorem dX8_boxes_99 : decode cX8_boxes 99 = .ok (.aload_n 0, 1) := by decide +kernel
theorem dX8_boxes_100 : decode cX8_boxes 100 = .ok (.aload_n 0, 1) := by decide +kernel
theorem dX8_boxes_101 : decode cX8_boxes 101 = .ok (.getfield 38, 3) := by decide +kernel
theorem dX8_boxes_104 : decode cX8_boxes 104 = .ok (.iload 9, 2) := by decide +kernel
theorem dX8_boxes_106 : decode cX8_boxes 106 = .ok (.iaload, 1) := by decide +kernel
theorem dX8_boxes_107 : decode cX8_boxes 107 = .ok (.iload 9, 2) := by decide +kernel
theorem dX8_boxes_109 : decode cX8_boxes 109 = .ok (.iconst 1, 1) := by decide +kernel
theorem dX8_boxes_110 : decode cX8_boxes 110 = .ok (.iadd, 1) := by decide +kernel
theorem dX8_boxes_111 : decode cX8_boxes 111 = .ok (.iload 4, 2) := by decide +kernel
theorem dX8_boxes_113 : decode cX8_boxes 113 = .ok (.invokevirtual 208, 3) := by decide +kernel
theorem dX8_boxes_116 : decode cX8_boxes 116 = .ok (.istore 8, 2) := by decide +kernel
theorem dX8_boxes_118 : decode cX8_boxes 118 = .ok (.iload 6, 2) := by decide +kernel
theorem dX8_boxes_120 : decode cX8_boxes 120 = .ok (.iload 8, 2) := by decide +kernel
theorem dX8_boxes_122 : decode cX8_boxes 122 = .ok (.ifCond .eq 19, 3) := by decide +kernel
theorem dX8_boxes_125 : decode cX8_boxes 125 = .ok (.aload_n 0, 1) := by decide +kernel
theorem dX8_boxes_126 : decode cX8_boxes 126 = .ok (.getfield 38, 3) := by decide +kernel
theorem dX8_boxes_129 : decode cX8_boxes 129 = .ok (.iload 9, 2) := by decide +kernel
theorem dX8_boxes_131 : decode cX8_boxes 131 = .ok (.iaload, 1) := by decide +kernel
theorem dX8_boxes_132 : decode cX8_boxes 132 = .ok (.bipush 24, 2) := by decide +kernel
theorem dX8_boxes_134 : decode cX8_boxes 134 = .ok (.if_icmp .ge 7, 3) := by decide +kernel
theorem dX8_boxes_137 : decode cX8_boxes 137 = .ok (.iconst 1, 1) := by decide +kernel
theorem dX8_boxes_138 : decode cX8_boxes 138 = .ok (.goto 4, 3) := by decide +kernel
theorem dX8_boxes_141 : decode cX8_boxes 141 = .ok (.iconst 0, 1) := by decide +kernel
theorem dX8_boxes_142 : decode cX8_boxes 142 = .ok (.iadd, 1) := by decide +kernel
theorem dX8_boxes_143 : decode cX8_boxes 143 = .ok (.istore 6, 2) := by decide +kernel
theorem dX8_boxes_145 : decode cX8_boxes 145 = .ok (.iload 7, 2) := by decide +kernel
theorem dX8_boxes_147 : decode cX8_boxes 147 = .ok (.iload 8, 2) := by decide +kernel
theorem dX8_boxes_149 : decode cX8_boxes 149 = .ok (.ifCond .eq 19, 3) := by decide +kernel
theorem dX8_boxes_152 : decode cX8_boxes 152 = .ok (.aload_n 0, 1) := by decide +kernel
theorem dX8_boxes_153 : decode cX8_boxes 153 = .ok (.getfield 38, 3) := by decide +kernel
theorem dX8_boxes_156 : decode cX8_boxes 156 = .ok (.iload 9, 2) := by decide +kernel
theorem dX8_boxes_158 : decode cX8_boxes 158 = .ok (.iaload, 1) := by decide +kernel
theorem dX8_boxes_159 : decode cX8_boxes 159 = .ok (.bipush 24, 2) := by decide +kernel
theorem dX8_boxes_161 : decode cX8_boxes 161 = .ok (.if_icmp .lt 7, 3) := by decide +kernel
theorem dX8_boxes_164 : decode cX8_boxes 164 = .ok (.iconst 1, 1) := by decide +kernel
theorem dX8_boxes_165 : decode cX8_boxes 165 = .ok (.goto 4, 3) := by decide +kernel
theorem dX8_boxes_168 : decode cX8_boxes 168 = .ok (.iconst 0, 1) := by decide +kernel
theorem dX8_boxes_169 : decode cX8_boxes 169 = .ok (.iadd, 1) := by decide +kernel
theorem dX8_boxes_170 : decode cX8_boxes 170 = .ok (.istore 7, 2) := by decide +kernel
theorem dX8_boxes_172 : decode cX8_boxes 172 = .ok (.aload_n 0, 1) := by decide +kernel
theorem dX8_boxes_173 : decode cX8_boxes 173 = .ok (.getfield 41, 3) := by decide +kernel
theorem dX8_boxes_176 : decode cX8_boxes 176 = .ok (.bipush 49, 2) := by decide +kernel
theorem dX8_boxes_178 : decode cX8_boxes 178 = .ok (.iload_n 3, 1) := by decide +kernel
theorem dX8_boxes_179 : decode cX8_boxes 179 = .ok (.iconst 1, 1) := by decide +kernel
theorem dX8_boxes_180 : decode cX8_boxes 180 = .ok (.isub, 1) := by decide +kernel
theorem dX8_boxes_181 : decode cX8_boxes 181 = .ok (.imul, 1) := by decide +kernel
theorem dX8_boxes_182 : decode cX8_boxes 182 = .ok (.iload 9, 2) := by decide +kernel
theorem dX8_boxes_184 : decode cX8_boxes 184 = .ok (.iadd, 1) := by decide +kernel
theorem dX8_boxes_185 : decode cX8_boxes 185 = .ok (.iaload, 1) := by decide +kernel
theorem dX8_boxes_186 : decode cX8_boxes 186 = .ok (.iload 6, 2) := by decide +kernel
theorem dX8_boxes_188 : decode cX8_boxes 188 = .ok (.iload 7, 2) := by decide +kernel
theorem dX8_boxes_190 : decode cX8_boxes 190 = .ok (.if_icmp .ge 8, 3) := by decide +kernel
theorem dX8_boxes_193 : decode cX8_boxes 193 = .ok (.iload 6, 2) := by decide +kernel
theorem dX8_boxes_195 : decode cX8_boxes 195 = .ok (.goto 5, 3) := by decide +kernel
theorem dX8_boxes_198 : decode cX8_boxes 198 = .ok (.iload 7, 2) := by decide +kernel
theorem dX8_boxes_200 : decode cX8_boxes 200 = .ok (.iadd, 1) := by decide +kernel
theorem dX8_boxes_201 : decode cX8_boxes 201 = .ok (.istore 10, 2) := by decide +kernel
theorem dX8_boxes_203 : decode cX8_boxes 203 = .ok (.iload 8, 2) := by decide +kernel
theorem dX8_boxes_205 : decode cX8_boxes 205 = .ok (.ifCond .eq 15, 3) := by decide +kernel
theorem dX8_boxes_208 : decode cX8_boxes 208 = .ok (.iload 10, 2) := by decide +kernel
theorem dX8_boxes_210 : decode cX8_boxes 210 = .ok (.iload 5, 2) := by decide +kernel
theorem dX8_boxes_212 : decode cX8_boxes 212 = .ok (.if_icmp .le 8, 3) := by decide +kernel
theorem dX8_boxes_215 : decode cX8_boxes 215 = .ok (.iload 10, 2) := by decide +kernel
theorem dX8_boxes_217 : decode cX8_boxes 217 = .ok (.goto 5, 3) := by decide +kernel
theorem dX8_boxes_220 : decode cX8_boxes 220 = .ok (.iload 5, 2) := by decide +kernel
theorem dX8_boxes_222 : decode cX8_boxes 222 = .ok (.istore 5, 2) := by decide +kernel
theorem dX8_boxes_224 : decode cX8_boxes 224 = .ok (.iinc 9 (-1), 3) := by decide +kernel
theorem dX8_boxes_227 : decode cX8_boxes 227 = .ok (.goto (-138), 3) := by decide +kernel
theorem dX8_boxes_230 : decode cX8_boxes 230 = .ok (.aload_n 0, 1) := by decide +kernel
theorem dX8_boxes_231 : decode cX8_boxes 231 = .ok (.getfield 41, 3) := by decide +kernel
theorem dX8_boxes_234 : decode cX8_boxes 234 = .ok (.bipush 49, 2) := by decide +kernel
theorem dX8_boxes_236 : decode cX8_boxes 236 = .ok (.iload_n 3, 1) := by decide +kernel
theorem dX8_boxes_237 : decode cX8_boxes 237 = .ok (.imul, 1) := by decide +kernel
theorem dX8_boxes_238 : decode cX8_boxes 238 = .ok (.iload 4, 2) := by decide +kernel
theorem dX8_boxes_240 : decode cX8_boxes 240 = .ok (.iadd, 1) := by decide +kernel
theorem dX8_boxes_241 : decode cX8_boxes 241 = .ok (.iload 5, 2) := by decide +kernel
theorem dX8_boxes_243 : decode cX8_boxes 243 = .ok (.iastore, 1) := by decide +kernel
theorem dX8_boxes_244 : decode cX8_boxes 244 = .ok (.iinc 4 1, 3) := by decide +kernel
theorem dX8_boxes_247 : decode cX8_boxes 247 = .ok (.goto (-195), 3) := by decide +kernel
theorem dX8_boxes_250 : decode cX8_boxes 250 = .ok (.iinc 3 1, 3) := by decide +kernel
theorem dX8_boxes_253 : decode cX8_boxes 253 = .ok (.goto (-209), 3) := by decide +kernel
theorem dX8_boxes_256 : decode cX8_boxes 256 = .ok (.aload_n 0, 1) := by decide +kernel
theorem dX8_boxes_257 : decode cX8_boxes 257 = .ok (.getfield 41, 3) := by decide +kernel
theorem dX8_boxes_260 : decode cX8_boxes 260 = .ok (.bipush 49, 2) := by decide +kernel
theorem dX8_boxes_262 : decode cX8_boxes 262 = .ok (.iload_n 1, 1) := by decide +kernel
theorem dX8_boxes_263 : decode cX8_boxes 263 = .ok (.imul, 1) := by decide +kernel
theorem dX8_boxes_264 : decode cX8_boxes 264 = .ok (.iload_n 2, 1) := by decide +kernel
theorem dX8_boxes_265 : decode cX8_boxes 265 = .ok (.iadd, 1) := by decide +kernel
theorem dX8_boxes_266 : decode cX8_boxes 266 = .ok (.iaload, 1) := by decide +kernel
theorem dX8_boxes_267 : decode cX8_boxes 267 = .ok (.ireturn, 1) := by decide +kernel
theorem dX8_withBore_0 : decode cX8_withBore 0 = .ok (.iload_n 1, 1) := by decide +kernel
theorem dX8_withBore_1 : decode cX8_withBore 1 = .ok (.invokestatic 74, 3) := by decide +kernel
theorem dX8_withBore_4 : decode cX8_withBore 4 = .ok (.ifCond .eq 12, 3) := by decide +kernel
theorem dX8_withBore_7 : decode cX8_withBore 7 = .ok (.aload_n 0, 1) := by decide +kernel
theorem dX8_withBore_8 : decode cX8_withBore 8 = .ok (.iconst 0, 1) := by decide +kernel
theorem dX8_withBore_9 : decode cX8_withBore 9 = .ok (.iload_n 1, 1) := by decide +kernel
theorem dX8_withBore_10 : decode cX8_withBore 10 = .ok (.invokevirtual 67, 3) := by decide +kernel
theorem dX8_withBore_13 : decode cX8_withBore 13 = .ok (.goto 5, 3) := by decide +kernel
theorem dX8_withBore_16 : decode cX8_withBore 16 = .ok (.ldc 118, 2) := by decide +kernel
theorem dX8_withBore_18 : decode cX8_withBore 18 = .ok (.ireturn, 1) := by decide +kernel
theorem dX8_see_0 : decode cX8_see 0 = .ok (.iload_n 1, 1) := by decide +kernel
theorem dX8_see_1 : decode cX8_see 1 = .ok (.invokestatic 142, 3) := by decide +kernel
theorem dX8_see_4 : decode cX8_see 4 = .ok (.ifCond .ne 6, 3) := by decide +kernel
theorem dX8_see_7 : decode cX8_see 7 = .ok (.ldc 128, 2) := by decide +kernel
theorem dX8_see_9 : decode cX8_see 9 = .ok (.ireturn, 1) := by decide +kernel
theorem dX8_see_10 : decode cX8_see 10 = .ok (.iload_n 2, 1) := by decide +kernel
theorem dX8_see_11 : decode cX8_see 11 = .ok (.invokestatic 74, 3) := by decide +kernel
theorem dX8_see_14 : decode cX8_see 14 = .ok (.ifCond .ne 6, 3) := by decide +kernel
theorem dX8_see_17 : decode cX8_see 17 = .ok (.ldc 118, 2) := by decide +kernel
