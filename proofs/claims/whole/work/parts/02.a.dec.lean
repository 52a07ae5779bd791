theorem dX0_init_0 : decode cX0_init 0 = .ok (.aload_n 0, 1) := by decide +kernel
theorem dX0_init_1 : decode cX0_init 1 = .ok (.invokespecial 3, 3) := by decide +kernel
theorem dX0_init_4 : decode cX0_init 4 = .ok (.aload_n 0, 1) := by decide +kernel
theorem dX0_init_5 : decode cX0_init 5 = .ok (.bipush 48, 2) := by decide +kernel
theorem dX0_init_7 : decode cX0_init 7 = .ok (.newarray .int, 2) := by decide +kernel
theorem dX0_init_9 : decode cX0_init 9 = .ok (.putfield 9, 3) := by decide +kernel
theorem dX0_init_12 : decode cX0_init 12 = .ok (.aload_n 0, 1) := by decide +kernel
theorem dX0_init_13 : decode cX0_init 13 = .ok (.bipush 48, 2) := by decide +kernel
theorem dX0_init_15 : decode cX0_init 15 = .ok (.newarray .int, 2) := by decide +kernel
theorem dX0_init_17 : decode cX0_init 17 = .ok (.putfield 15, 3) := by decide +kernel
theorem dX0_init_20 : decode cX0_init 20 = .ok (.aload_n 0, 1) := by decide +kernel
theorem dX0_init_21 : decode cX0_init 21 = .ok (.bipush 48, 2) := by decide +kernel
theorem dX0_init_23 : decode cX0_init 23 = .ok (.newarray .boolean, 2) := by decide +kernel
theorem dX0_init_25 : decode cX0_init 25 = .ok (.putfield 18, 3) := by decide +kernel
theorem dX0_init_28 : decode cX0_init 28 = .ok (.aload_n 0, 1) := by decide +kernel
theorem dX0_init_29 : decode cX0_init 29 = .ok (.bipush 10, 2) := by decide +kernel
theorem dX0_init_31 : decode cX0_init 31 = .ok (.bipush 49, 2) := by decide +kernel
theorem dX0_init_33 : decode cX0_init 33 = .ok (.multianewarray 22 2, 4) := by decide +kernel
theorem dX0_init_37 : decode cX0_init 37 = .ok (.putfield 24, 3) := by decide +kernel
theorem dX0_init_40 : decode cX0_init 40 = .ok (.aload_n 0, 1) := by decide +kernel
theorem dX0_init_41 : decode cX0_init 41 = .ok (.iconst 0, 1) := by decide +kernel
theorem dX0_init_42 : decode cX0_init 42 = .ok (.putfield 27, 3) := by decide +kernel
theorem dX0_init_45 : decode cX0_init 45 = .ok (.return_, 1) := by decide +kernel
theorem dX0_read_0 : decode cX0_read 0 = .ok (.aload_n 0, 1) := by decide +kernel
theorem dX0_read_1 : decode cX0_read 1 = .ok (.iconst 0, 1) := by decide +kernel
theorem dX0_read_2 : decode cX0_read 2 = .ok (.putfield 27, 3) := by decide +kernel
theorem dX0_read_5 : decode cX0_read 5 = .ok (.iconst 0, 1) := by decide +kernel
theorem dX0_read_6 : decode cX0_read 6 = .ok (.istore_n 2, 1) := by decide +kernel
theorem dX0_read_7 : decode cX0_read 7 = .ok (.iload_n 2, 1) := by decide +kernel
theorem dX0_read_8 : decode cX0_read 8 = .ok (.aload_n 1, 1) := by decide +kernel
theorem dX0_read_9 : decode cX0_read 9 = .ok (.getfield 31, 3) := by decide +kernel
theorem dX0_read_12 : decode cX0_read 12 = .ok (.if_icmp .ge 34, 3) := by decide +kernel
theorem dX0_read_15 : decode cX0_read 15 = .ok (.aload_n 0, 1) := by decide +kernel
theorem dX0_read_16 : decode cX0_read 16 = .ok (.aload_n 1, 1) := by decide +kernel
theorem dX0_read_17 : decode cX0_read 17 = .ok (.aload_n 1, 1) := by decide +kernel
theorem dX0_read_18 : decode cX0_read 18 = .ok (.getfield 36, 3) := by decide +kernel
theorem dX0_read_21 : decode cX0_read 21 = .ok (.iload_n 2, 1) := by decide +kernel
theorem dX0_read_22 : decode cX0_read 22 = .ok (.iaload, 1) := by decide +kernel
theorem dX0_read_23 : decode cX0_read 23 = .ok (.invokevirtual 39, 3) := by decide +kernel
theorem dX0_read_26 : decode cX0_read 26 = .ok (.aload_n 1, 1) := by decide +kernel
theorem dX0_read_27 : decode cX0_read 27 = .ok (.aload_n 1, 1) := by decide +kernel
theorem dX0_read_28 : decode cX0_read 28 = .ok (.getfield 36, 3) := by decide +kernel
theorem dX0_read_31 : decode cX0_read 31 = .ok (.iload_n 2, 1) := by decide +kernel
theorem dX0_read_32 : decode cX0_read 32 = .ok (.iaload, 1) := by decide +kernel
theorem dX0_read_33 : decode cX0_read 33 = .ok (.invokevirtual 43, 3) := by decide +kernel
theorem dX0_read_36 : decode cX0_read 36 = .ok (.iconst 0, 1) := by decide +kernel
theorem dX0_read_37 : decode cX0_read 37 = .ok (.invokevirtual 46, 3) := by decide +kernel
theorem dX0_read_40 : decode cX0_read 40 = .ok (.iinc 2 1, 3) := by decide +kernel
theorem dX0_read_43 : decode cX0_read 43 = .ok (.goto (-36), 3) := by decide +kernel
theorem dX0_read_46 : decode cX0_read 46 = .ok (.iconst 0, 1) := by decide +kernel
theorem dX0_read_47 : decode cX0_read 47 = .ok (.istore_n 2, 1) := by decide +kernel
theorem dX0_read_48 : decode cX0_read 48 = .ok (.iload_n 2, 1) := by decide +kernel
theorem dX0_read_49 : decode cX0_read 49 = .ok (.aload_n 1, 1) := by decide +kernel
theorem dX0_read_50 : decode cX0_read 50 = .ok (.getfield 50, 3) := by decide +kernel
theorem dX0_read_53 : decode cX0_read 53 = .ok (.if_icmp .ge 26, 3) := by decide +kernel
theorem dX0_read_56 : decode cX0_read 56 = .ok (.aload_n 1, 1) := by decide +kernel
theorem dX0_read_57 : decode cX0_read 57 = .ok (.getfield 53, 3) := by decide +kernel
theorem dX0_read_60 : decode cX0_read 60 = .ok (.iload_n 2, 1) := by decide +kernel
theorem dX0_read_61 : decode cX0_read 61 = .ok (.iaload, 1) := by decide +kernel
theorem dX0_read_62 : decode cX0_read 62 = .ok (.invokestatic 56, 3) := by decide +kernel
theorem dX0_read_65 : decode cX0_read 65 = .ok (.istore_n 3, 1) := by decide +kernel
theorem dX0_read_66 : decode cX0_read 66 = .ok (.aload_n 0, 1) := by decide +kernel
theorem dX0_read_67 : decode cX0_read 67 = .ok (.iload_n 3, 1) := by decide +kernel
theorem dX0_read_68 : decode cX0_read 68 = .ok (.iload_n 3, 1) := by decide +kernel
theorem dX0_read_69 : decode cX0_read 69 = .ok (.iconst 1, 1) := by decide +kernel
theorem dX0_read_70 : decode cX0_read 70 = .ok (.invokevirtual 46, 3) := by decide +kernel
theorem dX0_read_73 : decode cX0_read 73 = .ok (.iinc 2 1, 3) := by decide +kernel
theorem dX0_read_76 : decode cX0_read 76 = .ok (.goto (-28), 3) := by decide +kernel
theorem dX0_read_79 : decode cX0_read 79 = .ok (.return_, 1) := by decide +kernel
theorem dX0_add_0 : decode cX0_add 0 = .ok (.aload_n 0, 1) := by decide +kernel
theorem dX0_add_1 : decode cX0_add 1 = .ok (.getfield 27, 3) := by decide +kernel
theorem dX0_add_4 : decode cX0_add 4 = .ok (.bipush 48, 2) := by decide +kernel
theorem dX0_add_6 : decode cX0_add 6 = .ok (.if_icmp .lt 4, 3) := by decide +kernel
theorem dX0_add_9 : decode cX0_add 9 = .ok (.return_, 1) := by decide +kernel
theorem dX0_add_10 : decode cX0_add 10 = .ok (.aload_n 0, 1) := by decide +kernel
theorem dX0_add_11 : decode cX0_add 11 = .ok (.getfield 27, 3) := by decide +kernel
theorem dX0_add_14 : decode cX0_add 14 = .ok (.istore 4, 2) := by decide +kernel
theorem dX0_add_16 : decode cX0_add 16 = .ok (.iload 4, 2) := by decide +kernel
theorem dX0_add_18 : decode cX0_add 18 = .ok (.ifCond .le 70, 3) := by decide +kernel
theorem dX0_add_21 : decode cX0_add 21 = .ok (.aload_n 0, 1) := by decide +kernel
theorem dX0_add_22 : decode cX0_add 22 = .ok (.getfield 9, 3) := by decide +kernel
theorem dX0_add_25 : decode cX0_add 25 = .ok (.iload 4, 2) := by decide +kernel
theorem dX0_add_27 : decode cX0_add 27 = .ok (.iconst 1, 1) := by decide +kernel
theorem dX0_add_28 : decode cX0_add 28 = .ok (.isub, 1) := by decide +kernel
theorem dX0_add_29 : decode cX0_add 29 = .ok (.iaload, 1) := by decide +kernel
theorem dX0_add_30 : decode cX0_add 30 = .ok (.iload_n 1, 1) := by decide +kernel
theorem dX0_add_31 : decode cX0_add 31 = .ok (.if_icmp .le 57, 3) := by decide +kernel
theorem dX0_add_34 : decode cX0_add 34 = .ok (.aload_n 0, 1) := by decide +kernel
theorem dX0_add_35 : decode cX0_add 35 = .ok (.getfield 9, 3) := by decide +kernel
theorem dX0_add_38 : decode cX0_add 38 = .ok (.iload 4, 2) := by decide +kernel
theorem dX0_add_40 : decode cX0_add 40 = .ok (.aload_n 0, 1) := by decide +kernel
theorem dX0_add_41 : decode cX0_add 41 = .ok (.getfield 9, 3) := by decide +kernel
theorem dX0_add_44 : decode cX0_add 44 = .ok (.iload 4, 2) := by decide +kernel
theorem dX0_add_46 : decode cX0_add 46 = .ok (.iconst 1, 1) := by decide +kernel
theorem dX0_add_47 : decode cX0_add 47 = .ok (.isub, 1) := by decide +kernel
theorem dX0_add_48 : decode cX0_add 48 = .ok (.iaload, 1) := by decide +kernel
theorem dX0_add_49 : decode cX0_add 49 = .ok (.iastore, 1) := by decide +kernel
theorem dX0_add_50 : decode cX0_add 50 = .ok (.aload_n 0, 1) := by decide +kernel
theorem dX0_add_51 : decode cX0_add 51 = .ok (.getfield 15, 3) := by decide +kernel
theorem dX0_add_54 : decode cX0_add 54 = .ok (.iload 4, 2) := by decide +kernel
theorem dX0_add_56 : decode cX0_add 56 = .ok (.aload_n 0, 1) := by decide +kernel
theorem dX0_add_57 : decode cX0_add 57 = .ok (.getfield 15, 3) := by decide +kernel
theorem dX0_add_60 : decode cX0_add 60 = .ok (.iload 4, 2) := by decide +kernel
theorem dX0_add_62 : decode cX0_add 62 = .ok (.iconst 1, 1) := by decide +kernel
theorem dX0_add_63 : decode cX0_add 63 = .ok (.isub, 1) := by decide +kernel
theorem dX0_add_64 : decode cX0_add 64 = .ok (.iaload, 1) := by decide +kernel
theorem dX0_add_65 : decode cX0_add 65 = .ok (.iastore, 1) := by decide +kernel
theorem dX0_add_66 : decode cX0_add 66 = .ok (.aload_n 0, 1) := by decide +kernel
theorem dX0_add_67 : decode cX0_add 67 = .ok (.getfield 18, 3) := by decide +kernel
theorem dX0_add_70 : decode cX0_add 70 = .ok (.iload 4, 2) := by decide +kernel
theorem dX0_add_72 : decode cX0_add 72 = .ok (.aload_n 0, 1) := by decide +kernel
theorem dX0_add_73 : decode cX0_add 73 = .ok (.getfield 18, 3) := by decide +kernel
theorem dX0_add_76 : decode cX0_add 76 = .ok (.iload 4, 2) := by decide +kernel
theorem dX0_add_78 : decode cX0_add 78 = .ok (.iconst 1, 1) := by decide +kernel
theorem dX0_add_79 : decode cX0_add 79 = .ok (.isub, 1) := by decide +kernel
theorem dX0_add_80 : decode cX0_add 80 = .ok (.baload, 1) := by decide +kernel
theorem dX0_add_81 : decode cX0_add 81 = .ok (.bastore, 1) := by decide +kernel
theorem dX0_add_82 : decode cX0_add 82 = .ok (.iinc 4 (-1), 3) := by decide +kernel
theorem dX0_add_85 : decode cX0_add 85 = .ok (.goto (-69), 3) := by decide +kernel
theorem dX0_add_88 : decode cX0_add 88 = .ok (.aload_n 0, 1) := by decide +kernel
theorem dX0_add_89 : decode cX0_add 89 = .ok (.getfield 9, 3) := by decide +kernel
theorem dX0_add_92 : decode cX0_add 92 = .ok (.iload 4, 2) := by decide +kernel
theorem dX0_add_94 : decode cX0_add 94 = .ok (.iload_n 1, 1) := by decide +kernel
theorem dX0_add_95 : decode cX0_add 95 = .ok (.iastore, 1) := by decide +kernel
theorem dX0_add_96 : decode cX0_add 96 = .ok (.aload_n 0, 1) := by decide +kernel
theorem dX0_add_97 : decode cX0_add 97 = .ok (.getfield 15, 3) := by decide +kernel
theorem dX0_add_100 : decode cX0_add 100 = .ok (.iload 4, 2) := by decide +kernel
theorem dX0_add_102 : decode cX0_add 102 = .ok (.iload_n 2, 1) := by decide +kernel
theorem dX0_add_103 : decode cX0_add 103 = .ok (.iastore, 1) := by decide +kernel
theorem dX0_add_104 : decode cX0_add 104 = .ok (.aload_n 0, 1) := by decide +kernel
theorem dX0_add_105 : decode cX0_add 105 = .ok (.getfield 18, 3) := by decide +kernel
theorem dX0_add_108 : decode cX0_add 108 = .ok (.iload 4, 2) := by decide +kernel
theorem dX0_add_110 : decode cX0_add 110 = .ok (.iload_n 3, 1) := by decide +kernel
theorem dX0_add_111 : decode cX0_add 111 = .ok (.bastore, 1) := by decide +kernel
theorem dX0_add_112 : decode cX0_add 112 = .ok (.aload_n 0, 1) := by decide +kernel
theorem dX0_add_113 : decode cX0_add 113 = .ok (.dup, 1) := by decide +kernel
theorem dX0_add_114 : decode cX0_add 114 = .ok (.getfield 27, 3) := by decide +kernel
theorem dX0_add_117 : decode cX0_add 117 = .ok (.iconst 1, 1) := by decide +kernel
theorem dX0_add_118 : decode cX0_add 118 = .ok (.iadd, 1) := by decide +kernel
theorem dX0_add_119 : decode cX0_add 119 = .ok (.putfield 27, 3) := by decide +kernel
theorem dX0_add_122 : decode cX0_add 122 = .ok (.return_, 1) := by decide +kernel
theorem dX0_mostWorth_0 : decode cX0_mostWorth 0 = .ok (.iconst 1, 1) := by decide +kernel
theorem dX0_mostWorth_1 : decode cX0_mostWorth 1 = .ok (.istore_n 2, 1) := by decide +kernel
theorem dX0_mostWorth_2 : decode cX0_mostWorth 2 = .ok (.iload_n 2, 1) := by decide +kernel
theorem dX0_mostWorth_3 : decode cX0_mostWorth 3 = .ok (.aload_n 0, 1) := by decide +kernel
theorem dX0_mostWorth_4 : decode cX0_mostWorth 4 = .ok (.getfield 27, 3) := by decide +kernel
theorem dX0_mostWorth_7 : decode cX0_mostWorth 7 = .ok (.if_icmp .gt 46, 3) := by decide +kernel
theorem dX0_mostWorth_10 : decode cX0_mostWorth 10 = .ok (.iconst 1, 1) := by decide +kernel
theorem dX0_mostWorth_11 : decode cX0_mostWorth 11 = .ok (.istore_n 3, 1) := by decide +kernel
theorem dX0_mostWorth_12 : decode cX0_mostWorth 12 = .ok (.iload_n 3, 1) := by decide +kernel
theorem dX0_mostWorth_13 : decode cX0_mostWorth 13 = .ok (.iload_n 1, 1) := by decide +kernel
theorem dX0_mostWorth_14 : decode cX0_mostWorth 14 = .ok (.if_icmp .gt 27, 3) := by decide +kernel
theorem dX0_mostWorth_17 : decode cX0_mostWorth 17 = .ok (.aload_n 0, 1) := by decide +kernel
theorem dX0_mostWorth_18 : decode cX0_mostWorth 18 = .ok (.getfield 24, 3) := by decide +kernel
theorem dX0_mostWorth_21 : decode cX0_mostWorth 21 = .ok (.iload_n 3, 1) := by decide +kernel
theorem dX0_mostWorth_22 : decode cX0_mostWorth 22 = .ok (.aaload, 1) := by decide +kernel
theorem dX0_mostWorth_23 : decode cX0_mostWorth 23 = .ok (.iload_n 2, 1) := by decide +kernel
theorem dX0_mostWorth_24 : decode cX0_mostWorth 24 = .ok (.aload_n 0, 1) := by decide +kernel
theorem dX0_mostWorth_25 : decode cX0_mostWorth 25 = .ok (.getfield 24, 3) := by decide +kernel
theorem dX0_mostWorth_28 : decode cX0_mostWorth 28 = .ok (.iload_n 3, 1) := by decide +kernel
theorem dX0_mostWorth_29 : decode cX0_mostWorth 29 = .ok (.aaload, 1) := by decide +kernel
theorem dX0_mostWorth_30 : decode cX0_mostWorth 30 = .ok (.iload_n 2, 1) := by decide +kernel
theorem dX0_mostWorth_31 : decode cX0_mostWorth 31 = .ok (.iconst 1, 1) := by decide +kernel
theorem dX0_mostWorth_32 : decode cX0_mostWorth 32 = .ok (.isub, 1) := by decide +kernel
theorem dX0_mostWorth_33 : decode cX0_mostWorth 33 = .ok (.iaload, 1) := by decide +kernel
theorem dX0_mostWorth_34 : decode cX0_mostWorth 34 = .ok (.iastore, 1) := by decide +kernel
theorem dX0_mostWorth_35 : decode cX0_mostWorth 35 = .ok (.iinc 3 1, 3) := by decide +kernel
theorem dX0_mostWorth_38 : decode cX0_mostWorth 38 = .ok (.goto (-26), 3) := by decide +kernel
theorem dX0_mostWorth_41 : decode cX0_mostWorth 41 = .ok (.aload_n 0, 1) := by decide +kernel
theorem dX0_mostWorth_42 : decode cX0_mostWorth 42 = .ok (.iload_n 2, 1) := by decide +kernel
theorem dX0_mostWorth_43 : decode cX0_mostWorth 43 = .ok (.iload_n 1, 1) := by decide +kernel
theorem dX0_mostWorth_44 : decode cX0_mostWorth 44 = .ok (.invokevirtual 59, 3) := by decide +kernel
theorem dX0_mostWorth_47 : decode cX0_mostWorth 47 = .ok (.iinc 2 1, 3) := by decide +kernel
theorem dX0_mostWorth_50 : decode cX0_mostWorth 50 = .ok (.goto (-48), 3) := by decide +kernel
theorem dX0_mostWorth_53 : decode cX0_mostWorth 53 = .ok (.aload_n 0, 1) := by decide +kernel
theorem dX0_mostWorth_54 : decode cX0_mostWorth 54 = .ok (.getfield 24, 3) := by decide +kernel
theorem dX0_mostWorth_57 : decode cX0_mostWorth 57 = .ok (.iload_n 1, 1) := by decide +kernel
theorem dX0_mostWorth_58 : decode cX0_mostWorth 58 = .ok (.aaload, 1) := by decide +kernel
theorem dX0_mostWorth_59 : decode cX0_mostWorth 59 = .ok (.aload_n 0, 1) := by decide +kernel
theorem dX0_mostWorth_60 : decode cX0_mostWorth 60 = .ok (.getfield 27, 3) := by decide +kernel
theorem dX0_mostWorth_63 : decode cX0_mostWorth 63 = .ok (.iaload, 1) := by decide +kernel
theorem dX0_mostWorth_64 : decode cX0_mostWorth 64 = .ok (.ireturn, 1) := by decide +kernel
theorem dX0_tryLastBox_0 : decode cX0_tryLastBox 0 = .ok (.iconst 0, 1) := by decide +kernel
theorem dX0_tryLastBox_1 : decode cX0_tryLastBox 1 = .ok (.istore_n 3, 1) := by decide +kernel
theorem dX0_tryLastBox_2 : decode cX0_tryLastBox 2 = .ok (.iconst 0, 1) := by decide +kernel
theorem dX0_tryLastBox_3 : decode cX0_tryLastBox 3 = .ok (.istore 4, 2) := by decide +kernel
theorem dX0_tryLastBox_5 : decode cX0_tryLastBox 5 = .ok (.iconst (-1), 1) := by decide +kernel
theorem dX0_tryLastBox_6 : decode cX0_tryLastBox 6 = .ok (.istore 5, 2) := by decide +kernel
theorem dX0_tryLastBox_8 : decode cX0_tryLastBox 8 = .ok (.sipush 11000, 3) := by decide +kernel
theorem dX0_tryLastBox_11 : decode cX0_tryLastBox 11 = .ok (.istore 6, 2) := by decide +kernel
theorem dX0_tryLastBox_13 : decode cX0_tryLastBox 13 = .ok (.sipush 11000, 3) := by decide +kernel
theorem dX0_tryLastBox_16 : decode cX0_tryLastBox 16 = .ok (.istore 7, 2) := by decide +kernel
theorem dX0_tryLastBox_18 : decode cX0_tryLastBox 18 = .ok (.iconst (-1), 1) := by decide +kernel
theorem dX0_tryLastBox_19 : decode cX0_tryLastBox 19 = .ok (.istore 8, 2) := by decide +kernel
theorem dX0_tryLastBox_21 : decode cX0_tryLastBox 21 = .ok (.iload_n 1, 1) := by decide +kernel
theorem dX0_tryLastBox_22 : decode cX0_tryLastBox 22 = .ok (.iconst 1, 1) := by decide +kernel
theorem dX0_tryLastBox_23 : decode cX0_tryLastBox 23 = .ok (.isub, 1) := by decide +kernel
theorem dX0_tryLastBox_24 : decode cX0_tryLastBox 24 = .ok (.istore 9, 2) := by decide +kernel
theorem dX0_tryLastBox_26 : decode cX0_tryLastBox 26 = .ok (.iload 9, 2) := by decide +kernel
theorem dX0_tryLastBox_28 : decode cX0_tryLastBox 28 = .ok (.ifCond .lt 113, 3) := by decide +kernel
theorem dX0_tryLastBox_31 : decode cX0_tryLastBox 31 = .ok (.aload_n 0, 1) := by decide +kernel
theorem dX0_tryLastBox_32 : decode cX0_tryLastBox 32 = .ok (.getfield 18, 3) := by decide +kernel
theorem dX0_tryLastBox_35 : decode cX0_tryLastBox 35 = .ok (.iload 9, 2) := by decide +kernel
theorem dX0_tryLastBox_37 : decode cX0_tryLastBox 37 = .ok (.baload, 1) := by decide +kernel
theorem dX0_tryLastBox_38 : decode cX0_tryLastBox 38 = .ok (.ifCond .eq 37, 3) := by decide +kernel
theorem dX0_tryLastBox_41 : decode cX0_tryLastBox 41 = .ok (.iinc 4 1, 3) := by decide +kernel
theorem dX0_tryLastBox_44 : decode cX0_tryLastBox 44 = .ok (.iload 7, 2) := by decide +kernel
theorem dX0_tryLastBox_46 : decode cX0_tryLastBox 46 = .ok (.aload_n 0, 1) := by decide +kernel
theorem dX0_tryLastBox_47 : decode cX0_tryLastBox 47 = .ok (.getfield 9, 3) := by decide +kernel
theorem dX0_tryLastBox_50 : decode cX0_tryLastBox 50 = .ok (.iload 9, 2) := by decide +kernel
theorem dX0_tryLastBox_52 : decode cX0_tryLastBox 52 = .ok (.iaload, 1) := by decide +kernel
theorem dX0_tryLastBox_53 : decode cX0_tryLastBox 53 = .ok (.invokestatic 63, 3) := by decide +kernel
theorem dX0_tryLastBox_56 : decode cX0_tryLastBox 56 = .ok (.istore 7, 2) := by decide +kernel
theorem dX0_tryLastBox_58 : decode cX0_tryLastBox 58 = .ok (.iload 8, 2) := by decide +kernel
theorem dX0_tryLastBox_60 : decode cX0_tryLastBox 60 = .ok (.aload_n 0, 1) := by decide +kernel
theorem dX0_tryLastBox_61 : decode cX0_tryLastBox 61 = .ok (.getfield 9, 3) := by decide +kernel
theorem dX0_tryLastBox_64 : decode cX0_tryLastBox 64 = .ok (.iload 9, 2) := by decide +kernel
theorem dX0_tryLastBox_66 : decode cX0_tryLastBox 66 = .ok (.iaload, 1) := by decide +kernel
theorem dX0_tryLastBox_67 : decode cX0_tryLastBox 67 = .ok (.invokestatic 69, 3) := by decide +kernel
theorem dX0_tryLastBox_70 : decode cX0_tryLastBox 70 = .ok (.istore 8, 2) := by decide +kernel
theorem dX0_tryLastBox_72 : decode cX0_tryLastBox 72 = .ok (.goto 34, 3) := by decide +kernel
theorem dX0_tryLastBox_75 : decode cX0_tryLastBox 75 = .ok (.iinc 3 1, 3) := by decide +kernel
theorem dX0_tryLastBox_78 : decode cX0_tryLastBox 78 = .ok (.iload 5, 2) := by decide +kernel
theorem dX0_tryLastBox_80 : decode cX0_tryLastBox 80 = .ok (.aload_n 0, 1) := by decide +kernel
theorem dX0_tryLastBox_81 : decode cX0_tryLastBox 81 = .ok (.getfield 9, 3) := by decide +kernel
theorem dX0_tryLastBox_84 : decode cX0_tryLastBox 84 = .ok (.iload 9, 2) := by decide +kernel
theorem dX0_tryLastBox_86 : decode cX0_tryLastBox 86 = .ok (.iaload, 1) := by decide +kernel
theorem dX0_tryLastBox_87 : decode cX0_tryLastBox 87 = .ok (.invokestatic 69, 3) := by decide +kernel
theorem dX0_tryLastBox_90 : decode cX0_tryLastBox 90 = .ok (.istore 5, 2) := by decide +kernel
theorem dX0_tryLastBox_92 : decode cX0_tryLastBox 92 = .ok (.iload 6, 2) := by decide +kernel
theorem dX0_tryLastBox_94 : decode cX0_tryLastBox 94 = .ok (.aload_n 0, 1) := by decide +kernel
theorem dX0_tryLastBox_95 : decode cX0_tryLastBox 95 = .ok (.getfield 15, 3) := by decide +kernel
theorem dX0_tryLastBox_98 : decode cX0_tryLastBox 98 = .ok (.iload 9, 2) := by decide +kernel
theorem dX0_tryLastBox_100 : decode cX0_tryLastBox 100 = .ok (.iaload, 1) := by decide +kernel
theorem dX0_tryLastBox_101 : decode cX0_tryLastBox 101 = .ok (.invokestatic 63, 3) := by decide +kernel
theorem dX0_tryLastBox_104 : decode cX0_tryLastBox 104 = .ok (.istore 6, 2) := by decide +kernel
theorem dX0_tryLastBox_106 : decode cX0_tryLastBox 106 = .ok (.iload 5, 2) := by decide +kernel
theorem dX0_tryLastBox_108 : decode cX0_tryLastBox 108 = .ok (.iload 7, 2) := by decide +kernel
theorem dX0_tryLastBox_110 : decode cX0_tryLastBox 110 = .ok (.if_icmp .gt 10, 3) := by decide +kernel
theorem dX0_tryLastBox_113 : decode cX0_tryLastBox 113 = .ok (.iload 8, 2) := by decide +kernel
theorem dX0_tryLastBox_115 : decode cX0_tryLastBox 115 = .ok (.iload 6, 2) := by decide +kernel
theorem dX0_tryLastBox_117 : decode cX0_tryLastBox 117 = .ok (.if_icmp .le 4, 3) := by decide +kernel
theorem dX0_tryLastBox_120 : decode cX0_tryLastBox 120 = .ok (.return_, 1) := by decide +kernel
theorem dX0_tryLastBox_121 : decode cX0_tryLastBox 121 = .ok (.aload_n 0, 1) := by decide +kernel
theorem dX0_tryLastBox_122 : decode cX0_tryLastBox 122 = .ok (.iload 9, 2) := by decide +kernel
theorem dX0_tryLastBox_124 : decode cX0_tryLastBox 124 = .ok (.iload_n 1, 1) := by decide +kernel
theorem dX0_tryLastBox_125 : decode cX0_tryLastBox 125 = .ok (.iload_n 2, 1) := by decide +kernel
theorem dX0_tryLastBox_126 : decode cX0_tryLastBox 126 = .ok (.iload_n 3, 1) := by decide +kernel
theorem dX0_tryLastBox_127 : decode cX0_tryLastBox 127 = .ok (.iload 4, 2) := by decide +kernel
theorem dX0_tryLastBox_129 : decode cX0_tryLastBox 129 = .ok (.invokestatic 63, 3) := by decide +kernel
theorem dX0_tryLastBox_132 : decode cX0_tryLastBox 132 = .ok (.invokevirtual 72, 3) := by decide +kernel
theorem dX0_tryLastBox_135 : decode cX0_tryLastBox 135 = .ok (.iinc 9 (-1), 3) := by decide +kernel
theorem dX0_tryLastBox_138 : decode cX0_tryLastBox 138 = .ok (.goto (-112), 3) := by decide +kernel
theorem dX0_tryLastBox_141 : decode cX0_tryLastBox 141 = .ok (.return_, 1) := by decide +kernel
theorem dX0_addBox_0 : decode cX0_addBox 0 = .ok (.iconst 1, 1) := by decide +kernel
theorem dX0_addBox_1 : decode cX0_addBox 1 = .ok (.istore 5, 2) := by decide +kernel
theorem dX0_addBox_3 : decode cX0_addBox 3 = .ok (.iload 5, 2) := by decide +kernel
theorem dX0_addBox_5 : decode cX0_addBox 5 = .ok (.iload_n 3, 1) := by decide +kernel
theorem dX0_addBox_6 : decode cX0_addBox 6 = .ok (.if_icmp .gt 44, 3) := by decide +kernel
theorem dX0_addBox_9 : decode cX0_addBox 9 = .ok (.aload_n 0, 1) := by decide +kernel
theorem dX0_addBox_10 : decode cX0_addBox 10 = .ok (.getfield 24, 3) := by decide +kernel
theorem dX0_addBox_13 : decode cX0_addBox 13 = .ok (.iload 5, 2) := by decide +kernel
theorem dX0_addBox_15 : decode cX0_addBox 15 = .ok (.aaload, 1) := by decide +kernel
theorem dX0_addBox_16 : decode cX0_addBox 16 = .ok (.iload_n 2, 1) := by decide +kernel
theorem dX0_addBox_17 : decode cX0_addBox 17 = .ok (.aload_n 0, 1) := by decide +kernel
theorem dX0_addBox_18 : decode cX0_addBox 18 = .ok (.getfield 24, 3) := by decide +kernel
theorem dX0_addBox_21 : decode cX0_addBox 21 = .ok (.iload 5, 2) := by decide +kernel
theorem dX0_addBox_23 : decode cX0_addBox 23 = .ok (.aaload, 1) := by decide +kernel
theorem dX0_addBox_24 : decode cX0_addBox 24 = .ok (.iload_n 2, 1) := by decide +kernel
theorem dX0_addBox_25 : decode cX0_addBox 25 = .ok (.iaload, 1) := by decide +kernel
theorem dX0_addBox_26 : decode cX0_addBox 26 = .ok (.aload_n 0, 1) := by decide +kernel
theorem dX0_addBox_27 : decode cX0_addBox 27 = .ok (.getfield 24, 3) := by decide +kernel
theorem dX0_addBox_30 : decode cX0_addBox 30 = .ok (.iload 5, 2) := by decide +kernel
theorem dX0_addBox_32 : decode cX0_addBox 32 = .ok (.iconst 1, 1) := by decide +kernel
theorem dX0_addBox_33 : decode cX0_addBox 33 = .ok (.isub, 1) := by decide +kernel
theorem dX0_addBox_34 : decode cX0_addBox 34 = .ok (.aaload, 1) := by decide +kernel
theorem dX0_addBox_35 : decode cX0_addBox 35 = .ok (.iload_n 1, 1) := by decide +kernel
theorem dX0_addBox_36 : decode cX0_addBox 36 = .ok (.iaload, 1) := by decide +kernel
theorem dX0_addBox_37 : decode cX0_addBox 37 = .ok (.iload 4, 2) := by decide +kernel
theorem dX0_addBox_39 : decode cX0_addBox 39 = .ok (.iadd, 1) := by decide +kernel
theorem dX0_addBox_40 : decode cX0_addBox 40 = .ok (.invokestatic 69, 3) := by decide +kernel
theorem dX0_addBox_43 : decode cX0_addBox 43 = .ok (.iastore, 1) := by decide +kernel
theorem dX0_addBox_44 : decode cX0_addBox 44 = .ok (.iinc 5 1, 3) := by decide +kernel
theorem dX0_addBox_47 : decode cX0_addBox 47 = .ok (.goto (-44), 3) := by decide +kernel
theorem dX0_addBox_50 : decode cX0_addBox 50 = .ok (.return_, 1) := by decide +kernel
theorem dX1_init_0 : decode cX1_init 0 = .ok (.aload_n 0, 1) := by decide +kernel
theorem dX1_init_1 : decode cX1_init 1 = .ok (.invokespecial 1, 3) := by decide +kernel
theorem dX1_init_4 : decode cX1_init 4 = .ok (.aload_n 0, 1) := by decide +kernel
theorem dX1_init_5 : decode cX1_init 5 = .ok (.iconst 0, 1) := by decide +kernel
theorem dX1_init_6 : decode cX1_init 6 = .ok (.putfield 7, 3) := by decide +kernel
theorem dX1_init_9 : decode cX1_init 9 = .ok (.aload_n 0, 1) := by decide +kernel
theorem dX1_init_10 : decode cX1_init 10 = .ok (.iconst 0, 1) := by decide +kernel
theorem dX1_init_11 : decode cX1_init 11 = .ok (.putfield 13, 3) := by decide +kernel
theorem dX1_init_14 : decode cX1_init 14 = .ok (.aload_n 0, 1) := by decide +kernel
theorem dX1_init_15 : decode cX1_init 15 = .ok (.iconst 0, 1) := by decide +kernel
theorem dX1_init_16 : decode cX1_init 16 = .ok (.putfield 16, 3) := by decide +kernel
theorem dX1_init_19 : decode cX1_init 19 = .ok (.aload_n 0, 1) := by decide +kernel
theorem dX1_init_20 : decode cX1_init 20 = .ok (.iconst 0, 1) := by decide +kernel
theorem dX1_init_21 : decode cX1_init 21 = .ok (.putfield 19, 3) := by decide +kernel
theorem dX1_init_24 : decode cX1_init 24 = .ok (.aload_n 0, 1) := by decide +kernel
theorem dX1_init_25 : decode cX1_init 25 = .ok (.iconst 0, 1) := by decide +kernel
theorem dX1_init_26 : decode cX1_init 26 = .ok (.putfield 22, 3) := by decide +kernel
theorem dX1_init_29 : decode cX1_init 29 = .ok (.return_, 1) := by decide +kernel
theorem dX1_seek_0 : decode cX1_seek 0 = .ok (.aload_n 0, 1) := by decide +kernel
theorem dX1_seek_1 : decode cX1_seek 1 = .ok (.iconst 0, 1) := by decide +kernel
theorem dX1_seek_2 : decode cX1_seek 2 = .ok (.putfield 22, 3) := by decide +kernel
theorem dX1_seek_5 : decode cX1_seek 5 = .ok (.iconst 0, 1) := by decide +kernel
theorem dX1_seek_6 : decode cX1_seek 6 = .ok (.istore_n 2, 1) := by decide +kernel
theorem dX1_seek_7 : decode cX1_seek 7 = .ok (.iload_n 2, 1) := by decide +kernel
theorem dX1_seek_8 : decode cX1_seek 8 = .ok (.aload_n 1, 1) := by decide +kernel
theorem dX1_seek_9 : decode cX1_seek 9 = .ok (.getfield 25, 3) := by decide +kernel
theorem dX1_seek_12 : decode cX1_seek 12 = .ok (.if_icmp .ge 20, 3) := by decide +kernel
theorem dX1_seek_15 : decode cX1_seek 15 = .ok (.aload_n 0, 1) := by decide +kernel
theorem dX1_seek_16 : decode cX1_seek 16 = .ok (.aload_n 1, 1) := by decide +kernel
theorem dX1_seek_17 : decode cX1_seek 17 = .ok (.aload_n 1, 1) := by decide +kernel
theorem dX1_seek_18 : decode cX1_seek 18 = .ok (.getfield 28, 3) := by decide +kernel
theorem dX1_seek_21 : decode cX1_seek 21 = .ok (.iload_n 2, 1) := by decide +kernel
theorem dX1_seek_22 : decode cX1_seek 22 = .ok (.iaload, 1) := by decide +kernel
theorem dX1_seek_23 : decode cX1_seek 23 = .ok (.invokevirtual 32, 3) := by decide +kernel
theorem dX1_seek_26 : decode cX1_seek 26 = .ok (.iinc 2 1, 3) := by decide +kernel
theorem dX1_seek_29 : decode cX1_seek 29 = .ok (.goto (-22), 3) := by decide +kernel
theorem dX1_seek_32 : decode cX1_seek 32 = .ok (.return_, 1) := by decide +kernel
theorem dX1_seekFrom_0 : decode cX1_seekFrom 0 = .ok (.iconst 0, 1) := by decide +kernel
theorem dX1_seekFrom_1 : decode cX1_seekFrom 1 = .ok (.istore_n 3, 1) := by decide +kernel
theorem dX1_seekFrom_2 : decode cX1_seekFrom 2 = .ok (.aload_n 0, 1) := by decide +kernel
theorem dX1_seekFrom_3 : decode cX1_seekFrom 3 = .ok (.aload_n 1, 1) := by decide +kernel
theorem dX1_seekFrom_4 : decode cX1_seekFrom 4 = .ok (.iload_n 2, 1) := by decide +kernel
theorem dX1_seekFrom_5 : decode cX1_seekFrom 5 = .ok (.invokevirtual 36, 3) := by decide +kernel
theorem dX1_seekFrom_8 : decode cX1_seekFrom 8 = .ok (.istore 4, 2) := by decide +kernel
theorem dX1_seekFrom_10 : decode cX1_seekFrom 10 = .ok (.iload 4, 2) := by decide +kernel
theorem dX1_seekFrom_12 : decode cX1_seekFrom 12 = .ok (.istore 5, 2) := by decide +kernel
theorem dX1_seekFrom_14 : decode cX1_seekFrom 14 = .ok (.iconst 0, 1) := by decide +kernel
theorem dX1_seekFrom_15 : decode cX1_seekFrom 15 = .ok (.istore 6, 2) := by decide +kernel
theorem dX1_seekFrom_17 : decode cX1_seekFrom 17 = .ok (.iload 6, 2) := by decide +kernel
theorem dX1_seekFrom_19 : decode cX1_seekFrom 19 = .ok (.aload_n 1, 1) := by decide +kernel
theorem dX1_seekFrom_20 : decode cX1_seekFrom 20 = .ok (.getfield 25, 3) := by decide +kernel
theorem dX1_seekFrom_23 : decode cX1_seekFrom 23 = .ok (.if_icmp .ge 87, 3) := by decide +kernel
theorem dX1_seekFrom_26 : decode cX1_seekFrom 26 = .ok (.aload_n 1, 1) := by decide +kernel
theorem dX1_seekFrom_27 : decode cX1_seekFrom 27 = .ok (.getfield 40, 3) := by decide +kernel
theorem dX1_seekFrom_30 : decode cX1_seekFrom 30 = .ok (.iload 6, 2) := by decide +kernel
theorem dX1_seekFrom_32 : decode cX1_seekFrom 32 = .ok (.iaload, 1) := by decide +kernel
theorem dX1_seekFrom_33 : decode cX1_seekFrom 33 = .ok (.istore 7, 2) := by decide +kernel
theorem dX1_seekFrom_35 : decode cX1_seekFrom 35 = .ok (.iload 5, 2) := by decide +kernel
theorem dX1_seekFrom_37 : decode cX1_seekFrom 37 = .ok (.aload_n 1, 1) := by decide +kernel
theorem dX1_seekFrom_38 : decode cX1_seekFrom 38 = .ok (.getfield 43, 3) := by decide +kernel
theorem dX1_seekFrom_41 : decode cX1_seekFrom 41 = .ok (.if_icmp .ge 31, 3) := by decide +kernel
theorem dX1_seekFrom_44 : decode cX1_seekFrom 44 = .ok (.aload_n 1, 1) := by decide +kernel
theorem dX1_seekFrom_45 : decode cX1_seekFrom 45 = .ok (.getfield 44, 3) := by decide +kernel
theorem dX1_seekFrom_48 : decode cX1_seekFrom 48 = .ok (.aload_n 1, 1) := by decide +kernel
theorem dX1_seekFrom_49 : decode cX1_seekFrom 49 = .ok (.getfield 47, 3) := by decide +kernel
theorem dX1_seekFrom_52 : decode cX1_seekFrom 52 = .ok (.iload 5, 2) := by decide +kernel
theorem dX1_seekFrom_54 : decode cX1_seekFrom 54 = .ok (.iaload, 1) := by decide +kernel
theorem dX1_seekFrom_55 : decode cX1_seekFrom 55 = .ok (.iaload, 1) := by decide +kernel
theorem dX1_seekFrom_56 : decode cX1_seekFrom 56 = .ok (.aload_n 1, 1) := by decide +kernel
theorem dX1_seekFrom_57 : decode cX1_seekFrom 57 = .ok (.getfield 50, 3) := by decide +kernel
theorem dX1_seekFrom_60 : decode cX1_seekFrom 60 = .ok (.iload 7, 2) := by decide +kernel
theorem dX1_seekFrom_62 : decode cX1_seekFrom 62 = .ok (.iaload, 1) := by decide +kernel
theorem dX1_seekFrom_63 : decode cX1_seekFrom 63 = .ok (.if_icmp .gt 9, 3) := by decide +kernel
theorem dX1_seekFrom_66 : decode cX1_seekFrom 66 = .ok (.iinc 5 1, 3) := by decide +kernel
theorem dX1_seekFrom_69 : decode cX1_seekFrom 69 = .ok (.goto (-34), 3) := by decide +kernel
theorem dX1_seekFrom_72 : decode cX1_seekFrom 72 = .ok (.aload_n 1, 1) := by decide +kernel
theorem dX1_seekFrom_73 : decode cX1_seekFrom 73 = .ok (.getfield 28, 3) := by decide +kernel
theorem dX1_seekFrom_76 : decode cX1_seekFrom 76 = .ok (.iload 7, 2) := by decide +kernel
theorem dX1_seekFrom_78 : decode cX1_seekFrom 78 = .ok (.iaload, 1) := by decide +kernel
theorem dX1_seekFrom_79 : decode cX1_seekFrom 79 = .ok (.iload_n 2, 1) := by decide +kernel
theorem dX1_seekFrom_80 : decode cX1_seekFrom 80 = .ok (.if_icmp .lt 24, 3) := by decide +kernel
theorem dX1_seekFrom_83 : decode cX1_seekFrom 83 = .ok (.iinc 3 1, 3) := by decide +kernel
theorem dX1_seekFrom_86 : decode cX1_seekFrom 86 = .ok (.aload_n 0, 1) := by decide +kernel
theorem dX1_seekFrom_87 : decode cX1_seekFrom 87 = .ok (.iload_n 2, 1) := by decide +kernel
theorem dX1_seekFrom_88 : decode cX1_seekFrom 88 = .ok (.aload_n 1, 1) := by decide +kernel
theorem dX1_seekFrom_89 : decode cX1_seekFrom 89 = .ok (.getfield 50, 3) := by decide +kernel
theorem dX1_seekFrom_92 : decode cX1_seekFrom 92 = .ok (.iload 7, 2) := by decide +kernel
theorem dX1_seekFrom_94 : decode cX1_seekFrom 94 = .ok (.iaload, 1) := by decide +kernel
theorem dX1_seekFrom_95 : decode cX1_seekFrom 95 = .ok (.iload_n 3, 1) := by decide +kernel
theorem dX1_seekFrom_96 : decode cX1_seekFrom 96 = .ok (.iload 5, 2) := by decide +kernel
theorem dX1_seekFrom_98 : decode cX1_seekFrom 98 = .ok (.iload 4, 2) := by decide +kernel
theorem dX1_seekFrom_100 : decode cX1_seekFrom 100 = .ok (.isub, 1) := by decide +kernel
theorem dX1_seekFrom_101 : decode cX1_seekFrom 101 = .ok (.invokevirtual 53, 3) := by decide +kernel
theorem dX1_seekFrom_104 : decode cX1_seekFrom 104 = .ok (.iinc 6 1, 3) := by decide +kernel
theorem dX1_seekFrom_107 : decode cX1_seekFrom 107 = .ok (.goto (-90), 3) := by decide +kernel
theorem dX1_seekFrom_110 : decode cX1_seekFrom 110 = .ok (.return_, 1) := by decide +kernel
theorem dX1_firstBoreFrom_0 : decode cX1_firstBoreFrom 0 = .ok (.iconst 0, 1) := by decide +kernel
theorem dX1_firstBoreFrom_1 : decode cX1_firstBoreFrom 1 = .ok (.istore_n 3, 1) := by decide +kernel
theorem dX1_firstBoreFrom_2 : decode cX1_firstBoreFrom 2 = .ok (.iload_n 3, 1) := by decide +kernel
theorem dX1_firstBoreFrom_3 : decode cX1_firstBoreFrom 3 = .ok (.aload_n 1, 1) := by decide +kernel
theorem dX1_firstBoreFrom_4 : decode cX1_firstBoreFrom 4 = .ok (.getfield 43, 3) := by decide +kernel
theorem dX1_firstBoreFrom_7 : decode cX1_firstBoreFrom 7 = .ok (.if_icmp .ge 24, 3) := by decide +kernel
theorem dX1_firstBoreFrom_10 : decode cX1_firstBoreFrom 10 = .ok (.aload_n 1, 1) := by decide +kernel
theorem dX1_firstBoreFrom_11 : decode cX1_firstBoreFrom 11 = .ok (.getfield 44, 3) := by decide +kernel
theorem dX1_firstBoreFrom_14 : decode cX1_firstBoreFrom 14 = .ok (.aload_n 1, 1) := by decide +kernel
theorem dX1_firstBoreFrom_15 : decode cX1_firstBoreFrom 15 = .ok (.getfield 47, 3) := by decide +kernel
theorem dX1_firstBoreFrom_18 : decode cX1_firstBoreFrom 18 = .ok (.iload_n 3, 1) := by decide +kernel
theorem dX1_firstBoreFrom_19 : decode cX1_firstBoreFrom 19 = .ok (.iaload, 1) := by decide +kernel
theorem dX1_firstBoreFrom_20 : decode cX1_firstBoreFrom 20 = .ok (.iaload, 1) := by decide +kernel
theorem dX1_firstBoreFrom_21 : decode cX1_firstBoreFrom 21 = .ok (.iload_n 2, 1) := by decide +kernel
theorem dX1_firstBoreFrom_22 : decode cX1_firstBoreFrom 22 = .ok (.if_icmp .ge 9, 3) := by decide +kernel
theorem dX1_firstBoreFrom_25 : decode cX1_firstBoreFrom 25 = .ok (.iinc 3 1, 3) := by decide +kernel
theorem dX1_firstBoreFrom_28 : decode cX1_firstBoreFrom 28 = .ok (.goto (-26), 3) := by decide +kernel
theorem dX1_firstBoreFrom_31 : decode cX1_firstBoreFrom 31 = .ok (.iload_n 3, 1) := by decide +kernel
theorem dX1_firstBoreFrom_32 : decode cX1_firstBoreFrom 32 = .ok (.ireturn, 1) := by decide +kernel
theorem dX1_weigh_0 : decode cX1_weigh 0 = .ok (.iload_n 3, 1) := by decide +kernel
theorem dX1_weigh_1 : decode cX1_weigh 1 = .ok (.iload 4, 2) := by decide +kernel
theorem dX1_weigh_3 : decode cX1_weigh 3 = .ok (.isub, 1) := by decide +kernel
theorem dX1_weigh_4 : decode cX1_weigh 4 = .ok (.istore 5, 2) := by decide +kernel
theorem dX1_weigh_6 : decode cX1_weigh 6 = .ok (.iload 5, 2) := by decide +kernel
theorem dX1_weigh_8 : decode cX1_weigh 8 = .ok (.aload_n 0, 1) := by decide +kernel
theorem dX1_weigh_9 : decode cX1_weigh 9 = .ok (.getfield 22, 3) := by decide +kernel
theorem dX1_weigh_12 : decode cX1_weigh 12 = .ok (.if_icmp .gt 27, 3) := by decide +kernel
theorem dX1_weigh_15 : decode cX1_weigh 15 = .ok (.iload 5, 2) := by decide +kernel
theorem dX1_weigh_17 : decode cX1_weigh 17 = .ok (.aload_n 0, 1) := by decide +kernel
theorem dX1_weigh_18 : decode cX1_weigh 18 = .ok (.getfield 22, 3) := by decide +kernel
theorem dX1_weigh_21 : decode cX1_weigh 21 = .ok (.if_icmp .ne 45, 3) := by decide +kernel
theorem dX1_weigh_24 : decode cX1_weigh 24 = .ok (.aload_n 0, 1) := by decide +kernel
theorem dX1_weigh_25 : decode cX1_weigh 25 = .ok (.getfield 22, 3) := by decide +kernel
theorem dX1_weigh_28 : decode cX1_weigh 28 = .ok (.ifCond .le 38, 3) := by decide +kernel
theorem dX1_weigh_31 : decode cX1_weigh 31 = .ok (.iload_n 1, 1) := by decide +kernel
theorem dX1_weigh_32 : decode cX1_weigh 32 = .ok (.aload_n 0, 1) := by decide +kernel
theorem dX1_weigh_33 : decode cX1_weigh 33 = .ok (.getfield 7, 3) := by decide +kernel
theorem dX1_weigh_36 : decode cX1_weigh 36 = .ok (.if_icmp .ge 30, 3) := by decide +kernel
theorem dX1_weigh_39 : decode cX1_weigh 39 = .ok (.aload_n 0, 1) := by decide +kernel
theorem dX1_weigh_40 : decode cX1_weigh 40 = .ok (.iload_n 1, 1) := by decide +kernel
theorem dX1_weigh_41 : decode cX1_weigh 41 = .ok (.putfield 7, 3) := by decide +kernel
theorem dX1_weigh_44 : decode cX1_weigh 44 = .ok (.aload_n 0, 1) := by decide +kernel
theorem dX1_weigh_45 : decode cX1_weigh 45 = .ok (.iload_n 2, 1) := by decide +kernel
theorem dX1_weigh_46 : decode cX1_weigh 46 = .ok (.putfield 13, 3) := by decide +kernel
theorem dX1_weigh_49 : decode cX1_weigh 49 = .ok (.aload_n 0, 1) := by decide +kernel
theorem dX1_weigh_50 : decode cX1_weigh 50 = .ok (.iload_n 3, 1) := by decide +kernel
theorem dX1_weigh_51 : decode cX1_weigh 51 = .ok (.putfield 16, 3) := by decide +kernel
theorem dX1_weigh_54 : decode cX1_weigh 54 = .ok (.aload_n 0, 1) := by decide +kernel
theorem dX1_weigh_55 : decode cX1_weigh 55 = .ok (.iload 4, 2) := by decide +kernel
theorem dX1_weigh_57 : decode cX1_weigh 57 = .ok (.putfield 19, 3) := by decide +kernel
theorem dX1_weigh_60 : decode cX1_weigh 60 = .ok (.aload_n 0, 1) := by decide +kernel
theorem dX1_weigh_61 : decode cX1_weigh 61 = .ok (.iload 5, 2) := by decide +kernel
theorem dX1_weigh_63 : decode cX1_weigh 63 = .ok (.putfield 22, 3) := by decide +kernel
theorem dX1_weigh_66 : decode cX1_weigh 66 = .ok (.return_, 1) := by decide +kernel
theorem dX2_init_0 : decode cX2_init 0 = .ok (.aload_n 0, 1) := by decide +kernel
theorem dX2_init_1 : decode cX2_init 1 = .ok (.invokespecial 1, 3) := by decide +kernel
theorem dX2_init_4 : decode cX2_init 4 = .ok (.aload_n 0, 1) := by decide +kernel
theorem dX2_init_5 : decode cX2_init 5 = .ok (.new 7, 3) := by decide +kernel
theorem dX2_init_8 : decode cX2_init 8 = .ok (.dup, 1) := by decide +kernel
theorem dX2_init_9 : decode cX2_init 9 = .ok (.invokespecial 9, 3) := by decide +kernel
theorem dX2_init_12 : decode cX2_init 12 = .ok (.putfield 10, 3) := by decide +kernel
theorem dX2_init_15 : decode cX2_init 15 = .ok (.aload_n 0, 1) := by decide +kernel
theorem dX2_init_16 : decode cX2_init 16 = .ok (.iconst 0, 1) := by decide +kernel
theorem dX2_init_17 : decode cX2_init 17 = .ok (.putfield 16, 3) := by decide +kernel
theorem dX2_init_20 : decode cX2_init 20 = .ok (.aload_n 0, 1) := by decide +kernel
theorem dX2_init_21 : decode cX2_init 21 = .ok (.iconst 0, 1) := by decide +kernel
theorem dX2_init_22 : decode cX2_init 22 = .ok (.putfield 20, 3) := by decide +kernel
theorem dX2_init_25 : decode cX2_init 25 = .ok (.return_, 1) := by decide +kernel
theorem dX3_init_0 : decode cX3_init 0 = .ok (.aload_n 0, 1) := by decide +kernel
theorem dX3_init_1 : decode cX3_init 1 = .ok (.invokespecial 3, 3) := by decide +kernel
theorem dX3_init_4 : decode cX3_init 4 = .ok (.aload_n 0, 1) := by decide +kernel
theorem dX3_init_5 : decode cX3_init 5 = .ok (.bipush 16, 2) := by decide +kernel
theorem dX3_init_7 : decode cX3_init 7 = .ok (.anewarray 9, 3) := by decide +kernel
theorem dX3_init_10 : decode cX3_init 10 = .ok (.putfield 11, 3) := by decide +kernel
theorem dX3_init_13 : decode cX3_init 13 = .ok (.aload_n 0, 1) := by decide +kernel
theorem dX3_init_14 : decode cX3_init 14 = .ok (.iconst 0, 1) := by decide +kernel
theorem dX3_init_15 : decode cX3_init 15 = .ok (.putfield 17, 3) := by decide +kernel
theorem dX3_init_18 : decode cX3_init 18 = .ok (.aload_n 0, 1) := by decide +kernel
theorem dX3_init_19 : decode cX3_init 19 = .ok (.iconst 0, 1) := by decide +kernel
theorem dX3_init_20 : decode cX3_init 20 = .ok (.putfield 21, 3) := by decide +kernel
theorem dX3_init_23 : decode cX3_init 23 = .ok (.iconst 0, 1) := by decide +kernel
theorem dX3_init_24 : decode cX3_init 24 = .ok (.istore_n 1, 1) := by decide +kernel
theorem dX3_init_25 : decode cX3_init 25 = .ok (.iload_n 1, 1) := by decide +kernel
theorem dX3_init_26 : decode cX3_init 26 = .ok (.bipush 16, 2) := by decide +kernel
theorem dX3_init_28 : decode cX3_init 28 = .ok (.if_icmp .ge 22, 3) := by decide +kernel
theorem dX3_init_31 : decode cX3_init 31 = .ok (.aload_n 0, 1) := by decide +kernel
theorem dX3_init_32 : decode cX3_init 32 = .ok (.getfield 11, 3) := by decide +kernel
theorem dX3_init_35 : decode cX3_init 35 = .ok (.iload_n 1, 1) := by decide +kernel
theorem dX3_init_36 : decode cX3_init 36 = .ok (.new 9, 3) := by decide +kernel
theorem dX3_init_39 : decode cX3_init 39 = .ok (.dup, 1) := by decide +kernel
theorem dX3_init_40 : decode cX3_init 40 = .ok (.invokespecial 24, 3) := by decide +kernel
theorem dX3_init_43 : decode cX3_init 43 = .ok (.aastore, 1) := by decide +kernel
theorem dX3_init_44 : decode cX3_init 44 = .ok (.iinc 1 1, 3) := by decide +kernel
theorem dX3_init_47 : decode cX3_init 47 = .ok (.goto (-22), 3) := by decide +kernel
theorem dX3_init_50 : decode cX3_init 50 = .ok (.return_, 1) := by decide +kernel
theorem dX3_note_0 : decode cX3_note 0 = .ok (.aload_n 0, 1) := by decide +kernel
theorem dX3_note_1 : decode cX3_note 1 = .ok (.getfield 11, 3) := by decide +kernel
theorem dX3_note_4 : decode cX3_note 4 = .ok (.aload_n 0, 1) := by decide +kernel
theorem dX3_note_5 : decode cX3_note 5 = .ok (.getfield 17, 3) := by decide +kernel
theorem dX3_note_8 : decode cX3_note 8 = .ok (.aaload, 1) := by decide +kernel
theorem dX3_note_9 : decode cX3_note 9 = .ok (.aload_n 1, 1) := by decide +kernel
theorem dX3_note_10 : decode cX3_note 10 = .ok (.invokevirtual 25, 3) := by decide +kernel
theorem dX3_note_13 : decode cX3_note 13 = .ok (.aload_n 0, 1) := by decide +kernel
theorem dX3_note_14 : decode cX3_note 14 = .ok (.aload_n 0, 1) := by decide +kernel
theorem dX3_note_15 : decode cX3_note 15 = .ok (.getfield 17, 3) := by decide +kernel
theorem dX3_note_18 : decode cX3_note 18 = .ok (.iconst 1, 1) := by decide +kernel
theorem dX3_note_19 : decode cX3_note 19 = .ok (.iadd, 1) := by decide +kernel
theorem dX3_note_20 : decode cX3_note 20 = .ok (.bipush 16, 2) := by decide +kernel
theorem dX3_note_22 : decode cX3_note 22 = .ok (.irem, 1) := by decide +kernel
theorem dX3_note_23 : decode cX3_note 23 = .ok (.putfield 17, 3) := by decide +kernel
theorem dX3_note_26 : decode cX3_note 26 = .ok (.aload_n 0, 1) := by decide +kernel
theorem dX3_note_27 : decode cX3_note 27 = .ok (.aload_n 0, 1) := by decide +kernel
theorem dX3_note_28 : decode cX3_note 28 = .ok (.getfield 21, 3) := by decide +kernel
theorem dX3_note_31 : decode cX3_note 31 = .ok (.iconst 1, 1) := by decide +kernel
theorem dX3_note_32 : decode cX3_note 32 = .ok (.iadd, 1) := by decide +kernel
theorem dX3_note_33 : decode cX3_note 33 = .ok (.bipush 16, 2) := by decide +kernel
theorem dX3_note_35 : decode cX3_note 35 = .ok (.invokestatic 29, 3) := by decide +kernel
theorem dX3_note_38 : decode cX3_note 38 = .ok (.putfield 21, 3) := by decide +kernel
theorem dX3_note_41 : decode cX3_note 41 = .ok (.return_, 1) := by decide +kernel
theorem dX3_giveBack_0 : decode cX3_giveBack 0 = .ok (.aload_n 0, 1) := by decide +kernel
theorem dX3_giveBack_1 : decode cX3_giveBack 1 = .ok (.aload_n 0, 1) := by decide +kernel
theorem dX3_giveBack_2 : decode cX3_giveBack 2 = .ok (.getfield 17, 3) := by decide +kernel
theorem dX3_giveBack_5 : decode cX3_giveBack 5 = .ok (.iload_n 2, 1) := by decide +kernel
theorem dX3_giveBack_6 : decode cX3_giveBack 6 = .ok (.isub, 1) := by decide +kernel
theorem dX3_giveBack_7 : decode cX3_giveBack 7 = .ok (.bipush 16, 2) := by decide +kernel
theorem dX3_giveBack_9 : decode cX3_giveBack 9 = .ok (.invokestatic 35, 3) := by decide +kernel
theorem dX3_giveBack_12 : decode cX3_giveBack 12 = .ok (.putfield 17, 3) := by decide +kernel
theorem dX3_giveBack_15 : decode cX3_giveBack 15 = .ok (.aload_n 0, 1) := by decide +kernel
theorem dX3_giveBack_16 : decode cX3_giveBack 16 = .ok (.dup, 1) := by decide +kernel
theorem dX3_giveBack_17 : decode cX3_giveBack 17 = .ok (.getfield 21, 3) := by decide +kernel
theorem dX3_giveBack_20 : decode cX3_giveBack 20 = .ok (.iload_n 2, 1) := by decide +kernel
theorem dX3_giveBack_21 : decode cX3_giveBack 21 = .ok (.isub, 1) := by decide +kernel
theorem dX3_giveBack_22 : decode cX3_giveBack 22 = .ok (.putfield 21, 3) := by decide +kernel
theorem dX3_giveBack_25 : decode cX3_giveBack 25 = .ok (.aload_n 1, 1) := by decide +kernel
theorem dX3_giveBack_26 : decode cX3_giveBack 26 = .ok (.aload_n 0, 1) := by decide +kernel
theorem dX3_giveBack_27 : decode cX3_giveBack 27 = .ok (.getfield 11, 3) := by decide +kernel
theorem dX3_giveBack_30 : decode cX3_giveBack 30 = .ok (.aload_n 0, 1) := by decide +kernel
theorem dX3_giveBack_31 : decode cX3_giveBack 31 = .ok (.getfield 17, 3) := by decide +kernel
theorem dX3_giveBack_34 : decode cX3_giveBack 34 = .ok (.aaload, 1) := by decide +kernel
theorem dX3_giveBack_35 : decode cX3_giveBack 35 = .ok (.invokevirtual 25, 3) := by decide +kernel
theorem dX3_giveBack_38 : decode cX3_giveBack 38 = .ok (.return_, 1) := by decide +kernel
theorem dX4_init_0 : decode cX4_init 0 = .ok (.aload_n 0, 1) := by decide +kernel
theorem dX4_init_1 : decode cX4_init 1 = .ok (.invokespecial 3, 3) := by decide +kernel
theorem dX4_init_4 : decode cX4_init 4 = .ok (.aload_n 0, 1) := by decide +kernel
theorem dX4_init_5 : decode cX4_init 5 = .ok (.bipush 6, 2) := by decide +kernel
theorem dX4_init_7 : decode cX4_init 7 = .ok (.newarray .int, 2) := by decide +kernel
theorem dX4_init_9 : decode cX4_init 9 = .ok (.putfield 9, 3) := by decide +kernel
theorem dX4_init_12 : decode cX4_init 12 = .ok (.aload_n 0, 1) := by decide +kernel
theorem dX4_init_13 : decode cX4_init 13 = .ok (.bipush 6, 2) := by decide +kernel
theorem dX4_init_15 : decode cX4_init 15 = .ok (.newarray .boolean, 2) := by decide +kernel
theorem dX4_init_17 : decode cX4_init 17 = .ok (.putfield 15, 3) := by decide +kernel
theorem dX4_init_20 : decode cX4_init 20 = .ok (.aload_n 0, 1) := by decide +kernel
theorem dX4_init_21 : decode cX4_init 21 = .ok (.bipush 7, 2) := by decide +kernel
theorem dX4_init_23 : decode cX4_init 23 = .ok (.newarray .int, 2) := by decide +kernel
theorem dX4_init_25 : decode cX4_init 25 = .ok (.putfield 19, 3) := by decide +kernel
theorem dX4_init_28 : decode cX4_init 28 = .ok (.aload_n 0, 1) := by decide +kernel
theorem dX4_init_29 : decode cX4_init 29 = .ok (.bipush 7, 2) := by decide +kernel
theorem dX4_init_31 : decode cX4_init 31 = .ok (.newarray .int, 2) := by decide +kernel
theorem dX4_init_33 : decode cX4_init 33 = .ok (.putfield 22, 3) := by decide +kernel
theorem dX4_init_36 : decode cX4_init 36 = .ok (.aload_n 0, 1) := by decide +kernel
theorem dX4_init_37 : decode cX4_init 37 = .ok (.iconst 0, 1) := by decide +kernel
theorem dX4_init_38 : decode cX4_init 38 = .ok (.putfield 25, 3) := by decide +kernel
theorem dX4_init_41 : decode cX4_init 41 = .ok (.aload_n 0, 1) := by decide +kernel
theorem dX4_init_42 : decode cX4_init 42 = .ok (.iconst 0, 1) := by decide +kernel
theorem dX4_init_43 : decode cX4_init 43 = .ok (.putfield 29, 3) := by decide +kernel
theorem dX4_init_46 : decode cX4_init 46 = .ok (.return_, 1) := by decide +kernel
theorem dX4_note_0 : decode cX4_note 0 = .ok (.aload_n 0, 1) := by decide +kernel
theorem dX4_note_1 : decode cX4_note 1 = .ok (.getfield 25, 3) := by decide +kernel
theorem dX4_note_4 : decode cX4_note 4 = .ok (.bipush 6, 2) := by decide +kernel
theorem dX4_note_6 : decode cX4_note 6 = .ok (.if_icmp .lt 6, 3) := by decide +kernel
theorem dX4_note_9 : decode cX4_note 9 = .ok (.ldc 32, 2) := by decide +kernel
theorem dX4_note_11 : decode cX4_note 11 = .ok (.ireturn, 1) := by decide +kernel
theorem dX4_note_12 : decode cX4_note 12 = .ok (.aload_n 0, 1) := by decide +kernel
theorem dX4_note_13 : decode cX4_note 13 = .ok (.getfield 9, 3) := by decide +kernel
theorem dX4_note_16 : decode cX4_note 16 = .ok (.aload_n 0, 1) := by decide +kernel
theorem dX4_note_17 : decode cX4_note 17 = .ok (.getfield 25, 3) := by decide +kernel
theorem dX4_note_20 : decode cX4_note 20 = .ok (.iload_n 1, 1) := by decide +kernel
theorem dX4_note_21 : decode cX4_note 21 = .ok (.iastore, 1) := by decide +kernel
theorem dX4_note_22 : decode cX4_note 22 = .ok (.aload_n 0, 1) := by decide +kernel
theorem dX4_note_23 : decode cX4_note 23 = .ok (.getfield 15, 3) := by decide +kernel
theorem dX4_note_26 : decode cX4_note 26 = .ok (.aload_n 0, 1) := by decide +kernel
theorem dX4_note_27 : decode cX4_note 27 = .ok (.getfield 25, 3) := by decide +kernel
theorem dX4_note_30 : decode cX4_note 30 = .ok (.iload_n 2, 1) := by decide +kernel
theorem dX4_note_31 : decode cX4_note 31 = .ok (.bastore, 1) := by decide +kernel
theorem dX4_note_32 : decode cX4_note 32 = .ok (.aload_n 0, 1) := by decide +kernel
theorem dX4_note_33 : decode cX4_note 33 = .ok (.dup, 1) := by decide +kernel
theorem dX4_note_34 : decode cX4_note 34 = .ok (.getfield 25, 3) := by decide +kernel
theorem dX4_note_37 : decode cX4_note 37 = .ok (.iconst 1, 1) := by decide +kernel
theorem dX4_note_38 : decode cX4_note 38 = .ok (.iadd, 1) := by decide +kernel
theorem dX4_note_39 : decode cX4_note 39 = .ok (.putfield 25, 3) := by decide +kernel
theorem dX4_note_42 : decode cX4_note 42 = .ok (.aload_n 0, 1) := by decide +kernel
theorem dX4_note_43 : decode cX4_note 43 = .ok (.getfield 25, 3) := by decide +kernel
theorem dX4_note_46 : decode cX4_note 46 = .ok (.ireturn, 1) := by decide +kernel
theorem dX4_narrow_0 : decode cX4_narrow 0 = .ok (.aload_n 0, 1) := by decide +kernel
theorem dX4_narrow_1 : decode cX4_narrow 1 = .ok (.iconst 0, 1) := by decide +kernel
theorem dX4_narrow_2 : decode cX4_narrow 2 = .ok (.putfield 29, 3) := by decide +kernel
theorem dX4_narrow_5 : decode cX4_narrow 5 = .ok (.aload_n 0, 1) := by decide +kernel
theorem dX4_narrow_6 : decode cX4_narrow 6 = .ok (.iconst 0, 1) := by decide +kernel
theorem dX4_narrow_7 : decode cX4_narrow 7 = .ok (.sipush 9999, 3) := by decide +kernel
theorem dX4_narrow_10 : decode cX4_narrow 10 = .ok (.invokevirtual 33, 3) := by decide +kernel
theorem dX4_narrow_13 : decode cX4_narrow 13 = .ok (.iconst 0, 1) := by decide +kernel
theorem dX4_narrow_14 : decode cX4_narrow 14 = .ok (.istore_n 2, 1) := by decide +kernel
theorem dX4_narrow_15 : decode cX4_narrow 15 = .ok (.iload_n 2, 1) := by decide +kernel
theorem dX4_narrow_16 : decode cX4_narrow 16 = .ok (.aload_n 0, 1) := by decide +kernel
theorem dX4_narrow_17 : decode cX4_narrow 17 = .ok (.getfield 25, 3) := by decide +kernel
theorem dX4_narrow_20 : decode cX4_narrow 20 = .ok (.if_icmp .ge 69, 3) := by decide +kernel
theorem dX4_narrow_23 : decode cX4_narrow 23 = .ok (.aload_n 0, 1) := by decide +kernel
theorem dX4_narrow_24 : decode cX4_narrow 24 = .ok (.getfield 15, 3) := by decide +kernel
theorem dX4_narrow_27 : decode cX4_narrow 27 = .ok (.iload_n 2, 1) := by decide +kernel
theorem dX4_narrow_28 : decode cX4_narrow 28 = .ok (.baload, 1) := by decide +kernel
theorem dX4_narrow_29 : decode cX4_narrow 29 = .ok (.ifCond .eq 30, 3) := by decide +kernel
theorem dX4_narrow_32 : decode cX4_narrow 32 = .ok (.aload_n 0, 1) := by decide +kernel
theorem dX4_narrow_33 : decode cX4_narrow 33 = .ok (.aload_n 1, 1) := by decide +kernel
theorem dX4_narrow_34 : decode cX4_narrow 34 = .ok (.aload_n 0, 1) := by decide +kernel
theorem dX4_narrow_35 : decode cX4_narrow 35 = .ok (.getfield 9, 3) := by decide +kernel
theorem dX4_narrow_38 : decode cX4_narrow 38 = .ok (.iload_n 2, 1) := by decide +kernel
theorem dX4_narrow_39 : decode cX4_narrow 39 = .ok (.iaload, 1) := by decide +kernel
theorem dX4_narrow_40 : decode cX4_narrow 40 = .ok (.invokevirtual 37, 3) := by decide +kernel
theorem dX4_narrow_43 : decode cX4_narrow 43 = .ok (.aload_n 1, 1) := by decide +kernel
theorem dX4_narrow_44 : decode cX4_narrow 44 = .ok (.aload_n 0, 1) := by decide +kernel
theorem dX4_narrow_45 : decode cX4_narrow 45 = .ok (.getfield 9, 3) := by decide +kernel
theorem dX4_narrow_48 : decode cX4_narrow 48 = .ok (.iload_n 2, 1) := by decide +kernel
theorem dX4_narrow_49 : decode cX4_narrow 49 = .ok (.iaload, 1) := by decide +kernel
theorem dX4_narrow_50 : decode cX4_narrow 50 = .ok (.invokevirtual 43, 3) := by decide +kernel
theorem dX4_narrow_53 : decode cX4_narrow 53 = .ok (.invokevirtual 46, 3) := by decide +kernel
theorem dX4_narrow_56 : decode cX4_narrow 56 = .ok (.goto 27, 3) := by decide +kernel
theorem dX4_narrow_59 : decode cX4_narrow 59 = .ok (.aload_n 0, 1) := by decide +kernel
theorem dX4_narrow_60 : decode cX4_narrow 60 = .ok (.aload_n 1, 1) := by decide +kernel
theorem dX4_narrow_61 : decode cX4_narrow 61 = .ok (.aload_n 0, 1) := by decide +kernel
theorem dX4_narrow_62 : decode cX4_narrow 62 = .ok (.getfield 9, 3) := by decide +kernel
theorem dX4_narrow_65 : decode cX4_narrow 65 = .ok (.iload_n 2, 1) := by decide +kernel
theorem dX4_narrow_66 : decode cX4_narrow 66 = .ok (.iaload, 1) := by decide +kernel
theorem dX4_narrow_67 : decode cX4_narrow 67 = .ok (.invokevirtual 37, 3) := by decide +kernel
theorem dX4_narrow_70 : decode cX4_narrow 70 = .ok (.aload_n 1, 1) := by decide +kernel
theorem dX4_narrow_71 : decode cX4_narrow 71 = .ok (.aload_n 0, 1) := by decide +kernel
theorem dX4_narrow_72 : decode cX4_narrow 72 = .ok (.getfield 9, 3) := by decide +kernel
theorem dX4_narrow_75 : decode cX4_narrow 75 = .ok (.iload_n 2, 1) := by decide +kernel
theorem dX4_narrow_76 : decode cX4_narrow 76 = .ok (.iaload, 1) := by decide +kernel
theorem dX4_narrow_77 : decode cX4_narrow 77 = .ok (.invokevirtual 43, 3) := by decide +kernel
theorem dX4_narrow_80 : decode cX4_narrow 80 = .ok (.invokevirtual 49, 3) := by decide +kernel
theorem dX4_narrow_83 : decode cX4_narrow 83 = .ok (.iinc 2 1, 3) := by decide +kernel
theorem dX4_narrow_86 : decode cX4_narrow 86 = .ok (.goto (-71), 3) := by decide +kernel
theorem dX4_narrow_89 : decode cX4_narrow 89 = .ok (.return_, 1) := by decide +kernel
theorem dX4_addRow_0 : decode cX4_addRow 0 = .ok (.aload_n 0, 1) := by decide +kernel
theorem dX4_addRow_1 : decode cX4_addRow 1 = .ok (.getfield 29, 3) := by decide +kernel
theorem dX4_addRow_4 : decode cX4_addRow 4 = .ok (.bipush 6, 2) := by decide +kernel
theorem dX4_addRow_6 : decode cX4_addRow 6 = .ok (.if_icmp .gt 33, 3) := by decide +kernel
theorem dX4_addRow_9 : decode cX4_addRow 9 = .ok (.aload_n 0, 1) := by decide +kernel
theorem dX4_addRow_10 : decode cX4_addRow 10 = .ok (.getfield 19, 3) := by decide +kernel
theorem dX4_addRow_13 : decode cX4_addRow 13 = .ok (.aload_n 0, 1) := by decide +kernel
theorem dX4_addRow_14 : decode cX4_addRow 14 = .ok (.getfield 29, 3) := by decide +kernel
theorem dX4_addRow_17 : decode cX4_addRow 17 = .ok (.iload_n 1, 1) := by decide +kernel
theorem dX4_addRow_18 : decode cX4_addRow 18 = .ok (.iastore, 1) := by decide +kernel
theorem dX4_addRow_19 : decode cX4_addRow 19 = .ok (.aload_n 0, 1) := by decide +kernel
theorem dX4_addRow_20 : decode cX4_addRow 20 = .ok (.getfield 22, 3) := by decide +kernel
theorem dX4_addRow_23 : decode cX4_addRow 23 = .ok (.aload_n 0, 1) := by decide +kernel
theorem dX4_addRow_24 : decode cX4_addRow 24 = .ok (.getfield 29, 3) := by decide +kernel
theorem dX4_addRow_27 : decode cX4_addRow 27 = .ok (.iload_n 2, 1) := by decide +kernel
theorem dX4_addRow_28 : decode cX4_addRow 28 = .ok (.iastore, 1) := by decide +kernel
theorem dX4_addRow_29 : decode cX4_addRow 29 = .ok (.aload_n 0, 1) := by decide +kernel
theorem dX4_addRow_30 : decode cX4_addRow 30 = .ok (.dup, 1) := by decide +kernel
theorem dX4_addRow_31 : decode cX4_addRow 31 = .ok (.getfield 29, 3) := by decide +kernel
theorem dX4_addRow_34 : decode cX4_addRow 34 = .ok (.iconst 1, 1) := by decide +kernel
theorem dX4_addRow_35 : decode cX4_addRow 35 = .ok (.iadd, 1) := by decide +kernel
theorem dX4_addRow_36 : decode cX4_addRow 36 = .ok (.putfield 29, 3) := by decide +kernel
theorem dX4_addRow_39 : decode cX4_addRow 39 = .ok (.return_, 1) := by decide +kernel
theorem dX4_leaveOnly_0 : decode cX4_leaveOnly 0 = .ok (.iconst 0, 1) := by decide +kernel
theorem dX4_leaveOnly_1 : decode cX4_leaveOnly 1 = .ok (.istore_n 3, 1) := by decide +kernel
theorem dX4_leaveOnly_2 : decode cX4_leaveOnly 2 = .ok (.iload_n 3, 1) := by decide +kernel
theorem dX4_leaveOnly_3 : decode cX4_leaveOnly 3 = .ok (.aload_n 0, 1) := by decide +kernel
theorem dX4_leaveOnly_4 : decode cX4_leaveOnly 4 = .ok (.getfield 29, 3) := by decide +kernel
theorem dX4_leaveOnly_7 : decode cX4_leaveOnly 7 = .ok (.if_icmp .ge 41, 3) := by decide +kernel
theorem dX4_leaveOnly_10 : decode cX4_leaveOnly 10 = .ok (.aload_n 0, 1) := by decide +kernel
theorem dX4_leaveOnly_11 : decode cX4_leaveOnly 11 = .ok (.getfield 19, 3) := by decide +kernel
theorem dX4_leaveOnly_14 : decode cX4_leaveOnly 14 = .ok (.iload_n 3, 1) := by decide +kernel
theorem dX4_leaveOnly_15 : decode cX4_leaveOnly 15 = .ok (.aload_n 0, 1) := by decide +kernel
theorem dX4_leaveOnly_16 : decode cX4_leaveOnly 16 = .ok (.getfield 19, 3) := by decide +kernel
theorem dX4_leaveOnly_19 : decode cX4_leaveOnly 19 = .ok (.iload_n 3, 1) := by decide +kernel
theorem dX4_leaveOnly_20 : decode cX4_leaveOnly 20 = .ok (.iaload, 1) := by decide +kernel
theorem dX4_leaveOnly_21 : decode cX4_leaveOnly 21 = .ok (.iload_n 1, 1) := by decide +kernel
theorem dX4_leaveOnly_22 : decode cX4_leaveOnly 22 = .ok (.invokestatic 52, 3) := by decide +kernel
theorem dX4_leaveOnly_25 : decode cX4_leaveOnly 25 = .ok (.iastore, 1) := by decide +kernel
theorem dX4_leaveOnly_26 : decode cX4_leaveOnly 26 = .ok (.aload_n 0, 1) := by decide +kernel
theorem dX4_leaveOnly_27 : decode cX4_leaveOnly 27 = .ok (.getfield 22, 3) := by decide +kernel
theorem dX4_leaveOnly_30 : decode cX4_leaveOnly 30 = .ok (.iload_n 3, 1) := by decide +kernel
theorem dX4_leaveOnly_31 : decode cX4_leaveOnly 31 = .ok (.aload_n 0, 1) := by decide +kernel
theorem dX4_leaveOnly_32 : decode cX4_leaveOnly 32 = .ok (.getfield 22, 3) := by decide +kernel
theorem dX4_leaveOnly_35 : decode cX4_leaveOnly 35 = .ok (.iload_n 3, 1) := by decide +kernel
theorem dX4_leaveOnly_36 : decode cX4_leaveOnly 36 = .ok (.iaload, 1) := by decide +kernel
theorem dX4_leaveOnly_37 : decode cX4_leaveOnly 37 = .ok (.iload_n 2, 1) := by decide +kernel
theorem dX4_leaveOnly_38 : decode cX4_leaveOnly 38 = .ok (.invokestatic 58, 3) := by decide +kernel
theorem dX4_leaveOnly_41 : decode cX4_leaveOnly 41 = .ok (.iastore, 1) := by decide +kernel
theorem dX4_leaveOnly_42 : decode cX4_leaveOnly 42 = .ok (.iinc 3 1, 3) := by decide +kernel
theorem dX4_leaveOnly_45 : decode cX4_leaveOnly 45 = .ok (.goto (-43), 3) := by decide +kernel
theorem dX4_leaveOnly_48 : decode cX4_leaveOnly 48 = .ok (.return_, 1) := by decide +kernel
theorem dX4_cutOut_0 : decode cX4_cutOut 0 = .ok (.aload_n 0, 1) := by decide +kernel
theorem dX4_cutOut_1 : decode cX4_cutOut 1 = .ok (.getfield 29, 3) := by decide +kernel
theorem dX4_cutOut_4 : decode cX4_cutOut 4 = .ok (.istore_n 3, 1) := by decide +kernel
theorem dX4_cutOut_5 : decode cX4_cutOut 5 = .ok (.iconst 0, 1) := by decide +kernel
theorem dX4_cutOut_6 : decode cX4_cutOut 6 = .ok (.istore 4, 2) := by decide +kernel
theorem dX4_cutOut_8 : decode cX4_cutOut 8 = .ok (.iload 4, 2) := by decide +kernel
theorem dX4_cutOut_10 : decode cX4_cutOut 10 = .ok (.iload_n 3, 1) := by decide +kernel
theorem dX4_cutOut_11 : decode cX4_cutOut 11 = .ok (.if_icmp .ge 65, 3) := by decide +kernel
theorem dX4_cutOut_14 : decode cX4_cutOut 14 = .ok (.aload_n 0, 1) := by decide +kernel
theorem dX4_cutOut_15 : decode cX4_cutOut 15 = .ok (.getfield 19, 3) := by decide +kernel
theorem dX4_cutOut_18 : decode cX4_cutOut 18 = .ok (.iload 4, 2) := by decide +kernel
theorem dX4_cutOut_20 : decode cX4_cutOut 20 = .ok (.iaload, 1) := by decide +kernel
theorem dX4_cutOut_21 : decode cX4_cutOut 21 = .ok (.iload_n 2, 1) := by decide +kernel
theorem dX4_cutOut_22 : decode cX4_cutOut 22 = .ok (.if_icmp .gt 48, 3) := by decide +kernel
theorem dX4_cutOut_25 : decode cX4_cutOut 25 = .ok (.iload_n 1, 1) := by decide +kernel
theorem dX4_cutOut_26 : decode cX4_cutOut 26 = .ok (.aload_n 0, 1) := by decide +kernel
theorem dX4_cutOut_27 : decode cX4_cutOut 27 = .ok (.getfield 22, 3) := by decide +kernel
theorem dX4_cutOut_30 : decode cX4_cutOut 30 = .ok (.iload 4, 2) := by decide +kernel
theorem dX4_cutOut_32 : decode cX4_cutOut 32 = .ok (.iaload, 1) := by decide +kernel
theorem dX4_cutOut_33 : decode cX4_cutOut 33 = .ok (.if_icmp .gt 37, 3) := by decide +kernel
theorem dX4_cutOut_36 : decode cX4_cutOut 36 = .ok (.aload_n 0, 1) := by decide +kernel
theorem dX4_cutOut_37 : decode cX4_cutOut 37 = .ok (.getfield 22, 3) := by decide +kernel
theorem dX4_cutOut_40 : decode cX4_cutOut 40 = .ok (.iload 4, 2) := by decide +kernel
theorem dX4_cutOut_42 : decode cX4_cutOut 42 = .ok (.iaload, 1) := by decide +kernel
theorem dX4_cutOut_43 : decode cX4_cutOut 43 = .ok (.istore 5, 2) := by decide +kernel
theorem dX4_cutOut_45 : decode cX4_cutOut 45 = .ok (.aload_n 0, 1) := by decide +kernel
theorem dX4_cutOut_46 : decode cX4_cutOut 46 = .ok (.getfield 22, 3) := by decide +kernel
theorem dX4_cutOut_49 : decode cX4_cutOut 49 = .ok (.iload 4, 2) := by decide +kernel
theorem dX4_cutOut_51 : decode cX4_cutOut 51 = .ok (.iload_n 1, 1) := by decide +kernel
theorem dX4_cutOut_52 : decode cX4_cutOut 52 = .ok (.iconst 1, 1) := by decide +kernel
theorem dX4_cutOut_53 : decode cX4_cutOut 53 = .ok (.isub, 1) := by decide +kernel
theorem dX4_cutOut_54 : decode cX4_cutOut 54 = .ok (.iastore, 1) := by decide +kernel
theorem dX4_cutOut_55 : decode cX4_cutOut 55 = .ok (.iload_n 2, 1) := by decide +kernel
theorem dX4_cutOut_56 : decode cX4_cutOut 56 = .ok (.iload 5, 2) := by decide +kernel
theorem dX4_cutOut_58 : decode cX4_cutOut 58 = .ok (.if_icmp .ge 12, 3) := by decide +kernel
theorem dX4_cutOut_61 : decode cX4_cutOut 61 = .ok (.aload_n 0, 1) := by decide +kernel
theorem dX4_cutOut_62 : decode cX4_cutOut 62 = .ok (.iload_n 2, 1) := by decide +kernel
theorem dX4_cutOut_63 : decode cX4_cutOut 63 = .ok (.iconst 1, 1) := by decide +kernel
theorem dX4_cutOut_64 : decode cX4_cutOut 64 = .ok (.iadd, 1) := by decide +kernel
theorem dX4_cutOut_65 : decode cX4_cutOut 65 = .ok (.iload 5, 2) := by decide +kernel
theorem dX4_cutOut_67 : decode cX4_cutOut 67 = .ok (.invokevirtual 33, 3) := by decide +kernel
theorem dX4_cutOut_70 : decode cX4_cutOut 70 = .ok (.iinc 4 1, 3) := by decide +kernel
theorem dX4_cutOut_73 : decode cX4_cutOut 73 = .ok (.goto (-65), 3) := by decide +kernel
theorem dX4_cutOut_76 : decode cX4_cutOut 76 = .ok (.return_, 1) := by decide +kernel
theorem dX4_count_0 : decode cX4_count 0 = .ok (.aload_n 0, 1) := by decide +kernel
theorem dX4_count_1 : decode cX4_count 1 = .ok (.iconst 0, 1) := by decide +kernel
theorem dX4_count_2 : decode cX4_count 2 = .ok (.sipush 9999, 3) := by decide +kernel
theorem dX4_count_5 : decode cX4_count 5 = .ok (.invokevirtual 61, 3) := by decide +kernel
theorem dX4_count_8 : decode cX4_count 8 = .ok (.ireturn, 1) := by decide +kernel
theorem dX4_countWithin_0 : decode cX4_countWithin 0 = .ok (.iconst 0, 1) := by decide +kernel
theorem dX4_countWithin_1 : decode cX4_countWithin 1 = .ok (.istore_n 3, 1) := by decide +kernel
theorem dX4_countWithin_2 : decode cX4_countWithin 2 = .ok (.iconst 0, 1) := by decide +kernel
theorem dX4_countWithin_3 : decode cX4_countWithin 3 = .ok (.istore 4, 2) := by decide +kernel
theorem dX4_countWithin_5 : decode cX4_countWithin 5 = .ok (.iload 4, 2) := by decide +kernel
theorem dX4_countWithin_7 : decode cX4_countWithin 7 = .ok (.aload_n 0, 1) := by decide +kernel
theorem dX4_countWithin_8 : decode cX4_countWithin 8 = .ok (.getfield 29, 3) := by decide +kernel
theorem dX4_countWithin_11 : decode cX4_countWithin 11 = .ok (.if_icmp .ge 41, 3) := by decide +kernel
theorem dX4_countWithin_14 : decode cX4_countWithin 14 = .ok (.iload_n 3, 1) := by decide +kernel
theorem dX4_countWithin_15 : decode cX4_countWithin 15 = .ok (.iconst 0, 1) := by decide +kernel
theorem dX4_countWithin_16 : decode cX4_countWithin 16 = .ok (.aload_n 0, 1) := by decide +kernel
theorem dX4_countWithin_17 : decode cX4_countWithin 17 = .ok (.getfield 22, 3) := by decide +kernel
theorem dX4_countWithin_20 : decode cX4_countWithin 20 = .ok (.iload 4, 2) := by decide +kernel
theorem dX4_countWithin_22 : decode cX4_countWithin 22 = .ok (.iaload, 1) := by decide +kernel
theorem dX4_countWithin_23 : decode cX4_countWithin 23 = .ok (.iload_n 2, 1) := by decide +kernel
theorem dX4_countWithin_24 : decode cX4_countWithin 24 = .ok (.invokestatic 58, 3) := by decide +kernel
theorem dX4_countWithin_27 : decode cX4_countWithin 27 = .ok (.aload_n 0, 1) := by decide +kernel
theorem dX4_countWithin_28 : decode cX4_countWithin 28 = .ok (.getfield 19, 3) := by decide +kernel
theorem dX4_countWithin_31 : decode cX4_countWithin 31 = .ok (.iload 4, 2) := by decide +kernel
theorem dX4_countWithin_33 : decode cX4_countWithin 33 = .ok (.iaload, 1) := by decide +kernel
theorem dX4_countWithin_34 : decode cX4_countWithin 34 = .ok (.iload_n 1, 1) := by decide +kernel
theorem dX4_countWithin_35 : decode cX4_countWithin 35 = .ok (.invokestatic 52, 3) := by decide +kernel
theorem dX4_countWithin_38 : decode cX4_countWithin 38 = .ok (.isub, 1) := by decide +kernel
theorem dX4_countWithin_39 : decode cX4_countWithin 39 = .ok (.iconst 1, 1) := by decide +kernel
theorem dX4_countWithin_40 : decode cX4_countWithin 40 = .ok (.iadd, 1) := by decide +kernel
theorem dX4_countWithin_41 : decode cX4_countWithin 41 = .ok (.invokestatic 52, 3) := by decide +kernel
theorem dX4_countWithin_44 : decode cX4_countWithin 44 = .ok (.iadd, 1) := by decide +kernel
theorem dX4_countWithin_45 : decode cX4_countWithin 45 = .ok (.istore_n 3, 1) := by decide +kernel
theorem dX4_countWithin_46 : decode cX4_countWithin 46 = .ok (.iinc 4 1, 3) := by decide +kernel
theorem dX4_countWithin_49 : decode cX4_countWithin 49 = .ok (.goto (-44), 3) := by decide +kernel
theorem dX4_countWithin_52 : decode cX4_countWithin 52 = .ok (.iload_n 3, 1) := by decide +kernel
theorem dX4_countWithin_53 : decode cX4_countWithin 53 = .ok (.ireturn, 1) := by decide +kernel
theorem dX4_leastSize_0 : decode cX4_leastSize 0 = .ok (.iconst (-1), 1) := by decide +kernel
theorem dX4_leastSize_1 : decode cX4_leastSize 1 = .ok (.istore_n 1, 1) := by decide +kernel
theorem dX4_leastSize_2 : decode cX4_leastSize 2 = .ok (.iconst 0, 1) := by decide +kernel
theorem dX4_leastSize_3 : decode cX4_leastSize 3 = .ok (.istore_n 2, 1) := by decide +kernel
theorem dX4_leastSize_4 : decode cX4_leastSize 4 = .ok (.iload_n 2, 1) := by decide +kernel
theorem dX4_leastSize_5 : decode cX4_leastSize 5 = .ok (.aload_n 0, 1) := by decide +kernel
theorem dX4_leastSize_6 : decode cX4_leastSize 6 = .ok (.getfield 29, 3) := by decide +kernel
theorem dX4_leastSize_9 : decode cX4_leastSize 9 = .ok (.if_icmp .ge 46, 3) := by decide +kernel
theorem dX4_leastSize_12 : decode cX4_leastSize 12 = .ok (.aload_n 0, 1) := by decide +kernel
theorem dX4_leastSize_13 : decode cX4_leastSize 13 = .ok (.getfield 19, 3) := by decide +kernel
theorem dX4_leastSize_16 : decode cX4_leastSize 16 = .ok (.iload_n 2, 1) := by decide +kernel
theorem dX4_leastSize_17 : decode cX4_leastSize 17 = .ok (.iaload, 1) := by decide +kernel
theorem dX4_leastSize_18 : decode cX4_leastSize 18 = .ok (.aload_n 0, 1) := by decide +kernel
theorem dX4_leastSize_19 : decode cX4_leastSize 19 = .ok (.getfield 22, 3) := by decide +kernel
theorem dX4_leastSize_22 : decode cX4_leastSize 22 = .ok (.iload_n 2, 1) := by decide +kernel
theorem dX4_leastSize_23 : decode cX4_leastSize 23 = .ok (.iaload, 1) := by decide +kernel
theorem dX4_leastSize_24 : decode cX4_leastSize 24 = .ok (.if_icmp .gt 25, 3) := by decide +kernel
theorem dX4_leastSize_27 : decode cX4_leastSize 27 = .ok (.iload_n 1, 1) := by decide +kernel
theorem dX4_leastSize_28 : decode cX4_leastSize 28 = .ok (.iconst (-1), 1) := by decide +kernel
theorem dX4_leastSize_29 : decode cX4_leastSize 29 = .ok (.if_icmp .eq 13, 3) := by decide +kernel
theorem dX4_leastSize_32 : decode cX4_leastSize 32 = .ok (.aload_n 0, 1) := by decide +kernel
theorem dX4_leastSize_33 : decode cX4_leastSize 33 = .ok (.getfield 19, 3) := by decide +kernel
theorem dX4_leastSize_36 : decode cX4_leastSize 36 = .ok (.iload_n 2, 1) := by decide +kernel
theorem dX4_leastSize_37 : decode cX4_leastSize 37 = .ok (.iaload, 1) := by decide +kernel
theorem dX4_leastSize_38 : decode cX4_leastSize 38 = .ok (.iload_n 1, 1) := by decide +kernel
theorem dX4_leastSize_39 : decode cX4_leastSize 39 = .ok (.if_icmp .ge 10, 3) := by decide +kernel
theorem dX4_leastSize_42 : decode cX4_leastSize 42 = .ok (.aload_n 0, 1) := by decide +kernel
theorem dX4_leastSize_43 : decode cX4_leastSize 43 = .ok (.getfield 19, 3) := by decide +kernel
theorem dX4_leastSize_46 : decode cX4_leastSize 46 = .ok (.iload_n 2, 1) := by decide +kernel
theorem dX4_leastSize_47 : decode cX4_leastSize 47 = .ok (.iaload, 1) := by decide +kernel
theorem dX4_leastSize_48 : decode cX4_leastSize 48 = .ok (.istore_n 1, 1) := by decide +kernel
theorem dX4_leastSize_49 : decode cX4_leastSize 49 = .ok (.iinc 2 1, 3) := by decide +kernel
theorem dX4_leastSize_52 : decode cX4_leastSize 52 = .ok (.goto (-48), 3) := by decide +kernel
theorem dX4_leastSize_55 : decode cX4_leastSize 55 = .ok (.iload_n 1, 1) := by decide +kernel
theorem dX4_leastSize_56 : decode cX4_leastSize 56 = .ok (.ireturn, 1) := by decide +kernel
theorem dX4_greatestSize_0 : decode cX4_greatestSize 0 = .ok (.iconst (-1), 1) := by decide +kernel
theorem dX4_greatestSize_1 : decode cX4_greatestSize 1 = .ok (.istore_n 1, 1) := by decide +kernel
theorem dX4_greatestSize_2 : decode cX4_greatestSize 2 = .ok (.iconst 0, 1) := by decide +kernel
theorem dX4_greatestSize_3 : decode cX4_greatestSize 3 = .ok (.istore_n 2, 1) := by decide +kernel
theorem dX4_greatestSize_4 : decode cX4_greatestSize 4 = .ok (.iload_n 2, 1) := by decide +kernel
theorem dX4_greatestSize_5 : decode cX4_greatestSize 5 = .ok (.aload_n 0, 1) := by decide +kernel
theorem dX4_greatestSize_6 : decode cX4_greatestSize 6 = .ok (.getfield 29, 3) := by decide +kernel
theorem dX4_greatestSize_9 : decode cX4_greatestSize 9 = .ok (.if_icmp .ge 35, 3) := by decide +kernel
theorem dX4_greatestSize_12 : decode cX4_greatestSize 12 = .ok (.aload_n 0, 1) := by decide +kernel
theorem dX4_greatestSize_13 : decode cX4_greatestSize 13 = .ok (.getfield 19, 3) := by decide +kernel
theorem dX4_greatestSize_16 : decode cX4_greatestSize 16 = .ok (.iload_n 2, 1) := by decide +kernel
theorem dX4_greatestSize_17 : decode cX4_greatestSize 17 = .ok (.iaload, 1) := by decide +kernel
theorem dX4_greatestSize_18 : decode cX4_greatestSize 18 = .ok (.aload_n 0, 1) := by decide +kernel
theorem dX4_greatestSize_19 : decode cX4_greatestSize 19 = .ok (.getfield 22, 3) := by decide +kernel
theorem dX4_greatestSize_22 : decode cX4_greatestSize 22 = .ok (.iload_n 2, 1) := by decide +kernel
theorem dX4_greatestSize_23 : decode cX4_greatestSize 23 = .ok (.iaload, 1) := by decide +kernel
theorem dX4_greatestSize_24 : decode cX4_greatestSize 24 = .ok (.if_icmp .gt 14, 3) := by decide +kernel
theorem dX4_greatestSize_27 : decode cX4_greatestSize 27 = .ok (.iload_n 1, 1) := by decide +kernel
theorem dX4_greatestSize_28 : decode cX4_greatestSize 28 = .ok (.aload_n 0, 1) := by decide +kernel
theorem dX4_greatestSize_29 : decode cX4_greatestSize 29 = .ok (.getfield 22, 3) := by decide +kernel
theorem dX4_greatestSize_32 : decode cX4_greatestSize 32 = .ok (.iload_n 2, 1) := by decide +kernel
theorem dX4_greatestSize_33 : decode cX4_greatestSize 33 = .ok (.iaload, 1) := by decide +kernel
theorem dX4_greatestSize_34 : decode cX4_greatestSize 34 = .ok (.invokestatic 52, 3) := by decide +kernel
theorem dX4_greatestSize_37 : decode cX4_greatestSize 37 = .ok (.istore_n 1, 1) := by decide +kernel
theorem dX4_greatestSize_38 : decode cX4_greatestSize 38 = .ok (.iinc 2 1, 3) := by decide +kernel
theorem dX4_greatestSize_41 : decode cX4_greatestSize 41 = .ok (.goto (-37), 3) := by decide +kernel
theorem dX4_greatestSize_44 : decode cX4_greatestSize 44 = .ok (.iload_n 1, 1) := by decide +kernel
theorem dX4_greatestSize_45 : decode cX4_greatestSize 45 = .ok (.ireturn, 1) := by decide +kernel
theorem dX4_shaftToTry_0 : decode cX4_shaftToTry 0 = .ok (.aload_n 0, 1) := by decide +kernel
theorem dX4_shaftToTry_1 : decode cX4_shaftToTry 1 = .ok (.invokevirtual 64, 3) := by decide +kernel
theorem dX4_shaftToTry_4 : decode cX4_shaftToTry 4 = .ok (.istore_n 2, 1) := by decide +kernel
theorem dX4_shaftToTry_5 : decode cX4_shaftToTry 5 = .ok (.iconst (-1), 1) := by decide +kernel
theorem dX4_shaftToTry_6 : decode cX4_shaftToTry 6 = .ok (.istore_n 3, 1) := by decide +kernel
theorem dX4_shaftToTry_7 : decode cX4_shaftToTry 7 = .ok (.iload_n 2, 1) := by decide +kernel
theorem dX4_shaftToTry_8 : decode cX4_shaftToTry 8 = .ok (.istore 4, 2) := by decide +kernel
theorem dX4_shaftToTry_10 : decode cX4_shaftToTry 10 = .ok (.iconst 0, 1) := by decide +kernel
theorem dX4_shaftToTry_11 : decode cX4_shaftToTry 11 = .ok (.istore 5, 2) := by decide +kernel
theorem dX4_shaftToTry_13 : decode cX4_shaftToTry 13 = .ok (.iload 5, 2) := by decide +kernel
theorem dX4_shaftToTry_15 : decode cX4_shaftToTry 15 = .ok (.aload_n 1, 1) := by decide +kernel
theorem dX4_shaftToTry_16 : decode cX4_shaftToTry 16 = .ok (.getfield 68, 3) := by decide +kernel
theorem dX4_shaftToTry_19 : decode cX4_shaftToTry 19 = .ok (.if_icmp .ge 62, 3) := by decide +kernel
theorem dX4_shaftToTry_22 : decode cX4_shaftToTry 22 = .ok (.aload_n 0, 1) := by decide +kernel
theorem dX4_shaftToTry_23 : decode cX4_shaftToTry 23 = .ok (.aload_n 1, 1) := by decide +kernel
theorem dX4_shaftToTry_24 : decode cX4_shaftToTry 24 = .ok (.aload_n 1, 1) := by decide +kernel
theorem dX4_shaftToTry_25 : decode cX4_shaftToTry 25 = .ok (.getfield 71, 3) := by decide +kernel
theorem dX4_shaftToTry_28 : decode cX4_shaftToTry 28 = .ok (.iload 5, 2) := by decide +kernel
theorem dX4_shaftToTry_30 : decode cX4_shaftToTry 30 = .ok (.iaload, 1) := by decide +kernel
theorem dX4_shaftToTry_31 : decode cX4_shaftToTry 31 = .ok (.invokevirtual 37, 3) := by decide +kernel
theorem dX4_shaftToTry_34 : decode cX4_shaftToTry 34 = .ok (.aload_n 1, 1) := by decide +kernel
theorem dX4_shaftToTry_35 : decode cX4_shaftToTry 35 = .ok (.aload_n 1, 1) := by decide +kernel
theorem dX4_shaftToTry_36 : decode cX4_shaftToTry 36 = .ok (.getfield 71, 3) := by decide +kernel
theorem dX4_shaftToTry_39 : decode cX4_shaftToTry 39 = .ok (.iload 5, 2) := by decide +kernel
theorem dX4_shaftToTry_41 : decode cX4_shaftToTry 41 = .ok (.iaload, 1) := by decide +kernel
theorem dX4_shaftToTry_42 : decode cX4_shaftToTry 42 = .ok (.invokevirtual 43, 3) := by decide +kernel
theorem dX4_shaftToTry_45 : decode cX4_shaftToTry 45 = .ok (.invokevirtual 61, 3) := by decide +kernel
theorem dX4_shaftToTry_48 : decode cX4_shaftToTry 48 = .ok (.istore 6, 2) := by decide +kernel
theorem dX4_shaftToTry_50 : decode cX4_shaftToTry 50 = .ok (.iload 6, 2) := by decide +kernel
theorem dX4_shaftToTry_52 : decode cX4_shaftToTry 52 = .ok (.iload_n 2, 1) := by decide +kernel
theorem dX4_shaftToTry_53 : decode cX4_shaftToTry 53 = .ok (.iload 6, 2) := by decide +kernel
theorem dX4_shaftToTry_55 : decode cX4_shaftToTry 55 = .ok (.isub, 1) := by decide +kernel
theorem dX4_shaftToTry_56 : decode cX4_shaftToTry 56 = .ok (.invokestatic 52, 3) := by decide +kernel
theorem dX4_shaftToTry_59 : decode cX4_shaftToTry 59 = .ok (.istore 7, 2) := by decide +kernel
theorem dX4_shaftToTry_61 : decode cX4_shaftToTry 61 = .ok (.iload 7, 2) := by decide +kernel
theorem dX4_shaftToTry_63 : decode cX4_shaftToTry 63 = .ok (.iload 4, 2) := by decide +kernel
theorem dX4_shaftToTry_65 : decode cX4_shaftToTry 65 = .ok (.if_icmp .ge 10, 3) := by decide +kernel
theorem dX4_shaftToTry_68 : decode cX4_shaftToTry 68 = .ok (.iload 5, 2) := by decide +kernel
theorem dX4_shaftToTry_70 : decode cX4_shaftToTry 70 = .ok (.istore_n 3, 1) := by decide +kernel
theorem dX4_shaftToTry_71 : decode cX4_shaftToTry 71 = .ok (.iload 7, 2) := by decide +kernel
theorem dX4_shaftToTry_73 : decode cX4_shaftToTry 73 = .ok (.istore 4, 2) := by decide +kernel
theorem dX4_shaftToTry_75 : decode cX4_shaftToTry 75 = .ok (.iinc 5 1, 3) := by decide +kernel
theorem dX4_shaftToTry_78 : decode cX4_shaftToTry 78 = .ok (.goto (-65), 3) := by decide +kernel
theorem dX4_shaftToTry_81 : decode cX4_shaftToTry 81 = .ok (.iload_n 3, 1) := by decide +kernel
theorem dX4_shaftToTry_82 : decode cX4_shaftToTry 82 = .ok (.ireturn, 1) := by decide +kernel
theorem dX5_init_0 : decode cX5_init 0 = .ok (.aload_n 0, 1) := by decide +kernel
theorem dX5_init_1 : decode cX5_init 1 = .ok (.invokespecial 3, 3) := by decide +kernel
theorem dX5_init_4 : decode cX5_init 4 = .ok (.aload_n 0, 1) := by decide +kernel
theorem dX5_init_5 : decode cX5_init 5 = .ok (.bipush 24, 2) := by decide +kernel
theorem dX5_init_7 : decode cX5_init 7 = .ok (.newarray .int, 2) := by decide +kernel
theorem dX5_init_9 : decode cX5_init 9 = .ok (.putfield 9, 3) := by decide +kernel
theorem dX5_init_12 : decode cX5_init 12 = .ok (.aload_n 0, 1) := by decide +kernel
theorem dX5_init_13 : decode cX5_init 13 = .ok (.bipush 24, 2) := by decide +kernel
theorem dX5_init_15 : decode cX5_init 15 = .ok (.newarray .int, 2) := by decide +kernel
theorem dX5_init_17 : decode cX5_init 17 = .ok (.putfield 15, 3) := by decide +kernel
theorem dX5_init_20 : decode cX5_init 20 = .ok (.aload_n 0, 1) := by decide +kernel
theorem dX5_init_21 : decode cX5_init 21 = .ok (.bipush 24, 2) := by decide +kernel
theorem dX5_init_23 : decode cX5_init 23 = .ok (.newarray .int, 2) := by decide +kernel
theorem dX5_init_25 : decode cX5_init 25 = .ok (.putfield 18, 3) := by decide +kernel
theorem dX5_init_28 : decode cX5_init 28 = .ok (.aload_n 0, 1) := by decide +kernel
theorem dX5_init_29 : decode cX5_init 29 = .ok (.bipush 24, 2) := by decide +kernel
theorem dX5_init_31 : decode cX5_init 31 = .ok (.newarray .int, 2) := by decide +kernel
theorem dX5_init_33 : decode cX5_init 33 = .ok (.putfield 21, 3) := by decide +kernel
theorem dX5_init_36 : decode cX5_init 36 = .ok (.aload_n 0, 1) := by decide +kernel
theorem dX5_init_37 : decode cX5_init 37 = .ok (.bipush 24, 2) := by decide +kernel
theorem dX5_init_39 : decode cX5_init 39 = .ok (.newarray .int, 2) := by decide +kernel
theorem dX5_init_41 : decode cX5_init 41 = .ok (.putfield 24, 3) := by decide +kernel
theorem dX5_init_44 : decode cX5_init 44 = .ok (.aload_n 0, 1) := by decide +kernel
theorem dX5_init_45 : decode cX5_init 45 = .ok (.bipush 25, 2) := by decide +kernel
theorem dX5_init_47 : decode cX5_init 47 = .ok (.newarray .int, 2) := by decide +kernel
theorem dX5_init_49 : decode cX5_init 49 = .ok (.putfield 27, 3) := by decide +kernel
theorem dX5_init_52 : decode cX5_init 52 = .ok (.aload_n 0, 1) := by decide +kernel
theorem dX5_init_53 : decode cX5_init 53 = .ok (.bipush 25, 2) := by decide +kernel
theorem dX5_init_55 : decode cX5_init 55 = .ok (.newarray .int, 2) := by decide +kernel
theorem dX5_init_57 : decode cX5_init 57 = .ok (.putfield 30, 3) := by decide +kernel
theorem dX5_init_60 : decode cX5_init 60 = .ok (.aload_n 0, 1) := by decide +kernel
theorem dX5_init_61 : decode cX5_init 61 = .ok (.bipush 25, 2) := by decide +kernel
theorem dX5_init_63 : decode cX5_init 63 = .ok (.newarray .int, 2) := by decide +kernel
theorem dX5_init_65 : decode cX5_init 65 = .ok (.putfield 33, 3) := by decide +kernel
theorem dX5_init_68 : decode cX5_init 68 = .ok (.aload_n 0, 1) := by decide +kernel
theorem dX5_init_69 : decode cX5_init 69 = .ok (.iconst 0, 1) := by decide +kernel
theorem dX5_init_70 : decode cX5_init 70 = .ok (.putfield 36, 3) := by decide +kernel
theorem dX5_init_73 : decode cX5_init 73 = .ok (.aload_n 0, 1) := by decide +kernel
theorem dX5_init_74 : decode cX5_init 74 = .ok (.iconst 0, 1) := by decide +kernel
theorem dX5_init_75 : decode cX5_init 75 = .ok (.putfield 40, 3) := by decide +kernel
theorem dX5_init_78 : decode cX5_init 78 = .ok (.return_, 1) := by decide +kernel
theorem dX5_read_0 : decode cX5_read 0 = .ok (.aload_n 0, 1) := by decide +kernel
theorem dX5_read_1 : decode cX5_read 1 = .ok (.iconst 0, 1) := by decide +kernel
theorem dX5_read_2 : decode cX5_read 2 = .ok (.putfield 36, 3) := by decide +kernel
theorem dX5_read_5 : decode cX5_read 5 = .ok (.iconst 0, 1) := by decide +kernel
theorem dX5_read_6 : decode cX5_read 6 = .ok (.istore_n 2, 1) := by decide +kernel
theorem dX5_read_7 : decode cX5_read 7 = .ok (.iload_n 2, 1) := by decide +kernel
theorem dX5_read_8 : decode cX5_read 8 = .ok (.aload_n 1, 1) := by decide +kernel
theorem dX5_read_9 : decode cX5_read 9 = .ok (.getfield 43, 3) := by decide +kernel
theorem dX5_read_12 : decode cX5_read 12 = .ok (.if_icmp .ge 34, 3) := by decide +kernel
theorem dX5_read_15 : decode cX5_read 15 = .ok (.aload_n 1, 1) := by decide +kernel
theorem dX5_read_16 : decode cX5_read 16 = .ok (.getfield 48, 3) := by decide +kernel
theorem dX5_read_19 : decode cX5_read 19 = .ok (.iload_n 2, 1) := by decide +kernel
theorem dX5_read_20 : decode cX5_read 20 = .ok (.iaload, 1) := by decide +kernel
theorem dX5_read_21 : decode cX5_read 21 = .ok (.istore_n 3, 1) := by decide +kernel
theorem dX5_read_22 : decode cX5_read 22 = .ok (.aload_n 0, 1) := by decide +kernel
theorem dX5_read_23 : decode cX5_read 23 = .ok (.iload_n 3, 1) := by decide +kernel
theorem dX5_read_24 : decode cX5_read 24 = .ok (.invokestatic 50, 3) := by decide +kernel
theorem dX5_read_27 : decode cX5_read 27 = .ok (.aload_n 1, 1) := by decide +kernel
theorem dX5_read_28 : decode cX5_read 28 = .ok (.iload_n 3, 1) := by decide +kernel
theorem dX5_read_29 : decode cX5_read 29 = .ok (.invokevirtual 54, 3) := by decide +kernel
theorem dX5_read_32 : decode cX5_read 32 = .ok (.aload_n 1, 1) := by decide +kernel
theorem dX5_read_33 : decode cX5_read 33 = .ok (.iload_n 3, 1) := by decide +kernel
theorem dX5_read_34 : decode cX5_read 34 = .ok (.invokevirtual 56, 3) := by decide +kernel
theorem dX5_read_37 : decode cX5_read 37 = .ok (.invokevirtual 58, 3) := by decide +kernel
theorem dX5_read_40 : decode cX5_read 40 = .ok (.iinc 2 1, 3) := by decide +kernel
theorem dX5_read_43 : decode cX5_read 43 = .ok (.goto (-36), 3) := by decide +kernel
theorem dX5_read_46 : decode cX5_read 46 = .ok (.aload_n 0, 1) := by decide +kernel
theorem dX5_read_47 : decode cX5_read 47 = .ok (.iconst 0, 1) := by decide +kernel
theorem dX5_read_48 : decode cX5_read 48 = .ok (.putfield 40, 3) := by decide +kernel
theorem dX5_read_51 : decode cX5_read 51 = .ok (.iconst 0, 1) := by decide +kernel
theorem dX5_read_52 : decode cX5_read 52 = .ok (.istore_n 2, 1) := by decide +kernel
theorem dX5_read_53 : decode cX5_read 53 = .ok (.iload_n 2, 1) := by decide +kernel
theorem dX5_read_54 : decode cX5_read 54 = .ok (.aload_n 1, 1) := by decide +kernel
theorem dX5_read_55 : decode cX5_read 55 = .ok (.getfield 62, 3) := by decide +kernel
theorem dX5_read_58 : decode cX5_read 58 = .ok (.if_icmp .ge 22, 3) := by decide +kernel
theorem dX5_read_61 : decode cX5_read 61 = .ok (.aload_n 0, 1) := by decide +kernel
theorem dX5_read_62 : decode cX5_read 62 = .ok (.aload_n 1, 1) := by decide +kernel
theorem dX5_read_63 : decode cX5_read 63 = .ok (.getfield 65, 3) := by decide +kernel
theorem dX5_read_66 : decode cX5_read 66 = .ok (.iload_n 2, 1) := by decide +kernel
theorem dX5_read_67 : decode cX5_read 67 = .ok (.iaload, 1) := by decide +kernel
theorem dX5_read_68 : decode cX5_read 68 = .ok (.invokestatic 50, 3) := by decide +kernel
theorem dX5_read_71 : decode cX5_read 71 = .ok (.invokevirtual 67, 3) := by decide +kernel
theorem dX5_read_74 : decode cX5_read 74 = .ok (.iinc 2 1, 3) := by decide +kernel
theorem dX5_read_77 : decode cX5_read 77 = .ok (.goto (-24), 3) := by decide +kernel
theorem dX5_read_80 : decode cX5_read 80 = .ok (.return_, 1) := by decide +kernel
theorem dX5_addShaft_0 : decode cX5_addShaft 0 = .ok (.aload_n 0, 1) := by decide +kernel
theorem dX5_addShaft_1 : decode cX5_addShaft 1 = .ok (.getfield 36, 3) := by decide +kernel
theorem dX5_addShaft_4 : decode cX5_addShaft 4 = .ok (.bipush 24, 2) := by decide +kernel
theorem dX5_addShaft_6 : decode cX5_addShaft 6 = .ok (.if_icmp .lt 4, 3) := by decide +kernel
theorem dX5_addShaft_9 : decode cX5_addShaft 9 = .ok (.return_, 1) := by decide +kernel
theorem dX5_addShaft_10 : decode cX5_addShaft 10 = .ok (.aload_n 0, 1) := by decide +kernel
theorem dX5_addShaft_11 : decode cX5_addShaft 11 = .ok (.getfield 9, 3) := by decide +kernel
theorem dX5_addShaft_14 : decode cX5_addShaft 14 = .ok (.aload_n 0, 1) := by decide +kernel
theorem dX5_addShaft_15 : decode cX5_addShaft 15 = .ok (.getfield 36, 3) := by decide +kernel
theorem dX5_addShaft_18 : decode cX5_addShaft 18 = .ok (.iload_n 1, 1) := by decide +kernel
theorem dX5_addShaft_19 : decode cX5_addShaft 19 = .ok (.iastore, 1) := by decide +kernel
theorem dX5_addShaft_20 : decode cX5_addShaft 20 = .ok (.aload_n 0, 1) := by decide +kernel
theorem dX5_addShaft_21 : decode cX5_addShaft 21 = .ok (.getfield 15, 3) := by decide +kernel
theorem dX5_addShaft_24 : decode cX5_addShaft 24 = .ok (.aload_n 0, 1) := by decide +kernel
theorem dX5_addShaft_25 : decode cX5_addShaft 25 = .ok (.getfield 36, 3) := by decide +kernel
theorem dX5_addShaft_28 : decode cX5_addShaft 28 = .ok (.iload_n 2, 1) := by decide +kernel
theorem dX5_addShaft_29 : decode cX5_addShaft 29 = .ok (.iastore, 1) := by decide +kernel
theorem dX5_addShaft_30 : decode cX5_addShaft 30 = .ok (.aload_n 0, 1) := by decide +kernel
theorem dX5_addShaft_31 : decode cX5_addShaft 31 = .ok (.getfield 18, 3) := by decide +kernel
theorem dX5_addShaft_34 : decode cX5_addShaft 34 = .ok (.aload_n 0, 1) := by decide +kernel
theorem dX5_addShaft_35 : decode cX5_addShaft 35 = .ok (.getfield 36, 3) := by decide +kernel
theorem dX5_addShaft_38 : decode cX5_addShaft 38 = .ok (.iload_n 3, 1) := by decide +kernel
theorem dX5_addShaft_39 : decode cX5_addShaft 39 = .ok (.iastore, 1) := by decide +kernel
theorem dX5_addShaft_40 : decode cX5_addShaft 40 = .ok (.aload_n 0, 1) := by decide +kernel
theorem dX5_addShaft_41 : decode cX5_addShaft 41 = .ok (.getfield 36, 3) := by decide +kernel
theorem dX5_addShaft_44 : decode cX5_addShaft 44 = .ok (.istore 4, 2) := by decide +kernel
theorem dX5_addShaft_46 : decode cX5_addShaft 46 = .ok (.iload 4, 2) := by decide +kernel
theorem dX5_addShaft_48 : decode cX5_addShaft 48 = .ok (.ifCond .le 45, 3) := by decide +kernel
theorem dX5_addShaft_51 : decode cX5_addShaft 51 = .ok (.aload_n 0, 1) := by decide +kernel
theorem dX5_addShaft_52 : decode cX5_addShaft 52 = .ok (.aload_n 0, 1) := by decide +kernel
theorem dX5_addShaft_53 : decode cX5_addShaft 53 = .ok (.getfield 21, 3) := by decide +kernel
theorem dX5_addShaft_56 : decode cX5_addShaft 56 = .ok (.iload 4, 2) := by decide +kernel
theorem dX5_addShaft_58 : decode cX5_addShaft 58 = .ok (.iconst 1, 1) := by decide +kernel
theorem dX5_addShaft_59 : decode cX5_addShaft 59 = .ok (.isub, 1) := by decide +kernel
theorem dX5_addShaft_60 : decode cX5_addShaft 60 = .ok (.iaload, 1) := by decide +kernel
theorem dX5_addShaft_61 : decode cX5_addShaft 61 = .ok (.aload_n 0, 1) := by decide +kernel
theorem dX5_addShaft_62 : decode cX5_addShaft 62 = .ok (.getfield 36, 3) := by decide +kernel
theorem dX5_addShaft_65 : decode cX5_addShaft 65 = .ok (.invokevirtual 71, 3) := by decide +kernel
theorem dX5_addShaft_68 : decode cX5_addShaft 68 = .ok (.ifCond .eq 25, 3) := by decide +kernel
theorem dX5_addShaft_71 : decode cX5_addShaft 71 = .ok (.aload_n 0, 1) := by decide +kernel
theorem dX5_addShaft_72 : decode cX5_addShaft 72 = .ok (.getfield 21, 3) := by decide +kernel
theorem dX5_addShaft_75 : decode cX5_addShaft 75 = .ok (.iload 4, 2) := by decide +kernel
theorem dX5_addShaft_77 : decode cX5_addShaft 77 = .ok (.aload_n 0, 1) := by decide +kernel
theorem dX5_addShaft_78 : decode cX5_addShaft 78 = .ok (.getfield 21, 3) := by decide +kernel
theorem dX5_addShaft_81 : decode cX5_addShaft 81 = .ok (.iload 4, 2) := by decide +kernel
theorem dX5_addShaft_83 : decode cX5_addShaft 83 = .ok (.iconst 1, 1) := by decide +kernel
theorem dX5_addShaft_84 : decode cX5_addShaft 84 = .ok (.isub, 1) := by decide +kernel
theorem dX5_addShaft_85 : decode cX5_addShaft 85 = .ok (.iaload, 1) := by decide +kernel
theorem dX5_addShaft_86 : decode cX5_addShaft 86 = .ok (.iastore, 1) := by decide +kernel
