theorem dX5_addShaft_87 : decode cX5_addShaft 87 = .ok (.iinc 4 (-1), 3) := by decide +kernel
theorem dX5_addShaft_90 : decode cX5_addShaft 90 = .ok (.goto (-44), 3) := by decide +kernel
theorem dX5_addShaft_93 : decode cX5_addShaft 93 = .ok (.aload_n 0, 1) := by decide +kernel
theorem dX5_addShaft_94 : decode cX5_addShaft 94 = .ok (.getfield 21, 3) := by decide +kernel
theorem dX5_addShaft_97 : decode cX5_addShaft 97 = .ok (.iload 4, 2) := by decide +kernel
theorem dX5_addShaft_99 : decode cX5_addShaft 99 = .ok (.aload_n 0, 1) := by decide +kernel
theorem dX5_addShaft_100 : decode cX5_addShaft 100 = .ok (.getfield 36, 3) := by decide +kernel
theorem dX5_addShaft_103 : decode cX5_addShaft 103 = .ok (.iastore, 1) := by decide +kernel
theorem dX5_addShaft_104 : decode cX5_addShaft 104 = .ok (.aload_n 0, 1) := by decide +kernel
theorem dX5_addShaft_105 : decode cX5_addShaft 105 = .ok (.dup, 1) := by decide +kernel
theorem dX5_addShaft_106 : decode cX5_addShaft 106 = .ok (.getfield 36, 3) := by decide +kernel
theorem dX5_addShaft_109 : decode cX5_addShaft 109 = .ok (.iconst 1, 1) := by decide +kernel
theorem dX5_addShaft_110 : decode cX5_addShaft 110 = .ok (.iadd, 1) := by decide +kernel
theorem dX5_addShaft_111 : decode cX5_addShaft 111 = .ok (.putfield 36, 3) := by decide +kernel
theorem dX5_addShaft_114 : decode cX5_addShaft 114 = .ok (.return_, 1) := by decide +kernel
theorem dX5_closesAfter_0 : decode cX5_closesAfter 0 = .ok (.aload_n 0, 1) := by decide +kernel
theorem dX5_closesAfter_1 : decode cX5_closesAfter 1 = .ok (.getfield 18, 3) := by decide +kernel
theorem dX5_closesAfter_4 : decode cX5_closesAfter 4 = .ok (.iload_n 1, 1) := by decide +kernel
theorem dX5_closesAfter_5 : decode cX5_closesAfter 5 = .ok (.iaload, 1) := by decide +kernel
theorem dX5_closesAfter_6 : decode cX5_closesAfter 6 = .ok (.aload_n 0, 1) := by decide +kernel
theorem dX5_closesAfter_7 : decode cX5_closesAfter 7 = .ok (.getfield 18, 3) := by decide +kernel
theorem dX5_closesAfter_10 : decode cX5_closesAfter 10 = .ok (.iload_n 2, 1) := by decide +kernel
theorem dX5_closesAfter_11 : decode cX5_closesAfter 11 = .ok (.iaload, 1) := by decide +kernel
theorem dX5_closesAfter_12 : decode cX5_closesAfter 12 = .ok (.if_icmp .gt 33, 3) := by decide +kernel
theorem dX5_closesAfter_15 : decode cX5_closesAfter 15 = .ok (.aload_n 0, 1) := by decide +kernel
theorem dX5_closesAfter_16 : decode cX5_closesAfter 16 = .ok (.getfield 18, 3) := by decide +kernel
theorem dX5_closesAfter_19 : decode cX5_closesAfter 19 = .ok (.iload_n 1, 1) := by decide +kernel
theorem dX5_closesAfter_20 : decode cX5_closesAfter 20 = .ok (.iaload, 1) := by decide +kernel
theorem dX5_closesAfter_21 : decode cX5_closesAfter 21 = .ok (.aload_n 0, 1) := by decide +kernel
theorem dX5_closesAfter_22 : decode cX5_closesAfter 22 = .ok (.getfield 18, 3) := by decide +kernel
theorem dX5_closesAfter_25 : decode cX5_closesAfter 25 = .ok (.iload_n 2, 1) := by decide +kernel
theorem dX5_closesAfter_26 : decode cX5_closesAfter 26 = .ok (.iaload, 1) := by decide +kernel
theorem dX5_closesAfter_27 : decode cX5_closesAfter 27 = .ok (.if_icmp .ne 22, 3) := by decide +kernel
theorem dX5_closesAfter_30 : decode cX5_closesAfter 30 = .ok (.aload_n 0, 1) := by decide +kernel
theorem dX5_closesAfter_31 : decode cX5_closesAfter 31 = .ok (.getfield 9, 3) := by decide +kernel
theorem dX5_closesAfter_34 : decode cX5_closesAfter 34 = .ok (.iload_n 1, 1) := by decide +kernel
theorem dX5_closesAfter_35 : decode cX5_closesAfter 35 = .ok (.iaload, 1) := by decide +kernel
theorem dX5_closesAfter_36 : decode cX5_closesAfter 36 = .ok (.aload_n 0, 1) := by decide +kernel
theorem dX5_closesAfter_37 : decode cX5_closesAfter 37 = .ok (.getfield 9, 3) := by decide +kernel
theorem dX5_closesAfter_40 : decode cX5_closesAfter 40 = .ok (.iload_n 2, 1) := by decide +kernel
theorem dX5_closesAfter_41 : decode cX5_closesAfter 41 = .ok (.iaload, 1) := by decide +kernel
theorem dX5_closesAfter_42 : decode cX5_closesAfter 42 = .ok (.if_icmp .le 7, 3) := by decide +kernel
theorem dX5_closesAfter_45 : decode cX5_closesAfter 45 = .ok (.iconst 1, 1) := by decide +kernel
theorem dX5_closesAfter_46 : decode cX5_closesAfter 46 = .ok (.goto 4, 3) := by decide +kernel
theorem dX5_closesAfter_49 : decode cX5_closesAfter 49 = .ok (.iconst 0, 1) := by decide +kernel
theorem dX5_closesAfter_50 : decode cX5_closesAfter 50 = .ok (.ireturn, 1) := by decide +kernel
theorem dX5_addBore_0 : decode cX5_addBore 0 = .ok (.aload_n 0, 1) := by decide +kernel
theorem dX5_addBore_1 : decode cX5_addBore 1 = .ok (.getfield 40, 3) := by decide +kernel
theorem dX5_addBore_4 : decode cX5_addBore 4 = .ok (.bipush 24, 2) := by decide +kernel
theorem dX5_addBore_6 : decode cX5_addBore 6 = .ok (.if_icmp .le 4, 3) := by decide +kernel
theorem dX5_addBore_9 : decode cX5_addBore 9 = .ok (.return_, 1) := by decide +kernel
theorem dX5_addBore_10 : decode cX5_addBore 10 = .ok (.aload_n 0, 1) := by decide +kernel
theorem dX5_addBore_11 : decode cX5_addBore 11 = .ok (.getfield 27, 3) := by decide +kernel
theorem dX5_addBore_14 : decode cX5_addBore 14 = .ok (.aload_n 0, 1) := by decide +kernel
theorem dX5_addBore_15 : decode cX5_addBore 15 = .ok (.getfield 40, 3) := by decide +kernel
theorem dX5_addBore_18 : decode cX5_addBore 18 = .ok (.iload_n 1, 1) := by decide +kernel
theorem dX5_addBore_19 : decode cX5_addBore 19 = .ok (.iastore, 1) := by decide +kernel
theorem dX5_addBore_20 : decode cX5_addBore 20 = .ok (.aload_n 0, 1) := by decide +kernel
theorem dX5_addBore_21 : decode cX5_addBore 21 = .ok (.getfield 40, 3) := by decide +kernel
theorem dX5_addBore_24 : decode cX5_addBore 24 = .ok (.istore_n 2, 1) := by decide +kernel
theorem dX5_addBore_25 : decode cX5_addBore 25 = .ok (.iload_n 2, 1) := by decide +kernel
theorem dX5_addBore_26 : decode cX5_addBore 26 = .ok (.ifCond .le 40, 3) := by decide +kernel
theorem dX5_addBore_29 : decode cX5_addBore 29 = .ok (.aload_n 0, 1) := by decide +kernel
theorem dX5_addBore_30 : decode cX5_addBore 30 = .ok (.getfield 27, 3) := by decide +kernel
theorem dX5_addBore_33 : decode cX5_addBore 33 = .ok (.aload_n 0, 1) := by decide +kernel
theorem dX5_addBore_34 : decode cX5_addBore 34 = .ok (.getfield 30, 3) := by decide +kernel
theorem dX5_addBore_37 : decode cX5_addBore 37 = .ok (.iload_n 2, 1) := by decide +kernel
theorem dX5_addBore_38 : decode cX5_addBore 38 = .ok (.iconst 1, 1) := by decide +kernel
theorem dX5_addBore_39 : decode cX5_addBore 39 = .ok (.isub, 1) := by decide +kernel
theorem dX5_addBore_40 : decode cX5_addBore 40 = .ok (.iaload, 1) := by decide +kernel
theorem dX5_addBore_41 : decode cX5_addBore 41 = .ok (.iaload, 1) := by decide +kernel
theorem dX5_addBore_42 : decode cX5_addBore 42 = .ok (.iload_n 1, 1) := by decide +kernel
theorem dX5_addBore_43 : decode cX5_addBore 43 = .ok (.if_icmp .le 23, 3) := by decide +kernel
theorem dX5_addBore_46 : decode cX5_addBore 46 = .ok (.aload_n 0, 1) := by decide +kernel
theorem dX5_addBore_47 : decode cX5_addBore 47 = .ok (.getfield 30, 3) := by decide +kernel
theorem dX5_addBore_50 : decode cX5_addBore 50 = .ok (.iload_n 2, 1) := by decide +kernel
theorem dX5_addBore_51 : decode cX5_addBore 51 = .ok (.aload_n 0, 1) := by decide +kernel
theorem dX5_addBore_52 : decode cX5_addBore 52 = .ok (.getfield 30, 3) := by decide +kernel
theorem dX5_addBore_55 : decode cX5_addBore 55 = .ok (.iload_n 2, 1) := by decide +kernel
theorem dX5_addBore_56 : decode cX5_addBore 56 = .ok (.iconst 1, 1) := by decide +kernel
theorem dX5_addBore_57 : decode cX5_addBore 57 = .ok (.isub, 1) := by decide +kernel
theorem dX5_addBore_58 : decode cX5_addBore 58 = .ok (.iaload, 1) := by decide +kernel
theorem dX5_addBore_59 : decode cX5_addBore 59 = .ok (.iastore, 1) := by decide +kernel
theorem dX5_addBore_60 : decode cX5_addBore 60 = .ok (.iinc 2 (-1), 3) := by decide +kernel
theorem dX5_addBore_63 : decode cX5_addBore 63 = .ok (.goto (-38), 3) := by decide +kernel
theorem dX5_addBore_66 : decode cX5_addBore 66 = .ok (.aload_n 0, 1) := by decide +kernel
theorem dX5_addBore_67 : decode cX5_addBore 67 = .ok (.getfield 30, 3) := by decide +kernel
theorem dX5_addBore_70 : decode cX5_addBore 70 = .ok (.iload_n 2, 1) := by decide +kernel
theorem dX5_addBore_71 : decode cX5_addBore 71 = .ok (.aload_n 0, 1) := by decide +kernel
theorem dX5_addBore_72 : decode cX5_addBore 72 = .ok (.getfield 40, 3) := by decide +kernel
theorem dX5_addBore_75 : decode cX5_addBore 75 = .ok (.iastore, 1) := by decide +kernel
theorem dX5_addBore_76 : decode cX5_addBore 76 = .ok (.aload_n 0, 1) := by decide +kernel
theorem dX5_addBore_77 : decode cX5_addBore 77 = .ok (.dup, 1) := by decide +kernel
theorem dX5_addBore_78 : decode cX5_addBore 78 = .ok (.getfield 40, 3) := by decide +kernel
theorem dX5_addBore_81 : decode cX5_addBore 81 = .ok (.iconst 1, 1) := by decide +kernel
theorem dX5_addBore_82 : decode cX5_addBore 82 = .ok (.iadd, 1) := by decide +kernel
theorem dX5_addBore_83 : decode cX5_addBore 83 = .ok (.putfield 40, 3) := by decide +kernel
theorem dX5_addBore_86 : decode cX5_addBore 86 = .ok (.return_, 1) := by decide +kernel
theorem dX5_dropLatestBore_0 : decode cX5_dropLatestBore 0 = .ok (.aload_n 0, 1) := by decide +kernel
theorem dX5_dropLatestBore_1 : decode cX5_dropLatestBore 1 = .ok (.dup, 1) := by decide +kernel
theorem dX5_dropLatestBore_2 : decode cX5_dropLatestBore 2 = .ok (.getfield 40, 3) := by decide +kernel
theorem dX5_dropLatestBore_5 : decode cX5_dropLatestBore 5 = .ok (.iconst 1, 1) := by decide +kernel
theorem dX5_dropLatestBore_6 : decode cX5_dropLatestBore 6 = .ok (.isub, 1) := by decide +kernel
theorem dX5_dropLatestBore_7 : decode cX5_dropLatestBore 7 = .ok (.putfield 40, 3) := by decide +kernel
theorem dX5_dropLatestBore_10 : decode cX5_dropLatestBore 10 = .ok (.iconst 0, 1) := by decide +kernel
theorem dX5_dropLatestBore_11 : decode cX5_dropLatestBore 11 = .ok (.istore_n 1, 1) := by decide +kernel
theorem dX5_dropLatestBore_12 : decode cX5_dropLatestBore 12 = .ok (.iconst 0, 1) := by decide +kernel
theorem dX5_dropLatestBore_13 : decode cX5_dropLatestBore 13 = .ok (.istore_n 2, 1) := by decide +kernel
theorem dX5_dropLatestBore_14 : decode cX5_dropLatestBore 14 = .ok (.iload_n 2, 1) := by decide +kernel
theorem dX5_dropLatestBore_15 : decode cX5_dropLatestBore 15 = .ok (.aload_n 0, 1) := by decide +kernel
theorem dX5_dropLatestBore_16 : decode cX5_dropLatestBore 16 = .ok (.getfield 40, 3) := by decide +kernel
theorem dX5_dropLatestBore_19 : decode cX5_dropLatestBore 19 = .ok (.if_icmp .gt 37, 3) := by decide +kernel
theorem dX5_dropLatestBore_22 : decode cX5_dropLatestBore 22 = .ok (.aload_n 0, 1) := by decide +kernel
theorem dX5_dropLatestBore_23 : decode cX5_dropLatestBore 23 = .ok (.getfield 30, 3) := by decide +kernel
theorem dX5_dropLatestBore_26 : decode cX5_dropLatestBore 26 = .ok (.iload_n 2, 1) := by decide +kernel
theorem dX5_dropLatestBore_27 : decode cX5_dropLatestBore 27 = .ok (.iaload, 1) := by decide +kernel
theorem dX5_dropLatestBore_28 : decode cX5_dropLatestBore 28 = .ok (.aload_n 0, 1) := by decide +kernel
theorem dX5_dropLatestBore_29 : decode cX5_dropLatestBore 29 = .ok (.getfield 40, 3) := by decide +kernel
theorem dX5_dropLatestBore_32 : decode cX5_dropLatestBore 32 = .ok (.if_icmp .eq 18, 3) := by decide +kernel
theorem dX5_dropLatestBore_35 : decode cX5_dropLatestBore 35 = .ok (.aload_n 0, 1) := by decide +kernel
theorem dX5_dropLatestBore_36 : decode cX5_dropLatestBore 36 = .ok (.getfield 30, 3) := by decide +kernel
theorem dX5_dropLatestBore_39 : decode cX5_dropLatestBore 39 = .ok (.iload_n 1, 1) := by decide +kernel
theorem dX5_dropLatestBore_40 : decode cX5_dropLatestBore 40 = .ok (.aload_n 0, 1) := by decide +kernel
theorem dX5_dropLatestBore_41 : decode cX5_dropLatestBore 41 = .ok (.getfield 30, 3) := by decide +kernel
theorem dX5_dropLatestBore_44 : decode cX5_dropLatestBore 44 = .ok (.iload_n 2, 1) := by decide +kernel
theorem dX5_dropLatestBore_45 : decode cX5_dropLatestBore 45 = .ok (.iaload, 1) := by decide +kernel
theorem dX5_dropLatestBore_46 : decode cX5_dropLatestBore 46 = .ok (.iastore, 1) := by decide +kernel
theorem dX5_dropLatestBore_47 : decode cX5_dropLatestBore 47 = .ok (.iinc 1 1, 3) := by decide +kernel
theorem dX5_dropLatestBore_50 : decode cX5_dropLatestBore 50 = .ok (.iinc 2 1, 3) := by decide +kernel
theorem dX5_dropLatestBore_53 : decode cX5_dropLatestBore 53 = .ok (.goto (-39), 3) := by decide +kernel
theorem dX5_dropLatestBore_56 : decode cX5_dropLatestBore 56 = .ok (.return_, 1) := by decide +kernel
theorem dX5_pair_0 : decode cX5_pair 0 = .ok (.iconst 0, 1) := by decide +kernel
theorem dX5_pair_1 : decode cX5_pair 1 = .ok (.istore_n 2, 1) := by decide +kernel
theorem dX5_pair_2 : decode cX5_pair 2 = .ok (.iload_n 2, 1) := by decide +kernel
theorem dX5_pair_3 : decode cX5_pair 3 = .ok (.aload_n 0, 1) := by decide +kernel
theorem dX5_pair_4 : decode cX5_pair 4 = .ok (.getfield 36, 3) := by decide +kernel
theorem dX5_pair_7 : decode cX5_pair 7 = .ok (.if_icmp .ge 16, 3) := by decide +kernel
theorem dX5_pair_10 : decode cX5_pair 10 = .ok (.aload_n 0, 1) := by decide +kernel
theorem dX5_pair_11 : decode cX5_pair 11 = .ok (.getfield 24, 3) := by decide +kernel
theorem dX5_pair_14 : decode cX5_pair 14 = .ok (.iload_n 2, 1) := by decide +kernel
theorem dX5_pair_15 : decode cX5_pair 15 = .ok (.iconst (-1), 1) := by decide +kernel
theorem dX5_pair_16 : decode cX5_pair 16 = .ok (.iastore, 1) := by decide +kernel
theorem dX5_pair_17 : decode cX5_pair 17 = .ok (.iinc 2 1, 3) := by decide +kernel
theorem dX5_pair_20 : decode cX5_pair 20 = .ok (.goto (-18), 3) := by decide +kernel
theorem dX5_pair_23 : decode cX5_pair 23 = .ok (.iconst 0, 1) := by decide +kernel
theorem dX5_pair_24 : decode cX5_pair 24 = .ok (.istore_n 2, 1) := by decide +kernel
theorem dX5_pair_25 : decode cX5_pair 25 = .ok (.iconst 0, 1) := by decide +kernel
theorem dX5_pair_26 : decode cX5_pair 26 = .ok (.istore_n 3, 1) := by decide +kernel
theorem dX5_pair_27 : decode cX5_pair 27 = .ok (.iload_n 3, 1) := by decide +kernel
theorem dX5_pair_28 : decode cX5_pair 28 = .ok (.aload_n 0, 1) := by decide +kernel
theorem dX5_pair_29 : decode cX5_pair 29 = .ok (.getfield 40, 3) := by decide +kernel
theorem dX5_pair_32 : decode cX5_pair 32 = .ok (.if_icmp .ge 58, 3) := by decide +kernel
theorem dX5_pair_35 : decode cX5_pair 35 = .ok (.aload_n 0, 1) := by decide +kernel
theorem dX5_pair_36 : decode cX5_pair 36 = .ok (.getfield 30, 3) := by decide +kernel
theorem dX5_pair_39 : decode cX5_pair 39 = .ok (.iload_n 3, 1) := by decide +kernel
theorem dX5_pair_40 : decode cX5_pair 40 = .ok (.iaload, 1) := by decide +kernel
theorem dX5_pair_41 : decode cX5_pair 41 = .ok (.istore 4, 2) := by decide +kernel
theorem dX5_pair_43 : decode cX5_pair 43 = .ok (.aload_n 0, 1) := by decide +kernel
theorem dX5_pair_44 : decode cX5_pair 44 = .ok (.aload_n 0, 1) := by decide +kernel
theorem dX5_pair_45 : decode cX5_pair 45 = .ok (.getfield 27, 3) := by decide +kernel
theorem dX5_pair_48 : decode cX5_pair 48 = .ok (.iload 4, 2) := by decide +kernel
theorem dX5_pair_50 : decode cX5_pair 50 = .ok (.iaload, 1) := by decide +kernel
theorem dX5_pair_51 : decode cX5_pair 51 = .ok (.iload_n 1, 1) := by decide +kernel
theorem dX5_pair_52 : decode cX5_pair 52 = .ok (.invokevirtual 75, 3) := by decide +kernel
theorem dX5_pair_55 : decode cX5_pair 55 = .ok (.istore 5, 2) := by decide +kernel
theorem dX5_pair_57 : decode cX5_pair 57 = .ok (.aload_n 0, 1) := by decide +kernel
theorem dX5_pair_58 : decode cX5_pair 58 = .ok (.getfield 33, 3) := by decide +kernel
theorem dX5_pair_61 : decode cX5_pair 61 = .ok (.iload 4, 2) := by decide +kernel
theorem dX5_pair_63 : decode cX5_pair 63 = .ok (.iload 5, 2) := by decide +kernel
theorem dX5_pair_65 : decode cX5_pair 65 = .ok (.iastore, 1) := by decide +kernel
theorem dX5_pair_66 : decode cX5_pair 66 = .ok (.iload 5, 2) := by decide +kernel
theorem dX5_pair_68 : decode cX5_pair 68 = .ok (.iconst (-1), 1) := by decide +kernel
theorem dX5_pair_69 : decode cX5_pair 69 = .ok (.if_icmp .eq 15, 3) := by decide +kernel
theorem dX5_pair_72 : decode cX5_pair 72 = .ok (.aload_n 0, 1) := by decide +kernel
theorem dX5_pair_73 : decode cX5_pair 73 = .ok (.getfield 24, 3) := by decide +kernel
theorem dX5_pair_76 : decode cX5_pair 76 = .ok (.iload 5, 2) := by decide +kernel
theorem dX5_pair_78 : decode cX5_pair 78 = .ok (.iload 4, 2) := by decide +kernel
theorem dX5_pair_80 : decode cX5_pair 80 = .ok (.iastore, 1) := by decide +kernel
theorem dX5_pair_81 : decode cX5_pair 81 = .ok (.iinc 2 1, 3) := by decide +kernel
theorem dX5_pair_84 : decode cX5_pair 84 = .ok (.iinc 3 1, 3) := by decide +kernel
theorem dX5_pair_87 : decode cX5_pair 87 = .ok (.goto (-60), 3) := by decide +kernel
theorem dX5_pair_90 : decode cX5_pair 90 = .ok (.iload_n 2, 1) := by decide +kernel
theorem dX5_pair_91 : decode cX5_pair 91 = .ok (.ireturn, 1) := by decide +kernel
theorem dX5_firstToClose_0 : decode cX5_firstToClose 0 = .ok (.iconst 0, 1) := by decide +kernel
theorem dX5_firstToClose_1 : decode cX5_firstToClose 1 = .ok (.istore_n 3, 1) := by decide +kernel
theorem dX5_firstToClose_2 : decode cX5_firstToClose 2 = .ok (.iload_n 3, 1) := by decide +kernel
theorem dX5_firstToClose_3 : decode cX5_firstToClose 3 = .ok (.aload_n 0, 1) := by decide +kernel
theorem dX5_firstToClose_4 : decode cX5_firstToClose 4 = .ok (.getfield 36, 3) := by decide +kernel
theorem dX5_firstToClose_7 : decode cX5_firstToClose 7 = .ok (.if_icmp .ge 57, 3) := by decide +kernel
theorem dX5_firstToClose_10 : decode cX5_firstToClose 10 = .ok (.aload_n 0, 1) := by decide +kernel
theorem dX5_firstToClose_11 : decode cX5_firstToClose 11 = .ok (.getfield 21, 3) := by decide +kernel
theorem dX5_firstToClose_14 : decode cX5_firstToClose 14 = .ok (.iload_n 3, 1) := by decide +kernel
theorem dX5_firstToClose_15 : decode cX5_firstToClose 15 = .ok (.iaload, 1) := by decide +kernel
theorem dX5_firstToClose_16 : decode cX5_firstToClose 16 = .ok (.istore 4, 2) := by decide +kernel
theorem dX5_firstToClose_18 : decode cX5_firstToClose 18 = .ok (.aload_n 0, 1) := by decide +kernel
theorem dX5_firstToClose_19 : decode cX5_firstToClose 19 = .ok (.getfield 24, 3) := by decide +kernel
theorem dX5_firstToClose_22 : decode cX5_firstToClose 22 = .ok (.iload 4, 2) := by decide +kernel
theorem dX5_firstToClose_24 : decode cX5_firstToClose 24 = .ok (.iaload, 1) := by decide +kernel
theorem dX5_firstToClose_25 : decode cX5_firstToClose 25 = .ok (.iconst (-1), 1) := by decide +kernel
theorem dX5_firstToClose_26 : decode cX5_firstToClose 26 = .ok (.if_icmp .ne 32, 3) := by decide +kernel
theorem dX5_firstToClose_29 : decode cX5_firstToClose 29 = .ok (.aload_n 0, 1) := by decide +kernel
theorem dX5_firstToClose_30 : decode cX5_firstToClose 30 = .ok (.getfield 15, 3) := by decide +kernel
theorem dX5_firstToClose_33 : decode cX5_firstToClose 33 = .ok (.iload 4, 2) := by decide +kernel
theorem dX5_firstToClose_35 : decode cX5_firstToClose 35 = .ok (.iaload, 1) := by decide +kernel
theorem dX5_firstToClose_36 : decode cX5_firstToClose 36 = .ok (.iload_n 2, 1) := by decide +kernel
theorem dX5_firstToClose_37 : decode cX5_firstToClose 37 = .ok (.isub, 1) := by decide +kernel
theorem dX5_firstToClose_38 : decode cX5_firstToClose 38 = .ok (.iload_n 1, 1) := by decide +kernel
theorem dX5_firstToClose_39 : decode cX5_firstToClose 39 = .ok (.if_icmp .gt 19, 3) := by decide +kernel
theorem dX5_firstToClose_42 : decode cX5_firstToClose 42 = .ok (.iload_n 1, 1) := by decide +kernel
theorem dX5_firstToClose_43 : decode cX5_firstToClose 43 = .ok (.aload_n 0, 1) := by decide +kernel
theorem dX5_firstToClose_44 : decode cX5_firstToClose 44 = .ok (.getfield 18, 3) := by decide +kernel
theorem dX5_firstToClose_47 : decode cX5_firstToClose 47 = .ok (.iload 4, 2) := by decide +kernel
theorem dX5_firstToClose_49 : decode cX5_firstToClose 49 = .ok (.iaload, 1) := by decide +kernel
theorem dX5_firstToClose_50 : decode cX5_firstToClose 50 = .ok (.iload_n 2, 1) := by decide +kernel
theorem dX5_firstToClose_51 : decode cX5_firstToClose 51 = .ok (.iadd, 1) := by decide +kernel
theorem dX5_firstToClose_52 : decode cX5_firstToClose 52 = .ok (.if_icmp .gt 6, 3) := by decide +kernel
theorem dX5_firstToClose_55 : decode cX5_firstToClose 55 = .ok (.iload 4, 2) := by decide +kernel
theorem dX5_firstToClose_57 : decode cX5_firstToClose 57 = .ok (.ireturn, 1) := by decide +kernel
theorem dX5_firstToClose_58 : decode cX5_firstToClose 58 = .ok (.iinc 3 1, 3) := by decide +kernel
theorem dX5_firstToClose_61 : decode cX5_firstToClose 61 = .ok (.goto (-59), 3) := by decide +kernel
theorem dX5_firstToClose_64 : decode cX5_firstToClose 64 = .ok (.iconst (-1), 1) := by decide +kernel
theorem dX5_firstToClose_65 : decode cX5_firstToClose 65 = .ok (.ireturn, 1) := by decide +kernel
theorem dX5_leastPlay_0 : decode cX5_leastPlay 0 = .ok (.iconst (-1), 1) := by decide +kernel
theorem dX5_leastPlay_1 : decode cX5_leastPlay 1 = .ok (.istore_n 1, 1) := by decide +kernel
theorem dX5_leastPlay_2 : decode cX5_leastPlay 2 = .ok (.iconst 0, 1) := by decide +kernel
theorem dX5_leastPlay_3 : decode cX5_leastPlay 3 = .ok (.istore_n 2, 1) := by decide +kernel
theorem dX5_leastPlay_4 : decode cX5_leastPlay 4 = .ok (.iload_n 2, 1) := by decide +kernel
theorem dX5_leastPlay_5 : decode cX5_leastPlay 5 = .ok (.aload_n 0, 1) := by decide +kernel
theorem dX5_leastPlay_6 : decode cX5_leastPlay 6 = .ok (.getfield 36, 3) := by decide +kernel
theorem dX5_leastPlay_9 : decode cX5_leastPlay 9 = .ok (.if_icmp .ge 39, 3) := by decide +kernel
theorem dX5_leastPlay_12 : decode cX5_leastPlay 12 = .ok (.aload_n 0, 1) := by decide +kernel
theorem dX5_leastPlay_13 : decode cX5_leastPlay 13 = .ok (.getfield 24, 3) := by decide +kernel
theorem dX5_leastPlay_16 : decode cX5_leastPlay 16 = .ok (.iload_n 2, 1) := by decide +kernel
theorem dX5_leastPlay_17 : decode cX5_leastPlay 17 = .ok (.iaload, 1) := by decide +kernel
theorem dX5_leastPlay_18 : decode cX5_leastPlay 18 = .ok (.iconst (-1), 1) := by decide +kernel
theorem dX5_leastPlay_19 : decode cX5_leastPlay 19 = .ok (.if_icmp .eq 23, 3) := by decide +kernel
theorem dX5_leastPlay_22 : decode cX5_leastPlay 22 = .ok (.iload_n 1, 1) := by decide +kernel
theorem dX5_leastPlay_23 : decode cX5_leastPlay 23 = .ok (.iconst (-1), 1) := by decide +kernel
theorem dX5_leastPlay_24 : decode cX5_leastPlay 24 = .ok (.if_icmp .eq 12, 3) := by decide +kernel
theorem dX5_leastPlay_27 : decode cX5_leastPlay 27 = .ok (.aload_n 0, 1) := by decide +kernel
theorem dX5_leastPlay_28 : decode cX5_leastPlay 28 = .ok (.iload_n 2, 1) := by decide +kernel
theorem dX5_leastPlay_29 : decode cX5_leastPlay 29 = .ok (.invokevirtual 79, 3) := by decide +kernel
theorem dX5_leastPlay_32 : decode cX5_leastPlay 32 = .ok (.iload_n 1, 1) := by decide +kernel
theorem dX5_leastPlay_33 : decode cX5_leastPlay 33 = .ok (.if_icmp .ge 9, 3) := by decide +kernel
theorem dX5_leastPlay_36 : decode cX5_leastPlay 36 = .ok (.aload_n 0, 1) := by decide +kernel
theorem dX5_leastPlay_37 : decode cX5_leastPlay 37 = .ok (.iload_n 2, 1) := by decide +kernel
theorem dX5_leastPlay_38 : decode cX5_leastPlay 38 = .ok (.invokevirtual 79, 3) := by decide +kernel
theorem dX5_leastPlay_41 : decode cX5_leastPlay 41 = .ok (.istore_n 1, 1) := by decide +kernel
theorem dX5_leastPlay_42 : decode cX5_leastPlay 42 = .ok (.iinc 2 1, 3) := by decide +kernel
theorem dX5_leastPlay_45 : decode cX5_leastPlay 45 = .ok (.goto (-41), 3) := by decide +kernel
theorem dX5_leastPlay_48 : decode cX5_leastPlay 48 = .ok (.iload_n 1, 1) := by decide +kernel
theorem dX5_leastPlay_49 : decode cX5_leastPlay 49 = .ok (.ireturn, 1) := by decide +kernel
theorem dX5_greatestPlay_0 : decode cX5_greatestPlay 0 = .ok (.iconst (-1), 1) := by decide +kernel
theorem dX5_greatestPlay_1 : decode cX5_greatestPlay 1 = .ok (.istore_n 1, 1) := by decide +kernel
theorem dX5_greatestPlay_2 : decode cX5_greatestPlay 2 = .ok (.iconst 0, 1) := by decide +kernel
theorem dX5_greatestPlay_3 : decode cX5_greatestPlay 3 = .ok (.istore_n 2, 1) := by decide +kernel
theorem dX5_greatestPlay_4 : decode cX5_greatestPlay 4 = .ok (.iload_n 2, 1) := by decide +kernel
theorem dX5_greatestPlay_5 : decode cX5_greatestPlay 5 = .ok (.aload_n 0, 1) := by decide +kernel
theorem dX5_greatestPlay_6 : decode cX5_greatestPlay 6 = .ok (.getfield 36, 3) := by decide +kernel
theorem dX5_greatestPlay_9 : decode cX5_greatestPlay 9 = .ok (.if_icmp .ge 34, 3) := by decide +kernel
theorem dX5_greatestPlay_12 : decode cX5_greatestPlay 12 = .ok (.aload_n 0, 1) := by decide +kernel
theorem dX5_greatestPlay_13 : decode cX5_greatestPlay 13 = .ok (.getfield 24, 3) := by decide +kernel
theorem dX5_greatestPlay_16 : decode cX5_greatestPlay 16 = .ok (.iload_n 2, 1) := by decide +kernel
theorem dX5_greatestPlay_17 : decode cX5_greatestPlay 17 = .ok (.iaload, 1) := by decide +kernel
theorem dX5_greatestPlay_18 : decode cX5_greatestPlay 18 = .ok (.iconst (-1), 1) := by decide +kernel
theorem dX5_greatestPlay_19 : decode cX5_greatestPlay 19 = .ok (.if_icmp .eq 18, 3) := by decide +kernel
theorem dX5_greatestPlay_22 : decode cX5_greatestPlay 22 = .ok (.aload_n 0, 1) := by decide +kernel
theorem dX5_greatestPlay_23 : decode cX5_greatestPlay 23 = .ok (.iload_n 2, 1) := by decide +kernel
theorem dX5_greatestPlay_24 : decode cX5_greatestPlay 24 = .ok (.invokevirtual 79, 3) := by decide +kernel
theorem dX5_greatestPlay_27 : decode cX5_greatestPlay 27 = .ok (.iload_n 1, 1) := by decide +kernel
theorem dX5_greatestPlay_28 : decode cX5_greatestPlay 28 = .ok (.if_icmp .le 9, 3) := by decide +kernel
theorem dX5_greatestPlay_31 : decode cX5_greatestPlay 31 = .ok (.aload_n 0, 1) := by decide +kernel
theorem dX5_greatestPlay_32 : decode cX5_greatestPlay 32 = .ok (.iload_n 2, 1) := by decide +kernel
theorem dX5_greatestPlay_33 : decode cX5_greatestPlay 33 = .ok (.invokevirtual 79, 3) := by decide +kernel
theorem dX5_greatestPlay_36 : decode cX5_greatestPlay 36 = .ok (.istore_n 1, 1) := by decide +kernel
theorem dX5_greatestPlay_37 : decode cX5_greatestPlay 37 = .ok (.iinc 2 1, 3) := by decide +kernel
theorem dX5_greatestPlay_40 : decode cX5_greatestPlay 40 = .ok (.goto (-36), 3) := by decide +kernel
theorem dX5_greatestPlay_43 : decode cX5_greatestPlay 43 = .ok (.iload_n 1, 1) := by decide +kernel
theorem dX5_greatestPlay_44 : decode cX5_greatestPlay 44 = .ok (.ireturn, 1) := by decide +kernel
theorem dX5_playOf_0 : decode cX5_playOf 0 = .ok (.aload_n 0, 1) := by decide +kernel
theorem dX5_playOf_1 : decode cX5_playOf 1 = .ok (.getfield 27, 3) := by decide +kernel
theorem dX5_playOf_4 : decode cX5_playOf 4 = .ok (.aload_n 0, 1) := by decide +kernel
theorem dX5_playOf_5 : decode cX5_playOf 5 = .ok (.getfield 24, 3) := by decide +kernel
theorem dX5_playOf_8 : decode cX5_playOf 8 = .ok (.iload_n 1, 1) := by decide +kernel
theorem dX5_playOf_9 : decode cX5_playOf 9 = .ok (.iaload, 1) := by decide +kernel
theorem dX5_playOf_10 : decode cX5_playOf 10 = .ok (.iaload, 1) := by decide +kernel
theorem dX5_playOf_11 : decode cX5_playOf 11 = .ok (.aload_n 0, 1) := by decide +kernel
theorem dX5_playOf_12 : decode cX5_playOf 12 = .ok (.getfield 9, 3) := by decide +kernel
theorem dX5_playOf_15 : decode cX5_playOf 15 = .ok (.iload_n 1, 1) := by decide +kernel
theorem dX5_playOf_16 : decode cX5_playOf 16 = .ok (.iaload, 1) := by decide +kernel
theorem dX5_playOf_17 : decode cX5_playOf 17 = .ok (.isub, 1) := by decide +kernel
theorem dX5_playOf_18 : decode cX5_playOf 18 = .ok (.ireturn, 1) := by decide +kernel
theorem dX5_ease_0 : decode cX5_ease 0 = .ok (.iconst (-1), 1) := by decide +kernel
theorem dX5_ease_1 : decode cX5_ease 1 = .ok (.istore_n 1, 1) := by decide +kernel
theorem dX5_ease_2 : decode cX5_ease 2 = .ok (.sipush 512, 3) := by decide +kernel
theorem dX5_ease_5 : decode cX5_ease 5 = .ok (.istore_n 2, 1) := by decide +kernel
theorem dX5_ease_6 : decode cX5_ease 6 = .ok (.iload_n 2, 1) := by decide +kernel
theorem dX5_ease_7 : decode cX5_ease 7 = .ok (.ifCond .le 35, 3) := by decide +kernel
theorem dX5_ease_10 : decode cX5_ease 10 = .ok (.iload_n 1, 1) := by decide +kernel
theorem dX5_ease_11 : decode cX5_ease 11 = .ok (.iload_n 2, 1) := by decide +kernel
theorem dX5_ease_12 : decode cX5_ease 12 = .ok (.iadd, 1) := by decide +kernel
theorem dX5_ease_13 : decode cX5_ease 13 = .ok (.istore_n 3, 1) := by decide +kernel
theorem dX5_ease_14 : decode cX5_ease 14 = .ok (.iload_n 3, 1) := by decide +kernel
theorem dX5_ease_15 : decode cX5_ease 15 = .ok (.sipush 1000, 3) := by decide +kernel
theorem dX5_ease_18 : decode cX5_ease 18 = .ok (.if_icmp .ge 17, 3) := by decide +kernel
theorem dX5_ease_21 : decode cX5_ease 21 = .ok (.aload_n 0, 1) := by decide +kernel
theorem dX5_ease_22 : decode cX5_ease 22 = .ok (.iload_n 3, 1) := by decide +kernel
theorem dX5_ease_23 : decode cX5_ease 23 = .ok (.invokevirtual 82, 3) := by decide +kernel
theorem dX5_ease_26 : decode cX5_ease 26 = .ok (.aload_n 0, 1) := by decide +kernel
theorem dX5_ease_27 : decode cX5_ease 27 = .ok (.getfield 36, 3) := by decide +kernel
theorem dX5_ease_30 : decode cX5_ease 30 = .ok (.if_icmp .ge 5, 3) := by decide +kernel
theorem dX5_ease_33 : decode cX5_ease 33 = .ok (.iload_n 3, 1) := by decide +kernel
theorem dX5_ease_34 : decode cX5_ease 34 = .ok (.istore_n 1, 1) := by decide +kernel
theorem dX5_ease_35 : decode cX5_ease 35 = .ok (.iload_n 2, 1) := by decide +kernel
theorem dX5_ease_36 : decode cX5_ease 36 = .ok (.iconst 2, 1) := by decide +kernel
theorem dX5_ease_37 : decode cX5_ease 37 = .ok (.idiv, 1) := by decide +kernel
theorem dX5_ease_38 : decode cX5_ease 38 = .ok (.istore_n 2, 1) := by decide +kernel
theorem dX5_ease_39 : decode cX5_ease 39 = .ok (.goto (-33), 3) := by decide +kernel
theorem dX5_ease_42 : decode cX5_ease 42 = .ok (.iload_n 1, 1) := by decide +kernel
theorem dX5_ease_43 : decode cX5_ease 43 = .ok (.iconst 1, 1) := by decide +kernel
theorem dX5_ease_44 : decode cX5_ease 44 = .ok (.iadd, 1) := by decide +kernel
theorem dX5_ease_45 : decode cX5_ease 45 = .ok (.sipush 1000, 3) := by decide +kernel
theorem dX5_ease_48 : decode cX5_ease 48 = .ok (.if_icmp .ge 9, 3) := by decide +kernel
theorem dX5_ease_51 : decode cX5_ease 51 = .ok (.iload_n 1, 1) := by decide +kernel
theorem dX5_ease_52 : decode cX5_ease 52 = .ok (.iconst 1, 1) := by decide +kernel
theorem dX5_ease_53 : decode cX5_ease 53 = .ok (.iadd, 1) := by decide +kernel
theorem dX5_ease_54 : decode cX5_ease 54 = .ok (.goto 4, 3) := by decide +kernel
theorem dX5_ease_57 : decode cX5_ease 57 = .ok (.iconst (-1), 1) := by decide +kernel
theorem dX5_ease_58 : decode cX5_ease 58 = .ok (.ireturn, 1) := by decide +kernel
theorem dX5_sizeOfOneMore_0 : decode cX5_sizeOfOneMore 0 = .ok (.aload_n 0, 1) := by decide +kernel
theorem dX5_sizeOfOneMore_1 : decode cX5_sizeOfOneMore 1 = .ok (.iconst 0, 1) := by decide +kernel
theorem dX5_sizeOfOneMore_2 : decode cX5_sizeOfOneMore 2 = .ok (.invokevirtual 82, 3) := by decide +kernel
theorem dX5_sizeOfOneMore_5 : decode cX5_sizeOfOneMore 5 = .ok (.istore_n 1, 1) := by decide +kernel
theorem dX5_sizeOfOneMore_6 : decode cX5_sizeOfOneMore 6 = .ok (.iconst (-1), 1) := by decide +kernel
theorem dX5_sizeOfOneMore_7 : decode cX5_sizeOfOneMore 7 = .ok (.istore_n 2, 1) := by decide +kernel
theorem dX5_sizeOfOneMore_8 : decode cX5_sizeOfOneMore 8 = .ok (.iload_n 1, 1) := by decide +kernel
theorem dX5_sizeOfOneMore_9 : decode cX5_sizeOfOneMore 9 = .ok (.aload_n 0, 1) := by decide +kernel
theorem dX5_sizeOfOneMore_10 : decode cX5_sizeOfOneMore 10 = .ok (.getfield 36, 3) := by decide +kernel
theorem dX5_sizeOfOneMore_13 : decode cX5_sizeOfOneMore 13 = .ok (.if_icmp .ne 5, 3) := by decide +kernel
theorem dX5_sizeOfOneMore_16 : decode cX5_sizeOfOneMore 16 = .ok (.iconst (-1), 1) := by decide +kernel
theorem dX5_sizeOfOneMore_17 : decode cX5_sizeOfOneMore 17 = .ok (.ireturn, 1) := by decide +kernel
theorem dX5_sizeOfOneMore_18 : decode cX5_sizeOfOneMore 18 = .ok (.iconst 0, 1) := by decide +kernel
theorem dX5_sizeOfOneMore_19 : decode cX5_sizeOfOneMore 19 = .ok (.istore_n 3, 1) := by decide +kernel
theorem dX5_sizeOfOneMore_20 : decode cX5_sizeOfOneMore 20 = .ok (.iload_n 3, 1) := by decide +kernel
theorem dX5_sizeOfOneMore_21 : decode cX5_sizeOfOneMore 21 = .ok (.aload_n 0, 1) := by decide +kernel
theorem dX5_sizeOfOneMore_22 : decode cX5_sizeOfOneMore 22 = .ok (.getfield 36, 3) := by decide +kernel
theorem dX5_sizeOfOneMore_25 : decode cX5_sizeOfOneMore 25 = .ok (.if_icmp .ge 69, 3) := by decide +kernel
theorem dX5_sizeOfOneMore_28 : decode cX5_sizeOfOneMore 28 = .ok (.aload_n 0, 1) := by decide +kernel
theorem dX5_sizeOfOneMore_29 : decode cX5_sizeOfOneMore 29 = .ok (.getfield 15, 3) := by decide +kernel
theorem dX5_sizeOfOneMore_32 : decode cX5_sizeOfOneMore 32 = .ok (.iload_n 3, 1) := by decide +kernel
theorem dX5_sizeOfOneMore_33 : decode cX5_sizeOfOneMore 33 = .ok (.iaload, 1) := by decide +kernel
theorem dX5_sizeOfOneMore_34 : decode cX5_sizeOfOneMore 34 = .ok (.sipush 10000, 3) := by decide +kernel
theorem dX5_sizeOfOneMore_37 : decode cX5_sizeOfOneMore 37 = .ok (.if_icmp .ge 22, 3) := by decide +kernel
theorem dX5_sizeOfOneMore_40 : decode cX5_sizeOfOneMore 40 = .ok (.iload_n 2, 1) := by decide +kernel
theorem dX5_sizeOfOneMore_41 : decode cX5_sizeOfOneMore 41 = .ok (.iconst (-1), 1) := by decide +kernel
theorem dX5_sizeOfOneMore_42 : decode cX5_sizeOfOneMore 42 = .ok (.if_icmp .eq 13, 3) := by decide +kernel
theorem dX5_sizeOfOneMore_45 : decode cX5_sizeOfOneMore 45 = .ok (.aload_n 0, 1) := by decide +kernel
theorem dX5_sizeOfOneMore_46 : decode cX5_sizeOfOneMore 46 = .ok (.getfield 15, 3) := by decide +kernel
theorem dX5_sizeOfOneMore_49 : decode cX5_sizeOfOneMore 49 = .ok (.iload_n 3, 1) := by decide +kernel
theorem dX5_sizeOfOneMore_50 : decode cX5_sizeOfOneMore 50 = .ok (.iaload, 1) := by decide +kernel
theorem dX5_sizeOfOneMore_51 : decode cX5_sizeOfOneMore 51 = .ok (.iload_n 2, 1) := by decide +kernel
theorem dX5_sizeOfOneMore_52 : decode cX5_sizeOfOneMore 52 = .ok (.if_icmp .ge 7, 3) := by decide +kernel
theorem dX5_sizeOfOneMore_55 : decode cX5_sizeOfOneMore 55 = .ok (.iconst 1, 1) := by decide +kernel
theorem dX5_sizeOfOneMore_56 : decode cX5_sizeOfOneMore 56 = .ok (.goto 4, 3) := by decide +kernel
theorem dX5_sizeOfOneMore_59 : decode cX5_sizeOfOneMore 59 = .ok (.iconst 0, 1) := by decide +kernel
theorem dX5_sizeOfOneMore_60 : decode cX5_sizeOfOneMore 60 = .ok (.istore 4, 2) := by decide +kernel
theorem dX5_sizeOfOneMore_62 : decode cX5_sizeOfOneMore 62 = .ok (.iload 4, 2) := by decide +kernel
theorem dX5_sizeOfOneMore_64 : decode cX5_sizeOfOneMore 64 = .ok (.ifCond .eq 24, 3) := by decide +kernel
theorem dX5_sizeOfOneMore_67 : decode cX5_sizeOfOneMore 67 = .ok (.aload_n 0, 1) := by decide +kernel
theorem dX5_sizeOfOneMore_68 : decode cX5_sizeOfOneMore 68 = .ok (.aload_n 0, 1) := by decide +kernel
theorem dX5_sizeOfOneMore_69 : decode cX5_sizeOfOneMore 69 = .ok (.getfield 15, 3) := by decide +kernel
theorem dX5_sizeOfOneMore_72 : decode cX5_sizeOfOneMore 72 = .ok (.iload_n 3, 1) := by decide +kernel
theorem dX5_sizeOfOneMore_73 : decode cX5_sizeOfOneMore 73 = .ok (.iaload, 1) := by decide +kernel
theorem dX5_sizeOfOneMore_74 : decode cX5_sizeOfOneMore 74 = .ok (.invokevirtual 85, 3) := by decide +kernel
theorem dX5_sizeOfOneMore_77 : decode cX5_sizeOfOneMore 77 = .ok (.iload_n 1, 1) := by decide +kernel
theorem dX5_sizeOfOneMore_78 : decode cX5_sizeOfOneMore 78 = .ok (.if_icmp .le 10, 3) := by decide +kernel
theorem dX5_sizeOfOneMore_81 : decode cX5_sizeOfOneMore 81 = .ok (.aload_n 0, 1) := by decide +kernel
theorem dX5_sizeOfOneMore_82 : decode cX5_sizeOfOneMore 82 = .ok (.getfield 15, 3) := by decide +kernel
theorem dX5_sizeOfOneMore_85 : decode cX5_sizeOfOneMore 85 = .ok (.iload_n 3, 1) := by decide +kernel
theorem dX5_sizeOfOneMore_86 : decode cX5_sizeOfOneMore 86 = .ok (.iaload, 1) := by decide +kernel
theorem dX5_sizeOfOneMore_87 : decode cX5_sizeOfOneMore 87 = .ok (.istore_n 2, 1) := by decide +kernel
theorem dX5_sizeOfOneMore_88 : decode cX5_sizeOfOneMore 88 = .ok (.iinc 3 1, 3) := by decide +kernel
theorem dX5_sizeOfOneMore_91 : decode cX5_sizeOfOneMore 91 = .ok (.goto (-71), 3) := by decide +kernel
theorem dX5_sizeOfOneMore_94 : decode cX5_sizeOfOneMore 94 = .ok (.iload_n 2, 1) := by decide +kernel
theorem dX5_sizeOfOneMore_95 : decode cX5_sizeOfOneMore 95 = .ok (.ireturn, 1) := by decide +kernel
theorem dX5_pairsWith_0 : decode cX5_pairsWith 0 = .ok (.aload_n 0, 1) := by decide +kernel
theorem dX5_pairsWith_1 : decode cX5_pairsWith 1 = .ok (.iload_n 1, 1) := by decide +kernel
theorem dX5_pairsWith_2 : decode cX5_pairsWith 2 = .ok (.invokevirtual 67, 3) := by decide +kernel
theorem dX5_pairsWith_5 : decode cX5_pairsWith 5 = .ok (.aload_n 0, 1) := by decide +kernel
theorem dX5_pairsWith_6 : decode cX5_pairsWith 6 = .ok (.iconst 0, 1) := by decide +kernel
theorem dX5_pairsWith_7 : decode cX5_pairsWith 7 = .ok (.invokevirtual 82, 3) := by decide +kernel
theorem dX5_pairsWith_10 : decode cX5_pairsWith 10 = .ok (.istore_n 2, 1) := by decide +kernel
theorem dX5_pairsWith_11 : decode cX5_pairsWith 11 = .ok (.aload_n 0, 1) := by decide +kernel
theorem dX5_pairsWith_12 : decode cX5_pairsWith 12 = .ok (.invokevirtual 88, 3) := by decide +kernel
theorem dX5_pairsWith_15 : decode cX5_pairsWith 15 = .ok (.iload_n 2, 1) := by decide +kernel
theorem dX5_pairsWith_16 : decode cX5_pairsWith 16 = .ok (.ireturn, 1) := by decide +kernel
theorem dX6_init_0 : decode cX6_init 0 = .ok (.aload_n 0, 1) := by decide +kernel
theorem dX6_init_1 : decode cX6_init 1 = .ok (.invokespecial 3, 3) := by decide +kernel
theorem dX6_init_4 : decode cX6_init 4 = .ok (.aload_n 0, 1) := by decide +kernel
theorem dX6_init_5 : decode cX6_init 5 = .ok (.bipush 24, 2) := by decide +kernel
theorem dX6_init_7 : decode cX6_init 7 = .ok (.newarray .int, 2) := by decide +kernel
theorem dX6_init_9 : decode cX6_init 9 = .ok (.putfield 9, 3) := by decide +kernel
theorem dX6_init_12 : decode cX6_init 12 = .ok (.aload_n 0, 1) := by decide +kernel
theorem dX6_init_13 : decode cX6_init 13 = .ok (.bipush 24, 2) := by decide +kernel
theorem dX6_init_15 : decode cX6_init 15 = .ok (.newarray .int, 2) := by decide +kernel
theorem dX6_init_17 : decode cX6_init 17 = .ok (.putfield 15, 3) := by decide +kernel
theorem dX6_init_20 : decode cX6_init 20 = .ok (.aload_n 0, 1) := by decide +kernel
theorem dX6_init_21 : decode cX6_init 21 = .ok (.iconst 4, 1) := by decide +kernel
theorem dX6_init_22 : decode cX6_init 22 = .ok (.newarray .int, 2) := by decide +kernel
theorem dX6_init_24 : decode cX6_init 24 = .ok (.putfield 18, 3) := by decide +kernel
theorem dX6_init_27 : decode cX6_init 27 = .ok (.aload_n 0, 1) := by decide +kernel
theorem dX6_init_28 : decode cX6_init 28 = .ok (.iconst 4, 1) := by decide +kernel
theorem dX6_init_29 : decode cX6_init 29 = .ok (.newarray .int, 2) := by decide +kernel
theorem dX6_init_31 : decode cX6_init 31 = .ok (.putfield 21, 3) := by decide +kernel
theorem dX6_init_34 : decode cX6_init 34 = .ok (.aload_n 0, 1) := by decide +kernel
theorem dX6_init_35 : decode cX6_init 35 = .ok (.bipush 48, 2) := by decide +kernel
theorem dX6_init_37 : decode cX6_init 37 = .ok (.newarray .int, 2) := by decide +kernel
theorem dX6_init_39 : decode cX6_init 39 = .ok (.putfield 24, 3) := by decide +kernel
theorem dX6_init_42 : decode cX6_init 42 = .ok (.aload_n 0, 1) := by decide +kernel
theorem dX6_init_43 : decode cX6_init 43 = .ok (.bipush 48, 2) := by decide +kernel
theorem dX6_init_45 : decode cX6_init 45 = .ok (.newarray .int, 2) := by decide +kernel
theorem dX6_init_47 : decode cX6_init 47 = .ok (.putfield 27, 3) := by decide +kernel
theorem dX6_init_50 : decode cX6_init 50 = .ok (.aload_n 0, 1) := by decide +kernel
theorem dX6_init_51 : decode cX6_init 51 = .ok (.iconst 0, 1) := by decide +kernel
theorem dX6_init_52 : decode cX6_init 52 = .ok (.putfield 30, 3) := by decide +kernel
theorem dX6_init_55 : decode cX6_init 55 = .ok (.aload_n 0, 1) := by decide +kernel
theorem dX6_init_56 : decode cX6_init 56 = .ok (.iconst 0, 1) := by decide +kernel
theorem dX6_init_57 : decode cX6_init 57 = .ok (.putfield 34, 3) := by decide +kernel
theorem dX6_init_60 : decode cX6_init 60 = .ok (.aload_n 0, 1) := by decide +kernel
theorem dX6_init_61 : decode cX6_init 61 = .ok (.iconst 0, 1) := by decide +kernel
theorem dX6_init_62 : decode cX6_init 62 = .ok (.putfield 37, 3) := by decide +kernel
theorem dX6_init_65 : decode cX6_init 65 = .ok (.return_, 1) := by decide +kernel
theorem dX6_copyFrom_0 : decode cX6_copyFrom 0 = .ok (.aload_n 0, 1) := by decide +kernel
theorem dX6_copyFrom_1 : decode cX6_copyFrom 1 = .ok (.aload_n 1, 1) := by decide +kernel
theorem dX6_copyFrom_2 : decode cX6_copyFrom 2 = .ok (.getfield 30, 3) := by decide +kernel
theorem dX6_copyFrom_5 : decode cX6_copyFrom 5 = .ok (.putfield 30, 3) := by decide +kernel
theorem dX6_copyFrom_8 : decode cX6_copyFrom 8 = .ok (.aload_n 0, 1) := by decide +kernel
theorem dX6_copyFrom_9 : decode cX6_copyFrom 9 = .ok (.aload_n 1, 1) := by decide +kernel
theorem dX6_copyFrom_10 : decode cX6_copyFrom 10 = .ok (.getfield 34, 3) := by decide +kernel
theorem dX6_copyFrom_13 : decode cX6_copyFrom 13 = .ok (.putfield 34, 3) := by decide +kernel
theorem dX6_copyFrom_16 : decode cX6_copyFrom 16 = .ok (.aload_n 0, 1) := by decide +kernel
theorem dX6_copyFrom_17 : decode cX6_copyFrom 17 = .ok (.aload_n 1, 1) := by decide +kernel
theorem dX6_copyFrom_18 : decode cX6_copyFrom 18 = .ok (.getfield 37, 3) := by decide +kernel
theorem dX6_copyFrom_21 : decode cX6_copyFrom 21 = .ok (.putfield 37, 3) := by decide +kernel
theorem dX6_copyFrom_24 : decode cX6_copyFrom 24 = .ok (.aload_n 1, 1) := by decide +kernel
theorem dX6_copyFrom_25 : decode cX6_copyFrom 25 = .ok (.getfield 9, 3) := by decide +kernel
theorem dX6_copyFrom_28 : decode cX6_copyFrom 28 = .ok (.iconst 0, 1) := by decide +kernel
theorem dX6_copyFrom_29 : decode cX6_copyFrom 29 = .ok (.aload_n 0, 1) := by decide +kernel
theorem dX6_copyFrom_30 : decode cX6_copyFrom 30 = .ok (.getfield 9, 3) := by decide +kernel
theorem dX6_copyFrom_33 : decode cX6_copyFrom 33 = .ok (.iconst 0, 1) := by decide +kernel
theorem dX6_copyFrom_34 : decode cX6_copyFrom 34 = .ok (.aload_n 0, 1) := by decide +kernel
theorem dX6_copyFrom_35 : decode cX6_copyFrom 35 = .ok (.getfield 30, 3) := by decide +kernel
theorem dX6_copyFrom_38 : decode cX6_copyFrom 38 = .ok (.invokestatic 40, 3) := by decide +kernel
theorem dX6_copyFrom_41 : decode cX6_copyFrom 41 = .ok (.aload_n 1, 1) := by decide +kernel
theorem dX6_copyFrom_42 : decode cX6_copyFrom 42 = .ok (.getfield 15, 3) := by decide +kernel
theorem dX6_copyFrom_45 : decode cX6_copyFrom 45 = .ok (.iconst 0, 1) := by decide +kernel
theorem dX6_copyFrom_46 : decode cX6_copyFrom 46 = .ok (.aload_n 0, 1) := by decide +kernel
theorem dX6_copyFrom_47 : decode cX6_copyFrom 47 = .ok (.getfield 15, 3) := by decide +kernel
theorem dX6_copyFrom_50 : decode cX6_copyFrom 50 = .ok (.iconst 0, 1) := by decide +kernel
theorem dX6_copyFrom_51 : decode cX6_copyFrom 51 = .ok (.aload_n 0, 1) := by decide +kernel
theorem dX6_copyFrom_52 : decode cX6_copyFrom 52 = .ok (.getfield 34, 3) := by decide +kernel
theorem dX6_copyFrom_55 : decode cX6_copyFrom 55 = .ok (.invokestatic 40, 3) := by decide +kernel
theorem dX6_copyFrom_58 : decode cX6_copyFrom 58 = .ok (.aload_n 1, 1) := by decide +kernel
theorem dX6_copyFrom_59 : decode cX6_copyFrom 59 = .ok (.getfield 18, 3) := by decide +kernel
theorem dX6_copyFrom_62 : decode cX6_copyFrom 62 = .ok (.iconst 0, 1) := by decide +kernel
theorem dX6_copyFrom_63 : decode cX6_copyFrom 63 = .ok (.aload_n 0, 1) := by decide +kernel
theorem dX6_copyFrom_64 : decode cX6_copyFrom 64 = .ok (.getfield 18, 3) := by decide +kernel
theorem dX6_copyFrom_67 : decode cX6_copyFrom 67 = .ok (.iconst 0, 1) := by decide +kernel
theorem dX6_copyFrom_68 : decode cX6_copyFrom 68 = .ok (.iconst 4, 1) := by decide +kernel
theorem dX6_copyFrom_69 : decode cX6_copyFrom 69 = .ok (.invokestatic 40, 3) := by decide +kernel
theorem dX6_copyFrom_72 : decode cX6_copyFrom 72 = .ok (.aload_n 1, 1) := by decide +kernel
theorem dX6_copyFrom_73 : decode cX6_copyFrom 73 = .ok (.getfield 21, 3) := by decide +kernel
theorem dX6_copyFrom_76 : decode cX6_copyFrom 76 = .ok (.iconst 0, 1) := by decide +kernel
theorem dX6_copyFrom_77 : decode cX6_copyFrom 77 = .ok (.aload_n 0, 1) := by decide +kernel
theorem dX6_copyFrom_78 : decode cX6_copyFrom 78 = .ok (.getfield 21, 3) := by decide +kernel
theorem dX6_copyFrom_81 : decode cX6_copyFrom 81 = .ok (.iconst 0, 1) := by decide +kernel
theorem dX6_copyFrom_82 : decode cX6_copyFrom 82 = .ok (.iconst 4, 1) := by decide +kernel
theorem dX6_copyFrom_83 : decode cX6_copyFrom 83 = .ok (.invokestatic 40, 3) := by decide +kernel
theorem dX6_copyFrom_86 : decode cX6_copyFrom 86 = .ok (.aload_n 1, 1) := by decide +kernel
theorem dX6_copyFrom_87 : decode cX6_copyFrom 87 = .ok (.getfield 24, 3) := by decide +kernel
theorem dX6_copyFrom_90 : decode cX6_copyFrom 90 = .ok (.iconst 0, 1) := by decide +kernel
theorem dX6_copyFrom_91 : decode cX6_copyFrom 91 = .ok (.aload_n 0, 1) := by decide +kernel
theorem dX6_copyFrom_92 : decode cX6_copyFrom 92 = .ok (.getfield 24, 3) := by decide +kernel
theorem dX6_copyFrom_95 : decode cX6_copyFrom 95 = .ok (.iconst 0, 1) := by decide +kernel
theorem dX6_copyFrom_96 : decode cX6_copyFrom 96 = .ok (.aload_n 0, 1) := by decide +kernel
theorem dX6_copyFrom_97 : decode cX6_copyFrom 97 = .ok (.getfield 37, 3) := by decide +kernel
theorem dX6_copyFrom_100 : decode cX6_copyFrom 100 = .ok (.invokestatic 40, 3) := by decide +kernel
theorem dX6_copyFrom_103 : decode cX6_copyFrom 103 = .ok (.aload_n 1, 1) := by decide +kernel
theorem dX6_copyFrom_104 : decode cX6_copyFrom 104 = .ok (.getfield 27, 3) := by decide +kernel
theorem dX6_copyFrom_107 : decode cX6_copyFrom 107 = .ok (.iconst 0, 1) := by decide +kernel
theorem dX6_copyFrom_108 : decode cX6_copyFrom 108 = .ok (.aload_n 0, 1) := by decide +kernel
theorem dX6_copyFrom_109 : decode cX6_copyFrom 109 = .ok (.getfield 27, 3) := by decide +kernel
theorem dX6_copyFrom_112 : decode cX6_copyFrom 112 = .ok (.iconst 0, 1) := by decide +kernel
theorem dX6_copyFrom_113 : decode cX6_copyFrom 113 = .ok (.aload_n 0, 1) := by decide +kernel
theorem dX6_copyFrom_114 : decode cX6_copyFrom 114 = .ok (.getfield 37, 3) := by decide +kernel
theorem dX6_copyFrom_117 : decode cX6_copyFrom 117 = .ok (.invokestatic 40, 3) := by decide +kernel
theorem dX6_copyFrom_120 : decode cX6_copyFrom 120 = .ok (.return_, 1) := by decide +kernel
theorem dX6_parts_0 : decode cX6_parts 0 = .ok (.aload_n 0, 1) := by decide +kernel
theorem dX6_parts_1 : decode cX6_parts 1 = .ok (.getfield 30, 3) := by decide +kernel
theorem dX6_parts_4 : decode cX6_parts 4 = .ok (.aload_n 0, 1) := by decide +kernel
theorem dX6_parts_5 : decode cX6_parts 5 = .ok (.getfield 34, 3) := by decide +kernel
theorem dX6_parts_8 : decode cX6_parts 8 = .ok (.iadd, 1) := by decide +kernel
theorem dX6_parts_9 : decode cX6_parts 9 = .ok (.ireturn, 1) := by decide +kernel
theorem dX6_sortOf_0 : decode cX6_sortOf 0 = .ok (.iconst 0, 1) := by decide +kernel
theorem dX6_sortOf_1 : decode cX6_sortOf 1 = .ok (.istore_n 2, 1) := by decide +kernel
theorem dX6_sortOf_2 : decode cX6_sortOf 2 = .ok (.iload_n 2, 1) := by decide +kernel
theorem dX6_sortOf_3 : decode cX6_sortOf 3 = .ok (.aload_n 0, 1) := by decide +kernel
theorem dX6_sortOf_4 : decode cX6_sortOf 4 = .ok (.getfield 37, 3) := by decide +kernel
theorem dX6_sortOf_7 : decode cX6_sortOf 7 = .ok (.if_icmp .ge 21, 3) := by decide +kernel
theorem dX6_sortOf_10 : decode cX6_sortOf 10 = .ok (.aload_n 0, 1) := by decide +kernel
theorem dX6_sortOf_11 : decode cX6_sortOf 11 = .ok (.getfield 24, 3) := by decide +kernel
theorem dX6_sortOf_14 : decode cX6_sortOf 14 = .ok (.iload_n 2, 1) := by decide +kernel
theorem dX6_sortOf_15 : decode cX6_sortOf 15 = .ok (.iaload, 1) := by decide +kernel
theorem dX6_sortOf_16 : decode cX6_sortOf 16 = .ok (.iload_n 1, 1) := by decide +kernel
theorem dX6_sortOf_17 : decode cX6_sortOf 17 = .ok (.if_icmp .ne 5, 3) := by decide +kernel
theorem dX6_sortOf_20 : decode cX6_sortOf 20 = .ok (.iload_n 2, 1) := by decide +kernel
theorem dX6_sortOf_21 : decode cX6_sortOf 21 = .ok (.ireturn, 1) := by decide +kernel
theorem dX6_sortOf_22 : decode cX6_sortOf 22 = .ok (.iinc 2 1, 3) := by decide +kernel
theorem dX6_sortOf_25 : decode cX6_sortOf 25 = .ok (.goto (-23), 3) := by decide +kernel
theorem dX6_sortOf_28 : decode cX6_sortOf 28 = .ok (.iconst (-1), 1) := by decide +kernel
theorem dX6_sortOf_29 : decode cX6_sortOf 29 = .ok (.ireturn, 1) := by decide +kernel
theorem dX6_hasRoom_0 : decode cX6_hasRoom 0 = .ok (.iload_n 1, 1) := by decide +kernel
theorem dX6_hasRoom_1 : decode cX6_hasRoom 1 = .ok (.invokestatic 46, 3) := by decide +kernel
theorem dX6_hasRoom_4 : decode cX6_hasRoom 4 = .ok (.iconst 4, 1) := by decide +kernel
theorem dX6_hasRoom_5 : decode cX6_hasRoom 5 = .ok (.if_icmp .ne 10, 3) := by decide +kernel
theorem dX6_hasRoom_8 : decode cX6_hasRoom 8 = .ok (.aload_n 0, 1) := by decide +kernel
theorem dX6_hasRoom_9 : decode cX6_hasRoom 9 = .ok (.getfield 34, 3) := by decide +kernel
theorem dX6_hasRoom_12 : decode cX6_hasRoom 12 = .ok (.goto 7, 3) := by decide +kernel
theorem dX6_hasRoom_15 : decode cX6_hasRoom 15 = .ok (.aload_n 0, 1) := by decide +kernel
theorem dX6_hasRoom_16 : decode cX6_hasRoom 16 = .ok (.getfield 30, 3) := by decide +kernel
theorem dX6_hasRoom_19 : decode cX6_hasRoom 19 = .ok (.istore_n 2, 1) := by decide +kernel
theorem dX6_hasRoom_20 : decode cX6_hasRoom 20 = .ok (.iload_n 2, 1) := by decide +kernel
theorem dX6_hasRoom_21 : decode cX6_hasRoom 21 = .ok (.bipush 24, 2) := by decide +kernel
theorem dX6_hasRoom_23 : decode cX6_hasRoom 23 = .ok (.if_icmp .ge 25, 3) := by decide +kernel
theorem dX6_hasRoom_26 : decode cX6_hasRoom 26 = .ok (.aload_n 0, 1) := by decide +kernel
theorem dX6_hasRoom_27 : decode cX6_hasRoom 27 = .ok (.getfield 37, 3) := by decide +kernel
theorem dX6_hasRoom_30 : decode cX6_hasRoom 30 = .ok (.bipush 48, 2) := by decide +kernel
theorem dX6_hasRoom_32 : decode cX6_hasRoom 32 = .ok (.if_icmp .lt 12, 3) := by decide +kernel
theorem dX6_hasRoom_35 : decode cX6_hasRoom 35 = .ok (.aload_n 0, 1) := by decide +kernel
theorem dX6_hasRoom_36 : decode cX6_hasRoom 36 = .ok (.iload_n 1, 1) := by decide +kernel
theorem dX6_hasRoom_37 : decode cX6_hasRoom 37 = .ok (.invokevirtual 50, 3) := by decide +kernel
theorem dX6_hasRoom_40 : decode cX6_hasRoom 40 = .ok (.iconst (-1), 1) := by decide +kernel
theorem dX6_hasRoom_41 : decode cX6_hasRoom 41 = .ok (.if_icmp .eq 7, 3) := by decide +kernel
theorem dX6_hasRoom_44 : decode cX6_hasRoom 44 = .ok (.iconst 1, 1) := by decide +kernel
theorem dX6_hasRoom_45 : decode cX6_hasRoom 45 = .ok (.goto 4, 3) := by decide +kernel
theorem dX6_hasRoom_48 : decode cX6_hasRoom 48 = .ok (.iconst 0, 1) := by decide +kernel
theorem dX6_hasRoom_49 : decode cX6_hasRoom 49 = .ok (.ireturn, 1) := by decide +kernel
theorem dX6_put_0 : decode cX6_put 0 = .ok (.aload_n 0, 1) := by decide +kernel
theorem dX6_put_1 : decode cX6_put 1 = .ok (.iload_n 1, 1) := by decide +kernel
theorem dX6_put_2 : decode cX6_put 2 = .ok (.invokevirtual 53, 3) := by decide +kernel
theorem dX6_put_5 : decode cX6_put 5 = .ok (.ifCond .ne 6, 3) := by decide +kernel
theorem dX6_put_8 : decode cX6_put 8 = .ok (.ldc 57, 2) := by decide +kernel
theorem dX6_put_10 : decode cX6_put 10 = .ok (.ireturn, 1) := by decide +kernel
theorem dX6_put_11 : decode cX6_put 11 = .ok (.aload_n 0, 1) := by decide +kernel
theorem dX6_put_12 : decode cX6_put 12 = .ok (.iload_n 1, 1) := by decide +kernel
theorem dX6_put_13 : decode cX6_put 13 = .ok (.invokevirtual 58, 3) := by decide +kernel
theorem dX6_put_16 : decode cX6_put 16 = .ok (.iload_n 1, 1) := by decide +kernel
theorem dX6_put_17 : decode cX6_put 17 = .ok (.invokestatic 46, 3) := by decide +kernel
theorem dX6_put_20 : decode cX6_put 20 = .ok (.iconst 4, 1) := by decide +kernel
theorem dX6_put_21 : decode cX6_put 21 = .ok (.if_icmp .ne 25, 3) := by decide +kernel
theorem dX6_put_24 : decode cX6_put 24 = .ok (.aload_n 0, 1) := by decide +kernel
theorem dX6_put_25 : decode cX6_put 25 = .ok (.getfield 15, 3) := by decide +kernel
theorem dX6_put_28 : decode cX6_put 28 = .ok (.aload_n 0, 1) := by decide +kernel
theorem dX6_put_29 : decode cX6_put 29 = .ok (.getfield 34, 3) := by decide +kernel
theorem dX6_put_32 : decode cX6_put 32 = .ok (.iload_n 1, 1) := by decide +kernel
theorem dX6_put_33 : decode cX6_put 33 = .ok (.iastore, 1) := by decide +kernel
theorem dX6_put_34 : decode cX6_put 34 = .ok (.aload_n 0, 1) := by decide +kernel
theorem dX6_put_35 : decode cX6_put 35 = .ok (.dup, 1) := by decide +kernel
theorem dX6_put_36 : decode cX6_put 36 = .ok (.getfield 34, 3) := by decide +kernel
theorem dX6_put_39 : decode cX6_put 39 = .ok (.dup_x1, 1) := by decide +kernel
theorem dX6_put_40 : decode cX6_put 40 = .ok (.iconst 1, 1) := by decide +kernel
theorem dX6_put_41 : decode cX6_put 41 = .ok (.iadd, 1) := by decide +kernel
theorem dX6_put_42 : decode cX6_put 42 = .ok (.putfield 34, 3) := by decide +kernel
theorem dX6_put_45 : decode cX6_put 45 = .ok (.ireturn, 1) := by decide +kernel
theorem dX6_put_46 : decode cX6_put 46 = .ok (.aload_n 0, 1) := by decide +kernel
theorem dX6_put_47 : decode cX6_put 47 = .ok (.getfield 9, 3) := by decide +kernel
theorem dX6_put_50 : decode cX6_put 50 = .ok (.aload_n 0, 1) := by decide +kernel
theorem dX6_put_51 : decode cX6_put 51 = .ok (.getfield 30, 3) := by decide +kernel
theorem dX6_put_54 : decode cX6_put 54 = .ok (.iload_n 1, 1) := by decide +kernel
theorem dX6_put_55 : decode cX6_put 55 = .ok (.iastore, 1) := by decide +kernel
theorem dX6_put_56 : decode cX6_put 56 = .ok (.aload_n 0, 1) := by decide +kernel
theorem dX6_put_57 : decode cX6_put 57 = .ok (.dup, 1) := by decide +kernel
theorem dX6_put_58 : decode cX6_put 58 = .ok (.getfield 30, 3) := by decide +kernel
theorem dX6_put_61 : decode cX6_put 61 = .ok (.dup_x1, 1) := by decide +kernel
theorem dX6_put_62 : decode cX6_put 62 = .ok (.iconst 1, 1) := by decide +kernel
theorem dX6_put_63 : decode cX6_put 63 = .ok (.iadd, 1) := by decide +kernel
theorem dX6_put_64 : decode cX6_put 64 = .ok (.putfield 30, 3) := by decide +kernel
theorem dX6_put_67 : decode cX6_put 67 = .ok (.ireturn, 1) := by decide +kernel
theorem dX6_countInSort_0 : decode cX6_countInSort 0 = .ok (.aload_n 0, 1) := by decide +kernel
theorem dX6_countInSort_1 : decode cX6_countInSort 1 = .ok (.iload_n 1, 1) := by decide +kernel
theorem dX6_countInSort_2 : decode cX6_countInSort 2 = .ok (.invokevirtual 50, 3) := by decide +kernel
theorem dX6_countInSort_5 : decode cX6_countInSort 5 = .ok (.istore_n 2, 1) := by decide +kernel
theorem dX6_countInSort_6 : decode cX6_countInSort 6 = .ok (.iload_n 2, 1) := by decide +kernel
theorem dX6_countInSort_7 : decode cX6_countInSort 7 = .ok (.iconst (-1), 1) := by decide +kernel
theorem dX6_countInSort_8 : decode cX6_countInSort 8 = .ok (.if_icmp .eq 16, 3) := by decide +kernel
theorem dX6_countInSort_11 : decode cX6_countInSort 11 = .ok (.aload_n 0, 1) := by decide +kernel
theorem dX6_countInSort_12 : decode cX6_countInSort 12 = .ok (.getfield 27, 3) := by decide +kernel
theorem dX6_countInSort_15 : decode cX6_countInSort 15 = .ok (.iload_n 2, 1) := by decide +kernel
theorem dX6_countInSort_16 : decode cX6_countInSort 16 = .ok (.dup2, 1) := by decide +kernel
theorem dX6_countInSort_17 : decode cX6_countInSort 17 = .ok (.iaload, 1) := by decide +kernel
theorem dX6_countInSort_18 : decode cX6_countInSort 18 = .ok (.iconst 1, 1) := by decide +kernel
theorem dX6_countInSort_19 : decode cX6_countInSort 19 = .ok (.iadd, 1) := by decide +kernel
theorem dX6_countInSort_20 : decode cX6_countInSort 20 = .ok (.iastore, 1) := by decide +kernel
theorem dX6_countInSort_21 : decode cX6_countInSort 21 = .ok (.goto 42, 3) := by decide +kernel
theorem dX6_countInSort_24 : decode cX6_countInSort 24 = .ok (.aload_n 0, 1) := by decide +kernel
theorem dX6_countInSort_25 : decode cX6_countInSort 25 = .ok (.getfield 37, 3) := by decide +kernel
theorem dX6_countInSort_28 : decode cX6_countInSort 28 = .ok (.bipush 48, 2) := by decide +kernel
theorem dX6_countInSort_30 : decode cX6_countInSort 30 = .ok (.if_icmp .ge 33, 3) := by decide +kernel
theorem dX6_countInSort_33 : decode cX6_countInSort 33 = .ok (.aload_n 0, 1) := by decide +kernel
theorem dX6_countInSort_34 : decode cX6_countInSort 34 = .ok (.getfield 24, 3) := by decide +kernel
theorem dX6_countInSort_37 : decode cX6_countInSort 37 = .ok (.aload_n 0, 1) := by decide +kernel
theorem dX6_countInSort_38 : decode cX6_countInSort 38 = .ok (.getfield 37, 3) := by decide +kernel
theorem dX6_countInSort_41 : decode cX6_countInSort 41 = .ok (.iload_n 1, 1) := by decide +kernel
theorem dX6_countInSort_42 : decode cX6_countInSort 42 = .ok (.iastore, 1) := by decide +kernel
theorem dX6_countInSort_43 : decode cX6_countInSort 43 = .ok (.aload_n 0, 1) := by decide +kernel
theorem dX6_countInSort_44 : decode cX6_countInSort 44 = .ok (.getfield 27, 3) := by decide +kernel
theorem dX6_countInSort_47 : decode cX6_countInSort 47 = .ok (.aload_n 0, 1) := by decide +kernel
theorem dX6_countInSort_48 : decode cX6_countInSort 48 = .ok (.getfield 37, 3) := by decide +kernel
theorem dX6_countInSort_51 : decode cX6_countInSort 51 = .ok (.iconst 1, 1) := by decide +kernel
theorem dX6_countInSort_52 : decode cX6_countInSort 52 = .ok (.iastore, 1) := by decide +kernel
theorem dX6_countInSort_53 : decode cX6_countInSort 53 = .ok (.aload_n 0, 1) := by decide +kernel
theorem dX6_countInSort_54 : decode cX6_countInSort 54 = .ok (.dup, 1) := by decide +kernel
theorem dX6_countInSort_55 : decode cX6_countInSort 55 = .ok (.getfield 37, 3) := by decide +kernel
theorem dX6_countInSort_58 : decode cX6_countInSort 58 = .ok (.iconst 1, 1) := by decide +kernel
theorem dX6_countInSort_59 : decode cX6_countInSort 59 = .ok (.iadd, 1) := by decide +kernel
theorem dX6_countInSort_60 : decode cX6_countInSort 60 = .ok (.putfield 37, 3) := by decide +kernel
theorem dX6_countInSort_63 : decode cX6_countInSort 63 = .ok (.return_, 1) := by decide +kernel
theorem dX6_sortAnew_0 : decode cX6_sortAnew 0 = .ok (.aload_n 0, 1) := by decide +kernel
theorem dX6_sortAnew_1 : decode cX6_sortAnew 1 = .ok (.iconst 0, 1) := by decide +kernel
theorem dX6_sortAnew_2 : decode cX6_sortAnew 2 = .ok (.putfield 37, 3) := by decide +kernel
theorem dX6_sortAnew_5 : decode cX6_sortAnew 5 = .ok (.iconst 0, 1) := by decide +kernel
theorem dX6_sortAnew_6 : decode cX6_sortAnew 6 = .ok (.istore_n 1, 1) := by decide +kernel
theorem dX6_sortAnew_7 : decode cX6_sortAnew 7 = .ok (.iload_n 1, 1) := by decide +kernel
theorem dX6_sortAnew_8 : decode cX6_sortAnew 8 = .ok (.aload_n 0, 1) := by decide +kernel
theorem dX6_sortAnew_9 : decode cX6_sortAnew 9 = .ok (.getfield 30, 3) := by decide +kernel
theorem dX6_sortAnew_12 : decode cX6_sortAnew 12 = .ok (.if_icmp .ge 19, 3) := by decide +kernel
theorem dX6_sortAnew_15 : decode cX6_sortAnew 15 = .ok (.aload_n 0, 1) := by decide +kernel
theorem dX6_sortAnew_16 : decode cX6_sortAnew 16 = .ok (.aload_n 0, 1) := by decide +kernel
theorem dX6_sortAnew_17 : decode cX6_sortAnew 17 = .ok (.getfield 9, 3) := by decide +kernel
theorem dX6_sortAnew_20 : decode cX6_sortAnew 20 = .ok (.iload_n 1, 1) := by decide +kernel
theorem dX6_sortAnew_21 : decode cX6_sortAnew 21 = .ok (.iaload, 1) := by decide +kernel
theorem dX6_sortAnew_22 : decode cX6_sortAnew 22 = .ok (.invokevirtual 58, 3) := by decide +kernel
theorem dX6_sortAnew_25 : decode cX6_sortAnew 25 = .ok (.iinc 1 1, 3) := by decide +kernel
theorem dX6_sortAnew_28 : decode cX6_sortAnew 28 = .ok (.goto (-21), 3) := by decide +kernel
theorem dX6_sortAnew_31 : decode cX6_sortAnew 31 = .ok (.iconst 0, 1) := by decide +kernel
theorem dX6_sortAnew_32 : decode cX6_sortAnew 32 = .ok (.istore_n 1, 1) := by decide +kernel
theorem dX6_sortAnew_33 : decode cX6_sortAnew 33 = .ok (.iload_n 1, 1) := by decide +kernel
theorem dX6_sortAnew_34 : decode cX6_sortAnew 34 = .ok (.aload_n 0, 1) := by decide +kernel
theorem dX6_sortAnew_35 : decode cX6_sortAnew 35 = .ok (.getfield 34, 3) := by decide +kernel
theorem dX6_sortAnew_38 : decode cX6_sortAnew 38 = .ok (.if_icmp .ge 19, 3) := by decide +kernel
theorem dX6_sortAnew_41 : decode cX6_sortAnew 41 = .ok (.aload_n 0, 1) := by decide +kernel
theorem dX6_sortAnew_42 : decode cX6_sortAnew 42 = .ok (.aload_n 0, 1) := by decide +kernel
theorem dX6_sortAnew_43 : decode cX6_sortAnew 43 = .ok (.getfield 15, 3) := by decide +kernel
theorem dX6_sortAnew_46 : decode cX6_sortAnew 46 = .ok (.iload_n 1, 1) := by decide +kernel
theorem dX6_sortAnew_47 : decode cX6_sortAnew 47 = .ok (.iaload, 1) := by decide +kernel
theorem dX6_sortAnew_48 : decode cX6_sortAnew 48 = .ok (.invokevirtual 58, 3) := by decide +kernel
theorem dX6_sortAnew_51 : decode cX6_sortAnew 51 = .ok (.iinc 1 1, 3) := by decide +kernel
theorem dX6_sortAnew_54 : decode cX6_sortAnew 54 = .ok (.goto (-21), 3) := by decide +kernel
theorem dX6_sortAnew_57 : decode cX6_sortAnew 57 = .ok (.return_, 1) := by decide +kernel
theorem dX6_dropShaft_0 : decode cX6_dropShaft 0 = .ok (.iload_n 1, 1) := by decide +kernel
theorem dX6_dropShaft_1 : decode cX6_dropShaft 1 = .ok (.aload_n 0, 1) := by decide +kernel
theorem dX6_dropShaft_2 : decode cX6_dropShaft 2 = .ok (.getfield 30, 3) := by decide +kernel
theorem dX6_dropShaft_5 : decode cX6_dropShaft 5 = .ok (.invokestatic 62, 3) := by decide +kernel
theorem dX6_dropShaft_8 : decode cX6_dropShaft 8 = .ok (.ifCond .ne 4, 3) := by decide +kernel
theorem dX6_dropShaft_11 : decode cX6_dropShaft 11 = .ok (.return_, 1) := by decide +kernel
theorem dX6_dropShaft_12 : decode cX6_dropShaft 12 = .ok (.aload_n 0, 1) := by decide +kernel
theorem dX6_dropShaft_13 : decode cX6_dropShaft 13 = .ok (.dup, 1) := by decide +kernel
theorem dX6_dropShaft_14 : decode cX6_dropShaft 14 = .ok (.getfield 30, 3) := by decide +kernel
theorem dX6_dropShaft_17 : decode cX6_dropShaft 17 = .ok (.iconst 1, 1) := by decide +kernel
theorem dX6_dropShaft_18 : decode cX6_dropShaft 18 = .ok (.isub, 1) := by decide +kernel
theorem dX6_dropShaft_19 : decode cX6_dropShaft 19 = .ok (.putfield 30, 3) := by decide +kernel
theorem dX6_dropShaft_22 : decode cX6_dropShaft 22 = .ok (.iload_n 1, 1) := by decide +kernel
theorem dX6_dropShaft_23 : decode cX6_dropShaft 23 = .ok (.istore_n 2, 1) := by decide +kernel
theorem dX6_dropShaft_24 : decode cX6_dropShaft 24 = .ok (.iload_n 2, 1) := by decide +kernel
theorem dX6_dropShaft_25 : decode cX6_dropShaft 25 = .ok (.aload_n 0, 1) := by decide +kernel
theorem dX6_dropShaft_26 : decode cX6_dropShaft 26 = .ok (.getfield 30, 3) := by decide +kernel
theorem dX6_dropShaft_29 : decode cX6_dropShaft 29 = .ok (.if_icmp .ge 23, 3) := by decide +kernel
theorem dX6_dropShaft_32 : decode cX6_dropShaft 32 = .ok (.aload_n 0, 1) := by decide +kernel
theorem dX6_dropShaft_33 : decode cX6_dropShaft 33 = .ok (.getfield 9, 3) := by decide +kernel
theorem dX6_dropShaft_36 : decode cX6_dropShaft 36 = .ok (.iload_n 2, 1) := by decide +kernel
theorem dX6_dropShaft_37 : decode cX6_dropShaft 37 = .ok (.aload_n 0, 1) := by decide +kernel
theorem dX6_dropShaft_38 : decode cX6_dropShaft 38 = .ok (.getfield 9, 3) := by decide +kernel
theorem dX6_dropShaft_41 : decode cX6_dropShaft 41 = .ok (.iload_n 2, 1) := by decide +kernel
theorem dX6_dropShaft_42 : decode cX6_dropShaft 42 = .ok (.iconst 1, 1) := by decide +kernel
theorem dX6_dropShaft_43 : decode cX6_dropShaft 43 = .ok (.iadd, 1) := by decide +kernel
theorem dX6_dropShaft_44 : decode cX6_dropShaft 44 = .ok (.iaload, 1) := by decide +kernel
theorem dX6_dropShaft_45 : decode cX6_dropShaft 45 = .ok (.iastore, 1) := by decide +kernel
theorem dX6_dropShaft_46 : decode cX6_dropShaft 46 = .ok (.iinc 2 1, 3) := by decide +kernel
theorem dX6_dropShaft_49 : decode cX6_dropShaft 49 = .ok (.goto (-25), 3) := by decide +kernel
theorem dX6_dropShaft_52 : decode cX6_dropShaft 52 = .ok (.return_, 1) := by decide +kernel
theorem dX6_dropBore_0 : decode cX6_dropBore 0 = .ok (.iload_n 1, 1) := by decide +kernel
theorem dX6_dropBore_1 : decode cX6_dropBore 1 = .ok (.aload_n 0, 1) := by decide +kernel
theorem dX6_dropBore_2 : decode cX6_dropBore 2 = .ok (.getfield 34, 3) := by decide +kernel
theorem dX6_dropBore_5 : decode cX6_dropBore 5 = .ok (.invokestatic 62, 3) := by decide +kernel
theorem dX6_dropBore_8 : decode cX6_dropBore 8 = .ok (.ifCond .ne 4, 3) := by decide +kernel
theorem dX6_dropBore_11 : decode cX6_dropBore 11 = .ok (.return_, 1) := by decide +kernel
theorem dX6_dropBore_12 : decode cX6_dropBore 12 = .ok (.aload_n 0, 1) := by decide +kernel
theorem dX6_dropBore_13 : decode cX6_dropBore 13 = .ok (.dup, 1) := by decide +kernel
theorem dX6_dropBore_14 : decode cX6_dropBore 14 = .ok (.getfield 34, 3) := by decide +kernel
theorem dX6_dropBore_17 : decode cX6_dropBore 17 = .ok (.iconst 1, 1) := by decide +kernel
theorem dX6_dropBore_18 : decode cX6_dropBore 18 = .ok (.isub, 1) := by decide +kernel
theorem dX6_dropBore_19 : decode cX6_dropBore 19 = .ok (.putfield 34, 3) := by decide +kernel
theorem dX6_dropBore_22 : decode cX6_dropBore 22 = .ok (.iload_n 1, 1) := by decide +kernel
theorem dX6_dropBore_23 : decode cX6_dropBore 23 = .ok (.istore_n 2, 1) := by decide +kernel
theorem dX6_dropBore_24 : decode cX6_dropBore 24 = .ok (.iload_n 2, 1) := by decide +kernel
theorem dX6_dropBore_25 : decode cX6_dropBore 25 = .ok (.aload_n 0, 1) := by decide +kernel
theorem dX6_dropBore_26 : decode cX6_dropBore 26 = .ok (.getfield 34, 3) := by decide +kernel
theorem dX6_dropBore_29 : decode cX6_dropBore 29 = .ok (.if_icmp .ge 23, 3) := by decide +kernel
theorem dX6_dropBore_32 : decode cX6_dropBore 32 = .ok (.aload_n 0, 1) := by decide +kernel
theorem dX6_dropBore_33 : decode cX6_dropBore 33 = .ok (.getfield 15, 3) := by decide +kernel
theorem dX6_dropBore_36 : decode cX6_dropBore 36 = .ok (.iload_n 2, 1) := by decide +kernel
theorem dX6_dropBore_37 : decode cX6_dropBore 37 = .ok (.aload_n 0, 1) := by decide +kernel
theorem dX6_dropBore_38 : decode cX6_dropBore 38 = .ok (.getfield 15, 3) := by decide +kernel
theorem dX6_dropBore_41 : decode cX6_dropBore 41 = .ok (.iload_n 2, 1) := by decide +kernel
theorem dX6_dropBore_42 : decode cX6_dropBore 42 = .ok (.iconst 1, 1) := by decide +kernel
theorem dX6_dropBore_43 : decode cX6_dropBore 43 = .ok (.iadd, 1) := by decide +kernel
theorem dX6_dropBore_44 : decode cX6_dropBore 44 = .ok (.iaload, 1) := by decide +kernel
theorem dX6_dropBore_45 : decode cX6_dropBore 45 = .ok (.iastore, 1) := by decide +kernel
theorem dX6_dropBore_46 : decode cX6_dropBore 46 = .ok (.iinc 2 1, 3) := by decide +kernel
theorem dX6_dropBore_49 : decode cX6_dropBore 49 = .ok (.goto (-25), 3) := by decide +kernel
theorem dX6_dropBore_52 : decode cX6_dropBore 52 = .ok (.return_, 1) := by decide +kernel
theorem dX6_empty_0 : decode cX6_empty 0 = .ok (.aload_n 0, 1) := by decide +kernel
theorem dX6_empty_1 : decode cX6_empty 1 = .ok (.iconst 0, 1) := by decide +kernel
theorem dX6_empty_2 : decode cX6_empty 2 = .ok (.putfield 30, 3) := by decide +kernel
theorem dX6_empty_5 : decode cX6_empty 5 = .ok (.aload_n 0, 1) := by decide +kernel
theorem dX6_empty_6 : decode cX6_empty 6 = .ok (.iconst 0, 1) := by decide +kernel
theorem dX6_empty_7 : decode cX6_empty 7 = .ok (.putfield 34, 3) := by decide +kernel
theorem dX6_empty_10 : decode cX6_empty 10 = .ok (.aload_n 0, 1) := by decide +kernel
theorem dX6_empty_11 : decode cX6_empty 11 = .ok (.iconst 0, 1) := by decide +kernel
theorem dX6_empty_12 : decode cX6_empty 12 = .ok (.putfield 37, 3) := by decide +kernel
theorem dX6_empty_15 : decode cX6_empty 15 = .ok (.return_, 1) := by decide +kernel
theorem dX6_partsOfKind_0 : decode cX6_partsOfKind 0 = .ok (.iconst 0, 1) := by decide +kernel
theorem dX6_partsOfKind_1 : decode cX6_partsOfKind 1 = .ok (.istore_n 2, 1) := by decide +kernel
theorem dX6_partsOfKind_2 : decode cX6_partsOfKind 2 = .ok (.iconst 0, 1) := by decide +kernel
theorem dX6_partsOfKind_3 : decode cX6_partsOfKind 3 = .ok (.istore_n 3, 1) := by decide +kernel
theorem dX6_partsOfKind_4 : decode cX6_partsOfKind 4 = .ok (.iload_n 3, 1) := by decide +kernel
theorem dX6_partsOfKind_5 : decode cX6_partsOfKind 5 = .ok (.aload_n 0, 1) := by decide +kernel
theorem dX6_partsOfKind_6 : decode cX6_partsOfKind 6 = .ok (.getfield 30, 3) := by decide +kernel
theorem dX6_partsOfKind_9 : decode cX6_partsOfKind 9 = .ok (.if_icmp .ge 27, 3) := by decide +kernel
theorem dX6_partsOfKind_12 : decode cX6_partsOfKind 12 = .ok (.iload_n 2, 1) := by decide +kernel
theorem dX6_partsOfKind_13 : decode cX6_partsOfKind 13 = .ok (.aload_n 0, 1) := by decide +kernel
theorem dX6_partsOfKind_14 : decode cX6_partsOfKind 14 = .ok (.getfield 9, 3) := by decide +kernel
theorem dX6_partsOfKind_17 : decode cX6_partsOfKind 17 = .ok (.iload_n 3, 1) := by decide +kernel
theorem dX6_partsOfKind_18 : decode cX6_partsOfKind 18 = .ok (.iaload, 1) := by decide +kernel
theorem dX6_partsOfKind_19 : decode cX6_partsOfKind 19 = .ok (.iload_n 1, 1) := by decide +kernel
theorem dX6_partsOfKind_20 : decode cX6_partsOfKind 20 = .ok (.if_icmp .ne 7, 3) := by decide +kernel
theorem dX6_partsOfKind_23 : decode cX6_partsOfKind 23 = .ok (.iconst 1, 1) := by decide +kernel
theorem dX6_partsOfKind_24 : decode cX6_partsOfKind 24 = .ok (.goto 4, 3) := by decide +kernel
theorem dX6_partsOfKind_27 : decode cX6_partsOfKind 27 = .ok (.iconst 0, 1) := by decide +kernel
theorem dX6_partsOfKind_28 : decode cX6_partsOfKind 28 = .ok (.iadd, 1) := by decide +kernel
theorem dX6_partsOfKind_29 : decode cX6_partsOfKind 29 = .ok (.istore_n 2, 1) := by decide +kernel
theorem dX6_partsOfKind_30 : decode cX6_partsOfKind 30 = .ok (.iinc 3 1, 3) := by decide +kernel
theorem dX6_partsOfKind_33 : decode cX6_partsOfKind 33 = .ok (.goto (-29), 3) := by decide +kernel
theorem dX6_partsOfKind_36 : decode cX6_partsOfKind 36 = .ok (.iconst 0, 1) := by decide +kernel
theorem dX6_partsOfKind_37 : decode cX6_partsOfKind 37 = .ok (.istore_n 3, 1) := by decide +kernel
theorem dX6_partsOfKind_38 : decode cX6_partsOfKind 38 = .ok (.iload_n 3, 1) := by decide +kernel
theorem dX6_partsOfKind_39 : decode cX6_partsOfKind 39 = .ok (.aload_n 0, 1) := by decide +kernel
theorem dX6_partsOfKind_40 : decode cX6_partsOfKind 40 = .ok (.getfield 34, 3) := by decide +kernel
theorem dX6_partsOfKind_43 : decode cX6_partsOfKind 43 = .ok (.if_icmp .ge 27, 3) := by decide +kernel
theorem dX6_partsOfKind_46 : decode cX6_partsOfKind 46 = .ok (.iload_n 2, 1) := by decide +kernel
theorem dX6_partsOfKind_47 : decode cX6_partsOfKind 47 = .ok (.aload_n 0, 1) := by decide +kernel
theorem dX6_partsOfKind_48 : decode cX6_partsOfKind 48 = .ok (.getfield 15, 3) := by decide +kernel
theorem dX6_partsOfKind_51 : decode cX6_partsOfKind 51 = .ok (.iload_n 3, 1) := by decide +kernel
theorem dX6_partsOfKind_52 : decode cX6_partsOfKind 52 = .ok (.iaload, 1) := by decide +kernel
theorem dX6_partsOfKind_53 : decode cX6_partsOfKind 53 = .ok (.iload_n 1, 1) := by decide +kernel
theorem dX6_partsOfKind_54 : decode cX6_partsOfKind 54 = .ok (.if_icmp .ne 7, 3) := by decide +kernel
theorem dX6_partsOfKind_57 : decode cX6_partsOfKind 57 = .ok (.iconst 1, 1) := by decide +kernel
theorem dX6_partsOfKind_58 : decode cX6_partsOfKind 58 = .ok (.goto 4, 3) := by decide +kernel
theorem dX6_partsOfKind_61 : decode cX6_partsOfKind 61 = .ok (.iconst 0, 1) := by decide +kernel
theorem dX6_partsOfKind_62 : decode cX6_partsOfKind 62 = .ok (.iadd, 1) := by decide +kernel
theorem dX6_partsOfKind_63 : decode cX6_partsOfKind 63 = .ok (.istore_n 2, 1) := by decide +kernel
theorem dX6_partsOfKind_64 : decode cX6_partsOfKind 64 = .ok (.iinc 3 1, 3) := by decide +kernel
theorem dX6_partsOfKind_67 : decode cX6_partsOfKind 67 = .ok (.goto (-29), 3) := by decide +kernel
theorem dX6_partsOfKind_70 : decode cX6_partsOfKind 70 = .ok (.iload_n 2, 1) := by decide +kernel
theorem dX6_partsOfKind_71 : decode cX6_partsOfKind 71 = .ok (.ireturn, 1) := by decide +kernel
theorem dX6_shaftsOfGrade_0 : decode cX6_shaftsOfGrade 0 = .ok (.iconst 0, 1) := by decide +kernel
theorem dX6_shaftsOfGrade_1 : decode cX6_shaftsOfGrade 1 = .ok (.istore_n 2, 1) := by decide +kernel
theorem dX6_shaftsOfGrade_2 : decode cX6_shaftsOfGrade 2 = .ok (.iconst 0, 1) := by decide +kernel
theorem dX6_shaftsOfGrade_3 : decode cX6_shaftsOfGrade 3 = .ok (.istore_n 3, 1) := by decide +kernel
theorem dX6_shaftsOfGrade_4 : decode cX6_shaftsOfGrade 4 = .ok (.iload_n 3, 1) := by decide +kernel
theorem dX6_shaftsOfGrade_5 : decode cX6_shaftsOfGrade 5 = .ok (.aload_n 0, 1) := by decide +kernel
theorem dX6_shaftsOfGrade_6 : decode cX6_shaftsOfGrade 6 = .ok (.getfield 30, 3) := by decide +kernel
theorem dX6_shaftsOfGrade_9 : decode cX6_shaftsOfGrade 9 = .ok (.if_icmp .ge 30, 3) := by decide +kernel
theorem dX6_shaftsOfGrade_12 : decode cX6_shaftsOfGrade 12 = .ok (.iload_n 2, 1) := by decide +kernel
theorem dX6_shaftsOfGrade_13 : decode cX6_shaftsOfGrade 13 = .ok (.aload_n 0, 1) := by decide +kernel
theorem dX6_shaftsOfGrade_14 : decode cX6_shaftsOfGrade 14 = .ok (.getfield 9, 3) := by decide +kernel
theorem dX6_shaftsOfGrade_17 : decode cX6_shaftsOfGrade 17 = .ok (.iload_n 3, 1) := by decide +kernel
theorem dX6_shaftsOfGrade_18 : decode cX6_shaftsOfGrade 18 = .ok (.iaload, 1) := by decide +kernel
theorem dX6_shaftsOfGrade_19 : decode cX6_shaftsOfGrade 19 = .ok (.invokestatic 46, 3) := by decide +kernel
theorem dX6_shaftsOfGrade_22 : decode cX6_shaftsOfGrade 22 = .ok (.iload_n 1, 1) := by decide +kernel
theorem dX6_shaftsOfGrade_23 : decode cX6_shaftsOfGrade 23 = .ok (.if_icmp .ne 7, 3) := by decide +kernel
theorem dX6_shaftsOfGrade_26 : decode cX6_shaftsOfGrade 26 = .ok (.iconst 1, 1) := by decide +kernel
theorem dX6_shaftsOfGrade_27 : decode cX6_shaftsOfGrade 27 = .ok (.goto 4, 3) := by decide +kernel
theorem dX6_shaftsOfGrade_30 : decode cX6_shaftsOfGrade 30 = .ok (.iconst 0, 1) := by decide +kernel
theorem dX6_shaftsOfGrade_31 : decode cX6_shaftsOfGrade 31 = .ok (.iadd, 1) := by decide +kernel
theorem dX6_shaftsOfGrade_32 : decode cX6_shaftsOfGrade 32 = .ok (.istore_n 2, 1) := by decide +kernel
theorem dX6_shaftsOfGrade_33 : decode cX6_shaftsOfGrade 33 = .ok (.iinc 3 1, 3) := by decide +kernel
theorem dX6_shaftsOfGrade_36 : decode cX6_shaftsOfGrade 36 = .ok (.goto (-32), 3) := by decide +kernel
theorem dX6_shaftsOfGrade_39 : decode cX6_shaftsOfGrade 39 = .ok (.iload_n 2, 1) := by decide +kernel
theorem dX6_shaftsOfGrade_40 : decode cX6_shaftsOfGrade 40 = .ok (.ireturn, 1) := by decide +kernel
theorem dX6_shaftsFittedBy_0 : decode cX6_shaftsFittedBy 0 = .ok (.iconst 0, 1) := by decide +kernel
theorem dX6_shaftsFittedBy_1 : decode cX6_shaftsFittedBy 1 = .ok (.istore_n 2, 1) := by decide +kernel
theorem dX6_shaftsFittedBy_2 : decode cX6_shaftsFittedBy 2 = .ok (.iconst 0, 1) := by decide +kernel
theorem dX6_shaftsFittedBy_3 : decode cX6_shaftsFittedBy 3 = .ok (.istore_n 3, 1) := by decide +kernel
theorem dX6_shaftsFittedBy_4 : decode cX6_shaftsFittedBy 4 = .ok (.iload_n 3, 1) := by decide +kernel
theorem dX6_shaftsFittedBy_5 : decode cX6_shaftsFittedBy 5 = .ok (.aload_n 0, 1) := by decide +kernel
theorem dX6_shaftsFittedBy_6 : decode cX6_shaftsFittedBy 6 = .ok (.getfield 30, 3) := by decide +kernel
theorem dX6_shaftsFittedBy_9 : decode cX6_shaftsFittedBy 9 = .ok (.if_icmp .ge 45, 3) := by decide +kernel
theorem dX6_shaftsFittedBy_12 : decode cX6_shaftsFittedBy 12 = .ok (.iload_n 2, 1) := by decide +kernel
theorem dX6_shaftsFittedBy_13 : decode cX6_shaftsFittedBy 13 = .ok (.aload_n 0, 1) := by decide +kernel
theorem dX6_shaftsFittedBy_14 : decode cX6_shaftsFittedBy 14 = .ok (.aload_n 0, 1) := by decide +kernel
theorem dX6_shaftsFittedBy_15 : decode cX6_shaftsFittedBy 15 = .ok (.getfield 9, 3) := by decide +kernel
theorem dX6_shaftsFittedBy_18 : decode cX6_shaftsFittedBy 18 = .ok (.iload_n 3, 1) := by decide +kernel
theorem dX6_shaftsFittedBy_19 : decode cX6_shaftsFittedBy 19 = .ok (.iaload, 1) := by decide +kernel
theorem dX6_shaftsFittedBy_20 : decode cX6_shaftsFittedBy 20 = .ok (.invokevirtual 66, 3) := by decide +kernel
theorem dX6_shaftsFittedBy_23 : decode cX6_shaftsFittedBy 23 = .ok (.iload_n 1, 1) := by decide +kernel
theorem dX6_shaftsFittedBy_24 : decode cX6_shaftsFittedBy 24 = .ok (.if_icmp .gt 21, 3) := by decide +kernel
theorem dX6_shaftsFittedBy_27 : decode cX6_shaftsFittedBy 27 = .ok (.iload_n 1, 1) := by decide +kernel
theorem dX6_shaftsFittedBy_28 : decode cX6_shaftsFittedBy 28 = .ok (.aload_n 0, 1) := by decide +kernel
theorem dX6_shaftsFittedBy_29 : decode cX6_shaftsFittedBy 29 = .ok (.aload_n 0, 1) := by decide +kernel
theorem dX6_shaftsFittedBy_30 : decode cX6_shaftsFittedBy 30 = .ok (.getfield 9, 3) := by decide +kernel
theorem dX6_shaftsFittedBy_33 : decode cX6_shaftsFittedBy 33 = .ok (.iload_n 3, 1) := by decide +kernel
theorem dX6_shaftsFittedBy_34 : decode cX6_shaftsFittedBy 34 = .ok (.iaload, 1) := by decide +kernel
theorem dX6_shaftsFittedBy_35 : decode cX6_shaftsFittedBy 35 = .ok (.invokevirtual 69, 3) := by decide +kernel
theorem dX6_shaftsFittedBy_38 : decode cX6_shaftsFittedBy 38 = .ok (.if_icmp .gt 7, 3) := by decide +kernel
theorem dX6_shaftsFittedBy_41 : decode cX6_shaftsFittedBy 41 = .ok (.iconst 1, 1) := by decide +kernel
theorem dX6_shaftsFittedBy_42 : decode cX6_shaftsFittedBy 42 = .ok (.goto 4, 3) := by decide +kernel
theorem dX6_shaftsFittedBy_45 : decode cX6_shaftsFittedBy 45 = .ok (.iconst 0, 1) := by decide +kernel
theorem dX6_shaftsFittedBy_46 : decode cX6_shaftsFittedBy 46 = .ok (.iadd, 1) := by decide +kernel
theorem dX6_shaftsFittedBy_47 : decode cX6_shaftsFittedBy 47 = .ok (.istore_n 2, 1) := by decide +kernel
theorem dX6_shaftsFittedBy_48 : decode cX6_shaftsFittedBy 48 = .ok (.iinc 3 1, 3) := by decide +kernel
theorem dX6_shaftsFittedBy_51 : decode cX6_shaftsFittedBy 51 = .ok (.goto (-47), 3) := by decide +kernel
theorem dX6_shaftsFittedBy_54 : decode cX6_shaftsFittedBy 54 = .ok (.iload_n 2, 1) := by decide +kernel
theorem dX6_shaftsFittedBy_55 : decode cX6_shaftsFittedBy 55 = .ok (.ireturn, 1) := by decide +kernel
theorem dX6_begin_0 : decode cX6_begin 0 = .ok (.iload_n 1, 1) := by decide +kernel
theorem dX6_begin_1 : decode cX6_begin 1 = .ok (.invokestatic 46, 3) := by decide +kernel
theorem dX6_begin_4 : decode cX6_begin 4 = .ok (.istore_n 2, 1) := by decide +kernel
theorem dX6_begin_5 : decode cX6_begin 5 = .ok (.iload_n 2, 1) := by decide +kernel
theorem dX6_begin_6 : decode cX6_begin 6 = .ok (.iconst 4, 1) := by decide +kernel
theorem dX6_begin_7 : decode cX6_begin 7 = .ok (.invokestatic 62, 3) := by decide +kernel
theorem dX6_begin_10 : decode cX6_begin 10 = .ok (.ifCond .eq 17, 3) := by decide +kernel
theorem dX6_begin_13 : decode cX6_begin 13 = .ok (.iload_n 1, 1) := by decide +kernel
theorem dX6_begin_14 : decode cX6_begin 14 = .ok (.invokestatic 72, 3) := by decide +kernel
theorem dX6_begin_17 : decode cX6_begin 17 = .ok (.aload_n 0, 1) := by decide +kernel
theorem dX6_begin_18 : decode cX6_begin 18 = .ok (.getfield 18, 3) := by decide +kernel
theorem dX6_begin_21 : decode cX6_begin 21 = .ok (.iload_n 2, 1) := by decide +kernel
theorem dX6_begin_22 : decode cX6_begin 22 = .ok (.iaload, 1) := by decide +kernel
theorem dX6_begin_23 : decode cX6_begin 23 = .ok (.iadd, 1) := by decide +kernel
theorem dX6_begin_24 : decode cX6_begin 24 = .ok (.goto 7, 3) := by decide +kernel
theorem dX6_begin_27 : decode cX6_begin 27 = .ok (.iload_n 1, 1) := by decide +kernel
theorem dX6_begin_28 : decode cX6_begin 28 = .ok (.invokestatic 72, 3) := by decide +kernel
theorem dX6_begin_31 : decode cX6_begin 31 = .ok (.ireturn, 1) := by decide +kernel
theorem dX6_end_0 : decode cX6_end 0 = .ok (.iload_n 1, 1) := by decide +kernel
theorem dX6_end_1 : decode cX6_end 1 = .ok (.invokestatic 46, 3) := by decide +kernel
theorem dX6_end_4 : decode cX6_end 4 = .ok (.istore_n 2, 1) := by decide +kernel
theorem dX6_end_5 : decode cX6_end 5 = .ok (.iload_n 2, 1) := by decide +kernel
theorem dX6_end_6 : decode cX6_end 6 = .ok (.iconst 4, 1) := by decide +kernel
theorem dX6_end_7 : decode cX6_end 7 = .ok (.invokestatic 62, 3) := by decide +kernel
theorem dX6_end_10 : decode cX6_end 10 = .ok (.ifCond .eq 17, 3) := by decide +kernel
theorem dX6_end_13 : decode cX6_end 13 = .ok (.iload_n 1, 1) := by decide +kernel
theorem dX6_end_14 : decode cX6_end 14 = .ok (.invokestatic 72, 3) := by decide +kernel
theorem dX6_end_17 : decode cX6_end 17 = .ok (.aload_n 0, 1) := by decide +kernel
theorem dX6_end_18 : decode cX6_end 18 = .ok (.getfield 21, 3) := by decide +kernel
theorem dX6_end_21 : decode cX6_end 21 = .ok (.iload_n 2, 1) := by decide +kernel
theorem dX6_end_22 : decode cX6_end 22 = .ok (.iaload, 1) := by decide +kernel
theorem dX6_end_23 : decode cX6_end 23 = .ok (.iadd, 1) := by decide +kernel
theorem dX6_end_24 : decode cX6_end 24 = .ok (.goto 7, 3) := by decide +kernel
theorem dX6_end_27 : decode cX6_end 27 = .ok (.iload_n 1, 1) := by decide +kernel
theorem dX6_end_28 : decode cX6_end 28 = .ok (.invokestatic 72, 3) := by decide +kernel
theorem dX6_end_31 : decode cX6_end 31 = .ok (.ireturn, 1) := by decide +kernel
theorem dX7_init_0 : decode cX7_init 0 = .ok (.aload_n 0, 1) := by decide +kernel
theorem dX7_init_1 : decode cX7_init 1 = .ok (.invokespecial 1, 3) := by decide +kernel
theorem dX7_init_4 : decode cX7_init 4 = .ok (.aload_n 0, 1) := by decide +kernel
theorem dX7_init_5 : decode cX7_init 5 = .ok (.new 7, 3) := by decide +kernel
theorem dX7_init_8 : decode cX7_init 8 = .ok (.dup, 1) := by decide +kernel
theorem dX7_init_9 : decode cX7_init 9 = .ok (.invokespecial 9, 3) := by decide +kernel
theorem dX7_init_12 : decode cX7_init 12 = .ok (.putfield 10, 3) := by decide +kernel
theorem dX7_init_15 : decode cX7_init 15 = .ok (.aload_n 0, 1) := by decide +kernel
theorem dX7_init_16 : decode cX7_init 16 = .ok (.new 16, 3) := by decide +kernel
theorem dX7_init_19 : decode cX7_init 19 = .ok (.dup, 1) := by decide +kernel
theorem dX7_init_20 : decode cX7_init 20 = .ok (.invokespecial 18, 3) := by decide +kernel
theorem dX7_init_23 : decode cX7_init 23 = .ok (.putfield 19, 3) := by decide +kernel
theorem dX7_init_26 : decode cX7_init 26 = .ok (.aload_n 0, 1) := by decide +kernel
theorem dX7_init_27 : decode cX7_init 27 = .ok (.new 23, 3) := by decide +kernel
theorem dX7_init_30 : decode cX7_init 30 = .ok (.dup, 1) := by decide +kernel
theorem dX7_init_31 : decode cX7_init 31 = .ok (.invokespecial 25, 3) := by decide +kernel
theorem dX7_init_34 : decode cX7_init 34 = .ok (.putfield 26, 3) := by decide +kernel
theorem dX7_init_37 : decode cX7_init 37 = .ok (.aload_n 0, 1) := by decide +kernel
theorem dX7_init_38 : decode cX7_init 38 = .ok (.new 30, 3) := by decide +kernel
theorem dX7_init_41 : decode cX7_init 41 = .ok (.dup, 1) := by decide +kernel
theorem dX7_init_42 : decode cX7_init 42 = .ok (.invokespecial 32, 3) := by decide +kernel
theorem dX7_init_45 : decode cX7_init 45 = .ok (.putfield 33, 3) := by decide +kernel
theorem dX7_init_48 : decode cX7_init 48 = .ok (.aload_n 0, 1) := by decide +kernel
theorem dX7_init_49 : decode cX7_init 49 = .ok (.new 37, 3) := by decide +kernel
theorem dX7_init_52 : decode cX7_init 52 = .ok (.dup, 1) := by decide +kernel
theorem dX7_init_53 : decode cX7_init 53 = .ok (.invokespecial 39, 3) := by decide +kernel
theorem dX7_init_56 : decode cX7_init 56 = .ok (.putfield 40, 3) := by decide +kernel
theorem dX7_init_59 : decode cX7_init 59 = .ok (.aload_n 0, 1) := by decide +kernel
theorem dX7_init_60 : decode cX7_init 60 = .ok (.new 44, 3) := by decide +kernel
theorem dX7_init_63 : decode cX7_init 63 = .ok (.dup, 1) := by decide +kernel
theorem dX7_init_64 : decode cX7_init 64 = .ok (.invokespecial 46, 3) := by decide +kernel
theorem dX7_init_67 : decode cX7_init 67 = .ok (.putfield 47, 3) := by decide +kernel
theorem dX7_init_70 : decode cX7_init 70 = .ok (.aload_n 0, 1) := by decide +kernel
theorem dX7_init_71 : decode cX7_init 71 = .ok (.iconst 2, 1) := by decide +kernel
theorem dX7_init_72 : decode cX7_init 72 = .ok (.anewarray 51, 3) := by decide +kernel
theorem dX7_init_75 : decode cX7_init 75 = .ok (.putfield 53, 3) := by decide +kernel
theorem dX7_init_78 : decode cX7_init 78 = .ok (.aload_n 0, 1) := by decide +kernel
theorem dX7_init_79 : decode cX7_init 79 = .ok (.iconst 0, 1) := by decide +kernel
theorem dX7_init_80 : decode cX7_init 80 = .ok (.putfield 57, 3) := by decide +kernel
theorem dX7_init_83 : decode cX7_init 83 = .ok (.iconst 0, 1) := by decide +kernel
theorem dX7_init_84 : decode cX7_init 84 = .ok (.istore_n 1, 1) := by decide +kernel
theorem dX7_init_85 : decode cX7_init 85 = .ok (.iload_n 1, 1) := by decide +kernel
theorem dX7_init_86 : decode cX7_init 86 = .ok (.iconst 2, 1) := by decide +kernel
theorem dX7_init_87 : decode cX7_init 87 = .ok (.if_icmp .ge 22, 3) := by decide +kernel
theorem dX7_init_90 : decode cX7_init 90 = .ok (.aload_n 0, 1) := by decide +kernel
theorem dX7_init_91 : decode cX7_init 91 = .ok (.getfield 53, 3) := by decide +kernel
theorem dX7_init_94 : decode cX7_init 94 = .ok (.iload_n 1, 1) := by decide +kernel
theorem dX7_init_95 : decode cX7_init 95 = .ok (.new 51, 3) := by decide +kernel
theorem dX7_init_98 : decode cX7_init 98 = .ok (.dup, 1) := by decide +kernel
theorem dX7_init_99 : decode cX7_init 99 = .ok (.invokespecial 61, 3) := by decide +kernel
theorem dX7_init_102 : decode cX7_init 102 = .ok (.aastore, 1) := by decide +kernel
theorem dX7_init_103 : decode cX7_init 103 = .ok (.iinc 1 1, 3) := by decide +kernel
theorem dX7_init_106 : decode cX7_init 106 = .ok (.goto (-21), 3) := by decide +kernel
theorem dX7_init_109 : decode cX7_init 109 = .ok (.return_, 1) := by decide +kernel
theorem dX7_told_0 : decode cX7_told 0 = .ok (.iload_n 1, 1) := by decide +kernel
theorem dX7_told_1 : decode cX7_told 1 = .ok (.tableswitch 294 0 15 #[79, 87, 95, 103, 108, 121, 134, 147, 160, 179, 198, 206, 225, 244, 263, 286], 79) := by decide +kernel
theorem dX7_told_80 : decode cX7_told 80 = .ok (.aload_n 0, 1) := by decide +kernel
theorem dX7_told_81 : decode cX7_told 81 = .ok (.getfield 10, 3) := by decide +kernel
theorem dX7_told_84 : decode cX7_told 84 = .ok (.getfield 62, 3) := by decide +kernel
theorem dX7_told_87 : decode cX7_told 87 = .ok (.ireturn, 1) := by decide +kernel
theorem dX7_told_88 : decode cX7_told 88 = .ok (.aload_n 0, 1) := by decide +kernel
theorem dX7_told_89 : decode cX7_told 89 = .ok (.getfield 10, 3) := by decide +kernel
theorem dX7_told_92 : decode cX7_told 92 = .ok (.getfield 65, 3) := by decide +kernel
theorem dX7_told_95 : decode cX7_told 95 = .ok (.ireturn, 1) := by decide +kernel
theorem dX7_told_96 : decode cX7_told 96 = .ok (.aload_n 0, 1) := by decide +kernel
theorem dX7_told_97 : decode cX7_told 97 = .ok (.getfield 10, 3) := by decide +kernel
theorem dX7_told_100 : decode cX7_told 100 = .ok (.getfield 68, 3) := by decide +kernel
theorem dX7_told_103 : decode cX7_told 103 = .ok (.ireturn, 1) := by decide +kernel
theorem dX7_told_104 : decode cX7_told 104 = .ok (.aload_n 0, 1) := by decide +kernel
theorem dX7_told_105 : decode cX7_told 105 = .ok (.invokevirtual 71, 3) := by decide +kernel
theorem dX7_told_108 : decode cX7_told 108 = .ok (.ireturn, 1) := by decide +kernel
theorem dX7_told_109 : decode cX7_told 109 = .ok (.aload_n 0, 1) := by decide +kernel
theorem dX7_told_110 : decode cX7_told 110 = .ok (.getfield 10, 3) := by decide +kernel
theorem dX7_told_113 : decode cX7_told 113 = .ok (.getfield 62, 3) := by decide +kernel
theorem dX7_told_116 : decode cX7_told 116 = .ok (.aload_n 0, 1) := by decide +kernel
theorem dX7_told_117 : decode cX7_told 117 = .ok (.invokevirtual 71, 3) := by decide +kernel
theorem dX7_told_120 : decode cX7_told 120 = .ok (.isub, 1) := by decide +kernel
theorem dX7_told_121 : decode cX7_told 121 = .ok (.ireturn, 1) := by decide +kernel
theorem dX7_told_122 : decode cX7_told 122 = .ok (.aload_n 0, 1) := by decide +kernel
theorem dX7_told_123 : decode cX7_told 123 = .ok (.getfield 10, 3) := by decide +kernel
theorem dX7_told_126 : decode cX7_told 126 = .ok (.getfield 65, 3) := by decide +kernel
theorem dX7_told_129 : decode cX7_told 129 = .ok (.aload_n 0, 1) := by decide +kernel
theorem dX7_told_130 : decode cX7_told 130 = .ok (.invokevirtual 71, 3) := by decide +kernel
theorem dX7_told_133 : decode cX7_told 133 = .ok (.isub, 1) := by decide +kernel
theorem dX7_told_134 : decode cX7_told 134 = .ok (.ireturn, 1) := by decide +kernel
theorem dX7_told_135 : decode cX7_told 135 = .ok (.aload_n 0, 1) := by decide +kernel
theorem dX7_told_136 : decode cX7_told 136 = .ok (.invokevirtual 71, 3) := by decide +kernel
theorem dX7_told_139 : decode cX7_told 139 = .ok (.pop, 1) := by decide +kernel
theorem dX7_told_140 : decode cX7_told 140 = .ok (.aload_n 0, 1) := by decide +kernel
theorem dX7_told_141 : decode cX7_told 141 = .ok (.getfield 26, 3) := by decide +kernel
theorem dX7_told_144 : decode cX7_told 144 = .ok (.invokevirtual 75, 3) := by decide +kernel
theorem dX7_told_147 : decode cX7_told 147 = .ok (.ireturn, 1) := by decide +kernel
theorem dX7_told_148 : decode cX7_told 148 = .ok (.aload_n 0, 1) := by decide +kernel
theorem dX7_told_149 : decode cX7_told 149 = .ok (.invokevirtual 71, 3) := by decide +kernel
theorem dX7_told_152 : decode cX7_told 152 = .ok (.pop, 1) := by decide +kernel
theorem dX7_told_153 : decode cX7_told 153 = .ok (.aload_n 0, 1) := by decide +kernel
theorem dX7_told_154 : decode cX7_told 154 = .ok (.getfield 26, 3) := by decide +kernel
theorem dX7_told_157 : decode cX7_told 157 = .ok (.invokevirtual 78, 3) := by decide +kernel
theorem dX7_told_160 : decode cX7_told 160 = .ok (.ireturn, 1) := by decide +kernel
theorem dX7_told_161 : decode cX7_told 161 = .ok (.aload_n 0, 1) := by decide +kernel
theorem dX7_told_162 : decode cX7_told 162 = .ok (.getfield 26, 3) := by decide +kernel
theorem dX7_told_165 : decode cX7_told 165 = .ok (.aload_n 0, 1) := by decide +kernel
theorem dX7_told_166 : decode cX7_told 166 = .ok (.getfield 10, 3) := by decide +kernel
theorem dX7_told_169 : decode cX7_told 169 = .ok (.invokevirtual 81, 3) := by decide +kernel
theorem dX7_told_172 : decode cX7_told 172 = .ok (.aload_n 0, 1) := by decide +kernel
theorem dX7_told_173 : decode cX7_told 173 = .ok (.getfield 26, 3) := by decide +kernel
theorem dX7_told_176 : decode cX7_told 176 = .ok (.invokevirtual 85, 3) := by decide +kernel
theorem dX7_told_179 : decode cX7_told 179 = .ok (.ireturn, 1) := by decide +kernel
theorem dX7_told_180 : decode cX7_told 180 = .ok (.aload_n 0, 1) := by decide +kernel
theorem dX7_told_181 : decode cX7_told 181 = .ok (.getfield 26, 3) := by decide +kernel
theorem dX7_told_184 : decode cX7_told 184 = .ok (.aload_n 0, 1) := by decide +kernel
theorem dX7_told_185 : decode cX7_told 185 = .ok (.getfield 10, 3) := by decide +kernel
theorem dX7_told_188 : decode cX7_told 188 = .ok (.invokevirtual 81, 3) := by decide +kernel
theorem dX7_told_191 : decode cX7_told 191 = .ok (.aload_n 0, 1) := by decide +kernel
theorem dX7_told_192 : decode cX7_told 192 = .ok (.getfield 26, 3) := by decide +kernel
theorem dX7_told_195 : decode cX7_told 195 = .ok (.invokevirtual 88, 3) := by decide +kernel
theorem dX7_told_198 : decode cX7_told 198 = .ok (.ireturn, 1) := by decide +kernel
theorem dX7_told_199 : decode cX7_told 199 = .ok (.aload_n 0, 1) := by decide +kernel
theorem dX7_told_200 : decode cX7_told 200 = .ok (.getfield 47, 3) := by decide +kernel
theorem dX7_told_203 : decode cX7_told 203 = .ok (.getfield 91, 3) := by decide +kernel
theorem dX7_told_206 : decode cX7_told 206 = .ok (.ireturn, 1) := by decide +kernel
theorem dX7_told_207 : decode cX7_told 207 = .ok (.aload_n 0, 1) := by decide +kernel
theorem dX7_told_208 : decode cX7_told 208 = .ok (.getfield 47, 3) := by decide +kernel
theorem dX7_told_211 : decode cX7_told 211 = .ok (.aload_n 0, 1) := by decide +kernel
theorem dX7_told_212 : decode cX7_told 212 = .ok (.getfield 10, 3) := by decide +kernel
theorem dX7_told_215 : decode cX7_told 215 = .ok (.invokevirtual 94, 3) := by decide +kernel
theorem dX7_told_218 : decode cX7_told 218 = .ok (.aload_n 0, 1) := by decide +kernel
theorem dX7_told_219 : decode cX7_told 219 = .ok (.getfield 47, 3) := by decide +kernel
theorem dX7_told_222 : decode cX7_told 222 = .ok (.invokevirtual 97, 3) := by decide +kernel
theorem dX7_told_225 : decode cX7_told 225 = .ok (.ireturn, 1) := by decide +kernel
