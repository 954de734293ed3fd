theorem dX3_followTextOf_21 : decode cX3_followTextOf 21 = .ok (.aload_n 0, 1) := by decide +kernel
theorem dX3_followTextOf_22 : decode cX3_followTextOf 22 = .ok (.iconst (-1), 1) := by decide +kernel
theorem dX3_followTextOf_23 : decode cX3_followTextOf 23 = .ok (.putfield 22, 3) := by decide +kernel
theorem dX3_followTextOf_26 : decode cX3_followTextOf 26 = .ok (.return_, 1) := by decide +kernel
theorem dX3_grow_0 : decode cX3_grow 0 = .ok (.aload_n 0, 1) := by decide +kernel
theorem dX3_grow_1 : decode cX3_grow 1 = .ok (.iload_n 1, 1) := by decide +kernel
theorem dX3_grow_2 : decode cX3_grow 2 = .ok (.iload_n 2, 1) := by decide +kernel
theorem dX3_grow_3 : decode cX3_grow 3 = .ok (.iload_n 3, 1) := by decide +kernel
theorem dX3_grow_4 : decode cX3_grow 4 = .ok (.invokestatic 41, 3) := by decide +kernel
theorem dX3_grow_7 : decode cX3_grow 7 = .ok (.iconst 0, 1) := by decide +kernel
theorem dX3_grow_8 : decode cX3_grow 8 = .ok (.iload_n 1, 1) := by decide +kernel
theorem dX3_grow_9 : decode cX3_grow 9 = .ok (.invokestatic 45, 3) := by decide +kernel
theorem dX3_grow_12 : decode cX3_grow 12 = .ok (.iconst 1, 1) := by decide +kernel
theorem dX3_grow_13 : decode cX3_grow 13 = .ok (.invokevirtual 49, 3) := by decide +kernel
theorem dX3_grow_16 : decode cX3_grow 16 = .ok (.return_, 1) := by decide +kernel
theorem dX3_change_0 : decode cX3_change 0 = .ok (.aload_n 0, 1) := by decide +kernel
theorem dX3_change_1 : decode cX3_change 1 = .ok (.getfield 12, 3) := by decide +kernel
theorem dX3_change_4 : decode cX3_change 4 = .ok (.iload_n 1, 1) := by decide +kernel
theorem dX3_change_5 : decode cX3_change 5 = .ok (.invokevirtual 53, 3) := by decide +kernel
theorem dX3_change_8 : decode cX3_change 8 = .ok (.istore 4, 2) := by decide +kernel
theorem dX3_change_10 : decode cX3_change 10 = .ok (.aload_n 0, 1) := by decide +kernel
theorem dX3_change_11 : decode cX3_change 11 = .ok (.getfield 57, 3) := by decide +kernel
theorem dX3_change_14 : decode cX3_change 14 = .ok (.i2l, 1) := by decide +kernel
theorem dX3_change_15 : decode cX3_change 15 = .ok (.lstore 5, 2) := by decide +kernel
theorem dX3_change_17 : decode cX3_change 17 = .ok (.iload_n 2, 1) := by decide +kernel
theorem dX3_change_18 : decode cX3_change 18 = .ok (.aload_n 0, 1) := by decide +kernel
theorem dX3_change_19 : decode cX3_change 19 = .ok (.getfield 22, 3) := by decide +kernel
theorem dX3_change_22 : decode cX3_change 22 = .ok (.if_icmp .eq 33, 3) := by decide +kernel
theorem dX3_change_25 : decode cX3_change 25 = .ok (.aload_n 0, 1) := by decide +kernel
theorem dX3_change_26 : decode cX3_change 26 = .ok (.getfield 25, 3) := by decide +kernel
theorem dX3_change_29 : decode cX3_change 29 = .ok (.iload_n 2, 1) := by decide +kernel
theorem dX3_change_30 : decode cX3_change 30 = .ok (.iload 4, 2) := by decide +kernel
theorem dX3_change_32 : decode cX3_change 32 = .ok (.iload_n 1, 1) := by decide +kernel
theorem dX3_change_33 : decode cX3_change 33 = .ok (.invokestatic 60, 3) := by decide +kernel
theorem dX3_change_36 : decode cX3_change 36 = .ok (.aload_n 0, 1) := by decide +kernel
theorem dX3_change_37 : decode cX3_change 37 = .ok (.getfield 12, 3) := by decide +kernel
theorem dX3_change_40 : decode cX3_change 40 = .ok (.getfield 63, 3) := by decide +kernel
theorem dX3_change_43 : decode cX3_change 43 = .ok (.aload_n 0, 1) := by decide +kernel
theorem dX3_change_44 : decode cX3_change 44 = .ok (.getfield 12, 3) := by decide +kernel
theorem dX3_change_47 : decode cX3_change 47 = .ok (.getfield 66, 3) := by decide +kernel
theorem dX3_change_50 : decode cX3_change 50 = .ok (.invokevirtual 69, 3) := by decide +kernel
theorem dX3_change_53 : decode cX3_change 53 = .ok (.lstore 5, 2) := by decide +kernel
theorem dX3_change_55 : decode cX3_change 55 = .ok (.aload_n 0, 1) := by decide +kernel
theorem dX3_change_56 : decode cX3_change 56 = .ok (.getfield 12, 3) := by decide +kernel
theorem dX3_change_59 : decode cX3_change 59 = .ok (.iload_n 1, 1) := by decide +kernel
theorem dX3_change_60 : decode cX3_change 60 = .ok (.lconst 0, 1) := by decide +kernel
theorem dX3_change_61 : decode cX3_change 61 = .ok (.iload 4, 2) := by decide +kernel
theorem dX3_change_63 : decode cX3_change 63 = .ok (.i2l, 1) := by decide +kernel
theorem dX3_change_64 : decode cX3_change 64 = .ok (.iload_n 3, 1) := by decide +kernel
theorem dX3_change_65 : decode cX3_change 65 = .ok (.i2l, 1) := by decide +kernel
theorem dX3_change_66 : decode cX3_change 66 = .ok (.lload 5, 2) := by decide +kernel
theorem dX3_change_68 : decode cX3_change 68 = .ok (.lmul, 1) := by decide +kernel
theorem dX3_change_69 : decode cX3_change 69 = .ok (.ladd, 1) := by decide +kernel
theorem dX3_change_70 : decode cX3_change 70 = .ok (.ldc2_w 75, 3) := by decide +kernel
theorem dX3_change_73 : decode cX3_change 73 = .ok (.invokestatic 77, 3) := by decide +kernel
theorem dX3_change_76 : decode cX3_change 76 = .ok (.invokestatic 83, 3) := by decide +kernel
theorem dX3_change_79 : decode cX3_change 79 = .ok (.l2i, 1) := by decide +kernel
theorem dX3_change_80 : decode cX3_change 80 = .ok (.invokevirtual 86, 3) := by decide +kernel
theorem dX3_change_83 : decode cX3_change 83 = .ok (.return_, 1) := by decide +kernel
theorem dX3_readOnce_0 : decode cX3_readOnce 0 = .ok (.iconst 0, 1) := by decide +kernel
theorem dX3_readOnce_1 : decode cX3_readOnce 1 = .ok (.istore_n 2, 1) := by decide +kernel
theorem dX3_readOnce_2 : decode cX3_readOnce 2 = .ok (.iload_n 2, 1) := by decide +kernel
theorem dX3_readOnce_3 : decode cX3_readOnce 3 = .ok (.aload_n 0, 1) := by decide +kernel
theorem dX3_readOnce_4 : decode cX3_readOnce 4 = .ok (.getfield 29, 3) := by decide +kernel
theorem dX3_readOnce_7 : decode cX3_readOnce 7 = .ok (.getfield 90, 3) := by decide +kernel
theorem dX3_readOnce_10 : decode cX3_readOnce 10 = .ok (.iload_n 1, 1) := by decide +kernel
theorem dX3_readOnce_11 : decode cX3_readOnce 11 = .ok (.iaload, 1) := by decide +kernel
theorem dX3_readOnce_12 : decode cX3_readOnce 12 = .ok (.if_icmp .ge 89, 3) := by decide +kernel
theorem dX3_readOnce_15 : decode cX3_readOnce 15 = .ok (.aload_n 0, 1) := by decide +kernel
theorem dX3_readOnce_16 : decode cX3_readOnce 16 = .ok (.getfield 29, 3) := by decide +kernel
theorem dX3_readOnce_19 : decode cX3_readOnce 19 = .ok (.iload_n 1, 1) := by decide +kernel
theorem dX3_readOnce_20 : decode cX3_readOnce 20 = .ok (.iload_n 2, 1) := by decide +kernel
theorem dX3_readOnce_21 : decode cX3_readOnce 21 = .ok (.invokevirtual 96, 3) := by decide +kernel
theorem dX3_readOnce_24 : decode cX3_readOnce 24 = .ok (.istore_n 3, 1) := by decide +kernel
theorem dX3_readOnce_25 : decode cX3_readOnce 25 = .ok (.aload_n 0, 1) := by decide +kernel
theorem dX3_readOnce_26 : decode cX3_readOnce 26 = .ok (.iconst 3, 1) := by decide +kernel
theorem dX3_readOnce_27 : decode cX3_readOnce 27 = .ok (.iload_n 3, 1) := by decide +kernel
theorem dX3_readOnce_28 : decode cX3_readOnce 28 = .ok (.iload_n 2, 1) := by decide +kernel
theorem dX3_readOnce_29 : decode cX3_readOnce 29 = .ok (.invokevirtual 99, 3) := by decide +kernel
theorem dX3_readOnce_32 : decode cX3_readOnce 32 = .ok (.iload_n 2, 1) := by decide +kernel
theorem dX3_readOnce_33 : decode cX3_readOnce 33 = .ok (.iconst 1, 1) := by decide +kernel
theorem dX3_readOnce_34 : decode cX3_readOnce 34 = .ok (.if_icmp .lt 61, 3) := by decide +kernel
theorem dX3_readOnce_37 : decode cX3_readOnce 37 = .ok (.aload_n 0, 1) := by decide +kernel
theorem dX3_readOnce_38 : decode cX3_readOnce 38 = .ok (.getfield 29, 3) := by decide +kernel
theorem dX3_readOnce_41 : decode cX3_readOnce 41 = .ok (.iload_n 1, 1) := by decide +kernel
theorem dX3_readOnce_42 : decode cX3_readOnce 42 = .ok (.iload_n 2, 1) := by decide +kernel
theorem dX3_readOnce_43 : decode cX3_readOnce 43 = .ok (.iconst 1, 1) := by decide +kernel
theorem dX3_readOnce_44 : decode cX3_readOnce 44 = .ok (.isub, 1) := by decide +kernel
theorem dX3_readOnce_45 : decode cX3_readOnce 45 = .ok (.invokevirtual 96, 3) := by decide +kernel
theorem dX3_readOnce_48 : decode cX3_readOnce 48 = .ok (.istore 4, 2) := by decide +kernel
theorem dX3_readOnce_50 : decode cX3_readOnce 50 = .ok (.aload_n 0, 1) := by decide +kernel
theorem dX3_readOnce_51 : decode cX3_readOnce 51 = .ok (.iconst 0, 1) := by decide +kernel
theorem dX3_readOnce_52 : decode cX3_readOnce 52 = .ok (.iload 4, 2) := by decide +kernel
theorem dX3_readOnce_54 : decode cX3_readOnce 54 = .ok (.iload_n 3, 1) := by decide +kernel
theorem dX3_readOnce_55 : decode cX3_readOnce 55 = .ok (.invokevirtual 99, 3) := by decide +kernel
theorem dX3_readOnce_58 : decode cX3_readOnce 58 = .ok (.aload_n 0, 1) := by decide +kernel
theorem dX3_readOnce_59 : decode cX3_readOnce 59 = .ok (.iconst 1, 1) := by decide +kernel
theorem dX3_readOnce_60 : decode cX3_readOnce 60 = .ok (.iload_n 3, 1) := by decide +kernel
theorem dX3_readOnce_61 : decode cX3_readOnce 61 = .ok (.iload 4, 2) := by decide +kernel
theorem dX3_readOnce_63 : decode cX3_readOnce 63 = .ok (.invokevirtual 99, 3) := by decide +kernel
theorem dX3_readOnce_66 : decode cX3_readOnce 66 = .ok (.iload_n 2, 1) := by decide +kernel
theorem dX3_readOnce_67 : decode cX3_readOnce 67 = .ok (.iconst 2, 1) := by decide +kernel
theorem dX3_readOnce_68 : decode cX3_readOnce 68 = .ok (.if_icmp .lt 20, 3) := by decide +kernel
theorem dX3_readOnce_71 : decode cX3_readOnce 71 = .ok (.aload_n 0, 1) := by decide +kernel
theorem dX3_readOnce_72 : decode cX3_readOnce 72 = .ok (.iconst 2, 1) := by decide +kernel
theorem dX3_readOnce_73 : decode cX3_readOnce 73 = .ok (.aload_n 0, 1) := by decide +kernel
theorem dX3_readOnce_74 : decode cX3_readOnce 74 = .ok (.getfield 29, 3) := by decide +kernel
theorem dX3_readOnce_77 : decode cX3_readOnce 77 = .ok (.iload_n 1, 1) := by decide +kernel
theorem dX3_readOnce_78 : decode cX3_readOnce 78 = .ok (.iload_n 2, 1) := by decide +kernel
theorem dX3_readOnce_79 : decode cX3_readOnce 79 = .ok (.iconst 2, 1) := by decide +kernel
theorem dX3_readOnce_80 : decode cX3_readOnce 80 = .ok (.isub, 1) := by decide +kernel
theorem dX3_readOnce_81 : decode cX3_readOnce 81 = .ok (.invokevirtual 96, 3) := by decide +kernel
theorem dX3_readOnce_84 : decode cX3_readOnce 84 = .ok (.iload_n 3, 1) := by decide +kernel
theorem dX3_readOnce_85 : decode cX3_readOnce 85 = .ok (.invokevirtual 99, 3) := by decide +kernel
theorem dX3_readOnce_88 : decode cX3_readOnce 88 = .ok (.aload_n 0, 1) := by decide +kernel
theorem dX3_readOnce_89 : decode cX3_readOnce 89 = .ok (.iload 4, 2) := by decide +kernel
theorem dX3_readOnce_91 : decode cX3_readOnce 91 = .ok (.iload_n 3, 1) := by decide +kernel
theorem dX3_readOnce_92 : decode cX3_readOnce 92 = .ok (.invokevirtual 102, 3) := by decide +kernel
theorem dX3_readOnce_95 : decode cX3_readOnce 95 = .ok (.iinc 2 1, 3) := by decide +kernel
theorem dX3_readOnce_98 : decode cX3_readOnce 98 = .ok (.goto (-96), 3) := by decide +kernel
theorem dX3_readOnce_101 : decode cX3_readOnce 101 = .ok (.aload_n 0, 1) := by decide +kernel
theorem dX3_readOnce_102 : decode cX3_readOnce 102 = .ok (.getfield 12, 3) := by decide +kernel
theorem dX3_readOnce_105 : decode cX3_readOnce 105 = .ok (.dup, 1) := by decide +kernel
theorem dX3_readOnce_106 : decode cX3_readOnce 106 = .ok (.getfield 63, 3) := by decide +kernel
theorem dX3_readOnce_109 : decode cX3_readOnce 109 = .ok (.iconst 1, 1) := by decide +kernel
theorem dX3_readOnce_110 : decode cX3_readOnce 110 = .ok (.iadd, 1) := by decide +kernel
theorem dX3_readOnce_111 : decode cX3_readOnce 111 = .ok (.putfield 63, 3) := by decide +kernel
theorem dX3_readOnce_114 : decode cX3_readOnce 114 = .ok (.return_, 1) := by decide +kernel
theorem dX3_mixBeside_0 : decode cX3_mixBeside 0 = .ok (.iconst 2, 1) := by decide +kernel
theorem dX3_mixBeside_1 : decode cX3_mixBeside 1 = .ok (.iconst 0, 1) := by decide +kernel
theorem dX3_mixBeside_2 : decode cX3_mixBeside 2 = .ok (.invokestatic 45, 3) := by decide +kernel
theorem dX3_mixBeside_5 : decode cX3_mixBeside 5 = .ok (.istore_n 3, 1) := by decide +kernel
theorem dX3_mixBeside_6 : decode cX3_mixBeside 6 = .ok (.aload_n 0, 1) := by decide +kernel
theorem dX3_mixBeside_7 : decode cX3_mixBeside 7 = .ok (.getfield 25, 3) := by decide +kernel
theorem dX3_mixBeside_10 : decode cX3_mixBeside 10 = .ok (.iload_n 3, 1) := by decide +kernel
theorem dX3_mixBeside_11 : decode cX3_mixBeside 11 = .ok (.invokevirtual 105, 3) := by decide +kernel
theorem dX3_mixBeside_14 : decode cX3_mixBeside 14 = .ok (.ifCond .ne 4, 3) := by decide +kernel
theorem dX3_mixBeside_17 : decode cX3_mixBeside 17 = .ok (.return_, 1) := by decide +kernel
theorem dX3_mixBeside_18 : decode cX3_mixBeside 18 = .ok (.iconst 0, 1) := by decide +kernel
theorem dX3_mixBeside_19 : decode cX3_mixBeside 19 = .ok (.istore 4, 2) := by decide +kernel
theorem dX3_mixBeside_21 : decode cX3_mixBeside 21 = .ok (.iload 4, 2) := by decide +kernel
theorem dX3_mixBeside_23 : decode cX3_mixBeside 23 = .ok (.aload_n 0, 1) := by decide +kernel
theorem dX3_mixBeside_24 : decode cX3_mixBeside 24 = .ok (.getfield 25, 3) := by decide +kernel
theorem dX3_mixBeside_27 : decode cX3_mixBeside 27 = .ok (.getfield 109, 3) := by decide +kernel
theorem dX3_mixBeside_30 : decode cX3_mixBeside 30 = .ok (.if_icmp .ge 44, 3) := by decide +kernel
theorem dX3_mixBeside_33 : decode cX3_mixBeside 33 = .ok (.iconst 0, 1) := by decide +kernel
theorem dX3_mixBeside_34 : decode cX3_mixBeside 34 = .ok (.iload_n 1, 1) := by decide +kernel
theorem dX3_mixBeside_35 : decode cX3_mixBeside 35 = .ok (.iload 4, 2) := by decide +kernel
theorem dX3_mixBeside_37 : decode cX3_mixBeside 37 = .ok (.invokestatic 41, 3) := by decide +kernel
theorem dX3_mixBeside_40 : decode cX3_mixBeside 40 = .ok (.istore 5, 2) := by decide +kernel
theorem dX3_mixBeside_42 : decode cX3_mixBeside 42 = .ok (.iload 4, 2) := by decide +kernel
theorem dX3_mixBeside_44 : decode cX3_mixBeside 44 = .ok (.iload_n 2, 1) := by decide +kernel
theorem dX3_mixBeside_45 : decode cX3_mixBeside 45 = .ok (.if_icmp .eq 23, 3) := by decide +kernel
theorem dX3_mixBeside_48 : decode cX3_mixBeside 48 = .ok (.aload_n 0, 1) := by decide +kernel
theorem dX3_mixBeside_49 : decode cX3_mixBeside 49 = .ok (.getfield 12, 3) := by decide +kernel
theorem dX3_mixBeside_52 : decode cX3_mixBeside 52 = .ok (.iload 5, 2) := by decide +kernel
theorem dX3_mixBeside_54 : decode cX3_mixBeside 54 = .ok (.invokevirtual 53, 3) := by decide +kernel
theorem dX3_mixBeside_57 : decode cX3_mixBeside 57 = .ok (.ifCond .le 11, 3) := by decide +kernel
theorem dX3_mixBeside_60 : decode cX3_mixBeside 60 = .ok (.aload_n 0, 1) := by decide +kernel
theorem dX3_mixBeside_61 : decode cX3_mixBeside 61 = .ok (.iload 5, 2) := by decide +kernel
theorem dX3_mixBeside_63 : decode cX3_mixBeside 63 = .ok (.iload_n 3, 1) := by decide +kernel
theorem dX3_mixBeside_64 : decode cX3_mixBeside 64 = .ok (.iconst (-1), 1) := by decide +kernel
theorem dX3_mixBeside_65 : decode cX3_mixBeside 65 = .ok (.invokevirtual 49, 3) := by decide +kernel
theorem dX3_mixBeside_68 : decode cX3_mixBeside 68 = .ok (.iinc 4 1, 3) := by decide +kernel
theorem dX3_mixBeside_71 : decode cX3_mixBeside 71 = .ok (.goto (-50), 3) := by decide +kernel
theorem dX3_mixBeside_74 : decode cX3_mixBeside 74 = .ok (.return_, 1) := by decide +kernel
theorem dX3_readTimes_0 : decode cX3_readTimes 0 = .ok (.iconst 0, 1) := by decide +kernel
theorem dX3_readTimes_1 : decode cX3_readTimes 1 = .ok (.istore_n 3, 1) := by decide +kernel
theorem dX3_readTimes_2 : decode cX3_readTimes 2 = .ok (.iload_n 3, 1) := by decide +kernel
theorem dX3_readTimes_3 : decode cX3_readTimes 3 = .ok (.iload_n 2, 1) := by decide +kernel
theorem dX3_readTimes_4 : decode cX3_readTimes 4 = .ok (.if_icmp .ge 14, 3) := by decide +kernel
theorem dX3_readTimes_7 : decode cX3_readTimes 7 = .ok (.aload_n 0, 1) := by decide +kernel
theorem dX3_readTimes_8 : decode cX3_readTimes 8 = .ok (.iload_n 1, 1) := by decide +kernel
theorem dX3_readTimes_9 : decode cX3_readTimes 9 = .ok (.invokevirtual 112, 3) := by decide +kernel
theorem dX3_readTimes_12 : decode cX3_readTimes 12 = .ok (.iinc 3 1, 3) := by decide +kernel
theorem dX3_readTimes_15 : decode cX3_readTimes 15 = .ok (.goto (-13), 3) := by decide +kernel
theorem dX3_readTimes_18 : decode cX3_readTimes 18 = .ok (.return_, 1) := by decide +kernel
theorem dX3_learnRow_0 : decode cX3_learnRow 0 = .ok (.iconst 0, 1) := by decide +kernel
theorem dX3_learnRow_1 : decode cX3_learnRow 1 = .ok (.istore_n 2, 1) := by decide +kernel
theorem dX3_learnRow_2 : decode cX3_learnRow 2 = .ok (.iconst 1, 1) := by decide +kernel
theorem dX3_learnRow_3 : decode cX3_learnRow 3 = .ok (.istore_n 3, 1) := by decide +kernel
theorem dX3_learnRow_4 : decode cX3_learnRow 4 = .ok (.iload_n 3, 1) := by decide +kernel
theorem dX3_learnRow_5 : decode cX3_learnRow 5 = .ok (.bipush 40, 2) := by decide +kernel
theorem dX3_learnRow_7 : decode cX3_learnRow 7 = .ok (.if_icmp .gt 37, 3) := by decide +kernel
theorem dX3_learnRow_10 : decode cX3_learnRow 10 = .ok (.aload_n 0, 1) := by decide +kernel
theorem dX3_learnRow_11 : decode cX3_learnRow 11 = .ok (.iload_n 1, 1) := by decide +kernel
theorem dX3_learnRow_12 : decode cX3_learnRow 12 = .ok (.invokevirtual 112, 3) := by decide +kernel
theorem dX3_learnRow_15 : decode cX3_learnRow 15 = .ok (.aload_n 0, 1) := by decide +kernel
theorem dX3_learnRow_16 : decode cX3_learnRow 16 = .ok (.iload_n 1, 1) := by decide +kernel
theorem dX3_learnRow_17 : decode cX3_learnRow 17 = .ok (.invokevirtual 116, 3) := by decide +kernel
theorem dX3_learnRow_20 : decode cX3_learnRow 20 = .ok (.ifCond .ne 9, 3) := by decide +kernel
theorem dX3_learnRow_23 : decode cX3_learnRow 23 = .ok (.iload_n 2, 1) := by decide +kernel
theorem dX3_learnRow_24 : decode cX3_learnRow 24 = .ok (.iconst 1, 1) := by decide +kernel
theorem dX3_learnRow_25 : decode cX3_learnRow 25 = .ok (.iadd, 1) := by decide +kernel
theorem dX3_learnRow_26 : decode cX3_learnRow 26 = .ok (.goto 4, 3) := by decide +kernel
theorem dX3_learnRow_29 : decode cX3_learnRow 29 = .ok (.iconst 0, 1) := by decide +kernel
theorem dX3_learnRow_30 : decode cX3_learnRow 30 = .ok (.istore_n 2, 1) := by decide +kernel
theorem dX3_learnRow_31 : decode cX3_learnRow 31 = .ok (.iload_n 2, 1) := by decide +kernel
theorem dX3_learnRow_32 : decode cX3_learnRow 32 = .ok (.iconst 2, 1) := by decide +kernel
theorem dX3_learnRow_33 : decode cX3_learnRow 33 = .ok (.if_icmp .ne 5, 3) := by decide +kernel
theorem dX3_learnRow_36 : decode cX3_learnRow 36 = .ok (.iload_n 3, 1) := by decide +kernel
theorem dX3_learnRow_37 : decode cX3_learnRow 37 = .ok (.ireturn, 1) := by decide +kernel
theorem dX3_learnRow_38 : decode cX3_learnRow 38 = .ok (.iinc 3 1, 3) := by decide +kernel
theorem dX3_learnRow_41 : decode cX3_learnRow 41 = .ok (.goto (-37), 3) := by decide +kernel
theorem dX3_learnRow_44 : decode cX3_learnRow 44 = .ok (.iconst (-1), 1) := by decide +kernel
theorem dX3_learnRow_45 : decode cX3_learnRow 45 = .ok (.ireturn, 1) := by decide +kernel
theorem dX3_passHours_0 : decode cX3_passHours 0 = .ok (.iconst 0, 1) := by decide +kernel
theorem dX3_passHours_1 : decode cX3_passHours 1 = .ok (.istore_n 2, 1) := by decide +kernel
theorem dX3_passHours_2 : decode cX3_passHours 2 = .ok (.iload_n 2, 1) := by decide +kernel
theorem dX3_passHours_3 : decode cX3_passHours 3 = .ok (.iload_n 1, 1) := by decide +kernel
theorem dX3_passHours_4 : decode cX3_passHours 4 = .ok (.if_icmp .ge 13, 3) := by decide +kernel
theorem dX3_passHours_7 : decode cX3_passHours 7 = .ok (.aload_n 0, 1) := by decide +kernel
theorem dX3_passHours_8 : decode cX3_passHours 8 = .ok (.invokevirtual 119, 3) := by decide +kernel
theorem dX3_passHours_11 : decode cX3_passHours 11 = .ok (.iinc 2 1, 3) := by decide +kernel
theorem dX3_passHours_14 : decode cX3_passHours 14 = .ok (.goto (-12), 3) := by decide +kernel
theorem dX3_passHours_17 : decode cX3_passHours 17 = .ok (.return_, 1) := by decide +kernel
theorem dX3_passHour_0 : decode cX3_passHour 0 = .ok (.iconst 0, 1) := by decide +kernel
theorem dX3_passHour_1 : decode cX3_passHour 1 = .ok (.istore_n 1, 1) := by decide +kernel
theorem dX3_passHour_2 : decode cX3_passHour 2 = .ok (.iload_n 1, 1) := by decide +kernel
theorem dX3_passHour_3 : decode cX3_passHour 3 = .ok (.aload_n 0, 1) := by decide +kernel
theorem dX3_passHour_4 : decode cX3_passHour 4 = .ok (.getfield 12, 3) := by decide +kernel
theorem dX3_passHour_7 : decode cX3_passHour 7 = .ok (.invokevirtual 122, 3) := by decide +kernel
theorem dX3_passHour_10 : decode cX3_passHour 10 = .ok (.if_icmp .ge 43, 3) := by decide +kernel
theorem dX3_passHour_13 : decode cX3_passHour 13 = .ok (.aload_n 0, 1) := by decide +kernel
theorem dX3_passHour_14 : decode cX3_passHour 14 = .ok (.getfield 12, 3) := by decide +kernel
theorem dX3_passHour_17 : decode cX3_passHour 17 = .ok (.iload_n 1, 1) := by decide +kernel
theorem dX3_passHour_18 : decode cX3_passHour 18 = .ok (.invokevirtual 126, 3) := by decide +kernel
theorem dX3_passHour_21 : decode cX3_passHour 21 = .ok (.istore_n 2, 1) := by decide +kernel
theorem dX3_passHour_22 : decode cX3_passHour 22 = .ok (.aload_n 0, 1) := by decide +kernel
theorem dX3_passHour_23 : decode cX3_passHour 23 = .ok (.getfield 12, 3) := by decide +kernel
theorem dX3_passHour_26 : decode cX3_passHour 26 = .ok (.iload_n 2, 1) := by decide +kernel
theorem dX3_passHour_27 : decode cX3_passHour 27 = .ok (.invokevirtual 53, 3) := by decide +kernel
theorem dX3_passHour_30 : decode cX3_passHour 30 = .ok (.ifCond .le 17, 3) := by decide +kernel
theorem dX3_passHour_33 : decode cX3_passHour 33 = .ok (.aload_n 0, 1) := by decide +kernel
theorem dX3_passHour_34 : decode cX3_passHour 34 = .ok (.iload_n 2, 1) := by decide +kernel
theorem dX3_passHour_35 : decode cX3_passHour 35 = .ok (.iconst 1, 1) := by decide +kernel
theorem dX3_passHour_36 : decode cX3_passHour 36 = .ok (.iload_n 2, 1) := by decide +kernel
theorem dX3_passHour_37 : decode cX3_passHour 37 = .ok (.invokestatic 129, 3) := by decide +kernel
theorem dX3_passHour_40 : decode cX3_passHour 40 = .ok (.invokestatic 45, 3) := by decide +kernel
theorem dX3_passHour_43 : decode cX3_passHour 43 = .ok (.iconst (-1), 1) := by decide +kernel
theorem dX3_passHour_44 : decode cX3_passHour 44 = .ok (.invokevirtual 49, 3) := by decide +kernel
theorem dX3_passHour_47 : decode cX3_passHour 47 = .ok (.iinc 1 1, 3) := by decide +kernel
theorem dX3_passHour_50 : decode cX3_passHour 50 = .ok (.goto (-48), 3) := by decide +kernel
theorem dX3_passHour_53 : decode cX3_passHour 53 = .ok (.aload_n 0, 1) := by decide +kernel
theorem dX3_passHour_54 : decode cX3_passHour 54 = .ok (.getfield 12, 3) := by decide +kernel
theorem dX3_passHour_57 : decode cX3_passHour 57 = .ok (.invokevirtual 132, 3) := by decide +kernel
theorem dX3_passHour_60 : decode cX3_passHour 60 = .ok (.aload_n 0, 1) := by decide +kernel
theorem dX3_passHour_61 : decode cX3_passHour 61 = .ok (.getfield 12, 3) := by decide +kernel
theorem dX3_passHour_64 : decode cX3_passHour 64 = .ok (.dup, 1) := by decide +kernel
theorem dX3_passHour_65 : decode cX3_passHour 65 = .ok (.getfield 66, 3) := by decide +kernel
theorem dX3_passHour_68 : decode cX3_passHour 68 = .ok (.iconst 1, 1) := by decide +kernel
theorem dX3_passHour_69 : decode cX3_passHour 69 = .ok (.iadd, 1) := by decide +kernel
theorem dX3_passHour_70 : decode cX3_passHour 70 = .ok (.putfield 66, 3) := by decide +kernel
theorem dX3_passHour_73 : decode cX3_passHour 73 = .ok (.aload_n 0, 1) := by decide +kernel
theorem dX3_passHour_74 : decode cX3_passHour 74 = .ok (.getfield 12, 3) := by decide +kernel
theorem dX3_passHour_77 : decode cX3_passHour 77 = .ok (.iconst 0, 1) := by decide +kernel
theorem dX3_passHour_78 : decode cX3_passHour 78 = .ok (.putfield 63, 3) := by decide +kernel
theorem dX3_passHour_81 : decode cX3_passHour 81 = .ok (.return_, 1) := by decide +kernel
theorem dX3_supportOf_0 : decode cX3_supportOf 0 = .ok (.aload_n 0, 1) := by decide +kernel
theorem dX3_supportOf_1 : decode cX3_supportOf 1 = .ok (.getfield 29, 3) := by decide +kernel
theorem dX3_supportOf_4 : decode cX3_supportOf 4 = .ok (.iload_n 1, 1) := by decide +kernel
theorem dX3_supportOf_5 : decode cX3_supportOf 5 = .ok (.iload_n 2, 1) := by decide +kernel
theorem dX3_supportOf_6 : decode cX3_supportOf 6 = .ok (.invokevirtual 96, 3) := by decide +kernel
theorem dX3_supportOf_9 : decode cX3_supportOf 9 = .ok (.istore_n 3, 1) := by decide +kernel
theorem dX3_supportOf_10 : decode cX3_supportOf 10 = .ok (.aload_n 0, 1) := by decide +kernel
theorem dX3_supportOf_11 : decode cX3_supportOf 11 = .ok (.iconst 3, 1) := by decide +kernel
theorem dX3_supportOf_12 : decode cX3_supportOf 12 = .ok (.iload_n 3, 1) := by decide +kernel
theorem dX3_supportOf_13 : decode cX3_supportOf 13 = .ok (.iload_n 2, 1) := by decide +kernel
theorem dX3_supportOf_14 : decode cX3_supportOf 14 = .ok (.invokevirtual 135, 3) := by decide +kernel
theorem dX3_supportOf_17 : decode cX3_supportOf 17 = .ok (.istore 4, 2) := by decide +kernel
theorem dX3_supportOf_19 : decode cX3_supportOf 19 = .ok (.iload_n 2, 1) := by decide +kernel
theorem dX3_supportOf_20 : decode cX3_supportOf 20 = .ok (.iconst 1, 1) := by decide +kernel
theorem dX3_supportOf_21 : decode cX3_supportOf 21 = .ok (.if_icmp .lt 47, 3) := by decide +kernel
theorem dX3_supportOf_24 : decode cX3_supportOf 24 = .ok (.aload_n 0, 1) := by decide +kernel
theorem dX3_supportOf_25 : decode cX3_supportOf 25 = .ok (.getfield 29, 3) := by decide +kernel
theorem dX3_supportOf_28 : decode cX3_supportOf 28 = .ok (.iload_n 1, 1) := by decide +kernel
theorem dX3_supportOf_29 : decode cX3_supportOf 29 = .ok (.iload_n 2, 1) := by decide +kernel
theorem dX3_supportOf_30 : decode cX3_supportOf 30 = .ok (.iconst 1, 1) := by decide +kernel
theorem dX3_supportOf_31 : decode cX3_supportOf 31 = .ok (.isub, 1) := by decide +kernel
theorem dX3_supportOf_32 : decode cX3_supportOf 32 = .ok (.invokevirtual 96, 3) := by decide +kernel
theorem dX3_supportOf_35 : decode cX3_supportOf 35 = .ok (.istore 5, 2) := by decide +kernel
theorem dX3_supportOf_37 : decode cX3_supportOf 37 = .ok (.iload 4, 2) := by decide +kernel
theorem dX3_supportOf_39 : decode cX3_supportOf 39 = .ok (.aload_n 0, 1) := by decide +kernel
theorem dX3_supportOf_40 : decode cX3_supportOf 40 = .ok (.iconst 0, 1) := by decide +kernel
theorem dX3_supportOf_41 : decode cX3_supportOf 41 = .ok (.iload 5, 2) := by decide +kernel
theorem dX3_supportOf_43 : decode cX3_supportOf 43 = .ok (.iload_n 3, 1) := by decide +kernel
theorem dX3_supportOf_44 : decode cX3_supportOf 44 = .ok (.invokevirtual 135, 3) := by decide +kernel
theorem dX3_supportOf_47 : decode cX3_supportOf 47 = .ok (.aload_n 0, 1) := by decide +kernel
theorem dX3_supportOf_48 : decode cX3_supportOf 48 = .ok (.iconst 1, 1) := by decide +kernel
theorem dX3_supportOf_49 : decode cX3_supportOf 49 = .ok (.iload 5, 2) := by decide +kernel
theorem dX3_supportOf_51 : decode cX3_supportOf 51 = .ok (.iload_n 3, 1) := by decide +kernel
theorem dX3_supportOf_52 : decode cX3_supportOf 52 = .ok (.invokevirtual 135, 3) := by decide +kernel
theorem dX3_supportOf_55 : decode cX3_supportOf 55 = .ok (.iadd, 1) := by decide +kernel
theorem dX3_supportOf_56 : decode cX3_supportOf 56 = .ok (.aload_n 0, 1) := by decide +kernel
theorem dX3_supportOf_57 : decode cX3_supportOf 57 = .ok (.iconst 2, 1) := by decide +kernel
theorem dX3_supportOf_58 : decode cX3_supportOf 58 = .ok (.iload 5, 2) := by decide +kernel
theorem dX3_supportOf_60 : decode cX3_supportOf 60 = .ok (.iload_n 3, 1) := by decide +kernel
theorem dX3_supportOf_61 : decode cX3_supportOf 61 = .ok (.invokevirtual 135, 3) := by decide +kernel
theorem dX3_supportOf_64 : decode cX3_supportOf 64 = .ok (.iadd, 1) := by decide +kernel
theorem dX3_supportOf_65 : decode cX3_supportOf 65 = .ok (.iadd, 1) := by decide +kernel
theorem dX3_supportOf_66 : decode cX3_supportOf 66 = .ok (.istore 4, 2) := by decide +kernel
theorem dX3_supportOf_68 : decode cX3_supportOf 68 = .ok (.iload 4, 2) := by decide +kernel
theorem dX3_supportOf_70 : decode cX3_supportOf 70 = .ok (.bipush 100, 2) := by decide +kernel
theorem dX3_supportOf_72 : decode cX3_supportOf 72 = .ok (.idiv, 1) := by decide +kernel
theorem dX3_supportOf_73 : decode cX3_supportOf 73 = .ok (.ireturn, 1) := by decide +kernel
theorem dX3_leaning_0 : decode cX3_leaning 0 = .ok (.iload_n 1, 1) := by decide +kernel
theorem dX3_leaning_1 : decode cX3_leaning 1 = .ok (.aload_n 0, 1) := by decide +kernel
theorem dX3_leaning_2 : decode cX3_leaning 2 = .ok (.getfield 18, 3) := by decide +kernel
theorem dX3_leaning_5 : decode cX3_leaning 5 = .ok (.if_icmp .ne 7, 3) := by decide +kernel
theorem dX3_leaning_8 : decode cX3_leaning 8 = .ok (.iconst 0, 1) := by decide +kernel
theorem dX3_leaning_9 : decode cX3_leaning 9 = .ok (.goto 26, 3) := by decide +kernel
theorem dX3_leaning_12 : decode cX3_leaning 12 = .ok (.aload_n 0, 1) := by decide +kernel
theorem dX3_leaning_13 : decode cX3_leaning 13 = .ok (.getfield 25, 3) := by decide +kernel
theorem dX3_leaning_16 : decode cX3_leaning 16 = .ok (.getfield 138, 3) := by decide +kernel
theorem dX3_leaning_19 : decode cX3_leaning 19 = .ok (.iload_n 1, 1) := by decide +kernel
theorem dX3_leaning_20 : decode cX3_leaning 20 = .ok (.iaload, 1) := by decide +kernel
theorem dX3_leaning_21 : decode cX3_leaning 21 = .ok (.aload_n 0, 1) := by decide +kernel
theorem dX3_leaning_22 : decode cX3_leaning 22 = .ok (.getfield 12, 3) := by decide +kernel
theorem dX3_leaning_25 : decode cX3_leaning 25 = .ok (.iload_n 1, 1) := by decide +kernel
theorem dX3_leaning_26 : decode cX3_leaning 26 = .ok (.iload_n 2, 1) := by decide +kernel
theorem dX3_leaning_27 : decode cX3_leaning 27 = .ok (.iload_n 3, 1) := by decide +kernel
theorem dX3_leaning_28 : decode cX3_leaning 28 = .ok (.invokestatic 41, 3) := by decide +kernel
theorem dX3_leaning_31 : decode cX3_leaning 31 = .ok (.invokevirtual 53, 3) := by decide +kernel
theorem dX3_leaning_34 : decode cX3_leaning 34 = .ok (.imul, 1) := by decide +kernel
theorem dX3_leaning_35 : decode cX3_leaning 35 = .ok (.ireturn, 1) := by decide +kernel
theorem dX3_supportOfAll_0 : decode cX3_supportOfAll 0 = .ok (.iconst 0, 1) := by decide +kernel
theorem dX3_supportOfAll_1 : decode cX3_supportOfAll 1 = .ok (.istore_n 2, 1) := by decide +kernel
theorem dX3_supportOfAll_2 : decode cX3_supportOfAll 2 = .ok (.iconst 0, 1) := by decide +kernel
theorem dX3_supportOfAll_3 : decode cX3_supportOfAll 3 = .ok (.istore_n 3, 1) := by decide +kernel
theorem dX3_supportOfAll_4 : decode cX3_supportOfAll 4 = .ok (.iload_n 3, 1) := by decide +kernel
theorem dX3_supportOfAll_5 : decode cX3_supportOfAll 5 = .ok (.aload_n 0, 1) := by decide +kernel
theorem dX3_supportOfAll_6 : decode cX3_supportOfAll 6 = .ok (.getfield 29, 3) := by decide +kernel
theorem dX3_supportOfAll_9 : decode cX3_supportOfAll 9 = .ok (.getfield 90, 3) := by decide +kernel
theorem dX3_supportOfAll_12 : decode cX3_supportOfAll 12 = .ok (.iload_n 1, 1) := by decide +kernel
theorem dX3_supportOfAll_13 : decode cX3_supportOfAll 13 = .ok (.iaload, 1) := by decide +kernel
theorem dX3_supportOfAll_14 : decode cX3_supportOfAll 14 = .ok (.if_icmp .ge 18, 3) := by decide +kernel
theorem dX3_supportOfAll_17 : decode cX3_supportOfAll 17 = .ok (.iload_n 2, 1) := by decide +kernel
theorem dX3_supportOfAll_18 : decode cX3_supportOfAll 18 = .ok (.aload_n 0, 1) := by decide +kernel
theorem dX3_supportOfAll_19 : decode cX3_supportOfAll 19 = .ok (.iload_n 1, 1) := by decide +kernel
theorem dX3_supportOfAll_20 : decode cX3_supportOfAll 20 = .ok (.iload_n 3, 1) := by decide +kernel
theorem dX3_supportOfAll_21 : decode cX3_supportOfAll 21 = .ok (.invokevirtual 141, 3) := by decide +kernel
theorem dX3_supportOfAll_24 : decode cX3_supportOfAll 24 = .ok (.iadd, 1) := by decide +kernel
theorem dX3_supportOfAll_25 : decode cX3_supportOfAll 25 = .ok (.istore_n 2, 1) := by decide +kernel
theorem dX3_supportOfAll_26 : decode cX3_supportOfAll 26 = .ok (.iinc 3 1, 3) := by decide +kernel
theorem dX3_supportOfAll_29 : decode cX3_supportOfAll 29 = .ok (.goto (-25), 3) := by decide +kernel
theorem dX3_supportOfAll_32 : decode cX3_supportOfAll 32 = .ok (.iload_n 2, 1) := by decide +kernel
theorem dX3_supportOfAll_33 : decode cX3_supportOfAll 33 = .ok (.ireturn, 1) := by decide +kernel
theorem dX3_slipBits_0 : decode cX3_slipBits 0 = .ok (.iconst 0, 1) := by decide +kernel
theorem dX3_slipBits_1 : decode cX3_slipBits 1 = .ok (.istore_n 2, 1) := by decide +kernel
theorem dX3_slipBits_2 : decode cX3_slipBits 2 = .ok (.iconst 0, 1) := by decide +kernel
theorem dX3_slipBits_3 : decode cX3_slipBits 3 = .ok (.istore_n 3, 1) := by decide +kernel
theorem dX3_slipBits_4 : decode cX3_slipBits 4 = .ok (.iload_n 3, 1) := by decide +kernel
theorem dX3_slipBits_5 : decode cX3_slipBits 5 = .ok (.aload_n 0, 1) := by decide +kernel
theorem dX3_slipBits_6 : decode cX3_slipBits 6 = .ok (.getfield 29, 3) := by decide +kernel
theorem dX3_slipBits_9 : decode cX3_slipBits 9 = .ok (.getfield 90, 3) := by decide +kernel
theorem dX3_slipBits_12 : decode cX3_slipBits 12 = .ok (.iload_n 1, 1) := by decide +kernel
theorem dX3_slipBits_13 : decode cX3_slipBits 13 = .ok (.iaload, 1) := by decide +kernel
theorem dX3_slipBits_14 : decode cX3_slipBits 14 = .ok (.if_icmp .ge 31, 3) := by decide +kernel
theorem dX3_slipBits_17 : decode cX3_slipBits 17 = .ok (.aload_n 0, 1) := by decide +kernel
theorem dX3_slipBits_18 : decode cX3_slipBits 18 = .ok (.iload_n 1, 1) := by decide +kernel
theorem dX3_slipBits_19 : decode cX3_slipBits 19 = .ok (.iload_n 3, 1) := by decide +kernel
theorem dX3_slipBits_20 : decode cX3_slipBits 20 = .ok (.invokevirtual 141, 3) := by decide +kernel
theorem dX3_slipBits_23 : decode cX3_slipBits 23 = .ok (.aload_n 0, 1) := by decide +kernel
theorem dX3_slipBits_24 : decode cX3_slipBits 24 = .ok (.getfield 25, 3) := by decide +kernel
theorem dX3_slipBits_27 : decode cX3_slipBits 27 = .ok (.getfield 144, 3) := by decide +kernel
theorem dX3_slipBits_30 : decode cX3_slipBits 30 = .ok (.if_icmp .ge 9, 3) := by decide +kernel
theorem dX3_slipBits_33 : decode cX3_slipBits 33 = .ok (.iload_n 2, 1) := by decide +kernel
theorem dX3_slipBits_34 : decode cX3_slipBits 34 = .ok (.iconst 1, 1) := by decide +kernel
theorem dX3_slipBits_35 : decode cX3_slipBits 35 = .ok (.iload_n 3, 1) := by decide +kernel
theorem dX3_slipBits_36 : decode cX3_slipBits 36 = .ok (.ishl, 1) := by decide +kernel
theorem dX3_slipBits_37 : decode cX3_slipBits 37 = .ok (.ior, 1) := by decide +kernel
theorem dX3_slipBits_38 : decode cX3_slipBits 38 = .ok (.istore_n 2, 1) := by decide +kernel
theorem dX3_slipBits_39 : decode cX3_slipBits 39 = .ok (.iinc 3 1, 3) := by decide +kernel
theorem dX3_slipBits_42 : decode cX3_slipBits 42 = .ok (.goto (-38), 3) := by decide +kernel
theorem dX3_slipBits_45 : decode cX3_slipBits 45 = .ok (.iload_n 2, 1) := by decide +kernel
theorem dX3_slipBits_46 : decode cX3_slipBits 46 = .ok (.ireturn, 1) := by decide +kernel
theorem dX4_init_0 : decode cX4_init 0 = .ok (.aload_n 0, 1) := by decide +kernel
theorem dX4_init_1 : decode cX4_init 1 = .ok (.invokespecial 3, 3) := by decide +kernel
theorem dX4_init_4 : decode cX4_init 4 = .ok (.aload_n 0, 1) := by decide +kernel
theorem dX4_init_5 : decode cX4_init 5 = .ok (.new 9, 3) := by decide +kernel
theorem dX4_init_8 : decode cX4_init 8 = .ok (.dup, 1) := by decide +kernel
theorem dX4_init_9 : decode cX4_init 9 = .ok (.invokespecial 11, 3) := by decide +kernel
theorem dX4_init_12 : decode cX4_init 12 = .ok (.putfield 12, 3) := by decide +kernel
theorem dX4_init_15 : decode cX4_init 15 = .ok (.aload_n 0, 1) := by decide +kernel
theorem dX4_init_16 : decode cX4_init 16 = .ok (.new 18, 3) := by decide +kernel
theorem dX4_init_19 : decode cX4_init 19 = .ok (.dup, 1) := by decide +kernel
theorem dX4_init_20 : decode cX4_init 20 = .ok (.invokespecial 20, 3) := by decide +kernel
theorem dX4_init_23 : decode cX4_init 23 = .ok (.putfield 21, 3) := by decide +kernel
theorem dX4_init_26 : decode cX4_init 26 = .ok (.aload_n 0, 1) := by decide +kernel
theorem dX4_init_27 : decode cX4_init 27 = .ok (.new 25, 3) := by decide +kernel
theorem dX4_init_30 : decode cX4_init 30 = .ok (.dup, 1) := by decide +kernel
theorem dX4_init_31 : decode cX4_init 31 = .ok (.invokespecial 27, 3) := by decide +kernel
theorem dX4_init_34 : decode cX4_init 34 = .ok (.putfield 28, 3) := by decide +kernel
theorem dX4_init_37 : decode cX4_init 37 = .ok (.aload_n 0, 1) := by decide +kernel
theorem dX4_init_38 : decode cX4_init 38 = .ok (.iconst 4, 1) := by decide +kernel
theorem dX4_init_39 : decode cX4_init 39 = .ok (.newarray .boolean, 2) := by decide +kernel
theorem dX4_init_41 : decode cX4_init 41 = .ok (.putfield 32, 3) := by decide +kernel
theorem dX4_init_44 : decode cX4_init 44 = .ok (.return_, 1) := by decide +kernel
theorem dX4_takes_0 : decode cX4_takes 0 = .ok (.aload_n 0, 1) := by decide +kernel
theorem dX4_takes_1 : decode cX4_takes 1 = .ok (.invokevirtual 36, 3) := by decide +kernel
theorem dX4_takes_4 : decode cX4_takes 4 = .ok (.aload_n 0, 1) := by decide +kernel
theorem dX4_takes_5 : decode cX4_takes 5 = .ok (.getfield 28, 3) := by decide +kernel
theorem dX4_takes_8 : decode cX4_takes 8 = .ok (.aload_n 1, 1) := by decide +kernel
theorem dX4_takes_9 : decode cX4_takes 9 = .ok (.iload_n 2, 1) := by decide +kernel
theorem dX4_takes_10 : decode cX4_takes 10 = .ok (.invokevirtual 39, 3) := by decide +kernel
theorem dX4_takes_13 : decode cX4_takes 13 = .ok (.aload_n 0, 1) := by decide +kernel
theorem dX4_takes_14 : decode cX4_takes 14 = .ok (.iconst 0, 1) := by decide +kernel
theorem dX4_takes_15 : decode cX4_takes 15 = .ok (.invokevirtual 43, 3) := by decide +kernel
theorem dX4_takes_18 : decode cX4_takes 18 = .ok (.iconst 0, 1) := by decide +kernel
theorem dX4_takes_19 : decode cX4_takes 19 = .ok (.istore_n 3, 1) := by decide +kernel
theorem dX4_takes_20 : decode cX4_takes 20 = .ok (.iload_n 3, 1) := by decide +kernel
theorem dX4_takes_21 : decode cX4_takes 21 = .ok (.sipush 900, 3) := by decide +kernel
theorem dX4_takes_24 : decode cX4_takes 24 = .ok (.if_icmp .gt 40, 3) := by decide +kernel
theorem dX4_takes_27 : decode cX4_takes 27 = .ok (.aload_n 0, 1) := by decide +kernel
theorem dX4_takes_28 : decode cX4_takes 28 = .ok (.getfield 47, 3) := by decide +kernel
theorem dX4_takes_31 : decode cX4_takes 31 = .ok (.bipush 24, 2) := by decide +kernel
theorem dX4_takes_33 : decode cX4_takes 33 = .ok (.if_icmp .eq 31, 3) := by decide +kernel
theorem dX4_takes_36 : decode cX4_takes 36 = .ok (.aload_n 0, 1) := by decide +kernel
theorem dX4_takes_37 : decode cX4_takes 37 = .ok (.invokevirtual 51, 3) := by decide +kernel
theorem dX4_takes_40 : decode cX4_takes 40 = .ok (.ifCond .ne 5, 3) := by decide +kernel
theorem dX4_takes_43 : decode cX4_takes 43 = .ok (.iconst 0, 1) := by decide +kernel
theorem dX4_takes_44 : decode cX4_takes 44 = .ok (.ireturn, 1) := by decide +kernel
theorem dX4_takes_45 : decode cX4_takes 45 = .ok (.aload_n 0, 1) := by decide +kernel
theorem dX4_takes_46 : decode cX4_takes 46 = .ok (.getfield 12, 3) := by decide +kernel
theorem dX4_takes_49 : decode cX4_takes 49 = .ok (.dup, 1) := by decide +kernel
theorem dX4_takes_50 : decode cX4_takes 50 = .ok (.getfield 55, 3) := by decide +kernel
theorem dX4_takes_53 : decode cX4_takes 53 = .ok (.iconst 1, 1) := by decide +kernel
theorem dX4_takes_54 : decode cX4_takes 54 = .ok (.iadd, 1) := by decide +kernel
theorem dX4_takes_55 : decode cX4_takes 55 = .ok (.putfield 55, 3) := by decide +kernel
theorem dX4_takes_58 : decode cX4_takes 58 = .ok (.iinc 3 1, 3) := by decide +kernel
theorem dX4_takes_61 : decode cX4_takes 61 = .ok (.goto (-41), 3) := by decide +kernel
theorem dX4_takes_64 : decode cX4_takes 64 = .ok (.aload_n 0, 1) := by decide +kernel
theorem dX4_takes_65 : decode cX4_takes 65 = .ok (.getfield 21, 3) := by decide +kernel
theorem dX4_takes_68 : decode cX4_takes 68 = .ok (.aload_n 0, 1) := by decide +kernel
theorem dX4_takes_69 : decode cX4_takes 69 = .ok (.getfield 21, 3) := by decide +kernel
theorem dX4_takes_72 : decode cX4_takes 72 = .ok (.getfield 58, 3) := by decide +kernel
theorem dX4_takes_75 : decode cX4_takes 75 = .ok (.putfield 61, 3) := by decide +kernel
theorem dX4_takes_78 : decode cX4_takes 78 = .ok (.iconst 1, 1) := by decide +kernel
theorem dX4_takes_79 : decode cX4_takes 79 = .ok (.ireturn, 1) := by decide +kernel
theorem dX4_clear_0 : decode cX4_clear 0 = .ok (.aload_n 0, 1) := by decide +kernel
theorem dX4_clear_1 : decode cX4_clear 1 = .ok (.getfield 12, 3) := by decide +kernel
theorem dX4_clear_4 : decode cX4_clear 4 = .ok (.invokevirtual 64, 3) := by decide +kernel
theorem dX4_clear_7 : decode cX4_clear 7 = .ok (.aload_n 0, 1) := by decide +kernel
theorem dX4_clear_8 : decode cX4_clear 8 = .ok (.getfield 21, 3) := by decide +kernel
theorem dX4_clear_11 : decode cX4_clear 11 = .ok (.invokevirtual 65, 3) := by decide +kernel
theorem dX4_clear_14 : decode cX4_clear 14 = .ok (.aload_n 0, 1) := by decide +kernel
theorem dX4_clear_15 : decode cX4_clear 15 = .ok (.iconst 0, 1) := by decide +kernel
theorem dX4_clear_16 : decode cX4_clear 16 = .ok (.putfield 66, 3) := by decide +kernel
theorem dX4_clear_19 : decode cX4_clear 19 = .ok (.aload_n 0, 1) := by decide +kernel
theorem dX4_clear_20 : decode cX4_clear 20 = .ok (.iconst (-1), 1) := by decide +kernel
theorem dX4_clear_21 : decode cX4_clear 21 = .ok (.putfield 69, 3) := by decide +kernel
theorem dX4_clear_24 : decode cX4_clear 24 = .ok (.aload_n 0, 1) := by decide +kernel
theorem dX4_clear_25 : decode cX4_clear 25 = .ok (.iconst 0, 1) := by decide +kernel
theorem dX4_clear_26 : decode cX4_clear 26 = .ok (.putfield 72, 3) := by decide +kernel
theorem dX4_clear_29 : decode cX4_clear 29 = .ok (.iconst 0, 1) := by decide +kernel
theorem dX4_clear_30 : decode cX4_clear 30 = .ok (.istore_n 1, 1) := by decide +kernel
theorem dX4_clear_31 : decode cX4_clear 31 = .ok (.iload_n 1, 1) := by decide +kernel
theorem dX4_clear_32 : decode cX4_clear 32 = .ok (.iconst 4, 1) := by decide +kernel
theorem dX4_clear_33 : decode cX4_clear 33 = .ok (.if_icmp .ge 16, 3) := by decide +kernel
theorem dX4_clear_36 : decode cX4_clear 36 = .ok (.aload_n 0, 1) := by decide +kernel
theorem dX4_clear_37 : decode cX4_clear 37 = .ok (.getfield 32, 3) := by decide +kernel
theorem dX4_clear_40 : decode cX4_clear 40 = .ok (.iload_n 1, 1) := by decide +kernel
theorem dX4_clear_41 : decode cX4_clear 41 = .ok (.iconst 0, 1) := by decide +kernel
theorem dX4_clear_42 : decode cX4_clear 42 = .ok (.bastore, 1) := by decide +kernel
theorem dX4_clear_43 : decode cX4_clear 43 = .ok (.iinc 1 1, 3) := by decide +kernel
theorem dX4_clear_46 : decode cX4_clear 46 = .ok (.goto (-15), 3) := by decide +kernel
theorem dX4_clear_49 : decode cX4_clear 49 = .ok (.return_, 1) := by decide +kernel
theorem dX4_look_0 : decode cX4_look 0 = .ok (.iload_n 1, 1) := by decide +kernel
theorem dX4_look_1 : decode cX4_look 1 = .ok (.aload_n 0, 1) := by decide +kernel
theorem dX4_look_2 : decode cX4_look 2 = .ok (.getfield 28, 3) := by decide +kernel
theorem dX4_look_5 : decode cX4_look 5 = .ok (.getfield 76, 3) := by decide +kernel
theorem dX4_look_8 : decode cX4_look 8 = .ok (.if_icmp .ge 34, 3) := by decide +kernel
theorem dX4_look_11 : decode cX4_look 11 = .ok (.aload_n 0, 1) := by decide +kernel
theorem dX4_look_12 : decode cX4_look 12 = .ok (.iload_n 1, 1) := by decide +kernel
theorem dX4_look_13 : decode cX4_look 13 = .ok (.putfield 77, 3) := by decide +kernel
theorem dX4_look_16 : decode cX4_look 16 = .ok (.aload_n 0, 1) := by decide +kernel
theorem dX4_look_17 : decode cX4_look 17 = .ok (.aload_n 0, 1) := by decide +kernel
theorem dX4_look_18 : decode cX4_look 18 = .ok (.getfield 28, 3) := by decide +kernel
theorem dX4_look_21 : decode cX4_look 21 = .ok (.getfield 80, 3) := by decide +kernel
theorem dX4_look_24 : decode cX4_look 24 = .ok (.iload_n 1, 1) := by decide +kernel
theorem dX4_look_25 : decode cX4_look 25 = .ok (.iaload, 1) := by decide +kernel
theorem dX4_look_26 : decode cX4_look 26 = .ok (.putfield 47, 3) := by decide +kernel
theorem dX4_look_29 : decode cX4_look 29 = .ok (.aload_n 0, 1) := by decide +kernel
theorem dX4_look_30 : decode cX4_look 30 = .ok (.aload_n 0, 1) := by decide +kernel
theorem dX4_look_31 : decode cX4_look 31 = .ok (.getfield 28, 3) := by decide +kernel
theorem dX4_look_34 : decode cX4_look 34 = .ok (.getfield 84, 3) := by decide +kernel
theorem dX4_look_37 : decode cX4_look 37 = .ok (.iload_n 1, 1) := by decide +kernel
theorem dX4_look_38 : decode cX4_look 38 = .ok (.iaload, 1) := by decide +kernel
theorem dX4_look_39 : decode cX4_look 39 = .ok (.putfield 87, 3) := by decide +kernel
theorem dX4_look_42 : decode cX4_look 42 = .ok (.return_, 1) := by decide +kernel
theorem dX4_advance_0 : decode cX4_advance 0 = .ok (.aload_n 0, 1) := by decide +kernel
theorem dX4_advance_1 : decode cX4_advance 1 = .ok (.aload_n 0, 1) := by decide +kernel
theorem dX4_advance_2 : decode cX4_advance 2 = .ok (.getfield 77, 3) := by decide +kernel
theorem dX4_advance_5 : decode cX4_advance 5 = .ok (.iconst 1, 1) := by decide +kernel
theorem dX4_advance_6 : decode cX4_advance 6 = .ok (.iadd, 1) := by decide +kernel
theorem dX4_advance_7 : decode cX4_advance 7 = .ok (.invokevirtual 43, 3) := by decide +kernel
theorem dX4_advance_10 : decode cX4_advance 10 = .ok (.return_, 1) := by decide +kernel
theorem dX4_refuse_0 : decode cX4_refuse 0 = .ok (.aload_n 0, 1) := by decide +kernel
theorem dX4_refuse_1 : decode cX4_refuse 1 = .ok (.iload_n 1, 1) := by decide +kernel
theorem dX4_refuse_2 : decode cX4_refuse 2 = .ok (.putfield 66, 3) := by decide +kernel
theorem dX4_refuse_5 : decode cX4_refuse 5 = .ok (.aload_n 0, 1) := by decide +kernel
theorem dX4_refuse_6 : decode cX4_refuse 6 = .ok (.aload_n 0, 1) := by decide +kernel
theorem dX4_refuse_7 : decode cX4_refuse 7 = .ok (.getfield 28, 3) := by decide +kernel
theorem dX4_refuse_10 : decode cX4_refuse 10 = .ok (.getfield 90, 3) := by decide +kernel
theorem dX4_refuse_13 : decode cX4_refuse 13 = .ok (.aload_n 0, 1) := by decide +kernel
theorem dX4_refuse_14 : decode cX4_refuse 14 = .ok (.getfield 77, 3) := by decide +kernel
theorem dX4_refuse_17 : decode cX4_refuse 17 = .ok (.iaload, 1) := by decide +kernel
theorem dX4_refuse_18 : decode cX4_refuse 18 = .ok (.putfield 69, 3) := by decide +kernel
theorem dX4_refuse_21 : decode cX4_refuse 21 = .ok (.iconst 0, 1) := by decide +kernel
theorem dX4_refuse_22 : decode cX4_refuse 22 = .ok (.ireturn, 1) := by decide +kernel
theorem dX4_takesKind_0 : decode cX4_takesKind 0 = .ok (.aload_n 0, 1) := by decide +kernel
theorem dX4_takesKind_1 : decode cX4_takesKind 1 = .ok (.getfield 47, 3) := by decide +kernel
theorem dX4_takesKind_4 : decode cX4_takesKind 4 = .ok (.iload_n 1, 1) := by decide +kernel
theorem dX4_takesKind_5 : decode cX4_takesKind 5 = .ok (.if_icmp .eq 9, 3) := by decide +kernel
theorem dX4_takesKind_8 : decode cX4_takesKind 8 = .ok (.aload_n 0, 1) := by decide +kernel
theorem dX4_takesKind_9 : decode cX4_takesKind 9 = .ok (.iconst 1, 1) := by decide +kernel
theorem dX4_takesKind_10 : decode cX4_takesKind 10 = .ok (.invokevirtual 93, 3) := by decide +kernel
theorem dX4_takesKind_13 : decode cX4_takesKind 13 = .ok (.ireturn, 1) := by decide +kernel
theorem dX4_takesKind_14 : decode cX4_takesKind 14 = .ok (.aload_n 0, 1) := by decide +kernel
theorem dX4_takesKind_15 : decode cX4_takesKind 15 = .ok (.invokevirtual 97, 3) := by decide +kernel
theorem dX4_takesKind_18 : decode cX4_takesKind 18 = .ok (.iconst 1, 1) := by decide +kernel
theorem dX4_takesKind_19 : decode cX4_takesKind 19 = .ok (.ireturn, 1) := by decide +kernel
theorem dX4_isNumberUpTo_0 : decode cX4_isNumberUpTo 0 = .ok (.aload_n 0, 1) := by decide +kernel
theorem dX4_isNumberUpTo_1 : decode cX4_isNumberUpTo 1 = .ok (.getfield 47, 3) := by decide +kernel
theorem dX4_isNumberUpTo_4 : decode cX4_isNumberUpTo 4 = .ok (.bipush 21, 2) := by decide +kernel
theorem dX4_isNumberUpTo_6 : decode cX4_isNumberUpTo 6 = .ok (.if_icmp .eq 9, 3) := by decide +kernel
theorem dX4_isNumberUpTo_9 : decode cX4_isNumberUpTo 9 = .ok (.aload_n 0, 1) := by decide +kernel
theorem dX4_isNumberUpTo_10 : decode cX4_isNumberUpTo 10 = .ok (.iconst 1, 1) := by decide +kernel
theorem dX4_isNumberUpTo_11 : decode cX4_isNumberUpTo 11 = .ok (.invokevirtual 93, 3) := by decide +kernel
theorem dX4_isNumberUpTo_14 : decode cX4_isNumberUpTo 14 = .ok (.ireturn, 1) := by decide +kernel
theorem dX4_isNumberUpTo_15 : decode cX4_isNumberUpTo 15 = .ok (.aload_n 0, 1) := by decide +kernel
theorem dX4_isNumberUpTo_16 : decode cX4_isNumberUpTo 16 = .ok (.getfield 87, 3) := by decide +kernel
theorem dX4_isNumberUpTo_19 : decode cX4_isNumberUpTo 19 = .ok (.iload_n 1, 1) := by decide +kernel
theorem dX4_isNumberUpTo_20 : decode cX4_isNumberUpTo 20 = .ok (.if_icmp .le 11, 3) := by decide +kernel
theorem dX4_isNumberUpTo_23 : decode cX4_isNumberUpTo 23 = .ok (.aload_n 0, 1) := by decide +kernel
theorem dX4_isNumberUpTo_24 : decode cX4_isNumberUpTo 24 = .ok (.iconst 2, 1) := by decide +kernel
theorem dX4_isNumberUpTo_25 : decode cX4_isNumberUpTo 25 = .ok (.invokevirtual 93, 3) := by decide +kernel
theorem dX4_isNumberUpTo_28 : decode cX4_isNumberUpTo 28 = .ok (.ifCond .eq 7, 3) := by decide +kernel
theorem dX4_isNumberUpTo_31 : decode cX4_isNumberUpTo 31 = .ok (.iconst 1, 1) := by decide +kernel
theorem dX4_isNumberUpTo_32 : decode cX4_isNumberUpTo 32 = .ok (.goto 4, 3) := by decide +kernel
theorem dX4_isNumberUpTo_35 : decode cX4_isNumberUpTo 35 = .ok (.iconst 0, 1) := by decide +kernel
theorem dX4_isNumberUpTo_36 : decode cX4_isNumberUpTo 36 = .ok (.ireturn, 1) := by decide +kernel
theorem dX4_among_0 : decode cX4_among 0 = .ok (.aload_n 0, 1) := by decide +kernel
theorem dX4_among_1 : decode cX4_among 1 = .ok (.getfield 47, 3) := by decide +kernel
theorem dX4_among_4 : decode cX4_among 4 = .ok (.iload_n 1, 1) := by decide +kernel
theorem dX4_among_5 : decode cX4_among 5 = .ok (.if_icmp .lt 22, 3) := by decide +kernel
theorem dX4_among_8 : decode cX4_among 8 = .ok (.aload_n 0, 1) := by decide +kernel
theorem dX4_among_9 : decode cX4_among 9 = .ok (.getfield 47, 3) := by decide +kernel
theorem dX4_among_12 : decode cX4_among 12 = .ok (.iload_n 1, 1) := by decide +kernel
theorem dX4_among_13 : decode cX4_among 13 = .ok (.iload_n 2, 1) := by decide +kernel
theorem dX4_among_14 : decode cX4_among 14 = .ok (.iadd, 1) := by decide +kernel
theorem dX4_among_15 : decode cX4_among 15 = .ok (.if_icmp .ge 12, 3) := by decide +kernel
theorem dX4_among_18 : decode cX4_among 18 = .ok (.aload_n 0, 1) := by decide +kernel
theorem dX4_among_19 : decode cX4_among 19 = .ok (.getfield 47, 3) := by decide +kernel
theorem dX4_among_22 : decode cX4_among 22 = .ok (.iload_n 1, 1) := by decide +kernel
theorem dX4_among_23 : decode cX4_among 23 = .ok (.isub, 1) := by decide +kernel
theorem dX4_among_24 : decode cX4_among 24 = .ok (.goto 4, 3) := by decide +kernel
theorem dX4_among_27 : decode cX4_among 27 = .ok (.iconst (-1), 1) := by decide +kernel
theorem dX4_among_28 : decode cX4_among 28 = .ok (.ireturn, 1) := by decide +kernel
theorem dX4_takesLine_0 : decode cX4_takesLine 0 = .ok (.aload_n 0, 1) := by decide +kernel
theorem dX4_takesLine_1 : decode cX4_takesLine 1 = .ok (.getfield 47, 3) := by decide +kernel
theorem dX4_takesLine_4 : decode cX4_takesLine 4 = .ok (.tableswitch 52 16 19 #[32, 37, 42, 47], 32) := by decide +kernel
theorem dX4_takesLine_36 : decode cX4_takesLine 36 = .ok (.aload_n 0, 1) := by decide +kernel
theorem dX4_takesLine_37 : decode cX4_takesLine 37 = .ok (.invokevirtual 100, 3) := by decide +kernel
theorem dX4_takesLine_40 : decode cX4_takesLine 40 = .ok (.ireturn, 1) := by decide +kernel
theorem dX4_takesLine_41 : decode cX4_takesLine 41 = .ok (.aload_n 0, 1) := by decide +kernel
theorem dX4_takesLine_42 : decode cX4_takesLine 42 = .ok (.invokevirtual 103, 3) := by decide +kernel
theorem dX4_takesLine_45 : decode cX4_takesLine 45 = .ok (.ireturn, 1) := by decide +kernel
theorem dX4_takesLine_46 : decode cX4_takesLine 46 = .ok (.aload_n 0, 1) := by decide +kernel
theorem dX4_takesLine_47 : decode cX4_takesLine 47 = .ok (.invokevirtual 106, 3) := by decide +kernel
theorem dX4_takesLine_50 : decode cX4_takesLine 50 = .ok (.ireturn, 1) := by decide +kernel
theorem dX4_takesLine_51 : decode cX4_takesLine 51 = .ok (.aload_n 0, 1) := by decide +kernel
theorem dX4_takesLine_52 : decode cX4_takesLine 52 = .ok (.invokevirtual 109, 3) := by decide +kernel
theorem dX4_takesLine_55 : decode cX4_takesLine 55 = .ok (.ireturn, 1) := by decide +kernel
theorem dX4_takesLine_56 : decode cX4_takesLine 56 = .ok (.aload_n 0, 1) := by decide +kernel
theorem dX4_takesLine_57 : decode cX4_takesLine 57 = .ok (.iconst 4, 1) := by decide +kernel
theorem dX4_takesLine_58 : decode cX4_takesLine 58 = .ok (.iconst 3, 1) := by decide +kernel
theorem dX4_takesLine_59 : decode cX4_takesLine 59 = .ok (.invokevirtual 112, 3) := by decide +kernel
theorem dX4_takesLine_62 : decode cX4_takesLine 62 = .ok (.istore_n 1, 1) := by decide +kernel
theorem dX4_takesLine_63 : decode cX4_takesLine 63 = .ok (.iload_n 1, 1) := by decide +kernel
theorem dX4_takesLine_64 : decode cX4_takesLine 64 = .ok (.iconst (-1), 1) := by decide +kernel
theorem dX4_takesLine_65 : decode cX4_takesLine 65 = .ok (.if_icmp .ne 11, 3) := by decide +kernel
theorem dX4_takesLine_68 : decode cX4_takesLine 68 = .ok (.aload_n 0, 1) := by decide +kernel
theorem dX4_takesLine_69 : decode cX4_takesLine 69 = .ok (.iconst 1, 1) := by decide +kernel
theorem dX4_takesLine_70 : decode cX4_takesLine 70 = .ok (.invokevirtual 93, 3) := by decide +kernel
theorem dX4_takesLine_73 : decode cX4_takesLine 73 = .ok (.goto 8, 3) := by decide +kernel
theorem dX4_takesLine_76 : decode cX4_takesLine 76 = .ok (.aload_n 0, 1) := by decide +kernel
theorem dX4_takesLine_77 : decode cX4_takesLine 77 = .ok (.iload_n 1, 1) := by decide +kernel
theorem dX4_takesLine_78 : decode cX4_takesLine 78 = .ok (.invokevirtual 116, 3) := by decide +kernel
theorem dX4_takesLine_81 : decode cX4_takesLine 81 = .ok (.ireturn, 1) := by decide +kernel
theorem dX4_takesThing_0 : decode cX4_takesThing 0 = .ok (.aload_n 0, 1) := by decide +kernel
theorem dX4_takesThing_1 : decode cX4_takesThing 1 = .ok (.getfield 12, 3) := by decide +kernel
theorem dX4_takesThing_4 : decode cX4_takesThing 4 = .ok (.getfield 119, 3) := by decide +kernel
theorem dX4_takesThing_7 : decode cX4_takesThing 7 = .ok (.bipush 24, 2) := by decide +kernel
theorem dX4_takesThing_9 : decode cX4_takesThing 9 = .ok (.if_icmp .lt 9, 3) := by decide +kernel
theorem dX4_takesThing_12 : decode cX4_takesThing 12 = .ok (.aload_n 0, 1) := by decide +kernel
theorem dX4_takesThing_13 : decode cX4_takesThing 13 = .ok (.iconst 3, 1) := by decide +kernel
theorem dX4_takesThing_14 : decode cX4_takesThing 14 = .ok (.invokevirtual 93, 3) := by decide +kernel
theorem dX4_takesThing_17 : decode cX4_takesThing 17 = .ok (.ireturn, 1) := by decide +kernel
theorem dX4_takesThing_18 : decode cX4_takesThing 18 = .ok (.aload_n 0, 1) := by decide +kernel
theorem dX4_takesThing_19 : decode cX4_takesThing 19 = .ok (.invokevirtual 97, 3) := by decide +kernel
theorem dX4_takesThing_22 : decode cX4_takesThing 22 = .ok (.aload_n 0, 1) := by decide +kernel
theorem dX4_takesThing_23 : decode cX4_takesThing 23 = .ok (.bipush 13, 2) := by decide +kernel
theorem dX4_takesThing_25 : decode cX4_takesThing 25 = .ok (.invokevirtual 122, 3) := by decide +kernel
theorem dX4_takesThing_28 : decode cX4_takesThing 28 = .ok (.ifCond .eq 12, 3) := by decide +kernel
theorem dX4_takesThing_31 : decode cX4_takesThing 31 = .ok (.aload_n 0, 1) := by decide +kernel
theorem dX4_takesThing_32 : decode cX4_takesThing 32 = .ok (.bipush 9, 2) := by decide +kernel
theorem dX4_takesThing_34 : decode cX4_takesThing 34 = .ok (.invokevirtual 125, 3) := by decide +kernel
theorem dX4_takesThing_37 : decode cX4_takesThing 37 = .ok (.ifCond .ne 5, 3) := by decide +kernel
theorem dX4_takesThing_40 : decode cX4_takesThing 40 = .ok (.iconst 0, 1) := by decide +kernel
theorem dX4_takesThing_41 : decode cX4_takesThing 41 = .ok (.ireturn, 1) := by decide +kernel
theorem dX4_takesThing_42 : decode cX4_takesThing 42 = .ok (.aload_n 0, 1) := by decide +kernel
theorem dX4_takesThing_43 : decode cX4_takesThing 43 = .ok (.getfield 12, 3) := by decide +kernel
theorem dX4_takesThing_46 : decode cX4_takesThing 46 = .ok (.aload_n 0, 1) := by decide +kernel
theorem dX4_takesThing_47 : decode cX4_takesThing 47 = .ok (.getfield 87, 3) := by decide +kernel
theorem dX4_takesThing_50 : decode cX4_takesThing 50 = .ok (.invokevirtual 128, 3) := by decide +kernel
theorem dX4_takesThing_53 : decode cX4_takesThing 53 = .ok (.aload_n 0, 1) := by decide +kernel
theorem dX4_takesThing_54 : decode cX4_takesThing 54 = .ok (.invokevirtual 97, 3) := by decide +kernel
theorem dX4_takesThing_57 : decode cX4_takesThing 57 = .ok (.aload_n 0, 1) := by decide +kernel
theorem dX4_takesThing_58 : decode cX4_takesThing 58 = .ok (.bipush 22, 2) := by decide +kernel
theorem dX4_takesThing_60 : decode cX4_takesThing 60 = .ok (.invokevirtual 122, 3) := by decide +kernel
theorem dX4_takesThing_63 : decode cX4_takesThing 63 = .ok (.ireturn, 1) := by decide +kernel
theorem dX4_takesRow_0 : decode cX4_takesRow 0 = .ok (.aload_n 0, 1) := by decide +kernel
theorem dX4_takesRow_1 : decode cX4_takesRow 1 = .ok (.getfield 21, 3) := by decide +kernel
theorem dX4_takesRow_4 : decode cX4_takesRow 4 = .ok (.invokevirtual 131, 3) := by decide +kernel
theorem dX4_takesRow_7 : decode cX4_takesRow 7 = .ok (.ifCond .eq 9, 3) := by decide +kernel
theorem dX4_takesRow_10 : decode cX4_takesRow 10 = .ok (.aload_n 0, 1) := by decide +kernel
theorem dX4_takesRow_11 : decode cX4_takesRow 11 = .ok (.iconst 3, 1) := by decide +kernel
theorem dX4_takesRow_12 : decode cX4_takesRow 12 = .ok (.invokevirtual 93, 3) := by decide +kernel
theorem dX4_takesRow_15 : decode cX4_takesRow 15 = .ok (.ireturn, 1) := by decide +kernel
theorem dX4_takesRow_16 : decode cX4_takesRow 16 = .ok (.aload_n 0, 1) := by decide +kernel
theorem dX4_takesRow_17 : decode cX4_takesRow 17 = .ok (.invokevirtual 97, 3) := by decide +kernel
theorem dX4_takesRow_20 : decode cX4_takesRow 20 = .ok (.aload_n 0, 1) := by decide +kernel
theorem dX4_takesRow_21 : decode cX4_takesRow 21 = .ok (.getfield 21, 3) := by decide +kernel
theorem dX4_takesRow_24 : decode cX4_takesRow 24 = .ok (.invokevirtual 134, 3) := by decide +kernel
theorem dX4_takesRow_27 : decode cX4_takesRow 27 = .ok (.iconst 0, 1) := by decide +kernel
theorem dX4_takesRow_28 : decode cX4_takesRow 28 = .ok (.istore_n 1, 1) := by decide +kernel
theorem dX4_takesRow_29 : decode cX4_takesRow 29 = .ok (.iload_n 1, 1) := by decide +kernel
theorem dX4_takesRow_30 : decode cX4_takesRow 30 = .ok (.bipush 12, 2) := by decide +kernel
theorem dX4_takesRow_32 : decode cX4_takesRow 32 = .ok (.if_icmp .gt 27, 3) := by decide +kernel
theorem dX4_takesRow_35 : decode cX4_takesRow 35 = .ok (.aload_n 0, 1) := by decide +kernel
theorem dX4_takesRow_36 : decode cX4_takesRow 36 = .ok (.getfield 47, 3) := by decide +kernel
theorem dX4_takesRow_39 : decode cX4_takesRow 39 = .ok (.bipush 21, 2) := by decide +kernel
theorem dX4_takesRow_41 : decode cX4_takesRow 41 = .ok (.if_icmp .ne 18, 3) := by decide +kernel
theorem dX4_takesRow_44 : decode cX4_takesRow 44 = .ok (.aload_n 0, 1) := by decide +kernel
theorem dX4_takesRow_45 : decode cX4_takesRow 45 = .ok (.invokevirtual 137, 3) := by decide +kernel
theorem dX4_takesRow_48 : decode cX4_takesRow 48 = .ok (.ifCond .ne 5, 3) := by decide +kernel
theorem dX4_takesRow_51 : decode cX4_takesRow 51 = .ok (.iconst 0, 1) := by decide +kernel
theorem dX4_takesRow_52 : decode cX4_takesRow 52 = .ok (.ireturn, 1) := by decide +kernel
theorem dX4_takesRow_53 : decode cX4_takesRow 53 = .ok (.iinc 1 1, 3) := by decide +kernel
