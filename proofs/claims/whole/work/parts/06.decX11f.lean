theorem dX11_near_28 : decode cX11_near 28 = .ok (.bipush (-2), 2) := by decide +kernel
theorem dX11_near_30 : decode cX11_near 30 = .ok (.ireturn, 1) := by decide +kernel
theorem dX11_near_31 : decode cX11_near 31 = .ok (.iconst 0, 1) := by decide +kernel
theorem dX11_near_32 : decode cX11_near 32 = .ok (.istore 5, 2) := by decide +kernel
theorem dX11_near_34 : decode cX11_near 34 = .ok (.iconst 1, 1) := by decide +kernel
theorem dX11_near_35 : decode cX11_near 35 = .ok (.istore 6, 2) := by decide +kernel
theorem dX11_near_37 : decode cX11_near 37 = .ok (.iload 6, 2) := by decide +kernel
theorem dX11_near_39 : decode cX11_near 39 = .ok (.aload_n 0, 1) := by decide +kernel
theorem dX11_near_40 : decode cX11_near 40 = .ok (.iload_n 1, 1) := by decide +kernel
theorem dX11_near_41 : decode cX11_near 41 = .ok (.invokevirtual 278, 3) := by decide +kernel
theorem dX11_near_44 : decode cX11_near 44 = .ok (.if_icmp .ge 83, 3) := by decide +kernel
theorem dX11_near_47 : decode cX11_near 47 = .ok (.aload_n 0, 1) := by decide +kernel
theorem dX11_near_48 : decode cX11_near 48 = .ok (.iload_n 2, 1) := by decide +kernel
theorem dX11_near_49 : decode cX11_near 49 = .ok (.aload_n 0, 1) := by decide +kernel
theorem dX11_near_50 : decode cX11_near 50 = .ok (.iload_n 1, 1) := by decide +kernel
theorem dX11_near_51 : decode cX11_near 51 = .ok (.iload 6, 2) := by decide +kernel
theorem dX11_near_53 : decode cX11_near 53 = .ok (.iconst 1, 1) := by decide +kernel
theorem dX11_near_54 : decode cX11_near 54 = .ok (.isub, 1) := by decide +kernel
theorem dX11_near_55 : decode cX11_near 55 = .ok (.invokevirtual 281, 3) := by decide +kernel
theorem dX11_near_58 : decode cX11_near 58 = .ok (.invokevirtual 376, 3) := by decide +kernel
theorem dX11_near_61 : decode cX11_near 61 = .ok (.istore 7, 2) := by decide +kernel
theorem dX11_near_63 : decode cX11_near 63 = .ok (.aload_n 0, 1) := by decide +kernel
theorem dX11_near_64 : decode cX11_near 64 = .ok (.iload_n 2, 1) := by decide +kernel
theorem dX11_near_65 : decode cX11_near 65 = .ok (.aload_n 0, 1) := by decide +kernel
theorem dX11_near_66 : decode cX11_near 66 = .ok (.iload_n 1, 1) := by decide +kernel
theorem dX11_near_67 : decode cX11_near 67 = .ok (.iload 6, 2) := by decide +kernel
theorem dX11_near_69 : decode cX11_near 69 = .ok (.invokevirtual 281, 3) := by decide +kernel
theorem dX11_near_72 : decode cX11_near 72 = .ok (.invokevirtual 376, 3) := by decide +kernel
theorem dX11_near_75 : decode cX11_near 75 = .ok (.istore 8, 2) := by decide +kernel
theorem dX11_near_77 : decode cX11_near 77 = .ok (.iload 5, 2) := by decide +kernel
theorem dX11_near_79 : decode cX11_near 79 = .ok (.iload 7, 2) := by decide +kernel
theorem dX11_near_81 : decode cX11_near 81 = .ok (.iconst (-1), 1) := by decide +kernel
theorem dX11_near_82 : decode cX11_near 82 = .ok (.if_icmp .eq 35, 3) := by decide +kernel
theorem dX11_near_85 : decode cX11_near 85 = .ok (.iload 8, 2) := by decide +kernel
theorem dX11_near_87 : decode cX11_near 87 = .ok (.iconst (-1), 1) := by decide +kernel
theorem dX11_near_88 : decode cX11_near 88 = .ok (.if_icmp .eq 29, 3) := by decide +kernel
theorem dX11_near_91 : decode cX11_near 91 = .ok (.iload 4, 2) := by decide +kernel
theorem dX11_near_93 : decode cX11_near 93 = .ok (.ifCond .eq 11, 3) := by decide +kernel
theorem dX11_near_96 : decode cX11_near 96 = .ok (.iload 7, 2) := by decide +kernel
theorem dX11_near_98 : decode cX11_near 98 = .ok (.iload 8, 2) := by decide +kernel
theorem dX11_near_100 : decode cX11_near 100 = .ok (.isub, 1) := by decide +kernel
theorem dX11_near_101 : decode cX11_near 101 = .ok (.goto 8, 3) := by decide +kernel
theorem dX11_near_104 : decode cX11_near 104 = .ok (.iload 8, 2) := by decide +kernel
theorem dX11_near_106 : decode cX11_near 106 = .ok (.iload 7, 2) := by decide +kernel
theorem dX11_near_108 : decode cX11_near 108 = .ok (.isub, 1) := by decide +kernel
theorem dX11_near_109 : decode cX11_near 109 = .ok (.iload_n 3, 1) := by decide +kernel
theorem dX11_near_110 : decode cX11_near 110 = .ok (.if_icmp .ne 7, 3) := by decide +kernel
theorem dX11_near_113 : decode cX11_near 113 = .ok (.iconst 1, 1) := by decide +kernel
theorem dX11_near_114 : decode cX11_near 114 = .ok (.goto 4, 3) := by decide +kernel
theorem dX11_near_117 : decode cX11_near 117 = .ok (.iconst 0, 1) := by decide +kernel
theorem dX11_near_118 : decode cX11_near 118 = .ok (.iadd, 1) := by decide +kernel
theorem dX11_near_119 : decode cX11_near 119 = .ok (.istore 5, 2) := by decide +kernel
theorem dX11_near_121 : decode cX11_near 121 = .ok (.iinc 6 1, 3) := by decide +kernel
theorem dX11_near_124 : decode cX11_near 124 = .ok (.goto (-87), 3) := by decide +kernel
theorem dX11_near_127 : decode cX11_near 127 = .ok (.iload 5, 2) := by decide +kernel
theorem dX11_near_129 : decode cX11_near 129 = .ok (.ireturn, 1) := by decide +kernel
theorem dX11_fitsBook_0 : decode cX11_fitsBook 0 = .ok (.aload_n 0, 1) := by decide +kernel
theorem dX11_fitsBook_1 : decode cX11_fitsBook 1 = .ok (.invokevirtual 303, 3) := by decide +kernel
theorem dX11_fitsBook_4 : decode cX11_fitsBook 4 = .ok (.aload_n 0, 1) := by decide +kernel
theorem dX11_fitsBook_5 : decode cX11_fitsBook 5 = .ok (.invokevirtual 237, 3) := by decide +kernel
theorem dX11_fitsBook_8 : decode cX11_fitsBook 8 = .ok (.iconst 1, 1) := by decide +kernel
theorem dX11_fitsBook_9 : decode cX11_fitsBook 9 = .ok (.istore_n 1, 1) := by decide +kernel
theorem dX11_fitsBook_10 : decode cX11_fitsBook 10 = .ok (.iconst 0, 1) := by decide +kernel
theorem dX11_fitsBook_11 : decode cX11_fitsBook 11 = .ok (.istore_n 2, 1) := by decide +kernel
theorem dX11_fitsBook_12 : decode cX11_fitsBook 12 = .ok (.iload_n 2, 1) := by decide +kernel
theorem dX11_fitsBook_13 : decode cX11_fitsBook 13 = .ok (.aload_n 0, 1) := by decide +kernel
theorem dX11_fitsBook_14 : decode cX11_fitsBook 14 = .ok (.getfield 92, 3) := by decide +kernel
theorem dX11_fitsBook_17 : decode cX11_fitsBook 17 = .ok (.if_icmp .ge 128, 3) := by decide +kernel
theorem dX11_fitsBook_20 : decode cX11_fitsBook 20 = .ok (.iload_n 1, 1) := by decide +kernel
theorem dX11_fitsBook_21 : decode cX11_fitsBook 21 = .ok (.ifCond .eq 124, 3) := by decide +kernel
theorem dX11_fitsBook_24 : decode cX11_fitsBook 24 = .ok (.bipush 6, 2) := by decide +kernel
theorem dX11_fitsBook_26 : decode cX11_fitsBook 26 = .ok (.iload_n 2, 1) := by decide +kernel
theorem dX11_fitsBook_27 : decode cX11_fitsBook 27 = .ok (.imul, 1) := by decide +kernel
theorem dX11_fitsBook_28 : decode cX11_fitsBook 28 = .ok (.istore_n 3, 1) := by decide +kernel
theorem dX11_fitsBook_29 : decode cX11_fitsBook 29 = .ok (.aload_n 0, 1) := by decide +kernel
theorem dX11_fitsBook_30 : decode cX11_fitsBook 30 = .ok (.aload_n 0, 1) := by decide +kernel
theorem dX11_fitsBook_31 : decode cX11_fitsBook 31 = .ok (.getfield 20, 3) := by decide +kernel
theorem dX11_fitsBook_34 : decode cX11_fitsBook 34 = .ok (.iload_n 3, 1) := by decide +kernel
theorem dX11_fitsBook_35 : decode cX11_fitsBook 35 = .ok (.iconst 2, 1) := by decide +kernel
theorem dX11_fitsBook_36 : decode cX11_fitsBook 36 = .ok (.iadd, 1) := by decide +kernel
theorem dX11_fitsBook_37 : decode cX11_fitsBook 37 = .ok (.iaload, 1) := by decide +kernel
theorem dX11_fitsBook_38 : decode cX11_fitsBook 38 = .ok (.aload_n 0, 1) := by decide +kernel
theorem dX11_fitsBook_39 : decode cX11_fitsBook 39 = .ok (.getfield 17, 3) := by decide +kernel
theorem dX11_fitsBook_42 : decode cX11_fitsBook 42 = .ok (.sipush 2016, 3) := by decide +kernel
theorem dX11_fitsBook_45 : decode cX11_fitsBook 45 = .ok (.iaload, 1) := by decide +kernel
theorem dX11_fitsBook_46 : decode cX11_fitsBook 46 = .ok (.isub, 1) := by decide +kernel
theorem dX11_fitsBook_47 : decode cX11_fitsBook 47 = .ok (.invokevirtual 325, 3) := by decide +kernel
theorem dX11_fitsBook_50 : decode cX11_fitsBook 50 = .ok (.aload_n 0, 1) := by decide +kernel
theorem dX11_fitsBook_51 : decode cX11_fitsBook 51 = .ok (.getfield 20, 3) := by decide +kernel
theorem dX11_fitsBook_54 : decode cX11_fitsBook 54 = .ok (.iload_n 3, 1) := by decide +kernel
theorem dX11_fitsBook_55 : decode cX11_fitsBook 55 = .ok (.iconst 5, 1) := by decide +kernel
theorem dX11_fitsBook_56 : decode cX11_fitsBook 56 = .ok (.iadd, 1) := by decide +kernel
theorem dX11_fitsBook_57 : decode cX11_fitsBook 57 = .ok (.iaload, 1) := by decide +kernel
theorem dX11_fitsBook_58 : decode cX11_fitsBook 58 = .ok (.ifCond .ne 38, 3) := by decide +kernel
theorem dX11_fitsBook_61 : decode cX11_fitsBook 61 = .ok (.iconst 0, 1) := by decide +kernel
theorem dX11_fitsBook_62 : decode cX11_fitsBook 62 = .ok (.istore 4, 2) := by decide +kernel
theorem dX11_fitsBook_64 : decode cX11_fitsBook 64 = .ok (.iload 4, 2) := by decide +kernel
theorem dX11_fitsBook_66 : decode cX11_fitsBook 66 = .ok (.aload_n 0, 1) := by decide +kernel
theorem dX11_fitsBook_67 : decode cX11_fitsBook 67 = .ok (.getfield 20, 3) := by decide +kernel
theorem dX11_fitsBook_70 : decode cX11_fitsBook 70 = .ok (.iload_n 3, 1) := by decide +kernel
theorem dX11_fitsBook_71 : decode cX11_fitsBook 71 = .ok (.iconst 1, 1) := by decide +kernel
theorem dX11_fitsBook_72 : decode cX11_fitsBook 72 = .ok (.iadd, 1) := by decide +kernel
theorem dX11_fitsBook_73 : decode cX11_fitsBook 73 = .ok (.iaload, 1) := by decide +kernel
theorem dX11_fitsBook_74 : decode cX11_fitsBook 74 = .ok (.if_icmp .ge 19, 3) := by decide +kernel
theorem dX11_fitsBook_77 : decode cX11_fitsBook 77 = .ok (.aload_n 0, 1) := by decide +kernel
theorem dX11_fitsBook_78 : decode cX11_fitsBook 78 = .ok (.aload_n 0, 1) := by decide +kernel
theorem dX11_fitsBook_79 : decode cX11_fitsBook 79 = .ok (.getfield 20, 3) := by decide +kernel
theorem dX11_fitsBook_82 : decode cX11_fitsBook 82 = .ok (.iload_n 3, 1) := by decide +kernel
theorem dX11_fitsBook_83 : decode cX11_fitsBook 83 = .ok (.iaload, 1) := by decide +kernel
theorem dX11_fitsBook_84 : decode cX11_fitsBook 84 = .ok (.invokevirtual 294, 3) := by decide +kernel
theorem dX11_fitsBook_87 : decode cX11_fitsBook 87 = .ok (.iinc 4 1, 3) := by decide +kernel
theorem dX11_fitsBook_90 : decode cX11_fitsBook 90 = .ok (.goto (-26), 3) := by decide +kernel
theorem dX11_fitsBook_93 : decode cX11_fitsBook 93 = .ok (.goto 46, 3) := by decide +kernel
theorem dX11_fitsBook_96 : decode cX11_fitsBook 96 = .ok (.aload_n 0, 1) := by decide +kernel
theorem dX11_fitsBook_97 : decode cX11_fitsBook 97 = .ok (.aload_n 0, 1) := by decide +kernel
theorem dX11_fitsBook_98 : decode cX11_fitsBook 98 = .ok (.getfield 20, 3) := by decide +kernel
theorem dX11_fitsBook_101 : decode cX11_fitsBook 101 = .ok (.iload_n 3, 1) := by decide +kernel
theorem dX11_fitsBook_102 : decode cX11_fitsBook 102 = .ok (.iaload, 1) := by decide +kernel
theorem dX11_fitsBook_103 : decode cX11_fitsBook 103 = .ok (.invokevirtual 306, 3) := by decide +kernel
theorem dX11_fitsBook_106 : decode cX11_fitsBook 106 = .ok (.aload_n 0, 1) := by decide +kernel
theorem dX11_fitsBook_107 : decode cX11_fitsBook 107 = .ok (.getfield 20, 3) := by decide +kernel
theorem dX11_fitsBook_110 : decode cX11_fitsBook 110 = .ok (.iload_n 3, 1) := by decide +kernel
theorem dX11_fitsBook_111 : decode cX11_fitsBook 111 = .ok (.iconst 5, 1) := by decide +kernel
theorem dX11_fitsBook_112 : decode cX11_fitsBook 112 = .ok (.iadd, 1) := by decide +kernel
theorem dX11_fitsBook_113 : decode cX11_fitsBook 113 = .ok (.iaload, 1) := by decide +kernel
theorem dX11_fitsBook_114 : decode cX11_fitsBook 114 = .ok (.iconst 2, 1) := by decide +kernel
theorem dX11_fitsBook_115 : decode cX11_fitsBook 115 = .ok (.if_icmp .ne 7, 3) := by decide +kernel
theorem dX11_fitsBook_118 : decode cX11_fitsBook 118 = .ok (.iconst (-1), 1) := by decide +kernel
theorem dX11_fitsBook_119 : decode cX11_fitsBook 119 = .ok (.goto 11, 3) := by decide +kernel
theorem dX11_fitsBook_122 : decode cX11_fitsBook 122 = .ok (.aload_n 0, 1) := by decide +kernel
theorem dX11_fitsBook_123 : decode cX11_fitsBook 123 = .ok (.getfield 20, 3) := by decide +kernel
theorem dX11_fitsBook_126 : decode cX11_fitsBook 126 = .ok (.iload_n 3, 1) := by decide +kernel
theorem dX11_fitsBook_127 : decode cX11_fitsBook 127 = .ok (.iconst 1, 1) := by decide +kernel
theorem dX11_fitsBook_128 : decode cX11_fitsBook 128 = .ok (.iadd, 1) := by decide +kernel
theorem dX11_fitsBook_129 : decode cX11_fitsBook 129 = .ok (.iaload, 1) := by decide +kernel
theorem dX11_fitsBook_130 : decode cX11_fitsBook 130 = .ok (.if_icmp .ne 7, 3) := by decide +kernel
theorem dX11_fitsBook_133 : decode cX11_fitsBook 133 = .ok (.iconst 1, 1) := by decide +kernel
theorem dX11_fitsBook_134 : decode cX11_fitsBook 134 = .ok (.goto 4, 3) := by decide +kernel
theorem dX11_fitsBook_137 : decode cX11_fitsBook 137 = .ok (.iconst 0, 1) := by decide +kernel
theorem dX11_fitsBook_138 : decode cX11_fitsBook 138 = .ok (.istore_n 1, 1) := by decide +kernel
theorem dX11_fitsBook_139 : decode cX11_fitsBook 139 = .ok (.iinc 2 1, 3) := by decide +kernel
theorem dX11_fitsBook_142 : decode cX11_fitsBook 142 = .ok (.goto (-130), 3) := by decide +kernel
theorem dX11_fitsBook_145 : decode cX11_fitsBook 145 = .ok (.aload_n 0, 1) := by decide +kernel
theorem dX11_fitsBook_146 : decode cX11_fitsBook 146 = .ok (.invokevirtual 309, 3) := by decide +kernel
theorem dX11_fitsBook_149 : decode cX11_fitsBook 149 = .ok (.iload_n 1, 1) := by decide +kernel
theorem dX11_fitsBook_150 : decode cX11_fitsBook 150 = .ok (.ireturn, 1) := by decide +kernel
theorem dX11_fit_0 : decode cX11_fit 0 = .ok (.iload_n 1, 1) := by decide +kernel
theorem dX11_fit_1 : decode cX11_fit 1 = .ok (.i2l, 1) := by decide +kernel
theorem dX11_fit_2 : decode cX11_fit 2 = .ok (.lconst 0, 1) := by decide +kernel
theorem dX11_fit_3 : decode cX11_fit 3 = .ok (.lconst 1, 1) := by decide +kernel
theorem dX11_fit_4 : decode cX11_fit 4 = .ok (.invokestatic 88, 3) := by decide +kernel
theorem dX11_fit_7 : decode cX11_fit 7 = .ok (.ifCond .eq 62, 3) := by decide +kernel
theorem dX11_fit_10 : decode cX11_fit 10 = .ok (.iload_n 2, 1) := by decide +kernel
theorem dX11_fit_11 : decode cX11_fit 11 = .ok (.i2l, 1) := by decide +kernel
theorem dX11_fit_12 : decode cX11_fit 12 = .ok (.lconst 0, 1) := by decide +kernel
theorem dX11_fit_13 : decode cX11_fit 13 = .ok (.ldc2_w 251, 3) := by decide +kernel
theorem dX11_fit_16 : decode cX11_fit 16 = .ok (.invokestatic 88, 3) := by decide +kernel
theorem dX11_fit_19 : decode cX11_fit 19 = .ok (.ifCond .eq 50, 3) := by decide +kernel
theorem dX11_fit_22 : decode cX11_fit 22 = .ok (.iload_n 3, 1) := by decide +kernel
theorem dX11_fit_23 : decode cX11_fit 23 = .ok (.i2l, 1) := by decide +kernel
theorem dX11_fit_24 : decode cX11_fit 24 = .ok (.lconst 0, 1) := by decide +kernel
theorem dX11_fit_25 : decode cX11_fit 25 = .ok (.iload 4, 2) := by decide +kernel
theorem dX11_fit_27 : decode cX11_fit 27 = .ok (.i2l, 1) := by decide +kernel
theorem dX11_fit_28 : decode cX11_fit 28 = .ok (.invokestatic 88, 3) := by decide +kernel
theorem dX11_fit_31 : decode cX11_fit 31 = .ok (.ifCond .eq 38, 3) := by decide +kernel
theorem dX11_fit_34 : decode cX11_fit 34 = .ok (.iload 4, 2) := by decide +kernel
theorem dX11_fit_36 : decode cX11_fit 36 = .ok (.i2l, 1) := by decide +kernel
theorem dX11_fit_37 : decode cX11_fit 37 = .ok (.lconst 0, 1) := by decide +kernel
theorem dX11_fit_38 : decode cX11_fit 38 = .ok (.ldc2_w 253, 3) := by decide +kernel
theorem dX11_fit_41 : decode cX11_fit 41 = .ok (.invokestatic 88, 3) := by decide +kernel
theorem dX11_fit_44 : decode cX11_fit 44 = .ok (.ifCond .eq 25, 3) := by decide +kernel
theorem dX11_fit_47 : decode cX11_fit 47 = .ok (.iload 4, 2) := by decide +kernel
theorem dX11_fit_49 : decode cX11_fit 49 = .ok (.iload_n 3, 1) := by decide +kernel
theorem dX11_fit_50 : decode cX11_fit 50 = .ok (.isub, 1) := by decide +kernel
theorem dX11_fit_51 : decode cX11_fit 51 = .ok (.bipush 30, 2) := by decide +kernel
theorem dX11_fit_53 : decode cX11_fit 53 = .ok (.if_icmp .gt 16, 3) := by decide +kernel
theorem dX11_fit_56 : decode cX11_fit 56 = .ok (.iload 5, 2) := by decide +kernel
theorem dX11_fit_58 : decode cX11_fit 58 = .ok (.i2l, 1) := by decide +kernel
theorem dX11_fit_59 : decode cX11_fit 59 = .ok (.lconst 0, 1) := by decide +kernel
theorem dX11_fit_60 : decode cX11_fit 60 = .ok (.ldc2_w 86, 3) := by decide +kernel
theorem dX11_fit_63 : decode cX11_fit 63 = .ok (.invokestatic 88, 3) := by decide +kernel
theorem dX11_fit_66 : decode cX11_fit 66 = .ok (.ifCond .ne 6, 3) := by decide +kernel
theorem dX11_fit_69 : decode cX11_fit 69 = .ok (.bipush (-2), 2) := by decide +kernel
theorem dX11_fit_71 : decode cX11_fit 71 = .ok (.ireturn, 1) := by decide +kernel
theorem dX11_fit_72 : decode cX11_fit 72 = .ok (.aload_n 0, 1) := by decide +kernel
theorem dX11_fit_73 : decode cX11_fit 73 = .ok (.getfield 17, 3) := by decide +kernel
theorem dX11_fit_76 : decode cX11_fit 76 = .ok (.sipush 2016, 3) := by decide +kernel
theorem dX11_fit_79 : decode cX11_fit 79 = .ok (.iaload, 1) := by decide +kernel
theorem dX11_fit_80 : decode cX11_fit 80 = .ok (.sipush 400, 3) := by decide +kernel
theorem dX11_fit_83 : decode cX11_fit 83 = .ok (.if_icmp .gt 26, 3) := by decide +kernel
theorem dX11_fit_86 : decode cX11_fit 86 = .ok (.aload_n 0, 1) := by decide +kernel
theorem dX11_fit_87 : decode cX11_fit 87 = .ok (.getfield 95, 3) := by decide +kernel
theorem dX11_fit_90 : decode cX11_fit 90 = .ok (.ifCond .gt 19, 3) := by decide +kernel
theorem dX11_fit_93 : decode cX11_fit 93 = .ok (.aload_n 0, 1) := by decide +kernel
theorem dX11_fit_94 : decode cX11_fit 94 = .ok (.getfield 13, 3) := by decide +kernel
theorem dX11_fit_97 : decode cX11_fit 97 = .ok (.iconst 2, 1) := by decide +kernel
theorem dX11_fit_98 : decode cX11_fit 98 = .ok (.iaload, 1) := by decide +kernel
theorem dX11_fit_99 : decode cX11_fit 99 = .ok (.aload_n 0, 1) := by decide +kernel
theorem dX11_fit_100 : decode cX11_fit 100 = .ok (.getfield 13, 3) := by decide +kernel
theorem dX11_fit_103 : decode cX11_fit 103 = .ok (.bipush 9, 2) := by decide +kernel
theorem dX11_fit_105 : decode cX11_fit 105 = .ok (.iaload, 1) := by decide +kernel
theorem dX11_fit_106 : decode cX11_fit 106 = .ok (.if_icmp .eq 6, 3) := by decide +kernel
theorem dX11_fit_109 : decode cX11_fit 109 = .ok (.bipush (-5), 2) := by decide +kernel
theorem dX11_fit_111 : decode cX11_fit 111 = .ok (.ireturn, 1) := by decide +kernel
theorem dX11_fit_112 : decode cX11_fit 112 = .ok (.iconst 0, 1) := by decide +kernel
theorem dX11_fit_113 : decode cX11_fit 113 = .ok (.istore 6, 2) := by decide +kernel
theorem dX11_fit_115 : decode cX11_fit 115 = .ok (.iconst (-1), 1) := by decide +kernel
theorem dX11_fit_116 : decode cX11_fit 116 = .ok (.istore 7, 2) := by decide +kernel
theorem dX11_fit_118 : decode cX11_fit 118 = .ok (.iconst (-1), 1) := by decide +kernel
theorem dX11_fit_119 : decode cX11_fit 119 = .ok (.istore 8, 2) := by decide +kernel
theorem dX11_fit_121 : decode cX11_fit 121 = .ok (.aload_n 0, 1) := by decide +kernel
theorem dX11_fit_122 : decode cX11_fit 122 = .ok (.iconst 4, 1) := by decide +kernel
theorem dX11_fit_123 : decode cX11_fit 123 = .ok (.iload_n 1, 1) := by decide +kernel
theorem dX11_fit_124 : decode cX11_fit 124 = .ok (.imul, 1) := by decide +kernel
theorem dX11_fit_125 : decode cX11_fit 125 = .ok (.iload_n 2, 1) := by decide +kernel
theorem dX11_fit_126 : decode cX11_fit 126 = .ok (.iadd, 1) := by decide +kernel
theorem dX11_fit_127 : decode cX11_fit 127 = .ok (.putfield 55, 3) := by decide +kernel
theorem dX11_fit_130 : decode cX11_fit 130 = .ok (.aload_n 0, 1) := by decide +kernel
theorem dX11_fit_131 : decode cX11_fit 131 = .ok (.iload_n 3, 1) := by decide +kernel
theorem dX11_fit_132 : decode cX11_fit 132 = .ok (.putfield 240, 3) := by decide +kernel
theorem dX11_fit_135 : decode cX11_fit 135 = .ok (.aload_n 0, 1) := by decide +kernel
theorem dX11_fit_136 : decode cX11_fit 136 = .ok (.getfield 240, 3) := by decide +kernel
theorem dX11_fit_139 : decode cX11_fit 139 = .ok (.iload 4, 2) := by decide +kernel
theorem dX11_fit_141 : decode cX11_fit 141 = .ok (.if_icmp .gt 52, 3) := by decide +kernel
theorem dX11_fit_144 : decode cX11_fit 144 = .ok (.aload_n 0, 1) := by decide +kernel
theorem dX11_fit_145 : decode cX11_fit 145 = .ok (.invokevirtual 379, 3) := by decide +kernel
theorem dX11_fit_148 : decode cX11_fit 148 = .ok (.ifCond .ne 6, 3) := by decide +kernel
theorem dX11_fit_151 : decode cX11_fit 151 = .ok (.goto 29, 3) := by decide +kernel
theorem dX11_fit_154 : decode cX11_fit 154 = .ok (.iinc 6 1, 3) := by decide +kernel
theorem dX11_fit_157 : decode cX11_fit 157 = .ok (.iload 7, 2) := by decide +kernel
theorem dX11_fit_159 : decode cX11_fit 159 = .ok (.iconst (-1), 1) := by decide +kernel
theorem dX11_fit_160 : decode cX11_fit 160 = .ok (.if_icmp .ne 10, 3) := by decide +kernel
theorem dX11_fit_163 : decode cX11_fit 163 = .ok (.aload_n 0, 1) := by decide +kernel
theorem dX11_fit_164 : decode cX11_fit 164 = .ok (.getfield 240, 3) := by decide +kernel
theorem dX11_fit_167 : decode cX11_fit 167 = .ok (.goto 5, 3) := by decide +kernel
theorem dX11_fit_170 : decode cX11_fit 170 = .ok (.iload 7, 2) := by decide +kernel
theorem dX11_fit_172 : decode cX11_fit 172 = .ok (.istore 7, 2) := by decide +kernel
theorem dX11_fit_174 : decode cX11_fit 174 = .ok (.aload_n 0, 1) := by decide +kernel
theorem dX11_fit_175 : decode cX11_fit 175 = .ok (.getfield 240, 3) := by decide +kernel
theorem dX11_fit_178 : decode cX11_fit 178 = .ok (.istore 8, 2) := by decide +kernel
theorem dX11_fit_180 : decode cX11_fit 180 = .ok (.aload_n 0, 1) := by decide +kernel
theorem dX11_fit_181 : decode cX11_fit 181 = .ok (.dup, 1) := by decide +kernel
theorem dX11_fit_182 : decode cX11_fit 182 = .ok (.getfield 240, 3) := by decide +kernel
theorem dX11_fit_185 : decode cX11_fit 185 = .ok (.iconst 1, 1) := by decide +kernel
theorem dX11_fit_186 : decode cX11_fit 186 = .ok (.iadd, 1) := by decide +kernel
theorem dX11_fit_187 : decode cX11_fit 187 = .ok (.putfield 240, 3) := by decide +kernel
theorem dX11_fit_190 : decode cX11_fit 190 = .ok (.goto (-55), 3) := by decide +kernel
theorem dX11_fit_193 : decode cX11_fit 193 = .ok (.aload_n 0, 1) := by decide +kernel
theorem dX11_fit_194 : decode cX11_fit 194 = .ok (.iconst (-1), 1) := by decide +kernel
theorem dX11_fit_195 : decode cX11_fit 195 = .ok (.putfield 55, 3) := by decide +kernel
theorem dX11_fit_198 : decode cX11_fit 198 = .ok (.iload 5, 2) := by decide +kernel
theorem dX11_fit_200 : decode cX11_fit 200 = .ok (.ifCond .ne 8, 3) := by decide +kernel
theorem dX11_fit_203 : decode cX11_fit 203 = .ok (.iload 6, 2) := by decide +kernel
theorem dX11_fit_205 : decode cX11_fit 205 = .ok (.goto 16, 3) := by decide +kernel
theorem dX11_fit_208 : decode cX11_fit 208 = .ok (.iload 5, 2) := by decide +kernel
theorem dX11_fit_210 : decode cX11_fit 210 = .ok (.iconst 1, 1) := by decide +kernel
theorem dX11_fit_211 : decode cX11_fit 211 = .ok (.if_icmp .ne 8, 3) := by decide +kernel
theorem dX11_fit_214 : decode cX11_fit 214 = .ok (.iload 7, 2) := by decide +kernel
theorem dX11_fit_216 : decode cX11_fit 216 = .ok (.goto 5, 3) := by decide +kernel
theorem dX11_fit_219 : decode cX11_fit 219 = .ok (.iload 8, 2) := by decide +kernel
theorem dX11_fit_221 : decode cX11_fit 221 = .ok (.ireturn, 1) := by decide +kernel
theorem dX11_days_0 : decode cX11_days 0 = .ok (.iload_n 1, 1) := by decide +kernel
theorem dX11_days_1 : decode cX11_days 1 = .ok (.invokestatic 368, 3) := by decide +kernel
theorem dX11_days_4 : decode cX11_days 4 = .ok (.ifCond .ne 6, 3) := by decide +kernel
theorem dX11_days_7 : decode cX11_days 7 = .ok (.bipush (-2), 2) := by decide +kernel
theorem dX11_days_9 : decode cX11_days 9 = .ok (.ireturn, 1) := by decide +kernel
theorem dX11_days_10 : decode cX11_days 10 = .ok (.aload_n 0, 1) := by decide +kernel
theorem dX11_days_11 : decode cX11_days 11 = .ok (.getfield 73, 3) := by decide +kernel
theorem dX11_days_14 : decode cX11_days 14 = .ok (.iload_n 1, 1) := by decide +kernel
theorem dX11_days_15 : decode cX11_days 15 = .ok (.iaload, 1) := by decide +kernel
theorem dX11_days_16 : decode cX11_days 16 = .ok (.iconst (-1), 1) := by decide +kernel
theorem dX11_days_17 : decode cX11_days 17 = .ok (.if_icmp .ne 6, 3) := by decide +kernel
theorem dX11_days_20 : decode cX11_days 20 = .ok (.bipush (-6), 2) := by decide +kernel
theorem dX11_days_22 : decode cX11_days 22 = .ok (.ireturn, 1) := by decide +kernel
theorem dX11_days_23 : decode cX11_days 23 = .ok (.iconst 0, 1) := by decide +kernel
theorem dX11_days_24 : decode cX11_days 24 = .ok (.istore_n 2, 1) := by decide +kernel
theorem dX11_days_25 : decode cX11_days 25 = .ok (.iconst 0, 1) := by decide +kernel
theorem dX11_days_26 : decode cX11_days 26 = .ok (.istore_n 3, 1) := by decide +kernel
theorem dX11_days_27 : decode cX11_days 27 = .ok (.iload_n 3, 1) := by decide +kernel
theorem dX11_days_28 : decode cX11_days 28 = .ok (.iconst 2, 1) := by decide +kernel
theorem dX11_days_29 : decode cX11_days 29 = .ok (.iadd, 1) := by decide +kernel
theorem dX11_days_30 : decode cX11_days 30 = .ok (.aload_n 0, 1) := by decide +kernel
theorem dX11_days_31 : decode cX11_days 31 = .ok (.getfield 73, 3) := by decide +kernel
theorem dX11_days_34 : decode cX11_days 34 = .ok (.iload_n 1, 1) := by decide +kernel
theorem dX11_days_35 : decode cX11_days 35 = .ok (.iaload, 1) := by decide +kernel
theorem dX11_days_36 : decode cX11_days 36 = .ok (.if_icmp .ge 136, 3) := by decide +kernel
theorem dX11_days_39 : decode cX11_days 39 = .ok (.aload_n 0, 1) := by decide +kernel
theorem dX11_days_40 : decode cX11_days 40 = .ok (.getfield 79, 3) := by decide +kernel
theorem dX11_days_43 : decode cX11_days 43 = .ok (.bipush 60, 2) := by decide +kernel
theorem dX11_days_45 : decode cX11_days 45 = .ok (.iload_n 1, 1) := by decide +kernel
theorem dX11_days_46 : decode cX11_days 46 = .ok (.imul, 1) := by decide +kernel
theorem dX11_days_47 : decode cX11_days 47 = .ok (.iload_n 3, 1) := by decide +kernel
theorem dX11_days_48 : decode cX11_days 48 = .ok (.iadd, 1) := by decide +kernel
theorem dX11_days_49 : decode cX11_days 49 = .ok (.laload, 1) := by decide +kernel
theorem dX11_days_50 : decode cX11_days 50 = .ok (.lstore 4, 2) := by decide +kernel
theorem dX11_days_52 : decode cX11_days 52 = .ok (.aload_n 0, 1) := by decide +kernel
theorem dX11_days_53 : decode cX11_days 53 = .ok (.getfield 79, 3) := by decide +kernel
theorem dX11_days_56 : decode cX11_days 56 = .ok (.bipush 60, 2) := by decide +kernel
theorem dX11_days_58 : decode cX11_days 58 = .ok (.iload_n 1, 1) := by decide +kernel
theorem dX11_days_59 : decode cX11_days 59 = .ok (.imul, 1) := by decide +kernel
theorem dX11_days_60 : decode cX11_days 60 = .ok (.iload_n 3, 1) := by decide +kernel
theorem dX11_days_61 : decode cX11_days 61 = .ok (.iadd, 1) := by decide +kernel
theorem dX11_days_62 : decode cX11_days 62 = .ok (.iconst 1, 1) := by decide +kernel
theorem dX11_days_63 : decode cX11_days 63 = .ok (.iadd, 1) := by decide +kernel
theorem dX11_days_64 : decode cX11_days 64 = .ok (.laload, 1) := by decide +kernel
theorem dX11_days_65 : decode cX11_days 65 = .ok (.lstore 6, 2) := by decide +kernel
theorem dX11_days_67 : decode cX11_days 67 = .ok (.aload_n 0, 1) := by decide +kernel
theorem dX11_days_68 : decode cX11_days 68 = .ok (.getfield 79, 3) := by decide +kernel
theorem dX11_days_71 : decode cX11_days 71 = .ok (.bipush 60, 2) := by decide +kernel
theorem dX11_days_73 : decode cX11_days 73 = .ok (.iload_n 1, 1) := by decide +kernel
theorem dX11_days_74 : decode cX11_days 74 = .ok (.imul, 1) := by decide +kernel
theorem dX11_days_75 : decode cX11_days 75 = .ok (.iload_n 3, 1) := by decide +kernel
theorem dX11_days_76 : decode cX11_days 76 = .ok (.iadd, 1) := by decide +kernel
theorem dX11_days_77 : decode cX11_days 77 = .ok (.iconst 2, 1) := by decide +kernel
theorem dX11_days_78 : decode cX11_days 78 = .ok (.iadd, 1) := by decide +kernel
theorem dX11_days_79 : decode cX11_days 79 = .ok (.laload, 1) := by decide +kernel
theorem dX11_days_80 : decode cX11_days 80 = .ok (.lstore 8, 2) := by decide +kernel
theorem dX11_days_82 : decode cX11_days 82 = .ok (.lload 4, 2) := by decide +kernel
theorem dX11_days_84 : decode cX11_days 84 = .ok (.lconst 0, 1) := by decide +kernel
theorem dX11_days_85 : decode cX11_days 85 = .ok (.ldc2_w 323, 3) := by decide +kernel
theorem dX11_days_88 : decode cX11_days 88 = .ok (.invokestatic 88, 3) := by decide +kernel
theorem dX11_days_91 : decode cX11_days 91 = .ok (.ifCond .eq 75, 3) := by decide +kernel
theorem dX11_days_94 : decode cX11_days 94 = .ok (.lload 6, 2) := by decide +kernel
theorem dX11_days_96 : decode cX11_days 96 = .ok (.lconst 0, 1) := by decide +kernel
theorem dX11_days_97 : decode cX11_days 97 = .ok (.aload_n 0, 1) := by decide +kernel
theorem dX11_days_98 : decode cX11_days 98 = .ok (.getfield 13, 3) := by decide +kernel
theorem dX11_days_101 : decode cX11_days 101 = .ok (.iconst 2, 1) := by decide +kernel
theorem dX11_days_102 : decode cX11_days 102 = .ok (.iaload, 1) := by decide +kernel
theorem dX11_days_103 : decode cX11_days 103 = .ok (.iconst 1, 1) := by decide +kernel
theorem dX11_days_104 : decode cX11_days 104 = .ok (.isub, 1) := by decide +kernel
theorem dX11_days_105 : decode cX11_days 105 = .ok (.i2l, 1) := by decide +kernel
theorem dX11_days_106 : decode cX11_days 106 = .ok (.invokestatic 88, 3) := by decide +kernel
theorem dX11_days_109 : decode cX11_days 109 = .ok (.ifCond .eq 57, 3) := by decide +kernel
theorem dX11_days_112 : decode cX11_days 112 = .ok (.lload 8, 2) := by decide +kernel
theorem dX11_days_114 : decode cX11_days 114 = .ok (.lconst 0, 1) := by decide +kernel
theorem dX11_days_115 : decode cX11_days 115 = .ok (.ldc2_w 318, 3) := by decide +kernel
theorem dX11_days_118 : decode cX11_days 118 = .ok (.invokestatic 88, 3) := by decide +kernel
theorem dX11_days_121 : decode cX11_days 121 = .ok (.ifCond .ne 6, 3) := by decide +kernel
theorem dX11_days_124 : decode cX11_days 124 = .ok (.goto 42, 3) := by decide +kernel
theorem dX11_days_127 : decode cX11_days 127 = .ok (.aload_n 0, 1) := by decide +kernel
theorem dX11_days_128 : decode cX11_days 128 = .ok (.lload 4, 2) := by decide +kernel
theorem dX11_days_130 : decode cX11_days 130 = .ok (.l2i, 1) := by decide +kernel
theorem dX11_days_131 : decode cX11_days 131 = .ok (.invokevirtual 325, 3) := by decide +kernel
theorem dX11_days_134 : decode cX11_days 134 = .ok (.lload 8, 2) := by decide +kernel
theorem dX11_days_136 : decode cX11_days 136 = .ok (.lconst 0, 1) := by decide +kernel
theorem dX11_days_137 : decode cX11_days 137 = .ok (.lcmp, 1) := by decide +kernel
theorem dX11_days_138 : decode cX11_days 138 = .ok (.ifCond .ne 13, 3) := by decide +kernel
theorem dX11_days_141 : decode cX11_days 141 = .ok (.aload_n 0, 1) := by decide +kernel
theorem dX11_days_142 : decode cX11_days 142 = .ok (.lload 6, 2) := by decide +kernel
theorem dX11_days_144 : decode cX11_days 144 = .ok (.l2i, 1) := by decide +kernel
theorem dX11_days_145 : decode cX11_days 145 = .ok (.invokevirtual 382, 3) := by decide +kernel
theorem dX11_days_148 : decode cX11_days 148 = .ok (.goto 13, 3) := by decide +kernel
theorem dX11_days_151 : decode cX11_days 151 = .ok (.aload_n 0, 1) := by decide +kernel
theorem dX11_days_152 : decode cX11_days 152 = .ok (.lload 6, 2) := by decide +kernel
theorem dX11_days_154 : decode cX11_days 154 = .ok (.l2i, 1) := by decide +kernel
theorem dX11_days_155 : decode cX11_days 155 = .ok (.lload 8, 2) := by decide +kernel
theorem dX11_days_157 : decode cX11_days 157 = .ok (.l2i, 1) := by decide +kernel
theorem dX11_days_158 : decode cX11_days 158 = .ok (.invokevirtual 385, 3) := by decide +kernel
theorem dX11_days_161 : decode cX11_days 161 = .ok (.istore 10, 2) := by decide +kernel
theorem dX11_days_163 : decode cX11_days 163 = .ok (.iinc 2 1, 3) := by decide +kernel
theorem dX11_days_166 : decode cX11_days 166 = .ok (.iinc 3 3, 3) := by decide +kernel
theorem dX11_days_169 : decode cX11_days 169 = .ok (.goto (-142), 3) := by decide +kernel
theorem dX11_days_172 : decode cX11_days 172 = .ok (.iload_n 2, 1) := by decide +kernel
theorem dX11_days_173 : decode cX11_days 173 = .ok (.ireturn, 1) := by decide +kernel
theorem dX11_parts_0 : decode cX11_parts 0 = .ok (.iload_n 1, 1) := by decide +kernel
theorem dX11_parts_1 : decode cX11_parts 1 = .ok (.i2l, 1) := by decide +kernel
theorem dX11_parts_2 : decode cX11_parts 2 = .ok (.lconst 0, 1) := by decide +kernel
theorem dX11_parts_3 : decode cX11_parts 3 = .ok (.ldc2_w 86, 3) := by decide +kernel
theorem dX11_parts_6 : decode cX11_parts 6 = .ok (.invokestatic 88, 3) := by decide +kernel
theorem dX11_parts_9 : decode cX11_parts 9 = .ok (.ifCond .ne 6, 3) := by decide +kernel
theorem dX11_parts_12 : decode cX11_parts 12 = .ok (.bipush (-2), 2) := by decide +kernel
theorem dX11_parts_14 : decode cX11_parts 14 = .ok (.ireturn, 1) := by decide +kernel
theorem dX11_parts_15 : decode cX11_parts 15 = .ok (.aload_n 0, 1) := by decide +kernel
theorem dX11_parts_16 : decode cX11_parts 16 = .ok (.getfield 35, 3) := by decide +kernel
theorem dX11_parts_19 : decode cX11_parts 19 = .ok (.iload_n 1, 1) := by decide +kernel
theorem dX11_parts_20 : decode cX11_parts 20 = .ok (.iaload, 1) := by decide +kernel
theorem dX11_parts_21 : decode cX11_parts 21 = .ok (.iconst (-1), 1) := by decide +kernel
theorem dX11_parts_22 : decode cX11_parts 22 = .ok (.if_icmp .ne 6, 3) := by decide +kernel
theorem dX11_parts_25 : decode cX11_parts 25 = .ok (.bipush (-6), 2) := by decide +kernel
theorem dX11_parts_27 : decode cX11_parts 27 = .ok (.ireturn, 1) := by decide +kernel
theorem dX11_parts_28 : decode cX11_parts 28 = .ok (.aload_n 0, 1) := by decide +kernel
theorem dX11_parts_29 : decode cX11_parts 29 = .ok (.invokevirtual 303, 3) := by decide +kernel
theorem dX11_parts_32 : decode cX11_parts 32 = .ok (.iconst 0, 1) := by decide +kernel
theorem dX11_parts_33 : decode cX11_parts 33 = .ok (.istore_n 2, 1) := by decide +kernel
theorem dX11_parts_34 : decode cX11_parts 34 = .ok (.iload_n 2, 1) := by decide +kernel
theorem dX11_parts_35 : decode cX11_parts 35 = .ok (.sipush 1120, 3) := by decide +kernel
theorem dX11_parts_38 : decode cX11_parts 38 = .ok (.if_icmp .ge 21, 3) := by decide +kernel
theorem dX11_parts_41 : decode cX11_parts 41 = .ok (.aload_n 0, 1) := by decide +kernel
theorem dX11_parts_42 : decode cX11_parts 42 = .ok (.getfield 64, 3) := by decide +kernel
theorem dX11_parts_45 : decode cX11_parts 45 = .ok (.iload_n 2, 1) := by decide +kernel
theorem dX11_parts_46 : decode cX11_parts 46 = .ok (.aload_n 0, 1) := by decide +kernel
theorem dX11_parts_47 : decode cX11_parts 47 = .ok (.getfield 13, 3) := by decide +kernel
theorem dX11_parts_50 : decode cX11_parts 50 = .ok (.iload_n 2, 1) := by decide +kernel
theorem dX11_parts_51 : decode cX11_parts 51 = .ok (.iaload, 1) := by decide +kernel
theorem dX11_parts_52 : decode cX11_parts 52 = .ok (.iastore, 1) := by decide +kernel
theorem dX11_parts_53 : decode cX11_parts 53 = .ok (.iinc 2 1, 3) := by decide +kernel
theorem dX11_parts_56 : decode cX11_parts 56 = .ok (.goto (-22), 3) := by decide +kernel
theorem dX11_parts_59 : decode cX11_parts 59 = .ok (.aload_n 0, 1) := by decide +kernel
theorem dX11_parts_60 : decode cX11_parts 60 = .ok (.iload_n 1, 1) := by decide +kernel
theorem dX11_parts_61 : decode cX11_parts 61 = .ok (.invokevirtual 98, 3) := by decide +kernel
theorem dX11_parts_64 : decode cX11_parts 64 = .ok (.iconst 0, 1) := by decide +kernel
theorem dX11_parts_65 : decode cX11_parts 65 = .ok (.istore_n 2, 1) := by decide +kernel
theorem dX11_parts_66 : decode cX11_parts 66 = .ok (.iload_n 2, 1) := by decide +kernel
theorem dX11_parts_67 : decode cX11_parts 67 = .ok (.bipush 12, 2) := by decide +kernel
theorem dX11_parts_69 : decode cX11_parts 69 = .ok (.if_icmp .ge 58, 3) := by decide +kernel
theorem dX11_parts_72 : decode cX11_parts 72 = .ok (.aload_n 0, 1) := by decide +kernel
theorem dX11_parts_73 : decode cX11_parts 73 = .ok (.getfield 70, 3) := by decide +kernel
theorem dX11_parts_76 : decode cX11_parts 76 = .ok (.iload_n 2, 1) := by decide +kernel
theorem dX11_parts_77 : decode cX11_parts 77 = .ok (.aload_n 0, 1) := by decide +kernel
theorem dX11_parts_78 : decode cX11_parts 78 = .ok (.iload_n 2, 1) := by decide +kernel
theorem dX11_parts_79 : decode cX11_parts 79 = .ok (.invokevirtual 315, 3) := by decide +kernel
theorem dX11_parts_82 : decode cX11_parts 82 = .ok (.ifCond .eq 11, 3) := by decide +kernel
theorem dX11_parts_85 : decode cX11_parts 85 = .ok (.aload_n 0, 1) := by decide +kernel
theorem dX11_parts_86 : decode cX11_parts 86 = .ok (.iload_n 2, 1) := by decide +kernel
theorem dX11_parts_87 : decode cX11_parts 87 = .ok (.invokevirtual 278, 3) := by decide +kernel
theorem dX11_parts_90 : decode cX11_parts 90 = .ok (.goto 4, 3) := by decide +kernel
theorem dX11_parts_93 : decode cX11_parts 93 = .ok (.iconst 0, 1) := by decide +kernel
theorem dX11_parts_94 : decode cX11_parts 94 = .ok (.iastore, 1) := by decide +kernel
theorem dX11_parts_95 : decode cX11_parts 95 = .ok (.aload_n 0, 1) := by decide +kernel
theorem dX11_parts_96 : decode cX11_parts 96 = .ok (.getfield 67, 3) := by decide +kernel
theorem dX11_parts_99 : decode cX11_parts 99 = .ok (.iload_n 2, 1) := by decide +kernel
theorem dX11_parts_100 : decode cX11_parts 100 = .ok (.aload_n 0, 1) := by decide +kernel
theorem dX11_parts_101 : decode cX11_parts 101 = .ok (.iload_n 2, 1) := by decide +kernel
theorem dX11_parts_102 : decode cX11_parts 102 = .ok (.invokevirtual 315, 3) := by decide +kernel
theorem dX11_parts_105 : decode cX11_parts 105 = .ok (.ifCond .eq 14, 3) := by decide +kernel
theorem dX11_parts_108 : decode cX11_parts 108 = .ok (.aload_n 0, 1) := by decide +kernel
theorem dX11_parts_109 : decode cX11_parts 109 = .ok (.iload_n 2, 1) := by decide +kernel
theorem dX11_parts_110 : decode cX11_parts 110 = .ok (.invokevirtual 333, 3) := by decide +kernel
theorem dX11_parts_113 : decode cX11_parts 113 = .ok (.invokestatic 340, 3) := by decide +kernel
theorem dX11_parts_116 : decode cX11_parts 116 = .ok (.goto 4, 3) := by decide +kernel
theorem dX11_parts_119 : decode cX11_parts 119 = .ok (.iconst 0, 1) := by decide +kernel
theorem dX11_parts_120 : decode cX11_parts 120 = .ok (.iastore, 1) := by decide +kernel
theorem dX11_parts_121 : decode cX11_parts 121 = .ok (.iinc 2 1, 3) := by decide +kernel
theorem dX11_parts_124 : decode cX11_parts 124 = .ok (.goto (-58), 3) := by decide +kernel
theorem dX11_parts_127 : decode cX11_parts 127 = .ok (.iconst 0, 1) := by decide +kernel
theorem dX11_parts_128 : decode cX11_parts 128 = .ok (.istore_n 2, 1) := by decide +kernel
theorem dX11_parts_129 : decode cX11_parts 129 = .ok (.iload_n 2, 1) := by decide +kernel
theorem dX11_parts_130 : decode cX11_parts 130 = .ok (.sipush 1120, 3) := by decide +kernel
theorem dX11_parts_133 : decode cX11_parts 133 = .ok (.if_icmp .ge 21, 3) := by decide +kernel
theorem dX11_parts_136 : decode cX11_parts 136 = .ok (.aload_n 0, 1) := by decide +kernel
theorem dX11_parts_137 : decode cX11_parts 137 = .ok (.getfield 13, 3) := by decide +kernel
theorem dX11_parts_140 : decode cX11_parts 140 = .ok (.iload_n 2, 1) := by decide +kernel
theorem dX11_parts_141 : decode cX11_parts 141 = .ok (.aload_n 0, 1) := by decide +kernel
theorem dX11_parts_142 : decode cX11_parts 142 = .ok (.getfield 64, 3) := by decide +kernel
theorem dX11_parts_145 : decode cX11_parts 145 = .ok (.iload_n 2, 1) := by decide +kernel
theorem dX11_parts_146 : decode cX11_parts 146 = .ok (.iaload, 1) := by decide +kernel
theorem dX11_parts_147 : decode cX11_parts 147 = .ok (.iastore, 1) := by decide +kernel
theorem dX11_parts_148 : decode cX11_parts 148 = .ok (.iinc 2 1, 3) := by decide +kernel
theorem dX11_parts_151 : decode cX11_parts 151 = .ok (.goto (-22), 3) := by decide +kernel
theorem dX11_parts_154 : decode cX11_parts 154 = .ok (.aload_n 0, 1) := by decide +kernel
theorem dX11_parts_155 : decode cX11_parts 155 = .ok (.invokevirtual 309, 3) := by decide +kernel
theorem dX11_parts_158 : decode cX11_parts 158 = .ok (.iconst (-1), 1) := by decide +kernel
theorem dX11_parts_159 : decode cX11_parts 159 = .ok (.istore_n 2, 1) := by decide +kernel
theorem dX11_parts_160 : decode cX11_parts 160 = .ok (.iconst (-1), 1) := by decide +kernel
theorem dX11_parts_161 : decode cX11_parts 161 = .ok (.istore_n 3, 1) := by decide +kernel
theorem dX11_parts_162 : decode cX11_parts 162 = .ok (.iconst 0, 1) := by decide +kernel
theorem dX11_parts_163 : decode cX11_parts 163 = .ok (.istore 4, 2) := by decide +kernel
theorem dX11_parts_165 : decode cX11_parts 165 = .ok (.iload 4, 2) := by decide +kernel
theorem dX11_parts_167 : decode cX11_parts 167 = .ok (.aload_n 0, 1) := by decide +kernel
theorem dX11_parts_168 : decode cX11_parts 168 = .ok (.getfield 13, 3) := by decide +kernel
theorem dX11_parts_171 : decode cX11_parts 171 = .ok (.iconst 2, 1) := by decide +kernel
theorem dX11_parts_172 : decode cX11_parts 172 = .ok (.iaload, 1) := by decide +kernel
theorem dX11_parts_173 : decode cX11_parts 173 = .ok (.if_icmp .ge 65, 3) := by decide +kernel
theorem dX11_parts_176 : decode cX11_parts 176 = .ok (.aload_n 0, 1) := by decide +kernel
theorem dX11_parts_177 : decode cX11_parts 177 = .ok (.getfield 70, 3) := by decide +kernel
theorem dX11_parts_180 : decode cX11_parts 180 = .ok (.iload 4, 2) := by decide +kernel
theorem dX11_parts_182 : decode cX11_parts 182 = .ok (.iaload, 1) := by decide +kernel
theorem dX11_parts_183 : decode cX11_parts 183 = .ok (.aload_n 0, 1) := by decide +kernel
theorem dX11_parts_184 : decode cX11_parts 184 = .ok (.iload 4, 2) := by decide +kernel
theorem dX11_parts_186 : decode cX11_parts 186 = .ok (.invokevirtual 278, 3) := by decide +kernel
theorem dX11_parts_189 : decode cX11_parts 189 = .ok (.if_icmp .eq 6, 3) := by decide +kernel
theorem dX11_parts_192 : decode cX11_parts 192 = .ok (.goto 40, 3) := by decide +kernel
theorem dX11_parts_195 : decode cX11_parts 195 = .ok (.aload_n 0, 1) := by decide +kernel
theorem dX11_parts_196 : decode cX11_parts 196 = .ok (.iload 4, 2) := by decide +kernel
theorem dX11_parts_198 : decode cX11_parts 198 = .ok (.invokevirtual 333, 3) := by decide +kernel
theorem dX11_parts_201 : decode cX11_parts 201 = .ok (.invokestatic 340, 3) := by decide +kernel
theorem dX11_parts_204 : decode cX11_parts 204 = .ok (.aload_n 0, 1) := by decide +kernel
theorem dX11_parts_205 : decode cX11_parts 205 = .ok (.getfield 67, 3) := by decide +kernel
theorem dX11_parts_208 : decode cX11_parts 208 = .ok (.iload 4, 2) := by decide +kernel
theorem dX11_parts_210 : decode cX11_parts 210 = .ok (.iaload, 1) := by decide +kernel
theorem dX11_parts_211 : decode cX11_parts 211 = .ok (.isub, 1) := by decide +kernel
theorem dX11_parts_212 : decode cX11_parts 212 = .ok (.invokestatic 388, 3) := by decide +kernel
theorem dX11_parts_215 : decode cX11_parts 215 = .ok (.istore 5, 2) := by decide +kernel
theorem dX11_parts_217 : decode cX11_parts 217 = .ok (.iload 5, 2) := by decide +kernel
theorem dX11_parts_219 : decode cX11_parts 219 = .ok (.iload_n 3, 1) := by decide +kernel
theorem dX11_parts_220 : decode cX11_parts 220 = .ok (.if_icmp .gt 6, 3) := by decide +kernel
theorem dX11_parts_223 : decode cX11_parts 223 = .ok (.goto 9, 3) := by decide +kernel
theorem dX11_parts_226 : decode cX11_parts 226 = .ok (.iload 4, 2) := by decide +kernel
theorem dX11_parts_228 : decode cX11_parts 228 = .ok (.istore_n 2, 1) := by decide +kernel
theorem dX11_parts_229 : decode cX11_parts 229 = .ok (.iload 5, 2) := by decide +kernel
theorem dX11_parts_231 : decode cX11_parts 231 = .ok (.istore_n 3, 1) := by decide +kernel
theorem dX11_parts_232 : decode cX11_parts 232 = .ok (.iinc 4 1, 3) := by decide +kernel
theorem dX11_parts_235 : decode cX11_parts 235 = .ok (.goto (-70), 3) := by decide +kernel
theorem dX11_parts_238 : decode cX11_parts 238 = .ok (.iload_n 2, 1) := by decide +kernel
theorem dX11_parts_239 : decode cX11_parts 239 = .ok (.ireturn, 1) := by decide +kernel
theorem dX11_forget_0 : decode cX11_forget 0 = .ok (.iconst 0, 1) := by decide +kernel
theorem dX11_forget_1 : decode cX11_forget 1 = .ok (.istore_n 1, 1) := by decide +kernel
theorem dX11_forget_2 : decode cX11_forget 2 = .ok (.iconst 0, 1) := by decide +kernel
theorem dX11_forget_3 : decode cX11_forget 3 = .ok (.istore_n 2, 1) := by decide +kernel
theorem dX11_forget_4 : decode cX11_forget 4 = .ok (.iload_n 2, 1) := by decide +kernel
theorem dX11_forget_5 : decode cX11_forget 5 = .ok (.iconst 4, 1) := by decide +kernel
theorem dX11_forget_6 : decode cX11_forget 6 = .ok (.if_icmp .ge 17, 3) := by decide +kernel
theorem dX11_forget_9 : decode cX11_forget 9 = .ok (.iload_n 1, 1) := by decide +kernel
theorem dX11_forget_10 : decode cX11_forget 10 = .ok (.aload_n 0, 1) := by decide +kernel
theorem dX11_forget_11 : decode cX11_forget 11 = .ok (.iload_n 2, 1) := by decide +kernel
theorem dX11_forget_12 : decode cX11_forget 12 = .ok (.invokevirtual 330, 3) := by decide +kernel
theorem dX11_forget_15 : decode cX11_forget 15 = .ok (.iadd, 1) := by decide +kernel
theorem dX11_forget_16 : decode cX11_forget 16 = .ok (.istore_n 1, 1) := by decide +kernel
theorem dX11_forget_17 : decode cX11_forget 17 = .ok (.iinc 2 1, 3) := by decide +kernel
theorem dX11_forget_20 : decode cX11_forget 20 = .ok (.goto (-16), 3) := by decide +kernel
theorem dX11_forget_23 : decode cX11_forget 23 = .ok (.aload_n 0, 1) := by decide +kernel
theorem dX11_forget_24 : decode cX11_forget 24 = .ok (.invokevirtual 237, 3) := by decide +kernel
theorem dX11_forget_27 : decode cX11_forget 27 = .ok (.aload_n 0, 1) := by decide +kernel
theorem dX11_forget_28 : decode cX11_forget 28 = .ok (.iconst 0, 1) := by decide +kernel
theorem dX11_forget_29 : decode cX11_forget 29 = .ok (.putfield 92, 3) := by decide +kernel
theorem dX11_forget_32 : decode cX11_forget 32 = .ok (.aload_n 0, 1) := by decide +kernel
theorem dX11_forget_33 : decode cX11_forget 33 = .ok (.iconst 0, 1) := by decide +kernel
theorem dX11_forget_34 : decode cX11_forget 34 = .ok (.putfield 95, 3) := by decide +kernel
theorem dX11_forget_37 : decode cX11_forget 37 = .ok (.iload_n 1, 1) := by decide +kernel
theorem dX11_forget_38 : decode cX11_forget 38 = .ok (.ireturn, 1) := by decide +kernel
theorem dX11_count_0 : decode cX11_count 0 = .ok (.iconst 0, 1) := by decide +kernel
theorem dX11_count_1 : decode cX11_count 1 = .ok (.istore_n 2, 1) := by decide +kernel
theorem dX11_count_2 : decode cX11_count 2 = .ok (.iload_n 1, 1) := by decide +kernel
theorem dX11_count_3 : decode cX11_count 3 = .ok (.tableswitch 166 0 12 #[65, 72, 79, 86, 91, 100, 109, 114, 121, 121, 121, 121, 133], 65) := by decide +kernel
theorem dX11_count_68 : decode cX11_count 68 = .ok (.aload_n 0, 1) := by decide +kernel
theorem dX11_count_69 : decode cX11_count 69 = .ok (.getfield 13, 3) := by decide +kernel
theorem dX11_count_72 : decode cX11_count 72 = .ok (.iconst 1, 1) := by decide +kernel
theorem dX11_count_73 : decode cX11_count 73 = .ok (.iaload, 1) := by decide +kernel
theorem dX11_count_74 : decode cX11_count 74 = .ok (.ireturn, 1) := by decide +kernel
theorem dX11_count_75 : decode cX11_count 75 = .ok (.aload_n 0, 1) := by decide +kernel
theorem dX11_count_76 : decode cX11_count 76 = .ok (.getfield 13, 3) := by decide +kernel
theorem dX11_count_79 : decode cX11_count 79 = .ok (.iconst 2, 1) := by decide +kernel
theorem dX11_count_80 : decode cX11_count 80 = .ok (.iaload, 1) := by decide +kernel
theorem dX11_count_81 : decode cX11_count 81 = .ok (.ireturn, 1) := by decide +kernel
theorem dX11_count_82 : decode cX11_count 82 = .ok (.aload_n 0, 1) := by decide +kernel
theorem dX11_count_83 : decode cX11_count 83 = .ok (.getfield 13, 3) := by decide +kernel
theorem dX11_count_86 : decode cX11_count 86 = .ok (.iconst 0, 1) := by decide +kernel
theorem dX11_count_87 : decode cX11_count 87 = .ok (.iaload, 1) := by decide +kernel
theorem dX11_count_88 : decode cX11_count 88 = .ok (.ireturn, 1) := by decide +kernel
theorem dX11_count_89 : decode cX11_count 89 = .ok (.aload_n 0, 1) := by decide +kernel
theorem dX11_count_90 : decode cX11_count 90 = .ok (.getfield 102, 3) := by decide +kernel
theorem dX11_count_93 : decode cX11_count 93 = .ok (.ireturn, 1) := by decide +kernel
theorem dX11_count_94 : decode cX11_count 94 = .ok (.aload_n 0, 1) := by decide +kernel
theorem dX11_count_95 : decode cX11_count 95 = .ok (.getfield 17, 3) := by decide +kernel
theorem dX11_count_98 : decode cX11_count 98 = .ok (.sipush 2016, 3) := by decide +kernel
theorem dX11_count_101 : decode cX11_count 101 = .ok (.iaload, 1) := by decide +kernel
theorem dX11_count_102 : decode cX11_count 102 = .ok (.ireturn, 1) := by decide +kernel
theorem dX11_count_103 : decode cX11_count 103 = .ok (.aload_n 0, 1) := by decide +kernel
theorem dX11_count_104 : decode cX11_count 104 = .ok (.getfield 17, 3) := by decide +kernel
theorem dX11_count_107 : decode cX11_count 107 = .ok (.sipush 2017, 3) := by decide +kernel
theorem dX11_count_110 : decode cX11_count 110 = .ok (.iaload, 1) := by decide +kernel
theorem dX11_count_111 : decode cX11_count 111 = .ok (.ireturn, 1) := by decide +kernel
theorem dX11_count_112 : decode cX11_count 112 = .ok (.aload_n 0, 1) := by decide +kernel
theorem dX11_count_113 : decode cX11_count 113 = .ok (.getfield 92, 3) := by decide +kernel
theorem dX11_count_116 : decode cX11_count 116 = .ok (.ireturn, 1) := by decide +kernel
theorem dX11_count_117 : decode cX11_count 117 = .ok (.aload_n 0, 1) := by decide +kernel
theorem dX11_count_118 : decode cX11_count 118 = .ok (.getfield 13, 3) := by decide +kernel
theorem dX11_count_121 : decode cX11_count 121 = .ok (.iconst 4, 1) := by decide +kernel
theorem dX11_count_122 : decode cX11_count 122 = .ok (.iaload, 1) := by decide +kernel
theorem dX11_count_123 : decode cX11_count 123 = .ok (.ireturn, 1) := by decide +kernel
theorem dX11_count_124 : decode cX11_count 124 = .ok (.aload_n 0, 1) := by decide +kernel
theorem dX11_count_125 : decode cX11_count 125 = .ok (.getfield 13, 3) := by decide +kernel
theorem dX11_count_128 : decode cX11_count 128 = .ok (.iconst 5, 1) := by decide +kernel
theorem dX11_count_129 : decode cX11_count 129 = .ok (.iload_n 1, 1) := by decide +kernel
theorem dX11_count_130 : decode cX11_count 130 = .ok (.iadd, 1) := by decide +kernel
theorem dX11_count_131 : decode cX11_count 131 = .ok (.bipush 8, 2) := by decide +kernel
theorem dX11_count_133 : decode cX11_count 133 = .ok (.isub, 1) := by decide +kernel
theorem dX11_count_134 : decode cX11_count 134 = .ok (.iaload, 1) := by decide +kernel
theorem dX11_count_135 : decode cX11_count 135 = .ok (.ireturn, 1) := by decide +kernel
theorem dX11_count_136 : decode cX11_count 136 = .ok (.iconst 0, 1) := by decide +kernel
theorem dX11_count_137 : decode cX11_count 137 = .ok (.istore_n 3, 1) := by decide +kernel
theorem dX11_count_138 : decode cX11_count 138 = .ok (.iload_n 3, 1) := by decide +kernel
theorem dX11_count_139 : decode cX11_count 139 = .ok (.iconst 4, 1) := by decide +kernel
theorem dX11_count_140 : decode cX11_count 140 = .ok (.if_icmp .ge 27, 3) := by decide +kernel
theorem dX11_count_143 : decode cX11_count 143 = .ok (.iload_n 2, 1) := by decide +kernel
theorem dX11_count_144 : decode cX11_count 144 = .ok (.aload_n 0, 1) := by decide +kernel
theorem dX11_count_145 : decode cX11_count 145 = .ok (.getfield 73, 3) := by decide +kernel
theorem dX11_count_148 : decode cX11_count 148 = .ok (.iload_n 3, 1) := by decide +kernel
theorem dX11_count_149 : decode cX11_count 149 = .ok (.iaload, 1) := by decide +kernel
theorem dX11_count_150 : decode cX11_count 150 = .ok (.iconst (-1), 1) := by decide +kernel
theorem dX11_count_151 : decode cX11_count 151 = .ok (.if_icmp .ne 7, 3) := by decide +kernel
theorem dX11_count_154 : decode cX11_count 154 = .ok (.iconst 0, 1) := by decide +kernel
theorem dX11_count_155 : decode cX11_count 155 = .ok (.goto 4, 3) := by decide +kernel
theorem dX11_count_158 : decode cX11_count 158 = .ok (.iconst 1, 1) := by decide +kernel
theorem dX11_count_159 : decode cX11_count 159 = .ok (.iadd, 1) := by decide +kernel
theorem dX11_count_160 : decode cX11_count 160 = .ok (.istore_n 2, 1) := by decide +kernel
theorem dX11_count_161 : decode cX11_count 161 = .ok (.iinc 3 1, 3) := by decide +kernel
theorem dX11_count_164 : decode cX11_count 164 = .ok (.goto (-26), 3) := by decide +kernel
theorem dX11_count_167 : decode cX11_count 167 = .ok (.iload_n 2, 1) := by decide +kernel
theorem dX11_count_168 : decode cX11_count 168 = .ok (.ireturn, 1) := by decide +kernel
theorem dX11_count_169 : decode cX11_count 169 = .ok (.iconst (-1), 1) := by decide +kernel
theorem dX11_count_170 : decode cX11_count 170 = .ok (.ireturn, 1) := by decide +kernel
theorem dX11_isSlot_0 : decode cX11_isSlot 0 = .ok (.iload_n 0, 1) := by decide +kernel
theorem dX11_isSlot_1 : decode cX11_isSlot 1 = .ok (.i2l, 1) := by decide +kernel
theorem dX11_isSlot_2 : decode cX11_isSlot 2 = .ok (.lconst 0, 1) := by decide +kernel
theorem dX11_isSlot_3 : decode cX11_isSlot 3 = .ok (.ldc2_w 251, 3) := by decide +kernel
theorem dX11_isSlot_6 : decode cX11_isSlot 6 = .ok (.invokestatic 88, 3) := by decide +kernel
theorem dX11_isSlot_9 : decode cX11_isSlot 9 = .ok (.ireturn, 1) := by decide +kernel
theorem dX11_cut_0 : decode cX11_cut 0 = .ok (.bipush 64, 2) := by decide +kernel
theorem dX11_cut_2 : decode cX11_cut 2 = .ok (.bipush 8, 2) := by decide +kernel
theorem dX11_cut_4 : decode cX11_cut 4 = .ok (.iload_n 2, 1) := by decide +kernel
theorem dX11_cut_5 : decode cX11_cut 5 = .ok (.ishl, 1) := by decide +kernel
theorem dX11_cut_6 : decode cX11_cut 6 = .ok (.isub, 1) := by decide +kernel
theorem dX11_cut_7 : decode cX11_cut 7 = .ok (.istore_n 3, 1) := by decide +kernel
theorem dX11_cut_8 : decode cX11_cut 8 = .ok (.lload_n 0, 1) := by decide +kernel
theorem dX11_cut_9 : decode cX11_cut 9 = .ok (.iload_n 3, 1) := by decide +kernel
theorem dX11_cut_10 : decode cX11_cut 10 = .ok (.lshl, 1) := by decide +kernel
theorem dX11_cut_11 : decode cX11_cut 11 = .ok (.iload_n 3, 1) := by decide +kernel
theorem dX11_cut_12 : decode cX11_cut 12 = .ok (.lshr, 1) := by decide +kernel
theorem dX11_cut_13 : decode cX11_cut 13 = .ok (.lreturn, 1) := by decide +kernel
theorem dX11_row_0 : decode cX11_row 0 = .ok (.iload_n 1, 1) := by decide +kernel
theorem dX11_row_1 : decode cX11_row 1 = .ok (.invokestatic 368, 3) := by decide +kernel
theorem dX11_row_4 : decode cX11_row 4 = .ok (.ifCond .eq 21, 3) := by decide +kernel
theorem dX11_row_7 : decode cX11_row 7 = .ok (.iload_n 2, 1) := by decide +kernel
theorem dX11_row_8 : decode cX11_row 8 = .ok (.i2l, 1) := by decide +kernel
theorem dX11_row_9 : decode cX11_row 9 = .ok (.lconst 0, 1) := by decide +kernel
theorem dX11_row_10 : decode cX11_row 10 = .ok (.ldc2_w 251, 3) := by decide +kernel
theorem dX11_row_13 : decode cX11_row 13 = .ok (.invokestatic 88, 3) := by decide +kernel
theorem dX11_row_16 : decode cX11_row 16 = .ok (.ifCond .eq 9, 3) := by decide +kernel
theorem dX11_row_19 : decode cX11_row 19 = .ok (.iload_n 3, 1) := by decide +kernel
theorem dX11_row_20 : decode cX11_row 20 = .ok (.bipush 60, 2) := by decide +kernel
theorem dX11_row_22 : decode cX11_row 22 = .ok (.if_icmp .le 6, 3) := by decide +kernel
theorem dX11_row_25 : decode cX11_row 25 = .ok (.bipush (-2), 2) := by decide +kernel
theorem dX11_row_27 : decode cX11_row 27 = .ok (.ireturn, 1) := by decide +kernel
theorem dX11_row_28 : decode cX11_row 28 = .ok (.iload_n 3, 1) := by decide +kernel
theorem dX11_row_29 : decode cX11_row 29 = .ok (.ifCond .ge 6, 3) := by decide +kernel
theorem dX11_row_32 : decode cX11_row 32 = .ok (.bipush (-3), 2) := by decide +kernel
theorem dX11_row_34 : decode cX11_row 34 = .ok (.ireturn, 1) := by decide +kernel
theorem dX11_row_35 : decode cX11_row 35 = .ok (.aload_n 0, 1) := by decide +kernel
theorem dX11_row_36 : decode cX11_row 36 = .ok (.getfield 73, 3) := by decide +kernel
theorem dX11_row_39 : decode cX11_row 39 = .ok (.iload_n 1, 1) := by decide +kernel
theorem dX11_row_40 : decode cX11_row 40 = .ok (.iload_n 3, 1) := by decide +kernel
theorem dX11_row_41 : decode cX11_row 41 = .ok (.iastore, 1) := by decide +kernel
theorem dX11_row_42 : decode cX11_row 42 = .ok (.aload_n 0, 1) := by decide +kernel
theorem dX11_row_43 : decode cX11_row 43 = .ok (.getfield 76, 3) := by decide +kernel
theorem dX11_row_46 : decode cX11_row 46 = .ok (.iload_n 1, 1) := by decide +kernel
theorem dX11_row_47 : decode cX11_row 47 = .ok (.iload_n 2, 1) := by decide +kernel
theorem dX11_row_48 : decode cX11_row 48 = .ok (.iastore, 1) := by decide +kernel
theorem dX11_row_49 : decode cX11_row 49 = .ok (.iconst 0, 1) := by decide +kernel
theorem dX11_row_50 : decode cX11_row 50 = .ok (.istore 4, 2) := by decide +kernel
theorem dX11_row_52 : decode cX11_row 52 = .ok (.iload 4, 2) := by decide +kernel
theorem dX11_row_54 : decode cX11_row 54 = .ok (.bipush 60, 2) := by decide +kernel
theorem dX11_row_56 : decode cX11_row 56 = .ok (.if_icmp .ge 22, 3) := by decide +kernel
theorem dX11_row_59 : decode cX11_row 59 = .ok (.aload_n 0, 1) := by decide +kernel
theorem dX11_row_60 : decode cX11_row 60 = .ok (.getfield 79, 3) := by decide +kernel
theorem dX11_row_63 : decode cX11_row 63 = .ok (.bipush 60, 2) := by decide +kernel
theorem dX11_row_65 : decode cX11_row 65 = .ok (.iload_n 1, 1) := by decide +kernel
theorem dX11_row_66 : decode cX11_row 66 = .ok (.imul, 1) := by decide +kernel
theorem dX11_row_67 : decode cX11_row 67 = .ok (.iload 4, 2) := by decide +kernel
theorem dX11_row_69 : decode cX11_row 69 = .ok (.iadd, 1) := by decide +kernel
theorem dX11_row_70 : decode cX11_row 70 = .ok (.lconst 0, 1) := by decide +kernel
theorem dX11_row_71 : decode cX11_row 71 = .ok (.lastore, 1) := by decide +kernel
theorem dX11_row_72 : decode cX11_row 72 = .ok (.iinc 4 1, 3) := by decide +kernel
theorem dX11_row_75 : decode cX11_row 75 = .ok (.goto (-23), 3) := by decide +kernel
theorem dX11_row_78 : decode cX11_row 78 = .ok (.iconst 0, 1) := by decide +kernel
theorem dX11_row_79 : decode cX11_row 79 = .ok (.ireturn, 1) := by decide +kernel
theorem dX11_write_0 : decode cX11_write 0 = .ok (.iload_n 1, 1) := by decide +kernel
theorem dX11_write_1 : decode cX11_write 1 = .ok (.invokestatic 368, 3) := by decide +kernel
theorem dX11_write_4 : decode cX11_write 4 = .ok (.ifCond .ne 6, 3) := by decide +kernel
theorem dX11_write_7 : decode cX11_write 7 = .ok (.bipush (-2), 2) := by decide +kernel
theorem dX11_write_9 : decode cX11_write 9 = .ok (.ireturn, 1) := by decide +kernel
theorem dX11_write_10 : decode cX11_write 10 = .ok (.aload_n 0, 1) := by decide +kernel
theorem dX11_write_11 : decode cX11_write 11 = .ok (.getfield 73, 3) := by decide +kernel
theorem dX11_write_14 : decode cX11_write 14 = .ok (.iload_n 1, 1) := by decide +kernel
theorem dX11_write_15 : decode cX11_write 15 = .ok (.iaload, 1) := by decide +kernel
theorem dX11_write_16 : decode cX11_write 16 = .ok (.iconst (-1), 1) := by decide +kernel
theorem dX11_write_17 : decode cX11_write 17 = .ok (.if_icmp .ne 6, 3) := by decide +kernel
theorem dX11_write_20 : decode cX11_write 20 = .ok (.bipush (-6), 2) := by decide +kernel
theorem dX11_write_22 : decode cX11_write 22 = .ok (.ireturn, 1) := by decide +kernel
theorem dX11_write_23 : decode cX11_write 23 = .ok (.iload_n 2, 1) := by decide +kernel
theorem dX11_write_24 : decode cX11_write 24 = .ok (.i2l, 1) := by decide +kernel
theorem dX11_write_25 : decode cX11_write 25 = .ok (.lconst 0, 1) := by decide +kernel
theorem dX11_write_26 : decode cX11_write 26 = .ok (.aload_n 0, 1) := by decide +kernel
theorem dX11_write_27 : decode cX11_write 27 = .ok (.getfield 73, 3) := by decide +kernel
theorem dX11_write_30 : decode cX11_write 30 = .ok (.iload_n 1, 1) := by decide +kernel
theorem dX11_write_31 : decode cX11_write 31 = .ok (.iaload, 1) := by decide +kernel
theorem dX11_write_32 : decode cX11_write 32 = .ok (.iconst 1, 1) := by decide +kernel
theorem dX11_write_33 : decode cX11_write 33 = .ok (.isub, 1) := by decide +kernel
theorem dX11_write_34 : decode cX11_write 34 = .ok (.i2l, 1) := by decide +kernel
theorem dX11_write_35 : decode cX11_write 35 = .ok (.invokestatic 88, 3) := by decide +kernel
theorem dX11_write_38 : decode cX11_write 38 = .ok (.ifCond .ne 6, 3) := by decide +kernel
theorem dX11_write_41 : decode cX11_write 41 = .ok (.bipush (-7), 2) := by decide +kernel
theorem dX11_write_43 : decode cX11_write 43 = .ok (.ireturn, 1) := by decide +kernel
theorem dX11_write_44 : decode cX11_write 44 = .ok (.aload_n 0, 1) := by decide +kernel
theorem dX11_write_45 : decode cX11_write 45 = .ok (.getfield 79, 3) := by decide +kernel
theorem dX11_write_48 : decode cX11_write 48 = .ok (.bipush 60, 2) := by decide +kernel
theorem dX11_write_50 : decode cX11_write 50 = .ok (.iload_n 1, 1) := by decide +kernel
theorem dX11_write_51 : decode cX11_write 51 = .ok (.imul, 1) := by decide +kernel
theorem dX11_write_52 : decode cX11_write 52 = .ok (.iload_n 2, 1) := by decide +kernel
theorem dX11_write_53 : decode cX11_write 53 = .ok (.iadd, 1) := by decide +kernel
theorem dX11_write_54 : decode cX11_write 54 = .ok (.lload_n 3, 1) := by decide +kernel
theorem dX11_write_55 : decode cX11_write 55 = .ok (.aload_n 0, 1) := by decide +kernel
theorem dX11_write_56 : decode cX11_write 56 = .ok (.getfield 76, 3) := by decide +kernel
theorem dX11_write_59 : decode cX11_write 59 = .ok (.iload_n 1, 1) := by decide +kernel
theorem dX11_write_60 : decode cX11_write 60 = .ok (.iaload, 1) := by decide +kernel
theorem dX11_write_61 : decode cX11_write 61 = .ok (.invokestatic 391, 3) := by decide +kernel
theorem dX11_write_64 : decode cX11_write 64 = .ok (.lastore, 1) := by decide +kernel
theorem dX11_write_65 : decode cX11_write 65 = .ok (.iconst 0, 1) := by decide +kernel
theorem dX11_write_66 : decode cX11_write 66 = .ok (.ireturn, 1) := by decide +kernel
theorem dX11_paste_0 : decode cX11_paste 0 = .ok (.iload_n 1, 1) := by decide +kernel
