theorem dX11_sits_30 : decode cX11_sits 30 = .ok (.aload_n 0, 1) := by decide +kernel
theorem dX11_sits_31 : decode cX11_sits 31 = .ok (.getfield 20, 3) := by decide +kernel
theorem dX11_sits_34 : decode cX11_sits 34 = .ok (.iload 5, 2) := by decide +kernel
theorem dX11_sits_36 : decode cX11_sits 36 = .ok (.iaload, 1) := by decide +kernel
theorem dX11_sits_37 : decode cX11_sits 37 = .ok (.iastore, 1) := by decide +kernel
theorem dX11_sits_38 : decode cX11_sits 38 = .ok (.iinc 5 1, 3) := by decide +kernel
theorem dX11_sits_41 : decode cX11_sits 41 = .ok (.goto (-28), 3) := by decide +kernel
theorem dX11_sits_44 : decode cX11_sits 44 = .ok (.aload_n 0, 1) := by decide +kernel
theorem dX11_sits_45 : decode cX11_sits 45 = .ok (.dup, 1) := by decide +kernel
theorem dX11_sits_46 : decode cX11_sits 46 = .ok (.getfield 92, 3) := by decide +kernel
theorem dX11_sits_49 : decode cX11_sits 49 = .ok (.iconst 1, 1) := by decide +kernel
theorem dX11_sits_50 : decode cX11_sits 50 = .ok (.isub, 1) := by decide +kernel
theorem dX11_sits_51 : decode cX11_sits 51 = .ok (.putfield 92, 3) := by decide +kernel
theorem dX11_sits_54 : decode cX11_sits 54 = .ok (.aload_n 0, 1) := by decide +kernel
theorem dX11_sits_55 : decode cX11_sits 55 = .ok (.dup, 1) := by decide +kernel
theorem dX11_sits_56 : decode cX11_sits 56 = .ok (.getfield 95, 3) := by decide +kernel
theorem dX11_sits_59 : decode cX11_sits 59 = .ok (.iconst 1, 1) := by decide +kernel
theorem dX11_sits_60 : decode cX11_sits 60 = .ok (.iadd, 1) := by decide +kernel
theorem dX11_sits_61 : decode cX11_sits 61 = .ok (.putfield 95, 3) := by decide +kernel
theorem dX11_sits_64 : decode cX11_sits 64 = .ok (.bipush 6, 2) := by decide +kernel
theorem dX11_sits_66 : decode cX11_sits 66 = .ok (.aload_n 0, 1) := by decide +kernel
theorem dX11_sits_67 : decode cX11_sits 67 = .ok (.getfield 92, 3) := by decide +kernel
theorem dX11_sits_70 : decode cX11_sits 70 = .ok (.imul, 1) := by decide +kernel
theorem dX11_sits_71 : decode cX11_sits 71 = .ok (.istore 5, 2) := by decide +kernel
theorem dX11_sits_73 : decode cX11_sits 73 = .ok (.aload_n 0, 1) := by decide +kernel
theorem dX11_sits_74 : decode cX11_sits 74 = .ok (.getfield 20, 3) := by decide +kernel
theorem dX11_sits_77 : decode cX11_sits 77 = .ok (.iload 5, 2) := by decide +kernel
theorem dX11_sits_79 : decode cX11_sits 79 = .ok (.iload_n 1, 1) := by decide +kernel
theorem dX11_sits_80 : decode cX11_sits 80 = .ok (.iastore, 1) := by decide +kernel
theorem dX11_sits_81 : decode cX11_sits 81 = .ok (.aload_n 0, 1) := by decide +kernel
theorem dX11_sits_82 : decode cX11_sits 82 = .ok (.getfield 20, 3) := by decide +kernel
theorem dX11_sits_85 : decode cX11_sits 85 = .ok (.iload 5, 2) := by decide +kernel
theorem dX11_sits_87 : decode cX11_sits 87 = .ok (.iconst 1, 1) := by decide +kernel
theorem dX11_sits_88 : decode cX11_sits 88 = .ok (.iadd, 1) := by decide +kernel
theorem dX11_sits_89 : decode cX11_sits 89 = .ok (.iload_n 2, 1) := by decide +kernel
theorem dX11_sits_90 : decode cX11_sits 90 = .ok (.iastore, 1) := by decide +kernel
theorem dX11_sits_91 : decode cX11_sits 91 = .ok (.aload_n 0, 1) := by decide +kernel
theorem dX11_sits_92 : decode cX11_sits 92 = .ok (.getfield 20, 3) := by decide +kernel
theorem dX11_sits_95 : decode cX11_sits 95 = .ok (.iload 5, 2) := by decide +kernel
theorem dX11_sits_97 : decode cX11_sits 97 = .ok (.iconst 2, 1) := by decide +kernel
theorem dX11_sits_98 : decode cX11_sits 98 = .ok (.iadd, 1) := by decide +kernel
theorem dX11_sits_99 : decode cX11_sits 99 = .ok (.aload_n 0, 1) := by decide +kernel
theorem dX11_sits_100 : decode cX11_sits 100 = .ok (.getfield 17, 3) := by decide +kernel
theorem dX11_sits_103 : decode cX11_sits 103 = .ok (.sipush 2016, 3) := by decide +kernel
theorem dX11_sits_106 : decode cX11_sits 106 = .ok (.iaload, 1) := by decide +kernel
theorem dX11_sits_107 : decode cX11_sits 107 = .ok (.iastore, 1) := by decide +kernel
theorem dX11_sits_108 : decode cX11_sits 108 = .ok (.aload_n 0, 1) := by decide +kernel
theorem dX11_sits_109 : decode cX11_sits 109 = .ok (.getfield 20, 3) := by decide +kernel
theorem dX11_sits_112 : decode cX11_sits 112 = .ok (.iload 5, 2) := by decide +kernel
theorem dX11_sits_114 : decode cX11_sits 114 = .ok (.iconst 3, 1) := by decide +kernel
theorem dX11_sits_115 : decode cX11_sits 115 = .ok (.iadd, 1) := by decide +kernel
theorem dX11_sits_116 : decode cX11_sits 116 = .ok (.iload 4, 2) := by decide +kernel
theorem dX11_sits_118 : decode cX11_sits 118 = .ok (.iastore, 1) := by decide +kernel
theorem dX11_sits_119 : decode cX11_sits 119 = .ok (.aload_n 0, 1) := by decide +kernel
theorem dX11_sits_120 : decode cX11_sits 120 = .ok (.getfield 20, 3) := by decide +kernel
theorem dX11_sits_123 : decode cX11_sits 123 = .ok (.iload 5, 2) := by decide +kernel
theorem dX11_sits_125 : decode cX11_sits 125 = .ok (.iconst 4, 1) := by decide +kernel
theorem dX11_sits_126 : decode cX11_sits 126 = .ok (.iadd, 1) := by decide +kernel
theorem dX11_sits_127 : decode cX11_sits 127 = .ok (.aload_n 0, 1) := by decide +kernel
theorem dX11_sits_128 : decode cX11_sits 128 = .ok (.iload_n 1, 1) := by decide +kernel
theorem dX11_sits_129 : decode cX11_sits 129 = .ok (.invokevirtual 297, 3) := by decide +kernel
theorem dX11_sits_132 : decode cX11_sits 132 = .ok (.invokestatic 312, 3) := by decide +kernel
theorem dX11_sits_135 : decode cX11_sits 135 = .ok (.iastore, 1) := by decide +kernel
theorem dX11_sits_136 : decode cX11_sits 136 = .ok (.aload_n 0, 1) := by decide +kernel
theorem dX11_sits_137 : decode cX11_sits 137 = .ok (.getfield 20, 3) := by decide +kernel
theorem dX11_sits_140 : decode cX11_sits 140 = .ok (.iload 5, 2) := by decide +kernel
theorem dX11_sits_142 : decode cX11_sits 142 = .ok (.iconst 5, 1) := by decide +kernel
theorem dX11_sits_143 : decode cX11_sits 143 = .ok (.iadd, 1) := by decide +kernel
theorem dX11_sits_144 : decode cX11_sits 144 = .ok (.iload_n 3, 1) := by decide +kernel
theorem dX11_sits_145 : decode cX11_sits 145 = .ok (.iastore, 1) := by decide +kernel
theorem dX11_sits_146 : decode cX11_sits 146 = .ok (.aload_n 0, 1) := by decide +kernel
theorem dX11_sits_147 : decode cX11_sits 147 = .ok (.dup, 1) := by decide +kernel
theorem dX11_sits_148 : decode cX11_sits 148 = .ok (.getfield 92, 3) := by decide +kernel
theorem dX11_sits_151 : decode cX11_sits 151 = .ok (.iconst 1, 1) := by decide +kernel
theorem dX11_sits_152 : decode cX11_sits 152 = .ok (.iadd, 1) := by decide +kernel
theorem dX11_sits_153 : decode cX11_sits 153 = .ok (.putfield 92, 3) := by decide +kernel
theorem dX11_sits_156 : decode cX11_sits 156 = .ok (.aload_n 0, 1) := by decide +kernel
theorem dX11_sits_157 : decode cX11_sits 157 = .ok (.getfield 13, 3) := by decide +kernel
theorem dX11_sits_160 : decode cX11_sits 160 = .ok (.bipush 34, 2) := by decide +kernel
theorem dX11_sits_162 : decode cX11_sits 162 = .ok (.bipush 14, 2) := by decide +kernel
theorem dX11_sits_164 : decode cX11_sits 164 = .ok (.iload_n 1, 1) := by decide +kernel
theorem dX11_sits_165 : decode cX11_sits 165 = .ok (.imul, 1) := by decide +kernel
theorem dX11_sits_166 : decode cX11_sits 166 = .ok (.iadd, 1) := by decide +kernel
theorem dX11_sits_167 : decode cX11_sits 167 = .ok (.iconst 1, 1) := by decide +kernel
theorem dX11_sits_168 : decode cX11_sits 168 = .ok (.iadd, 1) := by decide +kernel
theorem dX11_sits_169 : decode cX11_sits 169 = .ok (.bipush 12, 2) := by decide +kernel
theorem dX11_sits_171 : decode cX11_sits 171 = .ok (.iadd, 1) := by decide +kernel
theorem dX11_sits_172 : decode cX11_sits 172 = .ok (.dup2, 1) := by decide +kernel
theorem dX11_sits_173 : decode cX11_sits 173 = .ok (.iaload, 1) := by decide +kernel
theorem dX11_sits_174 : decode cX11_sits 174 = .ok (.iload_n 2, 1) := by decide +kernel
theorem dX11_sits_175 : decode cX11_sits 175 = .ok (.iadd, 1) := by decide +kernel
theorem dX11_sits_176 : decode cX11_sits 176 = .ok (.iastore, 1) := by decide +kernel
theorem dX11_sits_177 : decode cX11_sits 177 = .ok (.return_, 1) := by decide +kernel
theorem dX11_read_0 : decode cX11_read 0 = .ok (.aload_n 0, 1) := by decide +kernel
theorem dX11_read_1 : decode cX11_read 1 = .ok (.iload_n 1, 1) := by decide +kernel
theorem dX11_read_2 : decode cX11_read 2 = .ok (.invokevirtual 315, 3) := by decide +kernel
theorem dX11_read_5 : decode cX11_read 5 = .ok (.ifCond .eq 15, 3) := by decide +kernel
theorem dX11_read_8 : decode cX11_read 8 = .ok (.iload_n 2, 1) := by decide +kernel
theorem dX11_read_9 : decode cX11_read 9 = .ok (.i2l, 1) := by decide +kernel
theorem dX11_read_10 : decode cX11_read 10 = .ok (.lconst 1, 1) := by decide +kernel
theorem dX11_read_11 : decode cX11_read 11 = .ok (.ldc2_w 318, 3) := by decide +kernel
theorem dX11_read_14 : decode cX11_read 14 = .ok (.invokestatic 88, 3) := by decide +kernel
theorem dX11_read_17 : decode cX11_read 17 = .ok (.ifCond .ne 6, 3) := by decide +kernel
theorem dX11_read_20 : decode cX11_read 20 = .ok (.bipush (-2), 2) := by decide +kernel
theorem dX11_read_22 : decode cX11_read 22 = .ok (.ireturn, 1) := by decide +kernel
theorem dX11_read_23 : decode cX11_read 23 = .ok (.aload_n 0, 1) := by decide +kernel
theorem dX11_read_24 : decode cX11_read 24 = .ok (.iload_n 1, 1) := by decide +kernel
theorem dX11_read_25 : decode cX11_read 25 = .ok (.invokevirtual 297, 3) := by decide +kernel
theorem dX11_read_28 : decode cX11_read 28 = .ok (.invokestatic 312, 3) := by decide +kernel
theorem dX11_read_31 : decode cX11_read 31 = .ok (.istore_n 3, 1) := by decide +kernel
theorem dX11_read_32 : decode cX11_read 32 = .ok (.iconst 0, 1) := by decide +kernel
theorem dX11_read_33 : decode cX11_read 33 = .ok (.istore 4, 2) := by decide +kernel
theorem dX11_read_35 : decode cX11_read 35 = .ok (.iload 4, 2) := by decide +kernel
theorem dX11_read_37 : decode cX11_read 37 = .ok (.iload_n 2, 1) := by decide +kernel
theorem dX11_read_38 : decode cX11_read 38 = .ok (.if_icmp .ge 14, 3) := by decide +kernel
theorem dX11_read_41 : decode cX11_read 41 = .ok (.aload_n 0, 1) := by decide +kernel
theorem dX11_read_42 : decode cX11_read 42 = .ok (.iload_n 1, 1) := by decide +kernel
theorem dX11_read_43 : decode cX11_read 43 = .ok (.invokevirtual 294, 3) := by decide +kernel
theorem dX11_read_46 : decode cX11_read 46 = .ok (.iinc 4 1, 3) := by decide +kernel
theorem dX11_read_49 : decode cX11_read 49 = .ok (.goto (-14), 3) := by decide +kernel
theorem dX11_read_52 : decode cX11_read 52 = .ok (.aload_n 0, 1) := by decide +kernel
theorem dX11_read_53 : decode cX11_read 53 = .ok (.iload_n 1, 1) := by decide +kernel
theorem dX11_read_54 : decode cX11_read 54 = .ok (.iload_n 2, 1) := by decide +kernel
theorem dX11_read_55 : decode cX11_read 55 = .ok (.iconst 0, 1) := by decide +kernel
theorem dX11_read_56 : decode cX11_read 56 = .ok (.iload_n 3, 1) := by decide +kernel
theorem dX11_read_57 : decode cX11_read 57 = .ok (.invokevirtual 320, 3) := by decide +kernel
theorem dX11_read_60 : decode cX11_read 60 = .ok (.aload_n 0, 1) := by decide +kernel
theorem dX11_read_61 : decode cX11_read 61 = .ok (.getfield 92, 3) := by decide +kernel
theorem dX11_read_64 : decode cX11_read 64 = .ok (.ireturn, 1) := by decide +kernel
theorem dX11_learn_0 : decode cX11_learn 0 = .ok (.aload_n 0, 1) := by decide +kernel
theorem dX11_learn_1 : decode cX11_learn 1 = .ok (.iload_n 1, 1) := by decide +kernel
theorem dX11_learn_2 : decode cX11_learn 2 = .ok (.invokevirtual 315, 3) := by decide +kernel
theorem dX11_learn_5 : decode cX11_learn 5 = .ok (.ifCond .ne 6, 3) := by decide +kernel
theorem dX11_learn_8 : decode cX11_learn 8 = .ok (.bipush (-2), 2) := by decide +kernel
theorem dX11_learn_10 : decode cX11_learn 10 = .ok (.ireturn, 1) := by decide +kernel
theorem dX11_learn_11 : decode cX11_learn 11 = .ok (.aload_n 0, 1) := by decide +kernel
theorem dX11_learn_12 : decode cX11_learn 12 = .ok (.iload_n 1, 1) := by decide +kernel
theorem dX11_learn_13 : decode cX11_learn 13 = .ok (.invokevirtual 297, 3) := by decide +kernel
theorem dX11_learn_16 : decode cX11_learn 16 = .ok (.invokestatic 312, 3) := by decide +kernel
theorem dX11_learn_19 : decode cX11_learn 19 = .ok (.istore_n 2, 1) := by decide +kernel
theorem dX11_learn_20 : decode cX11_learn 20 = .ok (.aload_n 0, 1) := by decide +kernel
theorem dX11_learn_21 : decode cX11_learn 21 = .ok (.iload_n 1, 1) := by decide +kernel
theorem dX11_learn_22 : decode cX11_learn 22 = .ok (.invokevirtual 306, 3) := by decide +kernel
theorem dX11_learn_25 : decode cX11_learn 25 = .ok (.istore_n 3, 1) := by decide +kernel
theorem dX11_learn_26 : decode cX11_learn 26 = .ok (.aload_n 0, 1) := by decide +kernel
theorem dX11_learn_27 : decode cX11_learn 27 = .ok (.iload_n 1, 1) := by decide +kernel
theorem dX11_learn_28 : decode cX11_learn 28 = .ok (.iload_n 3, 1) := by decide +kernel
theorem dX11_learn_29 : decode cX11_learn 29 = .ok (.iconst (-1), 1) := by decide +kernel
theorem dX11_learn_30 : decode cX11_learn 30 = .ok (.if_icmp .ne 8, 3) := by decide +kernel
theorem dX11_learn_33 : decode cX11_learn 33 = .ok (.bipush 40, 2) := by decide +kernel
theorem dX11_learn_35 : decode cX11_learn 35 = .ok (.goto 4, 3) := by decide +kernel
theorem dX11_learn_38 : decode cX11_learn 38 = .ok (.iload_n 3, 1) := by decide +kernel
theorem dX11_learn_39 : decode cX11_learn 39 = .ok (.iload_n 3, 1) := by decide +kernel
theorem dX11_learn_40 : decode cX11_learn 40 = .ok (.iconst (-1), 1) := by decide +kernel
theorem dX11_learn_41 : decode cX11_learn 41 = .ok (.if_icmp .ne 7, 3) := by decide +kernel
theorem dX11_learn_44 : decode cX11_learn 44 = .ok (.iconst 2, 1) := by decide +kernel
theorem dX11_learn_45 : decode cX11_learn 45 = .ok (.goto 4, 3) := by decide +kernel
theorem dX11_learn_48 : decode cX11_learn 48 = .ok (.iconst 1, 1) := by decide +kernel
theorem dX11_learn_49 : decode cX11_learn 49 = .ok (.iload_n 2, 1) := by decide +kernel
theorem dX11_learn_50 : decode cX11_learn 50 = .ok (.invokevirtual 320, 3) := by decide +kernel
theorem dX11_learn_53 : decode cX11_learn 53 = .ok (.iload_n 3, 1) := by decide +kernel
theorem dX11_learn_54 : decode cX11_learn 54 = .ok (.ireturn, 1) := by decide +kernel
theorem dX11_waits_0 : decode cX11_waits 0 = .ok (.iload_n 1, 1) := by decide +kernel
theorem dX11_waits_1 : decode cX11_waits 1 = .ok (.i2l, 1) := by decide +kernel
theorem dX11_waits_2 : decode cX11_waits 2 = .ok (.lconst 0, 1) := by decide +kernel
theorem dX11_waits_3 : decode cX11_waits 3 = .ok (.ldc2_w 323, 3) := by decide +kernel
theorem dX11_waits_6 : decode cX11_waits 6 = .ok (.invokestatic 88, 3) := by decide +kernel
theorem dX11_waits_9 : decode cX11_waits 9 = .ok (.ifCond .ne 6, 3) := by decide +kernel
theorem dX11_waits_12 : decode cX11_waits 12 = .ok (.bipush (-2), 2) := by decide +kernel
theorem dX11_waits_14 : decode cX11_waits 14 = .ok (.ireturn, 1) := by decide +kernel
theorem dX11_waits_15 : decode cX11_waits 15 = .ok (.aload_n 0, 1) := by decide +kernel
theorem dX11_waits_16 : decode cX11_waits 16 = .ok (.iload_n 1, 1) := by decide +kernel
theorem dX11_waits_17 : decode cX11_waits 17 = .ok (.invokevirtual 325, 3) := by decide +kernel
theorem dX11_waits_20 : decode cX11_waits 20 = .ok (.aload_n 0, 1) := by decide +kernel
theorem dX11_waits_21 : decode cX11_waits 21 = .ok (.getfield 17, 3) := by decide +kernel
theorem dX11_waits_24 : decode cX11_waits 24 = .ok (.sipush 2016, 3) := by decide +kernel
theorem dX11_waits_27 : decode cX11_waits 27 = .ok (.iaload, 1) := by decide +kernel
theorem dX11_waits_28 : decode cX11_waits 28 = .ok (.ireturn, 1) := by decide +kernel
theorem dX11_strength_0 : decode cX11_strength 0 = .ok (.iload_n 1, 1) := by decide +kernel
theorem dX11_strength_1 : decode cX11_strength 1 = .ok (.i2l, 1) := by decide +kernel
theorem dX11_strength_2 : decode cX11_strength 2 = .ok (.lconst 0, 1) := by decide +kernel
theorem dX11_strength_3 : decode cX11_strength 3 = .ok (.ldc2_w 251, 3) := by decide +kernel
theorem dX11_strength_6 : decode cX11_strength 6 = .ok (.invokestatic 88, 3) := by decide +kernel
theorem dX11_strength_9 : decode cX11_strength 9 = .ok (.ifCond .eq 39, 3) := by decide +kernel
theorem dX11_strength_12 : decode cX11_strength 12 = .ok (.aload_n 0, 1) := by decide +kernel
theorem dX11_strength_13 : decode cX11_strength 13 = .ok (.iload_n 2, 1) := by decide +kernel
theorem dX11_strength_14 : decode cX11_strength 14 = .ok (.invokevirtual 255, 3) := by decide +kernel
theorem dX11_strength_17 : decode cX11_strength 17 = .ok (.ifCond .eq 31, 3) := by decide +kernel
theorem dX11_strength_20 : decode cX11_strength 20 = .ok (.iload_n 1, 1) := by decide +kernel
theorem dX11_strength_21 : decode cX11_strength 21 = .ok (.iconst 3, 1) := by decide +kernel
theorem dX11_strength_22 : decode cX11_strength 22 = .ok (.if_icmp .ne 18, 3) := by decide +kernel
theorem dX11_strength_25 : decode cX11_strength 25 = .ok (.iload_n 3, 1) := by decide +kernel
theorem dX11_strength_26 : decode cX11_strength 26 = .ok (.i2l, 1) := by decide +kernel
theorem dX11_strength_27 : decode cX11_strength 27 = .ok (.lconst 0, 1) := by decide +kernel
theorem dX11_strength_28 : decode cX11_strength 28 = .ok (.ldc2_w 328, 3) := by decide +kernel
theorem dX11_strength_31 : decode cX11_strength 31 = .ok (.invokestatic 88, 3) := by decide +kernel
theorem dX11_strength_34 : decode cX11_strength 34 = .ok (.ifCond .ne 17, 3) := by decide +kernel
theorem dX11_strength_37 : decode cX11_strength 37 = .ok (.goto 11, 3) := by decide +kernel
theorem dX11_strength_40 : decode cX11_strength 40 = .ok (.aload_n 0, 1) := by decide +kernel
theorem dX11_strength_41 : decode cX11_strength 41 = .ok (.iload_n 3, 1) := by decide +kernel
theorem dX11_strength_42 : decode cX11_strength 42 = .ok (.invokevirtual 255, 3) := by decide +kernel
theorem dX11_strength_45 : decode cX11_strength 45 = .ok (.ifCond .ne 6, 3) := by decide +kernel
theorem dX11_strength_48 : decode cX11_strength 48 = .ok (.bipush (-2), 2) := by decide +kernel
theorem dX11_strength_50 : decode cX11_strength 50 = .ok (.ireturn, 1) := by decide +kernel
theorem dX11_strength_51 : decode cX11_strength 51 = .ok (.aload_n 0, 1) := by decide +kernel
theorem dX11_strength_52 : decode cX11_strength 52 = .ok (.getfield 17, 3) := by decide +kernel
theorem dX11_strength_55 : decode cX11_strength 55 = .ok (.iload_n 1, 1) := by decide +kernel
theorem dX11_strength_56 : decode cX11_strength 56 = .ok (.iload_n 2, 1) := by decide +kernel
theorem dX11_strength_57 : decode cX11_strength 57 = .ok (.iload_n 3, 1) := by decide +kernel
theorem dX11_strength_58 : decode cX11_strength 58 = .ok (.invokestatic 270, 3) := by decide +kernel
theorem dX11_strength_61 : decode cX11_strength 61 = .ok (.iaload, 1) := by decide +kernel
theorem dX11_strength_62 : decode cX11_strength 62 = .ok (.ireturn, 1) := by decide +kernel
theorem dX11_linksOf_0 : decode cX11_linksOf 0 = .ok (.iconst 0, 1) := by decide +kernel
theorem dX11_linksOf_1 : decode cX11_linksOf 1 = .ok (.istore_n 2, 1) := by decide +kernel
theorem dX11_linksOf_2 : decode cX11_linksOf 2 = .ok (.sipush 576, 3) := by decide +kernel
theorem dX11_linksOf_5 : decode cX11_linksOf 5 = .ok (.iload_n 1, 1) := by decide +kernel
theorem dX11_linksOf_6 : decode cX11_linksOf 6 = .ok (.imul, 1) := by decide +kernel
theorem dX11_linksOf_7 : decode cX11_linksOf 7 = .ok (.istore_n 3, 1) := by decide +kernel
theorem dX11_linksOf_8 : decode cX11_linksOf 8 = .ok (.iload_n 3, 1) := by decide +kernel
theorem dX11_linksOf_9 : decode cX11_linksOf 9 = .ok (.iload_n 1, 1) := by decide +kernel
theorem dX11_linksOf_10 : decode cX11_linksOf 10 = .ok (.iconst 3, 1) := by decide +kernel
theorem dX11_linksOf_11 : decode cX11_linksOf 11 = .ok (.if_icmp .ne 9, 3) := by decide +kernel
theorem dX11_linksOf_14 : decode cX11_linksOf 14 = .ok (.sipush 2016, 3) := by decide +kernel
theorem dX11_linksOf_17 : decode cX11_linksOf 17 = .ok (.goto 10, 3) := by decide +kernel
theorem dX11_linksOf_20 : decode cX11_linksOf 20 = .ok (.sipush 576, 3) := by decide +kernel
theorem dX11_linksOf_23 : decode cX11_linksOf 23 = .ok (.iload_n 1, 1) := by decide +kernel
theorem dX11_linksOf_24 : decode cX11_linksOf 24 = .ok (.iconst 1, 1) := by decide +kernel
theorem dX11_linksOf_25 : decode cX11_linksOf 25 = .ok (.iadd, 1) := by decide +kernel
theorem dX11_linksOf_26 : decode cX11_linksOf 26 = .ok (.imul, 1) := by decide +kernel
theorem dX11_linksOf_27 : decode cX11_linksOf 27 = .ok (.if_icmp .ge 26, 3) := by decide +kernel
theorem dX11_linksOf_30 : decode cX11_linksOf 30 = .ok (.iload_n 2, 1) := by decide +kernel
theorem dX11_linksOf_31 : decode cX11_linksOf 31 = .ok (.aload_n 0, 1) := by decide +kernel
theorem dX11_linksOf_32 : decode cX11_linksOf 32 = .ok (.getfield 17, 3) := by decide +kernel
theorem dX11_linksOf_35 : decode cX11_linksOf 35 = .ok (.iload_n 3, 1) := by decide +kernel
theorem dX11_linksOf_36 : decode cX11_linksOf 36 = .ok (.iaload, 1) := by decide +kernel
theorem dX11_linksOf_37 : decode cX11_linksOf 37 = .ok (.ifCond .le 7, 3) := by decide +kernel
theorem dX11_linksOf_40 : decode cX11_linksOf 40 = .ok (.iconst 1, 1) := by decide +kernel
theorem dX11_linksOf_41 : decode cX11_linksOf 41 = .ok (.goto 4, 3) := by decide +kernel
theorem dX11_linksOf_44 : decode cX11_linksOf 44 = .ok (.iconst 0, 1) := by decide +kernel
theorem dX11_linksOf_45 : decode cX11_linksOf 45 = .ok (.iadd, 1) := by decide +kernel
theorem dX11_linksOf_46 : decode cX11_linksOf 46 = .ok (.istore_n 2, 1) := by decide +kernel
theorem dX11_linksOf_47 : decode cX11_linksOf 47 = .ok (.iinc 3 1, 3) := by decide +kernel
theorem dX11_linksOf_50 : decode cX11_linksOf 50 = .ok (.goto (-42), 3) := by decide +kernel
theorem dX11_linksOf_53 : decode cX11_linksOf 53 = .ok (.iload_n 2, 1) := by decide +kernel
theorem dX11_linksOf_54 : decode cX11_linksOf 54 = .ok (.ireturn, 1) := by decide +kernel
theorem dX11_links_0 : decode cX11_links 0 = .ok (.iload_n 1, 1) := by decide +kernel
theorem dX11_links_1 : decode cX11_links 1 = .ok (.i2l, 1) := by decide +kernel
theorem dX11_links_2 : decode cX11_links 2 = .ok (.lconst 0, 1) := by decide +kernel
theorem dX11_links_3 : decode cX11_links 3 = .ok (.ldc2_w 251, 3) := by decide +kernel
theorem dX11_links_6 : decode cX11_links 6 = .ok (.invokestatic 88, 3) := by decide +kernel
theorem dX11_links_9 : decode cX11_links 9 = .ok (.ifCond .eq 11, 3) := by decide +kernel
theorem dX11_links_12 : decode cX11_links 12 = .ok (.aload_n 0, 1) := by decide +kernel
theorem dX11_links_13 : decode cX11_links 13 = .ok (.iload_n 1, 1) := by decide +kernel
theorem dX11_links_14 : decode cX11_links 14 = .ok (.invokevirtual 330, 3) := by decide +kernel
theorem dX11_links_17 : decode cX11_links 17 = .ok (.goto 5, 3) := by decide +kernel
theorem dX11_links_20 : decode cX11_links 20 = .ok (.bipush (-2), 2) := by decide +kernel
theorem dX11_links_22 : decode cX11_links 22 = .ok (.ireturn, 1) := by decide +kernel
theorem dX11_support_0 : decode cX11_support 0 = .ok (.aload_n 0, 1) := by decide +kernel
theorem dX11_support_1 : decode cX11_support 1 = .ok (.iload_n 1, 1) := by decide +kernel
theorem dX11_support_2 : decode cX11_support 2 = .ok (.invokevirtual 315, 3) := by decide +kernel
theorem dX11_support_5 : decode cX11_support 5 = .ok (.ifCond .eq 29, 3) := by decide +kernel
theorem dX11_support_8 : decode cX11_support 8 = .ok (.iload_n 2, 1) := by decide +kernel
theorem dX11_support_9 : decode cX11_support 9 = .ok (.i2l, 1) := by decide +kernel
theorem dX11_support_10 : decode cX11_support 10 = .ok (.lconst 0, 1) := by decide +kernel
theorem dX11_support_11 : decode cX11_support 11 = .ok (.aload_n 0, 1) := by decide +kernel
theorem dX11_support_12 : decode cX11_support 12 = .ok (.iload_n 1, 1) := by decide +kernel
theorem dX11_support_13 : decode cX11_support 13 = .ok (.invokevirtual 278, 3) := by decide +kernel
theorem dX11_support_16 : decode cX11_support 16 = .ok (.iconst 1, 1) := by decide +kernel
theorem dX11_support_17 : decode cX11_support 17 = .ok (.isub, 1) := by decide +kernel
theorem dX11_support_18 : decode cX11_support 18 = .ok (.i2l, 1) := by decide +kernel
theorem dX11_support_19 : decode cX11_support 19 = .ok (.invokestatic 88, 3) := by decide +kernel
theorem dX11_support_22 : decode cX11_support 22 = .ok (.ifCond .eq 12, 3) := by decide +kernel
theorem dX11_support_25 : decode cX11_support 25 = .ok (.aload_n 0, 1) := by decide +kernel
theorem dX11_support_26 : decode cX11_support 26 = .ok (.iload_n 1, 1) := by decide +kernel
theorem dX11_support_27 : decode cX11_support 27 = .ok (.iload_n 2, 1) := by decide +kernel
theorem dX11_support_28 : decode cX11_support 28 = .ok (.invokevirtual 291, 3) := by decide +kernel
theorem dX11_support_31 : decode cX11_support 31 = .ok (.goto 5, 3) := by decide +kernel
theorem dX11_support_34 : decode cX11_support 34 = .ok (.bipush (-2), 2) := by decide +kernel
theorem dX11_support_36 : decode cX11_support 36 = .ok (.ireturn, 1) := by decide +kernel
theorem dX11_slips_0 : decode cX11_slips 0 = .ok (.aload_n 0, 1) := by decide +kernel
theorem dX11_slips_1 : decode cX11_slips 1 = .ok (.iload_n 1, 1) := by decide +kernel
theorem dX11_slips_2 : decode cX11_slips 2 = .ok (.invokevirtual 315, 3) := by decide +kernel
theorem dX11_slips_5 : decode cX11_slips 5 = .ok (.ifCond .eq 11, 3) := by decide +kernel
theorem dX11_slips_8 : decode cX11_slips 8 = .ok (.aload_n 0, 1) := by decide +kernel
theorem dX11_slips_9 : decode cX11_slips 9 = .ok (.iload_n 1, 1) := by decide +kernel
theorem dX11_slips_10 : decode cX11_slips 10 = .ok (.invokevirtual 297, 3) := by decide +kernel
theorem dX11_slips_13 : decode cX11_slips 13 = .ok (.goto 5, 3) := by decide +kernel
theorem dX11_slips_16 : decode cX11_slips 16 = .ok (.bipush (-2), 2) := by decide +kernel
theorem dX11_slips_18 : decode cX11_slips 18 = .ok (.ireturn, 1) := by decide +kernel
theorem dX11_needs_0 : decode cX11_needs 0 = .ok (.aload_n 0, 1) := by decide +kernel
theorem dX11_needs_1 : decode cX11_needs 1 = .ok (.iload_n 1, 1) := by decide +kernel
theorem dX11_needs_2 : decode cX11_needs 2 = .ok (.invokevirtual 315, 3) := by decide +kernel
theorem dX11_needs_5 : decode cX11_needs 5 = .ok (.ifCond .eq 11, 3) := by decide +kernel
theorem dX11_needs_8 : decode cX11_needs 8 = .ok (.aload_n 0, 1) := by decide +kernel
theorem dX11_needs_9 : decode cX11_needs 9 = .ok (.iload_n 1, 1) := by decide +kernel
theorem dX11_needs_10 : decode cX11_needs 10 = .ok (.invokevirtual 333, 3) := by decide +kernel
theorem dX11_needs_13 : decode cX11_needs 13 = .ok (.goto 5, 3) := by decide +kernel
theorem dX11_needs_16 : decode cX11_needs 16 = .ok (.bipush (-2), 2) := by decide +kernel
theorem dX11_needs_18 : decode cX11_needs 18 = .ok (.ireturn, 1) := by decide +kernel
theorem dX11_fresh_0 : decode cX11_fresh 0 = .ok (.aload_n 0, 1) := by decide +kernel
theorem dX11_fresh_1 : decode cX11_fresh 1 = .ok (.iload_n 1, 1) := by decide +kernel
theorem dX11_fresh_2 : decode cX11_fresh 2 = .ok (.invokevirtual 315, 3) := by decide +kernel
theorem dX11_fresh_5 : decode cX11_fresh 5 = .ok (.ifCond .eq 11, 3) := by decide +kernel
theorem dX11_fresh_8 : decode cX11_fresh 8 = .ok (.aload_n 0, 1) := by decide +kernel
theorem dX11_fresh_9 : decode cX11_fresh 9 = .ok (.iload_n 1, 1) := by decide +kernel
theorem dX11_fresh_10 : decode cX11_fresh 10 = .ok (.invokevirtual 336, 3) := by decide +kernel
theorem dX11_fresh_13 : decode cX11_fresh 13 = .ok (.goto 5, 3) := by decide +kernel
theorem dX11_fresh_16 : decode cX11_fresh 16 = .ok (.bipush (-2), 2) := by decide +kernel
theorem dX11_fresh_18 : decode cX11_fresh 18 = .ok (.ireturn, 1) := by decide +kernel
theorem dX11_saving_0 : decode cX11_saving 0 = .ok (.aload_n 0, 1) := by decide +kernel
theorem dX11_saving_1 : decode cX11_saving 1 = .ok (.iload_n 1, 1) := by decide +kernel
theorem dX11_saving_2 : decode cX11_saving 2 = .ok (.invokevirtual 315, 3) := by decide +kernel
theorem dX11_saving_5 : decode cX11_saving 5 = .ok (.ifCond .ne 7, 3) := by decide +kernel
theorem dX11_saving_8 : decode cX11_saving 8 = .ok (.ldc_w 339, 3) := by decide +kernel
theorem dX11_saving_11 : decode cX11_saving 11 = .ok (.ireturn, 1) := by decide +kernel
theorem dX11_saving_12 : decode cX11_saving 12 = .ok (.aload_n 0, 1) := by decide +kernel
theorem dX11_saving_13 : decode cX11_saving 13 = .ok (.iload_n 1, 1) := by decide +kernel
theorem dX11_saving_14 : decode cX11_saving 14 = .ok (.invokevirtual 336, 3) := by decide +kernel
theorem dX11_saving_17 : decode cX11_saving 17 = .ok (.istore_n 2, 1) := by decide +kernel
theorem dX11_saving_18 : decode cX11_saving 18 = .ok (.aload_n 0, 1) := by decide +kernel
theorem dX11_saving_19 : decode cX11_saving 19 = .ok (.iload_n 1, 1) := by decide +kernel
theorem dX11_saving_20 : decode cX11_saving 20 = .ok (.invokevirtual 333, 3) := by decide +kernel
theorem dX11_saving_23 : decode cX11_saving 23 = .ok (.istore_n 3, 1) := by decide +kernel
theorem dX11_saving_24 : decode cX11_saving 24 = .ok (.iload_n 2, 1) := by decide +kernel
theorem dX11_saving_25 : decode cX11_saving 25 = .ok (.iconst 1, 1) := by decide +kernel
theorem dX11_saving_26 : decode cX11_saving 26 = .ok (.if_icmp .lt 8, 3) := by decide +kernel
theorem dX11_saving_29 : decode cX11_saving 29 = .ok (.iload_n 3, 1) := by decide +kernel
theorem dX11_saving_30 : decode cX11_saving 30 = .ok (.iconst (-1), 1) := by decide +kernel
theorem dX11_saving_31 : decode cX11_saving 31 = .ok (.if_icmp .ne 9, 3) := by decide +kernel
theorem dX11_saving_34 : decode cX11_saving 34 = .ok (.ldc_w 339, 3) := by decide +kernel
theorem dX11_saving_37 : decode cX11_saving 37 = .ok (.goto 12, 3) := by decide +kernel
theorem dX11_saving_40 : decode cX11_saving 40 = .ok (.sipush 1000, 3) := by decide +kernel
theorem dX11_saving_43 : decode cX11_saving 43 = .ok (.iload_n 2, 1) := by decide +kernel
theorem dX11_saving_44 : decode cX11_saving 44 = .ok (.iload_n 3, 1) := by decide +kernel
theorem dX11_saving_45 : decode cX11_saving 45 = .ok (.isub, 1) := by decide +kernel
theorem dX11_saving_46 : decode cX11_saving 46 = .ok (.imul, 1) := by decide +kernel
theorem dX11_saving_47 : decode cX11_saving 47 = .ok (.iload_n 2, 1) := by decide +kernel
theorem dX11_saving_48 : decode cX11_saving 48 = .ok (.idiv, 1) := by decide +kernel
theorem dX11_saving_49 : decode cX11_saving 49 = .ok (.ireturn, 1) := by decide +kernel
theorem dX11_after_0 : decode cX11_after 0 = .ok (.aload_n 0, 1) := by decide +kernel
theorem dX11_after_1 : decode cX11_after 1 = .ok (.iload_n 1, 1) := by decide +kernel
theorem dX11_after_2 : decode cX11_after 2 = .ok (.invokevirtual 315, 3) := by decide +kernel
theorem dX11_after_5 : decode cX11_after 5 = .ok (.ifCond .eq 15, 3) := by decide +kernel
theorem dX11_after_8 : decode cX11_after 8 = .ok (.iload_n 2, 1) := by decide +kernel
theorem dX11_after_9 : decode cX11_after 9 = .ok (.i2l, 1) := by decide +kernel
theorem dX11_after_10 : decode cX11_after 10 = .ok (.lconst 0, 1) := by decide +kernel
theorem dX11_after_11 : decode cX11_after 11 = .ok (.ldc2_w 323, 3) := by decide +kernel
theorem dX11_after_14 : decode cX11_after 14 = .ok (.invokestatic 88, 3) := by decide +kernel
theorem dX11_after_17 : decode cX11_after 17 = .ok (.ifCond .ne 6, 3) := by decide +kernel
theorem dX11_after_20 : decode cX11_after 20 = .ok (.bipush (-2), 2) := by decide +kernel
theorem dX11_after_22 : decode cX11_after 22 = .ok (.ireturn, 1) := by decide +kernel
theorem dX11_after_23 : decode cX11_after 23 = .ok (.aload_n 0, 1) := by decide +kernel
theorem dX11_after_24 : decode cX11_after 24 = .ok (.invokevirtual 303, 3) := by decide +kernel
theorem dX11_after_27 : decode cX11_after 27 = .ok (.aload_n 0, 1) := by decide +kernel
theorem dX11_after_28 : decode cX11_after 28 = .ok (.iload_n 2, 1) := by decide +kernel
theorem dX11_after_29 : decode cX11_after 29 = .ok (.invokevirtual 325, 3) := by decide +kernel
theorem dX11_after_32 : decode cX11_after 32 = .ok (.aload_n 0, 1) := by decide +kernel
theorem dX11_after_33 : decode cX11_after 33 = .ok (.iload_n 1, 1) := by decide +kernel
theorem dX11_after_34 : decode cX11_after 34 = .ok (.invokevirtual 306, 3) := by decide +kernel
theorem dX11_after_37 : decode cX11_after 37 = .ok (.istore_n 3, 1) := by decide +kernel
theorem dX11_after_38 : decode cX11_after 38 = .ok (.aload_n 0, 1) := by decide +kernel
theorem dX11_after_39 : decode cX11_after 39 = .ok (.invokevirtual 309, 3) := by decide +kernel
theorem dX11_after_42 : decode cX11_after 42 = .ok (.iload_n 3, 1) := by decide +kernel
theorem dX11_after_43 : decode cX11_after 43 = .ok (.ireturn, 1) := by decide +kernel
theorem dX11_lasts_0 : decode cX11_lasts 0 = .ok (.aload_n 0, 1) := by decide +kernel
theorem dX11_lasts_1 : decode cX11_lasts 1 = .ok (.iload_n 1, 1) := by decide +kernel
theorem dX11_lasts_2 : decode cX11_lasts 2 = .ok (.invokevirtual 315, 3) := by decide +kernel
theorem dX11_lasts_5 : decode cX11_lasts 5 = .ok (.ifCond .ne 6, 3) := by decide +kernel
theorem dX11_lasts_8 : decode cX11_lasts 8 = .ok (.bipush (-2), 2) := by decide +kernel
theorem dX11_lasts_10 : decode cX11_lasts 10 = .ok (.ireturn, 1) := by decide +kernel
theorem dX11_lasts_11 : decode cX11_lasts 11 = .ok (.aload_n 0, 1) := by decide +kernel
theorem dX11_lasts_12 : decode cX11_lasts 12 = .ok (.invokevirtual 303, 3) := by decide +kernel
theorem dX11_lasts_15 : decode cX11_lasts 15 = .ok (.iconst (-1), 1) := by decide +kernel
theorem dX11_lasts_16 : decode cX11_lasts 16 = .ok (.istore_n 2, 1) := by decide +kernel
theorem dX11_lasts_17 : decode cX11_lasts 17 = .ok (.iconst 0, 1) := by decide +kernel
theorem dX11_lasts_18 : decode cX11_lasts 18 = .ok (.istore_n 3, 1) := by decide +kernel
theorem dX11_lasts_19 : decode cX11_lasts 19 = .ok (.iload_n 3, 1) := by decide +kernel
theorem dX11_lasts_20 : decode cX11_lasts 20 = .ok (.sipush 200, 3) := by decide +kernel
theorem dX11_lasts_23 : decode cX11_lasts 23 = .ok (.if_icmp .gt 31, 3) := by decide +kernel
theorem dX11_lasts_26 : decode cX11_lasts 26 = .ok (.iload_n 2, 1) := by decide +kernel
theorem dX11_lasts_27 : decode cX11_lasts 27 = .ok (.iconst (-1), 1) := by decide +kernel
theorem dX11_lasts_28 : decode cX11_lasts 28 = .ok (.if_icmp .ne 26, 3) := by decide +kernel
theorem dX11_lasts_31 : decode cX11_lasts 31 = .ok (.aload_n 0, 1) := by decide +kernel
theorem dX11_lasts_32 : decode cX11_lasts 32 = .ok (.iload_n 1, 1) := by decide +kernel
theorem dX11_lasts_33 : decode cX11_lasts 33 = .ok (.invokevirtual 297, 3) := by decide +kernel
theorem dX11_lasts_36 : decode cX11_lasts 36 = .ok (.ifCond .eq 8, 3) := by decide +kernel
theorem dX11_lasts_39 : decode cX11_lasts 39 = .ok (.iload_n 3, 1) := by decide +kernel
theorem dX11_lasts_40 : decode cX11_lasts 40 = .ok (.istore_n 2, 1) := by decide +kernel
theorem dX11_lasts_41 : decode cX11_lasts 41 = .ok (.goto 7, 3) := by decide +kernel
theorem dX11_lasts_44 : decode cX11_lasts 44 = .ok (.aload_n 0, 1) := by decide +kernel
theorem dX11_lasts_45 : decode cX11_lasts 45 = .ok (.invokevirtual 288, 3) := by decide +kernel
theorem dX11_lasts_48 : decode cX11_lasts 48 = .ok (.iinc 3 1, 3) := by decide +kernel
theorem dX11_lasts_51 : decode cX11_lasts 51 = .ok (.goto (-32), 3) := by decide +kernel
theorem dX11_lasts_54 : decode cX11_lasts 54 = .ok (.aload_n 0, 1) := by decide +kernel
theorem dX11_lasts_55 : decode cX11_lasts 55 = .ok (.invokevirtual 309, 3) := by decide +kernel
theorem dX11_lasts_58 : decode cX11_lasts 58 = .ok (.iload_n 2, 1) := by decide +kernel
theorem dX11_lasts_59 : decode cX11_lasts 59 = .ok (.ireturn, 1) := by decide +kernel
theorem dX11_orMany_0 : decode cX11_orMany 0 = .ok (.iload_n 0, 1) := by decide +kernel
theorem dX11_orMany_1 : decode cX11_orMany 1 = .ok (.iconst (-1), 1) := by decide +kernel
theorem dX11_orMany_2 : decode cX11_orMany 2 = .ok (.if_icmp .ne 8, 3) := by decide +kernel
theorem dX11_orMany_5 : decode cX11_orMany 5 = .ok (.bipush 41, 2) := by decide +kernel
theorem dX11_orMany_7 : decode cX11_orMany 7 = .ok (.goto 4, 3) := by decide +kernel
theorem dX11_orMany_10 : decode cX11_orMany 10 = .ok (.iload_n 0, 1) := by decide +kernel
theorem dX11_orMany_11 : decode cX11_orMany 11 = .ok (.ireturn, 1) := by decide +kernel
theorem dX11_gone_0 : decode cX11_gone 0 = .ok (.aload_n 0, 1) := by decide +kernel
theorem dX11_gone_1 : decode cX11_gone 1 = .ok (.iload_n 1, 1) := by decide +kernel
theorem dX11_gone_2 : decode cX11_gone 2 = .ok (.invokevirtual 315, 3) := by decide +kernel
theorem dX11_gone_5 : decode cX11_gone 5 = .ok (.ifCond .ne 6, 3) := by decide +kernel
theorem dX11_gone_8 : decode cX11_gone 8 = .ok (.bipush (-2), 2) := by decide +kernel
theorem dX11_gone_10 : decode cX11_gone 10 = .ok (.ireturn, 1) := by decide +kernel
theorem dX11_gone_11 : decode cX11_gone 11 = .ok (.aload_n 0, 1) := by decide +kernel
theorem dX11_gone_12 : decode cX11_gone 12 = .ok (.invokevirtual 303, 3) := by decide +kernel
theorem dX11_gone_15 : decode cX11_gone 15 = .ok (.iconst (-1), 1) := by decide +kernel
theorem dX11_gone_16 : decode cX11_gone 16 = .ok (.istore_n 2, 1) := by decide +kernel
theorem dX11_gone_17 : decode cX11_gone 17 = .ok (.iconst 0, 1) := by decide +kernel
theorem dX11_gone_18 : decode cX11_gone 18 = .ok (.istore_n 3, 1) := by decide +kernel
theorem dX11_gone_19 : decode cX11_gone 19 = .ok (.iload_n 3, 1) := by decide +kernel
theorem dX11_gone_20 : decode cX11_gone 20 = .ok (.bipush 60, 2) := by decide +kernel
theorem dX11_gone_22 : decode cX11_gone 22 = .ok (.if_icmp .gt 42, 3) := by decide +kernel
theorem dX11_gone_25 : decode cX11_gone 25 = .ok (.iload_n 2, 1) := by decide +kernel
theorem dX11_gone_26 : decode cX11_gone 26 = .ok (.iconst (-1), 1) := by decide +kernel
theorem dX11_gone_27 : decode cX11_gone 27 = .ok (.if_icmp .ne 37, 3) := by decide +kernel
theorem dX11_gone_30 : decode cX11_gone 30 = .ok (.aload_n 0, 1) := by decide +kernel
theorem dX11_gone_31 : decode cX11_gone 31 = .ok (.iload_n 1, 1) := by decide +kernel
theorem dX11_gone_32 : decode cX11_gone 32 = .ok (.invokevirtual 333, 3) := by decide +kernel
theorem dX11_gone_35 : decode cX11_gone 35 = .ok (.invokestatic 340, 3) := by decide +kernel
theorem dX11_gone_38 : decode cX11_gone 38 = .ok (.aload_n 0, 1) := by decide +kernel
theorem dX11_gone_39 : decode cX11_gone 39 = .ok (.iload_n 1, 1) := by decide +kernel
theorem dX11_gone_40 : decode cX11_gone 40 = .ok (.invokevirtual 336, 3) := by decide +kernel
theorem dX11_gone_43 : decode cX11_gone 43 = .ok (.invokestatic 340, 3) := by decide +kernel
theorem dX11_gone_46 : decode cX11_gone 46 = .ok (.if_icmp .lt 8, 3) := by decide +kernel
theorem dX11_gone_49 : decode cX11_gone 49 = .ok (.iload_n 3, 1) := by decide +kernel
theorem dX11_gone_50 : decode cX11_gone 50 = .ok (.istore_n 2, 1) := by decide +kernel
theorem dX11_gone_51 : decode cX11_gone 51 = .ok (.goto 7, 3) := by decide +kernel
theorem dX11_gone_54 : decode cX11_gone 54 = .ok (.aload_n 0, 1) := by decide +kernel
theorem dX11_gone_55 : decode cX11_gone 55 = .ok (.invokevirtual 288, 3) := by decide +kernel
theorem dX11_gone_58 : decode cX11_gone 58 = .ok (.iinc 3 1, 3) := by decide +kernel
theorem dX11_gone_61 : decode cX11_gone 61 = .ok (.goto (-42), 3) := by decide +kernel
theorem dX11_gone_64 : decode cX11_gone 64 = .ok (.aload_n 0, 1) := by decide +kernel
theorem dX11_gone_65 : decode cX11_gone 65 = .ok (.invokevirtual 309, 3) := by decide +kernel
theorem dX11_gone_68 : decode cX11_gone 68 = .ok (.iload_n 2, 1) := by decide +kernel
theorem dX11_gone_69 : decode cX11_gone 69 = .ok (.ireturn, 1) := by decide +kernel
theorem dX11_without_0 : decode cX11_without 0 = .ok (.aload_n 0, 1) := by decide +kernel
theorem dX11_without_1 : decode cX11_without 1 = .ok (.iload_n 1, 1) := by decide +kernel
theorem dX11_without_2 : decode cX11_without 2 = .ok (.invokevirtual 315, 3) := by decide +kernel
theorem dX11_without_5 : decode cX11_without 5 = .ok (.ifCond .eq 15, 3) := by decide +kernel
theorem dX11_without_8 : decode cX11_without 8 = .ok (.iload_n 2, 1) := by decide +kernel
theorem dX11_without_9 : decode cX11_without 9 = .ok (.i2l, 1) := by decide +kernel
theorem dX11_without_10 : decode cX11_without 10 = .ok (.lconst 0, 1) := by decide +kernel
theorem dX11_without_11 : decode cX11_without 11 = .ok (.ldc2_w 251, 3) := by decide +kernel
theorem dX11_without_14 : decode cX11_without 14 = .ok (.invokestatic 88, 3) := by decide +kernel
theorem dX11_without_17 : decode cX11_without 17 = .ok (.ifCond .ne 6, 3) := by decide +kernel
theorem dX11_without_20 : decode cX11_without 20 = .ok (.bipush (-2), 2) := by decide +kernel
theorem dX11_without_22 : decode cX11_without 22 = .ok (.ireturn, 1) := by decide +kernel
theorem dX11_without_23 : decode cX11_without 23 = .ok (.aload_n 0, 1) := by decide +kernel
theorem dX11_without_24 : decode cX11_without 24 = .ok (.getfield 13, 3) := by decide +kernel
theorem dX11_without_27 : decode cX11_without 27 = .ok (.iconst 5, 1) := by decide +kernel
theorem dX11_without_28 : decode cX11_without 28 = .ok (.iload_n 2, 1) := by decide +kernel
theorem dX11_without_29 : decode cX11_without 29 = .ok (.iadd, 1) := by decide +kernel
theorem dX11_without_30 : decode cX11_without 30 = .ok (.iaload, 1) := by decide +kernel
theorem dX11_without_31 : decode cX11_without 31 = .ok (.istore_n 3, 1) := by decide +kernel
theorem dX11_without_32 : decode cX11_without 32 = .ok (.aload_n 0, 1) := by decide +kernel
theorem dX11_without_33 : decode cX11_without 33 = .ok (.getfield 13, 3) := by decide +kernel
theorem dX11_without_36 : decode cX11_without 36 = .ok (.iconst 5, 1) := by decide +kernel
theorem dX11_without_37 : decode cX11_without 37 = .ok (.iload_n 2, 1) := by decide +kernel
theorem dX11_without_38 : decode cX11_without 38 = .ok (.iadd, 1) := by decide +kernel
theorem dX11_without_39 : decode cX11_without 39 = .ok (.iconst 0, 1) := by decide +kernel
theorem dX11_without_40 : decode cX11_without 40 = .ok (.iastore, 1) := by decide +kernel
theorem dX11_without_41 : decode cX11_without 41 = .ok (.aload_n 0, 1) := by decide +kernel
theorem dX11_without_42 : decode cX11_without 42 = .ok (.iload_n 1, 1) := by decide +kernel
theorem dX11_without_43 : decode cX11_without 43 = .ok (.invokevirtual 333, 3) := by decide +kernel
theorem dX11_without_46 : decode cX11_without 46 = .ok (.istore 4, 2) := by decide +kernel
theorem dX11_without_48 : decode cX11_without 48 = .ok (.aload_n 0, 1) := by decide +kernel
theorem dX11_without_49 : decode cX11_without 49 = .ok (.getfield 13, 3) := by decide +kernel
theorem dX11_without_52 : decode cX11_without 52 = .ok (.iconst 5, 1) := by decide +kernel
theorem dX11_without_53 : decode cX11_without 53 = .ok (.iload_n 2, 1) := by decide +kernel
theorem dX11_without_54 : decode cX11_without 54 = .ok (.iadd, 1) := by decide +kernel
theorem dX11_without_55 : decode cX11_without 55 = .ok (.iload_n 3, 1) := by decide +kernel
theorem dX11_without_56 : decode cX11_without 56 = .ok (.iastore, 1) := by decide +kernel
theorem dX11_without_57 : decode cX11_without 57 = .ok (.iload 4, 2) := by decide +kernel
theorem dX11_without_59 : decode cX11_without 59 = .ok (.ireturn, 1) := by decide +kernel
theorem dX11_between_0 : decode cX11_between 0 = .ok (.aload_n 0, 1) := by decide +kernel
theorem dX11_between_1 : decode cX11_between 1 = .ok (.iload_n 1, 1) := by decide +kernel
theorem dX11_between_2 : decode cX11_between 2 = .ok (.invokevirtual 315, 3) := by decide +kernel
theorem dX11_between_5 : decode cX11_between 5 = .ok (.ifCond .eq 28, 3) := by decide +kernel
theorem dX11_between_8 : decode cX11_between 8 = .ok (.aload_n 0, 1) := by decide +kernel
theorem dX11_between_9 : decode cX11_between 9 = .ok (.iload_n 2, 1) := by decide +kernel
theorem dX11_between_10 : decode cX11_between 10 = .ok (.invokevirtual 315, 3) := by decide +kernel
theorem dX11_between_13 : decode cX11_between 13 = .ok (.ifCond .eq 20, 3) := by decide +kernel
theorem dX11_between_16 : decode cX11_between 16 = .ok (.iload_n 1, 1) := by decide +kernel
theorem dX11_between_17 : decode cX11_between 17 = .ok (.iload_n 2, 1) := by decide +kernel
theorem dX11_between_18 : decode cX11_between 18 = .ok (.if_icmp .eq 15, 3) := by decide +kernel
theorem dX11_between_21 : decode cX11_between 21 = .ok (.iload_n 3, 1) := by decide +kernel
theorem dX11_between_22 : decode cX11_between 22 = .ok (.i2l, 1) := by decide +kernel
theorem dX11_between_23 : decode cX11_between 23 = .ok (.lconst 1, 1) := by decide +kernel
theorem dX11_between_24 : decode cX11_between 24 = .ok (.ldc2_w 323, 3) := by decide +kernel
theorem dX11_between_27 : decode cX11_between 27 = .ok (.invokestatic 88, 3) := by decide +kernel
theorem dX11_between_30 : decode cX11_between 30 = .ok (.ifCond .ne 7, 3) := by decide +kernel
theorem dX11_between_33 : decode cX11_between 33 = .ok (.ldc_w 339, 3) := by decide +kernel
theorem dX11_between_36 : decode cX11_between 36 = .ok (.ireturn, 1) := by decide +kernel
theorem dX11_between_37 : decode cX11_between 37 = .ok (.aload_n 0, 1) := by decide +kernel
theorem dX11_between_38 : decode cX11_between 38 = .ok (.invokevirtual 303, 3) := by decide +kernel
theorem dX11_between_41 : decode cX11_between 41 = .ok (.aload_n 0, 1) := by decide +kernel
theorem dX11_between_42 : decode cX11_between 42 = .ok (.iload_n 3, 1) := by decide +kernel
theorem dX11_between_43 : decode cX11_between 43 = .ok (.invokevirtual 325, 3) := by decide +kernel
theorem dX11_between_46 : decode cX11_between 46 = .ok (.aload_n 0, 1) := by decide +kernel
theorem dX11_between_47 : decode cX11_between 47 = .ok (.iload_n 1, 1) := by decide +kernel
theorem dX11_between_48 : decode cX11_between 48 = .ok (.invokevirtual 306, 3) := by decide +kernel
theorem dX11_between_51 : decode cX11_between 51 = .ok (.istore 4, 2) := by decide +kernel
theorem dX11_between_53 : decode cX11_between 53 = .ok (.aload_n 0, 1) := by decide +kernel
theorem dX11_between_54 : decode cX11_between 54 = .ok (.invokevirtual 309, 3) := by decide +kernel
theorem dX11_between_57 : decode cX11_between 57 = .ok (.aload_n 0, 1) := by decide +kernel
theorem dX11_between_58 : decode cX11_between 58 = .ok (.invokevirtual 303, 3) := by decide +kernel
theorem dX11_between_61 : decode cX11_between 61 = .ok (.aload_n 0, 1) := by decide +kernel
theorem dX11_between_62 : decode cX11_between 62 = .ok (.iload_n 2, 1) := by decide +kernel
theorem dX11_between_63 : decode cX11_between 63 = .ok (.invokevirtual 306, 3) := by decide +kernel
theorem dX11_between_66 : decode cX11_between 66 = .ok (.iconst (-1), 1) := by decide +kernel
theorem dX11_between_67 : decode cX11_between 67 = .ok (.if_icmp .eq 7, 3) := by decide +kernel
theorem dX11_between_70 : decode cX11_between 70 = .ok (.iconst 1, 1) := by decide +kernel
theorem dX11_between_71 : decode cX11_between 71 = .ok (.goto 4, 3) := by decide +kernel
theorem dX11_between_74 : decode cX11_between 74 = .ok (.iconst 0, 1) := by decide +kernel
theorem dX11_between_75 : decode cX11_between 75 = .ok (.istore 5, 2) := by decide +kernel
theorem dX11_between_77 : decode cX11_between 77 = .ok (.aload_n 0, 1) := by decide +kernel
theorem dX11_between_78 : decode cX11_between 78 = .ok (.iload_n 3, 1) := by decide +kernel
theorem dX11_between_79 : decode cX11_between 79 = .ok (.invokevirtual 325, 3) := by decide +kernel
theorem dX11_between_82 : decode cX11_between 82 = .ok (.aload_n 0, 1) := by decide +kernel
theorem dX11_between_83 : decode cX11_between 83 = .ok (.iload_n 1, 1) := by decide +kernel
theorem dX11_between_84 : decode cX11_between 84 = .ok (.invokevirtual 306, 3) := by decide +kernel
theorem dX11_between_87 : decode cX11_between 87 = .ok (.istore 6, 2) := by decide +kernel
theorem dX11_between_89 : decode cX11_between 89 = .ok (.aload_n 0, 1) := by decide +kernel
theorem dX11_between_90 : decode cX11_between 90 = .ok (.invokevirtual 309, 3) := by decide +kernel
theorem dX11_between_93 : decode cX11_between 93 = .ok (.iload 5, 2) := by decide +kernel
theorem dX11_between_95 : decode cX11_between 95 = .ok (.ifCond .eq 15, 3) := by decide +kernel
theorem dX11_between_98 : decode cX11_between 98 = .ok (.iload 4, 2) := by decide +kernel
theorem dX11_between_100 : decode cX11_between 100 = .ok (.iconst (-1), 1) := by decide +kernel
theorem dX11_between_101 : decode cX11_between 101 = .ok (.if_icmp .eq 9, 3) := by decide +kernel
theorem dX11_between_104 : decode cX11_between 104 = .ok (.iload 6, 2) := by decide +kernel
theorem dX11_between_106 : decode cX11_between 106 = .ok (.iconst (-1), 1) := by decide +kernel
theorem dX11_between_107 : decode cX11_between 107 = .ok (.if_icmp .ne 9, 3) := by decide +kernel
theorem dX11_between_110 : decode cX11_between 110 = .ok (.ldc_w 339, 3) := by decide +kernel
theorem dX11_between_113 : decode cX11_between 113 = .ok (.goto 8, 3) := by decide +kernel
theorem dX11_between_116 : decode cX11_between 116 = .ok (.iload 6, 2) := by decide +kernel
theorem dX11_between_118 : decode cX11_between 118 = .ok (.iload 4, 2) := by decide +kernel
theorem dX11_between_120 : decode cX11_between 120 = .ok (.isub, 1) := by decide +kernel
theorem dX11_between_121 : decode cX11_between 121 = .ok (.ireturn, 1) := by decide +kernel
theorem dX11_evening_0 : decode cX11_evening 0 = .ok (.aload_n 0, 1) := by decide +kernel
theorem dX11_evening_1 : decode cX11_evening 1 = .ok (.iload_n 1, 1) := by decide +kernel
theorem dX11_evening_2 : decode cX11_evening 2 = .ok (.invokevirtual 315, 3) := by decide +kernel
theorem dX11_evening_5 : decode cX11_evening 5 = .ok (.ifCond .eq 27, 3) := by decide +kernel
theorem dX11_evening_8 : decode cX11_evening 8 = .ok (.iload_n 2, 1) := by decide +kernel
theorem dX11_evening_9 : decode cX11_evening 9 = .ok (.i2l, 1) := by decide +kernel
theorem dX11_evening_10 : decode cX11_evening 10 = .ok (.lconst 0, 1) := by decide +kernel
theorem dX11_evening_11 : decode cX11_evening 11 = .ok (.ldc2_w 343, 3) := by decide +kernel
theorem dX11_evening_14 : decode cX11_evening 14 = .ok (.invokestatic 88, 3) := by decide +kernel
theorem dX11_evening_17 : decode cX11_evening 17 = .ok (.ifCond .eq 15, 3) := by decide +kernel
theorem dX11_evening_20 : decode cX11_evening 20 = .ok (.iload_n 3, 1) := by decide +kernel
theorem dX11_evening_21 : decode cX11_evening 21 = .ok (.i2l, 1) := by decide +kernel
theorem dX11_evening_22 : decode cX11_evening 22 = .ok (.lconst 0, 1) := by decide +kernel
theorem dX11_evening_23 : decode cX11_evening 23 = .ok (.ldc2_w 323, 3) := by decide +kernel
theorem dX11_evening_26 : decode cX11_evening 26 = .ok (.invokestatic 88, 3) := by decide +kernel
theorem dX11_evening_29 : decode cX11_evening 29 = .ok (.ifCond .ne 7, 3) := by decide +kernel
theorem dX11_evening_32 : decode cX11_evening 32 = .ok (.ldc_w 339, 3) := by decide +kernel
theorem dX11_evening_35 : decode cX11_evening 35 = .ok (.ireturn, 1) := by decide +kernel
theorem dX11_evening_36 : decode cX11_evening 36 = .ok (.aload_n 0, 1) := by decide +kernel
theorem dX11_evening_37 : decode cX11_evening 37 = .ok (.invokevirtual 303, 3) := by decide +kernel
theorem dX11_evening_40 : decode cX11_evening 40 = .ok (.aload_n 0, 1) := by decide +kernel
theorem dX11_evening_41 : decode cX11_evening 41 = .ok (.iload_n 1, 1) := by decide +kernel
theorem dX11_evening_42 : decode cX11_evening 42 = .ok (.invokevirtual 306, 3) := by decide +kernel
theorem dX11_evening_45 : decode cX11_evening 45 = .ok (.iconst (-1), 1) := by decide +kernel
theorem dX11_evening_46 : decode cX11_evening 46 = .ok (.if_icmp .eq 7, 3) := by decide +kernel
theorem dX11_evening_49 : decode cX11_evening 49 = .ok (.iconst 1, 1) := by decide +kernel
theorem dX11_evening_50 : decode cX11_evening 50 = .ok (.goto 4, 3) := by decide +kernel
theorem dX11_evening_53 : decode cX11_evening 53 = .ok (.iconst 0, 1) := by decide +kernel
theorem dX11_evening_54 : decode cX11_evening 54 = .ok (.istore 4, 2) := by decide +kernel
theorem dX11_evening_56 : decode cX11_evening 56 = .ok (.aload_n 0, 1) := by decide +kernel
theorem dX11_evening_57 : decode cX11_evening 57 = .ok (.iload_n 2, 1) := by decide +kernel
theorem dX11_evening_58 : decode cX11_evening 58 = .ok (.iload_n 3, 1) := by decide +kernel
theorem dX11_evening_59 : decode cX11_evening 59 = .ok (.iadd, 1) := by decide +kernel
theorem dX11_evening_60 : decode cX11_evening 60 = .ok (.invokevirtual 325, 3) := by decide +kernel
theorem dX11_evening_63 : decode cX11_evening 63 = .ok (.aload_n 0, 1) := by decide +kernel
theorem dX11_evening_64 : decode cX11_evening 64 = .ok (.iload_n 1, 1) := by decide +kernel
theorem dX11_evening_65 : decode cX11_evening 65 = .ok (.invokevirtual 306, 3) := by decide +kernel
theorem dX11_evening_68 : decode cX11_evening 68 = .ok (.istore 5, 2) := by decide +kernel
theorem dX11_evening_70 : decode cX11_evening 70 = .ok (.aload_n 0, 1) := by decide +kernel
theorem dX11_evening_71 : decode cX11_evening 71 = .ok (.invokevirtual 309, 3) := by decide +kernel
theorem dX11_evening_74 : decode cX11_evening 74 = .ok (.aload_n 0, 1) := by decide +kernel
theorem dX11_evening_75 : decode cX11_evening 75 = .ok (.invokevirtual 303, 3) := by decide +kernel
theorem dX11_evening_78 : decode cX11_evening 78 = .ok (.aload_n 0, 1) := by decide +kernel
theorem dX11_evening_79 : decode cX11_evening 79 = .ok (.iload_n 2, 1) := by decide +kernel
theorem dX11_evening_80 : decode cX11_evening 80 = .ok (.invokevirtual 325, 3) := by decide +kernel
theorem dX11_evening_83 : decode cX11_evening 83 = .ok (.aload_n 0, 1) := by decide +kernel
theorem dX11_evening_84 : decode cX11_evening 84 = .ok (.iload_n 1, 1) := by decide +kernel
theorem dX11_evening_85 : decode cX11_evening 85 = .ok (.invokevirtual 306, 3) := by decide +kernel
theorem dX11_evening_88 : decode cX11_evening 88 = .ok (.iconst (-1), 1) := by decide +kernel
theorem dX11_evening_89 : decode cX11_evening 89 = .ok (.if_icmp .eq 7, 3) := by decide +kernel
theorem dX11_evening_92 : decode cX11_evening 92 = .ok (.iconst 1, 1) := by decide +kernel
theorem dX11_evening_93 : decode cX11_evening 93 = .ok (.goto 4, 3) := by decide +kernel
theorem dX11_evening_96 : decode cX11_evening 96 = .ok (.iconst 0, 1) := by decide +kernel
theorem dX11_evening_97 : decode cX11_evening 97 = .ok (.istore 6, 2) := by decide +kernel
theorem dX11_evening_99 : decode cX11_evening 99 = .ok (.aload_n 0, 1) := by decide +kernel
theorem dX11_evening_100 : decode cX11_evening 100 = .ok (.iload_n 3, 1) := by decide +kernel
theorem dX11_evening_101 : decode cX11_evening 101 = .ok (.invokevirtual 325, 3) := by decide +kernel
theorem dX11_evening_104 : decode cX11_evening 104 = .ok (.aload_n 0, 1) := by decide +kernel
theorem dX11_evening_105 : decode cX11_evening 105 = .ok (.iload_n 1, 1) := by decide +kernel
theorem dX11_evening_106 : decode cX11_evening 106 = .ok (.invokevirtual 306, 3) := by decide +kernel
theorem dX11_evening_109 : decode cX11_evening 109 = .ok (.istore 7, 2) := by decide +kernel
theorem dX11_evening_111 : decode cX11_evening 111 = .ok (.aload_n 0, 1) := by decide +kernel
theorem dX11_evening_112 : decode cX11_evening 112 = .ok (.invokevirtual 309, 3) := by decide +kernel
theorem dX11_evening_115 : decode cX11_evening 115 = .ok (.iload 4, 2) := by decide +kernel
theorem dX11_evening_117 : decode cX11_evening 117 = .ok (.ifCond .eq 20, 3) := by decide +kernel
theorem dX11_evening_120 : decode cX11_evening 120 = .ok (.iload 6, 2) := by decide +kernel
theorem dX11_evening_122 : decode cX11_evening 122 = .ok (.ifCond .eq 15, 3) := by decide +kernel
theorem dX11_evening_125 : decode cX11_evening 125 = .ok (.iload 5, 2) := by decide +kernel
theorem dX11_evening_127 : decode cX11_evening 127 = .ok (.iconst (-1), 1) := by decide +kernel
theorem dX11_evening_128 : decode cX11_evening 128 = .ok (.if_icmp .eq 9, 3) := by decide +kernel
theorem dX11_evening_131 : decode cX11_evening 131 = .ok (.iload 7, 2) := by decide +kernel
theorem dX11_evening_133 : decode cX11_evening 133 = .ok (.iconst (-1), 1) := by decide +kernel
theorem dX11_evening_134 : decode cX11_evening 134 = .ok (.if_icmp .ne 9, 3) := by decide +kernel
theorem dX11_evening_137 : decode cX11_evening 137 = .ok (.ldc_w 339, 3) := by decide +kernel
theorem dX11_evening_140 : decode cX11_evening 140 = .ok (.goto 8, 3) := by decide +kernel
theorem dX11_evening_143 : decode cX11_evening 143 = .ok (.iload 5, 2) := by decide +kernel
theorem dX11_evening_145 : decode cX11_evening 145 = .ok (.iload 7, 2) := by decide +kernel
theorem dX11_evening_147 : decode cX11_evening 147 = .ok (.isub, 1) := by decide +kernel
theorem dX11_evening_148 : decode cX11_evening 148 = .ok (.ireturn, 1) := by decide +kernel
theorem dX11_leftOf_0 : decode cX11_leftOf 0 = .ok (.iconst 0, 1) := by decide +kernel
theorem dX11_leftOf_1 : decode cX11_leftOf 1 = .ok (.istore_n 2, 1) := by decide +kernel
theorem dX11_leftOf_2 : decode cX11_leftOf 2 = .ok (.iconst 0, 1) := by decide +kernel
theorem dX11_leftOf_3 : decode cX11_leftOf 3 = .ok (.istore_n 3, 1) := by decide +kernel
theorem dX11_leftOf_4 : decode cX11_leftOf 4 = .ok (.iload_n 3, 1) := by decide +kernel
theorem dX11_leftOf_5 : decode cX11_leftOf 5 = .ok (.aload_n 0, 1) := by decide +kernel
theorem dX11_leftOf_6 : decode cX11_leftOf 6 = .ok (.iload_n 1, 1) := by decide +kernel
theorem dX11_leftOf_7 : decode cX11_leftOf 7 = .ok (.invokevirtual 278, 3) := by decide +kernel
theorem dX11_leftOf_10 : decode cX11_leftOf 10 = .ok (.if_icmp .ge 18, 3) := by decide +kernel
theorem dX11_leftOf_13 : decode cX11_leftOf 13 = .ok (.iload_n 2, 1) := by decide +kernel
theorem dX11_leftOf_14 : decode cX11_leftOf 14 = .ok (.aload_n 0, 1) := by decide +kernel
theorem dX11_leftOf_15 : decode cX11_leftOf 15 = .ok (.iload_n 1, 1) := by decide +kernel
theorem dX11_leftOf_16 : decode cX11_leftOf 16 = .ok (.iload_n 3, 1) := by decide +kernel
theorem dX11_leftOf_17 : decode cX11_leftOf 17 = .ok (.invokevirtual 291, 3) := by decide +kernel
theorem dX11_leftOf_20 : decode cX11_leftOf 20 = .ok (.iadd, 1) := by decide +kernel
theorem dX11_leftOf_21 : decode cX11_leftOf 21 = .ok (.istore_n 2, 1) := by decide +kernel
theorem dX11_leftOf_22 : decode cX11_leftOf 22 = .ok (.iinc 3 1, 3) := by decide +kernel
theorem dX11_leftOf_25 : decode cX11_leftOf 25 = .ok (.goto (-21), 3) := by decide +kernel
theorem dX11_leftOf_28 : decode cX11_leftOf 28 = .ok (.iload_n 2, 1) := by decide +kernel
theorem dX11_leftOf_29 : decode cX11_leftOf 29 = .ok (.ireturn, 1) := by decide +kernel
theorem dX11_plans_0 : decode cX11_plans 0 = .ok (.iload_n 2, 1) := by decide +kernel
theorem dX11_plans_1 : decode cX11_plans 1 = .ok (.istore 5, 2) := by decide +kernel
theorem dX11_plans_3 : decode cX11_plans 3 = .ok (.iload 5, 2) := by decide +kernel
theorem dX11_plans_5 : decode cX11_plans 5 = .ok (.iload_n 3, 1) := by decide +kernel
theorem dX11_plans_6 : decode cX11_plans 6 = .ok (.iconst 1, 1) := by decide +kernel
theorem dX11_plans_7 : decode cX11_plans 7 = .ok (.if_icmp .ne 7, 3) := by decide +kernel
theorem dX11_plans_10 : decode cX11_plans 10 = .ok (.iload_n 2, 1) := by decide +kernel
theorem dX11_plans_11 : decode cX11_plans 11 = .ok (.goto 4, 3) := by decide +kernel
theorem dX11_plans_14 : decode cX11_plans 14 = .ok (.iconst 0, 1) := by decide +kernel
theorem dX11_plans_15 : decode cX11_plans 15 = .ok (.if_icmp .lt 113, 3) := by decide +kernel
theorem dX11_plans_18 : decode cX11_plans 18 = .ok (.aload_n 0, 1) := by decide +kernel
theorem dX11_plans_19 : decode cX11_plans 19 = .ok (.invokevirtual 303, 3) := by decide +kernel
theorem dX11_plans_22 : decode cX11_plans 22 = .ok (.iconst 0, 1) := by decide +kernel
theorem dX11_plans_23 : decode cX11_plans 23 = .ok (.istore 6, 2) := by decide +kernel
theorem dX11_plans_25 : decode cX11_plans 25 = .ok (.iload 6, 2) := by decide +kernel
theorem dX11_plans_27 : decode cX11_plans 27 = .ok (.iload 5, 2) := by decide +kernel
theorem dX11_plans_29 : decode cX11_plans 29 = .ok (.if_icmp .ge 14, 3) := by decide +kernel
theorem dX11_plans_32 : decode cX11_plans 32 = .ok (.aload_n 0, 1) := by decide +kernel
theorem dX11_plans_33 : decode cX11_plans 33 = .ok (.iload_n 1, 1) := by decide +kernel
theorem dX11_plans_34 : decode cX11_plans 34 = .ok (.invokevirtual 294, 3) := by decide +kernel
theorem dX11_plans_37 : decode cX11_plans 37 = .ok (.iinc 6 1, 3) := by decide +kernel
theorem dX11_plans_40 : decode cX11_plans 40 = .ok (.goto (-15), 3) := by decide +kernel
theorem dX11_plans_43 : decode cX11_plans 43 = .ok (.aload_n 0, 1) := by decide +kernel
theorem dX11_plans_44 : decode cX11_plans 44 = .ok (.bipush 24, 2) := by decide +kernel
theorem dX11_plans_46 : decode cX11_plans 46 = .ok (.invokevirtual 325, 3) := by decide +kernel
theorem dX11_plans_49 : decode cX11_plans 49 = .ok (.iload_n 3, 1) := by decide +kernel
theorem dX11_plans_50 : decode cX11_plans 50 = .ok (.iconst 1, 1) := by decide +kernel
theorem dX11_plans_51 : decode cX11_plans 51 = .ok (.if_icmp .le 26, 3) := by decide +kernel
theorem dX11_plans_54 : decode cX11_plans 54 = .ok (.aload_n 0, 1) := by decide +kernel
theorem dX11_plans_55 : decode cX11_plans 55 = .ok (.iload_n 1, 1) := by decide +kernel
theorem dX11_plans_56 : decode cX11_plans 56 = .ok (.iload_n 2, 1) := by decide +kernel
theorem dX11_plans_57 : decode cX11_plans 57 = .ok (.iload 5, 2) := by decide +kernel
theorem dX11_plans_59 : decode cX11_plans 59 = .ok (.isub, 1) := by decide +kernel
theorem dX11_plans_60 : decode cX11_plans 60 = .ok (.iload_n 3, 1) := by decide +kernel
theorem dX11_plans_61 : decode cX11_plans 61 = .ok (.iconst 1, 1) := by decide +kernel
theorem dX11_plans_62 : decode cX11_plans 62 = .ok (.isub, 1) := by decide +kernel
theorem dX11_plans_63 : decode cX11_plans 63 = .ok (.bipush 10, 2) := by decide +kernel
theorem dX11_plans_65 : decode cX11_plans 65 = .ok (.iload 4, 2) := by decide +kernel
theorem dX11_plans_67 : decode cX11_plans 67 = .ok (.imul, 1) := by decide +kernel
theorem dX11_plans_68 : decode cX11_plans 68 = .ok (.iload 5, 2) := by decide +kernel
theorem dX11_plans_70 : decode cX11_plans 70 = .ok (.iadd, 1) := by decide +kernel
theorem dX11_plans_71 : decode cX11_plans 71 = .ok (.invokevirtual 345, 3) := by decide +kernel
theorem dX11_plans_74 : decode cX11_plans 74 = .ok (.goto 44, 3) := by decide +kernel
theorem dX11_plans_77 : decode cX11_plans 77 = .ok (.aload_n 0, 1) := by decide +kernel
theorem dX11_plans_78 : decode cX11_plans 78 = .ok (.getfield 348, 3) := by decide +kernel
theorem dX11_plans_81 : decode cX11_plans 81 = .ok (.iconst (-1), 1) := by decide +kernel
theorem dX11_plans_82 : decode cX11_plans 82 = .ok (.if_icmp .eq 15, 3) := by decide +kernel
theorem dX11_plans_85 : decode cX11_plans 85 = .ok (.aload_n 0, 1) := by decide +kernel
theorem dX11_plans_86 : decode cX11_plans 86 = .ok (.iload_n 1, 1) := by decide +kernel
theorem dX11_plans_87 : decode cX11_plans 87 = .ok (.invokevirtual 351, 3) := by decide +kernel
theorem dX11_plans_90 : decode cX11_plans 90 = .ok (.aload_n 0, 1) := by decide +kernel
theorem dX11_plans_91 : decode cX11_plans 91 = .ok (.getfield 354, 3) := by decide +kernel
theorem dX11_plans_94 : decode cX11_plans 94 = .ok (.if_icmp .le 24, 3) := by decide +kernel
theorem dX11_plans_97 : decode cX11_plans 97 = .ok (.aload_n 0, 1) := by decide +kernel
theorem dX11_plans_98 : decode cX11_plans 98 = .ok (.bipush 10, 2) := by decide +kernel
theorem dX11_plans_100 : decode cX11_plans 100 = .ok (.iload 4, 2) := by decide +kernel
