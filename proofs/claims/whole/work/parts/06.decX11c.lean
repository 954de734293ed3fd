theorem dX11_partOf_14 : decode cX11_partOf 14 = .ok (.tableswitch 73 0 4 #[34, 50, 53, 60, 63], 34) := by decide +kernel
theorem dX11_partOf_48 : decode cX11_partOf 48 = .ok (.aload_n 0, 1) := by decide +kernel
theorem dX11_partOf_49 : decode cX11_partOf 49 = .ok (.getfield 13, 3) := by decide +kernel
theorem dX11_partOf_52 : decode cX11_partOf 52 = .ok (.sipush 220, 3) := by decide +kernel
theorem dX11_partOf_55 : decode cX11_partOf 55 = .ok (.iconst 3, 1) := by decide +kernel
theorem dX11_partOf_56 : decode cX11_partOf 56 = .ok (.iload_n 1, 1) := by decide +kernel
theorem dX11_partOf_57 : decode cX11_partOf 57 = .ok (.imul, 1) := by decide +kernel
theorem dX11_partOf_58 : decode cX11_partOf 58 = .ok (.iadd, 1) := by decide +kernel
theorem dX11_partOf_59 : decode cX11_partOf 59 = .ok (.iconst 2, 1) := by decide +kernel
theorem dX11_partOf_60 : decode cX11_partOf 60 = .ok (.iadd, 1) := by decide +kernel
theorem dX11_partOf_61 : decode cX11_partOf 61 = .ok (.iaload, 1) := by decide +kernel
theorem dX11_partOf_62 : decode cX11_partOf 62 = .ok (.i2l, 1) := by decide +kernel
theorem dX11_partOf_63 : decode cX11_partOf 63 = .ok (.lreturn, 1) := by decide +kernel
theorem dX11_partOf_64 : decode cX11_partOf 64 = .ok (.iload_n 2, 1) := by decide +kernel
theorem dX11_partOf_65 : decode cX11_partOf 65 = .ok (.i2l, 1) := by decide +kernel
theorem dX11_partOf_66 : decode cX11_partOf 66 = .ok (.lreturn, 1) := by decide +kernel
theorem dX11_partOf_67 : decode cX11_partOf 67 = .ok (.sipush 1000, 3) := by decide +kernel
theorem dX11_partOf_70 : decode cX11_partOf 70 = .ok (.iload_n 2, 1) := by decide +kernel
theorem dX11_partOf_71 : decode cX11_partOf 71 = .ok (.isub, 1) := by decide +kernel
theorem dX11_partOf_72 : decode cX11_partOf 72 = .ok (.i2l, 1) := by decide +kernel
theorem dX11_partOf_73 : decode cX11_partOf 73 = .ok (.lreturn, 1) := by decide +kernel
theorem dX11_partOf_74 : decode cX11_partOf 74 = .ok (.iload_n 3, 1) := by decide +kernel
theorem dX11_partOf_75 : decode cX11_partOf 75 = .ok (.i2l, 1) := by decide +kernel
theorem dX11_partOf_76 : decode cX11_partOf 76 = .ok (.lreturn, 1) := by decide +kernel
theorem dX11_partOf_77 : decode cX11_partOf 77 = .ok (.aload_n 0, 1) := by decide +kernel
theorem dX11_partOf_78 : decode cX11_partOf 78 = .ok (.getfield 17, 3) := by decide +kernel
theorem dX11_partOf_81 : decode cX11_partOf 81 = .ok (.sipush 2017, 3) := by decide +kernel
theorem dX11_partOf_84 : decode cX11_partOf 84 = .ok (.iaload, 1) := by decide +kernel
theorem dX11_partOf_85 : decode cX11_partOf 85 = .ok (.i2l, 1) := by decide +kernel
theorem dX11_partOf_86 : decode cX11_partOf 86 = .ok (.lreturn, 1) := by decide +kernel
theorem dX11_partOf_87 : decode cX11_partOf 87 = .ok (.aload_n 0, 1) := by decide +kernel
theorem dX11_partOf_88 : decode cX11_partOf 88 = .ok (.getfield 17, 3) := by decide +kernel
theorem dX11_partOf_91 : decode cX11_partOf 91 = .ok (.sipush 2016, 3) := by decide +kernel
theorem dX11_partOf_94 : decode cX11_partOf 94 = .ok (.iaload, 1) := by decide +kernel
theorem dX11_partOf_95 : decode cX11_partOf 95 = .ok (.bipush 24, 2) := by decide +kernel
theorem dX11_partOf_97 : decode cX11_partOf 97 = .ok (.irem, 1) := by decide +kernel
theorem dX11_partOf_98 : decode cX11_partOf 98 = .ok (.i2l, 1) := by decide +kernel
theorem dX11_partOf_99 : decode cX11_partOf 99 = .ok (.lreturn, 1) := by decide +kernel
theorem dX11_comesTo_0 : decode cX11_comesTo 0 = .ok (.iload_n 1, 1) := by decide +kernel
theorem dX11_comesTo_1 : decode cX11_comesTo 1 = .ok (.aload_n 0, 1) := by decide +kernel
theorem dX11_comesTo_2 : decode cX11_comesTo 2 = .ok (.getfield 55, 3) := by decide +kernel
theorem dX11_comesTo_5 : decode cX11_comesTo 5 = .ok (.if_icmp .ne 9, 3) := by decide +kernel
theorem dX11_comesTo_8 : decode cX11_comesTo 8 = .ok (.aload_n 0, 1) := by decide +kernel
theorem dX11_comesTo_9 : decode cX11_comesTo 9 = .ok (.getfield 240, 3) := by decide +kernel
theorem dX11_comesTo_12 : decode cX11_comesTo 12 = .ok (.i2l, 1) := by decide +kernel
theorem dX11_comesTo_13 : decode cX11_comesTo 13 = .ok (.lreturn, 1) := by decide +kernel
theorem dX11_comesTo_14 : decode cX11_comesTo 14 = .ok (.aload_n 0, 1) := by decide +kernel
theorem dX11_comesTo_15 : decode cX11_comesTo 15 = .ok (.getfield 13, 3) := by decide +kernel
theorem dX11_comesTo_18 : decode cX11_comesTo 18 = .ok (.sipush 202, 3) := by decide +kernel
theorem dX11_comesTo_21 : decode cX11_comesTo 21 = .ok (.iconst 2, 1) := by decide +kernel
theorem dX11_comesTo_22 : decode cX11_comesTo 22 = .ok (.iload_n 1, 1) := by decide +kernel
theorem dX11_comesTo_23 : decode cX11_comesTo 23 = .ok (.imul, 1) := by decide +kernel
theorem dX11_comesTo_24 : decode cX11_comesTo 24 = .ok (.iadd, 1) := by decide +kernel
theorem dX11_comesTo_25 : decode cX11_comesTo 25 = .ok (.iaload, 1) := by decide +kernel
theorem dX11_comesTo_26 : decode cX11_comesTo 26 = .ok (.istore 4, 2) := by decide +kernel
theorem dX11_comesTo_28 : decode cX11_comesTo 28 = .ok (.iload 4, 2) := by decide +kernel
theorem dX11_comesTo_30 : decode cX11_comesTo 30 = .ok (.aload_n 0, 1) := by decide +kernel
theorem dX11_comesTo_31 : decode cX11_comesTo 31 = .ok (.getfield 13, 3) := by decide +kernel
theorem dX11_comesTo_34 : decode cX11_comesTo 34 = .ok (.sipush 202, 3) := by decide +kernel
theorem dX11_comesTo_37 : decode cX11_comesTo 37 = .ok (.iconst 2, 1) := by decide +kernel
theorem dX11_comesTo_38 : decode cX11_comesTo 38 = .ok (.iload_n 1, 1) := by decide +kernel
theorem dX11_comesTo_39 : decode cX11_comesTo 39 = .ok (.imul, 1) := by decide +kernel
theorem dX11_comesTo_40 : decode cX11_comesTo 40 = .ok (.iadd, 1) := by decide +kernel
theorem dX11_comesTo_41 : decode cX11_comesTo 41 = .ok (.iconst 1, 1) := by decide +kernel
theorem dX11_comesTo_42 : decode cX11_comesTo 42 = .ok (.iadd, 1) := by decide +kernel
theorem dX11_comesTo_43 : decode cX11_comesTo 43 = .ok (.iaload, 1) := by decide +kernel
theorem dX11_comesTo_44 : decode cX11_comesTo 44 = .ok (.iadd, 1) := by decide +kernel
theorem dX11_comesTo_45 : decode cX11_comesTo 45 = .ok (.istore 5, 2) := by decide +kernel
theorem dX11_comesTo_47 : decode cX11_comesTo 47 = .ok (.lconst 0, 1) := by decide +kernel
theorem dX11_comesTo_48 : decode cX11_comesTo 48 = .ok (.lstore 6, 2) := by decide +kernel
theorem dX11_comesTo_50 : decode cX11_comesTo 50 = .ok (.iload 4, 2) := by decide +kernel
theorem dX11_comesTo_52 : decode cX11_comesTo 52 = .ok (.iload 5, 2) := by decide +kernel
theorem dX11_comesTo_54 : decode cX11_comesTo 54 = .ok (.if_icmp .ge 193, 3) := by decide +kernel
theorem dX11_comesTo_57 : decode cX11_comesTo 57 = .ok (.aload_n 0, 1) := by decide +kernel
theorem dX11_comesTo_58 : decode cX11_comesTo 58 = .ok (.getfield 13, 3) := by decide +kernel
theorem dX11_comesTo_61 : decode cX11_comesTo 61 = .ok (.sipush 220, 3) := by decide +kernel
theorem dX11_comesTo_64 : decode cX11_comesTo 64 = .ok (.iconst 3, 1) := by decide +kernel
theorem dX11_comesTo_65 : decode cX11_comesTo 65 = .ok (.iload 4, 2) := by decide +kernel
theorem dX11_comesTo_67 : decode cX11_comesTo 67 = .ok (.imul, 1) := by decide +kernel
theorem dX11_comesTo_68 : decode cX11_comesTo 68 = .ok (.iadd, 1) := by decide +kernel
theorem dX11_comesTo_69 : decode cX11_comesTo 69 = .ok (.iaload, 1) := by decide +kernel
theorem dX11_comesTo_70 : decode cX11_comesTo 70 = .ok (.iconst 2, 1) := by decide +kernel
theorem dX11_comesTo_71 : decode cX11_comesTo 71 = .ok (.if_icmp .ne 7, 3) := by decide +kernel
theorem dX11_comesTo_74 : decode cX11_comesTo 74 = .ok (.iconst 1, 1) := by decide +kernel
theorem dX11_comesTo_75 : decode cX11_comesTo 75 = .ok (.goto 4, 3) := by decide +kernel
theorem dX11_comesTo_78 : decode cX11_comesTo 78 = .ok (.iconst 0, 1) := by decide +kernel
theorem dX11_comesTo_79 : decode cX11_comesTo 79 = .ok (.istore 8, 2) := by decide +kernel
theorem dX11_comesTo_81 : decode cX11_comesTo 81 = .ok (.aload_n 0, 1) := by decide +kernel
theorem dX11_comesTo_82 : decode cX11_comesTo 82 = .ok (.iload 4, 2) := by decide +kernel
theorem dX11_comesTo_84 : decode cX11_comesTo 84 = .ok (.iload_n 2, 1) := by decide +kernel
theorem dX11_comesTo_85 : decode cX11_comesTo 85 = .ok (.iload_n 3, 1) := by decide +kernel
theorem dX11_comesTo_86 : decode cX11_comesTo 86 = .ok (.invokevirtual 243, 3) := by decide +kernel
theorem dX11_comesTo_89 : decode cX11_comesTo 89 = .ok (.lstore 9, 2) := by decide +kernel
theorem dX11_comesTo_91 : decode cX11_comesTo 91 = .ok (.iinc 4 1, 3) := by decide +kernel
theorem dX11_comesTo_94 : decode cX11_comesTo 94 = .ok (.iload 4, 2) := by decide +kernel
theorem dX11_comesTo_96 : decode cX11_comesTo 96 = .ok (.iload 5, 2) := by decide +kernel
theorem dX11_comesTo_98 : decode cX11_comesTo 98 = .ok (.if_icmp .ge 110, 3) := by decide +kernel
theorem dX11_comesTo_101 : decode cX11_comesTo 101 = .ok (.aload_n 0, 1) := by decide +kernel
theorem dX11_comesTo_102 : decode cX11_comesTo 102 = .ok (.getfield 13, 3) := by decide +kernel
theorem dX11_comesTo_105 : decode cX11_comesTo 105 = .ok (.sipush 220, 3) := by decide +kernel
theorem dX11_comesTo_108 : decode cX11_comesTo 108 = .ok (.iconst 3, 1) := by decide +kernel
theorem dX11_comesTo_109 : decode cX11_comesTo 109 = .ok (.iload 4, 2) := by decide +kernel
theorem dX11_comesTo_111 : decode cX11_comesTo 111 = .ok (.imul, 1) := by decide +kernel
theorem dX11_comesTo_112 : decode cX11_comesTo 112 = .ok (.iadd, 1) := by decide +kernel
theorem dX11_comesTo_113 : decode cX11_comesTo 113 = .ok (.iaload, 1) := by decide +kernel
theorem dX11_comesTo_114 : decode cX11_comesTo 114 = .ok (.iconst 3, 1) := by decide +kernel
theorem dX11_comesTo_115 : decode cX11_comesTo 115 = .ok (.if_icmp .lt 93, 3) := by decide +kernel
theorem dX11_comesTo_118 : decode cX11_comesTo 118 = .ok (.aload_n 0, 1) := by decide +kernel
theorem dX11_comesTo_119 : decode cX11_comesTo 119 = .ok (.iload 4, 2) := by decide +kernel
theorem dX11_comesTo_121 : decode cX11_comesTo 121 = .ok (.iload_n 2, 1) := by decide +kernel
theorem dX11_comesTo_122 : decode cX11_comesTo 122 = .ok (.iload_n 3, 1) := by decide +kernel
theorem dX11_comesTo_123 : decode cX11_comesTo 123 = .ok (.invokevirtual 243, 3) := by decide +kernel
theorem dX11_comesTo_126 : decode cX11_comesTo 126 = .ok (.lstore 11, 2) := by decide +kernel
theorem dX11_comesTo_128 : decode cX11_comesTo 128 = .ok (.aload_n 0, 1) := by decide +kernel
theorem dX11_comesTo_129 : decode cX11_comesTo 129 = .ok (.getfield 13, 3) := by decide +kernel
theorem dX11_comesTo_132 : decode cX11_comesTo 132 = .ok (.sipush 220, 3) := by decide +kernel
theorem dX11_comesTo_135 : decode cX11_comesTo 135 = .ok (.iconst 3, 1) := by decide +kernel
theorem dX11_comesTo_136 : decode cX11_comesTo 136 = .ok (.iload 4, 2) := by decide +kernel
theorem dX11_comesTo_138 : decode cX11_comesTo 138 = .ok (.imul, 1) := by decide +kernel
theorem dX11_comesTo_139 : decode cX11_comesTo 139 = .ok (.iadd, 1) := by decide +kernel
theorem dX11_comesTo_140 : decode cX11_comesTo 140 = .ok (.iaload, 1) := by decide +kernel
theorem dX11_comesTo_141 : decode cX11_comesTo 141 = .ok (.iconst 3, 1) := by decide +kernel
theorem dX11_comesTo_142 : decode cX11_comesTo 142 = .ok (.if_icmp .ne 7, 3) := by decide +kernel
theorem dX11_comesTo_145 : decode cX11_comesTo 145 = .ok (.iconst 1, 1) := by decide +kernel
theorem dX11_comesTo_146 : decode cX11_comesTo 146 = .ok (.goto 4, 3) := by decide +kernel
theorem dX11_comesTo_149 : decode cX11_comesTo 149 = .ok (.iconst 0, 1) := by decide +kernel
theorem dX11_comesTo_150 : decode cX11_comesTo 150 = .ok (.istore 13, 2) := by decide +kernel
theorem dX11_comesTo_152 : decode cX11_comesTo 152 = .ok (.iload 13, 2) := by decide +kernel
theorem dX11_comesTo_154 : decode cX11_comesTo 154 = .ok (.ifCond .ne 12, 3) := by decide +kernel
theorem dX11_comesTo_157 : decode cX11_comesTo 157 = .ok (.lload 11, 2) := by decide +kernel
theorem dX11_comesTo_159 : decode cX11_comesTo 159 = .ok (.lconst 0, 1) := by decide +kernel
theorem dX11_comesTo_160 : decode cX11_comesTo 160 = .ok (.lcmp, 1) := by decide +kernel
theorem dX11_comesTo_161 : decode cX11_comesTo 161 = .ok (.ifCond .ne 5, 3) := by decide +kernel
theorem dX11_comesTo_164 : decode cX11_comesTo 164 = .ok (.lconst 0, 1) := by decide +kernel
theorem dX11_comesTo_165 : decode cX11_comesTo 165 = .ok (.lreturn, 1) := by decide +kernel
theorem dX11_comesTo_166 : decode cX11_comesTo 166 = .ok (.iload 13, 2) := by decide +kernel
theorem dX11_comesTo_168 : decode cX11_comesTo 168 = .ok (.ifCond .eq 11, 3) := by decide +kernel
theorem dX11_comesTo_171 : decode cX11_comesTo 171 = .ok (.lload 9, 2) := by decide +kernel
theorem dX11_comesTo_173 : decode cX11_comesTo 173 = .ok (.lload 11, 2) := by decide +kernel
theorem dX11_comesTo_175 : decode cX11_comesTo 175 = .ok (.lmul, 1) := by decide +kernel
theorem dX11_comesTo_176 : decode cX11_comesTo 176 = .ok (.goto 8, 3) := by decide +kernel
theorem dX11_comesTo_179 : decode cX11_comesTo 179 = .ok (.lload 9, 2) := by decide +kernel
theorem dX11_comesTo_181 : decode cX11_comesTo 181 = .ok (.lload 11, 2) := by decide +kernel
theorem dX11_comesTo_183 : decode cX11_comesTo 183 = .ok (.ldiv, 1) := by decide +kernel
theorem dX11_comesTo_184 : decode cX11_comesTo 184 = .ok (.lstore 9, 2) := by decide +kernel
theorem dX11_comesTo_186 : decode cX11_comesTo 186 = .ok (.lload 9, 2) := by decide +kernel
theorem dX11_comesTo_188 : decode cX11_comesTo 188 = .ok (.ldc2_w 247, 3) := by decide +kernel
theorem dX11_comesTo_191 : decode cX11_comesTo 191 = .ok (.ldc2_w 249, 3) := by decide +kernel
theorem dX11_comesTo_194 : decode cX11_comesTo 194 = .ok (.invokestatic 88, 3) := by decide +kernel
theorem dX11_comesTo_197 : decode cX11_comesTo 197 = .ok (.ifCond .ne 5, 3) := by decide +kernel
theorem dX11_comesTo_200 : decode cX11_comesTo 200 = .ok (.lconst 0, 1) := by decide +kernel
theorem dX11_comesTo_201 : decode cX11_comesTo 201 = .ok (.lreturn, 1) := by decide +kernel
theorem dX11_comesTo_202 : decode cX11_comesTo 202 = .ok (.iinc 4 1, 3) := by decide +kernel
theorem dX11_comesTo_205 : decode cX11_comesTo 205 = .ok (.goto (-111), 3) := by decide +kernel
theorem dX11_comesTo_208 : decode cX11_comesTo 208 = .ok (.iload 8, 2) := by decide +kernel
theorem dX11_comesTo_210 : decode cX11_comesTo 210 = .ok (.ifCond .eq 11, 3) := by decide +kernel
theorem dX11_comesTo_213 : decode cX11_comesTo 213 = .ok (.lload 6, 2) := by decide +kernel
theorem dX11_comesTo_215 : decode cX11_comesTo 215 = .ok (.lload 9, 2) := by decide +kernel
theorem dX11_comesTo_217 : decode cX11_comesTo 217 = .ok (.lsub, 1) := by decide +kernel
theorem dX11_comesTo_218 : decode cX11_comesTo 218 = .ok (.goto 8, 3) := by decide +kernel
theorem dX11_comesTo_221 : decode cX11_comesTo 221 = .ok (.lload 6, 2) := by decide +kernel
theorem dX11_comesTo_223 : decode cX11_comesTo 223 = .ok (.lload 9, 2) := by decide +kernel
theorem dX11_comesTo_225 : decode cX11_comesTo 225 = .ok (.ladd, 1) := by decide +kernel
theorem dX11_comesTo_226 : decode cX11_comesTo 226 = .ok (.lstore 6, 2) := by decide +kernel
theorem dX11_comesTo_228 : decode cX11_comesTo 228 = .ok (.lload 6, 2) := by decide +kernel
theorem dX11_comesTo_230 : decode cX11_comesTo 230 = .ok (.ldc2_w 247, 3) := by decide +kernel
theorem dX11_comesTo_233 : decode cX11_comesTo 233 = .ok (.ldc2_w 249, 3) := by decide +kernel
theorem dX11_comesTo_236 : decode cX11_comesTo 236 = .ok (.invokestatic 88, 3) := by decide +kernel
theorem dX11_comesTo_239 : decode cX11_comesTo 239 = .ok (.ifCond .ne 5, 3) := by decide +kernel
theorem dX11_comesTo_242 : decode cX11_comesTo 242 = .ok (.lconst 0, 1) := by decide +kernel
theorem dX11_comesTo_243 : decode cX11_comesTo 243 = .ok (.lreturn, 1) := by decide +kernel
theorem dX11_comesTo_244 : decode cX11_comesTo 244 = .ok (.goto (-194), 3) := by decide +kernel
theorem dX11_comesTo_247 : decode cX11_comesTo 247 = .ok (.lload 6, 2) := by decide +kernel
theorem dX11_comesTo_249 : decode cX11_comesTo 249 = .ok (.lreturn, 1) := by decide +kernel
theorem dX11_law_0 : decode cX11_law 0 = .ok (.iload_n 1, 1) := by decide +kernel
theorem dX11_law_1 : decode cX11_law 1 = .ok (.i2l, 1) := by decide +kernel
theorem dX11_law_2 : decode cX11_law 2 = .ok (.lconst 0, 1) := by decide +kernel
theorem dX11_law_3 : decode cX11_law 3 = .ok (.ldc2_w 86, 3) := by decide +kernel
theorem dX11_law_6 : decode cX11_law 6 = .ok (.invokestatic 88, 3) := by decide +kernel
theorem dX11_law_9 : decode cX11_law 9 = .ok (.ifCond .eq 36, 3) := by decide +kernel
theorem dX11_law_12 : decode cX11_law 12 = .ok (.iload_n 2, 1) := by decide +kernel
theorem dX11_law_13 : decode cX11_law 13 = .ok (.i2l, 1) := by decide +kernel
theorem dX11_law_14 : decode cX11_law 14 = .ok (.lconst 0, 1) := by decide +kernel
theorem dX11_law_15 : decode cX11_law 15 = .ok (.ldc2_w 251, 3) := by decide +kernel
theorem dX11_law_18 : decode cX11_law 18 = .ok (.invokestatic 88, 3) := by decide +kernel
theorem dX11_law_21 : decode cX11_law 21 = .ok (.ifCond .eq 24, 3) := by decide +kernel
theorem dX11_law_24 : decode cX11_law 24 = .ok (.iload_n 3, 1) := by decide +kernel
theorem dX11_law_25 : decode cX11_law 25 = .ok (.i2l, 1) := by decide +kernel
theorem dX11_law_26 : decode cX11_law 26 = .ok (.lconst 0, 1) := by decide +kernel
theorem dX11_law_27 : decode cX11_law 27 = .ok (.ldc2_w 253, 3) := by decide +kernel
theorem dX11_law_30 : decode cX11_law 30 = .ok (.invokestatic 88, 3) := by decide +kernel
theorem dX11_law_33 : decode cX11_law 33 = .ok (.ifCond .eq 12, 3) := by decide +kernel
theorem dX11_law_36 : decode cX11_law 36 = .ok (.aload_n 0, 1) := by decide +kernel
theorem dX11_law_37 : decode cX11_law 37 = .ok (.iload 4, 2) := by decide +kernel
theorem dX11_law_39 : decode cX11_law 39 = .ok (.invokevirtual 255, 3) := by decide +kernel
theorem dX11_law_42 : decode cX11_law 42 = .ok (.ifCond .ne 7, 3) := by decide +kernel
theorem dX11_law_45 : decode cX11_law 45 = .ok (.ldc2_w 259, 3) := by decide +kernel
theorem dX11_law_48 : decode cX11_law 48 = .ok (.lreturn, 1) := by decide +kernel
theorem dX11_law_49 : decode cX11_law 49 = .ok (.iload_n 1, 1) := by decide +kernel
theorem dX11_law_50 : decode cX11_law 50 = .ok (.iconst 2, 1) := by decide +kernel
theorem dX11_law_51 : decode cX11_law 51 = .ok (.if_icmp .ne 9, 3) := by decide +kernel
theorem dX11_law_54 : decode cX11_law 54 = .ok (.iload_n 2, 1) := by decide +kernel
theorem dX11_law_55 : decode cX11_law 55 = .ok (.ifCond .le 5, 3) := by decide +kernel
theorem dX11_law_58 : decode cX11_law 58 = .ok (.lconst 0, 1) := by decide +kernel
theorem dX11_law_59 : decode cX11_law 59 = .ok (.lreturn, 1) := by decide +kernel
theorem dX11_law_60 : decode cX11_law 60 = .ok (.aload_n 0, 1) := by decide +kernel
theorem dX11_law_61 : decode cX11_law 61 = .ok (.iload_n 1, 1) := by decide +kernel
theorem dX11_law_62 : decode cX11_law 62 = .ok (.iconst 2, 1) := by decide +kernel
theorem dX11_law_63 : decode cX11_law 63 = .ok (.if_icmp .ne 8, 3) := by decide +kernel
theorem dX11_law_66 : decode cX11_law 66 = .ok (.bipush 8, 2) := by decide +kernel
theorem dX11_law_68 : decode cX11_law 68 = .ok (.goto 8, 3) := by decide +kernel
theorem dX11_law_71 : decode cX11_law 71 = .ok (.iconst 4, 1) := by decide +kernel
theorem dX11_law_72 : decode cX11_law 72 = .ok (.iload_n 1, 1) := by decide +kernel
theorem dX11_law_73 : decode cX11_law 73 = .ok (.imul, 1) := by decide +kernel
theorem dX11_law_74 : decode cX11_law 74 = .ok (.iload_n 2, 1) := by decide +kernel
theorem dX11_law_75 : decode cX11_law 75 = .ok (.iadd, 1) := by decide +kernel
theorem dX11_law_76 : decode cX11_law 76 = .ok (.iload_n 3, 1) := by decide +kernel
theorem dX11_law_77 : decode cX11_law 77 = .ok (.aload_n 0, 1) := by decide +kernel
theorem dX11_law_78 : decode cX11_law 78 = .ok (.getfield 13, 3) := by decide +kernel
theorem dX11_law_81 : decode cX11_law 81 = .ok (.bipush 10, 2) := by decide +kernel
theorem dX11_law_83 : decode cX11_law 83 = .ok (.iload 4, 2) := by decide +kernel
theorem dX11_law_85 : decode cX11_law 85 = .ok (.iadd, 1) := by decide +kernel
theorem dX11_law_86 : decode cX11_law 86 = .ok (.iaload, 1) := by decide +kernel
theorem dX11_law_87 : decode cX11_law 87 = .ok (.invokevirtual 261, 3) := by decide +kernel
theorem dX11_law_90 : decode cX11_law 90 = .ok (.lreturn, 1) := by decide +kernel
theorem dX11_linkAt_0 : decode cX11_linkAt 0 = .ok (.iload_n 0, 1) := by decide +kernel
theorem dX11_linkAt_1 : decode cX11_linkAt 1 = .ok (.iconst 3, 1) := by decide +kernel
theorem dX11_linkAt_2 : decode cX11_linkAt 2 = .ok (.if_icmp .ne 16, 3) := by decide +kernel
theorem dX11_linkAt_5 : decode cX11_linkAt 5 = .ok (.sipush 1728, 3) := by decide +kernel
theorem dX11_linkAt_8 : decode cX11_linkAt 8 = .ok (.bipush 12, 2) := by decide +kernel
theorem dX11_linkAt_10 : decode cX11_linkAt 10 = .ok (.iload_n 1, 1) := by decide +kernel
theorem dX11_linkAt_11 : decode cX11_linkAt 11 = .ok (.imul, 1) := by decide +kernel
theorem dX11_linkAt_12 : decode cX11_linkAt 12 = .ok (.iadd, 1) := by decide +kernel
theorem dX11_linkAt_13 : decode cX11_linkAt 13 = .ok (.iload_n 2, 1) := by decide +kernel
theorem dX11_linkAt_14 : decode cX11_linkAt 14 = .ok (.iadd, 1) := by decide +kernel
theorem dX11_linkAt_15 : decode cX11_linkAt 15 = .ok (.goto 15, 3) := by decide +kernel
theorem dX11_linkAt_18 : decode cX11_linkAt 18 = .ok (.sipush 576, 3) := by decide +kernel
theorem dX11_linkAt_21 : decode cX11_linkAt 21 = .ok (.iload_n 0, 1) := by decide +kernel
theorem dX11_linkAt_22 : decode cX11_linkAt 22 = .ok (.imul, 1) := by decide +kernel
theorem dX11_linkAt_23 : decode cX11_linkAt 23 = .ok (.bipush 24, 2) := by decide +kernel
theorem dX11_linkAt_25 : decode cX11_linkAt 25 = .ok (.iload_n 1, 1) := by decide +kernel
theorem dX11_linkAt_26 : decode cX11_linkAt 26 = .ok (.imul, 1) := by decide +kernel
theorem dX11_linkAt_27 : decode cX11_linkAt 27 = .ok (.iadd, 1) := by decide +kernel
theorem dX11_linkAt_28 : decode cX11_linkAt 28 = .ok (.iload_n 2, 1) := by decide +kernel
theorem dX11_linkAt_29 : decode cX11_linkAt 29 = .ok (.iadd, 1) := by decide +kernel
theorem dX11_linkAt_30 : decode cX11_linkAt 30 = .ok (.ireturn, 1) := by decide +kernel
theorem dX11_changes_0 : decode cX11_changes 0 = .ok (.aload_n 0, 1) := by decide +kernel
theorem dX11_changes_1 : decode cX11_changes 1 = .ok (.getfield 17, 3) := by decide +kernel
theorem dX11_changes_4 : decode cX11_changes 4 = .ok (.iload_n 1, 1) := by decide +kernel
theorem dX11_changes_5 : decode cX11_changes 5 = .ok (.iaload, 1) := by decide +kernel
theorem dX11_changes_6 : decode cX11_changes 6 = .ok (.i2l, 1) := by decide +kernel
theorem dX11_changes_7 : decode cX11_changes 7 = .ok (.lload_n 2, 1) := by decide +kernel
theorem dX11_changes_8 : decode cX11_changes 8 = .ok (.ladd, 1) := by decide +kernel
theorem dX11_changes_9 : decode cX11_changes 9 = .ok (.lstore 4, 2) := by decide +kernel
theorem dX11_changes_11 : decode cX11_changes 11 = .ok (.aload_n 0, 1) := by decide +kernel
theorem dX11_changes_12 : decode cX11_changes 12 = .ok (.getfield 17, 3) := by decide +kernel
theorem dX11_changes_15 : decode cX11_changes 15 = .ok (.iload_n 1, 1) := by decide +kernel
theorem dX11_changes_16 : decode cX11_changes 16 = .ok (.lconst 0, 1) := by decide +kernel
theorem dX11_changes_17 : decode cX11_changes 17 = .ok (.ldc2_w 253, 3) := by decide +kernel
theorem dX11_changes_20 : decode cX11_changes 20 = .ok (.lload 4, 2) := by decide +kernel
theorem dX11_changes_22 : decode cX11_changes 22 = .ok (.invokestatic 264, 3) := by decide +kernel
theorem dX11_changes_25 : decode cX11_changes 25 = .ok (.invokestatic 267, 3) := by decide +kernel
theorem dX11_changes_28 : decode cX11_changes 28 = .ok (.l2i, 1) := by decide +kernel
theorem dX11_changes_29 : decode cX11_changes 29 = .ok (.iastore, 1) := by decide +kernel
theorem dX11_changes_30 : decode cX11_changes 30 = .ok (.return_, 1) := by decide +kernel
theorem dX11_grows_0 : decode cX11_grows 0 = .ok (.iload_n 1, 1) := by decide +kernel
theorem dX11_grows_1 : decode cX11_grows 1 = .ok (.iload_n 2, 1) := by decide +kernel
theorem dX11_grows_2 : decode cX11_grows 2 = .ok (.iload_n 3, 1) := by decide +kernel
theorem dX11_grows_3 : decode cX11_grows 3 = .ok (.invokestatic 270, 3) := by decide +kernel
theorem dX11_grows_6 : decode cX11_grows 6 = .ok (.istore 5, 2) := by decide +kernel
theorem dX11_grows_8 : decode cX11_grows 8 = .ok (.aload_n 0, 1) := by decide +kernel
theorem dX11_grows_9 : decode cX11_grows 9 = .ok (.iload 5, 2) := by decide +kernel
theorem dX11_grows_11 : decode cX11_grows 11 = .ok (.aload_n 0, 1) := by decide +kernel
theorem dX11_grows_12 : decode cX11_grows 12 = .ok (.iload_n 1, 1) := by decide +kernel
theorem dX11_grows_13 : decode cX11_grows 13 = .ok (.aload_n 0, 1) := by decide +kernel
theorem dX11_grows_14 : decode cX11_grows 14 = .ok (.getfield 17, 3) := by decide +kernel
theorem dX11_grows_17 : decode cX11_grows 17 = .ok (.iload 5, 2) := by decide +kernel
theorem dX11_grows_19 : decode cX11_grows 19 = .ok (.iaload, 1) := by decide +kernel
theorem dX11_grows_20 : decode cX11_grows 20 = .ok (.aload_n 0, 1) := by decide +kernel
theorem dX11_grows_21 : decode cX11_grows 21 = .ok (.getfield 13, 3) := by decide +kernel
theorem dX11_grows_24 : decode cX11_grows 24 = .ok (.bipush 10, 2) := by decide +kernel
theorem dX11_grows_26 : decode cX11_grows 26 = .ok (.iload 4, 2) := by decide +kernel
theorem dX11_grows_28 : decode cX11_grows 28 = .ok (.iadd, 1) := by decide +kernel
theorem dX11_grows_29 : decode cX11_grows 29 = .ok (.iaload, 1) := by decide +kernel
theorem dX11_grows_30 : decode cX11_grows 30 = .ok (.invokevirtual 261, 3) := by decide +kernel
theorem dX11_grows_33 : decode cX11_grows 33 = .ok (.invokevirtual 274, 3) := by decide +kernel
theorem dX11_grows_36 : decode cX11_grows 36 = .ok (.return_, 1) := by decide +kernel
theorem dX11_reads_0 : decode cX11_reads 0 = .ok (.iconst 0, 1) := by decide +kernel
theorem dX11_reads_1 : decode cX11_reads 1 = .ok (.istore_n 2, 1) := by decide +kernel
theorem dX11_reads_2 : decode cX11_reads 2 = .ok (.iload_n 2, 1) := by decide +kernel
theorem dX11_reads_3 : decode cX11_reads 3 = .ok (.aload_n 0, 1) := by decide +kernel
theorem dX11_reads_4 : decode cX11_reads 4 = .ok (.iload_n 1, 1) := by decide +kernel
theorem dX11_reads_5 : decode cX11_reads 5 = .ok (.invokevirtual 278, 3) := by decide +kernel
theorem dX11_reads_8 : decode cX11_reads 8 = .ok (.if_icmp .ge 156, 3) := by decide +kernel
theorem dX11_reads_11 : decode cX11_reads 11 = .ok (.aload_n 0, 1) := by decide +kernel
theorem dX11_reads_12 : decode cX11_reads 12 = .ok (.iload_n 1, 1) := by decide +kernel
theorem dX11_reads_13 : decode cX11_reads 13 = .ok (.iload_n 2, 1) := by decide +kernel
theorem dX11_reads_14 : decode cX11_reads 14 = .ok (.invokevirtual 281, 3) := by decide +kernel
theorem dX11_reads_17 : decode cX11_reads 17 = .ok (.istore_n 3, 1) := by decide +kernel
theorem dX11_reads_18 : decode cX11_reads 18 = .ok (.aload_n 0, 1) := by decide +kernel
theorem dX11_reads_19 : decode cX11_reads 19 = .ok (.iconst 3, 1) := by decide +kernel
theorem dX11_reads_20 : decode cX11_reads 20 = .ok (.iload_n 3, 1) := by decide +kernel
theorem dX11_reads_21 : decode cX11_reads 21 = .ok (.iload_n 2, 1) := by decide +kernel
theorem dX11_reads_22 : decode cX11_reads 22 = .ok (.iload_n 3, 1) := by decide +kernel
theorem dX11_reads_23 : decode cX11_reads 23 = .ok (.invokevirtual 284, 3) := by decide +kernel
theorem dX11_reads_26 : decode cX11_reads 26 = .ok (.iload_n 2, 1) := by decide +kernel
theorem dX11_reads_27 : decode cX11_reads 27 = .ok (.ifCond .ne 6, 3) := by decide +kernel
theorem dX11_reads_30 : decode cX11_reads 30 = .ok (.goto 128, 3) := by decide +kernel
theorem dX11_reads_33 : decode cX11_reads 33 = .ok (.aload_n 0, 1) := by decide +kernel
theorem dX11_reads_34 : decode cX11_reads 34 = .ok (.iload_n 1, 1) := by decide +kernel
theorem dX11_reads_35 : decode cX11_reads 35 = .ok (.iload_n 2, 1) := by decide +kernel
theorem dX11_reads_36 : decode cX11_reads 36 = .ok (.iconst 1, 1) := by decide +kernel
theorem dX11_reads_37 : decode cX11_reads 37 = .ok (.isub, 1) := by decide +kernel
theorem dX11_reads_38 : decode cX11_reads 38 = .ok (.invokevirtual 281, 3) := by decide +kernel
theorem dX11_reads_41 : decode cX11_reads 41 = .ok (.istore 4, 2) := by decide +kernel
theorem dX11_reads_43 : decode cX11_reads 43 = .ok (.aload_n 0, 1) := by decide +kernel
theorem dX11_reads_44 : decode cX11_reads 44 = .ok (.iconst 0, 1) := by decide +kernel
theorem dX11_reads_45 : decode cX11_reads 45 = .ok (.iload 4, 2) := by decide +kernel
theorem dX11_reads_47 : decode cX11_reads 47 = .ok (.iload_n 3, 1) := by decide +kernel
theorem dX11_reads_48 : decode cX11_reads 48 = .ok (.iload_n 3, 1) := by decide +kernel
theorem dX11_reads_49 : decode cX11_reads 49 = .ok (.invokevirtual 284, 3) := by decide +kernel
theorem dX11_reads_52 : decode cX11_reads 52 = .ok (.aload_n 0, 1) := by decide +kernel
theorem dX11_reads_53 : decode cX11_reads 53 = .ok (.iconst 1, 1) := by decide +kernel
theorem dX11_reads_54 : decode cX11_reads 54 = .ok (.iload_n 3, 1) := by decide +kernel
theorem dX11_reads_55 : decode cX11_reads 55 = .ok (.iload 4, 2) := by decide +kernel
theorem dX11_reads_57 : decode cX11_reads 57 = .ok (.iload 4, 2) := by decide +kernel
theorem dX11_reads_59 : decode cX11_reads 59 = .ok (.invokevirtual 284, 3) := by decide +kernel
theorem dX11_reads_62 : decode cX11_reads 62 = .ok (.iload_n 2, 1) := by decide +kernel
theorem dX11_reads_63 : decode cX11_reads 63 = .ok (.iconst 1, 1) := by decide +kernel
theorem dX11_reads_64 : decode cX11_reads 64 = .ok (.if_icmp .le 18, 3) := by decide +kernel
theorem dX11_reads_67 : decode cX11_reads 67 = .ok (.aload_n 0, 1) := by decide +kernel
theorem dX11_reads_68 : decode cX11_reads 68 = .ok (.iconst 2, 1) := by decide +kernel
theorem dX11_reads_69 : decode cX11_reads 69 = .ok (.aload_n 0, 1) := by decide +kernel
theorem dX11_reads_70 : decode cX11_reads 70 = .ok (.iload_n 1, 1) := by decide +kernel
theorem dX11_reads_71 : decode cX11_reads 71 = .ok (.iload_n 2, 1) := by decide +kernel
theorem dX11_reads_72 : decode cX11_reads 72 = .ok (.iconst 2, 1) := by decide +kernel
theorem dX11_reads_73 : decode cX11_reads 73 = .ok (.isub, 1) := by decide +kernel
theorem dX11_reads_74 : decode cX11_reads 74 = .ok (.invokevirtual 281, 3) := by decide +kernel
theorem dX11_reads_77 : decode cX11_reads 77 = .ok (.iload_n 3, 1) := by decide +kernel
theorem dX11_reads_78 : decode cX11_reads 78 = .ok (.iload_n 3, 1) := by decide +kernel
theorem dX11_reads_79 : decode cX11_reads 79 = .ok (.invokevirtual 284, 3) := by decide +kernel
theorem dX11_reads_82 : decode cX11_reads 82 = .ok (.iconst 0, 1) := by decide +kernel
theorem dX11_reads_83 : decode cX11_reads 83 = .ok (.istore 5, 2) := by decide +kernel
theorem dX11_reads_85 : decode cX11_reads 85 = .ok (.iload 5, 2) := by decide +kernel
theorem dX11_reads_87 : decode cX11_reads 87 = .ok (.aload_n 0, 1) := by decide +kernel
theorem dX11_reads_88 : decode cX11_reads 88 = .ok (.getfield 13, 3) := by decide +kernel
theorem dX11_reads_91 : decode cX11_reads 91 = .ok (.iconst 1, 1) := by decide +kernel
theorem dX11_reads_92 : decode cX11_reads 92 = .ok (.iaload, 1) := by decide +kernel
theorem dX11_reads_93 : decode cX11_reads 93 = .ok (.if_icmp .ge 65, 3) := by decide +kernel
theorem dX11_reads_96 : decode cX11_reads 96 = .ok (.iconst 0, 1) := by decide +kernel
theorem dX11_reads_97 : decode cX11_reads 97 = .ok (.iload 4, 2) := by decide +kernel
theorem dX11_reads_99 : decode cX11_reads 99 = .ok (.iload 5, 2) := by decide +kernel
theorem dX11_reads_101 : decode cX11_reads 101 = .ok (.invokestatic 270, 3) := by decide +kernel
theorem dX11_reads_104 : decode cX11_reads 104 = .ok (.istore 6, 2) := by decide +kernel
theorem dX11_reads_106 : decode cX11_reads 106 = .ok (.iload 5, 2) := by decide +kernel
theorem dX11_reads_108 : decode cX11_reads 108 = .ok (.iload_n 3, 1) := by decide +kernel
theorem dX11_reads_109 : decode cX11_reads 109 = .ok (.if_icmp .eq 43, 3) := by decide +kernel
theorem dX11_reads_112 : decode cX11_reads 112 = .ok (.aload_n 0, 1) := by decide +kernel
theorem dX11_reads_113 : decode cX11_reads 113 = .ok (.getfield 17, 3) := by decide +kernel
theorem dX11_reads_116 : decode cX11_reads 116 = .ok (.iload 6, 2) := by decide +kernel
theorem dX11_reads_118 : decode cX11_reads 118 = .ok (.iaload, 1) := by decide +kernel
theorem dX11_reads_119 : decode cX11_reads 119 = .ok (.ifCond .le 33, 3) := by decide +kernel
theorem dX11_reads_122 : decode cX11_reads 122 = .ok (.aload_n 0, 1) := by decide +kernel
theorem dX11_reads_123 : decode cX11_reads 123 = .ok (.iload 6, 2) := by decide +kernel
theorem dX11_reads_125 : decode cX11_reads 125 = .ok (.aload_n 0, 1) := by decide +kernel
theorem dX11_reads_126 : decode cX11_reads 126 = .ok (.bipush 8, 2) := by decide +kernel
theorem dX11_reads_128 : decode cX11_reads 128 = .ok (.aload_n 0, 1) := by decide +kernel
theorem dX11_reads_129 : decode cX11_reads 129 = .ok (.getfield 17, 3) := by decide +kernel
theorem dX11_reads_132 : decode cX11_reads 132 = .ok (.iload 6, 2) := by decide +kernel
theorem dX11_reads_134 : decode cX11_reads 134 = .ok (.iaload, 1) := by decide +kernel
theorem dX11_reads_135 : decode cX11_reads 135 = .ok (.aload_n 0, 1) := by decide +kernel
theorem dX11_reads_136 : decode cX11_reads 136 = .ok (.getfield 13, 3) := by decide +kernel
theorem dX11_reads_139 : decode cX11_reads 139 = .ok (.bipush 10, 2) := by decide +kernel
theorem dX11_reads_141 : decode cX11_reads 141 = .ok (.iload 5, 2) := by decide +kernel
theorem dX11_reads_143 : decode cX11_reads 143 = .ok (.iadd, 1) := by decide +kernel
theorem dX11_reads_144 : decode cX11_reads 144 = .ok (.iaload, 1) := by decide +kernel
theorem dX11_reads_145 : decode cX11_reads 145 = .ok (.invokevirtual 261, 3) := by decide +kernel
theorem dX11_reads_148 : decode cX11_reads 148 = .ok (.lneg, 1) := by decide +kernel
theorem dX11_reads_149 : decode cX11_reads 149 = .ok (.invokevirtual 274, 3) := by decide +kernel
theorem dX11_reads_152 : decode cX11_reads 152 = .ok (.iinc 5 1, 3) := by decide +kernel
theorem dX11_reads_155 : decode cX11_reads 155 = .ok (.goto (-70), 3) := by decide +kernel
theorem dX11_reads_158 : decode cX11_reads 158 = .ok (.iinc 2 1, 3) := by decide +kernel
theorem dX11_reads_161 : decode cX11_reads 161 = .ok (.goto (-159), 3) := by decide +kernel
theorem dX11_reads_164 : decode cX11_reads 164 = .ok (.aload_n 0, 1) := by decide +kernel
theorem dX11_reads_165 : decode cX11_reads 165 = .ok (.getfield 17, 3) := by decide +kernel
theorem dX11_reads_168 : decode cX11_reads 168 = .ok (.sipush 2017, 3) := by decide +kernel
theorem dX11_reads_171 : decode cX11_reads 171 = .ok (.dup2, 1) := by decide +kernel
theorem dX11_reads_172 : decode cX11_reads 172 = .ok (.iaload, 1) := by decide +kernel
theorem dX11_reads_173 : decode cX11_reads 173 = .ok (.iconst 1, 1) := by decide +kernel
theorem dX11_reads_174 : decode cX11_reads 174 = .ok (.iadd, 1) := by decide +kernel
theorem dX11_reads_175 : decode cX11_reads 175 = .ok (.iastore, 1) := by decide +kernel
theorem dX11_reads_176 : decode cX11_reads 176 = .ok (.return_, 1) := by decide +kernel
theorem dX11_hourGoes_0 : decode cX11_hourGoes 0 = .ok (.aload_n 0, 1) := by decide +kernel
theorem dX11_hourGoes_1 : decode cX11_hourGoes 1 = .ok (.getfield 13, 3) := by decide +kernel
theorem dX11_hourGoes_4 : decode cX11_hourGoes 4 = .ok (.iconst 1, 1) := by decide +kernel
theorem dX11_hourGoes_5 : decode cX11_hourGoes 5 = .ok (.iaload, 1) := by decide +kernel
theorem dX11_hourGoes_6 : decode cX11_hourGoes 6 = .ok (.istore_n 1, 1) := by decide +kernel
theorem dX11_hourGoes_7 : decode cX11_hourGoes 7 = .ok (.iconst 0, 1) := by decide +kernel
theorem dX11_hourGoes_8 : decode cX11_hourGoes 8 = .ok (.istore_n 2, 1) := by decide +kernel
theorem dX11_hourGoes_9 : decode cX11_hourGoes 9 = .ok (.iload_n 2, 1) := by decide +kernel
theorem dX11_hourGoes_10 : decode cX11_hourGoes 10 = .ok (.iconst 4, 1) := by decide +kernel
theorem dX11_hourGoes_11 : decode cX11_hourGoes 11 = .ok (.if_icmp .ge 106, 3) := by decide +kernel
theorem dX11_hourGoes_14 : decode cX11_hourGoes 14 = .ok (.iconst 0, 1) := by decide +kernel
theorem dX11_hourGoes_15 : decode cX11_hourGoes 15 = .ok (.istore_n 3, 1) := by decide +kernel
theorem dX11_hourGoes_16 : decode cX11_hourGoes 16 = .ok (.iload_n 3, 1) := by decide +kernel
theorem dX11_hourGoes_17 : decode cX11_hourGoes 17 = .ok (.iload_n 1, 1) := by decide +kernel
theorem dX11_hourGoes_18 : decode cX11_hourGoes 18 = .ok (.if_icmp .ge 93, 3) := by decide +kernel
theorem dX11_hourGoes_21 : decode cX11_hourGoes 21 = .ok (.iconst 0, 1) := by decide +kernel
theorem dX11_hourGoes_22 : decode cX11_hourGoes 22 = .ok (.istore 4, 2) := by decide +kernel
theorem dX11_hourGoes_24 : decode cX11_hourGoes 24 = .ok (.iload 4, 2) := by decide +kernel
theorem dX11_hourGoes_26 : decode cX11_hourGoes 26 = .ok (.iload_n 2, 1) := by decide +kernel
theorem dX11_hourGoes_27 : decode cX11_hourGoes 27 = .ok (.iconst 3, 1) := by decide +kernel
theorem dX11_hourGoes_28 : decode cX11_hourGoes 28 = .ok (.if_icmp .ne 8, 3) := by decide +kernel
theorem dX11_hourGoes_31 : decode cX11_hourGoes 31 = .ok (.bipush 12, 2) := by decide +kernel
theorem dX11_hourGoes_33 : decode cX11_hourGoes 33 = .ok (.goto 4, 3) := by decide +kernel
theorem dX11_hourGoes_36 : decode cX11_hourGoes 36 = .ok (.iload_n 1, 1) := by decide +kernel
theorem dX11_hourGoes_37 : decode cX11_hourGoes 37 = .ok (.if_icmp .ge 68, 3) := by decide +kernel
theorem dX11_hourGoes_40 : decode cX11_hourGoes 40 = .ok (.iload_n 2, 1) := by decide +kernel
theorem dX11_hourGoes_41 : decode cX11_hourGoes 41 = .ok (.iload_n 3, 1) := by decide +kernel
theorem dX11_hourGoes_42 : decode cX11_hourGoes 42 = .ok (.iload 4, 2) := by decide +kernel
theorem dX11_hourGoes_44 : decode cX11_hourGoes 44 = .ok (.invokestatic 270, 3) := by decide +kernel
theorem dX11_hourGoes_47 : decode cX11_hourGoes 47 = .ok (.istore 5, 2) := by decide +kernel
theorem dX11_hourGoes_49 : decode cX11_hourGoes 49 = .ok (.aload_n 0, 1) := by decide +kernel
theorem dX11_hourGoes_50 : decode cX11_hourGoes 50 = .ok (.getfield 17, 3) := by decide +kernel
theorem dX11_hourGoes_53 : decode cX11_hourGoes 53 = .ok (.iload 5, 2) := by decide +kernel
theorem dX11_hourGoes_55 : decode cX11_hourGoes 55 = .ok (.iaload, 1) := by decide +kernel
theorem dX11_hourGoes_56 : decode cX11_hourGoes 56 = .ok (.ifCond .le 43, 3) := by decide +kernel
theorem dX11_hourGoes_59 : decode cX11_hourGoes 59 = .ok (.aload_n 0, 1) := by decide +kernel
theorem dX11_hourGoes_60 : decode cX11_hourGoes 60 = .ok (.iload 5, 2) := by decide +kernel
theorem dX11_hourGoes_62 : decode cX11_hourGoes 62 = .ok (.aload_n 0, 1) := by decide +kernel
theorem dX11_hourGoes_63 : decode cX11_hourGoes 63 = .ok (.iconst 4, 1) := by decide +kernel
theorem dX11_hourGoes_64 : decode cX11_hourGoes 64 = .ok (.iload_n 2, 1) := by decide +kernel
theorem dX11_hourGoes_65 : decode cX11_hourGoes 65 = .ok (.iadd, 1) := by decide +kernel
theorem dX11_hourGoes_66 : decode cX11_hourGoes 66 = .ok (.aload_n 0, 1) := by decide +kernel
theorem dX11_hourGoes_67 : decode cX11_hourGoes 67 = .ok (.getfield 17, 3) := by decide +kernel
theorem dX11_hourGoes_70 : decode cX11_hourGoes 70 = .ok (.iload 5, 2) := by decide +kernel
theorem dX11_hourGoes_72 : decode cX11_hourGoes 72 = .ok (.iaload, 1) := by decide +kernel
theorem dX11_hourGoes_73 : decode cX11_hourGoes 73 = .ok (.aload_n 0, 1) := by decide +kernel
theorem dX11_hourGoes_74 : decode cX11_hourGoes 74 = .ok (.getfield 13, 3) := by decide +kernel
theorem dX11_hourGoes_77 : decode cX11_hourGoes 77 = .ok (.bipush 10, 2) := by decide +kernel
theorem dX11_hourGoes_79 : decode cX11_hourGoes 79 = .ok (.iload_n 2, 1) := by decide +kernel
theorem dX11_hourGoes_80 : decode cX11_hourGoes 80 = .ok (.iconst 3, 1) := by decide +kernel
theorem dX11_hourGoes_81 : decode cX11_hourGoes 81 = .ok (.if_icmp .ne 7, 3) := by decide +kernel
theorem dX11_hourGoes_84 : decode cX11_hourGoes 84 = .ok (.iload_n 3, 1) := by decide +kernel
theorem dX11_hourGoes_85 : decode cX11_hourGoes 85 = .ok (.goto 5, 3) := by decide +kernel
theorem dX11_hourGoes_88 : decode cX11_hourGoes 88 = .ok (.iload 4, 2) := by decide +kernel
theorem dX11_hourGoes_90 : decode cX11_hourGoes 90 = .ok (.iadd, 1) := by decide +kernel
theorem dX11_hourGoes_91 : decode cX11_hourGoes 91 = .ok (.iaload, 1) := by decide +kernel
theorem dX11_hourGoes_92 : decode cX11_hourGoes 92 = .ok (.invokevirtual 261, 3) := by decide +kernel
theorem dX11_hourGoes_95 : decode cX11_hourGoes 95 = .ok (.lneg, 1) := by decide +kernel
theorem dX11_hourGoes_96 : decode cX11_hourGoes 96 = .ok (.invokevirtual 274, 3) := by decide +kernel
theorem dX11_hourGoes_99 : decode cX11_hourGoes 99 = .ok (.iinc 4 1, 3) := by decide +kernel
theorem dX11_hourGoes_102 : decode cX11_hourGoes 102 = .ok (.goto (-78), 3) := by decide +kernel
theorem dX11_hourGoes_105 : decode cX11_hourGoes 105 = .ok (.iinc 3 1, 3) := by decide +kernel
theorem dX11_hourGoes_108 : decode cX11_hourGoes 108 = .ok (.goto (-92), 3) := by decide +kernel
theorem dX11_hourGoes_111 : decode cX11_hourGoes 111 = .ok (.iinc 2 1, 3) := by decide +kernel
theorem dX11_hourGoes_114 : decode cX11_hourGoes 114 = .ok (.goto (-105), 3) := by decide +kernel
theorem dX11_hourGoes_117 : decode cX11_hourGoes 117 = .ok (.aload_n 0, 1) := by decide +kernel
theorem dX11_hourGoes_118 : decode cX11_hourGoes 118 = .ok (.getfield 17, 3) := by decide +kernel
theorem dX11_hourGoes_121 : decode cX11_hourGoes 121 = .ok (.sipush 2016, 3) := by decide +kernel
theorem dX11_hourGoes_124 : decode cX11_hourGoes 124 = .ok (.dup2, 1) := by decide +kernel
theorem dX11_hourGoes_125 : decode cX11_hourGoes 125 = .ok (.iaload, 1) := by decide +kernel
theorem dX11_hourGoes_126 : decode cX11_hourGoes 126 = .ok (.iconst 1, 1) := by decide +kernel
theorem dX11_hourGoes_127 : decode cX11_hourGoes 127 = .ok (.iadd, 1) := by decide +kernel
theorem dX11_hourGoes_128 : decode cX11_hourGoes 128 = .ok (.iastore, 1) := by decide +kernel
theorem dX11_hourGoes_129 : decode cX11_hourGoes 129 = .ok (.aload_n 0, 1) := by decide +kernel
theorem dX11_hourGoes_130 : decode cX11_hourGoes 130 = .ok (.getfield 17, 3) := by decide +kernel
theorem dX11_hourGoes_133 : decode cX11_hourGoes 133 = .ok (.sipush 2017, 3) := by decide +kernel
theorem dX11_hourGoes_136 : decode cX11_hourGoes 136 = .ok (.iconst 0, 1) := by decide +kernel
theorem dX11_hourGoes_137 : decode cX11_hourGoes 137 = .ok (.iastore, 1) := by decide +kernel
theorem dX11_hourGoes_138 : decode cX11_hourGoes 138 = .ok (.return_, 1) := by decide +kernel
theorem dX11_hoursGo_0 : decode cX11_hoursGo 0 = .ok (.iconst 0, 1) := by decide +kernel
theorem dX11_hoursGo_1 : decode cX11_hoursGo 1 = .ok (.istore_n 2, 1) := by decide +kernel
theorem dX11_hoursGo_2 : decode cX11_hoursGo 2 = .ok (.iload_n 2, 1) := by decide +kernel
theorem dX11_hoursGo_3 : decode cX11_hoursGo 3 = .ok (.iload_n 1, 1) := by decide +kernel
theorem dX11_hoursGo_4 : decode cX11_hoursGo 4 = .ok (.if_icmp .ge 13, 3) := by decide +kernel
theorem dX11_hoursGo_7 : decode cX11_hoursGo 7 = .ok (.aload_n 0, 1) := by decide +kernel
theorem dX11_hoursGo_8 : decode cX11_hoursGo 8 = .ok (.invokevirtual 288, 3) := by decide +kernel
theorem dX11_hoursGo_11 : decode cX11_hoursGo 11 = .ok (.iinc 2 1, 3) := by decide +kernel
theorem dX11_hoursGo_14 : decode cX11_hoursGo 14 = .ok (.goto (-12), 3) := by decide +kernel
theorem dX11_hoursGo_17 : decode cX11_hoursGo 17 = .ok (.return_, 1) := by decide +kernel
theorem dX11_supportOf_0 : decode cX11_supportOf 0 = .ok (.aload_n 0, 1) := by decide +kernel
theorem dX11_supportOf_1 : decode cX11_supportOf 1 = .ok (.iload_n 1, 1) := by decide +kernel
theorem dX11_supportOf_2 : decode cX11_supportOf 2 = .ok (.iload_n 2, 1) := by decide +kernel
theorem dX11_supportOf_3 : decode cX11_supportOf 3 = .ok (.invokevirtual 281, 3) := by decide +kernel
theorem dX11_supportOf_6 : decode cX11_supportOf 6 = .ok (.istore_n 3, 1) := by decide +kernel
theorem dX11_supportOf_7 : decode cX11_supportOf 7 = .ok (.aload_n 0, 1) := by decide +kernel
theorem dX11_supportOf_8 : decode cX11_supportOf 8 = .ok (.getfield 13, 3) := by decide +kernel
theorem dX11_supportOf_11 : decode cX11_supportOf 11 = .ok (.bipush 8, 2) := by decide +kernel
theorem dX11_supportOf_13 : decode cX11_supportOf 13 = .ok (.iaload, 1) := by decide +kernel
theorem dX11_supportOf_14 : decode cX11_supportOf 14 = .ok (.aload_n 0, 1) := by decide +kernel
theorem dX11_supportOf_15 : decode cX11_supportOf 15 = .ok (.getfield 17, 3) := by decide +kernel
theorem dX11_supportOf_18 : decode cX11_supportOf 18 = .ok (.iconst 3, 1) := by decide +kernel
theorem dX11_supportOf_19 : decode cX11_supportOf 19 = .ok (.iload_n 3, 1) := by decide +kernel
theorem dX11_supportOf_20 : decode cX11_supportOf 20 = .ok (.iload_n 2, 1) := by decide +kernel
theorem dX11_supportOf_21 : decode cX11_supportOf 21 = .ok (.invokestatic 270, 3) := by decide +kernel
theorem dX11_supportOf_24 : decode cX11_supportOf 24 = .ok (.iaload, 1) := by decide +kernel
theorem dX11_supportOf_25 : decode cX11_supportOf 25 = .ok (.imul, 1) := by decide +kernel
theorem dX11_supportOf_26 : decode cX11_supportOf 26 = .ok (.istore 4, 2) := by decide +kernel
theorem dX11_supportOf_28 : decode cX11_supportOf 28 = .ok (.iload_n 2, 1) := by decide +kernel
theorem dX11_supportOf_29 : decode cX11_supportOf 29 = .ok (.ifCond .le 56, 3) := by decide +kernel
theorem dX11_supportOf_32 : decode cX11_supportOf 32 = .ok (.aload_n 0, 1) := by decide +kernel
theorem dX11_supportOf_33 : decode cX11_supportOf 33 = .ok (.iload_n 1, 1) := by decide +kernel
theorem dX11_supportOf_34 : decode cX11_supportOf 34 = .ok (.iload_n 2, 1) := by decide +kernel
theorem dX11_supportOf_35 : decode cX11_supportOf 35 = .ok (.iconst 1, 1) := by decide +kernel
theorem dX11_supportOf_36 : decode cX11_supportOf 36 = .ok (.isub, 1) := by decide +kernel
theorem dX11_supportOf_37 : decode cX11_supportOf 37 = .ok (.invokevirtual 281, 3) := by decide +kernel
theorem dX11_supportOf_40 : decode cX11_supportOf 40 = .ok (.istore 5, 2) := by decide +kernel
theorem dX11_supportOf_42 : decode cX11_supportOf 42 = .ok (.iconst 0, 1) := by decide +kernel
theorem dX11_supportOf_43 : decode cX11_supportOf 43 = .ok (.istore 6, 2) := by decide +kernel
theorem dX11_supportOf_45 : decode cX11_supportOf 45 = .ok (.iload 6, 2) := by decide +kernel
theorem dX11_supportOf_47 : decode cX11_supportOf 47 = .ok (.iconst 3, 1) := by decide +kernel
theorem dX11_supportOf_48 : decode cX11_supportOf 48 = .ok (.if_icmp .ge 37, 3) := by decide +kernel
theorem dX11_supportOf_51 : decode cX11_supportOf 51 = .ok (.iload 4, 2) := by decide +kernel
theorem dX11_supportOf_53 : decode cX11_supportOf 53 = .ok (.aload_n 0, 1) := by decide +kernel
theorem dX11_supportOf_54 : decode cX11_supportOf 54 = .ok (.getfield 13, 3) := by decide +kernel
theorem dX11_supportOf_57 : decode cX11_supportOf 57 = .ok (.iconst 5, 1) := by decide +kernel
theorem dX11_supportOf_58 : decode cX11_supportOf 58 = .ok (.iload 6, 2) := by decide +kernel
theorem dX11_supportOf_60 : decode cX11_supportOf 60 = .ok (.iadd, 1) := by decide +kernel
theorem dX11_supportOf_61 : decode cX11_supportOf 61 = .ok (.iaload, 1) := by decide +kernel
theorem dX11_supportOf_62 : decode cX11_supportOf 62 = .ok (.aload_n 0, 1) := by decide +kernel
theorem dX11_supportOf_63 : decode cX11_supportOf 63 = .ok (.getfield 17, 3) := by decide +kernel
theorem dX11_supportOf_66 : decode cX11_supportOf 66 = .ok (.iload 6, 2) := by decide +kernel
theorem dX11_supportOf_68 : decode cX11_supportOf 68 = .ok (.iload 5, 2) := by decide +kernel
theorem dX11_supportOf_70 : decode cX11_supportOf 70 = .ok (.iload_n 3, 1) := by decide +kernel
theorem dX11_supportOf_71 : decode cX11_supportOf 71 = .ok (.invokestatic 270, 3) := by decide +kernel
theorem dX11_supportOf_74 : decode cX11_supportOf 74 = .ok (.iaload, 1) := by decide +kernel
theorem dX11_supportOf_75 : decode cX11_supportOf 75 = .ok (.imul, 1) := by decide +kernel
theorem dX11_supportOf_76 : decode cX11_supportOf 76 = .ok (.iadd, 1) := by decide +kernel
theorem dX11_supportOf_77 : decode cX11_supportOf 77 = .ok (.istore 4, 2) := by decide +kernel
theorem dX11_supportOf_79 : decode cX11_supportOf 79 = .ok (.iinc 6 1, 3) := by decide +kernel
theorem dX11_supportOf_82 : decode cX11_supportOf 82 = .ok (.goto (-37), 3) := by decide +kernel
theorem dX11_supportOf_85 : decode cX11_supportOf 85 = .ok (.iload 4, 2) := by decide +kernel
theorem dX11_supportOf_87 : decode cX11_supportOf 87 = .ok (.bipush 100, 2) := by decide +kernel
theorem dX11_supportOf_89 : decode cX11_supportOf 89 = .ok (.idiv, 1) := by decide +kernel
theorem dX11_supportOf_90 : decode cX11_supportOf 90 = .ok (.ireturn, 1) := by decide +kernel
theorem dX11_slipsOf_0 : decode cX11_slipsOf 0 = .ok (.iconst 0, 1) := by decide +kernel
theorem dX11_slipsOf_1 : decode cX11_slipsOf 1 = .ok (.istore_n 2, 1) := by decide +kernel
theorem dX11_slipsOf_2 : decode cX11_slipsOf 2 = .ok (.iconst 0, 1) := by decide +kernel
theorem dX11_slipsOf_3 : decode cX11_slipsOf 3 = .ok (.istore_n 3, 1) := by decide +kernel
theorem dX11_slipsOf_4 : decode cX11_slipsOf 4 = .ok (.iload_n 3, 1) := by decide +kernel
theorem dX11_slipsOf_5 : decode cX11_slipsOf 5 = .ok (.aload_n 0, 1) := by decide +kernel
theorem dX11_slipsOf_6 : decode cX11_slipsOf 6 = .ok (.iload_n 1, 1) := by decide +kernel
theorem dX11_slipsOf_7 : decode cX11_slipsOf 7 = .ok (.invokevirtual 278, 3) := by decide +kernel
theorem dX11_slipsOf_10 : decode cX11_slipsOf 10 = .ok (.if_icmp .ge 34, 3) := by decide +kernel
theorem dX11_slipsOf_13 : decode cX11_slipsOf 13 = .ok (.iload_n 2, 1) := by decide +kernel
theorem dX11_slipsOf_14 : decode cX11_slipsOf 14 = .ok (.aload_n 0, 1) := by decide +kernel
theorem dX11_slipsOf_15 : decode cX11_slipsOf 15 = .ok (.iload_n 1, 1) := by decide +kernel
theorem dX11_slipsOf_16 : decode cX11_slipsOf 16 = .ok (.iload_n 3, 1) := by decide +kernel
theorem dX11_slipsOf_17 : decode cX11_slipsOf 17 = .ok (.invokevirtual 291, 3) := by decide +kernel
theorem dX11_slipsOf_20 : decode cX11_slipsOf 20 = .ok (.aload_n 0, 1) := by decide +kernel
theorem dX11_slipsOf_21 : decode cX11_slipsOf 21 = .ok (.getfield 13, 3) := by decide +kernel
theorem dX11_slipsOf_24 : decode cX11_slipsOf 24 = .ok (.iconst 4, 1) := by decide +kernel
theorem dX11_slipsOf_25 : decode cX11_slipsOf 25 = .ok (.iaload, 1) := by decide +kernel
theorem dX11_slipsOf_26 : decode cX11_slipsOf 26 = .ok (.if_icmp .ge 9, 3) := by decide +kernel
theorem dX11_slipsOf_29 : decode cX11_slipsOf 29 = .ok (.iconst 1, 1) := by decide +kernel
theorem dX11_slipsOf_30 : decode cX11_slipsOf 30 = .ok (.iload_n 3, 1) := by decide +kernel
theorem dX11_slipsOf_31 : decode cX11_slipsOf 31 = .ok (.ishl, 1) := by decide +kernel
theorem dX11_slipsOf_32 : decode cX11_slipsOf 32 = .ok (.goto 4, 3) := by decide +kernel
theorem dX11_slipsOf_35 : decode cX11_slipsOf 35 = .ok (.iconst 0, 1) := by decide +kernel
theorem dX11_slipsOf_36 : decode cX11_slipsOf 36 = .ok (.ior, 1) := by decide +kernel
theorem dX11_slipsOf_37 : decode cX11_slipsOf 37 = .ok (.istore_n 2, 1) := by decide +kernel
theorem dX11_slipsOf_38 : decode cX11_slipsOf 38 = .ok (.iinc 3 1, 3) := by decide +kernel
theorem dX11_slipsOf_41 : decode cX11_slipsOf 41 = .ok (.goto (-37), 3) := by decide +kernel
theorem dX11_slipsOf_44 : decode cX11_slipsOf 44 = .ok (.iload_n 2, 1) := by decide +kernel
theorem dX11_slipsOf_45 : decode cX11_slipsOf 45 = .ok (.ireturn, 1) := by decide +kernel
theorem dX11_learns_0 : decode cX11_learns 0 = .ok (.iconst 0, 1) := by decide +kernel
theorem dX11_learns_1 : decode cX11_learns 1 = .ok (.istore_n 2, 1) := by decide +kernel
theorem dX11_learns_2 : decode cX11_learns 2 = .ok (.iconst 1, 1) := by decide +kernel
theorem dX11_learns_3 : decode cX11_learns 3 = .ok (.istore_n 3, 1) := by decide +kernel
theorem dX11_learns_4 : decode cX11_learns 4 = .ok (.iload_n 3, 1) := by decide +kernel
theorem dX11_learns_5 : decode cX11_learns 5 = .ok (.bipush 40, 2) := by decide +kernel
theorem dX11_learns_7 : decode cX11_learns 7 = .ok (.if_icmp .gt 37, 3) := by decide +kernel
theorem dX11_learns_10 : decode cX11_learns 10 = .ok (.aload_n 0, 1) := by decide +kernel
theorem dX11_learns_11 : decode cX11_learns 11 = .ok (.iload_n 1, 1) := by decide +kernel
theorem dX11_learns_12 : decode cX11_learns 12 = .ok (.invokevirtual 294, 3) := by decide +kernel
theorem dX11_learns_15 : decode cX11_learns 15 = .ok (.aload_n 0, 1) := by decide +kernel
theorem dX11_learns_16 : decode cX11_learns 16 = .ok (.iload_n 1, 1) := by decide +kernel
theorem dX11_learns_17 : decode cX11_learns 17 = .ok (.invokevirtual 297, 3) := by decide +kernel
theorem dX11_learns_20 : decode cX11_learns 20 = .ok (.ifCond .ne 9, 3) := by decide +kernel
theorem dX11_learns_23 : decode cX11_learns 23 = .ok (.iload_n 2, 1) := by decide +kernel
theorem dX11_learns_24 : decode cX11_learns 24 = .ok (.iconst 1, 1) := by decide +kernel
theorem dX11_learns_25 : decode cX11_learns 25 = .ok (.iadd, 1) := by decide +kernel
theorem dX11_learns_26 : decode cX11_learns 26 = .ok (.goto 4, 3) := by decide +kernel
theorem dX11_learns_29 : decode cX11_learns 29 = .ok (.iconst 0, 1) := by decide +kernel
theorem dX11_learns_30 : decode cX11_learns 30 = .ok (.istore_n 2, 1) := by decide +kernel
theorem dX11_learns_31 : decode cX11_learns 31 = .ok (.iload_n 2, 1) := by decide +kernel
theorem dX11_learns_32 : decode cX11_learns 32 = .ok (.iconst 2, 1) := by decide +kernel
theorem dX11_learns_33 : decode cX11_learns 33 = .ok (.if_icmp .ne 5, 3) := by decide +kernel
theorem dX11_learns_36 : decode cX11_learns 36 = .ok (.iload_n 3, 1) := by decide +kernel
theorem dX11_learns_37 : decode cX11_learns 37 = .ok (.ireturn, 1) := by decide +kernel
theorem dX11_learns_38 : decode cX11_learns 38 = .ok (.iinc 3 1, 3) := by decide +kernel
theorem dX11_learns_41 : decode cX11_learns 41 = .ok (.goto (-37), 3) := by decide +kernel
theorem dX11_learns_44 : decode cX11_learns 44 = .ok (.iconst (-1), 1) := by decide +kernel
theorem dX11_learns_45 : decode cX11_learns 45 = .ok (.ireturn, 1) := by decide +kernel
theorem dX11_copy_0 : decode cX11_copy 0 = .ok (.iconst 0, 1) := by decide +kernel
theorem dX11_copy_1 : decode cX11_copy 1 = .ok (.istore_n 1, 1) := by decide +kernel
theorem dX11_copy_2 : decode cX11_copy 2 = .ok (.iload_n 1, 1) := by decide +kernel
theorem dX11_copy_3 : decode cX11_copy 3 = .ok (.sipush 2018, 3) := by decide +kernel
theorem dX11_copy_6 : decode cX11_copy 6 = .ok (.if_icmp .ge 30, 3) := by decide +kernel
theorem dX11_copy_9 : decode cX11_copy 9 = .ok (.aload_n 0, 1) := by decide +kernel
theorem dX11_copy_10 : decode cX11_copy 10 = .ok (.getfield 58, 3) := by decide +kernel
theorem dX11_copy_13 : decode cX11_copy 13 = .ok (.sipush 2018, 3) := by decide +kernel
theorem dX11_copy_16 : decode cX11_copy 16 = .ok (.aload_n 0, 1) := by decide +kernel
theorem dX11_copy_17 : decode cX11_copy 17 = .ok (.getfield 300, 3) := by decide +kernel
theorem dX11_copy_20 : decode cX11_copy 20 = .ok (.imul, 1) := by decide +kernel
theorem dX11_copy_21 : decode cX11_copy 21 = .ok (.iload_n 1, 1) := by decide +kernel
theorem dX11_copy_22 : decode cX11_copy 22 = .ok (.iadd, 1) := by decide +kernel
theorem dX11_copy_23 : decode cX11_copy 23 = .ok (.aload_n 0, 1) := by decide +kernel
theorem dX11_copy_24 : decode cX11_copy 24 = .ok (.getfield 17, 3) := by decide +kernel
theorem dX11_copy_27 : decode cX11_copy 27 = .ok (.iload_n 1, 1) := by decide +kernel
theorem dX11_copy_28 : decode cX11_copy 28 = .ok (.iaload, 1) := by decide +kernel
theorem dX11_copy_29 : decode cX11_copy 29 = .ok (.iastore, 1) := by decide +kernel
theorem dX11_copy_30 : decode cX11_copy 30 = .ok (.iinc 1 1, 3) := by decide +kernel
theorem dX11_copy_33 : decode cX11_copy 33 = .ok (.goto (-31), 3) := by decide +kernel
theorem dX11_copy_36 : decode cX11_copy 36 = .ok (.aload_n 0, 1) := by decide +kernel
theorem dX11_copy_37 : decode cX11_copy 37 = .ok (.dup, 1) := by decide +kernel
theorem dX11_copy_38 : decode cX11_copy 38 = .ok (.getfield 300, 3) := by decide +kernel
theorem dX11_copy_41 : decode cX11_copy 41 = .ok (.iconst 1, 1) := by decide +kernel
theorem dX11_copy_42 : decode cX11_copy 42 = .ok (.iadd, 1) := by decide +kernel
theorem dX11_copy_43 : decode cX11_copy 43 = .ok (.putfield 300, 3) := by decide +kernel
theorem dX11_copy_46 : decode cX11_copy 46 = .ok (.return_, 1) := by decide +kernel
theorem dX11_takeBack_0 : decode cX11_takeBack 0 = .ok (.aload_n 0, 1) := by decide +kernel
theorem dX11_takeBack_1 : decode cX11_takeBack 1 = .ok (.dup, 1) := by decide +kernel
theorem dX11_takeBack_2 : decode cX11_takeBack 2 = .ok (.getfield 300, 3) := by decide +kernel
theorem dX11_takeBack_5 : decode cX11_takeBack 5 = .ok (.iconst 1, 1) := by decide +kernel
theorem dX11_takeBack_6 : decode cX11_takeBack 6 = .ok (.isub, 1) := by decide +kernel
theorem dX11_takeBack_7 : decode cX11_takeBack 7 = .ok (.putfield 300, 3) := by decide +kernel
theorem dX11_takeBack_10 : decode cX11_takeBack 10 = .ok (.iconst 0, 1) := by decide +kernel
theorem dX11_takeBack_11 : decode cX11_takeBack 11 = .ok (.istore_n 1, 1) := by decide +kernel
theorem dX11_takeBack_12 : decode cX11_takeBack 12 = .ok (.iload_n 1, 1) := by decide +kernel
theorem dX11_takeBack_13 : decode cX11_takeBack 13 = .ok (.sipush 2018, 3) := by decide +kernel
theorem dX11_takeBack_16 : decode cX11_takeBack 16 = .ok (.if_icmp .ge 30, 3) := by decide +kernel
theorem dX11_takeBack_19 : decode cX11_takeBack 19 = .ok (.aload_n 0, 1) := by decide +kernel
theorem dX11_takeBack_20 : decode cX11_takeBack 20 = .ok (.getfield 17, 3) := by decide +kernel
theorem dX11_takeBack_23 : decode cX11_takeBack 23 = .ok (.iload_n 1, 1) := by decide +kernel
theorem dX11_takeBack_24 : decode cX11_takeBack 24 = .ok (.aload_n 0, 1) := by decide +kernel
theorem dX11_takeBack_25 : decode cX11_takeBack 25 = .ok (.getfield 58, 3) := by decide +kernel
theorem dX11_takeBack_28 : decode cX11_takeBack 28 = .ok (.sipush 2018, 3) := by decide +kernel
theorem dX11_takeBack_31 : decode cX11_takeBack 31 = .ok (.aload_n 0, 1) := by decide +kernel
theorem dX11_takeBack_32 : decode cX11_takeBack 32 = .ok (.getfield 300, 3) := by decide +kernel
theorem dX11_takeBack_35 : decode cX11_takeBack 35 = .ok (.imul, 1) := by decide +kernel
theorem dX11_takeBack_36 : decode cX11_takeBack 36 = .ok (.iload_n 1, 1) := by decide +kernel
theorem dX11_takeBack_37 : decode cX11_takeBack 37 = .ok (.iadd, 1) := by decide +kernel
theorem dX11_takeBack_38 : decode cX11_takeBack 38 = .ok (.iaload, 1) := by decide +kernel
theorem dX11_takeBack_39 : decode cX11_takeBack 39 = .ok (.iastore, 1) := by decide +kernel
theorem dX11_takeBack_40 : decode cX11_takeBack 40 = .ok (.iinc 1 1, 3) := by decide +kernel
theorem dX11_takeBack_43 : decode cX11_takeBack 43 = .ok (.goto (-31), 3) := by decide +kernel
theorem dX11_takeBack_46 : decode cX11_takeBack 46 = .ok (.return_, 1) := by decide +kernel
theorem dX11_needsOf_0 : decode cX11_needsOf 0 = .ok (.aload_n 0, 1) := by decide +kernel
theorem dX11_needsOf_1 : decode cX11_needsOf 1 = .ok (.invokevirtual 303, 3) := by decide +kernel
theorem dX11_needsOf_4 : decode cX11_needsOf 4 = .ok (.aload_n 0, 1) := by decide +kernel
theorem dX11_needsOf_5 : decode cX11_needsOf 5 = .ok (.iload_n 1, 1) := by decide +kernel
theorem dX11_needsOf_6 : decode cX11_needsOf 6 = .ok (.invokevirtual 306, 3) := by decide +kernel
theorem dX11_needsOf_9 : decode cX11_needsOf 9 = .ok (.istore_n 2, 1) := by decide +kernel
theorem dX11_needsOf_10 : decode cX11_needsOf 10 = .ok (.aload_n 0, 1) := by decide +kernel
theorem dX11_needsOf_11 : decode cX11_needsOf 11 = .ok (.invokevirtual 309, 3) := by decide +kernel
theorem dX11_needsOf_14 : decode cX11_needsOf 14 = .ok (.iload_n 2, 1) := by decide +kernel
theorem dX11_needsOf_15 : decode cX11_needsOf 15 = .ok (.ireturn, 1) := by decide +kernel
theorem dX11_freshOf_0 : decode cX11_freshOf 0 = .ok (.aload_n 0, 1) := by decide +kernel
theorem dX11_freshOf_1 : decode cX11_freshOf 1 = .ok (.invokevirtual 303, 3) := by decide +kernel
theorem dX11_freshOf_4 : decode cX11_freshOf 4 = .ok (.iconst 0, 1) := by decide +kernel
theorem dX11_freshOf_5 : decode cX11_freshOf 5 = .ok (.istore_n 2, 1) := by decide +kernel
theorem dX11_freshOf_6 : decode cX11_freshOf 6 = .ok (.iload_n 2, 1) := by decide +kernel
theorem dX11_freshOf_7 : decode cX11_freshOf 7 = .ok (.sipush 2016, 3) := by decide +kernel
theorem dX11_freshOf_10 : decode cX11_freshOf 10 = .ok (.if_icmp .ge 16, 3) := by decide +kernel
theorem dX11_freshOf_13 : decode cX11_freshOf 13 = .ok (.aload_n 0, 1) := by decide +kernel
theorem dX11_freshOf_14 : decode cX11_freshOf 14 = .ok (.getfield 17, 3) := by decide +kernel
theorem dX11_freshOf_17 : decode cX11_freshOf 17 = .ok (.iload_n 2, 1) := by decide +kernel
theorem dX11_freshOf_18 : decode cX11_freshOf 18 = .ok (.iconst 0, 1) := by decide +kernel
theorem dX11_freshOf_19 : decode cX11_freshOf 19 = .ok (.iastore, 1) := by decide +kernel
theorem dX11_freshOf_20 : decode cX11_freshOf 20 = .ok (.iinc 2 1, 3) := by decide +kernel
theorem dX11_freshOf_23 : decode cX11_freshOf 23 = .ok (.goto (-17), 3) := by decide +kernel
theorem dX11_freshOf_26 : decode cX11_freshOf 26 = .ok (.aload_n 0, 1) := by decide +kernel
theorem dX11_freshOf_27 : decode cX11_freshOf 27 = .ok (.getfield 17, 3) := by decide +kernel
theorem dX11_freshOf_30 : decode cX11_freshOf 30 = .ok (.sipush 2017, 3) := by decide +kernel
theorem dX11_freshOf_33 : decode cX11_freshOf 33 = .ok (.iconst 0, 1) := by decide +kernel
theorem dX11_freshOf_34 : decode cX11_freshOf 34 = .ok (.iastore, 1) := by decide +kernel
theorem dX11_freshOf_35 : decode cX11_freshOf 35 = .ok (.aload_n 0, 1) := by decide +kernel
theorem dX11_freshOf_36 : decode cX11_freshOf 36 = .ok (.iload_n 1, 1) := by decide +kernel
theorem dX11_freshOf_37 : decode cX11_freshOf 37 = .ok (.invokevirtual 306, 3) := by decide +kernel
theorem dX11_freshOf_40 : decode cX11_freshOf 40 = .ok (.istore_n 2, 1) := by decide +kernel
theorem dX11_freshOf_41 : decode cX11_freshOf 41 = .ok (.aload_n 0, 1) := by decide +kernel
theorem dX11_freshOf_42 : decode cX11_freshOf 42 = .ok (.invokevirtual 309, 3) := by decide +kernel
theorem dX11_freshOf_45 : decode cX11_freshOf 45 = .ok (.iload_n 2, 1) := by decide +kernel
theorem dX11_freshOf_46 : decode cX11_freshOf 46 = .ok (.ireturn, 1) := by decide +kernel
theorem dX11_sits_0 : decode cX11_sits 0 = .ok (.aload_n 0, 1) := by decide +kernel
theorem dX11_sits_1 : decode cX11_sits 1 = .ok (.getfield 92, 3) := by decide +kernel
theorem dX11_sits_4 : decode cX11_sits 4 = .ok (.bipush 60, 2) := by decide +kernel
theorem dX11_sits_6 : decode cX11_sits 6 = .ok (.if_icmp .ne 58, 3) := by decide +kernel
theorem dX11_sits_9 : decode cX11_sits 9 = .ok (.bipush 6, 2) := by decide +kernel
theorem dX11_sits_11 : decode cX11_sits 11 = .ok (.istore 5, 2) := by decide +kernel
theorem dX11_sits_13 : decode cX11_sits 13 = .ok (.iload 5, 2) := by decide +kernel
theorem dX11_sits_15 : decode cX11_sits 15 = .ok (.sipush 360, 3) := by decide +kernel
theorem dX11_sits_18 : decode cX11_sits 18 = .ok (.if_icmp .ge 26, 3) := by decide +kernel
theorem dX11_sits_21 : decode cX11_sits 21 = .ok (.aload_n 0, 1) := by decide +kernel
theorem dX11_sits_22 : decode cX11_sits 22 = .ok (.getfield 20, 3) := by decide +kernel
theorem dX11_sits_25 : decode cX11_sits 25 = .ok (.iload 5, 2) := by decide +kernel
theorem dX11_sits_27 : decode cX11_sits 27 = .ok (.bipush 6, 2) := by decide +kernel
theorem dX11_sits_29 : decode cX11_sits 29 = .ok (.isub, 1) := by decide +kernel
