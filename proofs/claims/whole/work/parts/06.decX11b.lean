theorem dX11_number_56 : decode cX11_number 56 = .ok (.aload_n 0, 1) := by decide +kernel
theorem dX11_number_57 : decode cX11_number 57 = .ok (.getfield 129, 3) := by decide +kernel
theorem dX11_number_60 : decode cX11_number 60 = .ok (.istore_n 3, 1) := by decide +kernel
theorem dX11_number_61 : decode cX11_number 61 = .ok (.aload_n 0, 1) := by decide +kernel
theorem dX11_number_62 : decode cX11_number 62 = .ok (.invokevirtual 160, 3) := by decide +kernel
theorem dX11_number_65 : decode cX11_number 65 = .ok (.iload_n 3, 1) := by decide +kernel
theorem dX11_number_66 : decode cX11_number 66 = .ok (.ireturn, 1) := by decide +kernel
theorem dX11_fault_0 : decode cX11_fault 0 = .ok (.iload_n 1, 1) := by decide +kernel
theorem dX11_fault_1 : decode cX11_fault 1 = .ok (.ifCond .ne 10, 3) := by decide +kernel
theorem dX11_fault_4 : decode cX11_fault 4 = .ok (.aload_n 0, 1) := by decide +kernel
theorem dX11_fault_5 : decode cX11_fault 5 = .ok (.getfield 139, 3) := by decide +kernel
theorem dX11_fault_8 : decode cX11_fault 8 = .ok (.goto 16, 3) := by decide +kernel
theorem dX11_fault_11 : decode cX11_fault 11 = .ok (.iload_n 1, 1) := by decide +kernel
theorem dX11_fault_12 : decode cX11_fault 12 = .ok (.iconst 1, 1) := by decide +kernel
theorem dX11_fault_13 : decode cX11_fault 13 = .ok (.if_icmp .ne 10, 3) := by decide +kernel
theorem dX11_fault_16 : decode cX11_fault 16 = .ok (.aload_n 0, 1) := by decide +kernel
theorem dX11_fault_17 : decode cX11_fault 17 = .ok (.getfield 45, 3) := by decide +kernel
theorem dX11_fault_20 : decode cX11_fault 20 = .ok (.goto 4, 3) := by decide +kernel
theorem dX11_fault_23 : decode cX11_fault 23 = .ok (.iconst (-1), 1) := by decide +kernel
theorem dX11_fault_24 : decode cX11_fault 24 = .ok (.ireturn, 1) := by decide +kernel
theorem dX11_sortHere_0 : decode cX11_sortHere 0 = .ok (.aload_n 0, 1) := by decide +kernel
theorem dX11_sortHere_1 : decode cX11_sortHere 1 = .ok (.ldc 169, 2) := by decide +kernel
theorem dX11_sortHere_3 : decode cX11_sortHere 3 = .ok (.invokevirtual 156, 3) := by decide +kernel
theorem dX11_sortHere_6 : decode cX11_sortHere 6 = .ok (.ifCond .eq 7, 3) := by decide +kernel
theorem dX11_sortHere_9 : decode cX11_sortHere 9 = .ok (.iconst 0, 1) := by decide +kernel
theorem dX11_sortHere_10 : decode cX11_sortHere 10 = .ok (.goto 43, 3) := by decide +kernel
theorem dX11_sortHere_13 : decode cX11_sortHere 13 = .ok (.aload_n 0, 1) := by decide +kernel
theorem dX11_sortHere_14 : decode cX11_sortHere 14 = .ok (.ldc 171, 2) := by decide +kernel
theorem dX11_sortHere_16 : decode cX11_sortHere 16 = .ok (.invokevirtual 156, 3) := by decide +kernel
theorem dX11_sortHere_19 : decode cX11_sortHere 19 = .ok (.ifCond .eq 7, 3) := by decide +kernel
theorem dX11_sortHere_22 : decode cX11_sortHere 22 = .ok (.iconst 1, 1) := by decide +kernel
theorem dX11_sortHere_23 : decode cX11_sortHere 23 = .ok (.goto 30, 3) := by decide +kernel
theorem dX11_sortHere_26 : decode cX11_sortHere 26 = .ok (.aload_n 0, 1) := by decide +kernel
theorem dX11_sortHere_27 : decode cX11_sortHere 27 = .ok (.ldc 173, 2) := by decide +kernel
theorem dX11_sortHere_29 : decode cX11_sortHere 29 = .ok (.invokevirtual 156, 3) := by decide +kernel
theorem dX11_sortHere_32 : decode cX11_sortHere 32 = .ok (.ifCond .eq 7, 3) := by decide +kernel
theorem dX11_sortHere_35 : decode cX11_sortHere 35 = .ok (.iconst 2, 1) := by decide +kernel
theorem dX11_sortHere_36 : decode cX11_sortHere 36 = .ok (.goto 17, 3) := by decide +kernel
theorem dX11_sortHere_39 : decode cX11_sortHere 39 = .ok (.aload_n 0, 1) := by decide +kernel
theorem dX11_sortHere_40 : decode cX11_sortHere 40 = .ok (.ldc 175, 2) := by decide +kernel
theorem dX11_sortHere_42 : decode cX11_sortHere 42 = .ok (.invokevirtual 156, 3) := by decide +kernel
theorem dX11_sortHere_45 : decode cX11_sortHere 45 = .ok (.ifCond .eq 7, 3) := by decide +kernel
theorem dX11_sortHere_48 : decode cX11_sortHere 48 = .ok (.iconst 3, 1) := by decide +kernel
theorem dX11_sortHere_49 : decode cX11_sortHere 49 = .ok (.goto 4, 3) := by decide +kernel
theorem dX11_sortHere_52 : decode cX11_sortHere 52 = .ok (.iconst (-1), 1) := by decide +kernel
theorem dX11_sortHere_53 : decode cX11_sortHere 53 = .ok (.ireturn, 1) := by decide +kernel
theorem dX11_readRow_0 : decode cX11_readRow 0 = .ok (.bipush 34, 2) := by decide +kernel
theorem dX11_readRow_2 : decode cX11_readRow 2 = .ok (.bipush 14, 2) := by decide +kernel
theorem dX11_readRow_4 : decode cX11_readRow 4 = .ok (.aload_n 0, 1) := by decide +kernel
theorem dX11_readRow_5 : decode cX11_readRow 5 = .ok (.getfield 48, 3) := by decide +kernel
theorem dX11_readRow_8 : decode cX11_readRow 8 = .ok (.iconst 2, 1) := by decide +kernel
theorem dX11_readRow_9 : decode cX11_readRow 9 = .ok (.iaload, 1) := by decide +kernel
theorem dX11_readRow_10 : decode cX11_readRow 10 = .ok (.imul, 1) := by decide +kernel
theorem dX11_readRow_11 : decode cX11_readRow 11 = .ok (.iadd, 1) := by decide +kernel
theorem dX11_readRow_12 : decode cX11_readRow 12 = .ok (.istore_n 1, 1) := by decide +kernel
theorem dX11_readRow_13 : decode cX11_readRow 13 = .ok (.iconst 0, 1) := by decide +kernel
theorem dX11_readRow_14 : decode cX11_readRow 14 = .ok (.istore_n 2, 1) := by decide +kernel
theorem dX11_readRow_15 : decode cX11_readRow 15 = .ok (.aload_n 0, 1) := by decide +kernel
theorem dX11_readRow_16 : decode cX11_readRow 16 = .ok (.invokevirtual 142, 3) := by decide +kernel
theorem dX11_readRow_19 : decode cX11_readRow 19 = .ok (.ifCond .eq 16, 3) := by decide +kernel
theorem dX11_readRow_22 : decode cX11_readRow 22 = .ok (.aload_n 0, 1) := by decide +kernel
theorem dX11_readRow_23 : decode cX11_readRow 23 = .ok (.getfield 118, 3) := by decide +kernel
theorem dX11_readRow_26 : decode cX11_readRow 26 = .ok (.iconst 2, 1) := by decide +kernel
theorem dX11_readRow_27 : decode cX11_readRow 27 = .ok (.if_icmp .eq 8, 3) := by decide +kernel
theorem dX11_readRow_30 : decode cX11_readRow 30 = .ok (.aload_n 0, 1) := by decide +kernel
theorem dX11_readRow_31 : decode cX11_readRow 31 = .ok (.iconst 1, 1) := by decide +kernel
theorem dX11_readRow_32 : decode cX11_readRow 32 = .ok (.invokevirtual 166, 3) := by decide +kernel
theorem dX11_readRow_35 : decode cX11_readRow 35 = .ok (.aload_n 0, 1) := by decide +kernel
theorem dX11_readRow_36 : decode cX11_readRow 36 = .ok (.invokevirtual 142, 3) := by decide +kernel
theorem dX11_readRow_39 : decode cX11_readRow 39 = .ok (.ifCond .eq 21, 3) := by decide +kernel
theorem dX11_readRow_42 : decode cX11_readRow 42 = .ok (.aload_n 0, 1) := by decide +kernel
theorem dX11_readRow_43 : decode cX11_readRow 43 = .ok (.getfield 129, 3) := by decide +kernel
theorem dX11_readRow_46 : decode cX11_readRow 46 = .ok (.aload_n 0, 1) := by decide +kernel
theorem dX11_readRow_47 : decode cX11_readRow 47 = .ok (.getfield 48, 3) := by decide +kernel
theorem dX11_readRow_50 : decode cX11_readRow 50 = .ok (.iconst 1, 1) := by decide +kernel
theorem dX11_readRow_51 : decode cX11_readRow 51 = .ok (.iaload, 1) := by decide +kernel
theorem dX11_readRow_52 : decode cX11_readRow 52 = .ok (.if_icmp .lt 8, 3) := by decide +kernel
theorem dX11_readRow_55 : decode cX11_readRow 55 = .ok (.aload_n 0, 1) := by decide +kernel
theorem dX11_readRow_56 : decode cX11_readRow 56 = .ok (.iconst 2, 1) := by decide +kernel
theorem dX11_readRow_57 : decode cX11_readRow 57 = .ok (.invokevirtual 166, 3) := by decide +kernel
theorem dX11_readRow_60 : decode cX11_readRow 60 = .ok (.iconst 0, 1) := by decide +kernel
theorem dX11_readRow_61 : decode cX11_readRow 61 = .ok (.istore_n 3, 1) := by decide +kernel
theorem dX11_readRow_62 : decode cX11_readRow 62 = .ok (.iload_n 3, 1) := by decide +kernel
theorem dX11_readRow_63 : decode cX11_readRow 63 = .ok (.iload_n 2, 1) := by decide +kernel
theorem dX11_readRow_64 : decode cX11_readRow 64 = .ok (.if_icmp .ge 38, 3) := by decide +kernel
theorem dX11_readRow_67 : decode cX11_readRow 67 = .ok (.aload_n 0, 1) := by decide +kernel
theorem dX11_readRow_68 : decode cX11_readRow 68 = .ok (.invokevirtual 142, 3) := by decide +kernel
theorem dX11_readRow_71 : decode cX11_readRow 71 = .ok (.ifCond .eq 31, 3) := by decide +kernel
theorem dX11_readRow_74 : decode cX11_readRow 74 = .ok (.aload_n 0, 1) := by decide +kernel
theorem dX11_readRow_75 : decode cX11_readRow 75 = .ok (.getfield 48, 3) := by decide +kernel
theorem dX11_readRow_78 : decode cX11_readRow 78 = .ok (.iload_n 1, 1) := by decide +kernel
theorem dX11_readRow_79 : decode cX11_readRow 79 = .ok (.iconst 1, 1) := by decide +kernel
theorem dX11_readRow_80 : decode cX11_readRow 80 = .ok (.iadd, 1) := by decide +kernel
theorem dX11_readRow_81 : decode cX11_readRow 81 = .ok (.iload_n 3, 1) := by decide +kernel
theorem dX11_readRow_82 : decode cX11_readRow 82 = .ok (.iadd, 1) := by decide +kernel
theorem dX11_readRow_83 : decode cX11_readRow 83 = .ok (.iaload, 1) := by decide +kernel
theorem dX11_readRow_84 : decode cX11_readRow 84 = .ok (.aload_n 0, 1) := by decide +kernel
theorem dX11_readRow_85 : decode cX11_readRow 85 = .ok (.getfield 129, 3) := by decide +kernel
theorem dX11_readRow_88 : decode cX11_readRow 88 = .ok (.if_icmp .ne 8, 3) := by decide +kernel
theorem dX11_readRow_91 : decode cX11_readRow 91 = .ok (.aload_n 0, 1) := by decide +kernel
theorem dX11_readRow_92 : decode cX11_readRow 92 = .ok (.iconst 2, 1) := by decide +kernel
theorem dX11_readRow_93 : decode cX11_readRow 93 = .ok (.invokevirtual 166, 3) := by decide +kernel
theorem dX11_readRow_96 : decode cX11_readRow 96 = .ok (.iinc 3 1, 3) := by decide +kernel
theorem dX11_readRow_99 : decode cX11_readRow 99 = .ok (.goto (-37), 3) := by decide +kernel
theorem dX11_readRow_102 : decode cX11_readRow 102 = .ok (.iload_n 2, 1) := by decide +kernel
theorem dX11_readRow_103 : decode cX11_readRow 103 = .ok (.bipush 12, 2) := by decide +kernel
theorem dX11_readRow_105 : decode cX11_readRow 105 = .ok (.if_icmp .ne 8, 3) := by decide +kernel
theorem dX11_readRow_108 : decode cX11_readRow 108 = .ok (.aload_n 0, 1) := by decide +kernel
theorem dX11_readRow_109 : decode cX11_readRow 109 = .ok (.iconst 3, 1) := by decide +kernel
theorem dX11_readRow_110 : decode cX11_readRow 110 = .ok (.invokevirtual 166, 3) := by decide +kernel
theorem dX11_readRow_113 : decode cX11_readRow 113 = .ok (.aload_n 0, 1) := by decide +kernel
theorem dX11_readRow_114 : decode cX11_readRow 114 = .ok (.invokevirtual 142, 3) := by decide +kernel
theorem dX11_readRow_117 : decode cX11_readRow 117 = .ok (.ifCond .ne 4, 3) := by decide +kernel
theorem dX11_readRow_120 : decode cX11_readRow 120 = .ok (.return_, 1) := by decide +kernel
theorem dX11_readRow_121 : decode cX11_readRow 121 = .ok (.aload_n 0, 1) := by decide +kernel
theorem dX11_readRow_122 : decode cX11_readRow 122 = .ok (.getfield 48, 3) := by decide +kernel
theorem dX11_readRow_125 : decode cX11_readRow 125 = .ok (.iload_n 1, 1) := by decide +kernel
theorem dX11_readRow_126 : decode cX11_readRow 126 = .ok (.iconst 1, 1) := by decide +kernel
theorem dX11_readRow_127 : decode cX11_readRow 127 = .ok (.iadd, 1) := by decide +kernel
theorem dX11_readRow_128 : decode cX11_readRow 128 = .ok (.iload_n 2, 1) := by decide +kernel
theorem dX11_readRow_129 : decode cX11_readRow 129 = .ok (.iadd, 1) := by decide +kernel
theorem dX11_readRow_130 : decode cX11_readRow 130 = .ok (.aload_n 0, 1) := by decide +kernel
theorem dX11_readRow_131 : decode cX11_readRow 131 = .ok (.getfield 129, 3) := by decide +kernel
theorem dX11_readRow_134 : decode cX11_readRow 134 = .ok (.iastore, 1) := by decide +kernel
theorem dX11_readRow_135 : decode cX11_readRow 135 = .ok (.iinc 2 1, 3) := by decide +kernel
theorem dX11_readRow_138 : decode cX11_readRow 138 = .ok (.aload_n 0, 1) := by decide +kernel
theorem dX11_readRow_139 : decode cX11_readRow 139 = .ok (.invokevirtual 160, 3) := by decide +kernel
theorem dX11_readRow_142 : decode cX11_readRow 142 = .ok (.iload_n 2, 1) := by decide +kernel
theorem dX11_readRow_143 : decode cX11_readRow 143 = .ok (.iconst 2, 1) := by decide +kernel
theorem dX11_readRow_144 : decode cX11_readRow 144 = .ok (.if_icmp .lt (-129), 3) := by decide +kernel
theorem dX11_readRow_147 : decode cX11_readRow 147 = .ok (.aload_n 0, 1) := by decide +kernel
theorem dX11_readRow_148 : decode cX11_readRow 148 = .ok (.getfield 118, 3) := by decide +kernel
theorem dX11_readRow_151 : decode cX11_readRow 151 = .ok (.iconst 2, 1) := by decide +kernel
theorem dX11_readRow_152 : decode cX11_readRow 152 = .ok (.if_icmp .eq (-137), 3) := by decide +kernel
theorem dX11_readRow_155 : decode cX11_readRow 155 = .ok (.aload_n 0, 1) := by decide +kernel
theorem dX11_readRow_156 : decode cX11_readRow 156 = .ok (.getfield 48, 3) := by decide +kernel
theorem dX11_readRow_159 : decode cX11_readRow 159 = .ok (.iload_n 1, 1) := by decide +kernel
theorem dX11_readRow_160 : decode cX11_readRow 160 = .ok (.iload_n 2, 1) := by decide +kernel
theorem dX11_readRow_161 : decode cX11_readRow 161 = .ok (.iastore, 1) := by decide +kernel
theorem dX11_readRow_162 : decode cX11_readRow 162 = .ok (.aload_n 0, 1) := by decide +kernel
theorem dX11_readRow_163 : decode cX11_readRow 163 = .ok (.getfield 48, 3) := by decide +kernel
theorem dX11_readRow_166 : decode cX11_readRow 166 = .ok (.iconst 2, 1) := by decide +kernel
theorem dX11_readRow_167 : decode cX11_readRow 167 = .ok (.dup2, 1) := by decide +kernel
theorem dX11_readRow_168 : decode cX11_readRow 168 = .ok (.iaload, 1) := by decide +kernel
theorem dX11_readRow_169 : decode cX11_readRow 169 = .ok (.iconst 1, 1) := by decide +kernel
theorem dX11_readRow_170 : decode cX11_readRow 170 = .ok (.iadd, 1) := by decide +kernel
theorem dX11_readRow_171 : decode cX11_readRow 171 = .ok (.iastore, 1) := by decide +kernel
theorem dX11_readRow_172 : decode cX11_readRow 172 = .ok (.return_, 1) := by decide +kernel
theorem dX11_readPart_0 : decode cX11_readPart 0 = .ok (.aload_n 0, 1) := by decide +kernel
theorem dX11_readPart_1 : decode cX11_readPart 1 = .ok (.ldc 177, 2) := by decide +kernel
theorem dX11_readPart_3 : decode cX11_readPart 3 = .ok (.invokevirtual 156, 3) := by decide +kernel
theorem dX11_readPart_6 : decode cX11_readPart 6 = .ok (.ifCond .eq 7, 3) := by decide +kernel
theorem dX11_readPart_9 : decode cX11_readPart 9 = .ok (.iconst 1, 1) := by decide +kernel
theorem dX11_readPart_10 : decode cX11_readPart 10 = .ok (.goto 56, 3) := by decide +kernel
theorem dX11_readPart_13 : decode cX11_readPart 13 = .ok (.aload_n 0, 1) := by decide +kernel
theorem dX11_readPart_14 : decode cX11_readPart 14 = .ok (.ldc 179, 2) := by decide +kernel
theorem dX11_readPart_16 : decode cX11_readPart 16 = .ok (.invokevirtual 156, 3) := by decide +kernel
theorem dX11_readPart_19 : decode cX11_readPart 19 = .ok (.ifCond .eq 7, 3) := by decide +kernel
theorem dX11_readPart_22 : decode cX11_readPart 22 = .ok (.iconst 2, 1) := by decide +kernel
theorem dX11_readPart_23 : decode cX11_readPart 23 = .ok (.goto 43, 3) := by decide +kernel
theorem dX11_readPart_26 : decode cX11_readPart 26 = .ok (.aload_n 0, 1) := by decide +kernel
theorem dX11_readPart_27 : decode cX11_readPart 27 = .ok (.ldc 181, 2) := by decide +kernel
theorem dX11_readPart_29 : decode cX11_readPart 29 = .ok (.invokevirtual 156, 3) := by decide +kernel
theorem dX11_readPart_32 : decode cX11_readPart 32 = .ok (.ifCond .eq 7, 3) := by decide +kernel
theorem dX11_readPart_35 : decode cX11_readPart 35 = .ok (.iconst 3, 1) := by decide +kernel
theorem dX11_readPart_36 : decode cX11_readPart 36 = .ok (.goto 30, 3) := by decide +kernel
theorem dX11_readPart_39 : decode cX11_readPart 39 = .ok (.aload_n 0, 1) := by decide +kernel
theorem dX11_readPart_40 : decode cX11_readPart 40 = .ok (.ldc 183, 2) := by decide +kernel
theorem dX11_readPart_42 : decode cX11_readPart 42 = .ok (.invokevirtual 156, 3) := by decide +kernel
theorem dX11_readPart_45 : decode cX11_readPart 45 = .ok (.ifCond .eq 7, 3) := by decide +kernel
theorem dX11_readPart_48 : decode cX11_readPart 48 = .ok (.iconst 4, 1) := by decide +kernel
theorem dX11_readPart_49 : decode cX11_readPart 49 = .ok (.goto 17, 3) := by decide +kernel
theorem dX11_readPart_52 : decode cX11_readPart 52 = .ok (.aload_n 0, 1) := by decide +kernel
theorem dX11_readPart_53 : decode cX11_readPart 53 = .ok (.ldc 185, 2) := by decide +kernel
theorem dX11_readPart_55 : decode cX11_readPart 55 = .ok (.invokevirtual 156, 3) := by decide +kernel
theorem dX11_readPart_58 : decode cX11_readPart 58 = .ok (.ifCond .eq 7, 3) := by decide +kernel
theorem dX11_readPart_61 : decode cX11_readPart 61 = .ok (.iconst 5, 1) := by decide +kernel
theorem dX11_readPart_62 : decode cX11_readPart 62 = .ok (.goto 4, 3) := by decide +kernel
theorem dX11_readPart_65 : decode cX11_readPart 65 = .ok (.iconst 0, 1) := by decide +kernel
theorem dX11_readPart_66 : decode cX11_readPart 66 = .ok (.istore_n 2, 1) := by decide +kernel
theorem dX11_readPart_67 : decode cX11_readPart 67 = .ok (.aload_n 0, 1) := by decide +kernel
theorem dX11_readPart_68 : decode cX11_readPart 68 = .ok (.invokevirtual 142, 3) := by decide +kernel
theorem dX11_readPart_71 : decode cX11_readPart 71 = .ok (.ifCond .eq 11, 3) := by decide +kernel
theorem dX11_readPart_74 : decode cX11_readPart 74 = .ok (.iload_n 2, 1) := by decide +kernel
theorem dX11_readPart_75 : decode cX11_readPart 75 = .ok (.ifCond .eq 7, 3) := by decide +kernel
theorem dX11_readPart_78 : decode cX11_readPart 78 = .ok (.aload_n 0, 1) := by decide +kernel
theorem dX11_readPart_79 : decode cX11_readPart 79 = .ok (.invokevirtual 160, 3) := by decide +kernel
theorem dX11_readPart_82 : decode cX11_readPart 82 = .ok (.iload_n 2, 1) := by decide +kernel
theorem dX11_readPart_83 : decode cX11_readPart 83 = .ok (.ifCond .ne 14, 3) := by decide +kernel
theorem dX11_readPart_86 : decode cX11_readPart 86 = .ok (.aload_n 0, 1) := by decide +kernel
theorem dX11_readPart_87 : decode cX11_readPart 87 = .ok (.iconst 0, 1) := by decide +kernel
theorem dX11_readPart_88 : decode cX11_readPart 88 = .ok (.sipush 1000, 3) := by decide +kernel
theorem dX11_readPart_91 : decode cX11_readPart 91 = .ok (.invokevirtual 187, 3) := by decide +kernel
theorem dX11_readPart_94 : decode cX11_readPart 94 = .ok (.goto 4, 3) := by decide +kernel
theorem dX11_readPart_97 : decode cX11_readPart 97 = .ok (.iconst 0, 1) := by decide +kernel
theorem dX11_readPart_98 : decode cX11_readPart 98 = .ok (.istore_n 3, 1) := by decide +kernel
theorem dX11_readPart_99 : decode cX11_readPart 99 = .ok (.aload_n 0, 1) := by decide +kernel
theorem dX11_readPart_100 : decode cX11_readPart 100 = .ok (.invokevirtual 142, 3) := by decide +kernel
theorem dX11_readPart_103 : decode cX11_readPart 103 = .ok (.ifCond .ne 4, 3) := by decide +kernel
theorem dX11_readPart_106 : decode cX11_readPart 106 = .ok (.return_, 1) := by decide +kernel
theorem dX11_readPart_107 : decode cX11_readPart 107 = .ok (.sipush 220, 3) := by decide +kernel
theorem dX11_readPart_110 : decode cX11_readPart 110 = .ok (.iconst 3, 1) := by decide +kernel
theorem dX11_readPart_111 : decode cX11_readPart 111 = .ok (.aload_n 0, 1) := by decide +kernel
theorem dX11_readPart_112 : decode cX11_readPart 112 = .ok (.getfield 48, 3) := by decide +kernel
theorem dX11_readPart_115 : decode cX11_readPart 115 = .ok (.iconst 3, 1) := by decide +kernel
theorem dX11_readPart_116 : decode cX11_readPart 116 = .ok (.iaload, 1) := by decide +kernel
theorem dX11_readPart_117 : decode cX11_readPart 117 = .ok (.imul, 1) := by decide +kernel
theorem dX11_readPart_118 : decode cX11_readPart 118 = .ok (.iadd, 1) := by decide +kernel
theorem dX11_readPart_119 : decode cX11_readPart 119 = .ok (.istore 4, 2) := by decide +kernel
theorem dX11_readPart_121 : decode cX11_readPart 121 = .ok (.aload_n 0, 1) := by decide +kernel
theorem dX11_readPart_122 : decode cX11_readPart 122 = .ok (.getfield 48, 3) := by decide +kernel
theorem dX11_readPart_125 : decode cX11_readPart 125 = .ok (.iload 4, 2) := by decide +kernel
theorem dX11_readPart_127 : decode cX11_readPart 127 = .ok (.iload_n 1, 1) := by decide +kernel
theorem dX11_readPart_128 : decode cX11_readPart 128 = .ok (.iastore, 1) := by decide +kernel
theorem dX11_readPart_129 : decode cX11_readPart 129 = .ok (.aload_n 0, 1) := by decide +kernel
theorem dX11_readPart_130 : decode cX11_readPart 130 = .ok (.getfield 48, 3) := by decide +kernel
theorem dX11_readPart_133 : decode cX11_readPart 133 = .ok (.iload 4, 2) := by decide +kernel
theorem dX11_readPart_135 : decode cX11_readPart 135 = .ok (.iconst 1, 1) := by decide +kernel
theorem dX11_readPart_136 : decode cX11_readPart 136 = .ok (.iadd, 1) := by decide +kernel
theorem dX11_readPart_137 : decode cX11_readPart 137 = .ok (.iload_n 2, 1) := by decide +kernel
theorem dX11_readPart_138 : decode cX11_readPart 138 = .ok (.iastore, 1) := by decide +kernel
theorem dX11_readPart_139 : decode cX11_readPart 139 = .ok (.aload_n 0, 1) := by decide +kernel
theorem dX11_readPart_140 : decode cX11_readPart 140 = .ok (.getfield 48, 3) := by decide +kernel
theorem dX11_readPart_143 : decode cX11_readPart 143 = .ok (.iload 4, 2) := by decide +kernel
theorem dX11_readPart_145 : decode cX11_readPart 145 = .ok (.iconst 2, 1) := by decide +kernel
theorem dX11_readPart_146 : decode cX11_readPart 146 = .ok (.iadd, 1) := by decide +kernel
theorem dX11_readPart_147 : decode cX11_readPart 147 = .ok (.iload_n 3, 1) := by decide +kernel
theorem dX11_readPart_148 : decode cX11_readPart 148 = .ok (.iastore, 1) := by decide +kernel
theorem dX11_readPart_149 : decode cX11_readPart 149 = .ok (.aload_n 0, 1) := by decide +kernel
theorem dX11_readPart_150 : decode cX11_readPart 150 = .ok (.getfield 48, 3) := by decide +kernel
theorem dX11_readPart_153 : decode cX11_readPart 153 = .ok (.iconst 3, 1) := by decide +kernel
theorem dX11_readPart_154 : decode cX11_readPart 154 = .ok (.dup2, 1) := by decide +kernel
theorem dX11_readPart_155 : decode cX11_readPart 155 = .ok (.iaload, 1) := by decide +kernel
theorem dX11_readPart_156 : decode cX11_readPart 156 = .ok (.iconst 1, 1) := by decide +kernel
theorem dX11_readPart_157 : decode cX11_readPart 157 = .ok (.iadd, 1) := by decide +kernel
theorem dX11_readPart_158 : decode cX11_readPart 158 = .ok (.iastore, 1) := by decide +kernel
theorem dX11_readPart_159 : decode cX11_readPart 159 = .ok (.return_, 1) := by decide +kernel
theorem dX11_readLaw_0 : decode cX11_readLaw 0 = .ok (.aload_n 0, 1) := by decide +kernel
theorem dX11_readLaw_1 : decode cX11_readLaw 1 = .ok (.invokevirtual 190, 3) := by decide +kernel
theorem dX11_readLaw_4 : decode cX11_readLaw 4 = .ok (.istore_n 2, 1) := by decide +kernel
theorem dX11_readLaw_5 : decode cX11_readLaw 5 = .ok (.iload_n 2, 1) := by decide +kernel
theorem dX11_readLaw_6 : decode cX11_readLaw 6 = .ok (.iconst (-1), 1) := by decide +kernel
theorem dX11_readLaw_7 : decode cX11_readLaw 7 = .ok (.if_icmp .eq 12, 3) := by decide +kernel
theorem dX11_readLaw_10 : decode cX11_readLaw 10 = .ok (.iload_n 1, 1) := by decide +kernel
theorem dX11_readLaw_11 : decode cX11_readLaw 11 = .ok (.iconst 2, 1) := by decide +kernel
theorem dX11_readLaw_12 : decode cX11_readLaw 12 = .ok (.if_icmp .ne 12, 3) := by decide +kernel
theorem dX11_readLaw_15 : decode cX11_readLaw 15 = .ok (.iload_n 2, 1) := by decide +kernel
theorem dX11_readLaw_16 : decode cX11_readLaw 16 = .ok (.ifCond .eq 8, 3) := by decide +kernel
theorem dX11_readLaw_19 : decode cX11_readLaw 19 = .ok (.aload_n 0, 1) := by decide +kernel
theorem dX11_readLaw_20 : decode cX11_readLaw 20 = .ok (.iconst 1, 1) := by decide +kernel
theorem dX11_readLaw_21 : decode cX11_readLaw 21 = .ok (.invokevirtual 166, 3) := by decide +kernel
theorem dX11_readLaw_24 : decode cX11_readLaw 24 = .ok (.iload_n 1, 1) := by decide +kernel
theorem dX11_readLaw_25 : decode cX11_readLaw 25 = .ok (.iconst 2, 1) := by decide +kernel
theorem dX11_readLaw_26 : decode cX11_readLaw 26 = .ok (.if_icmp .ne 8, 3) := by decide +kernel
theorem dX11_readLaw_29 : decode cX11_readLaw 29 = .ok (.bipush 8, 2) := by decide +kernel
theorem dX11_readLaw_31 : decode cX11_readLaw 31 = .ok (.goto 8, 3) := by decide +kernel
theorem dX11_readLaw_34 : decode cX11_readLaw 34 = .ok (.iconst 4, 1) := by decide +kernel
theorem dX11_readLaw_35 : decode cX11_readLaw 35 = .ok (.iload_n 1, 1) := by decide +kernel
theorem dX11_readLaw_36 : decode cX11_readLaw 36 = .ok (.imul, 1) := by decide +kernel
theorem dX11_readLaw_37 : decode cX11_readLaw 37 = .ok (.iload_n 2, 1) := by decide +kernel
theorem dX11_readLaw_38 : decode cX11_readLaw 38 = .ok (.iadd, 1) := by decide +kernel
theorem dX11_readLaw_39 : decode cX11_readLaw 39 = .ok (.istore_n 3, 1) := by decide +kernel
theorem dX11_readLaw_40 : decode cX11_readLaw 40 = .ok (.aload_n 0, 1) := by decide +kernel
theorem dX11_readLaw_41 : decode cX11_readLaw 41 = .ok (.invokevirtual 142, 3) := by decide +kernel
theorem dX11_readLaw_44 : decode cX11_readLaw 44 = .ok (.ifCond .eq 25, 3) := by decide +kernel
theorem dX11_readLaw_47 : decode cX11_readLaw 47 = .ok (.aload_n 0, 1) := by decide +kernel
theorem dX11_readLaw_48 : decode cX11_readLaw 48 = .ok (.getfield 48, 3) := by decide +kernel
theorem dX11_readLaw_51 : decode cX11_readLaw 51 = .ok (.sipush 202, 3) := by decide +kernel
theorem dX11_readLaw_54 : decode cX11_readLaw 54 = .ok (.iconst 2, 1) := by decide +kernel
theorem dX11_readLaw_55 : decode cX11_readLaw 55 = .ok (.iload_n 3, 1) := by decide +kernel
theorem dX11_readLaw_56 : decode cX11_readLaw 56 = .ok (.imul, 1) := by decide +kernel
theorem dX11_readLaw_57 : decode cX11_readLaw 57 = .ok (.iadd, 1) := by decide +kernel
theorem dX11_readLaw_58 : decode cX11_readLaw 58 = .ok (.iconst 1, 1) := by decide +kernel
theorem dX11_readLaw_59 : decode cX11_readLaw 59 = .ok (.iadd, 1) := by decide +kernel
theorem dX11_readLaw_60 : decode cX11_readLaw 60 = .ok (.iaload, 1) := by decide +kernel
theorem dX11_readLaw_61 : decode cX11_readLaw 61 = .ok (.ifCond .le 8, 3) := by decide +kernel
theorem dX11_readLaw_64 : decode cX11_readLaw 64 = .ok (.aload_n 0, 1) := by decide +kernel
theorem dX11_readLaw_65 : decode cX11_readLaw 65 = .ok (.iconst 2, 1) := by decide +kernel
theorem dX11_readLaw_66 : decode cX11_readLaw 66 = .ok (.invokevirtual 166, 3) := by decide +kernel
theorem dX11_readLaw_69 : decode cX11_readLaw 69 = .ok (.aload_n 0, 1) := by decide +kernel
theorem dX11_readLaw_70 : decode cX11_readLaw 70 = .ok (.invokevirtual 142, 3) := by decide +kernel
theorem dX11_readLaw_73 : decode cX11_readLaw 73 = .ok (.ifCond .ne 4, 3) := by decide +kernel
theorem dX11_readLaw_76 : decode cX11_readLaw 76 = .ok (.return_, 1) := by decide +kernel
theorem dX11_readLaw_77 : decode cX11_readLaw 77 = .ok (.aload_n 0, 1) := by decide +kernel
theorem dX11_readLaw_78 : decode cX11_readLaw 78 = .ok (.invokevirtual 160, 3) := by decide +kernel
theorem dX11_readLaw_81 : decode cX11_readLaw 81 = .ok (.aload_n 0, 1) := by decide +kernel
theorem dX11_readLaw_82 : decode cX11_readLaw 82 = .ok (.ldc 193, 2) := by decide +kernel
theorem dX11_readLaw_84 : decode cX11_readLaw 84 = .ok (.invokevirtual 195, 3) := by decide +kernel
theorem dX11_readLaw_87 : decode cX11_readLaw 87 = .ok (.aload_n 0, 1) := by decide +kernel
theorem dX11_readLaw_88 : decode cX11_readLaw 88 = .ok (.getfield 48, 3) := by decide +kernel
theorem dX11_readLaw_91 : decode cX11_readLaw 91 = .ok (.iconst 3, 1) := by decide +kernel
theorem dX11_readLaw_92 : decode cX11_readLaw 92 = .ok (.iaload, 1) := by decide +kernel
theorem dX11_readLaw_93 : decode cX11_readLaw 93 = .ok (.istore 4, 2) := by decide +kernel
theorem dX11_readLaw_95 : decode cX11_readLaw 95 = .ok (.aload_n 0, 1) := by decide +kernel
theorem dX11_readLaw_96 : decode cX11_readLaw 96 = .ok (.iconst 0, 1) := by decide +kernel
theorem dX11_readLaw_97 : decode cX11_readLaw 97 = .ok (.invokevirtual 199, 3) := by decide +kernel
theorem dX11_readLaw_100 : decode cX11_readLaw 100 = .ok (.aload_n 0, 1) := by decide +kernel
theorem dX11_readLaw_101 : decode cX11_readLaw 101 = .ok (.ldc 202, 2) := by decide +kernel
theorem dX11_readLaw_103 : decode cX11_readLaw 103 = .ok (.invokevirtual 156, 3) := by decide +kernel
theorem dX11_readLaw_106 : decode cX11_readLaw 106 = .ok (.ifCond .ne 30, 3) := by decide +kernel
theorem dX11_readLaw_109 : decode cX11_readLaw 109 = .ok (.aload_n 0, 1) := by decide +kernel
theorem dX11_readLaw_110 : decode cX11_readLaw 110 = .ok (.ldc 204, 2) := by decide +kernel
theorem dX11_readLaw_112 : decode cX11_readLaw 112 = .ok (.invokevirtual 156, 3) := by decide +kernel
theorem dX11_readLaw_115 : decode cX11_readLaw 115 = .ok (.ifCond .ne 21, 3) := by decide +kernel
theorem dX11_readLaw_118 : decode cX11_readLaw 118 = .ok (.aload_n 0, 1) := by decide +kernel
theorem dX11_readLaw_119 : decode cX11_readLaw 119 = .ok (.ldc 206, 2) := by decide +kernel
theorem dX11_readLaw_121 : decode cX11_readLaw 121 = .ok (.invokevirtual 156, 3) := by decide +kernel
theorem dX11_readLaw_124 : decode cX11_readLaw 124 = .ok (.ifCond .ne 12, 3) := by decide +kernel
theorem dX11_readLaw_127 : decode cX11_readLaw 127 = .ok (.aload_n 0, 1) := by decide +kernel
theorem dX11_readLaw_128 : decode cX11_readLaw 128 = .ok (.ldc 208, 2) := by decide +kernel
theorem dX11_readLaw_130 : decode cX11_readLaw 130 = .ok (.invokevirtual 156, 3) := by decide +kernel
theorem dX11_readLaw_133 : decode cX11_readLaw 133 = .ok (.ifCond .eq 58, 3) := by decide +kernel
theorem dX11_readLaw_136 : decode cX11_readLaw 136 = .ok (.aload_n 0, 1) := by decide +kernel
theorem dX11_readLaw_137 : decode cX11_readLaw 137 = .ok (.ldc 202, 2) := by decide +kernel
theorem dX11_readLaw_139 : decode cX11_readLaw 139 = .ok (.invokevirtual 156, 3) := by decide +kernel
theorem dX11_readLaw_142 : decode cX11_readLaw 142 = .ok (.ifCond .eq 7, 3) := by decide +kernel
theorem dX11_readLaw_145 : decode cX11_readLaw 145 = .ok (.iconst 1, 1) := by decide +kernel
theorem dX11_readLaw_146 : decode cX11_readLaw 146 = .ok (.goto 30, 3) := by decide +kernel
theorem dX11_readLaw_149 : decode cX11_readLaw 149 = .ok (.aload_n 0, 1) := by decide +kernel
theorem dX11_readLaw_150 : decode cX11_readLaw 150 = .ok (.ldc 204, 2) := by decide +kernel
theorem dX11_readLaw_152 : decode cX11_readLaw 152 = .ok (.invokevirtual 156, 3) := by decide +kernel
theorem dX11_readLaw_155 : decode cX11_readLaw 155 = .ok (.ifCond .eq 7, 3) := by decide +kernel
theorem dX11_readLaw_158 : decode cX11_readLaw 158 = .ok (.iconst 2, 1) := by decide +kernel
theorem dX11_readLaw_159 : decode cX11_readLaw 159 = .ok (.goto 17, 3) := by decide +kernel
theorem dX11_readLaw_162 : decode cX11_readLaw 162 = .ok (.aload_n 0, 1) := by decide +kernel
theorem dX11_readLaw_163 : decode cX11_readLaw 163 = .ok (.ldc 206, 2) := by decide +kernel
theorem dX11_readLaw_165 : decode cX11_readLaw 165 = .ok (.invokevirtual 156, 3) := by decide +kernel
theorem dX11_readLaw_168 : decode cX11_readLaw 168 = .ok (.ifCond .eq 7, 3) := by decide +kernel
theorem dX11_readLaw_171 : decode cX11_readLaw 171 = .ok (.iconst 3, 1) := by decide +kernel
theorem dX11_readLaw_172 : decode cX11_readLaw 172 = .ok (.goto 4, 3) := by decide +kernel
theorem dX11_readLaw_175 : decode cX11_readLaw 175 = .ok (.iconst 4, 1) := by decide +kernel
theorem dX11_readLaw_176 : decode cX11_readLaw 176 = .ok (.istore 5, 2) := by decide +kernel
theorem dX11_readLaw_178 : decode cX11_readLaw 178 = .ok (.aload_n 0, 1) := by decide +kernel
theorem dX11_readLaw_179 : decode cX11_readLaw 179 = .ok (.invokevirtual 160, 3) := by decide +kernel
theorem dX11_readLaw_182 : decode cX11_readLaw 182 = .ok (.aload_n 0, 1) := by decide +kernel
theorem dX11_readLaw_183 : decode cX11_readLaw 183 = .ok (.iload 5, 2) := by decide +kernel
theorem dX11_readLaw_185 : decode cX11_readLaw 185 = .ok (.invokevirtual 199, 3) := by decide +kernel
theorem dX11_readLaw_188 : decode cX11_readLaw 188 = .ok (.goto (-88), 3) := by decide +kernel
theorem dX11_readLaw_191 : decode cX11_readLaw 191 = .ok (.aload_n 0, 1) := by decide +kernel
theorem dX11_readLaw_192 : decode cX11_readLaw 192 = .ok (.invokevirtual 142, 3) := by decide +kernel
theorem dX11_readLaw_195 : decode cX11_readLaw 195 = .ok (.ifCond .ne 4, 3) := by decide +kernel
theorem dX11_readLaw_198 : decode cX11_readLaw 198 = .ok (.return_, 1) := by decide +kernel
theorem dX11_readLaw_199 : decode cX11_readLaw 199 = .ok (.aload_n 0, 1) := by decide +kernel
theorem dX11_readLaw_200 : decode cX11_readLaw 200 = .ok (.getfield 48, 3) := by decide +kernel
theorem dX11_readLaw_203 : decode cX11_readLaw 203 = .ok (.sipush 202, 3) := by decide +kernel
theorem dX11_readLaw_206 : decode cX11_readLaw 206 = .ok (.iconst 2, 1) := by decide +kernel
theorem dX11_readLaw_207 : decode cX11_readLaw 207 = .ok (.iload_n 3, 1) := by decide +kernel
theorem dX11_readLaw_208 : decode cX11_readLaw 208 = .ok (.imul, 1) := by decide +kernel
theorem dX11_readLaw_209 : decode cX11_readLaw 209 = .ok (.iadd, 1) := by decide +kernel
theorem dX11_readLaw_210 : decode cX11_readLaw 210 = .ok (.iload 4, 2) := by decide +kernel
theorem dX11_readLaw_212 : decode cX11_readLaw 212 = .ok (.iastore, 1) := by decide +kernel
theorem dX11_readLaw_213 : decode cX11_readLaw 213 = .ok (.aload_n 0, 1) := by decide +kernel
theorem dX11_readLaw_214 : decode cX11_readLaw 214 = .ok (.getfield 48, 3) := by decide +kernel
theorem dX11_readLaw_217 : decode cX11_readLaw 217 = .ok (.sipush 202, 3) := by decide +kernel
theorem dX11_readLaw_220 : decode cX11_readLaw 220 = .ok (.iconst 2, 1) := by decide +kernel
theorem dX11_readLaw_221 : decode cX11_readLaw 221 = .ok (.iload_n 3, 1) := by decide +kernel
theorem dX11_readLaw_222 : decode cX11_readLaw 222 = .ok (.imul, 1) := by decide +kernel
theorem dX11_readLaw_223 : decode cX11_readLaw 223 = .ok (.iadd, 1) := by decide +kernel
theorem dX11_readLaw_224 : decode cX11_readLaw 224 = .ok (.iconst 1, 1) := by decide +kernel
theorem dX11_readLaw_225 : decode cX11_readLaw 225 = .ok (.iadd, 1) := by decide +kernel
theorem dX11_readLaw_226 : decode cX11_readLaw 226 = .ok (.aload_n 0, 1) := by decide +kernel
theorem dX11_readLaw_227 : decode cX11_readLaw 227 = .ok (.getfield 48, 3) := by decide +kernel
theorem dX11_readLaw_230 : decode cX11_readLaw 230 = .ok (.iconst 3, 1) := by decide +kernel
theorem dX11_readLaw_231 : decode cX11_readLaw 231 = .ok (.iaload, 1) := by decide +kernel
theorem dX11_readLaw_232 : decode cX11_readLaw 232 = .ok (.iload 4, 2) := by decide +kernel
theorem dX11_readLaw_234 : decode cX11_readLaw 234 = .ok (.isub, 1) := by decide +kernel
theorem dX11_readLaw_235 : decode cX11_readLaw 235 = .ok (.iastore, 1) := by decide +kernel
theorem dX11_readLaw_236 : decode cX11_readLaw 236 = .ok (.return_, 1) := by decide +kernel
theorem dX11_readLine_0 : decode cX11_readLine 0 = .ok (.aload_n 0, 1) := by decide +kernel
theorem dX11_readLine_1 : decode cX11_readLine 1 = .ok (.ldc 210, 2) := by decide +kernel
theorem dX11_readLine_3 : decode cX11_readLine 3 = .ok (.invokevirtual 156, 3) := by decide +kernel
theorem dX11_readLine_6 : decode cX11_readLine 6 = .ok (.ifCond .ne 57, 3) := by decide +kernel
theorem dX11_readLine_9 : decode cX11_readLine 9 = .ok (.aload_n 0, 1) := by decide +kernel
theorem dX11_readLine_10 : decode cX11_readLine 10 = .ok (.ldc 212, 2) := by decide +kernel
theorem dX11_readLine_12 : decode cX11_readLine 12 = .ok (.invokevirtual 156, 3) := by decide +kernel
theorem dX11_readLine_15 : decode cX11_readLine 15 = .ok (.ifCond .ne 48, 3) := by decide +kernel
theorem dX11_readLine_18 : decode cX11_readLine 18 = .ok (.aload_n 0, 1) := by decide +kernel
theorem dX11_readLine_19 : decode cX11_readLine 19 = .ok (.ldc 214, 2) := by decide +kernel
theorem dX11_readLine_21 : decode cX11_readLine 21 = .ok (.invokevirtual 156, 3) := by decide +kernel
theorem dX11_readLine_24 : decode cX11_readLine 24 = .ok (.ifCond .ne 39, 3) := by decide +kernel
theorem dX11_readLine_27 : decode cX11_readLine 27 = .ok (.aload_n 0, 1) := by decide +kernel
theorem dX11_readLine_28 : decode cX11_readLine 28 = .ok (.ldc 216, 2) := by decide +kernel
theorem dX11_readLine_30 : decode cX11_readLine 30 = .ok (.invokevirtual 156, 3) := by decide +kernel
theorem dX11_readLine_33 : decode cX11_readLine 33 = .ok (.ifCond .ne 30, 3) := by decide +kernel
theorem dX11_readLine_36 : decode cX11_readLine 36 = .ok (.aload_n 0, 1) := by decide +kernel
theorem dX11_readLine_37 : decode cX11_readLine 37 = .ok (.ldc 218, 2) := by decide +kernel
theorem dX11_readLine_39 : decode cX11_readLine 39 = .ok (.invokevirtual 156, 3) := by decide +kernel
theorem dX11_readLine_42 : decode cX11_readLine 42 = .ok (.ifCond .ne 21, 3) := by decide +kernel
theorem dX11_readLine_45 : decode cX11_readLine 45 = .ok (.aload_n 0, 1) := by decide +kernel
theorem dX11_readLine_46 : decode cX11_readLine 46 = .ok (.ldc 220, 2) := by decide +kernel
theorem dX11_readLine_48 : decode cX11_readLine 48 = .ok (.invokevirtual 156, 3) := by decide +kernel
theorem dX11_readLine_51 : decode cX11_readLine 51 = .ok (.ifCond .ne 12, 3) := by decide +kernel
theorem dX11_readLine_54 : decode cX11_readLine 54 = .ok (.aload_n 0, 1) := by decide +kernel
theorem dX11_readLine_55 : decode cX11_readLine 55 = .ok (.ldc 222, 2) := by decide +kernel
theorem dX11_readLine_57 : decode cX11_readLine 57 = .ok (.invokevirtual 156, 3) := by decide +kernel
theorem dX11_readLine_60 : decode cX11_readLine 60 = .ok (.ifCond .eq 7, 3) := by decide +kernel
theorem dX11_readLine_63 : decode cX11_readLine 63 = .ok (.iconst 1, 1) := by decide +kernel
theorem dX11_readLine_64 : decode cX11_readLine 64 = .ok (.goto 4, 3) := by decide +kernel
theorem dX11_readLine_67 : decode cX11_readLine 67 = .ok (.iconst 0, 1) := by decide +kernel
theorem dX11_readLine_68 : decode cX11_readLine 68 = .ok (.istore_n 1, 1) := by decide +kernel
theorem dX11_readLine_69 : decode cX11_readLine 69 = .ok (.iload_n 1, 1) := by decide +kernel
theorem dX11_readLine_70 : decode cX11_readLine 70 = .ok (.ifCond .ne 8, 3) := by decide +kernel
theorem dX11_readLine_73 : decode cX11_readLine 73 = .ok (.aload_n 0, 1) := by decide +kernel
theorem dX11_readLine_74 : decode cX11_readLine 74 = .ok (.iconst 1, 1) := by decide +kernel
theorem dX11_readLine_75 : decode cX11_readLine 75 = .ok (.invokevirtual 166, 3) := by decide +kernel
theorem dX11_readLine_78 : decode cX11_readLine 78 = .ok (.aload_n 0, 1) := by decide +kernel
theorem dX11_readLine_79 : decode cX11_readLine 79 = .ok (.ldc 220, 2) := by decide +kernel
theorem dX11_readLine_81 : decode cX11_readLine 81 = .ok (.invokevirtual 156, 3) := by decide +kernel
theorem dX11_readLine_84 : decode cX11_readLine 84 = .ok (.ifCond .eq 15, 3) := by decide +kernel
theorem dX11_readLine_87 : decode cX11_readLine 87 = .ok (.aload_n 0, 1) := by decide +kernel
theorem dX11_readLine_88 : decode cX11_readLine 88 = .ok (.getfield 224, 3) := by decide +kernel
theorem dX11_readLine_91 : decode cX11_readLine 91 = .ok (.ifCond .eq 8, 3) := by decide +kernel
theorem dX11_readLine_94 : decode cX11_readLine 94 = .ok (.aload_n 0, 1) := by decide +kernel
theorem dX11_readLine_95 : decode cX11_readLine 95 = .ok (.iconst 2, 1) := by decide +kernel
theorem dX11_readLine_96 : decode cX11_readLine 96 = .ok (.invokevirtual 166, 3) := by decide +kernel
theorem dX11_readLine_99 : decode cX11_readLine 99 = .ok (.aload_n 0, 1) := by decide +kernel
theorem dX11_readLine_100 : decode cX11_readLine 100 = .ok (.ldc 210, 2) := by decide +kernel
theorem dX11_readLine_102 : decode cX11_readLine 102 = .ok (.invokevirtual 156, 3) := by decide +kernel
theorem dX11_readLine_105 : decode cX11_readLine 105 = .ok (.ifCond .eq 14, 3) := by decide +kernel
theorem dX11_readLine_108 : decode cX11_readLine 108 = .ok (.aload_n 0, 1) := by decide +kernel
theorem dX11_readLine_109 : decode cX11_readLine 109 = .ok (.getfield 48, 3) := by decide +kernel
theorem dX11_readLine_112 : decode cX11_readLine 112 = .ok (.iconst 1, 1) := by decide +kernel
theorem dX11_readLine_113 : decode cX11_readLine 113 = .ok (.iaload, 1) := by decide +kernel
theorem dX11_readLine_114 : decode cX11_readLine 114 = .ok (.bipush 24, 2) := by decide +kernel
theorem dX11_readLine_116 : decode cX11_readLine 116 = .ok (.if_icmp .eq 23, 3) := by decide +kernel
theorem dX11_readLine_119 : decode cX11_readLine 119 = .ok (.aload_n 0, 1) := by decide +kernel
theorem dX11_readLine_120 : decode cX11_readLine 120 = .ok (.ldc 212, 2) := by decide +kernel
theorem dX11_readLine_122 : decode cX11_readLine 122 = .ok (.invokevirtual 156, 3) := by decide +kernel
theorem dX11_readLine_125 : decode cX11_readLine 125 = .ok (.ifCond .eq 19, 3) := by decide +kernel
theorem dX11_readLine_128 : decode cX11_readLine 128 = .ok (.aload_n 0, 1) := by decide +kernel
theorem dX11_readLine_129 : decode cX11_readLine 129 = .ok (.getfield 48, 3) := by decide +kernel
theorem dX11_readLine_132 : decode cX11_readLine 132 = .ok (.iconst 2, 1) := by decide +kernel
theorem dX11_readLine_133 : decode cX11_readLine 133 = .ok (.iaload, 1) := by decide +kernel
theorem dX11_readLine_134 : decode cX11_readLine 134 = .ok (.bipush 12, 2) := by decide +kernel
theorem dX11_readLine_136 : decode cX11_readLine 136 = .ok (.if_icmp .ne 8, 3) := by decide +kernel
theorem dX11_readLine_139 : decode cX11_readLine 139 = .ok (.aload_n 0, 1) := by decide +kernel
theorem dX11_readLine_140 : decode cX11_readLine 140 = .ok (.iconst 3, 1) := by decide +kernel
theorem dX11_readLine_141 : decode cX11_readLine 141 = .ok (.invokevirtual 166, 3) := by decide +kernel
theorem dX11_readLine_144 : decode cX11_readLine 144 = .ok (.aload_n 0, 1) := by decide +kernel
theorem dX11_readLine_145 : decode cX11_readLine 145 = .ok (.invokevirtual 142, 3) := by decide +kernel
theorem dX11_readLine_148 : decode cX11_readLine 148 = .ok (.ifCond .ne 4, 3) := by decide +kernel
theorem dX11_readLine_151 : decode cX11_readLine 151 = .ok (.return_, 1) := by decide +kernel
theorem dX11_readLine_152 : decode cX11_readLine 152 = .ok (.aload_n 0, 1) := by decide +kernel
theorem dX11_readLine_153 : decode cX11_readLine 153 = .ok (.ldc 210, 2) := by decide +kernel
theorem dX11_readLine_155 : decode cX11_readLine 155 = .ok (.invokevirtual 163, 3) := by decide +kernel
theorem dX11_readLine_158 : decode cX11_readLine 158 = .ok (.ifCond .eq 52, 3) := by decide +kernel
theorem dX11_readLine_161 : decode cX11_readLine 161 = .ok (.aload_n 0, 1) := by decide +kernel
theorem dX11_readLine_162 : decode cX11_readLine 162 = .ok (.ldc 181, 2) := by decide +kernel
theorem dX11_readLine_164 : decode cX11_readLine 164 = .ok (.invokevirtual 195, 3) := by decide +kernel
theorem dX11_readLine_167 : decode cX11_readLine 167 = .ok (.aload_n 0, 1) := by decide +kernel
theorem dX11_readLine_168 : decode cX11_readLine 168 = .ok (.iconst 0, 1) := by decide +kernel
theorem dX11_readLine_169 : decode cX11_readLine 169 = .ok (.bipush 9, 2) := by decide +kernel
theorem dX11_readLine_171 : decode cX11_readLine 171 = .ok (.invokevirtual 187, 3) := by decide +kernel
theorem dX11_readLine_174 : decode cX11_readLine 174 = .ok (.istore_n 2, 1) := by decide +kernel
theorem dX11_readLine_175 : decode cX11_readLine 175 = .ok (.aload_n 0, 1) := by decide +kernel
theorem dX11_readLine_176 : decode cX11_readLine 176 = .ok (.invokevirtual 142, 3) := by decide +kernel
theorem dX11_readLine_179 : decode cX11_readLine 179 = .ok (.ifCond .eq 28, 3) := by decide +kernel
theorem dX11_readLine_182 : decode cX11_readLine 182 = .ok (.aload_n 0, 1) := by decide +kernel
theorem dX11_readLine_183 : decode cX11_readLine 183 = .ok (.getfield 48, 3) := by decide +kernel
theorem dX11_readLine_186 : decode cX11_readLine 186 = .ok (.bipush 10, 2) := by decide +kernel
theorem dX11_readLine_188 : decode cX11_readLine 188 = .ok (.aload_n 0, 1) := by decide +kernel
theorem dX11_readLine_189 : decode cX11_readLine 189 = .ok (.getfield 48, 3) := by decide +kernel
theorem dX11_readLine_192 : decode cX11_readLine 192 = .ok (.iconst 1, 1) := by decide +kernel
theorem dX11_readLine_193 : decode cX11_readLine 193 = .ok (.iaload, 1) := by decide +kernel
theorem dX11_readLine_194 : decode cX11_readLine 194 = .ok (.iadd, 1) := by decide +kernel
theorem dX11_readLine_195 : decode cX11_readLine 195 = .ok (.iload_n 2, 1) := by decide +kernel
theorem dX11_readLine_196 : decode cX11_readLine 196 = .ok (.iastore, 1) := by decide +kernel
theorem dX11_readLine_197 : decode cX11_readLine 197 = .ok (.aload_n 0, 1) := by decide +kernel
theorem dX11_readLine_198 : decode cX11_readLine 198 = .ok (.getfield 48, 3) := by decide +kernel
theorem dX11_readLine_201 : decode cX11_readLine 201 = .ok (.iconst 1, 1) := by decide +kernel
theorem dX11_readLine_202 : decode cX11_readLine 202 = .ok (.dup2, 1) := by decide +kernel
theorem dX11_readLine_203 : decode cX11_readLine 203 = .ok (.iaload, 1) := by decide +kernel
theorem dX11_readLine_204 : decode cX11_readLine 204 = .ok (.iconst 1, 1) := by decide +kernel
theorem dX11_readLine_205 : decode cX11_readLine 205 = .ok (.iadd, 1) := by decide +kernel
theorem dX11_readLine_206 : decode cX11_readLine 206 = .ok (.iastore, 1) := by decide +kernel
theorem dX11_readLine_207 : decode cX11_readLine 207 = .ok (.goto 164, 3) := by decide +kernel
theorem dX11_readLine_210 : decode cX11_readLine 210 = .ok (.aload_n 0, 1) := by decide +kernel
theorem dX11_readLine_211 : decode cX11_readLine 211 = .ok (.ldc 212, 2) := by decide +kernel
theorem dX11_readLine_213 : decode cX11_readLine 213 = .ok (.invokevirtual 163, 3) := by decide +kernel
theorem dX11_readLine_216 : decode cX11_readLine 216 = .ok (.ifCond .eq 10, 3) := by decide +kernel
theorem dX11_readLine_219 : decode cX11_readLine 219 = .ok (.aload_n 0, 1) := by decide +kernel
theorem dX11_readLine_220 : decode cX11_readLine 220 = .ok (.invokevirtual 228, 3) := by decide +kernel
theorem dX11_readLine_223 : decode cX11_readLine 223 = .ok (.goto 148, 3) := by decide +kernel
theorem dX11_readLine_226 : decode cX11_readLine 226 = .ok (.aload_n 0, 1) := by decide +kernel
theorem dX11_readLine_227 : decode cX11_readLine 227 = .ok (.ldc 220, 2) := by decide +kernel
theorem dX11_readLine_229 : decode cX11_readLine 229 = .ok (.invokevirtual 163, 3) := by decide +kernel
theorem dX11_readLine_232 : decode cX11_readLine 232 = .ok (.ifCond .eq 25, 3) := by decide +kernel
theorem dX11_readLine_235 : decode cX11_readLine 235 = .ok (.aload_n 0, 1) := by decide +kernel
theorem dX11_readLine_236 : decode cX11_readLine 236 = .ok (.iconst 1, 1) := by decide +kernel
theorem dX11_readLine_237 : decode cX11_readLine 237 = .ok (.putfield 224, 3) := by decide +kernel
theorem dX11_readLine_240 : decode cX11_readLine 240 = .ok (.aload_n 0, 1) := by decide +kernel
theorem dX11_readLine_241 : decode cX11_readLine 241 = .ok (.getfield 48, 3) := by decide +kernel
theorem dX11_readLine_244 : decode cX11_readLine 244 = .ok (.iconst 4, 1) := by decide +kernel
theorem dX11_readLine_245 : decode cX11_readLine 245 = .ok (.aload_n 0, 1) := by decide +kernel
theorem dX11_readLine_246 : decode cX11_readLine 246 = .ok (.iconst 0, 1) := by decide +kernel
theorem dX11_readLine_247 : decode cX11_readLine 247 = .ok (.sipush 5000, 3) := by decide +kernel
theorem dX11_readLine_250 : decode cX11_readLine 250 = .ok (.invokevirtual 187, 3) := by decide +kernel
theorem dX11_readLine_253 : decode cX11_readLine 253 = .ok (.iastore, 1) := by decide +kernel
theorem dX11_readLine_254 : decode cX11_readLine 254 = .ok (.goto 117, 3) := by decide +kernel
theorem dX11_readLine_257 : decode cX11_readLine 257 = .ok (.aload_n 0, 1) := by decide +kernel
theorem dX11_readLine_258 : decode cX11_readLine 258 = .ok (.ldc 222, 2) := by decide +kernel
theorem dX11_readLine_260 : decode cX11_readLine 260 = .ok (.invokevirtual 163, 3) := by decide +kernel
theorem dX11_readLine_263 : decode cX11_readLine 263 = .ok (.ifCond .eq 71, 3) := by decide +kernel
theorem dX11_readLine_266 : decode cX11_readLine 266 = .ok (.aload_n 0, 1) := by decide +kernel
theorem dX11_readLine_267 : decode cX11_readLine 267 = .ok (.invokevirtual 190, 3) := by decide +kernel
theorem dX11_readLine_270 : decode cX11_readLine 270 = .ok (.istore_n 2, 1) := by decide +kernel
theorem dX11_readLine_271 : decode cX11_readLine 271 = .ok (.iload_n 2, 1) := by decide +kernel
theorem dX11_readLine_272 : decode cX11_readLine 272 = .ok (.iconst (-1), 1) := by decide +kernel
theorem dX11_readLine_273 : decode cX11_readLine 273 = .ok (.if_icmp .ne 11, 3) := by decide +kernel
theorem dX11_readLine_276 : decode cX11_readLine 276 = .ok (.aload_n 0, 1) := by decide +kernel
theorem dX11_readLine_277 : decode cX11_readLine 277 = .ok (.iconst 1, 1) := by decide +kernel
theorem dX11_readLine_278 : decode cX11_readLine 278 = .ok (.invokevirtual 166, 3) := by decide +kernel
theorem dX11_readLine_281 : decode cX11_readLine 281 = .ok (.goto 17, 3) := by decide +kernel
theorem dX11_readLine_284 : decode cX11_readLine 284 = .ok (.aload_n 0, 1) := by decide +kernel
theorem dX11_readLine_285 : decode cX11_readLine 285 = .ok (.getfield 51, 3) := by decide +kernel
theorem dX11_readLine_288 : decode cX11_readLine 288 = .ok (.iload_n 2, 1) := by decide +kernel
theorem dX11_readLine_289 : decode cX11_readLine 289 = .ok (.baload, 1) := by decide +kernel
theorem dX11_readLine_290 : decode cX11_readLine 290 = .ok (.ifCond .eq 8, 3) := by decide +kernel
theorem dX11_readLine_293 : decode cX11_readLine 293 = .ok (.aload_n 0, 1) := by decide +kernel
theorem dX11_readLine_294 : decode cX11_readLine 294 = .ok (.iconst 2, 1) := by decide +kernel
theorem dX11_readLine_295 : decode cX11_readLine 295 = .ok (.invokevirtual 166, 3) := by decide +kernel
theorem dX11_readLine_298 : decode cX11_readLine 298 = .ok (.aload_n 0, 1) := by decide +kernel
theorem dX11_readLine_299 : decode cX11_readLine 299 = .ok (.invokevirtual 142, 3) := by decide +kernel
theorem dX11_readLine_302 : decode cX11_readLine 302 = .ok (.ifCond .eq 29, 3) := by decide +kernel
theorem dX11_readLine_305 : decode cX11_readLine 305 = .ok (.aload_n 0, 1) := by decide +kernel
theorem dX11_readLine_306 : decode cX11_readLine 306 = .ok (.getfield 51, 3) := by decide +kernel
theorem dX11_readLine_309 : decode cX11_readLine 309 = .ok (.iload_n 2, 1) := by decide +kernel
theorem dX11_readLine_310 : decode cX11_readLine 310 = .ok (.iconst 1, 1) := by decide +kernel
theorem dX11_readLine_311 : decode cX11_readLine 311 = .ok (.bastore, 1) := by decide +kernel
theorem dX11_readLine_312 : decode cX11_readLine 312 = .ok (.aload_n 0, 1) := by decide +kernel
theorem dX11_readLine_313 : decode cX11_readLine 313 = .ok (.invokevirtual 160, 3) := by decide +kernel
theorem dX11_readLine_316 : decode cX11_readLine 316 = .ok (.aload_n 0, 1) := by decide +kernel
theorem dX11_readLine_317 : decode cX11_readLine 317 = .ok (.getfield 48, 3) := by decide +kernel
theorem dX11_readLine_320 : decode cX11_readLine 320 = .ok (.iconst 5, 1) := by decide +kernel
theorem dX11_readLine_321 : decode cX11_readLine 321 = .ok (.iload_n 2, 1) := by decide +kernel
theorem dX11_readLine_322 : decode cX11_readLine 322 = .ok (.iadd, 1) := by decide +kernel
theorem dX11_readLine_323 : decode cX11_readLine 323 = .ok (.aload_n 0, 1) := by decide +kernel
theorem dX11_readLine_324 : decode cX11_readLine 324 = .ok (.iconst 0, 1) := by decide +kernel
theorem dX11_readLine_325 : decode cX11_readLine 325 = .ok (.bipush 100, 2) := by decide +kernel
theorem dX11_readLine_327 : decode cX11_readLine 327 = .ok (.invokevirtual 187, 3) := by decide +kernel
theorem dX11_readLine_330 : decode cX11_readLine 330 = .ok (.iastore, 1) := by decide +kernel
theorem dX11_readLine_331 : decode cX11_readLine 331 = .ok (.goto 40, 3) := by decide +kernel
theorem dX11_readLine_334 : decode cX11_readLine 334 = .ok (.aload_n 0, 1) := by decide +kernel
theorem dX11_readLine_335 : decode cX11_readLine 335 = .ok (.ldc 214, 2) := by decide +kernel
theorem dX11_readLine_337 : decode cX11_readLine 337 = .ok (.invokevirtual 156, 3) := by decide +kernel
theorem dX11_readLine_340 : decode cX11_readLine 340 = .ok (.ifCond .eq 7, 3) := by decide +kernel
theorem dX11_readLine_343 : decode cX11_readLine 343 = .ok (.iconst 0, 1) := by decide +kernel
theorem dX11_readLine_344 : decode cX11_readLine 344 = .ok (.goto 17, 3) := by decide +kernel
theorem dX11_readLine_347 : decode cX11_readLine 347 = .ok (.aload_n 0, 1) := by decide +kernel
theorem dX11_readLine_348 : decode cX11_readLine 348 = .ok (.ldc 216, 2) := by decide +kernel
theorem dX11_readLine_350 : decode cX11_readLine 350 = .ok (.invokevirtual 156, 3) := by decide +kernel
theorem dX11_readLine_353 : decode cX11_readLine 353 = .ok (.ifCond .eq 7, 3) := by decide +kernel
theorem dX11_readLine_356 : decode cX11_readLine 356 = .ok (.iconst 1, 1) := by decide +kernel
theorem dX11_readLine_357 : decode cX11_readLine 357 = .ok (.goto 4, 3) := by decide +kernel
theorem dX11_readLine_360 : decode cX11_readLine 360 = .ok (.iconst 2, 1) := by decide +kernel
theorem dX11_readLine_361 : decode cX11_readLine 361 = .ok (.istore_n 2, 1) := by decide +kernel
theorem dX11_readLine_362 : decode cX11_readLine 362 = .ok (.aload_n 0, 1) := by decide +kernel
theorem dX11_readLine_363 : decode cX11_readLine 363 = .ok (.invokevirtual 160, 3) := by decide +kernel
theorem dX11_readLine_366 : decode cX11_readLine 366 = .ok (.aload_n 0, 1) := by decide +kernel
theorem dX11_readLine_367 : decode cX11_readLine 367 = .ok (.iload_n 2, 1) := by decide +kernel
theorem dX11_readLine_368 : decode cX11_readLine 368 = .ok (.invokevirtual 231, 3) := by decide +kernel
theorem dX11_readLine_371 : decode cX11_readLine 371 = .ok (.aload_n 0, 1) := by decide +kernel
theorem dX11_readLine_372 : decode cX11_readLine 372 = .ok (.getfield 118, 3) := by decide +kernel
theorem dX11_readLine_375 : decode cX11_readLine 375 = .ok (.iconst 3, 1) := by decide +kernel
theorem dX11_readLine_376 : decode cX11_readLine 376 = .ok (.if_icmp .eq 8, 3) := by decide +kernel
theorem dX11_readLine_379 : decode cX11_readLine 379 = .ok (.aload_n 0, 1) := by decide +kernel
theorem dX11_readLine_380 : decode cX11_readLine 380 = .ok (.iconst 1, 1) := by decide +kernel
theorem dX11_readLine_381 : decode cX11_readLine 381 = .ok (.invokevirtual 166, 3) := by decide +kernel
theorem dX11_readLine_384 : decode cX11_readLine 384 = .ok (.aload_n 0, 1) := by decide +kernel
theorem dX11_readLine_385 : decode cX11_readLine 385 = .ok (.invokevirtual 142, 3) := by decide +kernel
theorem dX11_readLine_388 : decode cX11_readLine 388 = .ok (.ifCond .eq 7, 3) := by decide +kernel
theorem dX11_readLine_391 : decode cX11_readLine 391 = .ok (.aload_n 0, 1) := by decide +kernel
theorem dX11_readLine_392 : decode cX11_readLine 392 = .ok (.invokevirtual 160, 3) := by decide +kernel
theorem dX11_readLine_395 : decode cX11_readLine 395 = .ok (.aload_n 0, 1) := by decide +kernel
theorem dX11_readLine_396 : decode cX11_readLine 396 = .ok (.getfield 48, 3) := by decide +kernel
theorem dX11_readLine_399 : decode cX11_readLine 399 = .ok (.iconst 0, 1) := by decide +kernel
theorem dX11_readLine_400 : decode cX11_readLine 400 = .ok (.dup2, 1) := by decide +kernel
theorem dX11_readLine_401 : decode cX11_readLine 401 = .ok (.iaload, 1) := by decide +kernel
theorem dX11_readLine_402 : decode cX11_readLine 402 = .ok (.iconst 1, 1) := by decide +kernel
theorem dX11_readLine_403 : decode cX11_readLine 403 = .ok (.iadd, 1) := by decide +kernel
theorem dX11_readLine_404 : decode cX11_readLine 404 = .ok (.iastore, 1) := by decide +kernel
theorem dX11_readLine_405 : decode cX11_readLine 405 = .ok (.return_, 1) := by decide +kernel
theorem dX11_text_0 : decode cX11_text 0 = .ok (.aload_n 0, 1) := by decide +kernel
theorem dX11_text_1 : decode cX11_text 1 = .ok (.aload_n 0, 1) := by decide +kernel
theorem dX11_text_2 : decode cX11_text 2 = .ok (.getfield 102, 3) := by decide +kernel
theorem dX11_text_5 : decode cX11_text 5 = .ok (.putfield 105, 3) := by decide +kernel
theorem dX11_text_8 : decode cX11_text 8 = .ok (.aload_n 0, 1) := by decide +kernel
theorem dX11_text_9 : decode cX11_text 9 = .ok (.iconst 0, 1) := by decide +kernel
theorem dX11_text_10 : decode cX11_text 10 = .ok (.putfield 102, 3) := by decide +kernel
theorem dX11_text_13 : decode cX11_text 13 = .ok (.aload_n 0, 1) := by decide +kernel
theorem dX11_text_14 : decode cX11_text 14 = .ok (.iconst 0, 1) := by decide +kernel
theorem dX11_text_15 : decode cX11_text 15 = .ok (.putfield 108, 3) := by decide +kernel
theorem dX11_text_18 : decode cX11_text 18 = .ok (.aload_n 0, 1) := by decide +kernel
theorem dX11_text_19 : decode cX11_text 19 = .ok (.iconst 0, 1) := by decide +kernel
theorem dX11_text_20 : decode cX11_text 20 = .ok (.putfield 139, 3) := by decide +kernel
theorem dX11_text_23 : decode cX11_text 23 = .ok (.aload_n 0, 1) := by decide +kernel
theorem dX11_text_24 : decode cX11_text 24 = .ok (.iconst (-1), 1) := by decide +kernel
theorem dX11_text_25 : decode cX11_text 25 = .ok (.putfield 45, 3) := by decide +kernel
theorem dX11_text_28 : decode cX11_text 28 = .ok (.iconst 0, 1) := by decide +kernel
theorem dX11_text_29 : decode cX11_text 29 = .ok (.istore_n 1, 1) := by decide +kernel
theorem dX11_text_30 : decode cX11_text 30 = .ok (.iload_n 1, 1) := by decide +kernel
theorem dX11_text_31 : decode cX11_text 31 = .ok (.sipush 1120, 3) := by decide +kernel
theorem dX11_text_34 : decode cX11_text 34 = .ok (.if_icmp .ge 16, 3) := by decide +kernel
theorem dX11_text_37 : decode cX11_text 37 = .ok (.aload_n 0, 1) := by decide +kernel
theorem dX11_text_38 : decode cX11_text 38 = .ok (.getfield 48, 3) := by decide +kernel
theorem dX11_text_41 : decode cX11_text 41 = .ok (.iload_n 1, 1) := by decide +kernel
theorem dX11_text_42 : decode cX11_text 42 = .ok (.iconst 0, 1) := by decide +kernel
theorem dX11_text_43 : decode cX11_text 43 = .ok (.iastore, 1) := by decide +kernel
theorem dX11_text_44 : decode cX11_text 44 = .ok (.iinc 1 1, 3) := by decide +kernel
theorem dX11_text_47 : decode cX11_text 47 = .ok (.goto (-17), 3) := by decide +kernel
theorem dX11_text_50 : decode cX11_text 50 = .ok (.aload_n 0, 1) := by decide +kernel
theorem dX11_text_51 : decode cX11_text 51 = .ok (.iconst 0, 1) := by decide +kernel
theorem dX11_text_52 : decode cX11_text 52 = .ok (.putfield 224, 3) := by decide +kernel
theorem dX11_text_55 : decode cX11_text 55 = .ok (.iconst 0, 1) := by decide +kernel
theorem dX11_text_56 : decode cX11_text 56 = .ok (.istore_n 1, 1) := by decide +kernel
theorem dX11_text_57 : decode cX11_text 57 = .ok (.iload_n 1, 1) := by decide +kernel
theorem dX11_text_58 : decode cX11_text 58 = .ok (.iconst 4, 1) := by decide +kernel
theorem dX11_text_59 : decode cX11_text 59 = .ok (.if_icmp .ge 16, 3) := by decide +kernel
theorem dX11_text_62 : decode cX11_text 62 = .ok (.aload_n 0, 1) := by decide +kernel
theorem dX11_text_63 : decode cX11_text 63 = .ok (.getfield 51, 3) := by decide +kernel
theorem dX11_text_66 : decode cX11_text 66 = .ok (.iload_n 1, 1) := by decide +kernel
theorem dX11_text_67 : decode cX11_text 67 = .ok (.iconst 0, 1) := by decide +kernel
theorem dX11_text_68 : decode cX11_text 68 = .ok (.bastore, 1) := by decide +kernel
theorem dX11_text_69 : decode cX11_text 69 = .ok (.iinc 1 1, 3) := by decide +kernel
theorem dX11_text_72 : decode cX11_text 72 = .ok (.goto (-15), 3) := by decide +kernel
theorem dX11_text_75 : decode cX11_text 75 = .ok (.aload_n 0, 1) := by decide +kernel
theorem dX11_text_76 : decode cX11_text 76 = .ok (.invokevirtual 160, 3) := by decide +kernel
theorem dX11_text_79 : decode cX11_text 79 = .ok (.aload_n 0, 1) := by decide +kernel
theorem dX11_text_80 : decode cX11_text 80 = .ok (.invokevirtual 142, 3) := by decide +kernel
theorem dX11_text_83 : decode cX11_text 83 = .ok (.ifCond .eq 17, 3) := by decide +kernel
theorem dX11_text_86 : decode cX11_text 86 = .ok (.aload_n 0, 1) := by decide +kernel
theorem dX11_text_87 : decode cX11_text 87 = .ok (.getfield 118, 3) := by decide +kernel
theorem dX11_text_90 : decode cX11_text 90 = .ok (.ifCond .eq 10, 3) := by decide +kernel
theorem dX11_text_93 : decode cX11_text 93 = .ok (.aload_n 0, 1) := by decide +kernel
theorem dX11_text_94 : decode cX11_text 94 = .ok (.invokevirtual 234, 3) := by decide +kernel
theorem dX11_text_97 : decode cX11_text 97 = .ok (.goto (-18), 3) := by decide +kernel
theorem dX11_text_100 : decode cX11_text 100 = .ok (.aload_n 0, 1) := by decide +kernel
theorem dX11_text_101 : decode cX11_text 101 = .ok (.invokevirtual 142, 3) := by decide +kernel
theorem dX11_text_104 : decode cX11_text 104 = .ok (.ifCond .ne 6, 3) := by decide +kernel
theorem dX11_text_107 : decode cX11_text 107 = .ok (.bipush (-4), 2) := by decide +kernel
theorem dX11_text_109 : decode cX11_text 109 = .ok (.ireturn, 1) := by decide +kernel
theorem dX11_text_110 : decode cX11_text 110 = .ok (.iconst 0, 1) := by decide +kernel
theorem dX11_text_111 : decode cX11_text 111 = .ok (.istore_n 1, 1) := by decide +kernel
theorem dX11_text_112 : decode cX11_text 112 = .ok (.iload_n 1, 1) := by decide +kernel
theorem dX11_text_113 : decode cX11_text 113 = .ok (.sipush 1120, 3) := by decide +kernel
theorem dX11_text_116 : decode cX11_text 116 = .ok (.if_icmp .ge 21, 3) := by decide +kernel
theorem dX11_text_119 : decode cX11_text 119 = .ok (.aload_n 0, 1) := by decide +kernel
theorem dX11_text_120 : decode cX11_text 120 = .ok (.getfield 13, 3) := by decide +kernel
theorem dX11_text_123 : decode cX11_text 123 = .ok (.iload_n 1, 1) := by decide +kernel
theorem dX11_text_124 : decode cX11_text 124 = .ok (.aload_n 0, 1) := by decide +kernel
theorem dX11_text_125 : decode cX11_text 125 = .ok (.getfield 48, 3) := by decide +kernel
theorem dX11_text_128 : decode cX11_text 128 = .ok (.iload_n 1, 1) := by decide +kernel
theorem dX11_text_129 : decode cX11_text 129 = .ok (.iaload, 1) := by decide +kernel
theorem dX11_text_130 : decode cX11_text 130 = .ok (.iastore, 1) := by decide +kernel
theorem dX11_text_131 : decode cX11_text 131 = .ok (.iinc 1 1, 3) := by decide +kernel
theorem dX11_text_134 : decode cX11_text 134 = .ok (.goto (-22), 3) := by decide +kernel
theorem dX11_text_137 : decode cX11_text 137 = .ok (.aload_n 0, 1) := by decide +kernel
theorem dX11_text_138 : decode cX11_text 138 = .ok (.getfield 13, 3) := by decide +kernel
theorem dX11_text_141 : decode cX11_text 141 = .ok (.bipush 9, 2) := by decide +kernel
theorem dX11_text_143 : decode cX11_text 143 = .ok (.aload_n 0, 1) := by decide +kernel
theorem dX11_text_144 : decode cX11_text 144 = .ok (.getfield 13, 3) := by decide +kernel
theorem dX11_text_147 : decode cX11_text 147 = .ok (.iconst 2, 1) := by decide +kernel
theorem dX11_text_148 : decode cX11_text 148 = .ok (.iaload, 1) := by decide +kernel
theorem dX11_text_149 : decode cX11_text 149 = .ok (.iastore, 1) := by decide +kernel
theorem dX11_text_150 : decode cX11_text 150 = .ok (.aload_n 0, 1) := by decide +kernel
theorem dX11_text_151 : decode cX11_text 151 = .ok (.invokevirtual 237, 3) := by decide +kernel
theorem dX11_text_154 : decode cX11_text 154 = .ok (.aload_n 0, 1) := by decide +kernel
theorem dX11_text_155 : decode cX11_text 155 = .ok (.iconst 0, 1) := by decide +kernel
theorem dX11_text_156 : decode cX11_text 156 = .ok (.putfield 92, 3) := by decide +kernel
theorem dX11_text_159 : decode cX11_text 159 = .ok (.aload_n 0, 1) := by decide +kernel
theorem dX11_text_160 : decode cX11_text 160 = .ok (.iconst 0, 1) := by decide +kernel
theorem dX11_text_161 : decode cX11_text 161 = .ok (.putfield 95, 3) := by decide +kernel
theorem dX11_text_164 : decode cX11_text 164 = .ok (.aload_n 0, 1) := by decide +kernel
theorem dX11_text_165 : decode cX11_text 165 = .ok (.getfield 13, 3) := by decide +kernel
theorem dX11_text_168 : decode cX11_text 168 = .ok (.iconst 2, 1) := by decide +kernel
theorem dX11_text_169 : decode cX11_text 169 = .ok (.iaload, 1) := by decide +kernel
theorem dX11_text_170 : decode cX11_text 170 = .ok (.ireturn, 1) := by decide +kernel
theorem dX11_clearHead_0 : decode cX11_clearHead 0 = .ok (.iconst 0, 1) := by decide +kernel
theorem dX11_clearHead_1 : decode cX11_clearHead 1 = .ok (.istore_n 1, 1) := by decide +kernel
theorem dX11_clearHead_2 : decode cX11_clearHead 2 = .ok (.iload_n 1, 1) := by decide +kernel
theorem dX11_clearHead_3 : decode cX11_clearHead 3 = .ok (.sipush 2018, 3) := by decide +kernel
theorem dX11_clearHead_6 : decode cX11_clearHead 6 = .ok (.if_icmp .ge 16, 3) := by decide +kernel
theorem dX11_clearHead_9 : decode cX11_clearHead 9 = .ok (.aload_n 0, 1) := by decide +kernel
theorem dX11_clearHead_10 : decode cX11_clearHead 10 = .ok (.getfield 17, 3) := by decide +kernel
theorem dX11_clearHead_13 : decode cX11_clearHead 13 = .ok (.iload_n 1, 1) := by decide +kernel
theorem dX11_clearHead_14 : decode cX11_clearHead 14 = .ok (.iconst 0, 1) := by decide +kernel
theorem dX11_clearHead_15 : decode cX11_clearHead 15 = .ok (.iastore, 1) := by decide +kernel
theorem dX11_clearHead_16 : decode cX11_clearHead 16 = .ok (.iinc 1 1, 3) := by decide +kernel
theorem dX11_clearHead_19 : decode cX11_clearHead 19 = .ok (.goto (-17), 3) := by decide +kernel
theorem dX11_clearHead_22 : decode cX11_clearHead 22 = .ok (.return_, 1) := by decide +kernel
theorem dX11_partOf_0 : decode cX11_partOf 0 = .ok (.aload_n 0, 1) := by decide +kernel
theorem dX11_partOf_1 : decode cX11_partOf 1 = .ok (.getfield 13, 3) := by decide +kernel
theorem dX11_partOf_4 : decode cX11_partOf 4 = .ok (.sipush 220, 3) := by decide +kernel
theorem dX11_partOf_7 : decode cX11_partOf 7 = .ok (.iconst 3, 1) := by decide +kernel
theorem dX11_partOf_8 : decode cX11_partOf 8 = .ok (.iload_n 1, 1) := by decide +kernel
theorem dX11_partOf_9 : decode cX11_partOf 9 = .ok (.imul, 1) := by decide +kernel
theorem dX11_partOf_10 : decode cX11_partOf 10 = .ok (.iadd, 1) := by decide +kernel
theorem dX11_partOf_11 : decode cX11_partOf 11 = .ok (.iconst 1, 1) := by decide +kernel
theorem dX11_partOf_12 : decode cX11_partOf 12 = .ok (.iadd, 1) := by decide +kernel
theorem dX11_partOf_13 : decode cX11_partOf 13 = .ok (.iaload, 1) := by decide +kernel
