theorem dX10_when_52 : decode cX10_when 52 = .ok (.invokevirtual 162, 3) := by decide +kernel
theorem dX10_when_55 : decode cX10_when 55 = .ok (.aload_n 2, 1) := by decide +kernel
theorem dX10_when_56 : decode cX10_when 56 = .ok (.iload_n 1, 1) := by decide +kernel
theorem dX10_when_57 : decode cX10_when 57 = .ok (.invokevirtual 166, 3) := by decide +kernel
theorem dX10_when_60 : decode cX10_when 60 = .ok (.invokestatic 186, 3) := by decide +kernel
theorem dX10_when_63 : decode cX10_when 63 = .ok (.istore 6, 2) := by decide +kernel
theorem dX10_when_65 : decode cX10_when 65 = .ok (.iload 6, 2) := by decide +kernel
theorem dX10_when_67 : decode cX10_when 67 = .ok (.iload 4, 2) := by decide +kernel
theorem dX10_when_69 : decode cX10_when 69 = .ok (.if_icmp .ge 10, 3) := by decide +kernel
theorem dX10_when_72 : decode cX10_when 72 = .ok (.iload 6, 2) := by decide +kernel
theorem dX10_when_74 : decode cX10_when 74 = .ok (.istore 4, 2) := by decide +kernel
theorem dX10_when_76 : decode cX10_when 76 = .ok (.iload 5, 2) := by decide +kernel
theorem dX10_when_78 : decode cX10_when 78 = .ok (.istore_n 3, 1) := by decide +kernel
theorem dX10_when_79 : decode cX10_when 79 = .ok (.aload_n 2, 1) := by decide +kernel
theorem dX10_when_80 : decode cX10_when 80 = .ok (.iconst 1, 1) := by decide +kernel
theorem dX10_when_81 : decode cX10_when 81 = .ok (.invokevirtual 124, 3) := by decide +kernel
theorem dX10_when_84 : decode cX10_when 84 = .ok (.iinc 5 1, 3) := by decide +kernel
theorem dX10_when_87 : decode cX10_when 87 = .ok (.goto (-43), 3) := by decide +kernel
theorem dX10_when_90 : decode cX10_when 90 = .ok (.iload_n 3, 1) := by decide +kernel
theorem dX10_when_91 : decode cX10_when 91 = .ok (.ireturn, 1) := by decide +kernel
theorem dX10_must_0 : decode cX10_must 0 = .ok (.aload_n 0, 1) := by decide +kernel
theorem dX10_must_1 : decode cX10_must 1 = .ok (.getfield 20, 3) := by decide +kernel
theorem dX10_must_4 : decode cX10_must 4 = .ok (.getfield 61, 3) := by decide +kernel
theorem dX10_must_7 : decode cX10_must 7 = .ok (.getfield 78, 3) := by decide +kernel
theorem dX10_must_10 : decode cX10_must 10 = .ok (.iload_n 1, 1) := by decide +kernel
theorem dX10_must_11 : decode cX10_must 11 = .ok (.invokevirtual 107, 3) := by decide +kernel
theorem dX10_must_14 : decode cX10_must 14 = .ok (.ifCond .ne 6, 3) := by decide +kernel
theorem dX10_must_17 : decode cX10_must 17 = .ok (.bipush (-2), 2) := by decide +kernel
theorem dX10_must_19 : decode cX10_must 19 = .ok (.ireturn, 1) := by decide +kernel
theorem dX10_must_20 : decode cX10_must 20 = .ok (.iconst 0, 1) := by decide +kernel
theorem dX10_must_21 : decode cX10_must 21 = .ok (.istore_n 2, 1) := by decide +kernel
theorem dX10_must_22 : decode cX10_must 22 = .ok (.iconst 0, 1) := by decide +kernel
theorem dX10_must_23 : decode cX10_must 23 = .ok (.istore_n 3, 1) := by decide +kernel
theorem dX10_must_24 : decode cX10_must 24 = .ok (.iconst 0, 1) := by decide +kernel
theorem dX10_must_25 : decode cX10_must 25 = .ok (.istore 4, 2) := by decide +kernel
theorem dX10_must_27 : decode cX10_must 27 = .ok (.iload 4, 2) := by decide +kernel
theorem dX10_must_29 : decode cX10_must 29 = .ok (.iconst 4, 1) := by decide +kernel
theorem dX10_must_30 : decode cX10_must 30 = .ok (.if_icmp .ge 43, 3) := by decide +kernel
theorem dX10_must_33 : decode cX10_must 33 = .ok (.aload_n 0, 1) := by decide +kernel
theorem dX10_must_34 : decode cX10_must 34 = .ok (.invokevirtual 162, 3) := by decide +kernel
theorem dX10_must_37 : decode cX10_must 37 = .ok (.aload_n 0, 1) := by decide +kernel
theorem dX10_must_38 : decode cX10_must 38 = .ok (.getfield 20, 3) := by decide +kernel
theorem dX10_must_41 : decode cX10_must 41 = .ok (.getfield 61, 3) := by decide +kernel
theorem dX10_must_44 : decode cX10_must 44 = .ok (.iload_n 1, 1) := by decide +kernel
theorem dX10_must_45 : decode cX10_must 45 = .ok (.iload 4, 2) := by decide +kernel
theorem dX10_must_47 : decode cX10_must 47 = .ok (.invokevirtual 189, 3) := by decide +kernel
theorem dX10_must_50 : decode cX10_must 50 = .ok (.invokestatic 186, 3) := by decide +kernel
theorem dX10_must_53 : decode cX10_must 53 = .ok (.istore 5, 2) := by decide +kernel
theorem dX10_must_55 : decode cX10_must 55 = .ok (.iload 5, 2) := by decide +kernel
theorem dX10_must_57 : decode cX10_must 57 = .ok (.iload_n 3, 1) := by decide +kernel
theorem dX10_must_58 : decode cX10_must 58 = .ok (.if_icmp .le 9, 3) := by decide +kernel
theorem dX10_must_61 : decode cX10_must 61 = .ok (.iload 5, 2) := by decide +kernel
theorem dX10_must_63 : decode cX10_must 63 = .ok (.istore_n 3, 1) := by decide +kernel
theorem dX10_must_64 : decode cX10_must 64 = .ok (.iload 4, 2) := by decide +kernel
theorem dX10_must_66 : decode cX10_must 66 = .ok (.istore_n 2, 1) := by decide +kernel
theorem dX10_must_67 : decode cX10_must 67 = .ok (.iinc 4 1, 3) := by decide +kernel
theorem dX10_must_70 : decode cX10_must 70 = .ok (.goto (-43), 3) := by decide +kernel
theorem dX10_must_73 : decode cX10_must 73 = .ok (.iload_n 2, 1) := by decide +kernel
theorem dX10_must_74 : decode cX10_must 74 = .ok (.ireturn, 1) := by decide +kernel
theorem dX10_verse_0 : decode cX10_verse 0 = .ok (.aload_n 0, 1) := by decide +kernel
theorem dX10_verse_1 : decode cX10_verse 1 = .ok (.getfield 20, 3) := by decide +kernel
theorem dX10_verse_4 : decode cX10_verse 4 = .ok (.getfield 61, 3) := by decide +kernel
theorem dX10_verse_7 : decode cX10_verse 7 = .ok (.getfield 78, 3) := by decide +kernel
theorem dX10_verse_10 : decode cX10_verse 10 = .ok (.iload_n 1, 1) := by decide +kernel
theorem dX10_verse_11 : decode cX10_verse 11 = .ok (.invokevirtual 107, 3) := by decide +kernel
theorem dX10_verse_14 : decode cX10_verse 14 = .ok (.ifCond .eq 20, 3) := by decide +kernel
theorem dX10_verse_17 : decode cX10_verse 17 = .ok (.aload_n 0, 1) := by decide +kernel
theorem dX10_verse_18 : decode cX10_verse 18 = .ok (.getfield 20, 3) := by decide +kernel
theorem dX10_verse_21 : decode cX10_verse 21 = .ok (.getfield 61, 3) := by decide +kernel
theorem dX10_verse_24 : decode cX10_verse 24 = .ok (.getfield 78, 3) := by decide +kernel
theorem dX10_verse_27 : decode cX10_verse 27 = .ok (.iload_n 2, 1) := by decide +kernel
theorem dX10_verse_28 : decode cX10_verse 28 = .ok (.invokevirtual 107, 3) := by decide +kernel
theorem dX10_verse_31 : decode cX10_verse 31 = .ok (.ifCond .ne 6, 3) := by decide +kernel
theorem dX10_verse_34 : decode cX10_verse 34 = .ok (.ldc 181, 2) := by decide +kernel
theorem dX10_verse_36 : decode cX10_verse 36 = .ok (.ireturn, 1) := by decide +kernel
theorem dX10_verse_37 : decode cX10_verse 37 = .ok (.aload_n 0, 1) := by decide +kernel
theorem dX10_verse_38 : decode cX10_verse 38 = .ok (.invokevirtual 162, 3) := by decide +kernel
theorem dX10_verse_41 : decode cX10_verse 41 = .ok (.aload_n 0, 1) := by decide +kernel
theorem dX10_verse_42 : decode cX10_verse 42 = .ok (.getfield 20, 3) := by decide +kernel
theorem dX10_verse_45 : decode cX10_verse 45 = .ok (.getfield 61, 3) := by decide +kernel
theorem dX10_verse_48 : decode cX10_verse 48 = .ok (.iload_n 1, 1) := by decide +kernel
theorem dX10_verse_49 : decode cX10_verse 49 = .ok (.invokevirtual 178, 3) := by decide +kernel
theorem dX10_verse_52 : decode cX10_verse 52 = .ok (.istore_n 3, 1) := by decide +kernel
theorem dX10_verse_53 : decode cX10_verse 53 = .ok (.aload_n 0, 1) := by decide +kernel
theorem dX10_verse_54 : decode cX10_verse 54 = .ok (.invokevirtual 162, 3) := by decide +kernel
theorem dX10_verse_57 : decode cX10_verse 57 = .ok (.aload_n 0, 1) := by decide +kernel
theorem dX10_verse_58 : decode cX10_verse 58 = .ok (.getfield 20, 3) := by decide +kernel
theorem dX10_verse_61 : decode cX10_verse 61 = .ok (.getfield 61, 3) := by decide +kernel
theorem dX10_verse_64 : decode cX10_verse 64 = .ok (.iload_n 2, 1) := by decide +kernel
theorem dX10_verse_65 : decode cX10_verse 65 = .ok (.invokevirtual 178, 3) := by decide +kernel
theorem dX10_verse_68 : decode cX10_verse 68 = .ok (.istore 4, 2) := by decide +kernel
theorem dX10_verse_70 : decode cX10_verse 70 = .ok (.iload_n 3, 1) := by decide +kernel
theorem dX10_verse_71 : decode cX10_verse 71 = .ok (.iconst (-1), 1) := by decide +kernel
theorem dX10_verse_72 : decode cX10_verse 72 = .ok (.if_icmp .eq 14, 3) := by decide +kernel
theorem dX10_verse_75 : decode cX10_verse 75 = .ok (.iload 4, 2) := by decide +kernel
theorem dX10_verse_77 : decode cX10_verse 77 = .ok (.iconst (-1), 1) := by decide +kernel
theorem dX10_verse_78 : decode cX10_verse 78 = .ok (.if_icmp .eq 8, 3) := by decide +kernel
theorem dX10_verse_81 : decode cX10_verse 81 = .ok (.iload 4, 2) := by decide +kernel
theorem dX10_verse_83 : decode cX10_verse 83 = .ok (.ifCond .ne 6, 3) := by decide +kernel
theorem dX10_verse_86 : decode cX10_verse 86 = .ok (.ldc 181, 2) := by decide +kernel
theorem dX10_verse_88 : decode cX10_verse 88 = .ok (.ireturn, 1) := by decide +kernel
theorem dX10_verse_89 : decode cX10_verse 89 = .ok (.iload_n 3, 1) := by decide +kernel
theorem dX10_verse_90 : decode cX10_verse 90 = .ok (.sipush 1000, 3) := by decide +kernel
theorem dX10_verse_93 : decode cX10_verse 93 = .ok (.imul, 1) := by decide +kernel
theorem dX10_verse_94 : decode cX10_verse 94 = .ok (.iload 4, 2) := by decide +kernel
theorem dX10_verse_96 : decode cX10_verse 96 = .ok (.idiv, 1) := by decide +kernel
theorem dX10_verse_97 : decode cX10_verse 97 = .ok (.ireturn, 1) := by decide +kernel
theorem dX10_near_0 : decode cX10_near 0 = .ok (.aload_n 0, 1) := by decide +kernel
theorem dX10_near_1 : decode cX10_near 1 = .ok (.getfield 20, 3) := by decide +kernel
theorem dX10_near_4 : decode cX10_near 4 = .ok (.getfield 61, 3) := by decide +kernel
theorem dX10_near_7 : decode cX10_near 7 = .ok (.getfield 78, 3) := by decide +kernel
theorem dX10_near_10 : decode cX10_near 10 = .ok (.astore 5, 2) := by decide +kernel
theorem dX10_near_12 : decode cX10_near 12 = .ok (.aload 5, 2) := by decide +kernel
theorem dX10_near_14 : decode cX10_near 14 = .ok (.iload_n 1, 1) := by decide +kernel
theorem dX10_near_15 : decode cX10_near 15 = .ok (.invokevirtual 107, 3) := by decide +kernel
theorem dX10_near_18 : decode cX10_near 18 = .ok (.ifCond .eq 23, 3) := by decide +kernel
theorem dX10_near_21 : decode cX10_near 21 = .ok (.aload 5, 2) := by decide +kernel
theorem dX10_near_23 : decode cX10_near 23 = .ok (.iload_n 2, 1) := by decide +kernel
theorem dX10_near_24 : decode cX10_near 24 = .ok (.invokevirtual 107, 3) := by decide +kernel
theorem dX10_near_27 : decode cX10_near 27 = .ok (.ifCond .eq 14, 3) := by decide +kernel
theorem dX10_near_30 : decode cX10_near 30 = .ok (.iload_n 3, 1) := by decide +kernel
theorem dX10_near_31 : decode cX10_near 31 = .ok (.iconst 1, 1) := by decide +kernel
theorem dX10_near_32 : decode cX10_near 32 = .ok (.if_icmp .lt 9, 3) := by decide +kernel
theorem dX10_near_35 : decode cX10_near 35 = .ok (.iload_n 3, 1) := by decide +kernel
theorem dX10_near_36 : decode cX10_near 36 = .ok (.bipush 12, 2) := by decide +kernel
theorem dX10_near_38 : decode cX10_near 38 = .ok (.if_icmp .lt 6, 3) := by decide +kernel
theorem dX10_near_41 : decode cX10_near 41 = .ok (.bipush (-2), 2) := by decide +kernel
theorem dX10_near_43 : decode cX10_near 43 = .ok (.ireturn, 1) := by decide +kernel
theorem dX10_near_44 : decode cX10_near 44 = .ok (.iconst 0, 1) := by decide +kernel
theorem dX10_near_45 : decode cX10_near 45 = .ok (.istore 6, 2) := by decide +kernel
theorem dX10_near_47 : decode cX10_near 47 = .ok (.iconst 1, 1) := by decide +kernel
theorem dX10_near_48 : decode cX10_near 48 = .ok (.istore 7, 2) := by decide +kernel
theorem dX10_near_50 : decode cX10_near 50 = .ok (.iload 7, 2) := by decide +kernel
theorem dX10_near_52 : decode cX10_near 52 = .ok (.aload 5, 2) := by decide +kernel
theorem dX10_near_54 : decode cX10_near 54 = .ok (.getfield 199, 3) := by decide +kernel
theorem dX10_near_57 : decode cX10_near 57 = .ok (.iload_n 1, 1) := by decide +kernel
theorem dX10_near_58 : decode cX10_near 58 = .ok (.iaload, 1) := by decide +kernel
theorem dX10_near_59 : decode cX10_near 59 = .ok (.if_icmp .ge 80, 3) := by decide +kernel
theorem dX10_near_62 : decode cX10_near 62 = .ok (.aload 5, 2) := by decide +kernel
theorem dX10_near_64 : decode cX10_near 64 = .ok (.iload_n 2, 1) := by decide +kernel
theorem dX10_near_65 : decode cX10_near 65 = .ok (.aload 5, 2) := by decide +kernel
theorem dX10_near_67 : decode cX10_near 67 = .ok (.iload_n 1, 1) := by decide +kernel
theorem dX10_near_68 : decode cX10_near 68 = .ok (.iload 7, 2) := by decide +kernel
theorem dX10_near_70 : decode cX10_near 70 = .ok (.iconst 1, 1) := by decide +kernel
theorem dX10_near_71 : decode cX10_near 71 = .ok (.isub, 1) := by decide +kernel
theorem dX10_near_72 : decode cX10_near 72 = .ok (.invokevirtual 203, 3) := by decide +kernel
theorem dX10_near_75 : decode cX10_near 75 = .ok (.invokevirtual 206, 3) := by decide +kernel
theorem dX10_near_78 : decode cX10_near 78 = .ok (.istore 8, 2) := by decide +kernel
theorem dX10_near_80 : decode cX10_near 80 = .ok (.aload 5, 2) := by decide +kernel
theorem dX10_near_82 : decode cX10_near 82 = .ok (.iload_n 2, 1) := by decide +kernel
theorem dX10_near_83 : decode cX10_near 83 = .ok (.aload 5, 2) := by decide +kernel
theorem dX10_near_85 : decode cX10_near 85 = .ok (.iload_n 1, 1) := by decide +kernel
theorem dX10_near_86 : decode cX10_near 86 = .ok (.iload 7, 2) := by decide +kernel
theorem dX10_near_88 : decode cX10_near 88 = .ok (.invokevirtual 203, 3) := by decide +kernel
theorem dX10_near_91 : decode cX10_near 91 = .ok (.invokevirtual 206, 3) := by decide +kernel
theorem dX10_near_94 : decode cX10_near 94 = .ok (.istore 9, 2) := by decide +kernel
theorem dX10_near_96 : decode cX10_near 96 = .ok (.iload 8, 2) := by decide +kernel
theorem dX10_near_98 : decode cX10_near 98 = .ok (.iconst (-1), 1) := by decide +kernel
theorem dX10_near_99 : decode cX10_near 99 = .ok (.if_icmp .eq 34, 3) := by decide +kernel
theorem dX10_near_102 : decode cX10_near 102 = .ok (.iload 9, 2) := by decide +kernel
theorem dX10_near_104 : decode cX10_near 104 = .ok (.iconst (-1), 1) := by decide +kernel
theorem dX10_near_105 : decode cX10_near 105 = .ok (.if_icmp .eq 28, 3) := by decide +kernel
theorem dX10_near_108 : decode cX10_near 108 = .ok (.iload 4, 2) := by decide +kernel
theorem dX10_near_110 : decode cX10_near 110 = .ok (.ifCond .eq 11, 3) := by decide +kernel
theorem dX10_near_113 : decode cX10_near 113 = .ok (.iload 8, 2) := by decide +kernel
theorem dX10_near_115 : decode cX10_near 115 = .ok (.iload 9, 2) := by decide +kernel
theorem dX10_near_117 : decode cX10_near 117 = .ok (.isub, 1) := by decide +kernel
theorem dX10_near_118 : decode cX10_near 118 = .ok (.goto 8, 3) := by decide +kernel
theorem dX10_near_121 : decode cX10_near 121 = .ok (.iload 9, 2) := by decide +kernel
theorem dX10_near_123 : decode cX10_near 123 = .ok (.iload 8, 2) := by decide +kernel
theorem dX10_near_125 : decode cX10_near 125 = .ok (.isub, 1) := by decide +kernel
theorem dX10_near_126 : decode cX10_near 126 = .ok (.iload_n 3, 1) := by decide +kernel
theorem dX10_near_127 : decode cX10_near 127 = .ok (.if_icmp .ne 6, 3) := by decide +kernel
theorem dX10_near_130 : decode cX10_near 130 = .ok (.iinc 6 1, 3) := by decide +kernel
theorem dX10_near_133 : decode cX10_near 133 = .ok (.iinc 7 1, 3) := by decide +kernel
theorem dX10_near_136 : decode cX10_near 136 = .ok (.goto (-86), 3) := by decide +kernel
theorem dX10_near_139 : decode cX10_near 139 = .ok (.iload 6, 2) := by decide +kernel
theorem dX10_near_141 : decode cX10_near 141 = .ok (.ireturn, 1) := by decide +kernel
theorem dX10_fit_0 : decode cX10_fit 0 = .ok (.iload_n 3, 1) := by decide +kernel
theorem dX10_fit_1 : decode cX10_fit 1 = .ok (.ifCond .lt 30, 3) := by decide +kernel
theorem dX10_fit_4 : decode cX10_fit 4 = .ok (.iload_n 3, 1) := by decide +kernel
theorem dX10_fit_5 : decode cX10_fit 5 = .ok (.iload 4, 2) := by decide +kernel
theorem dX10_fit_7 : decode cX10_fit 7 = .ok (.if_icmp .gt 24, 3) := by decide +kernel
theorem dX10_fit_10 : decode cX10_fit 10 = .ok (.iload 4, 2) := by decide +kernel
theorem dX10_fit_12 : decode cX10_fit 12 = .ok (.sipush 1000, 3) := by decide +kernel
theorem dX10_fit_15 : decode cX10_fit 15 = .ok (.if_icmp .gt 16, 3) := by decide +kernel
theorem dX10_fit_18 : decode cX10_fit 18 = .ok (.iload 4, 2) := by decide +kernel
theorem dX10_fit_20 : decode cX10_fit 20 = .ok (.iload_n 3, 1) := by decide +kernel
theorem dX10_fit_21 : decode cX10_fit 21 = .ok (.isub, 1) := by decide +kernel
theorem dX10_fit_22 : decode cX10_fit 22 = .ok (.bipush 30, 2) := by decide +kernel
theorem dX10_fit_24 : decode cX10_fit 24 = .ok (.if_icmp .gt 7, 3) := by decide +kernel
theorem dX10_fit_27 : decode cX10_fit 27 = .ok (.iconst 1, 1) := by decide +kernel
theorem dX10_fit_28 : decode cX10_fit 28 = .ok (.goto 4, 3) := by decide +kernel
theorem dX10_fit_31 : decode cX10_fit 31 = .ok (.iconst 0, 1) := by decide +kernel
theorem dX10_fit_32 : decode cX10_fit 32 = .ok (.istore 6, 2) := by decide +kernel
theorem dX10_fit_34 : decode cX10_fit 34 = .ok (.iload 6, 2) := by decide +kernel
theorem dX10_fit_36 : decode cX10_fit 36 = .ok (.ifCond .eq 30, 3) := by decide +kernel
theorem dX10_fit_39 : decode cX10_fit 39 = .ok (.iload_n 1, 1) := by decide +kernel
theorem dX10_fit_40 : decode cX10_fit 40 = .ok (.ifCond .eq 8, 3) := by decide +kernel
theorem dX10_fit_43 : decode cX10_fit 43 = .ok (.iload_n 1, 1) := by decide +kernel
theorem dX10_fit_44 : decode cX10_fit 44 = .ok (.iconst 1, 1) := by decide +kernel
theorem dX10_fit_45 : decode cX10_fit 45 = .ok (.if_icmp .ne 21, 3) := by decide +kernel
theorem dX10_fit_48 : decode cX10_fit 48 = .ok (.iload_n 2, 1) := by decide +kernel
theorem dX10_fit_49 : decode cX10_fit 49 = .ok (.invokestatic 135, 3) := by decide +kernel
theorem dX10_fit_52 : decode cX10_fit 52 = .ok (.ifCond .eq 14, 3) := by decide +kernel
theorem dX10_fit_55 : decode cX10_fit 55 = .ok (.iload 5, 2) := by decide +kernel
theorem dX10_fit_57 : decode cX10_fit 57 = .ok (.ifCond .lt 9, 3) := by decide +kernel
theorem dX10_fit_60 : decode cX10_fit 60 = .ok (.iload 5, 2) := by decide +kernel
theorem dX10_fit_62 : decode cX10_fit 62 = .ok (.iconst 2, 1) := by decide +kernel
theorem dX10_fit_63 : decode cX10_fit 63 = .ok (.if_icmp .le 6, 3) := by decide +kernel
theorem dX10_fit_66 : decode cX10_fit 66 = .ok (.bipush (-2), 2) := by decide +kernel
theorem dX10_fit_68 : decode cX10_fit 68 = .ok (.ireturn, 1) := by decide +kernel
theorem dX10_fit_69 : decode cX10_fit 69 = .ok (.aload_n 0, 1) := by decide +kernel
theorem dX10_fit_70 : decode cX10_fit 70 = .ok (.getfield 20, 3) := by decide +kernel
theorem dX10_fit_73 : decode cX10_fit 73 = .ok (.getfield 61, 3) := by decide +kernel
theorem dX10_fit_76 : decode cX10_fit 76 = .ok (.getfield 88, 3) := by decide +kernel
theorem dX10_fit_79 : decode cX10_fit 79 = .ok (.getfield 127, 3) := by decide +kernel
theorem dX10_fit_82 : decode cX10_fit 82 = .ok (.sipush 400, 3) := by decide +kernel
theorem dX10_fit_85 : decode cX10_fit 85 = .ok (.if_icmp .gt 32, 3) := by decide +kernel
theorem dX10_fit_88 : decode cX10_fit 88 = .ok (.aload_n 0, 1) := by decide +kernel
theorem dX10_fit_89 : decode cX10_fit 89 = .ok (.getfield 20, 3) := by decide +kernel
theorem dX10_fit_92 : decode cX10_fit 92 = .ok (.getfield 97, 3) := by decide +kernel
theorem dX10_fit_95 : decode cX10_fit 95 = .ok (.getfield 209, 3) := by decide +kernel
theorem dX10_fit_98 : decode cX10_fit 98 = .ok (.ifCond .ne 19, 3) := by decide +kernel
theorem dX10_fit_101 : decode cX10_fit 101 = .ok (.aload_n 0, 1) := by decide +kernel
theorem dX10_fit_102 : decode cX10_fit 102 = .ok (.getfield 20, 3) := by decide +kernel
theorem dX10_fit_105 : decode cX10_fit 105 = .ok (.getfield 61, 3) := by decide +kernel
theorem dX10_fit_108 : decode cX10_fit 108 = .ok (.getfield 78, 3) := by decide +kernel
theorem dX10_fit_111 : decode cX10_fit 111 = .ok (.invokevirtual 213, 3) := by decide +kernel
theorem dX10_fit_114 : decode cX10_fit 114 = .ok (.ifCond .eq 6, 3) := by decide +kernel
theorem dX10_fit_117 : decode cX10_fit 117 = .ok (.bipush (-5), 2) := by decide +kernel
theorem dX10_fit_119 : decode cX10_fit 119 = .ok (.ireturn, 1) := by decide +kernel
theorem dX10_fit_120 : decode cX10_fit 120 = .ok (.iconst 0, 1) := by decide +kernel
theorem dX10_fit_121 : decode cX10_fit 121 = .ok (.istore 7, 2) := by decide +kernel
theorem dX10_fit_123 : decode cX10_fit 123 = .ok (.iconst (-1), 1) := by decide +kernel
theorem dX10_fit_124 : decode cX10_fit 124 = .ok (.istore 8, 2) := by decide +kernel
theorem dX10_fit_126 : decode cX10_fit 126 = .ok (.iconst (-1), 1) := by decide +kernel
theorem dX10_fit_127 : decode cX10_fit 127 = .ok (.istore 9, 2) := by decide +kernel
theorem dX10_fit_129 : decode cX10_fit 129 = .ok (.iload_n 3, 1) := by decide +kernel
theorem dX10_fit_130 : decode cX10_fit 130 = .ok (.istore 10, 2) := by decide +kernel
theorem dX10_fit_132 : decode cX10_fit 132 = .ok (.iload 10, 2) := by decide +kernel
theorem dX10_fit_134 : decode cX10_fit 134 = .ok (.iload 4, 2) := by decide +kernel
theorem dX10_fit_136 : decode cX10_fit 136 = .ok (.if_icmp .gt 52, 3) := by decide +kernel
theorem dX10_fit_139 : decode cX10_fit 139 = .ok (.aload_n 0, 1) := by decide +kernel
theorem dX10_fit_140 : decode cX10_fit 140 = .ok (.invokevirtual 162, 3) := by decide +kernel
theorem dX10_fit_143 : decode cX10_fit 143 = .ok (.aload_n 0, 1) := by decide +kernel
theorem dX10_fit_144 : decode cX10_fit 144 = .ok (.getfield 20, 3) := by decide +kernel
theorem dX10_fit_147 : decode cX10_fit 147 = .ok (.iload_n 1, 1) := by decide +kernel
theorem dX10_fit_148 : decode cX10_fit 148 = .ok (.iload_n 2, 1) := by decide +kernel
theorem dX10_fit_149 : decode cX10_fit 149 = .ok (.invokestatic 217, 3) := by decide +kernel
theorem dX10_fit_152 : decode cX10_fit 152 = .ok (.iload 10, 2) := by decide +kernel
theorem dX10_fit_154 : decode cX10_fit 154 = .ok (.invokevirtual 220, 3) := by decide +kernel
theorem dX10_fit_157 : decode cX10_fit 157 = .ok (.ifCond .eq 25, 3) := by decide +kernel
theorem dX10_fit_160 : decode cX10_fit 160 = .ok (.iinc 7 1, 3) := by decide +kernel
theorem dX10_fit_163 : decode cX10_fit 163 = .ok (.iload 8, 2) := by decide +kernel
theorem dX10_fit_165 : decode cX10_fit 165 = .ok (.iconst (-1), 1) := by decide +kernel
theorem dX10_fit_166 : decode cX10_fit 166 = .ok (.if_icmp .ne 8, 3) := by decide +kernel
theorem dX10_fit_169 : decode cX10_fit 169 = .ok (.iload 10, 2) := by decide +kernel
theorem dX10_fit_171 : decode cX10_fit 171 = .ok (.goto 5, 3) := by decide +kernel
theorem dX10_fit_174 : decode cX10_fit 174 = .ok (.iload 8, 2) := by decide +kernel
theorem dX10_fit_176 : decode cX10_fit 176 = .ok (.istore 8, 2) := by decide +kernel
theorem dX10_fit_178 : decode cX10_fit 178 = .ok (.iload 10, 2) := by decide +kernel
theorem dX10_fit_180 : decode cX10_fit 180 = .ok (.istore 9, 2) := by decide +kernel
theorem dX10_fit_182 : decode cX10_fit 182 = .ok (.iinc 10 1, 3) := by decide +kernel
theorem dX10_fit_185 : decode cX10_fit 185 = .ok (.goto (-53), 3) := by decide +kernel
theorem dX10_fit_188 : decode cX10_fit 188 = .ok (.iload 5, 2) := by decide +kernel
theorem dX10_fit_190 : decode cX10_fit 190 = .ok (.ifCond .ne 6, 3) := by decide +kernel
theorem dX10_fit_193 : decode cX10_fit 193 = .ok (.iload 7, 2) := by decide +kernel
theorem dX10_fit_195 : decode cX10_fit 195 = .ok (.ireturn, 1) := by decide +kernel
theorem dX10_fit_196 : decode cX10_fit 196 = .ok (.iload 5, 2) := by decide +kernel
theorem dX10_fit_198 : decode cX10_fit 198 = .ok (.iconst 1, 1) := by decide +kernel
theorem dX10_fit_199 : decode cX10_fit 199 = .ok (.if_icmp .ne 8, 3) := by decide +kernel
theorem dX10_fit_202 : decode cX10_fit 202 = .ok (.iload 8, 2) := by decide +kernel
theorem dX10_fit_204 : decode cX10_fit 204 = .ok (.goto 5, 3) := by decide +kernel
theorem dX10_fit_207 : decode cX10_fit 207 = .ok (.iload 9, 2) := by decide +kernel
theorem dX10_fit_209 : decode cX10_fit 209 = .ok (.ireturn, 1) := by decide +kernel
theorem dX10_lawOf_0 : decode cX10_lawOf 0 = .ok (.iload_n 0, 1) := by decide +kernel
theorem dX10_lawOf_1 : decode cX10_lawOf 1 = .ok (.iconst 4, 1) := by decide +kernel
theorem dX10_lawOf_2 : decode cX10_lawOf 2 = .ok (.imul, 1) := by decide +kernel
theorem dX10_lawOf_3 : decode cX10_lawOf 3 = .ok (.iload_n 1, 1) := by decide +kernel
theorem dX10_lawOf_4 : decode cX10_lawOf 4 = .ok (.iadd, 1) := by decide +kernel
theorem dX10_lawOf_5 : decode cX10_lawOf 5 = .ok (.ireturn, 1) := by decide +kernel
theorem dX10_days_0 : decode cX10_days 0 = .ok (.iload_n 1, 1) := by decide +kernel
theorem dX10_days_1 : decode cX10_days 1 = .ok (.invokestatic 224, 3) := by decide +kernel
theorem dX10_days_4 : decode cX10_days 4 = .ok (.ifCond .ne 6, 3) := by decide +kernel
theorem dX10_days_7 : decode cX10_days 7 = .ok (.bipush (-2), 2) := by decide +kernel
theorem dX10_days_9 : decode cX10_days 9 = .ok (.ireturn, 1) := by decide +kernel
theorem dX10_days_10 : decode cX10_days 10 = .ok (.aload_n 0, 1) := by decide +kernel
theorem dX10_days_11 : decode cX10_days 11 = .ok (.getfield 30, 3) := by decide +kernel
theorem dX10_days_14 : decode cX10_days 14 = .ok (.iload_n 1, 1) := by decide +kernel
theorem dX10_days_15 : decode cX10_days 15 = .ok (.aaload, 1) := by decide +kernel
theorem dX10_days_16 : decode cX10_days 16 = .ok (.astore_n 2, 1) := by decide +kernel
theorem dX10_days_17 : decode cX10_days 17 = .ok (.aload_n 2, 1) := by decide +kernel
theorem dX10_days_18 : decode cX10_days 18 = .ok (.ifnonnull 6, 3) := by decide +kernel
theorem dX10_days_21 : decode cX10_days 21 = .ok (.bipush (-6), 2) := by decide +kernel
theorem dX10_days_23 : decode cX10_days 23 = .ok (.ireturn, 1) := by decide +kernel
theorem dX10_days_24 : decode cX10_days 24 = .ok (.iconst 0, 1) := by decide +kernel
theorem dX10_days_25 : decode cX10_days 25 = .ok (.istore_n 3, 1) := by decide +kernel
theorem dX10_days_26 : decode cX10_days 26 = .ok (.iconst 0, 1) := by decide +kernel
theorem dX10_days_27 : decode cX10_days 27 = .ok (.istore 4, 2) := by decide +kernel
theorem dX10_days_29 : decode cX10_days 29 = .ok (.iload 4, 2) := by decide +kernel
theorem dX10_days_31 : decode cX10_days 31 = .ok (.iconst 2, 1) := by decide +kernel
theorem dX10_days_32 : decode cX10_days 32 = .ok (.iadd, 1) := by decide +kernel
theorem dX10_days_33 : decode cX10_days 33 = .ok (.aload_n 2, 1) := by decide +kernel
theorem dX10_days_34 : decode cX10_days 34 = .ok (.getfield 227, 3) := by decide +kernel
theorem dX10_days_37 : decode cX10_days 37 = .ok (.if_icmp .ge 103, 3) := by decide +kernel
theorem dX10_days_40 : decode cX10_days 40 = .ok (.aload_n 2, 1) := by decide +kernel
theorem dX10_days_41 : decode cX10_days 41 = .ok (.getfield 230, 3) := by decide +kernel
theorem dX10_days_44 : decode cX10_days 44 = .ok (.iload 4, 2) := by decide +kernel
theorem dX10_days_46 : decode cX10_days 46 = .ok (.laload, 1) := by decide +kernel
theorem dX10_days_47 : decode cX10_days 47 = .ok (.lstore 5, 2) := by decide +kernel
theorem dX10_days_49 : decode cX10_days 49 = .ok (.aload_n 2, 1) := by decide +kernel
theorem dX10_days_50 : decode cX10_days 50 = .ok (.getfield 230, 3) := by decide +kernel
theorem dX10_days_53 : decode cX10_days 53 = .ok (.iload 4, 2) := by decide +kernel
theorem dX10_days_55 : decode cX10_days 55 = .ok (.iconst 1, 1) := by decide +kernel
theorem dX10_days_56 : decode cX10_days 56 = .ok (.iadd, 1) := by decide +kernel
theorem dX10_days_57 : decode cX10_days 57 = .ok (.laload, 1) := by decide +kernel
theorem dX10_days_58 : decode cX10_days 58 = .ok (.lstore 7, 2) := by decide +kernel
theorem dX10_days_60 : decode cX10_days 60 = .ok (.aload_n 2, 1) := by decide +kernel
theorem dX10_days_61 : decode cX10_days 61 = .ok (.getfield 230, 3) := by decide +kernel
theorem dX10_days_64 : decode cX10_days 64 = .ok (.iload 4, 2) := by decide +kernel
theorem dX10_days_66 : decode cX10_days 66 = .ok (.iconst 2, 1) := by decide +kernel
theorem dX10_days_67 : decode cX10_days 67 = .ok (.iadd, 1) := by decide +kernel
theorem dX10_days_68 : decode cX10_days 68 = .ok (.laload, 1) := by decide +kernel
theorem dX10_days_69 : decode cX10_days 69 = .ok (.lstore 9, 2) := by decide +kernel
theorem dX10_days_71 : decode cX10_days 71 = .ok (.aload_n 0, 1) := by decide +kernel
theorem dX10_days_72 : decode cX10_days 72 = .ok (.lload 5, 2) := by decide +kernel
theorem dX10_days_74 : decode cX10_days 74 = .ok (.lload 7, 2) := by decide +kernel
theorem dX10_days_76 : decode cX10_days 76 = .ok (.lload 9, 2) := by decide +kernel
theorem dX10_days_78 : decode cX10_days 78 = .ok (.invokevirtual 234, 3) := by decide +kernel
theorem dX10_days_81 : decode cX10_days 81 = .ok (.ifCond .eq 53, 3) := by decide +kernel
theorem dX10_days_84 : decode cX10_days 84 = .ok (.aload_n 0, 1) := by decide +kernel
theorem dX10_days_85 : decode cX10_days 85 = .ok (.getfield 20, 3) := by decide +kernel
theorem dX10_days_88 : decode cX10_days 88 = .ok (.getfield 61, 3) := by decide +kernel
theorem dX10_days_91 : decode cX10_days 91 = .ok (.lload 5, 2) := by decide +kernel
theorem dX10_days_93 : decode cX10_days 93 = .ok (.l2i, 1) := by decide +kernel
theorem dX10_days_94 : decode cX10_days 94 = .ok (.invokevirtual 124, 3) := by decide +kernel
theorem dX10_days_97 : decode cX10_days 97 = .ok (.lload 9, 2) := by decide +kernel
theorem dX10_days_99 : decode cX10_days 99 = .ok (.lconst 0, 1) := by decide +kernel
theorem dX10_days_100 : decode cX10_days 100 = .ok (.lcmp, 1) := by decide +kernel
theorem dX10_days_101 : decode cX10_days 101 = .ok (.ifCond .ne 17, 3) := by decide +kernel
theorem dX10_days_104 : decode cX10_days 104 = .ok (.aload_n 0, 1) := by decide +kernel
theorem dX10_days_105 : decode cX10_days 105 = .ok (.getfield 20, 3) := by decide +kernel
theorem dX10_days_108 : decode cX10_days 108 = .ok (.lload 7, 2) := by decide +kernel
theorem dX10_days_110 : decode cX10_days 110 = .ok (.l2i, 1) := by decide +kernel
theorem dX10_days_111 : decode cX10_days 111 = .ok (.invokevirtual 116, 3) := by decide +kernel
theorem dX10_days_114 : decode cX10_days 114 = .ok (.pop, 1) := by decide +kernel
theorem dX10_days_115 : decode cX10_days 115 = .ok (.goto 16, 3) := by decide +kernel
theorem dX10_days_118 : decode cX10_days 118 = .ok (.aload_n 0, 1) := by decide +kernel
theorem dX10_days_119 : decode cX10_days 119 = .ok (.getfield 20, 3) := by decide +kernel
theorem dX10_days_122 : decode cX10_days 122 = .ok (.lload 7, 2) := by decide +kernel
theorem dX10_days_124 : decode cX10_days 124 = .ok (.l2i, 1) := by decide +kernel
theorem dX10_days_125 : decode cX10_days 125 = .ok (.lload 9, 2) := by decide +kernel
theorem dX10_days_127 : decode cX10_days 127 = .ok (.l2i, 1) := by decide +kernel
theorem dX10_days_128 : decode cX10_days 128 = .ok (.invokevirtual 111, 3) := by decide +kernel
theorem dX10_days_131 : decode cX10_days 131 = .ok (.iinc 3 1, 3) := by decide +kernel
theorem dX10_days_134 : decode cX10_days 134 = .ok (.iinc 4 3, 3) := by decide +kernel
theorem dX10_days_137 : decode cX10_days 137 = .ok (.goto (-108), 3) := by decide +kernel
theorem dX10_days_140 : decode cX10_days 140 = .ok (.iload_n 3, 1) := by decide +kernel
theorem dX10_days_141 : decode cX10_days 141 = .ok (.ireturn, 1) := by decide +kernel
theorem dX10_canSit_0 : decode cX10_canSit 0 = .ok (.lload_n 3, 1) := by decide +kernel
theorem dX10_canSit_1 : decode cX10_canSit 1 = .ok (.lconst 0, 1) := by decide +kernel
theorem dX10_canSit_2 : decode cX10_canSit 2 = .ok (.lcmp, 1) := by decide +kernel
theorem dX10_canSit_3 : decode cX10_canSit 3 = .ok (.ifCond .lt 26, 3) := by decide +kernel
theorem dX10_canSit_6 : decode cX10_canSit 6 = .ok (.lload_n 3, 1) := by decide +kernel
theorem dX10_canSit_7 : decode cX10_canSit 7 = .ok (.aload_n 0, 1) := by decide +kernel
theorem dX10_canSit_8 : decode cX10_canSit 8 = .ok (.getfield 20, 3) := by decide +kernel
theorem dX10_canSit_11 : decode cX10_canSit 11 = .ok (.getfield 61, 3) := by decide +kernel
theorem dX10_canSit_14 : decode cX10_canSit 14 = .ok (.getfield 78, 3) := by decide +kernel
theorem dX10_canSit_17 : decode cX10_canSit 17 = .ok (.getfield 104, 3) := by decide +kernel
theorem dX10_canSit_20 : decode cX10_canSit 20 = .ok (.i2l, 1) := by decide +kernel
theorem dX10_canSit_21 : decode cX10_canSit 21 = .ok (.lcmp, 1) := by decide +kernel
theorem dX10_canSit_22 : decode cX10_canSit 22 = .ok (.ifCond .ge 7, 3) := by decide +kernel
theorem dX10_canSit_25 : decode cX10_canSit 25 = .ok (.iconst 1, 1) := by decide +kernel
theorem dX10_canSit_26 : decode cX10_canSit 26 = .ok (.goto 4, 3) := by decide +kernel
theorem dX10_canSit_29 : decode cX10_canSit 29 = .ok (.iconst 0, 1) := by decide +kernel
theorem dX10_canSit_30 : decode cX10_canSit 30 = .ok (.istore 7, 2) := by decide +kernel
theorem dX10_canSit_32 : decode cX10_canSit 32 = .ok (.lload_n 1, 1) := by decide +kernel
theorem dX10_canSit_33 : decode cX10_canSit 33 = .ok (.invokestatic 120, 3) := by decide +kernel
theorem dX10_canSit_36 : decode cX10_canSit 36 = .ok (.ifCond .eq 28, 3) := by decide +kernel
theorem dX10_canSit_39 : decode cX10_canSit 39 = .ok (.iload 7, 2) := by decide +kernel
theorem dX10_canSit_41 : decode cX10_canSit 41 = .ok (.ifCond .eq 23, 3) := by decide +kernel
theorem dX10_canSit_44 : decode cX10_canSit 44 = .ok (.lload 5, 2) := by decide +kernel
theorem dX10_canSit_46 : decode cX10_canSit 46 = .ok (.lconst 0, 1) := by decide +kernel
theorem dX10_canSit_47 : decode cX10_canSit 47 = .ok (.lcmp, 1) := by decide +kernel
theorem dX10_canSit_48 : decode cX10_canSit 48 = .ok (.ifCond .lt 16, 3) := by decide +kernel
theorem dX10_canSit_51 : decode cX10_canSit 51 = .ok (.lload 5, 2) := by decide +kernel
theorem dX10_canSit_53 : decode cX10_canSit 53 = .ok (.ldc2_w 238, 3) := by decide +kernel
theorem dX10_canSit_56 : decode cX10_canSit 56 = .ok (.lcmp, 1) := by decide +kernel
theorem dX10_canSit_57 : decode cX10_canSit 57 = .ok (.ifCond .gt 7, 3) := by decide +kernel
theorem dX10_canSit_60 : decode cX10_canSit 60 = .ok (.iconst 1, 1) := by decide +kernel
theorem dX10_canSit_61 : decode cX10_canSit 61 = .ok (.goto 4, 3) := by decide +kernel
theorem dX10_canSit_64 : decode cX10_canSit 64 = .ok (.iconst 0, 1) := by decide +kernel
theorem dX10_canSit_65 : decode cX10_canSit 65 = .ok (.ireturn, 1) := by decide +kernel
theorem dX10_spread_0 : decode cX10_spread 0 = .ok (.aload_n 0, 1) := by decide +kernel
theorem dX10_spread_1 : decode cX10_spread 1 = .ok (.iload_n 1, 1) := by decide +kernel
theorem dX10_spread_2 : decode cX10_spread 2 = .ok (.iload_n 2, 1) := by decide +kernel
theorem dX10_spread_3 : decode cX10_spread 3 = .ok (.iload_n 3, 1) := by decide +kernel
theorem dX10_spread_4 : decode cX10_spread 4 = .ok (.invokevirtual 240, 3) := by decide +kernel
theorem dX10_spread_7 : decode cX10_spread 7 = .ok (.ifCond .ne 5, 3) := by decide +kernel
theorem dX10_spread_10 : decode cX10_spread 10 = .ok (.iconst (-1), 1) := by decide +kernel
theorem dX10_spread_11 : decode cX10_spread 11 = .ok (.ireturn, 1) := by decide +kernel
theorem dX10_spread_12 : decode cX10_spread 12 = .ok (.aload_n 0, 1) := by decide +kernel
theorem dX10_spread_13 : decode cX10_spread 13 = .ok (.invokevirtual 162, 3) := by decide +kernel
theorem dX10_spread_16 : decode cX10_spread 16 = .ok (.aload_n 0, 1) := by decide +kernel
theorem dX10_spread_17 : decode cX10_spread 17 = .ok (.getfield 20, 3) := by decide +kernel
theorem dX10_spread_20 : decode cX10_spread 20 = .ok (.getfield 61, 3) := by decide +kernel
theorem dX10_spread_23 : decode cX10_spread 23 = .ok (.iload_n 1, 1) := by decide +kernel
theorem dX10_spread_24 : decode cX10_spread 24 = .ok (.iload_n 2, 1) := by decide +kernel
theorem dX10_spread_25 : decode cX10_spread 25 = .ok (.iload_n 3, 1) := by decide +kernel
theorem dX10_spread_26 : decode cX10_spread 26 = .ok (.invokevirtual 244, 3) := by decide +kernel
theorem dX10_spread_29 : decode cX10_spread 29 = .ok (.aload_n 0, 1) := by decide +kernel
theorem dX10_spread_30 : decode cX10_spread 30 = .ok (.invokevirtual 162, 3) := by decide +kernel
theorem dX10_spread_33 : decode cX10_spread 33 = .ok (.getfield 248, 3) := by decide +kernel
theorem dX10_spread_36 : decode cX10_spread 36 = .ok (.ireturn, 1) := by decide +kernel
theorem dX10_canSpread_0 : decode cX10_canSpread 0 = .ok (.aload_n 0, 1) := by decide +kernel
theorem dX10_canSpread_1 : decode cX10_canSpread 1 = .ok (.getfield 20, 3) := by decide +kernel
theorem dX10_canSpread_4 : decode cX10_canSpread 4 = .ok (.getfield 61, 3) := by decide +kernel
theorem dX10_canSpread_7 : decode cX10_canSpread 7 = .ok (.getfield 78, 3) := by decide +kernel
theorem dX10_canSpread_10 : decode cX10_canSpread 10 = .ok (.iload_n 1, 1) := by decide +kernel
theorem dX10_canSpread_11 : decode cX10_canSpread 11 = .ok (.invokevirtual 107, 3) := by decide +kernel
theorem dX10_canSpread_14 : decode cX10_canSpread 14 = .ok (.ifCond .eq 28, 3) := by decide +kernel
theorem dX10_canSpread_17 : decode cX10_canSpread 17 = .ok (.iload_n 2, 1) := by decide +kernel
theorem dX10_canSpread_18 : decode cX10_canSpread 18 = .ok (.iconst 1, 1) := by decide +kernel
theorem dX10_canSpread_19 : decode cX10_canSpread 19 = .ok (.if_icmp .lt 23, 3) := by decide +kernel
theorem dX10_canSpread_22 : decode cX10_canSpread 22 = .ok (.iload_n 2, 1) := by decide +kernel
theorem dX10_canSpread_23 : decode cX10_canSpread 23 = .ok (.bipush 8, 2) := by decide +kernel
theorem dX10_canSpread_25 : decode cX10_canSpread 25 = .ok (.if_icmp .gt 17, 3) := by decide +kernel
theorem dX10_canSpread_28 : decode cX10_canSpread 28 = .ok (.iload_n 3, 1) := by decide +kernel
theorem dX10_canSpread_29 : decode cX10_canSpread 29 = .ok (.iconst 1, 1) := by decide +kernel
theorem dX10_canSpread_30 : decode cX10_canSpread 30 = .ok (.if_icmp .lt 12, 3) := by decide +kernel
theorem dX10_canSpread_33 : decode cX10_canSpread 33 = .ok (.iload_n 3, 1) := by decide +kernel
theorem dX10_canSpread_34 : decode cX10_canSpread 34 = .ok (.iconst 4, 1) := by decide +kernel
theorem dX10_canSpread_35 : decode cX10_canSpread 35 = .ok (.if_icmp .gt 7, 3) := by decide +kernel
theorem dX10_canSpread_38 : decode cX10_canSpread 38 = .ok (.iconst 1, 1) := by decide +kernel
theorem dX10_canSpread_39 : decode cX10_canSpread 39 = .ok (.goto 4, 3) := by decide +kernel
theorem dX10_canSpread_42 : decode cX10_canSpread 42 = .ok (.iconst 0, 1) := by decide +kernel
theorem dX10_canSpread_43 : decode cX10_canSpread 43 = .ok (.ireturn, 1) := by decide +kernel
theorem dX10_left_0 : decode cX10_left 0 = .ok (.aload_n 0, 1) := by decide +kernel
theorem dX10_left_1 : decode cX10_left 1 = .ok (.iload_n 1, 1) := by decide +kernel
theorem dX10_left_2 : decode cX10_left 2 = .ok (.iload_n 2, 1) := by decide +kernel
theorem dX10_left_3 : decode cX10_left 3 = .ok (.iload_n 3, 1) := by decide +kernel
theorem dX10_left_4 : decode cX10_left 4 = .ok (.invokevirtual 240, 3) := by decide +kernel
theorem dX10_left_7 : decode cX10_left 7 = .ok (.ifCond .eq 14, 3) := by decide +kernel
theorem dX10_left_10 : decode cX10_left 10 = .ok (.iload 4, 2) := by decide +kernel
theorem dX10_left_12 : decode cX10_left 12 = .ok (.ifCond .lt 9, 3) := by decide +kernel
theorem dX10_left_15 : decode cX10_left 15 = .ok (.iload 4, 2) := by decide +kernel
theorem dX10_left_17 : decode cX10_left 17 = .ok (.iconst 2, 1) := by decide +kernel
theorem dX10_left_18 : decode cX10_left 18 = .ok (.if_icmp .le 5, 3) := by decide +kernel
theorem dX10_left_21 : decode cX10_left 21 = .ok (.iconst (-1), 1) := by decide +kernel
theorem dX10_left_22 : decode cX10_left 22 = .ok (.ireturn, 1) := by decide +kernel
theorem dX10_left_23 : decode cX10_left 23 = .ok (.iload 4, 2) := by decide +kernel
theorem dX10_left_25 : decode cX10_left 25 = .ok (.ifCond .ne 28, 3) := by decide +kernel
theorem dX10_left_28 : decode cX10_left 28 = .ok (.aload_n 0, 1) := by decide +kernel
theorem dX10_left_29 : decode cX10_left 29 = .ok (.invokevirtual 162, 3) := by decide +kernel
theorem dX10_left_32 : decode cX10_left 32 = .ok (.aload_n 0, 1) := by decide +kernel
theorem dX10_left_33 : decode cX10_left 33 = .ok (.getfield 20, 3) := by decide +kernel
theorem dX10_left_36 : decode cX10_left 36 = .ok (.getfield 61, 3) := by decide +kernel
theorem dX10_left_39 : decode cX10_left 39 = .ok (.iload_n 1, 1) := by decide +kernel
theorem dX10_left_40 : decode cX10_left 40 = .ok (.iload_n 2, 1) := by decide +kernel
theorem dX10_left_41 : decode cX10_left 41 = .ok (.iload_n 3, 1) := by decide +kernel
theorem dX10_left_42 : decode cX10_left 42 = .ok (.invokevirtual 244, 3) := by decide +kernel
theorem dX10_left_45 : decode cX10_left 45 = .ok (.aload_n 0, 1) := by decide +kernel
theorem dX10_left_46 : decode cX10_left 46 = .ok (.invokevirtual 162, 3) := by decide +kernel
theorem dX10_left_49 : decode cX10_left 49 = .ok (.getfield 251, 3) := by decide +kernel
theorem dX10_left_52 : decode cX10_left 52 = .ok (.ireturn, 1) := by decide +kernel
theorem dX10_left_53 : decode cX10_left 53 = .ok (.aload_n 0, 1) := by decide +kernel
theorem dX10_left_54 : decode cX10_left 54 = .ok (.iload_n 1, 1) := by decide +kernel
theorem dX10_left_55 : decode cX10_left 55 = .ok (.iload_n 2, 1) := by decide +kernel
theorem dX10_left_56 : decode cX10_left 56 = .ok (.iload_n 3, 1) := by decide +kernel
theorem dX10_left_57 : decode cX10_left 57 = .ok (.iload 4, 2) := by decide +kernel
theorem dX10_left_59 : decode cX10_left 59 = .ok (.iconst 1, 1) := by decide +kernel
theorem dX10_left_60 : decode cX10_left 60 = .ok (.if_icmp .ne 7, 3) := by decide +kernel
theorem dX10_left_63 : decode cX10_left 63 = .ok (.iconst 0, 1) := by decide +kernel
theorem dX10_left_64 : decode cX10_left 64 = .ok (.goto 6, 3) := by decide +kernel
theorem dX10_left_67 : decode cX10_left 67 = .ok (.iload_n 3, 1) := by decide +kernel
theorem dX10_left_68 : decode cX10_left 68 = .ok (.iconst 1, 1) := by decide +kernel
theorem dX10_left_69 : decode cX10_left 69 = .ok (.isub, 1) := by decide +kernel
theorem dX10_left_70 : decode cX10_left 70 = .ok (.invokevirtual 254, 3) := by decide +kernel
theorem dX10_left_73 : decode cX10_left 73 = .ok (.ireturn, 1) := by decide +kernel
theorem dX10_leftByOneDay_0 : decode cX10_leftByOneDay 0 = .ok (.aload_n 0, 1) := by decide +kernel
theorem dX10_leftByOneDay_1 : decode cX10_leftByOneDay 1 = .ok (.invokevirtual 162, 3) := by decide +kernel
theorem dX10_leftByOneDay_4 : decode cX10_leftByOneDay 4 = .ok (.aload_n 0, 1) := by decide +kernel
theorem dX10_leftByOneDay_5 : decode cX10_leftByOneDay 5 = .ok (.getfield 20, 3) := by decide +kernel
theorem dX10_leftByOneDay_8 : decode cX10_leftByOneDay 8 = .ok (.getfield 61, 3) := by decide +kernel
theorem dX10_leftByOneDay_11 : decode cX10_leftByOneDay 11 = .ok (.invokevirtual 182, 3) := by decide +kernel
theorem dX10_leftByOneDay_14 : decode cX10_leftByOneDay 14 = .ok (.astore 5, 2) := by decide +kernel
theorem dX10_leftByOneDay_16 : decode cX10_leftByOneDay 16 = .ok (.aload 5, 2) := by decide +kernel
theorem dX10_leftByOneDay_18 : decode cX10_leftByOneDay 18 = .ok (.iload 4, 2) := by decide +kernel
theorem dX10_leftByOneDay_20 : decode cX10_leftByOneDay 20 = .ok (.bipush 24, 2) := by decide +kernel
theorem dX10_leftByOneDay_22 : decode cX10_leftByOneDay 22 = .ok (.imul, 1) := by decide +kernel
theorem dX10_leftByOneDay_23 : decode cX10_leftByOneDay 23 = .ok (.invokevirtual 124, 3) := by decide +kernel
theorem dX10_leftByOneDay_26 : decode cX10_leftByOneDay 26 = .ok (.aload 5, 2) := by decide +kernel
theorem dX10_leftByOneDay_28 : decode cX10_leftByOneDay 28 = .ok (.iload_n 1, 1) := by decide +kernel
theorem dX10_leftByOneDay_29 : decode cX10_leftByOneDay 29 = .ok (.iload_n 2, 1) := by decide +kernel
theorem dX10_leftByOneDay_30 : decode cX10_leftByOneDay 30 = .ok (.invokevirtual 258, 3) := by decide +kernel
theorem dX10_leftByOneDay_33 : decode cX10_leftByOneDay 33 = .ok (.aload 5, 2) := by decide +kernel
theorem dX10_leftByOneDay_35 : decode cX10_leftByOneDay 35 = .ok (.iload_n 3, 1) := by decide +kernel
theorem dX10_leftByOneDay_36 : decode cX10_leftByOneDay 36 = .ok (.iload 4, 2) := by decide +kernel
theorem dX10_leftByOneDay_38 : decode cX10_leftByOneDay 38 = .ok (.isub, 1) := by decide +kernel
theorem dX10_leftByOneDay_39 : decode cX10_leftByOneDay 39 = .ok (.bipush 24, 2) := by decide +kernel
theorem dX10_leftByOneDay_41 : decode cX10_leftByOneDay 41 = .ok (.imul, 1) := by decide +kernel
theorem dX10_leftByOneDay_42 : decode cX10_leftByOneDay 42 = .ok (.invokevirtual 124, 3) := by decide +kernel
theorem dX10_leftByOneDay_45 : decode cX10_leftByOneDay 45 = .ok (.aload 5, 2) := by decide +kernel
theorem dX10_leftByOneDay_47 : decode cX10_leftByOneDay 47 = .ok (.iload_n 1, 1) := by decide +kernel
theorem dX10_leftByOneDay_48 : decode cX10_leftByOneDay 48 = .ok (.invokevirtual 261, 3) := by decide +kernel
theorem dX10_leftByOneDay_51 : decode cX10_leftByOneDay 51 = .ok (.ireturn, 1) := by decide +kernel
theorem dX10_shuffled_0 : decode cX10_shuffled 0 = .ok (.aload_n 0, 1) := by decide +kernel
theorem dX10_shuffled_1 : decode cX10_shuffled 1 = .ok (.getfield 20, 3) := by decide +kernel
theorem dX10_shuffled_4 : decode cX10_shuffled 4 = .ok (.getfield 61, 3) := by decide +kernel
theorem dX10_shuffled_7 : decode cX10_shuffled 7 = .ok (.getfield 78, 3) := by decide +kernel
theorem dX10_shuffled_10 : decode cX10_shuffled 10 = .ok (.astore_n 3, 1) := by decide +kernel
theorem dX10_shuffled_11 : decode cX10_shuffled 11 = .ok (.aload_n 3, 1) := by decide +kernel
theorem dX10_shuffled_12 : decode cX10_shuffled 12 = .ok (.iload_n 1, 1) := by decide +kernel
theorem dX10_shuffled_13 : decode cX10_shuffled 13 = .ok (.invokevirtual 107, 3) := by decide +kernel
theorem dX10_shuffled_16 : decode cX10_shuffled 16 = .ok (.ifCond .eq 13, 3) := by decide +kernel
theorem dX10_shuffled_19 : decode cX10_shuffled 19 = .ok (.iload_n 2, 1) := by decide +kernel
theorem dX10_shuffled_20 : decode cX10_shuffled 20 = .ok (.iconst 1, 1) := by decide +kernel
theorem dX10_shuffled_21 : decode cX10_shuffled 21 = .ok (.if_icmp .lt 8, 3) := by decide +kernel
theorem dX10_shuffled_24 : decode cX10_shuffled 24 = .ok (.iload_n 2, 1) := by decide +kernel
theorem dX10_shuffled_25 : decode cX10_shuffled 25 = .ok (.iconst 3, 1) := by decide +kernel
theorem dX10_shuffled_26 : decode cX10_shuffled 26 = .ok (.if_icmp .le 6, 3) := by decide +kernel
theorem dX10_shuffled_29 : decode cX10_shuffled 29 = .ok (.bipush (-2), 2) := by decide +kernel
theorem dX10_shuffled_31 : decode cX10_shuffled 31 = .ok (.ireturn, 1) := by decide +kernel
theorem dX10_shuffled_32 : decode cX10_shuffled 32 = .ok (.aload_n 3, 1) := by decide +kernel
theorem dX10_shuffled_33 : decode cX10_shuffled 33 = .ok (.invokevirtual 264, 3) := by decide +kernel
theorem dX10_shuffled_36 : decode cX10_shuffled 36 = .ok (.ifCond .eq 6, 3) := by decide +kernel
theorem dX10_shuffled_39 : decode cX10_shuffled 39 = .ok (.bipush (-3), 2) := by decide +kernel
theorem dX10_shuffled_41 : decode cX10_shuffled 41 = .ok (.ireturn, 1) := by decide +kernel
theorem dX10_shuffled_42 : decode cX10_shuffled 42 = .ok (.aload_n 3, 1) := by decide +kernel
theorem dX10_shuffled_43 : decode cX10_shuffled 43 = .ok (.invokevirtual 267, 3) := by decide +kernel
theorem dX10_shuffled_46 : decode cX10_shuffled 46 = .ok (.iconst 0, 1) := by decide +kernel
theorem dX10_shuffled_47 : decode cX10_shuffled 47 = .ok (.istore 4, 2) := by decide +kernel
theorem dX10_shuffled_49 : decode cX10_shuffled 49 = .ok (.iload 4, 2) := by decide +kernel
theorem dX10_shuffled_51 : decode cX10_shuffled 51 = .ok (.iload_n 2, 1) := by decide +kernel
theorem dX10_shuffled_52 : decode cX10_shuffled 52 = .ok (.if_icmp .gt 47, 3) := by decide +kernel
theorem dX10_shuffled_55 : decode cX10_shuffled 55 = .ok (.iload 4, 2) := by decide +kernel
theorem dX10_shuffled_57 : decode cX10_shuffled 57 = .ok (.istore 5, 2) := by decide +kernel
theorem dX10_shuffled_59 : decode cX10_shuffled 59 = .ok (.iload 5, 2) := by decide +kernel
theorem dX10_shuffled_61 : decode cX10_shuffled 61 = .ok (.aload_n 3, 1) := by decide +kernel
theorem dX10_shuffled_62 : decode cX10_shuffled 62 = .ok (.getfield 199, 3) := by decide +kernel
theorem dX10_shuffled_65 : decode cX10_shuffled 65 = .ok (.iload_n 1, 1) := by decide +kernel
theorem dX10_shuffled_66 : decode cX10_shuffled 66 = .ok (.iaload, 1) := by decide +kernel
theorem dX10_shuffled_67 : decode cX10_shuffled 67 = .ok (.if_icmp .ge 26, 3) := by decide +kernel
theorem dX10_shuffled_70 : decode cX10_shuffled 70 = .ok (.aload_n 3, 1) := by decide +kernel
theorem dX10_shuffled_71 : decode cX10_shuffled 71 = .ok (.aload_n 3, 1) := by decide +kernel
theorem dX10_shuffled_72 : decode cX10_shuffled 72 = .ok (.iload_n 1, 1) := by decide +kernel
theorem dX10_shuffled_73 : decode cX10_shuffled 73 = .ok (.iload 5, 2) := by decide +kernel
theorem dX10_shuffled_75 : decode cX10_shuffled 75 = .ok (.invokevirtual 203, 3) := by decide +kernel
theorem dX10_shuffled_78 : decode cX10_shuffled 78 = .ok (.invokevirtual 270, 3) := by decide +kernel
theorem dX10_shuffled_81 : decode cX10_shuffled 81 = .ok (.pop, 1) := by decide +kernel
theorem dX10_shuffled_82 : decode cX10_shuffled 82 = .ok (.iload 5, 2) := by decide +kernel
theorem dX10_shuffled_84 : decode cX10_shuffled 84 = .ok (.iload_n 2, 1) := by decide +kernel
theorem dX10_shuffled_85 : decode cX10_shuffled 85 = .ok (.iconst 1, 1) := by decide +kernel
theorem dX10_shuffled_86 : decode cX10_shuffled 86 = .ok (.iadd, 1) := by decide +kernel
theorem dX10_shuffled_87 : decode cX10_shuffled 87 = .ok (.iadd, 1) := by decide +kernel
theorem dX10_shuffled_88 : decode cX10_shuffled 88 = .ok (.istore 5, 2) := by decide +kernel
theorem dX10_shuffled_90 : decode cX10_shuffled 90 = .ok (.goto (-31), 3) := by decide +kernel
theorem dX10_shuffled_93 : decode cX10_shuffled 93 = .ok (.iinc 4 1, 3) := by decide +kernel
theorem dX10_shuffled_96 : decode cX10_shuffled 96 = .ok (.goto (-47), 3) := by decide +kernel
theorem dX10_shuffled_99 : decode cX10_shuffled 99 = .ok (.aload_n 3, 1) := by decide +kernel
theorem dX10_shuffled_100 : decode cX10_shuffled 100 = .ok (.invokevirtual 273, 3) := by decide +kernel
theorem dX10_shuffled_103 : decode cX10_shuffled 103 = .ok (.ireturn, 1) := by decide +kernel
theorem dX10_backward_0 : decode cX10_backward 0 = .ok (.aload_n 0, 1) := by decide +kernel
theorem dX10_backward_1 : decode cX10_backward 1 = .ok (.getfield 20, 3) := by decide +kernel
theorem dX10_backward_4 : decode cX10_backward 4 = .ok (.getfield 61, 3) := by decide +kernel
theorem dX10_backward_7 : decode cX10_backward 7 = .ok (.getfield 78, 3) := by decide +kernel
theorem dX10_backward_10 : decode cX10_backward 10 = .ok (.astore_n 2, 1) := by decide +kernel
theorem dX10_backward_11 : decode cX10_backward 11 = .ok (.aload_n 2, 1) := by decide +kernel
theorem dX10_backward_12 : decode cX10_backward 12 = .ok (.iload_n 1, 1) := by decide +kernel
theorem dX10_backward_13 : decode cX10_backward 13 = .ok (.invokevirtual 107, 3) := by decide +kernel
theorem dX10_backward_16 : decode cX10_backward 16 = .ok (.ifCond .ne 6, 3) := by decide +kernel
theorem dX10_backward_19 : decode cX10_backward 19 = .ok (.bipush (-2), 2) := by decide +kernel
theorem dX10_backward_21 : decode cX10_backward 21 = .ok (.ireturn, 1) := by decide +kernel
theorem dX10_backward_22 : decode cX10_backward 22 = .ok (.aload_n 2, 1) := by decide +kernel
theorem dX10_backward_23 : decode cX10_backward 23 = .ok (.invokevirtual 264, 3) := by decide +kernel
theorem dX10_backward_26 : decode cX10_backward 26 = .ok (.ifCond .eq 6, 3) := by decide +kernel
theorem dX10_backward_29 : decode cX10_backward 29 = .ok (.bipush (-3), 2) := by decide +kernel
theorem dX10_backward_31 : decode cX10_backward 31 = .ok (.ireturn, 1) := by decide +kernel
theorem dX10_backward_32 : decode cX10_backward 32 = .ok (.aload_n 2, 1) := by decide +kernel
theorem dX10_backward_33 : decode cX10_backward 33 = .ok (.invokevirtual 267, 3) := by decide +kernel
theorem dX10_backward_36 : decode cX10_backward 36 = .ok (.aload_n 2, 1) := by decide +kernel
theorem dX10_backward_37 : decode cX10_backward 37 = .ok (.getfield 199, 3) := by decide +kernel
theorem dX10_backward_40 : decode cX10_backward 40 = .ok (.iload_n 1, 1) := by decide +kernel
theorem dX10_backward_41 : decode cX10_backward 41 = .ok (.iaload, 1) := by decide +kernel
theorem dX10_backward_42 : decode cX10_backward 42 = .ok (.iconst 1, 1) := by decide +kernel
theorem dX10_backward_43 : decode cX10_backward 43 = .ok (.isub, 1) := by decide +kernel
theorem dX10_backward_44 : decode cX10_backward 44 = .ok (.istore_n 3, 1) := by decide +kernel
theorem dX10_backward_45 : decode cX10_backward 45 = .ok (.iload_n 3, 1) := by decide +kernel
theorem dX10_backward_46 : decode cX10_backward 46 = .ok (.ifCond .lt 20, 3) := by decide +kernel
theorem dX10_backward_49 : decode cX10_backward 49 = .ok (.aload_n 2, 1) := by decide +kernel
theorem dX10_backward_50 : decode cX10_backward 50 = .ok (.aload_n 2, 1) := by decide +kernel
theorem dX10_backward_51 : decode cX10_backward 51 = .ok (.iload_n 1, 1) := by decide +kernel
theorem dX10_backward_52 : decode cX10_backward 52 = .ok (.iload_n 3, 1) := by decide +kernel
theorem dX10_backward_53 : decode cX10_backward 53 = .ok (.invokevirtual 203, 3) := by decide +kernel
theorem dX10_backward_56 : decode cX10_backward 56 = .ok (.invokevirtual 270, 3) := by decide +kernel
theorem dX10_backward_59 : decode cX10_backward 59 = .ok (.pop, 1) := by decide +kernel
theorem dX10_backward_60 : decode cX10_backward 60 = .ok (.iinc 3 (-1), 3) := by decide +kernel
theorem dX10_backward_63 : decode cX10_backward 63 = .ok (.goto (-18), 3) := by decide +kernel
theorem dX10_backward_66 : decode cX10_backward 66 = .ok (.aload_n 2, 1) := by decide +kernel
theorem dX10_backward_67 : decode cX10_backward 67 = .ok (.invokevirtual 273, 3) := by decide +kernel
theorem dX10_backward_70 : decode cX10_backward 70 = .ok (.ireturn, 1) := by decide +kernel
theorem dX10_rowOf_0 : decode cX10_rowOf 0 = .ok (.iload_n 1, 1) := by decide +kernel
theorem dX10_rowOf_1 : decode cX10_rowOf 1 = .ok (.invokestatic 224, 3) := by decide +kernel
theorem dX10_rowOf_4 : decode cX10_rowOf 4 = .ok (.ifCond .ne 6, 3) := by decide +kernel
theorem dX10_rowOf_7 : decode cX10_rowOf 7 = .ok (.bipush (-2), 2) := by decide +kernel
theorem dX10_rowOf_9 : decode cX10_rowOf 9 = .ok (.ireturn, 1) := by decide +kernel
theorem dX10_rowOf_10 : decode cX10_rowOf 10 = .ok (.aload_n 0, 1) := by decide +kernel
theorem dX10_rowOf_11 : decode cX10_rowOf 11 = .ok (.getfield 30, 3) := by decide +kernel
theorem dX10_rowOf_14 : decode cX10_rowOf 14 = .ok (.iload_n 1, 1) := by decide +kernel
theorem dX10_rowOf_15 : decode cX10_rowOf 15 = .ok (.aaload, 1) := by decide +kernel
theorem dX10_rowOf_16 : decode cX10_rowOf 16 = .ok (.astore_n 2, 1) := by decide +kernel
theorem dX10_rowOf_17 : decode cX10_rowOf 17 = .ok (.aload_n 2, 1) := by decide +kernel
theorem dX10_rowOf_18 : decode cX10_rowOf 18 = .ok (.ifnonnull 6, 3) := by decide +kernel
theorem dX10_rowOf_21 : decode cX10_rowOf 21 = .ok (.bipush (-6), 2) := by decide +kernel
theorem dX10_rowOf_23 : decode cX10_rowOf 23 = .ok (.ireturn, 1) := by decide +kernel
theorem dX10_rowOf_24 : decode cX10_rowOf 24 = .ok (.aload_n 0, 1) := by decide +kernel
theorem dX10_rowOf_25 : decode cX10_rowOf 25 = .ok (.aload_n 2, 1) := by decide +kernel
theorem dX10_rowOf_26 : decode cX10_rowOf 26 = .ok (.invokevirtual 277, 3) := by decide +kernel
theorem dX10_rowOf_29 : decode cX10_rowOf 29 = .ok (.ifCond .ne 6, 3) := by decide +kernel
theorem dX10_rowOf_32 : decode cX10_rowOf 32 = .ok (.bipush (-2), 2) := by decide +kernel
theorem dX10_rowOf_34 : decode cX10_rowOf 34 = .ok (.ireturn, 1) := by decide +kernel
theorem dX10_rowOf_35 : decode cX10_rowOf 35 = .ok (.aload_n 0, 1) := by decide +kernel
theorem dX10_rowOf_36 : decode cX10_rowOf 36 = .ok (.getfield 20, 3) := by decide +kernel
theorem dX10_rowOf_39 : decode cX10_rowOf 39 = .ok (.getfield 61, 3) := by decide +kernel
theorem dX10_rowOf_42 : decode cX10_rowOf 42 = .ok (.getfield 78, 3) := by decide +kernel
theorem dX10_rowOf_45 : decode cX10_rowOf 45 = .ok (.astore_n 3, 1) := by decide +kernel
theorem dX10_rowOf_46 : decode cX10_rowOf 46 = .ok (.aload_n 3, 1) := by decide +kernel
theorem dX10_rowOf_47 : decode cX10_rowOf 47 = .ok (.invokevirtual 264, 3) := by decide +kernel
theorem dX10_rowOf_50 : decode cX10_rowOf 50 = .ok (.ifCond .eq 6, 3) := by decide +kernel
theorem dX10_rowOf_53 : decode cX10_rowOf 53 = .ok (.bipush (-3), 2) := by decide +kernel
theorem dX10_rowOf_55 : decode cX10_rowOf 55 = .ok (.ireturn, 1) := by decide +kernel
theorem dX10_rowOf_56 : decode cX10_rowOf 56 = .ok (.aload_n 3, 1) := by decide +kernel
theorem dX10_rowOf_57 : decode cX10_rowOf 57 = .ok (.invokevirtual 267, 3) := by decide +kernel
theorem dX10_rowOf_60 : decode cX10_rowOf 60 = .ok (.iconst 0, 1) := by decide +kernel
theorem dX10_rowOf_61 : decode cX10_rowOf 61 = .ok (.istore 4, 2) := by decide +kernel
theorem dX10_rowOf_63 : decode cX10_rowOf 63 = .ok (.iload 4, 2) := by decide +kernel
theorem dX10_rowOf_65 : decode cX10_rowOf 65 = .ok (.aload_n 2, 1) := by decide +kernel
theorem dX10_rowOf_66 : decode cX10_rowOf 66 = .ok (.getfield 227, 3) := by decide +kernel
theorem dX10_rowOf_69 : decode cX10_rowOf 69 = .ok (.if_icmp .ge 22, 3) := by decide +kernel
theorem dX10_rowOf_72 : decode cX10_rowOf 72 = .ok (.aload_n 3, 1) := by decide +kernel
theorem dX10_rowOf_73 : decode cX10_rowOf 73 = .ok (.aload_n 2, 1) := by decide +kernel
theorem dX10_rowOf_74 : decode cX10_rowOf 74 = .ok (.getfield 230, 3) := by decide +kernel
theorem dX10_rowOf_77 : decode cX10_rowOf 77 = .ok (.iload 4, 2) := by decide +kernel
theorem dX10_rowOf_79 : decode cX10_rowOf 79 = .ok (.laload, 1) := by decide +kernel
theorem dX10_rowOf_80 : decode cX10_rowOf 80 = .ok (.l2i, 1) := by decide +kernel
theorem dX10_rowOf_81 : decode cX10_rowOf 81 = .ok (.invokevirtual 270, 3) := by decide +kernel
theorem dX10_rowOf_84 : decode cX10_rowOf 84 = .ok (.pop, 1) := by decide +kernel
theorem dX10_rowOf_85 : decode cX10_rowOf 85 = .ok (.iinc 4 1, 3) := by decide +kernel
theorem dX10_rowOf_88 : decode cX10_rowOf 88 = .ok (.goto (-25), 3) := by decide +kernel
