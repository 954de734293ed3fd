theorem dX10_rowOf_91 : decode cX10_rowOf 91 = .ok (.aload_n 3, 1) := by decide +kernel
theorem dX10_rowOf_92 : decode cX10_rowOf 92 = .ok (.invokevirtual 273, 3) := by decide +kernel
theorem dX10_rowOf_95 : decode cX10_rowOf 95 = .ok (.ireturn, 1) := by decide +kernel
theorem dX10_canBeRow_0 : decode cX10_canBeRow 0 = .ok (.aload_n 1, 1) := by decide +kernel
theorem dX10_canBeRow_1 : decode cX10_canBeRow 1 = .ok (.getfield 227, 3) := by decide +kernel
theorem dX10_canBeRow_4 : decode cX10_canBeRow 4 = .ok (.iconst 2, 1) := by decide +kernel
theorem dX10_canBeRow_5 : decode cX10_canBeRow 5 = .ok (.if_icmp .lt 12, 3) := by decide +kernel
theorem dX10_canBeRow_8 : decode cX10_canBeRow 8 = .ok (.aload_n 1, 1) := by decide +kernel
theorem dX10_canBeRow_9 : decode cX10_canBeRow 9 = .ok (.getfield 227, 3) := by decide +kernel
theorem dX10_canBeRow_12 : decode cX10_canBeRow 12 = .ok (.bipush 12, 2) := by decide +kernel
theorem dX10_canBeRow_14 : decode cX10_canBeRow 14 = .ok (.if_icmp .le 5, 3) := by decide +kernel
theorem dX10_canBeRow_17 : decode cX10_canBeRow 17 = .ok (.iconst 0, 1) := by decide +kernel
theorem dX10_canBeRow_18 : decode cX10_canBeRow 18 = .ok (.ireturn, 1) := by decide +kernel
theorem dX10_canBeRow_19 : decode cX10_canBeRow 19 = .ok (.iconst 0, 1) := by decide +kernel
theorem dX10_canBeRow_20 : decode cX10_canBeRow 20 = .ok (.istore_n 2, 1) := by decide +kernel
theorem dX10_canBeRow_21 : decode cX10_canBeRow 21 = .ok (.iconst 0, 1) := by decide +kernel
theorem dX10_canBeRow_22 : decode cX10_canBeRow 22 = .ok (.istore_n 3, 1) := by decide +kernel
theorem dX10_canBeRow_23 : decode cX10_canBeRow 23 = .ok (.iload_n 3, 1) := by decide +kernel
theorem dX10_canBeRow_24 : decode cX10_canBeRow 24 = .ok (.aload_n 1, 1) := by decide +kernel
theorem dX10_canBeRow_25 : decode cX10_canBeRow 25 = .ok (.getfield 227, 3) := by decide +kernel
theorem dX10_canBeRow_28 : decode cX10_canBeRow 28 = .ok (.if_icmp .ge 67, 3) := by decide +kernel
theorem dX10_canBeRow_31 : decode cX10_canBeRow 31 = .ok (.aload_n 1, 1) := by decide +kernel
theorem dX10_canBeRow_32 : decode cX10_canBeRow 32 = .ok (.getfield 230, 3) := by decide +kernel
theorem dX10_canBeRow_35 : decode cX10_canBeRow 35 = .ok (.iload_n 3, 1) := by decide +kernel
theorem dX10_canBeRow_36 : decode cX10_canBeRow 36 = .ok (.laload, 1) := by decide +kernel
theorem dX10_canBeRow_37 : decode cX10_canBeRow 37 = .ok (.lstore 4, 2) := by decide +kernel
theorem dX10_canBeRow_39 : decode cX10_canBeRow 39 = .ok (.lload 4, 2) := by decide +kernel
theorem dX10_canBeRow_41 : decode cX10_canBeRow 41 = .ok (.lconst 0, 1) := by decide +kernel
theorem dX10_canBeRow_42 : decode cX10_canBeRow 42 = .ok (.lcmp, 1) := by decide +kernel
theorem dX10_canBeRow_43 : decode cX10_canBeRow 43 = .ok (.ifCond .lt 23, 3) := by decide +kernel
theorem dX10_canBeRow_46 : decode cX10_canBeRow 46 = .ok (.lload 4, 2) := by decide +kernel
theorem dX10_canBeRow_48 : decode cX10_canBeRow 48 = .ok (.aload_n 0, 1) := by decide +kernel
theorem dX10_canBeRow_49 : decode cX10_canBeRow 49 = .ok (.getfield 20, 3) := by decide +kernel
theorem dX10_canBeRow_52 : decode cX10_canBeRow 52 = .ok (.getfield 61, 3) := by decide +kernel
theorem dX10_canBeRow_55 : decode cX10_canBeRow 55 = .ok (.getfield 65, 3) := by decide +kernel
theorem dX10_canBeRow_58 : decode cX10_canBeRow 58 = .ok (.getfield 132, 3) := by decide +kernel
theorem dX10_canBeRow_61 : decode cX10_canBeRow 61 = .ok (.i2l, 1) := by decide +kernel
theorem dX10_canBeRow_62 : decode cX10_canBeRow 62 = .ok (.lcmp, 1) := by decide +kernel
theorem dX10_canBeRow_63 : decode cX10_canBeRow 63 = .ok (.ifCond .lt 5, 3) := by decide +kernel
theorem dX10_canBeRow_66 : decode cX10_canBeRow 66 = .ok (.iconst 0, 1) := by decide +kernel
theorem dX10_canBeRow_67 : decode cX10_canBeRow 67 = .ok (.ireturn, 1) := by decide +kernel
theorem dX10_canBeRow_68 : decode cX10_canBeRow 68 = .ok (.iconst 1, 1) := by decide +kernel
theorem dX10_canBeRow_69 : decode cX10_canBeRow 69 = .ok (.lload 4, 2) := by decide +kernel
theorem dX10_canBeRow_71 : decode cX10_canBeRow 71 = .ok (.l2i, 1) := by decide +kernel
theorem dX10_canBeRow_72 : decode cX10_canBeRow 72 = .ok (.ishl, 1) := by decide +kernel
theorem dX10_canBeRow_73 : decode cX10_canBeRow 73 = .ok (.istore 6, 2) := by decide +kernel
theorem dX10_canBeRow_75 : decode cX10_canBeRow 75 = .ok (.iload_n 2, 1) := by decide +kernel
theorem dX10_canBeRow_76 : decode cX10_canBeRow 76 = .ok (.iload 6, 2) := by decide +kernel
theorem dX10_canBeRow_78 : decode cX10_canBeRow 78 = .ok (.iand, 1) := by decide +kernel
theorem dX10_canBeRow_79 : decode cX10_canBeRow 79 = .ok (.ifCond .eq 5, 3) := by decide +kernel
theorem dX10_canBeRow_82 : decode cX10_canBeRow 82 = .ok (.iconst 0, 1) := by decide +kernel
theorem dX10_canBeRow_83 : decode cX10_canBeRow 83 = .ok (.ireturn, 1) := by decide +kernel
theorem dX10_canBeRow_84 : decode cX10_canBeRow 84 = .ok (.iload_n 2, 1) := by decide +kernel
theorem dX10_canBeRow_85 : decode cX10_canBeRow 85 = .ok (.iload 6, 2) := by decide +kernel
theorem dX10_canBeRow_87 : decode cX10_canBeRow 87 = .ok (.ior, 1) := by decide +kernel
theorem dX10_canBeRow_88 : decode cX10_canBeRow 88 = .ok (.istore_n 2, 1) := by decide +kernel
theorem dX10_canBeRow_89 : decode cX10_canBeRow 89 = .ok (.iinc 3 1, 3) := by decide +kernel
theorem dX10_canBeRow_92 : decode cX10_canBeRow 92 = .ok (.goto (-69), 3) := by decide +kernel
theorem dX10_canBeRow_95 : decode cX10_canBeRow 95 = .ok (.iconst 1, 1) := by decide +kernel
theorem dX10_canBeRow_96 : decode cX10_canBeRow 96 = .ok (.ireturn, 1) := by decide +kernel
theorem dX10_thing_0 : decode cX10_thing 0 = .ok (.aload_n 0, 1) := by decide +kernel
theorem dX10_thing_1 : decode cX10_thing 1 = .ok (.getfield 20, 3) := by decide +kernel
theorem dX10_thing_4 : decode cX10_thing 4 = .ok (.getfield 61, 3) := by decide +kernel
theorem dX10_thing_7 : decode cX10_thing 7 = .ok (.getfield 78, 3) := by decide +kernel
theorem dX10_thing_10 : decode cX10_thing 10 = .ok (.iload_n 1, 1) := by decide +kernel
theorem dX10_thing_11 : decode cX10_thing 11 = .ok (.invokevirtual 107, 3) := by decide +kernel
theorem dX10_thing_14 : decode cX10_thing 14 = .ok (.ifCond .ne 6, 3) := by decide +kernel
theorem dX10_thing_17 : decode cX10_thing 17 = .ok (.bipush (-2), 2) := by decide +kernel
theorem dX10_thing_19 : decode cX10_thing 19 = .ok (.ireturn, 1) := by decide +kernel
theorem dX10_thing_20 : decode cX10_thing 20 = .ok (.aload_n 0, 1) := by decide +kernel
theorem dX10_thing_21 : decode cX10_thing 21 = .ok (.getfield 20, 3) := by decide +kernel
theorem dX10_thing_24 : decode cX10_thing 24 = .ok (.getfield 61, 3) := by decide +kernel
theorem dX10_thing_27 : decode cX10_thing 27 = .ok (.getfield 78, 3) := by decide +kernel
theorem dX10_thing_30 : decode cX10_thing 30 = .ok (.iload_n 1, 1) := by decide +kernel
theorem dX10_thing_31 : decode cX10_thing 31 = .ok (.iload_n 2, 1) := by decide +kernel
theorem dX10_thing_32 : decode cX10_thing 32 = .ok (.invokevirtual 151, 3) := by decide +kernel
theorem dX10_thing_35 : decode cX10_thing 35 = .ok (.ifCond .eq 21, 3) := by decide +kernel
theorem dX10_thing_38 : decode cX10_thing 38 = .ok (.aload_n 0, 1) := by decide +kernel
theorem dX10_thing_39 : decode cX10_thing 39 = .ok (.getfield 20, 3) := by decide +kernel
theorem dX10_thing_42 : decode cX10_thing 42 = .ok (.getfield 61, 3) := by decide +kernel
theorem dX10_thing_45 : decode cX10_thing 45 = .ok (.getfield 78, 3) := by decide +kernel
theorem dX10_thing_48 : decode cX10_thing 48 = .ok (.iload_n 1, 1) := by decide +kernel
theorem dX10_thing_49 : decode cX10_thing 49 = .ok (.iload_n 2, 1) := by decide +kernel
theorem dX10_thing_50 : decode cX10_thing 50 = .ok (.invokevirtual 203, 3) := by decide +kernel
theorem dX10_thing_53 : decode cX10_thing 53 = .ok (.goto 4, 3) := by decide +kernel
theorem dX10_thing_56 : decode cX10_thing 56 = .ok (.iconst (-1), 1) := by decide +kernel
theorem dX10_thing_57 : decode cX10_thing 57 = .ok (.ireturn, 1) := by decide +kernel
theorem dX10_used_0 : decode cX10_used 0 = .ok (.aload_n 0, 1) := by decide +kernel
theorem dX10_used_1 : decode cX10_used 1 = .ok (.getfield 20, 3) := by decide +kernel
theorem dX10_used_4 : decode cX10_used 4 = .ok (.getfield 61, 3) := by decide +kernel
theorem dX10_used_7 : decode cX10_used 7 = .ok (.getfield 78, 3) := by decide +kernel
theorem dX10_used_10 : decode cX10_used 10 = .ok (.iload_n 1, 1) := by decide +kernel
theorem dX10_used_11 : decode cX10_used 11 = .ok (.invokevirtual 107, 3) := by decide +kernel
theorem dX10_used_14 : decode cX10_used 14 = .ok (.ifCond .eq 21, 3) := by decide +kernel
theorem dX10_used_17 : decode cX10_used 17 = .ok (.aload_n 0, 1) := by decide +kernel
theorem dX10_used_18 : decode cX10_used 18 = .ok (.getfield 20, 3) := by decide +kernel
theorem dX10_used_21 : decode cX10_used 21 = .ok (.getfield 61, 3) := by decide +kernel
theorem dX10_used_24 : decode cX10_used 24 = .ok (.getfield 78, 3) := by decide +kernel
theorem dX10_used_27 : decode cX10_used 27 = .ok (.getfield 281, 3) := by decide +kernel
theorem dX10_used_30 : decode cX10_used 30 = .ok (.iload_n 1, 1) := by decide +kernel
theorem dX10_used_31 : decode cX10_used 31 = .ok (.iaload, 1) := by decide +kernel
theorem dX10_used_32 : decode cX10_used 32 = .ok (.goto 5, 3) := by decide +kernel
theorem dX10_used_35 : decode cX10_used 35 = .ok (.bipush (-2), 2) := by decide +kernel
theorem dX10_used_37 : decode cX10_used 37 = .ok (.ireturn, 1) := by decide +kernel
theorem dX10_sitting_0 : decode cX10_sitting 0 = .ok (.iload_n 1, 1) := by decide +kernel
theorem dX10_sitting_1 : decode cX10_sitting 1 = .ok (.ifCond .lt 26, 3) := by decide +kernel
theorem dX10_sitting_4 : decode cX10_sitting 4 = .ok (.iload_n 1, 1) := by decide +kernel
theorem dX10_sitting_5 : decode cX10_sitting 5 = .ok (.aload_n 0, 1) := by decide +kernel
theorem dX10_sitting_6 : decode cX10_sitting 6 = .ok (.getfield 20, 3) := by decide +kernel
theorem dX10_sitting_9 : decode cX10_sitting 9 = .ok (.getfield 97, 3) := by decide +kernel
theorem dX10_sitting_12 : decode cX10_sitting 12 = .ok (.getfield 115, 3) := by decide +kernel
theorem dX10_sitting_15 : decode cX10_sitting 15 = .ok (.if_icmp .ge 12, 3) := by decide +kernel
theorem dX10_sitting_18 : decode cX10_sitting 18 = .ok (.iload_n 2, 1) := by decide +kernel
theorem dX10_sitting_19 : decode cX10_sitting 19 = .ok (.ifCond .lt 8, 3) := by decide +kernel
theorem dX10_sitting_22 : decode cX10_sitting 22 = .ok (.iload_n 2, 1) := by decide +kernel
theorem dX10_sitting_23 : decode cX10_sitting 23 = .ok (.iconst 4, 1) := by decide +kernel
theorem dX10_sitting_24 : decode cX10_sitting 24 = .ok (.if_icmp .le 5, 3) := by decide +kernel
theorem dX10_sitting_27 : decode cX10_sitting 27 = .ok (.iconst (-1), 1) := by decide +kernel
theorem dX10_sitting_28 : decode cX10_sitting 28 = .ok (.ireturn, 1) := by decide +kernel
theorem dX10_sitting_29 : decode cX10_sitting 29 = .ok (.aload_n 0, 1) := by decide +kernel
theorem dX10_sitting_30 : decode cX10_sitting 30 = .ok (.getfield 20, 3) := by decide +kernel
theorem dX10_sitting_33 : decode cX10_sitting 33 = .ok (.getfield 97, 3) := by decide +kernel
theorem dX10_sitting_36 : decode cX10_sitting 36 = .ok (.iload_n 1, 1) := by decide +kernel
theorem dX10_sitting_37 : decode cX10_sitting 37 = .ok (.iload_n 2, 1) := by decide +kernel
theorem dX10_sitting_38 : decode cX10_sitting 38 = .ok (.invokevirtual 284, 3) := by decide +kernel
theorem dX10_sitting_41 : decode cX10_sitting 41 = .ok (.ireturn, 1) := by decide +kernel
theorem dX10_book_0 : decode cX10_book 0 = .ok (.aload_n 0, 1) := by decide +kernel
theorem dX10_book_1 : decode cX10_book 1 = .ok (.getfield 20, 3) := by decide +kernel
theorem dX10_book_4 : decode cX10_book 4 = .ok (.getfield 97, 3) := by decide +kernel
theorem dX10_book_7 : decode cX10_book 7 = .ok (.astore_n 3, 1) := by decide +kernel
theorem dX10_book_8 : decode cX10_book 8 = .ok (.iconst 0, 1) := by decide +kernel
theorem dX10_book_9 : decode cX10_book 9 = .ok (.istore 4, 2) := by decide +kernel
theorem dX10_book_11 : decode cX10_book 11 = .ok (.iconst (-1), 1) := by decide +kernel
theorem dX10_book_12 : decode cX10_book 12 = .ok (.istore 5, 2) := by decide +kernel
theorem dX10_book_14 : decode cX10_book 14 = .ok (.iconst (-1), 1) := by decide +kernel
theorem dX10_book_15 : decode cX10_book 15 = .ok (.istore 6, 2) := by decide +kernel
theorem dX10_book_17 : decode cX10_book 17 = .ok (.iconst 0, 1) := by decide +kernel
theorem dX10_book_18 : decode cX10_book 18 = .ok (.istore 7, 2) := by decide +kernel
theorem dX10_book_20 : decode cX10_book 20 = .ok (.iload 7, 2) := by decide +kernel
theorem dX10_book_22 : decode cX10_book 22 = .ok (.aload_n 3, 1) := by decide +kernel
theorem dX10_book_23 : decode cX10_book 23 = .ok (.getfield 115, 3) := by decide +kernel
theorem dX10_book_26 : decode cX10_book 26 = .ok (.if_icmp .ge 42, 3) := by decide +kernel
theorem dX10_book_29 : decode cX10_book 29 = .ok (.aload_n 3, 1) := by decide +kernel
theorem dX10_book_30 : decode cX10_book 30 = .ok (.iload 7, 2) := by decide +kernel
theorem dX10_book_32 : decode cX10_book 32 = .ok (.iconst 0, 1) := by decide +kernel
theorem dX10_book_33 : decode cX10_book 33 = .ok (.invokevirtual 284, 3) := by decide +kernel
theorem dX10_book_36 : decode cX10_book 36 = .ok (.iload_n 1, 1) := by decide +kernel
theorem dX10_book_37 : decode cX10_book 37 = .ok (.if_icmp .ne 25, 3) := by decide +kernel
theorem dX10_book_40 : decode cX10_book 40 = .ok (.iinc 4 1, 3) := by decide +kernel
theorem dX10_book_43 : decode cX10_book 43 = .ok (.iload 5, 2) := by decide +kernel
theorem dX10_book_45 : decode cX10_book 45 = .ok (.iconst (-1), 1) := by decide +kernel
theorem dX10_book_46 : decode cX10_book 46 = .ok (.if_icmp .ne 8, 3) := by decide +kernel
theorem dX10_book_49 : decode cX10_book 49 = .ok (.iload 7, 2) := by decide +kernel
theorem dX10_book_51 : decode cX10_book 51 = .ok (.goto 5, 3) := by decide +kernel
theorem dX10_book_54 : decode cX10_book 54 = .ok (.iload 5, 2) := by decide +kernel
theorem dX10_book_56 : decode cX10_book 56 = .ok (.istore 5, 2) := by decide +kernel
theorem dX10_book_58 : decode cX10_book 58 = .ok (.iload 7, 2) := by decide +kernel
theorem dX10_book_60 : decode cX10_book 60 = .ok (.istore 6, 2) := by decide +kernel
theorem dX10_book_62 : decode cX10_book 62 = .ok (.iinc 7 1, 3) := by decide +kernel
theorem dX10_book_65 : decode cX10_book 65 = .ok (.goto (-45), 3) := by decide +kernel
theorem dX10_book_68 : decode cX10_book 68 = .ok (.iload 4, 2) := by decide +kernel
theorem dX10_book_70 : decode cX10_book 70 = .ok (.iconst 2, 1) := by decide +kernel
theorem dX10_book_71 : decode cX10_book 71 = .ok (.if_icmp .ge 5, 3) := by decide +kernel
theorem dX10_book_74 : decode cX10_book 74 = .ok (.iconst (-1), 1) := by decide +kernel
theorem dX10_book_75 : decode cX10_book 75 = .ok (.ireturn, 1) := by decide +kernel
theorem dX10_book_76 : decode cX10_book 76 = .ok (.iload_n 2, 1) := by decide +kernel
theorem dX10_book_77 : decode cX10_book 77 = .ok (.tableswitch 66 0 3 #[31, 34, 42, 50], 31) := by decide +kernel
theorem dX10_book_108 : decode cX10_book 108 = .ok (.iload 4, 2) := by decide +kernel
theorem dX10_book_110 : decode cX10_book 110 = .ok (.ireturn, 1) := by decide +kernel
theorem dX10_book_111 : decode cX10_book 111 = .ok (.aload_n 3, 1) := by decide +kernel
theorem dX10_book_112 : decode cX10_book 112 = .ok (.iload 5, 2) := by decide +kernel
theorem dX10_book_114 : decode cX10_book 114 = .ok (.iconst 1, 1) := by decide +kernel
theorem dX10_book_115 : decode cX10_book 115 = .ok (.invokevirtual 284, 3) := by decide +kernel
theorem dX10_book_118 : decode cX10_book 118 = .ok (.ireturn, 1) := by decide +kernel
theorem dX10_book_119 : decode cX10_book 119 = .ok (.aload_n 3, 1) := by decide +kernel
theorem dX10_book_120 : decode cX10_book 120 = .ok (.iload 6, 2) := by decide +kernel
theorem dX10_book_122 : decode cX10_book 122 = .ok (.iconst 1, 1) := by decide +kernel
theorem dX10_book_123 : decode cX10_book 123 = .ok (.invokevirtual 284, 3) := by decide +kernel
theorem dX10_book_126 : decode cX10_book 126 = .ok (.ireturn, 1) := by decide +kernel
theorem dX10_book_127 : decode cX10_book 127 = .ok (.aload_n 3, 1) := by decide +kernel
theorem dX10_book_128 : decode cX10_book 128 = .ok (.iload 6, 2) := by decide +kernel
theorem dX10_book_130 : decode cX10_book 130 = .ok (.iconst 2, 1) := by decide +kernel
theorem dX10_book_131 : decode cX10_book 131 = .ok (.invokevirtual 284, 3) := by decide +kernel
theorem dX10_book_134 : decode cX10_book 134 = .ok (.aload_n 3, 1) := by decide +kernel
theorem dX10_book_135 : decode cX10_book 135 = .ok (.iload 5, 2) := by decide +kernel
theorem dX10_book_137 : decode cX10_book 137 = .ok (.iconst 2, 1) := by decide +kernel
theorem dX10_book_138 : decode cX10_book 138 = .ok (.invokevirtual 284, 3) := by decide +kernel
theorem dX10_book_141 : decode cX10_book 141 = .ok (.isub, 1) := by decide +kernel
theorem dX10_book_142 : decode cX10_book 142 = .ok (.ireturn, 1) := by decide +kernel
theorem dX10_book_143 : decode cX10_book 143 = .ok (.iconst (-1), 1) := by decide +kernel
theorem dX10_book_144 : decode cX10_book 144 = .ok (.ireturn, 1) := by decide +kernel
theorem dX10_parts_0 : decode cX10_parts 0 = .ok (.iload_n 1, 1) := by decide +kernel
theorem dX10_parts_1 : decode cX10_parts 1 = .ok (.invokestatic 287, 3) := by decide +kernel
theorem dX10_parts_4 : decode cX10_parts 4 = .ok (.ifCond .ne 6, 3) := by decide +kernel
theorem dX10_parts_7 : decode cX10_parts 7 = .ok (.bipush (-2), 2) := by decide +kernel
theorem dX10_parts_9 : decode cX10_parts 9 = .ok (.ireturn, 1) := by decide +kernel
theorem dX10_parts_10 : decode cX10_parts 10 = .ok (.aload_n 0, 1) := by decide +kernel
theorem dX10_parts_11 : decode cX10_parts 11 = .ok (.getfield 24, 3) := by decide +kernel
theorem dX10_parts_14 : decode cX10_parts 14 = .ok (.iload_n 1, 1) := by decide +kernel
theorem dX10_parts_15 : decode cX10_parts 15 = .ok (.aaload, 1) := by decide +kernel
theorem dX10_parts_16 : decode cX10_parts 16 = .ok (.astore_n 2, 1) := by decide +kernel
theorem dX10_parts_17 : decode cX10_parts 17 = .ok (.aload_n 2, 1) := by decide +kernel
theorem dX10_parts_18 : decode cX10_parts 18 = .ok (.ifnonnull 6, 3) := by decide +kernel
theorem dX10_parts_21 : decode cX10_parts 21 = .ok (.bipush (-6), 2) := by decide +kernel
theorem dX10_parts_23 : decode cX10_parts 23 = .ok (.ireturn, 1) := by decide +kernel
theorem dX10_parts_24 : decode cX10_parts 24 = .ok (.iconst (-1), 1) := by decide +kernel
theorem dX10_parts_25 : decode cX10_parts 25 = .ok (.istore_n 3, 1) := by decide +kernel
theorem dX10_parts_26 : decode cX10_parts 26 = .ok (.iconst (-1), 1) := by decide +kernel
theorem dX10_parts_27 : decode cX10_parts 27 = .ok (.istore 4, 2) := by decide +kernel
theorem dX10_parts_29 : decode cX10_parts 29 = .ok (.aload_n 0, 1) := by decide +kernel
theorem dX10_parts_30 : decode cX10_parts 30 = .ok (.getfield 20, 3) := by decide +kernel
theorem dX10_parts_33 : decode cX10_parts 33 = .ok (.getfield 61, 3) := by decide +kernel
theorem dX10_parts_36 : decode cX10_parts 36 = .ok (.getfield 78, 3) := by decide +kernel
theorem dX10_parts_39 : decode cX10_parts 39 = .ok (.getfield 104, 3) := by decide +kernel
theorem dX10_parts_42 : decode cX10_parts 42 = .ok (.aload_n 2, 1) := by decide +kernel
theorem dX10_parts_43 : decode cX10_parts 43 = .ok (.getfield 61, 3) := by decide +kernel
theorem dX10_parts_46 : decode cX10_parts 46 = .ok (.getfield 78, 3) := by decide +kernel
theorem dX10_parts_49 : decode cX10_parts 49 = .ok (.getfield 104, 3) := by decide +kernel
theorem dX10_parts_52 : decode cX10_parts 52 = .ok (.invokestatic 290, 3) := by decide +kernel
theorem dX10_parts_55 : decode cX10_parts 55 = .ok (.istore 5, 2) := by decide +kernel
theorem dX10_parts_57 : decode cX10_parts 57 = .ok (.iconst 0, 1) := by decide +kernel
theorem dX10_parts_58 : decode cX10_parts 58 = .ok (.istore 6, 2) := by decide +kernel
theorem dX10_parts_60 : decode cX10_parts 60 = .ok (.iload 6, 2) := by decide +kernel
theorem dX10_parts_62 : decode cX10_parts 62 = .ok (.iload 5, 2) := by decide +kernel
theorem dX10_parts_64 : decode cX10_parts 64 = .ok (.if_icmp .ge 100, 3) := by decide +kernel
theorem dX10_parts_67 : decode cX10_parts 67 = .ok (.aload_n 0, 1) := by decide +kernel
theorem dX10_parts_68 : decode cX10_parts 68 = .ok (.getfield 20, 3) := by decide +kernel
theorem dX10_parts_71 : decode cX10_parts 71 = .ok (.getfield 61, 3) := by decide +kernel
theorem dX10_parts_74 : decode cX10_parts 74 = .ok (.getfield 78, 3) := by decide +kernel
theorem dX10_parts_77 : decode cX10_parts 77 = .ok (.getfield 199, 3) := by decide +kernel
theorem dX10_parts_80 : decode cX10_parts 80 = .ok (.iload 6, 2) := by decide +kernel
theorem dX10_parts_82 : decode cX10_parts 82 = .ok (.iaload, 1) := by decide +kernel
theorem dX10_parts_83 : decode cX10_parts 83 = .ok (.aload_n 2, 1) := by decide +kernel
theorem dX10_parts_84 : decode cX10_parts 84 = .ok (.getfield 61, 3) := by decide +kernel
theorem dX10_parts_87 : decode cX10_parts 87 = .ok (.getfield 78, 3) := by decide +kernel
theorem dX10_parts_90 : decode cX10_parts 90 = .ok (.getfield 199, 3) := by decide +kernel
theorem dX10_parts_93 : decode cX10_parts 93 = .ok (.iload 6, 2) := by decide +kernel
theorem dX10_parts_95 : decode cX10_parts 95 = .ok (.iaload, 1) := by decide +kernel
theorem dX10_parts_96 : decode cX10_parts 96 = .ok (.if_icmp .ne 62, 3) := by decide +kernel
theorem dX10_parts_99 : decode cX10_parts 99 = .ok (.aload_n 0, 1) := by decide +kernel
theorem dX10_parts_100 : decode cX10_parts 100 = .ok (.invokevirtual 162, 3) := by decide +kernel
theorem dX10_parts_103 : decode cX10_parts 103 = .ok (.aload_n 0, 1) := by decide +kernel
theorem dX10_parts_104 : decode cX10_parts 104 = .ok (.getfield 20, 3) := by decide +kernel
theorem dX10_parts_107 : decode cX10_parts 107 = .ok (.getfield 61, 3) := by decide +kernel
theorem dX10_parts_110 : decode cX10_parts 110 = .ok (.iload 6, 2) := by decide +kernel
theorem dX10_parts_112 : decode cX10_parts 112 = .ok (.invokevirtual 166, 3) := by decide +kernel
theorem dX10_parts_115 : decode cX10_parts 115 = .ok (.invokestatic 186, 3) := by decide +kernel
theorem dX10_parts_118 : decode cX10_parts 118 = .ok (.istore 7, 2) := by decide +kernel
theorem dX10_parts_120 : decode cX10_parts 120 = .ok (.iload 7, 2) := by decide +kernel
theorem dX10_parts_122 : decode cX10_parts 122 = .ok (.aload_n 0, 1) := by decide +kernel
theorem dX10_parts_123 : decode cX10_parts 123 = .ok (.invokevirtual 162, 3) := by decide +kernel
theorem dX10_parts_126 : decode cX10_parts 126 = .ok (.aload_n 2, 1) := by decide +kernel
theorem dX10_parts_127 : decode cX10_parts 127 = .ok (.getfield 61, 3) := by decide +kernel
theorem dX10_parts_130 : decode cX10_parts 130 = .ok (.iload 6, 2) := by decide +kernel
theorem dX10_parts_132 : decode cX10_parts 132 = .ok (.invokevirtual 166, 3) := by decide +kernel
theorem dX10_parts_135 : decode cX10_parts 135 = .ok (.invokestatic 186, 3) := by decide +kernel
theorem dX10_parts_138 : decode cX10_parts 138 = .ok (.isub, 1) := by decide +kernel
theorem dX10_parts_139 : decode cX10_parts 139 = .ok (.invokestatic 295, 3) := by decide +kernel
theorem dX10_parts_142 : decode cX10_parts 142 = .ok (.istore 8, 2) := by decide +kernel
theorem dX10_parts_144 : decode cX10_parts 144 = .ok (.iload 8, 2) := by decide +kernel
theorem dX10_parts_146 : decode cX10_parts 146 = .ok (.iload 4, 2) := by decide +kernel
theorem dX10_parts_148 : decode cX10_parts 148 = .ok (.if_icmp .le 10, 3) := by decide +kernel
theorem dX10_parts_151 : decode cX10_parts 151 = .ok (.iload 8, 2) := by decide +kernel
theorem dX10_parts_153 : decode cX10_parts 153 = .ok (.istore 4, 2) := by decide +kernel
theorem dX10_parts_155 : decode cX10_parts 155 = .ok (.iload 6, 2) := by decide +kernel
theorem dX10_parts_157 : decode cX10_parts 157 = .ok (.istore_n 3, 1) := by decide +kernel
theorem dX10_parts_158 : decode cX10_parts 158 = .ok (.iinc 6 1, 3) := by decide +kernel
theorem dX10_parts_161 : decode cX10_parts 161 = .ok (.goto (-101), 3) := by decide +kernel
theorem dX10_parts_164 : decode cX10_parts 164 = .ok (.iload_n 3, 1) := by decide +kernel
theorem dX10_parts_165 : decode cX10_parts 165 = .ok (.ireturn, 1) := by decide +kernel
theorem dX10_isImage_0 : decode cX10_isImage 0 = .ok (.iload_n 0, 1) := by decide +kernel
theorem dX10_isImage_1 : decode cX10_isImage 1 = .ok (.ifCond .lt 12, 3) := by decide +kernel
theorem dX10_isImage_4 : decode cX10_isImage 4 = .ok (.iload_n 0, 1) := by decide +kernel
theorem dX10_isImage_5 : decode cX10_isImage 5 = .ok (.iconst 3, 1) := by decide +kernel
theorem dX10_isImage_6 : decode cX10_isImage 6 = .ok (.if_icmp .ge 7, 3) := by decide +kernel
theorem dX10_isImage_9 : decode cX10_isImage 9 = .ok (.iconst 1, 1) := by decide +kernel
theorem dX10_isImage_10 : decode cX10_isImage 10 = .ok (.goto 4, 3) := by decide +kernel
theorem dX10_isImage_13 : decode cX10_isImage 13 = .ok (.iconst 0, 1) := by decide +kernel
theorem dX10_isImage_14 : decode cX10_isImage 14 = .ok (.ireturn, 1) := by decide +kernel
theorem dX10_forget_0 : decode cX10_forget 0 = .ok (.iconst 0, 1) := by decide +kernel
theorem dX10_forget_1 : decode cX10_forget 1 = .ok (.istore_n 1, 1) := by decide +kernel
theorem dX10_forget_2 : decode cX10_forget 2 = .ok (.iconst 0, 1) := by decide +kernel
theorem dX10_forget_3 : decode cX10_forget 3 = .ok (.istore_n 2, 1) := by decide +kernel
theorem dX10_forget_4 : decode cX10_forget 4 = .ok (.iload_n 2, 1) := by decide +kernel
theorem dX10_forget_5 : decode cX10_forget 5 = .ok (.iconst 4, 1) := by decide +kernel
theorem dX10_forget_6 : decode cX10_forget 6 = .ok (.if_icmp .ge 26, 3) := by decide +kernel
theorem dX10_forget_9 : decode cX10_forget 9 = .ok (.iload_n 1, 1) := by decide +kernel
theorem dX10_forget_10 : decode cX10_forget 10 = .ok (.aload_n 0, 1) := by decide +kernel
theorem dX10_forget_11 : decode cX10_forget 11 = .ok (.getfield 20, 3) := by decide +kernel
theorem dX10_forget_14 : decode cX10_forget 14 = .ok (.getfield 61, 3) := by decide +kernel
theorem dX10_forget_17 : decode cX10_forget 17 = .ok (.getfield 88, 3) := by decide +kernel
theorem dX10_forget_20 : decode cX10_forget 20 = .ok (.iload_n 2, 1) := by decide +kernel
theorem dX10_forget_21 : decode cX10_forget 21 = .ok (.invokevirtual 148, 3) := by decide +kernel
theorem dX10_forget_24 : decode cX10_forget 24 = .ok (.iadd, 1) := by decide +kernel
theorem dX10_forget_25 : decode cX10_forget 25 = .ok (.istore_n 1, 1) := by decide +kernel
theorem dX10_forget_26 : decode cX10_forget 26 = .ok (.iinc 2 1, 3) := by decide +kernel
theorem dX10_forget_29 : decode cX10_forget 29 = .ok (.goto (-25), 3) := by decide +kernel
theorem dX10_forget_32 : decode cX10_forget 32 = .ok (.aload_n 0, 1) := by decide +kernel
theorem dX10_forget_33 : decode cX10_forget 33 = .ok (.getfield 20, 3) := by decide +kernel
theorem dX10_forget_36 : decode cX10_forget 36 = .ok (.getfield 61, 3) := by decide +kernel
theorem dX10_forget_39 : decode cX10_forget 39 = .ok (.getfield 88, 3) := by decide +kernel
theorem dX10_forget_42 : decode cX10_forget 42 = .ok (.invokevirtual 92, 3) := by decide +kernel
theorem dX10_forget_45 : decode cX10_forget 45 = .ok (.aload_n 0, 1) := by decide +kernel
theorem dX10_forget_46 : decode cX10_forget 46 = .ok (.getfield 20, 3) := by decide +kernel
theorem dX10_forget_49 : decode cX10_forget 49 = .ok (.getfield 97, 3) := by decide +kernel
theorem dX10_forget_52 : decode cX10_forget 52 = .ok (.invokevirtual 101, 3) := by decide +kernel
theorem dX10_forget_55 : decode cX10_forget 55 = .ok (.iload_n 1, 1) := by decide +kernel
theorem dX10_forget_56 : decode cX10_forget 56 = .ok (.ireturn, 1) := by decide +kernel
theorem dX10_law_0 : decode cX10_law 0 = .ok (.iload_n 1, 1) := by decide +kernel
theorem dX10_law_1 : decode cX10_law 1 = .ok (.ifCond .lt 37, 3) := by decide +kernel
theorem dX10_law_4 : decode cX10_law 4 = .ok (.iload_n 1, 1) := by decide +kernel
theorem dX10_law_5 : decode cX10_law 5 = .ok (.iconst 3, 1) := by decide +kernel
theorem dX10_law_6 : decode cX10_law 6 = .ok (.if_icmp .ge 32, 3) := by decide +kernel
theorem dX10_law_9 : decode cX10_law 9 = .ok (.iload_n 2, 1) := by decide +kernel
theorem dX10_law_10 : decode cX10_law 10 = .ok (.invokestatic 135, 3) := by decide +kernel
theorem dX10_law_13 : decode cX10_law 13 = .ok (.ifCond .eq 25, 3) := by decide +kernel
theorem dX10_law_16 : decode cX10_law 16 = .ok (.aload_n 0, 1) := by decide +kernel
theorem dX10_law_17 : decode cX10_law 17 = .ok (.getfield 20, 3) := by decide +kernel
theorem dX10_law_20 : decode cX10_law 20 = .ok (.getfield 61, 3) := by decide +kernel
theorem dX10_law_23 : decode cX10_law 23 = .ok (.getfield 65, 3) := by decide +kernel
theorem dX10_law_26 : decode cX10_law 26 = .ok (.iload 4, 2) := by decide +kernel
theorem dX10_law_28 : decode cX10_law 28 = .ok (.invokevirtual 138, 3) := by decide +kernel
theorem dX10_law_31 : decode cX10_law 31 = .ok (.ifCond .eq 7, 3) := by decide +kernel
theorem dX10_law_34 : decode cX10_law 34 = .ok (.iconst 1, 1) := by decide +kernel
theorem dX10_law_35 : decode cX10_law 35 = .ok (.goto 4, 3) := by decide +kernel
theorem dX10_law_38 : decode cX10_law 38 = .ok (.iconst 0, 1) := by decide +kernel
theorem dX10_law_39 : decode cX10_law 39 = .ok (.istore 5, 2) := by decide +kernel
theorem dX10_law_41 : decode cX10_law 41 = .ok (.iload 5, 2) := by decide +kernel
theorem dX10_law_43 : decode cX10_law 43 = .ok (.ifCond .eq 14, 3) := by decide +kernel
theorem dX10_law_46 : decode cX10_law 46 = .ok (.iload_n 3, 1) := by decide +kernel
theorem dX10_law_47 : decode cX10_law 47 = .ok (.ifCond .lt 10, 3) := by decide +kernel
theorem dX10_law_50 : decode cX10_law 50 = .ok (.iload_n 3, 1) := by decide +kernel
theorem dX10_law_51 : decode cX10_law 51 = .ok (.sipush 1000, 3) := by decide +kernel
theorem dX10_law_54 : decode cX10_law 54 = .ok (.if_icmp .le 7, 3) := by decide +kernel
theorem dX10_law_57 : decode cX10_law 57 = .ok (.ldc2_w 298, 3) := by decide +kernel
theorem dX10_law_60 : decode cX10_law 60 = .ok (.lreturn, 1) := by decide +kernel
theorem dX10_law_61 : decode cX10_law 61 = .ok (.aload_n 0, 1) := by decide +kernel
theorem dX10_law_62 : decode cX10_law 62 = .ok (.getfield 20, 3) := by decide +kernel
theorem dX10_law_65 : decode cX10_law 65 = .ok (.getfield 61, 3) := by decide +kernel
theorem dX10_law_68 : decode cX10_law 68 = .ok (.getfield 65, 3) := by decide +kernel
theorem dX10_law_71 : decode cX10_law 71 = .ok (.iload_n 1, 1) := by decide +kernel
theorem dX10_law_72 : decode cX10_law 72 = .ok (.iload_n 2, 1) := by decide +kernel
theorem dX10_law_73 : decode cX10_law 73 = .ok (.invokestatic 217, 3) := by decide +kernel
theorem dX10_law_76 : decode cX10_law 76 = .ok (.iload_n 3, 1) := by decide +kernel
theorem dX10_law_77 : decode cX10_law 77 = .ok (.iload 4, 2) := by decide +kernel
theorem dX10_law_79 : decode cX10_law 79 = .ok (.aload_n 0, 1) := by decide +kernel
theorem dX10_law_80 : decode cX10_law 80 = .ok (.getfield 20, 3) := by decide +kernel
theorem dX10_law_83 : decode cX10_law 83 = .ok (.getfield 61, 3) := by decide +kernel
theorem dX10_law_86 : decode cX10_law 86 = .ok (.getfield 88, 3) := by decide +kernel
theorem dX10_law_89 : decode cX10_law 89 = .ok (.getfield 300, 3) := by decide +kernel
theorem dX10_law_92 : decode cX10_law 92 = .ok (.aload_n 0, 1) := by decide +kernel
theorem dX10_law_93 : decode cX10_law 93 = .ok (.getfield 20, 3) := by decide +kernel
theorem dX10_law_96 : decode cX10_law 96 = .ok (.getfield 61, 3) := by decide +kernel
theorem dX10_law_99 : decode cX10_law 99 = .ok (.getfield 88, 3) := by decide +kernel
theorem dX10_law_102 : decode cX10_law 102 = .ok (.getfield 127, 3) := by decide +kernel
theorem dX10_law_105 : decode cX10_law 105 = .ok (.invokevirtual 303, 3) := by decide +kernel
theorem dX10_law_108 : decode cX10_law 108 = .ok (.lreturn, 1) := by decide +kernel
theorem dX10_count_0 : decode cX10_count 0 = .ok (.iload_n 1, 1) := by decide +kernel
theorem dX10_count_1 : decode cX10_count 1 = .ok (.tableswitch 191 0 12 #[67, 81, 95, 109, 114, 128, 142, 153, 167, 167, 167, 167, 186], 67) := by decide +kernel
theorem dX10_count_68 : decode cX10_count 68 = .ok (.aload_n 0, 1) := by decide +kernel
theorem dX10_count_69 : decode cX10_count 69 = .ok (.getfield 20, 3) := by decide +kernel
theorem dX10_count_72 : decode cX10_count 72 = .ok (.getfield 61, 3) := by decide +kernel
theorem dX10_count_75 : decode cX10_count 75 = .ok (.getfield 65, 3) := by decide +kernel
theorem dX10_count_78 : decode cX10_count 78 = .ok (.getfield 132, 3) := by decide +kernel
theorem dX10_count_81 : decode cX10_count 81 = .ok (.ireturn, 1) := by decide +kernel
theorem dX10_count_82 : decode cX10_count 82 = .ok (.aload_n 0, 1) := by decide +kernel
theorem dX10_count_83 : decode cX10_count 83 = .ok (.getfield 20, 3) := by decide +kernel
theorem dX10_count_86 : decode cX10_count 86 = .ok (.getfield 61, 3) := by decide +kernel
theorem dX10_count_89 : decode cX10_count 89 = .ok (.getfield 78, 3) := by decide +kernel
theorem dX10_count_92 : decode cX10_count 92 = .ok (.getfield 104, 3) := by decide +kernel
theorem dX10_count_95 : decode cX10_count 95 = .ok (.ireturn, 1) := by decide +kernel
theorem dX10_count_96 : decode cX10_count 96 = .ok (.aload_n 0, 1) := by decide +kernel
theorem dX10_count_97 : decode cX10_count 97 = .ok (.getfield 20, 3) := by decide +kernel
theorem dX10_count_100 : decode cX10_count 100 = .ok (.getfield 61, 3) := by decide +kernel
theorem dX10_count_103 : decode cX10_count 103 = .ok (.getfield 65, 3) := by decide +kernel
theorem dX10_count_106 : decode cX10_count 106 = .ok (.getfield 307, 3) := by decide +kernel
theorem dX10_count_109 : decode cX10_count 109 = .ok (.ireturn, 1) := by decide +kernel
theorem dX10_count_110 : decode cX10_count 110 = .ok (.aload_n 0, 1) := by decide +kernel
theorem dX10_count_111 : decode cX10_count 111 = .ok (.getfield 34, 3) := by decide +kernel
theorem dX10_count_114 : decode cX10_count 114 = .ok (.ireturn, 1) := by decide +kernel
theorem dX10_count_115 : decode cX10_count 115 = .ok (.aload_n 0, 1) := by decide +kernel
theorem dX10_count_116 : decode cX10_count 116 = .ok (.getfield 20, 3) := by decide +kernel
theorem dX10_count_119 : decode cX10_count 119 = .ok (.getfield 61, 3) := by decide +kernel
theorem dX10_count_122 : decode cX10_count 122 = .ok (.getfield 88, 3) := by decide +kernel
theorem dX10_count_125 : decode cX10_count 125 = .ok (.getfield 127, 3) := by decide +kernel
theorem dX10_count_128 : decode cX10_count 128 = .ok (.ireturn, 1) := by decide +kernel
theorem dX10_count_129 : decode cX10_count 129 = .ok (.aload_n 0, 1) := by decide +kernel
theorem dX10_count_130 : decode cX10_count 130 = .ok (.getfield 20, 3) := by decide +kernel
theorem dX10_count_133 : decode cX10_count 133 = .ok (.getfield 61, 3) := by decide +kernel
theorem dX10_count_136 : decode cX10_count 136 = .ok (.getfield 88, 3) := by decide +kernel
theorem dX10_count_139 : decode cX10_count 139 = .ok (.getfield 300, 3) := by decide +kernel
theorem dX10_count_142 : decode cX10_count 142 = .ok (.ireturn, 1) := by decide +kernel
theorem dX10_count_143 : decode cX10_count 143 = .ok (.aload_n 0, 1) := by decide +kernel
theorem dX10_count_144 : decode cX10_count 144 = .ok (.getfield 20, 3) := by decide +kernel
theorem dX10_count_147 : decode cX10_count 147 = .ok (.getfield 97, 3) := by decide +kernel
theorem dX10_count_150 : decode cX10_count 150 = .ok (.getfield 115, 3) := by decide +kernel
theorem dX10_count_153 : decode cX10_count 153 = .ok (.ireturn, 1) := by decide +kernel
theorem dX10_count_154 : decode cX10_count 154 = .ok (.aload_n 0, 1) := by decide +kernel
theorem dX10_count_155 : decode cX10_count 155 = .ok (.getfield 20, 3) := by decide +kernel
theorem dX10_count_158 : decode cX10_count 158 = .ok (.getfield 61, 3) := by decide +kernel
theorem dX10_count_161 : decode cX10_count 161 = .ok (.getfield 65, 3) := by decide +kernel
theorem dX10_count_164 : decode cX10_count 164 = .ok (.getfield 310, 3) := by decide +kernel
theorem dX10_count_167 : decode cX10_count 167 = .ok (.ireturn, 1) := by decide +kernel
theorem dX10_count_168 : decode cX10_count 168 = .ok (.aload_n 0, 1) := by decide +kernel
theorem dX10_count_169 : decode cX10_count 169 = .ok (.getfield 20, 3) := by decide +kernel
theorem dX10_count_172 : decode cX10_count 172 = .ok (.getfield 61, 3) := by decide +kernel
theorem dX10_count_175 : decode cX10_count 175 = .ok (.getfield 65, 3) := by decide +kernel
theorem dX10_count_178 : decode cX10_count 178 = .ok (.getfield 313, 3) := by decide +kernel
theorem dX10_count_181 : decode cX10_count 181 = .ok (.iload_n 1, 1) := by decide +kernel
theorem dX10_count_182 : decode cX10_count 182 = .ok (.bipush 8, 2) := by decide +kernel
theorem dX10_count_184 : decode cX10_count 184 = .ok (.isub, 1) := by decide +kernel
theorem dX10_count_185 : decode cX10_count 185 = .ok (.iaload, 1) := by decide +kernel
theorem dX10_count_186 : decode cX10_count 186 = .ok (.ireturn, 1) := by decide +kernel
theorem dX10_count_187 : decode cX10_count 187 = .ok (.aload_n 0, 1) := by decide +kernel
theorem dX10_count_188 : decode cX10_count 188 = .ok (.invokevirtual 316, 3) := by decide +kernel
theorem dX10_count_191 : decode cX10_count 191 = .ok (.ireturn, 1) := by decide +kernel
theorem dX10_count_192 : decode cX10_count 192 = .ok (.iconst (-1), 1) := by decide +kernel
theorem dX10_count_193 : decode cX10_count 193 = .ok (.ireturn, 1) := by decide +kernel
theorem dX10_filledSlots_0 : decode cX10_filledSlots 0 = .ok (.iconst 0, 1) := by decide +kernel
theorem dX10_filledSlots_1 : decode cX10_filledSlots 1 = .ok (.istore_n 1, 1) := by decide +kernel
theorem dX10_filledSlots_2 : decode cX10_filledSlots 2 = .ok (.iconst 0, 1) := by decide +kernel
theorem dX10_filledSlots_3 : decode cX10_filledSlots 3 = .ok (.istore_n 2, 1) := by decide +kernel
theorem dX10_filledSlots_4 : decode cX10_filledSlots 4 = .ok (.iload_n 2, 1) := by decide +kernel
theorem dX10_filledSlots_5 : decode cX10_filledSlots 5 = .ok (.iconst 4, 1) := by decide +kernel
theorem dX10_filledSlots_6 : decode cX10_filledSlots 6 = .ok (.if_icmp .ge 21, 3) := by decide +kernel
theorem dX10_filledSlots_9 : decode cX10_filledSlots 9 = .ok (.aload_n 0, 1) := by decide +kernel
theorem dX10_filledSlots_10 : decode cX10_filledSlots 10 = .ok (.getfield 30, 3) := by decide +kernel
theorem dX10_filledSlots_13 : decode cX10_filledSlots 13 = .ok (.iload_n 2, 1) := by decide +kernel
theorem dX10_filledSlots_14 : decode cX10_filledSlots 14 = .ok (.aaload, 1) := by decide +kernel
theorem dX10_filledSlots_15 : decode cX10_filledSlots 15 = .ok (.ifnull 6, 3) := by decide +kernel
theorem dX10_filledSlots_18 : decode cX10_filledSlots 18 = .ok (.iinc 1 1, 3) := by decide +kernel
theorem dX10_filledSlots_21 : decode cX10_filledSlots 21 = .ok (.iinc 2 1, 3) := by decide +kernel
theorem dX10_filledSlots_24 : decode cX10_filledSlots 24 = .ok (.goto (-20), 3) := by decide +kernel
theorem dX10_filledSlots_27 : decode cX10_filledSlots 27 = .ok (.iload_n 1, 1) := by decide +kernel
theorem dX10_filledSlots_28 : decode cX10_filledSlots 28 = .ok (.ireturn, 1) := by decide +kernel
theorem dX10_keep_0 : decode cX10_keep 0 = .ok (.iload_n 1, 1) := by decide +kernel
theorem dX10_keep_1 : decode cX10_keep 1 = .ok (.invokestatic 287, 3) := by decide +kernel
theorem dX10_keep_4 : decode cX10_keep 4 = .ok (.ifCond .ne 6, 3) := by decide +kernel
theorem dX10_keep_7 : decode cX10_keep 7 = .ok (.bipush (-2), 2) := by decide +kernel
theorem dX10_keep_9 : decode cX10_keep 9 = .ok (.ireturn, 1) := by decide +kernel
theorem dX10_keep_10 : decode cX10_keep 10 = .ok (.aload_n 0, 1) := by decide +kernel
theorem dX10_keep_11 : decode cX10_keep 11 = .ok (.getfield 24, 3) := by decide +kernel
theorem dX10_keep_14 : decode cX10_keep 14 = .ok (.iload_n 1, 1) := by decide +kernel
theorem dX10_keep_15 : decode cX10_keep 15 = .ok (.aaload, 1) := by decide +kernel
theorem dX10_keep_16 : decode cX10_keep 16 = .ok (.ifnonnull 16, 3) := by decide +kernel
theorem dX10_keep_19 : decode cX10_keep 19 = .ok (.aload_n 0, 1) := by decide +kernel
theorem dX10_keep_20 : decode cX10_keep 20 = .ok (.getfield 24, 3) := by decide +kernel
theorem dX10_keep_23 : decode cX10_keep 23 = .ok (.iload_n 1, 1) := by decide +kernel
theorem dX10_keep_24 : decode cX10_keep 24 = .ok (.new 17, 3) := by decide +kernel
theorem dX10_keep_27 : decode cX10_keep 27 = .ok (.dup, 1) := by decide +kernel
theorem dX10_keep_28 : decode cX10_keep 28 = .ok (.invokespecial 19, 3) := by decide +kernel
theorem dX10_keep_31 : decode cX10_keep 31 = .ok (.aastore, 1) := by decide +kernel
theorem dX10_keep_32 : decode cX10_keep 32 = .ok (.aload_n 0, 1) := by decide +kernel
theorem dX10_keep_33 : decode cX10_keep 33 = .ok (.getfield 24, 3) := by decide +kernel
theorem dX10_keep_36 : decode cX10_keep 36 = .ok (.iload_n 1, 1) := by decide +kernel
theorem dX10_keep_37 : decode cX10_keep 37 = .ok (.aaload, 1) := by decide +kernel
theorem dX10_keep_38 : decode cX10_keep 38 = .ok (.aload_n 0, 1) := by decide +kernel
theorem dX10_keep_39 : decode cX10_keep 39 = .ok (.getfield 20, 3) := by decide +kernel
theorem dX10_keep_42 : decode cX10_keep 42 = .ok (.invokevirtual 319, 3) := by decide +kernel
theorem dX10_keep_45 : decode cX10_keep 45 = .ok (.iconst 0, 1) := by decide +kernel
theorem dX10_keep_46 : decode cX10_keep 46 = .ok (.ireturn, 1) := by decide +kernel
theorem dX10_back_0 : decode cX10_back 0 = .ok (.iload_n 1, 1) := by decide +kernel
theorem dX10_back_1 : decode cX10_back 1 = .ok (.invokestatic 287, 3) := by decide +kernel
theorem dX10_back_4 : decode cX10_back 4 = .ok (.ifCond .ne 6, 3) := by decide +kernel
theorem dX10_back_7 : decode cX10_back 7 = .ok (.bipush (-2), 2) := by decide +kernel
theorem dX10_back_9 : decode cX10_back 9 = .ok (.ireturn, 1) := by decide +kernel
theorem dX10_back_10 : decode cX10_back 10 = .ok (.aload_n 0, 1) := by decide +kernel
theorem dX10_back_11 : decode cX10_back 11 = .ok (.getfield 24, 3) := by decide +kernel
theorem dX10_back_14 : decode cX10_back 14 = .ok (.iload_n 1, 1) := by decide +kernel
theorem dX10_back_15 : decode cX10_back 15 = .ok (.aaload, 1) := by decide +kernel
theorem dX10_back_16 : decode cX10_back 16 = .ok (.ifnonnull 6, 3) := by decide +kernel
theorem dX10_back_19 : decode cX10_back 19 = .ok (.bipush (-6), 2) := by decide +kernel
theorem dX10_back_21 : decode cX10_back 21 = .ok (.ireturn, 1) := by decide +kernel
theorem dX10_back_22 : decode cX10_back 22 = .ok (.aload_n 0, 1) := by decide +kernel
theorem dX10_back_23 : decode cX10_back 23 = .ok (.getfield 20, 3) := by decide +kernel
theorem dX10_back_26 : decode cX10_back 26 = .ok (.aload_n 0, 1) := by decide +kernel
theorem dX10_back_27 : decode cX10_back 27 = .ok (.getfield 24, 3) := by decide +kernel
theorem dX10_back_30 : decode cX10_back 30 = .ok (.iload_n 1, 1) := by decide +kernel
theorem dX10_back_31 : decode cX10_back 31 = .ok (.aaload, 1) := by decide +kernel
theorem dX10_back_32 : decode cX10_back 32 = .ok (.invokevirtual 319, 3) := by decide +kernel
theorem dX10_back_35 : decode cX10_back 35 = .ok (.iconst 0, 1) := by decide +kernel
theorem dX10_back_36 : decode cX10_back 36 = .ok (.ireturn, 1) := by decide +kernel
theorem dX10_isSlot_0 : decode cX10_isSlot 0 = .ok (.iload_n 0, 1) := by decide +kernel
theorem dX10_isSlot_1 : decode cX10_isSlot 1 = .ok (.ifCond .lt 12, 3) := by decide +kernel
theorem dX10_isSlot_4 : decode cX10_isSlot 4 = .ok (.iload_n 0, 1) := by decide +kernel
theorem dX10_isSlot_5 : decode cX10_isSlot 5 = .ok (.iconst 4, 1) := by decide +kernel
theorem dX10_isSlot_6 : decode cX10_isSlot 6 = .ok (.if_icmp .ge 7, 3) := by decide +kernel
theorem dX10_isSlot_9 : decode cX10_isSlot 9 = .ok (.iconst 1, 1) := by decide +kernel
theorem dX10_isSlot_10 : decode cX10_isSlot 10 = .ok (.goto 4, 3) := by decide +kernel
theorem dX10_isSlot_13 : decode cX10_isSlot 13 = .ok (.iconst 0, 1) := by decide +kernel
theorem dX10_isSlot_14 : decode cX10_isSlot 14 = .ok (.ireturn, 1) := by decide +kernel
theorem dX10_row_0 : decode cX10_row 0 = .ok (.iload_n 1, 1) := by decide +kernel
theorem dX10_row_1 : decode cX10_row 1 = .ok (.invokestatic 224, 3) := by decide +kernel
theorem dX10_row_4 : decode cX10_row 4 = .ok (.ifCond .eq 18, 3) := by decide +kernel
theorem dX10_row_7 : decode cX10_row 7 = .ok (.iload_n 2, 1) := by decide +kernel
theorem dX10_row_8 : decode cX10_row 8 = .ok (.ifCond .lt 14, 3) := by decide +kernel
theorem dX10_row_11 : decode cX10_row 11 = .ok (.iload_n 2, 1) := by decide +kernel
theorem dX10_row_12 : decode cX10_row 12 = .ok (.iconst 3, 1) := by decide +kernel
theorem dX10_row_13 : decode cX10_row 13 = .ok (.if_icmp .gt 9, 3) := by decide +kernel
theorem dX10_row_16 : decode cX10_row 16 = .ok (.iload_n 3, 1) := by decide +kernel
theorem dX10_row_17 : decode cX10_row 17 = .ok (.bipush 60, 2) := by decide +kernel
theorem dX10_row_19 : decode cX10_row 19 = .ok (.if_icmp .le 6, 3) := by decide +kernel
theorem dX10_row_22 : decode cX10_row 22 = .ok (.bipush (-2), 2) := by decide +kernel
theorem dX10_row_24 : decode cX10_row 24 = .ok (.ireturn, 1) := by decide +kernel
theorem dX10_row_25 : decode cX10_row 25 = .ok (.iload_n 3, 1) := by decide +kernel
theorem dX10_row_26 : decode cX10_row 26 = .ok (.ifCond .ge 6, 3) := by decide +kernel
theorem dX10_row_29 : decode cX10_row 29 = .ok (.bipush (-3), 2) := by decide +kernel
theorem dX10_row_31 : decode cX10_row 31 = .ok (.ireturn, 1) := by decide +kernel
theorem dX10_row_32 : decode cX10_row 32 = .ok (.aload_n 0, 1) := by decide +kernel
theorem dX10_row_33 : decode cX10_row 33 = .ok (.getfield 30, 3) := by decide +kernel
theorem dX10_row_36 : decode cX10_row 36 = .ok (.iload_n 1, 1) := by decide +kernel
theorem dX10_row_37 : decode cX10_row 37 = .ok (.aaload, 1) := by decide +kernel
theorem dX10_row_38 : decode cX10_row 38 = .ok (.ifnonnull 16, 3) := by decide +kernel
theorem dX10_row_41 : decode cX10_row 41 = .ok (.aload_n 0, 1) := by decide +kernel
theorem dX10_row_42 : decode cX10_row 42 = .ok (.getfield 30, 3) := by decide +kernel
theorem dX10_row_45 : decode cX10_row 45 = .ok (.iload_n 1, 1) := by decide +kernel
theorem dX10_row_46 : decode cX10_row 46 = .ok (.new 28, 3) := by decide +kernel
theorem dX10_row_49 : decode cX10_row 49 = .ok (.dup, 1) := by decide +kernel
theorem dX10_row_50 : decode cX10_row 50 = .ok (.invokespecial 322, 3) := by decide +kernel
theorem dX10_row_53 : decode cX10_row 53 = .ok (.aastore, 1) := by decide +kernel
theorem dX10_row_54 : decode cX10_row 54 = .ok (.aload_n 0, 1) := by decide +kernel
theorem dX10_row_55 : decode cX10_row 55 = .ok (.getfield 30, 3) := by decide +kernel
theorem dX10_row_58 : decode cX10_row 58 = .ok (.iload_n 1, 1) := by decide +kernel
theorem dX10_row_59 : decode cX10_row 59 = .ok (.aaload, 1) := by decide +kernel
theorem dX10_row_60 : decode cX10_row 60 = .ok (.iload_n 2, 1) := by decide +kernel
theorem dX10_row_61 : decode cX10_row 61 = .ok (.iload_n 3, 1) := by decide +kernel
theorem dX10_row_62 : decode cX10_row 62 = .ok (.invokevirtual 323, 3) := by decide +kernel
theorem dX10_row_65 : decode cX10_row 65 = .ok (.iconst 0, 1) := by decide +kernel
theorem dX10_row_66 : decode cX10_row 66 = .ok (.ireturn, 1) := by decide +kernel
theorem dX10_write_0 : decode cX10_write 0 = .ok (.iload_n 1, 1) := by decide +kernel
theorem dX10_write_1 : decode cX10_write 1 = .ok (.invokestatic 224, 3) := by decide +kernel
theorem dX10_write_4 : decode cX10_write 4 = .ok (.ifCond .ne 6, 3) := by decide +kernel
theorem dX10_write_7 : decode cX10_write 7 = .ok (.bipush (-2), 2) := by decide +kernel
theorem dX10_write_9 : decode cX10_write 9 = .ok (.ireturn, 1) := by decide +kernel
theorem dX10_write_10 : decode cX10_write 10 = .ok (.aload_n 0, 1) := by decide +kernel
theorem dX10_write_11 : decode cX10_write 11 = .ok (.getfield 30, 3) := by decide +kernel
theorem dX10_write_14 : decode cX10_write 14 = .ok (.iload_n 1, 1) := by decide +kernel
theorem dX10_write_15 : decode cX10_write 15 = .ok (.aaload, 1) := by decide +kernel
theorem dX10_write_16 : decode cX10_write 16 = .ok (.astore 5, 2) := by decide +kernel
theorem dX10_write_18 : decode cX10_write 18 = .ok (.aload 5, 2) := by decide +kernel
theorem dX10_write_20 : decode cX10_write 20 = .ok (.ifnonnull 6, 3) := by decide +kernel
theorem dX10_write_23 : decode cX10_write 23 = .ok (.bipush (-6), 2) := by decide +kernel
theorem dX10_write_25 : decode cX10_write 25 = .ok (.ireturn, 1) := by decide +kernel
theorem dX10_write_26 : decode cX10_write 26 = .ok (.iload_n 2, 1) := by decide +kernel
theorem dX10_write_27 : decode cX10_write 27 = .ok (.ifCond .lt 12, 3) := by decide +kernel
theorem dX10_write_30 : decode cX10_write 30 = .ok (.iload_n 2, 1) := by decide +kernel
theorem dX10_write_31 : decode cX10_write 31 = .ok (.aload 5, 2) := by decide +kernel
theorem dX10_write_33 : decode cX10_write 33 = .ok (.getfield 227, 3) := by decide +kernel
theorem dX10_write_36 : decode cX10_write 36 = .ok (.if_icmp .lt 6, 3) := by decide +kernel
theorem dX10_write_39 : decode cX10_write 39 = .ok (.bipush (-7), 2) := by decide +kernel
theorem dX10_write_41 : decode cX10_write 41 = .ok (.ireturn, 1) := by decide +kernel
theorem dX10_write_42 : decode cX10_write 42 = .ok (.aload 5, 2) := by decide +kernel
theorem dX10_write_44 : decode cX10_write 44 = .ok (.getfield 230, 3) := by decide +kernel
theorem dX10_write_47 : decode cX10_write 47 = .ok (.iload_n 2, 1) := by decide +kernel
theorem dX10_write_48 : decode cX10_write 48 = .ok (.aload 5, 2) := by decide +kernel
theorem dX10_write_50 : decode cX10_write 50 = .ok (.lload_n 3, 1) := by decide +kernel
theorem dX10_write_51 : decode cX10_write 51 = .ok (.invokevirtual 325, 3) := by decide +kernel
theorem dX10_write_54 : decode cX10_write 54 = .ok (.lastore, 1) := by decide +kernel
theorem dX10_write_55 : decode cX10_write 55 = .ok (.iconst 0, 1) := by decide +kernel
theorem dX10_write_56 : decode cX10_write 56 = .ok (.ireturn, 1) := by decide +kernel
theorem dX10_paste_0 : decode cX10_paste 0 = .ok (.iload_n 1, 1) := by decide +kernel
theorem dX10_paste_1 : decode cX10_paste 1 = .ok (.invokestatic 224, 3) := by decide +kernel
theorem dX10_paste_4 : decode cX10_paste 4 = .ok (.ifCond .eq 10, 3) := by decide +kernel
theorem dX10_paste_7 : decode cX10_paste 7 = .ok (.iload_n 3, 1) := by decide +kernel
theorem dX10_paste_8 : decode cX10_paste 8 = .ok (.invokestatic 224, 3) := by decide +kernel
theorem dX10_paste_11 : decode cX10_paste 11 = .ok (.ifCond .ne 6, 3) := by decide +kernel
theorem dX10_paste_14 : decode cX10_paste 14 = .ok (.bipush (-2), 2) := by decide +kernel
theorem dX10_paste_16 : decode cX10_paste 16 = .ok (.ireturn, 1) := by decide +kernel
theorem dX10_paste_17 : decode cX10_paste 17 = .ok (.aload_n 0, 1) := by decide +kernel
theorem dX10_paste_18 : decode cX10_paste 18 = .ok (.getfield 30, 3) := by decide +kernel
theorem dX10_paste_21 : decode cX10_paste 21 = .ok (.iload_n 1, 1) := by decide +kernel
theorem dX10_paste_22 : decode cX10_paste 22 = .ok (.aaload, 1) := by decide +kernel
theorem dX10_paste_23 : decode cX10_paste 23 = .ok (.astore 6, 2) := by decide +kernel
theorem dX10_paste_25 : decode cX10_paste 25 = .ok (.aload_n 0, 1) := by decide +kernel
theorem dX10_paste_26 : decode cX10_paste 26 = .ok (.getfield 30, 3) := by decide +kernel
theorem dX10_paste_29 : decode cX10_paste 29 = .ok (.iload_n 3, 1) := by decide +kernel
theorem dX10_paste_30 : decode cX10_paste 30 = .ok (.aaload, 1) := by decide +kernel
theorem dX10_paste_31 : decode cX10_paste 31 = .ok (.astore 7, 2) := by decide +kernel
theorem dX10_paste_33 : decode cX10_paste 33 = .ok (.aload 6, 2) := by decide +kernel
theorem dX10_paste_35 : decode cX10_paste 35 = .ok (.ifnull 8, 3) := by decide +kernel
theorem dX10_paste_38 : decode cX10_paste 38 = .ok (.aload 7, 2) := by decide +kernel
theorem dX10_paste_40 : decode cX10_paste 40 = .ok (.ifnonnull 6, 3) := by decide +kernel
theorem dX10_paste_43 : decode cX10_paste 43 = .ok (.bipush (-6), 2) := by decide +kernel
theorem dX10_paste_45 : decode cX10_paste 45 = .ok (.ireturn, 1) := by decide +kernel
theorem dX10_paste_46 : decode cX10_paste 46 = .ok (.aload 6, 2) := by decide +kernel
theorem dX10_paste_48 : decode cX10_paste 48 = .ok (.getfield 329, 3) := by decide +kernel
theorem dX10_paste_51 : decode cX10_paste 51 = .ok (.aload 7, 2) := by decide +kernel
theorem dX10_paste_53 : decode cX10_paste 53 = .ok (.getfield 329, 3) := by decide +kernel
theorem dX10_paste_56 : decode cX10_paste 56 = .ok (.if_icmp .eq 6, 3) := by decide +kernel
theorem dX10_paste_59 : decode cX10_paste 59 = .ok (.bipush (-8), 2) := by decide +kernel
theorem dX10_paste_61 : decode cX10_paste 61 = .ok (.ireturn, 1) := by decide +kernel
theorem dX10_paste_62 : decode cX10_paste 62 = .ok (.aload 6, 2) := by decide +kernel
theorem dX10_paste_64 : decode cX10_paste 64 = .ok (.iload_n 2, 1) := by decide +kernel
theorem dX10_paste_65 : decode cX10_paste 65 = .ok (.iload 5, 2) := by decide +kernel
theorem dX10_paste_67 : decode cX10_paste 67 = .ok (.invokevirtual 332, 3) := by decide +kernel
theorem dX10_paste_70 : decode cX10_paste 70 = .ok (.ifCond .eq 15, 3) := by decide +kernel
theorem dX10_paste_73 : decode cX10_paste 73 = .ok (.aload 7, 2) := by decide +kernel
theorem dX10_paste_75 : decode cX10_paste 75 = .ok (.iload 4, 2) := by decide +kernel
theorem dX10_paste_77 : decode cX10_paste 77 = .ok (.iload 5, 2) := by decide +kernel
theorem dX10_paste_79 : decode cX10_paste 79 = .ok (.invokevirtual 332, 3) := by decide +kernel
theorem dX10_paste_82 : decode cX10_paste 82 = .ok (.ifCond .ne 6, 3) := by decide +kernel
theorem dX10_paste_85 : decode cX10_paste 85 = .ok (.bipush (-7), 2) := by decide +kernel
theorem dX10_paste_87 : decode cX10_paste 87 = .ok (.ireturn, 1) := by decide +kernel
theorem dX10_paste_88 : decode cX10_paste 88 = .ok (.aload 6, 2) := by decide +kernel
theorem dX10_paste_90 : decode cX10_paste 90 = .ok (.getfield 230, 3) := by decide +kernel
theorem dX10_paste_93 : decode cX10_paste 93 = .ok (.iload_n 2, 1) := by decide +kernel
theorem dX10_paste_94 : decode cX10_paste 94 = .ok (.aload 7, 2) := by decide +kernel
theorem dX10_paste_96 : decode cX10_paste 96 = .ok (.getfield 230, 3) := by decide +kernel
theorem dX10_paste_99 : decode cX10_paste 99 = .ok (.iload 4, 2) := by decide +kernel
theorem dX10_paste_101 : decode cX10_paste 101 = .ok (.iload 5, 2) := by decide +kernel
theorem dX10_paste_103 : decode cX10_paste 103 = .ok (.invokestatic 335, 3) := by decide +kernel
theorem dX10_paste_106 : decode cX10_paste 106 = .ok (.iconst 0, 1) := by decide +kernel
theorem dX10_paste_107 : decode cX10_paste 107 = .ok (.ireturn, 1) := by decide +kernel
