theorem dX10_end_1 : decode cX10_end 1 = .ok (.ifCond .lt 11, 3) := by decide +kernel
theorem dX10_end_4 : decode cX10_end 4 = .ok (.iload_n 1, 1) := by decide +kernel
theorem dX10_end_5 : decode cX10_end 5 = .ok (.aload_n 0, 1) := by decide +kernel
theorem dX10_end_6 : decode cX10_end 6 = .ok (.getfield 34, 3) := by decide +kernel
theorem dX10_end_9 : decode cX10_end 9 = .ok (.if_icmp .le 5, 3) := by decide +kernel
theorem dX10_end_12 : decode cX10_end 12 = .ok (.iconst (-1), 1) := by decide +kernel
theorem dX10_end_13 : decode cX10_end 13 = .ok (.ireturn, 1) := by decide +kernel
theorem dX10_end_14 : decode cX10_end 14 = .ok (.aload_n 0, 1) := by decide +kernel
theorem dX10_end_15 : decode cX10_end 15 = .ok (.iload_n 1, 1) := by decide +kernel
theorem dX10_end_16 : decode cX10_end 16 = .ok (.putfield 34, 3) := by decide +kernel
theorem dX10_end_19 : decode cX10_end 19 = .ok (.iload_n 1, 1) := by decide +kernel
theorem dX10_end_20 : decode cX10_end 20 = .ok (.ireturn, 1) := by decide +kernel
theorem dX10_text_0 : decode cX10_text 0 = .ok (.aload_n 0, 1) := by decide +kernel
theorem dX10_text_1 : decode cX10_text 1 = .ok (.getfield 41, 3) := by decide +kernel
theorem dX10_text_4 : decode cX10_text 4 = .ok (.ifnonnull 14, 3) := by decide +kernel
theorem dX10_text_7 : decode cX10_text 7 = .ok (.aload_n 0, 1) := by decide +kernel
theorem dX10_text_8 : decode cX10_text 8 = .ok (.new 45, 3) := by decide +kernel
theorem dX10_text_11 : decode cX10_text 11 = .ok (.dup, 1) := by decide +kernel
theorem dX10_text_12 : decode cX10_text 12 = .ok (.invokespecial 47, 3) := by decide +kernel
theorem dX10_text_15 : decode cX10_text 15 = .ok (.putfield 41, 3) := by decide +kernel
theorem dX10_text_18 : decode cX10_text 18 = .ok (.aload_n 0, 1) := by decide +kernel
theorem dX10_text_19 : decode cX10_text 19 = .ok (.getfield 41, 3) := by decide +kernel
theorem dX10_text_22 : decode cX10_text 22 = .ok (.aload_n 0, 1) := by decide +kernel
theorem dX10_text_23 : decode cX10_text 23 = .ok (.getfield 9, 3) := by decide +kernel
theorem dX10_text_26 : decode cX10_text 26 = .ok (.aload_n 0, 1) := by decide +kernel
theorem dX10_text_27 : decode cX10_text 27 = .ok (.getfield 34, 3) := by decide +kernel
theorem dX10_text_30 : decode cX10_text 30 = .ok (.invokevirtual 48, 3) := by decide +kernel
theorem dX10_text_33 : decode cX10_text 33 = .ok (.istore_n 1, 1) := by decide +kernel
theorem dX10_text_34 : decode cX10_text 34 = .ok (.aload_n 0, 1) := by decide +kernel
theorem dX10_text_35 : decode cX10_text 35 = .ok (.iconst 0, 1) := by decide +kernel
theorem dX10_text_36 : decode cX10_text 36 = .ok (.putfield 34, 3) := by decide +kernel
theorem dX10_text_39 : decode cX10_text 39 = .ok (.aload_n 0, 1) := by decide +kernel
theorem dX10_text_40 : decode cX10_text 40 = .ok (.aload_n 0, 1) := by decide +kernel
theorem dX10_text_41 : decode cX10_text 41 = .ok (.getfield 41, 3) := by decide +kernel
theorem dX10_text_44 : decode cX10_text 44 = .ok (.getfield 52, 3) := by decide +kernel
theorem dX10_text_47 : decode cX10_text 47 = .ok (.putfield 55, 3) := by decide +kernel
theorem dX10_text_50 : decode cX10_text 50 = .ok (.aload_n 0, 1) := by decide +kernel
theorem dX10_text_51 : decode cX10_text 51 = .ok (.aload_n 0, 1) := by decide +kernel
theorem dX10_text_52 : decode cX10_text 52 = .ok (.getfield 41, 3) := by decide +kernel
theorem dX10_text_55 : decode cX10_text 55 = .ok (.getfield 58, 3) := by decide +kernel
theorem dX10_text_58 : decode cX10_text 58 = .ok (.putfield 13, 3) := by decide +kernel
theorem dX10_text_61 : decode cX10_text 61 = .ok (.iload_n 1, 1) := by decide +kernel
theorem dX10_text_62 : decode cX10_text 62 = .ok (.ifCond .ne 6, 3) := by decide +kernel
theorem dX10_text_65 : decode cX10_text 65 = .ok (.bipush (-4), 2) := by decide +kernel
theorem dX10_text_67 : decode cX10_text 67 = .ok (.ireturn, 1) := by decide +kernel
theorem dX10_text_68 : decode cX10_text 68 = .ok (.aload_n 0, 1) := by decide +kernel
theorem dX10_text_69 : decode cX10_text 69 = .ok (.getfield 20, 3) := by decide +kernel
theorem dX10_text_72 : decode cX10_text 72 = .ok (.getfield 61, 3) := by decide +kernel
theorem dX10_text_75 : decode cX10_text 75 = .ok (.getfield 65, 3) := by decide +kernel
theorem dX10_text_78 : decode cX10_text 78 = .ok (.aload_n 0, 1) := by decide +kernel
theorem dX10_text_79 : decode cX10_text 79 = .ok (.getfield 41, 3) := by decide +kernel
theorem dX10_text_82 : decode cX10_text 82 = .ok (.getfield 71, 3) := by decide +kernel
theorem dX10_text_85 : decode cX10_text 85 = .ok (.invokevirtual 72, 3) := by decide +kernel
theorem dX10_text_88 : decode cX10_text 88 = .ok (.aload_n 0, 1) := by decide +kernel
theorem dX10_text_89 : decode cX10_text 89 = .ok (.getfield 20, 3) := by decide +kernel
theorem dX10_text_92 : decode cX10_text 92 = .ok (.getfield 61, 3) := by decide +kernel
theorem dX10_text_95 : decode cX10_text 95 = .ok (.getfield 78, 3) := by decide +kernel
theorem dX10_text_98 : decode cX10_text 98 = .ok (.aload_n 0, 1) := by decide +kernel
theorem dX10_text_99 : decode cX10_text 99 = .ok (.getfield 41, 3) := by decide +kernel
theorem dX10_text_102 : decode cX10_text 102 = .ok (.getfield 82, 3) := by decide +kernel
theorem dX10_text_105 : decode cX10_text 105 = .ok (.invokevirtual 83, 3) := by decide +kernel
theorem dX10_text_108 : decode cX10_text 108 = .ok (.aload_n 0, 1) := by decide +kernel
theorem dX10_text_109 : decode cX10_text 109 = .ok (.getfield 20, 3) := by decide +kernel
theorem dX10_text_112 : decode cX10_text 112 = .ok (.getfield 61, 3) := by decide +kernel
theorem dX10_text_115 : decode cX10_text 115 = .ok (.getfield 88, 3) := by decide +kernel
theorem dX10_text_118 : decode cX10_text 118 = .ok (.invokevirtual 92, 3) := by decide +kernel
theorem dX10_text_121 : decode cX10_text 121 = .ok (.aload_n 0, 1) := by decide +kernel
theorem dX10_text_122 : decode cX10_text 122 = .ok (.getfield 20, 3) := by decide +kernel
theorem dX10_text_125 : decode cX10_text 125 = .ok (.getfield 97, 3) := by decide +kernel
theorem dX10_text_128 : decode cX10_text 128 = .ok (.invokevirtual 101, 3) := by decide +kernel
theorem dX10_text_131 : decode cX10_text 131 = .ok (.aload_n 0, 1) := by decide +kernel
theorem dX10_text_132 : decode cX10_text 132 = .ok (.getfield 20, 3) := by decide +kernel
theorem dX10_text_135 : decode cX10_text 135 = .ok (.getfield 61, 3) := by decide +kernel
theorem dX10_text_138 : decode cX10_text 138 = .ok (.getfield 78, 3) := by decide +kernel
theorem dX10_text_141 : decode cX10_text 141 = .ok (.getfield 104, 3) := by decide +kernel
theorem dX10_text_144 : decode cX10_text 144 = .ok (.ireturn, 1) := by decide +kernel
theorem dX10_fault_0 : decode cX10_fault 0 = .ok (.iload_n 1, 1) := by decide +kernel
theorem dX10_fault_1 : decode cX10_fault 1 = .ok (.ifCond .ne 8, 3) := by decide +kernel
theorem dX10_fault_4 : decode cX10_fault 4 = .ok (.aload_n 0, 1) := by decide +kernel
theorem dX10_fault_5 : decode cX10_fault 5 = .ok (.getfield 55, 3) := by decide +kernel
theorem dX10_fault_8 : decode cX10_fault 8 = .ok (.ireturn, 1) := by decide +kernel
theorem dX10_fault_9 : decode cX10_fault 9 = .ok (.iload_n 1, 1) := by decide +kernel
theorem dX10_fault_10 : decode cX10_fault 10 = .ok (.iconst 1, 1) := by decide +kernel
theorem dX10_fault_11 : decode cX10_fault 11 = .ok (.if_icmp .ne 10, 3) := by decide +kernel
theorem dX10_fault_14 : decode cX10_fault 14 = .ok (.aload_n 0, 1) := by decide +kernel
theorem dX10_fault_15 : decode cX10_fault 15 = .ok (.getfield 13, 3) := by decide +kernel
theorem dX10_fault_18 : decode cX10_fault 18 = .ok (.goto 4, 3) := by decide +kernel
theorem dX10_fault_21 : decode cX10_fault 21 = .ok (.iconst (-1), 1) := by decide +kernel
theorem dX10_fault_22 : decode cX10_fault 22 = .ok (.ireturn, 1) := by decide +kernel
theorem dX10_read_0 : decode cX10_read 0 = .ok (.aload_n 0, 1) := by decide +kernel
theorem dX10_read_1 : decode cX10_read 1 = .ok (.getfield 20, 3) := by decide +kernel
theorem dX10_read_4 : decode cX10_read 4 = .ok (.getfield 61, 3) := by decide +kernel
theorem dX10_read_7 : decode cX10_read 7 = .ok (.getfield 78, 3) := by decide +kernel
theorem dX10_read_10 : decode cX10_read 10 = .ok (.iload_n 1, 1) := by decide +kernel
theorem dX10_read_11 : decode cX10_read 11 = .ok (.invokevirtual 107, 3) := by decide +kernel
theorem dX10_read_14 : decode cX10_read 14 = .ok (.ifCond .eq 14, 3) := by decide +kernel
theorem dX10_read_17 : decode cX10_read 17 = .ok (.iload_n 2, 1) := by decide +kernel
theorem dX10_read_18 : decode cX10_read 18 = .ok (.iconst 1, 1) := by decide +kernel
theorem dX10_read_19 : decode cX10_read 19 = .ok (.if_icmp .lt 9, 3) := by decide +kernel
theorem dX10_read_22 : decode cX10_read 22 = .ok (.iload_n 2, 1) := by decide +kernel
theorem dX10_read_23 : decode cX10_read 23 = .ok (.bipush 50, 2) := by decide +kernel
theorem dX10_read_25 : decode cX10_read 25 = .ok (.if_icmp .le 6, 3) := by decide +kernel
theorem dX10_read_28 : decode cX10_read 28 = .ok (.bipush (-2), 2) := by decide +kernel
theorem dX10_read_30 : decode cX10_read 30 = .ok (.ireturn, 1) := by decide +kernel
theorem dX10_read_31 : decode cX10_read 31 = .ok (.aload_n 0, 1) := by decide +kernel
theorem dX10_read_32 : decode cX10_read 32 = .ok (.getfield 20, 3) := by decide +kernel
theorem dX10_read_35 : decode cX10_read 35 = .ok (.iload_n 1, 1) := by decide +kernel
theorem dX10_read_36 : decode cX10_read 36 = .ok (.iload_n 2, 1) := by decide +kernel
theorem dX10_read_37 : decode cX10_read 37 = .ok (.invokevirtual 111, 3) := by decide +kernel
theorem dX10_read_40 : decode cX10_read 40 = .ok (.aload_n 0, 1) := by decide +kernel
theorem dX10_read_41 : decode cX10_read 41 = .ok (.getfield 20, 3) := by decide +kernel
theorem dX10_read_44 : decode cX10_read 44 = .ok (.getfield 97, 3) := by decide +kernel
theorem dX10_read_47 : decode cX10_read 47 = .ok (.getfield 115, 3) := by decide +kernel
theorem dX10_read_50 : decode cX10_read 50 = .ok (.ireturn, 1) := by decide +kernel
theorem dX10_learn_0 : decode cX10_learn 0 = .ok (.aload_n 0, 1) := by decide +kernel
theorem dX10_learn_1 : decode cX10_learn 1 = .ok (.getfield 20, 3) := by decide +kernel
theorem dX10_learn_4 : decode cX10_learn 4 = .ok (.getfield 61, 3) := by decide +kernel
theorem dX10_learn_7 : decode cX10_learn 7 = .ok (.getfield 78, 3) := by decide +kernel
theorem dX10_learn_10 : decode cX10_learn 10 = .ok (.iload_n 1, 1) := by decide +kernel
theorem dX10_learn_11 : decode cX10_learn 11 = .ok (.invokevirtual 107, 3) := by decide +kernel
theorem dX10_learn_14 : decode cX10_learn 14 = .ok (.ifCond .ne 6, 3) := by decide +kernel
theorem dX10_learn_17 : decode cX10_learn 17 = .ok (.bipush (-2), 2) := by decide +kernel
theorem dX10_learn_19 : decode cX10_learn 19 = .ok (.ireturn, 1) := by decide +kernel
theorem dX10_learn_20 : decode cX10_learn 20 = .ok (.aload_n 0, 1) := by decide +kernel
theorem dX10_learn_21 : decode cX10_learn 21 = .ok (.getfield 20, 3) := by decide +kernel
theorem dX10_learn_24 : decode cX10_learn 24 = .ok (.iload_n 1, 1) := by decide +kernel
theorem dX10_learn_25 : decode cX10_learn 25 = .ok (.invokevirtual 116, 3) := by decide +kernel
theorem dX10_learn_28 : decode cX10_learn 28 = .ok (.ireturn, 1) := by decide +kernel
theorem dX10_waits_0 : decode cX10_waits 0 = .ok (.iload_n 1, 1) := by decide +kernel
theorem dX10_waits_1 : decode cX10_waits 1 = .ok (.i2l, 1) := by decide +kernel
theorem dX10_waits_2 : decode cX10_waits 2 = .ok (.invokestatic 120, 3) := by decide +kernel
theorem dX10_waits_5 : decode cX10_waits 5 = .ok (.ifCond .ne 6, 3) := by decide +kernel
theorem dX10_waits_8 : decode cX10_waits 8 = .ok (.bipush (-2), 2) := by decide +kernel
theorem dX10_waits_10 : decode cX10_waits 10 = .ok (.ireturn, 1) := by decide +kernel
theorem dX10_waits_11 : decode cX10_waits 11 = .ok (.aload_n 0, 1) := by decide +kernel
theorem dX10_waits_12 : decode cX10_waits 12 = .ok (.getfield 20, 3) := by decide +kernel
theorem dX10_waits_15 : decode cX10_waits 15 = .ok (.getfield 61, 3) := by decide +kernel
theorem dX10_waits_18 : decode cX10_waits 18 = .ok (.iload_n 1, 1) := by decide +kernel
theorem dX10_waits_19 : decode cX10_waits 19 = .ok (.invokevirtual 124, 3) := by decide +kernel
theorem dX10_waits_22 : decode cX10_waits 22 = .ok (.aload_n 0, 1) := by decide +kernel
theorem dX10_waits_23 : decode cX10_waits 23 = .ok (.getfield 20, 3) := by decide +kernel
theorem dX10_waits_26 : decode cX10_waits 26 = .ok (.getfield 61, 3) := by decide +kernel
theorem dX10_waits_29 : decode cX10_waits 29 = .ok (.getfield 88, 3) := by decide +kernel
theorem dX10_waits_32 : decode cX10_waits 32 = .ok (.getfield 127, 3) := by decide +kernel
theorem dX10_waits_35 : decode cX10_waits 35 = .ok (.ireturn, 1) := by decide +kernel
theorem dX10_isWait_0 : decode cX10_isWait 0 = .ok (.lload_n 0, 1) := by decide +kernel
theorem dX10_isWait_1 : decode cX10_isWait 1 = .ok (.lconst 0, 1) := by decide +kernel
theorem dX10_isWait_2 : decode cX10_isWait 2 = .ok (.lcmp, 1) := by decide +kernel
theorem dX10_isWait_3 : decode cX10_isWait 3 = .ok (.ifCond .lt 15, 3) := by decide +kernel
theorem dX10_isWait_6 : decode cX10_isWait 6 = .ok (.lload_n 0, 1) := by decide +kernel
theorem dX10_isWait_7 : decode cX10_isWait 7 = .ok (.ldc2_w 130, 3) := by decide +kernel
theorem dX10_isWait_10 : decode cX10_isWait 10 = .ok (.lcmp, 1) := by decide +kernel
theorem dX10_isWait_11 : decode cX10_isWait 11 = .ok (.ifCond .gt 7, 3) := by decide +kernel
theorem dX10_isWait_14 : decode cX10_isWait 14 = .ok (.iconst 1, 1) := by decide +kernel
theorem dX10_isWait_15 : decode cX10_isWait 15 = .ok (.goto 4, 3) := by decide +kernel
theorem dX10_isWait_18 : decode cX10_isWait 18 = .ok (.iconst 0, 1) := by decide +kernel
theorem dX10_isWait_19 : decode cX10_isWait 19 = .ok (.ireturn, 1) := by decide +kernel
theorem dX10_isSort_0 : decode cX10_isSort 0 = .ok (.iload_n 0, 1) := by decide +kernel
theorem dX10_isSort_1 : decode cX10_isSort 1 = .ok (.ifCond .lt 12, 3) := by decide +kernel
theorem dX10_isSort_4 : decode cX10_isSort 4 = .ok (.iload_n 0, 1) := by decide +kernel
theorem dX10_isSort_5 : decode cX10_isSort 5 = .ok (.iconst 4, 1) := by decide +kernel
theorem dX10_isSort_6 : decode cX10_isSort 6 = .ok (.if_icmp .ge 7, 3) := by decide +kernel
theorem dX10_isSort_9 : decode cX10_isSort 9 = .ok (.iconst 1, 1) := by decide +kernel
theorem dX10_isSort_10 : decode cX10_isSort 10 = .ok (.goto 4, 3) := by decide +kernel
theorem dX10_isSort_13 : decode cX10_isSort 13 = .ok (.iconst 0, 1) := by decide +kernel
theorem dX10_isSort_14 : decode cX10_isSort 14 = .ok (.ireturn, 1) := by decide +kernel
theorem dX10_strength_0 : decode cX10_strength 0 = .ok (.iload_n 1, 1) := by decide +kernel
theorem dX10_strength_1 : decode cX10_strength 1 = .ok (.iconst 3, 1) := by decide +kernel
theorem dX10_strength_2 : decode cX10_strength 2 = .ok (.if_icmp .ne 8, 3) := by decide +kernel
theorem dX10_strength_5 : decode cX10_strength 5 = .ok (.bipush 12, 2) := by decide +kernel
theorem dX10_strength_7 : decode cX10_strength 7 = .ok (.goto 16, 3) := by decide +kernel
theorem dX10_strength_10 : decode cX10_strength 10 = .ok (.aload_n 0, 1) := by decide +kernel
theorem dX10_strength_11 : decode cX10_strength 11 = .ok (.getfield 20, 3) := by decide +kernel
theorem dX10_strength_14 : decode cX10_strength 14 = .ok (.getfield 61, 3) := by decide +kernel
theorem dX10_strength_17 : decode cX10_strength 17 = .ok (.getfield 65, 3) := by decide +kernel
theorem dX10_strength_20 : decode cX10_strength 20 = .ok (.getfield 132, 3) := by decide +kernel
theorem dX10_strength_23 : decode cX10_strength 23 = .ok (.istore 4, 2) := by decide +kernel
theorem dX10_strength_25 : decode cX10_strength 25 = .ok (.iload_n 1, 1) := by decide +kernel
theorem dX10_strength_26 : decode cX10_strength 26 = .ok (.invokestatic 135, 3) := by decide +kernel
theorem dX10_strength_29 : decode cX10_strength 29 = .ok (.ifCond .eq 30, 3) := by decide +kernel
theorem dX10_strength_32 : decode cX10_strength 32 = .ok (.aload_n 0, 1) := by decide +kernel
theorem dX10_strength_33 : decode cX10_strength 33 = .ok (.getfield 20, 3) := by decide +kernel
theorem dX10_strength_36 : decode cX10_strength 36 = .ok (.getfield 61, 3) := by decide +kernel
theorem dX10_strength_39 : decode cX10_strength 39 = .ok (.getfield 65, 3) := by decide +kernel
theorem dX10_strength_42 : decode cX10_strength 42 = .ok (.iload_n 2, 1) := by decide +kernel
theorem dX10_strength_43 : decode cX10_strength 43 = .ok (.invokevirtual 138, 3) := by decide +kernel
theorem dX10_strength_46 : decode cX10_strength 46 = .ok (.ifCond .eq 13, 3) := by decide +kernel
theorem dX10_strength_49 : decode cX10_strength 49 = .ok (.iload_n 3, 1) := by decide +kernel
theorem dX10_strength_50 : decode cX10_strength 50 = .ok (.ifCond .lt 9, 3) := by decide +kernel
theorem dX10_strength_53 : decode cX10_strength 53 = .ok (.iload_n 3, 1) := by decide +kernel
theorem dX10_strength_54 : decode cX10_strength 54 = .ok (.iload 4, 2) := by decide +kernel
theorem dX10_strength_56 : decode cX10_strength 56 = .ok (.if_icmp .lt 6, 3) := by decide +kernel
theorem dX10_strength_59 : decode cX10_strength 59 = .ok (.bipush (-2), 2) := by decide +kernel
theorem dX10_strength_61 : decode cX10_strength 61 = .ok (.ireturn, 1) := by decide +kernel
theorem dX10_strength_62 : decode cX10_strength 62 = .ok (.aload_n 0, 1) := by decide +kernel
theorem dX10_strength_63 : decode cX10_strength 63 = .ok (.getfield 20, 3) := by decide +kernel
theorem dX10_strength_66 : decode cX10_strength 66 = .ok (.getfield 61, 3) := by decide +kernel
theorem dX10_strength_69 : decode cX10_strength 69 = .ok (.getfield 88, 3) := by decide +kernel
theorem dX10_strength_72 : decode cX10_strength 72 = .ok (.iload_n 1, 1) := by decide +kernel
theorem dX10_strength_73 : decode cX10_strength 73 = .ok (.iload_n 2, 1) := by decide +kernel
theorem dX10_strength_74 : decode cX10_strength 74 = .ok (.iload_n 3, 1) := by decide +kernel
theorem dX10_strength_75 : decode cX10_strength 75 = .ok (.invokestatic 141, 3) := by decide +kernel
theorem dX10_strength_78 : decode cX10_strength 78 = .ok (.invokevirtual 145, 3) := by decide +kernel
theorem dX10_strength_81 : decode cX10_strength 81 = .ok (.ireturn, 1) := by decide +kernel
theorem dX10_links_0 : decode cX10_links 0 = .ok (.iload_n 1, 1) := by decide +kernel
theorem dX10_links_1 : decode cX10_links 1 = .ok (.invokestatic 135, 3) := by decide +kernel
theorem dX10_links_4 : decode cX10_links 4 = .ok (.ifCond .eq 20, 3) := by decide +kernel
theorem dX10_links_7 : decode cX10_links 7 = .ok (.aload_n 0, 1) := by decide +kernel
theorem dX10_links_8 : decode cX10_links 8 = .ok (.getfield 20, 3) := by decide +kernel
theorem dX10_links_11 : decode cX10_links 11 = .ok (.getfield 61, 3) := by decide +kernel
theorem dX10_links_14 : decode cX10_links 14 = .ok (.getfield 88, 3) := by decide +kernel
theorem dX10_links_17 : decode cX10_links 17 = .ok (.iload_n 1, 1) := by decide +kernel
theorem dX10_links_18 : decode cX10_links 18 = .ok (.invokevirtual 148, 3) := by decide +kernel
theorem dX10_links_21 : decode cX10_links 21 = .ok (.goto 5, 3) := by decide +kernel
theorem dX10_links_24 : decode cX10_links 24 = .ok (.bipush (-2), 2) := by decide +kernel
theorem dX10_links_26 : decode cX10_links 26 = .ok (.ireturn, 1) := by decide +kernel
theorem dX10_support_0 : decode cX10_support 0 = .ok (.aload_n 0, 1) := by decide +kernel
theorem dX10_support_1 : decode cX10_support 1 = .ok (.getfield 20, 3) := by decide +kernel
theorem dX10_support_4 : decode cX10_support 4 = .ok (.getfield 61, 3) := by decide +kernel
theorem dX10_support_7 : decode cX10_support 7 = .ok (.getfield 78, 3) := by decide +kernel
theorem dX10_support_10 : decode cX10_support 10 = .ok (.iload_n 1, 1) := by decide +kernel
theorem dX10_support_11 : decode cX10_support 11 = .ok (.iload_n 2, 1) := by decide +kernel
theorem dX10_support_12 : decode cX10_support 12 = .ok (.invokevirtual 151, 3) := by decide +kernel
theorem dX10_support_15 : decode cX10_support 15 = .ok (.ifCond .ne 6, 3) := by decide +kernel
theorem dX10_support_18 : decode cX10_support 18 = .ok (.bipush (-2), 2) := by decide +kernel
theorem dX10_support_20 : decode cX10_support 20 = .ok (.ireturn, 1) := by decide +kernel
theorem dX10_support_21 : decode cX10_support 21 = .ok (.aload_n 0, 1) := by decide +kernel
theorem dX10_support_22 : decode cX10_support 22 = .ok (.getfield 20, 3) := by decide +kernel
theorem dX10_support_25 : decode cX10_support 25 = .ok (.getfield 61, 3) := by decide +kernel
theorem dX10_support_28 : decode cX10_support 28 = .ok (.iload_n 1, 1) := by decide +kernel
theorem dX10_support_29 : decode cX10_support 29 = .ok (.iload_n 2, 1) := by decide +kernel
theorem dX10_support_30 : decode cX10_support 30 = .ok (.invokevirtual 155, 3) := by decide +kernel
theorem dX10_support_33 : decode cX10_support 33 = .ok (.ireturn, 1) := by decide +kernel
theorem dX10_slips_0 : decode cX10_slips 0 = .ok (.aload_n 0, 1) := by decide +kernel
theorem dX10_slips_1 : decode cX10_slips 1 = .ok (.getfield 20, 3) := by decide +kernel
theorem dX10_slips_4 : decode cX10_slips 4 = .ok (.getfield 61, 3) := by decide +kernel
theorem dX10_slips_7 : decode cX10_slips 7 = .ok (.getfield 78, 3) := by decide +kernel
theorem dX10_slips_10 : decode cX10_slips 10 = .ok (.iload_n 1, 1) := by decide +kernel
theorem dX10_slips_11 : decode cX10_slips 11 = .ok (.invokevirtual 107, 3) := by decide +kernel
theorem dX10_slips_14 : decode cX10_slips 14 = .ok (.ifCond .eq 17, 3) := by decide +kernel
theorem dX10_slips_17 : decode cX10_slips 17 = .ok (.aload_n 0, 1) := by decide +kernel
theorem dX10_slips_18 : decode cX10_slips 18 = .ok (.getfield 20, 3) := by decide +kernel
theorem dX10_slips_21 : decode cX10_slips 21 = .ok (.getfield 61, 3) := by decide +kernel
theorem dX10_slips_24 : decode cX10_slips 24 = .ok (.iload_n 1, 1) := by decide +kernel
theorem dX10_slips_25 : decode cX10_slips 25 = .ok (.invokevirtual 159, 3) := by decide +kernel
theorem dX10_slips_28 : decode cX10_slips 28 = .ok (.goto 5, 3) := by decide +kernel
theorem dX10_slips_31 : decode cX10_slips 31 = .ok (.bipush (-2), 2) := by decide +kernel
theorem dX10_slips_33 : decode cX10_slips 33 = .ok (.ireturn, 1) := by decide +kernel
theorem dX10_needs_0 : decode cX10_needs 0 = .ok (.aload_n 0, 1) := by decide +kernel
theorem dX10_needs_1 : decode cX10_needs 1 = .ok (.getfield 20, 3) := by decide +kernel
theorem dX10_needs_4 : decode cX10_needs 4 = .ok (.getfield 61, 3) := by decide +kernel
theorem dX10_needs_7 : decode cX10_needs 7 = .ok (.getfield 78, 3) := by decide +kernel
theorem dX10_needs_10 : decode cX10_needs 10 = .ok (.iload_n 1, 1) := by decide +kernel
theorem dX10_needs_11 : decode cX10_needs 11 = .ok (.invokevirtual 107, 3) := by decide +kernel
theorem dX10_needs_14 : decode cX10_needs 14 = .ok (.ifCond .eq 21, 3) := by decide +kernel
theorem dX10_needs_17 : decode cX10_needs 17 = .ok (.aload_n 0, 1) := by decide +kernel
theorem dX10_needs_18 : decode cX10_needs 18 = .ok (.invokevirtual 162, 3) := by decide +kernel
theorem dX10_needs_21 : decode cX10_needs 21 = .ok (.aload_n 0, 1) := by decide +kernel
theorem dX10_needs_22 : decode cX10_needs 22 = .ok (.getfield 20, 3) := by decide +kernel
theorem dX10_needs_25 : decode cX10_needs 25 = .ok (.getfield 61, 3) := by decide +kernel
theorem dX10_needs_28 : decode cX10_needs 28 = .ok (.iload_n 1, 1) := by decide +kernel
theorem dX10_needs_29 : decode cX10_needs 29 = .ok (.invokevirtual 166, 3) := by decide +kernel
theorem dX10_needs_32 : decode cX10_needs 32 = .ok (.goto 5, 3) := by decide +kernel
theorem dX10_needs_35 : decode cX10_needs 35 = .ok (.bipush (-2), 2) := by decide +kernel
theorem dX10_needs_37 : decode cX10_needs 37 = .ok (.ireturn, 1) := by decide +kernel
theorem dX10_desk_0 : decode cX10_desk 0 = .ok (.aload_n 0, 1) := by decide +kernel
theorem dX10_desk_1 : decode cX10_desk 1 = .ok (.getfield 172, 3) := by decide +kernel
theorem dX10_desk_4 : decode cX10_desk 4 = .ok (.ifnonnull 21, 3) := by decide +kernel
theorem dX10_desk_7 : decode cX10_desk 7 = .ok (.aload_n 0, 1) := by decide +kernel
theorem dX10_desk_8 : decode cX10_desk 8 = .ok (.new 167, 3) := by decide +kernel
theorem dX10_desk_11 : decode cX10_desk 11 = .ok (.dup, 1) := by decide +kernel
theorem dX10_desk_12 : decode cX10_desk 12 = .ok (.aload_n 0, 1) := by decide +kernel
theorem dX10_desk_13 : decode cX10_desk 13 = .ok (.getfield 20, 3) := by decide +kernel
theorem dX10_desk_16 : decode cX10_desk 16 = .ok (.getfield 61, 3) := by decide +kernel
theorem dX10_desk_19 : decode cX10_desk 19 = .ok (.invokespecial 175, 3) := by decide +kernel
theorem dX10_desk_22 : decode cX10_desk 22 = .ok (.putfield 172, 3) := by decide +kernel
theorem dX10_desk_25 : decode cX10_desk 25 = .ok (.aload_n 0, 1) := by decide +kernel
theorem dX10_desk_26 : decode cX10_desk 26 = .ok (.getfield 172, 3) := by decide +kernel
theorem dX10_desk_29 : decode cX10_desk 29 = .ok (.areturn, 1) := by decide +kernel
theorem dX10_fresh_0 : decode cX10_fresh 0 = .ok (.aload_n 0, 1) := by decide +kernel
theorem dX10_fresh_1 : decode cX10_fresh 1 = .ok (.getfield 20, 3) := by decide +kernel
theorem dX10_fresh_4 : decode cX10_fresh 4 = .ok (.getfield 61, 3) := by decide +kernel
theorem dX10_fresh_7 : decode cX10_fresh 7 = .ok (.getfield 78, 3) := by decide +kernel
theorem dX10_fresh_10 : decode cX10_fresh 10 = .ok (.iload_n 1, 1) := by decide +kernel
theorem dX10_fresh_11 : decode cX10_fresh 11 = .ok (.invokevirtual 107, 3) := by decide +kernel
theorem dX10_fresh_14 : decode cX10_fresh 14 = .ok (.ifCond .eq 21, 3) := by decide +kernel
theorem dX10_fresh_17 : decode cX10_fresh 17 = .ok (.aload_n 0, 1) := by decide +kernel
theorem dX10_fresh_18 : decode cX10_fresh 18 = .ok (.invokevirtual 162, 3) := by decide +kernel
theorem dX10_fresh_21 : decode cX10_fresh 21 = .ok (.aload_n 0, 1) := by decide +kernel
theorem dX10_fresh_22 : decode cX10_fresh 22 = .ok (.getfield 20, 3) := by decide +kernel
theorem dX10_fresh_25 : decode cX10_fresh 25 = .ok (.getfield 61, 3) := by decide +kernel
theorem dX10_fresh_28 : decode cX10_fresh 28 = .ok (.iload_n 1, 1) := by decide +kernel
theorem dX10_fresh_29 : decode cX10_fresh 29 = .ok (.invokevirtual 178, 3) := by decide +kernel
theorem dX10_fresh_32 : decode cX10_fresh 32 = .ok (.goto 5, 3) := by decide +kernel
theorem dX10_fresh_35 : decode cX10_fresh 35 = .ok (.bipush (-2), 2) := by decide +kernel
theorem dX10_fresh_37 : decode cX10_fresh 37 = .ok (.ireturn, 1) := by decide +kernel
theorem dX10_saving_0 : decode cX10_saving 0 = .ok (.aload_n 0, 1) := by decide +kernel
theorem dX10_saving_1 : decode cX10_saving 1 = .ok (.getfield 20, 3) := by decide +kernel
theorem dX10_saving_4 : decode cX10_saving 4 = .ok (.getfield 61, 3) := by decide +kernel
theorem dX10_saving_7 : decode cX10_saving 7 = .ok (.getfield 78, 3) := by decide +kernel
theorem dX10_saving_10 : decode cX10_saving 10 = .ok (.iload_n 1, 1) := by decide +kernel
theorem dX10_saving_11 : decode cX10_saving 11 = .ok (.invokevirtual 107, 3) := by decide +kernel
theorem dX10_saving_14 : decode cX10_saving 14 = .ok (.ifCond .ne 6, 3) := by decide +kernel
theorem dX10_saving_17 : decode cX10_saving 17 = .ok (.ldc 181, 2) := by decide +kernel
theorem dX10_saving_19 : decode cX10_saving 19 = .ok (.ireturn, 1) := by decide +kernel
theorem dX10_saving_20 : decode cX10_saving 20 = .ok (.aload_n 0, 1) := by decide +kernel
theorem dX10_saving_21 : decode cX10_saving 21 = .ok (.invokevirtual 162, 3) := by decide +kernel
theorem dX10_saving_24 : decode cX10_saving 24 = .ok (.aload_n 0, 1) := by decide +kernel
theorem dX10_saving_25 : decode cX10_saving 25 = .ok (.getfield 20, 3) := by decide +kernel
theorem dX10_saving_28 : decode cX10_saving 28 = .ok (.getfield 61, 3) := by decide +kernel
theorem dX10_saving_31 : decode cX10_saving 31 = .ok (.iload_n 1, 1) := by decide +kernel
theorem dX10_saving_32 : decode cX10_saving 32 = .ok (.invokevirtual 166, 3) := by decide +kernel
theorem dX10_saving_35 : decode cX10_saving 35 = .ok (.istore_n 2, 1) := by decide +kernel
theorem dX10_saving_36 : decode cX10_saving 36 = .ok (.aload_n 0, 1) := by decide +kernel
theorem dX10_saving_37 : decode cX10_saving 37 = .ok (.invokevirtual 162, 3) := by decide +kernel
theorem dX10_saving_40 : decode cX10_saving 40 = .ok (.aload_n 0, 1) := by decide +kernel
theorem dX10_saving_41 : decode cX10_saving 41 = .ok (.getfield 20, 3) := by decide +kernel
theorem dX10_saving_44 : decode cX10_saving 44 = .ok (.getfield 61, 3) := by decide +kernel
theorem dX10_saving_47 : decode cX10_saving 47 = .ok (.iload_n 1, 1) := by decide +kernel
theorem dX10_saving_48 : decode cX10_saving 48 = .ok (.invokevirtual 178, 3) := by decide +kernel
theorem dX10_saving_51 : decode cX10_saving 51 = .ok (.istore_n 3, 1) := by decide +kernel
theorem dX10_saving_52 : decode cX10_saving 52 = .ok (.iload_n 2, 1) := by decide +kernel
theorem dX10_saving_53 : decode cX10_saving 53 = .ok (.iconst (-1), 1) := by decide +kernel
theorem dX10_saving_54 : decode cX10_saving 54 = .ok (.if_icmp .eq 12, 3) := by decide +kernel
theorem dX10_saving_57 : decode cX10_saving 57 = .ok (.iload_n 3, 1) := by decide +kernel
theorem dX10_saving_58 : decode cX10_saving 58 = .ok (.iconst (-1), 1) := by decide +kernel
theorem dX10_saving_59 : decode cX10_saving 59 = .ok (.if_icmp .eq 7, 3) := by decide +kernel
theorem dX10_saving_62 : decode cX10_saving 62 = .ok (.iload_n 3, 1) := by decide +kernel
theorem dX10_saving_63 : decode cX10_saving 63 = .ok (.ifCond .ne 6, 3) := by decide +kernel
theorem dX10_saving_66 : decode cX10_saving 66 = .ok (.ldc 181, 2) := by decide +kernel
theorem dX10_saving_68 : decode cX10_saving 68 = .ok (.ireturn, 1) := by decide +kernel
theorem dX10_saving_69 : decode cX10_saving 69 = .ok (.iload_n 3, 1) := by decide +kernel
theorem dX10_saving_70 : decode cX10_saving 70 = .ok (.iload_n 2, 1) := by decide +kernel
theorem dX10_saving_71 : decode cX10_saving 71 = .ok (.isub, 1) := by decide +kernel
theorem dX10_saving_72 : decode cX10_saving 72 = .ok (.sipush 1000, 3) := by decide +kernel
theorem dX10_saving_75 : decode cX10_saving 75 = .ok (.imul, 1) := by decide +kernel
theorem dX10_saving_76 : decode cX10_saving 76 = .ok (.iload_n 3, 1) := by decide +kernel
theorem dX10_saving_77 : decode cX10_saving 77 = .ok (.idiv, 1) := by decide +kernel
theorem dX10_saving_78 : decode cX10_saving 78 = .ok (.ireturn, 1) := by decide +kernel
theorem dX10_after_0 : decode cX10_after 0 = .ok (.aload_n 0, 1) := by decide +kernel
theorem dX10_after_1 : decode cX10_after 1 = .ok (.getfield 20, 3) := by decide +kernel
theorem dX10_after_4 : decode cX10_after 4 = .ok (.getfield 61, 3) := by decide +kernel
theorem dX10_after_7 : decode cX10_after 7 = .ok (.getfield 78, 3) := by decide +kernel
theorem dX10_after_10 : decode cX10_after 10 = .ok (.iload_n 1, 1) := by decide +kernel
theorem dX10_after_11 : decode cX10_after 11 = .ok (.invokevirtual 107, 3) := by decide +kernel
theorem dX10_after_14 : decode cX10_after 14 = .ok (.ifCond .eq 11, 3) := by decide +kernel
theorem dX10_after_17 : decode cX10_after 17 = .ok (.iload_n 2, 1) := by decide +kernel
theorem dX10_after_18 : decode cX10_after 18 = .ok (.i2l, 1) := by decide +kernel
theorem dX10_after_19 : decode cX10_after 19 = .ok (.invokestatic 120, 3) := by decide +kernel
theorem dX10_after_22 : decode cX10_after 22 = .ok (.ifCond .ne 6, 3) := by decide +kernel
theorem dX10_after_25 : decode cX10_after 25 = .ok (.bipush (-2), 2) := by decide +kernel
theorem dX10_after_27 : decode cX10_after 27 = .ok (.ireturn, 1) := by decide +kernel
theorem dX10_after_28 : decode cX10_after 28 = .ok (.aload_n 0, 1) := by decide +kernel
theorem dX10_after_29 : decode cX10_after 29 = .ok (.invokevirtual 162, 3) := by decide +kernel
theorem dX10_after_32 : decode cX10_after 32 = .ok (.aload_n 0, 1) := by decide +kernel
theorem dX10_after_33 : decode cX10_after 33 = .ok (.getfield 20, 3) := by decide +kernel
theorem dX10_after_36 : decode cX10_after 36 = .ok (.getfield 61, 3) := by decide +kernel
theorem dX10_after_39 : decode cX10_after 39 = .ok (.invokevirtual 182, 3) := by decide +kernel
theorem dX10_after_42 : decode cX10_after 42 = .ok (.astore_n 3, 1) := by decide +kernel
theorem dX10_after_43 : decode cX10_after 43 = .ok (.aload_n 3, 1) := by decide +kernel
theorem dX10_after_44 : decode cX10_after 44 = .ok (.iload_n 2, 1) := by decide +kernel
theorem dX10_after_45 : decode cX10_after 45 = .ok (.invokevirtual 124, 3) := by decide +kernel
theorem dX10_after_48 : decode cX10_after 48 = .ok (.aload_n 0, 1) := by decide +kernel
theorem dX10_after_49 : decode cX10_after 49 = .ok (.invokevirtual 162, 3) := by decide +kernel
theorem dX10_after_52 : decode cX10_after 52 = .ok (.aload_n 3, 1) := by decide +kernel
theorem dX10_after_53 : decode cX10_after 53 = .ok (.iload_n 1, 1) := by decide +kernel
theorem dX10_after_54 : decode cX10_after 54 = .ok (.invokevirtual 166, 3) := by decide +kernel
theorem dX10_after_57 : decode cX10_after 57 = .ok (.ireturn, 1) := by decide +kernel
theorem dX10_lasts_0 : decode cX10_lasts 0 = .ok (.aload_n 0, 1) := by decide +kernel
theorem dX10_lasts_1 : decode cX10_lasts 1 = .ok (.getfield 20, 3) := by decide +kernel
theorem dX10_lasts_4 : decode cX10_lasts 4 = .ok (.getfield 61, 3) := by decide +kernel
theorem dX10_lasts_7 : decode cX10_lasts 7 = .ok (.getfield 78, 3) := by decide +kernel
theorem dX10_lasts_10 : decode cX10_lasts 10 = .ok (.iload_n 1, 1) := by decide +kernel
theorem dX10_lasts_11 : decode cX10_lasts 11 = .ok (.invokevirtual 107, 3) := by decide +kernel
theorem dX10_lasts_14 : decode cX10_lasts 14 = .ok (.ifCond .ne 6, 3) := by decide +kernel
theorem dX10_lasts_17 : decode cX10_lasts 17 = .ok (.bipush (-2), 2) := by decide +kernel
theorem dX10_lasts_19 : decode cX10_lasts 19 = .ok (.ireturn, 1) := by decide +kernel
theorem dX10_lasts_20 : decode cX10_lasts 20 = .ok (.aload_n 0, 1) := by decide +kernel
theorem dX10_lasts_21 : decode cX10_lasts 21 = .ok (.invokevirtual 162, 3) := by decide +kernel
theorem dX10_lasts_24 : decode cX10_lasts 24 = .ok (.aload_n 0, 1) := by decide +kernel
theorem dX10_lasts_25 : decode cX10_lasts 25 = .ok (.getfield 20, 3) := by decide +kernel
theorem dX10_lasts_28 : decode cX10_lasts 28 = .ok (.getfield 61, 3) := by decide +kernel
theorem dX10_lasts_31 : decode cX10_lasts 31 = .ok (.invokevirtual 182, 3) := by decide +kernel
theorem dX10_lasts_34 : decode cX10_lasts 34 = .ok (.astore_n 2, 1) := by decide +kernel
theorem dX10_lasts_35 : decode cX10_lasts 35 = .ok (.iconst 0, 1) := by decide +kernel
theorem dX10_lasts_36 : decode cX10_lasts 36 = .ok (.istore_n 3, 1) := by decide +kernel
theorem dX10_lasts_37 : decode cX10_lasts 37 = .ok (.iload_n 3, 1) := by decide +kernel
theorem dX10_lasts_38 : decode cX10_lasts 38 = .ok (.sipush 200, 3) := by decide +kernel
theorem dX10_lasts_41 : decode cX10_lasts 41 = .ok (.if_icmp .gt 24, 3) := by decide +kernel
theorem dX10_lasts_44 : decode cX10_lasts 44 = .ok (.aload_n 2, 1) := by decide +kernel
theorem dX10_lasts_45 : decode cX10_lasts 45 = .ok (.iload_n 1, 1) := by decide +kernel
theorem dX10_lasts_46 : decode cX10_lasts 46 = .ok (.invokevirtual 159, 3) := by decide +kernel
theorem dX10_lasts_49 : decode cX10_lasts 49 = .ok (.ifCond .eq 5, 3) := by decide +kernel
theorem dX10_lasts_52 : decode cX10_lasts 52 = .ok (.iload_n 3, 1) := by decide +kernel
theorem dX10_lasts_53 : decode cX10_lasts 53 = .ok (.ireturn, 1) := by decide +kernel
theorem dX10_lasts_54 : decode cX10_lasts 54 = .ok (.aload_n 2, 1) := by decide +kernel
theorem dX10_lasts_55 : decode cX10_lasts 55 = .ok (.iconst 1, 1) := by decide +kernel
theorem dX10_lasts_56 : decode cX10_lasts 56 = .ok (.invokevirtual 124, 3) := by decide +kernel
theorem dX10_lasts_59 : decode cX10_lasts 59 = .ok (.iinc 3 1, 3) := by decide +kernel
theorem dX10_lasts_62 : decode cX10_lasts 62 = .ok (.goto (-25), 3) := by decide +kernel
theorem dX10_lasts_65 : decode cX10_lasts 65 = .ok (.iconst (-1), 1) := by decide +kernel
theorem dX10_lasts_66 : decode cX10_lasts 66 = .ok (.ireturn, 1) := by decide +kernel
theorem dX10_gone_0 : decode cX10_gone 0 = .ok (.aload_n 0, 1) := by decide +kernel
theorem dX10_gone_1 : decode cX10_gone 1 = .ok (.getfield 20, 3) := by decide +kernel
theorem dX10_gone_4 : decode cX10_gone 4 = .ok (.getfield 61, 3) := by decide +kernel
theorem dX10_gone_7 : decode cX10_gone 7 = .ok (.getfield 78, 3) := by decide +kernel
theorem dX10_gone_10 : decode cX10_gone 10 = .ok (.iload_n 1, 1) := by decide +kernel
theorem dX10_gone_11 : decode cX10_gone 11 = .ok (.invokevirtual 107, 3) := by decide +kernel
theorem dX10_gone_14 : decode cX10_gone 14 = .ok (.ifCond .ne 6, 3) := by decide +kernel
theorem dX10_gone_17 : decode cX10_gone 17 = .ok (.bipush (-2), 2) := by decide +kernel
theorem dX10_gone_19 : decode cX10_gone 19 = .ok (.ireturn, 1) := by decide +kernel
theorem dX10_gone_20 : decode cX10_gone 20 = .ok (.aload_n 0, 1) := by decide +kernel
theorem dX10_gone_21 : decode cX10_gone 21 = .ok (.invokevirtual 162, 3) := by decide +kernel
theorem dX10_gone_24 : decode cX10_gone 24 = .ok (.aload_n 0, 1) := by decide +kernel
theorem dX10_gone_25 : decode cX10_gone 25 = .ok (.getfield 20, 3) := by decide +kernel
theorem dX10_gone_28 : decode cX10_gone 28 = .ok (.getfield 61, 3) := by decide +kernel
theorem dX10_gone_31 : decode cX10_gone 31 = .ok (.invokevirtual 182, 3) := by decide +kernel
theorem dX10_gone_34 : decode cX10_gone 34 = .ok (.astore_n 2, 1) := by decide +kernel
theorem dX10_gone_35 : decode cX10_gone 35 = .ok (.iconst 0, 1) := by decide +kernel
theorem dX10_gone_36 : decode cX10_gone 36 = .ok (.istore_n 3, 1) := by decide +kernel
theorem dX10_gone_37 : decode cX10_gone 37 = .ok (.iload_n 3, 1) := by decide +kernel
theorem dX10_gone_38 : decode cX10_gone 38 = .ok (.bipush 60, 2) := by decide +kernel
theorem dX10_gone_40 : decode cX10_gone 40 = .ok (.if_icmp .gt 47, 3) := by decide +kernel
theorem dX10_gone_43 : decode cX10_gone 43 = .ok (.aload_n 0, 1) := by decide +kernel
theorem dX10_gone_44 : decode cX10_gone 44 = .ok (.invokevirtual 162, 3) := by decide +kernel
theorem dX10_gone_47 : decode cX10_gone 47 = .ok (.aload_n 2, 1) := by decide +kernel
theorem dX10_gone_48 : decode cX10_gone 48 = .ok (.iload_n 1, 1) := by decide +kernel
theorem dX10_gone_49 : decode cX10_gone 49 = .ok (.invokevirtual 166, 3) := by decide +kernel
theorem dX10_gone_52 : decode cX10_gone 52 = .ok (.invokestatic 186, 3) := by decide +kernel
theorem dX10_gone_55 : decode cX10_gone 55 = .ok (.istore 4, 2) := by decide +kernel
theorem dX10_gone_57 : decode cX10_gone 57 = .ok (.iload 4, 2) := by decide +kernel
theorem dX10_gone_59 : decode cX10_gone 59 = .ok (.aload_n 0, 1) := by decide +kernel
theorem dX10_gone_60 : decode cX10_gone 60 = .ok (.invokevirtual 162, 3) := by decide +kernel
theorem dX10_gone_63 : decode cX10_gone 63 = .ok (.aload_n 2, 1) := by decide +kernel
theorem dX10_gone_64 : decode cX10_gone 64 = .ok (.iload_n 1, 1) := by decide +kernel
theorem dX10_gone_65 : decode cX10_gone 65 = .ok (.invokevirtual 178, 3) := by decide +kernel
theorem dX10_gone_68 : decode cX10_gone 68 = .ok (.invokestatic 186, 3) := by decide +kernel
theorem dX10_gone_71 : decode cX10_gone 71 = .ok (.if_icmp .lt 5, 3) := by decide +kernel
theorem dX10_gone_74 : decode cX10_gone 74 = .ok (.iload_n 3, 1) := by decide +kernel
theorem dX10_gone_75 : decode cX10_gone 75 = .ok (.ireturn, 1) := by decide +kernel
theorem dX10_gone_76 : decode cX10_gone 76 = .ok (.aload_n 2, 1) := by decide +kernel
theorem dX10_gone_77 : decode cX10_gone 77 = .ok (.iconst 1, 1) := by decide +kernel
theorem dX10_gone_78 : decode cX10_gone 78 = .ok (.invokevirtual 124, 3) := by decide +kernel
theorem dX10_gone_81 : decode cX10_gone 81 = .ok (.iinc 3 1, 3) := by decide +kernel
theorem dX10_gone_84 : decode cX10_gone 84 = .ok (.goto (-47), 3) := by decide +kernel
theorem dX10_gone_87 : decode cX10_gone 87 = .ok (.iconst (-1), 1) := by decide +kernel
theorem dX10_gone_88 : decode cX10_gone 88 = .ok (.ireturn, 1) := by decide +kernel
theorem dX10_counted_0 : decode cX10_counted 0 = .ok (.iload_n 0, 1) := by decide +kernel
theorem dX10_counted_1 : decode cX10_counted 1 = .ok (.iconst (-1), 1) := by decide +kernel
theorem dX10_counted_2 : decode cX10_counted 2 = .ok (.if_icmp .ne 8, 3) := by decide +kernel
theorem dX10_counted_5 : decode cX10_counted 5 = .ok (.bipush 41, 2) := by decide +kernel
theorem dX10_counted_7 : decode cX10_counted 7 = .ok (.goto 4, 3) := by decide +kernel
theorem dX10_counted_10 : decode cX10_counted 10 = .ok (.iload_n 0, 1) := by decide +kernel
theorem dX10_counted_11 : decode cX10_counted 11 = .ok (.ireturn, 1) := by decide +kernel
theorem dX10_without_0 : decode cX10_without 0 = .ok (.aload_n 0, 1) := by decide +kernel
theorem dX10_without_1 : decode cX10_without 1 = .ok (.getfield 20, 3) := by decide +kernel
theorem dX10_without_4 : decode cX10_without 4 = .ok (.getfield 61, 3) := by decide +kernel
theorem dX10_without_7 : decode cX10_without 7 = .ok (.getfield 78, 3) := by decide +kernel
theorem dX10_without_10 : decode cX10_without 10 = .ok (.iload_n 1, 1) := by decide +kernel
theorem dX10_without_11 : decode cX10_without 11 = .ok (.invokevirtual 107, 3) := by decide +kernel
theorem dX10_without_14 : decode cX10_without 14 = .ok (.ifCond .eq 10, 3) := by decide +kernel
theorem dX10_without_17 : decode cX10_without 17 = .ok (.iload_n 2, 1) := by decide +kernel
theorem dX10_without_18 : decode cX10_without 18 = .ok (.invokestatic 135, 3) := by decide +kernel
theorem dX10_without_21 : decode cX10_without 21 = .ok (.ifCond .ne 6, 3) := by decide +kernel
theorem dX10_without_24 : decode cX10_without 24 = .ok (.bipush (-2), 2) := by decide +kernel
theorem dX10_without_26 : decode cX10_without 26 = .ok (.ireturn, 1) := by decide +kernel
theorem dX10_without_27 : decode cX10_without 27 = .ok (.aload_n 0, 1) := by decide +kernel
theorem dX10_without_28 : decode cX10_without 28 = .ok (.invokevirtual 162, 3) := by decide +kernel
theorem dX10_without_31 : decode cX10_without 31 = .ok (.aload_n 0, 1) := by decide +kernel
theorem dX10_without_32 : decode cX10_without 32 = .ok (.getfield 20, 3) := by decide +kernel
theorem dX10_without_35 : decode cX10_without 35 = .ok (.getfield 61, 3) := by decide +kernel
theorem dX10_without_38 : decode cX10_without 38 = .ok (.iload_n 1, 1) := by decide +kernel
theorem dX10_without_39 : decode cX10_without 39 = .ok (.iload_n 2, 1) := by decide +kernel
theorem dX10_without_40 : decode cX10_without 40 = .ok (.invokevirtual 189, 3) := by decide +kernel
theorem dX10_without_43 : decode cX10_without 43 = .ok (.ireturn, 1) := by decide +kernel
theorem dX10_between_0 : decode cX10_between 0 = .ok (.aload_n 0, 1) := by decide +kernel
theorem dX10_between_1 : decode cX10_between 1 = .ok (.getfield 20, 3) := by decide +kernel
theorem dX10_between_4 : decode cX10_between 4 = .ok (.getfield 61, 3) := by decide +kernel
theorem dX10_between_7 : decode cX10_between 7 = .ok (.getfield 78, 3) := by decide +kernel
theorem dX10_between_10 : decode cX10_between 10 = .ok (.astore 4, 2) := by decide +kernel
theorem dX10_between_12 : decode cX10_between 12 = .ok (.aload 4, 2) := by decide +kernel
theorem dX10_between_14 : decode cX10_between 14 = .ok (.iload_n 1, 1) := by decide +kernel
theorem dX10_between_15 : decode cX10_between 15 = .ok (.invokevirtual 107, 3) := by decide +kernel
theorem dX10_between_18 : decode cX10_between 18 = .ok (.ifCond .eq 30, 3) := by decide +kernel
theorem dX10_between_21 : decode cX10_between 21 = .ok (.aload 4, 2) := by decide +kernel
theorem dX10_between_23 : decode cX10_between 23 = .ok (.iload_n 2, 1) := by decide +kernel
theorem dX10_between_24 : decode cX10_between 24 = .ok (.invokevirtual 107, 3) := by decide +kernel
theorem dX10_between_27 : decode cX10_between 27 = .ok (.ifCond .eq 21, 3) := by decide +kernel
theorem dX10_between_30 : decode cX10_between 30 = .ok (.iload_n 1, 1) := by decide +kernel
theorem dX10_between_31 : decode cX10_between 31 = .ok (.iload_n 2, 1) := by decide +kernel
theorem dX10_between_32 : decode cX10_between 32 = .ok (.if_icmp .eq 16, 3) := by decide +kernel
theorem dX10_between_35 : decode cX10_between 35 = .ok (.iload_n 3, 1) := by decide +kernel
theorem dX10_between_36 : decode cX10_between 36 = .ok (.iconst 1, 1) := by decide +kernel
theorem dX10_between_37 : decode cX10_between 37 = .ok (.if_icmp .lt 11, 3) := by decide +kernel
theorem dX10_between_40 : decode cX10_between 40 = .ok (.iload_n 3, 1) := by decide +kernel
theorem dX10_between_41 : decode cX10_between 41 = .ok (.i2l, 1) := by decide +kernel
theorem dX10_between_42 : decode cX10_between 42 = .ok (.invokestatic 120, 3) := by decide +kernel
theorem dX10_between_45 : decode cX10_between 45 = .ok (.ifCond .ne 6, 3) := by decide +kernel
theorem dX10_between_48 : decode cX10_between 48 = .ok (.ldc 181, 2) := by decide +kernel
theorem dX10_between_50 : decode cX10_between 50 = .ok (.ireturn, 1) := by decide +kernel
theorem dX10_between_51 : decode cX10_between 51 = .ok (.aload_n 0, 1) := by decide +kernel
theorem dX10_between_52 : decode cX10_between 52 = .ok (.invokevirtual 162, 3) := by decide +kernel
theorem dX10_between_55 : decode cX10_between 55 = .ok (.aload_n 0, 1) := by decide +kernel
theorem dX10_between_56 : decode cX10_between 56 = .ok (.getfield 20, 3) := by decide +kernel
theorem dX10_between_59 : decode cX10_between 59 = .ok (.getfield 61, 3) := by decide +kernel
theorem dX10_between_62 : decode cX10_between 62 = .ok (.invokevirtual 182, 3) := by decide +kernel
theorem dX10_between_65 : decode cX10_between 65 = .ok (.astore 5, 2) := by decide +kernel
theorem dX10_between_67 : decode cX10_between 67 = .ok (.aload 5, 2) := by decide +kernel
theorem dX10_between_69 : decode cX10_between 69 = .ok (.iload_n 2, 1) := by decide +kernel
theorem dX10_between_70 : decode cX10_between 70 = .ok (.invokevirtual 193, 3) := by decide +kernel
theorem dX10_between_73 : decode cX10_between 73 = .ok (.iconst (-1), 1) := by decide +kernel
theorem dX10_between_74 : decode cX10_between 74 = .ok (.if_icmp .ne 6, 3) := by decide +kernel
theorem dX10_between_77 : decode cX10_between 77 = .ok (.ldc 181, 2) := by decide +kernel
theorem dX10_between_79 : decode cX10_between 79 = .ok (.ireturn, 1) := by decide +kernel
theorem dX10_between_80 : decode cX10_between 80 = .ok (.aload 5, 2) := by decide +kernel
theorem dX10_between_82 : decode cX10_between 82 = .ok (.iload_n 3, 1) := by decide +kernel
theorem dX10_between_83 : decode cX10_between 83 = .ok (.invokevirtual 124, 3) := by decide +kernel
theorem dX10_between_86 : decode cX10_between 86 = .ok (.aload_n 0, 1) := by decide +kernel
theorem dX10_between_87 : decode cX10_between 87 = .ok (.invokevirtual 162, 3) := by decide +kernel
theorem dX10_between_90 : decode cX10_between 90 = .ok (.aload 5, 2) := by decide +kernel
theorem dX10_between_92 : decode cX10_between 92 = .ok (.iload_n 1, 1) := by decide +kernel
theorem dX10_between_93 : decode cX10_between 93 = .ok (.invokevirtual 166, 3) := by decide +kernel
theorem dX10_between_96 : decode cX10_between 96 = .ok (.istore 6, 2) := by decide +kernel
theorem dX10_between_98 : decode cX10_between 98 = .ok (.aload_n 0, 1) := by decide +kernel
theorem dX10_between_99 : decode cX10_between 99 = .ok (.invokevirtual 162, 3) := by decide +kernel
theorem dX10_between_102 : decode cX10_between 102 = .ok (.aload_n 0, 1) := by decide +kernel
theorem dX10_between_103 : decode cX10_between 103 = .ok (.getfield 20, 3) := by decide +kernel
theorem dX10_between_106 : decode cX10_between 106 = .ok (.getfield 61, 3) := by decide +kernel
theorem dX10_between_109 : decode cX10_between 109 = .ok (.invokevirtual 182, 3) := by decide +kernel
theorem dX10_between_112 : decode cX10_between 112 = .ok (.astore 5, 2) := by decide +kernel
theorem dX10_between_114 : decode cX10_between 114 = .ok (.aload 5, 2) := by decide +kernel
theorem dX10_between_116 : decode cX10_between 116 = .ok (.iload_n 3, 1) := by decide +kernel
theorem dX10_between_117 : decode cX10_between 117 = .ok (.invokevirtual 124, 3) := by decide +kernel
theorem dX10_between_120 : decode cX10_between 120 = .ok (.iload 6, 2) := by decide +kernel
theorem dX10_between_122 : decode cX10_between 122 = .ok (.aload_n 0, 1) := by decide +kernel
theorem dX10_between_123 : decode cX10_between 123 = .ok (.invokevirtual 162, 3) := by decide +kernel
theorem dX10_between_126 : decode cX10_between 126 = .ok (.aload 5, 2) := by decide +kernel
theorem dX10_between_128 : decode cX10_between 128 = .ok (.iload_n 1, 1) := by decide +kernel
theorem dX10_between_129 : decode cX10_between 129 = .ok (.invokevirtual 166, 3) := by decide +kernel
theorem dX10_between_132 : decode cX10_between 132 = .ok (.invokestatic 196, 3) := by decide +kernel
theorem dX10_between_135 : decode cX10_between 135 = .ok (.ireturn, 1) := by decide +kernel
theorem dX10_lessened_0 : decode cX10_lessened 0 = .ok (.iload_n 0, 1) := by decide +kernel
theorem dX10_lessened_1 : decode cX10_lessened 1 = .ok (.iconst (-1), 1) := by decide +kernel
theorem dX10_lessened_2 : decode cX10_lessened 2 = .ok (.if_icmp .eq 8, 3) := by decide +kernel
theorem dX10_lessened_5 : decode cX10_lessened 5 = .ok (.iload_n 1, 1) := by decide +kernel
theorem dX10_lessened_6 : decode cX10_lessened 6 = .ok (.iconst (-1), 1) := by decide +kernel
theorem dX10_lessened_7 : decode cX10_lessened 7 = .ok (.if_icmp .ne 8, 3) := by decide +kernel
theorem dX10_lessened_10 : decode cX10_lessened 10 = .ok (.ldc 181, 2) := by decide +kernel
theorem dX10_lessened_12 : decode cX10_lessened 12 = .ok (.goto 6, 3) := by decide +kernel
theorem dX10_lessened_15 : decode cX10_lessened 15 = .ok (.iload_n 0, 1) := by decide +kernel
theorem dX10_lessened_16 : decode cX10_lessened 16 = .ok (.iload_n 1, 1) := by decide +kernel
theorem dX10_lessened_17 : decode cX10_lessened 17 = .ok (.isub, 1) := by decide +kernel
theorem dX10_lessened_18 : decode cX10_lessened 18 = .ok (.ireturn, 1) := by decide +kernel
theorem dX10_evening_0 : decode cX10_evening 0 = .ok (.aload_n 0, 1) := by decide +kernel
theorem dX10_evening_1 : decode cX10_evening 1 = .ok (.getfield 20, 3) := by decide +kernel
theorem dX10_evening_4 : decode cX10_evening 4 = .ok (.getfield 61, 3) := by decide +kernel
theorem dX10_evening_7 : decode cX10_evening 7 = .ok (.getfield 78, 3) := by decide +kernel
theorem dX10_evening_10 : decode cX10_evening 10 = .ok (.iload_n 1, 1) := by decide +kernel
theorem dX10_evening_11 : decode cX10_evening 11 = .ok (.invokevirtual 107, 3) := by decide +kernel
theorem dX10_evening_14 : decode cX10_evening 14 = .ok (.ifCond .eq 21, 3) := by decide +kernel
theorem dX10_evening_17 : decode cX10_evening 17 = .ok (.iload_n 2, 1) := by decide +kernel
theorem dX10_evening_18 : decode cX10_evening 18 = .ok (.ifCond .lt 17, 3) := by decide +kernel
theorem dX10_evening_21 : decode cX10_evening 21 = .ok (.iload_n 2, 1) := by decide +kernel
theorem dX10_evening_22 : decode cX10_evening 22 = .ok (.bipush 24, 2) := by decide +kernel
theorem dX10_evening_24 : decode cX10_evening 24 = .ok (.if_icmp .ge 11, 3) := by decide +kernel
theorem dX10_evening_27 : decode cX10_evening 27 = .ok (.iload_n 3, 1) := by decide +kernel
theorem dX10_evening_28 : decode cX10_evening 28 = .ok (.i2l, 1) := by decide +kernel
theorem dX10_evening_29 : decode cX10_evening 29 = .ok (.invokestatic 120, 3) := by decide +kernel
theorem dX10_evening_32 : decode cX10_evening 32 = .ok (.ifCond .ne 6, 3) := by decide +kernel
theorem dX10_evening_35 : decode cX10_evening 35 = .ok (.ldc 181, 2) := by decide +kernel
theorem dX10_evening_37 : decode cX10_evening 37 = .ok (.ireturn, 1) := by decide +kernel
theorem dX10_evening_38 : decode cX10_evening 38 = .ok (.aload_n 0, 1) := by decide +kernel
theorem dX10_evening_39 : decode cX10_evening 39 = .ok (.invokevirtual 162, 3) := by decide +kernel
theorem dX10_evening_42 : decode cX10_evening 42 = .ok (.aload_n 0, 1) := by decide +kernel
theorem dX10_evening_43 : decode cX10_evening 43 = .ok (.getfield 20, 3) := by decide +kernel
theorem dX10_evening_46 : decode cX10_evening 46 = .ok (.getfield 61, 3) := by decide +kernel
theorem dX10_evening_49 : decode cX10_evening 49 = .ok (.invokevirtual 182, 3) := by decide +kernel
theorem dX10_evening_52 : decode cX10_evening 52 = .ok (.astore 4, 2) := by decide +kernel
theorem dX10_evening_54 : decode cX10_evening 54 = .ok (.aload 4, 2) := by decide +kernel
theorem dX10_evening_56 : decode cX10_evening 56 = .ok (.iload_n 1, 1) := by decide +kernel
theorem dX10_evening_57 : decode cX10_evening 57 = .ok (.invokevirtual 193, 3) := by decide +kernel
theorem dX10_evening_60 : decode cX10_evening 60 = .ok (.iconst (-1), 1) := by decide +kernel
theorem dX10_evening_61 : decode cX10_evening 61 = .ok (.if_icmp .ne 6, 3) := by decide +kernel
theorem dX10_evening_64 : decode cX10_evening 64 = .ok (.ldc 181, 2) := by decide +kernel
theorem dX10_evening_66 : decode cX10_evening 66 = .ok (.ireturn, 1) := by decide +kernel
theorem dX10_evening_67 : decode cX10_evening 67 = .ok (.aload 4, 2) := by decide +kernel
theorem dX10_evening_69 : decode cX10_evening 69 = .ok (.iload_n 2, 1) := by decide +kernel
theorem dX10_evening_70 : decode cX10_evening 70 = .ok (.iload_n 3, 1) := by decide +kernel
theorem dX10_evening_71 : decode cX10_evening 71 = .ok (.iadd, 1) := by decide +kernel
theorem dX10_evening_72 : decode cX10_evening 72 = .ok (.invokevirtual 124, 3) := by decide +kernel
theorem dX10_evening_75 : decode cX10_evening 75 = .ok (.aload_n 0, 1) := by decide +kernel
theorem dX10_evening_76 : decode cX10_evening 76 = .ok (.invokevirtual 162, 3) := by decide +kernel
theorem dX10_evening_79 : decode cX10_evening 79 = .ok (.aload 4, 2) := by decide +kernel
theorem dX10_evening_81 : decode cX10_evening 81 = .ok (.iload_n 1, 1) := by decide +kernel
theorem dX10_evening_82 : decode cX10_evening 82 = .ok (.invokevirtual 166, 3) := by decide +kernel
theorem dX10_evening_85 : decode cX10_evening 85 = .ok (.istore 5, 2) := by decide +kernel
theorem dX10_evening_87 : decode cX10_evening 87 = .ok (.aload_n 0, 1) := by decide +kernel
theorem dX10_evening_88 : decode cX10_evening 88 = .ok (.invokevirtual 162, 3) := by decide +kernel
theorem dX10_evening_91 : decode cX10_evening 91 = .ok (.aload_n 0, 1) := by decide +kernel
theorem dX10_evening_92 : decode cX10_evening 92 = .ok (.getfield 20, 3) := by decide +kernel
theorem dX10_evening_95 : decode cX10_evening 95 = .ok (.getfield 61, 3) := by decide +kernel
theorem dX10_evening_98 : decode cX10_evening 98 = .ok (.invokevirtual 182, 3) := by decide +kernel
theorem dX10_evening_101 : decode cX10_evening 101 = .ok (.astore 4, 2) := by decide +kernel
theorem dX10_evening_103 : decode cX10_evening 103 = .ok (.aload 4, 2) := by decide +kernel
theorem dX10_evening_105 : decode cX10_evening 105 = .ok (.iload_n 2, 1) := by decide +kernel
theorem dX10_evening_106 : decode cX10_evening 106 = .ok (.invokevirtual 124, 3) := by decide +kernel
theorem dX10_evening_109 : decode cX10_evening 109 = .ok (.aload 4, 2) := by decide +kernel
theorem dX10_evening_111 : decode cX10_evening 111 = .ok (.iload_n 1, 1) := by decide +kernel
theorem dX10_evening_112 : decode cX10_evening 112 = .ok (.invokevirtual 193, 3) := by decide +kernel
theorem dX10_evening_115 : decode cX10_evening 115 = .ok (.iconst (-1), 1) := by decide +kernel
theorem dX10_evening_116 : decode cX10_evening 116 = .ok (.if_icmp .ne 6, 3) := by decide +kernel
theorem dX10_evening_119 : decode cX10_evening 119 = .ok (.ldc 181, 2) := by decide +kernel
theorem dX10_evening_121 : decode cX10_evening 121 = .ok (.ireturn, 1) := by decide +kernel
theorem dX10_evening_122 : decode cX10_evening 122 = .ok (.aload 4, 2) := by decide +kernel
theorem dX10_evening_124 : decode cX10_evening 124 = .ok (.iload_n 3, 1) := by decide +kernel
theorem dX10_evening_125 : decode cX10_evening 125 = .ok (.invokevirtual 124, 3) := by decide +kernel
theorem dX10_evening_128 : decode cX10_evening 128 = .ok (.iload 5, 2) := by decide +kernel
theorem dX10_evening_130 : decode cX10_evening 130 = .ok (.aload_n 0, 1) := by decide +kernel
theorem dX10_evening_131 : decode cX10_evening 131 = .ok (.invokevirtual 162, 3) := by decide +kernel
theorem dX10_evening_134 : decode cX10_evening 134 = .ok (.aload 4, 2) := by decide +kernel
theorem dX10_evening_136 : decode cX10_evening 136 = .ok (.iload_n 1, 1) := by decide +kernel
theorem dX10_evening_137 : decode cX10_evening 137 = .ok (.invokevirtual 166, 3) := by decide +kernel
theorem dX10_evening_140 : decode cX10_evening 140 = .ok (.invokestatic 196, 3) := by decide +kernel
theorem dX10_evening_143 : decode cX10_evening 143 = .ok (.ireturn, 1) := by decide +kernel
theorem dX10_when_0 : decode cX10_when 0 = .ok (.aload_n 0, 1) := by decide +kernel
theorem dX10_when_1 : decode cX10_when 1 = .ok (.getfield 20, 3) := by decide +kernel
theorem dX10_when_4 : decode cX10_when 4 = .ok (.getfield 61, 3) := by decide +kernel
theorem dX10_when_7 : decode cX10_when 7 = .ok (.getfield 78, 3) := by decide +kernel
theorem dX10_when_10 : decode cX10_when 10 = .ok (.iload_n 1, 1) := by decide +kernel
theorem dX10_when_11 : decode cX10_when 11 = .ok (.invokevirtual 107, 3) := by decide +kernel
theorem dX10_when_14 : decode cX10_when 14 = .ok (.ifCond .ne 6, 3) := by decide +kernel
theorem dX10_when_17 : decode cX10_when 17 = .ok (.bipush (-2), 2) := by decide +kernel
theorem dX10_when_19 : decode cX10_when 19 = .ok (.ireturn, 1) := by decide +kernel
theorem dX10_when_20 : decode cX10_when 20 = .ok (.aload_n 0, 1) := by decide +kernel
theorem dX10_when_21 : decode cX10_when 21 = .ok (.invokevirtual 162, 3) := by decide +kernel
theorem dX10_when_24 : decode cX10_when 24 = .ok (.aload_n 0, 1) := by decide +kernel
theorem dX10_when_25 : decode cX10_when 25 = .ok (.getfield 20, 3) := by decide +kernel
theorem dX10_when_28 : decode cX10_when 28 = .ok (.getfield 61, 3) := by decide +kernel
theorem dX10_when_31 : decode cX10_when 31 = .ok (.invokevirtual 182, 3) := by decide +kernel
theorem dX10_when_34 : decode cX10_when 34 = .ok (.astore_n 2, 1) := by decide +kernel
theorem dX10_when_35 : decode cX10_when 35 = .ok (.iconst (-1), 1) := by decide +kernel
theorem dX10_when_36 : decode cX10_when 36 = .ok (.istore_n 3, 1) := by decide +kernel
theorem dX10_when_37 : decode cX10_when 37 = .ok (.bipush 41, 2) := by decide +kernel
theorem dX10_when_39 : decode cX10_when 39 = .ok (.istore 4, 2) := by decide +kernel
theorem dX10_when_41 : decode cX10_when 41 = .ok (.iconst 0, 1) := by decide +kernel
theorem dX10_when_42 : decode cX10_when 42 = .ok (.istore 5, 2) := by decide +kernel
theorem dX10_when_44 : decode cX10_when 44 = .ok (.iload 5, 2) := by decide +kernel
theorem dX10_when_46 : decode cX10_when 46 = .ok (.bipush 24, 2) := by decide +kernel
theorem dX10_when_48 : decode cX10_when 48 = .ok (.if_icmp .ge 42, 3) := by decide +kernel
theorem dX10_when_51 : decode cX10_when 51 = .ok (.aload_n 0, 1) := by decide +kernel
