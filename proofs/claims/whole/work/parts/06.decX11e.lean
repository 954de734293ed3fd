theorem dX11_plans_102 : decode cX11_plans 102 = .ok (.imul, 1) := by decide +kernel
theorem dX11_plans_103 : decode cX11_plans 103 = .ok (.iload 5, 2) := by decide +kernel
theorem dX11_plans_105 : decode cX11_plans 105 = .ok (.iadd, 1) := by decide +kernel
theorem dX11_plans_106 : decode cX11_plans 106 = .ok (.putfield 348, 3) := by decide +kernel
theorem dX11_plans_109 : decode cX11_plans 109 = .ok (.aload_n 0, 1) := by decide +kernel
theorem dX11_plans_110 : decode cX11_plans 110 = .ok (.aload_n 0, 1) := by decide +kernel
theorem dX11_plans_111 : decode cX11_plans 111 = .ok (.iload_n 1, 1) := by decide +kernel
theorem dX11_plans_112 : decode cX11_plans 112 = .ok (.invokevirtual 351, 3) := by decide +kernel
theorem dX11_plans_115 : decode cX11_plans 115 = .ok (.putfield 354, 3) := by decide +kernel
theorem dX11_plans_118 : decode cX11_plans 118 = .ok (.aload_n 0, 1) := by decide +kernel
theorem dX11_plans_119 : decode cX11_plans 119 = .ok (.invokevirtual 309, 3) := by decide +kernel
theorem dX11_plans_122 : decode cX11_plans 122 = .ok (.iinc 5 (-1), 3) := by decide +kernel
theorem dX11_plans_125 : decode cX11_plans 125 = .ok (.goto (-122), 3) := by decide +kernel
theorem dX11_plans_128 : decode cX11_plans 128 = .ok (.return_, 1) := by decide +kernel
theorem dX11_isPlan_0 : decode cX11_isPlan 0 = .ok (.aload_n 0, 1) := by decide +kernel
theorem dX11_isPlan_1 : decode cX11_isPlan 1 = .ok (.iload_n 1, 1) := by decide +kernel
theorem dX11_isPlan_2 : decode cX11_isPlan 2 = .ok (.invokevirtual 315, 3) := by decide +kernel
theorem dX11_isPlan_5 : decode cX11_isPlan 5 = .ok (.ifCond .eq 31, 3) := by decide +kernel
theorem dX11_isPlan_8 : decode cX11_isPlan 8 = .ok (.iload_n 2, 1) := by decide +kernel
theorem dX11_isPlan_9 : decode cX11_isPlan 9 = .ok (.i2l, 1) := by decide +kernel
theorem dX11_isPlan_10 : decode cX11_isPlan 10 = .ok (.lconst 1, 1) := by decide +kernel
theorem dX11_isPlan_11 : decode cX11_isPlan 11 = .ok (.ldc2_w 357, 3) := by decide +kernel
theorem dX11_isPlan_14 : decode cX11_isPlan 14 = .ok (.invokestatic 88, 3) := by decide +kernel
theorem dX11_isPlan_17 : decode cX11_isPlan 17 = .ok (.ifCond .eq 19, 3) := by decide +kernel
theorem dX11_isPlan_20 : decode cX11_isPlan 20 = .ok (.iload_n 3, 1) := by decide +kernel
theorem dX11_isPlan_21 : decode cX11_isPlan 21 = .ok (.i2l, 1) := by decide +kernel
theorem dX11_isPlan_22 : decode cX11_isPlan 22 = .ok (.lconst 1, 1) := by decide +kernel
theorem dX11_isPlan_23 : decode cX11_isPlan 23 = .ok (.ldc2_w 359, 3) := by decide +kernel
theorem dX11_isPlan_26 : decode cX11_isPlan 26 = .ok (.invokestatic 88, 3) := by decide +kernel
theorem dX11_isPlan_29 : decode cX11_isPlan 29 = .ok (.ifCond .eq 7, 3) := by decide +kernel
theorem dX11_isPlan_32 : decode cX11_isPlan 32 = .ok (.iconst 1, 1) := by decide +kernel
theorem dX11_isPlan_33 : decode cX11_isPlan 33 = .ok (.goto 4, 3) := by decide +kernel
theorem dX11_isPlan_36 : decode cX11_isPlan 36 = .ok (.iconst 0, 1) := by decide +kernel
theorem dX11_isPlan_37 : decode cX11_isPlan 37 = .ok (.ireturn, 1) := by decide +kernel
theorem dX11_spread_0 : decode cX11_spread 0 = .ok (.aload_n 0, 1) := by decide +kernel
theorem dX11_spread_1 : decode cX11_spread 1 = .ok (.iload_n 1, 1) := by decide +kernel
theorem dX11_spread_2 : decode cX11_spread 2 = .ok (.iload_n 2, 1) := by decide +kernel
theorem dX11_spread_3 : decode cX11_spread 3 = .ok (.iload_n 3, 1) := by decide +kernel
theorem dX11_spread_4 : decode cX11_spread 4 = .ok (.invokevirtual 361, 3) := by decide +kernel
theorem dX11_spread_7 : decode cX11_spread 7 = .ok (.ifCond .ne 5, 3) := by decide +kernel
theorem dX11_spread_10 : decode cX11_spread 10 = .ok (.iconst (-1), 1) := by decide +kernel
theorem dX11_spread_11 : decode cX11_spread 11 = .ok (.ireturn, 1) := by decide +kernel
theorem dX11_spread_12 : decode cX11_spread 12 = .ok (.aload_n 0, 1) := by decide +kernel
theorem dX11_spread_13 : decode cX11_spread 13 = .ok (.iconst (-1), 1) := by decide +kernel
theorem dX11_spread_14 : decode cX11_spread 14 = .ok (.putfield 348, 3) := by decide +kernel
theorem dX11_spread_17 : decode cX11_spread 17 = .ok (.aload_n 0, 1) := by decide +kernel
theorem dX11_spread_18 : decode cX11_spread 18 = .ok (.iload_n 1, 1) := by decide +kernel
theorem dX11_spread_19 : decode cX11_spread 19 = .ok (.iload_n 2, 1) := by decide +kernel
theorem dX11_spread_20 : decode cX11_spread 20 = .ok (.iload_n 3, 1) := by decide +kernel
theorem dX11_spread_21 : decode cX11_spread 21 = .ok (.iconst 0, 1) := by decide +kernel
theorem dX11_spread_22 : decode cX11_spread 22 = .ok (.invokevirtual 345, 3) := by decide +kernel
theorem dX11_spread_25 : decode cX11_spread 25 = .ok (.aload_n 0, 1) := by decide +kernel
theorem dX11_spread_26 : decode cX11_spread 26 = .ok (.getfield 348, 3) := by decide +kernel
theorem dX11_spread_29 : decode cX11_spread 29 = .ok (.ireturn, 1) := by decide +kernel
theorem dX11_left_0 : decode cX11_left 0 = .ok (.aload_n 0, 1) := by decide +kernel
theorem dX11_left_1 : decode cX11_left 1 = .ok (.iload_n 1, 1) := by decide +kernel
theorem dX11_left_2 : decode cX11_left 2 = .ok (.iload_n 2, 1) := by decide +kernel
theorem dX11_left_3 : decode cX11_left 3 = .ok (.iload_n 3, 1) := by decide +kernel
theorem dX11_left_4 : decode cX11_left 4 = .ok (.invokevirtual 361, 3) := by decide +kernel
theorem dX11_left_7 : decode cX11_left 7 = .ok (.ifCond .eq 16, 3) := by decide +kernel
theorem dX11_left_10 : decode cX11_left 10 = .ok (.iload 4, 2) := by decide +kernel
theorem dX11_left_12 : decode cX11_left 12 = .ok (.i2l, 1) := by decide +kernel
theorem dX11_left_13 : decode cX11_left 13 = .ok (.lconst 0, 1) := by decide +kernel
theorem dX11_left_14 : decode cX11_left 14 = .ok (.ldc2_w 86, 3) := by decide +kernel
theorem dX11_left_17 : decode cX11_left 17 = .ok (.invokestatic 88, 3) := by decide +kernel
theorem dX11_left_20 : decode cX11_left 20 = .ok (.ifCond .ne 5, 3) := by decide +kernel
theorem dX11_left_23 : decode cX11_left 23 = .ok (.iconst (-1), 1) := by decide +kernel
theorem dX11_left_24 : decode cX11_left 24 = .ok (.ireturn, 1) := by decide +kernel
theorem dX11_left_25 : decode cX11_left 25 = .ok (.iload 4, 2) := by decide +kernel
theorem dX11_left_27 : decode cX11_left 27 = .ok (.ifCond .ne 21, 3) := by decide +kernel
theorem dX11_left_30 : decode cX11_left 30 = .ok (.aload_n 0, 1) := by decide +kernel
theorem dX11_left_31 : decode cX11_left 31 = .ok (.iconst (-1), 1) := by decide +kernel
theorem dX11_left_32 : decode cX11_left 32 = .ok (.putfield 348, 3) := by decide +kernel
theorem dX11_left_35 : decode cX11_left 35 = .ok (.aload_n 0, 1) := by decide +kernel
theorem dX11_left_36 : decode cX11_left 36 = .ok (.iload_n 1, 1) := by decide +kernel
theorem dX11_left_37 : decode cX11_left 37 = .ok (.iload_n 2, 1) := by decide +kernel
theorem dX11_left_38 : decode cX11_left 38 = .ok (.iload_n 3, 1) := by decide +kernel
theorem dX11_left_39 : decode cX11_left 39 = .ok (.iconst 0, 1) := by decide +kernel
theorem dX11_left_40 : decode cX11_left 40 = .ok (.invokevirtual 345, 3) := by decide +kernel
theorem dX11_left_43 : decode cX11_left 43 = .ok (.aload_n 0, 1) := by decide +kernel
theorem dX11_left_44 : decode cX11_left 44 = .ok (.getfield 354, 3) := by decide +kernel
theorem dX11_left_47 : decode cX11_left 47 = .ok (.ireturn, 1) := by decide +kernel
theorem dX11_left_48 : decode cX11_left 48 = .ok (.aload_n 0, 1) := by decide +kernel
theorem dX11_left_49 : decode cX11_left 49 = .ok (.invokevirtual 303, 3) := by decide +kernel
theorem dX11_left_52 : decode cX11_left 52 = .ok (.iconst 0, 1) := by decide +kernel
theorem dX11_left_53 : decode cX11_left 53 = .ok (.istore 5, 2) := by decide +kernel
theorem dX11_left_55 : decode cX11_left 55 = .ok (.iload 5, 2) := by decide +kernel
theorem dX11_left_57 : decode cX11_left 57 = .ok (.iload_n 3, 1) := by decide +kernel
theorem dX11_left_58 : decode cX11_left 58 = .ok (.if_icmp .ge 74, 3) := by decide +kernel
theorem dX11_left_61 : decode cX11_left 61 = .ok (.iload 4, 2) := by decide +kernel
theorem dX11_left_63 : decode cX11_left 63 = .ok (.iconst 1, 1) := by decide +kernel
theorem dX11_left_64 : decode cX11_left 64 = .ok (.if_icmp .ne 16, 3) := by decide +kernel
theorem dX11_left_67 : decode cX11_left 67 = .ok (.iload 5, 2) := by decide +kernel
theorem dX11_left_69 : decode cX11_left 69 = .ok (.ifCond .ne 7, 3) := by decide +kernel
theorem dX11_left_72 : decode cX11_left 72 = .ok (.iconst 1, 1) := by decide +kernel
theorem dX11_left_73 : decode cX11_left 73 = .ok (.goto 20, 3) := by decide +kernel
theorem dX11_left_76 : decode cX11_left 76 = .ok (.iconst 0, 1) := by decide +kernel
theorem dX11_left_77 : decode cX11_left 77 = .ok (.goto 16, 3) := by decide +kernel
theorem dX11_left_80 : decode cX11_left 80 = .ok (.iload 5, 2) := by decide +kernel
theorem dX11_left_82 : decode cX11_left 82 = .ok (.iload_n 3, 1) := by decide +kernel
theorem dX11_left_83 : decode cX11_left 83 = .ok (.iconst 1, 1) := by decide +kernel
theorem dX11_left_84 : decode cX11_left 84 = .ok (.isub, 1) := by decide +kernel
theorem dX11_left_85 : decode cX11_left 85 = .ok (.if_icmp .ne 7, 3) := by decide +kernel
theorem dX11_left_88 : decode cX11_left 88 = .ok (.iconst 1, 1) := by decide +kernel
theorem dX11_left_89 : decode cX11_left 89 = .ok (.goto 4, 3) := by decide +kernel
theorem dX11_left_92 : decode cX11_left 92 = .ok (.iconst 0, 1) := by decide +kernel
theorem dX11_left_93 : decode cX11_left 93 = .ok (.istore 6, 2) := by decide +kernel
theorem dX11_left_95 : decode cX11_left 95 = .ok (.iconst 0, 1) := by decide +kernel
theorem dX11_left_96 : decode cX11_left 96 = .ok (.istore 7, 2) := by decide +kernel
theorem dX11_left_98 : decode cX11_left 98 = .ok (.iload 7, 2) := by decide +kernel
theorem dX11_left_100 : decode cX11_left 100 = .ok (.iload_n 2, 1) := by decide +kernel
theorem dX11_left_101 : decode cX11_left 101 = .ok (.if_icmp .ge 19, 3) := by decide +kernel
theorem dX11_left_104 : decode cX11_left 104 = .ok (.iload 6, 2) := by decide +kernel
theorem dX11_left_106 : decode cX11_left 106 = .ok (.ifCond .eq 14, 3) := by decide +kernel
theorem dX11_left_109 : decode cX11_left 109 = .ok (.aload_n 0, 1) := by decide +kernel
theorem dX11_left_110 : decode cX11_left 110 = .ok (.iload_n 1, 1) := by decide +kernel
theorem dX11_left_111 : decode cX11_left 111 = .ok (.invokevirtual 294, 3) := by decide +kernel
theorem dX11_left_114 : decode cX11_left 114 = .ok (.iinc 7 1, 3) := by decide +kernel
theorem dX11_left_117 : decode cX11_left 117 = .ok (.goto (-19), 3) := by decide +kernel
theorem dX11_left_120 : decode cX11_left 120 = .ok (.aload_n 0, 1) := by decide +kernel
theorem dX11_left_121 : decode cX11_left 121 = .ok (.bipush 24, 2) := by decide +kernel
theorem dX11_left_123 : decode cX11_left 123 = .ok (.invokevirtual 325, 3) := by decide +kernel
theorem dX11_left_126 : decode cX11_left 126 = .ok (.iinc 5 1, 3) := by decide +kernel
theorem dX11_left_129 : decode cX11_left 129 = .ok (.goto (-74), 3) := by decide +kernel
theorem dX11_left_132 : decode cX11_left 132 = .ok (.aload_n 0, 1) := by decide +kernel
theorem dX11_left_133 : decode cX11_left 133 = .ok (.iload_n 1, 1) := by decide +kernel
theorem dX11_left_134 : decode cX11_left 134 = .ok (.invokevirtual 351, 3) := by decide +kernel
theorem dX11_left_137 : decode cX11_left 137 = .ok (.istore 5, 2) := by decide +kernel
theorem dX11_left_139 : decode cX11_left 139 = .ok (.aload_n 0, 1) := by decide +kernel
theorem dX11_left_140 : decode cX11_left 140 = .ok (.invokevirtual 309, 3) := by decide +kernel
theorem dX11_left_143 : decode cX11_left 143 = .ok (.iload 5, 2) := by decide +kernel
theorem dX11_left_145 : decode cX11_left 145 = .ok (.ireturn, 1) := by decide +kernel
theorem dX11_makes_0 : decode cX11_makes 0 = .ok (.aload_n 0, 1) := by decide +kernel
theorem dX11_makes_1 : decode cX11_makes 1 = .ok (.getfield 13, 3) := by decide +kernel
theorem dX11_makes_4 : decode cX11_makes 4 = .ok (.iconst 2, 1) := by decide +kernel
theorem dX11_makes_5 : decode cX11_makes 5 = .ok (.iaload, 1) := by decide +kernel
theorem dX11_makes_6 : decode cX11_makes 6 = .ok (.istore_n 2, 1) := by decide +kernel
theorem dX11_makes_7 : decode cX11_makes 7 = .ok (.bipush 34, 2) := by decide +kernel
theorem dX11_makes_9 : decode cX11_makes 9 = .ok (.bipush 14, 2) := by decide +kernel
theorem dX11_makes_11 : decode cX11_makes 11 = .ok (.iload_n 2, 1) := by decide +kernel
theorem dX11_makes_12 : decode cX11_makes 12 = .ok (.imul, 1) := by decide +kernel
theorem dX11_makes_13 : decode cX11_makes 13 = .ok (.iadd, 1) := by decide +kernel
theorem dX11_makes_14 : decode cX11_makes 14 = .ok (.istore_n 3, 1) := by decide +kernel
theorem dX11_makes_15 : decode cX11_makes 15 = .ok (.iconst 0, 1) := by decide +kernel
theorem dX11_makes_16 : decode cX11_makes 16 = .ok (.istore 4, 2) := by decide +kernel
theorem dX11_makes_18 : decode cX11_makes 18 = .ok (.iload 4, 2) := by decide +kernel
theorem dX11_makes_20 : decode cX11_makes 20 = .ok (.bipush 14, 2) := by decide +kernel
theorem dX11_makes_22 : decode cX11_makes 22 = .ok (.if_icmp .ge 19, 3) := by decide +kernel
theorem dX11_makes_25 : decode cX11_makes 25 = .ok (.aload_n 0, 1) := by decide +kernel
theorem dX11_makes_26 : decode cX11_makes 26 = .ok (.getfield 13, 3) := by decide +kernel
theorem dX11_makes_29 : decode cX11_makes 29 = .ok (.iload_n 3, 1) := by decide +kernel
theorem dX11_makes_30 : decode cX11_makes 30 = .ok (.iload 4, 2) := by decide +kernel
theorem dX11_makes_32 : decode cX11_makes 32 = .ok (.iadd, 1) := by decide +kernel
theorem dX11_makes_33 : decode cX11_makes 33 = .ok (.iconst 0, 1) := by decide +kernel
theorem dX11_makes_34 : decode cX11_makes 34 = .ok (.iastore, 1) := by decide +kernel
theorem dX11_makes_35 : decode cX11_makes 35 = .ok (.iinc 4 1, 3) := by decide +kernel
theorem dX11_makes_38 : decode cX11_makes 38 = .ok (.goto (-20), 3) := by decide +kernel
theorem dX11_makes_41 : decode cX11_makes 41 = .ok (.aload_n 0, 1) := by decide +kernel
theorem dX11_makes_42 : decode cX11_makes 42 = .ok (.getfield 13, 3) := by decide +kernel
theorem dX11_makes_45 : decode cX11_makes 45 = .ok (.iload_n 3, 1) := by decide +kernel
theorem dX11_makes_46 : decode cX11_makes 46 = .ok (.iload_n 1, 1) := by decide +kernel
theorem dX11_makes_47 : decode cX11_makes 47 = .ok (.iastore, 1) := by decide +kernel
theorem dX11_makes_48 : decode cX11_makes 48 = .ok (.iconst 0, 1) := by decide +kernel
theorem dX11_makes_49 : decode cX11_makes 49 = .ok (.istore 4, 2) := by decide +kernel
theorem dX11_makes_51 : decode cX11_makes 51 = .ok (.iload 4, 2) := by decide +kernel
theorem dX11_makes_53 : decode cX11_makes 53 = .ok (.iload_n 1, 1) := by decide +kernel
theorem dX11_makes_54 : decode cX11_makes 54 = .ok (.if_icmp .ge 27, 3) := by decide +kernel
theorem dX11_makes_57 : decode cX11_makes 57 = .ok (.aload_n 0, 1) := by decide +kernel
theorem dX11_makes_58 : decode cX11_makes 58 = .ok (.getfield 13, 3) := by decide +kernel
theorem dX11_makes_61 : decode cX11_makes 61 = .ok (.iload_n 3, 1) := by decide +kernel
theorem dX11_makes_62 : decode cX11_makes 62 = .ok (.iconst 1, 1) := by decide +kernel
theorem dX11_makes_63 : decode cX11_makes 63 = .ok (.iadd, 1) := by decide +kernel
theorem dX11_makes_64 : decode cX11_makes 64 = .ok (.iload 4, 2) := by decide +kernel
theorem dX11_makes_66 : decode cX11_makes 66 = .ok (.iadd, 1) := by decide +kernel
theorem dX11_makes_67 : decode cX11_makes 67 = .ok (.aload_n 0, 1) := by decide +kernel
theorem dX11_makes_68 : decode cX11_makes 68 = .ok (.getfield 61, 3) := by decide +kernel
theorem dX11_makes_71 : decode cX11_makes 71 = .ok (.iload 4, 2) := by decide +kernel
theorem dX11_makes_73 : decode cX11_makes 73 = .ok (.iaload, 1) := by decide +kernel
theorem dX11_makes_74 : decode cX11_makes 74 = .ok (.iastore, 1) := by decide +kernel
theorem dX11_makes_75 : decode cX11_makes 75 = .ok (.iinc 4 1, 3) := by decide +kernel
theorem dX11_makes_78 : decode cX11_makes 78 = .ok (.goto (-27), 3) := by decide +kernel
theorem dX11_makes_81 : decode cX11_makes 81 = .ok (.aload_n 0, 1) := by decide +kernel
theorem dX11_makes_82 : decode cX11_makes 82 = .ok (.getfield 13, 3) := by decide +kernel
theorem dX11_makes_85 : decode cX11_makes 85 = .ok (.iconst 2, 1) := by decide +kernel
theorem dX11_makes_86 : decode cX11_makes 86 = .ok (.dup2, 1) := by decide +kernel
theorem dX11_makes_87 : decode cX11_makes 87 = .ok (.iaload, 1) := by decide +kernel
theorem dX11_makes_88 : decode cX11_makes 88 = .ok (.iconst 1, 1) := by decide +kernel
theorem dX11_makes_89 : decode cX11_makes 89 = .ok (.iadd, 1) := by decide +kernel
theorem dX11_makes_90 : decode cX11_makes 90 = .ok (.iastore, 1) := by decide +kernel
theorem dX11_makes_91 : decode cX11_makes 91 = .ok (.iload_n 2, 1) := by decide +kernel
theorem dX11_makes_92 : decode cX11_makes 92 = .ok (.ireturn, 1) := by decide +kernel
theorem dX11_shuffled_0 : decode cX11_shuffled 0 = .ok (.aload_n 0, 1) := by decide +kernel
theorem dX11_shuffled_1 : decode cX11_shuffled 1 = .ok (.iload_n 1, 1) := by decide +kernel
theorem dX11_shuffled_2 : decode cX11_shuffled 2 = .ok (.invokevirtual 315, 3) := by decide +kernel
theorem dX11_shuffled_5 : decode cX11_shuffled 5 = .ok (.ifCond .eq 15, 3) := by decide +kernel
theorem dX11_shuffled_8 : decode cX11_shuffled 8 = .ok (.iload_n 2, 1) := by decide +kernel
theorem dX11_shuffled_9 : decode cX11_shuffled 9 = .ok (.i2l, 1) := by decide +kernel
theorem dX11_shuffled_10 : decode cX11_shuffled 10 = .ok (.lconst 1, 1) := by decide +kernel
theorem dX11_shuffled_11 : decode cX11_shuffled 11 = .ok (.ldc2_w 251, 3) := by decide +kernel
theorem dX11_shuffled_14 : decode cX11_shuffled 14 = .ok (.invokestatic 88, 3) := by decide +kernel
theorem dX11_shuffled_17 : decode cX11_shuffled 17 = .ok (.ifCond .ne 6, 3) := by decide +kernel
theorem dX11_shuffled_20 : decode cX11_shuffled 20 = .ok (.bipush (-2), 2) := by decide +kernel
theorem dX11_shuffled_22 : decode cX11_shuffled 22 = .ok (.ireturn, 1) := by decide +kernel
theorem dX11_shuffled_23 : decode cX11_shuffled 23 = .ok (.aload_n 0, 1) := by decide +kernel
theorem dX11_shuffled_24 : decode cX11_shuffled 24 = .ok (.getfield 13, 3) := by decide +kernel
theorem dX11_shuffled_27 : decode cX11_shuffled 27 = .ok (.iconst 2, 1) := by decide +kernel
theorem dX11_shuffled_28 : decode cX11_shuffled 28 = .ok (.iaload, 1) := by decide +kernel
theorem dX11_shuffled_29 : decode cX11_shuffled 29 = .ok (.bipush 12, 2) := by decide +kernel
theorem dX11_shuffled_31 : decode cX11_shuffled 31 = .ok (.if_icmp .ne 6, 3) := by decide +kernel
theorem dX11_shuffled_34 : decode cX11_shuffled 34 = .ok (.bipush (-3), 2) := by decide +kernel
theorem dX11_shuffled_36 : decode cX11_shuffled 36 = .ok (.ireturn, 1) := by decide +kernel
theorem dX11_shuffled_37 : decode cX11_shuffled 37 = .ok (.iconst 0, 1) := by decide +kernel
theorem dX11_shuffled_38 : decode cX11_shuffled 38 = .ok (.istore_n 3, 1) := by decide +kernel
theorem dX11_shuffled_39 : decode cX11_shuffled 39 = .ok (.iconst 0, 1) := by decide +kernel
theorem dX11_shuffled_40 : decode cX11_shuffled 40 = .ok (.istore 4, 2) := by decide +kernel
theorem dX11_shuffled_42 : decode cX11_shuffled 42 = .ok (.iload 4, 2) := by decide +kernel
theorem dX11_shuffled_44 : decode cX11_shuffled 44 = .ok (.iload_n 2, 1) := by decide +kernel
theorem dX11_shuffled_45 : decode cX11_shuffled 45 = .ok (.if_icmp .gt 50, 3) := by decide +kernel
theorem dX11_shuffled_48 : decode cX11_shuffled 48 = .ok (.iload 4, 2) := by decide +kernel
theorem dX11_shuffled_50 : decode cX11_shuffled 50 = .ok (.istore 5, 2) := by decide +kernel
theorem dX11_shuffled_52 : decode cX11_shuffled 52 = .ok (.iload 5, 2) := by decide +kernel
theorem dX11_shuffled_54 : decode cX11_shuffled 54 = .ok (.aload_n 0, 1) := by decide +kernel
theorem dX11_shuffled_55 : decode cX11_shuffled 55 = .ok (.iload_n 1, 1) := by decide +kernel
theorem dX11_shuffled_56 : decode cX11_shuffled 56 = .ok (.invokevirtual 278, 3) := by decide +kernel
theorem dX11_shuffled_59 : decode cX11_shuffled 59 = .ok (.if_icmp .ge 30, 3) := by decide +kernel
theorem dX11_shuffled_62 : decode cX11_shuffled 62 = .ok (.aload_n 0, 1) := by decide +kernel
theorem dX11_shuffled_63 : decode cX11_shuffled 63 = .ok (.getfield 61, 3) := by decide +kernel
theorem dX11_shuffled_66 : decode cX11_shuffled 66 = .ok (.iload_n 3, 1) := by decide +kernel
theorem dX11_shuffled_67 : decode cX11_shuffled 67 = .ok (.aload_n 0, 1) := by decide +kernel
theorem dX11_shuffled_68 : decode cX11_shuffled 68 = .ok (.iload_n 1, 1) := by decide +kernel
theorem dX11_shuffled_69 : decode cX11_shuffled 69 = .ok (.iload 5, 2) := by decide +kernel
theorem dX11_shuffled_71 : decode cX11_shuffled 71 = .ok (.invokevirtual 281, 3) := by decide +kernel
theorem dX11_shuffled_74 : decode cX11_shuffled 74 = .ok (.iastore, 1) := by decide +kernel
theorem dX11_shuffled_75 : decode cX11_shuffled 75 = .ok (.iinc 3 1, 3) := by decide +kernel
theorem dX11_shuffled_78 : decode cX11_shuffled 78 = .ok (.iload 5, 2) := by decide +kernel
theorem dX11_shuffled_80 : decode cX11_shuffled 80 = .ok (.iload_n 2, 1) := by decide +kernel
theorem dX11_shuffled_81 : decode cX11_shuffled 81 = .ok (.iconst 1, 1) := by decide +kernel
theorem dX11_shuffled_82 : decode cX11_shuffled 82 = .ok (.iadd, 1) := by decide +kernel
theorem dX11_shuffled_83 : decode cX11_shuffled 83 = .ok (.iadd, 1) := by decide +kernel
theorem dX11_shuffled_84 : decode cX11_shuffled 84 = .ok (.istore 5, 2) := by decide +kernel
theorem dX11_shuffled_86 : decode cX11_shuffled 86 = .ok (.goto (-34), 3) := by decide +kernel
theorem dX11_shuffled_89 : decode cX11_shuffled 89 = .ok (.iinc 4 1, 3) := by decide +kernel
theorem dX11_shuffled_92 : decode cX11_shuffled 92 = .ok (.goto (-50), 3) := by decide +kernel
theorem dX11_shuffled_95 : decode cX11_shuffled 95 = .ok (.aload_n 0, 1) := by decide +kernel
theorem dX11_shuffled_96 : decode cX11_shuffled 96 = .ok (.iload_n 3, 1) := by decide +kernel
theorem dX11_shuffled_97 : decode cX11_shuffled 97 = .ok (.invokevirtual 365, 3) := by decide +kernel
theorem dX11_shuffled_100 : decode cX11_shuffled 100 = .ok (.ireturn, 1) := by decide +kernel
theorem dX11_backward_0 : decode cX11_backward 0 = .ok (.aload_n 0, 1) := by decide +kernel
theorem dX11_backward_1 : decode cX11_backward 1 = .ok (.iload_n 1, 1) := by decide +kernel
theorem dX11_backward_2 : decode cX11_backward 2 = .ok (.invokevirtual 315, 3) := by decide +kernel
theorem dX11_backward_5 : decode cX11_backward 5 = .ok (.ifCond .ne 6, 3) := by decide +kernel
theorem dX11_backward_8 : decode cX11_backward 8 = .ok (.bipush (-2), 2) := by decide +kernel
theorem dX11_backward_10 : decode cX11_backward 10 = .ok (.ireturn, 1) := by decide +kernel
theorem dX11_backward_11 : decode cX11_backward 11 = .ok (.aload_n 0, 1) := by decide +kernel
theorem dX11_backward_12 : decode cX11_backward 12 = .ok (.getfield 13, 3) := by decide +kernel
theorem dX11_backward_15 : decode cX11_backward 15 = .ok (.iconst 2, 1) := by decide +kernel
theorem dX11_backward_16 : decode cX11_backward 16 = .ok (.iaload, 1) := by decide +kernel
theorem dX11_backward_17 : decode cX11_backward 17 = .ok (.bipush 12, 2) := by decide +kernel
theorem dX11_backward_19 : decode cX11_backward 19 = .ok (.if_icmp .ne 6, 3) := by decide +kernel
theorem dX11_backward_22 : decode cX11_backward 22 = .ok (.bipush (-3), 2) := by decide +kernel
theorem dX11_backward_24 : decode cX11_backward 24 = .ok (.ireturn, 1) := by decide +kernel
theorem dX11_backward_25 : decode cX11_backward 25 = .ok (.aload_n 0, 1) := by decide +kernel
theorem dX11_backward_26 : decode cX11_backward 26 = .ok (.iload_n 1, 1) := by decide +kernel
theorem dX11_backward_27 : decode cX11_backward 27 = .ok (.invokevirtual 278, 3) := by decide +kernel
theorem dX11_backward_30 : decode cX11_backward 30 = .ok (.istore_n 2, 1) := by decide +kernel
theorem dX11_backward_31 : decode cX11_backward 31 = .ok (.iconst 0, 1) := by decide +kernel
theorem dX11_backward_32 : decode cX11_backward 32 = .ok (.istore_n 3, 1) := by decide +kernel
theorem dX11_backward_33 : decode cX11_backward 33 = .ok (.iload_n 3, 1) := by decide +kernel
theorem dX11_backward_34 : decode cX11_backward 34 = .ok (.iload_n 2, 1) := by decide +kernel
theorem dX11_backward_35 : decode cX11_backward 35 = .ok (.if_icmp .ge 25, 3) := by decide +kernel
theorem dX11_backward_38 : decode cX11_backward 38 = .ok (.aload_n 0, 1) := by decide +kernel
theorem dX11_backward_39 : decode cX11_backward 39 = .ok (.getfield 61, 3) := by decide +kernel
theorem dX11_backward_42 : decode cX11_backward 42 = .ok (.iload_n 3, 1) := by decide +kernel
theorem dX11_backward_43 : decode cX11_backward 43 = .ok (.aload_n 0, 1) := by decide +kernel
theorem dX11_backward_44 : decode cX11_backward 44 = .ok (.iload_n 1, 1) := by decide +kernel
theorem dX11_backward_45 : decode cX11_backward 45 = .ok (.iload_n 2, 1) := by decide +kernel
theorem dX11_backward_46 : decode cX11_backward 46 = .ok (.iconst 1, 1) := by decide +kernel
theorem dX11_backward_47 : decode cX11_backward 47 = .ok (.isub, 1) := by decide +kernel
theorem dX11_backward_48 : decode cX11_backward 48 = .ok (.iload_n 3, 1) := by decide +kernel
theorem dX11_backward_49 : decode cX11_backward 49 = .ok (.isub, 1) := by decide +kernel
theorem dX11_backward_50 : decode cX11_backward 50 = .ok (.invokevirtual 281, 3) := by decide +kernel
theorem dX11_backward_53 : decode cX11_backward 53 = .ok (.iastore, 1) := by decide +kernel
theorem dX11_backward_54 : decode cX11_backward 54 = .ok (.iinc 3 1, 3) := by decide +kernel
theorem dX11_backward_57 : decode cX11_backward 57 = .ok (.goto (-24), 3) := by decide +kernel
theorem dX11_backward_60 : decode cX11_backward 60 = .ok (.aload_n 0, 1) := by decide +kernel
theorem dX11_backward_61 : decode cX11_backward 61 = .ok (.iload_n 2, 1) := by decide +kernel
theorem dX11_backward_62 : decode cX11_backward 62 = .ok (.invokevirtual 365, 3) := by decide +kernel
theorem dX11_backward_65 : decode cX11_backward 65 = .ok (.ireturn, 1) := by decide +kernel
theorem dX11_rowOf_0 : decode cX11_rowOf 0 = .ok (.iload_n 1, 1) := by decide +kernel
theorem dX11_rowOf_1 : decode cX11_rowOf 1 = .ok (.invokestatic 368, 3) := by decide +kernel
theorem dX11_rowOf_4 : decode cX11_rowOf 4 = .ok (.ifCond .ne 6, 3) := by decide +kernel
theorem dX11_rowOf_7 : decode cX11_rowOf 7 = .ok (.bipush (-2), 2) := by decide +kernel
theorem dX11_rowOf_9 : decode cX11_rowOf 9 = .ok (.ireturn, 1) := by decide +kernel
theorem dX11_rowOf_10 : decode cX11_rowOf 10 = .ok (.aload_n 0, 1) := by decide +kernel
theorem dX11_rowOf_11 : decode cX11_rowOf 11 = .ok (.getfield 73, 3) := by decide +kernel
theorem dX11_rowOf_14 : decode cX11_rowOf 14 = .ok (.iload_n 1, 1) := by decide +kernel
theorem dX11_rowOf_15 : decode cX11_rowOf 15 = .ok (.iaload, 1) := by decide +kernel
theorem dX11_rowOf_16 : decode cX11_rowOf 16 = .ok (.iconst (-1), 1) := by decide +kernel
theorem dX11_rowOf_17 : decode cX11_rowOf 17 = .ok (.if_icmp .ne 6, 3) := by decide +kernel
theorem dX11_rowOf_20 : decode cX11_rowOf 20 = .ok (.bipush (-6), 2) := by decide +kernel
theorem dX11_rowOf_22 : decode cX11_rowOf 22 = .ok (.ireturn, 1) := by decide +kernel
theorem dX11_rowOf_23 : decode cX11_rowOf 23 = .ok (.aload_n 0, 1) := by decide +kernel
theorem dX11_rowOf_24 : decode cX11_rowOf 24 = .ok (.getfield 73, 3) := by decide +kernel
theorem dX11_rowOf_27 : decode cX11_rowOf 27 = .ok (.iload_n 1, 1) := by decide +kernel
theorem dX11_rowOf_28 : decode cX11_rowOf 28 = .ok (.iaload, 1) := by decide +kernel
theorem dX11_rowOf_29 : decode cX11_rowOf 29 = .ok (.i2l, 1) := by decide +kernel
theorem dX11_rowOf_30 : decode cX11_rowOf 30 = .ok (.ldc2_w 86, 3) := by decide +kernel
theorem dX11_rowOf_33 : decode cX11_rowOf 33 = .ok (.ldc2_w 371, 3) := by decide +kernel
theorem dX11_rowOf_36 : decode cX11_rowOf 36 = .ok (.invokestatic 88, 3) := by decide +kernel
theorem dX11_rowOf_39 : decode cX11_rowOf 39 = .ok (.ifCond .ne 6, 3) := by decide +kernel
theorem dX11_rowOf_42 : decode cX11_rowOf 42 = .ok (.bipush (-2), 2) := by decide +kernel
theorem dX11_rowOf_44 : decode cX11_rowOf 44 = .ok (.ireturn, 1) := by decide +kernel
theorem dX11_rowOf_45 : decode cX11_rowOf 45 = .ok (.iconst 0, 1) := by decide +kernel
theorem dX11_rowOf_46 : decode cX11_rowOf 46 = .ok (.istore_n 2, 1) := by decide +kernel
theorem dX11_rowOf_47 : decode cX11_rowOf 47 = .ok (.iload_n 2, 1) := by decide +kernel
theorem dX11_rowOf_48 : decode cX11_rowOf 48 = .ok (.aload_n 0, 1) := by decide +kernel
theorem dX11_rowOf_49 : decode cX11_rowOf 49 = .ok (.getfield 73, 3) := by decide +kernel
theorem dX11_rowOf_52 : decode cX11_rowOf 52 = .ok (.iload_n 1, 1) := by decide +kernel
theorem dX11_rowOf_53 : decode cX11_rowOf 53 = .ok (.iaload, 1) := by decide +kernel
theorem dX11_rowOf_54 : decode cX11_rowOf 54 = .ok (.if_icmp .ge 76, 3) := by decide +kernel
theorem dX11_rowOf_57 : decode cX11_rowOf 57 = .ok (.aload_n 0, 1) := by decide +kernel
theorem dX11_rowOf_58 : decode cX11_rowOf 58 = .ok (.getfield 79, 3) := by decide +kernel
theorem dX11_rowOf_61 : decode cX11_rowOf 61 = .ok (.bipush 60, 2) := by decide +kernel
theorem dX11_rowOf_63 : decode cX11_rowOf 63 = .ok (.iload_n 1, 1) := by decide +kernel
theorem dX11_rowOf_64 : decode cX11_rowOf 64 = .ok (.imul, 1) := by decide +kernel
theorem dX11_rowOf_65 : decode cX11_rowOf 65 = .ok (.iload_n 2, 1) := by decide +kernel
theorem dX11_rowOf_66 : decode cX11_rowOf 66 = .ok (.iadd, 1) := by decide +kernel
theorem dX11_rowOf_67 : decode cX11_rowOf 67 = .ok (.laload, 1) := by decide +kernel
theorem dX11_rowOf_68 : decode cX11_rowOf 68 = .ok (.lstore_n 3, 1) := by decide +kernel
theorem dX11_rowOf_69 : decode cX11_rowOf 69 = .ok (.lload_n 3, 1) := by decide +kernel
theorem dX11_rowOf_70 : decode cX11_rowOf 70 = .ok (.lconst 0, 1) := by decide +kernel
theorem dX11_rowOf_71 : decode cX11_rowOf 71 = .ok (.aload_n 0, 1) := by decide +kernel
theorem dX11_rowOf_72 : decode cX11_rowOf 72 = .ok (.getfield 13, 3) := by decide +kernel
theorem dX11_rowOf_75 : decode cX11_rowOf 75 = .ok (.iconst 1, 1) := by decide +kernel
theorem dX11_rowOf_76 : decode cX11_rowOf 76 = .ok (.iaload, 1) := by decide +kernel
theorem dX11_rowOf_77 : decode cX11_rowOf 77 = .ok (.iconst 1, 1) := by decide +kernel
theorem dX11_rowOf_78 : decode cX11_rowOf 78 = .ok (.isub, 1) := by decide +kernel
theorem dX11_rowOf_79 : decode cX11_rowOf 79 = .ok (.i2l, 1) := by decide +kernel
theorem dX11_rowOf_80 : decode cX11_rowOf 80 = .ok (.invokestatic 88, 3) := by decide +kernel
theorem dX11_rowOf_83 : decode cX11_rowOf 83 = .ok (.ifCond .ne 6, 3) := by decide +kernel
theorem dX11_rowOf_86 : decode cX11_rowOf 86 = .ok (.bipush (-2), 2) := by decide +kernel
theorem dX11_rowOf_88 : decode cX11_rowOf 88 = .ok (.ireturn, 1) := by decide +kernel
theorem dX11_rowOf_89 : decode cX11_rowOf 89 = .ok (.iconst 0, 1) := by decide +kernel
theorem dX11_rowOf_90 : decode cX11_rowOf 90 = .ok (.istore 5, 2) := by decide +kernel
theorem dX11_rowOf_92 : decode cX11_rowOf 92 = .ok (.iload 5, 2) := by decide +kernel
theorem dX11_rowOf_94 : decode cX11_rowOf 94 = .ok (.iload_n 2, 1) := by decide +kernel
theorem dX11_rowOf_95 : decode cX11_rowOf 95 = .ok (.if_icmp .ge 29, 3) := by decide +kernel
theorem dX11_rowOf_98 : decode cX11_rowOf 98 = .ok (.aload_n 0, 1) := by decide +kernel
theorem dX11_rowOf_99 : decode cX11_rowOf 99 = .ok (.getfield 79, 3) := by decide +kernel
theorem dX11_rowOf_102 : decode cX11_rowOf 102 = .ok (.bipush 60, 2) := by decide +kernel
theorem dX11_rowOf_104 : decode cX11_rowOf 104 = .ok (.iload_n 1, 1) := by decide +kernel
theorem dX11_rowOf_105 : decode cX11_rowOf 105 = .ok (.imul, 1) := by decide +kernel
theorem dX11_rowOf_106 : decode cX11_rowOf 106 = .ok (.iload 5, 2) := by decide +kernel
theorem dX11_rowOf_108 : decode cX11_rowOf 108 = .ok (.iadd, 1) := by decide +kernel
theorem dX11_rowOf_109 : decode cX11_rowOf 109 = .ok (.laload, 1) := by decide +kernel
theorem dX11_rowOf_110 : decode cX11_rowOf 110 = .ok (.lload_n 3, 1) := by decide +kernel
theorem dX11_rowOf_111 : decode cX11_rowOf 111 = .ok (.lcmp, 1) := by decide +kernel
theorem dX11_rowOf_112 : decode cX11_rowOf 112 = .ok (.ifCond .ne 6, 3) := by decide +kernel
theorem dX11_rowOf_115 : decode cX11_rowOf 115 = .ok (.bipush (-2), 2) := by decide +kernel
theorem dX11_rowOf_117 : decode cX11_rowOf 117 = .ok (.ireturn, 1) := by decide +kernel
theorem dX11_rowOf_118 : decode cX11_rowOf 118 = .ok (.iinc 5 1, 3) := by decide +kernel
theorem dX11_rowOf_121 : decode cX11_rowOf 121 = .ok (.goto (-29), 3) := by decide +kernel
theorem dX11_rowOf_124 : decode cX11_rowOf 124 = .ok (.iinc 2 1, 3) := by decide +kernel
theorem dX11_rowOf_127 : decode cX11_rowOf 127 = .ok (.goto (-80), 3) := by decide +kernel
theorem dX11_rowOf_130 : decode cX11_rowOf 130 = .ok (.aload_n 0, 1) := by decide +kernel
theorem dX11_rowOf_131 : decode cX11_rowOf 131 = .ok (.getfield 13, 3) := by decide +kernel
theorem dX11_rowOf_134 : decode cX11_rowOf 134 = .ok (.iconst 2, 1) := by decide +kernel
theorem dX11_rowOf_135 : decode cX11_rowOf 135 = .ok (.iaload, 1) := by decide +kernel
theorem dX11_rowOf_136 : decode cX11_rowOf 136 = .ok (.bipush 12, 2) := by decide +kernel
theorem dX11_rowOf_138 : decode cX11_rowOf 138 = .ok (.if_icmp .ne 6, 3) := by decide +kernel
theorem dX11_rowOf_141 : decode cX11_rowOf 141 = .ok (.bipush (-3), 2) := by decide +kernel
theorem dX11_rowOf_143 : decode cX11_rowOf 143 = .ok (.ireturn, 1) := by decide +kernel
theorem dX11_rowOf_144 : decode cX11_rowOf 144 = .ok (.iconst 0, 1) := by decide +kernel
theorem dX11_rowOf_145 : decode cX11_rowOf 145 = .ok (.istore_n 2, 1) := by decide +kernel
theorem dX11_rowOf_146 : decode cX11_rowOf 146 = .ok (.iload_n 2, 1) := by decide +kernel
theorem dX11_rowOf_147 : decode cX11_rowOf 147 = .ok (.aload_n 0, 1) := by decide +kernel
theorem dX11_rowOf_148 : decode cX11_rowOf 148 = .ok (.getfield 73, 3) := by decide +kernel
theorem dX11_rowOf_151 : decode cX11_rowOf 151 = .ok (.iload_n 1, 1) := by decide +kernel
theorem dX11_rowOf_152 : decode cX11_rowOf 152 = .ok (.iaload, 1) := by decide +kernel
theorem dX11_rowOf_153 : decode cX11_rowOf 153 = .ok (.if_icmp .ge 27, 3) := by decide +kernel
theorem dX11_rowOf_156 : decode cX11_rowOf 156 = .ok (.aload_n 0, 1) := by decide +kernel
theorem dX11_rowOf_157 : decode cX11_rowOf 157 = .ok (.getfield 61, 3) := by decide +kernel
theorem dX11_rowOf_160 : decode cX11_rowOf 160 = .ok (.iload_n 2, 1) := by decide +kernel
theorem dX11_rowOf_161 : decode cX11_rowOf 161 = .ok (.aload_n 0, 1) := by decide +kernel
theorem dX11_rowOf_162 : decode cX11_rowOf 162 = .ok (.getfield 79, 3) := by decide +kernel
theorem dX11_rowOf_165 : decode cX11_rowOf 165 = .ok (.bipush 60, 2) := by decide +kernel
theorem dX11_rowOf_167 : decode cX11_rowOf 167 = .ok (.iload_n 1, 1) := by decide +kernel
theorem dX11_rowOf_168 : decode cX11_rowOf 168 = .ok (.imul, 1) := by decide +kernel
theorem dX11_rowOf_169 : decode cX11_rowOf 169 = .ok (.iload_n 2, 1) := by decide +kernel
theorem dX11_rowOf_170 : decode cX11_rowOf 170 = .ok (.iadd, 1) := by decide +kernel
theorem dX11_rowOf_171 : decode cX11_rowOf 171 = .ok (.laload, 1) := by decide +kernel
theorem dX11_rowOf_172 : decode cX11_rowOf 172 = .ok (.l2i, 1) := by decide +kernel
theorem dX11_rowOf_173 : decode cX11_rowOf 173 = .ok (.iastore, 1) := by decide +kernel
theorem dX11_rowOf_174 : decode cX11_rowOf 174 = .ok (.iinc 2 1, 3) := by decide +kernel
theorem dX11_rowOf_177 : decode cX11_rowOf 177 = .ok (.goto (-31), 3) := by decide +kernel
theorem dX11_rowOf_180 : decode cX11_rowOf 180 = .ok (.aload_n 0, 1) := by decide +kernel
theorem dX11_rowOf_181 : decode cX11_rowOf 181 = .ok (.aload_n 0, 1) := by decide +kernel
theorem dX11_rowOf_182 : decode cX11_rowOf 182 = .ok (.getfield 73, 3) := by decide +kernel
theorem dX11_rowOf_185 : decode cX11_rowOf 185 = .ok (.iload_n 1, 1) := by decide +kernel
theorem dX11_rowOf_186 : decode cX11_rowOf 186 = .ok (.iaload, 1) := by decide +kernel
theorem dX11_rowOf_187 : decode cX11_rowOf 187 = .ok (.invokevirtual 365, 3) := by decide +kernel
theorem dX11_rowOf_190 : decode cX11_rowOf 190 = .ok (.ireturn, 1) := by decide +kernel
theorem dX11_thing_0 : decode cX11_thing 0 = .ok (.aload_n 0, 1) := by decide +kernel
theorem dX11_thing_1 : decode cX11_thing 1 = .ok (.iload_n 1, 1) := by decide +kernel
theorem dX11_thing_2 : decode cX11_thing 2 = .ok (.invokevirtual 315, 3) := by decide +kernel
theorem dX11_thing_5 : decode cX11_thing 5 = .ok (.ifCond .ne 6, 3) := by decide +kernel
theorem dX11_thing_8 : decode cX11_thing 8 = .ok (.bipush (-2), 2) := by decide +kernel
theorem dX11_thing_10 : decode cX11_thing 10 = .ok (.ireturn, 1) := by decide +kernel
theorem dX11_thing_11 : decode cX11_thing 11 = .ok (.iload_n 2, 1) := by decide +kernel
theorem dX11_thing_12 : decode cX11_thing 12 = .ok (.i2l, 1) := by decide +kernel
theorem dX11_thing_13 : decode cX11_thing 13 = .ok (.lconst 0, 1) := by decide +kernel
theorem dX11_thing_14 : decode cX11_thing 14 = .ok (.aload_n 0, 1) := by decide +kernel
theorem dX11_thing_15 : decode cX11_thing 15 = .ok (.iload_n 1, 1) := by decide +kernel
theorem dX11_thing_16 : decode cX11_thing 16 = .ok (.invokevirtual 278, 3) := by decide +kernel
theorem dX11_thing_19 : decode cX11_thing 19 = .ok (.iconst 1, 1) := by decide +kernel
theorem dX11_thing_20 : decode cX11_thing 20 = .ok (.isub, 1) := by decide +kernel
theorem dX11_thing_21 : decode cX11_thing 21 = .ok (.i2l, 1) := by decide +kernel
theorem dX11_thing_22 : decode cX11_thing 22 = .ok (.invokestatic 88, 3) := by decide +kernel
theorem dX11_thing_25 : decode cX11_thing 25 = .ok (.ifCond .eq 12, 3) := by decide +kernel
theorem dX11_thing_28 : decode cX11_thing 28 = .ok (.aload_n 0, 1) := by decide +kernel
theorem dX11_thing_29 : decode cX11_thing 29 = .ok (.iload_n 1, 1) := by decide +kernel
theorem dX11_thing_30 : decode cX11_thing 30 = .ok (.iload_n 2, 1) := by decide +kernel
theorem dX11_thing_31 : decode cX11_thing 31 = .ok (.invokevirtual 281, 3) := by decide +kernel
theorem dX11_thing_34 : decode cX11_thing 34 = .ok (.goto 4, 3) := by decide +kernel
theorem dX11_thing_37 : decode cX11_thing 37 = .ok (.iconst (-1), 1) := by decide +kernel
theorem dX11_thing_38 : decode cX11_thing 38 = .ok (.ireturn, 1) := by decide +kernel
theorem dX11_used_0 : decode cX11_used 0 = .ok (.aload_n 0, 1) := by decide +kernel
theorem dX11_used_1 : decode cX11_used 1 = .ok (.iload_n 1, 1) := by decide +kernel
theorem dX11_used_2 : decode cX11_used 2 = .ok (.invokevirtual 315, 3) := by decide +kernel
theorem dX11_used_5 : decode cX11_used 5 = .ok (.ifCond .eq 23, 3) := by decide +kernel
theorem dX11_used_8 : decode cX11_used 8 = .ok (.aload_n 0, 1) := by decide +kernel
theorem dX11_used_9 : decode cX11_used 9 = .ok (.getfield 13, 3) := by decide +kernel
theorem dX11_used_12 : decode cX11_used 12 = .ok (.bipush 34, 2) := by decide +kernel
theorem dX11_used_14 : decode cX11_used 14 = .ok (.bipush 14, 2) := by decide +kernel
theorem dX11_used_16 : decode cX11_used 16 = .ok (.iload_n 1, 1) := by decide +kernel
theorem dX11_used_17 : decode cX11_used 17 = .ok (.imul, 1) := by decide +kernel
theorem dX11_used_18 : decode cX11_used 18 = .ok (.iadd, 1) := by decide +kernel
theorem dX11_used_19 : decode cX11_used 19 = .ok (.iconst 1, 1) := by decide +kernel
theorem dX11_used_20 : decode cX11_used 20 = .ok (.iadd, 1) := by decide +kernel
theorem dX11_used_21 : decode cX11_used 21 = .ok (.bipush 12, 2) := by decide +kernel
theorem dX11_used_23 : decode cX11_used 23 = .ok (.iadd, 1) := by decide +kernel
theorem dX11_used_24 : decode cX11_used 24 = .ok (.iaload, 1) := by decide +kernel
theorem dX11_used_25 : decode cX11_used 25 = .ok (.goto 5, 3) := by decide +kernel
theorem dX11_used_28 : decode cX11_used 28 = .ok (.bipush (-2), 2) := by decide +kernel
theorem dX11_used_30 : decode cX11_used 30 = .ok (.ireturn, 1) := by decide +kernel
theorem dX11_sitting_0 : decode cX11_sitting 0 = .ok (.iload_n 1, 1) := by decide +kernel
theorem dX11_sitting_1 : decode cX11_sitting 1 = .ok (.i2l, 1) := by decide +kernel
theorem dX11_sitting_2 : decode cX11_sitting 2 = .ok (.lconst 0, 1) := by decide +kernel
theorem dX11_sitting_3 : decode cX11_sitting 3 = .ok (.aload_n 0, 1) := by decide +kernel
theorem dX11_sitting_4 : decode cX11_sitting 4 = .ok (.getfield 92, 3) := by decide +kernel
theorem dX11_sitting_7 : decode cX11_sitting 7 = .ok (.iconst 1, 1) := by decide +kernel
theorem dX11_sitting_8 : decode cX11_sitting 8 = .ok (.isub, 1) := by decide +kernel
theorem dX11_sitting_9 : decode cX11_sitting 9 = .ok (.i2l, 1) := by decide +kernel
theorem dX11_sitting_10 : decode cX11_sitting 10 = .ok (.invokestatic 88, 3) := by decide +kernel
theorem dX11_sitting_13 : decode cX11_sitting 13 = .ok (.ifCond .eq 29, 3) := by decide +kernel
theorem dX11_sitting_16 : decode cX11_sitting 16 = .ok (.iload_n 2, 1) := by decide +kernel
theorem dX11_sitting_17 : decode cX11_sitting 17 = .ok (.i2l, 1) := by decide +kernel
theorem dX11_sitting_18 : decode cX11_sitting 18 = .ok (.lconst 0, 1) := by decide +kernel
theorem dX11_sitting_19 : decode cX11_sitting 19 = .ok (.ldc2_w 359, 3) := by decide +kernel
theorem dX11_sitting_22 : decode cX11_sitting 22 = .ok (.invokestatic 88, 3) := by decide +kernel
theorem dX11_sitting_25 : decode cX11_sitting 25 = .ok (.ifCond .eq 17, 3) := by decide +kernel
theorem dX11_sitting_28 : decode cX11_sitting 28 = .ok (.aload_n 0, 1) := by decide +kernel
theorem dX11_sitting_29 : decode cX11_sitting 29 = .ok (.getfield 20, 3) := by decide +kernel
theorem dX11_sitting_32 : decode cX11_sitting 32 = .ok (.bipush 6, 2) := by decide +kernel
theorem dX11_sitting_34 : decode cX11_sitting 34 = .ok (.iload_n 1, 1) := by decide +kernel
theorem dX11_sitting_35 : decode cX11_sitting 35 = .ok (.imul, 1) := by decide +kernel
theorem dX11_sitting_36 : decode cX11_sitting 36 = .ok (.iload_n 2, 1) := by decide +kernel
theorem dX11_sitting_37 : decode cX11_sitting 37 = .ok (.iadd, 1) := by decide +kernel
theorem dX11_sitting_38 : decode cX11_sitting 38 = .ok (.iaload, 1) := by decide +kernel
theorem dX11_sitting_39 : decode cX11_sitting 39 = .ok (.goto 4, 3) := by decide +kernel
theorem dX11_sitting_42 : decode cX11_sitting 42 = .ok (.iconst (-1), 1) := by decide +kernel
theorem dX11_sitting_43 : decode cX11_sitting 43 = .ok (.ireturn, 1) := by decide +kernel
theorem dX11_book_0 : decode cX11_book 0 = .ok (.aload_n 0, 1) := by decide +kernel
theorem dX11_book_1 : decode cX11_book 1 = .ok (.iload_n 1, 1) := by decide +kernel
theorem dX11_book_2 : decode cX11_book 2 = .ok (.invokevirtual 315, 3) := by decide +kernel
theorem dX11_book_5 : decode cX11_book 5 = .ok (.ifCond .eq 15, 3) := by decide +kernel
theorem dX11_book_8 : decode cX11_book 8 = .ok (.iload_n 2, 1) := by decide +kernel
theorem dX11_book_9 : decode cX11_book 9 = .ok (.i2l, 1) := by decide +kernel
theorem dX11_book_10 : decode cX11_book 10 = .ok (.lconst 0, 1) := by decide +kernel
theorem dX11_book_11 : decode cX11_book 11 = .ok (.ldc2_w 251, 3) := by decide +kernel
theorem dX11_book_14 : decode cX11_book 14 = .ok (.invokestatic 88, 3) := by decide +kernel
theorem dX11_book_17 : decode cX11_book 17 = .ok (.ifCond .ne 5, 3) := by decide +kernel
theorem dX11_book_20 : decode cX11_book 20 = .ok (.iconst (-1), 1) := by decide +kernel
theorem dX11_book_21 : decode cX11_book 21 = .ok (.ireturn, 1) := by decide +kernel
theorem dX11_book_22 : decode cX11_book 22 = .ok (.iconst 0, 1) := by decide +kernel
theorem dX11_book_23 : decode cX11_book 23 = .ok (.istore_n 3, 1) := by decide +kernel
theorem dX11_book_24 : decode cX11_book 24 = .ok (.iconst (-1), 1) := by decide +kernel
theorem dX11_book_25 : decode cX11_book 25 = .ok (.istore 4, 2) := by decide +kernel
theorem dX11_book_27 : decode cX11_book 27 = .ok (.iconst (-1), 1) := by decide +kernel
theorem dX11_book_28 : decode cX11_book 28 = .ok (.istore 5, 2) := by decide +kernel
theorem dX11_book_30 : decode cX11_book 30 = .ok (.iconst 0, 1) := by decide +kernel
theorem dX11_book_31 : decode cX11_book 31 = .ok (.istore 6, 2) := by decide +kernel
theorem dX11_book_33 : decode cX11_book 33 = .ok (.iload 6, 2) := by decide +kernel
theorem dX11_book_35 : decode cX11_book 35 = .ok (.aload_n 0, 1) := by decide +kernel
theorem dX11_book_36 : decode cX11_book 36 = .ok (.getfield 92, 3) := by decide +kernel
theorem dX11_book_39 : decode cX11_book 39 = .ok (.if_icmp .ge 48, 3) := by decide +kernel
theorem dX11_book_42 : decode cX11_book 42 = .ok (.aload_n 0, 1) := by decide +kernel
theorem dX11_book_43 : decode cX11_book 43 = .ok (.getfield 20, 3) := by decide +kernel
theorem dX11_book_46 : decode cX11_book 46 = .ok (.bipush 6, 2) := by decide +kernel
theorem dX11_book_48 : decode cX11_book 48 = .ok (.iload 6, 2) := by decide +kernel
theorem dX11_book_50 : decode cX11_book 50 = .ok (.imul, 1) := by decide +kernel
theorem dX11_book_51 : decode cX11_book 51 = .ok (.iaload, 1) := by decide +kernel
theorem dX11_book_52 : decode cX11_book 52 = .ok (.iload_n 1, 1) := by decide +kernel
theorem dX11_book_53 : decode cX11_book 53 = .ok (.if_icmp .eq 6, 3) := by decide +kernel
theorem dX11_book_56 : decode cX11_book 56 = .ok (.goto 25, 3) := by decide +kernel
theorem dX11_book_59 : decode cX11_book 59 = .ok (.iinc 3 1, 3) := by decide +kernel
theorem dX11_book_62 : decode cX11_book 62 = .ok (.iload 4, 2) := by decide +kernel
theorem dX11_book_64 : decode cX11_book 64 = .ok (.iconst (-1), 1) := by decide +kernel
theorem dX11_book_65 : decode cX11_book 65 = .ok (.if_icmp .ne 8, 3) := by decide +kernel
theorem dX11_book_68 : decode cX11_book 68 = .ok (.iload 6, 2) := by decide +kernel
theorem dX11_book_70 : decode cX11_book 70 = .ok (.goto 5, 3) := by decide +kernel
theorem dX11_book_73 : decode cX11_book 73 = .ok (.iload 4, 2) := by decide +kernel
theorem dX11_book_75 : decode cX11_book 75 = .ok (.istore 4, 2) := by decide +kernel
theorem dX11_book_77 : decode cX11_book 77 = .ok (.iload 6, 2) := by decide +kernel
theorem dX11_book_79 : decode cX11_book 79 = .ok (.istore 5, 2) := by decide +kernel
theorem dX11_book_81 : decode cX11_book 81 = .ok (.iinc 6 1, 3) := by decide +kernel
theorem dX11_book_84 : decode cX11_book 84 = .ok (.goto (-51), 3) := by decide +kernel
theorem dX11_book_87 : decode cX11_book 87 = .ok (.iload_n 3, 1) := by decide +kernel
theorem dX11_book_88 : decode cX11_book 88 = .ok (.iconst 2, 1) := by decide +kernel
theorem dX11_book_89 : decode cX11_book 89 = .ok (.if_icmp .ge 5, 3) := by decide +kernel
theorem dX11_book_92 : decode cX11_book 92 = .ok (.iconst (-1), 1) := by decide +kernel
theorem dX11_book_93 : decode cX11_book 93 = .ok (.ireturn, 1) := by decide +kernel
theorem dX11_book_94 : decode cX11_book 94 = .ok (.iload_n 2, 1) := by decide +kernel
theorem dX11_book_95 : decode cX11_book 95 = .ok (.ifCond .ne 7, 3) := by decide +kernel
theorem dX11_book_98 : decode cX11_book 98 = .ok (.iload_n 3, 1) := by decide +kernel
theorem dX11_book_99 : decode cX11_book 99 = .ok (.goto 68, 3) := by decide +kernel
theorem dX11_book_102 : decode cX11_book 102 = .ok (.iload_n 2, 1) := by decide +kernel
theorem dX11_book_103 : decode cX11_book 103 = .ok (.iconst 1, 1) := by decide +kernel
theorem dX11_book_104 : decode cX11_book 104 = .ok (.if_icmp .ne 18, 3) := by decide +kernel
theorem dX11_book_107 : decode cX11_book 107 = .ok (.aload_n 0, 1) := by decide +kernel
theorem dX11_book_108 : decode cX11_book 108 = .ok (.getfield 20, 3) := by decide +kernel
theorem dX11_book_111 : decode cX11_book 111 = .ok (.bipush 6, 2) := by decide +kernel
theorem dX11_book_113 : decode cX11_book 113 = .ok (.iload 4, 2) := by decide +kernel
theorem dX11_book_115 : decode cX11_book 115 = .ok (.imul, 1) := by decide +kernel
theorem dX11_book_116 : decode cX11_book 116 = .ok (.iconst 1, 1) := by decide +kernel
theorem dX11_book_117 : decode cX11_book 117 = .ok (.iadd, 1) := by decide +kernel
theorem dX11_book_118 : decode cX11_book 118 = .ok (.iaload, 1) := by decide +kernel
theorem dX11_book_119 : decode cX11_book 119 = .ok (.goto 48, 3) := by decide +kernel
theorem dX11_book_122 : decode cX11_book 122 = .ok (.iload_n 2, 1) := by decide +kernel
theorem dX11_book_123 : decode cX11_book 123 = .ok (.iconst 2, 1) := by decide +kernel
theorem dX11_book_124 : decode cX11_book 124 = .ok (.if_icmp .ne 18, 3) := by decide +kernel
theorem dX11_book_127 : decode cX11_book 127 = .ok (.aload_n 0, 1) := by decide +kernel
theorem dX11_book_128 : decode cX11_book 128 = .ok (.getfield 20, 3) := by decide +kernel
theorem dX11_book_131 : decode cX11_book 131 = .ok (.bipush 6, 2) := by decide +kernel
theorem dX11_book_133 : decode cX11_book 133 = .ok (.iload 5, 2) := by decide +kernel
theorem dX11_book_135 : decode cX11_book 135 = .ok (.imul, 1) := by decide +kernel
theorem dX11_book_136 : decode cX11_book 136 = .ok (.iconst 1, 1) := by decide +kernel
theorem dX11_book_137 : decode cX11_book 137 = .ok (.iadd, 1) := by decide +kernel
theorem dX11_book_138 : decode cX11_book 138 = .ok (.iaload, 1) := by decide +kernel
theorem dX11_book_139 : decode cX11_book 139 = .ok (.goto 28, 3) := by decide +kernel
theorem dX11_book_142 : decode cX11_book 142 = .ok (.aload_n 0, 1) := by decide +kernel
theorem dX11_book_143 : decode cX11_book 143 = .ok (.getfield 20, 3) := by decide +kernel
theorem dX11_book_146 : decode cX11_book 146 = .ok (.bipush 6, 2) := by decide +kernel
theorem dX11_book_148 : decode cX11_book 148 = .ok (.iload 5, 2) := by decide +kernel
theorem dX11_book_150 : decode cX11_book 150 = .ok (.imul, 1) := by decide +kernel
theorem dX11_book_151 : decode cX11_book 151 = .ok (.iconst 2, 1) := by decide +kernel
theorem dX11_book_152 : decode cX11_book 152 = .ok (.iadd, 1) := by decide +kernel
theorem dX11_book_153 : decode cX11_book 153 = .ok (.iaload, 1) := by decide +kernel
theorem dX11_book_154 : decode cX11_book 154 = .ok (.aload_n 0, 1) := by decide +kernel
theorem dX11_book_155 : decode cX11_book 155 = .ok (.getfield 20, 3) := by decide +kernel
theorem dX11_book_158 : decode cX11_book 158 = .ok (.bipush 6, 2) := by decide +kernel
theorem dX11_book_160 : decode cX11_book 160 = .ok (.iload 4, 2) := by decide +kernel
theorem dX11_book_162 : decode cX11_book 162 = .ok (.imul, 1) := by decide +kernel
theorem dX11_book_163 : decode cX11_book 163 = .ok (.iconst 2, 1) := by decide +kernel
theorem dX11_book_164 : decode cX11_book 164 = .ok (.iadd, 1) := by decide +kernel
theorem dX11_book_165 : decode cX11_book 165 = .ok (.iaload, 1) := by decide +kernel
theorem dX11_book_166 : decode cX11_book 166 = .ok (.isub, 1) := by decide +kernel
theorem dX11_book_167 : decode cX11_book 167 = .ok (.ireturn, 1) := by decide +kernel
theorem dX11_when_0 : decode cX11_when 0 = .ok (.aload_n 0, 1) := by decide +kernel
theorem dX11_when_1 : decode cX11_when 1 = .ok (.iload_n 1, 1) := by decide +kernel
theorem dX11_when_2 : decode cX11_when 2 = .ok (.invokevirtual 315, 3) := by decide +kernel
theorem dX11_when_5 : decode cX11_when 5 = .ok (.ifCond .ne 6, 3) := by decide +kernel
theorem dX11_when_8 : decode cX11_when 8 = .ok (.bipush (-2), 2) := by decide +kernel
theorem dX11_when_10 : decode cX11_when 10 = .ok (.ireturn, 1) := by decide +kernel
theorem dX11_when_11 : decode cX11_when 11 = .ok (.aload_n 0, 1) := by decide +kernel
theorem dX11_when_12 : decode cX11_when 12 = .ok (.invokevirtual 303, 3) := by decide +kernel
theorem dX11_when_15 : decode cX11_when 15 = .ok (.iconst (-1), 1) := by decide +kernel
theorem dX11_when_16 : decode cX11_when 16 = .ok (.istore_n 2, 1) := by decide +kernel
theorem dX11_when_17 : decode cX11_when 17 = .ok (.bipush 41, 2) := by decide +kernel
theorem dX11_when_19 : decode cX11_when 19 = .ok (.istore_n 3, 1) := by decide +kernel
theorem dX11_when_20 : decode cX11_when 20 = .ok (.iconst 0, 1) := by decide +kernel
theorem dX11_when_21 : decode cX11_when 21 = .ok (.istore 4, 2) := by decide +kernel
theorem dX11_when_23 : decode cX11_when 23 = .ok (.iload 4, 2) := by decide +kernel
theorem dX11_when_25 : decode cX11_when 25 = .ok (.bipush 24, 2) := by decide +kernel
theorem dX11_when_27 : decode cX11_when 27 = .ok (.if_icmp .ge 35, 3) := by decide +kernel
theorem dX11_when_30 : decode cX11_when 30 = .ok (.aload_n 0, 1) := by decide +kernel
theorem dX11_when_31 : decode cX11_when 31 = .ok (.iload_n 1, 1) := by decide +kernel
theorem dX11_when_32 : decode cX11_when 32 = .ok (.invokevirtual 333, 3) := by decide +kernel
theorem dX11_when_35 : decode cX11_when 35 = .ok (.invokestatic 340, 3) := by decide +kernel
theorem dX11_when_38 : decode cX11_when 38 = .ok (.istore 5, 2) := by decide +kernel
theorem dX11_when_40 : decode cX11_when 40 = .ok (.iload 5, 2) := by decide +kernel
theorem dX11_when_42 : decode cX11_when 42 = .ok (.iload_n 3, 1) := by decide +kernel
theorem dX11_when_43 : decode cX11_when 43 = .ok (.if_icmp .ge 9, 3) := by decide +kernel
theorem dX11_when_46 : decode cX11_when 46 = .ok (.iload 5, 2) := by decide +kernel
theorem dX11_when_48 : decode cX11_when 48 = .ok (.istore_n 3, 1) := by decide +kernel
theorem dX11_when_49 : decode cX11_when 49 = .ok (.iload 4, 2) := by decide +kernel
theorem dX11_when_51 : decode cX11_when 51 = .ok (.istore_n 2, 1) := by decide +kernel
theorem dX11_when_52 : decode cX11_when 52 = .ok (.aload_n 0, 1) := by decide +kernel
theorem dX11_when_53 : decode cX11_when 53 = .ok (.invokevirtual 288, 3) := by decide +kernel
theorem dX11_when_56 : decode cX11_when 56 = .ok (.iinc 4 1, 3) := by decide +kernel
theorem dX11_when_59 : decode cX11_when 59 = .ok (.goto (-36), 3) := by decide +kernel
theorem dX11_when_62 : decode cX11_when 62 = .ok (.aload_n 0, 1) := by decide +kernel
theorem dX11_when_63 : decode cX11_when 63 = .ok (.invokevirtual 309, 3) := by decide +kernel
theorem dX11_when_66 : decode cX11_when 66 = .ok (.iload_n 2, 1) := by decide +kernel
theorem dX11_when_67 : decode cX11_when 67 = .ok (.ireturn, 1) := by decide +kernel
theorem dX11_must_0 : decode cX11_must 0 = .ok (.aload_n 0, 1) := by decide +kernel
theorem dX11_must_1 : decode cX11_must 1 = .ok (.iload_n 1, 1) := by decide +kernel
theorem dX11_must_2 : decode cX11_must 2 = .ok (.invokevirtual 315, 3) := by decide +kernel
theorem dX11_must_5 : decode cX11_must 5 = .ok (.ifCond .ne 6, 3) := by decide +kernel
theorem dX11_must_8 : decode cX11_must 8 = .ok (.bipush (-2), 2) := by decide +kernel
theorem dX11_must_10 : decode cX11_must 10 = .ok (.ireturn, 1) := by decide +kernel
theorem dX11_must_11 : decode cX11_must 11 = .ok (.iconst 0, 1) := by decide +kernel
theorem dX11_must_12 : decode cX11_must 12 = .ok (.istore_n 2, 1) := by decide +kernel
theorem dX11_must_13 : decode cX11_must 13 = .ok (.iconst 1, 1) := by decide +kernel
theorem dX11_must_14 : decode cX11_must 14 = .ok (.istore_n 3, 1) := by decide +kernel
theorem dX11_must_15 : decode cX11_must 15 = .ok (.iload_n 3, 1) := by decide +kernel
theorem dX11_must_16 : decode cX11_must 16 = .ok (.iconst 4, 1) := by decide +kernel
theorem dX11_must_17 : decode cX11_must 17 = .ok (.if_icmp .ge 32, 3) := by decide +kernel
theorem dX11_must_20 : decode cX11_must 20 = .ok (.aload_n 0, 1) := by decide +kernel
theorem dX11_must_21 : decode cX11_must 21 = .ok (.iload_n 1, 1) := by decide +kernel
theorem dX11_must_22 : decode cX11_must 22 = .ok (.iload_n 3, 1) := by decide +kernel
theorem dX11_must_23 : decode cX11_must 23 = .ok (.invokevirtual 373, 3) := by decide +kernel
theorem dX11_must_26 : decode cX11_must 26 = .ok (.invokestatic 340, 3) := by decide +kernel
theorem dX11_must_29 : decode cX11_must 29 = .ok (.aload_n 0, 1) := by decide +kernel
theorem dX11_must_30 : decode cX11_must 30 = .ok (.iload_n 1, 1) := by decide +kernel
theorem dX11_must_31 : decode cX11_must 31 = .ok (.iload_n 2, 1) := by decide +kernel
theorem dX11_must_32 : decode cX11_must 32 = .ok (.invokevirtual 373, 3) := by decide +kernel
theorem dX11_must_35 : decode cX11_must 35 = .ok (.invokestatic 340, 3) := by decide +kernel
theorem dX11_must_38 : decode cX11_must 38 = .ok (.if_icmp .le 5, 3) := by decide +kernel
theorem dX11_must_41 : decode cX11_must 41 = .ok (.iload_n 3, 1) := by decide +kernel
theorem dX11_must_42 : decode cX11_must 42 = .ok (.istore_n 2, 1) := by decide +kernel
theorem dX11_must_43 : decode cX11_must 43 = .ok (.iinc 3 1, 3) := by decide +kernel
theorem dX11_must_46 : decode cX11_must 46 = .ok (.goto (-31), 3) := by decide +kernel
theorem dX11_must_49 : decode cX11_must 49 = .ok (.iload_n 2, 1) := by decide +kernel
theorem dX11_must_50 : decode cX11_must 50 = .ok (.ireturn, 1) := by decide +kernel
theorem dX11_verse_0 : decode cX11_verse 0 = .ok (.aload_n 0, 1) := by decide +kernel
theorem dX11_verse_1 : decode cX11_verse 1 = .ok (.iload_n 1, 1) := by decide +kernel
theorem dX11_verse_2 : decode cX11_verse 2 = .ok (.invokevirtual 315, 3) := by decide +kernel
theorem dX11_verse_5 : decode cX11_verse 5 = .ok (.ifCond .eq 11, 3) := by decide +kernel
theorem dX11_verse_8 : decode cX11_verse 8 = .ok (.aload_n 0, 1) := by decide +kernel
theorem dX11_verse_9 : decode cX11_verse 9 = .ok (.iload_n 2, 1) := by decide +kernel
theorem dX11_verse_10 : decode cX11_verse 10 = .ok (.invokevirtual 315, 3) := by decide +kernel
theorem dX11_verse_13 : decode cX11_verse 13 = .ok (.ifCond .ne 7, 3) := by decide +kernel
theorem dX11_verse_16 : decode cX11_verse 16 = .ok (.ldc_w 339, 3) := by decide +kernel
theorem dX11_verse_19 : decode cX11_verse 19 = .ok (.ireturn, 1) := by decide +kernel
theorem dX11_verse_20 : decode cX11_verse 20 = .ok (.aload_n 0, 1) := by decide +kernel
theorem dX11_verse_21 : decode cX11_verse 21 = .ok (.iload_n 1, 1) := by decide +kernel
theorem dX11_verse_22 : decode cX11_verse 22 = .ok (.invokevirtual 336, 3) := by decide +kernel
theorem dX11_verse_25 : decode cX11_verse 25 = .ok (.istore_n 3, 1) := by decide +kernel
theorem dX11_verse_26 : decode cX11_verse 26 = .ok (.aload_n 0, 1) := by decide +kernel
theorem dX11_verse_27 : decode cX11_verse 27 = .ok (.iload_n 2, 1) := by decide +kernel
theorem dX11_verse_28 : decode cX11_verse 28 = .ok (.invokevirtual 336, 3) := by decide +kernel
theorem dX11_verse_31 : decode cX11_verse 31 = .ok (.istore 4, 2) := by decide +kernel
theorem dX11_verse_33 : decode cX11_verse 33 = .ok (.iload_n 3, 1) := by decide +kernel
theorem dX11_verse_34 : decode cX11_verse 34 = .ok (.iconst (-1), 1) := by decide +kernel
theorem dX11_verse_35 : decode cX11_verse 35 = .ok (.if_icmp .eq 9, 3) := by decide +kernel
theorem dX11_verse_38 : decode cX11_verse 38 = .ok (.iload 4, 2) := by decide +kernel
theorem dX11_verse_40 : decode cX11_verse 40 = .ok (.iconst (-1), 1) := by decide +kernel
theorem dX11_verse_41 : decode cX11_verse 41 = .ok (.if_icmp .ne 9, 3) := by decide +kernel
theorem dX11_verse_44 : decode cX11_verse 44 = .ok (.ldc_w 339, 3) := by decide +kernel
theorem dX11_verse_47 : decode cX11_verse 47 = .ok (.goto 11, 3) := by decide +kernel
theorem dX11_verse_50 : decode cX11_verse 50 = .ok (.sipush 1000, 3) := by decide +kernel
theorem dX11_verse_53 : decode cX11_verse 53 = .ok (.iload_n 3, 1) := by decide +kernel
theorem dX11_verse_54 : decode cX11_verse 54 = .ok (.imul, 1) := by decide +kernel
theorem dX11_verse_55 : decode cX11_verse 55 = .ok (.iload 4, 2) := by decide +kernel
theorem dX11_verse_57 : decode cX11_verse 57 = .ok (.idiv, 1) := by decide +kernel
theorem dX11_verse_58 : decode cX11_verse 58 = .ok (.ireturn, 1) := by decide +kernel
theorem dX11_placeIn_0 : decode cX11_placeIn 0 = .ok (.iconst 0, 1) := by decide +kernel
theorem dX11_placeIn_1 : decode cX11_placeIn 1 = .ok (.istore_n 3, 1) := by decide +kernel
theorem dX11_placeIn_2 : decode cX11_placeIn 2 = .ok (.iload_n 3, 1) := by decide +kernel
theorem dX11_placeIn_3 : decode cX11_placeIn 3 = .ok (.aload_n 0, 1) := by decide +kernel
theorem dX11_placeIn_4 : decode cX11_placeIn 4 = .ok (.iload_n 1, 1) := by decide +kernel
theorem dX11_placeIn_5 : decode cX11_placeIn 5 = .ok (.invokevirtual 278, 3) := by decide +kernel
theorem dX11_placeIn_8 : decode cX11_placeIn 8 = .ok (.if_icmp .ge 21, 3) := by decide +kernel
theorem dX11_placeIn_11 : decode cX11_placeIn 11 = .ok (.aload_n 0, 1) := by decide +kernel
theorem dX11_placeIn_12 : decode cX11_placeIn 12 = .ok (.iload_n 1, 1) := by decide +kernel
theorem dX11_placeIn_13 : decode cX11_placeIn 13 = .ok (.iload_n 3, 1) := by decide +kernel
theorem dX11_placeIn_14 : decode cX11_placeIn 14 = .ok (.invokevirtual 281, 3) := by decide +kernel
theorem dX11_placeIn_17 : decode cX11_placeIn 17 = .ok (.iload_n 2, 1) := by decide +kernel
theorem dX11_placeIn_18 : decode cX11_placeIn 18 = .ok (.if_icmp .ne 5, 3) := by decide +kernel
theorem dX11_placeIn_21 : decode cX11_placeIn 21 = .ok (.iload_n 3, 1) := by decide +kernel
theorem dX11_placeIn_22 : decode cX11_placeIn 22 = .ok (.ireturn, 1) := by decide +kernel
theorem dX11_placeIn_23 : decode cX11_placeIn 23 = .ok (.iinc 3 1, 3) := by decide +kernel
theorem dX11_placeIn_26 : decode cX11_placeIn 26 = .ok (.goto (-24), 3) := by decide +kernel
theorem dX11_placeIn_29 : decode cX11_placeIn 29 = .ok (.iconst (-1), 1) := by decide +kernel
theorem dX11_placeIn_30 : decode cX11_placeIn 30 = .ok (.ireturn, 1) := by decide +kernel
theorem dX11_near_0 : decode cX11_near 0 = .ok (.aload_n 0, 1) := by decide +kernel
theorem dX11_near_1 : decode cX11_near 1 = .ok (.iload_n 1, 1) := by decide +kernel
theorem dX11_near_2 : decode cX11_near 2 = .ok (.invokevirtual 315, 3) := by decide +kernel
theorem dX11_near_5 : decode cX11_near 5 = .ok (.ifCond .eq 23, 3) := by decide +kernel
theorem dX11_near_8 : decode cX11_near 8 = .ok (.aload_n 0, 1) := by decide +kernel
theorem dX11_near_9 : decode cX11_near 9 = .ok (.iload_n 2, 1) := by decide +kernel
theorem dX11_near_10 : decode cX11_near 10 = .ok (.invokevirtual 315, 3) := by decide +kernel
theorem dX11_near_13 : decode cX11_near 13 = .ok (.ifCond .eq 15, 3) := by decide +kernel
theorem dX11_near_16 : decode cX11_near 16 = .ok (.iload_n 3, 1) := by decide +kernel
theorem dX11_near_17 : decode cX11_near 17 = .ok (.i2l, 1) := by decide +kernel
theorem dX11_near_18 : decode cX11_near 18 = .ok (.lconst 1, 1) := by decide +kernel
theorem dX11_near_19 : decode cX11_near 19 = .ok (.ldc2_w 328, 3) := by decide +kernel
theorem dX11_near_22 : decode cX11_near 22 = .ok (.invokestatic 88, 3) := by decide +kernel
theorem dX11_near_25 : decode cX11_near 25 = .ok (.ifCond .ne 6, 3) := by decide +kernel
