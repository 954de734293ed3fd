theorem dX0_init_0 : decode cX0_init 0 = .ok (.aload_n 0, 1) := by decide +kernel
theorem dX0_init_1 : decode cX0_init 1 = .ok (.invokespecial 3, 3) := by decide +kernel
theorem dX0_init_4 : decode cX0_init 4 = .ok (.aload_n 0, 1) := by decide +kernel
theorem dX0_init_5 : decode cX0_init 5 = .ok (.sipush 360, 3) := by decide +kernel
theorem dX0_init_8 : decode cX0_init 8 = .ok (.newarray .int, 2) := by decide +kernel
theorem dX0_init_10 : decode cX0_init 10 = .ok (.putfield 11, 3) := by decide +kernel
theorem dX0_init_13 : decode cX0_init 13 = .ok (.return_, 1) := by decide +kernel
theorem dX0_clear_0 : decode cX0_clear 0 = .ok (.aload_n 0, 1) := by decide +kernel
theorem dX0_clear_1 : decode cX0_clear 1 = .ok (.iconst 0, 1) := by decide +kernel
theorem dX0_clear_2 : decode cX0_clear 2 = .ok (.putfield 15, 3) := by decide +kernel
theorem dX0_clear_5 : decode cX0_clear 5 = .ok (.aload_n 0, 1) := by decide +kernel
theorem dX0_clear_6 : decode cX0_clear 6 = .ok (.iconst 0, 1) := by decide +kernel
theorem dX0_clear_7 : decode cX0_clear 7 = .ok (.putfield 19, 3) := by decide +kernel
theorem dX0_clear_10 : decode cX0_clear 10 = .ok (.return_, 1) := by decide +kernel
theorem dX0_copyFrom_0 : decode cX0_copyFrom 0 = .ok (.aload_n 0, 1) := by decide +kernel
theorem dX0_copyFrom_1 : decode cX0_copyFrom 1 = .ok (.aload_n 1, 1) := by decide +kernel
theorem dX0_copyFrom_2 : decode cX0_copyFrom 2 = .ok (.getfield 15, 3) := by decide +kernel
theorem dX0_copyFrom_5 : decode cX0_copyFrom 5 = .ok (.putfield 15, 3) := by decide +kernel
theorem dX0_copyFrom_8 : decode cX0_copyFrom 8 = .ok (.aload_n 0, 1) := by decide +kernel
theorem dX0_copyFrom_9 : decode cX0_copyFrom 9 = .ok (.aload_n 1, 1) := by decide +kernel
theorem dX0_copyFrom_10 : decode cX0_copyFrom 10 = .ok (.getfield 19, 3) := by decide +kernel
theorem dX0_copyFrom_13 : decode cX0_copyFrom 13 = .ok (.putfield 19, 3) := by decide +kernel
theorem dX0_copyFrom_16 : decode cX0_copyFrom 16 = .ok (.aload_n 1, 1) := by decide +kernel
theorem dX0_copyFrom_17 : decode cX0_copyFrom 17 = .ok (.getfield 11, 3) := by decide +kernel
theorem dX0_copyFrom_20 : decode cX0_copyFrom 20 = .ok (.iconst 0, 1) := by decide +kernel
theorem dX0_copyFrom_21 : decode cX0_copyFrom 21 = .ok (.aload_n 0, 1) := by decide +kernel
theorem dX0_copyFrom_22 : decode cX0_copyFrom 22 = .ok (.getfield 11, 3) := by decide +kernel
theorem dX0_copyFrom_25 : decode cX0_copyFrom 25 = .ok (.iconst 0, 1) := by decide +kernel
theorem dX0_copyFrom_26 : decode cX0_copyFrom 26 = .ok (.sipush 360, 3) := by decide +kernel
theorem dX0_copyFrom_29 : decode cX0_copyFrom 29 = .ok (.invokestatic 23, 3) := by decide +kernel
theorem dX0_copyFrom_32 : decode cX0_copyFrom 32 = .ok (.return_, 1) := by decide +kernel
theorem dX0_entry_0 : decode cX0_entry 0 = .ok (.aload_n 0, 1) := by decide +kernel
theorem dX0_entry_1 : decode cX0_entry 1 = .ok (.getfield 11, 3) := by decide +kernel
theorem dX0_entry_4 : decode cX0_entry 4 = .ok (.iload_n 1, 1) := by decide +kernel
theorem dX0_entry_5 : decode cX0_entry 5 = .ok (.bipush 6, 2) := by decide +kernel
theorem dX0_entry_7 : decode cX0_entry 7 = .ok (.imul, 1) := by decide +kernel
theorem dX0_entry_8 : decode cX0_entry 8 = .ok (.iload_n 2, 1) := by decide +kernel
theorem dX0_entry_9 : decode cX0_entry 9 = .ok (.iadd, 1) := by decide +kernel
theorem dX0_entry_10 : decode cX0_entry 10 = .ok (.iaload, 1) := by decide +kernel
theorem dX0_entry_11 : decode cX0_entry 11 = .ok (.ireturn, 1) := by decide +kernel
theorem dX0_add_0 : decode cX0_add 0 = .ok (.aload_n 0, 1) := by decide +kernel
theorem dX0_add_1 : decode cX0_add 1 = .ok (.getfield 15, 3) := by decide +kernel
theorem dX0_add_4 : decode cX0_add 4 = .ok (.bipush 60, 2) := by decide +kernel
theorem dX0_add_6 : decode cX0_add 6 = .ok (.if_icmp .lt 31, 3) := by decide +kernel
theorem dX0_add_9 : decode cX0_add 9 = .ok (.aload_n 0, 1) := by decide +kernel
theorem dX0_add_10 : decode cX0_add 10 = .ok (.getfield 11, 3) := by decide +kernel
theorem dX0_add_13 : decode cX0_add 13 = .ok (.bipush 6, 2) := by decide +kernel
theorem dX0_add_15 : decode cX0_add 15 = .ok (.aload_n 0, 1) := by decide +kernel
theorem dX0_add_16 : decode cX0_add 16 = .ok (.getfield 11, 3) := by decide +kernel
theorem dX0_add_19 : decode cX0_add 19 = .ok (.iconst 0, 1) := by decide +kernel
theorem dX0_add_20 : decode cX0_add 20 = .ok (.sipush 354, 3) := by decide +kernel
theorem dX0_add_23 : decode cX0_add 23 = .ok (.invokestatic 23, 3) := by decide +kernel
theorem dX0_add_26 : decode cX0_add 26 = .ok (.aload_n 0, 1) := by decide +kernel
theorem dX0_add_27 : decode cX0_add 27 = .ok (.bipush 59, 2) := by decide +kernel
theorem dX0_add_29 : decode cX0_add 29 = .ok (.putfield 15, 3) := by decide +kernel
theorem dX0_add_32 : decode cX0_add 32 = .ok (.aload_n 0, 1) := by decide +kernel
theorem dX0_add_33 : decode cX0_add 33 = .ok (.iconst 1, 1) := by decide +kernel
theorem dX0_add_34 : decode cX0_add 34 = .ok (.putfield 19, 3) := by decide +kernel
theorem dX0_add_37 : decode cX0_add 37 = .ok (.aload_n 0, 1) := by decide +kernel
theorem dX0_add_38 : decode cX0_add 38 = .ok (.getfield 15, 3) := by decide +kernel
theorem dX0_add_41 : decode cX0_add 41 = .ok (.bipush 6, 2) := by decide +kernel
theorem dX0_add_43 : decode cX0_add 43 = .ok (.imul, 1) := by decide +kernel
theorem dX0_add_44 : decode cX0_add 44 = .ok (.istore 7, 2) := by decide +kernel
theorem dX0_add_46 : decode cX0_add 46 = .ok (.aload_n 0, 1) := by decide +kernel
theorem dX0_add_47 : decode cX0_add 47 = .ok (.getfield 11, 3) := by decide +kernel
theorem dX0_add_50 : decode cX0_add 50 = .ok (.iload 7, 2) := by decide +kernel
theorem dX0_add_52 : decode cX0_add 52 = .ok (.iconst 0, 1) := by decide +kernel
theorem dX0_add_53 : decode cX0_add 53 = .ok (.iadd, 1) := by decide +kernel
theorem dX0_add_54 : decode cX0_add 54 = .ok (.iload_n 1, 1) := by decide +kernel
theorem dX0_add_55 : decode cX0_add 55 = .ok (.iastore, 1) := by decide +kernel
theorem dX0_add_56 : decode cX0_add 56 = .ok (.aload_n 0, 1) := by decide +kernel
theorem dX0_add_57 : decode cX0_add 57 = .ok (.getfield 11, 3) := by decide +kernel
theorem dX0_add_60 : decode cX0_add 60 = .ok (.iload 7, 2) := by decide +kernel
theorem dX0_add_62 : decode cX0_add 62 = .ok (.iconst 1, 1) := by decide +kernel
theorem dX0_add_63 : decode cX0_add 63 = .ok (.iadd, 1) := by decide +kernel
theorem dX0_add_64 : decode cX0_add 64 = .ok (.iload_n 2, 1) := by decide +kernel
theorem dX0_add_65 : decode cX0_add 65 = .ok (.iastore, 1) := by decide +kernel
theorem dX0_add_66 : decode cX0_add 66 = .ok (.aload_n 0, 1) := by decide +kernel
theorem dX0_add_67 : decode cX0_add 67 = .ok (.getfield 11, 3) := by decide +kernel
theorem dX0_add_70 : decode cX0_add 70 = .ok (.iload 7, 2) := by decide +kernel
theorem dX0_add_72 : decode cX0_add 72 = .ok (.iconst 2, 1) := by decide +kernel
theorem dX0_add_73 : decode cX0_add 73 = .ok (.iadd, 1) := by decide +kernel
theorem dX0_add_74 : decode cX0_add 74 = .ok (.iload_n 3, 1) := by decide +kernel
theorem dX0_add_75 : decode cX0_add 75 = .ok (.iastore, 1) := by decide +kernel
theorem dX0_add_76 : decode cX0_add 76 = .ok (.aload_n 0, 1) := by decide +kernel
theorem dX0_add_77 : decode cX0_add 77 = .ok (.getfield 11, 3) := by decide +kernel
theorem dX0_add_80 : decode cX0_add 80 = .ok (.iload 7, 2) := by decide +kernel
theorem dX0_add_82 : decode cX0_add 82 = .ok (.iconst 4, 1) := by decide +kernel
theorem dX0_add_83 : decode cX0_add 83 = .ok (.iadd, 1) := by decide +kernel
theorem dX0_add_84 : decode cX0_add 84 = .ok (.iconst 1, 1) := by decide +kernel
theorem dX0_add_85 : decode cX0_add 85 = .ok (.isub, 1) := by decide +kernel
theorem dX0_add_86 : decode cX0_add 86 = .ok (.iload 4, 2) := by decide +kernel
theorem dX0_add_88 : decode cX0_add 88 = .ok (.iastore, 1) := by decide +kernel
theorem dX0_add_89 : decode cX0_add 89 = .ok (.aload_n 0, 1) := by decide +kernel
theorem dX0_add_90 : decode cX0_add 90 = .ok (.getfield 11, 3) := by decide +kernel
theorem dX0_add_93 : decode cX0_add 93 = .ok (.iload 7, 2) := by decide +kernel
theorem dX0_add_95 : decode cX0_add 95 = .ok (.iconst 4, 1) := by decide +kernel
theorem dX0_add_96 : decode cX0_add 96 = .ok (.iadd, 1) := by decide +kernel
theorem dX0_add_97 : decode cX0_add 97 = .ok (.iload 5, 2) := by decide +kernel
theorem dX0_add_99 : decode cX0_add 99 = .ok (.iastore, 1) := by decide +kernel
theorem dX0_add_100 : decode cX0_add 100 = .ok (.aload_n 0, 1) := by decide +kernel
theorem dX0_add_101 : decode cX0_add 101 = .ok (.getfield 11, 3) := by decide +kernel
theorem dX0_add_104 : decode cX0_add 104 = .ok (.iload 7, 2) := by decide +kernel
theorem dX0_add_106 : decode cX0_add 106 = .ok (.iconst 5, 1) := by decide +kernel
theorem dX0_add_107 : decode cX0_add 107 = .ok (.iadd, 1) := by decide +kernel
theorem dX0_add_108 : decode cX0_add 108 = .ok (.iload 6, 2) := by decide +kernel
theorem dX0_add_110 : decode cX0_add 110 = .ok (.iastore, 1) := by decide +kernel
theorem dX0_add_111 : decode cX0_add 111 = .ok (.aload_n 0, 1) := by decide +kernel
theorem dX0_add_112 : decode cX0_add 112 = .ok (.dup, 1) := by decide +kernel
theorem dX0_add_113 : decode cX0_add 113 = .ok (.getfield 15, 3) := by decide +kernel
theorem dX0_add_116 : decode cX0_add 116 = .ok (.iconst 1, 1) := by decide +kernel
theorem dX0_add_117 : decode cX0_add 117 = .ok (.iadd, 1) := by decide +kernel
theorem dX0_add_118 : decode cX0_add 118 = .ok (.putfield 15, 3) := by decide +kernel
theorem dX0_add_121 : decode cX0_add 121 = .ok (.return_, 1) := by decide +kernel
theorem dX1_init_0 : decode cX1_init 0 = .ok (.aload_n 0, 1) := by decide +kernel
theorem dX1_init_1 : decode cX1_init 1 = .ok (.invokespecial 3, 3) := by decide +kernel
theorem dX1_init_4 : decode cX1_init 4 = .ok (.aload_n 0, 1) := by decide +kernel
theorem dX1_init_5 : decode cX1_init 5 = .ok (.iconst 4, 1) := by decide +kernel
theorem dX1_init_6 : decode cX1_init 6 = .ok (.anewarray 9, 3) := by decide +kernel
theorem dX1_init_9 : decode cX1_init 9 = .ok (.putfield 11, 3) := by decide +kernel
theorem dX1_init_12 : decode cX1_init 12 = .ok (.aload_n 0, 1) := by decide +kernel
theorem dX1_init_13 : decode cX1_init 13 = .ok (.new 9, 3) := by decide +kernel
theorem dX1_init_16 : decode cX1_init 16 = .ok (.dup, 1) := by decide +kernel
theorem dX1_init_17 : decode cX1_init 17 = .ok (.aload_n 1, 1) := by decide +kernel
theorem dX1_init_18 : decode cX1_init 18 = .ok (.getfield 17, 3) := by decide +kernel
theorem dX1_init_21 : decode cX1_init 21 = .ok (.aload_n 1, 1) := by decide +kernel
theorem dX1_init_22 : decode cX1_init 22 = .ok (.getfield 21, 3) := by decide +kernel
theorem dX1_init_25 : decode cX1_init 25 = .ok (.invokespecial 25, 3) := by decide +kernel
theorem dX1_init_28 : decode cX1_init 28 = .ok (.putfield 28, 3) := by decide +kernel
theorem dX1_init_31 : decode cX1_init 31 = .ok (.aload_n 0, 1) := by decide +kernel
theorem dX1_init_32 : decode cX1_init 32 = .ok (.new 9, 3) := by decide +kernel
theorem dX1_init_35 : decode cX1_init 35 = .ok (.dup, 1) := by decide +kernel
theorem dX1_init_36 : decode cX1_init 36 = .ok (.aload_n 1, 1) := by decide +kernel
theorem dX1_init_37 : decode cX1_init 37 = .ok (.getfield 17, 3) := by decide +kernel
theorem dX1_init_40 : decode cX1_init 40 = .ok (.aload_n 1, 1) := by decide +kernel
theorem dX1_init_41 : decode cX1_init 41 = .ok (.getfield 21, 3) := by decide +kernel
theorem dX1_init_44 : decode cX1_init 44 = .ok (.invokespecial 25, 3) := by decide +kernel
theorem dX1_init_47 : decode cX1_init 47 = .ok (.putfield 32, 3) := by decide +kernel
theorem dX1_init_50 : decode cX1_init 50 = .ok (.return_, 1) := by decide +kernel
theorem dX1_walkerFrom_0 : decode cX1_walkerFrom 0 = .ok (.aload_n 0, 1) := by decide +kernel
theorem dX1_walkerFrom_1 : decode cX1_walkerFrom 1 = .ok (.getfield 32, 3) := by decide +kernel
theorem dX1_walkerFrom_4 : decode cX1_walkerFrom 4 = .ok (.aload_n 1, 1) := by decide +kernel
theorem dX1_walkerFrom_5 : decode cX1_walkerFrom 5 = .ok (.invokevirtual 35, 3) := by decide +kernel
theorem dX1_walkerFrom_8 : decode cX1_walkerFrom 8 = .ok (.aload_n 0, 1) := by decide +kernel
theorem dX1_walkerFrom_9 : decode cX1_walkerFrom 9 = .ok (.getfield 32, 3) := by decide +kernel
theorem dX1_walkerFrom_12 : decode cX1_walkerFrom 12 = .ok (.areturn, 1) := by decide +kernel
theorem dX1_needsOf_0 : decode cX1_needsOf 0 = .ok (.aload_n 0, 1) := by decide +kernel
theorem dX1_needsOf_1 : decode cX1_needsOf 1 = .ok (.getfield 28, 3) := by decide +kernel
theorem dX1_needsOf_4 : decode cX1_needsOf 4 = .ok (.aload_n 1, 1) := by decide +kernel
theorem dX1_needsOf_5 : decode cX1_needsOf 5 = .ok (.invokevirtual 35, 3) := by decide +kernel
theorem dX1_needsOf_8 : decode cX1_needsOf 8 = .ok (.aload_n 0, 1) := by decide +kernel
theorem dX1_needsOf_9 : decode cX1_needsOf 9 = .ok (.getfield 28, 3) := by decide +kernel
theorem dX1_needsOf_12 : decode cX1_needsOf 12 = .ok (.iload_n 2, 1) := by decide +kernel
theorem dX1_needsOf_13 : decode cX1_needsOf 13 = .ok (.invokevirtual 39, 3) := by decide +kernel
theorem dX1_needsOf_16 : decode cX1_needsOf 16 = .ok (.ireturn, 1) := by decide +kernel
theorem dX1_needsWithout_0 : decode cX1_needsWithout 0 = .ok (.aload_n 0, 1) := by decide +kernel
theorem dX1_needsWithout_1 : decode cX1_needsWithout 1 = .ok (.getfield 28, 3) := by decide +kernel
theorem dX1_needsWithout_4 : decode cX1_needsWithout 4 = .ok (.aload_n 1, 1) := by decide +kernel
theorem dX1_needsWithout_5 : decode cX1_needsWithout 5 = .ok (.invokevirtual 35, 3) := by decide +kernel
theorem dX1_needsWithout_8 : decode cX1_needsWithout 8 = .ok (.aload_n 0, 1) := by decide +kernel
theorem dX1_needsWithout_9 : decode cX1_needsWithout 9 = .ok (.getfield 28, 3) := by decide +kernel
theorem dX1_needsWithout_12 : decode cX1_needsWithout 12 = .ok (.iload_n 3, 1) := by decide +kernel
theorem dX1_needsWithout_13 : decode cX1_needsWithout 13 = .ok (.putfield 43, 3) := by decide +kernel
theorem dX1_needsWithout_16 : decode cX1_needsWithout 16 = .ok (.aload_n 0, 1) := by decide +kernel
theorem dX1_needsWithout_17 : decode cX1_needsWithout 17 = .ok (.getfield 28, 3) := by decide +kernel
theorem dX1_needsWithout_20 : decode cX1_needsWithout 20 = .ok (.iload_n 2, 1) := by decide +kernel
theorem dX1_needsWithout_21 : decode cX1_needsWithout 21 = .ok (.invokevirtual 39, 3) := by decide +kernel
theorem dX1_needsWithout_24 : decode cX1_needsWithout 24 = .ok (.ireturn, 1) := by decide +kernel
theorem dX1_freshOf_0 : decode cX1_freshOf 0 = .ok (.aload_n 0, 1) := by decide +kernel
theorem dX1_freshOf_1 : decode cX1_freshOf 1 = .ok (.getfield 28, 3) := by decide +kernel
theorem dX1_freshOf_4 : decode cX1_freshOf 4 = .ok (.aload_n 1, 1) := by decide +kernel
theorem dX1_freshOf_5 : decode cX1_freshOf 5 = .ok (.invokevirtual 47, 3) := by decide +kernel
theorem dX1_freshOf_8 : decode cX1_freshOf 8 = .ok (.aload_n 0, 1) := by decide +kernel
theorem dX1_freshOf_9 : decode cX1_freshOf 9 = .ok (.getfield 28, 3) := by decide +kernel
theorem dX1_freshOf_12 : decode cX1_freshOf 12 = .ok (.getfield 50, 3) := by decide +kernel
theorem dX1_freshOf_15 : decode cX1_freshOf 15 = .ok (.invokevirtual 54, 3) := by decide +kernel
theorem dX1_freshOf_18 : decode cX1_freshOf 18 = .ok (.aload_n 0, 1) := by decide +kernel
theorem dX1_freshOf_19 : decode cX1_freshOf 19 = .ok (.getfield 28, 3) := by decide +kernel
theorem dX1_freshOf_22 : decode cX1_freshOf 22 = .ok (.getfield 50, 3) := by decide +kernel
theorem dX1_freshOf_25 : decode cX1_freshOf 25 = .ok (.aload_n 1, 1) := by decide +kernel
theorem dX1_freshOf_26 : decode cX1_freshOf 26 = .ok (.getfield 50, 3) := by decide +kernel
theorem dX1_freshOf_29 : decode cX1_freshOf 29 = .ok (.getfield 59, 3) := by decide +kernel
theorem dX1_freshOf_32 : decode cX1_freshOf 32 = .ok (.putfield 59, 3) := by decide +kernel
theorem dX1_freshOf_35 : decode cX1_freshOf 35 = .ok (.aload_n 0, 1) := by decide +kernel
theorem dX1_freshOf_36 : decode cX1_freshOf 36 = .ok (.getfield 28, 3) := by decide +kernel
theorem dX1_freshOf_39 : decode cX1_freshOf 39 = .ok (.iload_n 2, 1) := by decide +kernel
theorem dX1_freshOf_40 : decode cX1_freshOf 40 = .ok (.invokevirtual 39, 3) := by decide +kernel
theorem dX1_freshOf_43 : decode cX1_freshOf 43 = .ok (.ireturn, 1) := by decide +kernel
theorem dX1_comesToBook_0 : decode cX1_comesToBook 0 = .ok (.aload_n 0, 1) := by decide +kernel
theorem dX1_comesToBook_1 : decode cX1_comesToBook 1 = .ok (.getfield 28, 3) := by decide +kernel
theorem dX1_comesToBook_4 : decode cX1_comesToBook 4 = .ok (.aload_n 1, 1) := by decide +kernel
theorem dX1_comesToBook_5 : decode cX1_comesToBook 5 = .ok (.getfield 62, 3) := by decide +kernel
theorem dX1_comesToBook_8 : decode cX1_comesToBook 8 = .ok (.invokevirtual 47, 3) := by decide +kernel
theorem dX1_comesToBook_11 : decode cX1_comesToBook 11 = .ok (.aload_n 0, 1) := by decide +kernel
theorem dX1_comesToBook_12 : decode cX1_comesToBook 12 = .ok (.getfield 28, 3) := by decide +kernel
theorem dX1_comesToBook_15 : decode cX1_comesToBook 15 = .ok (.getfield 50, 3) := by decide +kernel
theorem dX1_comesToBook_18 : decode cX1_comesToBook 18 = .ok (.invokevirtual 54, 3) := by decide +kernel
theorem dX1_comesToBook_21 : decode cX1_comesToBook 21 = .ok (.aload_n 0, 1) := by decide +kernel
theorem dX1_comesToBook_22 : decode cX1_comesToBook 22 = .ok (.getfield 28, 3) := by decide +kernel
theorem dX1_comesToBook_25 : decode cX1_comesToBook 25 = .ok (.iload_n 2, 1) := by decide +kernel
theorem dX1_comesToBook_26 : decode cX1_comesToBook 26 = .ok (.putfield 67, 3) := by decide +kernel
theorem dX1_comesToBook_29 : decode cX1_comesToBook 29 = .ok (.aload_n 0, 1) := by decide +kernel
theorem dX1_comesToBook_30 : decode cX1_comesToBook 30 = .ok (.getfield 28, 3) := by decide +kernel
theorem dX1_comesToBook_33 : decode cX1_comesToBook 33 = .ok (.iload_n 3, 1) := by decide +kernel
theorem dX1_comesToBook_34 : decode cX1_comesToBook 34 = .ok (.putfield 70, 3) := by decide +kernel
theorem dX1_comesToBook_37 : decode cX1_comesToBook 37 = .ok (.aload_n 1, 1) := by decide +kernel
theorem dX1_comesToBook_38 : decode cX1_comesToBook 38 = .ok (.getfield 73, 3) := by decide +kernel
theorem dX1_comesToBook_41 : decode cX1_comesToBook 41 = .ok (.astore 4, 2) := by decide +kernel
theorem dX1_comesToBook_43 : decode cX1_comesToBook 43 = .ok (.iconst 0, 1) := by decide +kernel
theorem dX1_comesToBook_44 : decode cX1_comesToBook 44 = .ok (.istore 5, 2) := by decide +kernel
theorem dX1_comesToBook_46 : decode cX1_comesToBook 46 = .ok (.iload 5, 2) := by decide +kernel
theorem dX1_comesToBook_48 : decode cX1_comesToBook 48 = .ok (.aload 4, 2) := by decide +kernel
theorem dX1_comesToBook_50 : decode cX1_comesToBook 50 = .ok (.getfield 77, 3) := by decide +kernel
theorem dX1_comesToBook_53 : decode cX1_comesToBook 53 = .ok (.if_icmp .ge 110, 3) := by decide +kernel
theorem dX1_comesToBook_56 : decode cX1_comesToBook 56 = .ok (.aload_n 0, 1) := by decide +kernel
theorem dX1_comesToBook_57 : decode cX1_comesToBook 57 = .ok (.getfield 28, 3) := by decide +kernel
theorem dX1_comesToBook_60 : decode cX1_comesToBook 60 = .ok (.aload 4, 2) := by decide +kernel
theorem dX1_comesToBook_62 : decode cX1_comesToBook 62 = .ok (.iload 5, 2) := by decide +kernel
theorem dX1_comesToBook_64 : decode cX1_comesToBook 64 = .ok (.iconst 2, 1) := by decide +kernel
theorem dX1_comesToBook_65 : decode cX1_comesToBook 65 = .ok (.invokevirtual 82, 3) := by decide +kernel
theorem dX1_comesToBook_68 : decode cX1_comesToBook 68 = .ok (.aload_n 0, 1) := by decide +kernel
theorem dX1_comesToBook_69 : decode cX1_comesToBook 69 = .ok (.getfield 28, 3) := by decide +kernel
theorem dX1_comesToBook_72 : decode cX1_comesToBook 72 = .ok (.getfield 50, 3) := by decide +kernel
theorem dX1_comesToBook_75 : decode cX1_comesToBook 75 = .ok (.getfield 59, 3) := by decide +kernel
theorem dX1_comesToBook_78 : decode cX1_comesToBook 78 = .ok (.isub, 1) := by decide +kernel
theorem dX1_comesToBook_79 : decode cX1_comesToBook 79 = .ok (.invokevirtual 86, 3) := by decide +kernel
theorem dX1_comesToBook_82 : decode cX1_comesToBook 82 = .ok (.aload 4, 2) := by decide +kernel
theorem dX1_comesToBook_84 : decode cX1_comesToBook 84 = .ok (.iload 5, 2) := by decide +kernel
theorem dX1_comesToBook_86 : decode cX1_comesToBook 86 = .ok (.iconst 0, 1) := by decide +kernel
theorem dX1_comesToBook_87 : decode cX1_comesToBook 87 = .ok (.invokevirtual 82, 3) := by decide +kernel
theorem dX1_comesToBook_90 : decode cX1_comesToBook 90 = .ok (.istore 6, 2) := by decide +kernel
theorem dX1_comesToBook_92 : decode cX1_comesToBook 92 = .ok (.aload 4, 2) := by decide +kernel
theorem dX1_comesToBook_94 : decode cX1_comesToBook 94 = .ok (.iload 5, 2) := by decide +kernel
theorem dX1_comesToBook_96 : decode cX1_comesToBook 96 = .ok (.iconst 1, 1) := by decide +kernel
theorem dX1_comesToBook_97 : decode cX1_comesToBook 97 = .ok (.invokevirtual 82, 3) := by decide +kernel
theorem dX1_comesToBook_100 : decode cX1_comesToBook 100 = .ok (.istore 7, 2) := by decide +kernel
theorem dX1_comesToBook_102 : decode cX1_comesToBook 102 = .ok (.aload 4, 2) := by decide +kernel
theorem dX1_comesToBook_104 : decode cX1_comesToBook 104 = .ok (.iload 5, 2) := by decide +kernel
theorem dX1_comesToBook_106 : decode cX1_comesToBook 106 = .ok (.iconst 5, 1) := by decide +kernel
theorem dX1_comesToBook_107 : decode cX1_comesToBook 107 = .ok (.invokevirtual 82, 3) := by decide +kernel
theorem dX1_comesToBook_110 : decode cX1_comesToBook 110 = .ok (.istore 8, 2) := by decide +kernel
theorem dX1_comesToBook_112 : decode cX1_comesToBook 112 = .ok (.iload 8, 2) := by decide +kernel
theorem dX1_comesToBook_114 : decode cX1_comesToBook 114 = .ok (.ifCond .ne 17, 3) := by decide +kernel
theorem dX1_comesToBook_117 : decode cX1_comesToBook 117 = .ok (.aload_n 0, 1) := by decide +kernel
theorem dX1_comesToBook_118 : decode cX1_comesToBook 118 = .ok (.getfield 28, 3) := by decide +kernel
theorem dX1_comesToBook_121 : decode cX1_comesToBook 121 = .ok (.iload 6, 2) := by decide +kernel
theorem dX1_comesToBook_123 : decode cX1_comesToBook 123 = .ok (.iload 7, 2) := by decide +kernel
theorem dX1_comesToBook_125 : decode cX1_comesToBook 125 = .ok (.invokevirtual 90, 3) := by decide +kernel
theorem dX1_comesToBook_128 : decode cX1_comesToBook 128 = .ok (.goto 29, 3) := by decide +kernel
theorem dX1_comesToBook_131 : decode cX1_comesToBook 131 = .ok (.aload_n 0, 1) := by decide +kernel
theorem dX1_comesToBook_132 : decode cX1_comesToBook 132 = .ok (.getfield 28, 3) := by decide +kernel
theorem dX1_comesToBook_135 : decode cX1_comesToBook 135 = .ok (.iload 6, 2) := by decide +kernel
theorem dX1_comesToBook_137 : decode cX1_comesToBook 137 = .ok (.invokevirtual 39, 3) := by decide +kernel
theorem dX1_comesToBook_140 : decode cX1_comesToBook 140 = .ok (.iload 8, 2) := by decide +kernel
theorem dX1_comesToBook_142 : decode cX1_comesToBook 142 = .ok (.iconst 1, 1) := by decide +kernel
theorem dX1_comesToBook_143 : decode cX1_comesToBook 143 = .ok (.if_icmp .ne 8, 3) := by decide +kernel
theorem dX1_comesToBook_146 : decode cX1_comesToBook 146 = .ok (.iload 7, 2) := by decide +kernel
theorem dX1_comesToBook_148 : decode cX1_comesToBook 148 = .ok (.goto 4, 3) := by decide +kernel
theorem dX1_comesToBook_151 : decode cX1_comesToBook 151 = .ok (.iconst (-1), 1) := by decide +kernel
theorem dX1_comesToBook_152 : decode cX1_comesToBook 152 = .ok (.if_icmp .eq 5, 3) := by decide +kernel
theorem dX1_comesToBook_155 : decode cX1_comesToBook 155 = .ok (.iconst 0, 1) := by decide +kernel
theorem dX1_comesToBook_156 : decode cX1_comesToBook 156 = .ok (.ireturn, 1) := by decide +kernel
theorem dX1_comesToBook_157 : decode cX1_comesToBook 157 = .ok (.iinc 5 1, 3) := by decide +kernel
theorem dX1_comesToBook_160 : decode cX1_comesToBook 160 = .ok (.goto (-114), 3) := by decide +kernel
theorem dX1_comesToBook_163 : decode cX1_comesToBook 163 = .ok (.iconst 1, 1) := by decide +kernel
theorem dX1_comesToBook_164 : decode cX1_comesToBook 164 = .ok (.ireturn, 1) := by decide +kernel
theorem dX1_searchPlans_0 : decode cX1_searchPlans 0 = .ok (.aload_n 0, 1) := by decide +kernel
theorem dX1_searchPlans_1 : decode cX1_searchPlans 1 = .ok (.iconst (-1), 1) := by decide +kernel
theorem dX1_searchPlans_2 : decode cX1_searchPlans 2 = .ok (.putfield 94, 3) := by decide +kernel
theorem dX1_searchPlans_5 : decode cX1_searchPlans 5 = .ok (.aload_n 0, 1) := by decide +kernel
theorem dX1_searchPlans_6 : decode cX1_searchPlans 6 = .ok (.iconst (-1), 1) := by decide +kernel
theorem dX1_searchPlans_7 : decode cX1_searchPlans 7 = .ok (.putfield 97, 3) := by decide +kernel
theorem dX1_searchPlans_10 : decode cX1_searchPlans 10 = .ok (.iconst 0, 1) := by decide +kernel
theorem dX1_searchPlans_11 : decode cX1_searchPlans 11 = .ok (.istore 5, 2) := by decide +kernel
theorem dX1_searchPlans_13 : decode cX1_searchPlans 13 = .ok (.iload 5, 2) := by decide +kernel
theorem dX1_searchPlans_15 : decode cX1_searchPlans 15 = .ok (.iload 4, 2) := by decide +kernel
theorem dX1_searchPlans_17 : decode cX1_searchPlans 17 = .ok (.if_icmp .ge 47, 3) := by decide +kernel
theorem dX1_searchPlans_20 : decode cX1_searchPlans 20 = .ok (.iload 5, 2) := by decide +kernel
theorem dX1_searchPlans_22 : decode cX1_searchPlans 22 = .ok (.iconst 4, 1) := by decide +kernel
theorem dX1_searchPlans_23 : decode cX1_searchPlans 23 = .ok (.if_icmp .ge 41, 3) := by decide +kernel
theorem dX1_searchPlans_26 : decode cX1_searchPlans 26 = .ok (.aload_n 0, 1) := by decide +kernel
theorem dX1_searchPlans_27 : decode cX1_searchPlans 27 = .ok (.getfield 11, 3) := by decide +kernel
theorem dX1_searchPlans_30 : decode cX1_searchPlans 30 = .ok (.iload 5, 2) := by decide +kernel
theorem dX1_searchPlans_32 : decode cX1_searchPlans 32 = .ok (.aaload, 1) := by decide +kernel
theorem dX1_searchPlans_33 : decode cX1_searchPlans 33 = .ok (.ifnonnull 25, 3) := by decide +kernel
theorem dX1_searchPlans_36 : decode cX1_searchPlans 36 = .ok (.aload_n 0, 1) := by decide +kernel
theorem dX1_searchPlans_37 : decode cX1_searchPlans 37 = .ok (.getfield 11, 3) := by decide +kernel
theorem dX1_searchPlans_40 : decode cX1_searchPlans 40 = .ok (.iload 5, 2) := by decide +kernel
theorem dX1_searchPlans_42 : decode cX1_searchPlans 42 = .ok (.new 9, 3) := by decide +kernel
theorem dX1_searchPlans_45 : decode cX1_searchPlans 45 = .ok (.dup, 1) := by decide +kernel
theorem dX1_searchPlans_46 : decode cX1_searchPlans 46 = .ok (.aload_n 1, 1) := by decide +kernel
theorem dX1_searchPlans_47 : decode cX1_searchPlans 47 = .ok (.getfield 17, 3) := by decide +kernel
theorem dX1_searchPlans_50 : decode cX1_searchPlans 50 = .ok (.aload_n 1, 1) := by decide +kernel
theorem dX1_searchPlans_51 : decode cX1_searchPlans 51 = .ok (.getfield 21, 3) := by decide +kernel
theorem dX1_searchPlans_54 : decode cX1_searchPlans 54 = .ok (.invokespecial 25, 3) := by decide +kernel
theorem dX1_searchPlans_57 : decode cX1_searchPlans 57 = .ok (.aastore, 1) := by decide +kernel
theorem dX1_searchPlans_58 : decode cX1_searchPlans 58 = .ok (.iinc 5 1, 3) := by decide +kernel
theorem dX1_searchPlans_61 : decode cX1_searchPlans 61 = .ok (.goto (-48), 3) := by decide +kernel
theorem dX1_searchPlans_64 : decode cX1_searchPlans 64 = .ok (.aload_n 0, 1) := by decide +kernel
theorem dX1_searchPlans_65 : decode cX1_searchPlans 65 = .ok (.aload_n 1, 1) := by decide +kernel
theorem dX1_searchPlans_66 : decode cX1_searchPlans 66 = .ok (.iload_n 2, 1) := by decide +kernel
theorem dX1_searchPlans_67 : decode cX1_searchPlans 67 = .ok (.iload_n 3, 1) := by decide +kernel
theorem dX1_searchPlans_68 : decode cX1_searchPlans 68 = .ok (.iload 4, 2) := by decide +kernel
theorem dX1_searchPlans_70 : decode cX1_searchPlans 70 = .ok (.iconst 0, 1) := by decide +kernel
theorem dX1_searchPlans_71 : decode cX1_searchPlans 71 = .ok (.iconst 0, 1) := by decide +kernel
theorem dX1_searchPlans_72 : decode cX1_searchPlans 72 = .ok (.invokevirtual 100, 3) := by decide +kernel
theorem dX1_searchPlans_75 : decode cX1_searchPlans 75 = .ok (.return_, 1) := by decide +kernel
theorem dX1_searchFrom_0 : decode cX1_searchFrom 0 = .ok (.iload 5, 2) := by decide +kernel
theorem dX1_searchFrom_2 : decode cX1_searchFrom 2 = .ok (.iload 4, 2) := by decide +kernel
theorem dX1_searchFrom_4 : decode cX1_searchFrom 4 = .ok (.if_icmp .ge 9, 3) := by decide +kernel
theorem dX1_searchFrom_7 : decode cX1_searchFrom 7 = .ok (.iload 5, 2) := by decide +kernel
theorem dX1_searchFrom_9 : decode cX1_searchFrom 9 = .ok (.iconst 4, 1) := by decide +kernel
theorem dX1_searchFrom_10 : decode cX1_searchFrom 10 = .ok (.if_icmp .lt 4, 3) := by decide +kernel
theorem dX1_searchFrom_13 : decode cX1_searchFrom 13 = .ok (.return_, 1) := by decide +kernel
theorem dX1_searchFrom_14 : decode cX1_searchFrom 14 = .ok (.iload 5, 2) := by decide +kernel
theorem dX1_searchFrom_16 : decode cX1_searchFrom 16 = .ok (.iload 4, 2) := by decide +kernel
theorem dX1_searchFrom_18 : decode cX1_searchFrom 18 = .ok (.iconst 1, 1) := by decide +kernel
theorem dX1_searchFrom_19 : decode cX1_searchFrom 19 = .ok (.isub, 1) := by decide +kernel
theorem dX1_searchFrom_20 : decode cX1_searchFrom 20 = .ok (.if_icmp .ne 7, 3) := by decide +kernel
theorem dX1_searchFrom_23 : decode cX1_searchFrom 23 = .ok (.iconst 1, 1) := by decide +kernel
theorem dX1_searchFrom_24 : decode cX1_searchFrom 24 = .ok (.goto 4, 3) := by decide +kernel
theorem dX1_searchFrom_27 : decode cX1_searchFrom 27 = .ok (.iconst 0, 1) := by decide +kernel
theorem dX1_searchFrom_28 : decode cX1_searchFrom 28 = .ok (.istore 7, 2) := by decide +kernel
theorem dX1_searchFrom_30 : decode cX1_searchFrom 30 = .ok (.aload_n 0, 1) := by decide +kernel
theorem dX1_searchFrom_31 : decode cX1_searchFrom 31 = .ok (.getfield 11, 3) := by decide +kernel
theorem dX1_searchFrom_34 : decode cX1_searchFrom 34 = .ok (.iload 5, 2) := by decide +kernel
theorem dX1_searchFrom_36 : decode cX1_searchFrom 36 = .ok (.aaload, 1) := by decide +kernel
theorem dX1_searchFrom_37 : decode cX1_searchFrom 37 = .ok (.astore 8, 2) := by decide +kernel
theorem dX1_searchFrom_39 : decode cX1_searchFrom 39 = .ok (.iload_n 3, 1) := by decide +kernel
theorem dX1_searchFrom_40 : decode cX1_searchFrom 40 = .ok (.istore 9, 2) := by decide +kernel
theorem dX1_searchFrom_42 : decode cX1_searchFrom 42 = .ok (.iload 9, 2) := by decide +kernel
theorem dX1_searchFrom_44 : decode cX1_searchFrom 44 = .ok (.iload 7, 2) := by decide +kernel
theorem dX1_searchFrom_46 : decode cX1_searchFrom 46 = .ok (.ifCond .eq 7, 3) := by decide +kernel
theorem dX1_searchFrom_49 : decode cX1_searchFrom 49 = .ok (.iload_n 3, 1) := by decide +kernel
theorem dX1_searchFrom_50 : decode cX1_searchFrom 50 = .ok (.goto 4, 3) := by decide +kernel
theorem dX1_searchFrom_53 : decode cX1_searchFrom 53 = .ok (.iconst 0, 1) := by decide +kernel
theorem dX1_searchFrom_54 : decode cX1_searchFrom 54 = .ok (.if_icmp .lt 79, 3) := by decide +kernel
theorem dX1_searchFrom_57 : decode cX1_searchFrom 57 = .ok (.aload 8, 2) := by decide +kernel
theorem dX1_searchFrom_59 : decode cX1_searchFrom 59 = .ok (.aload_n 1, 1) := by decide +kernel
theorem dX1_searchFrom_60 : decode cX1_searchFrom 60 = .ok (.invokevirtual 35, 3) := by decide +kernel
theorem dX1_searchFrom_63 : decode cX1_searchFrom 63 = .ok (.aload 8, 2) := by decide +kernel
theorem dX1_searchFrom_65 : decode cX1_searchFrom 65 = .ok (.iload_n 2, 1) := by decide +kernel
theorem dX1_searchFrom_66 : decode cX1_searchFrom 66 = .ok (.iload 9, 2) := by decide +kernel
theorem dX1_searchFrom_68 : decode cX1_searchFrom 68 = .ok (.invokevirtual 90, 3) := by decide +kernel
theorem dX1_searchFrom_71 : decode cX1_searchFrom 71 = .ok (.aload 8, 2) := by decide +kernel
theorem dX1_searchFrom_73 : decode cX1_searchFrom 73 = .ok (.bipush 24, 2) := by decide +kernel
theorem dX1_searchFrom_75 : decode cX1_searchFrom 75 = .ok (.invokevirtual 86, 3) := by decide +kernel
theorem dX1_searchFrom_78 : decode cX1_searchFrom 78 = .ok (.iload 6, 2) := by decide +kernel
theorem dX1_searchFrom_80 : decode cX1_searchFrom 80 = .ok (.bipush 10, 2) := by decide +kernel
theorem dX1_searchFrom_82 : decode cX1_searchFrom 82 = .ok (.imul, 1) := by decide +kernel
theorem dX1_searchFrom_83 : decode cX1_searchFrom 83 = .ok (.iload 9, 2) := by decide +kernel
theorem dX1_searchFrom_85 : decode cX1_searchFrom 85 = .ok (.iadd, 1) := by decide +kernel
theorem dX1_searchFrom_86 : decode cX1_searchFrom 86 = .ok (.istore 10, 2) := by decide +kernel
theorem dX1_searchFrom_88 : decode cX1_searchFrom 88 = .ok (.iload 7, 2) := by decide +kernel
theorem dX1_searchFrom_90 : decode cX1_searchFrom 90 = .ok (.ifCond .eq 18, 3) := by decide +kernel
theorem dX1_searchFrom_93 : decode cX1_searchFrom 93 = .ok (.aload_n 0, 1) := by decide +kernel
theorem dX1_searchFrom_94 : decode cX1_searchFrom 94 = .ok (.iload 10, 2) := by decide +kernel
theorem dX1_searchFrom_96 : decode cX1_searchFrom 96 = .ok (.aload 8, 2) := by decide +kernel
theorem dX1_searchFrom_98 : decode cX1_searchFrom 98 = .ok (.iload_n 2, 1) := by decide +kernel
theorem dX1_searchFrom_99 : decode cX1_searchFrom 99 = .ok (.invokevirtual 104, 3) := by decide +kernel
theorem dX1_searchFrom_102 : decode cX1_searchFrom 102 = .ok (.invokevirtual 107, 3) := by decide +kernel
theorem dX1_searchFrom_105 : decode cX1_searchFrom 105 = .ok (.goto 22, 3) := by decide +kernel
theorem dX1_searchFrom_108 : decode cX1_searchFrom 108 = .ok (.aload_n 0, 1) := by decide +kernel
theorem dX1_searchFrom_109 : decode cX1_searchFrom 109 = .ok (.aload 8, 2) := by decide +kernel
theorem dX1_searchFrom_111 : decode cX1_searchFrom 111 = .ok (.iload_n 2, 1) := by decide +kernel
theorem dX1_searchFrom_112 : decode cX1_searchFrom 112 = .ok (.iload_n 3, 1) := by decide +kernel
theorem dX1_searchFrom_113 : decode cX1_searchFrom 113 = .ok (.iload 9, 2) := by decide +kernel
theorem dX1_searchFrom_115 : decode cX1_searchFrom 115 = .ok (.isub, 1) := by decide +kernel
theorem dX1_searchFrom_116 : decode cX1_searchFrom 116 = .ok (.iload 4, 2) := by decide +kernel
theorem dX1_searchFrom_118 : decode cX1_searchFrom 118 = .ok (.iload 5, 2) := by decide +kernel
theorem dX1_searchFrom_120 : decode cX1_searchFrom 120 = .ok (.iconst 1, 1) := by decide +kernel
theorem dX1_searchFrom_121 : decode cX1_searchFrom 121 = .ok (.iadd, 1) := by decide +kernel
theorem dX1_searchFrom_122 : decode cX1_searchFrom 122 = .ok (.iload 10, 2) := by decide +kernel
theorem dX1_searchFrom_124 : decode cX1_searchFrom 124 = .ok (.invokevirtual 100, 3) := by decide +kernel
theorem dX1_searchFrom_127 : decode cX1_searchFrom 127 = .ok (.iinc 9 (-1), 3) := by decide +kernel
theorem dX1_searchFrom_130 : decode cX1_searchFrom 130 = .ok (.goto (-88), 3) := by decide +kernel
theorem dX1_searchFrom_133 : decode cX1_searchFrom 133 = .ok (.return_, 1) := by decide +kernel
theorem dX1_compare_0 : decode cX1_compare 0 = .ok (.iload_n 2, 1) := by decide +kernel
theorem dX1_compare_1 : decode cX1_compare 1 = .ok (.aload_n 0, 1) := by decide +kernel
theorem dX1_compare_2 : decode cX1_compare 2 = .ok (.getfield 97, 3) := by decide +kernel
theorem dX1_compare_5 : decode cX1_compare 5 = .ok (.if_icmp .le 13, 3) := by decide +kernel
theorem dX1_compare_8 : decode cX1_compare 8 = .ok (.aload_n 0, 1) := by decide +kernel
theorem dX1_compare_9 : decode cX1_compare 9 = .ok (.iload_n 2, 1) := by decide +kernel
theorem dX1_compare_10 : decode cX1_compare 10 = .ok (.putfield 97, 3) := by decide +kernel
theorem dX1_compare_13 : decode cX1_compare 13 = .ok (.aload_n 0, 1) := by decide +kernel
theorem dX1_compare_14 : decode cX1_compare 14 = .ok (.iload_n 1, 1) := by decide +kernel
theorem dX1_compare_15 : decode cX1_compare 15 = .ok (.putfield 94, 3) := by decide +kernel
theorem dX1_compare_18 : decode cX1_compare 18 = .ok (.return_, 1) := by decide +kernel
theorem dX2_init_0 : decode cX2_init 0 = .ok (.aload_n 0, 1) := by decide +kernel
theorem dX2_init_1 : decode cX2_init 1 = .ok (.invokespecial 5, 3) := by decide +kernel
theorem dX2_init_4 : decode cX2_init 4 = .ok (.aload_n 0, 1) := by decide +kernel
theorem dX2_init_5 : decode cX2_init 5 = .ok (.sipush 2016, 3) := by decide +kernel
theorem dX2_init_8 : decode cX2_init 8 = .ok (.newarray .int, 2) := by decide +kernel
theorem dX2_init_10 : decode cX2_init 10 = .ok (.putfield 11, 3) := by decide +kernel
theorem dX2_init_13 : decode cX2_init 13 = .ok (.aload_n 0, 1) := by decide +kernel
theorem dX2_init_14 : decode cX2_init 14 = .ok (.sipush 528, 3) := by decide +kernel
theorem dX2_init_17 : decode cX2_init 17 = .ok (.newarray .int, 2) := by decide +kernel
theorem dX2_init_19 : decode cX2_init 19 = .ok (.putfield 15, 3) := by decide +kernel
theorem dX2_init_22 : decode cX2_init 22 = .ok (.return_, 1) := by decide +kernel
theorem dX2_cellOf_0 : decode cX2_cellOf 0 = .ok (.iload_n 0, 1) := by decide +kernel
theorem dX2_cellOf_1 : decode cX2_cellOf 1 = .ok (.iconst 3, 1) := by decide +kernel
theorem dX2_cellOf_2 : decode cX2_cellOf 2 = .ok (.if_icmp .ne 16, 3) := by decide +kernel
theorem dX2_cellOf_5 : decode cX2_cellOf 5 = .ok (.sipush 1728, 3) := by decide +kernel
theorem dX2_cellOf_8 : decode cX2_cellOf 8 = .ok (.iload_n 1, 1) := by decide +kernel
theorem dX2_cellOf_9 : decode cX2_cellOf 9 = .ok (.bipush 12, 2) := by decide +kernel
theorem dX2_cellOf_11 : decode cX2_cellOf 11 = .ok (.imul, 1) := by decide +kernel
theorem dX2_cellOf_12 : decode cX2_cellOf 12 = .ok (.iadd, 1) := by decide +kernel
theorem dX2_cellOf_13 : decode cX2_cellOf 13 = .ok (.iload_n 2, 1) := by decide +kernel
theorem dX2_cellOf_14 : decode cX2_cellOf 14 = .ok (.iadd, 1) := by decide +kernel
theorem dX2_cellOf_15 : decode cX2_cellOf 15 = .ok (.goto 15, 3) := by decide +kernel
theorem dX2_cellOf_18 : decode cX2_cellOf 18 = .ok (.iload_n 0, 1) := by decide +kernel
theorem dX2_cellOf_19 : decode cX2_cellOf 19 = .ok (.sipush 576, 3) := by decide +kernel
theorem dX2_cellOf_22 : decode cX2_cellOf 22 = .ok (.imul, 1) := by decide +kernel
theorem dX2_cellOf_23 : decode cX2_cellOf 23 = .ok (.iload_n 1, 1) := by decide +kernel
theorem dX2_cellOf_24 : decode cX2_cellOf 24 = .ok (.bipush 24, 2) := by decide +kernel
theorem dX2_cellOf_26 : decode cX2_cellOf 26 = .ok (.imul, 1) := by decide +kernel
theorem dX2_cellOf_27 : decode cX2_cellOf 27 = .ok (.iadd, 1) := by decide +kernel
theorem dX2_cellOf_28 : decode cX2_cellOf 28 = .ok (.iload_n 2, 1) := by decide +kernel
theorem dX2_cellOf_29 : decode cX2_cellOf 29 = .ok (.iadd, 1) := by decide +kernel
theorem dX2_cellOf_30 : decode cX2_cellOf 30 = .ok (.ireturn, 1) := by decide +kernel
theorem dX2_sortOf_0 : decode cX2_sortOf 0 = .ok (.iload_n 0, 1) := by decide +kernel
theorem dX2_sortOf_1 : decode cX2_sortOf 1 = .ok (.sipush 576, 3) := by decide +kernel
theorem dX2_sortOf_4 : decode cX2_sortOf 4 = .ok (.idiv, 1) := by decide +kernel
theorem dX2_sortOf_5 : decode cX2_sortOf 5 = .ok (.ireturn, 1) := by decide +kernel
theorem dX2_thingOf_0 : decode cX2_thingOf 0 = .ok (.iload_n 0, 1) := by decide +kernel
theorem dX2_thingOf_1 : decode cX2_thingOf 1 = .ok (.sipush 1728, 3) := by decide +kernel
theorem dX2_thingOf_4 : decode cX2_thingOf 4 = .ok (.if_icmp .lt 14, 3) := by decide +kernel
theorem dX2_thingOf_7 : decode cX2_thingOf 7 = .ok (.iload_n 0, 1) := by decide +kernel
theorem dX2_thingOf_8 : decode cX2_thingOf 8 = .ok (.sipush 1728, 3) := by decide +kernel
theorem dX2_thingOf_11 : decode cX2_thingOf 11 = .ok (.isub, 1) := by decide +kernel
theorem dX2_thingOf_12 : decode cX2_thingOf 12 = .ok (.bipush 12, 2) := by decide +kernel
theorem dX2_thingOf_14 : decode cX2_thingOf 14 = .ok (.idiv, 1) := by decide +kernel
theorem dX2_thingOf_15 : decode cX2_thingOf 15 = .ok (.goto 7, 3) := by decide +kernel
theorem dX2_thingOf_18 : decode cX2_thingOf 18 = .ok (.iload_n 0, 1) := by decide +kernel
theorem dX2_thingOf_19 : decode cX2_thingOf 19 = .ok (.bipush 24, 2) := by decide +kernel
theorem dX2_thingOf_21 : decode cX2_thingOf 21 = .ok (.irem, 1) := by decide +kernel
theorem dX2_thingOf_22 : decode cX2_thingOf 22 = .ok (.ireturn, 1) := by decide +kernel
theorem dX2_strengthAt_0 : decode cX2_strengthAt 0 = .ok (.aload_n 0, 1) := by decide +kernel
theorem dX2_strengthAt_1 : decode cX2_strengthAt 1 = .ok (.getfield 11, 3) := by decide +kernel
theorem dX2_strengthAt_4 : decode cX2_strengthAt 4 = .ok (.iload_n 1, 1) := by decide +kernel
theorem dX2_strengthAt_5 : decode cX2_strengthAt 5 = .ok (.iaload, 1) := by decide +kernel
theorem dX2_strengthAt_6 : decode cX2_strengthAt 6 = .ok (.ifCond .le 14, 3) := by decide +kernel
theorem dX2_strengthAt_9 : decode cX2_strengthAt 9 = .ok (.aload_n 0, 1) := by decide +kernel
theorem dX2_strengthAt_10 : decode cX2_strengthAt 10 = .ok (.getfield 11, 3) := by decide +kernel
theorem dX2_strengthAt_13 : decode cX2_strengthAt 13 = .ok (.iload_n 1, 1) := by decide +kernel
theorem dX2_strengthAt_14 : decode cX2_strengthAt 14 = .ok (.iaload, 1) := by decide +kernel
theorem dX2_strengthAt_15 : decode cX2_strengthAt 15 = .ok (.iconst 1, 1) := by decide +kernel
theorem dX2_strengthAt_16 : decode cX2_strengthAt 16 = .ok (.isub, 1) := by decide +kernel
theorem dX2_strengthAt_17 : decode cX2_strengthAt 17 = .ok (.goto 4, 3) := by decide +kernel
theorem dX2_strengthAt_20 : decode cX2_strengthAt 20 = .ok (.iconst 0, 1) := by decide +kernel
theorem dX2_strengthAt_21 : decode cX2_strengthAt 21 = .ok (.ireturn, 1) := by decide +kernel
theorem dX2_put_0 : decode cX2_put 0 = .ok (.aload_n 0, 1) := by decide +kernel
theorem dX2_put_1 : decode cX2_put 1 = .ok (.getfield 11, 3) := by decide +kernel
theorem dX2_put_4 : decode cX2_put 4 = .ok (.iload_n 1, 1) := by decide +kernel
theorem dX2_put_5 : decode cX2_put 5 = .ok (.iaload, 1) := by decide +kernel
theorem dX2_put_6 : decode cX2_put 6 = .ok (.ifCond .ne 38, 3) := by decide +kernel
theorem dX2_put_9 : decode cX2_put 9 = .ok (.iload_n 2, 1) := by decide +kernel
theorem dX2_put_10 : decode cX2_put 10 = .ok (.ifCond .eq 13, 3) := by decide +kernel
theorem dX2_put_13 : decode cX2_put 13 = .ok (.aload_n 0, 1) := by decide +kernel
theorem dX2_put_14 : decode cX2_put 14 = .ok (.getfield 18, 3) := by decide +kernel
theorem dX2_put_17 : decode cX2_put 17 = .ok (.sipush 528, 3) := by decide +kernel
theorem dX2_put_20 : decode cX2_put 20 = .ok (.if_icmp .lt 4, 3) := by decide +kernel
theorem dX2_put_23 : decode cX2_put 23 = .ok (.return_, 1) := by decide +kernel
theorem dX2_put_24 : decode cX2_put 24 = .ok (.aload_n 0, 1) := by decide +kernel
theorem dX2_put_25 : decode cX2_put 25 = .ok (.getfield 15, 3) := by decide +kernel
theorem dX2_put_28 : decode cX2_put 28 = .ok (.aload_n 0, 1) := by decide +kernel
theorem dX2_put_29 : decode cX2_put 29 = .ok (.getfield 18, 3) := by decide +kernel
theorem dX2_put_32 : decode cX2_put 32 = .ok (.iload_n 1, 1) := by decide +kernel
theorem dX2_put_33 : decode cX2_put 33 = .ok (.iastore, 1) := by decide +kernel
theorem dX2_put_34 : decode cX2_put 34 = .ok (.aload_n 0, 1) := by decide +kernel
theorem dX2_put_35 : decode cX2_put 35 = .ok (.dup, 1) := by decide +kernel
theorem dX2_put_36 : decode cX2_put 36 = .ok (.getfield 18, 3) := by decide +kernel
theorem dX2_put_39 : decode cX2_put 39 = .ok (.iconst 1, 1) := by decide +kernel
theorem dX2_put_40 : decode cX2_put 40 = .ok (.iadd, 1) := by decide +kernel
theorem dX2_put_41 : decode cX2_put 41 = .ok (.putfield 18, 3) := by decide +kernel
theorem dX2_put_44 : decode cX2_put 44 = .ok (.aload_n 0, 1) := by decide +kernel
theorem dX2_put_45 : decode cX2_put 45 = .ok (.getfield 11, 3) := by decide +kernel
theorem dX2_put_48 : decode cX2_put 48 = .ok (.iload_n 1, 1) := by decide +kernel
theorem dX2_put_49 : decode cX2_put 49 = .ok (.iload_n 2, 1) := by decide +kernel
theorem dX2_put_50 : decode cX2_put 50 = .ok (.iconst 1, 1) := by decide +kernel
theorem dX2_put_51 : decode cX2_put 51 = .ok (.iadd, 1) := by decide +kernel
theorem dX2_put_52 : decode cX2_put 52 = .ok (.iastore, 1) := by decide +kernel
theorem dX2_put_53 : decode cX2_put 53 = .ok (.return_, 1) := by decide +kernel
theorem dX2_listedCount_0 : decode cX2_listedCount 0 = .ok (.aload_n 0, 1) := by decide +kernel
theorem dX2_listedCount_1 : decode cX2_listedCount 1 = .ok (.getfield 18, 3) := by decide +kernel
theorem dX2_listedCount_4 : decode cX2_listedCount 4 = .ok (.ireturn, 1) := by decide +kernel
theorem dX2_listedCell_0 : decode cX2_listedCell 0 = .ok (.aload_n 0, 1) := by decide +kernel
theorem dX2_listedCell_1 : decode cX2_listedCell 1 = .ok (.getfield 15, 3) := by decide +kernel
theorem dX2_listedCell_4 : decode cX2_listedCell 4 = .ok (.iload_n 1, 1) := by decide +kernel
theorem dX2_listedCell_5 : decode cX2_listedCell 5 = .ok (.iaload, 1) := by decide +kernel
theorem dX2_listedCell_6 : decode cX2_listedCell 6 = .ok (.ireturn, 1) := by decide +kernel
theorem dX2_linksOf_0 : decode cX2_linksOf 0 = .ok (.iconst 0, 1) := by decide +kernel
theorem dX2_linksOf_1 : decode cX2_linksOf 1 = .ok (.istore_n 2, 1) := by decide +kernel
theorem dX2_linksOf_2 : decode cX2_linksOf 2 = .ok (.iconst 0, 1) := by decide +kernel
theorem dX2_linksOf_3 : decode cX2_linksOf 3 = .ok (.istore_n 3, 1) := by decide +kernel
theorem dX2_linksOf_4 : decode cX2_linksOf 4 = .ok (.iload_n 3, 1) := by decide +kernel
theorem dX2_linksOf_5 : decode cX2_linksOf 5 = .ok (.aload_n 0, 1) := by decide +kernel
theorem dX2_linksOf_6 : decode cX2_linksOf 6 = .ok (.getfield 18, 3) := by decide +kernel
theorem dX2_linksOf_9 : decode cX2_linksOf 9 = .ok (.if_icmp .ge 38, 3) := by decide +kernel
theorem dX2_linksOf_12 : decode cX2_linksOf 12 = .ok (.aload_n 0, 1) := by decide +kernel
theorem dX2_linksOf_13 : decode cX2_linksOf 13 = .ok (.getfield 15, 3) := by decide +kernel
theorem dX2_linksOf_16 : decode cX2_linksOf 16 = .ok (.iload_n 3, 1) := by decide +kernel
theorem dX2_linksOf_17 : decode cX2_linksOf 17 = .ok (.iaload, 1) := by decide +kernel
theorem dX2_linksOf_18 : decode cX2_linksOf 18 = .ok (.invokestatic 22, 3) := by decide +kernel
theorem dX2_linksOf_21 : decode cX2_linksOf 21 = .ok (.iload_n 1, 1) := by decide +kernel
theorem dX2_linksOf_22 : decode cX2_linksOf 22 = .ok (.if_icmp .ne 19, 3) := by decide +kernel
theorem dX2_linksOf_25 : decode cX2_linksOf 25 = .ok (.aload_n 0, 1) := by decide +kernel
theorem dX2_linksOf_26 : decode cX2_linksOf 26 = .ok (.aload_n 0, 1) := by decide +kernel
theorem dX2_linksOf_27 : decode cX2_linksOf 27 = .ok (.getfield 15, 3) := by decide +kernel
theorem dX2_linksOf_30 : decode cX2_linksOf 30 = .ok (.iload_n 3, 1) := by decide +kernel
theorem dX2_linksOf_31 : decode cX2_linksOf 31 = .ok (.iaload, 1) := by decide +kernel
theorem dX2_linksOf_32 : decode cX2_linksOf 32 = .ok (.invokevirtual 26, 3) := by decide +kernel
theorem dX2_linksOf_35 : decode cX2_linksOf 35 = .ok (.ifCond .le 6, 3) := by decide +kernel
theorem dX2_linksOf_38 : decode cX2_linksOf 38 = .ok (.iinc 2 1, 3) := by decide +kernel
theorem dX2_linksOf_41 : decode cX2_linksOf 41 = .ok (.iinc 3 1, 3) := by decide +kernel
theorem dX2_linksOf_44 : decode cX2_linksOf 44 = .ok (.goto (-40), 3) := by decide +kernel
theorem dX2_linksOf_47 : decode cX2_linksOf 47 = .ok (.iload_n 2, 1) := by decide +kernel
theorem dX2_linksOf_48 : decode cX2_linksOf 48 = .ok (.ireturn, 1) := by decide +kernel
theorem dX2_dropEmpty_0 : decode cX2_dropEmpty 0 = .ok (.iconst 0, 1) := by decide +kernel
theorem dX2_dropEmpty_1 : decode cX2_dropEmpty 1 = .ok (.istore_n 1, 1) := by decide +kernel
theorem dX2_dropEmpty_2 : decode cX2_dropEmpty 2 = .ok (.iconst 0, 1) := by decide +kernel
theorem dX2_dropEmpty_3 : decode cX2_dropEmpty 3 = .ok (.istore_n 2, 1) := by decide +kernel
theorem dX2_dropEmpty_4 : decode cX2_dropEmpty 4 = .ok (.iload_n 2, 1) := by decide +kernel
theorem dX2_dropEmpty_5 : decode cX2_dropEmpty 5 = .ok (.aload_n 0, 1) := by decide +kernel
theorem dX2_dropEmpty_6 : decode cX2_dropEmpty 6 = .ok (.getfield 18, 3) := by decide +kernel
theorem dX2_dropEmpty_9 : decode cX2_dropEmpty 9 = .ok (.if_icmp .ge 44, 3) := by decide +kernel
theorem dX2_dropEmpty_12 : decode cX2_dropEmpty 12 = .ok (.aload_n 0, 1) := by decide +kernel
theorem dX2_dropEmpty_13 : decode cX2_dropEmpty 13 = .ok (.getfield 15, 3) := by decide +kernel
theorem dX2_dropEmpty_16 : decode cX2_dropEmpty 16 = .ok (.iload_n 2, 1) := by decide +kernel
theorem dX2_dropEmpty_17 : decode cX2_dropEmpty 17 = .ok (.iaload, 1) := by decide +kernel
theorem dX2_dropEmpty_18 : decode cX2_dropEmpty 18 = .ok (.istore_n 3, 1) := by decide +kernel
theorem dX2_dropEmpty_19 : decode cX2_dropEmpty 19 = .ok (.aload_n 0, 1) := by decide +kernel
theorem dX2_dropEmpty_20 : decode cX2_dropEmpty 20 = .ok (.iload_n 3, 1) := by decide +kernel
theorem dX2_dropEmpty_21 : decode cX2_dropEmpty 21 = .ok (.invokevirtual 26, 3) := by decide +kernel
theorem dX2_dropEmpty_24 : decode cX2_dropEmpty 24 = .ok (.ifCond .le 16, 3) := by decide +kernel
theorem dX2_dropEmpty_27 : decode cX2_dropEmpty 27 = .ok (.aload_n 0, 1) := by decide +kernel
theorem dX2_dropEmpty_28 : decode cX2_dropEmpty 28 = .ok (.getfield 15, 3) := by decide +kernel
theorem dX2_dropEmpty_31 : decode cX2_dropEmpty 31 = .ok (.iload_n 1, 1) := by decide +kernel
theorem dX2_dropEmpty_32 : decode cX2_dropEmpty 32 = .ok (.iload_n 3, 1) := by decide +kernel
theorem dX2_dropEmpty_33 : decode cX2_dropEmpty 33 = .ok (.iastore, 1) := by decide +kernel
theorem dX2_dropEmpty_34 : decode cX2_dropEmpty 34 = .ok (.iinc 1 1, 3) := by decide +kernel
theorem dX2_dropEmpty_37 : decode cX2_dropEmpty 37 = .ok (.goto 10, 3) := by decide +kernel
theorem dX2_dropEmpty_40 : decode cX2_dropEmpty 40 = .ok (.aload_n 0, 1) := by decide +kernel
theorem dX2_dropEmpty_41 : decode cX2_dropEmpty 41 = .ok (.getfield 11, 3) := by decide +kernel
theorem dX2_dropEmpty_44 : decode cX2_dropEmpty 44 = .ok (.iload_n 3, 1) := by decide +kernel
theorem dX2_dropEmpty_45 : decode cX2_dropEmpty 45 = .ok (.iconst 0, 1) := by decide +kernel
theorem dX2_dropEmpty_46 : decode cX2_dropEmpty 46 = .ok (.iastore, 1) := by decide +kernel
theorem dX2_dropEmpty_47 : decode cX2_dropEmpty 47 = .ok (.iinc 2 1, 3) := by decide +kernel
theorem dX2_dropEmpty_50 : decode cX2_dropEmpty 50 = .ok (.goto (-46), 3) := by decide +kernel
theorem dX2_dropEmpty_53 : decode cX2_dropEmpty 53 = .ok (.aload_n 0, 1) := by decide +kernel
theorem dX2_dropEmpty_54 : decode cX2_dropEmpty 54 = .ok (.iload_n 1, 1) := by decide +kernel
theorem dX2_dropEmpty_55 : decode cX2_dropEmpty 55 = .ok (.putfield 18, 3) := by decide +kernel
theorem dX2_dropEmpty_58 : decode cX2_dropEmpty 58 = .ok (.return_, 1) := by decide +kernel
theorem dX2_clear_0 : decode cX2_clear 0 = .ok (.iconst 0, 1) := by decide +kernel
theorem dX2_clear_1 : decode cX2_clear 1 = .ok (.istore_n 1, 1) := by decide +kernel
theorem dX2_clear_2 : decode cX2_clear 2 = .ok (.iload_n 1, 1) := by decide +kernel
theorem dX2_clear_3 : decode cX2_clear 3 = .ok (.aload_n 0, 1) := by decide +kernel
theorem dX2_clear_4 : decode cX2_clear 4 = .ok (.getfield 18, 3) := by decide +kernel
theorem dX2_clear_7 : decode cX2_clear 7 = .ok (.if_icmp .ge 21, 3) := by decide +kernel
theorem dX2_clear_10 : decode cX2_clear 10 = .ok (.aload_n 0, 1) := by decide +kernel
theorem dX2_clear_11 : decode cX2_clear 11 = .ok (.getfield 11, 3) := by decide +kernel
theorem dX2_clear_14 : decode cX2_clear 14 = .ok (.aload_n 0, 1) := by decide +kernel
theorem dX2_clear_15 : decode cX2_clear 15 = .ok (.getfield 15, 3) := by decide +kernel
theorem dX2_clear_18 : decode cX2_clear 18 = .ok (.iload_n 1, 1) := by decide +kernel
theorem dX2_clear_19 : decode cX2_clear 19 = .ok (.iaload, 1) := by decide +kernel
theorem dX2_clear_20 : decode cX2_clear 20 = .ok (.iconst 0, 1) := by decide +kernel
theorem dX2_clear_21 : decode cX2_clear 21 = .ok (.iastore, 1) := by decide +kernel
theorem dX2_clear_22 : decode cX2_clear 22 = .ok (.iinc 1 1, 3) := by decide +kernel
theorem dX2_clear_25 : decode cX2_clear 25 = .ok (.goto (-23), 3) := by decide +kernel
theorem dX2_clear_28 : decode cX2_clear 28 = .ok (.aload_n 0, 1) := by decide +kernel
theorem dX2_clear_29 : decode cX2_clear 29 = .ok (.iconst 0, 1) := by decide +kernel
theorem dX2_clear_30 : decode cX2_clear 30 = .ok (.putfield 18, 3) := by decide +kernel
theorem dX2_clear_33 : decode cX2_clear 33 = .ok (.aload_n 0, 1) := by decide +kernel
theorem dX2_clear_34 : decode cX2_clear 34 = .ok (.iconst 0, 1) := by decide +kernel
theorem dX2_clear_35 : decode cX2_clear 35 = .ok (.putfield 29, 3) := by decide +kernel
theorem dX2_clear_38 : decode cX2_clear 38 = .ok (.aload_n 0, 1) := by decide +kernel
theorem dX2_clear_39 : decode cX2_clear 39 = .ok (.iconst 0, 1) := by decide +kernel
theorem dX2_clear_40 : decode cX2_clear 40 = .ok (.putfield 32, 3) := by decide +kernel
theorem dX2_clear_43 : decode cX2_clear 43 = .ok (.return_, 1) := by decide +kernel
theorem dX2_copyFrom_0 : decode cX2_copyFrom 0 = .ok (.aload_n 0, 1) := by decide +kernel
theorem dX2_copyFrom_1 : decode cX2_copyFrom 1 = .ok (.invokevirtual 35, 3) := by decide +kernel
theorem dX2_copyFrom_4 : decode cX2_copyFrom 4 = .ok (.aload_n 0, 1) := by decide +kernel
theorem dX2_copyFrom_5 : decode cX2_copyFrom 5 = .ok (.aload_n 1, 1) := by decide +kernel
theorem dX2_copyFrom_6 : decode cX2_copyFrom 6 = .ok (.getfield 29, 3) := by decide +kernel
theorem dX2_copyFrom_9 : decode cX2_copyFrom 9 = .ok (.putfield 29, 3) := by decide +kernel
theorem dX2_copyFrom_12 : decode cX2_copyFrom 12 = .ok (.aload_n 0, 1) := by decide +kernel
theorem dX2_copyFrom_13 : decode cX2_copyFrom 13 = .ok (.aload_n 1, 1) := by decide +kernel
theorem dX2_copyFrom_14 : decode cX2_copyFrom 14 = .ok (.getfield 32, 3) := by decide +kernel
theorem dX2_copyFrom_17 : decode cX2_copyFrom 17 = .ok (.putfield 32, 3) := by decide +kernel
theorem dX2_copyFrom_20 : decode cX2_copyFrom 20 = .ok (.iconst 0, 1) := by decide +kernel
theorem dX2_copyFrom_21 : decode cX2_copyFrom 21 = .ok (.istore_n 2, 1) := by decide +kernel
theorem dX2_copyFrom_22 : decode cX2_copyFrom 22 = .ok (.iload_n 2, 1) := by decide +kernel
theorem dX2_copyFrom_23 : decode cX2_copyFrom 23 = .ok (.aload_n 1, 1) := by decide +kernel
theorem dX2_copyFrom_24 : decode cX2_copyFrom 24 = .ok (.getfield 18, 3) := by decide +kernel
theorem dX2_copyFrom_27 : decode cX2_copyFrom 27 = .ok (.if_icmp .ge 29, 3) := by decide +kernel
theorem dX2_copyFrom_30 : decode cX2_copyFrom 30 = .ok (.aload_n 0, 1) := by decide +kernel
theorem dX2_copyFrom_31 : decode cX2_copyFrom 31 = .ok (.aload_n 1, 1) := by decide +kernel
theorem dX2_copyFrom_32 : decode cX2_copyFrom 32 = .ok (.getfield 15, 3) := by decide +kernel
theorem dX2_copyFrom_35 : decode cX2_copyFrom 35 = .ok (.iload_n 2, 1) := by decide +kernel
theorem dX2_copyFrom_36 : decode cX2_copyFrom 36 = .ok (.iaload, 1) := by decide +kernel
theorem dX2_copyFrom_37 : decode cX2_copyFrom 37 = .ok (.aload_n 1, 1) := by decide +kernel
theorem dX2_copyFrom_38 : decode cX2_copyFrom 38 = .ok (.aload_n 1, 1) := by decide +kernel
theorem dX2_copyFrom_39 : decode cX2_copyFrom 39 = .ok (.getfield 15, 3) := by decide +kernel
theorem dX2_copyFrom_42 : decode cX2_copyFrom 42 = .ok (.iload_n 2, 1) := by decide +kernel
theorem dX2_copyFrom_43 : decode cX2_copyFrom 43 = .ok (.iaload, 1) := by decide +kernel
theorem dX2_copyFrom_44 : decode cX2_copyFrom 44 = .ok (.invokevirtual 26, 3) := by decide +kernel
theorem dX2_copyFrom_47 : decode cX2_copyFrom 47 = .ok (.invokevirtual 38, 3) := by decide +kernel
theorem dX2_copyFrom_50 : decode cX2_copyFrom 50 = .ok (.iinc 2 1, 3) := by decide +kernel
theorem dX2_copyFrom_53 : decode cX2_copyFrom 53 = .ok (.goto (-31), 3) := by decide +kernel
theorem dX2_copyFrom_56 : decode cX2_copyFrom 56 = .ok (.return_, 1) := by decide +kernel
theorem dX3_init_0 : decode cX3_init 0 = .ok (.aload_n 0, 1) := by decide +kernel
theorem dX3_init_1 : decode cX3_init 1 = .ok (.invokespecial 3, 3) := by decide +kernel
theorem dX3_init_4 : decode cX3_init 4 = .ok (.aload_n 0, 1) := by decide +kernel
theorem dX3_init_5 : decode cX3_init 5 = .ok (.new 9, 3) := by decide +kernel
theorem dX3_init_8 : decode cX3_init 8 = .ok (.dup, 1) := by decide +kernel
theorem dX3_init_9 : decode cX3_init 9 = .ok (.invokespecial 11, 3) := by decide +kernel
theorem dX3_init_12 : decode cX3_init 12 = .ok (.putfield 12, 3) := by decide +kernel
theorem dX3_init_15 : decode cX3_init 15 = .ok (.aload_n 0, 1) := by decide +kernel
theorem dX3_init_16 : decode cX3_init 16 = .ok (.iconst (-1), 1) := by decide +kernel
theorem dX3_init_17 : decode cX3_init 17 = .ok (.putfield 18, 3) := by decide +kernel
theorem dX3_init_20 : decode cX3_init 20 = .ok (.aload_n 0, 1) := by decide +kernel
theorem dX3_init_21 : decode cX3_init 21 = .ok (.iconst (-1), 1) := by decide +kernel
theorem dX3_init_22 : decode cX3_init 22 = .ok (.putfield 22, 3) := by decide +kernel
theorem dX3_init_25 : decode cX3_init 25 = .ok (.aload_n 0, 1) := by decide +kernel
theorem dX3_init_26 : decode cX3_init 26 = .ok (.aload_n 1, 1) := by decide +kernel
theorem dX3_init_27 : decode cX3_init 27 = .ok (.putfield 25, 3) := by decide +kernel
theorem dX3_init_30 : decode cX3_init 30 = .ok (.aload_n 0, 1) := by decide +kernel
theorem dX3_init_31 : decode cX3_init 31 = .ok (.aload_n 2, 1) := by decide +kernel
theorem dX3_init_32 : decode cX3_init 32 = .ok (.putfield 29, 3) := by decide +kernel
theorem dX3_init_35 : decode cX3_init 35 = .ok (.return_, 1) := by decide +kernel
theorem dX3_follow_0 : decode cX3_follow 0 = .ok (.aload_n 0, 1) := by decide +kernel
theorem dX3_follow_1 : decode cX3_follow 1 = .ok (.aload_n 1, 1) := by decide +kernel
theorem dX3_follow_2 : decode cX3_follow 2 = .ok (.invokevirtual 33, 3) := by decide +kernel
theorem dX3_follow_5 : decode cX3_follow 5 = .ok (.aload_n 0, 1) := by decide +kernel
theorem dX3_follow_6 : decode cX3_follow 6 = .ok (.getfield 12, 3) := by decide +kernel
theorem dX3_follow_9 : decode cX3_follow 9 = .ok (.aload_n 1, 1) := by decide +kernel
theorem dX3_follow_10 : decode cX3_follow 10 = .ok (.getfield 12, 3) := by decide +kernel
theorem dX3_follow_13 : decode cX3_follow 13 = .ok (.invokevirtual 37, 3) := by decide +kernel
theorem dX3_follow_16 : decode cX3_follow 16 = .ok (.return_, 1) := by decide +kernel
theorem dX3_followTextOf_0 : decode cX3_followTextOf 0 = .ok (.aload_n 0, 1) := by decide +kernel
theorem dX3_followTextOf_1 : decode cX3_followTextOf 1 = .ok (.aload_n 1, 1) := by decide +kernel
theorem dX3_followTextOf_2 : decode cX3_followTextOf 2 = .ok (.getfield 25, 3) := by decide +kernel
theorem dX3_followTextOf_5 : decode cX3_followTextOf 5 = .ok (.putfield 25, 3) := by decide +kernel
theorem dX3_followTextOf_8 : decode cX3_followTextOf 8 = .ok (.aload_n 0, 1) := by decide +kernel
theorem dX3_followTextOf_9 : decode cX3_followTextOf 9 = .ok (.aload_n 1, 1) := by decide +kernel
theorem dX3_followTextOf_10 : decode cX3_followTextOf 10 = .ok (.getfield 29, 3) := by decide +kernel
theorem dX3_followTextOf_13 : decode cX3_followTextOf 13 = .ok (.putfield 29, 3) := by decide +kernel
theorem dX3_followTextOf_16 : decode cX3_followTextOf 16 = .ok (.aload_n 0, 1) := by decide +kernel
theorem dX3_followTextOf_17 : decode cX3_followTextOf 17 = .ok (.iconst (-1), 1) := by decide +kernel
theorem dX3_followTextOf_18 : decode cX3_followTextOf 18 = .ok (.putfield 18, 3) := by decide +kernel
