theorem dX8_init_36 : decode cX8_init 36 = .ok (.sipush 180, 3) := by decide +kernel
theorem dX8_init_39 : decode cX8_init 39 = .ok (.newarray .int, 2) := by decide +kernel
theorem dX8_init_41 : decode cX8_init 41 = .ok (.putfield 24, 3) := by decide +kernel
theorem dX8_init_44 : decode cX8_init 44 = .ok (.aload_n 0, 1) := by decide +kernel
theorem dX8_init_45 : decode cX8_init 45 = .ok (.sipush 180, 3) := by decide +kernel
theorem dX8_init_48 : decode cX8_init 48 = .ok (.newarray .int, 2) := by decide +kernel
theorem dX8_init_50 : decode cX8_init 50 = .ok (.putfield 27, 3) := by decide +kernel
theorem dX8_init_53 : decode cX8_init 53 = .ok (.return_, 1) := by decide +kernel
theorem dX8_clear_0 : decode cX8_clear 0 = .ok (.aload_n 0, 1) := by decide +kernel
theorem dX8_clear_1 : decode cX8_clear 1 = .ok (.iconst 0, 1) := by decide +kernel
theorem dX8_clear_2 : decode cX8_clear 2 = .ok (.putfield 30, 3) := by decide +kernel
theorem dX8_clear_5 : decode cX8_clear 5 = .ok (.aload_n 0, 1) := by decide +kernel
theorem dX8_clear_6 : decode cX8_clear 6 = .ok (.iconst 0, 1) := by decide +kernel
theorem dX8_clear_7 : decode cX8_clear 7 = .ok (.putfield 34, 3) := by decide +kernel
theorem dX8_clear_10 : decode cX8_clear 10 = .ok (.aload_n 0, 1) := by decide +kernel
theorem dX8_clear_11 : decode cX8_clear 11 = .ok (.iconst 0, 1) := by decide +kernel
theorem dX8_clear_12 : decode cX8_clear 12 = .ok (.putfield 37, 3) := by decide +kernel
theorem dX8_clear_15 : decode cX8_clear 15 = .ok (.aload_n 0, 1) := by decide +kernel
theorem dX8_clear_16 : decode cX8_clear 16 = .ok (.iconst 0, 1) := by decide +kernel
theorem dX8_clear_17 : decode cX8_clear 17 = .ok (.putfield 40, 3) := by decide +kernel
theorem dX8_clear_20 : decode cX8_clear 20 = .ok (.iconst 0, 1) := by decide +kernel
theorem dX8_clear_21 : decode cX8_clear 21 = .ok (.istore_n 1, 1) := by decide +kernel
theorem dX8_clear_22 : decode cX8_clear 22 = .ok (.iload_n 1, 1) := by decide +kernel
theorem dX8_clear_23 : decode cX8_clear 23 = .ok (.iconst 4, 1) := by decide +kernel
theorem dX8_clear_24 : decode cX8_clear 24 = .ok (.if_icmp .ge 16, 3) := by decide +kernel
theorem dX8_clear_27 : decode cX8_clear 27 = .ok (.aload_n 0, 1) := by decide +kernel
theorem dX8_clear_28 : decode cX8_clear 28 = .ok (.getfield 15, 3) := by decide +kernel
theorem dX8_clear_31 : decode cX8_clear 31 = .ok (.iload_n 1, 1) := by decide +kernel
theorem dX8_clear_32 : decode cX8_clear 32 = .ok (.iconst 0, 1) := by decide +kernel
theorem dX8_clear_33 : decode cX8_clear 33 = .ok (.iastore, 1) := by decide +kernel
theorem dX8_clear_34 : decode cX8_clear 34 = .ok (.iinc 1 1, 3) := by decide +kernel
theorem dX8_clear_37 : decode cX8_clear 37 = .ok (.goto (-15), 3) := by decide +kernel
theorem dX8_clear_40 : decode cX8_clear 40 = .ok (.iconst 0, 1) := by decide +kernel
theorem dX8_clear_41 : decode cX8_clear 41 = .ok (.istore_n 1, 1) := by decide +kernel
theorem dX8_clear_42 : decode cX8_clear 42 = .ok (.iload_n 1, 1) := by decide +kernel
theorem dX8_clear_43 : decode cX8_clear 43 = .ok (.bipush 12, 2) := by decide +kernel
theorem dX8_clear_45 : decode cX8_clear 45 = .ok (.if_icmp .ge 23, 3) := by decide +kernel
theorem dX8_clear_48 : decode cX8_clear 48 = .ok (.aload_n 0, 1) := by decide +kernel
theorem dX8_clear_49 : decode cX8_clear 49 = .ok (.getfield 18, 3) := by decide +kernel
theorem dX8_clear_52 : decode cX8_clear 52 = .ok (.iload_n 1, 1) := by decide +kernel
theorem dX8_clear_53 : decode cX8_clear 53 = .ok (.iconst 0, 1) := by decide +kernel
theorem dX8_clear_54 : decode cX8_clear 54 = .ok (.iastore, 1) := by decide +kernel
theorem dX8_clear_55 : decode cX8_clear 55 = .ok (.aload_n 0, 1) := by decide +kernel
theorem dX8_clear_56 : decode cX8_clear 56 = .ok (.getfield 21, 3) := by decide +kernel
theorem dX8_clear_59 : decode cX8_clear 59 = .ok (.iload_n 1, 1) := by decide +kernel
theorem dX8_clear_60 : decode cX8_clear 60 = .ok (.iconst 0, 1) := by decide +kernel
theorem dX8_clear_61 : decode cX8_clear 61 = .ok (.iastore, 1) := by decide +kernel
theorem dX8_clear_62 : decode cX8_clear 62 = .ok (.iinc 1 1, 3) := by decide +kernel
theorem dX8_clear_65 : decode cX8_clear 65 = .ok (.goto (-23), 3) := by decide +kernel
theorem dX8_clear_68 : decode cX8_clear 68 = .ok (.return_, 1) := by decide +kernel
theorem dX8_copyFrom_0 : decode cX8_copyFrom 0 = .ok (.aload_n 0, 1) := by decide +kernel
theorem dX8_copyFrom_1 : decode cX8_copyFrom 1 = .ok (.aload_n 1, 1) := by decide +kernel
theorem dX8_copyFrom_2 : decode cX8_copyFrom 2 = .ok (.getfield 30, 3) := by decide +kernel
theorem dX8_copyFrom_5 : decode cX8_copyFrom 5 = .ok (.putfield 30, 3) := by decide +kernel
theorem dX8_copyFrom_8 : decode cX8_copyFrom 8 = .ok (.aload_n 0, 1) := by decide +kernel
theorem dX8_copyFrom_9 : decode cX8_copyFrom 9 = .ok (.aload_n 1, 1) := by decide +kernel
theorem dX8_copyFrom_10 : decode cX8_copyFrom 10 = .ok (.getfield 34, 3) := by decide +kernel
theorem dX8_copyFrom_13 : decode cX8_copyFrom 13 = .ok (.putfield 34, 3) := by decide +kernel
theorem dX8_copyFrom_16 : decode cX8_copyFrom 16 = .ok (.aload_n 0, 1) := by decide +kernel
theorem dX8_copyFrom_17 : decode cX8_copyFrom 17 = .ok (.aload_n 1, 1) := by decide +kernel
theorem dX8_copyFrom_18 : decode cX8_copyFrom 18 = .ok (.getfield 37, 3) := by decide +kernel
theorem dX8_copyFrom_21 : decode cX8_copyFrom 21 = .ok (.putfield 37, 3) := by decide +kernel
theorem dX8_copyFrom_24 : decode cX8_copyFrom 24 = .ok (.aload_n 0, 1) := by decide +kernel
theorem dX8_copyFrom_25 : decode cX8_copyFrom 25 = .ok (.aload_n 1, 1) := by decide +kernel
theorem dX8_copyFrom_26 : decode cX8_copyFrom 26 = .ok (.getfield 40, 3) := by decide +kernel
theorem dX8_copyFrom_29 : decode cX8_copyFrom 29 = .ok (.putfield 40, 3) := by decide +kernel
theorem dX8_copyFrom_32 : decode cX8_copyFrom 32 = .ok (.aload_n 1, 1) := by decide +kernel
theorem dX8_copyFrom_33 : decode cX8_copyFrom 33 = .ok (.getfield 9, 3) := by decide +kernel
theorem dX8_copyFrom_36 : decode cX8_copyFrom 36 = .ok (.iconst 0, 1) := by decide +kernel
theorem dX8_copyFrom_37 : decode cX8_copyFrom 37 = .ok (.aload_n 0, 1) := by decide +kernel
theorem dX8_copyFrom_38 : decode cX8_copyFrom 38 = .ok (.getfield 9, 3) := by decide +kernel
theorem dX8_copyFrom_41 : decode cX8_copyFrom 41 = .ok (.iconst 0, 1) := by decide +kernel
theorem dX8_copyFrom_42 : decode cX8_copyFrom 42 = .ok (.bipush 24, 2) := by decide +kernel
theorem dX8_copyFrom_44 : decode cX8_copyFrom 44 = .ok (.invokestatic 43, 3) := by decide +kernel
theorem dX8_copyFrom_47 : decode cX8_copyFrom 47 = .ok (.aload_n 1, 1) := by decide +kernel
theorem dX8_copyFrom_48 : decode cX8_copyFrom 48 = .ok (.getfield 15, 3) := by decide +kernel
theorem dX8_copyFrom_51 : decode cX8_copyFrom 51 = .ok (.iconst 0, 1) := by decide +kernel
theorem dX8_copyFrom_52 : decode cX8_copyFrom 52 = .ok (.aload_n 0, 1) := by decide +kernel
theorem dX8_copyFrom_53 : decode cX8_copyFrom 53 = .ok (.getfield 15, 3) := by decide +kernel
theorem dX8_copyFrom_56 : decode cX8_copyFrom 56 = .ok (.iconst 0, 1) := by decide +kernel
theorem dX8_copyFrom_57 : decode cX8_copyFrom 57 = .ok (.iconst 4, 1) := by decide +kernel
theorem dX8_copyFrom_58 : decode cX8_copyFrom 58 = .ok (.invokestatic 43, 3) := by decide +kernel
theorem dX8_copyFrom_61 : decode cX8_copyFrom 61 = .ok (.aload_n 1, 1) := by decide +kernel
theorem dX8_copyFrom_62 : decode cX8_copyFrom 62 = .ok (.getfield 18, 3) := by decide +kernel
theorem dX8_copyFrom_65 : decode cX8_copyFrom 65 = .ok (.iconst 0, 1) := by decide +kernel
theorem dX8_copyFrom_66 : decode cX8_copyFrom 66 = .ok (.aload_n 0, 1) := by decide +kernel
theorem dX8_copyFrom_67 : decode cX8_copyFrom 67 = .ok (.getfield 18, 3) := by decide +kernel
theorem dX8_copyFrom_70 : decode cX8_copyFrom 70 = .ok (.iconst 0, 1) := by decide +kernel
theorem dX8_copyFrom_71 : decode cX8_copyFrom 71 = .ok (.bipush 12, 2) := by decide +kernel
theorem dX8_copyFrom_73 : decode cX8_copyFrom 73 = .ok (.invokestatic 43, 3) := by decide +kernel
theorem dX8_copyFrom_76 : decode cX8_copyFrom 76 = .ok (.aload_n 1, 1) := by decide +kernel
theorem dX8_copyFrom_77 : decode cX8_copyFrom 77 = .ok (.getfield 21, 3) := by decide +kernel
theorem dX8_copyFrom_80 : decode cX8_copyFrom 80 = .ok (.iconst 0, 1) := by decide +kernel
theorem dX8_copyFrom_81 : decode cX8_copyFrom 81 = .ok (.aload_n 0, 1) := by decide +kernel
theorem dX8_copyFrom_82 : decode cX8_copyFrom 82 = .ok (.getfield 21, 3) := by decide +kernel
theorem dX8_copyFrom_85 : decode cX8_copyFrom 85 = .ok (.iconst 0, 1) := by decide +kernel
theorem dX8_copyFrom_86 : decode cX8_copyFrom 86 = .ok (.bipush 12, 2) := by decide +kernel
theorem dX8_copyFrom_88 : decode cX8_copyFrom 88 = .ok (.invokestatic 43, 3) := by decide +kernel
theorem dX8_copyFrom_91 : decode cX8_copyFrom 91 = .ok (.aload_n 1, 1) := by decide +kernel
theorem dX8_copyFrom_92 : decode cX8_copyFrom 92 = .ok (.getfield 24, 3) := by decide +kernel
theorem dX8_copyFrom_95 : decode cX8_copyFrom 95 = .ok (.iconst 0, 1) := by decide +kernel
theorem dX8_copyFrom_96 : decode cX8_copyFrom 96 = .ok (.aload_n 0, 1) := by decide +kernel
theorem dX8_copyFrom_97 : decode cX8_copyFrom 97 = .ok (.getfield 24, 3) := by decide +kernel
theorem dX8_copyFrom_100 : decode cX8_copyFrom 100 = .ok (.iconst 0, 1) := by decide +kernel
theorem dX8_copyFrom_101 : decode cX8_copyFrom 101 = .ok (.aload_n 0, 1) := by decide +kernel
theorem dX8_copyFrom_102 : decode cX8_copyFrom 102 = .ok (.getfield 40, 3) := by decide +kernel
theorem dX8_copyFrom_105 : decode cX8_copyFrom 105 = .ok (.invokestatic 43, 3) := by decide +kernel
theorem dX8_copyFrom_108 : decode cX8_copyFrom 108 = .ok (.aload_n 1, 1) := by decide +kernel
theorem dX8_copyFrom_109 : decode cX8_copyFrom 109 = .ok (.getfield 27, 3) := by decide +kernel
theorem dX8_copyFrom_112 : decode cX8_copyFrom 112 = .ok (.iconst 0, 1) := by decide +kernel
theorem dX8_copyFrom_113 : decode cX8_copyFrom 113 = .ok (.aload_n 0, 1) := by decide +kernel
theorem dX8_copyFrom_114 : decode cX8_copyFrom 114 = .ok (.getfield 27, 3) := by decide +kernel
theorem dX8_copyFrom_117 : decode cX8_copyFrom 117 = .ok (.iconst 0, 1) := by decide +kernel
theorem dX8_copyFrom_118 : decode cX8_copyFrom 118 = .ok (.aload_n 0, 1) := by decide +kernel
theorem dX8_copyFrom_119 : decode cX8_copyFrom 119 = .ok (.getfield 40, 3) := by decide +kernel
theorem dX8_copyFrom_122 : decode cX8_copyFrom 122 = .ok (.invokestatic 43, 3) := by decide +kernel
theorem dX8_copyFrom_125 : decode cX8_copyFrom 125 = .ok (.return_, 1) := by decide +kernel
theorem dX8_hasThing_0 : decode cX8_hasThing 0 = .ok (.iload_n 1, 1) := by decide +kernel
theorem dX8_hasThing_1 : decode cX8_hasThing 1 = .ok (.ifCond .lt 15, 3) := by decide +kernel
theorem dX8_hasThing_4 : decode cX8_hasThing 4 = .ok (.iload_n 1, 1) := by decide +kernel
theorem dX8_hasThing_5 : decode cX8_hasThing 5 = .ok (.aload_n 0, 1) := by decide +kernel
theorem dX8_hasThing_6 : decode cX8_hasThing 6 = .ok (.getfield 30, 3) := by decide +kernel
theorem dX8_hasThing_9 : decode cX8_hasThing 9 = .ok (.if_icmp .ge 7, 3) := by decide +kernel
theorem dX8_hasThing_12 : decode cX8_hasThing 12 = .ok (.iconst 1, 1) := by decide +kernel
theorem dX8_hasThing_13 : decode cX8_hasThing 13 = .ok (.goto 4, 3) := by decide +kernel
theorem dX8_hasThing_16 : decode cX8_hasThing 16 = .ok (.iconst 0, 1) := by decide +kernel
theorem dX8_hasThing_17 : decode cX8_hasThing 17 = .ok (.ireturn, 1) := by decide +kernel
theorem dX8_hasLaw_0 : decode cX8_hasLaw 0 = .ok (.aload_n 0, 1) := by decide +kernel
theorem dX8_hasLaw_1 : decode cX8_hasLaw 1 = .ok (.getfield 21, 3) := by decide +kernel
theorem dX8_hasLaw_4 : decode cX8_hasLaw 4 = .ok (.iload_n 1, 1) := by decide +kernel
theorem dX8_hasLaw_5 : decode cX8_hasLaw 5 = .ok (.iaload, 1) := by decide +kernel
theorem dX8_hasLaw_6 : decode cX8_hasLaw 6 = .ok (.aload_n 0, 1) := by decide +kernel
theorem dX8_hasLaw_7 : decode cX8_hasLaw 7 = .ok (.getfield 18, 3) := by decide +kernel
theorem dX8_hasLaw_10 : decode cX8_hasLaw 10 = .ok (.iload_n 1, 1) := by decide +kernel
theorem dX8_hasLaw_11 : decode cX8_hasLaw 11 = .ok (.iaload, 1) := by decide +kernel
theorem dX8_hasLaw_12 : decode cX8_hasLaw 12 = .ok (.if_icmp .le 7, 3) := by decide +kernel
theorem dX8_hasLaw_15 : decode cX8_hasLaw 15 = .ok (.iconst 1, 1) := by decide +kernel
theorem dX8_hasLaw_16 : decode cX8_hasLaw 16 = .ok (.goto 4, 3) := by decide +kernel
theorem dX8_hasLaw_19 : decode cX8_hasLaw 19 = .ok (.iconst 0, 1) := by decide +kernel
theorem dX8_hasLaw_20 : decode cX8_hasLaw 20 = .ok (.ireturn, 1) := by decide +kernel
theorem dX8_addThing_0 : decode cX8_addThing 0 = .ok (.aload_n 0, 1) := by decide +kernel
theorem dX8_addThing_1 : decode cX8_addThing 1 = .ok (.getfield 30, 3) := by decide +kernel
theorem dX8_addThing_4 : decode cX8_addThing 4 = .ok (.bipush 24, 2) := by decide +kernel
theorem dX8_addThing_6 : decode cX8_addThing 6 = .ok (.if_icmp .ge 23, 3) := by decide +kernel
theorem dX8_addThing_9 : decode cX8_addThing 9 = .ok (.aload_n 0, 1) := by decide +kernel
theorem dX8_addThing_10 : decode cX8_addThing 10 = .ok (.getfield 9, 3) := by decide +kernel
theorem dX8_addThing_13 : decode cX8_addThing 13 = .ok (.aload_n 0, 1) := by decide +kernel
theorem dX8_addThing_14 : decode cX8_addThing 14 = .ok (.getfield 30, 3) := by decide +kernel
theorem dX8_addThing_17 : decode cX8_addThing 17 = .ok (.iload_n 1, 1) := by decide +kernel
theorem dX8_addThing_18 : decode cX8_addThing 18 = .ok (.iastore, 1) := by decide +kernel
theorem dX8_addThing_19 : decode cX8_addThing 19 = .ok (.aload_n 0, 1) := by decide +kernel
theorem dX8_addThing_20 : decode cX8_addThing 20 = .ok (.dup, 1) := by decide +kernel
theorem dX8_addThing_21 : decode cX8_addThing 21 = .ok (.getfield 30, 3) := by decide +kernel
theorem dX8_addThing_24 : decode cX8_addThing 24 = .ok (.iconst 1, 1) := by decide +kernel
theorem dX8_addThing_25 : decode cX8_addThing 25 = .ok (.iadd, 1) := by decide +kernel
theorem dX8_addThing_26 : decode cX8_addThing 26 = .ok (.putfield 30, 3) := by decide +kernel
theorem dX8_addThing_29 : decode cX8_addThing 29 = .ok (.return_, 1) := by decide +kernel
theorem dX8_beginLaw_0 : decode cX8_beginLaw 0 = .ok (.aload_n 0, 1) := by decide +kernel
theorem dX8_beginLaw_1 : decode cX8_beginLaw 1 = .ok (.getfield 18, 3) := by decide +kernel
theorem dX8_beginLaw_4 : decode cX8_beginLaw 4 = .ok (.iload_n 1, 1) := by decide +kernel
theorem dX8_beginLaw_5 : decode cX8_beginLaw 5 = .ok (.aload_n 0, 1) := by decide +kernel
theorem dX8_beginLaw_6 : decode cX8_beginLaw 6 = .ok (.getfield 40, 3) := by decide +kernel
theorem dX8_beginLaw_9 : decode cX8_beginLaw 9 = .ok (.iastore, 1) := by decide +kernel
theorem dX8_beginLaw_10 : decode cX8_beginLaw 10 = .ok (.aload_n 0, 1) := by decide +kernel
theorem dX8_beginLaw_11 : decode cX8_beginLaw 11 = .ok (.getfield 21, 3) := by decide +kernel
theorem dX8_beginLaw_14 : decode cX8_beginLaw 14 = .ok (.iload_n 1, 1) := by decide +kernel
theorem dX8_beginLaw_15 : decode cX8_beginLaw 15 = .ok (.aload_n 0, 1) := by decide +kernel
theorem dX8_beginLaw_16 : decode cX8_beginLaw 16 = .ok (.getfield 40, 3) := by decide +kernel
theorem dX8_beginLaw_19 : decode cX8_beginLaw 19 = .ok (.iastore, 1) := by decide +kernel
theorem dX8_beginLaw_20 : decode cX8_beginLaw 20 = .ok (.return_, 1) := by decide +kernel
theorem dX8_addPart_0 : decode cX8_addPart 0 = .ok (.aload_n 0, 1) := by decide +kernel
theorem dX8_addPart_1 : decode cX8_addPart 1 = .ok (.getfield 40, 3) := by decide +kernel
theorem dX8_addPart_4 : decode cX8_addPart 4 = .ok (.sipush 180, 3) := by decide +kernel
theorem dX8_addPart_7 : decode cX8_addPart 7 = .ok (.if_icmp .ge 43, 3) := by decide +kernel
theorem dX8_addPart_10 : decode cX8_addPart 10 = .ok (.aload_n 0, 1) := by decide +kernel
theorem dX8_addPart_11 : decode cX8_addPart 11 = .ok (.getfield 24, 3) := by decide +kernel
theorem dX8_addPart_14 : decode cX8_addPart 14 = .ok (.aload_n 0, 1) := by decide +kernel
theorem dX8_addPart_15 : decode cX8_addPart 15 = .ok (.getfield 40, 3) := by decide +kernel
theorem dX8_addPart_18 : decode cX8_addPart 18 = .ok (.iload_n 2, 1) := by decide +kernel
theorem dX8_addPart_19 : decode cX8_addPart 19 = .ok (.iastore, 1) := by decide +kernel
theorem dX8_addPart_20 : decode cX8_addPart 20 = .ok (.aload_n 0, 1) := by decide +kernel
theorem dX8_addPart_21 : decode cX8_addPart 21 = .ok (.getfield 27, 3) := by decide +kernel
theorem dX8_addPart_24 : decode cX8_addPart 24 = .ok (.aload_n 0, 1) := by decide +kernel
theorem dX8_addPart_25 : decode cX8_addPart 25 = .ok (.getfield 40, 3) := by decide +kernel
theorem dX8_addPart_28 : decode cX8_addPart 28 = .ok (.iload_n 3, 1) := by decide +kernel
theorem dX8_addPart_29 : decode cX8_addPart 29 = .ok (.iastore, 1) := by decide +kernel
theorem dX8_addPart_30 : decode cX8_addPart 30 = .ok (.aload_n 0, 1) := by decide +kernel
theorem dX8_addPart_31 : decode cX8_addPart 31 = .ok (.dup, 1) := by decide +kernel
theorem dX8_addPart_32 : decode cX8_addPart 32 = .ok (.getfield 40, 3) := by decide +kernel
theorem dX8_addPart_35 : decode cX8_addPart 35 = .ok (.iconst 1, 1) := by decide +kernel
theorem dX8_addPart_36 : decode cX8_addPart 36 = .ok (.iadd, 1) := by decide +kernel
theorem dX8_addPart_37 : decode cX8_addPart 37 = .ok (.putfield 40, 3) := by decide +kernel
theorem dX8_addPart_40 : decode cX8_addPart 40 = .ok (.aload_n 0, 1) := by decide +kernel
theorem dX8_addPart_41 : decode cX8_addPart 41 = .ok (.getfield 21, 3) := by decide +kernel
theorem dX8_addPart_44 : decode cX8_addPart 44 = .ok (.iload_n 1, 1) := by decide +kernel
theorem dX8_addPart_45 : decode cX8_addPart 45 = .ok (.aload_n 0, 1) := by decide +kernel
theorem dX8_addPart_46 : decode cX8_addPart 46 = .ok (.getfield 40, 3) := by decide +kernel
theorem dX8_addPart_49 : decode cX8_addPart 49 = .ok (.iastore, 1) := by decide +kernel
theorem dX8_addPart_50 : decode cX8_addPart 50 = .ok (.return_, 1) := by decide +kernel
theorem dX8_sumOf_0 : decode cX8_sumOf 0 = .ok (.lconst 0, 1) := by decide +kernel
theorem dX8_sumOf_1 : decode cX8_sumOf 1 = .ok (.lstore 6, 2) := by decide +kernel
theorem dX8_sumOf_3 : decode cX8_sumOf 3 = .ok (.lconst 0, 1) := by decide +kernel
theorem dX8_sumOf_4 : decode cX8_sumOf 4 = .ok (.lstore 8, 2) := by decide +kernel
theorem dX8_sumOf_6 : decode cX8_sumOf 6 = .ok (.iconst 0, 1) := by decide +kernel
theorem dX8_sumOf_7 : decode cX8_sumOf 7 = .ok (.istore 10, 2) := by decide +kernel
theorem dX8_sumOf_9 : decode cX8_sumOf 9 = .ok (.aload_n 0, 1) := by decide +kernel
theorem dX8_sumOf_10 : decode cX8_sumOf 10 = .ok (.getfield 18, 3) := by decide +kernel
theorem dX8_sumOf_13 : decode cX8_sumOf 13 = .ok (.iload_n 1, 1) := by decide +kernel
theorem dX8_sumOf_14 : decode cX8_sumOf 14 = .ok (.iaload, 1) := by decide +kernel
theorem dX8_sumOf_15 : decode cX8_sumOf 15 = .ok (.istore 11, 2) := by decide +kernel
theorem dX8_sumOf_17 : decode cX8_sumOf 17 = .ok (.iload 11, 2) := by decide +kernel
theorem dX8_sumOf_19 : decode cX8_sumOf 19 = .ok (.aload_n 0, 1) := by decide +kernel
theorem dX8_sumOf_20 : decode cX8_sumOf 20 = .ok (.getfield 21, 3) := by decide +kernel
theorem dX8_sumOf_23 : decode cX8_sumOf 23 = .ok (.iload_n 1, 1) := by decide +kernel
theorem dX8_sumOf_24 : decode cX8_sumOf 24 = .ok (.iaload, 1) := by decide +kernel
theorem dX8_sumOf_25 : decode cX8_sumOf 25 = .ok (.if_icmp .ge 243, 3) := by decide +kernel
theorem dX8_sumOf_28 : decode cX8_sumOf 28 = .ok (.aload_n 0, 1) := by decide +kernel
theorem dX8_sumOf_29 : decode cX8_sumOf 29 = .ok (.getfield 27, 3) := by decide +kernel
theorem dX8_sumOf_32 : decode cX8_sumOf 32 = .ok (.iload 11, 2) := by decide +kernel
theorem dX8_sumOf_34 : decode cX8_sumOf 34 = .ok (.iaload, 1) := by decide +kernel
theorem dX8_sumOf_35 : decode cX8_sumOf 35 = .ok (.i2l, 1) := by decide +kernel
theorem dX8_sumOf_36 : decode cX8_sumOf 36 = .ok (.lstore 12, 2) := by decide +kernel
theorem dX8_sumOf_38 : decode cX8_sumOf 38 = .ok (.aload_n 0, 1) := by decide +kernel
theorem dX8_sumOf_39 : decode cX8_sumOf 39 = .ok (.getfield 27, 3) := by decide +kernel
theorem dX8_sumOf_42 : decode cX8_sumOf 42 = .ok (.iload 11, 2) := by decide +kernel
theorem dX8_sumOf_44 : decode cX8_sumOf 44 = .ok (.iaload, 1) := by decide +kernel
theorem dX8_sumOf_45 : decode cX8_sumOf 45 = .ok (.tableswitch 84 (-5) (-1) #[73, 65, 53, 42, 35], 35) := by decide +kernel
theorem dX8_sumOf_80 : decode cX8_sumOf 80 = .ok (.iload_n 2, 1) := by decide +kernel
theorem dX8_sumOf_81 : decode cX8_sumOf 81 = .ok (.i2l, 1) := by decide +kernel
theorem dX8_sumOf_82 : decode cX8_sumOf 82 = .ok (.lstore 12, 2) := by decide +kernel
theorem dX8_sumOf_84 : decode cX8_sumOf 84 = .ok (.goto 45, 3) := by decide +kernel
theorem dX8_sumOf_87 : decode cX8_sumOf 87 = .ok (.sipush 1000, 3) := by decide +kernel
theorem dX8_sumOf_90 : decode cX8_sumOf 90 = .ok (.iload_n 2, 1) := by decide +kernel
theorem dX8_sumOf_91 : decode cX8_sumOf 91 = .ok (.isub, 1) := by decide +kernel
theorem dX8_sumOf_92 : decode cX8_sumOf 92 = .ok (.i2l, 1) := by decide +kernel
theorem dX8_sumOf_93 : decode cX8_sumOf 93 = .ok (.lstore 12, 2) := by decide +kernel
theorem dX8_sumOf_95 : decode cX8_sumOf 95 = .ok (.goto 34, 3) := by decide +kernel
theorem dX8_sumOf_98 : decode cX8_sumOf 98 = .ok (.aload_n 0, 1) := by decide +kernel
theorem dX8_sumOf_99 : decode cX8_sumOf 99 = .ok (.getfield 9, 3) := by decide +kernel
theorem dX8_sumOf_102 : decode cX8_sumOf 102 = .ok (.iload_n 3, 1) := by decide +kernel
theorem dX8_sumOf_103 : decode cX8_sumOf 103 = .ok (.iaload, 1) := by decide +kernel
theorem dX8_sumOf_104 : decode cX8_sumOf 104 = .ok (.i2l, 1) := by decide +kernel
theorem dX8_sumOf_105 : decode cX8_sumOf 105 = .ok (.lstore 12, 2) := by decide +kernel
theorem dX8_sumOf_107 : decode cX8_sumOf 107 = .ok (.goto 22, 3) := by decide +kernel
theorem dX8_sumOf_110 : decode cX8_sumOf 110 = .ok (.iload 4, 2) := by decide +kernel
theorem dX8_sumOf_112 : decode cX8_sumOf 112 = .ok (.i2l, 1) := by decide +kernel
theorem dX8_sumOf_113 : decode cX8_sumOf 113 = .ok (.lstore 12, 2) := by decide +kernel
theorem dX8_sumOf_115 : decode cX8_sumOf 115 = .ok (.goto 14, 3) := by decide +kernel
theorem dX8_sumOf_118 : decode cX8_sumOf 118 = .ok (.iload 5, 2) := by decide +kernel
theorem dX8_sumOf_120 : decode cX8_sumOf 120 = .ok (.bipush 24, 2) := by decide +kernel
theorem dX8_sumOf_122 : decode cX8_sumOf 122 = .ok (.irem, 1) := by decide +kernel
theorem dX8_sumOf_123 : decode cX8_sumOf 123 = .ok (.i2l, 1) := by decide +kernel
theorem dX8_sumOf_124 : decode cX8_sumOf 124 = .ok (.lstore 12, 2) := by decide +kernel
theorem dX8_sumOf_126 : decode cX8_sumOf 126 = .ok (.goto 3, 3) := by decide +kernel
theorem dX8_sumOf_129 : decode cX8_sumOf 129 = .ok (.aload_n 0, 1) := by decide +kernel
theorem dX8_sumOf_130 : decode cX8_sumOf 130 = .ok (.getfield 24, 3) := by decide +kernel
theorem dX8_sumOf_133 : decode cX8_sumOf 133 = .ok (.iload 11, 2) := by decide +kernel
theorem dX8_sumOf_135 : decode cX8_sumOf 135 = .ok (.iaload, 1) := by decide +kernel
theorem dX8_sumOf_136 : decode cX8_sumOf 136 = .ok (.iconst 3, 1) := by decide +kernel
theorem dX8_sumOf_137 : decode cX8_sumOf 137 = .ok (.if_icmp .ne 12, 3) := by decide +kernel
theorem dX8_sumOf_140 : decode cX8_sumOf 140 = .ok (.lload 12, 2) := by decide +kernel
theorem dX8_sumOf_142 : decode cX8_sumOf 142 = .ok (.lconst 0, 1) := by decide +kernel
theorem dX8_sumOf_143 : decode cX8_sumOf 143 = .ok (.lcmp, 1) := by decide +kernel
theorem dX8_sumOf_144 : decode cX8_sumOf 144 = .ok (.ifCond .ne 5, 3) := by decide +kernel
theorem dX8_sumOf_147 : decode cX8_sumOf 147 = .ok (.lconst 0, 1) := by decide +kernel
theorem dX8_sumOf_148 : decode cX8_sumOf 148 = .ok (.lreturn, 1) := by decide +kernel
theorem dX8_sumOf_149 : decode cX8_sumOf 149 = .ok (.aload_n 0, 1) := by decide +kernel
theorem dX8_sumOf_150 : decode cX8_sumOf 150 = .ok (.getfield 24, 3) := by decide +kernel
theorem dX8_sumOf_153 : decode cX8_sumOf 153 = .ok (.iload 11, 2) := by decide +kernel
theorem dX8_sumOf_155 : decode cX8_sumOf 155 = .ok (.iaload, 1) := by decide +kernel
theorem dX8_sumOf_156 : decode cX8_sumOf 156 = .ok (.iconst 2, 1) := by decide +kernel
theorem dX8_sumOf_157 : decode cX8_sumOf 157 = .ok (.if_icmp .ne 13, 3) := by decide +kernel
theorem dX8_sumOf_160 : decode cX8_sumOf 160 = .ok (.lload 8, 2) := by decide +kernel
theorem dX8_sumOf_162 : decode cX8_sumOf 162 = .ok (.lload 12, 2) := by decide +kernel
theorem dX8_sumOf_164 : decode cX8_sumOf 164 = .ok (.lmul, 1) := by decide +kernel
theorem dX8_sumOf_165 : decode cX8_sumOf 165 = .ok (.lstore 8, 2) := by decide +kernel
theorem dX8_sumOf_167 : decode cX8_sumOf 167 = .ok (.goto 66, 3) := by decide +kernel
theorem dX8_sumOf_170 : decode cX8_sumOf 170 = .ok (.aload_n 0, 1) := by decide +kernel
theorem dX8_sumOf_171 : decode cX8_sumOf 171 = .ok (.getfield 24, 3) := by decide +kernel
theorem dX8_sumOf_174 : decode cX8_sumOf 174 = .ok (.iload 11, 2) := by decide +kernel
theorem dX8_sumOf_176 : decode cX8_sumOf 176 = .ok (.iaload, 1) := by decide +kernel
theorem dX8_sumOf_177 : decode cX8_sumOf 177 = .ok (.iconst 3, 1) := by decide +kernel
theorem dX8_sumOf_178 : decode cX8_sumOf 178 = .ok (.if_icmp .ne 13, 3) := by decide +kernel
theorem dX8_sumOf_181 : decode cX8_sumOf 181 = .ok (.lload 8, 2) := by decide +kernel
theorem dX8_sumOf_183 : decode cX8_sumOf 183 = .ok (.lload 12, 2) := by decide +kernel
theorem dX8_sumOf_185 : decode cX8_sumOf 185 = .ok (.ldiv, 1) := by decide +kernel
theorem dX8_sumOf_186 : decode cX8_sumOf 186 = .ok (.lstore 8, 2) := by decide +kernel
theorem dX8_sumOf_188 : decode cX8_sumOf 188 = .ok (.goto 45, 3) := by decide +kernel
theorem dX8_sumOf_191 : decode cX8_sumOf 191 = .ok (.iload 10, 2) := by decide +kernel
theorem dX8_sumOf_193 : decode cX8_sumOf 193 = .ok (.ifCond .eq 11, 3) := by decide +kernel
theorem dX8_sumOf_196 : decode cX8_sumOf 196 = .ok (.lload 6, 2) := by decide +kernel
theorem dX8_sumOf_198 : decode cX8_sumOf 198 = .ok (.lload 8, 2) := by decide +kernel
theorem dX8_sumOf_200 : decode cX8_sumOf 200 = .ok (.lsub, 1) := by decide +kernel
theorem dX8_sumOf_201 : decode cX8_sumOf 201 = .ok (.goto 8, 3) := by decide +kernel
theorem dX8_sumOf_204 : decode cX8_sumOf 204 = .ok (.lload 6, 2) := by decide +kernel
theorem dX8_sumOf_206 : decode cX8_sumOf 206 = .ok (.lload 8, 2) := by decide +kernel
theorem dX8_sumOf_208 : decode cX8_sumOf 208 = .ok (.ladd, 1) := by decide +kernel
theorem dX8_sumOf_209 : decode cX8_sumOf 209 = .ok (.lstore 6, 2) := by decide +kernel
theorem dX8_sumOf_211 : decode cX8_sumOf 211 = .ok (.aload_n 0, 1) := by decide +kernel
theorem dX8_sumOf_212 : decode cX8_sumOf 212 = .ok (.getfield 24, 3) := by decide +kernel
theorem dX8_sumOf_215 : decode cX8_sumOf 215 = .ok (.iload 11, 2) := by decide +kernel
theorem dX8_sumOf_217 : decode cX8_sumOf 217 = .ok (.iaload, 1) := by decide +kernel
theorem dX8_sumOf_218 : decode cX8_sumOf 218 = .ok (.iconst 1, 1) := by decide +kernel
theorem dX8_sumOf_219 : decode cX8_sumOf 219 = .ok (.if_icmp .ne 7, 3) := by decide +kernel
theorem dX8_sumOf_222 : decode cX8_sumOf 222 = .ok (.iconst 1, 1) := by decide +kernel
theorem dX8_sumOf_223 : decode cX8_sumOf 223 = .ok (.goto 4, 3) := by decide +kernel
theorem dX8_sumOf_226 : decode cX8_sumOf 226 = .ok (.iconst 0, 1) := by decide +kernel
theorem dX8_sumOf_227 : decode cX8_sumOf 227 = .ok (.istore 10, 2) := by decide +kernel
theorem dX8_sumOf_229 : decode cX8_sumOf 229 = .ok (.lload 12, 2) := by decide +kernel
theorem dX8_sumOf_231 : decode cX8_sumOf 231 = .ok (.lstore 8, 2) := by decide +kernel
theorem dX8_sumOf_233 : decode cX8_sumOf 233 = .ok (.lload 8, 2) := by decide +kernel
theorem dX8_sumOf_235 : decode cX8_sumOf 235 = .ok (.ldc2_w 49, 3) := by decide +kernel
theorem dX8_sumOf_238 : decode cX8_sumOf 238 = .ok (.lcmp, 1) := by decide +kernel
theorem dX8_sumOf_239 : decode cX8_sumOf 239 = .ok (.ifCond .gt 21, 3) := by decide +kernel
theorem dX8_sumOf_242 : decode cX8_sumOf 242 = .ok (.lload 6, 2) := by decide +kernel
theorem dX8_sumOf_244 : decode cX8_sumOf 244 = .ok (.ldc2_w 49, 3) := by decide +kernel
theorem dX8_sumOf_247 : decode cX8_sumOf 247 = .ok (.lcmp, 1) := by decide +kernel
theorem dX8_sumOf_248 : decode cX8_sumOf 248 = .ok (.ifCond .gt 12, 3) := by decide +kernel
theorem dX8_sumOf_251 : decode cX8_sumOf 251 = .ok (.lload 6, 2) := by decide +kernel
theorem dX8_sumOf_253 : decode cX8_sumOf 253 = .ok (.ldc2_w 51, 3) := by decide +kernel
theorem dX8_sumOf_256 : decode cX8_sumOf 256 = .ok (.lcmp, 1) := by decide +kernel
theorem dX8_sumOf_257 : decode cX8_sumOf 257 = .ok (.ifCond .ge 5, 3) := by decide +kernel
theorem dX8_sumOf_260 : decode cX8_sumOf 260 = .ok (.lconst 0, 1) := by decide +kernel
theorem dX8_sumOf_261 : decode cX8_sumOf 261 = .ok (.lreturn, 1) := by decide +kernel
theorem dX8_sumOf_262 : decode cX8_sumOf 262 = .ok (.iinc 11 1, 3) := by decide +kernel
theorem dX8_sumOf_265 : decode cX8_sumOf 265 = .ok (.goto (-248), 3) := by decide +kernel
theorem dX8_sumOf_268 : decode cX8_sumOf 268 = .ok (.iload 10, 2) := by decide +kernel
theorem dX8_sumOf_270 : decode cX8_sumOf 270 = .ok (.ifCond .eq 11, 3) := by decide +kernel
theorem dX8_sumOf_273 : decode cX8_sumOf 273 = .ok (.lload 6, 2) := by decide +kernel
theorem dX8_sumOf_275 : decode cX8_sumOf 275 = .ok (.lload 8, 2) := by decide +kernel
theorem dX8_sumOf_277 : decode cX8_sumOf 277 = .ok (.lsub, 1) := by decide +kernel
theorem dX8_sumOf_278 : decode cX8_sumOf 278 = .ok (.goto 8, 3) := by decide +kernel
theorem dX8_sumOf_281 : decode cX8_sumOf 281 = .ok (.lload 6, 2) := by decide +kernel
theorem dX8_sumOf_283 : decode cX8_sumOf 283 = .ok (.lload 8, 2) := by decide +kernel
theorem dX8_sumOf_285 : decode cX8_sumOf 285 = .ok (.ladd, 1) := by decide +kernel
theorem dX8_sumOf_286 : decode cX8_sumOf 286 = .ok (.lstore 6, 2) := by decide +kernel
theorem dX8_sumOf_288 : decode cX8_sumOf 288 = .ok (.lload 6, 2) := by decide +kernel
theorem dX8_sumOf_290 : decode cX8_sumOf 290 = .ok (.ldc2_w 49, 3) := by decide +kernel
theorem dX8_sumOf_293 : decode cX8_sumOf 293 = .ok (.lcmp, 1) := by decide +kernel
theorem dX8_sumOf_294 : decode cX8_sumOf 294 = .ok (.ifCond .gt 12, 3) := by decide +kernel
theorem dX8_sumOf_297 : decode cX8_sumOf 297 = .ok (.lload 6, 2) := by decide +kernel
theorem dX8_sumOf_299 : decode cX8_sumOf 299 = .ok (.ldc2_w 51, 3) := by decide +kernel
theorem dX8_sumOf_302 : decode cX8_sumOf 302 = .ok (.lcmp, 1) := by decide +kernel
theorem dX8_sumOf_303 : decode cX8_sumOf 303 = .ok (.ifCond .ge 7, 3) := by decide +kernel
theorem dX8_sumOf_306 : decode cX8_sumOf 306 = .ok (.lconst 0, 1) := by decide +kernel
theorem dX8_sumOf_307 : decode cX8_sumOf 307 = .ok (.goto 5, 3) := by decide +kernel
theorem dX8_sumOf_310 : decode cX8_sumOf 310 = .ok (.lload 6, 2) := by decide +kernel
theorem dX8_sumOf_312 : decode cX8_sumOf 312 = .ok (.lreturn, 1) := by decide +kernel
theorem dX9_init_0 : decode cX9_init 0 = .ok (.aload_n 0, 1) := by decide +kernel
theorem dX9_init_1 : decode cX9_init 1 = .ok (.invokespecial 3, 3) := by decide +kernel
theorem dX9_init_4 : decode cX9_init 4 = .ok (.aload_n 0, 1) := by decide +kernel
theorem dX9_init_5 : decode cX9_init 5 = .ok (.sipush 901, 3) := by decide +kernel
theorem dX9_init_8 : decode cX9_init 8 = .ok (.newarray .int, 2) := by decide +kernel
theorem dX9_init_10 : decode cX9_init 10 = .ok (.putfield 9, 3) := by decide +kernel
theorem dX9_init_13 : decode cX9_init 13 = .ok (.aload_n 0, 1) := by decide +kernel
theorem dX9_init_14 : decode cX9_init 14 = .ok (.sipush 901, 3) := by decide +kernel
theorem dX9_init_17 : decode cX9_init 17 = .ok (.newarray .int, 2) := by decide +kernel
theorem dX9_init_19 : decode cX9_init 19 = .ok (.putfield 15, 3) := by decide +kernel
theorem dX9_init_22 : decode cX9_init 22 = .ok (.aload_n 0, 1) := by decide +kernel
theorem dX9_init_23 : decode cX9_init 23 = .ok (.sipush 901, 3) := by decide +kernel
theorem dX9_init_26 : decode cX9_init 26 = .ok (.newarray .int, 2) := by decide +kernel
theorem dX9_init_28 : decode cX9_init 28 = .ok (.putfield 18, 3) := by decide +kernel
theorem dX9_init_31 : decode cX9_init 31 = .ok (.return_, 1) := by decide +kernel
theorem dX9_cut_0 : decode cX9_cut 0 = .ok (.iload_n 2, 1) := by decide +kernel
theorem dX9_cut_1 : decode cX9_cut 1 = .ok (.aload_n 1, 1) := by decide +kernel
theorem dX9_cut_2 : decode cX9_cut 2 = .ok (.arraylength, 1) := by decide +kernel
theorem dX9_cut_3 : decode cX9_cut 3 = .ok (.invokestatic 21, 3) := by decide +kernel
theorem dX9_cut_6 : decode cX9_cut 6 = .ok (.istore_n 3, 1) := by decide +kernel
theorem dX9_cut_7 : decode cX9_cut 7 = .ok (.aload_n 0, 1) := by decide +kernel
theorem dX9_cut_8 : decode cX9_cut 8 = .ok (.iconst 0, 1) := by decide +kernel
theorem dX9_cut_9 : decode cX9_cut 9 = .ok (.putfield 27, 3) := by decide +kernel
theorem dX9_cut_12 : decode cX9_cut 12 = .ok (.iconst 0, 1) := by decide +kernel
theorem dX9_cut_13 : decode cX9_cut 13 = .ok (.istore 4, 2) := by decide +kernel
theorem dX9_cut_15 : decode cX9_cut 15 = .ok (.iload 4, 2) := by decide +kernel
theorem dX9_cut_17 : decode cX9_cut 17 = .ok (.iload_n 3, 1) := by decide +kernel
theorem dX9_cut_18 : decode cX9_cut 18 = .ok (.if_icmp .ge 181, 3) := by decide +kernel
theorem dX9_cut_21 : decode cX9_cut 21 = .ok (.iload 4, 2) := by decide +kernel
theorem dX9_cut_23 : decode cX9_cut 23 = .ok (.iconst 1, 1) := by decide +kernel
theorem dX9_cut_24 : decode cX9_cut 24 = .ok (.iadd, 1) := by decide +kernel
theorem dX9_cut_25 : decode cX9_cut 25 = .ok (.istore 5, 2) := by decide +kernel
theorem dX9_cut_27 : decode cX9_cut 27 = .ok (.aload_n 1, 1) := by decide +kernel
theorem dX9_cut_28 : decode cX9_cut 28 = .ok (.iload 4, 2) := by decide +kernel
theorem dX9_cut_30 : decode cX9_cut 30 = .ok (.baload, 1) := by decide +kernel
theorem dX9_cut_31 : decode cX9_cut 31 = .ok (.invokestatic 31, 3) := by decide +kernel
theorem dX9_cut_34 : decode cX9_cut 34 = .ok (.ifCond .eq 43, 3) := by decide +kernel
theorem dX9_cut_37 : decode cX9_cut 37 = .ok (.iload 5, 2) := by decide +kernel
theorem dX9_cut_39 : decode cX9_cut 39 = .ok (.iload_n 3, 1) := by decide +kernel
theorem dX9_cut_40 : decode cX9_cut 40 = .ok (.if_icmp .ge 19, 3) := by decide +kernel
theorem dX9_cut_43 : decode cX9_cut 43 = .ok (.aload_n 1, 1) := by decide +kernel
theorem dX9_cut_44 : decode cX9_cut 44 = .ok (.iload 5, 2) := by decide +kernel
theorem dX9_cut_46 : decode cX9_cut 46 = .ok (.baload, 1) := by decide +kernel
theorem dX9_cut_47 : decode cX9_cut 47 = .ok (.invokestatic 31, 3) := by decide +kernel
theorem dX9_cut_50 : decode cX9_cut 50 = .ok (.ifCond .eq 9, 3) := by decide +kernel
theorem dX9_cut_53 : decode cX9_cut 53 = .ok (.iinc 5 1, 3) := by decide +kernel
theorem dX9_cut_56 : decode cX9_cut 56 = .ok (.goto (-19), 3) := by decide +kernel
theorem dX9_cut_59 : decode cX9_cut 59 = .ok (.aload_n 0, 1) := by decide +kernel
theorem dX9_cut_60 : decode cX9_cut 60 = .ok (.aload_n 1, 1) := by decide +kernel
theorem dX9_cut_61 : decode cX9_cut 61 = .ok (.iload 4, 2) := by decide +kernel
theorem dX9_cut_63 : decode cX9_cut 63 = .ok (.iload 5, 2) := by decide +kernel
theorem dX9_cut_65 : decode cX9_cut 65 = .ok (.invokestatic 35, 3) := by decide +kernel
theorem dX9_cut_68 : decode cX9_cut 68 = .ok (.iload 4, 2) := by decide +kernel
theorem dX9_cut_70 : decode cX9_cut 70 = .ok (.iconst 0, 1) := by decide +kernel
theorem dX9_cut_71 : decode cX9_cut 71 = .ok (.invokevirtual 39, 3) := by decide +kernel
theorem dX9_cut_74 : decode cX9_cut 74 = .ok (.goto 118, 3) := by decide +kernel
theorem dX9_cut_77 : decode cX9_cut 77 = .ok (.aload_n 1, 1) := by decide +kernel
theorem dX9_cut_78 : decode cX9_cut 78 = .ok (.iload 4, 2) := by decide +kernel
theorem dX9_cut_80 : decode cX9_cut 80 = .ok (.baload, 1) := by decide +kernel
theorem dX9_cut_81 : decode cX9_cut 81 = .ok (.invokestatic 43, 3) := by decide +kernel
theorem dX9_cut_84 : decode cX9_cut 84 = .ok (.ifCond .eq 67, 3) := by decide +kernel
theorem dX9_cut_87 : decode cX9_cut 87 = .ok (.aload_n 1, 1) := by decide +kernel
theorem dX9_cut_88 : decode cX9_cut 88 = .ok (.iload 4, 2) := by decide +kernel
theorem dX9_cut_90 : decode cX9_cut 90 = .ok (.baload, 1) := by decide +kernel
theorem dX9_cut_91 : decode cX9_cut 91 = .ok (.bipush 48, 2) := by decide +kernel
theorem dX9_cut_93 : decode cX9_cut 93 = .ok (.isub, 1) := by decide +kernel
theorem dX9_cut_94 : decode cX9_cut 94 = .ok (.istore 6, 2) := by decide +kernel
theorem dX9_cut_96 : decode cX9_cut 96 = .ok (.iload 5, 2) := by decide +kernel
theorem dX9_cut_98 : decode cX9_cut 98 = .ok (.iload_n 3, 1) := by decide +kernel
theorem dX9_cut_99 : decode cX9_cut 99 = .ok (.if_icmp .ge 39, 3) := by decide +kernel
theorem dX9_cut_102 : decode cX9_cut 102 = .ok (.aload_n 1, 1) := by decide +kernel
theorem dX9_cut_103 : decode cX9_cut 103 = .ok (.iload 5, 2) := by decide +kernel
theorem dX9_cut_105 : decode cX9_cut 105 = .ok (.baload, 1) := by decide +kernel
theorem dX9_cut_106 : decode cX9_cut 106 = .ok (.invokestatic 43, 3) := by decide +kernel
theorem dX9_cut_109 : decode cX9_cut 109 = .ok (.ifCond .eq 29, 3) := by decide +kernel
theorem dX9_cut_112 : decode cX9_cut 112 = .ok (.iload 6, 2) := by decide +kernel
theorem dX9_cut_114 : decode cX9_cut 114 = .ok (.bipush 10, 2) := by decide +kernel
theorem dX9_cut_116 : decode cX9_cut 116 = .ok (.imul, 1) := by decide +kernel
theorem dX9_cut_117 : decode cX9_cut 117 = .ok (.aload_n 1, 1) := by decide +kernel
theorem dX9_cut_118 : decode cX9_cut 118 = .ok (.iload 5, 2) := by decide +kernel
theorem dX9_cut_120 : decode cX9_cut 120 = .ok (.baload, 1) := by decide +kernel
theorem dX9_cut_121 : decode cX9_cut 121 = .ok (.iadd, 1) := by decide +kernel
theorem dX9_cut_122 : decode cX9_cut 122 = .ok (.bipush 48, 2) := by decide +kernel
theorem dX9_cut_124 : decode cX9_cut 124 = .ok (.isub, 1) := by decide +kernel
theorem dX9_cut_125 : decode cX9_cut 125 = .ok (.ldc 46, 2) := by decide +kernel
theorem dX9_cut_127 : decode cX9_cut 127 = .ok (.invokestatic 21, 3) := by decide +kernel
theorem dX9_cut_130 : decode cX9_cut 130 = .ok (.istore 6, 2) := by decide +kernel
theorem dX9_cut_132 : decode cX9_cut 132 = .ok (.iinc 5 1, 3) := by decide +kernel
theorem dX9_cut_135 : decode cX9_cut 135 = .ok (.goto (-39), 3) := by decide +kernel
theorem dX9_cut_138 : decode cX9_cut 138 = .ok (.aload_n 0, 1) := by decide +kernel
theorem dX9_cut_139 : decode cX9_cut 139 = .ok (.bipush 21, 2) := by decide +kernel
theorem dX9_cut_141 : decode cX9_cut 141 = .ok (.iload 4, 2) := by decide +kernel
theorem dX9_cut_143 : decode cX9_cut 143 = .ok (.iload 6, 2) := by decide +kernel
theorem dX9_cut_145 : decode cX9_cut 145 = .ok (.invokevirtual 39, 3) := by decide +kernel
theorem dX9_cut_148 : decode cX9_cut 148 = .ok (.goto 44, 3) := by decide +kernel
theorem dX9_cut_151 : decode cX9_cut 151 = .ok (.aload_n 1, 1) := by decide +kernel
theorem dX9_cut_152 : decode cX9_cut 152 = .ok (.iload 4, 2) := by decide +kernel
theorem dX9_cut_154 : decode cX9_cut 154 = .ok (.baload, 1) := by decide +kernel
theorem dX9_cut_155 : decode cX9_cut 155 = .ok (.bipush 32, 2) := by decide +kernel
theorem dX9_cut_157 : decode cX9_cut 157 = .ok (.if_icmp .eq 35, 3) := by decide +kernel
theorem dX9_cut_160 : decode cX9_cut 160 = .ok (.aload_n 1, 1) := by decide +kernel
theorem dX9_cut_161 : decode cX9_cut 161 = .ok (.iload 4, 2) := by decide +kernel
theorem dX9_cut_163 : decode cX9_cut 163 = .ok (.baload, 1) := by decide +kernel
theorem dX9_cut_164 : decode cX9_cut 164 = .ok (.bipush 10, 2) := by decide +kernel
theorem dX9_cut_166 : decode cX9_cut 166 = .ok (.if_icmp .eq 26, 3) := by decide +kernel
theorem dX9_cut_169 : decode cX9_cut 169 = .ok (.aload_n 0, 1) := by decide +kernel
theorem dX9_cut_170 : decode cX9_cut 170 = .ok (.aload_n 1, 1) := by decide +kernel
theorem dX9_cut_171 : decode cX9_cut 171 = .ok (.iload 4, 2) := by decide +kernel
theorem dX9_cut_173 : decode cX9_cut 173 = .ok (.baload, 1) := by decide +kernel
theorem dX9_cut_174 : decode cX9_cut 174 = .ok (.bipush 59, 2) := by decide +kernel
theorem dX9_cut_176 : decode cX9_cut 176 = .ok (.if_icmp .ne 8, 3) := by decide +kernel
theorem dX9_cut_179 : decode cX9_cut 179 = .ok (.bipush 22, 2) := by decide +kernel
theorem dX9_cut_181 : decode cX9_cut 181 = .ok (.goto 5, 3) := by decide +kernel
theorem dX9_cut_184 : decode cX9_cut 184 = .ok (.bipush 23, 2) := by decide +kernel
theorem dX9_cut_186 : decode cX9_cut 186 = .ok (.iload 4, 2) := by decide +kernel
theorem dX9_cut_188 : decode cX9_cut 188 = .ok (.iconst 0, 1) := by decide +kernel
theorem dX9_cut_189 : decode cX9_cut 189 = .ok (.invokevirtual 39, 3) := by decide +kernel
theorem dX9_cut_192 : decode cX9_cut 192 = .ok (.iload 5, 2) := by decide +kernel
theorem dX9_cut_194 : decode cX9_cut 194 = .ok (.istore 4, 2) := by decide +kernel
theorem dX9_cut_196 : decode cX9_cut 196 = .ok (.goto (-181), 3) := by decide +kernel
theorem dX9_cut_199 : decode cX9_cut 199 = .ok (.aload_n 0, 1) := by decide +kernel
theorem dX9_cut_200 : decode cX9_cut 200 = .ok (.bipush 24, 2) := by decide +kernel
theorem dX9_cut_202 : decode cX9_cut 202 = .ok (.iload_n 3, 1) := by decide +kernel
theorem dX9_cut_203 : decode cX9_cut 203 = .ok (.iconst 0, 1) := by decide +kernel
theorem dX9_cut_204 : decode cX9_cut 204 = .ok (.invokevirtual 39, 3) := by decide +kernel
theorem dX9_cut_207 : decode cX9_cut 207 = .ok (.return_, 1) := by decide +kernel
theorem dX9_add_0 : decode cX9_add 0 = .ok (.aload_n 0, 1) := by decide +kernel
theorem dX9_add_1 : decode cX9_add 1 = .ok (.getfield 27, 3) := by decide +kernel
theorem dX9_add_4 : decode cX9_add 4 = .ok (.sipush 900, 3) := by decide +kernel
theorem dX9_add_7 : decode cX9_add 7 = .ok (.if_icmp .gt 43, 3) := by decide +kernel
theorem dX9_add_10 : decode cX9_add 10 = .ok (.aload_n 0, 1) := by decide +kernel
theorem dX9_add_11 : decode cX9_add 11 = .ok (.getfield 9, 3) := by decide +kernel
theorem dX9_add_14 : decode cX9_add 14 = .ok (.aload_n 0, 1) := by decide +kernel
theorem dX9_add_15 : decode cX9_add 15 = .ok (.getfield 27, 3) := by decide +kernel
theorem dX9_add_18 : decode cX9_add 18 = .ok (.iload_n 1, 1) := by decide +kernel
theorem dX9_add_19 : decode cX9_add 19 = .ok (.iastore, 1) := by decide +kernel
theorem dX9_add_20 : decode cX9_add 20 = .ok (.aload_n 0, 1) := by decide +kernel
theorem dX9_add_21 : decode cX9_add 21 = .ok (.getfield 15, 3) := by decide +kernel
theorem dX9_add_24 : decode cX9_add 24 = .ok (.aload_n 0, 1) := by decide +kernel
theorem dX9_add_25 : decode cX9_add 25 = .ok (.getfield 27, 3) := by decide +kernel
theorem dX9_add_28 : decode cX9_add 28 = .ok (.iload_n 2, 1) := by decide +kernel
theorem dX9_add_29 : decode cX9_add 29 = .ok (.iastore, 1) := by decide +kernel
theorem dX9_add_30 : decode cX9_add 30 = .ok (.aload_n 0, 1) := by decide +kernel
theorem dX9_add_31 : decode cX9_add 31 = .ok (.getfield 18, 3) := by decide +kernel
theorem dX9_add_34 : decode cX9_add 34 = .ok (.aload_n 0, 1) := by decide +kernel
theorem dX9_add_35 : decode cX9_add 35 = .ok (.getfield 27, 3) := by decide +kernel
theorem dX9_add_38 : decode cX9_add 38 = .ok (.iload_n 3, 1) := by decide +kernel
theorem dX9_add_39 : decode cX9_add 39 = .ok (.iastore, 1) := by decide +kernel
theorem dX9_add_40 : decode cX9_add 40 = .ok (.aload_n 0, 1) := by decide +kernel
theorem dX9_add_41 : decode cX9_add 41 = .ok (.dup, 1) := by decide +kernel
theorem dX9_add_42 : decode cX9_add 42 = .ok (.getfield 27, 3) := by decide +kernel
theorem dX9_add_45 : decode cX9_add 45 = .ok (.iconst 1, 1) := by decide +kernel
theorem dX9_add_46 : decode cX9_add 46 = .ok (.iadd, 1) := by decide +kernel
theorem dX9_add_47 : decode cX9_add 47 = .ok (.putfield 27, 3) := by decide +kernel
theorem dX9_add_50 : decode cX9_add 50 = .ok (.return_, 1) := by decide +kernel
theorem dX9_isLetter_0 : decode cX9_isLetter 0 = .ok (.iload_n 0, 1) := by decide +kernel
theorem dX9_isLetter_1 : decode cX9_isLetter 1 = .ok (.bipush 97, 2) := by decide +kernel
theorem dX9_isLetter_3 : decode cX9_isLetter 3 = .ok (.if_icmp .lt 13, 3) := by decide +kernel
theorem dX9_isLetter_6 : decode cX9_isLetter 6 = .ok (.iload_n 0, 1) := by decide +kernel
theorem dX9_isLetter_7 : decode cX9_isLetter 7 = .ok (.bipush 122, 2) := by decide +kernel
theorem dX9_isLetter_9 : decode cX9_isLetter 9 = .ok (.if_icmp .gt 7, 3) := by decide +kernel
theorem dX9_isLetter_12 : decode cX9_isLetter 12 = .ok (.iconst 1, 1) := by decide +kernel
theorem dX9_isLetter_13 : decode cX9_isLetter 13 = .ok (.goto 4, 3) := by decide +kernel
theorem dX9_isLetter_16 : decode cX9_isLetter 16 = .ok (.iconst 0, 1) := by decide +kernel
theorem dX9_isLetter_17 : decode cX9_isLetter 17 = .ok (.ireturn, 1) := by decide +kernel
theorem dX9_isDigit_0 : decode cX9_isDigit 0 = .ok (.iload_n 0, 1) := by decide +kernel
theorem dX9_isDigit_1 : decode cX9_isDigit 1 = .ok (.bipush 48, 2) := by decide +kernel
theorem dX9_isDigit_3 : decode cX9_isDigit 3 = .ok (.if_icmp .lt 13, 3) := by decide +kernel
theorem dX9_isDigit_6 : decode cX9_isDigit 6 = .ok (.iload_n 0, 1) := by decide +kernel
theorem dX9_isDigit_7 : decode cX9_isDigit 7 = .ok (.bipush 57, 2) := by decide +kernel
theorem dX9_isDigit_9 : decode cX9_isDigit 9 = .ok (.if_icmp .gt 7, 3) := by decide +kernel
theorem dX9_isDigit_12 : decode cX9_isDigit 12 = .ok (.iconst 1, 1) := by decide +kernel
theorem dX9_isDigit_13 : decode cX9_isDigit 13 = .ok (.goto 4, 3) := by decide +kernel
theorem dX9_isDigit_16 : decode cX9_isDigit 16 = .ok (.iconst 0, 1) := by decide +kernel
theorem dX9_isDigit_17 : decode cX9_isDigit 17 = .ok (.ireturn, 1) := by decide +kernel
theorem dX9_wordAt_0 : decode cX9_wordAt 0 = .ok (.iconst 0, 1) := by decide +kernel
theorem dX9_wordAt_1 : decode cX9_wordAt 1 = .ok (.istore_n 3, 1) := by decide +kernel
theorem dX9_wordAt_2 : decode cX9_wordAt 2 = .ok (.iload_n 1, 1) := by decide +kernel
theorem dX9_wordAt_3 : decode cX9_wordAt 3 = .ok (.istore 4, 2) := by decide +kernel
theorem dX9_wordAt_5 : decode cX9_wordAt 5 = .ok (.iconst 1, 1) := by decide +kernel
theorem dX9_wordAt_6 : decode cX9_wordAt 6 = .ok (.istore 5, 2) := by decide +kernel
theorem dX9_wordAt_8 : decode cX9_wordAt 8 = .ok (.iconst 0, 1) := by decide +kernel
theorem dX9_wordAt_9 : decode cX9_wordAt 9 = .ok (.istore 6, 2) := by decide +kernel
theorem dX9_wordAt_11 : decode cX9_wordAt 11 = .ok (.iload 6, 2) := by decide +kernel
theorem dX9_wordAt_13 : decode cX9_wordAt 13 = .ok (.ldc 47, 2) := by decide +kernel
theorem dX9_wordAt_15 : decode cX9_wordAt 15 = .ok (.invokevirtual 49, 3) := by decide +kernel
theorem dX9_wordAt_18 : decode cX9_wordAt 18 = .ok (.if_icmp .ge 80, 3) := by decide +kernel
theorem dX9_wordAt_21 : decode cX9_wordAt 21 = .ok (.ldc 47, 2) := by decide +kernel
theorem dX9_wordAt_23 : decode cX9_wordAt 23 = .ok (.iload 6, 2) := by decide +kernel
theorem dX9_wordAt_25 : decode cX9_wordAt 25 = .ok (.invokevirtual 55, 3) := by decide +kernel
theorem dX9_wordAt_28 : decode cX9_wordAt 28 = .ok (.istore 7, 2) := by decide +kernel
theorem dX9_wordAt_30 : decode cX9_wordAt 30 = .ok (.iload 7, 2) := by decide +kernel
theorem dX9_wordAt_32 : decode cX9_wordAt 32 = .ok (.bipush 32, 2) := by decide +kernel
theorem dX9_wordAt_34 : decode cX9_wordAt 34 = .ok (.if_icmp .eq 36, 3) := by decide +kernel
theorem dX9_wordAt_37 : decode cX9_wordAt 37 = .ok (.iload 5, 2) := by decide +kernel
theorem dX9_wordAt_39 : decode cX9_wordAt 39 = .ok (.ifCond .eq 22, 3) := by decide +kernel
theorem dX9_wordAt_42 : decode cX9_wordAt 42 = .ok (.iload 4, 2) := by decide +kernel
theorem dX9_wordAt_44 : decode cX9_wordAt 44 = .ok (.iload_n 2, 1) := by decide +kernel
theorem dX9_wordAt_45 : decode cX9_wordAt 45 = .ok (.if_icmp .ge 16, 3) := by decide +kernel
theorem dX9_wordAt_48 : decode cX9_wordAt 48 = .ok (.aload_n 0, 1) := by decide +kernel
theorem dX9_wordAt_49 : decode cX9_wordAt 49 = .ok (.iload 4, 2) := by decide +kernel
theorem dX9_wordAt_51 : decode cX9_wordAt 51 = .ok (.baload, 1) := by decide +kernel
theorem dX9_wordAt_52 : decode cX9_wordAt 52 = .ok (.iload 7, 2) := by decide +kernel
theorem dX9_wordAt_54 : decode cX9_wordAt 54 = .ok (.if_icmp .ne 7, 3) := by decide +kernel
theorem dX9_wordAt_57 : decode cX9_wordAt 57 = .ok (.iconst 1, 1) := by decide +kernel
theorem dX9_wordAt_58 : decode cX9_wordAt 58 = .ok (.goto 4, 3) := by decide +kernel
theorem dX9_wordAt_61 : decode cX9_wordAt 61 = .ok (.iconst 0, 1) := by decide +kernel
theorem dX9_wordAt_62 : decode cX9_wordAt 62 = .ok (.istore 5, 2) := by decide +kernel
theorem dX9_wordAt_64 : decode cX9_wordAt 64 = .ok (.iinc 4 1, 3) := by decide +kernel
theorem dX9_wordAt_67 : decode cX9_wordAt 67 = .ok (.goto 25, 3) := by decide +kernel
theorem dX9_wordAt_70 : decode cX9_wordAt 70 = .ok (.iload 5, 2) := by decide +kernel
theorem dX9_wordAt_72 : decode cX9_wordAt 72 = .ok (.ifCond .eq 11, 3) := by decide +kernel
theorem dX9_wordAt_75 : decode cX9_wordAt 75 = .ok (.iload 4, 2) := by decide +kernel
theorem dX9_wordAt_77 : decode cX9_wordAt 77 = .ok (.iload_n 2, 1) := by decide +kernel
theorem dX9_wordAt_78 : decode cX9_wordAt 78 = .ok (.if_icmp .ne 5, 3) := by decide +kernel
theorem dX9_wordAt_81 : decode cX9_wordAt 81 = .ok (.iload_n 3, 1) := by decide +kernel
theorem dX9_wordAt_82 : decode cX9_wordAt 82 = .ok (.ireturn, 1) := by decide +kernel
theorem dX9_wordAt_83 : decode cX9_wordAt 83 = .ok (.iinc 3 1, 3) := by decide +kernel
theorem dX9_wordAt_86 : decode cX9_wordAt 86 = .ok (.iload_n 1, 1) := by decide +kernel
theorem dX9_wordAt_87 : decode cX9_wordAt 87 = .ok (.istore 4, 2) := by decide +kernel
theorem dX9_wordAt_89 : decode cX9_wordAt 89 = .ok (.iconst 1, 1) := by decide +kernel
theorem dX9_wordAt_90 : decode cX9_wordAt 90 = .ok (.istore 5, 2) := by decide +kernel
theorem dX9_wordAt_92 : decode cX9_wordAt 92 = .ok (.iinc 6 1, 3) := by decide +kernel
theorem dX9_wordAt_95 : decode cX9_wordAt 95 = .ok (.goto (-84), 3) := by decide +kernel
theorem dX9_wordAt_98 : decode cX9_wordAt 98 = .ok (.bipush 23, 2) := by decide +kernel
theorem dX9_wordAt_100 : decode cX9_wordAt 100 = .ok (.ireturn, 1) := by decide +kernel
theorem dX10_init_0 : decode cX10_init 0 = .ok (.aload_n 0, 1) := by decide +kernel
theorem dX10_init_1 : decode cX10_init 1 = .ok (.invokespecial 1, 3) := by decide +kernel
theorem dX10_init_4 : decode cX10_init 4 = .ok (.aload_n 0, 1) := by decide +kernel
theorem dX10_init_5 : decode cX10_init 5 = .ok (.sipush 900, 3) := by decide +kernel
theorem dX10_init_8 : decode cX10_init 8 = .ok (.newarray .byte, 2) := by decide +kernel
theorem dX10_init_10 : decode cX10_init 10 = .ok (.putfield 9, 3) := by decide +kernel
theorem dX10_init_13 : decode cX10_init 13 = .ok (.aload_n 0, 1) := by decide +kernel
theorem dX10_init_14 : decode cX10_init 14 = .ok (.iconst (-1), 1) := by decide +kernel
theorem dX10_init_15 : decode cX10_init 15 = .ok (.putfield 13, 3) := by decide +kernel
theorem dX10_init_18 : decode cX10_init 18 = .ok (.aload_n 0, 1) := by decide +kernel
theorem dX10_init_19 : decode cX10_init 19 = .ok (.new 17, 3) := by decide +kernel
theorem dX10_init_22 : decode cX10_init 22 = .ok (.dup, 1) := by decide +kernel
theorem dX10_init_23 : decode cX10_init 23 = .ok (.invokespecial 19, 3) := by decide +kernel
theorem dX10_init_26 : decode cX10_init 26 = .ok (.putfield 20, 3) := by decide +kernel
theorem dX10_init_29 : decode cX10_init 29 = .ok (.aload_n 0, 1) := by decide +kernel
theorem dX10_init_30 : decode cX10_init 30 = .ok (.iconst 3, 1) := by decide +kernel
theorem dX10_init_31 : decode cX10_init 31 = .ok (.anewarray 17, 3) := by decide +kernel
theorem dX10_init_34 : decode cX10_init 34 = .ok (.putfield 24, 3) := by decide +kernel
theorem dX10_init_37 : decode cX10_init 37 = .ok (.aload_n 0, 1) := by decide +kernel
theorem dX10_init_38 : decode cX10_init 38 = .ok (.iconst 4, 1) := by decide +kernel
theorem dX10_init_39 : decode cX10_init 39 = .ok (.anewarray 28, 3) := by decide +kernel
theorem dX10_init_42 : decode cX10_init 42 = .ok (.putfield 30, 3) := by decide +kernel
theorem dX10_init_45 : decode cX10_init 45 = .ok (.return_, 1) := by decide +kernel
theorem dX10_feed_0 : decode cX10_feed 0 = .ok (.aload_n 0, 1) := by decide +kernel
theorem dX10_feed_1 : decode cX10_feed 1 = .ok (.getfield 34, 3) := by decide +kernel
theorem dX10_feed_4 : decode cX10_feed 4 = .ok (.bipush 20, 2) := by decide +kernel
theorem dX10_feed_6 : decode cX10_feed 6 = .ok (.iadd, 1) := by decide +kernel
theorem dX10_feed_7 : decode cX10_feed 7 = .ok (.sipush 900, 3) := by decide +kernel
theorem dX10_feed_10 : decode cX10_feed 10 = .ok (.if_icmp .le 5, 3) := by decide +kernel
theorem dX10_feed_13 : decode cX10_feed 13 = .ok (.iconst (-1), 1) := by decide +kernel
theorem dX10_feed_14 : decode cX10_feed 14 = .ok (.ireturn, 1) := by decide +kernel
theorem dX10_feed_15 : decode cX10_feed 15 = .ok (.aload_n 0, 1) := by decide +kernel
theorem dX10_feed_16 : decode cX10_feed 16 = .ok (.iload_n 1, 1) := by decide +kernel
theorem dX10_feed_17 : decode cX10_feed 17 = .ok (.invokevirtual 37, 3) := by decide +kernel
theorem dX10_feed_20 : decode cX10_feed 20 = .ok (.aload_n 0, 1) := by decide +kernel
theorem dX10_feed_21 : decode cX10_feed 21 = .ok (.iload_n 2, 1) := by decide +kernel
theorem dX10_feed_22 : decode cX10_feed 22 = .ok (.invokevirtual 37, 3) := by decide +kernel
theorem dX10_feed_25 : decode cX10_feed 25 = .ok (.aload_n 0, 1) := by decide +kernel
theorem dX10_feed_26 : decode cX10_feed 26 = .ok (.iload_n 3, 1) := by decide +kernel
theorem dX10_feed_27 : decode cX10_feed 27 = .ok (.invokevirtual 37, 3) := by decide +kernel
theorem dX10_feed_30 : decode cX10_feed 30 = .ok (.aload_n 0, 1) := by decide +kernel
theorem dX10_feed_31 : decode cX10_feed 31 = .ok (.iload 4, 2) := by decide +kernel
theorem dX10_feed_33 : decode cX10_feed 33 = .ok (.invokevirtual 37, 3) := by decide +kernel
theorem dX10_feed_36 : decode cX10_feed 36 = .ok (.aload_n 0, 1) := by decide +kernel
theorem dX10_feed_37 : decode cX10_feed 37 = .ok (.iload 5, 2) := by decide +kernel
theorem dX10_feed_39 : decode cX10_feed 39 = .ok (.invokevirtual 37, 3) := by decide +kernel
theorem dX10_feed_42 : decode cX10_feed 42 = .ok (.aload_n 0, 1) := by decide +kernel
theorem dX10_feed_43 : decode cX10_feed 43 = .ok (.getfield 34, 3) := by decide +kernel
theorem dX10_feed_46 : decode cX10_feed 46 = .ok (.ireturn, 1) := by decide +kernel
theorem dX10_feedFour_0 : decode cX10_feedFour 0 = .ok (.bipush 24, 2) := by decide +kernel
theorem dX10_feedFour_2 : decode cX10_feedFour 2 = .ok (.istore_n 2, 1) := by decide +kernel
theorem dX10_feedFour_3 : decode cX10_feedFour 3 = .ok (.iload_n 2, 1) := by decide +kernel
theorem dX10_feedFour_4 : decode cX10_feedFour 4 = .ok (.ifCond .lt 42, 3) := by decide +kernel
theorem dX10_feedFour_7 : decode cX10_feedFour 7 = .ok (.aload_n 0, 1) := by decide +kernel
theorem dX10_feedFour_8 : decode cX10_feedFour 8 = .ok (.getfield 34, 3) := by decide +kernel
theorem dX10_feedFour_11 : decode cX10_feedFour 11 = .ok (.sipush 900, 3) := by decide +kernel
theorem dX10_feedFour_14 : decode cX10_feedFour 14 = .ok (.if_icmp .ge 26, 3) := by decide +kernel
theorem dX10_feedFour_17 : decode cX10_feedFour 17 = .ok (.aload_n 0, 1) := by decide +kernel
theorem dX10_feedFour_18 : decode cX10_feedFour 18 = .ok (.getfield 9, 3) := by decide +kernel
theorem dX10_feedFour_21 : decode cX10_feedFour 21 = .ok (.aload_n 0, 1) := by decide +kernel
theorem dX10_feedFour_22 : decode cX10_feedFour 22 = .ok (.getfield 34, 3) := by decide +kernel
theorem dX10_feedFour_25 : decode cX10_feedFour 25 = .ok (.iload_n 1, 1) := by decide +kernel
theorem dX10_feedFour_26 : decode cX10_feedFour 26 = .ok (.iload_n 2, 1) := by decide +kernel
theorem dX10_feedFour_27 : decode cX10_feedFour 27 = .ok (.ishr, 1) := by decide +kernel
theorem dX10_feedFour_28 : decode cX10_feedFour 28 = .ok (.i2b, 1) := by decide +kernel
theorem dX10_feedFour_29 : decode cX10_feedFour 29 = .ok (.bastore, 1) := by decide +kernel
theorem dX10_feedFour_30 : decode cX10_feedFour 30 = .ok (.aload_n 0, 1) := by decide +kernel
theorem dX10_feedFour_31 : decode cX10_feedFour 31 = .ok (.dup, 1) := by decide +kernel
theorem dX10_feedFour_32 : decode cX10_feedFour 32 = .ok (.getfield 34, 3) := by decide +kernel
theorem dX10_feedFour_35 : decode cX10_feedFour 35 = .ok (.iconst 1, 1) := by decide +kernel
theorem dX10_feedFour_36 : decode cX10_feedFour 36 = .ok (.iadd, 1) := by decide +kernel
theorem dX10_feedFour_37 : decode cX10_feedFour 37 = .ok (.putfield 34, 3) := by decide +kernel
theorem dX10_feedFour_40 : decode cX10_feedFour 40 = .ok (.iinc 2 (-8), 3) := by decide +kernel
theorem dX10_feedFour_43 : decode cX10_feedFour 43 = .ok (.goto (-40), 3) := by decide +kernel
theorem dX10_feedFour_46 : decode cX10_feedFour 46 = .ok (.return_, 1) := by decide +kernel
theorem dX10_end_0 : decode cX10_end 0 = .ok (.iload_n 1, 1) := by decide +kernel
