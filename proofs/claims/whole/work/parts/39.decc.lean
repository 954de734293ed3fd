theorem dX4_takesRow_56 : decode cX4_takesRow 56 = .ok (.goto (-27), 3) := by decide +kernel
theorem dX4_takesRow_59 : decode cX4_takesRow 59 = .ok (.aload_n 0, 1) := by decide +kernel
theorem dX4_takesRow_60 : decode cX4_takesRow 60 = .ok (.getfield 21, 3) := by decide +kernel
theorem dX4_takesRow_63 : decode cX4_takesRow 63 = .ok (.getfield 140, 3) := by decide +kernel
theorem dX4_takesRow_66 : decode cX4_takesRow 66 = .ok (.aload_n 0, 1) := by decide +kernel
theorem dX4_takesRow_67 : decode cX4_takesRow 67 = .ok (.getfield 21, 3) := by decide +kernel
theorem dX4_takesRow_70 : decode cX4_takesRow 70 = .ok (.getfield 58, 3) := by decide +kernel
theorem dX4_takesRow_73 : decode cX4_takesRow 73 = .ok (.iaload, 1) := by decide +kernel
theorem dX4_takesRow_74 : decode cX4_takesRow 74 = .ok (.iconst 2, 1) := by decide +kernel
theorem dX4_takesRow_75 : decode cX4_takesRow 75 = .ok (.if_icmp .ge 9, 3) := by decide +kernel
theorem dX4_takesRow_78 : decode cX4_takesRow 78 = .ok (.aload_n 0, 1) := by decide +kernel
theorem dX4_takesRow_79 : decode cX4_takesRow 79 = .ok (.iconst 1, 1) := by decide +kernel
theorem dX4_takesRow_80 : decode cX4_takesRow 80 = .ok (.invokevirtual 93, 3) := by decide +kernel
theorem dX4_takesRow_83 : decode cX4_takesRow 83 = .ok (.ireturn, 1) := by decide +kernel
theorem dX4_takesRow_84 : decode cX4_takesRow 84 = .ok (.aload_n 0, 1) := by decide +kernel
theorem dX4_takesRow_85 : decode cX4_takesRow 85 = .ok (.getfield 21, 3) := by decide +kernel
theorem dX4_takesRow_88 : decode cX4_takesRow 88 = .ok (.invokevirtual 143, 3) := by decide +kernel
theorem dX4_takesRow_91 : decode cX4_takesRow 91 = .ok (.pop, 1) := by decide +kernel
theorem dX4_takesRow_92 : decode cX4_takesRow 92 = .ok (.aload_n 0, 1) := by decide +kernel
theorem dX4_takesRow_93 : decode cX4_takesRow 93 = .ok (.bipush 22, 2) := by decide +kernel
theorem dX4_takesRow_95 : decode cX4_takesRow 95 = .ok (.invokevirtual 122, 3) := by decide +kernel
theorem dX4_takesRow_98 : decode cX4_takesRow 98 = .ok (.ireturn, 1) := by decide +kernel
theorem dX4_takesThingOfRow_0 : decode cX4_takesThingOfRow 0 = .ok (.aload_n 0, 1) := by decide +kernel
theorem dX4_takesThingOfRow_1 : decode cX4_takesThingOfRow 1 = .ok (.getfield 12, 3) := by decide +kernel
theorem dX4_takesThingOfRow_4 : decode cX4_takesThingOfRow 4 = .ok (.aload_n 0, 1) := by decide +kernel
theorem dX4_takesThingOfRow_5 : decode cX4_takesThingOfRow 5 = .ok (.getfield 87, 3) := by decide +kernel
theorem dX4_takesThingOfRow_8 : decode cX4_takesThingOfRow 8 = .ok (.invokevirtual 147, 3) := by decide +kernel
theorem dX4_takesThingOfRow_11 : decode cX4_takesThingOfRow 11 = .ok (.ifCond .eq 25, 3) := by decide +kernel
theorem dX4_takesThingOfRow_14 : decode cX4_takesThingOfRow 14 = .ok (.aload_n 0, 1) := by decide +kernel
theorem dX4_takesThingOfRow_15 : decode cX4_takesThingOfRow 15 = .ok (.getfield 21, 3) := by decide +kernel
theorem dX4_takesThingOfRow_18 : decode cX4_takesThingOfRow 18 = .ok (.aload_n 0, 1) := by decide +kernel
theorem dX4_takesThingOfRow_19 : decode cX4_takesThingOfRow 19 = .ok (.getfield 21, 3) := by decide +kernel
theorem dX4_takesThingOfRow_22 : decode cX4_takesThingOfRow 22 = .ok (.getfield 58, 3) := by decide +kernel
theorem dX4_takesThingOfRow_25 : decode cX4_takesThingOfRow 25 = .ok (.aload_n 0, 1) := by decide +kernel
theorem dX4_takesThingOfRow_26 : decode cX4_takesThingOfRow 26 = .ok (.getfield 87, 3) := by decide +kernel
theorem dX4_takesThingOfRow_29 : decode cX4_takesThingOfRow 29 = .ok (.invokevirtual 150, 3) := by decide +kernel
theorem dX4_takesThingOfRow_32 : decode cX4_takesThingOfRow 32 = .ok (.iconst (-1), 1) := by decide +kernel
theorem dX4_takesThingOfRow_33 : decode cX4_takesThingOfRow 33 = .ok (.if_icmp .eq 9, 3) := by decide +kernel
theorem dX4_takesThingOfRow_36 : decode cX4_takesThingOfRow 36 = .ok (.aload_n 0, 1) := by decide +kernel
theorem dX4_takesThingOfRow_37 : decode cX4_takesThingOfRow 37 = .ok (.iconst 2, 1) := by decide +kernel
theorem dX4_takesThingOfRow_38 : decode cX4_takesThingOfRow 38 = .ok (.invokevirtual 93, 3) := by decide +kernel
theorem dX4_takesThingOfRow_41 : decode cX4_takesThingOfRow 41 = .ok (.ireturn, 1) := by decide +kernel
theorem dX4_takesThingOfRow_42 : decode cX4_takesThingOfRow 42 = .ok (.aload_n 0, 1) := by decide +kernel
theorem dX4_takesThingOfRow_43 : decode cX4_takesThingOfRow 43 = .ok (.getfield 21, 3) := by decide +kernel
theorem dX4_takesThingOfRow_46 : decode cX4_takesThingOfRow 46 = .ok (.aload_n 0, 1) := by decide +kernel
theorem dX4_takesThingOfRow_47 : decode cX4_takesThingOfRow 47 = .ok (.getfield 87, 3) := by decide +kernel
theorem dX4_takesThingOfRow_50 : decode cX4_takesThingOfRow 50 = .ok (.invokevirtual 153, 3) := by decide +kernel
theorem dX4_takesThingOfRow_53 : decode cX4_takesThingOfRow 53 = .ok (.ifCond .ne 9, 3) := by decide +kernel
theorem dX4_takesThingOfRow_56 : decode cX4_takesThingOfRow 56 = .ok (.aload_n 0, 1) := by decide +kernel
theorem dX4_takesThingOfRow_57 : decode cX4_takesThingOfRow 57 = .ok (.iconst 3, 1) := by decide +kernel
theorem dX4_takesThingOfRow_58 : decode cX4_takesThingOfRow 58 = .ok (.invokevirtual 93, 3) := by decide +kernel
theorem dX4_takesThingOfRow_61 : decode cX4_takesThingOfRow 61 = .ok (.ireturn, 1) := by decide +kernel
theorem dX4_takesThingOfRow_62 : decode cX4_takesThingOfRow 62 = .ok (.aload_n 0, 1) := by decide +kernel
theorem dX4_takesThingOfRow_63 : decode cX4_takesThingOfRow 63 = .ok (.invokevirtual 97, 3) := by decide +kernel
theorem dX4_takesThingOfRow_66 : decode cX4_takesThingOfRow 66 = .ok (.iconst 1, 1) := by decide +kernel
theorem dX4_takesThingOfRow_67 : decode cX4_takesThingOfRow 67 = .ok (.ireturn, 1) := by decide +kernel
theorem dX4_takesHold_0 : decode cX4_takesHold 0 = .ok (.aload_n 0, 1) := by decide +kernel
theorem dX4_takesHold_1 : decode cX4_takesHold 1 = .ok (.getfield 72, 3) := by decide +kernel
theorem dX4_takesHold_4 : decode cX4_takesHold 4 = .ok (.ifCond .eq 9, 3) := by decide +kernel
theorem dX4_takesHold_7 : decode cX4_takesHold 7 = .ok (.aload_n 0, 1) := by decide +kernel
theorem dX4_takesHold_8 : decode cX4_takesHold 8 = .ok (.iconst 2, 1) := by decide +kernel
theorem dX4_takesHold_9 : decode cX4_takesHold 9 = .ok (.invokevirtual 93, 3) := by decide +kernel
theorem dX4_takesHold_12 : decode cX4_takesHold 12 = .ok (.ireturn, 1) := by decide +kernel
theorem dX4_takesHold_13 : decode cX4_takesHold 13 = .ok (.aload_n 0, 1) := by decide +kernel
theorem dX4_takesHold_14 : decode cX4_takesHold 14 = .ok (.invokevirtual 97, 3) := by decide +kernel
theorem dX4_takesHold_17 : decode cX4_takesHold 17 = .ok (.aload_n 0, 1) := by decide +kernel
theorem dX4_takesHold_18 : decode cX4_takesHold 18 = .ok (.sipush 5000, 3) := by decide +kernel
theorem dX4_takesHold_21 : decode cX4_takesHold 21 = .ok (.invokevirtual 125, 3) := by decide +kernel
theorem dX4_takesHold_24 : decode cX4_takesHold 24 = .ok (.ifCond .ne 5, 3) := by decide +kernel
theorem dX4_takesHold_27 : decode cX4_takesHold 27 = .ok (.iconst 0, 1) := by decide +kernel
theorem dX4_takesHold_28 : decode cX4_takesHold 28 = .ok (.ireturn, 1) := by decide +kernel
theorem dX4_takesHold_29 : decode cX4_takesHold 29 = .ok (.aload_n 0, 1) := by decide +kernel
theorem dX4_takesHold_30 : decode cX4_takesHold 30 = .ok (.getfield 12, 3) := by decide +kernel
theorem dX4_takesHold_33 : decode cX4_takesHold 33 = .ok (.aload_n 0, 1) := by decide +kernel
theorem dX4_takesHold_34 : decode cX4_takesHold 34 = .ok (.getfield 87, 3) := by decide +kernel
theorem dX4_takesHold_37 : decode cX4_takesHold 37 = .ok (.putfield 156, 3) := by decide +kernel
theorem dX4_takesHold_40 : decode cX4_takesHold 40 = .ok (.aload_n 0, 1) := by decide +kernel
theorem dX4_takesHold_41 : decode cX4_takesHold 41 = .ok (.iconst 1, 1) := by decide +kernel
theorem dX4_takesHold_42 : decode cX4_takesHold 42 = .ok (.putfield 72, 3) := by decide +kernel
theorem dX4_takesHold_45 : decode cX4_takesHold 45 = .ok (.aload_n 0, 1) := by decide +kernel
theorem dX4_takesHold_46 : decode cX4_takesHold 46 = .ok (.invokevirtual 97, 3) := by decide +kernel
theorem dX4_takesHold_49 : decode cX4_takesHold 49 = .ok (.aload_n 0, 1) := by decide +kernel
theorem dX4_takesHold_50 : decode cX4_takesHold 50 = .ok (.bipush 22, 2) := by decide +kernel
theorem dX4_takesHold_52 : decode cX4_takesHold 52 = .ok (.invokevirtual 122, 3) := by decide +kernel
theorem dX4_takesHold_55 : decode cX4_takesHold 55 = .ok (.ireturn, 1) := by decide +kernel
theorem dX4_takesLean_0 : decode cX4_takesLean 0 = .ok (.aload_n 0, 1) := by decide +kernel
theorem dX4_takesLean_1 : decode cX4_takesLean 1 = .ok (.invokevirtual 97, 3) := by decide +kernel
theorem dX4_takesLean_4 : decode cX4_takesLean 4 = .ok (.aload_n 0, 1) := by decide +kernel
theorem dX4_takesLean_5 : decode cX4_takesLean 5 = .ok (.iconst 0, 1) := by decide +kernel
theorem dX4_takesLean_6 : decode cX4_takesLean 6 = .ok (.iconst 4, 1) := by decide +kernel
theorem dX4_takesLean_7 : decode cX4_takesLean 7 = .ok (.invokevirtual 112, 3) := by decide +kernel
theorem dX4_takesLean_10 : decode cX4_takesLean 10 = .ok (.istore_n 1, 1) := by decide +kernel
theorem dX4_takesLean_11 : decode cX4_takesLean 11 = .ok (.iload_n 1, 1) := by decide +kernel
theorem dX4_takesLean_12 : decode cX4_takesLean 12 = .ok (.iconst (-1), 1) := by decide +kernel
theorem dX4_takesLean_13 : decode cX4_takesLean 13 = .ok (.if_icmp .ne 9, 3) := by decide +kernel
theorem dX4_takesLean_16 : decode cX4_takesLean 16 = .ok (.aload_n 0, 1) := by decide +kernel
theorem dX4_takesLean_17 : decode cX4_takesLean 17 = .ok (.iconst 1, 1) := by decide +kernel
theorem dX4_takesLean_18 : decode cX4_takesLean 18 = .ok (.invokevirtual 93, 3) := by decide +kernel
theorem dX4_takesLean_21 : decode cX4_takesLean 21 = .ok (.ireturn, 1) := by decide +kernel
theorem dX4_takesLean_22 : decode cX4_takesLean 22 = .ok (.aload_n 0, 1) := by decide +kernel
theorem dX4_takesLean_23 : decode cX4_takesLean 23 = .ok (.getfield 32, 3) := by decide +kernel
theorem dX4_takesLean_26 : decode cX4_takesLean 26 = .ok (.iload_n 1, 1) := by decide +kernel
theorem dX4_takesLean_27 : decode cX4_takesLean 27 = .ok (.baload, 1) := by decide +kernel
theorem dX4_takesLean_28 : decode cX4_takesLean 28 = .ok (.ifCond .eq 9, 3) := by decide +kernel
theorem dX4_takesLean_31 : decode cX4_takesLean 31 = .ok (.aload_n 0, 1) := by decide +kernel
theorem dX4_takesLean_32 : decode cX4_takesLean 32 = .ok (.iconst 2, 1) := by decide +kernel
theorem dX4_takesLean_33 : decode cX4_takesLean 33 = .ok (.invokevirtual 93, 3) := by decide +kernel
theorem dX4_takesLean_36 : decode cX4_takesLean 36 = .ok (.ireturn, 1) := by decide +kernel
theorem dX4_takesLean_37 : decode cX4_takesLean 37 = .ok (.aload_n 0, 1) := by decide +kernel
theorem dX4_takesLean_38 : decode cX4_takesLean 38 = .ok (.invokevirtual 97, 3) := by decide +kernel
theorem dX4_takesLean_41 : decode cX4_takesLean 41 = .ok (.aload_n 0, 1) := by decide +kernel
theorem dX4_takesLean_42 : decode cX4_takesLean 42 = .ok (.bipush 100, 2) := by decide +kernel
theorem dX4_takesLean_44 : decode cX4_takesLean 44 = .ok (.invokevirtual 125, 3) := by decide +kernel
theorem dX4_takesLean_47 : decode cX4_takesLean 47 = .ok (.ifCond .ne 5, 3) := by decide +kernel
theorem dX4_takesLean_50 : decode cX4_takesLean 50 = .ok (.iconst 0, 1) := by decide +kernel
theorem dX4_takesLean_51 : decode cX4_takesLean 51 = .ok (.ireturn, 1) := by decide +kernel
theorem dX4_takesLean_52 : decode cX4_takesLean 52 = .ok (.aload_n 0, 1) := by decide +kernel
theorem dX4_takesLean_53 : decode cX4_takesLean 53 = .ok (.getfield 12, 3) := by decide +kernel
theorem dX4_takesLean_56 : decode cX4_takesLean 56 = .ok (.getfield 159, 3) := by decide +kernel
theorem dX4_takesLean_59 : decode cX4_takesLean 59 = .ok (.iload_n 1, 1) := by decide +kernel
theorem dX4_takesLean_60 : decode cX4_takesLean 60 = .ok (.aload_n 0, 1) := by decide +kernel
theorem dX4_takesLean_61 : decode cX4_takesLean 61 = .ok (.getfield 87, 3) := by decide +kernel
theorem dX4_takesLean_64 : decode cX4_takesLean 64 = .ok (.iastore, 1) := by decide +kernel
theorem dX4_takesLean_65 : decode cX4_takesLean 65 = .ok (.aload_n 0, 1) := by decide +kernel
theorem dX4_takesLean_66 : decode cX4_takesLean 66 = .ok (.getfield 32, 3) := by decide +kernel
theorem dX4_takesLean_69 : decode cX4_takesLean 69 = .ok (.iload_n 1, 1) := by decide +kernel
theorem dX4_takesLean_70 : decode cX4_takesLean 70 = .ok (.iconst 1, 1) := by decide +kernel
theorem dX4_takesLean_71 : decode cX4_takesLean 71 = .ok (.bastore, 1) := by decide +kernel
theorem dX4_takesLean_72 : decode cX4_takesLean 72 = .ok (.aload_n 0, 1) := by decide +kernel
theorem dX4_takesLean_73 : decode cX4_takesLean 73 = .ok (.invokevirtual 97, 3) := by decide +kernel
theorem dX4_takesLean_76 : decode cX4_takesLean 76 = .ok (.aload_n 0, 1) := by decide +kernel
theorem dX4_takesLean_77 : decode cX4_takesLean 77 = .ok (.bipush 22, 2) := by decide +kernel
theorem dX4_takesLean_79 : decode cX4_takesLean 79 = .ok (.invokevirtual 122, 3) := by decide +kernel
theorem dX4_takesLean_82 : decode cX4_takesLean 82 = .ok (.ireturn, 1) := by decide +kernel
theorem dX4_takesLaw_0 : decode cX4_takesLaw 0 = .ok (.aload_n 0, 1) := by decide +kernel
theorem dX4_takesLaw_1 : decode cX4_takesLaw 1 = .ok (.invokevirtual 97, 3) := by decide +kernel
theorem dX4_takesLaw_4 : decode cX4_takesLaw 4 = .ok (.aload_n 0, 1) := by decide +kernel
theorem dX4_takesLaw_5 : decode cX4_takesLaw 5 = .ok (.iconst 0, 1) := by decide +kernel
theorem dX4_takesLaw_6 : decode cX4_takesLaw 6 = .ok (.iconst 4, 1) := by decide +kernel
theorem dX4_takesLaw_7 : decode cX4_takesLaw 7 = .ok (.invokevirtual 112, 3) := by decide +kernel
theorem dX4_takesLaw_10 : decode cX4_takesLaw 10 = .ok (.istore_n 2, 1) := by decide +kernel
theorem dX4_takesLaw_11 : decode cX4_takesLaw 11 = .ok (.iload_n 2, 1) := by decide +kernel
theorem dX4_takesLaw_12 : decode cX4_takesLaw 12 = .ok (.iconst (-1), 1) := by decide +kernel
theorem dX4_takesLaw_13 : decode cX4_takesLaw 13 = .ok (.if_icmp .eq 12, 3) := by decide +kernel
theorem dX4_takesLaw_16 : decode cX4_takesLaw 16 = .ok (.iload_n 1, 1) := by decide +kernel
theorem dX4_takesLaw_17 : decode cX4_takesLaw 17 = .ok (.iconst 2, 1) := by decide +kernel
theorem dX4_takesLaw_18 : decode cX4_takesLaw 18 = .ok (.if_icmp .ne 13, 3) := by decide +kernel
theorem dX4_takesLaw_21 : decode cX4_takesLaw 21 = .ok (.iload_n 2, 1) := by decide +kernel
theorem dX4_takesLaw_22 : decode cX4_takesLaw 22 = .ok (.ifCond .eq 9, 3) := by decide +kernel
theorem dX4_takesLaw_25 : decode cX4_takesLaw 25 = .ok (.aload_n 0, 1) := by decide +kernel
theorem dX4_takesLaw_26 : decode cX4_takesLaw 26 = .ok (.iconst 1, 1) := by decide +kernel
theorem dX4_takesLaw_27 : decode cX4_takesLaw 27 = .ok (.invokevirtual 93, 3) := by decide +kernel
theorem dX4_takesLaw_30 : decode cX4_takesLaw 30 = .ok (.ireturn, 1) := by decide +kernel
theorem dX4_takesLaw_31 : decode cX4_takesLaw 31 = .ok (.iload_n 1, 1) := by decide +kernel
theorem dX4_takesLaw_32 : decode cX4_takesLaw 32 = .ok (.iload_n 2, 1) := by decide +kernel
theorem dX4_takesLaw_33 : decode cX4_takesLaw 33 = .ok (.invokestatic 162, 3) := by decide +kernel
theorem dX4_takesLaw_36 : decode cX4_takesLaw 36 = .ok (.istore_n 3, 1) := by decide +kernel
theorem dX4_takesLaw_37 : decode cX4_takesLaw 37 = .ok (.aload_n 0, 1) := by decide +kernel
theorem dX4_takesLaw_38 : decode cX4_takesLaw 38 = .ok (.getfield 12, 3) := by decide +kernel
theorem dX4_takesLaw_41 : decode cX4_takesLaw 41 = .ok (.iload_n 3, 1) := by decide +kernel
theorem dX4_takesLaw_42 : decode cX4_takesLaw 42 = .ok (.invokevirtual 165, 3) := by decide +kernel
theorem dX4_takesLaw_45 : decode cX4_takesLaw 45 = .ok (.ifCond .eq 9, 3) := by decide +kernel
theorem dX4_takesLaw_48 : decode cX4_takesLaw 48 = .ok (.aload_n 0, 1) := by decide +kernel
theorem dX4_takesLaw_49 : decode cX4_takesLaw 49 = .ok (.iconst 2, 1) := by decide +kernel
theorem dX4_takesLaw_50 : decode cX4_takesLaw 50 = .ok (.invokevirtual 93, 3) := by decide +kernel
theorem dX4_takesLaw_53 : decode cX4_takesLaw 53 = .ok (.ireturn, 1) := by decide +kernel
theorem dX4_takesLaw_54 : decode cX4_takesLaw 54 = .ok (.aload_n 0, 1) := by decide +kernel
theorem dX4_takesLaw_55 : decode cX4_takesLaw 55 = .ok (.invokevirtual 97, 3) := by decide +kernel
theorem dX4_takesLaw_58 : decode cX4_takesLaw 58 = .ok (.aload_n 0, 1) := by decide +kernel
theorem dX4_takesLaw_59 : decode cX4_takesLaw 59 = .ok (.bipush 20, 2) := by decide +kernel
theorem dX4_takesLaw_61 : decode cX4_takesLaw 61 = .ok (.invokevirtual 122, 3) := by decide +kernel
theorem dX4_takesLaw_64 : decode cX4_takesLaw 64 = .ok (.ifCond .eq 24, 3) := by decide +kernel
theorem dX4_takesLaw_67 : decode cX4_takesLaw 67 = .ok (.aload_n 0, 1) := by decide +kernel
theorem dX4_takesLaw_68 : decode cX4_takesLaw 68 = .ok (.iload_n 3, 1) := by decide +kernel
theorem dX4_takesLaw_69 : decode cX4_takesLaw 69 = .ok (.invokevirtual 168, 3) := by decide +kernel
theorem dX4_takesLaw_72 : decode cX4_takesLaw 72 = .ok (.ifCond .eq 16, 3) := by decide +kernel
theorem dX4_takesLaw_75 : decode cX4_takesLaw 75 = .ok (.aload_n 0, 1) := by decide +kernel
theorem dX4_takesLaw_76 : decode cX4_takesLaw 76 = .ok (.bipush 22, 2) := by decide +kernel
theorem dX4_takesLaw_78 : decode cX4_takesLaw 78 = .ok (.invokevirtual 122, 3) := by decide +kernel
theorem dX4_takesLaw_81 : decode cX4_takesLaw 81 = .ok (.ifCond .eq 7, 3) := by decide +kernel
theorem dX4_takesLaw_84 : decode cX4_takesLaw 84 = .ok (.iconst 1, 1) := by decide +kernel
theorem dX4_takesLaw_85 : decode cX4_takesLaw 85 = .ok (.goto 4, 3) := by decide +kernel
theorem dX4_takesLaw_88 : decode cX4_takesLaw 88 = .ok (.iconst 0, 1) := by decide +kernel
theorem dX4_takesLaw_89 : decode cX4_takesLaw 89 = .ok (.ireturn, 1) := by decide +kernel
theorem dX4_takesSum_0 : decode cX4_takesSum 0 = .ok (.aload_n 0, 1) := by decide +kernel
theorem dX4_takesSum_1 : decode cX4_takesSum 1 = .ok (.getfield 12, 3) := by decide +kernel
theorem dX4_takesSum_4 : decode cX4_takesSum 4 = .ok (.iload_n 1, 1) := by decide +kernel
theorem dX4_takesSum_5 : decode cX4_takesSum 5 = .ok (.invokevirtual 171, 3) := by decide +kernel
theorem dX4_takesSum_8 : decode cX4_takesSum 8 = .ok (.iconst 0, 1) := by decide +kernel
theorem dX4_takesSum_9 : decode cX4_takesSum 9 = .ok (.istore_n 2, 1) := by decide +kernel
theorem dX4_takesSum_10 : decode cX4_takesSum 10 = .ok (.iconst 0, 1) := by decide +kernel
theorem dX4_takesSum_11 : decode cX4_takesSum 11 = .ok (.istore_n 3, 1) := by decide +kernel
theorem dX4_takesSum_12 : decode cX4_takesSum 12 = .ok (.iload_n 3, 1) := by decide +kernel
theorem dX4_takesSum_13 : decode cX4_takesSum 13 = .ok (.sipush 900, 3) := by decide +kernel
theorem dX4_takesSum_16 : decode cX4_takesSum 16 = .ok (.if_icmp .gt 42, 3) := by decide +kernel
theorem dX4_takesSum_19 : decode cX4_takesSum 19 = .ok (.iload_n 2, 1) := by decide +kernel
theorem dX4_takesSum_20 : decode cX4_takesSum 20 = .ok (.iconst (-1), 1) := by decide +kernel
theorem dX4_takesSum_21 : decode cX4_takesSum 21 = .ok (.if_icmp .eq 37, 3) := by decide +kernel
theorem dX4_takesSum_24 : decode cX4_takesSum 24 = .ok (.aload_n 0, 1) := by decide +kernel
theorem dX4_takesSum_25 : decode cX4_takesSum 25 = .ok (.iload_n 1, 1) := by decide +kernel
theorem dX4_takesSum_26 : decode cX4_takesSum 26 = .ok (.iload_n 2, 1) := by decide +kernel
theorem dX4_takesSum_27 : decode cX4_takesSum 27 = .ok (.invokevirtual 174, 3) := by decide +kernel
theorem dX4_takesSum_30 : decode cX4_takesSum 30 = .ok (.ifCond .ne 5, 3) := by decide +kernel
theorem dX4_takesSum_33 : decode cX4_takesSum 33 = .ok (.iconst 0, 1) := by decide +kernel
theorem dX4_takesSum_34 : decode cX4_takesSum 34 = .ok (.ireturn, 1) := by decide +kernel
theorem dX4_takesSum_35 : decode cX4_takesSum 35 = .ok (.aload_n 0, 1) := by decide +kernel
theorem dX4_takesSum_36 : decode cX4_takesSum 36 = .ok (.bipush 7, 2) := by decide +kernel
theorem dX4_takesSum_38 : decode cX4_takesSum 38 = .ok (.iconst 4, 1) := by decide +kernel
theorem dX4_takesSum_39 : decode cX4_takesSum 39 = .ok (.invokevirtual 112, 3) := by decide +kernel
theorem dX4_takesSum_42 : decode cX4_takesSum 42 = .ok (.istore_n 2, 1) := by decide +kernel
theorem dX4_takesSum_43 : decode cX4_takesSum 43 = .ok (.iload_n 2, 1) := by decide +kernel
theorem dX4_takesSum_44 : decode cX4_takesSum 44 = .ok (.iconst (-1), 1) := by decide +kernel
theorem dX4_takesSum_45 : decode cX4_takesSum 45 = .ok (.if_icmp .eq 7, 3) := by decide +kernel
theorem dX4_takesSum_48 : decode cX4_takesSum 48 = .ok (.aload_n 0, 1) := by decide +kernel
theorem dX4_takesSum_49 : decode cX4_takesSum 49 = .ok (.invokevirtual 97, 3) := by decide +kernel
theorem dX4_takesSum_52 : decode cX4_takesSum 52 = .ok (.iinc 3 1, 3) := by decide +kernel
theorem dX4_takesSum_55 : decode cX4_takesSum 55 = .ok (.goto (-43), 3) := by decide +kernel
theorem dX4_takesSum_58 : decode cX4_takesSum 58 = .ok (.iconst 1, 1) := by decide +kernel
theorem dX4_takesSum_59 : decode cX4_takesSum 59 = .ok (.ireturn, 1) := by decide +kernel
theorem dX4_takesPart_0 : decode cX4_takesPart 0 = .ok (.aload_n 0, 1) := by decide +kernel
theorem dX4_takesPart_1 : decode cX4_takesPart 1 = .ok (.bipush 11, 2) := by decide +kernel
theorem dX4_takesPart_3 : decode cX4_takesPart 3 = .ok (.iconst 5, 1) := by decide +kernel
theorem dX4_takesPart_4 : decode cX4_takesPart 4 = .ok (.invokevirtual 112, 3) := by decide +kernel
theorem dX4_takesPart_7 : decode cX4_takesPart 7 = .ok (.istore_n 3, 1) := by decide +kernel
theorem dX4_takesPart_8 : decode cX4_takesPart 8 = .ok (.iload_n 3, 1) := by decide +kernel
theorem dX4_takesPart_9 : decode cX4_takesPart 9 = .ok (.iconst (-1), 1) := by decide +kernel
theorem dX4_takesPart_10 : decode cX4_takesPart 10 = .ok (.if_icmp .ne 15, 3) := by decide +kernel
theorem dX4_takesPart_13 : decode cX4_takesPart 13 = .ok (.aload_n 0, 1) := by decide +kernel
theorem dX4_takesPart_14 : decode cX4_takesPart 14 = .ok (.sipush 1000, 3) := by decide +kernel
theorem dX4_takesPart_17 : decode cX4_takesPart 17 = .ok (.invokevirtual 125, 3) := by decide +kernel
theorem dX4_takesPart_20 : decode cX4_takesPart 20 = .ok (.ifCond .ne 5, 3) := by decide +kernel
theorem dX4_takesPart_23 : decode cX4_takesPart 23 = .ok (.iconst 0, 1) := by decide +kernel
theorem dX4_takesPart_24 : decode cX4_takesPart 24 = .ok (.ireturn, 1) := by decide +kernel
theorem dX4_takesPart_25 : decode cX4_takesPart 25 = .ok (.aload_n 0, 1) := by decide +kernel
theorem dX4_takesPart_26 : decode cX4_takesPart 26 = .ok (.getfield 12, 3) := by decide +kernel
theorem dX4_takesPart_29 : decode cX4_takesPart 29 = .ok (.iload_n 1, 1) := by decide +kernel
theorem dX4_takesPart_30 : decode cX4_takesPart 30 = .ok (.iload_n 2, 1) := by decide +kernel
theorem dX4_takesPart_31 : decode cX4_takesPart 31 = .ok (.iload_n 3, 1) := by decide +kernel
theorem dX4_takesPart_32 : decode cX4_takesPart 32 = .ok (.iconst (-1), 1) := by decide +kernel
theorem dX4_takesPart_33 : decode cX4_takesPart 33 = .ok (.if_icmp .ne 10, 3) := by decide +kernel
theorem dX4_takesPart_36 : decode cX4_takesPart 36 = .ok (.aload_n 0, 1) := by decide +kernel
theorem dX4_takesPart_37 : decode cX4_takesPart 37 = .ok (.getfield 87, 3) := by decide +kernel
theorem dX4_takesPart_40 : decode cX4_takesPart 40 = .ok (.goto 6, 3) := by decide +kernel
theorem dX4_takesPart_43 : decode cX4_takesPart 43 = .ok (.iconst (-1), 1) := by decide +kernel
theorem dX4_takesPart_44 : decode cX4_takesPart 44 = .ok (.iload_n 3, 1) := by decide +kernel
theorem dX4_takesPart_45 : decode cX4_takesPart 45 = .ok (.isub, 1) := by decide +kernel
theorem dX4_takesPart_46 : decode cX4_takesPart 46 = .ok (.invokevirtual 178, 3) := by decide +kernel
theorem dX4_takesPart_49 : decode cX4_takesPart 49 = .ok (.aload_n 0, 1) := by decide +kernel
theorem dX4_takesPart_50 : decode cX4_takesPart 50 = .ok (.invokevirtual 97, 3) := by decide +kernel
theorem dX4_takesPart_53 : decode cX4_takesPart 53 = .ok (.iconst 1, 1) := by decide +kernel
theorem dX4_takesPart_54 : decode cX4_takesPart 54 = .ok (.ireturn, 1) := by decide +kernel
theorem dX5_init_0 : decode cX5_init 0 = .ok (.aload_n 0, 1) := by decide +kernel
theorem dX5_init_1 : decode cX5_init 1 = .ok (.invokespecial 3, 3) := by decide +kernel
theorem dX5_init_4 : decode cX5_init 4 = .ok (.aload_n 0, 1) := by decide +kernel
theorem dX5_init_5 : decode cX5_init 5 = .ok (.bipush 12, 2) := by decide +kernel
theorem dX5_init_7 : decode cX5_init 7 = .ok (.newarray .int, 2) := by decide +kernel
theorem dX5_init_9 : decode cX5_init 9 = .ok (.putfield 9, 3) := by decide +kernel
theorem dX5_init_12 : decode cX5_init 12 = .ok (.aload_n 0, 1) := by decide +kernel
theorem dX5_init_13 : decode cX5_init 13 = .ok (.bipush 12, 2) := by decide +kernel
theorem dX5_init_15 : decode cX5_init 15 = .ok (.newarray .int, 2) := by decide +kernel
theorem dX5_init_17 : decode cX5_init 17 = .ok (.putfield 15, 3) := by decide +kernel
theorem dX5_init_20 : decode cX5_init 20 = .ok (.aload_n 0, 1) := by decide +kernel
theorem dX5_init_21 : decode cX5_init 21 = .ok (.sipush 144, 3) := by decide +kernel
theorem dX5_init_24 : decode cX5_init 24 = .ok (.newarray .int, 2) := by decide +kernel
theorem dX5_init_26 : decode cX5_init 26 = .ok (.putfield 18, 3) := by decide +kernel
theorem dX5_init_29 : decode cX5_init 29 = .ok (.return_, 1) := by decide +kernel
theorem dX5_clear_0 : decode cX5_clear 0 = .ok (.aload_n 0, 1) := by decide +kernel
theorem dX5_clear_1 : decode cX5_clear 1 = .ok (.iconst 0, 1) := by decide +kernel
theorem dX5_clear_2 : decode cX5_clear 2 = .ok (.putfield 21, 3) := by decide +kernel
theorem dX5_clear_5 : decode cX5_clear 5 = .ok (.aload_n 0, 1) := by decide +kernel
theorem dX5_clear_6 : decode cX5_clear 6 = .ok (.iconst 0, 1) := by decide +kernel
theorem dX5_clear_7 : decode cX5_clear 7 = .ok (.putfield 25, 3) := by decide +kernel
theorem dX5_clear_10 : decode cX5_clear 10 = .ok (.return_, 1) := by decide +kernel
theorem dX5_copyFrom_0 : decode cX5_copyFrom 0 = .ok (.aload_n 0, 1) := by decide +kernel
theorem dX5_copyFrom_1 : decode cX5_copyFrom 1 = .ok (.aload_n 1, 1) := by decide +kernel
theorem dX5_copyFrom_2 : decode cX5_copyFrom 2 = .ok (.getfield 21, 3) := by decide +kernel
theorem dX5_copyFrom_5 : decode cX5_copyFrom 5 = .ok (.putfield 21, 3) := by decide +kernel
theorem dX5_copyFrom_8 : decode cX5_copyFrom 8 = .ok (.aload_n 0, 1) := by decide +kernel
theorem dX5_copyFrom_9 : decode cX5_copyFrom 9 = .ok (.aload_n 1, 1) := by decide +kernel
theorem dX5_copyFrom_10 : decode cX5_copyFrom 10 = .ok (.getfield 25, 3) := by decide +kernel
theorem dX5_copyFrom_13 : decode cX5_copyFrom 13 = .ok (.putfield 25, 3) := by decide +kernel
theorem dX5_copyFrom_16 : decode cX5_copyFrom 16 = .ok (.aload_n 1, 1) := by decide +kernel
theorem dX5_copyFrom_17 : decode cX5_copyFrom 17 = .ok (.getfield 9, 3) := by decide +kernel
theorem dX5_copyFrom_20 : decode cX5_copyFrom 20 = .ok (.iconst 0, 1) := by decide +kernel
theorem dX5_copyFrom_21 : decode cX5_copyFrom 21 = .ok (.aload_n 0, 1) := by decide +kernel
theorem dX5_copyFrom_22 : decode cX5_copyFrom 22 = .ok (.getfield 9, 3) := by decide +kernel
theorem dX5_copyFrom_25 : decode cX5_copyFrom 25 = .ok (.iconst 0, 1) := by decide +kernel
theorem dX5_copyFrom_26 : decode cX5_copyFrom 26 = .ok (.bipush 12, 2) := by decide +kernel
theorem dX5_copyFrom_28 : decode cX5_copyFrom 28 = .ok (.invokestatic 28, 3) := by decide +kernel
theorem dX5_copyFrom_31 : decode cX5_copyFrom 31 = .ok (.aload_n 1, 1) := by decide +kernel
theorem dX5_copyFrom_32 : decode cX5_copyFrom 32 = .ok (.getfield 15, 3) := by decide +kernel
theorem dX5_copyFrom_35 : decode cX5_copyFrom 35 = .ok (.iconst 0, 1) := by decide +kernel
theorem dX5_copyFrom_36 : decode cX5_copyFrom 36 = .ok (.aload_n 0, 1) := by decide +kernel
theorem dX5_copyFrom_37 : decode cX5_copyFrom 37 = .ok (.getfield 15, 3) := by decide +kernel
theorem dX5_copyFrom_40 : decode cX5_copyFrom 40 = .ok (.iconst 0, 1) := by decide +kernel
theorem dX5_copyFrom_41 : decode cX5_copyFrom 41 = .ok (.bipush 12, 2) := by decide +kernel
theorem dX5_copyFrom_43 : decode cX5_copyFrom 43 = .ok (.invokestatic 28, 3) := by decide +kernel
theorem dX5_copyFrom_46 : decode cX5_copyFrom 46 = .ok (.aload_n 1, 1) := by decide +kernel
theorem dX5_copyFrom_47 : decode cX5_copyFrom 47 = .ok (.getfield 18, 3) := by decide +kernel
theorem dX5_copyFrom_50 : decode cX5_copyFrom 50 = .ok (.iconst 0, 1) := by decide +kernel
theorem dX5_copyFrom_51 : decode cX5_copyFrom 51 = .ok (.aload_n 0, 1) := by decide +kernel
theorem dX5_copyFrom_52 : decode cX5_copyFrom 52 = .ok (.getfield 18, 3) := by decide +kernel
theorem dX5_copyFrom_55 : decode cX5_copyFrom 55 = .ok (.iconst 0, 1) := by decide +kernel
theorem dX5_copyFrom_56 : decode cX5_copyFrom 56 = .ok (.sipush 144, 3) := by decide +kernel
theorem dX5_copyFrom_59 : decode cX5_copyFrom 59 = .ok (.invokestatic 28, 3) := by decide +kernel
theorem dX5_copyFrom_62 : decode cX5_copyFrom 62 = .ok (.return_, 1) := by decide +kernel
theorem dX5_has_0 : decode cX5_has 0 = .ok (.iload_n 1, 1) := by decide +kernel
theorem dX5_has_1 : decode cX5_has 1 = .ok (.ifCond .lt 15, 3) := by decide +kernel
theorem dX5_has_4 : decode cX5_has 4 = .ok (.iload_n 1, 1) := by decide +kernel
theorem dX5_has_5 : decode cX5_has 5 = .ok (.aload_n 0, 1) := by decide +kernel
theorem dX5_has_6 : decode cX5_has 6 = .ok (.getfield 21, 3) := by decide +kernel
theorem dX5_has_9 : decode cX5_has 9 = .ok (.if_icmp .ge 7, 3) := by decide +kernel
theorem dX5_has_12 : decode cX5_has 12 = .ok (.iconst 1, 1) := by decide +kernel
theorem dX5_has_13 : decode cX5_has 13 = .ok (.goto 4, 3) := by decide +kernel
theorem dX5_has_16 : decode cX5_has 16 = .ok (.iconst 0, 1) := by decide +kernel
theorem dX5_has_17 : decode cX5_has 17 = .ok (.ireturn, 1) := by decide +kernel
theorem dX5_hasPlace_0 : decode cX5_hasPlace 0 = .ok (.aload_n 0, 1) := by decide +kernel
theorem dX5_hasPlace_1 : decode cX5_hasPlace 1 = .ok (.iload_n 1, 1) := by decide +kernel
theorem dX5_hasPlace_2 : decode cX5_hasPlace 2 = .ok (.invokevirtual 34, 3) := by decide +kernel
theorem dX5_hasPlace_5 : decode cX5_hasPlace 5 = .ok (.ifCond .eq 21, 3) := by decide +kernel
theorem dX5_hasPlace_8 : decode cX5_hasPlace 8 = .ok (.iload_n 2, 1) := by decide +kernel
theorem dX5_hasPlace_9 : decode cX5_hasPlace 9 = .ok (.ifCond .lt 17, 3) := by decide +kernel
theorem dX5_hasPlace_12 : decode cX5_hasPlace 12 = .ok (.iload_n 2, 1) := by decide +kernel
theorem dX5_hasPlace_13 : decode cX5_hasPlace 13 = .ok (.aload_n 0, 1) := by decide +kernel
theorem dX5_hasPlace_14 : decode cX5_hasPlace 14 = .ok (.getfield 9, 3) := by decide +kernel
theorem dX5_hasPlace_17 : decode cX5_hasPlace 17 = .ok (.iload_n 1, 1) := by decide +kernel
theorem dX5_hasPlace_18 : decode cX5_hasPlace 18 = .ok (.iaload, 1) := by decide +kernel
theorem dX5_hasPlace_19 : decode cX5_hasPlace 19 = .ok (.if_icmp .ge 7, 3) := by decide +kernel
theorem dX5_hasPlace_22 : decode cX5_hasPlace 22 = .ok (.iconst 1, 1) := by decide +kernel
theorem dX5_hasPlace_23 : decode cX5_hasPlace 23 = .ok (.goto 4, 3) := by decide +kernel
theorem dX5_hasPlace_26 : decode cX5_hasPlace 26 = .ok (.iconst 0, 1) := by decide +kernel
theorem dX5_hasPlace_27 : decode cX5_hasPlace 27 = .ok (.ireturn, 1) := by decide +kernel
theorem dX5_isFull_0 : decode cX5_isFull 0 = .ok (.aload_n 0, 1) := by decide +kernel
theorem dX5_isFull_1 : decode cX5_isFull 1 = .ok (.getfield 21, 3) := by decide +kernel
theorem dX5_isFull_4 : decode cX5_isFull 4 = .ok (.bipush 12, 2) := by decide +kernel
theorem dX5_isFull_6 : decode cX5_isFull 6 = .ok (.if_icmp .lt 7, 3) := by decide +kernel
theorem dX5_isFull_9 : decode cX5_isFull 9 = .ok (.iconst 1, 1) := by decide +kernel
theorem dX5_isFull_10 : decode cX5_isFull 10 = .ok (.goto 4, 3) := by decide +kernel
theorem dX5_isFull_13 : decode cX5_isFull 13 = .ok (.iconst 0, 1) := by decide +kernel
theorem dX5_isFull_14 : decode cX5_isFull 14 = .ok (.ireturn, 1) := by decide +kernel
theorem dX5_grown_0 : decode cX5_grown 0 = .ok (.aload_n 0, 1) := by decide +kernel
theorem dX5_grown_1 : decode cX5_grown 1 = .ok (.getfield 21, 3) := by decide +kernel
theorem dX5_grown_4 : decode cX5_grown 4 = .ok (.aload_n 0, 1) := by decide +kernel
theorem dX5_grown_5 : decode cX5_grown 5 = .ok (.getfield 25, 3) := by decide +kernel
theorem dX5_grown_8 : decode cX5_grown 8 = .ok (.if_icmp .eq 7, 3) := by decide +kernel
theorem dX5_grown_11 : decode cX5_grown 11 = .ok (.iconst 1, 1) := by decide +kernel
theorem dX5_grown_12 : decode cX5_grown 12 = .ok (.goto 4, 3) := by decide +kernel
theorem dX5_grown_15 : decode cX5_grown 15 = .ok (.iconst 0, 1) := by decide +kernel
theorem dX5_grown_16 : decode cX5_grown 16 = .ok (.ireturn, 1) := by decide +kernel
theorem dX5_thingAt_0 : decode cX5_thingAt 0 = .ok (.aload_n 0, 1) := by decide +kernel
theorem dX5_thingAt_1 : decode cX5_thingAt 1 = .ok (.getfield 18, 3) := by decide +kernel
theorem dX5_thingAt_4 : decode cX5_thingAt 4 = .ok (.iload_n 1, 1) := by decide +kernel
theorem dX5_thingAt_5 : decode cX5_thingAt 5 = .ok (.bipush 12, 2) := by decide +kernel
theorem dX5_thingAt_7 : decode cX5_thingAt 7 = .ok (.imul, 1) := by decide +kernel
theorem dX5_thingAt_8 : decode cX5_thingAt 8 = .ok (.iload_n 2, 1) := by decide +kernel
theorem dX5_thingAt_9 : decode cX5_thingAt 9 = .ok (.iadd, 1) := by decide +kernel
theorem dX5_thingAt_10 : decode cX5_thingAt 10 = .ok (.iaload, 1) := by decide +kernel
theorem dX5_thingAt_11 : decode cX5_thingAt 11 = .ok (.ireturn, 1) := by decide +kernel
theorem dX5_placeOf_0 : decode cX5_placeOf 0 = .ok (.iconst 0, 1) := by decide +kernel
theorem dX5_placeOf_1 : decode cX5_placeOf 1 = .ok (.istore_n 3, 1) := by decide +kernel
theorem dX5_placeOf_2 : decode cX5_placeOf 2 = .ok (.iload_n 3, 1) := by decide +kernel
theorem dX5_placeOf_3 : decode cX5_placeOf 3 = .ok (.aload_n 0, 1) := by decide +kernel
theorem dX5_placeOf_4 : decode cX5_placeOf 4 = .ok (.getfield 9, 3) := by decide +kernel
theorem dX5_placeOf_7 : decode cX5_placeOf 7 = .ok (.iload_n 1, 1) := by decide +kernel
theorem dX5_placeOf_8 : decode cX5_placeOf 8 = .ok (.iaload, 1) := by decide +kernel
theorem dX5_placeOf_9 : decode cX5_placeOf 9 = .ok (.if_icmp .ge 21, 3) := by decide +kernel
theorem dX5_placeOf_12 : decode cX5_placeOf 12 = .ok (.aload_n 0, 1) := by decide +kernel
theorem dX5_placeOf_13 : decode cX5_placeOf 13 = .ok (.iload_n 1, 1) := by decide +kernel
theorem dX5_placeOf_14 : decode cX5_placeOf 14 = .ok (.iload_n 3, 1) := by decide +kernel
theorem dX5_placeOf_15 : decode cX5_placeOf 15 = .ok (.invokevirtual 38, 3) := by decide +kernel
theorem dX5_placeOf_18 : decode cX5_placeOf 18 = .ok (.iload_n 2, 1) := by decide +kernel
theorem dX5_placeOf_19 : decode cX5_placeOf 19 = .ok (.if_icmp .ne 5, 3) := by decide +kernel
theorem dX5_placeOf_22 : decode cX5_placeOf 22 = .ok (.iload_n 3, 1) := by decide +kernel
theorem dX5_placeOf_23 : decode cX5_placeOf 23 = .ok (.ireturn, 1) := by decide +kernel
theorem dX5_placeOf_24 : decode cX5_placeOf 24 = .ok (.iinc 3 1, 3) := by decide +kernel
theorem dX5_placeOf_27 : decode cX5_placeOf 27 = .ok (.goto (-25), 3) := by decide +kernel
theorem dX5_placeOf_30 : decode cX5_placeOf 30 = .ok (.iconst (-1), 1) := by decide +kernel
theorem dX5_placeOf_31 : decode cX5_placeOf 31 = .ok (.ireturn, 1) := by decide +kernel
theorem dX5_begin_0 : decode cX5_begin 0 = .ok (.aload_n 0, 1) := by decide +kernel
theorem dX5_begin_1 : decode cX5_begin 1 = .ok (.invokevirtual 42, 3) := by decide +kernel
theorem dX5_begin_4 : decode cX5_begin 4 = .ok (.ifCond .ne 23, 3) := by decide +kernel
theorem dX5_begin_7 : decode cX5_begin 7 = .ok (.aload_n 0, 1) := by decide +kernel
theorem dX5_begin_8 : decode cX5_begin 8 = .ok (.getfield 9, 3) := by decide +kernel
theorem dX5_begin_11 : decode cX5_begin 11 = .ok (.aload_n 0, 1) := by decide +kernel
theorem dX5_begin_12 : decode cX5_begin 12 = .ok (.getfield 21, 3) := by decide +kernel
theorem dX5_begin_15 : decode cX5_begin 15 = .ok (.iconst 0, 1) := by decide +kernel
theorem dX5_begin_16 : decode cX5_begin 16 = .ok (.iastore, 1) := by decide +kernel
theorem dX5_begin_17 : decode cX5_begin 17 = .ok (.aload_n 0, 1) := by decide +kernel
theorem dX5_begin_18 : decode cX5_begin 18 = .ok (.getfield 15, 3) := by decide +kernel
theorem dX5_begin_21 : decode cX5_begin 21 = .ok (.aload_n 0, 1) := by decide +kernel
theorem dX5_begin_22 : decode cX5_begin 22 = .ok (.getfield 21, 3) := by decide +kernel
theorem dX5_begin_25 : decode cX5_begin 25 = .ok (.iconst 0, 1) := by decide +kernel
theorem dX5_begin_26 : decode cX5_begin 26 = .ok (.iastore, 1) := by decide +kernel
theorem dX5_begin_27 : decode cX5_begin 27 = .ok (.return_, 1) := by decide +kernel
theorem dX5_add_0 : decode cX5_add 0 = .ok (.aload_n 0, 1) := by decide +kernel
theorem dX5_add_1 : decode cX5_add 1 = .ok (.invokevirtual 42, 3) := by decide +kernel
theorem dX5_add_4 : decode cX5_add 4 = .ok (.ifCond .ne 17, 3) := by decide +kernel
theorem dX5_add_7 : decode cX5_add 7 = .ok (.aload_n 0, 1) := by decide +kernel
theorem dX5_add_8 : decode cX5_add 8 = .ok (.getfield 9, 3) := by decide +kernel
theorem dX5_add_11 : decode cX5_add 11 = .ok (.aload_n 0, 1) := by decide +kernel
theorem dX5_add_12 : decode cX5_add 12 = .ok (.getfield 21, 3) := by decide +kernel
theorem dX5_add_15 : decode cX5_add 15 = .ok (.iaload, 1) := by decide +kernel
theorem dX5_add_16 : decode cX5_add 16 = .ok (.bipush 12, 2) := by decide +kernel
theorem dX5_add_18 : decode cX5_add 18 = .ok (.if_icmp .lt 5, 3) := by decide +kernel
theorem dX5_add_21 : decode cX5_add 21 = .ok (.iconst 0, 1) := by decide +kernel
theorem dX5_add_22 : decode cX5_add 22 = .ok (.ireturn, 1) := by decide +kernel
theorem dX5_add_23 : decode cX5_add 23 = .ok (.aload_n 0, 1) := by decide +kernel
theorem dX5_add_24 : decode cX5_add 24 = .ok (.getfield 18, 3) := by decide +kernel
theorem dX5_add_27 : decode cX5_add 27 = .ok (.aload_n 0, 1) := by decide +kernel
theorem dX5_add_28 : decode cX5_add 28 = .ok (.getfield 21, 3) := by decide +kernel
theorem dX5_add_31 : decode cX5_add 31 = .ok (.bipush 12, 2) := by decide +kernel
theorem dX5_add_33 : decode cX5_add 33 = .ok (.imul, 1) := by decide +kernel
theorem dX5_add_34 : decode cX5_add 34 = .ok (.aload_n 0, 1) := by decide +kernel
theorem dX5_add_35 : decode cX5_add 35 = .ok (.getfield 9, 3) := by decide +kernel
theorem dX5_add_38 : decode cX5_add 38 = .ok (.aload_n 0, 1) := by decide +kernel
theorem dX5_add_39 : decode cX5_add 39 = .ok (.getfield 21, 3) := by decide +kernel
theorem dX5_add_42 : decode cX5_add 42 = .ok (.iaload, 1) := by decide +kernel
theorem dX5_add_43 : decode cX5_add 43 = .ok (.iadd, 1) := by decide +kernel
theorem dX5_add_44 : decode cX5_add 44 = .ok (.iload_n 1, 1) := by decide +kernel
theorem dX5_add_45 : decode cX5_add 45 = .ok (.iastore, 1) := by decide +kernel
theorem dX5_add_46 : decode cX5_add 46 = .ok (.aload_n 0, 1) := by decide +kernel
theorem dX5_add_47 : decode cX5_add 47 = .ok (.getfield 9, 3) := by decide +kernel
theorem dX5_add_50 : decode cX5_add 50 = .ok (.aload_n 0, 1) := by decide +kernel
theorem dX5_add_51 : decode cX5_add 51 = .ok (.getfield 21, 3) := by decide +kernel
theorem dX5_add_54 : decode cX5_add 54 = .ok (.dup2, 1) := by decide +kernel
theorem dX5_add_55 : decode cX5_add 55 = .ok (.iaload, 1) := by decide +kernel
theorem dX5_add_56 : decode cX5_add 56 = .ok (.iconst 1, 1) := by decide +kernel
theorem dX5_add_57 : decode cX5_add 57 = .ok (.iadd, 1) := by decide +kernel
theorem dX5_add_58 : decode cX5_add 58 = .ok (.iastore, 1) := by decide +kernel
theorem dX5_add_59 : decode cX5_add 59 = .ok (.iconst 1, 1) := by decide +kernel
theorem dX5_add_60 : decode cX5_add 60 = .ok (.ireturn, 1) := by decide +kernel
theorem dX5_close_0 : decode cX5_close 0 = .ok (.aload_n 0, 1) := by decide +kernel
theorem dX5_close_1 : decode cX5_close 1 = .ok (.invokevirtual 42, 3) := by decide +kernel
theorem dX5_close_4 : decode cX5_close 4 = .ok (.ifCond .eq 5, 3) := by decide +kernel
theorem dX5_close_7 : decode cX5_close 7 = .ok (.iconst (-1), 1) := by decide +kernel
theorem dX5_close_8 : decode cX5_close 8 = .ok (.ireturn, 1) := by decide +kernel
theorem dX5_close_9 : decode cX5_close 9 = .ok (.aload_n 0, 1) := by decide +kernel
theorem dX5_close_10 : decode cX5_close 10 = .ok (.dup, 1) := by decide +kernel
theorem dX5_close_11 : decode cX5_close 11 = .ok (.getfield 21, 3) := by decide +kernel
theorem dX5_close_14 : decode cX5_close 14 = .ok (.iconst 1, 1) := by decide +kernel
theorem dX5_close_15 : decode cX5_close 15 = .ok (.iadd, 1) := by decide +kernel
theorem dX5_close_16 : decode cX5_close 16 = .ok (.putfield 21, 3) := by decide +kernel
theorem dX5_close_19 : decode cX5_close 19 = .ok (.aload_n 0, 1) := by decide +kernel
theorem dX5_close_20 : decode cX5_close 20 = .ok (.getfield 21, 3) := by decide +kernel
theorem dX5_close_23 : decode cX5_close 23 = .ok (.iconst 1, 1) := by decide +kernel
theorem dX5_close_24 : decode cX5_close 24 = .ok (.isub, 1) := by decide +kernel
theorem dX5_close_25 : decode cX5_close 25 = .ok (.ireturn, 1) := by decide +kernel
theorem dX6_init_0 : decode cX6_init 0 = .ok (.aload_n 0, 1) := by decide +kernel
theorem dX6_init_1 : decode cX6_init 1 = .ok (.invokespecial 3, 3) := by decide +kernel
theorem dX6_init_4 : decode cX6_init 4 = .ok (.aload_n 0, 1) := by decide +kernel
theorem dX6_init_5 : decode cX6_init 5 = .ok (.bipush 60, 2) := by decide +kernel
theorem dX6_init_7 : decode cX6_init 7 = .ok (.newarray .long, 2) := by decide +kernel
theorem dX6_init_9 : decode cX6_init 9 = .ok (.putfield 9, 3) := by decide +kernel
theorem dX6_init_12 : decode cX6_init 12 = .ok (.return_, 1) := by decide +kernel
theorem dX6_begin_0 : decode cX6_begin 0 = .ok (.aload_n 0, 1) := by decide +kernel
theorem dX6_begin_1 : decode cX6_begin 1 = .ok (.iload_n 1, 1) := by decide +kernel
theorem dX6_begin_2 : decode cX6_begin 2 = .ok (.putfield 15, 3) := by decide +kernel
theorem dX6_begin_5 : decode cX6_begin 5 = .ok (.aload_n 0, 1) := by decide +kernel
theorem dX6_begin_6 : decode cX6_begin 6 = .ok (.iload_n 2, 1) := by decide +kernel
theorem dX6_begin_7 : decode cX6_begin 7 = .ok (.putfield 19, 3) := by decide +kernel
theorem dX6_begin_10 : decode cX6_begin 10 = .ok (.iconst 0, 1) := by decide +kernel
theorem dX6_begin_11 : decode cX6_begin 11 = .ok (.istore_n 3, 1) := by decide +kernel
theorem dX6_begin_12 : decode cX6_begin 12 = .ok (.iload_n 3, 1) := by decide +kernel
theorem dX6_begin_13 : decode cX6_begin 13 = .ok (.iload_n 2, 1) := by decide +kernel
theorem dX6_begin_14 : decode cX6_begin 14 = .ok (.if_icmp .ge 16, 3) := by decide +kernel
theorem dX6_begin_17 : decode cX6_begin 17 = .ok (.aload_n 0, 1) := by decide +kernel
theorem dX6_begin_18 : decode cX6_begin 18 = .ok (.getfield 9, 3) := by decide +kernel
theorem dX6_begin_21 : decode cX6_begin 21 = .ok (.iload_n 3, 1) := by decide +kernel
theorem dX6_begin_22 : decode cX6_begin 22 = .ok (.lconst 0, 1) := by decide +kernel
theorem dX6_begin_23 : decode cX6_begin 23 = .ok (.lastore, 1) := by decide +kernel
theorem dX6_begin_24 : decode cX6_begin 24 = .ok (.iinc 3 1, 3) := by decide +kernel
theorem dX6_begin_27 : decode cX6_begin 27 = .ok (.goto (-15), 3) := by decide +kernel
theorem dX6_begin_30 : decode cX6_begin 30 = .ok (.return_, 1) := by decide +kernel
theorem dX6_cut_0 : decode cX6_cut 0 = .ok (.aload_n 0, 1) := by decide +kernel
theorem dX6_cut_1 : decode cX6_cut 1 = .ok (.getfield 15, 3) := by decide +kernel
theorem dX6_cut_4 : decode cX6_cut 4 = .ok (.tableswitch 42 0 2 #[28, 33, 38], 28) := by decide +kernel
theorem dX6_cut_32 : decode cX6_cut 32 = .ok (.lload_n 1, 1) := by decide +kernel
theorem dX6_cut_33 : decode cX6_cut 33 = .ok (.l2i, 1) := by decide +kernel
theorem dX6_cut_34 : decode cX6_cut 34 = .ok (.i2b, 1) := by decide +kernel
theorem dX6_cut_35 : decode cX6_cut 35 = .ok (.i2l, 1) := by decide +kernel
theorem dX6_cut_36 : decode cX6_cut 36 = .ok (.lreturn, 1) := by decide +kernel
theorem dX6_cut_37 : decode cX6_cut 37 = .ok (.lload_n 1, 1) := by decide +kernel
theorem dX6_cut_38 : decode cX6_cut 38 = .ok (.l2i, 1) := by decide +kernel
theorem dX6_cut_39 : decode cX6_cut 39 = .ok (.i2s, 1) := by decide +kernel
theorem dX6_cut_40 : decode cX6_cut 40 = .ok (.i2l, 1) := by decide +kernel
theorem dX6_cut_41 : decode cX6_cut 41 = .ok (.lreturn, 1) := by decide +kernel
theorem dX6_cut_42 : decode cX6_cut 42 = .ok (.lload_n 1, 1) := by decide +kernel
theorem dX6_cut_43 : decode cX6_cut 43 = .ok (.l2i, 1) := by decide +kernel
theorem dX6_cut_44 : decode cX6_cut 44 = .ok (.i2l, 1) := by decide +kernel
theorem dX6_cut_45 : decode cX6_cut 45 = .ok (.lreturn, 1) := by decide +kernel
theorem dX6_cut_46 : decode cX6_cut 46 = .ok (.lload_n 1, 1) := by decide +kernel
theorem dX6_cut_47 : decode cX6_cut 47 = .ok (.lreturn, 1) := by decide +kernel
theorem dX6_reaches_0 : decode cX6_reaches 0 = .ok (.iload_n 1, 1) := by decide +kernel
theorem dX6_reaches_1 : decode cX6_reaches 1 = .ok (.ifCond .lt 25, 3) := by decide +kernel
theorem dX6_reaches_4 : decode cX6_reaches 4 = .ok (.iload_n 2, 1) := by decide +kernel
theorem dX6_reaches_5 : decode cX6_reaches 5 = .ok (.ifCond .lt 21, 3) := by decide +kernel
theorem dX6_reaches_8 : decode cX6_reaches 8 = .ok (.iload_n 1, 1) := by decide +kernel
theorem dX6_reaches_9 : decode cX6_reaches 9 = .ok (.i2l, 1) := by decide +kernel
theorem dX6_reaches_10 : decode cX6_reaches 10 = .ok (.iload_n 2, 1) := by decide +kernel
theorem dX6_reaches_11 : decode cX6_reaches 11 = .ok (.i2l, 1) := by decide +kernel
theorem dX6_reaches_12 : decode cX6_reaches 12 = .ok (.ladd, 1) := by decide +kernel
theorem dX6_reaches_13 : decode cX6_reaches 13 = .ok (.aload_n 0, 1) := by decide +kernel
theorem dX6_reaches_14 : decode cX6_reaches 14 = .ok (.getfield 19, 3) := by decide +kernel
theorem dX6_reaches_17 : decode cX6_reaches 17 = .ok (.i2l, 1) := by decide +kernel
theorem dX6_reaches_18 : decode cX6_reaches 18 = .ok (.lcmp, 1) := by decide +kernel
theorem dX6_reaches_19 : decode cX6_reaches 19 = .ok (.ifCond .gt 7, 3) := by decide +kernel
theorem dX6_reaches_22 : decode cX6_reaches 22 = .ok (.iconst 1, 1) := by decide +kernel
theorem dX6_reaches_23 : decode cX6_reaches 23 = .ok (.goto 4, 3) := by decide +kernel
theorem dX6_reaches_26 : decode cX6_reaches 26 = .ok (.iconst 0, 1) := by decide +kernel
theorem dX6_reaches_27 : decode cX6_reaches 27 = .ok (.ireturn, 1) := by decide +kernel
theorem dX7_init_0 : decode cX7_init 0 = .ok (.aload_n 0, 1) := by decide +kernel
theorem dX7_init_1 : decode cX7_init 1 = .ok (.invokespecial 3, 3) := by decide +kernel
theorem dX7_init_4 : decode cX7_init 4 = .ok (.aload_n 0, 1) := by decide +kernel
theorem dX7_init_5 : decode cX7_init 5 = .ok (.new 9, 3) := by decide +kernel
theorem dX7_init_8 : decode cX7_init 8 = .ok (.dup, 1) := by decide +kernel
theorem dX7_init_9 : decode cX7_init 9 = .ok (.new 11, 3) := by decide +kernel
theorem dX7_init_12 : decode cX7_init 12 = .ok (.dup, 1) := by decide +kernel
theorem dX7_init_13 : decode cX7_init 13 = .ok (.invokespecial 13, 3) := by decide +kernel
theorem dX7_init_16 : decode cX7_init 16 = .ok (.new 14, 3) := by decide +kernel
theorem dX7_init_19 : decode cX7_init 19 = .ok (.dup, 1) := by decide +kernel
theorem dX7_init_20 : decode cX7_init 20 = .ok (.invokespecial 16, 3) := by decide +kernel
theorem dX7_init_23 : decode cX7_init 23 = .ok (.invokespecial 17, 3) := by decide +kernel
theorem dX7_init_26 : decode cX7_init 26 = .ok (.putfield 20, 3) := by decide +kernel
theorem dX7_init_29 : decode cX7_init 29 = .ok (.aload_n 0, 1) := by decide +kernel
theorem dX7_init_30 : decode cX7_init 30 = .ok (.new 26, 3) := by decide +kernel
theorem dX7_init_33 : decode cX7_init 33 = .ok (.dup, 1) := by decide +kernel
theorem dX7_init_34 : decode cX7_init 34 = .ok (.invokespecial 28, 3) := by decide +kernel
theorem dX7_init_37 : decode cX7_init 37 = .ok (.putfield 29, 3) := by decide +kernel
theorem dX7_init_40 : decode cX7_init 40 = .ok (.return_, 1) := by decide +kernel
theorem dX7_copyFrom_0 : decode cX7_copyFrom 0 = .ok (.aload_n 0, 1) := by decide +kernel
theorem dX7_copyFrom_1 : decode cX7_copyFrom 1 = .ok (.getfield 20, 3) := by decide +kernel
theorem dX7_copyFrom_4 : decode cX7_copyFrom 4 = .ok (.getfield 33, 3) := by decide +kernel
theorem dX7_copyFrom_7 : decode cX7_copyFrom 7 = .ok (.aload_n 1, 1) := by decide +kernel
theorem dX7_copyFrom_8 : decode cX7_copyFrom 8 = .ok (.getfield 20, 3) := by decide +kernel
theorem dX7_copyFrom_11 : decode cX7_copyFrom 11 = .ok (.getfield 33, 3) := by decide +kernel
theorem dX7_copyFrom_14 : decode cX7_copyFrom 14 = .ok (.invokevirtual 37, 3) := by decide +kernel
theorem dX7_copyFrom_17 : decode cX7_copyFrom 17 = .ok (.aload_n 0, 1) := by decide +kernel
theorem dX7_copyFrom_18 : decode cX7_copyFrom 18 = .ok (.getfield 20, 3) := by decide +kernel
theorem dX7_copyFrom_21 : decode cX7_copyFrom 21 = .ok (.getfield 41, 3) := by decide +kernel
theorem dX7_copyFrom_24 : decode cX7_copyFrom 24 = .ok (.aload_n 1, 1) := by decide +kernel
theorem dX7_copyFrom_25 : decode cX7_copyFrom 25 = .ok (.getfield 20, 3) := by decide +kernel
theorem dX7_copyFrom_28 : decode cX7_copyFrom 28 = .ok (.getfield 41, 3) := by decide +kernel
theorem dX7_copyFrom_31 : decode cX7_copyFrom 31 = .ok (.invokevirtual 45, 3) := by decide +kernel
theorem dX7_copyFrom_34 : decode cX7_copyFrom 34 = .ok (.aload_n 0, 1) := by decide +kernel
theorem dX7_copyFrom_35 : decode cX7_copyFrom 35 = .ok (.getfield 20, 3) := by decide +kernel
theorem dX7_copyFrom_38 : decode cX7_copyFrom 38 = .ok (.getfield 48, 3) := by decide +kernel
theorem dX7_copyFrom_41 : decode cX7_copyFrom 41 = .ok (.aload_n 1, 1) := by decide +kernel
theorem dX7_copyFrom_42 : decode cX7_copyFrom 42 = .ok (.getfield 20, 3) := by decide +kernel
theorem dX7_copyFrom_45 : decode cX7_copyFrom 45 = .ok (.getfield 48, 3) := by decide +kernel
theorem dX7_copyFrom_48 : decode cX7_copyFrom 48 = .ok (.invokevirtual 52, 3) := by decide +kernel
theorem dX7_copyFrom_51 : decode cX7_copyFrom 51 = .ok (.aload_n 0, 1) := by decide +kernel
theorem dX7_copyFrom_52 : decode cX7_copyFrom 52 = .ok (.getfield 29, 3) := by decide +kernel
theorem dX7_copyFrom_55 : decode cX7_copyFrom 55 = .ok (.aload_n 1, 1) := by decide +kernel
theorem dX7_copyFrom_56 : decode cX7_copyFrom 56 = .ok (.getfield 29, 3) := by decide +kernel
theorem dX7_copyFrom_59 : decode cX7_copyFrom 59 = .ok (.invokevirtual 57, 3) := by decide +kernel
theorem dX7_copyFrom_62 : decode cX7_copyFrom 62 = .ok (.return_, 1) := by decide +kernel
theorem dX7_sitToRead_0 : decode cX7_sitToRead 0 = .ok (.aload_n 0, 1) := by decide +kernel
theorem dX7_sitToRead_1 : decode cX7_sitToRead 1 = .ok (.getfield 20, 3) := by decide +kernel
theorem dX7_sitToRead_4 : decode cX7_sitToRead 4 = .ok (.iload_n 1, 1) := by decide +kernel
theorem dX7_sitToRead_5 : decode cX7_sitToRead 5 = .ok (.invokevirtual 60, 3) := by decide +kernel
theorem dX7_sitToRead_8 : decode cX7_sitToRead 8 = .ok (.istore_n 3, 1) := by decide +kernel
theorem dX7_sitToRead_9 : decode cX7_sitToRead 9 = .ok (.aload_n 0, 1) := by decide +kernel
theorem dX7_sitToRead_10 : decode cX7_sitToRead 10 = .ok (.getfield 20, 3) := by decide +kernel
theorem dX7_sitToRead_13 : decode cX7_sitToRead 13 = .ok (.iload_n 1, 1) := by decide +kernel
theorem dX7_sitToRead_14 : decode cX7_sitToRead 14 = .ok (.iload_n 2, 1) := by decide +kernel
theorem dX7_sitToRead_15 : decode cX7_sitToRead 15 = .ok (.invokevirtual 64, 3) := by decide +kernel
theorem dX7_sitToRead_18 : decode cX7_sitToRead 18 = .ok (.aload_n 0, 1) := by decide +kernel
theorem dX7_sitToRead_19 : decode cX7_sitToRead 19 = .ok (.iload_n 1, 1) := by decide +kernel
theorem dX7_sitToRead_20 : decode cX7_sitToRead 20 = .ok (.iload_n 2, 1) := by decide +kernel
theorem dX7_sitToRead_21 : decode cX7_sitToRead 21 = .ok (.iload_n 3, 1) := by decide +kernel
theorem dX7_sitToRead_22 : decode cX7_sitToRead 22 = .ok (.iconst 0, 1) := by decide +kernel
theorem dX7_sitToRead_23 : decode cX7_sitToRead 23 = .ok (.invokevirtual 68, 3) := by decide +kernel
theorem dX7_sitToRead_26 : decode cX7_sitToRead 26 = .ok (.return_, 1) := by decide +kernel
theorem dX7_sitToLearn_0 : decode cX7_sitToLearn 0 = .ok (.aload_n 0, 1) := by decide +kernel
theorem dX7_sitToLearn_1 : decode cX7_sitToLearn 1 = .ok (.getfield 20, 3) := by decide +kernel
theorem dX7_sitToLearn_4 : decode cX7_sitToLearn 4 = .ok (.iload_n 1, 1) := by decide +kernel
theorem dX7_sitToLearn_5 : decode cX7_sitToLearn 5 = .ok (.invokevirtual 60, 3) := by decide +kernel
theorem dX7_sitToLearn_8 : decode cX7_sitToLearn 8 = .ok (.istore_n 2, 1) := by decide +kernel
theorem dX7_sitToLearn_9 : decode cX7_sitToLearn 9 = .ok (.aload_n 0, 1) := by decide +kernel
theorem dX7_sitToLearn_10 : decode cX7_sitToLearn 10 = .ok (.getfield 20, 3) := by decide +kernel
theorem dX7_sitToLearn_13 : decode cX7_sitToLearn 13 = .ok (.iload_n 1, 1) := by decide +kernel
theorem dX7_sitToLearn_14 : decode cX7_sitToLearn 14 = .ok (.invokevirtual 72, 3) := by decide +kernel
theorem dX7_sitToLearn_17 : decode cX7_sitToLearn 17 = .ok (.istore_n 3, 1) := by decide +kernel
theorem dX7_sitToLearn_18 : decode cX7_sitToLearn 18 = .ok (.iload_n 3, 1) := by decide +kernel
theorem dX7_sitToLearn_19 : decode cX7_sitToLearn 19 = .ok (.iconst (-1), 1) := by decide +kernel
theorem dX7_sitToLearn_20 : decode cX7_sitToLearn 20 = .ok (.if_icmp .ne 15, 3) := by decide +kernel
theorem dX7_sitToLearn_23 : decode cX7_sitToLearn 23 = .ok (.aload_n 0, 1) := by decide +kernel
theorem dX7_sitToLearn_24 : decode cX7_sitToLearn 24 = .ok (.iload_n 1, 1) := by decide +kernel
theorem dX7_sitToLearn_25 : decode cX7_sitToLearn 25 = .ok (.bipush 40, 2) := by decide +kernel
theorem dX7_sitToLearn_27 : decode cX7_sitToLearn 27 = .ok (.iload_n 2, 1) := by decide +kernel
theorem dX7_sitToLearn_28 : decode cX7_sitToLearn 28 = .ok (.iconst 2, 1) := by decide +kernel
theorem dX7_sitToLearn_29 : decode cX7_sitToLearn 29 = .ok (.invokevirtual 68, 3) := by decide +kernel
theorem dX7_sitToLearn_32 : decode cX7_sitToLearn 32 = .ok (.goto 11, 3) := by decide +kernel
theorem dX7_sitToLearn_35 : decode cX7_sitToLearn 35 = .ok (.aload_n 0, 1) := by decide +kernel
theorem dX7_sitToLearn_36 : decode cX7_sitToLearn 36 = .ok (.iload_n 1, 1) := by decide +kernel
theorem dX7_sitToLearn_37 : decode cX7_sitToLearn 37 = .ok (.iload_n 3, 1) := by decide +kernel
theorem dX7_sitToLearn_38 : decode cX7_sitToLearn 38 = .ok (.iload_n 2, 1) := by decide +kernel
theorem dX7_sitToLearn_39 : decode cX7_sitToLearn 39 = .ok (.iconst 1, 1) := by decide +kernel
theorem dX7_sitToLearn_40 : decode cX7_sitToLearn 40 = .ok (.invokevirtual 68, 3) := by decide +kernel
theorem dX7_sitToLearn_43 : decode cX7_sitToLearn 43 = .ok (.iload_n 3, 1) := by decide +kernel
theorem dX7_sitToLearn_44 : decode cX7_sitToLearn 44 = .ok (.ireturn, 1) := by decide +kernel
theorem dX7_enter_0 : decode cX7_enter 0 = .ok (.aload_n 0, 1) := by decide +kernel
theorem dX7_enter_1 : decode cX7_enter 1 = .ok (.getfield 20, 3) := by decide +kernel
theorem dX7_enter_4 : decode cX7_enter 4 = .ok (.getfield 41, 3) := by decide +kernel
theorem dX7_enter_7 : decode cX7_enter 7 = .ok (.getfield 75, 3) := by decide +kernel
theorem dX7_enter_10 : decode cX7_enter 10 = .ok (.iload_n 1, 1) := by decide +kernel
theorem dX7_enter_11 : decode cX7_enter 11 = .ok (.dup2, 1) := by decide +kernel
theorem dX7_enter_12 : decode cX7_enter 12 = .ok (.iaload, 1) := by decide +kernel
theorem dX7_enter_13 : decode cX7_enter 13 = .ok (.iload_n 2, 1) := by decide +kernel
theorem dX7_enter_14 : decode cX7_enter 14 = .ok (.iadd, 1) := by decide +kernel
theorem dX7_enter_15 : decode cX7_enter 15 = .ok (.iastore, 1) := by decide +kernel
theorem dX7_enter_16 : decode cX7_enter 16 = .ok (.aload_n 0, 1) := by decide +kernel
theorem dX7_enter_17 : decode cX7_enter 17 = .ok (.getfield 20, 3) := by decide +kernel
theorem dX7_enter_20 : decode cX7_enter 20 = .ok (.iload_n 1, 1) := by decide +kernel
theorem dX7_enter_21 : decode cX7_enter 21 = .ok (.invokevirtual 60, 3) := by decide +kernel
theorem dX7_enter_24 : decode cX7_enter 24 = .ok (.invokestatic 79, 3) := by decide +kernel
theorem dX7_enter_27 : decode cX7_enter 27 = .ok (.istore 5, 2) := by decide +kernel
theorem dX7_enter_29 : decode cX7_enter 29 = .ok (.aload_n 0, 1) := by decide +kernel
theorem dX7_enter_30 : decode cX7_enter 30 = .ok (.getfield 29, 3) := by decide +kernel
theorem dX7_enter_33 : decode cX7_enter 33 = .ok (.iload_n 1, 1) := by decide +kernel
theorem dX7_enter_34 : decode cX7_enter 34 = .ok (.iload_n 2, 1) := by decide +kernel
theorem dX7_enter_35 : decode cX7_enter 35 = .ok (.aload_n 0, 1) := by decide +kernel
theorem dX7_enter_36 : decode cX7_enter 36 = .ok (.getfield 20, 3) := by decide +kernel
theorem dX7_enter_39 : decode cX7_enter 39 = .ok (.getfield 48, 3) := by decide +kernel
theorem dX7_enter_42 : decode cX7_enter 42 = .ok (.getfield 84, 3) := by decide +kernel
theorem dX7_enter_45 : decode cX7_enter 45 = .ok (.iload_n 3, 1) := by decide +kernel
theorem dX7_enter_46 : decode cX7_enter 46 = .ok (.invokestatic 79, 3) := by decide +kernel
theorem dX7_enter_49 : decode cX7_enter 49 = .ok (.iload 5, 2) := by decide +kernel
theorem dX7_enter_51 : decode cX7_enter 51 = .ok (.iload 4, 2) := by decide +kernel
theorem dX7_enter_53 : decode cX7_enter 53 = .ok (.invokevirtual 88, 3) := by decide +kernel
theorem dX7_enter_56 : decode cX7_enter 56 = .ok (.return_, 1) := by decide +kernel
theorem dX8_init_0 : decode cX8_init 0 = .ok (.aload_n 0, 1) := by decide +kernel
theorem dX8_init_1 : decode cX8_init 1 = .ok (.invokespecial 3, 3) := by decide +kernel
theorem dX8_init_4 : decode cX8_init 4 = .ok (.aload_n 0, 1) := by decide +kernel
theorem dX8_init_5 : decode cX8_init 5 = .ok (.bipush 24, 2) := by decide +kernel
theorem dX8_init_7 : decode cX8_init 7 = .ok (.newarray .int, 2) := by decide +kernel
theorem dX8_init_9 : decode cX8_init 9 = .ok (.putfield 9, 3) := by decide +kernel
theorem dX8_init_12 : decode cX8_init 12 = .ok (.aload_n 0, 1) := by decide +kernel
theorem dX8_init_13 : decode cX8_init 13 = .ok (.iconst 4, 1) := by decide +kernel
theorem dX8_init_14 : decode cX8_init 14 = .ok (.newarray .int, 2) := by decide +kernel
theorem dX8_init_16 : decode cX8_init 16 = .ok (.putfield 15, 3) := by decide +kernel
theorem dX8_init_19 : decode cX8_init 19 = .ok (.aload_n 0, 1) := by decide +kernel
theorem dX8_init_20 : decode cX8_init 20 = .ok (.bipush 12, 2) := by decide +kernel
theorem dX8_init_22 : decode cX8_init 22 = .ok (.newarray .int, 2) := by decide +kernel
theorem dX8_init_24 : decode cX8_init 24 = .ok (.putfield 18, 3) := by decide +kernel
theorem dX8_init_27 : decode cX8_init 27 = .ok (.aload_n 0, 1) := by decide +kernel
theorem dX8_init_28 : decode cX8_init 28 = .ok (.bipush 12, 2) := by decide +kernel
theorem dX8_init_30 : decode cX8_init 30 = .ok (.newarray .int, 2) := by decide +kernel
theorem dX8_init_32 : decode cX8_init 32 = .ok (.putfield 21, 3) := by decide +kernel
theorem dX8_init_35 : decode cX8_init 35 = .ok (.aload_n 0, 1) := by decide +kernel
