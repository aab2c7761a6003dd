theorem dX0_init_0 : decode cX0_init 0 = .ok (.aload_n 0, 1) := by decide +kernel
theorem dX0_init_1 : decode cX0_init 1 = .ok (.invokespecial 1, 3) := by decide +kernel
theorem dX0_init_4 : decode cX0_init 4 = .ok (.aload_n 0, 1) := by decide +kernel
theorem dX0_init_5 : decode cX0_init 5 = .ok (.new 7, 3) := by decide +kernel
theorem dX0_init_8 : decode cX0_init 8 = .ok (.dup, 1) := by decide +kernel
theorem dX0_init_9 : decode cX0_init 9 = .ok (.invokespecial 9, 3) := by decide +kernel
theorem dX0_init_12 : decode cX0_init 12 = .ok (.putfield 10, 3) := by decide +kernel
theorem dX0_init_15 : decode cX0_init 15 = .ok (.return_, 1) := by decide +kernel
theorem dX0_learn_0 : decode cX0_learn 0 = .ok (.iconst 0, 1) := by decide +kernel
theorem dX0_learn_1 : decode cX0_learn 1 = .ok (.istore 4, 2) := by decide +kernel
theorem dX0_learn_3 : decode cX0_learn 3 = .ok (.iconst 0, 1) := by decide +kernel
theorem dX0_learn_4 : decode cX0_learn 4 = .ok (.istore 5, 2) := by decide +kernel
theorem dX0_learn_6 : decode cX0_learn 6 = .ok (.iload 5, 2) := by decide +kernel
theorem dX0_learn_8 : decode cX0_learn 8 = .ok (.aload_n 1, 1) := by decide +kernel
theorem dX0_learn_9 : decode cX0_learn 9 = .ok (.getfield 16, 3) := by decide +kernel
theorem dX0_learn_12 : decode cX0_learn 12 = .ok (.if_icmp .gt 55, 3) := by decide +kernel
theorem dX0_learn_15 : decode cX0_learn 15 = .ok (.iload 5, 2) := by decide +kernel
theorem dX0_learn_17 : decode cX0_learn 17 = .ok (.aload_n 1, 1) := by decide +kernel
theorem dX0_learn_18 : decode cX0_learn 18 = .ok (.getfield 16, 3) := by decide +kernel
theorem dX0_learn_21 : decode cX0_learn 21 = .ok (.if_icmp .eq 14, 3) := by decide +kernel
theorem dX0_learn_24 : decode cX0_learn 24 = .ok (.aload_n 1, 1) := by decide +kernel
theorem dX0_learn_25 : decode cX0_learn 25 = .ok (.iload 5, 2) := by decide +kernel
theorem dX0_learn_27 : decode cX0_learn 27 = .ok (.invokevirtual 22, 3) := by decide +kernel
theorem dX0_learn_30 : decode cX0_learn 30 = .ok (.bipush 95, 2) := by decide +kernel
theorem dX0_learn_32 : decode cX0_learn 32 = .ok (.if_icmp .ne 29, 3) := by decide +kernel
theorem dX0_learn_35 : decode cX0_learn 35 = .ok (.iload 5, 2) := by decide +kernel
theorem dX0_learn_37 : decode cX0_learn 37 = .ok (.iload 4, 2) := by decide +kernel
theorem dX0_learn_39 : decode cX0_learn 39 = .ok (.if_icmp .le 16, 3) := by decide +kernel
theorem dX0_learn_42 : decode cX0_learn 42 = .ok (.aload_n 0, 1) := by decide +kernel
theorem dX0_learn_43 : decode cX0_learn 43 = .ok (.aload_n 1, 1) := by decide +kernel
theorem dX0_learn_44 : decode cX0_learn 44 = .ok (.iload 4, 2) := by decide +kernel
theorem dX0_learn_46 : decode cX0_learn 46 = .ok (.iload 5, 2) := by decide +kernel
theorem dX0_learn_48 : decode cX0_learn 48 = .ok (.invokevirtual 26, 3) := by decide +kernel
theorem dX0_learn_51 : decode cX0_learn 51 = .ok (.lload_n 2, 1) := by decide +kernel
theorem dX0_learn_52 : decode cX0_learn 52 = .ok (.invokevirtual 30, 3) := by decide +kernel
theorem dX0_learn_55 : decode cX0_learn 55 = .ok (.iload 5, 2) := by decide +kernel
theorem dX0_learn_57 : decode cX0_learn 57 = .ok (.iconst 1, 1) := by decide +kernel
theorem dX0_learn_58 : decode cX0_learn 58 = .ok (.iadd, 1) := by decide +kernel
theorem dX0_learn_59 : decode cX0_learn 59 = .ok (.istore 4, 2) := by decide +kernel
theorem dX0_learn_61 : decode cX0_learn 61 = .ok (.iinc 5 1, 3) := by decide +kernel
theorem dX0_learn_64 : decode cX0_learn 64 = .ok (.goto (-58), 3) := by decide +kernel
theorem dX0_learn_67 : decode cX0_learn 67 = .ok (.return_, 1) := by decide +kernel
theorem dX0_enter_0 : decode cX0_enter 0 = .ok (.iconst 0, 1) := by decide +kernel
theorem dX0_enter_1 : decode cX0_enter 1 = .ok (.istore 4, 2) := by decide +kernel
theorem dX0_enter_3 : decode cX0_enter 3 = .ok (.iload 4, 2) := by decide +kernel
theorem dX0_enter_5 : decode cX0_enter 5 = .ok (.aload_n 0, 1) := by decide +kernel
theorem dX0_enter_6 : decode cX0_enter 6 = .ok (.getfield 10, 3) := by decide +kernel
theorem dX0_enter_9 : decode cX0_enter 9 = .ok (.invokevirtual 34, 3) := by decide +kernel
theorem dX0_enter_12 : decode cX0_enter 12 = .ok (.if_icmp .ge 31, 3) := by decide +kernel
theorem dX0_enter_15 : decode cX0_enter 15 = .ok (.aload_n 0, 1) := by decide +kernel
theorem dX0_enter_16 : decode cX0_enter 16 = .ok (.getfield 10, 3) := by decide +kernel
theorem dX0_enter_19 : decode cX0_enter 19 = .ok (.iload 4, 2) := by decide +kernel
theorem dX0_enter_21 : decode cX0_enter 21 = .ok (.invokevirtual 37, 3) := by decide +kernel
theorem dX0_enter_24 : decode cX0_enter 24 = .ok (.checkcast 41, 3) := by decide +kernel
theorem dX0_enter_27 : decode cX0_enter 27 = .ok (.getfield 43, 3) := by decide +kernel
theorem dX0_enter_30 : decode cX0_enter 30 = .ok (.aload_n 1, 1) := by decide +kernel
theorem dX0_enter_31 : decode cX0_enter 31 = .ok (.invokevirtual 47, 3) := by decide +kernel
theorem dX0_enter_34 : decode cX0_enter 34 = .ok (.ifCond .ge 9, 3) := by decide +kernel
theorem dX0_enter_37 : decode cX0_enter 37 = .ok (.iinc 4 1, 3) := by decide +kernel
theorem dX0_enter_40 : decode cX0_enter 40 = .ok (.goto (-37), 3) := by decide +kernel
theorem dX0_enter_43 : decode cX0_enter 43 = .ok (.iload 4, 2) := by decide +kernel
theorem dX0_enter_45 : decode cX0_enter 45 = .ok (.aload_n 0, 1) := by decide +kernel
theorem dX0_enter_46 : decode cX0_enter 46 = .ok (.getfield 10, 3) := by decide +kernel
theorem dX0_enter_49 : decode cX0_enter 49 = .ok (.invokevirtual 34, 3) := by decide +kernel
theorem dX0_enter_52 : decode cX0_enter 52 = .ok (.if_icmp .ge 49, 3) := by decide +kernel
theorem dX0_enter_55 : decode cX0_enter 55 = .ok (.aload_n 0, 1) := by decide +kernel
theorem dX0_enter_56 : decode cX0_enter 56 = .ok (.getfield 10, 3) := by decide +kernel
theorem dX0_enter_59 : decode cX0_enter 59 = .ok (.iload 4, 2) := by decide +kernel
theorem dX0_enter_61 : decode cX0_enter 61 = .ok (.invokevirtual 37, 3) := by decide +kernel
theorem dX0_enter_64 : decode cX0_enter 64 = .ok (.checkcast 41, 3) := by decide +kernel
theorem dX0_enter_67 : decode cX0_enter 67 = .ok (.getfield 43, 3) := by decide +kernel
theorem dX0_enter_70 : decode cX0_enter 70 = .ok (.aload_n 1, 1) := by decide +kernel
theorem dX0_enter_71 : decode cX0_enter 71 = .ok (.invokevirtual 47, 3) := by decide +kernel
theorem dX0_enter_74 : decode cX0_enter 74 = .ok (.ifCond .ne 27, 3) := by decide +kernel
theorem dX0_enter_77 : decode cX0_enter 77 = .ok (.aload_n 0, 1) := by decide +kernel
theorem dX0_enter_78 : decode cX0_enter 78 = .ok (.getfield 10, 3) := by decide +kernel
theorem dX0_enter_81 : decode cX0_enter 81 = .ok (.iload 4, 2) := by decide +kernel
theorem dX0_enter_83 : decode cX0_enter 83 = .ok (.invokevirtual 37, 3) := by decide +kernel
theorem dX0_enter_86 : decode cX0_enter 86 = .ok (.checkcast 41, 3) := by decide +kernel
theorem dX0_enter_89 : decode cX0_enter 89 = .ok (.dup, 1) := by decide +kernel
theorem dX0_enter_90 : decode cX0_enter 90 = .ok (.getfield 51, 3) := by decide +kernel
theorem dX0_enter_93 : decode cX0_enter 93 = .ok (.lload_n 2, 1) := by decide +kernel
theorem dX0_enter_94 : decode cX0_enter 94 = .ok (.lor, 1) := by decide +kernel
theorem dX0_enter_95 : decode cX0_enter 95 = .ok (.putfield 51, 3) := by decide +kernel
theorem dX0_enter_98 : decode cX0_enter 98 = .ok (.goto 21, 3) := by decide +kernel
theorem dX0_enter_101 : decode cX0_enter 101 = .ok (.aload_n 0, 1) := by decide +kernel
theorem dX0_enter_102 : decode cX0_enter 102 = .ok (.getfield 10, 3) := by decide +kernel
theorem dX0_enter_105 : decode cX0_enter 105 = .ok (.iload 4, 2) := by decide +kernel
theorem dX0_enter_107 : decode cX0_enter 107 = .ok (.new 41, 3) := by decide +kernel
theorem dX0_enter_110 : decode cX0_enter 110 = .ok (.dup, 1) := by decide +kernel
theorem dX0_enter_111 : decode cX0_enter 111 = .ok (.aload_n 1, 1) := by decide +kernel
theorem dX0_enter_112 : decode cX0_enter 112 = .ok (.lload_n 2, 1) := by decide +kernel
theorem dX0_enter_113 : decode cX0_enter 113 = .ok (.invokespecial 55, 3) := by decide +kernel
theorem dX0_enter_116 : decode cX0_enter 116 = .ok (.invokevirtual 57, 3) := by decide +kernel
theorem dX0_enter_119 : decode cX0_enter 119 = .ok (.return_, 1) := by decide +kernel
theorem dX0_wordFor_0 : decode cX0_wordFor 0 = .ok (.lload_n 1, 1) := by decide +kernel
theorem dX0_wordFor_1 : decode cX0_wordFor 1 = .ok (.invokestatic 61, 3) := by decide +kernel
theorem dX0_wordFor_4 : decode cX0_wordFor 4 = .ok (.istore 5, 2) := by decide +kernel
theorem dX0_wordFor_6 : decode cX0_wordFor 6 = .ok (.lload_n 3, 1) := by decide +kernel
theorem dX0_wordFor_7 : decode cX0_wordFor 7 = .ok (.invokestatic 61, 3) := by decide +kernel
theorem dX0_wordFor_10 : decode cX0_wordFor 10 = .ok (.istore 6, 2) := by decide +kernel
theorem dX0_wordFor_12 : decode cX0_wordFor 12 = .ok (.aconst_null, 1) := by decide +kernel
theorem dX0_wordFor_13 : decode cX0_wordFor 13 = .ok (.astore 7, 2) := by decide +kernel
theorem dX0_wordFor_15 : decode cX0_wordFor 15 = .ok (.iconst 0, 1) := by decide +kernel
theorem dX0_wordFor_16 : decode cX0_wordFor 16 = .ok (.istore 8, 2) := by decide +kernel
theorem dX0_wordFor_18 : decode cX0_wordFor 18 = .ok (.iconst 0, 1) := by decide +kernel
theorem dX0_wordFor_19 : decode cX0_wordFor 19 = .ok (.istore 9, 2) := by decide +kernel
theorem dX0_wordFor_21 : decode cX0_wordFor 21 = .ok (.iload 9, 2) := by decide +kernel
theorem dX0_wordFor_23 : decode cX0_wordFor 23 = .ok (.aload_n 0, 1) := by decide +kernel
theorem dX0_wordFor_24 : decode cX0_wordFor 24 = .ok (.getfield 10, 3) := by decide +kernel
theorem dX0_wordFor_27 : decode cX0_wordFor 27 = .ok (.invokevirtual 34, 3) := by decide +kernel
theorem dX0_wordFor_30 : decode cX0_wordFor 30 = .ok (.if_icmp .ge 81, 3) := by decide +kernel
theorem dX0_wordFor_33 : decode cX0_wordFor 33 = .ok (.aload_n 0, 1) := by decide +kernel
theorem dX0_wordFor_34 : decode cX0_wordFor 34 = .ok (.getfield 10, 3) := by decide +kernel
theorem dX0_wordFor_37 : decode cX0_wordFor 37 = .ok (.iload 9, 2) := by decide +kernel
theorem dX0_wordFor_39 : decode cX0_wordFor 39 = .ok (.invokevirtual 37, 3) := by decide +kernel
theorem dX0_wordFor_42 : decode cX0_wordFor 42 = .ok (.checkcast 41, 3) := by decide +kernel
theorem dX0_wordFor_45 : decode cX0_wordFor 45 = .ok (.astore 10, 2) := by decide +kernel
theorem dX0_wordFor_47 : decode cX0_wordFor 47 = .ok (.aload 10, 2) := by decide +kernel
theorem dX0_wordFor_49 : decode cX0_wordFor 49 = .ok (.getfield 51, 3) := by decide +kernel
theorem dX0_wordFor_52 : decode cX0_wordFor 52 = .ok (.lload_n 1, 1) := by decide +kernel
theorem dX0_wordFor_53 : decode cX0_wordFor 53 = .ok (.land, 1) := by decide +kernel
theorem dX0_wordFor_54 : decode cX0_wordFor 54 = .ok (.invokestatic 61, 3) := by decide +kernel
theorem dX0_wordFor_57 : decode cX0_wordFor 57 = .ok (.istore 11, 2) := by decide +kernel
theorem dX0_wordFor_59 : decode cX0_wordFor 59 = .ok (.iload 11, 2) := by decide +kernel
theorem dX0_wordFor_61 : decode cX0_wordFor 61 = .ok (.iload 6, 2) := by decide +kernel
theorem dX0_wordFor_63 : decode cX0_wordFor 63 = .ok (.imul, 1) := by decide +kernel
theorem dX0_wordFor_64 : decode cX0_wordFor 64 = .ok (.aload 10, 2) := by decide +kernel
theorem dX0_wordFor_66 : decode cX0_wordFor 66 = .ok (.getfield 51, 3) := by decide +kernel
theorem dX0_wordFor_69 : decode cX0_wordFor 69 = .ok (.lload_n 3, 1) := by decide +kernel
theorem dX0_wordFor_70 : decode cX0_wordFor 70 = .ok (.land, 1) := by decide +kernel
theorem dX0_wordFor_71 : decode cX0_wordFor 71 = .ok (.invokestatic 61, 3) := by decide +kernel
theorem dX0_wordFor_74 : decode cX0_wordFor 74 = .ok (.iload 5, 2) := by decide +kernel
theorem dX0_wordFor_76 : decode cX0_wordFor 76 = .ok (.imul, 1) := by decide +kernel
theorem dX0_wordFor_77 : decode cX0_wordFor 77 = .ok (.isub, 1) := by decide +kernel
theorem dX0_wordFor_78 : decode cX0_wordFor 78 = .ok (.istore 12, 2) := by decide +kernel
theorem dX0_wordFor_80 : decode cX0_wordFor 80 = .ok (.iload 11, 2) := by decide +kernel
theorem dX0_wordFor_82 : decode cX0_wordFor 82 = .ok (.ifCond .le 23, 3) := by decide +kernel
theorem dX0_wordFor_85 : decode cX0_wordFor 85 = .ok (.aload 7, 2) := by decide +kernel
theorem dX0_wordFor_87 : decode cX0_wordFor 87 = .ok (.ifnull 10, 3) := by decide +kernel
theorem dX0_wordFor_90 : decode cX0_wordFor 90 = .ok (.iload 12, 2) := by decide +kernel
theorem dX0_wordFor_92 : decode cX0_wordFor 92 = .ok (.iload 8, 2) := by decide +kernel
theorem dX0_wordFor_94 : decode cX0_wordFor 94 = .ok (.if_icmp .le 11, 3) := by decide +kernel
theorem dX0_wordFor_97 : decode cX0_wordFor 97 = .ok (.aload 10, 2) := by decide +kernel
theorem dX0_wordFor_99 : decode cX0_wordFor 99 = .ok (.astore 7, 2) := by decide +kernel
theorem dX0_wordFor_101 : decode cX0_wordFor 101 = .ok (.iload 12, 2) := by decide +kernel
theorem dX0_wordFor_103 : decode cX0_wordFor 103 = .ok (.istore 8, 2) := by decide +kernel
theorem dX0_wordFor_105 : decode cX0_wordFor 105 = .ok (.iinc 9 1, 3) := by decide +kernel
theorem dX0_wordFor_108 : decode cX0_wordFor 108 = .ok (.goto (-87), 3) := by decide +kernel
theorem dX0_wordFor_111 : decode cX0_wordFor 111 = .ok (.aload 7, 2) := by decide +kernel
theorem dX0_wordFor_113 : decode cX0_wordFor 113 = .ok (.areturn, 1) := by decide +kernel
theorem dX1_init_0 : decode cX1_init 0 = .ok (.aload_n 0, 1) := by decide +kernel
theorem dX1_init_1 : decode cX1_init 1 = .ok (.invokespecial 3, 3) := by decide +kernel
theorem dX1_init_4 : decode cX1_init 4 = .ok (.aload_n 0, 1) := by decide +kernel
theorem dX1_init_5 : decode cX1_init 5 = .ok (.bipush 40, 2) := by decide +kernel
theorem dX1_init_7 : decode cX1_init 7 = .ok (.newarray .int, 2) := by decide +kernel
theorem dX1_init_9 : decode cX1_init 9 = .ok (.putfield 9, 3) := by decide +kernel
theorem dX1_init_12 : decode cX1_init 12 = .ok (.aload_n 0, 1) := by decide +kernel
theorem dX1_init_13 : decode cX1_init 13 = .ok (.bipush 6, 2) := by decide +kernel
theorem dX1_init_15 : decode cX1_init 15 = .ok (.bipush 6, 2) := by decide +kernel
theorem dX1_init_17 : decode cX1_init 17 = .ok (.multianewarray 15 2, 4) := by decide +kernel
theorem dX1_init_21 : decode cX1_init 21 = .ok (.putfield 17, 3) := by decide +kernel
theorem dX1_init_24 : decode cX1_init 24 = .ok (.return_, 1) := by decide +kernel
theorem dX1_hold_0 : decode cX1_hold 0 = .ok (.iconst 0, 1) := by decide +kernel
theorem dX1_hold_1 : decode cX1_hold 1 = .ok (.istore_n 2, 1) := by decide +kernel
theorem dX1_hold_2 : decode cX1_hold 2 = .ok (.iload_n 2, 1) := by decide +kernel
theorem dX1_hold_3 : decode cX1_hold 3 = .ok (.bipush 40, 2) := by decide +kernel
theorem dX1_hold_5 : decode cX1_hold 5 = .ok (.if_icmp .ge 16, 3) := by decide +kernel
theorem dX1_hold_8 : decode cX1_hold 8 = .ok (.aload_n 0, 1) := by decide +kernel
theorem dX1_hold_9 : decode cX1_hold 9 = .ok (.getfield 9, 3) := by decide +kernel
theorem dX1_hold_12 : decode cX1_hold 12 = .ok (.iload_n 2, 1) := by decide +kernel
theorem dX1_hold_13 : decode cX1_hold 13 = .ok (.iconst (-1), 1) := by decide +kernel
theorem dX1_hold_14 : decode cX1_hold 14 = .ok (.iastore, 1) := by decide +kernel
theorem dX1_hold_15 : decode cX1_hold 15 = .ok (.iinc 2 1, 3) := by decide +kernel
theorem dX1_hold_18 : decode cX1_hold 18 = .ok (.goto (-16), 3) := by decide +kernel
theorem dX1_hold_21 : decode cX1_hold 21 = .ok (.iconst 0, 1) := by decide +kernel
theorem dX1_hold_22 : decode cX1_hold 22 = .ok (.istore_n 2, 1) := by decide +kernel
theorem dX1_hold_23 : decode cX1_hold 23 = .ok (.iload_n 2, 1) := by decide +kernel
theorem dX1_hold_24 : decode cX1_hold 24 = .ok (.aload_n 1, 1) := by decide +kernel
theorem dX1_hold_25 : decode cX1_hold 25 = .ok (.getfield 20, 3) := by decide +kernel
theorem dX1_hold_28 : decode cX1_hold 28 = .ok (.if_icmp .ge 32, 3) := by decide +kernel
theorem dX1_hold_31 : decode cX1_hold 31 = .ok (.aload_n 0, 1) := by decide +kernel
theorem dX1_hold_32 : decode cX1_hold 32 = .ok (.getfield 9, 3) := by decide +kernel
theorem dX1_hold_35 : decode cX1_hold 35 = .ok (.aload_n 1, 1) := by decide +kernel
theorem dX1_hold_36 : decode cX1_hold 36 = .ok (.getfield 26, 3) := by decide +kernel
theorem dX1_hold_39 : decode cX1_hold 39 = .ok (.iload_n 2, 1) := by decide +kernel
theorem dX1_hold_40 : decode cX1_hold 40 = .ok (.aaload, 1) := by decide +kernel
theorem dX1_hold_41 : decode cX1_hold 41 = .ok (.getfield 30, 3) := by decide +kernel
theorem dX1_hold_44 : decode cX1_hold 44 = .ok (.aload_n 1, 1) := by decide +kernel
theorem dX1_hold_45 : decode cX1_hold 45 = .ok (.getfield 26, 3) := by decide +kernel
theorem dX1_hold_48 : decode cX1_hold 48 = .ok (.iload_n 2, 1) := by decide +kernel
theorem dX1_hold_49 : decode cX1_hold 49 = .ok (.aaload, 1) := by decide +kernel
theorem dX1_hold_50 : decode cX1_hold 50 = .ok (.getfield 35, 3) := by decide +kernel
theorem dX1_hold_53 : decode cX1_hold 53 = .ok (.iastore, 1) := by decide +kernel
theorem dX1_hold_54 : decode cX1_hold 54 = .ok (.iinc 2 1, 3) := by decide +kernel
theorem dX1_hold_57 : decode cX1_hold 57 = .ok (.goto (-34), 3) := by decide +kernel
theorem dX1_hold_60 : decode cX1_hold 60 = .ok (.aload_n 0, 1) := by decide +kernel
theorem dX1_hold_61 : decode cX1_hold 61 = .ok (.iconst 1, 1) := by decide +kernel
theorem dX1_hold_62 : decode cX1_hold 62 = .ok (.putfield 38, 3) := by decide +kernel
theorem dX1_hold_65 : decode cX1_hold 65 = .ok (.aload_n 1, 1) := by decide +kernel
theorem dX1_hold_66 : decode cX1_hold 66 = .ok (.getfield 20, 3) := by decide +kernel
theorem dX1_hold_69 : decode cX1_hold 69 = .ok (.ireturn, 1) := by decide +kernel
theorem dX1_distance_0 : decode cX1_distance 0 = .ok (.aload_n 0, 1) := by decide +kernel
theorem dX1_distance_1 : decode cX1_distance 1 = .ok (.getfield 38, 3) := by decide +kernel
theorem dX1_distance_4 : decode cX1_distance 4 = .ok (.ifCond .eq 21, 3) := by decide +kernel
theorem dX1_distance_7 : decode cX1_distance 7 = .ok (.aload_n 0, 1) := by decide +kernel
theorem dX1_distance_8 : decode cX1_distance 8 = .ok (.aload_n 1, 1) := by decide +kernel
theorem dX1_distance_9 : decode cX1_distance 9 = .ok (.invokevirtual 42, 3) := by decide +kernel
theorem dX1_distance_12 : decode cX1_distance 12 = .ok (.aload_n 0, 1) := by decide +kernel
theorem dX1_distance_13 : decode cX1_distance 13 = .ok (.getfield 17, 3) := by decide +kernel
theorem dX1_distance_16 : decode cX1_distance 16 = .ok (.iconst 0, 1) := by decide +kernel
theorem dX1_distance_17 : decode cX1_distance 17 = .ok (.iconst 0, 1) := by decide +kernel
theorem dX1_distance_18 : decode cX1_distance 18 = .ok (.invokestatic 46, 3) := by decide +kernel
theorem dX1_distance_21 : decode cX1_distance 21 = .ok (.isub, 1) := by decide +kernel
theorem dX1_distance_22 : decode cX1_distance 22 = .ok (.goto 4, 3) := by decide +kernel
theorem dX1_distance_25 : decode cX1_distance 25 = .ok (.iconst (-1), 1) := by decide +kernel
theorem dX1_distance_26 : decode cX1_distance 26 = .ok (.ireturn, 1) := by decide +kernel
theorem dX1_countPairs_0 : decode cX1_countPairs 0 = .ok (.iconst 0, 1) := by decide +kernel
theorem dX1_countPairs_1 : decode cX1_countPairs 1 = .ok (.istore_n 2, 1) := by decide +kernel
theorem dX1_countPairs_2 : decode cX1_countPairs 2 = .ok (.iload_n 2, 1) := by decide +kernel
theorem dX1_countPairs_3 : decode cX1_countPairs 3 = .ok (.bipush 6, 2) := by decide +kernel
theorem dX1_countPairs_5 : decode cX1_countPairs 5 = .ok (.if_icmp .ge 32, 3) := by decide +kernel
theorem dX1_countPairs_8 : decode cX1_countPairs 8 = .ok (.iconst 0, 1) := by decide +kernel
theorem dX1_countPairs_9 : decode cX1_countPairs 9 = .ok (.istore_n 3, 1) := by decide +kernel
theorem dX1_countPairs_10 : decode cX1_countPairs 10 = .ok (.iload_n 3, 1) := by decide +kernel
theorem dX1_countPairs_11 : decode cX1_countPairs 11 = .ok (.bipush 6, 2) := by decide +kernel
theorem dX1_countPairs_13 : decode cX1_countPairs 13 = .ok (.if_icmp .ge 18, 3) := by decide +kernel
theorem dX1_countPairs_16 : decode cX1_countPairs 16 = .ok (.aload_n 0, 1) := by decide +kernel
theorem dX1_countPairs_17 : decode cX1_countPairs 17 = .ok (.getfield 17, 3) := by decide +kernel
theorem dX1_countPairs_20 : decode cX1_countPairs 20 = .ok (.iload_n 2, 1) := by decide +kernel
theorem dX1_countPairs_21 : decode cX1_countPairs 21 = .ok (.aaload, 1) := by decide +kernel
theorem dX1_countPairs_22 : decode cX1_countPairs 22 = .ok (.iload_n 3, 1) := by decide +kernel
theorem dX1_countPairs_23 : decode cX1_countPairs 23 = .ok (.iconst 0, 1) := by decide +kernel
theorem dX1_countPairs_24 : decode cX1_countPairs 24 = .ok (.iastore, 1) := by decide +kernel
theorem dX1_countPairs_25 : decode cX1_countPairs 25 = .ok (.iinc 3 1, 3) := by decide +kernel
theorem dX1_countPairs_28 : decode cX1_countPairs 28 = .ok (.goto (-18), 3) := by decide +kernel
theorem dX1_countPairs_31 : decode cX1_countPairs 31 = .ok (.iinc 2 1, 3) := by decide +kernel
theorem dX1_countPairs_34 : decode cX1_countPairs 34 = .ok (.goto (-32), 3) := by decide +kernel
theorem dX1_countPairs_37 : decode cX1_countPairs 37 = .ok (.iconst 0, 1) := by decide +kernel
theorem dX1_countPairs_38 : decode cX1_countPairs 38 = .ok (.istore_n 2, 1) := by decide +kernel
theorem dX1_countPairs_39 : decode cX1_countPairs 39 = .ok (.iconst 0, 1) := by decide +kernel
theorem dX1_countPairs_40 : decode cX1_countPairs 40 = .ok (.istore_n 3, 1) := by decide +kernel
theorem dX1_countPairs_41 : decode cX1_countPairs 41 = .ok (.iload_n 3, 1) := by decide +kernel
theorem dX1_countPairs_42 : decode cX1_countPairs 42 = .ok (.aload_n 1, 1) := by decide +kernel
theorem dX1_countPairs_43 : decode cX1_countPairs 43 = .ok (.getfield 20, 3) := by decide +kernel
theorem dX1_countPairs_46 : decode cX1_countPairs 46 = .ok (.if_icmp .ge 55, 3) := by decide +kernel
theorem dX1_countPairs_49 : decode cX1_countPairs 49 = .ok (.aload_n 0, 1) := by decide +kernel
theorem dX1_countPairs_50 : decode cX1_countPairs 50 = .ok (.getfield 9, 3) := by decide +kernel
theorem dX1_countPairs_53 : decode cX1_countPairs 53 = .ok (.aload_n 1, 1) := by decide +kernel
theorem dX1_countPairs_54 : decode cX1_countPairs 54 = .ok (.getfield 26, 3) := by decide +kernel
theorem dX1_countPairs_57 : decode cX1_countPairs 57 = .ok (.iload_n 3, 1) := by decide +kernel
theorem dX1_countPairs_58 : decode cX1_countPairs 58 = .ok (.aaload, 1) := by decide +kernel
theorem dX1_countPairs_59 : decode cX1_countPairs 59 = .ok (.getfield 30, 3) := by decide +kernel
theorem dX1_countPairs_62 : decode cX1_countPairs 62 = .ok (.iaload, 1) := by decide +kernel
theorem dX1_countPairs_63 : decode cX1_countPairs 63 = .ok (.istore 4, 2) := by decide +kernel
theorem dX1_countPairs_65 : decode cX1_countPairs 65 = .ok (.iload 4, 2) := by decide +kernel
theorem dX1_countPairs_67 : decode cX1_countPairs 67 = .ok (.iconst (-1), 1) := by decide +kernel
theorem dX1_countPairs_68 : decode cX1_countPairs 68 = .ok (.if_icmp .eq 27, 3) := by decide +kernel
theorem dX1_countPairs_71 : decode cX1_countPairs 71 = .ok (.aload_n 0, 1) := by decide +kernel
theorem dX1_countPairs_72 : decode cX1_countPairs 72 = .ok (.getfield 17, 3) := by decide +kernel
theorem dX1_countPairs_75 : decode cX1_countPairs 75 = .ok (.iload 4, 2) := by decide +kernel
theorem dX1_countPairs_77 : decode cX1_countPairs 77 = .ok (.aaload, 1) := by decide +kernel
theorem dX1_countPairs_78 : decode cX1_countPairs 78 = .ok (.aload_n 1, 1) := by decide +kernel
theorem dX1_countPairs_79 : decode cX1_countPairs 79 = .ok (.getfield 26, 3) := by decide +kernel
theorem dX1_countPairs_82 : decode cX1_countPairs 82 = .ok (.iload_n 3, 1) := by decide +kernel
theorem dX1_countPairs_83 : decode cX1_countPairs 83 = .ok (.aaload, 1) := by decide +kernel
theorem dX1_countPairs_84 : decode cX1_countPairs 84 = .ok (.getfield 35, 3) := by decide +kernel
theorem dX1_countPairs_87 : decode cX1_countPairs 87 = .ok (.dup2, 1) := by decide +kernel
theorem dX1_countPairs_88 : decode cX1_countPairs 88 = .ok (.iaload, 1) := by decide +kernel
theorem dX1_countPairs_89 : decode cX1_countPairs 89 = .ok (.iconst 1, 1) := by decide +kernel
theorem dX1_countPairs_90 : decode cX1_countPairs 90 = .ok (.iadd, 1) := by decide +kernel
theorem dX1_countPairs_91 : decode cX1_countPairs 91 = .ok (.iastore, 1) := by decide +kernel
theorem dX1_countPairs_92 : decode cX1_countPairs 92 = .ok (.iinc 2 1, 3) := by decide +kernel
theorem dX1_countPairs_95 : decode cX1_countPairs 95 = .ok (.iinc 3 1, 3) := by decide +kernel
theorem dX1_countPairs_98 : decode cX1_countPairs 98 = .ok (.goto (-57), 3) := by decide +kernel
theorem dX1_countPairs_101 : decode cX1_countPairs 101 = .ok (.iload_n 2, 1) := by decide +kernel
theorem dX1_countPairs_102 : decode cX1_countPairs 102 = .ok (.ireturn, 1) := by decide +kernel
theorem dX1_mostAlike_0 : decode cX1_mostAlike 0 = .ok (.iload_n 1, 1) := by decide +kernel
theorem dX1_mostAlike_1 : decode cX1_mostAlike 1 = .ok (.bipush 6, 2) := by decide +kernel
theorem dX1_mostAlike_3 : decode cX1_mostAlike 3 = .ok (.if_icmp .lt 5, 3) := by decide +kernel
theorem dX1_mostAlike_6 : decode cX1_mostAlike 6 = .ok (.iconst 0, 1) := by decide +kernel
theorem dX1_mostAlike_7 : decode cX1_mostAlike 7 = .ok (.ireturn, 1) := by decide +kernel
theorem dX1_mostAlike_8 : decode cX1_mostAlike 8 = .ok (.iconst 0, 1) := by decide +kernel
theorem dX1_mostAlike_9 : decode cX1_mostAlike 9 = .ok (.istore_n 3, 1) := by decide +kernel
theorem dX1_mostAlike_10 : decode cX1_mostAlike 10 = .ok (.iconst 0, 1) := by decide +kernel
theorem dX1_mostAlike_11 : decode cX1_mostAlike 11 = .ok (.istore 4, 2) := by decide +kernel
theorem dX1_mostAlike_13 : decode cX1_mostAlike 13 = .ok (.iload 4, 2) := by decide +kernel
theorem dX1_mostAlike_15 : decode cX1_mostAlike 15 = .ok (.bipush 6, 2) := by decide +kernel
theorem dX1_mostAlike_17 : decode cX1_mostAlike 17 = .ok (.if_icmp .ge 43, 3) := by decide +kernel
theorem dX1_mostAlike_20 : decode cX1_mostAlike 20 = .ok (.iload_n 2, 1) := by decide +kernel
theorem dX1_mostAlike_21 : decode cX1_mostAlike 21 = .ok (.iconst 1, 1) := by decide +kernel
theorem dX1_mostAlike_22 : decode cX1_mostAlike 22 = .ok (.iload 4, 2) := by decide +kernel
theorem dX1_mostAlike_24 : decode cX1_mostAlike 24 = .ok (.ishl, 1) := by decide +kernel
theorem dX1_mostAlike_25 : decode cX1_mostAlike 25 = .ok (.iand, 1) := by decide +kernel
theorem dX1_mostAlike_26 : decode cX1_mostAlike 26 = .ok (.ifCond .ne 28, 3) := by decide +kernel
theorem dX1_mostAlike_29 : decode cX1_mostAlike 29 = .ok (.iload_n 3, 1) := by decide +kernel
theorem dX1_mostAlike_30 : decode cX1_mostAlike 30 = .ok (.aload_n 0, 1) := by decide +kernel
theorem dX1_mostAlike_31 : decode cX1_mostAlike 31 = .ok (.iload_n 1, 1) := by decide +kernel
theorem dX1_mostAlike_32 : decode cX1_mostAlike 32 = .ok (.aaload, 1) := by decide +kernel
theorem dX1_mostAlike_33 : decode cX1_mostAlike 33 = .ok (.iload 4, 2) := by decide +kernel
theorem dX1_mostAlike_35 : decode cX1_mostAlike 35 = .ok (.iaload, 1) := by decide +kernel
theorem dX1_mostAlike_36 : decode cX1_mostAlike 36 = .ok (.aload_n 0, 1) := by decide +kernel
theorem dX1_mostAlike_37 : decode cX1_mostAlike 37 = .ok (.iload_n 1, 1) := by decide +kernel
theorem dX1_mostAlike_38 : decode cX1_mostAlike 38 = .ok (.iconst 1, 1) := by decide +kernel
theorem dX1_mostAlike_39 : decode cX1_mostAlike 39 = .ok (.iadd, 1) := by decide +kernel
theorem dX1_mostAlike_40 : decode cX1_mostAlike 40 = .ok (.iload_n 2, 1) := by decide +kernel
theorem dX1_mostAlike_41 : decode cX1_mostAlike 41 = .ok (.iconst 1, 1) := by decide +kernel
theorem dX1_mostAlike_42 : decode cX1_mostAlike 42 = .ok (.iload 4, 2) := by decide +kernel
theorem dX1_mostAlike_44 : decode cX1_mostAlike 44 = .ok (.ishl, 1) := by decide +kernel
theorem dX1_mostAlike_45 : decode cX1_mostAlike 45 = .ok (.ior, 1) := by decide +kernel
theorem dX1_mostAlike_46 : decode cX1_mostAlike 46 = .ok (.invokestatic 46, 3) := by decide +kernel
theorem dX1_mostAlike_49 : decode cX1_mostAlike 49 = .ok (.iadd, 1) := by decide +kernel
theorem dX1_mostAlike_50 : decode cX1_mostAlike 50 = .ok (.invokestatic 50, 3) := by decide +kernel
theorem dX1_mostAlike_53 : decode cX1_mostAlike 53 = .ok (.istore_n 3, 1) := by decide +kernel
theorem dX1_mostAlike_54 : decode cX1_mostAlike 54 = .ok (.iinc 4 1, 3) := by decide +kernel
theorem dX1_mostAlike_57 : decode cX1_mostAlike 57 = .ok (.goto (-44), 3) := by decide +kernel
theorem dX1_mostAlike_60 : decode cX1_mostAlike 60 = .ok (.iload_n 3, 1) := by decide +kernel
theorem dX1_mostAlike_61 : decode cX1_mostAlike 61 = .ok (.ireturn, 1) := by decide +kernel
theorem dX2_init_0 : decode cX2_init 0 = .ok (.aload_n 0, 1) := by decide +kernel
theorem dX2_init_1 : decode cX2_init 1 = .ok (.invokespecial 3, 3) := by decide +kernel
theorem dX2_init_4 : decode cX2_init 4 = .ok (.aload_n 0, 1) := by decide +kernel
theorem dX2_init_5 : decode cX2_init 5 = .ok (.bipush 6, 2) := by decide +kernel
theorem dX2_init_7 : decode cX2_init 7 = .ok (.newarray .int, 2) := by decide +kernel
theorem dX2_init_9 : decode cX2_init 9 = .ok (.putfield 9, 3) := by decide +kernel
theorem dX2_init_12 : decode cX2_init 12 = .ok (.aload_n 0, 1) := by decide +kernel
theorem dX2_init_13 : decode cX2_init 13 = .ok (.aload_n 1, 1) := by decide +kernel
theorem dX2_init_14 : decode cX2_init 14 = .ok (.putfield 15, 3) := by decide +kernel
theorem dX2_init_17 : decode cX2_init 17 = .ok (.return_, 1) := by decide +kernel
theorem dX2_mend_0 : decode cX2_mend 0 = .ok (.aload_n 0, 1) := by decide +kernel
theorem dX2_mend_1 : decode cX2_mend 1 = .ok (.invokevirtual 19, 3) := by decide +kernel
theorem dX2_mend_4 : decode cX2_mend 4 = .ok (.iconst 0, 1) := by decide +kernel
theorem dX2_mend_5 : decode cX2_mend 5 = .ok (.istore_n 1, 1) := by decide +kernel
theorem dX2_mend_6 : decode cX2_mend 6 = .ok (.iload_n 1, 1) := by decide +kernel
theorem dX2_mend_7 : decode cX2_mend 7 = .ok (.aload_n 0, 1) := by decide +kernel
theorem dX2_mend_8 : decode cX2_mend 8 = .ok (.getfield 15, 3) := by decide +kernel
theorem dX2_mend_11 : decode cX2_mend 11 = .ok (.getfield 22, 3) := by decide +kernel
theorem dX2_mend_14 : decode cX2_mend 14 = .ok (.if_icmp .ge 22, 3) := by decide +kernel
theorem dX2_mend_17 : decode cX2_mend 17 = .ok (.aload_n 0, 1) := by decide +kernel
theorem dX2_mend_18 : decode cX2_mend 18 = .ok (.aload_n 0, 1) := by decide +kernel
theorem dX2_mend_19 : decode cX2_mend 19 = .ok (.getfield 15, 3) := by decide +kernel
theorem dX2_mend_22 : decode cX2_mend 22 = .ok (.getfield 28, 3) := by decide +kernel
theorem dX2_mend_25 : decode cX2_mend 25 = .ok (.iload_n 1, 1) := by decide +kernel
theorem dX2_mend_26 : decode cX2_mend 26 = .ok (.aaload, 1) := by decide +kernel
theorem dX2_mend_27 : decode cX2_mend 27 = .ok (.invokevirtual 32, 3) := by decide +kernel
theorem dX2_mend_30 : decode cX2_mend 30 = .ok (.iinc 1 1, 3) := by decide +kernel
theorem dX2_mend_33 : decode cX2_mend 33 = .ok (.goto (-27), 3) := by decide +kernel
theorem dX2_mend_36 : decode cX2_mend 36 = .ok (.iconst 0, 1) := by decide +kernel
theorem dX2_mend_37 : decode cX2_mend 37 = .ok (.istore_n 1, 1) := by decide +kernel
theorem dX2_mend_38 : decode cX2_mend 38 = .ok (.iload_n 1, 1) := by decide +kernel
theorem dX2_mend_39 : decode cX2_mend 39 = .ok (.bipush 100, 2) := by decide +kernel
theorem dX2_mend_41 : decode cX2_mend 41 = .ok (.if_icmp .ge 20, 3) := by decide +kernel
theorem dX2_mend_44 : decode cX2_mend 44 = .ok (.aload_n 0, 1) := by decide +kernel
theorem dX2_mend_45 : decode cX2_mend 45 = .ok (.invokevirtual 36, 3) := by decide +kernel
theorem dX2_mend_48 : decode cX2_mend 48 = .ok (.ifCond .eq 13, 3) := by decide +kernel
theorem dX2_mend_51 : decode cX2_mend 51 = .ok (.aload_n 0, 1) := by decide +kernel
theorem dX2_mend_52 : decode cX2_mend 52 = .ok (.invokevirtual 40, 3) := by decide +kernel
theorem dX2_mend_55 : decode cX2_mend 55 = .ok (.iinc 1 1, 3) := by decide +kernel
theorem dX2_mend_58 : decode cX2_mend 58 = .ok (.goto (-20), 3) := by decide +kernel
theorem dX2_mend_61 : decode cX2_mend 61 = .ok (.iload_n 1, 1) := by decide +kernel
theorem dX2_mend_62 : decode cX2_mend 62 = .ok (.ireturn, 1) := by decide +kernel
theorem dX2_leastShift_0 : decode cX2_leastShift 0 = .ok (.aload_n 0, 1) := by decide +kernel
theorem dX2_leastShift_1 : decode cX2_leastShift 1 = .ok (.invokevirtual 19, 3) := by decide +kernel
theorem dX2_leastShift_4 : decode cX2_leastShift 4 = .ok (.aload_n 0, 1) := by decide +kernel
theorem dX2_leastShift_5 : decode cX2_leastShift 5 = .ok (.aload_n 1, 1) := by decide +kernel
theorem dX2_leastShift_6 : decode cX2_leastShift 6 = .ok (.invokevirtual 32, 3) := by decide +kernel
theorem dX2_leastShift_9 : decode cX2_leastShift 9 = .ok (.ldc2_w 43, 3) := by decide +kernel
theorem dX2_leastShift_12 : decode cX2_leastShift 12 = .ok (.lstore_n 2, 1) := by decide +kernel
theorem dX2_leastShift_13 : decode cX2_leastShift 13 = .ok (.iconst 0, 1) := by decide +kernel
theorem dX2_leastShift_14 : decode cX2_leastShift 14 = .ok (.istore 4, 2) := by decide +kernel
theorem dX2_leastShift_16 : decode cX2_leastShift 16 = .ok (.iconst 0, 1) := by decide +kernel
theorem dX2_leastShift_17 : decode cX2_leastShift 17 = .ok (.istore 5, 2) := by decide +kernel
theorem dX2_leastShift_19 : decode cX2_leastShift 19 = .ok (.iload 5, 2) := by decide +kernel
theorem dX2_leastShift_21 : decode cX2_leastShift 21 = .ok (.aload_n 0, 1) := by decide +kernel
theorem dX2_leastShift_22 : decode cX2_leastShift 22 = .ok (.getfield 15, 3) := by decide +kernel
theorem dX2_leastShift_25 : decode cX2_leastShift 25 = .ok (.invokevirtual 45, 3) := by decide +kernel
theorem dX2_leastShift_28 : decode cX2_leastShift 28 = .ok (.if_icmp .ge 47, 3) := by decide +kernel
theorem dX2_leastShift_31 : decode cX2_leastShift 31 = .ok (.iload 5, 2) := by decide +kernel
theorem dX2_leastShift_33 : decode cX2_leastShift 33 = .ok (.aload_n 1, 1) := by decide +kernel
theorem dX2_leastShift_34 : decode cX2_leastShift 34 = .ok (.getfield 49, 3) := by decide +kernel
theorem dX2_leastShift_37 : decode cX2_leastShift 37 = .ok (.if_icmp .eq 32, 3) := by decide +kernel
theorem dX2_leastShift_40 : decode cX2_leastShift 40 = .ok (.aload_n 0, 1) := by decide +kernel
theorem dX2_leastShift_41 : decode cX2_leastShift 41 = .ok (.aload_n 1, 1) := by decide +kernel
theorem dX2_leastShift_42 : decode cX2_leastShift 42 = .ok (.iload 5, 2) := by decide +kernel
theorem dX2_leastShift_44 : decode cX2_leastShift 44 = .ok (.invokevirtual 54, 3) := by decide +kernel
theorem dX2_leastShift_47 : decode cX2_leastShift 47 = .ok (.lstore 6, 2) := by decide +kernel
theorem dX2_leastShift_49 : decode cX2_leastShift 49 = .ok (.iload 4, 2) := by decide +kernel
theorem dX2_leastShift_51 : decode cX2_leastShift 51 = .ok (.ifCond .eq 12, 3) := by decide +kernel
theorem dX2_leastShift_54 : decode cX2_leastShift 54 = .ok (.lload_n 2, 1) := by decide +kernel
theorem dX2_leastShift_55 : decode cX2_leastShift 55 = .ok (.lload 6, 2) := by decide +kernel
theorem dX2_leastShift_57 : decode cX2_leastShift 57 = .ok (.invokestatic 58, 3) := by decide +kernel
theorem dX2_leastShift_60 : decode cX2_leastShift 60 = .ok (.goto 5, 3) := by decide +kernel
theorem dX2_leastShift_63 : decode cX2_leastShift 63 = .ok (.lload 6, 2) := by decide +kernel
theorem dX2_leastShift_65 : decode cX2_leastShift 65 = .ok (.lstore_n 2, 1) := by decide +kernel
theorem dX2_leastShift_66 : decode cX2_leastShift 66 = .ok (.iconst 1, 1) := by decide +kernel
theorem dX2_leastShift_67 : decode cX2_leastShift 67 = .ok (.istore 4, 2) := by decide +kernel
theorem dX2_leastShift_69 : decode cX2_leastShift 69 = .ok (.iinc 5 1, 3) := by decide +kernel
theorem dX2_leastShift_72 : decode cX2_leastShift 72 = .ok (.goto (-53), 3) := by decide +kernel
theorem dX2_leastShift_75 : decode cX2_leastShift 75 = .ok (.lload_n 2, 1) := by decide +kernel
theorem dX2_leastShift_76 : decode cX2_leastShift 76 = .ok (.lreturn, 1) := by decide +kernel
theorem dX2_countSizes_0 : decode cX2_countSizes 0 = .ok (.iconst 0, 1) := by decide +kernel
theorem dX2_countSizes_1 : decode cX2_countSizes 1 = .ok (.istore_n 1, 1) := by decide +kernel
theorem dX2_countSizes_2 : decode cX2_countSizes 2 = .ok (.iload_n 1, 1) := by decide +kernel
theorem dX2_countSizes_3 : decode cX2_countSizes 3 = .ok (.bipush 6, 2) := by decide +kernel
theorem dX2_countSizes_5 : decode cX2_countSizes 5 = .ok (.if_icmp .ge 16, 3) := by decide +kernel
theorem dX2_countSizes_8 : decode cX2_countSizes 8 = .ok (.aload_n 0, 1) := by decide +kernel
theorem dX2_countSizes_9 : decode cX2_countSizes 9 = .ok (.getfield 9, 3) := by decide +kernel
theorem dX2_countSizes_12 : decode cX2_countSizes 12 = .ok (.iload_n 1, 1) := by decide +kernel
theorem dX2_countSizes_13 : decode cX2_countSizes 13 = .ok (.iconst 0, 1) := by decide +kernel
theorem dX2_countSizes_14 : decode cX2_countSizes 14 = .ok (.iastore, 1) := by decide +kernel
theorem dX2_countSizes_15 : decode cX2_countSizes 15 = .ok (.iinc 1 1, 3) := by decide +kernel
theorem dX2_countSizes_18 : decode cX2_countSizes 18 = .ok (.goto (-16), 3) := by decide +kernel
theorem dX2_countSizes_21 : decode cX2_countSizes 21 = .ok (.iconst 0, 1) := by decide +kernel
theorem dX2_countSizes_22 : decode cX2_countSizes 22 = .ok (.istore_n 1, 1) := by decide +kernel
theorem dX2_countSizes_23 : decode cX2_countSizes 23 = .ok (.iload_n 1, 1) := by decide +kernel
theorem dX2_countSizes_24 : decode cX2_countSizes 24 = .ok (.aload_n 0, 1) := by decide +kernel
theorem dX2_countSizes_25 : decode cX2_countSizes 25 = .ok (.getfield 15, 3) := by decide +kernel
theorem dX2_countSizes_28 : decode cX2_countSizes 28 = .ok (.getfield 22, 3) := by decide +kernel
theorem dX2_countSizes_31 : decode cX2_countSizes 31 = .ok (.if_icmp .ge 30, 3) := by decide +kernel
theorem dX2_countSizes_34 : decode cX2_countSizes 34 = .ok (.aload_n 0, 1) := by decide +kernel
theorem dX2_countSizes_35 : decode cX2_countSizes 35 = .ok (.getfield 9, 3) := by decide +kernel
theorem dX2_countSizes_38 : decode cX2_countSizes 38 = .ok (.aload_n 0, 1) := by decide +kernel
theorem dX2_countSizes_39 : decode cX2_countSizes 39 = .ok (.getfield 15, 3) := by decide +kernel
theorem dX2_countSizes_42 : decode cX2_countSizes 42 = .ok (.getfield 28, 3) := by decide +kernel
theorem dX2_countSizes_45 : decode cX2_countSizes 45 = .ok (.iload_n 1, 1) := by decide +kernel
theorem dX2_countSizes_46 : decode cX2_countSizes 46 = .ok (.aaload, 1) := by decide +kernel
theorem dX2_countSizes_47 : decode cX2_countSizes 47 = .ok (.getfield 49, 3) := by decide +kernel
theorem dX2_countSizes_50 : decode cX2_countSizes 50 = .ok (.dup2, 1) := by decide +kernel
theorem dX2_countSizes_51 : decode cX2_countSizes 51 = .ok (.iaload, 1) := by decide +kernel
theorem dX2_countSizes_52 : decode cX2_countSizes 52 = .ok (.iconst 1, 1) := by decide +kernel
theorem dX2_countSizes_53 : decode cX2_countSizes 53 = .ok (.iadd, 1) := by decide +kernel
theorem dX2_countSizes_54 : decode cX2_countSizes 54 = .ok (.iastore, 1) := by decide +kernel
theorem dX2_countSizes_55 : decode cX2_countSizes 55 = .ok (.iinc 1 1, 3) := by decide +kernel
theorem dX2_countSizes_58 : decode cX2_countSizes 58 = .ok (.goto (-35), 3) := by decide +kernel
theorem dX2_countSizes_61 : decode cX2_countSizes 61 = .ok (.return_, 1) := by decide +kernel
theorem dX2_weighPulls_0 : decode cX2_weighPulls 0 = .ok (.iconst 0, 1) := by decide +kernel
theorem dX2_weighPulls_1 : decode cX2_weighPulls 1 = .ok (.istore_n 2, 1) := by decide +kernel
theorem dX2_weighPulls_2 : decode cX2_weighPulls 2 = .ok (.iload_n 2, 1) := by decide +kernel
theorem dX2_weighPulls_3 : decode cX2_weighPulls 3 = .ok (.bipush 6, 2) := by decide +kernel
theorem dX2_weighPulls_5 : decode cX2_weighPulls 5 = .ok (.if_icmp .ge 30, 3) := by decide +kernel
theorem dX2_weighPulls_8 : decode cX2_weighPulls 8 = .ok (.aload_n 1, 1) := by decide +kernel
theorem dX2_weighPulls_9 : decode cX2_weighPulls 9 = .ok (.getfield 64, 3) := by decide +kernel
theorem dX2_weighPulls_12 : decode cX2_weighPulls 12 = .ok (.iload_n 2, 1) := by decide +kernel
theorem dX2_weighPulls_13 : decode cX2_weighPulls 13 = .ok (.aload_n 1, 1) := by decide +kernel
theorem dX2_weighPulls_14 : decode cX2_weighPulls 14 = .ok (.getfield 68, 3) := by decide +kernel
theorem dX2_weighPulls_17 : decode cX2_weighPulls 17 = .ok (.iload_n 2, 1) := by decide +kernel
theorem dX2_weighPulls_18 : decode cX2_weighPulls 18 = .ok (.if_icmp .ne 9, 3) := by decide +kernel
theorem dX2_weighPulls_21 : decode cX2_weighPulls 21 = .ok (.ldc2_w 71, 3) := by decide +kernel
theorem dX2_weighPulls_24 : decode cX2_weighPulls 24 = .ok (.goto 4, 3) := by decide +kernel
theorem dX2_weighPulls_27 : decode cX2_weighPulls 27 = .ok (.lconst 0, 1) := by decide +kernel
theorem dX2_weighPulls_28 : decode cX2_weighPulls 28 = .ok (.lastore, 1) := by decide +kernel
theorem dX2_weighPulls_29 : decode cX2_weighPulls 29 = .ok (.iinc 2 1, 3) := by decide +kernel
theorem dX2_weighPulls_32 : decode cX2_weighPulls 32 = .ok (.goto (-30), 3) := by decide +kernel
theorem dX2_weighPulls_35 : decode cX2_weighPulls 35 = .ok (.iconst 0, 1) := by decide +kernel
theorem dX2_weighPulls_36 : decode cX2_weighPulls 36 = .ok (.istore_n 2, 1) := by decide +kernel
theorem dX2_weighPulls_37 : decode cX2_weighPulls 37 = .ok (.iload_n 2, 1) := by decide +kernel
theorem dX2_weighPulls_38 : decode cX2_weighPulls 38 = .ok (.aload_n 0, 1) := by decide +kernel
theorem dX2_weighPulls_39 : decode cX2_weighPulls 39 = .ok (.getfield 15, 3) := by decide +kernel
theorem dX2_weighPulls_42 : decode cX2_weighPulls 42 = .ok (.getfield 22, 3) := by decide +kernel
theorem dX2_weighPulls_45 : decode cX2_weighPulls 45 = .ok (.if_icmp .ge 42, 3) := by decide +kernel
theorem dX2_weighPulls_48 : decode cX2_weighPulls 48 = .ok (.aload_n 0, 1) := by decide +kernel
theorem dX2_weighPulls_49 : decode cX2_weighPulls 49 = .ok (.getfield 15, 3) := by decide +kernel
theorem dX2_weighPulls_52 : decode cX2_weighPulls 52 = .ok (.getfield 28, 3) := by decide +kernel
theorem dX2_weighPulls_55 : decode cX2_weighPulls 55 = .ok (.iload_n 2, 1) := by decide +kernel
theorem dX2_weighPulls_56 : decode cX2_weighPulls 56 = .ok (.aaload, 1) := by decide +kernel
theorem dX2_weighPulls_57 : decode cX2_weighPulls 57 = .ok (.astore_n 3, 1) := by decide +kernel
theorem dX2_weighPulls_58 : decode cX2_weighPulls 58 = .ok (.aload_n 3, 1) := by decide +kernel
theorem dX2_weighPulls_59 : decode cX2_weighPulls 59 = .ok (.aload_n 1, 1) := by decide +kernel
theorem dX2_weighPulls_60 : decode cX2_weighPulls 60 = .ok (.if_acmp .eq 21, 3) := by decide +kernel
theorem dX2_weighPulls_63 : decode cX2_weighPulls 63 = .ok (.aload_n 1, 1) := by decide +kernel
theorem dX2_weighPulls_64 : decode cX2_weighPulls 64 = .ok (.getfield 64, 3) := by decide +kernel
theorem dX2_weighPulls_67 : decode cX2_weighPulls 67 = .ok (.aload_n 3, 1) := by decide +kernel
theorem dX2_weighPulls_68 : decode cX2_weighPulls 68 = .ok (.getfield 49, 3) := by decide +kernel
theorem dX2_weighPulls_71 : decode cX2_weighPulls 71 = .ok (.dup2, 1) := by decide +kernel
theorem dX2_weighPulls_72 : decode cX2_weighPulls 72 = .ok (.laload, 1) := by decide +kernel
theorem dX2_weighPulls_73 : decode cX2_weighPulls 73 = .ok (.aload_n 1, 1) := by decide +kernel
theorem dX2_weighPulls_74 : decode cX2_weighPulls 74 = .ok (.aload_n 3, 1) := by decide +kernel
theorem dX2_weighPulls_75 : decode cX2_weighPulls 75 = .ok (.invokevirtual 73, 3) := by decide +kernel
theorem dX2_weighPulls_78 : decode cX2_weighPulls 78 = .ok (.i2l, 1) := by decide +kernel
theorem dX2_weighPulls_79 : decode cX2_weighPulls 79 = .ok (.ladd, 1) := by decide +kernel
theorem dX2_weighPulls_80 : decode cX2_weighPulls 80 = .ok (.lastore, 1) := by decide +kernel
theorem dX2_weighPulls_81 : decode cX2_weighPulls 81 = .ok (.iinc 2 1, 3) := by decide +kernel
theorem dX2_weighPulls_84 : decode cX2_weighPulls 84 = .ok (.goto (-47), 3) := by decide +kernel
theorem dX2_weighPulls_87 : decode cX2_weighPulls 87 = .ok (.return_, 1) := by decide +kernel
theorem dX2_findStep_0 : decode cX2_findStep 0 = .ok (.aload_n 0, 1) := by decide +kernel
theorem dX2_findStep_1 : decode cX2_findStep 1 = .ok (.lconst 0, 1) := by decide +kernel
theorem dX2_findStep_2 : decode cX2_findStep 2 = .ok (.putfield 77, 3) := by decide +kernel
theorem dX2_findStep_5 : decode cX2_findStep 5 = .ok (.aload_n 0, 1) := by decide +kernel
theorem dX2_findStep_6 : decode cX2_findStep 6 = .ok (.aconst_null, 1) := by decide +kernel
theorem dX2_findStep_7 : decode cX2_findStep 7 = .ok (.putfield 81, 3) := by decide +kernel
theorem dX2_findStep_10 : decode cX2_findStep 10 = .ok (.aload_n 0, 1) := by decide +kernel
theorem dX2_findStep_11 : decode cX2_findStep 11 = .ok (.aconst_null, 1) := by decide +kernel
theorem dX2_findStep_12 : decode cX2_findStep 12 = .ok (.putfield 85, 3) := by decide +kernel
theorem dX2_findStep_15 : decode cX2_findStep 15 = .ok (.aload_n 0, 1) := by decide +kernel
theorem dX2_findStep_16 : decode cX2_findStep 16 = .ok (.invokevirtual 88, 3) := by decide +kernel
theorem dX2_findStep_19 : decode cX2_findStep 19 = .ok (.aload_n 0, 1) := by decide +kernel
theorem dX2_findStep_20 : decode cX2_findStep 20 = .ok (.invokevirtual 91, 3) := by decide +kernel
theorem dX2_findStep_23 : decode cX2_findStep 23 = .ok (.aload_n 0, 1) := by decide +kernel
theorem dX2_findStep_24 : decode cX2_findStep 24 = .ok (.getfield 81, 3) := by decide +kernel
theorem dX2_findStep_27 : decode cX2_findStep 27 = .ok (.ifnull 7, 3) := by decide +kernel
theorem dX2_findStep_30 : decode cX2_findStep 30 = .ok (.iconst 1, 1) := by decide +kernel
theorem dX2_findStep_31 : decode cX2_findStep 31 = .ok (.goto 4, 3) := by decide +kernel
theorem dX2_findStep_34 : decode cX2_findStep 34 = .ok (.iconst 0, 1) := by decide +kernel
theorem dX2_findStep_35 : decode cX2_findStep 35 = .ok (.ireturn, 1) := by decide +kernel
theorem dX2_findMove_0 : decode cX2_findMove 0 = .ok (.iconst 0, 1) := by decide +kernel
theorem dX2_findMove_1 : decode cX2_findMove 1 = .ok (.istore_n 1, 1) := by decide +kernel
theorem dX2_findMove_2 : decode cX2_findMove 2 = .ok (.iload_n 1, 1) := by decide +kernel
theorem dX2_findMove_3 : decode cX2_findMove 3 = .ok (.aload_n 0, 1) := by decide +kernel
theorem dX2_findMove_4 : decode cX2_findMove 4 = .ok (.getfield 15, 3) := by decide +kernel
theorem dX2_findMove_7 : decode cX2_findMove 7 = .ok (.getfield 22, 3) := by decide +kernel
theorem dX2_findMove_10 : decode cX2_findMove 10 = .ok (.if_icmp .ge 80, 3) := by decide +kernel
theorem dX2_findMove_13 : decode cX2_findMove 13 = .ok (.aload_n 0, 1) := by decide +kernel
theorem dX2_findMove_14 : decode cX2_findMove 14 = .ok (.getfield 15, 3) := by decide +kernel
theorem dX2_findMove_17 : decode cX2_findMove 17 = .ok (.getfield 28, 3) := by decide +kernel
theorem dX2_findMove_20 : decode cX2_findMove 20 = .ok (.iload_n 1, 1) := by decide +kernel
theorem dX2_findMove_21 : decode cX2_findMove 21 = .ok (.aaload, 1) := by decide +kernel
theorem dX2_findMove_22 : decode cX2_findMove 22 = .ok (.astore_n 2, 1) := by decide +kernel
theorem dX2_findMove_23 : decode cX2_findMove 23 = .ok (.iconst 0, 1) := by decide +kernel
theorem dX2_findMove_24 : decode cX2_findMove 24 = .ok (.istore_n 3, 1) := by decide +kernel
theorem dX2_findMove_25 : decode cX2_findMove 25 = .ok (.iload_n 3, 1) := by decide +kernel
theorem dX2_findMove_26 : decode cX2_findMove 26 = .ok (.aload_n 0, 1) := by decide +kernel
theorem dX2_findMove_27 : decode cX2_findMove 27 = .ok (.getfield 15, 3) := by decide +kernel
theorem dX2_findMove_30 : decode cX2_findMove 30 = .ok (.invokevirtual 45, 3) := by decide +kernel
theorem dX2_findMove_33 : decode cX2_findMove 33 = .ok (.if_icmp .ge 51, 3) := by decide +kernel
theorem dX2_findMove_36 : decode cX2_findMove 36 = .ok (.iload_n 3, 1) := by decide +kernel
theorem dX2_findMove_37 : decode cX2_findMove 37 = .ok (.aload_n 2, 1) := by decide +kernel
theorem dX2_findMove_38 : decode cX2_findMove 38 = .ok (.getfield 49, 3) := by decide +kernel
theorem dX2_findMove_41 : decode cX2_findMove 41 = .ok (.if_icmp .eq 37, 3) := by decide +kernel
theorem dX2_findMove_44 : decode cX2_findMove 44 = .ok (.aload_n 0, 1) := by decide +kernel
theorem dX2_findMove_45 : decode cX2_findMove 45 = .ok (.aload_n 2, 1) := by decide +kernel
theorem dX2_findMove_46 : decode cX2_findMove 46 = .ok (.iload_n 3, 1) := by decide +kernel
theorem dX2_findMove_47 : decode cX2_findMove 47 = .ok (.invokevirtual 54, 3) := by decide +kernel
theorem dX2_findMove_50 : decode cX2_findMove 50 = .ok (.lstore 4, 2) := by decide +kernel
theorem dX2_findMove_52 : decode cX2_findMove 52 = .ok (.lload 4, 2) := by decide +kernel
theorem dX2_findMove_54 : decode cX2_findMove 54 = .ok (.aload_n 0, 1) := by decide +kernel
theorem dX2_findMove_55 : decode cX2_findMove 55 = .ok (.getfield 77, 3) := by decide +kernel
theorem dX2_findMove_58 : decode cX2_findMove 58 = .ok (.lcmp, 1) := by decide +kernel
theorem dX2_findMove_59 : decode cX2_findMove 59 = .ok (.ifCond .ge 19, 3) := by decide +kernel
theorem dX2_findMove_62 : decode cX2_findMove 62 = .ok (.aload_n 0, 1) := by decide +kernel
theorem dX2_findMove_63 : decode cX2_findMove 63 = .ok (.lload 4, 2) := by decide +kernel
theorem dX2_findMove_65 : decode cX2_findMove 65 = .ok (.putfield 77, 3) := by decide +kernel
theorem dX2_findMove_68 : decode cX2_findMove 68 = .ok (.aload_n 0, 1) := by decide +kernel
theorem dX2_findMove_69 : decode cX2_findMove 69 = .ok (.aload_n 2, 1) := by decide +kernel
theorem dX2_findMove_70 : decode cX2_findMove 70 = .ok (.putfield 81, 3) := by decide +kernel
theorem dX2_findMove_73 : decode cX2_findMove 73 = .ok (.aload_n 0, 1) := by decide +kernel
theorem dX2_findMove_74 : decode cX2_findMove 74 = .ok (.iload_n 3, 1) := by decide +kernel
theorem dX2_findMove_75 : decode cX2_findMove 75 = .ok (.putfield 94, 3) := by decide +kernel
theorem dX2_findMove_78 : decode cX2_findMove 78 = .ok (.iinc 3 1, 3) := by decide +kernel
theorem dX2_findMove_81 : decode cX2_findMove 81 = .ok (.goto (-56), 3) := by decide +kernel
theorem dX2_findMove_84 : decode cX2_findMove 84 = .ok (.iinc 1 1, 3) := by decide +kernel
theorem dX2_findMove_87 : decode cX2_findMove 87 = .ok (.goto (-85), 3) := by decide +kernel
theorem dX2_findMove_90 : decode cX2_findMove 90 = .ok (.return_, 1) := by decide +kernel
theorem dX2_findSwap_0 : decode cX2_findSwap 0 = .ok (.iconst 0, 1) := by decide +kernel
theorem dX2_findSwap_1 : decode cX2_findSwap 1 = .ok (.istore_n 1, 1) := by decide +kernel
theorem dX2_findSwap_2 : decode cX2_findSwap 2 = .ok (.iload_n 1, 1) := by decide +kernel
theorem dX2_findSwap_3 : decode cX2_findSwap 3 = .ok (.aload_n 0, 1) := by decide +kernel
theorem dX2_findSwap_4 : decode cX2_findSwap 4 = .ok (.getfield 15, 3) := by decide +kernel
theorem dX2_findSwap_7 : decode cX2_findSwap 7 = .ok (.getfield 22, 3) := by decide +kernel
theorem dX2_findSwap_10 : decode cX2_findSwap 10 = .ok (.if_icmp .ge 99, 3) := by decide +kernel
theorem dX2_findSwap_13 : decode cX2_findSwap 13 = .ok (.aload_n 0, 1) := by decide +kernel
theorem dX2_findSwap_14 : decode cX2_findSwap 14 = .ok (.getfield 15, 3) := by decide +kernel
theorem dX2_findSwap_17 : decode cX2_findSwap 17 = .ok (.getfield 28, 3) := by decide +kernel
theorem dX2_findSwap_20 : decode cX2_findSwap 20 = .ok (.iload_n 1, 1) := by decide +kernel
theorem dX2_findSwap_21 : decode cX2_findSwap 21 = .ok (.aaload, 1) := by decide +kernel
theorem dX2_findSwap_22 : decode cX2_findSwap 22 = .ok (.astore_n 2, 1) := by decide +kernel
theorem dX2_findSwap_23 : decode cX2_findSwap 23 = .ok (.iload_n 1, 1) := by decide +kernel
theorem dX2_findSwap_24 : decode cX2_findSwap 24 = .ok (.iconst 1, 1) := by decide +kernel
theorem dX2_findSwap_25 : decode cX2_findSwap 25 = .ok (.iadd, 1) := by decide +kernel
theorem dX2_findSwap_26 : decode cX2_findSwap 26 = .ok (.istore_n 3, 1) := by decide +kernel
theorem dX2_findSwap_27 : decode cX2_findSwap 27 = .ok (.iload_n 3, 1) := by decide +kernel
theorem dX2_findSwap_28 : decode cX2_findSwap 28 = .ok (.aload_n 0, 1) := by decide +kernel
theorem dX2_findSwap_29 : decode cX2_findSwap 29 = .ok (.getfield 15, 3) := by decide +kernel
theorem dX2_findSwap_32 : decode cX2_findSwap 32 = .ok (.getfield 22, 3) := by decide +kernel
theorem dX2_findSwap_35 : decode cX2_findSwap 35 = .ok (.if_icmp .ge 68, 3) := by decide +kernel
theorem dX2_findSwap_38 : decode cX2_findSwap 38 = .ok (.aload_n 0, 1) := by decide +kernel
theorem dX2_findSwap_39 : decode cX2_findSwap 39 = .ok (.getfield 15, 3) := by decide +kernel
theorem dX2_findSwap_42 : decode cX2_findSwap 42 = .ok (.getfield 28, 3) := by decide +kernel
theorem dX2_findSwap_45 : decode cX2_findSwap 45 = .ok (.iload_n 3, 1) := by decide +kernel
theorem dX2_findSwap_46 : decode cX2_findSwap 46 = .ok (.aaload, 1) := by decide +kernel
theorem dX2_findSwap_47 : decode cX2_findSwap 47 = .ok (.astore 4, 2) := by decide +kernel
theorem dX2_findSwap_49 : decode cX2_findSwap 49 = .ok (.aload_n 2, 1) := by decide +kernel
theorem dX2_findSwap_50 : decode cX2_findSwap 50 = .ok (.getfield 49, 3) := by decide +kernel
theorem dX2_findSwap_53 : decode cX2_findSwap 53 = .ok (.aload 4, 2) := by decide +kernel
theorem dX2_findSwap_55 : decode cX2_findSwap 55 = .ok (.getfield 49, 3) := by decide +kernel
theorem dX2_findSwap_58 : decode cX2_findSwap 58 = .ok (.if_icmp .eq 39, 3) := by decide +kernel
theorem dX2_findSwap_61 : decode cX2_findSwap 61 = .ok (.aload_n 0, 1) := by decide +kernel
theorem dX2_findSwap_62 : decode cX2_findSwap 62 = .ok (.aload_n 2, 1) := by decide +kernel
theorem dX2_findSwap_63 : decode cX2_findSwap 63 = .ok (.aload 4, 2) := by decide +kernel
theorem dX2_findSwap_65 : decode cX2_findSwap 65 = .ok (.invokevirtual 97, 3) := by decide +kernel
theorem dX2_findSwap_68 : decode cX2_findSwap 68 = .ok (.lstore 5, 2) := by decide +kernel
theorem dX2_findSwap_70 : decode cX2_findSwap 70 = .ok (.lload 5, 2) := by decide +kernel
theorem dX2_findSwap_72 : decode cX2_findSwap 72 = .ok (.aload_n 0, 1) := by decide +kernel
theorem dX2_findSwap_73 : decode cX2_findSwap 73 = .ok (.getfield 77, 3) := by decide +kernel
theorem dX2_findSwap_76 : decode cX2_findSwap 76 = .ok (.lcmp, 1) := by decide +kernel
theorem dX2_findSwap_77 : decode cX2_findSwap 77 = .ok (.ifCond .ge 20, 3) := by decide +kernel
theorem dX2_findSwap_80 : decode cX2_findSwap 80 = .ok (.aload_n 0, 1) := by decide +kernel
theorem dX2_findSwap_81 : decode cX2_findSwap 81 = .ok (.lload 5, 2) := by decide +kernel
theorem dX2_findSwap_83 : decode cX2_findSwap 83 = .ok (.putfield 77, 3) := by decide +kernel
theorem dX2_findSwap_86 : decode cX2_findSwap 86 = .ok (.aload_n 0, 1) := by decide +kernel
theorem dX2_findSwap_87 : decode cX2_findSwap 87 = .ok (.aload_n 2, 1) := by decide +kernel
theorem dX2_findSwap_88 : decode cX2_findSwap 88 = .ok (.putfield 81, 3) := by decide +kernel
theorem dX2_findSwap_91 : decode cX2_findSwap 91 = .ok (.aload_n 0, 1) := by decide +kernel
theorem dX2_findSwap_92 : decode cX2_findSwap 92 = .ok (.aload 4, 2) := by decide +kernel
theorem dX2_findSwap_94 : decode cX2_findSwap 94 = .ok (.putfield 85, 3) := by decide +kernel
theorem dX2_findSwap_97 : decode cX2_findSwap 97 = .ok (.iinc 3 1, 3) := by decide +kernel
theorem dX2_findSwap_100 : decode cX2_findSwap 100 = .ok (.goto (-73), 3) := by decide +kernel
theorem dX2_findSwap_103 : decode cX2_findSwap 103 = .ok (.iinc 1 1, 3) := by decide +kernel
theorem dX2_findSwap_106 : decode cX2_findSwap 106 = .ok (.goto (-104), 3) := by decide +kernel
theorem dX2_findSwap_109 : decode cX2_findSwap 109 = .ok (.return_, 1) := by decide +kernel
theorem dX2_shiftOf_0 : decode cX2_shiftOf 0 = .ok (.iconst 2, 1) := by decide +kernel
theorem dX2_shiftOf_1 : decode cX2_shiftOf 1 = .ok (.aload_n 0, 1) := by decide +kernel
theorem dX2_shiftOf_2 : decode cX2_shiftOf 2 = .ok (.getfield 9, 3) := by decide +kernel
theorem dX2_shiftOf_5 : decode cX2_shiftOf 5 = .ok (.iload_n 2, 1) := by decide +kernel
theorem dX2_shiftOf_6 : decode cX2_shiftOf 6 = .ok (.iaload, 1) := by decide +kernel
theorem dX2_shiftOf_7 : decode cX2_shiftOf 7 = .ok (.aload_n 0, 1) := by decide +kernel
theorem dX2_shiftOf_8 : decode cX2_shiftOf 8 = .ok (.getfield 9, 3) := by decide +kernel
theorem dX2_shiftOf_11 : decode cX2_shiftOf 11 = .ok (.aload_n 1, 1) := by decide +kernel
theorem dX2_shiftOf_12 : decode cX2_shiftOf 12 = .ok (.getfield 49, 3) := by decide +kernel
theorem dX2_shiftOf_15 : decode cX2_shiftOf 15 = .ok (.iaload, 1) := by decide +kernel
theorem dX2_shiftOf_16 : decode cX2_shiftOf 16 = .ok (.isub, 1) := by decide +kernel
theorem dX2_shiftOf_17 : decode cX2_shiftOf 17 = .ok (.iconst 1, 1) := by decide +kernel
theorem dX2_shiftOf_18 : decode cX2_shiftOf 18 = .ok (.iadd, 1) := by decide +kernel
theorem dX2_shiftOf_19 : decode cX2_shiftOf 19 = .ok (.imul, 1) := by decide +kernel
theorem dX2_shiftOf_20 : decode cX2_shiftOf 20 = .ok (.istore_n 3, 1) := by decide +kernel
theorem dX2_shiftOf_21 : decode cX2_shiftOf 21 = .ok (.aload_n 1, 1) := by decide +kernel
theorem dX2_shiftOf_22 : decode cX2_shiftOf 22 = .ok (.getfield 64, 3) := by decide +kernel
theorem dX2_shiftOf_25 : decode cX2_shiftOf 25 = .ok (.aload_n 1, 1) := by decide +kernel
theorem dX2_shiftOf_26 : decode cX2_shiftOf 26 = .ok (.getfield 49, 3) := by decide +kernel
theorem dX2_shiftOf_29 : decode cX2_shiftOf 29 = .ok (.laload, 1) := by decide +kernel
theorem dX2_shiftOf_30 : decode cX2_shiftOf 30 = .ok (.aload_n 1, 1) := by decide +kernel
theorem dX2_shiftOf_31 : decode cX2_shiftOf 31 = .ok (.getfield 64, 3) := by decide +kernel
theorem dX2_shiftOf_34 : decode cX2_shiftOf 34 = .ok (.iload_n 2, 1) := by decide +kernel
theorem dX2_shiftOf_35 : decode cX2_shiftOf 35 = .ok (.laload, 1) := by decide +kernel
theorem dX2_shiftOf_36 : decode cX2_shiftOf 36 = .ok (.lsub, 1) := by decide +kernel
theorem dX2_shiftOf_37 : decode cX2_shiftOf 37 = .ok (.aload_n 0, 1) := by decide +kernel
theorem dX2_shiftOf_38 : decode cX2_shiftOf 38 = .ok (.getfield 15, 3) := by decide +kernel
theorem dX2_shiftOf_41 : decode cX2_shiftOf 41 = .ok (.invokevirtual 101, 3) := by decide +kernel
theorem dX2_shiftOf_44 : decode cX2_shiftOf 44 = .ok (.i2l, 1) := by decide +kernel
theorem dX2_shiftOf_45 : decode cX2_shiftOf 45 = .ok (.iload_n 3, 1) := by decide +kernel
theorem dX2_shiftOf_46 : decode cX2_shiftOf 46 = .ok (.i2l, 1) := by decide +kernel
theorem dX2_shiftOf_47 : decode cX2_shiftOf 47 = .ok (.lmul, 1) := by decide +kernel
theorem dX2_shiftOf_48 : decode cX2_shiftOf 48 = .ok (.ladd, 1) := by decide +kernel
theorem dX2_shiftOf_49 : decode cX2_shiftOf 49 = .ok (.lreturn, 1) := by decide +kernel
theorem dX2_tradeOf_0 : decode cX2_tradeOf 0 = .ok (.aload_n 1, 1) := by decide +kernel
theorem dX2_tradeOf_1 : decode cX2_tradeOf 1 = .ok (.getfield 64, 3) := by decide +kernel
theorem dX2_tradeOf_4 : decode cX2_tradeOf 4 = .ok (.aload_n 1, 1) := by decide +kernel
theorem dX2_tradeOf_5 : decode cX2_tradeOf 5 = .ok (.getfield 49, 3) := by decide +kernel
theorem dX2_tradeOf_8 : decode cX2_tradeOf 8 = .ok (.laload, 1) := by decide +kernel
theorem dX2_tradeOf_9 : decode cX2_tradeOf 9 = .ok (.aload_n 1, 1) := by decide +kernel
theorem dX2_tradeOf_10 : decode cX2_tradeOf 10 = .ok (.getfield 64, 3) := by decide +kernel
theorem dX2_tradeOf_13 : decode cX2_tradeOf 13 = .ok (.aload_n 2, 1) := by decide +kernel
theorem dX2_tradeOf_14 : decode cX2_tradeOf 14 = .ok (.getfield 49, 3) := by decide +kernel
theorem dX2_tradeOf_17 : decode cX2_tradeOf 17 = .ok (.laload, 1) := by decide +kernel
theorem dX2_tradeOf_18 : decode cX2_tradeOf 18 = .ok (.lsub, 1) := by decide +kernel
theorem dX2_tradeOf_19 : decode cX2_tradeOf 19 = .ok (.aload_n 2, 1) := by decide +kernel
theorem dX2_tradeOf_20 : decode cX2_tradeOf 20 = .ok (.getfield 64, 3) := by decide +kernel
theorem dX2_tradeOf_23 : decode cX2_tradeOf 23 = .ok (.aload_n 2, 1) := by decide +kernel
theorem dX2_tradeOf_24 : decode cX2_tradeOf 24 = .ok (.getfield 49, 3) := by decide +kernel
theorem dX2_tradeOf_27 : decode cX2_tradeOf 27 = .ok (.laload, 1) := by decide +kernel
theorem dX2_tradeOf_28 : decode cX2_tradeOf 28 = .ok (.ladd, 1) := by decide +kernel
theorem dX2_tradeOf_29 : decode cX2_tradeOf 29 = .ok (.aload_n 2, 1) := by decide +kernel
theorem dX2_tradeOf_30 : decode cX2_tradeOf 30 = .ok (.getfield 64, 3) := by decide +kernel
theorem dX2_tradeOf_33 : decode cX2_tradeOf 33 = .ok (.aload_n 1, 1) := by decide +kernel
theorem dX2_tradeOf_34 : decode cX2_tradeOf 34 = .ok (.getfield 49, 3) := by decide +kernel
theorem dX2_tradeOf_37 : decode cX2_tradeOf 37 = .ok (.laload, 1) := by decide +kernel
theorem dX2_tradeOf_38 : decode cX2_tradeOf 38 = .ok (.lsub, 1) := by decide +kernel
theorem dX2_tradeOf_39 : decode cX2_tradeOf 39 = .ok (.ldc2_w 104, 3) := by decide +kernel
theorem dX2_tradeOf_42 : decode cX2_tradeOf 42 = .ok (.aload_n 1, 1) := by decide +kernel
theorem dX2_tradeOf_43 : decode cX2_tradeOf 43 = .ok (.aload_n 2, 1) := by decide +kernel
theorem dX2_tradeOf_44 : decode cX2_tradeOf 44 = .ok (.invokevirtual 73, 3) := by decide +kernel
theorem dX2_tradeOf_47 : decode cX2_tradeOf 47 = .ok (.i2l, 1) := by decide +kernel
theorem dX2_tradeOf_48 : decode cX2_tradeOf 48 = .ok (.lmul, 1) := by decide +kernel
theorem dX2_tradeOf_49 : decode cX2_tradeOf 49 = .ok (.ladd, 1) := by decide +kernel
theorem dX2_tradeOf_50 : decode cX2_tradeOf 50 = .ok (.lreturn, 1) := by decide +kernel
theorem dX2_takeStep_0 : decode cX2_takeStep 0 = .ok (.aload_n 0, 1) := by decide +kernel
theorem dX2_takeStep_1 : decode cX2_takeStep 1 = .ok (.getfield 81, 3) := by decide +kernel
theorem dX2_takeStep_4 : decode cX2_takeStep 4 = .ok (.ifnonnull 4, 3) := by decide +kernel
theorem dX2_takeStep_7 : decode cX2_takeStep 7 = .ok (.return_, 1) := by decide +kernel
theorem dX2_takeStep_8 : decode cX2_takeStep 8 = .ok (.aload_n 0, 1) := by decide +kernel
theorem dX2_takeStep_9 : decode cX2_takeStep 9 = .ok (.getfield 85, 3) := by decide +kernel
theorem dX2_takeStep_12 : decode cX2_takeStep 12 = .ok (.ifnonnull 16, 3) := by decide +kernel
theorem dX2_takeStep_15 : decode cX2_takeStep 15 = .ok (.aload_n 0, 1) := by decide +kernel
theorem dX2_takeStep_16 : decode cX2_takeStep 16 = .ok (.aload_n 0, 1) := by decide +kernel
theorem dX2_takeStep_17 : decode cX2_takeStep 17 = .ok (.getfield 81, 3) := by decide +kernel
theorem dX2_takeStep_20 : decode cX2_takeStep 20 = .ok (.aload_n 0, 1) := by decide +kernel
theorem dX2_takeStep_21 : decode cX2_takeStep 21 = .ok (.getfield 94, 3) := by decide +kernel
theorem dX2_takeStep_24 : decode cX2_takeStep 24 = .ok (.invokevirtual 106, 3) := by decide +kernel
theorem dX2_takeStep_27 : decode cX2_takeStep 27 = .ok (.return_, 1) := by decide +kernel
theorem dX2_takeStep_28 : decode cX2_takeStep 28 = .ok (.aload_n 0, 1) := by decide +kernel
theorem dX2_takeStep_29 : decode cX2_takeStep 29 = .ok (.getfield 81, 3) := by decide +kernel
theorem dX2_takeStep_32 : decode cX2_takeStep 32 = .ok (.getfield 49, 3) := by decide +kernel
theorem dX2_takeStep_35 : decode cX2_takeStep 35 = .ok (.istore_n 1, 1) := by decide +kernel
theorem dX2_takeStep_36 : decode cX2_takeStep 36 = .ok (.aload_n 0, 1) := by decide +kernel
theorem dX2_takeStep_37 : decode cX2_takeStep 37 = .ok (.aload_n 0, 1) := by decide +kernel
theorem dX2_takeStep_38 : decode cX2_takeStep 38 = .ok (.getfield 81, 3) := by decide +kernel
theorem dX2_takeStep_41 : decode cX2_takeStep 41 = .ok (.aload_n 0, 1) := by decide +kernel
theorem dX2_takeStep_42 : decode cX2_takeStep 42 = .ok (.getfield 85, 3) := by decide +kernel
theorem dX2_takeStep_45 : decode cX2_takeStep 45 = .ok (.getfield 49, 3) := by decide +kernel
theorem dX2_takeStep_48 : decode cX2_takeStep 48 = .ok (.invokevirtual 106, 3) := by decide +kernel
theorem dX2_takeStep_51 : decode cX2_takeStep 51 = .ok (.aload_n 0, 1) := by decide +kernel
theorem dX2_takeStep_52 : decode cX2_takeStep 52 = .ok (.aload_n 0, 1) := by decide +kernel
theorem dX2_takeStep_53 : decode cX2_takeStep 53 = .ok (.getfield 85, 3) := by decide +kernel
theorem dX2_takeStep_56 : decode cX2_takeStep 56 = .ok (.iload_n 1, 1) := by decide +kernel
theorem dX2_takeStep_57 : decode cX2_takeStep 57 = .ok (.invokevirtual 106, 3) := by decide +kernel
theorem dX2_takeStep_60 : decode cX2_takeStep 60 = .ok (.return_, 1) := by decide +kernel
theorem dX2_carry_0 : decode cX2_carry 0 = .ok (.iconst 0, 1) := by decide +kernel
theorem dX2_carry_1 : decode cX2_carry 1 = .ok (.istore_n 3, 1) := by decide +kernel
theorem dX2_carry_2 : decode cX2_carry 2 = .ok (.iload_n 3, 1) := by decide +kernel
theorem dX2_carry_3 : decode cX2_carry 3 = .ok (.aload_n 0, 1) := by decide +kernel
theorem dX2_carry_4 : decode cX2_carry 4 = .ok (.getfield 15, 3) := by decide +kernel
theorem dX2_carry_7 : decode cX2_carry 7 = .ok (.getfield 22, 3) := by decide +kernel
theorem dX2_carry_10 : decode cX2_carry 10 = .ok (.if_icmp .ge 63, 3) := by decide +kernel
theorem dX2_carry_13 : decode cX2_carry 13 = .ok (.aload_n 0, 1) := by decide +kernel
theorem dX2_carry_14 : decode cX2_carry 14 = .ok (.getfield 15, 3) := by decide +kernel
theorem dX2_carry_17 : decode cX2_carry 17 = .ok (.getfield 28, 3) := by decide +kernel
theorem dX2_carry_20 : decode cX2_carry 20 = .ok (.iload_n 3, 1) := by decide +kernel
theorem dX2_carry_21 : decode cX2_carry 21 = .ok (.aaload, 1) := by decide +kernel
theorem dX2_carry_22 : decode cX2_carry 22 = .ok (.astore 4, 2) := by decide +kernel
theorem dX2_carry_24 : decode cX2_carry 24 = .ok (.aload 4, 2) := by decide +kernel
theorem dX2_carry_26 : decode cX2_carry 26 = .ok (.aload_n 1, 1) := by decide +kernel
theorem dX2_carry_27 : decode cX2_carry 27 = .ok (.if_acmp .eq 40, 3) := by decide +kernel
theorem dX2_carry_30 : decode cX2_carry 30 = .ok (.aload 4, 2) := by decide +kernel
theorem dX2_carry_32 : decode cX2_carry 32 = .ok (.aload_n 1, 1) := by decide +kernel
theorem dX2_carry_33 : decode cX2_carry 33 = .ok (.invokevirtual 73, 3) := by decide +kernel
theorem dX2_carry_36 : decode cX2_carry 36 = .ok (.istore 5, 2) := by decide +kernel
theorem dX2_carry_38 : decode cX2_carry 38 = .ok (.aload 4, 2) := by decide +kernel
theorem dX2_carry_40 : decode cX2_carry 40 = .ok (.getfield 64, 3) := by decide +kernel
theorem dX2_carry_43 : decode cX2_carry 43 = .ok (.aload_n 1, 1) := by decide +kernel
theorem dX2_carry_44 : decode cX2_carry 44 = .ok (.getfield 49, 3) := by decide +kernel
theorem dX2_carry_47 : decode cX2_carry 47 = .ok (.dup2, 1) := by decide +kernel
theorem dX2_carry_48 : decode cX2_carry 48 = .ok (.laload, 1) := by decide +kernel
theorem dX2_carry_49 : decode cX2_carry 49 = .ok (.iload 5, 2) := by decide +kernel
theorem dX2_carry_51 : decode cX2_carry 51 = .ok (.i2l, 1) := by decide +kernel
theorem dX2_carry_52 : decode cX2_carry 52 = .ok (.lsub, 1) := by decide +kernel
theorem dX2_carry_53 : decode cX2_carry 53 = .ok (.lastore, 1) := by decide +kernel
theorem dX2_carry_54 : decode cX2_carry 54 = .ok (.aload 4, 2) := by decide +kernel
theorem dX2_carry_56 : decode cX2_carry 56 = .ok (.getfield 64, 3) := by decide +kernel
theorem dX2_carry_59 : decode cX2_carry 59 = .ok (.iload_n 2, 1) := by decide +kernel
theorem dX2_carry_60 : decode cX2_carry 60 = .ok (.dup2, 1) := by decide +kernel
theorem dX2_carry_61 : decode cX2_carry 61 = .ok (.laload, 1) := by decide +kernel
theorem dX2_carry_62 : decode cX2_carry 62 = .ok (.iload 5, 2) := by decide +kernel
theorem dX2_carry_64 : decode cX2_carry 64 = .ok (.i2l, 1) := by decide +kernel
theorem dX2_carry_65 : decode cX2_carry 65 = .ok (.ladd, 1) := by decide +kernel
theorem dX2_carry_66 : decode cX2_carry 66 = .ok (.lastore, 1) := by decide +kernel
theorem dX2_carry_67 : decode cX2_carry 67 = .ok (.iinc 3 1, 3) := by decide +kernel
theorem dX2_carry_70 : decode cX2_carry 70 = .ok (.goto (-68), 3) := by decide +kernel
theorem dX2_carry_73 : decode cX2_carry 73 = .ok (.aload_n 0, 1) := by decide +kernel
theorem dX2_carry_74 : decode cX2_carry 74 = .ok (.getfield 9, 3) := by decide +kernel
theorem dX2_carry_77 : decode cX2_carry 77 = .ok (.aload_n 1, 1) := by decide +kernel
theorem dX2_carry_78 : decode cX2_carry 78 = .ok (.getfield 49, 3) := by decide +kernel
theorem dX2_carry_81 : decode cX2_carry 81 = .ok (.dup2, 1) := by decide +kernel
theorem dX2_carry_82 : decode cX2_carry 82 = .ok (.iaload, 1) := by decide +kernel
theorem dX2_carry_83 : decode cX2_carry 83 = .ok (.iconst 1, 1) := by decide +kernel
theorem dX2_carry_84 : decode cX2_carry 84 = .ok (.isub, 1) := by decide +kernel
theorem dX2_carry_85 : decode cX2_carry 85 = .ok (.iastore, 1) := by decide +kernel
theorem dX2_carry_86 : decode cX2_carry 86 = .ok (.aload_n 0, 1) := by decide +kernel
theorem dX2_carry_87 : decode cX2_carry 87 = .ok (.getfield 9, 3) := by decide +kernel
theorem dX2_carry_90 : decode cX2_carry 90 = .ok (.iload_n 2, 1) := by decide +kernel
theorem dX2_carry_91 : decode cX2_carry 91 = .ok (.dup2, 1) := by decide +kernel
theorem dX2_carry_92 : decode cX2_carry 92 = .ok (.iaload, 1) := by decide +kernel
theorem dX2_carry_93 : decode cX2_carry 93 = .ok (.iconst 1, 1) := by decide +kernel
theorem dX2_carry_94 : decode cX2_carry 94 = .ok (.iadd, 1) := by decide +kernel
theorem dX2_carry_95 : decode cX2_carry 95 = .ok (.iastore, 1) := by decide +kernel
theorem dX2_carry_96 : decode cX2_carry 96 = .ok (.aload_n 1, 1) := by decide +kernel
theorem dX2_carry_97 : decode cX2_carry 97 = .ok (.iload_n 2, 1) := by decide +kernel
theorem dX2_carry_98 : decode cX2_carry 98 = .ok (.putfield 49, 3) := by decide +kernel
theorem dX2_carry_101 : decode cX2_carry 101 = .ok (.return_, 1) := by decide +kernel
theorem dX3_init_0 : decode cX3_init 0 = .ok (.aload_n 0, 1) := by decide +kernel
theorem dX3_init_1 : decode cX3_init 1 = .ok (.invokespecial 3, 3) := by decide +kernel
theorem dX3_init_4 : decode cX3_init 4 = .ok (.aload_n 0, 1) := by decide +kernel
theorem dX3_init_5 : decode cX3_init 5 = .ok (.bipush 60, 2) := by decide +kernel
theorem dX3_init_7 : decode cX3_init 7 = .ok (.newarray .long, 2) := by decide +kernel
theorem dX3_init_9 : decode cX3_init 9 = .ok (.putfield 9, 3) := by decide +kernel
theorem dX3_init_12 : decode cX3_init 12 = .ok (.return_, 1) := by decide +kernel
theorem dX3_add_0 : decode cX3_add 0 = .ok (.aload_n 0, 1) := by decide +kernel
theorem dX3_add_1 : decode cX3_add 1 = .ok (.getfield 15, 3) := by decide +kernel
theorem dX3_add_4 : decode cX3_add 4 = .ok (.bipush 60, 2) := by decide +kernel
theorem dX3_add_6 : decode cX3_add 6 = .ok (.if_icmp .lt 5, 3) := by decide +kernel
theorem dX3_add_9 : decode cX3_add 9 = .ok (.iconst (-1), 1) := by decide +kernel
theorem dX3_add_10 : decode cX3_add 10 = .ok (.ireturn, 1) := by decide +kernel
theorem dX3_add_11 : decode cX3_add 11 = .ok (.aload_n 0, 1) := by decide +kernel
theorem dX3_add_12 : decode cX3_add 12 = .ok (.getfield 9, 3) := by decide +kernel
theorem dX3_add_15 : decode cX3_add 15 = .ok (.aload_n 0, 1) := by decide +kernel
theorem dX3_add_16 : decode cX3_add 16 = .ok (.getfield 15, 3) := by decide +kernel
theorem dX3_add_19 : decode cX3_add 19 = .ok (.lload_n 1, 1) := by decide +kernel
theorem dX3_add_20 : decode cX3_add 20 = .ok (.lastore, 1) := by decide +kernel
theorem dX3_add_21 : decode cX3_add 21 = .ok (.aload_n 0, 1) := by decide +kernel
theorem dX3_add_22 : decode cX3_add 22 = .ok (.dup, 1) := by decide +kernel
theorem dX3_add_23 : decode cX3_add 23 = .ok (.getfield 15, 3) := by decide +kernel
theorem dX3_add_26 : decode cX3_add 26 = .ok (.iconst 1, 1) := by decide +kernel
theorem dX3_add_27 : decode cX3_add 27 = .ok (.iadd, 1) := by decide +kernel
theorem dX3_add_28 : decode cX3_add 28 = .ok (.putfield 15, 3) := by decide +kernel
theorem dX3_add_31 : decode cX3_add 31 = .ok (.aload_n 0, 1) := by decide +kernel
theorem dX3_add_32 : decode cX3_add 32 = .ok (.getfield 15, 3) := by decide +kernel
theorem dX3_add_35 : decode cX3_add 35 = .ok (.ireturn, 1) := by decide +kernel
theorem dX3_countAlone_0 : decode cX3_countAlone 0 = .ok (.aload_n 1, 1) := by decide +kernel
theorem dX3_countAlone_1 : decode cX3_countAlone 1 = .ok (.invokevirtual 19, 3) := by decide +kernel
theorem dX3_countAlone_4 : decode cX3_countAlone 4 = .ok (.lstore_n 2, 1) := by decide +kernel
theorem dX3_countAlone_5 : decode cX3_countAlone 5 = .ok (.iconst 0, 1) := by decide +kernel
theorem dX3_countAlone_6 : decode cX3_countAlone 6 = .ok (.istore 4, 2) := by decide +kernel
theorem dX3_countAlone_8 : decode cX3_countAlone 8 = .ok (.iconst 0, 1) := by decide +kernel
theorem dX3_countAlone_9 : decode cX3_countAlone 9 = .ok (.istore 5, 2) := by decide +kernel
theorem dX3_countAlone_11 : decode cX3_countAlone 11 = .ok (.iload 5, 2) := by decide +kernel
theorem dX3_countAlone_13 : decode cX3_countAlone 13 = .ok (.aload_n 0, 1) := by decide +kernel
theorem dX3_countAlone_14 : decode cX3_countAlone 14 = .ok (.getfield 15, 3) := by decide +kernel
theorem dX3_countAlone_17 : decode cX3_countAlone 17 = .ok (.if_icmp .ge 28, 3) := by decide +kernel
theorem dX3_countAlone_20 : decode cX3_countAlone 20 = .ok (.aload_n 0, 1) := by decide +kernel
theorem dX3_countAlone_21 : decode cX3_countAlone 21 = .ok (.getfield 9, 3) := by decide +kernel
theorem dX3_countAlone_24 : decode cX3_countAlone 24 = .ok (.iload 5, 2) := by decide +kernel
theorem dX3_countAlone_26 : decode cX3_countAlone 26 = .ok (.laload, 1) := by decide +kernel
theorem dX3_countAlone_27 : decode cX3_countAlone 27 = .ok (.lload_n 2, 1) := by decide +kernel
theorem dX3_countAlone_28 : decode cX3_countAlone 28 = .ok (.land, 1) := by decide +kernel
theorem dX3_countAlone_29 : decode cX3_countAlone 29 = .ok (.aload_n 1, 1) := by decide +kernel
theorem dX3_countAlone_30 : decode cX3_countAlone 30 = .ok (.invokestatic 25, 3) := by decide +kernel
theorem dX3_countAlone_33 : decode cX3_countAlone 33 = .ok (.ifCond .eq 6, 3) := by decide +kernel
theorem dX3_countAlone_36 : decode cX3_countAlone 36 = .ok (.iinc 4 1, 3) := by decide +kernel
theorem dX3_countAlone_39 : decode cX3_countAlone 39 = .ok (.iinc 5 1, 3) := by decide +kernel
theorem dX3_countAlone_42 : decode cX3_countAlone 42 = .ok (.goto (-31), 3) := by decide +kernel
theorem dX3_countAlone_45 : decode cX3_countAlone 45 = .ok (.iload 4, 2) := by decide +kernel
theorem dX3_countAlone_47 : decode cX3_countAlone 47 = .ok (.ireturn, 1) := by decide +kernel
theorem dX3_isInOneRoom_0 : decode cX3_isInOneRoom 0 = .ok (.iconst 0, 1) := by decide +kernel
theorem dX3_isInOneRoom_1 : decode cX3_isInOneRoom 1 = .ok (.istore_n 3, 1) := by decide +kernel
theorem dX3_isInOneRoom_2 : decode cX3_isInOneRoom 2 = .ok (.iload_n 3, 1) := by decide +kernel
theorem dX3_isInOneRoom_3 : decode cX3_isInOneRoom 3 = .ok (.bipush 6, 2) := by decide +kernel
theorem dX3_isInOneRoom_5 : decode cX3_isInOneRoom 5 = .ok (.if_icmp .ge 34, 3) := by decide +kernel
theorem dX3_isInOneRoom_8 : decode cX3_isInOneRoom 8 = .ok (.lload_n 0, 1) := by decide +kernel
theorem dX3_isInOneRoom_9 : decode cX3_isInOneRoom 9 = .ok (.lconst 0, 1) := by decide +kernel
theorem dX3_isInOneRoom_10 : decode cX3_isInOneRoom 10 = .ok (.lcmp, 1) := by decide +kernel
theorem dX3_isInOneRoom_11 : decode cX3_isInOneRoom 11 = .ok (.ifCond .eq 22, 3) := by decide +kernel
theorem dX3_isInOneRoom_14 : decode cX3_isInOneRoom 14 = .ok (.lload_n 0, 1) := by decide +kernel
theorem dX3_isInOneRoom_15 : decode cX3_isInOneRoom 15 = .ok (.aload_n 2, 1) := by decide +kernel
theorem dX3_isInOneRoom_16 : decode cX3_isInOneRoom 16 = .ok (.getfield 29, 3) := by decide +kernel
theorem dX3_isInOneRoom_19 : decode cX3_isInOneRoom 19 = .ok (.iload_n 3, 1) := by decide +kernel
theorem dX3_isInOneRoom_20 : decode cX3_isInOneRoom 20 = .ok (.laload, 1) := by decide +kernel
theorem dX3_isInOneRoom_21 : decode cX3_isInOneRoom 21 = .ok (.ldc2_w 32, 3) := by decide +kernel
theorem dX3_isInOneRoom_24 : decode cX3_isInOneRoom 24 = .ok (.lxor, 1) := by decide +kernel
theorem dX3_isInOneRoom_25 : decode cX3_isInOneRoom 25 = .ok (.land, 1) := by decide +kernel
theorem dX3_isInOneRoom_26 : decode cX3_isInOneRoom 26 = .ok (.lconst 0, 1) := by decide +kernel
theorem dX3_isInOneRoom_27 : decode cX3_isInOneRoom 27 = .ok (.lcmp, 1) := by decide +kernel
theorem dX3_isInOneRoom_28 : decode cX3_isInOneRoom 28 = .ok (.ifCond .ne 5, 3) := by decide +kernel
theorem dX3_isInOneRoom_31 : decode cX3_isInOneRoom 31 = .ok (.iconst 1, 1) := by decide +kernel
theorem dX3_isInOneRoom_32 : decode cX3_isInOneRoom 32 = .ok (.ireturn, 1) := by decide +kernel
theorem dX3_isInOneRoom_33 : decode cX3_isInOneRoom 33 = .ok (.iinc 3 1, 3) := by decide +kernel
theorem dX3_isInOneRoom_36 : decode cX3_isInOneRoom 36 = .ok (.goto (-34), 3) := by decide +kernel
theorem dX3_isInOneRoom_39 : decode cX3_isInOneRoom 39 = .ok (.iconst 0, 1) := by decide +kernel
theorem dX3_isInOneRoom_40 : decode cX3_isInOneRoom 40 = .ok (.ireturn, 1) := by decide +kernel
theorem dX4_init_0 : decode cX4_init 0 = .ok (.aload_n 0, 1) := by decide +kernel
theorem dX4_init_1 : decode cX4_init 1 = .ok (.invokespecial 3, 3) := by decide +kernel
theorem dX4_init_4 : decode cX4_init 4 = .ok (.aload_n 0, 1) := by decide +kernel
theorem dX4_init_5 : decode cX4_init 5 = .ok (.bipush 40, 2) := by decide +kernel
theorem dX4_init_7 : decode cX4_init 7 = .ok (.anewarray 9, 3) := by decide +kernel
theorem dX4_init_10 : decode cX4_init 10 = .ok (.putfield 11, 3) := by decide +kernel
theorem dX4_init_13 : decode cX4_init 13 = .ok (.aload_n 0, 1) := by decide +kernel
theorem dX4_init_14 : decode cX4_init 14 = .ok (.bipush 40, 2) := by decide +kernel
theorem dX4_init_16 : decode cX4_init 16 = .ok (.anewarray 9, 3) := by decide +kernel
theorem dX4_init_19 : decode cX4_init 19 = .ok (.putfield 17, 3) := by decide +kernel
theorem dX4_init_22 : decode cX4_init 22 = .ok (.aload_n 0, 1) := by decide +kernel
theorem dX4_init_23 : decode cX4_init 23 = .ok (.bipush 6, 2) := by decide +kernel
theorem dX4_init_25 : decode cX4_init 25 = .ok (.newarray .int, 2) := by decide +kernel
theorem dX4_init_27 : decode cX4_init 27 = .ok (.dup, 1) := by decide +kernel
theorem dX4_init_28 : decode cX4_init 28 = .ok (.iconst 0, 1) := by decide +kernel
theorem dX4_init_29 : decode cX4_init 29 = .ok (.iconst 1, 1) := by decide +kernel
theorem dX4_init_30 : decode cX4_init 30 = .ok (.iastore, 1) := by decide +kernel
theorem dX4_init_31 : decode cX4_init 31 = .ok (.dup, 1) := by decide +kernel
theorem dX4_init_32 : decode cX4_init 32 = .ok (.iconst 1, 1) := by decide +kernel
theorem dX4_init_33 : decode cX4_init 33 = .ok (.iconst 1, 1) := by decide +kernel
theorem dX4_init_34 : decode cX4_init 34 = .ok (.iastore, 1) := by decide +kernel
theorem dX4_init_35 : decode cX4_init 35 = .ok (.dup, 1) := by decide +kernel
theorem dX4_init_36 : decode cX4_init 36 = .ok (.iconst 2, 1) := by decide +kernel
theorem dX4_init_37 : decode cX4_init 37 = .ok (.iconst 1, 1) := by decide +kernel
theorem dX4_init_38 : decode cX4_init 38 = .ok (.iastore, 1) := by decide +kernel
theorem dX4_init_39 : decode cX4_init 39 = .ok (.dup, 1) := by decide +kernel
theorem dX4_init_40 : decode cX4_init 40 = .ok (.iconst 3, 1) := by decide +kernel
theorem dX4_init_41 : decode cX4_init 41 = .ok (.iconst 1, 1) := by decide +kernel
theorem dX4_init_42 : decode cX4_init 42 = .ok (.iastore, 1) := by decide +kernel
theorem dX4_init_43 : decode cX4_init 43 = .ok (.dup, 1) := by decide +kernel
theorem dX4_init_44 : decode cX4_init 44 = .ok (.iconst 4, 1) := by decide +kernel
theorem dX4_init_45 : decode cX4_init 45 = .ok (.bipush 40, 2) := by decide +kernel
theorem dX4_init_47 : decode cX4_init 47 = .ok (.iastore, 1) := by decide +kernel
theorem dX4_init_48 : decode cX4_init 48 = .ok (.dup, 1) := by decide +kernel
theorem dX4_init_49 : decode cX4_init 49 = .ok (.iconst 5, 1) := by decide +kernel
theorem dX4_init_50 : decode cX4_init 50 = .ok (.iconst 2, 1) := by decide +kernel
theorem dX4_init_51 : decode cX4_init 51 = .ok (.iastore, 1) := by decide +kernel
theorem dX4_init_52 : decode cX4_init 52 = .ok (.putfield 20, 3) := by decide +kernel
theorem dX4_init_55 : decode cX4_init 55 = .ok (.aload_n 0, 1) := by decide +kernel
theorem dX4_init_56 : decode cX4_init 56 = .ok (.bipush 6, 2) := by decide +kernel
theorem dX4_init_58 : decode cX4_init 58 = .ok (.newarray .long, 2) := by decide +kernel
theorem dX4_init_60 : decode cX4_init 60 = .ok (.putfield 24, 3) := by decide +kernel
theorem dX4_init_63 : decode cX4_init 63 = .ok (.return_, 1) := by decide +kernel
theorem dX4_roomCount_0 : decode cX4_roomCount 0 = .ok (.aload_n 0, 1) := by decide +kernel
theorem dX4_roomCount_1 : decode cX4_roomCount 1 = .ok (.getfield 20, 3) := by decide +kernel
theorem dX4_roomCount_4 : decode cX4_roomCount 4 = .ok (.iconst 5, 1) := by decide +kernel
theorem dX4_roomCount_5 : decode cX4_roomCount 5 = .ok (.iaload, 1) := by decide +kernel
theorem dX4_roomCount_6 : decode cX4_roomCount 6 = .ok (.ireturn, 1) := by decide +kernel
theorem dX4_even_0 : decode cX4_even 0 = .ok (.aload_n 0, 1) := by decide +kernel
theorem dX4_even_1 : decode cX4_even 1 = .ok (.getfield 20, 3) := by decide +kernel
theorem dX4_even_4 : decode cX4_even 4 = .ok (.iconst 3, 1) := by decide +kernel
theorem dX4_even_5 : decode cX4_even 5 = .ok (.iaload, 1) := by decide +kernel
theorem dX4_even_6 : decode cX4_even 6 = .ok (.ireturn, 1) := by decide +kernel
theorem dX4_hasName_0 : decode cX4_hasName 0 = .ok (.iconst 0, 1) := by decide +kernel
theorem dX4_hasName_1 : decode cX4_hasName 1 = .ok (.istore_n 2, 1) := by decide +kernel
theorem dX4_hasName_2 : decode cX4_hasName 2 = .ok (.iload_n 2, 1) := by decide +kernel
theorem dX4_hasName_3 : decode cX4_hasName 3 = .ok (.aload_n 0, 1) := by decide +kernel
theorem dX4_hasName_4 : decode cX4_hasName 4 = .ok (.getfield 28, 3) := by decide +kernel
theorem dX4_hasName_7 : decode cX4_hasName 7 = .ok (.if_icmp .ge 27, 3) := by decide +kernel
theorem dX4_hasName_10 : decode cX4_hasName 10 = .ok (.aload_n 0, 1) := by decide +kernel
theorem dX4_hasName_11 : decode cX4_hasName 11 = .ok (.getfield 11, 3) := by decide +kernel
theorem dX4_hasName_14 : decode cX4_hasName 14 = .ok (.iload_n 2, 1) := by decide +kernel
theorem dX4_hasName_15 : decode cX4_hasName 15 = .ok (.aaload, 1) := by decide +kernel
theorem dX4_hasName_16 : decode cX4_hasName 16 = .ok (.getfield 32, 3) := by decide +kernel
theorem dX4_hasName_19 : decode cX4_hasName 19 = .ok (.aload_n 1, 1) := by decide +kernel
theorem dX4_hasName_20 : decode cX4_hasName 20 = .ok (.invokevirtual 36, 3) := by decide +kernel
theorem dX4_hasName_23 : decode cX4_hasName 23 = .ok (.ifCond .ne 5, 3) := by decide +kernel
theorem dX4_hasName_26 : decode cX4_hasName 26 = .ok (.iconst 1, 1) := by decide +kernel
theorem dX4_hasName_27 : decode cX4_hasName 27 = .ok (.ireturn, 1) := by decide +kernel
theorem dX4_hasName_28 : decode cX4_hasName 28 = .ok (.iinc 2 1, 3) := by decide +kernel
theorem dX4_hasName_31 : decode cX4_hasName 31 = .ok (.goto (-29), 3) := by decide +kernel
theorem dX4_hasName_34 : decode cX4_hasName 34 = .ok (.iconst 0, 1) := by decide +kernel
theorem dX4_hasName_35 : decode cX4_hasName 35 = .ok (.ireturn, 1) := by decide +kernel
theorem dX4_add_0 : decode cX4_add 0 = .ok (.new 9, 3) := by decide +kernel
theorem dX4_add_3 : decode cX4_add 3 = .ok (.dup, 1) := by decide +kernel
theorem dX4_add_4 : decode cX4_add 4 = .ok (.aload_n 0, 1) := by decide +kernel
theorem dX4_add_5 : decode cX4_add 5 = .ok (.getfield 28, 3) := by decide +kernel
theorem dX4_add_8 : decode cX4_add 8 = .ok (.aload_n 1, 1) := by decide +kernel
theorem dX4_add_9 : decode cX4_add 9 = .ok (.invokespecial 42, 3) := by decide +kernel
theorem dX4_add_12 : decode cX4_add 12 = .ok (.astore_n 2, 1) := by decide +kernel
theorem dX4_add_13 : decode cX4_add 13 = .ok (.aload_n 0, 1) := by decide +kernel
theorem dX4_add_14 : decode cX4_add 14 = .ok (.getfield 28, 3) := by decide +kernel
theorem dX4_add_17 : decode cX4_add 17 = .ok (.bipush 40, 2) := by decide +kernel
theorem dX4_add_19 : decode cX4_add 19 = .ok (.if_icmp .ge 23, 3) := by decide +kernel
theorem dX4_add_22 : decode cX4_add 22 = .ok (.aload_n 0, 1) := by decide +kernel
theorem dX4_add_23 : decode cX4_add 23 = .ok (.getfield 11, 3) := by decide +kernel
theorem dX4_add_26 : decode cX4_add 26 = .ok (.aload_n 0, 1) := by decide +kernel
theorem dX4_add_27 : decode cX4_add 27 = .ok (.getfield 28, 3) := by decide +kernel
theorem dX4_add_30 : decode cX4_add 30 = .ok (.aload_n 2, 1) := by decide +kernel
theorem dX4_add_31 : decode cX4_add 31 = .ok (.aastore, 1) := by decide +kernel
theorem dX4_add_32 : decode cX4_add 32 = .ok (.aload_n 0, 1) := by decide +kernel
theorem dX4_add_33 : decode cX4_add 33 = .ok (.dup, 1) := by decide +kernel
theorem dX4_add_34 : decode cX4_add 34 = .ok (.getfield 28, 3) := by decide +kernel
theorem dX4_add_37 : decode cX4_add 37 = .ok (.iconst 1, 1) := by decide +kernel
theorem dX4_add_38 : decode cX4_add 38 = .ok (.iadd, 1) := by decide +kernel
theorem dX4_add_39 : decode cX4_add 39 = .ok (.putfield 28, 3) := by decide +kernel
theorem dX4_add_42 : decode cX4_add 42 = .ok (.aload_n 0, 1) := by decide +kernel
theorem dX4_add_43 : decode cX4_add 43 = .ok (.invokevirtual 45, 3) := by decide +kernel
theorem dX4_add_46 : decode cX4_add 46 = .ok (.aload_n 2, 1) := by decide +kernel
theorem dX4_add_47 : decode cX4_add 47 = .ok (.areturn, 1) := by decide +kernel
theorem dX4_tell_0 : decode cX4_tell 0 = .ok (.ldc 48, 2) := by decide +kernel
theorem dX4_tell_2 : decode cX4_tell 2 = .ok (.aload_n 1, 1) := by decide +kernel
theorem dX4_tell_3 : decode cX4_tell 3 = .ok (.getfield 49, 3) := by decide +kernel
theorem dX4_tell_6 : decode cX4_tell 6 = .ok (.iload_n 3, 1) := by decide +kernel
theorem dX4_tell_7 : decode cX4_tell 7 = .ok (.aaload, 1) := by decide +kernel
theorem dX4_tell_8 : decode cX4_tell 8 = .ok (.aload_n 2, 1) := by decide +kernel
theorem dX4_tell_9 : decode cX4_tell 9 = .ok (.getfield 53, 3) := by decide +kernel
theorem dX4_tell_12 : decode cX4_tell 12 = .ok (.iaload, 1) := by decide +kernel
theorem dX4_tell_13 : decode cX4_tell 13 = .ok (.iload 4, 2) := by decide +kernel
theorem dX4_tell_15 : decode cX4_tell 15 = .ok (.iadd, 1) := by decide +kernel
theorem dX4_tell_16 : decode cX4_tell 16 = .ok (.invokestatic 56, 3) := by decide +kernel
theorem dX4_tell_19 : decode cX4_tell 19 = .ok (.istore 5, 2) := by decide +kernel
theorem dX4_tell_21 : decode cX4_tell 21 = .ok (.aload_n 1, 1) := by decide +kernel
theorem dX4_tell_22 : decode cX4_tell 22 = .ok (.getfield 49, 3) := by decide +kernel
theorem dX4_tell_25 : decode cX4_tell 25 = .ok (.iload_n 3, 1) := by decide +kernel
theorem dX4_tell_26 : decode cX4_tell 26 = .ok (.aaload, 1) := by decide +kernel
theorem dX4_tell_27 : decode cX4_tell 27 = .ok (.aload_n 2, 1) := by decide +kernel
theorem dX4_tell_28 : decode cX4_tell 28 = .ok (.getfield 53, 3) := by decide +kernel
theorem dX4_tell_31 : decode cX4_tell 31 = .ok (.iload 5, 2) := by decide +kernel
theorem dX4_tell_33 : decode cX4_tell 33 = .ok (.iastore, 1) := by decide +kernel
theorem dX4_tell_34 : decode cX4_tell 34 = .ok (.iload_n 3, 1) := by decide +kernel
theorem dX4_tell_35 : decode cX4_tell 35 = .ok (.ifCond .ne 32, 3) := by decide +kernel
theorem dX4_tell_38 : decode cX4_tell 38 = .ok (.aload_n 1, 1) := by decide +kernel
theorem dX4_tell_39 : decode cX4_tell 39 = .ok (.dup, 1) := by decide +kernel
theorem dX4_tell_40 : decode cX4_tell 40 = .ok (.getfield 62, 3) := by decide +kernel
theorem dX4_tell_43 : decode cX4_tell 43 = .ok (.aload_n 2, 1) := by decide +kernel
theorem dX4_tell_44 : decode cX4_tell 44 = .ok (.getfield 66, 3) := by decide +kernel
theorem dX4_tell_47 : decode cX4_tell 47 = .ok (.lor, 1) := by decide +kernel
theorem dX4_tell_48 : decode cX4_tell 48 = .ok (.putfield 62, 3) := by decide +kernel
theorem dX4_tell_51 : decode cX4_tell 51 = .ok (.aload_n 2, 1) := by decide +kernel
theorem dX4_tell_52 : decode cX4_tell 52 = .ok (.dup, 1) := by decide +kernel
theorem dX4_tell_53 : decode cX4_tell 53 = .ok (.getfield 69, 3) := by decide +kernel
theorem dX4_tell_56 : decode cX4_tell 56 = .ok (.aload_n 1, 1) := by decide +kernel
theorem dX4_tell_57 : decode cX4_tell 57 = .ok (.getfield 66, 3) := by decide +kernel
theorem dX4_tell_60 : decode cX4_tell 60 = .ok (.lor, 1) := by decide +kernel
theorem dX4_tell_61 : decode cX4_tell 61 = .ok (.putfield 69, 3) := by decide +kernel
theorem dX4_tell_64 : decode cX4_tell 64 = .ok (.goto 16, 3) := by decide +kernel
theorem dX4_tell_67 : decode cX4_tell 67 = .ok (.aload_n 2, 1) := by decide +kernel
theorem dX4_tell_68 : decode cX4_tell 68 = .ok (.getfield 49, 3) := by decide +kernel
theorem dX4_tell_71 : decode cX4_tell 71 = .ok (.iload_n 3, 1) := by decide +kernel
theorem dX4_tell_72 : decode cX4_tell 72 = .ok (.aaload, 1) := by decide +kernel
theorem dX4_tell_73 : decode cX4_tell 73 = .ok (.aload_n 1, 1) := by decide +kernel
theorem dX4_tell_74 : decode cX4_tell 74 = .ok (.getfield 53, 3) := by decide +kernel
theorem dX4_tell_77 : decode cX4_tell 77 = .ok (.iload 5, 2) := by decide +kernel
theorem dX4_tell_79 : decode cX4_tell 79 = .ok (.iastore, 1) := by decide +kernel
theorem dX4_tell_80 : decode cX4_tell 80 = .ok (.aload_n 0, 1) := by decide +kernel
theorem dX4_tell_81 : decode cX4_tell 81 = .ok (.aload_n 1, 1) := by decide +kernel
theorem dX4_tell_82 : decode cX4_tell 82 = .ok (.aload_n 2, 1) := by decide +kernel
theorem dX4_tell_83 : decode cX4_tell 83 = .ok (.invokevirtual 72, 3) := by decide +kernel
theorem dX4_tell_86 : decode cX4_tell 86 = .ok (.aload_n 0, 1) := by decide +kernel
theorem dX4_tell_87 : decode cX4_tell 87 = .ok (.invokevirtual 45, 3) := by decide +kernel
theorem dX4_tell_90 : decode cX4_tell 90 = .ok (.iload 5, 2) := by decide +kernel
theorem dX4_tell_92 : decode cX4_tell 92 = .ok (.ireturn, 1) := by decide +kernel
theorem dX4_alter_0 : decode cX4_alter 0 = .ok (.aload_n 0, 1) := by decide +kernel
theorem dX4_alter_1 : decode cX4_alter 1 = .ok (.getfield 20, 3) := by decide +kernel
theorem dX4_alter_4 : decode cX4_alter 4 = .ok (.iload_n 1, 1) := by decide +kernel
theorem dX4_alter_5 : decode cX4_alter 5 = .ok (.iaload, 1) := by decide +kernel
theorem dX4_alter_6 : decode cX4_alter 6 = .ok (.istore_n 3, 1) := by decide +kernel
theorem dX4_alter_7 : decode cX4_alter 7 = .ok (.aload_n 0, 1) := by decide +kernel
theorem dX4_alter_8 : decode cX4_alter 8 = .ok (.getfield 20, 3) := by decide +kernel
theorem dX4_alter_11 : decode cX4_alter 11 = .ok (.iload_n 1, 1) := by decide +kernel
theorem dX4_alter_12 : decode cX4_alter 12 = .ok (.iload_n 2, 1) := by decide +kernel
theorem dX4_alter_13 : decode cX4_alter 13 = .ok (.iastore, 1) := by decide +kernel
theorem dX4_alter_14 : decode cX4_alter 14 = .ok (.iload_n 1, 1) := by decide +kernel
theorem dX4_alter_15 : decode cX4_alter 15 = .ok (.iconst 3, 1) := by decide +kernel
theorem dX4_alter_16 : decode cX4_alter 16 = .ok (.if_icmp .ge 7, 3) := by decide +kernel
theorem dX4_alter_19 : decode cX4_alter 19 = .ok (.aload_n 0, 1) := by decide +kernel
theorem dX4_alter_20 : decode cX4_alter 20 = .ok (.invokevirtual 76, 3) := by decide +kernel
theorem dX4_alter_23 : decode cX4_alter 23 = .ok (.aload_n 0, 1) := by decide +kernel
theorem dX4_alter_24 : decode cX4_alter 24 = .ok (.invokevirtual 45, 3) := by decide +kernel
theorem dX4_alter_27 : decode cX4_alter 27 = .ok (.iload_n 3, 1) := by decide +kernel
theorem dX4_alter_28 : decode cX4_alter 28 = .ok (.ireturn, 1) := by decide +kernel
theorem dX4_weighTies_0 : decode cX4_weighTies 0 = .ok (.iconst 0, 1) := by decide +kernel
theorem dX4_weighTies_1 : decode cX4_weighTies 1 = .ok (.istore_n 1, 1) := by decide +kernel
theorem dX4_weighTies_2 : decode cX4_weighTies 2 = .ok (.iload_n 1, 1) := by decide +kernel
theorem dX4_weighTies_3 : decode cX4_weighTies 3 = .ok (.aload_n 0, 1) := by decide +kernel
theorem dX4_weighTies_4 : decode cX4_weighTies 4 = .ok (.getfield 28, 3) := by decide +kernel
theorem dX4_weighTies_7 : decode cX4_weighTies 7 = .ok (.if_icmp .ge 43, 3) := by decide +kernel
theorem dX4_weighTies_10 : decode cX4_weighTies 10 = .ok (.iload_n 1, 1) := by decide +kernel
theorem dX4_weighTies_11 : decode cX4_weighTies 11 = .ok (.iconst 1, 1) := by decide +kernel
theorem dX4_weighTies_12 : decode cX4_weighTies 12 = .ok (.iadd, 1) := by decide +kernel
theorem dX4_weighTies_13 : decode cX4_weighTies 13 = .ok (.istore_n 2, 1) := by decide +kernel
theorem dX4_weighTies_14 : decode cX4_weighTies 14 = .ok (.iload_n 2, 1) := by decide +kernel
theorem dX4_weighTies_15 : decode cX4_weighTies 15 = .ok (.aload_n 0, 1) := by decide +kernel
theorem dX4_weighTies_16 : decode cX4_weighTies 16 = .ok (.getfield 28, 3) := by decide +kernel
theorem dX4_weighTies_19 : decode cX4_weighTies 19 = .ok (.if_icmp .ge 25, 3) := by decide +kernel
theorem dX4_weighTies_22 : decode cX4_weighTies 22 = .ok (.aload_n 0, 1) := by decide +kernel
theorem dX4_weighTies_23 : decode cX4_weighTies 23 = .ok (.aload_n 0, 1) := by decide +kernel
theorem dX4_weighTies_24 : decode cX4_weighTies 24 = .ok (.getfield 11, 3) := by decide +kernel
theorem dX4_weighTies_27 : decode cX4_weighTies 27 = .ok (.iload_n 1, 1) := by decide +kernel
theorem dX4_weighTies_28 : decode cX4_weighTies 28 = .ok (.aaload, 1) := by decide +kernel
theorem dX4_weighTies_29 : decode cX4_weighTies 29 = .ok (.aload_n 0, 1) := by decide +kernel
theorem dX4_weighTies_30 : decode cX4_weighTies 30 = .ok (.getfield 11, 3) := by decide +kernel
theorem dX4_weighTies_33 : decode cX4_weighTies 33 = .ok (.iload_n 2, 1) := by decide +kernel
theorem dX4_weighTies_34 : decode cX4_weighTies 34 = .ok (.aaload, 1) := by decide +kernel
theorem dX4_weighTies_35 : decode cX4_weighTies 35 = .ok (.invokevirtual 72, 3) := by decide +kernel
theorem dX4_weighTies_38 : decode cX4_weighTies 38 = .ok (.iinc 2 1, 3) := by decide +kernel
theorem dX4_weighTies_41 : decode cX4_weighTies 41 = .ok (.goto (-27), 3) := by decide +kernel
theorem dX4_weighTies_44 : decode cX4_weighTies 44 = .ok (.iinc 1 1, 3) := by decide +kernel
theorem dX4_weighTies_47 : decode cX4_weighTies 47 = .ok (.goto (-45), 3) := by decide +kernel
theorem dX4_weighTies_50 : decode cX4_weighTies 50 = .ok (.return_, 1) := by decide +kernel
theorem dX4_weighTie_0 : decode cX4_weighTie 0 = .ok (.aload_n 1, 1) := by decide +kernel
theorem dX4_weighTie_1 : decode cX4_weighTie 1 = .ok (.getfield 49, 3) := by decide +kernel
theorem dX4_weighTie_4 : decode cX4_weighTie 4 = .ok (.iconst 0, 1) := by decide +kernel
theorem dX4_weighTie_5 : decode cX4_weighTie 5 = .ok (.aaload, 1) := by decide +kernel
theorem dX4_weighTie_6 : decode cX4_weighTie 6 = .ok (.aload_n 2, 1) := by decide +kernel
theorem dX4_weighTie_7 : decode cX4_weighTie 7 = .ok (.getfield 53, 3) := by decide +kernel
theorem dX4_weighTie_10 : decode cX4_weighTie 10 = .ok (.iaload, 1) := by decide +kernel
theorem dX4_weighTie_11 : decode cX4_weighTie 11 = .ok (.aload_n 2, 1) := by decide +kernel
theorem dX4_weighTie_12 : decode cX4_weighTie 12 = .ok (.getfield 49, 3) := by decide +kernel
theorem dX4_weighTie_15 : decode cX4_weighTie 15 = .ok (.iconst 0, 1) := by decide +kernel
theorem dX4_weighTie_16 : decode cX4_weighTie 16 = .ok (.aaload, 1) := by decide +kernel
theorem dX4_weighTie_17 : decode cX4_weighTie 17 = .ok (.aload_n 1, 1) := by decide +kernel
theorem dX4_weighTie_18 : decode cX4_weighTie 18 = .ok (.getfield 53, 3) := by decide +kernel
theorem dX4_weighTie_21 : decode cX4_weighTie 21 = .ok (.iaload, 1) := by decide +kernel
theorem dX4_weighTie_22 : decode cX4_weighTie 22 = .ok (.iadd, 1) := by decide +kernel
theorem dX4_weighTie_23 : decode cX4_weighTie 23 = .ok (.istore_n 3, 1) := by decide +kernel
theorem dX4_weighTie_24 : decode cX4_weighTie 24 = .ok (.aload_n 0, 1) := by decide +kernel
theorem dX4_weighTie_25 : decode cX4_weighTie 25 = .ok (.getfield 20, 3) := by decide +kernel
theorem dX4_weighTie_28 : decode cX4_weighTie 28 = .ok (.iconst 0, 1) := by decide +kernel
theorem dX4_weighTie_29 : decode cX4_weighTie 29 = .ok (.iaload, 1) := by decide +kernel
theorem dX4_weighTie_30 : decode cX4_weighTie 30 = .ok (.iload_n 3, 1) := by decide +kernel
theorem dX4_weighTie_31 : decode cX4_weighTie 31 = .ok (.imul, 1) := by decide +kernel
theorem dX4_weighTie_32 : decode cX4_weighTie 32 = .ok (.aload_n 0, 1) := by decide +kernel
theorem dX4_weighTie_33 : decode cX4_weighTie 33 = .ok (.getfield 20, 3) := by decide +kernel
theorem dX4_weighTie_36 : decode cX4_weighTie 36 = .ok (.iconst 1, 1) := by decide +kernel
theorem dX4_weighTie_37 : decode cX4_weighTie 37 = .ok (.iaload, 1) := by decide +kernel
theorem dX4_weighTie_38 : decode cX4_weighTie 38 = .ok (.aload_n 1, 1) := by decide +kernel
theorem dX4_weighTie_39 : decode cX4_weighTie 39 = .ok (.getfield 49, 3) := by decide +kernel
theorem dX4_weighTie_42 : decode cX4_weighTie 42 = .ok (.iconst 1, 1) := by decide +kernel
theorem dX4_weighTie_43 : decode cX4_weighTie 43 = .ok (.aaload, 1) := by decide +kernel
theorem dX4_weighTie_44 : decode cX4_weighTie 44 = .ok (.aload_n 2, 1) := by decide +kernel
theorem dX4_weighTie_45 : decode cX4_weighTie 45 = .ok (.getfield 53, 3) := by decide +kernel
theorem dX4_weighTie_48 : decode cX4_weighTie 48 = .ok (.iaload, 1) := by decide +kernel
theorem dX4_weighTie_49 : decode cX4_weighTie 49 = .ok (.imul, 1) := by decide +kernel
theorem dX4_weighTie_50 : decode cX4_weighTie 50 = .ok (.iadd, 1) := by decide +kernel
theorem dX4_weighTie_51 : decode cX4_weighTie 51 = .ok (.aload_n 0, 1) := by decide +kernel
theorem dX4_weighTie_52 : decode cX4_weighTie 52 = .ok (.getfield 20, 3) := by decide +kernel
theorem dX4_weighTie_55 : decode cX4_weighTie 55 = .ok (.iconst 2, 1) := by decide +kernel
theorem dX4_weighTie_56 : decode cX4_weighTie 56 = .ok (.iaload, 1) := by decide +kernel
theorem dX4_weighTie_57 : decode cX4_weighTie 57 = .ok (.aload_n 1, 1) := by decide +kernel
theorem dX4_weighTie_58 : decode cX4_weighTie 58 = .ok (.getfield 49, 3) := by decide +kernel
theorem dX4_weighTie_61 : decode cX4_weighTie 61 = .ok (.iconst 2, 1) := by decide +kernel
theorem dX4_weighTie_62 : decode cX4_weighTie 62 = .ok (.aaload, 1) := by decide +kernel
theorem dX4_weighTie_63 : decode cX4_weighTie 63 = .ok (.aload_n 2, 1) := by decide +kernel
theorem dX4_weighTie_64 : decode cX4_weighTie 64 = .ok (.getfield 53, 3) := by decide +kernel
theorem dX4_weighTie_67 : decode cX4_weighTie 67 = .ok (.iaload, 1) := by decide +kernel
theorem dX4_weighTie_68 : decode cX4_weighTie 68 = .ok (.imul, 1) := by decide +kernel
theorem dX4_weighTie_69 : decode cX4_weighTie 69 = .ok (.iadd, 1) := by decide +kernel
theorem dX4_weighTie_70 : decode cX4_weighTie 70 = .ok (.istore 4, 2) := by decide +kernel
theorem dX4_weighTie_72 : decode cX4_weighTie 72 = .ok (.aload_n 1, 1) := by decide +kernel
theorem dX4_weighTie_73 : decode cX4_weighTie 73 = .ok (.aload_n 2, 1) := by decide +kernel
theorem dX4_weighTie_74 : decode cX4_weighTie 74 = .ok (.iload 4, 2) := by decide +kernel
theorem dX4_weighTie_76 : decode cX4_weighTie 76 = .ok (.invokevirtual 79, 3) := by decide +kernel
theorem dX4_weighTie_79 : decode cX4_weighTie 79 = .ok (.aload_n 2, 1) := by decide +kernel
theorem dX4_weighTie_80 : decode cX4_weighTie 80 = .ok (.aload_n 1, 1) := by decide +kernel
theorem dX4_weighTie_81 : decode cX4_weighTie 81 = .ok (.iload 4, 2) := by decide +kernel
theorem dX4_weighTie_83 : decode cX4_weighTie 83 = .ok (.invokevirtual 79, 3) := by decide +kernel
theorem dX4_weighTie_86 : decode cX4_weighTie 86 = .ok (.return_, 1) := by decide +kernel
theorem dX4_settle_0 : decode cX4_settle 0 = .ok (.aload_n 0, 1) := by decide +kernel
theorem dX4_settle_1 : decode cX4_settle 1 = .ok (.iconst 0, 1) := by decide +kernel
theorem dX4_settle_2 : decode cX4_settle 2 = .ok (.putfield 83, 3) := by decide +kernel
theorem dX4_settle_5 : decode cX4_settle 5 = .ok (.iconst 0, 1) := by decide +kernel
theorem dX4_settle_6 : decode cX4_settle 6 = .ok (.istore_n 1, 1) := by decide +kernel
theorem dX4_settle_7 : decode cX4_settle 7 = .ok (.iload_n 1, 1) := by decide +kernel
theorem dX4_settle_8 : decode cX4_settle 8 = .ok (.aload_n 0, 1) := by decide +kernel
theorem dX4_settle_9 : decode cX4_settle 9 = .ok (.getfield 28, 3) := by decide +kernel
theorem dX4_settle_12 : decode cX4_settle 12 = .ok (.if_icmp .ge 91, 3) := by decide +kernel
theorem dX4_settle_15 : decode cX4_settle 15 = .ok (.aload_n 0, 1) := by decide +kernel
theorem dX4_settle_16 : decode cX4_settle 16 = .ok (.getfield 11, 3) := by decide +kernel
theorem dX4_settle_19 : decode cX4_settle 19 = .ok (.iload_n 1, 1) := by decide +kernel
theorem dX4_settle_20 : decode cX4_settle 20 = .ok (.aaload, 1) := by decide +kernel
theorem dX4_settle_21 : decode cX4_settle 21 = .ok (.astore_n 2, 1) := by decide +kernel
theorem dX4_settle_22 : decode cX4_settle 22 = .ok (.aload_n 2, 1) := by decide +kernel
theorem dX4_settle_23 : decode cX4_settle 23 = .ok (.aload_n 2, 1) := by decide +kernel
theorem dX4_settle_24 : decode cX4_settle 24 = .ok (.getfield 86, 3) := by decide +kernel
theorem dX4_settle_27 : decode cX4_settle 27 = .ok (.invokestatic 89, 3) := by decide +kernel
theorem dX4_settle_30 : decode cX4_settle 30 = .ok (.aload_n 0, 1) := by decide +kernel
theorem dX4_settle_31 : decode cX4_settle 31 = .ok (.getfield 20, 3) := by decide +kernel
theorem dX4_settle_34 : decode cX4_settle 34 = .ok (.iconst 4, 1) := by decide +kernel
theorem dX4_settle_35 : decode cX4_settle 35 = .ok (.iaload, 1) := by decide +kernel
theorem dX4_settle_36 : decode cX4_settle 36 = .ok (.if_icmp .le 7, 3) := by decide +kernel
theorem dX4_settle_39 : decode cX4_settle 39 = .ok (.iconst 1, 1) := by decide +kernel
theorem dX4_settle_40 : decode cX4_settle 40 = .ok (.goto 4, 3) := by decide +kernel
theorem dX4_settle_43 : decode cX4_settle 43 = .ok (.iconst 0, 1) := by decide +kernel
theorem dX4_settle_44 : decode cX4_settle 44 = .ok (.putfield 95, 3) := by decide +kernel
theorem dX4_settle_47 : decode cX4_settle 47 = .ok (.aload_n 2, 1) := by decide +kernel
theorem dX4_settle_48 : decode cX4_settle 48 = .ok (.getfield 95, 3) := by decide +kernel
theorem dX4_settle_51 : decode cX4_settle 51 = .ok (.ifCond .ne 14, 3) := by decide +kernel
theorem dX4_settle_54 : decode cX4_settle 54 = .ok (.aload_n 2, 1) := by decide +kernel
theorem dX4_settle_55 : decode cX4_settle 55 = .ok (.getfield 99, 3) := by decide +kernel
theorem dX4_settle_58 : decode cX4_settle 58 = .ok (.aload_n 0, 1) := by decide +kernel
theorem dX4_settle_59 : decode cX4_settle 59 = .ok (.invokevirtual 102, 3) := by decide +kernel
theorem dX4_settle_62 : decode cX4_settle 62 = .ok (.if_icmp .lt 8, 3) := by decide +kernel
theorem dX4_settle_65 : decode cX4_settle 65 = .ok (.aload_n 2, 1) := by decide +kernel
theorem dX4_settle_66 : decode cX4_settle 66 = .ok (.iconst 0, 1) := by decide +kernel
theorem dX4_settle_67 : decode cX4_settle 67 = .ok (.putfield 99, 3) := by decide +kernel
theorem dX4_settle_70 : decode cX4_settle 70 = .ok (.aload_n 2, 1) := by decide +kernel
theorem dX4_settle_71 : decode cX4_settle 71 = .ok (.getfield 95, 3) := by decide +kernel
theorem dX4_settle_74 : decode cX4_settle 74 = .ok (.ifCond .ne 23, 3) := by decide +kernel
theorem dX4_settle_77 : decode cX4_settle 77 = .ok (.aload_n 0, 1) := by decide +kernel
theorem dX4_settle_78 : decode cX4_settle 78 = .ok (.getfield 17, 3) := by decide +kernel
theorem dX4_settle_81 : decode cX4_settle 81 = .ok (.aload_n 0, 1) := by decide +kernel
theorem dX4_settle_82 : decode cX4_settle 82 = .ok (.getfield 83, 3) := by decide +kernel
theorem dX4_settle_85 : decode cX4_settle 85 = .ok (.aload_n 2, 1) := by decide +kernel
theorem dX4_settle_86 : decode cX4_settle 86 = .ok (.aastore, 1) := by decide +kernel
theorem dX4_settle_87 : decode cX4_settle 87 = .ok (.aload_n 0, 1) := by decide +kernel
theorem dX4_settle_88 : decode cX4_settle 88 = .ok (.dup, 1) := by decide +kernel
theorem dX4_settle_89 : decode cX4_settle 89 = .ok (.getfield 83, 3) := by decide +kernel
theorem dX4_settle_92 : decode cX4_settle 92 = .ok (.iconst 1, 1) := by decide +kernel
theorem dX4_settle_93 : decode cX4_settle 93 = .ok (.iadd, 1) := by decide +kernel
theorem dX4_settle_94 : decode cX4_settle 94 = .ok (.putfield 83, 3) := by decide +kernel
theorem dX4_settle_97 : decode cX4_settle 97 = .ok (.iinc 1 1, 3) := by decide +kernel
theorem dX4_settle_100 : decode cX4_settle 100 = .ok (.goto (-93), 3) := by decide +kernel
theorem dX4_settle_103 : decode cX4_settle 103 = .ok (.return_, 1) := by decide +kernel
theorem dX4_gather_0 : decode cX4_gather 0 = .ok (.iconst 0, 1) := by decide +kernel
theorem dX4_gather_1 : decode cX4_gather 1 = .ok (.istore_n 1, 1) := by decide +kernel
theorem dX4_gather_2 : decode cX4_gather 2 = .ok (.iload_n 1, 1) := by decide +kernel
theorem dX4_gather_3 : decode cX4_gather 3 = .ok (.bipush 6, 2) := by decide +kernel
theorem dX4_gather_5 : decode cX4_gather 5 = .ok (.if_icmp .ge 16, 3) := by decide +kernel
theorem dX4_gather_8 : decode cX4_gather 8 = .ok (.aload_n 0, 1) := by decide +kernel
theorem dX4_gather_9 : decode cX4_gather 9 = .ok (.getfield 24, 3) := by decide +kernel
theorem dX4_gather_12 : decode cX4_gather 12 = .ok (.iload_n 1, 1) := by decide +kernel
theorem dX4_gather_13 : decode cX4_gather 13 = .ok (.lconst 0, 1) := by decide +kernel
theorem dX4_gather_14 : decode cX4_gather 14 = .ok (.lastore, 1) := by decide +kernel
theorem dX4_gather_15 : decode cX4_gather 15 = .ok (.iinc 1 1, 3) := by decide +kernel
theorem dX4_gather_18 : decode cX4_gather 18 = .ok (.goto (-16), 3) := by decide +kernel
theorem dX4_gather_21 : decode cX4_gather 21 = .ok (.iconst 0, 1) := by decide +kernel
theorem dX4_gather_22 : decode cX4_gather 22 = .ok (.istore_n 1, 1) := by decide +kernel
theorem dX4_gather_23 : decode cX4_gather 23 = .ok (.iload_n 1, 1) := by decide +kernel
theorem dX4_gather_24 : decode cX4_gather 24 = .ok (.aload_n 0, 1) := by decide +kernel
theorem dX4_gather_25 : decode cX4_gather 25 = .ok (.getfield 83, 3) := by decide +kernel
theorem dX4_gather_28 : decode cX4_gather 28 = .ok (.if_icmp .ge 35, 3) := by decide +kernel
theorem dX4_gather_31 : decode cX4_gather 31 = .ok (.aload_n 0, 1) := by decide +kernel
theorem dX4_gather_32 : decode cX4_gather 32 = .ok (.getfield 24, 3) := by decide +kernel
theorem dX4_gather_35 : decode cX4_gather 35 = .ok (.aload_n 0, 1) := by decide +kernel
theorem dX4_gather_36 : decode cX4_gather 36 = .ok (.getfield 17, 3) := by decide +kernel
theorem dX4_gather_39 : decode cX4_gather 39 = .ok (.iload_n 1, 1) := by decide +kernel
theorem dX4_gather_40 : decode cX4_gather 40 = .ok (.aaload, 1) := by decide +kernel
theorem dX4_gather_41 : decode cX4_gather 41 = .ok (.getfield 99, 3) := by decide +kernel
theorem dX4_gather_44 : decode cX4_gather 44 = .ok (.dup2, 1) := by decide +kernel
theorem dX4_gather_45 : decode cX4_gather 45 = .ok (.laload, 1) := by decide +kernel
theorem dX4_gather_46 : decode cX4_gather 46 = .ok (.aload_n 0, 1) := by decide +kernel
theorem dX4_gather_47 : decode cX4_gather 47 = .ok (.getfield 17, 3) := by decide +kernel
theorem dX4_gather_50 : decode cX4_gather 50 = .ok (.iload_n 1, 1) := by decide +kernel
theorem dX4_gather_51 : decode cX4_gather 51 = .ok (.aaload, 1) := by decide +kernel
theorem dX4_gather_52 : decode cX4_gather 52 = .ok (.getfield 66, 3) := by decide +kernel
theorem dX4_gather_55 : decode cX4_gather 55 = .ok (.lor, 1) := by decide +kernel
theorem dX4_gather_56 : decode cX4_gather 56 = .ok (.lastore, 1) := by decide +kernel
theorem dX4_gather_57 : decode cX4_gather 57 = .ok (.iinc 1 1, 3) := by decide +kernel
theorem dX4_gather_60 : decode cX4_gather 60 = .ok (.goto (-37), 3) := by decide +kernel
theorem dX4_gather_63 : decode cX4_gather 63 = .ok (.return_, 1) := by decide +kernel
theorem dX4_housedBits_0 : decode cX4_housedBits 0 = .ok (.lconst 0, 1) := by decide +kernel
theorem dX4_housedBits_1 : decode cX4_housedBits 1 = .ok (.lstore_n 1, 1) := by decide +kernel
theorem dX4_housedBits_2 : decode cX4_housedBits 2 = .ok (.iconst 0, 1) := by decide +kernel
theorem dX4_housedBits_3 : decode cX4_housedBits 3 = .ok (.istore_n 3, 1) := by decide +kernel
theorem dX4_housedBits_4 : decode cX4_housedBits 4 = .ok (.iload_n 3, 1) := by decide +kernel
theorem dX4_housedBits_5 : decode cX4_housedBits 5 = .ok (.aload_n 0, 1) := by decide +kernel
theorem dX4_housedBits_6 : decode cX4_housedBits 6 = .ok (.getfield 83, 3) := by decide +kernel
theorem dX4_housedBits_9 : decode cX4_housedBits 9 = .ok (.if_icmp .ge 21, 3) := by decide +kernel
theorem dX4_housedBits_12 : decode cX4_housedBits 12 = .ok (.lload_n 1, 1) := by decide +kernel
theorem dX4_housedBits_13 : decode cX4_housedBits 13 = .ok (.aload_n 0, 1) := by decide +kernel
theorem dX4_housedBits_14 : decode cX4_housedBits 14 = .ok (.getfield 17, 3) := by decide +kernel
theorem dX4_housedBits_17 : decode cX4_housedBits 17 = .ok (.iload_n 3, 1) := by decide +kernel
theorem dX4_housedBits_18 : decode cX4_housedBits 18 = .ok (.aaload, 1) := by decide +kernel
theorem dX4_housedBits_19 : decode cX4_housedBits 19 = .ok (.getfield 66, 3) := by decide +kernel
theorem dX4_housedBits_22 : decode cX4_housedBits 22 = .ok (.lor, 1) := by decide +kernel
theorem dX4_housedBits_23 : decode cX4_housedBits 23 = .ok (.lstore_n 1, 1) := by decide +kernel
theorem dX4_housedBits_24 : decode cX4_housedBits 24 = .ok (.iinc 3 1, 3) := by decide +kernel
theorem dX4_housedBits_27 : decode cX4_housedBits 27 = .ok (.goto (-23), 3) := by decide +kernel
theorem dX4_housedBits_30 : decode cX4_housedBits 30 = .ok (.lload_n 1, 1) := by decide +kernel
theorem dX4_housedBits_31 : decode cX4_housedBits 31 = .ok (.lreturn, 1) := by decide +kernel
theorem dX4_price_0 : decode cX4_price 0 = .ok (.ldc2_w 106, 3) := by decide +kernel
theorem dX4_price_3 : decode cX4_price 3 = .ok (.aload_n 0, 1) := by decide +kernel
theorem dX4_price_4 : decode cX4_price 4 = .ok (.invokevirtual 108, 3) := by decide +kernel
theorem dX4_price_7 : decode cX4_price 7 = .ok (.i2l, 1) := by decide +kernel
theorem dX4_price_8 : decode cX4_price 8 = .ok (.lmul, 1) := by decide +kernel
theorem dX4_price_9 : decode cX4_price 9 = .ok (.aload_n 0, 1) := by decide +kernel
theorem dX4_price_10 : decode cX4_price 10 = .ok (.invokevirtual 111, 3) := by decide +kernel
theorem dX4_price_13 : decode cX4_price 13 = .ok (.i2l, 1) := by decide +kernel
theorem dX4_price_14 : decode cX4_price 14 = .ok (.aload_n 0, 1) := by decide +kernel
theorem dX4_price_15 : decode cX4_price 15 = .ok (.invokevirtual 114, 3) := by decide +kernel
