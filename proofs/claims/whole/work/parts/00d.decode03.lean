theorem dX11_costNow_11 : decode cX11_costNow 11 = .ok (.istore_n 3, 1) := by decide +kernel
theorem dX11_costNow_12 : decode cX11_costNow 12 = .ok (.iload_n 3, 1) := by decide +kernel
theorem dX11_costNow_13 : decode cX11_costNow 13 = .ok (.aload_n 0, 1) := by decide +kernel
theorem dX11_costNow_14 : decode cX11_costNow 14 = .ok (.getfield 33, 3) := by decide +kernel
theorem dX11_costNow_17 : decode cX11_costNow 17 = .ok (.if_icmp .ge 31, 3) := by decide +kernel
theorem dX11_costNow_20 : decode cX11_costNow 20 = .ok (.lload_n 1, 1) := by decide +kernel
theorem dX11_costNow_21 : decode cX11_costNow 21 = .ok (.aload_n 0, 1) := by decide +kernel
theorem dX11_costNow_22 : decode cX11_costNow 22 = .ok (.getfield 26, 3) := by decide +kernel
theorem dX11_costNow_25 : decode cX11_costNow 25 = .ok (.i2l, 1) := by decide +kernel
theorem dX11_costNow_26 : decode cX11_costNow 26 = .ok (.aload_n 0, 1) := by decide +kernel
theorem dX11_costNow_27 : decode cX11_costNow 27 = .ok (.iload_n 3, 1) := by decide +kernel
theorem dX11_costNow_28 : decode cX11_costNow 28 = .ok (.invokevirtual 122, 3) := by decide +kernel
theorem dX11_costNow_31 : decode cX11_costNow 31 = .ok (.i2l, 1) := by decide +kernel
theorem dX11_costNow_32 : decode cX11_costNow 32 = .ok (.lmul, 1) := by decide +kernel
theorem dX11_costNow_33 : decode cX11_costNow 33 = .ok (.aload_n 0, 1) := by decide +kernel
theorem dX11_costNow_34 : decode cX11_costNow 34 = .ok (.iload_n 3, 1) := by decide +kernel
theorem dX11_costNow_35 : decode cX11_costNow 35 = .ok (.invokevirtual 122, 3) := by decide +kernel
theorem dX11_costNow_38 : decode cX11_costNow 38 = .ok (.i2l, 1) := by decide +kernel
theorem dX11_costNow_39 : decode cX11_costNow 39 = .ok (.lmul, 1) := by decide +kernel
theorem dX11_costNow_40 : decode cX11_costNow 40 = .ok (.ladd, 1) := by decide +kernel
theorem dX11_costNow_41 : decode cX11_costNow 41 = .ok (.lstore_n 1, 1) := by decide +kernel
theorem dX11_costNow_42 : decode cX11_costNow 42 = .ok (.iinc 3 1, 3) := by decide +kernel
theorem dX11_costNow_45 : decode cX11_costNow 45 = .ok (.goto (-33), 3) := by decide +kernel
theorem dX11_costNow_48 : decode cX11_costNow 48 = .ok (.iconst 0, 1) := by decide +kernel
theorem dX11_costNow_49 : decode cX11_costNow 49 = .ok (.istore_n 3, 1) := by decide +kernel
theorem dX11_costNow_50 : decode cX11_costNow 50 = .ok (.iload_n 3, 1) := by decide +kernel
theorem dX11_costNow_51 : decode cX11_costNow 51 = .ok (.aload_n 0, 1) := by decide +kernel
theorem dX11_costNow_52 : decode cX11_costNow 52 = .ok (.getfield 83, 3) := by decide +kernel
theorem dX11_costNow_55 : decode cX11_costNow 55 = .ok (.if_icmp .ge 79, 3) := by decide +kernel
theorem dX11_costNow_58 : decode cX11_costNow 58 = .ok (.iload_n 3, 1) := by decide +kernel
theorem dX11_costNow_59 : decode cX11_costNow 59 = .ok (.iconst 1, 1) := by decide +kernel
theorem dX11_costNow_60 : decode cX11_costNow 60 = .ok (.iadd, 1) := by decide +kernel
theorem dX11_costNow_61 : decode cX11_costNow 61 = .ok (.istore 4, 2) := by decide +kernel
theorem dX11_costNow_63 : decode cX11_costNow 63 = .ok (.iload 4, 2) := by decide +kernel
theorem dX11_costNow_65 : decode cX11_costNow 65 = .ok (.aload_n 0, 1) := by decide +kernel
theorem dX11_costNow_66 : decode cX11_costNow 66 = .ok (.getfield 83, 3) := by decide +kernel
theorem dX11_costNow_69 : decode cX11_costNow 69 = .ok (.if_icmp .ge 59, 3) := by decide +kernel
theorem dX11_costNow_72 : decode cX11_costNow 72 = .ok (.lload_n 1, 1) := by decide +kernel
theorem dX11_costNow_73 : decode cX11_costNow 73 = .ok (.aload_n 0, 1) := by decide +kernel
theorem dX11_costNow_74 : decode cX11_costNow 74 = .ok (.getfield 36, 3) := by decide +kernel
theorem dX11_costNow_77 : decode cX11_costNow 77 = .ok (.iload_n 3, 1) := by decide +kernel
theorem dX11_costNow_78 : decode cX11_costNow 78 = .ok (.baload, 1) := by decide +kernel
theorem dX11_costNow_79 : decode cX11_costNow 79 = .ok (.ifCond .ne 29, 3) := by decide +kernel
theorem dX11_costNow_82 : decode cX11_costNow 82 = .ok (.aload_n 0, 1) := by decide +kernel
theorem dX11_costNow_83 : decode cX11_costNow 83 = .ok (.getfield 36, 3) := by decide +kernel
theorem dX11_costNow_86 : decode cX11_costNow 86 = .ok (.iload 4, 2) := by decide +kernel
theorem dX11_costNow_88 : decode cX11_costNow 88 = .ok (.baload, 1) := by decide +kernel
theorem dX11_costNow_89 : decode cX11_costNow 89 = .ok (.ifCond .ne 19, 3) := by decide +kernel
theorem dX11_costNow_92 : decode cX11_costNow 92 = .ok (.aload_n 0, 1) := by decide +kernel
theorem dX11_costNow_93 : decode cX11_costNow 93 = .ok (.getfield 40, 3) := by decide +kernel
theorem dX11_costNow_96 : decode cX11_costNow 96 = .ok (.iload_n 3, 1) := by decide +kernel
theorem dX11_costNow_97 : decode cX11_costNow 97 = .ok (.iaload, 1) := by decide +kernel
theorem dX11_costNow_98 : decode cX11_costNow 98 = .ok (.aload_n 0, 1) := by decide +kernel
theorem dX11_costNow_99 : decode cX11_costNow 99 = .ok (.getfield 40, 3) := by decide +kernel
theorem dX11_costNow_102 : decode cX11_costNow 102 = .ok (.iload 4, 2) := by decide +kernel
theorem dX11_costNow_104 : decode cX11_costNow 104 = .ok (.iaload, 1) := by decide +kernel
theorem dX11_costNow_105 : decode cX11_costNow 105 = .ok (.if_icmp .ne 7, 3) := by decide +kernel
theorem dX11_costNow_108 : decode cX11_costNow 108 = .ok (.lconst 0, 1) := by decide +kernel
theorem dX11_costNow_109 : decode cX11_costNow 109 = .ok (.goto 11, 3) := by decide +kernel
theorem dX11_costNow_112 : decode cX11_costNow 112 = .ok (.aload_n 0, 1) := by decide +kernel
theorem dX11_costNow_113 : decode cX11_costNow 113 = .ok (.iload_n 3, 1) := by decide +kernel
theorem dX11_costNow_114 : decode cX11_costNow 114 = .ok (.iload 4, 2) := by decide +kernel
theorem dX11_costNow_116 : decode cX11_costNow 116 = .ok (.invokevirtual 105, 3) := by decide +kernel
theorem dX11_costNow_119 : decode cX11_costNow 119 = .ok (.i2l, 1) := by decide +kernel
theorem dX11_costNow_120 : decode cX11_costNow 120 = .ok (.ladd, 1) := by decide +kernel
theorem dX11_costNow_121 : decode cX11_costNow 121 = .ok (.lstore_n 1, 1) := by decide +kernel
theorem dX11_costNow_122 : decode cX11_costNow 122 = .ok (.iinc 4 1, 3) := by decide +kernel
theorem dX11_costNow_125 : decode cX11_costNow 125 = .ok (.goto (-62), 3) := by decide +kernel
theorem dX11_costNow_128 : decode cX11_costNow 128 = .ok (.iinc 3 1, 3) := by decide +kernel
theorem dX11_costNow_131 : decode cX11_costNow 131 = .ok (.goto (-81), 3) := by decide +kernel
theorem dX11_costNow_134 : decode cX11_costNow 134 = .ok (.lload_n 1, 1) := by decide +kernel
theorem dX11_costNow_135 : decode cX11_costNow 135 = .ok (.lreturn, 1) := by decide +kernel
theorem dX11_cost_0 : decode cX11_cost 0 = .ok (.aload_n 0, 1) := by decide +kernel
theorem dX11_cost_1 : decode cX11_cost 1 = .ok (.iconst 0, 1) := by decide +kernel
theorem dX11_cost_2 : decode cX11_cost 2 = .ok (.putfield 73, 3) := by decide +kernel
theorem dX11_cost_5 : decode cX11_cost 5 = .ok (.aload_n 0, 1) := by decide +kernel
theorem dX11_cost_6 : decode cX11_cost 6 = .ok (.invokevirtual 126, 3) := by decide +kernel
theorem dX11_cost_9 : decode cX11_cost 9 = .ok (.lreturn, 1) := by decide +kernel
theorem dX11_hangs_0 : decode cX11_hangs 0 = .ok (.aload_n 0, 1) := by decide +kernel
theorem dX11_hangs_1 : decode cX11_hangs 1 = .ok (.getfield 46, 3) := by decide +kernel
theorem dX11_hangs_4 : decode cX11_hangs 4 = .ok (.iload_n 1, 1) := by decide +kernel
theorem dX11_hangs_5 : decode cX11_hangs 5 = .ok (.iaload, 1) := by decide +kernel
theorem dX11_hangs_6 : decode cX11_hangs 6 = .ok (.ifCond .lt 19, 3) := by decide +kernel
theorem dX11_hangs_9 : decode cX11_hangs 9 = .ok (.aload_n 0, 1) := by decide +kernel
theorem dX11_hangs_10 : decode cX11_hangs 10 = .ok (.getfield 46, 3) := by decide +kernel
theorem dX11_hangs_13 : decode cX11_hangs 13 = .ok (.iload_n 1, 1) := by decide +kernel
theorem dX11_hangs_14 : decode cX11_hangs 14 = .ok (.iaload, 1) := by decide +kernel
theorem dX11_hangs_15 : decode cX11_hangs 15 = .ok (.iload_n 2, 1) := by decide +kernel
theorem dX11_hangs_16 : decode cX11_hangs 16 = .ok (.if_icmp .eq 9, 3) := by decide +kernel
theorem dX11_hangs_19 : decode cX11_hangs 19 = .ok (.ldc2_w 116, 3) := by decide +kernel
theorem dX11_hangs_22 : decode cX11_hangs 22 = .ok (.goto 4, 3) := by decide +kernel
theorem dX11_hangs_25 : decode cX11_hangs 25 = .ok (.lconst 0, 1) := by decide +kernel
theorem dX11_hangs_26 : decode cX11_hangs 26 = .ok (.lstore 4, 2) := by decide +kernel
theorem dX11_hangs_28 : decode cX11_hangs 28 = .ok (.iconst 0, 1) := by decide +kernel
theorem dX11_hangs_29 : decode cX11_hangs 29 = .ok (.istore 6, 2) := by decide +kernel
theorem dX11_hangs_31 : decode cX11_hangs 31 = .ok (.iload 6, 2) := by decide +kernel
theorem dX11_hangs_33 : decode cX11_hangs 33 = .ok (.aload_n 0, 1) := by decide +kernel
theorem dX11_hangs_34 : decode cX11_hangs 34 = .ok (.getfield 83, 3) := by decide +kernel
theorem dX11_hangs_37 : decode cX11_hangs 37 = .ok (.if_icmp .ge 100, 3) := by decide +kernel
theorem dX11_hangs_40 : decode cX11_hangs 40 = .ok (.iload 6, 2) := by decide +kernel
theorem dX11_hangs_42 : decode cX11_hangs 42 = .ok (.iload_n 1, 1) := by decide +kernel
theorem dX11_hangs_43 : decode cX11_hangs 43 = .ok (.if_icmp .eq 88, 3) := by decide +kernel
theorem dX11_hangs_46 : decode cX11_hangs 46 = .ok (.iload 6, 2) := by decide +kernel
theorem dX11_hangs_48 : decode cX11_hangs 48 = .ok (.iload_n 3, 1) := by decide +kernel
theorem dX11_hangs_49 : decode cX11_hangs 49 = .ok (.if_icmp .eq 82, 3) := by decide +kernel
theorem dX11_hangs_52 : decode cX11_hangs 52 = .ok (.aload_n 0, 1) := by decide +kernel
theorem dX11_hangs_53 : decode cX11_hangs 53 = .ok (.getfield 36, 3) := by decide +kernel
theorem dX11_hangs_56 : decode cX11_hangs 56 = .ok (.iload 6, 2) := by decide +kernel
theorem dX11_hangs_58 : decode cX11_hangs 58 = .ok (.baload, 1) := by decide +kernel
theorem dX11_hangs_59 : decode cX11_hangs 59 = .ok (.ifCond .eq 6, 3) := by decide +kernel
theorem dX11_hangs_62 : decode cX11_hangs 62 = .ok (.goto 69, 3) := by decide +kernel
theorem dX11_hangs_65 : decode cX11_hangs 65 = .ok (.lload 4, 2) := by decide +kernel
theorem dX11_hangs_67 : decode cX11_hangs 67 = .ok (.aload_n 0, 1) := by decide +kernel
theorem dX11_hangs_68 : decode cX11_hangs 68 = .ok (.getfield 40, 3) := by decide +kernel
theorem dX11_hangs_71 : decode cX11_hangs 71 = .ok (.iload 6, 2) := by decide +kernel
theorem dX11_hangs_73 : decode cX11_hangs 73 = .ok (.iaload, 1) := by decide +kernel
theorem dX11_hangs_74 : decode cX11_hangs 74 = .ok (.iload_n 2, 1) := by decide +kernel
theorem dX11_hangs_75 : decode cX11_hangs 75 = .ok (.if_icmp .ne 7, 3) := by decide +kernel
theorem dX11_hangs_78 : decode cX11_hangs 78 = .ok (.lconst 0, 1) := by decide +kernel
theorem dX11_hangs_79 : decode cX11_hangs 79 = .ok (.goto 11, 3) := by decide +kernel
theorem dX11_hangs_82 : decode cX11_hangs 82 = .ok (.aload_n 0, 1) := by decide +kernel
theorem dX11_hangs_83 : decode cX11_hangs 83 = .ok (.iload_n 1, 1) := by decide +kernel
theorem dX11_hangs_84 : decode cX11_hangs 84 = .ok (.iload 6, 2) := by decide +kernel
theorem dX11_hangs_86 : decode cX11_hangs 86 = .ok (.invokevirtual 105, 3) := by decide +kernel
theorem dX11_hangs_89 : decode cX11_hangs 89 = .ok (.i2l, 1) := by decide +kernel
theorem dX11_hangs_90 : decode cX11_hangs 90 = .ok (.ladd, 1) := by decide +kernel
theorem dX11_hangs_91 : decode cX11_hangs 91 = .ok (.lstore 4, 2) := by decide +kernel
theorem dX11_hangs_93 : decode cX11_hangs 93 = .ok (.lload 4, 2) := by decide +kernel
theorem dX11_hangs_95 : decode cX11_hangs 95 = .ok (.aload_n 0, 1) := by decide +kernel
theorem dX11_hangs_96 : decode cX11_hangs 96 = .ok (.getfield 43, 3) := by decide +kernel
theorem dX11_hangs_99 : decode cX11_hangs 99 = .ok (.bipush 40, 2) := by decide +kernel
theorem dX11_hangs_101 : decode cX11_hangs 101 = .ok (.iload_n 1, 1) := by decide +kernel
theorem dX11_hangs_102 : decode cX11_hangs 102 = .ok (.imul, 1) := by decide +kernel
theorem dX11_hangs_103 : decode cX11_hangs 103 = .ok (.iload 6, 2) := by decide +kernel
theorem dX11_hangs_105 : decode cX11_hangs 105 = .ok (.iadd, 1) := by decide +kernel
theorem dX11_hangs_106 : decode cX11_hangs 106 = .ok (.iaload, 1) := by decide +kernel
theorem dX11_hangs_107 : decode cX11_hangs 107 = .ok (.iload_n 2, 1) := by decide +kernel
theorem dX11_hangs_108 : decode cX11_hangs 108 = .ok (.aload_n 0, 1) := by decide +kernel
theorem dX11_hangs_109 : decode cX11_hangs 109 = .ok (.getfield 40, 3) := by decide +kernel
theorem dX11_hangs_112 : decode cX11_hangs 112 = .ok (.iload 6, 2) := by decide +kernel
theorem dX11_hangs_114 : decode cX11_hangs 114 = .ok (.iaload, 1) := by decide +kernel
theorem dX11_hangs_115 : decode cX11_hangs 115 = .ok (.invokestatic 112, 3) := by decide +kernel
theorem dX11_hangs_118 : decode cX11_hangs 118 = .ok (.ifCond .eq 9, 3) := by decide +kernel
theorem dX11_hangs_121 : decode cX11_hangs 121 = .ok (.ldc2_w 116, 3) := by decide +kernel
theorem dX11_hangs_124 : decode cX11_hangs 124 = .ok (.goto 4, 3) := by decide +kernel
theorem dX11_hangs_127 : decode cX11_hangs 127 = .ok (.lconst 0, 1) := by decide +kernel
theorem dX11_hangs_128 : decode cX11_hangs 128 = .ok (.ladd, 1) := by decide +kernel
theorem dX11_hangs_129 : decode cX11_hangs 129 = .ok (.lstore 4, 2) := by decide +kernel
theorem dX11_hangs_131 : decode cX11_hangs 131 = .ok (.iinc 6 1, 3) := by decide +kernel
theorem dX11_hangs_134 : decode cX11_hangs 134 = .ok (.goto (-103), 3) := by decide +kernel
theorem dX11_hangs_137 : decode cX11_hangs 137 = .ok (.lload 4, 2) := by decide +kernel
theorem dX11_hangs_139 : decode cX11_hangs 139 = .ok (.lreturn, 1) := by decide +kernel
theorem dX11_moved_0 : decode cX11_moved 0 = .ok (.aload_n 0, 1) := by decide +kernel
theorem dX11_moved_1 : decode cX11_moved 1 = .ok (.aload_n 0, 1) := by decide +kernel
theorem dX11_moved_2 : decode cX11_moved 2 = .ok (.getfield 40, 3) := by decide +kernel
theorem dX11_moved_5 : decode cX11_moved 5 = .ok (.iload_n 1, 1) := by decide +kernel
theorem dX11_moved_6 : decode cX11_moved 6 = .ok (.iaload, 1) := by decide +kernel
theorem dX11_moved_7 : decode cX11_moved 7 = .ok (.invokevirtual 122, 3) := by decide +kernel
theorem dX11_moved_10 : decode cX11_moved 10 = .ok (.istore_n 3, 1) := by decide +kernel
theorem dX11_moved_11 : decode cX11_moved 11 = .ok (.aload_n 0, 1) := by decide +kernel
theorem dX11_moved_12 : decode cX11_moved 12 = .ok (.iload_n 2, 1) := by decide +kernel
theorem dX11_moved_13 : decode cX11_moved 13 = .ok (.invokevirtual 122, 3) := by decide +kernel
theorem dX11_moved_16 : decode cX11_moved 16 = .ok (.istore 4, 2) := by decide +kernel
theorem dX11_moved_18 : decode cX11_moved 18 = .ok (.aload_n 0, 1) := by decide +kernel
theorem dX11_moved_19 : decode cX11_moved 19 = .ok (.iload_n 1, 1) := by decide +kernel
theorem dX11_moved_20 : decode cX11_moved 20 = .ok (.iload_n 2, 1) := by decide +kernel
theorem dX11_moved_21 : decode cX11_moved 21 = .ok (.iconst (-1), 1) := by decide +kernel
theorem dX11_moved_22 : decode cX11_moved 22 = .ok (.invokevirtual 130, 3) := by decide +kernel
theorem dX11_moved_25 : decode cX11_moved 25 = .ok (.aload_n 0, 1) := by decide +kernel
theorem dX11_moved_26 : decode cX11_moved 26 = .ok (.iload_n 1, 1) := by decide +kernel
theorem dX11_moved_27 : decode cX11_moved 27 = .ok (.aload_n 0, 1) := by decide +kernel
theorem dX11_moved_28 : decode cX11_moved 28 = .ok (.getfield 40, 3) := by decide +kernel
theorem dX11_moved_31 : decode cX11_moved 31 = .ok (.iload_n 1, 1) := by decide +kernel
theorem dX11_moved_32 : decode cX11_moved 32 = .ok (.iaload, 1) := by decide +kernel
theorem dX11_moved_33 : decode cX11_moved 33 = .ok (.iconst (-1), 1) := by decide +kernel
theorem dX11_moved_34 : decode cX11_moved 34 = .ok (.invokevirtual 130, 3) := by decide +kernel
theorem dX11_moved_37 : decode cX11_moved 37 = .ok (.lsub, 1) := by decide +kernel
theorem dX11_moved_38 : decode cX11_moved 38 = .ok (.aload_n 0, 1) := by decide +kernel
theorem dX11_moved_39 : decode cX11_moved 39 = .ok (.getfield 26, 3) := by decide +kernel
theorem dX11_moved_42 : decode cX11_moved 42 = .ok (.i2l, 1) := by decide +kernel
theorem dX11_moved_43 : decode cX11_moved 43 = .ok (.iconst 2, 1) := by decide +kernel
theorem dX11_moved_44 : decode cX11_moved 44 = .ok (.iload 4, 2) := by decide +kernel
theorem dX11_moved_46 : decode cX11_moved 46 = .ok (.imul, 1) := by decide +kernel
theorem dX11_moved_47 : decode cX11_moved 47 = .ok (.iconst 2, 1) := by decide +kernel
theorem dX11_moved_48 : decode cX11_moved 48 = .ok (.iload_n 3, 1) := by decide +kernel
theorem dX11_moved_49 : decode cX11_moved 49 = .ok (.imul, 1) := by decide +kernel
theorem dX11_moved_50 : decode cX11_moved 50 = .ok (.isub, 1) := by decide +kernel
theorem dX11_moved_51 : decode cX11_moved 51 = .ok (.iconst 2, 1) := by decide +kernel
theorem dX11_moved_52 : decode cX11_moved 52 = .ok (.iadd, 1) := by decide +kernel
theorem dX11_moved_53 : decode cX11_moved 53 = .ok (.i2l, 1) := by decide +kernel
theorem dX11_moved_54 : decode cX11_moved 54 = .ok (.lmul, 1) := by decide +kernel
theorem dX11_moved_55 : decode cX11_moved 55 = .ok (.ladd, 1) := by decide +kernel
theorem dX11_moved_56 : decode cX11_moved 56 = .ok (.lreturn, 1) := by decide +kernel
theorem dX11_swapped_0 : decode cX11_swapped 0 = .ok (.aload_n 0, 1) := by decide +kernel
theorem dX11_swapped_1 : decode cX11_swapped 1 = .ok (.iload_n 1, 1) := by decide +kernel
theorem dX11_swapped_2 : decode cX11_swapped 2 = .ok (.aload_n 0, 1) := by decide +kernel
theorem dX11_swapped_3 : decode cX11_swapped 3 = .ok (.getfield 40, 3) := by decide +kernel
theorem dX11_swapped_6 : decode cX11_swapped 6 = .ok (.iload_n 2, 1) := by decide +kernel
theorem dX11_swapped_7 : decode cX11_swapped 7 = .ok (.iaload, 1) := by decide +kernel
theorem dX11_swapped_8 : decode cX11_swapped 8 = .ok (.iload_n 2, 1) := by decide +kernel
theorem dX11_swapped_9 : decode cX11_swapped 9 = .ok (.invokevirtual 130, 3) := by decide +kernel
theorem dX11_swapped_12 : decode cX11_swapped 12 = .ok (.aload_n 0, 1) := by decide +kernel
theorem dX11_swapped_13 : decode cX11_swapped 13 = .ok (.iload_n 1, 1) := by decide +kernel
theorem dX11_swapped_14 : decode cX11_swapped 14 = .ok (.aload_n 0, 1) := by decide +kernel
theorem dX11_swapped_15 : decode cX11_swapped 15 = .ok (.getfield 40, 3) := by decide +kernel
theorem dX11_swapped_18 : decode cX11_swapped 18 = .ok (.iload_n 1, 1) := by decide +kernel
theorem dX11_swapped_19 : decode cX11_swapped 19 = .ok (.iaload, 1) := by decide +kernel
theorem dX11_swapped_20 : decode cX11_swapped 20 = .ok (.iload_n 2, 1) := by decide +kernel
theorem dX11_swapped_21 : decode cX11_swapped 21 = .ok (.invokevirtual 130, 3) := by decide +kernel
theorem dX11_swapped_24 : decode cX11_swapped 24 = .ok (.lsub, 1) := by decide +kernel
theorem dX11_swapped_25 : decode cX11_swapped 25 = .ok (.aload_n 0, 1) := by decide +kernel
theorem dX11_swapped_26 : decode cX11_swapped 26 = .ok (.iload_n 2, 1) := by decide +kernel
theorem dX11_swapped_27 : decode cX11_swapped 27 = .ok (.aload_n 0, 1) := by decide +kernel
theorem dX11_swapped_28 : decode cX11_swapped 28 = .ok (.getfield 40, 3) := by decide +kernel
theorem dX11_swapped_31 : decode cX11_swapped 31 = .ok (.iload_n 1, 1) := by decide +kernel
theorem dX11_swapped_32 : decode cX11_swapped 32 = .ok (.iaload, 1) := by decide +kernel
theorem dX11_swapped_33 : decode cX11_swapped 33 = .ok (.iload_n 1, 1) := by decide +kernel
theorem dX11_swapped_34 : decode cX11_swapped 34 = .ok (.invokevirtual 130, 3) := by decide +kernel
theorem dX11_swapped_37 : decode cX11_swapped 37 = .ok (.ladd, 1) := by decide +kernel
theorem dX11_swapped_38 : decode cX11_swapped 38 = .ok (.aload_n 0, 1) := by decide +kernel
theorem dX11_swapped_39 : decode cX11_swapped 39 = .ok (.iload_n 2, 1) := by decide +kernel
theorem dX11_swapped_40 : decode cX11_swapped 40 = .ok (.aload_n 0, 1) := by decide +kernel
theorem dX11_swapped_41 : decode cX11_swapped 41 = .ok (.getfield 40, 3) := by decide +kernel
theorem dX11_swapped_44 : decode cX11_swapped 44 = .ok (.iload_n 2, 1) := by decide +kernel
theorem dX11_swapped_45 : decode cX11_swapped 45 = .ok (.iaload, 1) := by decide +kernel
theorem dX11_swapped_46 : decode cX11_swapped 46 = .ok (.iload_n 1, 1) := by decide +kernel
theorem dX11_swapped_47 : decode cX11_swapped 47 = .ok (.invokevirtual 130, 3) := by decide +kernel
theorem dX11_swapped_50 : decode cX11_swapped 50 = .ok (.lsub, 1) := by decide +kernel
theorem dX11_swapped_51 : decode cX11_swapped 51 = .ok (.lreturn, 1) := by decide +kernel
theorem dX11_isBetter_0 : decode cX11_isBetter 0 = .ok (.lconst 0, 1) := by decide +kernel
theorem dX11_isBetter_1 : decode cX11_isBetter 1 = .ok (.lstore_n 1, 1) := by decide +kernel
theorem dX11_isBetter_2 : decode cX11_isBetter 2 = .ok (.iconst (-1), 1) := by decide +kernel
theorem dX11_isBetter_3 : decode cX11_isBetter 3 = .ok (.istore_n 3, 1) := by decide +kernel
theorem dX11_isBetter_4 : decode cX11_isBetter 4 = .ok (.iconst (-1), 1) := by decide +kernel
theorem dX11_isBetter_5 : decode cX11_isBetter 5 = .ok (.istore 4, 2) := by decide +kernel
theorem dX11_isBetter_7 : decode cX11_isBetter 7 = .ok (.iconst (-1), 1) := by decide +kernel
theorem dX11_isBetter_8 : decode cX11_isBetter 8 = .ok (.istore 5, 2) := by decide +kernel
theorem dX11_isBetter_10 : decode cX11_isBetter 10 = .ok (.iconst 0, 1) := by decide +kernel
theorem dX11_isBetter_11 : decode cX11_isBetter 11 = .ok (.istore 6, 2) := by decide +kernel
theorem dX11_isBetter_13 : decode cX11_isBetter 13 = .ok (.iload 6, 2) := by decide +kernel
theorem dX11_isBetter_15 : decode cX11_isBetter 15 = .ok (.aload_n 0, 1) := by decide +kernel
theorem dX11_isBetter_16 : decode cX11_isBetter 16 = .ok (.getfield 83, 3) := by decide +kernel
theorem dX11_isBetter_19 : decode cX11_isBetter 19 = .ok (.if_icmp .ge 82, 3) := by decide +kernel
theorem dX11_isBetter_22 : decode cX11_isBetter 22 = .ok (.iconst 0, 1) := by decide +kernel
theorem dX11_isBetter_23 : decode cX11_isBetter 23 = .ok (.istore 7, 2) := by decide +kernel
theorem dX11_isBetter_25 : decode cX11_isBetter 25 = .ok (.iload 7, 2) := by decide +kernel
theorem dX11_isBetter_27 : decode cX11_isBetter 27 = .ok (.aload_n 0, 1) := by decide +kernel
theorem dX11_isBetter_28 : decode cX11_isBetter 28 = .ok (.getfield 33, 3) := by decide +kernel
theorem dX11_isBetter_31 : decode cX11_isBetter 31 = .ok (.if_icmp .ge 64, 3) := by decide +kernel
theorem dX11_isBetter_34 : decode cX11_isBetter 34 = .ok (.aload_n 0, 1) := by decide +kernel
theorem dX11_isBetter_35 : decode cX11_isBetter 35 = .ok (.getfield 36, 3) := by decide +kernel
theorem dX11_isBetter_38 : decode cX11_isBetter 38 = .ok (.iload 6, 2) := by decide +kernel
theorem dX11_isBetter_40 : decode cX11_isBetter 40 = .ok (.baload, 1) := by decide +kernel
theorem dX11_isBetter_41 : decode cX11_isBetter 41 = .ok (.ifCond .ne 54, 3) := by decide +kernel
theorem dX11_isBetter_44 : decode cX11_isBetter 44 = .ok (.iload 7, 2) := by decide +kernel
theorem dX11_isBetter_46 : decode cX11_isBetter 46 = .ok (.aload_n 0, 1) := by decide +kernel
theorem dX11_isBetter_47 : decode cX11_isBetter 47 = .ok (.getfield 40, 3) := by decide +kernel
theorem dX11_isBetter_50 : decode cX11_isBetter 50 = .ok (.iload 6, 2) := by decide +kernel
theorem dX11_isBetter_52 : decode cX11_isBetter 52 = .ok (.iaload, 1) := by decide +kernel
theorem dX11_isBetter_53 : decode cX11_isBetter 53 = .ok (.if_icmp .ne 6, 3) := by decide +kernel
theorem dX11_isBetter_56 : decode cX11_isBetter 56 = .ok (.goto 33, 3) := by decide +kernel
theorem dX11_isBetter_59 : decode cX11_isBetter 59 = .ok (.aload_n 0, 1) := by decide +kernel
theorem dX11_isBetter_60 : decode cX11_isBetter 60 = .ok (.iload 6, 2) := by decide +kernel
theorem dX11_isBetter_62 : decode cX11_isBetter 62 = .ok (.iload 7, 2) := by decide +kernel
theorem dX11_isBetter_64 : decode cX11_isBetter 64 = .ok (.invokevirtual 134, 3) := by decide +kernel
theorem dX11_isBetter_67 : decode cX11_isBetter 67 = .ok (.lstore 8, 2) := by decide +kernel
theorem dX11_isBetter_69 : decode cX11_isBetter 69 = .ok (.lload 8, 2) := by decide +kernel
theorem dX11_isBetter_71 : decode cX11_isBetter 71 = .ok (.lload_n 1, 1) := by decide +kernel
theorem dX11_isBetter_72 : decode cX11_isBetter 72 = .ok (.lcmp, 1) := by decide +kernel
theorem dX11_isBetter_73 : decode cX11_isBetter 73 = .ok (.ifCond .lt 6, 3) := by decide +kernel
theorem dX11_isBetter_76 : decode cX11_isBetter 76 = .ok (.goto 13, 3) := by decide +kernel
theorem dX11_isBetter_79 : decode cX11_isBetter 79 = .ok (.lload 8, 2) := by decide +kernel
theorem dX11_isBetter_81 : decode cX11_isBetter 81 = .ok (.lstore_n 1, 1) := by decide +kernel
theorem dX11_isBetter_82 : decode cX11_isBetter 82 = .ok (.iload 6, 2) := by decide +kernel
theorem dX11_isBetter_84 : decode cX11_isBetter 84 = .ok (.istore_n 3, 1) := by decide +kernel
theorem dX11_isBetter_85 : decode cX11_isBetter 85 = .ok (.iload 7, 2) := by decide +kernel
theorem dX11_isBetter_87 : decode cX11_isBetter 87 = .ok (.istore 5, 2) := by decide +kernel
theorem dX11_isBetter_89 : decode cX11_isBetter 89 = .ok (.iinc 7 1, 3) := by decide +kernel
theorem dX11_isBetter_92 : decode cX11_isBetter 92 = .ok (.goto (-67), 3) := by decide +kernel
theorem dX11_isBetter_95 : decode cX11_isBetter 95 = .ok (.iinc 6 1, 3) := by decide +kernel
theorem dX11_isBetter_98 : decode cX11_isBetter 98 = .ok (.goto (-85), 3) := by decide +kernel
theorem dX11_isBetter_101 : decode cX11_isBetter 101 = .ok (.iconst 0, 1) := by decide +kernel
theorem dX11_isBetter_102 : decode cX11_isBetter 102 = .ok (.istore 6, 2) := by decide +kernel
theorem dX11_isBetter_104 : decode cX11_isBetter 104 = .ok (.iload 6, 2) := by decide +kernel
theorem dX11_isBetter_106 : decode cX11_isBetter 106 = .ok (.aload_n 0, 1) := by decide +kernel
theorem dX11_isBetter_107 : decode cX11_isBetter 107 = .ok (.getfield 83, 3) := by decide +kernel
theorem dX11_isBetter_110 : decode cX11_isBetter 110 = .ok (.if_icmp .ge 100, 3) := by decide +kernel
theorem dX11_isBetter_113 : decode cX11_isBetter 113 = .ok (.iload 6, 2) := by decide +kernel
theorem dX11_isBetter_115 : decode cX11_isBetter 115 = .ok (.iconst 1, 1) := by decide +kernel
theorem dX11_isBetter_116 : decode cX11_isBetter 116 = .ok (.iadd, 1) := by decide +kernel
theorem dX11_isBetter_117 : decode cX11_isBetter 117 = .ok (.istore 7, 2) := by decide +kernel
theorem dX11_isBetter_119 : decode cX11_isBetter 119 = .ok (.iload 7, 2) := by decide +kernel
theorem dX11_isBetter_121 : decode cX11_isBetter 121 = .ok (.aload_n 0, 1) := by decide +kernel
theorem dX11_isBetter_122 : decode cX11_isBetter 122 = .ok (.getfield 83, 3) := by decide +kernel
theorem dX11_isBetter_125 : decode cX11_isBetter 125 = .ok (.if_icmp .ge 79, 3) := by decide +kernel
theorem dX11_isBetter_128 : decode cX11_isBetter 128 = .ok (.aload_n 0, 1) := by decide +kernel
theorem dX11_isBetter_129 : decode cX11_isBetter 129 = .ok (.getfield 36, 3) := by decide +kernel
theorem dX11_isBetter_132 : decode cX11_isBetter 132 = .ok (.iload 6, 2) := by decide +kernel
theorem dX11_isBetter_134 : decode cX11_isBetter 134 = .ok (.baload, 1) := by decide +kernel
theorem dX11_isBetter_135 : decode cX11_isBetter 135 = .ok (.ifCond .ne 69, 3) := by decide +kernel
theorem dX11_isBetter_138 : decode cX11_isBetter 138 = .ok (.aload_n 0, 1) := by decide +kernel
theorem dX11_isBetter_139 : decode cX11_isBetter 139 = .ok (.getfield 36, 3) := by decide +kernel
theorem dX11_isBetter_142 : decode cX11_isBetter 142 = .ok (.iload 7, 2) := by decide +kernel
theorem dX11_isBetter_144 : decode cX11_isBetter 144 = .ok (.baload, 1) := by decide +kernel
theorem dX11_isBetter_145 : decode cX11_isBetter 145 = .ok (.ifCond .ne 53, 3) := by decide +kernel
theorem dX11_isBetter_148 : decode cX11_isBetter 148 = .ok (.aload_n 0, 1) := by decide +kernel
theorem dX11_isBetter_149 : decode cX11_isBetter 149 = .ok (.getfield 40, 3) := by decide +kernel
theorem dX11_isBetter_152 : decode cX11_isBetter 152 = .ok (.iload 6, 2) := by decide +kernel
theorem dX11_isBetter_154 : decode cX11_isBetter 154 = .ok (.iaload, 1) := by decide +kernel
theorem dX11_isBetter_155 : decode cX11_isBetter 155 = .ok (.aload_n 0, 1) := by decide +kernel
theorem dX11_isBetter_156 : decode cX11_isBetter 156 = .ok (.getfield 40, 3) := by decide +kernel
theorem dX11_isBetter_159 : decode cX11_isBetter 159 = .ok (.iload 7, 2) := by decide +kernel
theorem dX11_isBetter_161 : decode cX11_isBetter 161 = .ok (.iaload, 1) := by decide +kernel
theorem dX11_isBetter_162 : decode cX11_isBetter 162 = .ok (.if_icmp .ne 6, 3) := by decide +kernel
theorem dX11_isBetter_165 : decode cX11_isBetter 165 = .ok (.goto 33, 3) := by decide +kernel
theorem dX11_isBetter_168 : decode cX11_isBetter 168 = .ok (.aload_n 0, 1) := by decide +kernel
theorem dX11_isBetter_169 : decode cX11_isBetter 169 = .ok (.iload 6, 2) := by decide +kernel
theorem dX11_isBetter_171 : decode cX11_isBetter 171 = .ok (.iload 7, 2) := by decide +kernel
theorem dX11_isBetter_173 : decode cX11_isBetter 173 = .ok (.invokevirtual 138, 3) := by decide +kernel
theorem dX11_isBetter_176 : decode cX11_isBetter 176 = .ok (.lstore 8, 2) := by decide +kernel
theorem dX11_isBetter_178 : decode cX11_isBetter 178 = .ok (.lload 8, 2) := by decide +kernel
theorem dX11_isBetter_180 : decode cX11_isBetter 180 = .ok (.lload_n 1, 1) := by decide +kernel
theorem dX11_isBetter_181 : decode cX11_isBetter 181 = .ok (.lcmp, 1) := by decide +kernel
theorem dX11_isBetter_182 : decode cX11_isBetter 182 = .ok (.ifCond .lt 6, 3) := by decide +kernel
theorem dX11_isBetter_185 : decode cX11_isBetter 185 = .ok (.goto 13, 3) := by decide +kernel
theorem dX11_isBetter_188 : decode cX11_isBetter 188 = .ok (.lload 8, 2) := by decide +kernel
theorem dX11_isBetter_190 : decode cX11_isBetter 190 = .ok (.lstore_n 1, 1) := by decide +kernel
theorem dX11_isBetter_191 : decode cX11_isBetter 191 = .ok (.iload 6, 2) := by decide +kernel
theorem dX11_isBetter_193 : decode cX11_isBetter 193 = .ok (.istore_n 3, 1) := by decide +kernel
theorem dX11_isBetter_194 : decode cX11_isBetter 194 = .ok (.iload 7, 2) := by decide +kernel
theorem dX11_isBetter_196 : decode cX11_isBetter 196 = .ok (.istore 4, 2) := by decide +kernel
theorem dX11_isBetter_198 : decode cX11_isBetter 198 = .ok (.iinc 7 1, 3) := by decide +kernel
theorem dX11_isBetter_201 : decode cX11_isBetter 201 = .ok (.goto (-82), 3) := by decide +kernel
theorem dX11_isBetter_204 : decode cX11_isBetter 204 = .ok (.iinc 6 1, 3) := by decide +kernel
theorem dX11_isBetter_207 : decode cX11_isBetter 207 = .ok (.goto (-103), 3) := by decide +kernel
theorem dX11_isBetter_210 : decode cX11_isBetter 210 = .ok (.iload_n 3, 1) := by decide +kernel
theorem dX11_isBetter_211 : decode cX11_isBetter 211 = .ok (.ifCond .ge 5, 3) := by decide +kernel
theorem dX11_isBetter_214 : decode cX11_isBetter 214 = .ok (.iconst 0, 1) := by decide +kernel
theorem dX11_isBetter_215 : decode cX11_isBetter 215 = .ok (.ireturn, 1) := by decide +kernel
theorem dX11_isBetter_216 : decode cX11_isBetter 216 = .ok (.iload 4, 2) := by decide +kernel
theorem dX11_isBetter_218 : decode cX11_isBetter 218 = .ok (.ifCond .ge 13, 3) := by decide +kernel
theorem dX11_isBetter_221 : decode cX11_isBetter 221 = .ok (.aload_n 0, 1) := by decide +kernel
theorem dX11_isBetter_222 : decode cX11_isBetter 222 = .ok (.getfield 40, 3) := by decide +kernel
theorem dX11_isBetter_225 : decode cX11_isBetter 225 = .ok (.iload_n 3, 1) := by decide +kernel
theorem dX11_isBetter_226 : decode cX11_isBetter 226 = .ok (.iload 5, 2) := by decide +kernel
theorem dX11_isBetter_228 : decode cX11_isBetter 228 = .ok (.iastore, 1) := by decide +kernel
theorem dX11_isBetter_229 : decode cX11_isBetter 229 = .ok (.iconst 1, 1) := by decide +kernel
theorem dX11_isBetter_230 : decode cX11_isBetter 230 = .ok (.ireturn, 1) := by decide +kernel
theorem dX11_isBetter_231 : decode cX11_isBetter 231 = .ok (.aload_n 0, 1) := by decide +kernel
theorem dX11_isBetter_232 : decode cX11_isBetter 232 = .ok (.getfield 40, 3) := by decide +kernel
theorem dX11_isBetter_235 : decode cX11_isBetter 235 = .ok (.iload_n 3, 1) := by decide +kernel
theorem dX11_isBetter_236 : decode cX11_isBetter 236 = .ok (.iaload, 1) := by decide +kernel
theorem dX11_isBetter_237 : decode cX11_isBetter 237 = .ok (.istore 6, 2) := by decide +kernel
theorem dX11_isBetter_239 : decode cX11_isBetter 239 = .ok (.aload_n 0, 1) := by decide +kernel
theorem dX11_isBetter_240 : decode cX11_isBetter 240 = .ok (.getfield 40, 3) := by decide +kernel
theorem dX11_isBetter_243 : decode cX11_isBetter 243 = .ok (.iload_n 3, 1) := by decide +kernel
theorem dX11_isBetter_244 : decode cX11_isBetter 244 = .ok (.aload_n 0, 1) := by decide +kernel
theorem dX11_isBetter_245 : decode cX11_isBetter 245 = .ok (.getfield 40, 3) := by decide +kernel
theorem dX11_isBetter_248 : decode cX11_isBetter 248 = .ok (.iload 4, 2) := by decide +kernel
theorem dX11_isBetter_250 : decode cX11_isBetter 250 = .ok (.iaload, 1) := by decide +kernel
theorem dX11_isBetter_251 : decode cX11_isBetter 251 = .ok (.iastore, 1) := by decide +kernel
theorem dX11_isBetter_252 : decode cX11_isBetter 252 = .ok (.aload_n 0, 1) := by decide +kernel
theorem dX11_isBetter_253 : decode cX11_isBetter 253 = .ok (.getfield 40, 3) := by decide +kernel
theorem dX11_isBetter_256 : decode cX11_isBetter 256 = .ok (.iload 4, 2) := by decide +kernel
theorem dX11_isBetter_258 : decode cX11_isBetter 258 = .ok (.iload 6, 2) := by decide +kernel
theorem dX11_isBetter_260 : decode cX11_isBetter 260 = .ok (.iastore, 1) := by decide +kernel
theorem dX11_isBetter_261 : decode cX11_isBetter 261 = .ok (.iconst 1, 1) := by decide +kernel
theorem dX11_isBetter_262 : decode cX11_isBetter 262 = .ok (.ireturn, 1) := by decide +kernel
theorem dX11_better_0 : decode cX11_better 0 = .ok (.aload_n 0, 1) := by decide +kernel
theorem dX11_better_1 : decode cX11_better 1 = .ok (.iconst 0, 1) := by decide +kernel
theorem dX11_better_2 : decode cX11_better 2 = .ok (.putfield 73, 3) := by decide +kernel
theorem dX11_better_5 : decode cX11_better 5 = .ok (.iconst 0, 1) := by decide +kernel
theorem dX11_better_6 : decode cX11_better 6 = .ok (.istore_n 1, 1) := by decide +kernel
theorem dX11_better_7 : decode cX11_better 7 = .ok (.iload_n 1, 1) := by decide +kernel
theorem dX11_better_8 : decode cX11_better 8 = .ok (.bipush 100, 2) := by decide +kernel
theorem dX11_better_10 : decode cX11_better 10 = .ok (.if_icmp .ge 16, 3) := by decide +kernel
theorem dX11_better_13 : decode cX11_better 13 = .ok (.aload_n 0, 1) := by decide +kernel
theorem dX11_better_14 : decode cX11_better 14 = .ok (.invokevirtual 141, 3) := by decide +kernel
theorem dX11_better_17 : decode cX11_better 17 = .ok (.ifCond .eq 9, 3) := by decide +kernel
theorem dX11_better_20 : decode cX11_better 20 = .ok (.iinc 1 1, 3) := by decide +kernel
theorem dX11_better_23 : decode cX11_better 23 = .ok (.goto (-16), 3) := by decide +kernel
theorem dX11_better_26 : decode cX11_better 26 = .ok (.iload_n 1, 1) := by decide +kernel
theorem dX11_better_27 : decode cX11_better 27 = .ok (.ireturn, 1) := by decide +kernel
theorem dX11_best_0 : decode cX11_best 0 = .ok (.aload_n 0, 1) := by decide +kernel
theorem dX11_best_1 : decode cX11_best 1 = .ok (.iconst 0, 1) := by decide +kernel
theorem dX11_best_2 : decode cX11_best 2 = .ok (.putfield 73, 3) := by decide +kernel
theorem dX11_best_5 : decode cX11_best 5 = .ok (.iconst 0, 1) := by decide +kernel
theorem dX11_best_6 : decode cX11_best 6 = .ok (.istore_n 1, 1) := by decide +kernel
theorem dX11_best_7 : decode cX11_best 7 = .ok (.iconst 0, 1) := by decide +kernel
theorem dX11_best_8 : decode cX11_best 8 = .ok (.istore_n 2, 1) := by decide +kernel
theorem dX11_best_9 : decode cX11_best 9 = .ok (.iload_n 2, 1) := by decide +kernel
theorem dX11_best_10 : decode cX11_best 10 = .ok (.aload_n 0, 1) := by decide +kernel
theorem dX11_best_11 : decode cX11_best 11 = .ok (.getfield 83, 3) := by decide +kernel
theorem dX11_best_14 : decode cX11_best 14 = .ok (.if_icmp .ge 49, 3) := by decide +kernel
theorem dX11_best_17 : decode cX11_best 17 = .ok (.aload_n 0, 1) := by decide +kernel
theorem dX11_best_18 : decode cX11_best 18 = .ok (.getfield 36, 3) := by decide +kernel
theorem dX11_best_21 : decode cX11_best 21 = .ok (.iload_n 2, 1) := by decide +kernel
theorem dX11_best_22 : decode cX11_best 22 = .ok (.baload, 1) := by decide +kernel
theorem dX11_best_23 : decode cX11_best 23 = .ok (.ifCond .eq 6, 3) := by decide +kernel
theorem dX11_best_26 : decode cX11_best 26 = .ok (.goto 31, 3) := by decide +kernel
theorem dX11_best_29 : decode cX11_best 29 = .ok (.iload_n 1, 1) := by decide +kernel
theorem dX11_best_30 : decode cX11_best 30 = .ok (.bipush 9, 2) := by decide +kernel
theorem dX11_best_32 : decode cX11_best 32 = .ok (.if_icmp .eq 11, 3) := by decide +kernel
theorem dX11_best_35 : decode cX11_best 35 = .ok (.aload_n 0, 1) := by decide +kernel
theorem dX11_best_36 : decode cX11_best 36 = .ok (.getfield 33, 3) := by decide +kernel
theorem dX11_best_39 : decode cX11_best 39 = .ok (.iconst 3, 1) := by decide +kernel
theorem dX11_best_40 : decode cX11_best 40 = .ok (.if_icmp .le 7, 3) := by decide +kernel
theorem dX11_best_43 : decode cX11_best 43 = .ok (.ldc2_w 145, 3) := by decide +kernel
theorem dX11_best_46 : decode cX11_best 46 = .ok (.lreturn, 1) := by decide +kernel
theorem dX11_best_47 : decode cX11_best 47 = .ok (.aload_n 0, 1) := by decide +kernel
theorem dX11_best_48 : decode cX11_best 48 = .ok (.getfield 49, 3) := by decide +kernel
theorem dX11_best_51 : decode cX11_best 51 = .ok (.iload_n 1, 1) := by decide +kernel
theorem dX11_best_52 : decode cX11_best 52 = .ok (.iload_n 2, 1) := by decide +kernel
theorem dX11_best_53 : decode cX11_best 53 = .ok (.iastore, 1) := by decide +kernel
theorem dX11_best_54 : decode cX11_best 54 = .ok (.iinc 1 1, 3) := by decide +kernel
theorem dX11_best_57 : decode cX11_best 57 = .ok (.iinc 2 1, 3) := by decide +kernel
theorem dX11_best_60 : decode cX11_best 60 = .ok (.goto (-51), 3) := by decide +kernel
theorem dX11_best_63 : decode cX11_best 63 = .ok (.aload_n 0, 1) := by decide +kernel
theorem dX11_best_64 : decode cX11_best 64 = .ok (.getfield 33, 3) := by decide +kernel
theorem dX11_best_67 : decode cX11_best 67 = .ok (.iconst 3, 1) := by decide +kernel
theorem dX11_best_68 : decode cX11_best 68 = .ok (.if_icmp .le 7, 3) := by decide +kernel
theorem dX11_best_71 : decode cX11_best 71 = .ok (.ldc2_w 145, 3) := by decide +kernel
theorem dX11_best_74 : decode cX11_best 74 = .ok (.lreturn, 1) := by decide +kernel
theorem dX11_best_75 : decode cX11_best 75 = .ok (.iconst 0, 1) := by decide +kernel
theorem dX11_best_76 : decode cX11_best 76 = .ok (.istore_n 2, 1) := by decide +kernel
theorem dX11_best_77 : decode cX11_best 77 = .ok (.iload_n 2, 1) := by decide +kernel
theorem dX11_best_78 : decode cX11_best 78 = .ok (.iload_n 1, 1) := by decide +kernel
theorem dX11_best_79 : decode cX11_best 79 = .ok (.if_icmp .ge 21, 3) := by decide +kernel
theorem dX11_best_82 : decode cX11_best 82 = .ok (.aload_n 0, 1) := by decide +kernel
theorem dX11_best_83 : decode cX11_best 83 = .ok (.getfield 40, 3) := by decide +kernel
theorem dX11_best_86 : decode cX11_best 86 = .ok (.aload_n 0, 1) := by decide +kernel
theorem dX11_best_87 : decode cX11_best 87 = .ok (.getfield 49, 3) := by decide +kernel
theorem dX11_best_90 : decode cX11_best 90 = .ok (.iload_n 2, 1) := by decide +kernel
theorem dX11_best_91 : decode cX11_best 91 = .ok (.iaload, 1) := by decide +kernel
theorem dX11_best_92 : decode cX11_best 92 = .ok (.iconst 0, 1) := by decide +kernel
theorem dX11_best_93 : decode cX11_best 93 = .ok (.iastore, 1) := by decide +kernel
theorem dX11_best_94 : decode cX11_best 94 = .ok (.iinc 2 1, 3) := by decide +kernel
theorem dX11_best_97 : decode cX11_best 97 = .ok (.goto (-20), 3) := by decide +kernel
theorem dX11_best_100 : decode cX11_best 100 = .ok (.ldc2_w 145, 3) := by decide +kernel
theorem dX11_best_103 : decode cX11_best 103 = .ok (.lstore_n 2, 1) := by decide +kernel
theorem dX11_best_104 : decode cX11_best 104 = .ok (.iconst 1, 1) := by decide +kernel
theorem dX11_best_105 : decode cX11_best 105 = .ok (.istore 4, 2) := by decide +kernel
theorem dX11_best_107 : decode cX11_best 107 = .ok (.iload 4, 2) := by decide +kernel
theorem dX11_best_109 : decode cX11_best 109 = .ok (.ifCond .eq 145, 3) := by decide +kernel
theorem dX11_best_112 : decode cX11_best 112 = .ok (.aload_n 0, 1) := by decide +kernel
theorem dX11_best_113 : decode cX11_best 113 = .ok (.invokevirtual 126, 3) := by decide +kernel
theorem dX11_best_116 : decode cX11_best 116 = .ok (.lstore 5, 2) := by decide +kernel
theorem dX11_best_118 : decode cX11_best 118 = .ok (.lload_n 2, 1) := by decide +kernel
theorem dX11_best_119 : decode cX11_best 119 = .ok (.lconst 0, 1) := by decide +kernel
theorem dX11_best_120 : decode cX11_best 120 = .ok (.lcmp, 1) := by decide +kernel
theorem dX11_best_121 : decode cX11_best 121 = .ok (.ifCond .lt 10, 3) := by decide +kernel
theorem dX11_best_124 : decode cX11_best 124 = .ok (.lload 5, 2) := by decide +kernel
theorem dX11_best_126 : decode cX11_best 126 = .ok (.lload_n 2, 1) := by decide +kernel
theorem dX11_best_127 : decode cX11_best 127 = .ok (.lcmp, 1) := by decide +kernel
theorem dX11_best_128 : decode cX11_best 128 = .ok (.ifCond .ge 40, 3) := by decide +kernel
theorem dX11_best_131 : decode cX11_best 131 = .ok (.lload 5, 2) := by decide +kernel
theorem dX11_best_133 : decode cX11_best 133 = .ok (.lstore_n 2, 1) := by decide +kernel
theorem dX11_best_134 : decode cX11_best 134 = .ok (.iconst 0, 1) := by decide +kernel
theorem dX11_best_135 : decode cX11_best 135 = .ok (.istore 7, 2) := by decide +kernel
theorem dX11_best_137 : decode cX11_best 137 = .ok (.iload 7, 2) := by decide +kernel
theorem dX11_best_139 : decode cX11_best 139 = .ok (.iload_n 1, 1) := by decide +kernel
theorem dX11_best_140 : decode cX11_best 140 = .ok (.if_icmp .ge 28, 3) := by decide +kernel
theorem dX11_best_143 : decode cX11_best 143 = .ok (.aload_n 0, 1) := by decide +kernel
theorem dX11_best_144 : decode cX11_best 144 = .ok (.getfield 52, 3) := by decide +kernel
theorem dX11_best_147 : decode cX11_best 147 = .ok (.iload 7, 2) := by decide +kernel
theorem dX11_best_149 : decode cX11_best 149 = .ok (.aload_n 0, 1) := by decide +kernel
theorem dX11_best_150 : decode cX11_best 150 = .ok (.getfield 40, 3) := by decide +kernel
theorem dX11_best_153 : decode cX11_best 153 = .ok (.aload_n 0, 1) := by decide +kernel
theorem dX11_best_154 : decode cX11_best 154 = .ok (.getfield 49, 3) := by decide +kernel
theorem dX11_best_157 : decode cX11_best 157 = .ok (.iload 7, 2) := by decide +kernel
theorem dX11_best_159 : decode cX11_best 159 = .ok (.iaload, 1) := by decide +kernel
theorem dX11_best_160 : decode cX11_best 160 = .ok (.iaload, 1) := by decide +kernel
theorem dX11_best_161 : decode cX11_best 161 = .ok (.iastore, 1) := by decide +kernel
theorem dX11_best_162 : decode cX11_best 162 = .ok (.iinc 7 1, 3) := by decide +kernel
theorem dX11_best_165 : decode cX11_best 165 = .ok (.goto (-28), 3) := by decide +kernel
theorem dX11_best_168 : decode cX11_best 168 = .ok (.iload_n 1, 1) := by decide +kernel
theorem dX11_best_169 : decode cX11_best 169 = .ok (.iconst 1, 1) := by decide +kernel
theorem dX11_best_170 : decode cX11_best 170 = .ok (.isub, 1) := by decide +kernel
theorem dX11_best_171 : decode cX11_best 171 = .ok (.istore 7, 2) := by decide +kernel
theorem dX11_best_173 : decode cX11_best 173 = .ok (.iload 7, 2) := by decide +kernel
theorem dX11_best_175 : decode cX11_best 175 = .ok (.ifCond .lt 43, 3) := by decide +kernel
theorem dX11_best_178 : decode cX11_best 178 = .ok (.aload_n 0, 1) := by decide +kernel
theorem dX11_best_179 : decode cX11_best 179 = .ok (.getfield 40, 3) := by decide +kernel
theorem dX11_best_182 : decode cX11_best 182 = .ok (.aload_n 0, 1) := by decide +kernel
theorem dX11_best_183 : decode cX11_best 183 = .ok (.getfield 49, 3) := by decide +kernel
theorem dX11_best_186 : decode cX11_best 186 = .ok (.iload 7, 2) := by decide +kernel
theorem dX11_best_188 : decode cX11_best 188 = .ok (.iaload, 1) := by decide +kernel
theorem dX11_best_189 : decode cX11_best 189 = .ok (.iaload, 1) := by decide +kernel
theorem dX11_best_190 : decode cX11_best 190 = .ok (.aload_n 0, 1) := by decide +kernel
theorem dX11_best_191 : decode cX11_best 191 = .ok (.getfield 33, 3) := by decide +kernel
theorem dX11_best_194 : decode cX11_best 194 = .ok (.iconst 1, 1) := by decide +kernel
theorem dX11_best_195 : decode cX11_best 195 = .ok (.isub, 1) := by decide +kernel
theorem dX11_best_196 : decode cX11_best 196 = .ok (.if_icmp .ne 22, 3) := by decide +kernel
theorem dX11_best_199 : decode cX11_best 199 = .ok (.aload_n 0, 1) := by decide +kernel
theorem dX11_best_200 : decode cX11_best 200 = .ok (.getfield 40, 3) := by decide +kernel
theorem dX11_best_203 : decode cX11_best 203 = .ok (.aload_n 0, 1) := by decide +kernel
theorem dX11_best_204 : decode cX11_best 204 = .ok (.getfield 49, 3) := by decide +kernel
theorem dX11_best_207 : decode cX11_best 207 = .ok (.iload 7, 2) := by decide +kernel
theorem dX11_best_209 : decode cX11_best 209 = .ok (.iaload, 1) := by decide +kernel
theorem dX11_best_210 : decode cX11_best 210 = .ok (.iconst 0, 1) := by decide +kernel
theorem dX11_best_211 : decode cX11_best 211 = .ok (.iastore, 1) := by decide +kernel
theorem dX11_best_212 : decode cX11_best 212 = .ok (.iinc 7 (-1), 3) := by decide +kernel
theorem dX11_best_215 : decode cX11_best 215 = .ok (.goto (-42), 3) := by decide +kernel
theorem dX11_best_218 : decode cX11_best 218 = .ok (.iload 7, 2) := by decide +kernel
theorem dX11_best_220 : decode cX11_best 220 = .ok (.ifCond .lt 7, 3) := by decide +kernel
theorem dX11_best_223 : decode cX11_best 223 = .ok (.iconst 1, 1) := by decide +kernel
theorem dX11_best_224 : decode cX11_best 224 = .ok (.goto 4, 3) := by decide +kernel
theorem dX11_best_227 : decode cX11_best 227 = .ok (.iconst 0, 1) := by decide +kernel
theorem dX11_best_228 : decode cX11_best 228 = .ok (.istore 4, 2) := by decide +kernel
theorem dX11_best_230 : decode cX11_best 230 = .ok (.iload 4, 2) := by decide +kernel
theorem dX11_best_232 : decode cX11_best 232 = .ok (.ifCond .eq 19, 3) := by decide +kernel
theorem dX11_best_235 : decode cX11_best 235 = .ok (.aload_n 0, 1) := by decide +kernel
theorem dX11_best_236 : decode cX11_best 236 = .ok (.getfield 40, 3) := by decide +kernel
theorem dX11_best_239 : decode cX11_best 239 = .ok (.aload_n 0, 1) := by decide +kernel
theorem dX11_best_240 : decode cX11_best 240 = .ok (.getfield 49, 3) := by decide +kernel
theorem dX11_best_243 : decode cX11_best 243 = .ok (.iload 7, 2) := by decide +kernel
theorem dX11_best_245 : decode cX11_best 245 = .ok (.iaload, 1) := by decide +kernel
theorem dX11_best_246 : decode cX11_best 246 = .ok (.dup2, 1) := by decide +kernel
theorem dX11_best_247 : decode cX11_best 247 = .ok (.iaload, 1) := by decide +kernel
theorem dX11_best_248 : decode cX11_best 248 = .ok (.iconst 1, 1) := by decide +kernel
theorem dX11_best_249 : decode cX11_best 249 = .ok (.iadd, 1) := by decide +kernel
theorem dX11_best_250 : decode cX11_best 250 = .ok (.iastore, 1) := by decide +kernel
theorem dX11_best_251 : decode cX11_best 251 = .ok (.goto (-144), 3) := by decide +kernel
theorem dX11_best_254 : decode cX11_best 254 = .ok (.iconst 0, 1) := by decide +kernel
theorem dX11_best_255 : decode cX11_best 255 = .ok (.istore 5, 2) := by decide +kernel
theorem dX11_best_257 : decode cX11_best 257 = .ok (.iload 5, 2) := by decide +kernel
theorem dX11_best_259 : decode cX11_best 259 = .ok (.iload_n 1, 1) := by decide +kernel
theorem dX11_best_260 : decode cX11_best 260 = .ok (.if_icmp .ge 28, 3) := by decide +kernel
theorem dX11_best_263 : decode cX11_best 263 = .ok (.aload_n 0, 1) := by decide +kernel
theorem dX11_best_264 : decode cX11_best 264 = .ok (.getfield 40, 3) := by decide +kernel
theorem dX11_best_267 : decode cX11_best 267 = .ok (.aload_n 0, 1) := by decide +kernel
theorem dX11_best_268 : decode cX11_best 268 = .ok (.getfield 49, 3) := by decide +kernel
theorem dX11_best_271 : decode cX11_best 271 = .ok (.iload 5, 2) := by decide +kernel
theorem dX11_best_273 : decode cX11_best 273 = .ok (.iaload, 1) := by decide +kernel
theorem dX11_best_274 : decode cX11_best 274 = .ok (.aload_n 0, 1) := by decide +kernel
theorem dX11_best_275 : decode cX11_best 275 = .ok (.getfield 52, 3) := by decide +kernel
theorem dX11_best_278 : decode cX11_best 278 = .ok (.iload 5, 2) := by decide +kernel
theorem dX11_best_280 : decode cX11_best 280 = .ok (.iaload, 1) := by decide +kernel
theorem dX11_best_281 : decode cX11_best 281 = .ok (.iastore, 1) := by decide +kernel
theorem dX11_best_282 : decode cX11_best 282 = .ok (.iinc 5 1, 3) := by decide +kernel
theorem dX11_best_285 : decode cX11_best 285 = .ok (.goto (-28), 3) := by decide +kernel
theorem dX11_best_288 : decode cX11_best 288 = .ok (.lload_n 2, 1) := by decide +kernel
theorem dX11_best_289 : decode cX11_best 289 = .ok (.lreturn, 1) := by decide +kernel
theorem dX11_border_0 : decode cX11_border 0 = .ok (.aload_n 0, 1) := by decide +kernel
theorem dX11_border_1 : decode cX11_border 1 = .ok (.iconst 0, 1) := by decide +kernel
theorem dX11_border_2 : decode cX11_border 2 = .ok (.putfield 73, 3) := by decide +kernel
theorem dX11_border_5 : decode cX11_border 5 = .ok (.aload_n 0, 1) := by decide +kernel
theorem dX11_border_6 : decode cX11_border 6 = .ok (.aload_n 0, 1) := by decide +kernel
theorem dX11_border_7 : decode cX11_border 7 = .ok (.iload_n 1, 1) := by decide +kernel
theorem dX11_border_8 : decode cX11_border 8 = .ok (.invokevirtual 97, 3) := by decide +kernel
theorem dX11_border_11 : decode cX11_border 11 = .ok (.ifCond .ne 7, 3) := by decide +kernel
theorem dX11_border_14 : decode cX11_border 14 = .ok (.iconst 1, 1) := by decide +kernel
theorem dX11_border_15 : decode cX11_border 15 = .ok (.goto 4, 3) := by decide +kernel
theorem dX11_border_18 : decode cX11_border 18 = .ok (.iconst 0, 1) := by decide +kernel
theorem dX11_border_19 : decode cX11_border 19 = .ok (.iconst 1, 1) := by decide +kernel
theorem dX11_border_20 : decode cX11_border 20 = .ok (.invokevirtual 79, 3) := by decide +kernel
theorem dX11_border_23 : decode cX11_border 23 = .ok (.ifCond .eq 5, 3) := by decide +kernel
theorem dX11_border_26 : decode cX11_border 26 = .ok (.lconst 0, 1) := by decide +kernel
theorem dX11_border_27 : decode cX11_border 27 = .ok (.lreturn, 1) := by decide +kernel
theorem dX11_border_28 : decode cX11_border 28 = .ok (.aload_n 0, 1) := by decide +kernel
theorem dX11_border_29 : decode cX11_border 29 = .ok (.getfield 36, 3) := by decide +kernel
theorem dX11_border_32 : decode cX11_border 32 = .ok (.iload_n 1, 1) := by decide +kernel
theorem dX11_border_33 : decode cX11_border 33 = .ok (.baload, 1) := by decide +kernel
theorem dX11_border_34 : decode cX11_border 34 = .ok (.ifCond .ne 11, 3) := by decide +kernel
theorem dX11_border_37 : decode cX11_border 37 = .ok (.aload_n 0, 1) := by decide +kernel
theorem dX11_border_38 : decode cX11_border 38 = .ok (.getfield 33, 3) := by decide +kernel
theorem dX11_border_41 : decode cX11_border 41 = .ok (.iconst 1, 1) := by decide +kernel
theorem dX11_border_42 : decode cX11_border 42 = .ok (.if_icmp .ne 7, 3) := by decide +kernel
theorem dX11_border_45 : decode cX11_border 45 = .ok (.ldc2_w 147, 3) := by decide +kernel
theorem dX11_border_48 : decode cX11_border 48 = .ok (.lreturn, 1) := by decide +kernel
theorem dX11_border_49 : decode cX11_border 49 = .ok (.iconst 0, 1) := by decide +kernel
theorem dX11_border_50 : decode cX11_border 50 = .ok (.istore_n 2, 1) := by decide +kernel
theorem dX11_border_51 : decode cX11_border 51 = .ok (.lconst 0, 1) := by decide +kernel
theorem dX11_border_52 : decode cX11_border 52 = .ok (.lstore_n 3, 1) := by decide +kernel
theorem dX11_border_53 : decode cX11_border 53 = .ok (.iconst 0, 1) := by decide +kernel
theorem dX11_border_54 : decode cX11_border 54 = .ok (.istore 5, 2) := by decide +kernel
theorem dX11_border_56 : decode cX11_border 56 = .ok (.iload 5, 2) := by decide +kernel
theorem dX11_border_58 : decode cX11_border 58 = .ok (.aload_n 0, 1) := by decide +kernel
theorem dX11_border_59 : decode cX11_border 59 = .ok (.getfield 33, 3) := by decide +kernel
theorem dX11_border_62 : decode cX11_border 62 = .ok (.if_icmp .ge 52, 3) := by decide +kernel
theorem dX11_border_65 : decode cX11_border 65 = .ok (.iload 5, 2) := by decide +kernel
theorem dX11_border_67 : decode cX11_border 67 = .ok (.aload_n 0, 1) := by decide +kernel
theorem dX11_border_68 : decode cX11_border 68 = .ok (.getfield 40, 3) := by decide +kernel
theorem dX11_border_71 : decode cX11_border 71 = .ok (.iload_n 1, 1) := by decide +kernel
theorem dX11_border_72 : decode cX11_border 72 = .ok (.iaload, 1) := by decide +kernel
theorem dX11_border_73 : decode cX11_border 73 = .ok (.if_icmp .ne 6, 3) := by decide +kernel
theorem dX11_border_76 : decode cX11_border 76 = .ok (.goto 32, 3) := by decide +kernel
theorem dX11_border_79 : decode cX11_border 79 = .ok (.aload_n 0, 1) := by decide +kernel
theorem dX11_border_80 : decode cX11_border 80 = .ok (.iload_n 1, 1) := by decide +kernel
theorem dX11_border_81 : decode cX11_border 81 = .ok (.iload 5, 2) := by decide +kernel
theorem dX11_border_83 : decode cX11_border 83 = .ok (.invokevirtual 134, 3) := by decide +kernel
theorem dX11_border_86 : decode cX11_border 86 = .ok (.lstore 6, 2) := by decide +kernel
theorem dX11_border_88 : decode cX11_border 88 = .ok (.iload_n 2, 1) := by decide +kernel
theorem dX11_border_89 : decode cX11_border 89 = .ok (.ifCond .eq 10, 3) := by decide +kernel
theorem dX11_border_92 : decode cX11_border 92 = .ok (.lload 6, 2) := by decide +kernel
theorem dX11_border_94 : decode cX11_border 94 = .ok (.lload_n 3, 1) := by decide +kernel
theorem dX11_border_95 : decode cX11_border 95 = .ok (.lcmp, 1) := by decide +kernel
theorem dX11_border_96 : decode cX11_border 96 = .ok (.ifCond .ge 8, 3) := by decide +kernel
theorem dX11_border_99 : decode cX11_border 99 = .ok (.lload 6, 2) := by decide +kernel
theorem dX11_border_101 : decode cX11_border 101 = .ok (.goto 4, 3) := by decide +kernel
theorem dX11_border_104 : decode cX11_border 104 = .ok (.lload_n 3, 1) := by decide +kernel
theorem dX11_border_105 : decode cX11_border 105 = .ok (.lstore_n 3, 1) := by decide +kernel
theorem dX11_border_106 : decode cX11_border 106 = .ok (.iconst 1, 1) := by decide +kernel
theorem dX11_border_107 : decode cX11_border 107 = .ok (.istore_n 2, 1) := by decide +kernel
theorem dX11_border_108 : decode cX11_border 108 = .ok (.iinc 5 1, 3) := by decide +kernel
theorem dX11_border_111 : decode cX11_border 111 = .ok (.goto (-55), 3) := by decide +kernel
theorem dX11_border_114 : decode cX11_border 114 = .ok (.lload_n 3, 1) := by decide +kernel
theorem dX11_border_115 : decode cX11_border 115 = .ok (.lreturn, 1) := by decide +kernel
theorem dX11_ends_0 : decode cX11_ends 0 = .ok (.iload_n 2, 1) := by decide +kernel
theorem dX11_ends_1 : decode cX11_ends 1 = .ok (.istore_n 3, 1) := by decide +kernel
theorem dX11_ends_2 : decode cX11_ends 2 = .ok (.iload_n 3, 1) := by decide +kernel
theorem dX11_ends_3 : decode cX11_ends 3 = .ok (.aload_n 0, 1) := by decide +kernel
theorem dX11_ends_4 : decode cX11_ends 4 = .ok (.getfield 16, 3) := by decide +kernel
theorem dX11_ends_7 : decode cX11_ends 7 = .ok (.iload_n 1, 1) := by decide +kernel
theorem dX11_ends_8 : decode cX11_ends 8 = .ok (.iaload, 1) := by decide +kernel
theorem dX11_ends_9 : decode cX11_ends 9 = .ok (.if_icmp .ge 25, 3) := by decide +kernel
theorem dX11_ends_12 : decode cX11_ends 12 = .ok (.aload_n 0, 1) := by decide +kernel
theorem dX11_ends_13 : decode cX11_ends 13 = .ok (.getfield 13, 3) := by decide +kernel
theorem dX11_ends_16 : decode cX11_ends 16 = .ok (.bipush 20, 2) := by decide +kernel
theorem dX11_ends_18 : decode cX11_ends 18 = .ok (.iload_n 1, 1) := by decide +kernel
theorem dX11_ends_19 : decode cX11_ends 19 = .ok (.imul, 1) := by decide +kernel
theorem dX11_ends_20 : decode cX11_ends 20 = .ok (.iload_n 3, 1) := by decide +kernel
theorem dX11_ends_21 : decode cX11_ends 21 = .ok (.iadd, 1) := by decide +kernel
theorem dX11_ends_22 : decode cX11_ends 22 = .ok (.baload, 1) := by decide +kernel
theorem dX11_ends_23 : decode cX11_ends 23 = .ok (.bipush 95, 2) := by decide +kernel
theorem dX11_ends_25 : decode cX11_ends 25 = .ok (.if_icmp .eq 9, 3) := by decide +kernel
theorem dX11_ends_28 : decode cX11_ends 28 = .ok (.iinc 3 1, 3) := by decide +kernel
theorem dX11_ends_31 : decode cX11_ends 31 = .ok (.goto (-29), 3) := by decide +kernel
theorem dX11_ends_34 : decode cX11_ends 34 = .ok (.iload_n 3, 1) := by decide +kernel
theorem dX11_ends_35 : decode cX11_ends 35 = .ok (.ireturn, 1) := by decide +kernel
theorem dX11_compared_0 : decode cX11_compared 0 = .ok (.iconst 0, 1) := by decide +kernel
theorem dX11_compared_1 : decode cX11_compared 1 = .ok (.istore 7, 2) := by decide +kernel
theorem dX11_compared_3 : decode cX11_compared 3 = .ok (.iload 7, 2) := by decide +kernel
theorem dX11_compared_5 : decode cX11_compared 5 = .ok (.iload_n 3, 1) := by decide +kernel
theorem dX11_compared_6 : decode cX11_compared 6 = .ok (.if_icmp .ge 81, 3) := by decide +kernel
theorem dX11_compared_9 : decode cX11_compared 9 = .ok (.iload 7, 2) := by decide +kernel
theorem dX11_compared_11 : decode cX11_compared 11 = .ok (.iload 6, 2) := by decide +kernel
theorem dX11_compared_13 : decode cX11_compared 13 = .ok (.if_icmp .ge 74, 3) := by decide +kernel
theorem dX11_compared_16 : decode cX11_compared 16 = .ok (.aload_n 0, 1) := by decide +kernel
theorem dX11_compared_17 : decode cX11_compared 17 = .ok (.getfield 13, 3) := by decide +kernel
theorem dX11_compared_20 : decode cX11_compared 20 = .ok (.bipush 20, 2) := by decide +kernel
theorem dX11_compared_22 : decode cX11_compared 22 = .ok (.iload_n 1, 1) := by decide +kernel
theorem dX11_compared_23 : decode cX11_compared 23 = .ok (.imul, 1) := by decide +kernel
theorem dX11_compared_24 : decode cX11_compared 24 = .ok (.iload_n 2, 1) := by decide +kernel
theorem dX11_compared_25 : decode cX11_compared 25 = .ok (.iadd, 1) := by decide +kernel
theorem dX11_compared_26 : decode cX11_compared 26 = .ok (.iload 7, 2) := by decide +kernel
theorem dX11_compared_28 : decode cX11_compared 28 = .ok (.iadd, 1) := by decide +kernel
theorem dX11_compared_29 : decode cX11_compared 29 = .ok (.baload, 1) := by decide +kernel
theorem dX11_compared_30 : decode cX11_compared 30 = .ok (.aload_n 0, 1) := by decide +kernel
theorem dX11_compared_31 : decode cX11_compared 31 = .ok (.getfield 13, 3) := by decide +kernel
theorem dX11_compared_34 : decode cX11_compared 34 = .ok (.bipush 20, 2) := by decide +kernel
theorem dX11_compared_36 : decode cX11_compared 36 = .ok (.iload 4, 2) := by decide +kernel
theorem dX11_compared_38 : decode cX11_compared 38 = .ok (.imul, 1) := by decide +kernel
theorem dX11_compared_39 : decode cX11_compared 39 = .ok (.iload 5, 2) := by decide +kernel
theorem dX11_compared_41 : decode cX11_compared 41 = .ok (.iadd, 1) := by decide +kernel
theorem dX11_compared_42 : decode cX11_compared 42 = .ok (.iload 7, 2) := by decide +kernel
theorem dX11_compared_44 : decode cX11_compared 44 = .ok (.iadd, 1) := by decide +kernel
theorem dX11_compared_45 : decode cX11_compared 45 = .ok (.baload, 1) := by decide +kernel
theorem dX11_compared_46 : decode cX11_compared 46 = .ok (.if_icmp .eq 35, 3) := by decide +kernel
theorem dX11_compared_49 : decode cX11_compared 49 = .ok (.aload_n 0, 1) := by decide +kernel
theorem dX11_compared_50 : decode cX11_compared 50 = .ok (.getfield 13, 3) := by decide +kernel
theorem dX11_compared_53 : decode cX11_compared 53 = .ok (.bipush 20, 2) := by decide +kernel
theorem dX11_compared_55 : decode cX11_compared 55 = .ok (.iload_n 1, 1) := by decide +kernel
theorem dX11_compared_56 : decode cX11_compared 56 = .ok (.imul, 1) := by decide +kernel
theorem dX11_compared_57 : decode cX11_compared 57 = .ok (.iload_n 2, 1) := by decide +kernel
theorem dX11_compared_58 : decode cX11_compared 58 = .ok (.iadd, 1) := by decide +kernel
theorem dX11_compared_59 : decode cX11_compared 59 = .ok (.iload 7, 2) := by decide +kernel
theorem dX11_compared_61 : decode cX11_compared 61 = .ok (.iadd, 1) := by decide +kernel
theorem dX11_compared_62 : decode cX11_compared 62 = .ok (.baload, 1) := by decide +kernel
theorem dX11_compared_63 : decode cX11_compared 63 = .ok (.aload_n 0, 1) := by decide +kernel
theorem dX11_compared_64 : decode cX11_compared 64 = .ok (.getfield 13, 3) := by decide +kernel
theorem dX11_compared_67 : decode cX11_compared 67 = .ok (.bipush 20, 2) := by decide +kernel
theorem dX11_compared_69 : decode cX11_compared 69 = .ok (.iload 4, 2) := by decide +kernel
theorem dX11_compared_71 : decode cX11_compared 71 = .ok (.imul, 1) := by decide +kernel
theorem dX11_compared_72 : decode cX11_compared 72 = .ok (.iload 5, 2) := by decide +kernel
theorem dX11_compared_74 : decode cX11_compared 74 = .ok (.iadd, 1) := by decide +kernel
theorem dX11_compared_75 : decode cX11_compared 75 = .ok (.iload 7, 2) := by decide +kernel
theorem dX11_compared_77 : decode cX11_compared 77 = .ok (.iadd, 1) := by decide +kernel
theorem dX11_compared_78 : decode cX11_compared 78 = .ok (.baload, 1) := by decide +kernel
theorem dX11_compared_79 : decode cX11_compared 79 = .ok (.isub, 1) := by decide +kernel
theorem dX11_compared_80 : decode cX11_compared 80 = .ok (.ireturn, 1) := by decide +kernel
theorem dX11_compared_81 : decode cX11_compared 81 = .ok (.iinc 7 1, 3) := by decide +kernel
theorem dX11_compared_84 : decode cX11_compared 84 = .ok (.goto (-81), 3) := by decide +kernel
theorem dX11_compared_87 : decode cX11_compared 87 = .ok (.iload_n 3, 1) := by decide +kernel
theorem dX11_compared_88 : decode cX11_compared 88 = .ok (.iload 6, 2) := by decide +kernel
theorem dX11_compared_90 : decode cX11_compared 90 = .ok (.isub, 1) := by decide +kernel
theorem dX11_compared_91 : decode cX11_compared 91 = .ok (.ireturn, 1) := by decide +kernel
theorem dX11_hasWord_0 : decode cX11_hasWord 0 = .ok (.iconst 0, 1) := by decide +kernel
theorem dX11_hasWord_1 : decode cX11_hasWord 1 = .ok (.istore 5, 2) := by decide +kernel
theorem dX11_hasWord_3 : decode cX11_hasWord 3 = .ok (.iload 5, 2) := by decide +kernel
theorem dX11_hasWord_5 : decode cX11_hasWord 5 = .ok (.aload_n 0, 1) := by decide +kernel
theorem dX11_hasWord_6 : decode cX11_hasWord 6 = .ok (.getfield 16, 3) := by decide +kernel
theorem dX11_hasWord_9 : decode cX11_hasWord 9 = .ok (.iload_n 1, 1) := by decide +kernel
theorem dX11_hasWord_10 : decode cX11_hasWord 10 = .ok (.iaload, 1) := by decide +kernel
theorem dX11_hasWord_11 : decode cX11_hasWord 11 = .ok (.if_icmp .ge 50, 3) := by decide +kernel
theorem dX11_hasWord_14 : decode cX11_hasWord 14 = .ok (.aload_n 0, 1) := by decide +kernel
theorem dX11_hasWord_15 : decode cX11_hasWord 15 = .ok (.iload_n 1, 1) := by decide +kernel
theorem dX11_hasWord_16 : decode cX11_hasWord 16 = .ok (.iload 5, 2) := by decide +kernel
theorem dX11_hasWord_18 : decode cX11_hasWord 18 = .ok (.invokevirtual 149, 3) := by decide +kernel
theorem dX11_hasWord_21 : decode cX11_hasWord 21 = .ok (.iload 5, 2) := by decide +kernel
theorem dX11_hasWord_23 : decode cX11_hasWord 23 = .ok (.isub, 1) := by decide +kernel
theorem dX11_hasWord_24 : decode cX11_hasWord 24 = .ok (.iload 4, 2) := by decide +kernel
theorem dX11_hasWord_26 : decode cX11_hasWord 26 = .ok (.if_icmp .ne 21, 3) := by decide +kernel
theorem dX11_hasWord_29 : decode cX11_hasWord 29 = .ok (.aload_n 0, 1) := by decide +kernel
theorem dX11_hasWord_30 : decode cX11_hasWord 30 = .ok (.iload_n 2, 1) := by decide +kernel
theorem dX11_hasWord_31 : decode cX11_hasWord 31 = .ok (.iload_n 3, 1) := by decide +kernel
theorem dX11_hasWord_32 : decode cX11_hasWord 32 = .ok (.iload 4, 2) := by decide +kernel
theorem dX11_hasWord_34 : decode cX11_hasWord 34 = .ok (.iload_n 1, 1) := by decide +kernel
theorem dX11_hasWord_35 : decode cX11_hasWord 35 = .ok (.iload 5, 2) := by decide +kernel
theorem dX11_hasWord_37 : decode cX11_hasWord 37 = .ok (.iload 4, 2) := by decide +kernel
theorem dX11_hasWord_39 : decode cX11_hasWord 39 = .ok (.invokevirtual 152, 3) := by decide +kernel
theorem dX11_hasWord_42 : decode cX11_hasWord 42 = .ok (.ifCond .ne 5, 3) := by decide +kernel
theorem dX11_hasWord_45 : decode cX11_hasWord 45 = .ok (.iconst 1, 1) := by decide +kernel
theorem dX11_hasWord_46 : decode cX11_hasWord 46 = .ok (.ireturn, 1) := by decide +kernel
theorem dX11_hasWord_47 : decode cX11_hasWord 47 = .ok (.aload_n 0, 1) := by decide +kernel
theorem dX11_hasWord_48 : decode cX11_hasWord 48 = .ok (.iload_n 1, 1) := by decide +kernel
theorem dX11_hasWord_49 : decode cX11_hasWord 49 = .ok (.iload 5, 2) := by decide +kernel
theorem dX11_hasWord_51 : decode cX11_hasWord 51 = .ok (.invokevirtual 149, 3) := by decide +kernel
theorem dX11_hasWord_54 : decode cX11_hasWord 54 = .ok (.iconst 1, 1) := by decide +kernel
theorem dX11_hasWord_55 : decode cX11_hasWord 55 = .ok (.iadd, 1) := by decide +kernel
theorem dX11_hasWord_56 : decode cX11_hasWord 56 = .ok (.istore 5, 2) := by decide +kernel
theorem dX11_hasWord_58 : decode cX11_hasWord 58 = .ok (.goto (-55), 3) := by decide +kernel
theorem dX11_hasWord_61 : decode cX11_hasWord 61 = .ok (.iconst 0, 1) := by decide +kernel
theorem dX11_hasWord_62 : decode cX11_hasWord 62 = .ok (.ireturn, 1) := by decide +kernel
theorem dX11_scoreOf_0 : decode cX11_scoreOf 0 = .ok (.iconst 0, 1) := by decide +kernel
theorem dX11_scoreOf_1 : decode cX11_scoreOf 1 = .ok (.istore 5, 2) := by decide +kernel
theorem dX11_scoreOf_3 : decode cX11_scoreOf 3 = .ok (.iconst 0, 1) := by decide +kernel
theorem dX11_scoreOf_4 : decode cX11_scoreOf 4 = .ok (.istore 6, 2) := by decide +kernel
theorem dX11_scoreOf_6 : decode cX11_scoreOf 6 = .ok (.iconst 0, 1) := by decide +kernel
theorem dX11_scoreOf_7 : decode cX11_scoreOf 7 = .ok (.istore 7, 2) := by decide +kernel
theorem dX11_scoreOf_9 : decode cX11_scoreOf 9 = .ok (.iconst 0, 1) := by decide +kernel
theorem dX11_scoreOf_10 : decode cX11_scoreOf 10 = .ok (.istore 8, 2) := by decide +kernel
theorem dX11_scoreOf_12 : decode cX11_scoreOf 12 = .ok (.iconst 0, 1) := by decide +kernel
theorem dX11_scoreOf_13 : decode cX11_scoreOf 13 = .ok (.istore 9, 2) := by decide +kernel
theorem dX11_scoreOf_15 : decode cX11_scoreOf 15 = .ok (.iload 9, 2) := by decide +kernel
theorem dX11_scoreOf_17 : decode cX11_scoreOf 17 = .ok (.aload_n 0, 1) := by decide +kernel
theorem dX11_scoreOf_18 : decode cX11_scoreOf 18 = .ok (.getfield 83, 3) := by decide +kernel
theorem dX11_scoreOf_21 : decode cX11_scoreOf 21 = .ok (.if_icmp .ge 122, 3) := by decide +kernel
theorem dX11_scoreOf_24 : decode cX11_scoreOf 24 = .ok (.aload_n 0, 1) := by decide +kernel
theorem dX11_scoreOf_25 : decode cX11_scoreOf 25 = .ok (.getfield 36, 3) := by decide +kernel
theorem dX11_scoreOf_28 : decode cX11_scoreOf 28 = .ok (.iload 9, 2) := by decide +kernel
theorem dX11_scoreOf_30 : decode cX11_scoreOf 30 = .ok (.baload, 1) := by decide +kernel
theorem dX11_scoreOf_31 : decode cX11_scoreOf 31 = .ok (.ifCond .eq 6, 3) := by decide +kernel
theorem dX11_scoreOf_34 : decode cX11_scoreOf 34 = .ok (.goto 103, 3) := by decide +kernel
theorem dX11_scoreOf_37 : decode cX11_scoreOf 37 = .ok (.aload_n 0, 1) := by decide +kernel
theorem dX11_scoreOf_38 : decode cX11_scoreOf 38 = .ok (.getfield 40, 3) := by decide +kernel
theorem dX11_scoreOf_41 : decode cX11_scoreOf 41 = .ok (.iload 9, 2) := by decide +kernel
theorem dX11_scoreOf_43 : decode cX11_scoreOf 43 = .ok (.iaload, 1) := by decide +kernel
theorem dX11_scoreOf_44 : decode cX11_scoreOf 44 = .ok (.iload_n 1, 1) := by decide +kernel
theorem dX11_scoreOf_45 : decode cX11_scoreOf 45 = .ok (.if_icmp .ne 7, 3) := by decide +kernel
theorem dX11_scoreOf_48 : decode cX11_scoreOf 48 = .ok (.iconst 1, 1) := by decide +kernel
theorem dX11_scoreOf_49 : decode cX11_scoreOf 49 = .ok (.goto 4, 3) := by decide +kernel
theorem dX11_scoreOf_52 : decode cX11_scoreOf 52 = .ok (.iconst 0, 1) := by decide +kernel
theorem dX11_scoreOf_53 : decode cX11_scoreOf 53 = .ok (.istore 10, 2) := by decide +kernel
theorem dX11_scoreOf_55 : decode cX11_scoreOf 55 = .ok (.aload_n 0, 1) := by decide +kernel
theorem dX11_scoreOf_56 : decode cX11_scoreOf 56 = .ok (.iload 9, 2) := by decide +kernel
theorem dX11_scoreOf_58 : decode cX11_scoreOf 58 = .ok (.iload_n 2, 1) := by decide +kernel
theorem dX11_scoreOf_59 : decode cX11_scoreOf 59 = .ok (.iload_n 3, 1) := by decide +kernel
theorem dX11_scoreOf_60 : decode cX11_scoreOf 60 = .ok (.iload 4, 2) := by decide +kernel
theorem dX11_scoreOf_62 : decode cX11_scoreOf 62 = .ok (.invokevirtual 156, 3) := by decide +kernel
theorem dX11_scoreOf_65 : decode cX11_scoreOf 65 = .ok (.istore 11, 2) := by decide +kernel
theorem dX11_scoreOf_67 : decode cX11_scoreOf 67 = .ok (.iload 7, 2) := by decide +kernel
theorem dX11_scoreOf_69 : decode cX11_scoreOf 69 = .ok (.iload 10, 2) := by decide +kernel
theorem dX11_scoreOf_71 : decode cX11_scoreOf 71 = .ok (.ifCond .eq 7, 3) := by decide +kernel
theorem dX11_scoreOf_74 : decode cX11_scoreOf 74 = .ok (.iconst 1, 1) := by decide +kernel
theorem dX11_scoreOf_75 : decode cX11_scoreOf 75 = .ok (.goto 4, 3) := by decide +kernel
theorem dX11_scoreOf_78 : decode cX11_scoreOf 78 = .ok (.iconst 0, 1) := by decide +kernel
theorem dX11_scoreOf_79 : decode cX11_scoreOf 79 = .ok (.iadd, 1) := by decide +kernel
theorem dX11_scoreOf_80 : decode cX11_scoreOf 80 = .ok (.istore 7, 2) := by decide +kernel
theorem dX11_scoreOf_82 : decode cX11_scoreOf 82 = .ok (.iload 8, 2) := by decide +kernel
theorem dX11_scoreOf_84 : decode cX11_scoreOf 84 = .ok (.iload 10, 2) := by decide +kernel
theorem dX11_scoreOf_86 : decode cX11_scoreOf 86 = .ok (.ifCond .eq 7, 3) := by decide +kernel
theorem dX11_scoreOf_89 : decode cX11_scoreOf 89 = .ok (.iconst 0, 1) := by decide +kernel
theorem dX11_scoreOf_90 : decode cX11_scoreOf 90 = .ok (.goto 4, 3) := by decide +kernel
theorem dX11_scoreOf_93 : decode cX11_scoreOf 93 = .ok (.iconst 1, 1) := by decide +kernel
theorem dX11_scoreOf_94 : decode cX11_scoreOf 94 = .ok (.iadd, 1) := by decide +kernel
theorem dX11_scoreOf_95 : decode cX11_scoreOf 95 = .ok (.istore 8, 2) := by decide +kernel
theorem dX11_scoreOf_97 : decode cX11_scoreOf 97 = .ok (.iload 5, 2) := by decide +kernel
theorem dX11_scoreOf_99 : decode cX11_scoreOf 99 = .ok (.iload 10, 2) := by decide +kernel
theorem dX11_scoreOf_101 : decode cX11_scoreOf 101 = .ok (.ifCond .eq 12, 3) := by decide +kernel
theorem dX11_scoreOf_104 : decode cX11_scoreOf 104 = .ok (.iload 11, 2) := by decide +kernel
theorem dX11_scoreOf_106 : decode cX11_scoreOf 106 = .ok (.ifCond .eq 7, 3) := by decide +kernel
theorem dX11_scoreOf_109 : decode cX11_scoreOf 109 = .ok (.iconst 1, 1) := by decide +kernel
theorem dX11_scoreOf_110 : decode cX11_scoreOf 110 = .ok (.goto 4, 3) := by decide +kernel
theorem dX11_scoreOf_113 : decode cX11_scoreOf 113 = .ok (.iconst 0, 1) := by decide +kernel
theorem dX11_scoreOf_114 : decode cX11_scoreOf 114 = .ok (.iadd, 1) := by decide +kernel
theorem dX11_scoreOf_115 : decode cX11_scoreOf 115 = .ok (.istore 5, 2) := by decide +kernel
theorem dX11_scoreOf_117 : decode cX11_scoreOf 117 = .ok (.iload 6, 2) := by decide +kernel
theorem dX11_scoreOf_119 : decode cX11_scoreOf 119 = .ok (.iload 10, 2) := by decide +kernel
theorem dX11_scoreOf_121 : decode cX11_scoreOf 121 = .ok (.ifCond .ne 12, 3) := by decide +kernel
theorem dX11_scoreOf_124 : decode cX11_scoreOf 124 = .ok (.iload 11, 2) := by decide +kernel
theorem dX11_scoreOf_126 : decode cX11_scoreOf 126 = .ok (.ifCond .eq 7, 3) := by decide +kernel
theorem dX11_scoreOf_129 : decode cX11_scoreOf 129 = .ok (.iconst 1, 1) := by decide +kernel
theorem dX11_scoreOf_130 : decode cX11_scoreOf 130 = .ok (.goto 4, 3) := by decide +kernel
theorem dX11_scoreOf_133 : decode cX11_scoreOf 133 = .ok (.iconst 0, 1) := by decide +kernel
theorem dX11_scoreOf_134 : decode cX11_scoreOf 134 = .ok (.iadd, 1) := by decide +kernel
theorem dX11_scoreOf_135 : decode cX11_scoreOf 135 = .ok (.istore 6, 2) := by decide +kernel
theorem dX11_scoreOf_137 : decode cX11_scoreOf 137 = .ok (.iinc 9 1, 3) := by decide +kernel
theorem dX11_scoreOf_140 : decode cX11_scoreOf 140 = .ok (.goto (-125), 3) := by decide +kernel
theorem dX11_scoreOf_143 : decode cX11_scoreOf 143 = .ok (.iload 5, 2) := by decide +kernel
theorem dX11_scoreOf_145 : decode cX11_scoreOf 145 = .ok (.iload 8, 2) := by decide +kernel
theorem dX11_scoreOf_147 : decode cX11_scoreOf 147 = .ok (.imul, 1) := by decide +kernel
theorem dX11_scoreOf_148 : decode cX11_scoreOf 148 = .ok (.iload 6, 2) := by decide +kernel
theorem dX11_scoreOf_150 : decode cX11_scoreOf 150 = .ok (.iload 7, 2) := by decide +kernel
theorem dX11_scoreOf_152 : decode cX11_scoreOf 152 = .ok (.imul, 1) := by decide +kernel
theorem dX11_scoreOf_153 : decode cX11_scoreOf 153 = .ok (.isub, 1) := by decide +kernel
theorem dX11_scoreOf_154 : decode cX11_scoreOf 154 = .ok (.ireturn, 1) := by decide +kernel
theorem dX11_name_0 : decode cX11_name 0 = .ok (.aload_n 0, 1) := by decide +kernel
theorem dX11_name_1 : decode cX11_name 1 = .ok (.iconst 0, 1) := by decide +kernel
theorem dX11_name_2 : decode cX11_name 2 = .ok (.putfield 73, 3) := by decide +kernel
theorem dX11_name_5 : decode cX11_name 5 = .ok (.aload_n 0, 1) := by decide +kernel
theorem dX11_name_6 : decode cX11_name 6 = .ok (.aload_n 0, 1) := by decide +kernel
theorem dX11_name_7 : decode cX11_name 7 = .ok (.iload_n 1, 1) := by decide +kernel
theorem dX11_name_8 : decode cX11_name 8 = .ok (.invokevirtual 109, 3) := by decide +kernel
theorem dX11_name_11 : decode cX11_name 11 = .ok (.ifCond .ne 7, 3) := by decide +kernel
theorem dX11_name_14 : decode cX11_name 14 = .ok (.iconst 1, 1) := by decide +kernel
theorem dX11_name_15 : decode cX11_name 15 = .ok (.goto 4, 3) := by decide +kernel
theorem dX11_name_18 : decode cX11_name 18 = .ok (.iconst 0, 1) := by decide +kernel
theorem dX11_name_19 : decode cX11_name 19 = .ok (.iconst 1, 1) := by decide +kernel
theorem dX11_name_20 : decode cX11_name 20 = .ok (.invokevirtual 79, 3) := by decide +kernel
theorem dX11_name_23 : decode cX11_name 23 = .ok (.ifCond .eq 5, 3) := by decide +kernel
theorem dX11_name_26 : decode cX11_name 26 = .ok (.iconst 0, 1) := by decide +kernel
theorem dX11_name_27 : decode cX11_name 27 = .ok (.ireturn, 1) := by decide +kernel
theorem dX11_name_28 : decode cX11_name 28 = .ok (.iconst (-1), 1) := by decide +kernel
theorem dX11_name_29 : decode cX11_name 29 = .ok (.istore_n 2, 1) := by decide +kernel
theorem dX11_name_30 : decode cX11_name 30 = .ok (.iconst 0, 1) := by decide +kernel
theorem dX11_name_31 : decode cX11_name 31 = .ok (.istore_n 3, 1) := by decide +kernel
theorem dX11_name_32 : decode cX11_name 32 = .ok (.iconst 0, 1) := by decide +kernel
theorem dX11_name_33 : decode cX11_name 33 = .ok (.istore 4, 2) := by decide +kernel
theorem dX11_name_35 : decode cX11_name 35 = .ok (.aload_n 0, 1) := by decide +kernel
theorem dX11_name_36 : decode cX11_name 36 = .ok (.iconst 0, 1) := by decide +kernel
theorem dX11_name_37 : decode cX11_name 37 = .ok (.putfield 160, 3) := by decide +kernel
theorem dX11_name_40 : decode cX11_name 40 = .ok (.iconst 0, 1) := by decide +kernel
theorem dX11_name_41 : decode cX11_name 41 = .ok (.istore 5, 2) := by decide +kernel
theorem dX11_name_43 : decode cX11_name 43 = .ok (.iload 5, 2) := by decide +kernel
theorem dX11_name_45 : decode cX11_name 45 = .ok (.aload_n 0, 1) := by decide +kernel
theorem dX11_name_46 : decode cX11_name 46 = .ok (.getfield 83, 3) := by decide +kernel
theorem dX11_name_49 : decode cX11_name 49 = .ok (.if_icmp .ge 153, 3) := by decide +kernel
theorem dX11_name_52 : decode cX11_name 52 = .ok (.aload_n 0, 1) := by decide +kernel
theorem dX11_name_53 : decode cX11_name 53 = .ok (.getfield 36, 3) := by decide +kernel
theorem dX11_name_56 : decode cX11_name 56 = .ok (.iload 5, 2) := by decide +kernel
theorem dX11_name_58 : decode cX11_name 58 = .ok (.baload, 1) := by decide +kernel
theorem dX11_name_59 : decode cX11_name 59 = .ok (.ifCond .ne 137, 3) := by decide +kernel
theorem dX11_name_62 : decode cX11_name 62 = .ok (.aload_n 0, 1) := by decide +kernel
theorem dX11_name_63 : decode cX11_name 63 = .ok (.getfield 40, 3) := by decide +kernel
theorem dX11_name_66 : decode cX11_name 66 = .ok (.iload 5, 2) := by decide +kernel
theorem dX11_name_68 : decode cX11_name 68 = .ok (.iaload, 1) := by decide +kernel
theorem dX11_name_69 : decode cX11_name 69 = .ok (.iload_n 1, 1) := by decide +kernel
theorem dX11_name_70 : decode cX11_name 70 = .ok (.if_icmp .eq 6, 3) := by decide +kernel
theorem dX11_name_73 : decode cX11_name 73 = .ok (.goto 123, 3) := by decide +kernel
theorem dX11_name_76 : decode cX11_name 76 = .ok (.iconst 0, 1) := by decide +kernel
theorem dX11_name_77 : decode cX11_name 77 = .ok (.istore 6, 2) := by decide +kernel
theorem dX11_name_79 : decode cX11_name 79 = .ok (.iload 6, 2) := by decide +kernel
theorem dX11_name_81 : decode cX11_name 81 = .ok (.aload_n 0, 1) := by decide +kernel
theorem dX11_name_82 : decode cX11_name 82 = .ok (.getfield 16, 3) := by decide +kernel
theorem dX11_name_85 : decode cX11_name 85 = .ok (.iload 5, 2) := by decide +kernel
theorem dX11_name_87 : decode cX11_name 87 = .ok (.iaload, 1) := by decide +kernel
theorem dX11_name_88 : decode cX11_name 88 = .ok (.if_icmp .ge 108, 3) := by decide +kernel
theorem dX11_name_91 : decode cX11_name 91 = .ok (.aload_n 0, 1) := by decide +kernel
theorem dX11_name_92 : decode cX11_name 92 = .ok (.iload 5, 2) := by decide +kernel
theorem dX11_name_94 : decode cX11_name 94 = .ok (.iload 6, 2) := by decide +kernel
theorem dX11_name_96 : decode cX11_name 96 = .ok (.invokevirtual 149, 3) := by decide +kernel
theorem dX11_name_99 : decode cX11_name 99 = .ok (.iload 6, 2) := by decide +kernel
theorem dX11_name_101 : decode cX11_name 101 = .ok (.isub, 1) := by decide +kernel
theorem dX11_name_102 : decode cX11_name 102 = .ok (.istore 7, 2) := by decide +kernel
theorem dX11_name_104 : decode cX11_name 104 = .ok (.iload 7, 2) := by decide +kernel
theorem dX11_name_106 : decode cX11_name 106 = .ok (.ifCond .ne 6, 3) := by decide +kernel
theorem dX11_name_109 : decode cX11_name 109 = .ok (.goto 72, 3) := by decide +kernel
theorem dX11_name_112 : decode cX11_name 112 = .ok (.aload_n 0, 1) := by decide +kernel
theorem dX11_name_113 : decode cX11_name 113 = .ok (.iload_n 1, 1) := by decide +kernel
theorem dX11_name_114 : decode cX11_name 114 = .ok (.iload 5, 2) := by decide +kernel
theorem dX11_name_116 : decode cX11_name 116 = .ok (.iload 6, 2) := by decide +kernel
theorem dX11_name_118 : decode cX11_name 118 = .ok (.iload 7, 2) := by decide +kernel
theorem dX11_name_120 : decode cX11_name 120 = .ok (.invokevirtual 163, 3) := by decide +kernel
theorem dX11_name_123 : decode cX11_name 123 = .ok (.istore 8, 2) := by decide +kernel
theorem dX11_name_125 : decode cX11_name 125 = .ok (.iload_n 2, 1) := by decide +kernel
theorem dX11_name_126 : decode cX11_name 126 = .ok (.ifCond .lt 39, 3) := by decide +kernel
theorem dX11_name_129 : decode cX11_name 129 = .ok (.iload 8, 2) := by decide +kernel
theorem dX11_name_131 : decode cX11_name 131 = .ok (.iload 4, 2) := by decide +kernel
theorem dX11_name_133 : decode cX11_name 133 = .ok (.if_icmp .lt 48, 3) := by decide +kernel
theorem dX11_name_136 : decode cX11_name 136 = .ok (.iload 8, 2) := by decide +kernel
theorem dX11_name_138 : decode cX11_name 138 = .ok (.iload 4, 2) := by decide +kernel
theorem dX11_name_140 : decode cX11_name 140 = .ok (.if_icmp .ne 25, 3) := by decide +kernel
theorem dX11_name_143 : decode cX11_name 143 = .ok (.aload_n 0, 1) := by decide +kernel
theorem dX11_name_144 : decode cX11_name 144 = .ok (.iload 5, 2) := by decide +kernel
theorem dX11_name_146 : decode cX11_name 146 = .ok (.iload 6, 2) := by decide +kernel
theorem dX11_name_148 : decode cX11_name 148 = .ok (.iload 7, 2) := by decide +kernel
theorem dX11_name_150 : decode cX11_name 150 = .ok (.iload_n 2, 1) := by decide +kernel
theorem dX11_name_151 : decode cX11_name 151 = .ok (.iload_n 3, 1) := by decide +kernel
theorem dX11_name_152 : decode cX11_name 152 = .ok (.aload_n 0, 1) := by decide +kernel
theorem dX11_name_153 : decode cX11_name 153 = .ok (.getfield 160, 3) := by decide +kernel
theorem dX11_name_156 : decode cX11_name 156 = .ok (.invokevirtual 152, 3) := by decide +kernel
theorem dX11_name_159 : decode cX11_name 159 = .ok (.ifCond .lt 6, 3) := by decide +kernel
theorem dX11_name_162 : decode cX11_name 162 = .ok (.goto 19, 3) := by decide +kernel
theorem dX11_name_165 : decode cX11_name 165 = .ok (.iload 5, 2) := by decide +kernel
theorem dX11_name_167 : decode cX11_name 167 = .ok (.istore_n 2, 1) := by decide +kernel
theorem dX11_name_168 : decode cX11_name 168 = .ok (.iload 6, 2) := by decide +kernel
theorem dX11_name_170 : decode cX11_name 170 = .ok (.istore_n 3, 1) := by decide +kernel
theorem dX11_name_171 : decode cX11_name 171 = .ok (.iload 8, 2) := by decide +kernel
theorem dX11_name_173 : decode cX11_name 173 = .ok (.istore 4, 2) := by decide +kernel
theorem dX11_name_175 : decode cX11_name 175 = .ok (.aload_n 0, 1) := by decide +kernel
theorem dX11_name_176 : decode cX11_name 176 = .ok (.iload 7, 2) := by decide +kernel
theorem dX11_name_178 : decode cX11_name 178 = .ok (.putfield 160, 3) := by decide +kernel
theorem dX11_name_181 : decode cX11_name 181 = .ok (.aload_n 0, 1) := by decide +kernel
theorem dX11_name_182 : decode cX11_name 182 = .ok (.iload 5, 2) := by decide +kernel
theorem dX11_name_184 : decode cX11_name 184 = .ok (.iload 6, 2) := by decide +kernel
theorem dX11_name_186 : decode cX11_name 186 = .ok (.invokevirtual 149, 3) := by decide +kernel
theorem dX11_name_189 : decode cX11_name 189 = .ok (.iconst 1, 1) := by decide +kernel
theorem dX11_name_190 : decode cX11_name 190 = .ok (.iadd, 1) := by decide +kernel
theorem dX11_name_191 : decode cX11_name 191 = .ok (.istore 6, 2) := by decide +kernel
theorem dX11_name_193 : decode cX11_name 193 = .ok (.goto (-114), 3) := by decide +kernel
theorem dX11_name_196 : decode cX11_name 196 = .ok (.iinc 5 1, 3) := by decide +kernel
theorem dX11_name_199 : decode cX11_name 199 = .ok (.goto (-156), 3) := by decide +kernel
theorem dX11_name_202 : decode cX11_name 202 = .ok (.iconst 0, 1) := by decide +kernel
theorem dX11_name_203 : decode cX11_name 203 = .ok (.istore 5, 2) := by decide +kernel
theorem dX11_name_205 : decode cX11_name 205 = .ok (.iload 5, 2) := by decide +kernel
theorem dX11_name_207 : decode cX11_name 207 = .ok (.aload_n 0, 1) := by decide +kernel
theorem dX11_name_208 : decode cX11_name 208 = .ok (.getfield 160, 3) := by decide +kernel
theorem dX11_name_211 : decode cX11_name 211 = .ok (.if_icmp .ge 30, 3) := by decide +kernel
theorem dX11_name_214 : decode cX11_name 214 = .ok (.aload_n 0, 1) := by decide +kernel
theorem dX11_name_215 : decode cX11_name 215 = .ok (.getfield 55, 3) := by decide +kernel
theorem dX11_name_218 : decode cX11_name 218 = .ok (.iload 5, 2) := by decide +kernel
theorem dX11_name_220 : decode cX11_name 220 = .ok (.aload_n 0, 1) := by decide +kernel
theorem dX11_name_221 : decode cX11_name 221 = .ok (.getfield 13, 3) := by decide +kernel
theorem dX11_name_224 : decode cX11_name 224 = .ok (.bipush 20, 2) := by decide +kernel
theorem dX11_name_226 : decode cX11_name 226 = .ok (.iload_n 2, 1) := by decide +kernel
theorem dX11_name_227 : decode cX11_name 227 = .ok (.imul, 1) := by decide +kernel
theorem dX11_name_228 : decode cX11_name 228 = .ok (.iload_n 3, 1) := by decide +kernel
theorem dX11_name_229 : decode cX11_name 229 = .ok (.iadd, 1) := by decide +kernel
theorem dX11_name_230 : decode cX11_name 230 = .ok (.iload 5, 2) := by decide +kernel
theorem dX11_name_232 : decode cX11_name 232 = .ok (.iadd, 1) := by decide +kernel
theorem dX11_name_233 : decode cX11_name 233 = .ok (.baload, 1) := by decide +kernel
theorem dX11_name_234 : decode cX11_name 234 = .ok (.bastore, 1) := by decide +kernel
theorem dX11_name_235 : decode cX11_name 235 = .ok (.iinc 5 1, 3) := by decide +kernel
theorem dX11_name_238 : decode cX11_name 238 = .ok (.goto (-33), 3) := by decide +kernel
theorem dX11_name_241 : decode cX11_name 241 = .ok (.aload_n 0, 1) := by decide +kernel
theorem dX11_name_242 : decode cX11_name 242 = .ok (.getfield 160, 3) := by decide +kernel
theorem dX11_name_245 : decode cX11_name 245 = .ok (.ireturn, 1) := by decide +kernel
theorem dX11_octet_0 : decode cX11_octet 0 = .ok (.aload_n 0, 1) := by decide +kernel
theorem dX11_octet_1 : decode cX11_octet 1 = .ok (.iconst 0, 1) := by decide +kernel
theorem dX11_octet_2 : decode cX11_octet 2 = .ok (.putfield 73, 3) := by decide +kernel
theorem dX11_octet_5 : decode cX11_octet 5 = .ok (.iload_n 1, 1) := by decide +kernel
theorem dX11_octet_6 : decode cX11_octet 6 = .ok (.ifCond .lt 20, 3) := by decide +kernel
theorem dX11_octet_9 : decode cX11_octet 9 = .ok (.iload_n 1, 1) := by decide +kernel
theorem dX11_octet_10 : decode cX11_octet 10 = .ok (.aload_n 0, 1) := by decide +kernel
theorem dX11_octet_11 : decode cX11_octet 11 = .ok (.getfield 160, 3) := by decide +kernel
theorem dX11_octet_14 : decode cX11_octet 14 = .ok (.if_icmp .ge 12, 3) := by decide +kernel
theorem dX11_octet_17 : decode cX11_octet 17 = .ok (.aload_n 0, 1) := by decide +kernel
theorem dX11_octet_18 : decode cX11_octet 18 = .ok (.getfield 55, 3) := by decide +kernel
theorem dX11_octet_21 : decode cX11_octet 21 = .ok (.iload_n 1, 1) := by decide +kernel
theorem dX11_octet_22 : decode cX11_octet 22 = .ok (.baload, 1) := by decide +kernel
theorem dX11_octet_23 : decode cX11_octet 23 = .ok (.goto 4, 3) := by decide +kernel
theorem dX11_octet_26 : decode cX11_octet 26 = .ok (.iconst (-1), 1) := by decide +kernel
theorem dX11_octet_27 : decode cX11_octet 27 = .ok (.ireturn, 1) := by decide +kernel
theorem dX11_face_0 : decode cX11_face 0 = .ok (.aload_n 0, 1) := by decide +kernel
theorem dX11_face_1 : decode cX11_face 1 = .ok (.iconst 0, 1) := by decide +kernel
theorem dX11_face_2 : decode cX11_face 2 = .ok (.putfield 73, 3) := by decide +kernel
theorem dX11_face_5 : decode cX11_face 5 = .ok (.aload_n 0, 1) := by decide +kernel
theorem dX11_face_6 : decode cX11_face 6 = .ok (.aload_n 0, 1) := by decide +kernel
theorem dX11_face_7 : decode cX11_face 7 = .ok (.iload_n 1, 1) := by decide +kernel
theorem dX11_face_8 : decode cX11_face 8 = .ok (.invokevirtual 109, 3) := by decide +kernel
theorem dX11_face_11 : decode cX11_face 11 = .ok (.ifCond .ne 7, 3) := by decide +kernel
theorem dX11_face_14 : decode cX11_face 14 = .ok (.iconst 1, 1) := by decide +kernel
theorem dX11_face_15 : decode cX11_face 15 = .ok (.goto 4, 3) := by decide +kernel
theorem dX11_face_18 : decode cX11_face 18 = .ok (.iconst 0, 1) := by decide +kernel
theorem dX11_face_19 : decode cX11_face 19 = .ok (.iconst 1, 1) := by decide +kernel
theorem dX11_face_20 : decode cX11_face 20 = .ok (.invokevirtual 79, 3) := by decide +kernel
theorem dX11_face_23 : decode cX11_face 23 = .ok (.ifCond .eq 5, 3) := by decide +kernel
theorem dX11_face_26 : decode cX11_face 26 = .ok (.iconst 0, 1) := by decide +kernel
theorem dX11_face_27 : decode cX11_face 27 = .ok (.ireturn, 1) := by decide +kernel
theorem dX11_face_28 : decode cX11_face 28 = .ok (.iload_n 2, 1) := by decide +kernel
theorem dX11_face_29 : decode cX11_face 29 = .ok (.istore_n 3, 1) := by decide +kernel
theorem dX11_face_30 : decode cX11_face 30 = .ok (.iconst 0, 1) := by decide +kernel
theorem dX11_face_31 : decode cX11_face 31 = .ok (.istore 4, 2) := by decide +kernel
theorem dX11_face_33 : decode cX11_face 33 = .ok (.iload 4, 2) := by decide +kernel
theorem dX11_face_35 : decode cX11_face 35 = .ok (.aload_n 0, 1) := by decide +kernel
theorem dX11_face_36 : decode cX11_face 36 = .ok (.getfield 83, 3) := by decide +kernel
theorem dX11_face_39 : decode cX11_face 39 = .ok (.if_icmp .ge 132, 3) := by decide +kernel
theorem dX11_face_42 : decode cX11_face 42 = .ok (.iload_n 2, 1) := by decide +kernel
theorem dX11_face_43 : decode cX11_face 43 = .ok (.ifCond .lt 128, 3) := by decide +kernel
theorem dX11_face_46 : decode cX11_face 46 = .ok (.aload_n 0, 1) := by decide +kernel
theorem dX11_face_47 : decode cX11_face 47 = .ok (.getfield 36, 3) := by decide +kernel
theorem dX11_face_50 : decode cX11_face 50 = .ok (.iload 4, 2) := by decide +kernel
theorem dX11_face_52 : decode cX11_face 52 = .ok (.baload, 1) := by decide +kernel
theorem dX11_face_53 : decode cX11_face 53 = .ok (.ifCond .ne 112, 3) := by decide +kernel
theorem dX11_face_56 : decode cX11_face 56 = .ok (.aload_n 0, 1) := by decide +kernel
theorem dX11_face_57 : decode cX11_face 57 = .ok (.getfield 40, 3) := by decide +kernel
theorem dX11_face_60 : decode cX11_face 60 = .ok (.iload 4, 2) := by decide +kernel
theorem dX11_face_62 : decode cX11_face 62 = .ok (.iaload, 1) := by decide +kernel
theorem dX11_face_63 : decode cX11_face 63 = .ok (.iload_n 1, 1) := by decide +kernel
theorem dX11_face_64 : decode cX11_face 64 = .ok (.if_icmp .eq 6, 3) := by decide +kernel
theorem dX11_face_67 : decode cX11_face 67 = .ok (.goto 98, 3) := by decide +kernel
theorem dX11_face_70 : decode cX11_face 70 = .ok (.iconst 0, 1) := by decide +kernel
theorem dX11_face_71 : decode cX11_face 71 = .ok (.istore 5, 2) := by decide +kernel
theorem dX11_face_73 : decode cX11_face 73 = .ok (.iconst 0, 1) := by decide +kernel
theorem dX11_face_74 : decode cX11_face 74 = .ok (.istore 6, 2) := by decide +kernel
theorem dX11_face_76 : decode cX11_face 76 = .ok (.iload 6, 2) := by decide +kernel
theorem dX11_face_78 : decode cX11_face 78 = .ok (.aload_n 0, 1) := by decide +kernel
theorem dX11_face_79 : decode cX11_face 79 = .ok (.getfield 83, 3) := by decide +kernel
theorem dX11_face_82 : decode cX11_face 82 = .ok (.if_icmp .ge 65, 3) := by decide +kernel
theorem dX11_face_85 : decode cX11_face 85 = .ok (.iload 5, 2) := by decide +kernel
theorem dX11_face_87 : decode cX11_face 87 = .ok (.ifCond .ne 47, 3) := by decide +kernel
theorem dX11_face_90 : decode cX11_face 90 = .ok (.iload 6, 2) := by decide +kernel
theorem dX11_face_92 : decode cX11_face 92 = .ok (.iload 4, 2) := by decide +kernel
theorem dX11_face_94 : decode cX11_face 94 = .ok (.if_icmp .eq 44, 3) := by decide +kernel
theorem dX11_face_97 : decode cX11_face 97 = .ok (.aload_n 0, 1) := by decide +kernel
theorem dX11_face_98 : decode cX11_face 98 = .ok (.getfield 36, 3) := by decide +kernel
theorem dX11_face_101 : decode cX11_face 101 = .ok (.iload 6, 2) := by decide +kernel
theorem dX11_face_103 : decode cX11_face 103 = .ok (.baload, 1) := by decide +kernel
theorem dX11_face_104 : decode cX11_face 104 = .ok (.ifCond .ne 14, 3) := by decide +kernel
theorem dX11_face_107 : decode cX11_face 107 = .ok (.aload_n 0, 1) := by decide +kernel
theorem dX11_face_108 : decode cX11_face 108 = .ok (.getfield 40, 3) := by decide +kernel
theorem dX11_face_111 : decode cX11_face 111 = .ok (.iload 6, 2) := by decide +kernel
theorem dX11_face_113 : decode cX11_face 113 = .ok (.iaload, 1) := by decide +kernel
theorem dX11_face_114 : decode cX11_face 114 = .ok (.iload_n 1, 1) := by decide +kernel
theorem dX11_face_115 : decode cX11_face 115 = .ok (.if_icmp .eq 23, 3) := by decide +kernel
theorem dX11_face_118 : decode cX11_face 118 = .ok (.aload_n 0, 1) := by decide +kernel
theorem dX11_face_119 : decode cX11_face 119 = .ok (.getfield 20, 3) := by decide +kernel
theorem dX11_face_122 : decode cX11_face 122 = .ok (.iconst 0, 1) := by decide +kernel
theorem dX11_face_123 : decode cX11_face 123 = .ok (.iload 6, 2) := by decide +kernel
theorem dX11_face_125 : decode cX11_face 125 = .ok (.iload 4, 2) := by decide +kernel
theorem dX11_face_127 : decode cX11_face 127 = .ok (.invokestatic 100, 3) := by decide +kernel
theorem dX11_face_130 : decode cX11_face 130 = .ok (.iaload, 1) := by decide +kernel
theorem dX11_face_131 : decode cX11_face 131 = .ok (.ifCond .le 7, 3) := by decide +kernel
theorem dX11_face_134 : decode cX11_face 134 = .ok (.iconst 1, 1) := by decide +kernel
theorem dX11_face_135 : decode cX11_face 135 = .ok (.goto 4, 3) := by decide +kernel
theorem dX11_face_138 : decode cX11_face 138 = .ok (.iconst 0, 1) := by decide +kernel
theorem dX11_face_139 : decode cX11_face 139 = .ok (.istore 5, 2) := by decide +kernel
theorem dX11_face_141 : decode cX11_face 141 = .ok (.iinc 6 1, 3) := by decide +kernel
theorem dX11_face_144 : decode cX11_face 144 = .ok (.goto (-68), 3) := by decide +kernel
theorem dX11_face_147 : decode cX11_face 147 = .ok (.iload 5, 2) := by decide +kernel
theorem dX11_face_149 : decode cX11_face 149 = .ok (.ifCond .ne 6, 3) := by decide +kernel
theorem dX11_face_152 : decode cX11_face 152 = .ok (.goto 13, 3) := by decide +kernel
theorem dX11_face_155 : decode cX11_face 155 = .ok (.iload_n 3, 1) := by decide +kernel
theorem dX11_face_156 : decode cX11_face 156 = .ok (.ifCond .ne 6, 3) := by decide +kernel
theorem dX11_face_159 : decode cX11_face 159 = .ok (.iload 4, 2) := by decide +kernel
theorem dX11_face_161 : decode cX11_face 161 = .ok (.ireturn, 1) := by decide +kernel
theorem dX11_face_162 : decode cX11_face 162 = .ok (.iinc 3 (-1), 3) := by decide +kernel
theorem dX11_face_165 : decode cX11_face 165 = .ok (.iinc 4 1, 3) := by decide +kernel
theorem dX11_face_168 : decode cX11_face 168 = .ok (.goto (-135), 3) := by decide +kernel
theorem dX11_face_171 : decode cX11_face 171 = .ok (.iconst (-1), 1) := by decide +kernel
theorem dX11_face_172 : decode cX11_face 172 = .ok (.ireturn, 1) := by decide +kernel
theorem dX11_leads_0 : decode cX11_leads 0 = .ok (.iconst 0, 1) := by decide +kernel
theorem dX11_leads_1 : decode cX11_leads 1 = .ok (.istore_n 3, 1) := by decide +kernel
theorem dX11_leads_2 : decode cX11_leads 2 = .ok (.iload_n 3, 1) := by decide +kernel
theorem dX11_leads_3 : decode cX11_leads 3 = .ok (.aload_n 0, 1) := by decide +kernel
theorem dX11_leads_4 : decode cX11_leads 4 = .ok (.getfield 83, 3) := by decide +kernel
theorem dX11_leads_7 : decode cX11_leads 7 = .ok (.if_icmp .ge 84, 3) := by decide +kernel
theorem dX11_leads_10 : decode cX11_leads 10 = .ok (.iconst 0, 1) := by decide +kernel
theorem dX11_leads_11 : decode cX11_leads 11 = .ok (.istore 4, 2) := by decide +kernel
theorem dX11_leads_13 : decode cX11_leads 13 = .ok (.iload 4, 2) := by decide +kernel
theorem dX11_leads_15 : decode cX11_leads 15 = .ok (.aload_n 0, 1) := by decide +kernel
theorem dX11_leads_16 : decode cX11_leads 16 = .ok (.getfield 83, 3) := by decide +kernel
theorem dX11_leads_19 : decode cX11_leads 19 = .ok (.if_icmp .ge 66, 3) := by decide +kernel
theorem dX11_leads_22 : decode cX11_leads 22 = .ok (.aload_n 0, 1) := by decide +kernel
theorem dX11_leads_23 : decode cX11_leads 23 = .ok (.getfield 36, 3) := by decide +kernel
theorem dX11_leads_26 : decode cX11_leads 26 = .ok (.iload_n 3, 1) := by decide +kernel
theorem dX11_leads_27 : decode cX11_leads 27 = .ok (.baload, 1) := by decide +kernel
theorem dX11_leads_28 : decode cX11_leads 28 = .ok (.ifCond .ne 51, 3) := by decide +kernel
theorem dX11_leads_31 : decode cX11_leads 31 = .ok (.aload_n 0, 1) := by decide +kernel
theorem dX11_leads_32 : decode cX11_leads 32 = .ok (.getfield 36, 3) := by decide +kernel
theorem dX11_leads_35 : decode cX11_leads 35 = .ok (.iload 4, 2) := by decide +kernel
theorem dX11_leads_37 : decode cX11_leads 37 = .ok (.baload, 1) := by decide +kernel
theorem dX11_leads_38 : decode cX11_leads 38 = .ok (.ifCond .ne 41, 3) := by decide +kernel
theorem dX11_leads_41 : decode cX11_leads 41 = .ok (.aload_n 0, 1) := by decide +kernel
theorem dX11_leads_42 : decode cX11_leads 42 = .ok (.getfield 40, 3) := by decide +kernel
theorem dX11_leads_45 : decode cX11_leads 45 = .ok (.iload_n 3, 1) := by decide +kernel
theorem dX11_leads_46 : decode cX11_leads 46 = .ok (.iaload, 1) := by decide +kernel
theorem dX11_leads_47 : decode cX11_leads 47 = .ok (.iload_n 1, 1) := by decide +kernel
theorem dX11_leads_48 : decode cX11_leads 48 = .ok (.if_icmp .ne 31, 3) := by decide +kernel
theorem dX11_leads_51 : decode cX11_leads 51 = .ok (.aload_n 0, 1) := by decide +kernel
theorem dX11_leads_52 : decode cX11_leads 52 = .ok (.getfield 40, 3) := by decide +kernel
theorem dX11_leads_55 : decode cX11_leads 55 = .ok (.iload 4, 2) := by decide +kernel
theorem dX11_leads_57 : decode cX11_leads 57 = .ok (.iaload, 1) := by decide +kernel
theorem dX11_leads_58 : decode cX11_leads 58 = .ok (.iload_n 2, 1) := by decide +kernel
theorem dX11_leads_59 : decode cX11_leads 59 = .ok (.if_icmp .ne 20, 3) := by decide +kernel
theorem dX11_leads_62 : decode cX11_leads 62 = .ok (.aload_n 0, 1) := by decide +kernel
theorem dX11_leads_63 : decode cX11_leads 63 = .ok (.getfield 20, 3) := by decide +kernel
theorem dX11_leads_66 : decode cX11_leads 66 = .ok (.iconst 0, 1) := by decide +kernel
theorem dX11_leads_67 : decode cX11_leads 67 = .ok (.iload_n 3, 1) := by decide +kernel
theorem dX11_leads_68 : decode cX11_leads 68 = .ok (.iload 4, 2) := by decide +kernel
theorem dX11_leads_70 : decode cX11_leads 70 = .ok (.invokestatic 100, 3) := by decide +kernel
theorem dX11_leads_73 : decode cX11_leads 73 = .ok (.iaload, 1) := by decide +kernel
theorem dX11_leads_74 : decode cX11_leads 74 = .ok (.ifCond .le 5, 3) := by decide +kernel
theorem dX11_leads_77 : decode cX11_leads 77 = .ok (.iconst 1, 1) := by decide +kernel
theorem dX11_leads_78 : decode cX11_leads 78 = .ok (.ireturn, 1) := by decide +kernel
theorem dX11_leads_79 : decode cX11_leads 79 = .ok (.iinc 4 1, 3) := by decide +kernel
theorem dX11_leads_82 : decode cX11_leads 82 = .ok (.goto (-69), 3) := by decide +kernel
theorem dX11_leads_85 : decode cX11_leads 85 = .ok (.iinc 3 1, 3) := by decide +kernel
theorem dX11_leads_88 : decode cX11_leads 88 = .ok (.goto (-86), 3) := by decide +kernel
theorem dX11_leads_91 : decode cX11_leads 91 = .ok (.iconst 0, 1) := by decide +kernel
theorem dX11_leads_92 : decode cX11_leads 92 = .ok (.ireturn, 1) := by decide +kernel
theorem dX11_reached_0 : decode cX11_reached 0 = .ok (.iconst 1, 1) := by decide +kernel
theorem dX11_reached_1 : decode cX11_reached 1 = .ok (.iload_n 1, 1) := by decide +kernel
theorem dX11_reached_2 : decode cX11_reached 2 = .ok (.ishl, 1) := by decide +kernel
theorem dX11_reached_3 : decode cX11_reached 3 = .ok (.istore_n 2, 1) := by decide +kernel
theorem dX11_reached_4 : decode cX11_reached 4 = .ok (.iconst 0, 1) := by decide +kernel
theorem dX11_reached_5 : decode cX11_reached 5 = .ok (.istore_n 3, 1) := by decide +kernel
theorem dX11_reached_6 : decode cX11_reached 6 = .ok (.iload_n 2, 1) := by decide +kernel
theorem dX11_reached_7 : decode cX11_reached 7 = .ok (.iload_n 3, 1) := by decide +kernel
theorem dX11_reached_8 : decode cX11_reached 8 = .ok (.if_icmp .eq 46, 3) := by decide +kernel
theorem dX11_reached_11 : decode cX11_reached 11 = .ok (.iload_n 2, 1) := by decide +kernel
theorem dX11_reached_12 : decode cX11_reached 12 = .ok (.istore_n 3, 1) := by decide +kernel
theorem dX11_reached_13 : decode cX11_reached 13 = .ok (.iconst 0, 1) := by decide +kernel
theorem dX11_reached_14 : decode cX11_reached 14 = .ok (.istore 4, 2) := by decide +kernel
theorem dX11_reached_16 : decode cX11_reached 16 = .ok (.iload 4, 2) := by decide +kernel
theorem dX11_reached_18 : decode cX11_reached 18 = .ok (.aload_n 0, 1) := by decide +kernel
theorem dX11_reached_19 : decode cX11_reached 19 = .ok (.getfield 33, 3) := by decide +kernel
theorem dX11_reached_22 : decode cX11_reached 22 = .ok (.if_icmp .ge 29, 3) := by decide +kernel
theorem dX11_reached_25 : decode cX11_reached 25 = .ok (.iload_n 3, 1) := by decide +kernel
theorem dX11_reached_26 : decode cX11_reached 26 = .ok (.iload 4, 2) := by decide +kernel
theorem dX11_reached_28 : decode cX11_reached 28 = .ok (.ishr, 1) := by decide +kernel
theorem dX11_reached_29 : decode cX11_reached 29 = .ok (.iconst 1, 1) := by decide +kernel
theorem dX11_reached_30 : decode cX11_reached 30 = .ok (.iand, 1) := by decide +kernel
theorem dX11_reached_31 : decode cX11_reached 31 = .ok (.iconst 1, 1) := by decide +kernel
theorem dX11_reached_32 : decode cX11_reached 32 = .ok (.if_icmp .ne 13, 3) := by decide +kernel
theorem dX11_reached_35 : decode cX11_reached 35 = .ok (.iload_n 2, 1) := by decide +kernel
theorem dX11_reached_36 : decode cX11_reached 36 = .ok (.aload_n 0, 1) := by decide +kernel
theorem dX11_reached_37 : decode cX11_reached 37 = .ok (.getfield 58, 3) := by decide +kernel
theorem dX11_reached_40 : decode cX11_reached 40 = .ok (.iload 4, 2) := by decide +kernel
theorem dX11_reached_42 : decode cX11_reached 42 = .ok (.iaload, 1) := by decide +kernel
theorem dX11_reached_43 : decode cX11_reached 43 = .ok (.ior, 1) := by decide +kernel
theorem dX11_reached_44 : decode cX11_reached 44 = .ok (.istore_n 2, 1) := by decide +kernel
theorem dX11_reached_45 : decode cX11_reached 45 = .ok (.iinc 4 1, 3) := by decide +kernel
theorem dX11_reached_48 : decode cX11_reached 48 = .ok (.goto (-32), 3) := by decide +kernel
theorem dX11_reached_51 : decode cX11_reached 51 = .ok (.goto (-45), 3) := by decide +kernel
theorem dX11_reached_54 : decode cX11_reached 54 = .ok (.iload_n 2, 1) := by decide +kernel
theorem dX11_reached_55 : decode cX11_reached 55 = .ok (.ireturn, 1) := by decide +kernel
theorem dX11_ring_0 : decode cX11_ring 0 = .ok (.aload_n 0, 1) := by decide +kernel
theorem dX11_ring_1 : decode cX11_ring 1 = .ok (.iconst 0, 1) := by decide +kernel
theorem dX11_ring_2 : decode cX11_ring 2 = .ok (.putfield 73, 3) := by decide +kernel
theorem dX11_ring_5 : decode cX11_ring 5 = .ok (.aload_n 0, 1) := by decide +kernel
theorem dX11_ring_6 : decode cX11_ring 6 = .ok (.aload_n 0, 1) := by decide +kernel
theorem dX11_ring_7 : decode cX11_ring 7 = .ok (.iload_n 1, 1) := by decide +kernel
theorem dX11_ring_8 : decode cX11_ring 8 = .ok (.invokevirtual 109, 3) := by decide +kernel
theorem dX11_ring_11 : decode cX11_ring 11 = .ok (.ifCond .ne 7, 3) := by decide +kernel
theorem dX11_ring_14 : decode cX11_ring 14 = .ok (.iconst 1, 1) := by decide +kernel
theorem dX11_ring_15 : decode cX11_ring 15 = .ok (.goto 4, 3) := by decide +kernel
theorem dX11_ring_18 : decode cX11_ring 18 = .ok (.iconst 0, 1) := by decide +kernel
theorem dX11_ring_19 : decode cX11_ring 19 = .ok (.iconst 1, 1) := by decide +kernel
theorem dX11_ring_20 : decode cX11_ring 20 = .ok (.invokevirtual 79, 3) := by decide +kernel
theorem dX11_ring_23 : decode cX11_ring 23 = .ok (.ifCond .eq 5, 3) := by decide +kernel
theorem dX11_ring_26 : decode cX11_ring 26 = .ok (.iconst 0, 1) := by decide +kernel
theorem dX11_ring_27 : decode cX11_ring 27 = .ok (.ireturn, 1) := by decide +kernel
theorem dX11_ring_28 : decode cX11_ring 28 = .ok (.iconst 0, 1) := by decide +kernel
theorem dX11_ring_29 : decode cX11_ring 29 = .ok (.istore_n 2, 1) := by decide +kernel
theorem dX11_ring_30 : decode cX11_ring 30 = .ok (.iload_n 2, 1) := by decide +kernel
theorem dX11_ring_31 : decode cX11_ring 31 = .ok (.aload_n 0, 1) := by decide +kernel
theorem dX11_ring_32 : decode cX11_ring 32 = .ok (.getfield 33, 3) := by decide +kernel
theorem dX11_ring_35 : decode cX11_ring 35 = .ok (.if_icmp .ge 62, 3) := by decide +kernel
theorem dX11_ring_38 : decode cX11_ring 38 = .ok (.aload_n 0, 1) := by decide +kernel
theorem dX11_ring_39 : decode cX11_ring 39 = .ok (.getfield 58, 3) := by decide +kernel
theorem dX11_ring_42 : decode cX11_ring 42 = .ok (.iload_n 2, 1) := by decide +kernel
theorem dX11_ring_43 : decode cX11_ring 43 = .ok (.iconst 0, 1) := by decide +kernel
theorem dX11_ring_44 : decode cX11_ring 44 = .ok (.iastore, 1) := by decide +kernel
theorem dX11_ring_45 : decode cX11_ring 45 = .ok (.iconst 0, 1) := by decide +kernel
theorem dX11_ring_46 : decode cX11_ring 46 = .ok (.istore_n 3, 1) := by decide +kernel
theorem dX11_ring_47 : decode cX11_ring 47 = .ok (.iload_n 3, 1) := by decide +kernel
theorem dX11_ring_48 : decode cX11_ring 48 = .ok (.aload_n 0, 1) := by decide +kernel
theorem dX11_ring_49 : decode cX11_ring 49 = .ok (.getfield 33, 3) := by decide +kernel
theorem dX11_ring_52 : decode cX11_ring 52 = .ok (.if_icmp .ge 39, 3) := by decide +kernel
theorem dX11_ring_55 : decode cX11_ring 55 = .ok (.aload_n 0, 1) := by decide +kernel
theorem dX11_ring_56 : decode cX11_ring 56 = .ok (.getfield 58, 3) := by decide +kernel
theorem dX11_ring_59 : decode cX11_ring 59 = .ok (.iload_n 2, 1) := by decide +kernel
theorem dX11_ring_60 : decode cX11_ring 60 = .ok (.dup2, 1) := by decide +kernel
theorem dX11_ring_61 : decode cX11_ring 61 = .ok (.iaload, 1) := by decide +kernel
theorem dX11_ring_62 : decode cX11_ring 62 = .ok (.iload_n 2, 1) := by decide +kernel
theorem dX11_ring_63 : decode cX11_ring 63 = .ok (.iload_n 3, 1) := by decide +kernel
theorem dX11_ring_64 : decode cX11_ring 64 = .ok (.if_icmp .eq 18, 3) := by decide +kernel
theorem dX11_ring_67 : decode cX11_ring 67 = .ok (.aload_n 0, 1) := by decide +kernel
theorem dX11_ring_68 : decode cX11_ring 68 = .ok (.iload_n 2, 1) := by decide +kernel
theorem dX11_ring_69 : decode cX11_ring 69 = .ok (.iload_n 3, 1) := by decide +kernel
theorem dX11_ring_70 : decode cX11_ring 70 = .ok (.invokevirtual 167, 3) := by decide +kernel
theorem dX11_ring_73 : decode cX11_ring 73 = .ok (.ifCond .eq 9, 3) := by decide +kernel
theorem dX11_ring_76 : decode cX11_ring 76 = .ok (.iconst 1, 1) := by decide +kernel
theorem dX11_ring_77 : decode cX11_ring 77 = .ok (.iload_n 3, 1) := by decide +kernel
theorem dX11_ring_78 : decode cX11_ring 78 = .ok (.ishl, 1) := by decide +kernel
theorem dX11_ring_79 : decode cX11_ring 79 = .ok (.goto 4, 3) := by decide +kernel
theorem dX11_ring_82 : decode cX11_ring 82 = .ok (.iconst 0, 1) := by decide +kernel
theorem dX11_ring_83 : decode cX11_ring 83 = .ok (.ior, 1) := by decide +kernel
theorem dX11_ring_84 : decode cX11_ring 84 = .ok (.iastore, 1) := by decide +kernel
theorem dX11_ring_85 : decode cX11_ring 85 = .ok (.iinc 3 1, 3) := by decide +kernel
theorem dX11_ring_88 : decode cX11_ring 88 = .ok (.goto (-41), 3) := by decide +kernel
theorem dX11_ring_91 : decode cX11_ring 91 = .ok (.iinc 2 1, 3) := by decide +kernel
theorem dX11_ring_94 : decode cX11_ring 94 = .ok (.goto (-64), 3) := by decide +kernel
theorem dX11_ring_97 : decode cX11_ring 97 = .ok (.aload_n 0, 1) := by decide +kernel
theorem dX11_ring_98 : decode cX11_ring 98 = .ok (.iload_n 1, 1) := by decide +kernel
theorem dX11_ring_99 : decode cX11_ring 99 = .ok (.invokevirtual 170, 3) := by decide +kernel
theorem dX11_ring_102 : decode cX11_ring 102 = .ok (.istore_n 2, 1) := by decide +kernel
theorem dX11_ring_103 : decode cX11_ring 103 = .ok (.iconst 0, 1) := by decide +kernel
theorem dX11_ring_104 : decode cX11_ring 104 = .ok (.istore_n 3, 1) := by decide +kernel
theorem dX11_ring_105 : decode cX11_ring 105 = .ok (.iconst 0, 1) := by decide +kernel
theorem dX11_ring_106 : decode cX11_ring 106 = .ok (.istore 4, 2) := by decide +kernel
theorem dX11_ring_108 : decode cX11_ring 108 = .ok (.iload 4, 2) := by decide +kernel
theorem dX11_ring_110 : decode cX11_ring 110 = .ok (.aload_n 0, 1) := by decide +kernel
theorem dX11_ring_111 : decode cX11_ring 111 = .ok (.getfield 33, 3) := by decide +kernel
theorem dX11_ring_114 : decode cX11_ring 114 = .ok (.if_icmp .ge 44, 3) := by decide +kernel
theorem dX11_ring_117 : decode cX11_ring 117 = .ok (.iload_n 3, 1) := by decide +kernel
theorem dX11_ring_118 : decode cX11_ring 118 = .ok (.iload_n 2, 1) := by decide +kernel
theorem dX11_ring_119 : decode cX11_ring 119 = .ok (.iload 4, 2) := by decide +kernel
theorem dX11_ring_121 : decode cX11_ring 121 = .ok (.ishr, 1) := by decide +kernel
theorem dX11_ring_122 : decode cX11_ring 122 = .ok (.iconst 1, 1) := by decide +kernel
theorem dX11_ring_123 : decode cX11_ring 123 = .ok (.iand, 1) := by decide +kernel
theorem dX11_ring_124 : decode cX11_ring 124 = .ok (.iconst 1, 1) := by decide +kernel
theorem dX11_ring_125 : decode cX11_ring 125 = .ok (.if_icmp .ne 24, 3) := by decide +kernel
theorem dX11_ring_128 : decode cX11_ring 128 = .ok (.aload_n 0, 1) := by decide +kernel
theorem dX11_ring_129 : decode cX11_ring 129 = .ok (.iload 4, 2) := by decide +kernel
theorem dX11_ring_131 : decode cX11_ring 131 = .ok (.invokevirtual 170, 3) := by decide +kernel
theorem dX11_ring_134 : decode cX11_ring 134 = .ok (.iload_n 1, 1) := by decide +kernel
theorem dX11_ring_135 : decode cX11_ring 135 = .ok (.ishr, 1) := by decide +kernel
theorem dX11_ring_136 : decode cX11_ring 136 = .ok (.iconst 1, 1) := by decide +kernel
theorem dX11_ring_137 : decode cX11_ring 137 = .ok (.iand, 1) := by decide +kernel
theorem dX11_ring_138 : decode cX11_ring 138 = .ok (.iconst 1, 1) := by decide +kernel
theorem dX11_ring_139 : decode cX11_ring 139 = .ok (.if_icmp .ne 10, 3) := by decide +kernel
theorem dX11_ring_142 : decode cX11_ring 142 = .ok (.iconst 1, 1) := by decide +kernel
theorem dX11_ring_143 : decode cX11_ring 143 = .ok (.iload 4, 2) := by decide +kernel
theorem dX11_ring_145 : decode cX11_ring 145 = .ok (.ishl, 1) := by decide +kernel
theorem dX11_ring_146 : decode cX11_ring 146 = .ok (.goto 4, 3) := by decide +kernel
theorem dX11_ring_149 : decode cX11_ring 149 = .ok (.iconst 0, 1) := by decide +kernel
theorem dX11_ring_150 : decode cX11_ring 150 = .ok (.ior, 1) := by decide +kernel
theorem dX11_ring_151 : decode cX11_ring 151 = .ok (.istore_n 3, 1) := by decide +kernel
theorem dX11_ring_152 : decode cX11_ring 152 = .ok (.iinc 4 1, 3) := by decide +kernel
theorem dX11_ring_155 : decode cX11_ring 155 = .ok (.goto (-47), 3) := by decide +kernel
theorem dX11_ring_158 : decode cX11_ring 158 = .ok (.iload_n 3, 1) := by decide +kernel
theorem dX11_ring_159 : decode cX11_ring 159 = .ok (.ireturn, 1) := by decide +kernel
theorem dX11_has_0 : decode cX11_has 0 = .ok (.iload_n 2, 1) := by decide +kernel
theorem dX11_has_1 : decode cX11_has 1 = .ok (.bipush 20, 2) := by decide +kernel
theorem dX11_has_3 : decode cX11_has 3 = .ok (.if_icmp .ge 14, 3) := by decide +kernel
theorem dX11_has_6 : decode cX11_has 6 = .ok (.aload_n 0, 1) := by decide +kernel
