theorem dX10_put_21 : decode cX10_put 21 = .ok (.getfield 166, 3) := by decide +kernel
theorem dX10_put_24 : decode cX10_put 24 = .ok (.istore 4, 2) := by decide +kernel
theorem dX10_put_26 : decode cX10_put 26 = .ok (.aload_n 3, 1) := by decide +kernel
theorem dX10_put_27 : decode cX10_put 27 = .ok (.iload_n 2, 1) := by decide +kernel
theorem dX10_put_28 : decode cX10_put 28 = .ok (.putfield 166, 3) := by decide +kernel
theorem dX10_put_31 : decode cX10_put 31 = .ok (.iload 4, 2) := by decide +kernel
theorem dX10_put_33 : decode cX10_put 33 = .ok (.ireturn, 1) := by decide +kernel
theorem dX10_cost_0 : decode cX10_cost 0 = .ok (.aload_n 0, 1) := by decide +kernel
theorem dX10_cost_1 : decode cX10_cost 1 = .ok (.getfield 24, 3) := by decide +kernel
theorem dX10_cost_4 : decode cX10_cost 4 = .ok (.invokevirtual 172, 3) := by decide +kernel
theorem dX10_cost_7 : decode cX10_cost 7 = .ok (.lreturn, 1) := by decide +kernel
theorem dX10_better_0 : decode cX10_better 0 = .ok (.aload_n 0, 1) := by decide +kernel
theorem dX10_better_1 : decode cX10_better 1 = .ok (.getfield 40, 3) := by decide +kernel
theorem dX10_better_4 : decode cX10_better 4 = .ok (.invokevirtual 176, 3) := by decide +kernel
theorem dX10_better_7 : decode cX10_better 7 = .ok (.ireturn, 1) := by decide +kernel
theorem dX10_best_0 : decode cX10_best 0 = .ok (.aload_n 0, 1) := by decide +kernel
theorem dX10_best_1 : decode cX10_best 1 = .ok (.getfield 47, 3) := by decide +kernel
theorem dX10_best_4 : decode cX10_best 4 = .ok (.invokevirtual 180, 3) := by decide +kernel
theorem dX10_best_7 : decode cX10_best 7 = .ok (.lreturn, 1) := by decide +kernel
theorem dX10_border_0 : decode cX10_border 0 = .ok (.aload_n 0, 1) := by decide +kernel
theorem dX10_border_1 : decode cX10_border 1 = .ok (.iload_n 1, 1) := by decide +kernel
theorem dX10_border_2 : decode cX10_border 2 = .ok (.invokevirtual 124, 3) := by decide +kernel
theorem dX10_border_5 : decode cX10_border 5 = .ok (.astore_n 2, 1) := by decide +kernel
theorem dX10_border_6 : decode cX10_border 6 = .ok (.aload_n 2, 1) := by decide +kernel
theorem dX10_border_7 : decode cX10_border 7 = .ok (.getfield 162, 3) := by decide +kernel
theorem dX10_border_10 : decode cX10_border 10 = .ok (.ifCond .eq 9, 3) := by decide +kernel
theorem dX10_border_13 : decode cX10_border 13 = .ok (.ldc2_w 183, 3) := by decide +kernel
theorem dX10_border_16 : decode cX10_border 16 = .ok (.goto 11, 3) := by decide +kernel
theorem dX10_border_19 : decode cX10_border 19 = .ok (.aload_n 0, 1) := by decide +kernel
theorem dX10_border_20 : decode cX10_border 20 = .ok (.getfield 40, 3) := by decide +kernel
theorem dX10_border_23 : decode cX10_border 23 = .ok (.aload_n 2, 1) := by decide +kernel
theorem dX10_border_24 : decode cX10_border 24 = .ok (.invokevirtual 185, 3) := by decide +kernel
theorem dX10_border_27 : decode cX10_border 27 = .ok (.lreturn, 1) := by decide +kernel
theorem dX10_name_0 : decode cX10_name 0 = .ok (.aload_n 0, 1) := by decide +kernel
theorem dX10_name_1 : decode cX10_name 1 = .ok (.iload_n 1, 1) := by decide +kernel
theorem dX10_name_2 : decode cX10_name 2 = .ok (.invokevirtual 169, 3) := by decide +kernel
theorem dX10_name_5 : decode cX10_name 5 = .ok (.aload_n 0, 1) := by decide +kernel
theorem dX10_name_6 : decode cX10_name 6 = .ok (.getfield 24, 3) := by decide +kernel
theorem dX10_name_9 : decode cX10_name 9 = .ok (.invokevirtual 189, 3) := by decide +kernel
theorem dX10_name_12 : decode cX10_name 12 = .ok (.aload_n 0, 1) := by decide +kernel
theorem dX10_name_13 : decode cX10_name 13 = .ok (.getfield 18, 3) := by decide +kernel
theorem dX10_name_16 : decode cX10_name 16 = .ok (.invokevirtual 96, 3) := by decide +kernel
theorem dX10_name_19 : decode cX10_name 19 = .ok (.aload_n 0, 1) := by decide +kernel
theorem dX10_name_20 : decode cX10_name 20 = .ok (.getfield 31, 3) := by decide +kernel
theorem dX10_name_23 : decode cX10_name 23 = .ok (.aload_n 0, 1) := by decide +kernel
theorem dX10_name_24 : decode cX10_name 24 = .ok (.getfield 24, 3) := by decide +kernel
theorem dX10_name_27 : decode cX10_name 27 = .ok (.getfield 192, 3) := by decide +kernel
theorem dX10_name_30 : decode cX10_name 30 = .ok (.iload_n 1, 1) := by decide +kernel
theorem dX10_name_31 : decode cX10_name 31 = .ok (.laload, 1) := by decide +kernel
theorem dX10_name_32 : decode cX10_name 32 = .ok (.aload_n 0, 1) := by decide +kernel
theorem dX10_name_33 : decode cX10_name 33 = .ok (.getfield 24, 3) := by decide +kernel
theorem dX10_name_36 : decode cX10_name 36 = .ok (.invokevirtual 196, 3) := by decide +kernel
theorem dX10_name_39 : decode cX10_name 39 = .ok (.aload_n 0, 1) := by decide +kernel
theorem dX10_name_40 : decode cX10_name 40 = .ok (.getfield 24, 3) := by decide +kernel
theorem dX10_name_43 : decode cX10_name 43 = .ok (.getfield 192, 3) := by decide +kernel
theorem dX10_name_46 : decode cX10_name 46 = .ok (.iload_n 1, 1) := by decide +kernel
theorem dX10_name_47 : decode cX10_name 47 = .ok (.laload, 1) := by decide +kernel
theorem dX10_name_48 : decode cX10_name 48 = .ok (.ldc2_w 199, 3) := by decide +kernel
theorem dX10_name_51 : decode cX10_name 51 = .ok (.lxor, 1) := by decide +kernel
theorem dX10_name_52 : decode cX10_name 52 = .ok (.land, 1) := by decide +kernel
theorem dX10_name_53 : decode cX10_name 53 = .ok (.invokevirtual 201, 3) := by decide +kernel
theorem dX10_name_56 : decode cX10_name 56 = .ok (.astore_n 2, 1) := by decide +kernel
theorem dX10_name_57 : decode cX10_name 57 = .ok (.aload_n 2, 1) := by decide +kernel
theorem dX10_name_58 : decode cX10_name 58 = .ok (.ifnull 14, 3) := by decide +kernel
theorem dX10_name_61 : decode cX10_name 61 = .ok (.aload_n 0, 1) := by decide +kernel
theorem dX10_name_62 : decode cX10_name 62 = .ok (.getfield 18, 3) := by decide +kernel
theorem dX10_name_65 : decode cX10_name 65 = .ok (.aload_n 2, 1) := by decide +kernel
theorem dX10_name_66 : decode cX10_name 66 = .ok (.getfield 205, 3) := by decide +kernel
theorem dX10_name_69 : decode cX10_name 69 = .ok (.invokevirtual 210, 3) := by decide +kernel
theorem dX10_name_72 : decode cX10_name 72 = .ok (.aload_n 0, 1) := by decide +kernel
theorem dX10_name_73 : decode cX10_name 73 = .ok (.getfield 18, 3) := by decide +kernel
theorem dX10_name_76 : decode cX10_name 76 = .ok (.getfield 72, 3) := by decide +kernel
theorem dX10_name_79 : decode cX10_name 79 = .ok (.ireturn, 1) := by decide +kernel
theorem dX10_octet_0 : decode cX10_octet 0 = .ok (.aload_n 0, 1) := by decide +kernel
theorem dX10_octet_1 : decode cX10_octet 1 = .ok (.getfield 18, 3) := by decide +kernel
theorem dX10_octet_4 : decode cX10_octet 4 = .ok (.iload_n 1, 1) := by decide +kernel
theorem dX10_octet_5 : decode cX10_octet 5 = .ok (.invokevirtual 214, 3) := by decide +kernel
theorem dX10_octet_8 : decode cX10_octet 8 = .ok (.ireturn, 1) := by decide +kernel
theorem dX10_face_0 : decode cX10_face 0 = .ok (.aload_n 0, 1) := by decide +kernel
theorem dX10_face_1 : decode cX10_face 1 = .ok (.iload_n 1, 1) := by decide +kernel
theorem dX10_face_2 : decode cX10_face 2 = .ok (.invokevirtual 169, 3) := by decide +kernel
theorem dX10_face_5 : decode cX10_face 5 = .ok (.aload_n 0, 1) := by decide +kernel
theorem dX10_face_6 : decode cX10_face 6 = .ok (.getfield 54, 3) := by decide +kernel
theorem dX10_face_9 : decode cX10_face 9 = .ok (.iload_n 1, 1) := by decide +kernel
theorem dX10_face_10 : decode cX10_face 10 = .ok (.iload_n 2, 1) := by decide +kernel
theorem dX10_face_11 : decode cX10_face 11 = .ok (.invokevirtual 218, 3) := by decide +kernel
theorem dX10_face_14 : decode cX10_face 14 = .ok (.ireturn, 1) := by decide +kernel
theorem dX10_ring_0 : decode cX10_ring 0 = .ok (.aload_n 0, 1) := by decide +kernel
theorem dX10_ring_1 : decode cX10_ring 1 = .ok (.iload_n 1, 1) := by decide +kernel
theorem dX10_ring_2 : decode cX10_ring 2 = .ok (.invokevirtual 169, 3) := by decide +kernel
theorem dX10_ring_5 : decode cX10_ring 5 = .ok (.aload_n 0, 1) := by decide +kernel
theorem dX10_ring_6 : decode cX10_ring 6 = .ok (.getfield 54, 3) := by decide +kernel
theorem dX10_ring_9 : decode cX10_ring 9 = .ok (.iload_n 1, 1) := by decide +kernel
theorem dX10_ring_10 : decode cX10_ring 10 = .ok (.invokevirtual 221, 3) := by decide +kernel
theorem dX10_ring_13 : decode cX10_ring 13 = .ok (.ireturn, 1) := by decide +kernel
theorem dX10_change_0 : decode cX10_change 0 = .ok (.iload_n 1, 1) := by decide +kernel
theorem dX10_change_1 : decode cX10_change 1 = .ok (.i2l, 1) := by decide +kernel
theorem dX10_change_2 : decode cX10_change 2 = .ok (.iload_n 2, 1) := by decide +kernel
theorem dX10_change_3 : decode cX10_change 3 = .ok (.i2l, 1) := by decide +kernel
theorem dX10_change_4 : decode cX10_change 4 = .ok (.bipush 20, 2) := by decide +kernel
theorem dX10_change_6 : decode cX10_change 6 = .ok (.lshl, 1) := by decide +kernel
theorem dX10_change_7 : decode cX10_change 7 = .ok (.lor, 1) := by decide +kernel
theorem dX10_change_8 : decode cX10_change 8 = .ok (.lstore_n 3, 1) := by decide +kernel
theorem dX10_change_9 : decode cX10_change 9 = .ok (.iload_n 1, 1) := by decide +kernel
theorem dX10_change_10 : decode cX10_change 10 = .ok (.ldc 224, 2) := by decide +kernel
theorem dX10_change_12 : decode cX10_change 12 = .ok (.iand, 1) := by decide +kernel
theorem dX10_change_13 : decode cX10_change 13 = .ok (.ifCond .ne 24, 3) := by decide +kernel
theorem dX10_change_16 : decode cX10_change 16 = .ok (.iload_n 2, 1) := by decide +kernel
theorem dX10_change_17 : decode cX10_change 17 = .ok (.ldc 224, 2) := by decide +kernel
theorem dX10_change_19 : decode cX10_change 19 = .ok (.iand, 1) := by decide +kernel
theorem dX10_change_20 : decode cX10_change 20 = .ok (.ifCond .ne 17, 3) := by decide +kernel
theorem dX10_change_23 : decode cX10_change 23 = .ok (.lload_n 3, 1) := by decide +kernel
theorem dX10_change_24 : decode cX10_change 24 = .ok (.aload_n 0, 1) := by decide +kernel
theorem dX10_change_25 : decode cX10_change 25 = .ok (.getfield 24, 3) := by decide +kernel
theorem dX10_change_28 : decode cX10_change 28 = .ok (.getfield 86, 3) := by decide +kernel
theorem dX10_change_31 : decode cX10_change 31 = .ok (.lushr, 1) := by decide +kernel
theorem dX10_change_32 : decode cX10_change 32 = .ok (.lconst 0, 1) := by decide +kernel
theorem dX10_change_33 : decode cX10_change 33 = .ok (.lcmp, 1) := by decide +kernel
theorem dX10_change_34 : decode cX10_change 34 = .ok (.ifCond .eq 13, 3) := by decide +kernel
theorem dX10_change_37 : decode cX10_change 37 = .ok (.new 79, 3) := by decide +kernel
theorem dX10_change_40 : decode cX10_change 40 = .ok (.dup, 1) := by decide +kernel
theorem dX10_change_41 : decode cX10_change 41 = .ok (.ldc 225, 2) := by decide +kernel
theorem dX10_change_43 : decode cX10_change 43 = .ok (.invokespecial 83, 3) := by decide +kernel
theorem dX10_change_46 : decode cX10_change 46 = .ok (.athrow, 1) := by decide +kernel
theorem dX10_change_47 : decode cX10_change 47 = .ok (.aload_n 0, 1) := by decide +kernel
theorem dX10_change_48 : decode cX10_change 48 = .ok (.getfield 61, 3) := by decide +kernel
theorem dX10_change_51 : decode cX10_change 51 = .ok (.lload_n 3, 1) := by decide +kernel
theorem dX10_change_52 : decode cX10_change 52 = .ok (.invokevirtual 227, 3) := by decide +kernel
theorem dX10_change_55 : decode cX10_change 55 = .ok (.ireturn, 1) := by decide +kernel
theorem dX10_alone_0 : decode cX10_alone 0 = .ok (.aload_n 0, 1) := by decide +kernel
theorem dX10_alone_1 : decode cX10_alone 1 = .ok (.getfield 24, 3) := by decide +kernel
theorem dX10_alone_4 : decode cX10_alone 4 = .ok (.invokevirtual 189, 3) := by decide +kernel
theorem dX10_alone_7 : decode cX10_alone 7 = .ok (.aload_n 0, 1) := by decide +kernel
theorem dX10_alone_8 : decode cX10_alone 8 = .ok (.getfield 61, 3) := by decide +kernel
theorem dX10_alone_11 : decode cX10_alone 11 = .ok (.aload_n 0, 1) := by decide +kernel
theorem dX10_alone_12 : decode cX10_alone 12 = .ok (.getfield 24, 3) := by decide +kernel
theorem dX10_alone_15 : decode cX10_alone 15 = .ok (.invokevirtual 230, 3) := by decide +kernel
theorem dX10_alone_18 : decode cX10_alone 18 = .ok (.ireturn, 1) := by decide +kernel
theorem dX10_keep_0 : decode cX10_keep 0 = .ok (.aload_n 0, 1) := by decide +kernel
theorem dX10_keep_1 : decode cX10_keep 1 = .ok (.getfield 68, 3) := by decide +kernel
theorem dX10_keep_4 : decode cX10_keep 4 = .ok (.aload_n 0, 1) := by decide +kernel
theorem dX10_keep_5 : decode cX10_keep 5 = .ok (.getfield 24, 3) := by decide +kernel
theorem dX10_keep_8 : decode cX10_keep 8 = .ok (.invokevirtual 234, 3) := by decide +kernel
theorem dX10_keep_11 : decode cX10_keep 11 = .ok (.ireturn, 1) := by decide +kernel
theorem dX10_moves_0 : decode cX10_moves 0 = .ok (.aload_n 0, 1) := by decide +kernel
theorem dX10_moves_1 : decode cX10_moves 1 = .ok (.getfield 68, 3) := by decide +kernel
theorem dX10_moves_4 : decode cX10_moves 4 = .ok (.aload_n 0, 1) := by decide +kernel
theorem dX10_moves_5 : decode cX10_moves 5 = .ok (.getfield 24, 3) := by decide +kernel
theorem dX10_moves_8 : decode cX10_moves 8 = .ok (.invokevirtual 237, 3) := by decide +kernel
theorem dX10_moves_11 : decode cX10_moves 11 = .ok (.ireturn, 1) := by decide +kernel
theorem dX10_count_0 : decode cX10_count 0 = .ok (.iload_n 1, 1) := by decide +kernel
theorem dX10_count_1 : decode cX10_count 1 = .ok (.tableswitch 95 0 5 #[39, 47, 63, 71, 79, 87], 39) := by decide +kernel
theorem dX10_count_40 : decode cX10_count 40 = .ok (.aload_n 0, 1) := by decide +kernel
theorem dX10_count_41 : decode cX10_count 41 = .ok (.getfield 24, 3) := by decide +kernel
theorem dX10_count_44 : decode cX10_count 44 = .ok (.getfield 86, 3) := by decide +kernel
theorem dX10_count_47 : decode cX10_count 47 = .ok (.ireturn, 1) := by decide +kernel
theorem dX10_count_48 : decode cX10_count 48 = .ok (.aload_n 0, 1) := by decide +kernel
theorem dX10_count_49 : decode cX10_count 49 = .ok (.getfield 24, 3) := by decide +kernel
theorem dX10_count_52 : decode cX10_count 52 = .ok (.getfield 86, 3) := by decide +kernel
theorem dX10_count_55 : decode cX10_count 55 = .ok (.aload_n 0, 1) := by decide +kernel
theorem dX10_count_56 : decode cX10_count 56 = .ok (.getfield 24, 3) := by decide +kernel
theorem dX10_count_59 : decode cX10_count 59 = .ok (.getfield 240, 3) := by decide +kernel
theorem dX10_count_62 : decode cX10_count 62 = .ok (.isub, 1) := by decide +kernel
theorem dX10_count_63 : decode cX10_count 63 = .ok (.ireturn, 1) := by decide +kernel
theorem dX10_count_64 : decode cX10_count 64 = .ok (.aload_n 0, 1) := by decide +kernel
theorem dX10_count_65 : decode cX10_count 65 = .ok (.getfield 61, 3) := by decide +kernel
theorem dX10_count_68 : decode cX10_count 68 = .ok (.getfield 243, 3) := by decide +kernel
theorem dX10_count_71 : decode cX10_count 71 = .ok (.ireturn, 1) := by decide +kernel
theorem dX10_count_72 : decode cX10_count 72 = .ok (.aload_n 0, 1) := by decide +kernel
theorem dX10_count_73 : decode cX10_count 73 = .ok (.getfield 14, 3) := by decide +kernel
theorem dX10_count_76 : decode cX10_count 76 = .ok (.getfield 72, 3) := by decide +kernel
theorem dX10_count_79 : decode cX10_count 79 = .ok (.ireturn, 1) := by decide +kernel
theorem dX10_count_80 : decode cX10_count 80 = .ok (.aload_n 0, 1) := by decide +kernel
theorem dX10_count_81 : decode cX10_count 81 = .ok (.getfield 18, 3) := by decide +kernel
theorem dX10_count_84 : decode cX10_count 84 = .ok (.getfield 72, 3) := by decide +kernel
theorem dX10_count_87 : decode cX10_count 87 = .ok (.ireturn, 1) := by decide +kernel
theorem dX10_count_88 : decode cX10_count 88 = .ok (.aload_n 0, 1) := by decide +kernel
theorem dX10_count_89 : decode cX10_count 89 = .ok (.getfield 24, 3) := by decide +kernel
theorem dX10_count_92 : decode cX10_count 92 = .ok (.invokevirtual 244, 3) := by decide +kernel
theorem dX10_count_95 : decode cX10_count 95 = .ok (.ireturn, 1) := by decide +kernel
theorem dX10_count_96 : decode cX10_count 96 = .ok (.iconst (-1), 1) := by decide +kernel
theorem dX10_count_97 : decode cX10_count 97 = .ok (.ireturn, 1) := by decide +kernel
theorem dX10_known_0 : decode cX10_known 0 = .ok (.iload_n 1, 1) := by decide +kernel
theorem dX10_known_1 : decode cX10_known 1 = .ok (.ifCond .lt 14, 3) := by decide +kernel
theorem dX10_known_4 : decode cX10_known 4 = .ok (.iload_n 1, 1) := by decide +kernel
theorem dX10_known_5 : decode cX10_known 5 = .ok (.aload_n 0, 1) := by decide +kernel
theorem dX10_known_6 : decode cX10_known 6 = .ok (.getfield 24, 3) := by decide +kernel
theorem dX10_known_9 : decode cX10_known 9 = .ok (.getfield 86, 3) := by decide +kernel
theorem dX10_known_12 : decode cX10_known 12 = .ok (.if_icmp .lt 13, 3) := by decide +kernel
theorem dX10_known_15 : decode cX10_known 15 = .ok (.new 247, 3) := by decide +kernel
theorem dX10_known_18 : decode cX10_known 18 = .ok (.dup, 1) := by decide +kernel
theorem dX10_known_19 : decode cX10_known 19 = .ok (.ldc 249, 2) := by decide +kernel
theorem dX10_known_21 : decode cX10_known 21 = .ok (.invokespecial 251, 3) := by decide +kernel
theorem dX10_known_24 : decode cX10_known 24 = .ok (.athrow, 1) := by decide +kernel
theorem dX10_known_25 : decode cX10_known 25 = .ok (.aload_n 0, 1) := by decide +kernel
theorem dX10_known_26 : decode cX10_known 26 = .ok (.getfield 24, 3) := by decide +kernel
theorem dX10_known_29 : decode cX10_known 29 = .ok (.getfield 252, 3) := by decide +kernel
theorem dX10_known_32 : decode cX10_known 32 = .ok (.iload_n 1, 1) := by decide +kernel
theorem dX10_known_33 : decode cX10_known 33 = .ok (.aaload, 1) := by decide +kernel
theorem dX10_known_34 : decode cX10_known 34 = .ok (.areturn, 1) := by decide +kernel
theorem dX10_needRoom_0 : decode cX10_needRoom 0 = .ok (.iload_n 1, 1) := by decide +kernel
theorem dX10_needRoom_1 : decode cX10_needRoom 1 = .ok (.ifCond .lt 14, 3) := by decide +kernel
theorem dX10_needRoom_4 : decode cX10_needRoom 4 = .ok (.iload_n 1, 1) := by decide +kernel
theorem dX10_needRoom_5 : decode cX10_needRoom 5 = .ok (.aload_n 0, 1) := by decide +kernel
theorem dX10_needRoom_6 : decode cX10_needRoom 6 = .ok (.getfield 24, 3) := by decide +kernel
theorem dX10_needRoom_9 : decode cX10_needRoom 9 = .ok (.invokevirtual 256, 3) := by decide +kernel
theorem dX10_needRoom_12 : decode cX10_needRoom 12 = .ok (.if_icmp .lt 13, 3) := by decide +kernel
theorem dX10_needRoom_15 : decode cX10_needRoom 15 = .ok (.new 79, 3) := by decide +kernel
theorem dX10_needRoom_18 : decode cX10_needRoom 18 = .ok (.dup, 1) := by decide +kernel
theorem dX10_needRoom_19 : decode cX10_needRoom 19 = .ok (.ldc 157, 2) := by decide +kernel
theorem dX10_needRoom_21 : decode cX10_needRoom 21 = .ok (.invokespecial 83, 3) := by decide +kernel
theorem dX10_needRoom_24 : decode cX10_needRoom 24 = .ok (.athrow, 1) := by decide +kernel
theorem dX10_needRoom_25 : decode cX10_needRoom 25 = .ok (.return_, 1) := by decide +kernel
theorem dX11_init_0 : decode cX11_init 0 = .ok (.aload_n 0, 1) := by decide +kernel
theorem dX11_init_1 : decode cX11_init 1 = .ok (.invokespecial 1, 3) := by decide +kernel
theorem dX11_init_4 : decode cX11_init 4 = .ok (.aload_n 0, 1) := by decide +kernel
theorem dX11_init_5 : decode cX11_init 5 = .ok (.bipush 40, 2) := by decide +kernel
theorem dX11_init_7 : decode cX11_init 7 = .ok (.newarray .byte, 2) := by decide +kernel
theorem dX11_init_9 : decode cX11_init 9 = .ok (.putfield 7, 3) := by decide +kernel
theorem dX11_init_12 : decode cX11_init 12 = .ok (.aload_n 0, 1) := by decide +kernel
theorem dX11_init_13 : decode cX11_init 13 = .ok (.sipush 800, 3) := by decide +kernel
theorem dX11_init_16 : decode cX11_init 16 = .ok (.newarray .byte, 2) := by decide +kernel
theorem dX11_init_18 : decode cX11_init 18 = .ok (.putfield 13, 3) := by decide +kernel
theorem dX11_init_21 : decode cX11_init 21 = .ok (.aload_n 0, 1) := by decide +kernel
theorem dX11_init_22 : decode cX11_init 22 = .ok (.bipush 40, 2) := by decide +kernel
theorem dX11_init_24 : decode cX11_init 24 = .ok (.newarray .int, 2) := by decide +kernel
theorem dX11_init_26 : decode cX11_init 26 = .ok (.putfield 16, 3) := by decide +kernel
theorem dX11_init_29 : decode cX11_init 29 = .ok (.aload_n 0, 1) := by decide +kernel
theorem dX11_init_30 : decode cX11_init 30 = .ok (.sipush 4800, 3) := by decide +kernel
theorem dX11_init_33 : decode cX11_init 33 = .ok (.newarray .int, 2) := by decide +kernel
theorem dX11_init_35 : decode cX11_init 35 = .ok (.putfield 20, 3) := by decide +kernel
theorem dX11_init_38 : decode cX11_init 38 = .ok (.aload_n 0, 1) := by decide +kernel
theorem dX11_init_39 : decode cX11_init 39 = .ok (.iconst 3, 1) := by decide +kernel
theorem dX11_init_40 : decode cX11_init 40 = .ok (.newarray .int, 2) := by decide +kernel
theorem dX11_init_42 : decode cX11_init 42 = .ok (.dup, 1) := by decide +kernel
theorem dX11_init_43 : decode cX11_init 43 = .ok (.iconst 0, 1) := by decide +kernel
theorem dX11_init_44 : decode cX11_init 44 = .ok (.iconst 1, 1) := by decide +kernel
theorem dX11_init_45 : decode cX11_init 45 = .ok (.iastore, 1) := by decide +kernel
theorem dX11_init_46 : decode cX11_init 46 = .ok (.dup, 1) := by decide +kernel
theorem dX11_init_47 : decode cX11_init 47 = .ok (.iconst 1, 1) := by decide +kernel
theorem dX11_init_48 : decode cX11_init 48 = .ok (.iconst 1, 1) := by decide +kernel
theorem dX11_init_49 : decode cX11_init 49 = .ok (.iastore, 1) := by decide +kernel
theorem dX11_init_50 : decode cX11_init 50 = .ok (.dup, 1) := by decide +kernel
theorem dX11_init_51 : decode cX11_init 51 = .ok (.iconst 2, 1) := by decide +kernel
theorem dX11_init_52 : decode cX11_init 52 = .ok (.iconst 1, 1) := by decide +kernel
theorem dX11_init_53 : decode cX11_init 53 = .ok (.iastore, 1) := by decide +kernel
theorem dX11_init_54 : decode cX11_init 54 = .ok (.putfield 23, 3) := by decide +kernel
theorem dX11_init_57 : decode cX11_init 57 = .ok (.aload_n 0, 1) := by decide +kernel
theorem dX11_init_58 : decode cX11_init 58 = .ok (.iconst 1, 1) := by decide +kernel
theorem dX11_init_59 : decode cX11_init 59 = .ok (.putfield 26, 3) := by decide +kernel
theorem dX11_init_62 : decode cX11_init 62 = .ok (.aload_n 0, 1) := by decide +kernel
theorem dX11_init_63 : decode cX11_init 63 = .ok (.bipush 40, 2) := by decide +kernel
theorem dX11_init_65 : decode cX11_init 65 = .ok (.putfield 30, 3) := by decide +kernel
theorem dX11_init_68 : decode cX11_init 68 = .ok (.aload_n 0, 1) := by decide +kernel
theorem dX11_init_69 : decode cX11_init 69 = .ok (.iconst 2, 1) := by decide +kernel
theorem dX11_init_70 : decode cX11_init 70 = .ok (.putfield 33, 3) := by decide +kernel
theorem dX11_init_73 : decode cX11_init 73 = .ok (.aload_n 0, 1) := by decide +kernel
theorem dX11_init_74 : decode cX11_init 74 = .ok (.bipush 40, 2) := by decide +kernel
theorem dX11_init_76 : decode cX11_init 76 = .ok (.newarray .boolean, 2) := by decide +kernel
theorem dX11_init_78 : decode cX11_init 78 = .ok (.putfield 36, 3) := by decide +kernel
theorem dX11_init_81 : decode cX11_init 81 = .ok (.aload_n 0, 1) := by decide +kernel
theorem dX11_init_82 : decode cX11_init 82 = .ok (.bipush 40, 2) := by decide +kernel
theorem dX11_init_84 : decode cX11_init 84 = .ok (.newarray .int, 2) := by decide +kernel
theorem dX11_init_86 : decode cX11_init 86 = .ok (.putfield 40, 3) := by decide +kernel
theorem dX11_init_89 : decode cX11_init 89 = .ok (.aload_n 0, 1) := by decide +kernel
theorem dX11_init_90 : decode cX11_init 90 = .ok (.sipush 1600, 3) := by decide +kernel
theorem dX11_init_93 : decode cX11_init 93 = .ok (.newarray .int, 2) := by decide +kernel
theorem dX11_init_95 : decode cX11_init 95 = .ok (.putfield 43, 3) := by decide +kernel
theorem dX11_init_98 : decode cX11_init 98 = .ok (.aload_n 0, 1) := by decide +kernel
theorem dX11_init_99 : decode cX11_init 99 = .ok (.bipush 40, 2) := by decide +kernel
theorem dX11_init_101 : decode cX11_init 101 = .ok (.newarray .int, 2) := by decide +kernel
theorem dX11_init_103 : decode cX11_init 103 = .ok (.putfield 46, 3) := by decide +kernel
theorem dX11_init_106 : decode cX11_init 106 = .ok (.aload_n 0, 1) := by decide +kernel
theorem dX11_init_107 : decode cX11_init 107 = .ok (.bipush 9, 2) := by decide +kernel
theorem dX11_init_109 : decode cX11_init 109 = .ok (.newarray .int, 2) := by decide +kernel
theorem dX11_init_111 : decode cX11_init 111 = .ok (.putfield 49, 3) := by decide +kernel
theorem dX11_init_114 : decode cX11_init 114 = .ok (.aload_n 0, 1) := by decide +kernel
theorem dX11_init_115 : decode cX11_init 115 = .ok (.bipush 9, 2) := by decide +kernel
theorem dX11_init_117 : decode cX11_init 117 = .ok (.newarray .int, 2) := by decide +kernel
theorem dX11_init_119 : decode cX11_init 119 = .ok (.putfield 52, 3) := by decide +kernel
theorem dX11_init_122 : decode cX11_init 122 = .ok (.aload_n 0, 1) := by decide +kernel
theorem dX11_init_123 : decode cX11_init 123 = .ok (.bipush 20, 2) := by decide +kernel
theorem dX11_init_125 : decode cX11_init 125 = .ok (.newarray .byte, 2) := by decide +kernel
theorem dX11_init_127 : decode cX11_init 127 = .ok (.putfield 55, 3) := by decide +kernel
theorem dX11_init_130 : decode cX11_init 130 = .ok (.aload_n 0, 1) := by decide +kernel
theorem dX11_init_131 : decode cX11_init 131 = .ok (.bipush 6, 2) := by decide +kernel
theorem dX11_init_133 : decode cX11_init 133 = .ok (.newarray .int, 2) := by decide +kernel
theorem dX11_init_135 : decode cX11_init 135 = .ok (.putfield 58, 3) := by decide +kernel
theorem dX11_init_138 : decode cX11_init 138 = .ok (.aload_n 0, 1) := by decide +kernel
theorem dX11_init_139 : decode cX11_init 139 = .ok (.bipush 60, 2) := by decide +kernel
theorem dX11_init_141 : decode cX11_init 141 = .ok (.newarray .int, 2) := by decide +kernel
theorem dX11_init_143 : decode cX11_init 143 = .ok (.putfield 61, 3) := by decide +kernel
theorem dX11_init_146 : decode cX11_init 146 = .ok (.aload_n 0, 1) := by decide +kernel
theorem dX11_init_147 : decode cX11_init 147 = .ok (.bipush 60, 2) := by decide +kernel
theorem dX11_init_149 : decode cX11_init 149 = .ok (.newarray .int, 2) := by decide +kernel
theorem dX11_init_151 : decode cX11_init 151 = .ok (.putfield 64, 3) := by decide +kernel
theorem dX11_init_154 : decode cX11_init 154 = .ok (.aload_n 0, 1) := by decide +kernel
theorem dX11_init_155 : decode cX11_init 155 = .ok (.bipush 40, 2) := by decide +kernel
theorem dX11_init_157 : decode cX11_init 157 = .ok (.newarray .int, 2) := by decide +kernel
theorem dX11_init_159 : decode cX11_init 159 = .ok (.putfield 67, 3) := by decide +kernel
theorem dX11_init_162 : decode cX11_init 162 = .ok (.aload_n 0, 1) := by decide +kernel
theorem dX11_init_163 : decode cX11_init 163 = .ok (.bipush 36, 2) := by decide +kernel
theorem dX11_init_165 : decode cX11_init 165 = .ok (.newarray .int, 2) := by decide +kernel
theorem dX11_init_167 : decode cX11_init 167 = .ok (.putfield 70, 3) := by decide +kernel
theorem dX11_init_170 : decode cX11_init 170 = .ok (.return_, 1) := by decide +kernel
theorem dX11_thrown_0 : decode cX11_thrown 0 = .ok (.aload_n 0, 1) := by decide +kernel
theorem dX11_thrown_1 : decode cX11_thrown 1 = .ok (.getfield 73, 3) := by decide +kernel
theorem dX11_thrown_4 : decode cX11_thrown 4 = .ok (.ireturn, 1) := by decide +kernel
theorem dX11_bad_0 : decode cX11_bad 0 = .ok (.iload_n 1, 1) := by decide +kernel
theorem dX11_bad_1 : decode cX11_bad 1 = .ok (.ifCond .eq 8, 3) := by decide +kernel
theorem dX11_bad_4 : decode cX11_bad 4 = .ok (.aload_n 0, 1) := by decide +kernel
theorem dX11_bad_5 : decode cX11_bad 5 = .ok (.iload_n 2, 1) := by decide +kernel
theorem dX11_bad_6 : decode cX11_bad 6 = .ok (.putfield 73, 3) := by decide +kernel
theorem dX11_bad_9 : decode cX11_bad 9 = .ok (.iload_n 1, 1) := by decide +kernel
theorem dX11_bad_10 : decode cX11_bad 10 = .ok (.ireturn, 1) := by decide +kernel
theorem dX11_feed_0 : decode cX11_feed 0 = .ok (.aload_n 0, 1) := by decide +kernel
theorem dX11_feed_1 : decode cX11_feed 1 = .ok (.iconst 0, 1) := by decide +kernel
theorem dX11_feed_2 : decode cX11_feed 2 = .ok (.putfield 73, 3) := by decide +kernel
theorem dX11_feed_5 : decode cX11_feed 5 = .ok (.aload_n 0, 1) := by decide +kernel
theorem dX11_feed_6 : decode cX11_feed 6 = .ok (.getfield 76, 3) := by decide +kernel
theorem dX11_feed_9 : decode cX11_feed 9 = .ok (.bipush 20, 2) := by decide +kernel
theorem dX11_feed_11 : decode cX11_feed 11 = .ok (.iadd, 1) := by decide +kernel
theorem dX11_feed_12 : decode cX11_feed 12 = .ok (.bipush 40, 2) := by decide +kernel
theorem dX11_feed_14 : decode cX11_feed 14 = .ok (.if_icmp .le 5, 3) := by decide +kernel
theorem dX11_feed_17 : decode cX11_feed 17 = .ok (.iconst (-1), 1) := by decide +kernel
theorem dX11_feed_18 : decode cX11_feed 18 = .ok (.ireturn, 1) := by decide +kernel
theorem dX11_feed_19 : decode cX11_feed 19 = .ok (.iconst 0, 1) := by decide +kernel
theorem dX11_feed_20 : decode cX11_feed 20 = .ok (.istore 6, 2) := by decide +kernel
theorem dX11_feed_22 : decode cX11_feed 22 = .ok (.iload 6, 2) := by decide +kernel
theorem dX11_feed_24 : decode cX11_feed 24 = .ok (.iconst 5, 1) := by decide +kernel
theorem dX11_feed_25 : decode cX11_feed 25 = .ok (.if_icmp .ge 93, 3) := by decide +kernel
theorem dX11_feed_28 : decode cX11_feed 28 = .ok (.iload 6, 2) := by decide +kernel
theorem dX11_feed_30 : decode cX11_feed 30 = .ok (.ifCond .ne 7, 3) := by decide +kernel
theorem dX11_feed_33 : decode cX11_feed 33 = .ok (.iload_n 1, 1) := by decide +kernel
theorem dX11_feed_34 : decode cX11_feed 34 = .ok (.goto 36, 3) := by decide +kernel
theorem dX11_feed_37 : decode cX11_feed 37 = .ok (.iload 6, 2) := by decide +kernel
theorem dX11_feed_39 : decode cX11_feed 39 = .ok (.iconst 1, 1) := by decide +kernel
theorem dX11_feed_40 : decode cX11_feed 40 = .ok (.if_icmp .ne 7, 3) := by decide +kernel
theorem dX11_feed_43 : decode cX11_feed 43 = .ok (.iload_n 2, 1) := by decide +kernel
theorem dX11_feed_44 : decode cX11_feed 44 = .ok (.goto 26, 3) := by decide +kernel
theorem dX11_feed_47 : decode cX11_feed 47 = .ok (.iload 6, 2) := by decide +kernel
theorem dX11_feed_49 : decode cX11_feed 49 = .ok (.iconst 2, 1) := by decide +kernel
theorem dX11_feed_50 : decode cX11_feed 50 = .ok (.if_icmp .ne 7, 3) := by decide +kernel
theorem dX11_feed_53 : decode cX11_feed 53 = .ok (.iload_n 3, 1) := by decide +kernel
theorem dX11_feed_54 : decode cX11_feed 54 = .ok (.goto 16, 3) := by decide +kernel
theorem dX11_feed_57 : decode cX11_feed 57 = .ok (.iload 6, 2) := by decide +kernel
theorem dX11_feed_59 : decode cX11_feed 59 = .ok (.iconst 3, 1) := by decide +kernel
theorem dX11_feed_60 : decode cX11_feed 60 = .ok (.if_icmp .ne 8, 3) := by decide +kernel
theorem dX11_feed_63 : decode cX11_feed 63 = .ok (.iload 4, 2) := by decide +kernel
theorem dX11_feed_65 : decode cX11_feed 65 = .ok (.goto 5, 3) := by decide +kernel
theorem dX11_feed_68 : decode cX11_feed 68 = .ok (.iload 5, 2) := by decide +kernel
theorem dX11_feed_70 : decode cX11_feed 70 = .ok (.istore 7, 2) := by decide +kernel
theorem dX11_feed_72 : decode cX11_feed 72 = .ok (.bipush 24, 2) := by decide +kernel
theorem dX11_feed_74 : decode cX11_feed 74 = .ok (.istore 8, 2) := by decide +kernel
theorem dX11_feed_76 : decode cX11_feed 76 = .ok (.iload 8, 2) := by decide +kernel
theorem dX11_feed_78 : decode cX11_feed 78 = .ok (.ifCond .lt 34, 3) := by decide +kernel
theorem dX11_feed_81 : decode cX11_feed 81 = .ok (.aload_n 0, 1) := by decide +kernel
theorem dX11_feed_82 : decode cX11_feed 82 = .ok (.getfield 7, 3) := by decide +kernel
theorem dX11_feed_85 : decode cX11_feed 85 = .ok (.aload_n 0, 1) := by decide +kernel
theorem dX11_feed_86 : decode cX11_feed 86 = .ok (.getfield 76, 3) := by decide +kernel
theorem dX11_feed_89 : decode cX11_feed 89 = .ok (.iload 7, 2) := by decide +kernel
theorem dX11_feed_91 : decode cX11_feed 91 = .ok (.iload 8, 2) := by decide +kernel
theorem dX11_feed_93 : decode cX11_feed 93 = .ok (.ishr, 1) := by decide +kernel
theorem dX11_feed_94 : decode cX11_feed 94 = .ok (.i2b, 1) := by decide +kernel
theorem dX11_feed_95 : decode cX11_feed 95 = .ok (.bastore, 1) := by decide +kernel
theorem dX11_feed_96 : decode cX11_feed 96 = .ok (.aload_n 0, 1) := by decide +kernel
theorem dX11_feed_97 : decode cX11_feed 97 = .ok (.dup, 1) := by decide +kernel
theorem dX11_feed_98 : decode cX11_feed 98 = .ok (.getfield 76, 3) := by decide +kernel
theorem dX11_feed_101 : decode cX11_feed 101 = .ok (.iconst 1, 1) := by decide +kernel
theorem dX11_feed_102 : decode cX11_feed 102 = .ok (.iadd, 1) := by decide +kernel
theorem dX11_feed_103 : decode cX11_feed 103 = .ok (.putfield 76, 3) := by decide +kernel
theorem dX11_feed_106 : decode cX11_feed 106 = .ok (.iinc 8 (-8), 3) := by decide +kernel
theorem dX11_feed_109 : decode cX11_feed 109 = .ok (.goto (-33), 3) := by decide +kernel
theorem dX11_feed_112 : decode cX11_feed 112 = .ok (.iinc 6 1, 3) := by decide +kernel
theorem dX11_feed_115 : decode cX11_feed 115 = .ok (.goto (-93), 3) := by decide +kernel
theorem dX11_feed_118 : decode cX11_feed 118 = .ok (.aload_n 0, 1) := by decide +kernel
theorem dX11_feed_119 : decode cX11_feed 119 = .ok (.getfield 76, 3) := by decide +kernel
theorem dX11_feed_122 : decode cX11_feed 122 = .ok (.ireturn, 1) := by decide +kernel
theorem dX11_isName_0 : decode cX11_isName 0 = .ok (.iload_n 1, 1) := by decide +kernel
theorem dX11_isName_1 : decode cX11_isName 1 = .ok (.iconst 1, 1) := by decide +kernel
theorem dX11_isName_2 : decode cX11_isName 2 = .ok (.if_icmp .lt 13, 3) := by decide +kernel
theorem dX11_isName_5 : decode cX11_isName 5 = .ok (.iload_n 1, 1) := by decide +kernel
theorem dX11_isName_6 : decode cX11_isName 6 = .ok (.bipush 20, 2) := by decide +kernel
theorem dX11_isName_8 : decode cX11_isName 8 = .ok (.if_icmp .gt 7, 3) := by decide +kernel
theorem dX11_isName_11 : decode cX11_isName 11 = .ok (.iconst 1, 1) := by decide +kernel
theorem dX11_isName_12 : decode cX11_isName 12 = .ok (.goto 4, 3) := by decide +kernel
theorem dX11_isName_15 : decode cX11_isName 15 = .ok (.iconst 0, 1) := by decide +kernel
theorem dX11_isName_16 : decode cX11_isName 16 = .ok (.istore_n 2, 1) := by decide +kernel
theorem dX11_isName_17 : decode cX11_isName 17 = .ok (.iconst 0, 1) := by decide +kernel
theorem dX11_isName_18 : decode cX11_isName 18 = .ok (.istore_n 3, 1) := by decide +kernel
theorem dX11_isName_19 : decode cX11_isName 19 = .ok (.iload_n 3, 1) := by decide +kernel
theorem dX11_isName_20 : decode cX11_isName 20 = .ok (.iload_n 1, 1) := by decide +kernel
theorem dX11_isName_21 : decode cX11_isName 21 = .ok (.if_icmp .ge 52, 3) := by decide +kernel
theorem dX11_isName_24 : decode cX11_isName 24 = .ok (.iload_n 2, 1) := by decide +kernel
theorem dX11_isName_25 : decode cX11_isName 25 = .ok (.ifCond .eq 48, 3) := by decide +kernel
theorem dX11_isName_28 : decode cX11_isName 28 = .ok (.aload_n 0, 1) := by decide +kernel
theorem dX11_isName_29 : decode cX11_isName 29 = .ok (.getfield 7, 3) := by decide +kernel
theorem dX11_isName_32 : decode cX11_isName 32 = .ok (.iload_n 3, 1) := by decide +kernel
theorem dX11_isName_33 : decode cX11_isName 33 = .ok (.baload, 1) := by decide +kernel
theorem dX11_isName_34 : decode cX11_isName 34 = .ok (.bipush 97, 2) := by decide +kernel
theorem dX11_isName_36 : decode cX11_isName 36 = .ok (.if_icmp .lt 14, 3) := by decide +kernel
theorem dX11_isName_39 : decode cX11_isName 39 = .ok (.aload_n 0, 1) := by decide +kernel
theorem dX11_isName_40 : decode cX11_isName 40 = .ok (.getfield 7, 3) := by decide +kernel
theorem dX11_isName_43 : decode cX11_isName 43 = .ok (.iload_n 3, 1) := by decide +kernel
theorem dX11_isName_44 : decode cX11_isName 44 = .ok (.baload, 1) := by decide +kernel
theorem dX11_isName_45 : decode cX11_isName 45 = .ok (.bipush 122, 2) := by decide +kernel
theorem dX11_isName_47 : decode cX11_isName 47 = .ok (.if_icmp .le 14, 3) := by decide +kernel
theorem dX11_isName_50 : decode cX11_isName 50 = .ok (.aload_n 0, 1) := by decide +kernel
theorem dX11_isName_51 : decode cX11_isName 51 = .ok (.getfield 7, 3) := by decide +kernel
theorem dX11_isName_54 : decode cX11_isName 54 = .ok (.iload_n 3, 1) := by decide +kernel
theorem dX11_isName_55 : decode cX11_isName 55 = .ok (.baload, 1) := by decide +kernel
theorem dX11_isName_56 : decode cX11_isName 56 = .ok (.bipush 95, 2) := by decide +kernel
theorem dX11_isName_58 : decode cX11_isName 58 = .ok (.if_icmp .ne 7, 3) := by decide +kernel
theorem dX11_isName_61 : decode cX11_isName 61 = .ok (.iconst 1, 1) := by decide +kernel
theorem dX11_isName_62 : decode cX11_isName 62 = .ok (.goto 4, 3) := by decide +kernel
theorem dX11_isName_65 : decode cX11_isName 65 = .ok (.iconst 0, 1) := by decide +kernel
theorem dX11_isName_66 : decode cX11_isName 66 = .ok (.istore_n 2, 1) := by decide +kernel
theorem dX11_isName_67 : decode cX11_isName 67 = .ok (.iinc 3 1, 3) := by decide +kernel
theorem dX11_isName_70 : decode cX11_isName 70 = .ok (.goto (-51), 3) := by decide +kernel
theorem dX11_isName_73 : decode cX11_isName 73 = .ok (.iload_n 2, 1) := by decide +kernel
theorem dX11_isName_74 : decode cX11_isName 74 = .ok (.ireturn, 1) := by decide +kernel
theorem dX11_hasName_0 : decode cX11_hasName 0 = .ok (.aload_n 0, 1) := by decide +kernel
theorem dX11_hasName_1 : decode cX11_hasName 1 = .ok (.getfield 16, 3) := by decide +kernel
theorem dX11_hasName_4 : decode cX11_hasName 4 = .ok (.iload_n 1, 1) := by decide +kernel
theorem dX11_hasName_5 : decode cX11_hasName 5 = .ok (.iaload, 1) := by decide +kernel
theorem dX11_hasName_6 : decode cX11_hasName 6 = .ok (.iload_n 2, 1) := by decide +kernel
theorem dX11_hasName_7 : decode cX11_hasName 7 = .ok (.if_icmp .ne 7, 3) := by decide +kernel
theorem dX11_hasName_10 : decode cX11_hasName 10 = .ok (.iconst 1, 1) := by decide +kernel
theorem dX11_hasName_11 : decode cX11_hasName 11 = .ok (.goto 4, 3) := by decide +kernel
theorem dX11_hasName_14 : decode cX11_hasName 14 = .ok (.iconst 0, 1) := by decide +kernel
theorem dX11_hasName_15 : decode cX11_hasName 15 = .ok (.istore_n 3, 1) := by decide +kernel
theorem dX11_hasName_16 : decode cX11_hasName 16 = .ok (.iconst 0, 1) := by decide +kernel
theorem dX11_hasName_17 : decode cX11_hasName 17 = .ok (.istore 4, 2) := by decide +kernel
theorem dX11_hasName_19 : decode cX11_hasName 19 = .ok (.iload 4, 2) := by decide +kernel
theorem dX11_hasName_21 : decode cX11_hasName 21 = .ok (.iload_n 2, 1) := by decide +kernel
theorem dX11_hasName_22 : decode cX11_hasName 22 = .ok (.if_icmp .ge 41, 3) := by decide +kernel
theorem dX11_hasName_25 : decode cX11_hasName 25 = .ok (.iload_n 3, 1) := by decide +kernel
theorem dX11_hasName_26 : decode cX11_hasName 26 = .ok (.ifCond .eq 37, 3) := by decide +kernel
theorem dX11_hasName_29 : decode cX11_hasName 29 = .ok (.aload_n 0, 1) := by decide +kernel
theorem dX11_hasName_30 : decode cX11_hasName 30 = .ok (.getfield 13, 3) := by decide +kernel
theorem dX11_hasName_33 : decode cX11_hasName 33 = .ok (.bipush 20, 2) := by decide +kernel
theorem dX11_hasName_35 : decode cX11_hasName 35 = .ok (.iload_n 1, 1) := by decide +kernel
theorem dX11_hasName_36 : decode cX11_hasName 36 = .ok (.imul, 1) := by decide +kernel
theorem dX11_hasName_37 : decode cX11_hasName 37 = .ok (.iload 4, 2) := by decide +kernel
theorem dX11_hasName_39 : decode cX11_hasName 39 = .ok (.iadd, 1) := by decide +kernel
theorem dX11_hasName_40 : decode cX11_hasName 40 = .ok (.baload, 1) := by decide +kernel
theorem dX11_hasName_41 : decode cX11_hasName 41 = .ok (.aload_n 0, 1) := by decide +kernel
theorem dX11_hasName_42 : decode cX11_hasName 42 = .ok (.getfield 7, 3) := by decide +kernel
theorem dX11_hasName_45 : decode cX11_hasName 45 = .ok (.iload 4, 2) := by decide +kernel
theorem dX11_hasName_47 : decode cX11_hasName 47 = .ok (.baload, 1) := by decide +kernel
theorem dX11_hasName_48 : decode cX11_hasName 48 = .ok (.if_icmp .ne 7, 3) := by decide +kernel
theorem dX11_hasName_51 : decode cX11_hasName 51 = .ok (.iconst 1, 1) := by decide +kernel
theorem dX11_hasName_52 : decode cX11_hasName 52 = .ok (.goto 4, 3) := by decide +kernel
theorem dX11_hasName_55 : decode cX11_hasName 55 = .ok (.iconst 0, 1) := by decide +kernel
theorem dX11_hasName_56 : decode cX11_hasName 56 = .ok (.istore_n 3, 1) := by decide +kernel
theorem dX11_hasName_57 : decode cX11_hasName 57 = .ok (.iinc 4 1, 3) := by decide +kernel
theorem dX11_hasName_60 : decode cX11_hasName 60 = .ok (.goto (-41), 3) := by decide +kernel
theorem dX11_hasName_63 : decode cX11_hasName 63 = .ok (.iload_n 3, 1) := by decide +kernel
theorem dX11_hasName_64 : decode cX11_hasName 64 = .ok (.ireturn, 1) := by decide +kernel
theorem dX11_routine_0 : decode cX11_routine 0 = .ok (.aload_n 0, 1) := by decide +kernel
theorem dX11_routine_1 : decode cX11_routine 1 = .ok (.iconst 0, 1) := by decide +kernel
theorem dX11_routine_2 : decode cX11_routine 2 = .ok (.putfield 73, 3) := by decide +kernel
theorem dX11_routine_5 : decode cX11_routine 5 = .ok (.aload_n 0, 1) := by decide +kernel
theorem dX11_routine_6 : decode cX11_routine 6 = .ok (.iload_n 1, 1) := by decide +kernel
theorem dX11_routine_7 : decode cX11_routine 7 = .ok (.ifCond .lt 11, 3) := by decide +kernel
theorem dX11_routine_10 : decode cX11_routine 10 = .ok (.iload_n 1, 1) := by decide +kernel
theorem dX11_routine_11 : decode cX11_routine 11 = .ok (.aload_n 0, 1) := by decide +kernel
theorem dX11_routine_12 : decode cX11_routine 12 = .ok (.getfield 76, 3) := by decide +kernel
theorem dX11_routine_15 : decode cX11_routine 15 = .ok (.if_icmp .le 7, 3) := by decide +kernel
theorem dX11_routine_18 : decode cX11_routine 18 = .ok (.iconst 1, 1) := by decide +kernel
theorem dX11_routine_19 : decode cX11_routine 19 = .ok (.goto 4, 3) := by decide +kernel
theorem dX11_routine_22 : decode cX11_routine 22 = .ok (.iconst 0, 1) := by decide +kernel
theorem dX11_routine_23 : decode cX11_routine 23 = .ok (.iconst 1, 1) := by decide +kernel
theorem dX11_routine_24 : decode cX11_routine 24 = .ok (.invokevirtual 79, 3) := by decide +kernel
theorem dX11_routine_27 : decode cX11_routine 27 = .ok (.ifCond .ne 25, 3) := by decide +kernel
theorem dX11_routine_30 : decode cX11_routine 30 = .ok (.aload_n 0, 1) := by decide +kernel
theorem dX11_routine_31 : decode cX11_routine 31 = .ok (.aload_n 0, 1) := by decide +kernel
theorem dX11_routine_32 : decode cX11_routine 32 = .ok (.getfield 83, 3) := by decide +kernel
theorem dX11_routine_35 : decode cX11_routine 35 = .ok (.bipush 40, 2) := by decide +kernel
theorem dX11_routine_37 : decode cX11_routine 37 = .ok (.if_icmp .ne 7, 3) := by decide +kernel
theorem dX11_routine_40 : decode cX11_routine 40 = .ok (.iconst 1, 1) := by decide +kernel
theorem dX11_routine_41 : decode cX11_routine 41 = .ok (.goto 4, 3) := by decide +kernel
theorem dX11_routine_44 : decode cX11_routine 44 = .ok (.iconst 0, 1) := by decide +kernel
theorem dX11_routine_45 : decode cX11_routine 45 = .ok (.iconst 2, 1) := by decide +kernel
theorem dX11_routine_46 : decode cX11_routine 46 = .ok (.invokevirtual 79, 3) := by decide +kernel
theorem dX11_routine_49 : decode cX11_routine 49 = .ok (.ifCond .eq 5, 3) := by decide +kernel
theorem dX11_routine_52 : decode cX11_routine 52 = .ok (.iconst 0, 1) := by decide +kernel
theorem dX11_routine_53 : decode cX11_routine 53 = .ok (.ireturn, 1) := by decide +kernel
theorem dX11_routine_54 : decode cX11_routine 54 = .ok (.aload_n 0, 1) := by decide +kernel
theorem dX11_routine_55 : decode cX11_routine 55 = .ok (.iconst 0, 1) := by decide +kernel
theorem dX11_routine_56 : decode cX11_routine 56 = .ok (.putfield 76, 3) := by decide +kernel
theorem dX11_routine_59 : decode cX11_routine 59 = .ok (.aload_n 0, 1) := by decide +kernel
theorem dX11_routine_60 : decode cX11_routine 60 = .ok (.iload_n 1, 1) := by decide +kernel
theorem dX11_routine_61 : decode cX11_routine 61 = .ok (.invokevirtual 86, 3) := by decide +kernel
theorem dX11_routine_64 : decode cX11_routine 64 = .ok (.ifCond .ne 5, 3) := by decide +kernel
theorem dX11_routine_67 : decode cX11_routine 67 = .ok (.iconst (-1), 1) := by decide +kernel
theorem dX11_routine_68 : decode cX11_routine 68 = .ok (.ireturn, 1) := by decide +kernel
theorem dX11_routine_69 : decode cX11_routine 69 = .ok (.iconst 0, 1) := by decide +kernel
theorem dX11_routine_70 : decode cX11_routine 70 = .ok (.istore_n 2, 1) := by decide +kernel
theorem dX11_routine_71 : decode cX11_routine 71 = .ok (.iload_n 2, 1) := by decide +kernel
theorem dX11_routine_72 : decode cX11_routine 72 = .ok (.aload_n 0, 1) := by decide +kernel
theorem dX11_routine_73 : decode cX11_routine 73 = .ok (.getfield 83, 3) := by decide +kernel
theorem dX11_routine_76 : decode cX11_routine 76 = .ok (.if_icmp .ge 21, 3) := by decide +kernel
theorem dX11_routine_79 : decode cX11_routine 79 = .ok (.aload_n 0, 1) := by decide +kernel
theorem dX11_routine_80 : decode cX11_routine 80 = .ok (.iload_n 2, 1) := by decide +kernel
theorem dX11_routine_81 : decode cX11_routine 81 = .ok (.iload_n 1, 1) := by decide +kernel
theorem dX11_routine_82 : decode cX11_routine 82 = .ok (.invokevirtual 90, 3) := by decide +kernel
theorem dX11_routine_85 : decode cX11_routine 85 = .ok (.ifCond .eq 6, 3) := by decide +kernel
theorem dX11_routine_88 : decode cX11_routine 88 = .ok (.bipush (-2), 2) := by decide +kernel
theorem dX11_routine_90 : decode cX11_routine 90 = .ok (.ireturn, 1) := by decide +kernel
theorem dX11_routine_91 : decode cX11_routine 91 = .ok (.iinc 2 1, 3) := by decide +kernel
theorem dX11_routine_94 : decode cX11_routine 94 = .ok (.goto (-23), 3) := by decide +kernel
theorem dX11_routine_97 : decode cX11_routine 97 = .ok (.iconst 0, 1) := by decide +kernel
theorem dX11_routine_98 : decode cX11_routine 98 = .ok (.istore_n 2, 1) := by decide +kernel
theorem dX11_routine_99 : decode cX11_routine 99 = .ok (.iload_n 2, 1) := by decide +kernel
theorem dX11_routine_100 : decode cX11_routine 100 = .ok (.iload_n 1, 1) := by decide +kernel
theorem dX11_routine_101 : decode cX11_routine 101 = .ok (.if_icmp .ge 29, 3) := by decide +kernel
theorem dX11_routine_104 : decode cX11_routine 104 = .ok (.aload_n 0, 1) := by decide +kernel
theorem dX11_routine_105 : decode cX11_routine 105 = .ok (.getfield 13, 3) := by decide +kernel
theorem dX11_routine_108 : decode cX11_routine 108 = .ok (.bipush 20, 2) := by decide +kernel
theorem dX11_routine_110 : decode cX11_routine 110 = .ok (.aload_n 0, 1) := by decide +kernel
theorem dX11_routine_111 : decode cX11_routine 111 = .ok (.getfield 83, 3) := by decide +kernel
theorem dX11_routine_114 : decode cX11_routine 114 = .ok (.imul, 1) := by decide +kernel
theorem dX11_routine_115 : decode cX11_routine 115 = .ok (.iload_n 2, 1) := by decide +kernel
theorem dX11_routine_116 : decode cX11_routine 116 = .ok (.iadd, 1) := by decide +kernel
theorem dX11_routine_117 : decode cX11_routine 117 = .ok (.aload_n 0, 1) := by decide +kernel
theorem dX11_routine_118 : decode cX11_routine 118 = .ok (.getfield 7, 3) := by decide +kernel
theorem dX11_routine_121 : decode cX11_routine 121 = .ok (.iload_n 2, 1) := by decide +kernel
theorem dX11_routine_122 : decode cX11_routine 122 = .ok (.baload, 1) := by decide +kernel
theorem dX11_routine_123 : decode cX11_routine 123 = .ok (.bastore, 1) := by decide +kernel
theorem dX11_routine_124 : decode cX11_routine 124 = .ok (.iinc 2 1, 3) := by decide +kernel
theorem dX11_routine_127 : decode cX11_routine 127 = .ok (.goto (-28), 3) := by decide +kernel
theorem dX11_routine_130 : decode cX11_routine 130 = .ok (.aload_n 0, 1) := by decide +kernel
theorem dX11_routine_131 : decode cX11_routine 131 = .ok (.getfield 16, 3) := by decide +kernel
theorem dX11_routine_134 : decode cX11_routine 134 = .ok (.aload_n 0, 1) := by decide +kernel
theorem dX11_routine_135 : decode cX11_routine 135 = .ok (.getfield 83, 3) := by decide +kernel
theorem dX11_routine_138 : decode cX11_routine 138 = .ok (.iload_n 1, 1) := by decide +kernel
theorem dX11_routine_139 : decode cX11_routine 139 = .ok (.iastore, 1) := by decide +kernel
theorem dX11_routine_140 : decode cX11_routine 140 = .ok (.aload_n 0, 1) := by decide +kernel
theorem dX11_routine_141 : decode cX11_routine 141 = .ok (.getfield 46, 3) := by decide +kernel
theorem dX11_routine_144 : decode cX11_routine 144 = .ok (.aload_n 0, 1) := by decide +kernel
theorem dX11_routine_145 : decode cX11_routine 145 = .ok (.getfield 83, 3) := by decide +kernel
theorem dX11_routine_148 : decode cX11_routine 148 = .ok (.iconst (-1), 1) := by decide +kernel
theorem dX11_routine_149 : decode cX11_routine 149 = .ok (.iastore, 1) := by decide +kernel
theorem dX11_routine_150 : decode cX11_routine 150 = .ok (.aload_n 0, 1) := by decide +kernel
theorem dX11_routine_151 : decode cX11_routine 151 = .ok (.dup, 1) := by decide +kernel
theorem dX11_routine_152 : decode cX11_routine 152 = .ok (.getfield 83, 3) := by decide +kernel
theorem dX11_routine_155 : decode cX11_routine 155 = .ok (.iconst 1, 1) := by decide +kernel
theorem dX11_routine_156 : decode cX11_routine 156 = .ok (.iadd, 1) := by decide +kernel
theorem dX11_routine_157 : decode cX11_routine 157 = .ok (.putfield 83, 3) := by decide +kernel
theorem dX11_routine_160 : decode cX11_routine 160 = .ok (.aload_n 0, 1) := by decide +kernel
theorem dX11_routine_161 : decode cX11_routine 161 = .ok (.invokevirtual 94, 3) := by decide +kernel
theorem dX11_routine_164 : decode cX11_routine 164 = .ok (.aload_n 0, 1) := by decide +kernel
theorem dX11_routine_165 : decode cX11_routine 165 = .ok (.getfield 83, 3) := by decide +kernel
theorem dX11_routine_168 : decode cX11_routine 168 = .ok (.iconst 1, 1) := by decide +kernel
theorem dX11_routine_169 : decode cX11_routine 169 = .ok (.isub, 1) := by decide +kernel
theorem dX11_routine_170 : decode cX11_routine 170 = .ok (.ireturn, 1) := by decide +kernel
theorem dX11_isRoutine_0 : decode cX11_isRoutine 0 = .ok (.iload_n 1, 1) := by decide +kernel
theorem dX11_isRoutine_1 : decode cX11_isRoutine 1 = .ok (.ifCond .lt 15, 3) := by decide +kernel
theorem dX11_isRoutine_4 : decode cX11_isRoutine 4 = .ok (.iload_n 1, 1) := by decide +kernel
theorem dX11_isRoutine_5 : decode cX11_isRoutine 5 = .ok (.aload_n 0, 1) := by decide +kernel
theorem dX11_isRoutine_6 : decode cX11_isRoutine 6 = .ok (.getfield 83, 3) := by decide +kernel
theorem dX11_isRoutine_9 : decode cX11_isRoutine 9 = .ok (.if_icmp .ge 7, 3) := by decide +kernel
theorem dX11_isRoutine_12 : decode cX11_isRoutine 12 = .ok (.iconst 1, 1) := by decide +kernel
theorem dX11_isRoutine_13 : decode cX11_isRoutine 13 = .ok (.goto 4, 3) := by decide +kernel
theorem dX11_isRoutine_16 : decode cX11_isRoutine 16 = .ok (.iconst 0, 1) := by decide +kernel
theorem dX11_isRoutine_17 : decode cX11_isRoutine 17 = .ok (.ireturn, 1) := by decide +kernel
theorem dX11_cell_0 : decode cX11_cell 0 = .ok (.bipush 40, 2) := by decide +kernel
theorem dX11_cell_2 : decode cX11_cell 2 = .ok (.iload_n 0, 1) := by decide +kernel
theorem dX11_cell_3 : decode cX11_cell 3 = .ok (.imul, 1) := by decide +kernel
theorem dX11_cell_4 : decode cX11_cell 4 = .ok (.iload_n 1, 1) := by decide +kernel
theorem dX11_cell_5 : decode cX11_cell 5 = .ok (.iadd, 1) := by decide +kernel
theorem dX11_cell_6 : decode cX11_cell 6 = .ok (.bipush 40, 2) := by decide +kernel
theorem dX11_cell_8 : decode cX11_cell 8 = .ok (.imul, 1) := by decide +kernel
theorem dX11_cell_9 : decode cX11_cell 9 = .ok (.iload_n 2, 1) := by decide +kernel
theorem dX11_cell_10 : decode cX11_cell 10 = .ok (.iadd, 1) := by decide +kernel
theorem dX11_cell_11 : decode cX11_cell 11 = .ok (.ireturn, 1) := by decide +kernel
theorem dX11_tie_0 : decode cX11_tie 0 = .ok (.aload_n 0, 1) := by decide +kernel
theorem dX11_tie_1 : decode cX11_tie 1 = .ok (.iconst 0, 1) := by decide +kernel
theorem dX11_tie_2 : decode cX11_tie 2 = .ok (.putfield 73, 3) := by decide +kernel
theorem dX11_tie_5 : decode cX11_tie 5 = .ok (.aload_n 0, 1) := by decide +kernel
theorem dX11_tie_6 : decode cX11_tie 6 = .ok (.aload_n 0, 1) := by decide +kernel
theorem dX11_tie_7 : decode cX11_tie 7 = .ok (.iload_n 1, 1) := by decide +kernel
theorem dX11_tie_8 : decode cX11_tie 8 = .ok (.invokevirtual 97, 3) := by decide +kernel
theorem dX11_tie_11 : decode cX11_tie 11 = .ok (.ifCond .eq 11, 3) := by decide +kernel
theorem dX11_tie_14 : decode cX11_tie 14 = .ok (.aload_n 0, 1) := by decide +kernel
theorem dX11_tie_15 : decode cX11_tie 15 = .ok (.iload_n 2, 1) := by decide +kernel
theorem dX11_tie_16 : decode cX11_tie 16 = .ok (.invokevirtual 97, 3) := by decide +kernel
theorem dX11_tie_19 : decode cX11_tie 19 = .ok (.ifCond .ne 7, 3) := by decide +kernel
theorem dX11_tie_22 : decode cX11_tie 22 = .ok (.iconst 1, 1) := by decide +kernel
theorem dX11_tie_23 : decode cX11_tie 23 = .ok (.goto 4, 3) := by decide +kernel
theorem dX11_tie_26 : decode cX11_tie 26 = .ok (.iconst 0, 1) := by decide +kernel
theorem dX11_tie_27 : decode cX11_tie 27 = .ok (.iconst 1, 1) := by decide +kernel
theorem dX11_tie_28 : decode cX11_tie 28 = .ok (.invokevirtual 79, 3) := by decide +kernel
theorem dX11_tie_31 : decode cX11_tie 31 = .ok (.ifCond .ne 44, 3) := by decide +kernel
theorem dX11_tie_34 : decode cX11_tie 34 = .ok (.aload_n 0, 1) := by decide +kernel
theorem dX11_tie_35 : decode cX11_tie 35 = .ok (.iload_n 1, 1) := by decide +kernel
theorem dX11_tie_36 : decode cX11_tie 36 = .ok (.iload_n 2, 1) := by decide +kernel
theorem dX11_tie_37 : decode cX11_tie 37 = .ok (.if_icmp .eq 26, 3) := by decide +kernel
theorem dX11_tie_40 : decode cX11_tie 40 = .ok (.iload_n 3, 1) := by decide +kernel
theorem dX11_tie_41 : decode cX11_tie 41 = .ok (.ifCond .lt 22, 3) := by decide +kernel
theorem dX11_tie_44 : decode cX11_tie 44 = .ok (.iload_n 3, 1) := by decide +kernel
theorem dX11_tie_45 : decode cX11_tie 45 = .ok (.iconst 3, 1) := by decide +kernel
theorem dX11_tie_46 : decode cX11_tie 46 = .ok (.if_icmp .ge 17, 3) := by decide +kernel
theorem dX11_tie_49 : decode cX11_tie 49 = .ok (.iload 4, 2) := by decide +kernel
theorem dX11_tie_51 : decode cX11_tie 51 = .ok (.iconst 1, 1) := by decide +kernel
theorem dX11_tie_52 : decode cX11_tie 52 = .ok (.if_icmp .lt 11, 3) := by decide +kernel
theorem dX11_tie_55 : decode cX11_tie 55 = .ok (.iload 4, 2) := by decide +kernel
theorem dX11_tie_57 : decode cX11_tie 57 = .ok (.sipush 1000, 3) := by decide +kernel
theorem dX11_tie_60 : decode cX11_tie 60 = .ok (.if_icmp .le 7, 3) := by decide +kernel
theorem dX11_tie_63 : decode cX11_tie 63 = .ok (.iconst 1, 1) := by decide +kernel
theorem dX11_tie_64 : decode cX11_tie 64 = .ok (.goto 4, 3) := by decide +kernel
theorem dX11_tie_67 : decode cX11_tie 67 = .ok (.iconst 0, 1) := by decide +kernel
theorem dX11_tie_68 : decode cX11_tie 68 = .ok (.iconst 2, 1) := by decide +kernel
theorem dX11_tie_69 : decode cX11_tie 69 = .ok (.invokevirtual 79, 3) := by decide +kernel
theorem dX11_tie_72 : decode cX11_tie 72 = .ok (.ifCond .eq 5, 3) := by decide +kernel
theorem dX11_tie_75 : decode cX11_tie 75 = .ok (.iconst 0, 1) := by decide +kernel
theorem dX11_tie_76 : decode cX11_tie 76 = .ok (.ireturn, 1) := by decide +kernel
theorem dX11_tie_77 : decode cX11_tie 77 = .ok (.aload_n 0, 1) := by decide +kernel
theorem dX11_tie_78 : decode cX11_tie 78 = .ok (.getfield 20, 3) := by decide +kernel
theorem dX11_tie_81 : decode cX11_tie 81 = .ok (.iload_n 3, 1) := by decide +kernel
theorem dX11_tie_82 : decode cX11_tie 82 = .ok (.iload_n 1, 1) := by decide +kernel
theorem dX11_tie_83 : decode cX11_tie 83 = .ok (.iload_n 2, 1) := by decide +kernel
theorem dX11_tie_84 : decode cX11_tie 84 = .ok (.invokestatic 100, 3) := by decide +kernel
theorem dX11_tie_87 : decode cX11_tie 87 = .ok (.iaload, 1) := by decide +kernel
theorem dX11_tie_88 : decode cX11_tie 88 = .ok (.iload 4, 2) := by decide +kernel
theorem dX11_tie_90 : decode cX11_tie 90 = .ok (.iadd, 1) := by decide +kernel
theorem dX11_tie_91 : decode cX11_tie 91 = .ok (.istore 5, 2) := by decide +kernel
theorem dX11_tie_93 : decode cX11_tie 93 = .ok (.iload 5, 2) := by decide +kernel
theorem dX11_tie_95 : decode cX11_tie 95 = .ok (.ldc 104, 2) := by decide +kernel
theorem dX11_tie_97 : decode cX11_tie 97 = .ok (.if_icmp .le 8, 3) := by decide +kernel
theorem dX11_tie_100 : decode cX11_tie 100 = .ok (.ldc 104, 2) := by decide +kernel
theorem dX11_tie_102 : decode cX11_tie 102 = .ok (.goto 5, 3) := by decide +kernel
theorem dX11_tie_105 : decode cX11_tie 105 = .ok (.iload 5, 2) := by decide +kernel
theorem dX11_tie_107 : decode cX11_tie 107 = .ok (.istore 5, 2) := by decide +kernel
theorem dX11_tie_109 : decode cX11_tie 109 = .ok (.aload_n 0, 1) := by decide +kernel
theorem dX11_tie_110 : decode cX11_tie 110 = .ok (.getfield 20, 3) := by decide +kernel
theorem dX11_tie_113 : decode cX11_tie 113 = .ok (.iload_n 3, 1) := by decide +kernel
theorem dX11_tie_114 : decode cX11_tie 114 = .ok (.iload_n 1, 1) := by decide +kernel
theorem dX11_tie_115 : decode cX11_tie 115 = .ok (.iload_n 2, 1) := by decide +kernel
theorem dX11_tie_116 : decode cX11_tie 116 = .ok (.invokestatic 100, 3) := by decide +kernel
theorem dX11_tie_119 : decode cX11_tie 119 = .ok (.iload 5, 2) := by decide +kernel
theorem dX11_tie_121 : decode cX11_tie 121 = .ok (.iastore, 1) := by decide +kernel
theorem dX11_tie_122 : decode cX11_tie 122 = .ok (.iload_n 3, 1) := by decide +kernel
theorem dX11_tie_123 : decode cX11_tie 123 = .ok (.ifCond .le 16, 3) := by decide +kernel
theorem dX11_tie_126 : decode cX11_tie 126 = .ok (.aload_n 0, 1) := by decide +kernel
theorem dX11_tie_127 : decode cX11_tie 127 = .ok (.getfield 20, 3) := by decide +kernel
theorem dX11_tie_130 : decode cX11_tie 130 = .ok (.iload_n 3, 1) := by decide +kernel
theorem dX11_tie_131 : decode cX11_tie 131 = .ok (.iload_n 2, 1) := by decide +kernel
theorem dX11_tie_132 : decode cX11_tie 132 = .ok (.iload_n 1, 1) := by decide +kernel
theorem dX11_tie_133 : decode cX11_tie 133 = .ok (.invokestatic 100, 3) := by decide +kernel
theorem dX11_tie_136 : decode cX11_tie 136 = .ok (.iload 5, 2) := by decide +kernel
theorem dX11_tie_138 : decode cX11_tie 138 = .ok (.iastore, 1) := by decide +kernel
theorem dX11_tie_139 : decode cX11_tie 139 = .ok (.aload_n 0, 1) := by decide +kernel
theorem dX11_tie_140 : decode cX11_tie 140 = .ok (.invokevirtual 94, 3) := by decide +kernel
theorem dX11_tie_143 : decode cX11_tie 143 = .ok (.iload 5, 2) := by decide +kernel
theorem dX11_tie_145 : decode cX11_tie 145 = .ok (.ireturn, 1) := by decide +kernel
theorem dX11_tieOf_0 : decode cX11_tieOf 0 = .ok (.aload_n 0, 1) := by decide +kernel
theorem dX11_tieOf_1 : decode cX11_tieOf 1 = .ok (.getfield 20, 3) := by decide +kernel
theorem dX11_tieOf_4 : decode cX11_tieOf 4 = .ok (.iconst 0, 1) := by decide +kernel
theorem dX11_tieOf_5 : decode cX11_tieOf 5 = .ok (.iload_n 1, 1) := by decide +kernel
theorem dX11_tieOf_6 : decode cX11_tieOf 6 = .ok (.iload_n 2, 1) := by decide +kernel
theorem dX11_tieOf_7 : decode cX11_tieOf 7 = .ok (.invokestatic 100, 3) := by decide +kernel
theorem dX11_tieOf_10 : decode cX11_tieOf 10 = .ok (.iaload, 1) := by decide +kernel
theorem dX11_tieOf_11 : decode cX11_tieOf 11 = .ok (.aload_n 0, 1) := by decide +kernel
theorem dX11_tieOf_12 : decode cX11_tieOf 12 = .ok (.getfield 20, 3) := by decide +kernel
theorem dX11_tieOf_15 : decode cX11_tieOf 15 = .ok (.iconst 0, 1) := by decide +kernel
theorem dX11_tieOf_16 : decode cX11_tieOf 16 = .ok (.iload_n 2, 1) := by decide +kernel
theorem dX11_tieOf_17 : decode cX11_tieOf 17 = .ok (.iload_n 1, 1) := by decide +kernel
theorem dX11_tieOf_18 : decode cX11_tieOf 18 = .ok (.invokestatic 100, 3) := by decide +kernel
theorem dX11_tieOf_21 : decode cX11_tieOf 21 = .ok (.iaload, 1) := by decide +kernel
theorem dX11_tieOf_22 : decode cX11_tieOf 22 = .ok (.iadd, 1) := by decide +kernel
theorem dX11_tieOf_23 : decode cX11_tieOf 23 = .ok (.istore_n 3, 1) := by decide +kernel
theorem dX11_tieOf_24 : decode cX11_tieOf 24 = .ok (.aload_n 0, 1) := by decide +kernel
theorem dX11_tieOf_25 : decode cX11_tieOf 25 = .ok (.getfield 23, 3) := by decide +kernel
theorem dX11_tieOf_28 : decode cX11_tieOf 28 = .ok (.iconst 0, 1) := by decide +kernel
theorem dX11_tieOf_29 : decode cX11_tieOf 29 = .ok (.iaload, 1) := by decide +kernel
theorem dX11_tieOf_30 : decode cX11_tieOf 30 = .ok (.iload_n 3, 1) := by decide +kernel
theorem dX11_tieOf_31 : decode cX11_tieOf 31 = .ok (.imul, 1) := by decide +kernel
theorem dX11_tieOf_32 : decode cX11_tieOf 32 = .ok (.aload_n 0, 1) := by decide +kernel
theorem dX11_tieOf_33 : decode cX11_tieOf 33 = .ok (.getfield 23, 3) := by decide +kernel
theorem dX11_tieOf_36 : decode cX11_tieOf 36 = .ok (.iconst 1, 1) := by decide +kernel
theorem dX11_tieOf_37 : decode cX11_tieOf 37 = .ok (.iaload, 1) := by decide +kernel
theorem dX11_tieOf_38 : decode cX11_tieOf 38 = .ok (.aload_n 0, 1) := by decide +kernel
theorem dX11_tieOf_39 : decode cX11_tieOf 39 = .ok (.getfield 20, 3) := by decide +kernel
theorem dX11_tieOf_42 : decode cX11_tieOf 42 = .ok (.iconst 1, 1) := by decide +kernel
theorem dX11_tieOf_43 : decode cX11_tieOf 43 = .ok (.iload_n 1, 1) := by decide +kernel
theorem dX11_tieOf_44 : decode cX11_tieOf 44 = .ok (.iload_n 2, 1) := by decide +kernel
theorem dX11_tieOf_45 : decode cX11_tieOf 45 = .ok (.invokestatic 100, 3) := by decide +kernel
theorem dX11_tieOf_48 : decode cX11_tieOf 48 = .ok (.iaload, 1) := by decide +kernel
theorem dX11_tieOf_49 : decode cX11_tieOf 49 = .ok (.imul, 1) := by decide +kernel
theorem dX11_tieOf_50 : decode cX11_tieOf 50 = .ok (.iadd, 1) := by decide +kernel
theorem dX11_tieOf_51 : decode cX11_tieOf 51 = .ok (.aload_n 0, 1) := by decide +kernel
theorem dX11_tieOf_52 : decode cX11_tieOf 52 = .ok (.getfield 23, 3) := by decide +kernel
theorem dX11_tieOf_55 : decode cX11_tieOf 55 = .ok (.iconst 2, 1) := by decide +kernel
theorem dX11_tieOf_56 : decode cX11_tieOf 56 = .ok (.iaload, 1) := by decide +kernel
theorem dX11_tieOf_57 : decode cX11_tieOf 57 = .ok (.aload_n 0, 1) := by decide +kernel
theorem dX11_tieOf_58 : decode cX11_tieOf 58 = .ok (.getfield 20, 3) := by decide +kernel
theorem dX11_tieOf_61 : decode cX11_tieOf 61 = .ok (.iconst 2, 1) := by decide +kernel
theorem dX11_tieOf_62 : decode cX11_tieOf 62 = .ok (.iload_n 1, 1) := by decide +kernel
theorem dX11_tieOf_63 : decode cX11_tieOf 63 = .ok (.iload_n 2, 1) := by decide +kernel
theorem dX11_tieOf_64 : decode cX11_tieOf 64 = .ok (.invokestatic 100, 3) := by decide +kernel
theorem dX11_tieOf_67 : decode cX11_tieOf 67 = .ok (.iaload, 1) := by decide +kernel
theorem dX11_tieOf_68 : decode cX11_tieOf 68 = .ok (.imul, 1) := by decide +kernel
theorem dX11_tieOf_69 : decode cX11_tieOf 69 = .ok (.iadd, 1) := by decide +kernel
theorem dX11_tieOf_70 : decode cX11_tieOf 70 = .ok (.ireturn, 1) := by decide +kernel
theorem dX11_ties_0 : decode cX11_ties 0 = .ok (.aload_n 0, 1) := by decide +kernel
theorem dX11_ties_1 : decode cX11_ties 1 = .ok (.iconst 0, 1) := by decide +kernel
theorem dX11_ties_2 : decode cX11_ties 2 = .ok (.putfield 73, 3) := by decide +kernel
theorem dX11_ties_5 : decode cX11_ties 5 = .ok (.aload_n 0, 1) := by decide +kernel
theorem dX11_ties_6 : decode cX11_ties 6 = .ok (.aload_n 0, 1) := by decide +kernel
theorem dX11_ties_7 : decode cX11_ties 7 = .ok (.iload_n 1, 1) := by decide +kernel
theorem dX11_ties_8 : decode cX11_ties 8 = .ok (.invokevirtual 97, 3) := by decide +kernel
theorem dX11_ties_11 : decode cX11_ties 11 = .ok (.ifCond .eq 11, 3) := by decide +kernel
theorem dX11_ties_14 : decode cX11_ties 14 = .ok (.aload_n 0, 1) := by decide +kernel
theorem dX11_ties_15 : decode cX11_ties 15 = .ok (.iload_n 2, 1) := by decide +kernel
theorem dX11_ties_16 : decode cX11_ties 16 = .ok (.invokevirtual 97, 3) := by decide +kernel
theorem dX11_ties_19 : decode cX11_ties 19 = .ok (.ifCond .ne 7, 3) := by decide +kernel
theorem dX11_ties_22 : decode cX11_ties 22 = .ok (.iconst 1, 1) := by decide +kernel
theorem dX11_ties_23 : decode cX11_ties 23 = .ok (.goto 4, 3) := by decide +kernel
theorem dX11_ties_26 : decode cX11_ties 26 = .ok (.iconst 0, 1) := by decide +kernel
theorem dX11_ties_27 : decode cX11_ties 27 = .ok (.iconst 1, 1) := by decide +kernel
theorem dX11_ties_28 : decode cX11_ties 28 = .ok (.invokevirtual 79, 3) := by decide +kernel
theorem dX11_ties_31 : decode cX11_ties 31 = .ok (.ifCond .ne 21, 3) := by decide +kernel
theorem dX11_ties_34 : decode cX11_ties 34 = .ok (.aload_n 0, 1) := by decide +kernel
theorem dX11_ties_35 : decode cX11_ties 35 = .ok (.iload_n 1, 1) := by decide +kernel
theorem dX11_ties_36 : decode cX11_ties 36 = .ok (.iload_n 2, 1) := by decide +kernel
theorem dX11_ties_37 : decode cX11_ties 37 = .ok (.if_icmp .ne 7, 3) := by decide +kernel
theorem dX11_ties_40 : decode cX11_ties 40 = .ok (.iconst 1, 1) := by decide +kernel
theorem dX11_ties_41 : decode cX11_ties 41 = .ok (.goto 4, 3) := by decide +kernel
theorem dX11_ties_44 : decode cX11_ties 44 = .ok (.iconst 0, 1) := by decide +kernel
theorem dX11_ties_45 : decode cX11_ties 45 = .ok (.iconst 2, 1) := by decide +kernel
theorem dX11_ties_46 : decode cX11_ties 46 = .ok (.invokevirtual 79, 3) := by decide +kernel
theorem dX11_ties_49 : decode cX11_ties 49 = .ok (.ifCond .eq 5, 3) := by decide +kernel
theorem dX11_ties_52 : decode cX11_ties 52 = .ok (.iconst 0, 1) := by decide +kernel
theorem dX11_ties_53 : decode cX11_ties 53 = .ok (.ireturn, 1) := by decide +kernel
theorem dX11_ties_54 : decode cX11_ties 54 = .ok (.aload_n 0, 1) := by decide +kernel
theorem dX11_ties_55 : decode cX11_ties 55 = .ok (.iload_n 1, 1) := by decide +kernel
theorem dX11_ties_56 : decode cX11_ties 56 = .ok (.iload_n 2, 1) := by decide +kernel
theorem dX11_ties_57 : decode cX11_ties 57 = .ok (.invokevirtual 105, 3) := by decide +kernel
theorem dX11_ties_60 : decode cX11_ties 60 = .ok (.ireturn, 1) := by decide +kernel
theorem dX11_settles_0 : decode cX11_settles 0 = .ok (.iconst 0, 1) := by decide +kernel
theorem dX11_settles_1 : decode cX11_settles 1 = .ok (.istore_n 1, 1) := by decide +kernel
theorem dX11_settles_2 : decode cX11_settles 2 = .ok (.iload_n 1, 1) := by decide +kernel
theorem dX11_settles_3 : decode cX11_settles 3 = .ok (.aload_n 0, 1) := by decide +kernel
theorem dX11_settles_4 : decode cX11_settles 4 = .ok (.getfield 83, 3) := by decide +kernel
theorem dX11_settles_7 : decode cX11_settles 7 = .ok (.if_icmp .ge 97, 3) := by decide +kernel
theorem dX11_settles_10 : decode cX11_settles 10 = .ok (.iconst 0, 1) := by decide +kernel
theorem dX11_settles_11 : decode cX11_settles 11 = .ok (.istore_n 2, 1) := by decide +kernel
theorem dX11_settles_12 : decode cX11_settles 12 = .ok (.iconst 0, 1) := by decide +kernel
theorem dX11_settles_13 : decode cX11_settles 13 = .ok (.istore_n 3, 1) := by decide +kernel
theorem dX11_settles_14 : decode cX11_settles 14 = .ok (.iload_n 3, 1) := by decide +kernel
theorem dX11_settles_15 : decode cX11_settles 15 = .ok (.aload_n 0, 1) := by decide +kernel
theorem dX11_settles_16 : decode cX11_settles 16 = .ok (.getfield 83, 3) := by decide +kernel
theorem dX11_settles_19 : decode cX11_settles 19 = .ok (.if_icmp .ge 31, 3) := by decide +kernel
theorem dX11_settles_22 : decode cX11_settles 22 = .ok (.iload_n 2, 1) := by decide +kernel
theorem dX11_settles_23 : decode cX11_settles 23 = .ok (.iload_n 3, 1) := by decide +kernel
theorem dX11_settles_24 : decode cX11_settles 24 = .ok (.iload_n 1, 1) := by decide +kernel
theorem dX11_settles_25 : decode cX11_settles 25 = .ok (.if_icmp .eq 16, 3) := by decide +kernel
theorem dX11_settles_28 : decode cX11_settles 28 = .ok (.aload_n 0, 1) := by decide +kernel
theorem dX11_settles_29 : decode cX11_settles 29 = .ok (.iload_n 1, 1) := by decide +kernel
theorem dX11_settles_30 : decode cX11_settles 30 = .ok (.iload_n 3, 1) := by decide +kernel
theorem dX11_settles_31 : decode cX11_settles 31 = .ok (.invokevirtual 105, 3) := by decide +kernel
theorem dX11_settles_34 : decode cX11_settles 34 = .ok (.ifCond .le 7, 3) := by decide +kernel
theorem dX11_settles_37 : decode cX11_settles 37 = .ok (.iconst 1, 1) := by decide +kernel
theorem dX11_settles_38 : decode cX11_settles 38 = .ok (.goto 4, 3) := by decide +kernel
theorem dX11_settles_41 : decode cX11_settles 41 = .ok (.iconst 0, 1) := by decide +kernel
theorem dX11_settles_42 : decode cX11_settles 42 = .ok (.iadd, 1) := by decide +kernel
theorem dX11_settles_43 : decode cX11_settles 43 = .ok (.istore_n 2, 1) := by decide +kernel
theorem dX11_settles_44 : decode cX11_settles 44 = .ok (.iinc 3 1, 3) := by decide +kernel
theorem dX11_settles_47 : decode cX11_settles 47 = .ok (.goto (-33), 3) := by decide +kernel
theorem dX11_settles_50 : decode cX11_settles 50 = .ok (.aload_n 0, 1) := by decide +kernel
theorem dX11_settles_51 : decode cX11_settles 51 = .ok (.getfield 36, 3) := by decide +kernel
theorem dX11_settles_54 : decode cX11_settles 54 = .ok (.iload_n 1, 1) := by decide +kernel
theorem dX11_settles_55 : decode cX11_settles 55 = .ok (.iload_n 2, 1) := by decide +kernel
theorem dX11_settles_56 : decode cX11_settles 56 = .ok (.aload_n 0, 1) := by decide +kernel
theorem dX11_settles_57 : decode cX11_settles 57 = .ok (.getfield 30, 3) := by decide +kernel
theorem dX11_settles_60 : decode cX11_settles 60 = .ok (.if_icmp .le 7, 3) := by decide +kernel
theorem dX11_settles_63 : decode cX11_settles 63 = .ok (.iconst 1, 1) := by decide +kernel
theorem dX11_settles_64 : decode cX11_settles 64 = .ok (.goto 4, 3) := by decide +kernel
theorem dX11_settles_67 : decode cX11_settles 67 = .ok (.iconst 0, 1) := by decide +kernel
theorem dX11_settles_68 : decode cX11_settles 68 = .ok (.bastore, 1) := by decide +kernel
theorem dX11_settles_69 : decode cX11_settles 69 = .ok (.aload_n 0, 1) := by decide +kernel
theorem dX11_settles_70 : decode cX11_settles 70 = .ok (.getfield 36, 3) := by decide +kernel
theorem dX11_settles_73 : decode cX11_settles 73 = .ok (.iload_n 1, 1) := by decide +kernel
theorem dX11_settles_74 : decode cX11_settles 74 = .ok (.baload, 1) := by decide +kernel
theorem dX11_settles_75 : decode cX11_settles 75 = .ok (.ifCond .ne 16, 3) := by decide +kernel
theorem dX11_settles_78 : decode cX11_settles 78 = .ok (.aload_n 0, 1) := by decide +kernel
theorem dX11_settles_79 : decode cX11_settles 79 = .ok (.getfield 40, 3) := by decide +kernel
theorem dX11_settles_82 : decode cX11_settles 82 = .ok (.iload_n 1, 1) := by decide +kernel
theorem dX11_settles_83 : decode cX11_settles 83 = .ok (.iaload, 1) := by decide +kernel
theorem dX11_settles_84 : decode cX11_settles 84 = .ok (.aload_n 0, 1) := by decide +kernel
theorem dX11_settles_85 : decode cX11_settles 85 = .ok (.getfield 33, 3) := by decide +kernel
theorem dX11_settles_88 : decode cX11_settles 88 = .ok (.if_icmp .lt 10, 3) := by decide +kernel
theorem dX11_settles_91 : decode cX11_settles 91 = .ok (.aload_n 0, 1) := by decide +kernel
theorem dX11_settles_92 : decode cX11_settles 92 = .ok (.getfield 40, 3) := by decide +kernel
theorem dX11_settles_95 : decode cX11_settles 95 = .ok (.iload_n 1, 1) := by decide +kernel
theorem dX11_settles_96 : decode cX11_settles 96 = .ok (.iconst 0, 1) := by decide +kernel
theorem dX11_settles_97 : decode cX11_settles 97 = .ok (.iastore, 1) := by decide +kernel
theorem dX11_settles_98 : decode cX11_settles 98 = .ok (.iinc 1 1, 3) := by decide +kernel
theorem dX11_settles_101 : decode cX11_settles 101 = .ok (.goto (-99), 3) := by decide +kernel
theorem dX11_settles_104 : decode cX11_settles 104 = .ok (.return_, 1) := by decide +kernel
theorem dX11_set_0 : decode cX11_set 0 = .ok (.aload_n 0, 1) := by decide +kernel
theorem dX11_set_1 : decode cX11_set 1 = .ok (.iconst 0, 1) := by decide +kernel
theorem dX11_set_2 : decode cX11_set 2 = .ok (.putfield 73, 3) := by decide +kernel
theorem dX11_set_5 : decode cX11_set 5 = .ok (.iload_n 1, 1) := by decide +kernel
theorem dX11_set_6 : decode cX11_set 6 = .ok (.iconst 5, 1) := by decide +kernel
theorem dX11_set_7 : decode cX11_set 7 = .ok (.if_icmp .ne 7, 3) := by decide +kernel
theorem dX11_set_10 : decode cX11_set 10 = .ok (.iconst 1, 1) := by decide +kernel
theorem dX11_set_11 : decode cX11_set 11 = .ok (.goto 4, 3) := by decide +kernel
theorem dX11_set_14 : decode cX11_set 14 = .ok (.iconst 0, 1) := by decide +kernel
theorem dX11_set_15 : decode cX11_set 15 = .ok (.istore_n 3, 1) := by decide +kernel
theorem dX11_set_16 : decode cX11_set 16 = .ok (.iload_n 1, 1) := by decide +kernel
theorem dX11_set_17 : decode cX11_set 17 = .ok (.iconst 3, 1) := by decide +kernel
theorem dX11_set_18 : decode cX11_set 18 = .ok (.if_icmp .ge 8, 3) := by decide +kernel
theorem dX11_set_21 : decode cX11_set 21 = .ok (.bipush 9, 2) := by decide +kernel
theorem dX11_set_23 : decode cX11_set 23 = .ok (.goto 25, 3) := by decide +kernel
theorem dX11_set_26 : decode cX11_set 26 = .ok (.iload_n 1, 1) := by decide +kernel
theorem dX11_set_27 : decode cX11_set 27 = .ok (.iconst 3, 1) := by decide +kernel
theorem dX11_set_28 : decode cX11_set 28 = .ok (.if_icmp .ne 8, 3) := by decide +kernel
theorem dX11_set_31 : decode cX11_set 31 = .ok (.bipush 100, 2) := by decide +kernel
theorem dX11_set_33 : decode cX11_set 33 = .ok (.goto 15, 3) := by decide +kernel
theorem dX11_set_36 : decode cX11_set 36 = .ok (.iload_n 1, 1) := by decide +kernel
theorem dX11_set_37 : decode cX11_set 37 = .ok (.iconst 4, 1) := by decide +kernel
theorem dX11_set_38 : decode cX11_set 38 = .ok (.if_icmp .ne 8, 3) := by decide +kernel
theorem dX11_set_41 : decode cX11_set 41 = .ok (.bipush 40, 2) := by decide +kernel
theorem dX11_set_43 : decode cX11_set 43 = .ok (.goto 5, 3) := by decide +kernel
theorem dX11_set_46 : decode cX11_set 46 = .ok (.bipush 6, 2) := by decide +kernel
theorem dX11_set_48 : decode cX11_set 48 = .ok (.istore 4, 2) := by decide +kernel
theorem dX11_set_50 : decode cX11_set 50 = .ok (.aload_n 0, 1) := by decide +kernel
theorem dX11_set_51 : decode cX11_set 51 = .ok (.iload_n 1, 1) := by decide +kernel
theorem dX11_set_52 : decode cX11_set 52 = .ok (.ifCond .lt 19, 3) := by decide +kernel
theorem dX11_set_55 : decode cX11_set 55 = .ok (.iload_n 1, 1) := by decide +kernel
theorem dX11_set_56 : decode cX11_set 56 = .ok (.iconst 5, 1) := by decide +kernel
theorem dX11_set_57 : decode cX11_set 57 = .ok (.if_icmp .gt 14, 3) := by decide +kernel
theorem dX11_set_60 : decode cX11_set 60 = .ok (.iload_n 2, 1) := by decide +kernel
theorem dX11_set_61 : decode cX11_set 61 = .ok (.iload_n 3, 1) := by decide +kernel
theorem dX11_set_62 : decode cX11_set 62 = .ok (.if_icmp .lt 9, 3) := by decide +kernel
theorem dX11_set_65 : decode cX11_set 65 = .ok (.iload_n 2, 1) := by decide +kernel
theorem dX11_set_66 : decode cX11_set 66 = .ok (.iload 4, 2) := by decide +kernel
theorem dX11_set_68 : decode cX11_set 68 = .ok (.if_icmp .le 7, 3) := by decide +kernel
theorem dX11_set_71 : decode cX11_set 71 = .ok (.iconst 1, 1) := by decide +kernel
theorem dX11_set_72 : decode cX11_set 72 = .ok (.goto 4, 3) := by decide +kernel
theorem dX11_set_75 : decode cX11_set 75 = .ok (.iconst 0, 1) := by decide +kernel
theorem dX11_set_76 : decode cX11_set 76 = .ok (.iconst 1, 1) := by decide +kernel
theorem dX11_set_77 : decode cX11_set 77 = .ok (.invokevirtual 79, 3) := by decide +kernel
theorem dX11_set_80 : decode cX11_set 80 = .ok (.ifCond .eq 5, 3) := by decide +kernel
theorem dX11_set_83 : decode cX11_set 83 = .ok (.iconst 0, 1) := by decide +kernel
theorem dX11_set_84 : decode cX11_set 84 = .ok (.ireturn, 1) := by decide +kernel
theorem dX11_set_85 : decode cX11_set 85 = .ok (.iload_n 1, 1) := by decide +kernel
theorem dX11_set_86 : decode cX11_set 86 = .ok (.iconst 3, 1) := by decide +kernel
theorem dX11_set_87 : decode cX11_set 87 = .ok (.if_icmp .ge 12, 3) := by decide +kernel
theorem dX11_set_90 : decode cX11_set 90 = .ok (.aload_n 0, 1) := by decide +kernel
theorem dX11_set_91 : decode cX11_set 91 = .ok (.getfield 23, 3) := by decide +kernel
theorem dX11_set_94 : decode cX11_set 94 = .ok (.iload_n 1, 1) := by decide +kernel
theorem dX11_set_95 : decode cX11_set 95 = .ok (.iaload, 1) := by decide +kernel
theorem dX11_set_96 : decode cX11_set 96 = .ok (.goto 31, 3) := by decide +kernel
theorem dX11_set_99 : decode cX11_set 99 = .ok (.iload_n 1, 1) := by decide +kernel
theorem dX11_set_100 : decode cX11_set 100 = .ok (.iconst 3, 1) := by decide +kernel
theorem dX11_set_101 : decode cX11_set 101 = .ok (.if_icmp .ne 10, 3) := by decide +kernel
theorem dX11_set_104 : decode cX11_set 104 = .ok (.aload_n 0, 1) := by decide +kernel
theorem dX11_set_105 : decode cX11_set 105 = .ok (.getfield 26, 3) := by decide +kernel
theorem dX11_set_108 : decode cX11_set 108 = .ok (.goto 19, 3) := by decide +kernel
theorem dX11_set_111 : decode cX11_set 111 = .ok (.iload_n 1, 1) := by decide +kernel
theorem dX11_set_112 : decode cX11_set 112 = .ok (.iconst 4, 1) := by decide +kernel
theorem dX11_set_113 : decode cX11_set 113 = .ok (.if_icmp .ne 10, 3) := by decide +kernel
theorem dX11_set_116 : decode cX11_set 116 = .ok (.aload_n 0, 1) := by decide +kernel
theorem dX11_set_117 : decode cX11_set 117 = .ok (.getfield 30, 3) := by decide +kernel
theorem dX11_set_120 : decode cX11_set 120 = .ok (.goto 7, 3) := by decide +kernel
theorem dX11_set_123 : decode cX11_set 123 = .ok (.aload_n 0, 1) := by decide +kernel
theorem dX11_set_124 : decode cX11_set 124 = .ok (.getfield 33, 3) := by decide +kernel
theorem dX11_set_127 : decode cX11_set 127 = .ok (.istore 5, 2) := by decide +kernel
theorem dX11_set_129 : decode cX11_set 129 = .ok (.iload_n 1, 1) := by decide +kernel
theorem dX11_set_130 : decode cX11_set 130 = .ok (.iconst 3, 1) := by decide +kernel
theorem dX11_set_131 : decode cX11_set 131 = .ok (.if_icmp .ge 13, 3) := by decide +kernel
theorem dX11_set_134 : decode cX11_set 134 = .ok (.aload_n 0, 1) := by decide +kernel
theorem dX11_set_135 : decode cX11_set 135 = .ok (.getfield 23, 3) := by decide +kernel
theorem dX11_set_138 : decode cX11_set 138 = .ok (.iload_n 1, 1) := by decide +kernel
theorem dX11_set_139 : decode cX11_set 139 = .ok (.iload_n 2, 1) := by decide +kernel
theorem dX11_set_140 : decode cX11_set 140 = .ok (.iastore, 1) := by decide +kernel
theorem dX11_set_141 : decode cX11_set 141 = .ok (.goto 34, 3) := by decide +kernel
theorem dX11_set_144 : decode cX11_set 144 = .ok (.iload_n 1, 1) := by decide +kernel
theorem dX11_set_145 : decode cX11_set 145 = .ok (.iconst 3, 1) := by decide +kernel
theorem dX11_set_146 : decode cX11_set 146 = .ok (.if_icmp .ne 11, 3) := by decide +kernel
theorem dX11_set_149 : decode cX11_set 149 = .ok (.aload_n 0, 1) := by decide +kernel
theorem dX11_set_150 : decode cX11_set 150 = .ok (.iload_n 2, 1) := by decide +kernel
theorem dX11_set_151 : decode cX11_set 151 = .ok (.putfield 26, 3) := by decide +kernel
theorem dX11_set_154 : decode cX11_set 154 = .ok (.goto 21, 3) := by decide +kernel
theorem dX11_set_157 : decode cX11_set 157 = .ok (.iload_n 1, 1) := by decide +kernel
theorem dX11_set_158 : decode cX11_set 158 = .ok (.iconst 4, 1) := by decide +kernel
theorem dX11_set_159 : decode cX11_set 159 = .ok (.if_icmp .ne 11, 3) := by decide +kernel
theorem dX11_set_162 : decode cX11_set 162 = .ok (.aload_n 0, 1) := by decide +kernel
theorem dX11_set_163 : decode cX11_set 163 = .ok (.iload_n 2, 1) := by decide +kernel
theorem dX11_set_164 : decode cX11_set 164 = .ok (.putfield 30, 3) := by decide +kernel
theorem dX11_set_167 : decode cX11_set 167 = .ok (.goto 8, 3) := by decide +kernel
theorem dX11_set_170 : decode cX11_set 170 = .ok (.aload_n 0, 1) := by decide +kernel
theorem dX11_set_171 : decode cX11_set 171 = .ok (.iload_n 2, 1) := by decide +kernel
theorem dX11_set_172 : decode cX11_set 172 = .ok (.putfield 33, 3) := by decide +kernel
theorem dX11_set_175 : decode cX11_set 175 = .ok (.aload_n 0, 1) := by decide +kernel
theorem dX11_set_176 : decode cX11_set 176 = .ok (.invokevirtual 94, 3) := by decide +kernel
theorem dX11_set_179 : decode cX11_set 179 = .ok (.iload 5, 2) := by decide +kernel
theorem dX11_set_181 : decode cX11_set 181 = .ok (.ireturn, 1) := by decide +kernel
theorem dX11_must_0 : decode cX11_must 0 = .ok (.aload_n 0, 1) := by decide +kernel
theorem dX11_must_1 : decode cX11_must 1 = .ok (.iconst 0, 1) := by decide +kernel
theorem dX11_must_2 : decode cX11_must 2 = .ok (.putfield 73, 3) := by decide +kernel
theorem dX11_must_5 : decode cX11_must 5 = .ok (.aload_n 0, 1) := by decide +kernel
theorem dX11_must_6 : decode cX11_must 6 = .ok (.aload_n 0, 1) := by decide +kernel
theorem dX11_must_7 : decode cX11_must 7 = .ok (.iload_n 1, 1) := by decide +kernel
theorem dX11_must_8 : decode cX11_must 8 = .ok (.invokevirtual 97, 3) := by decide +kernel
theorem dX11_must_11 : decode cX11_must 11 = .ok (.ifCond .eq 11, 3) := by decide +kernel
theorem dX11_must_14 : decode cX11_must 14 = .ok (.aload_n 0, 1) := by decide +kernel
theorem dX11_must_15 : decode cX11_must 15 = .ok (.iload_n 2, 1) := by decide +kernel
theorem dX11_must_16 : decode cX11_must 16 = .ok (.invokevirtual 97, 3) := by decide +kernel
theorem dX11_must_19 : decode cX11_must 19 = .ok (.ifCond .ne 7, 3) := by decide +kernel
theorem dX11_must_22 : decode cX11_must 22 = .ok (.iconst 1, 1) := by decide +kernel
theorem dX11_must_23 : decode cX11_must 23 = .ok (.goto 4, 3) := by decide +kernel
theorem dX11_must_26 : decode cX11_must 26 = .ok (.iconst 0, 1) := by decide +kernel
theorem dX11_must_27 : decode cX11_must 27 = .ok (.iconst 1, 1) := by decide +kernel
theorem dX11_must_28 : decode cX11_must 28 = .ok (.invokevirtual 79, 3) := by decide +kernel
theorem dX11_must_31 : decode cX11_must 31 = .ok (.ifCond .ne 30, 3) := by decide +kernel
theorem dX11_must_34 : decode cX11_must 34 = .ok (.aload_n 0, 1) := by decide +kernel
theorem dX11_must_35 : decode cX11_must 35 = .ok (.iload_n 1, 1) := by decide +kernel
theorem dX11_must_36 : decode cX11_must 36 = .ok (.iload_n 2, 1) := by decide +kernel
theorem dX11_must_37 : decode cX11_must 37 = .ok (.if_icmp .eq 12, 3) := by decide +kernel
theorem dX11_must_40 : decode cX11_must 40 = .ok (.iload_n 3, 1) := by decide +kernel
theorem dX11_must_41 : decode cX11_must 41 = .ok (.ifCond .lt 8, 3) := by decide +kernel
theorem dX11_must_44 : decode cX11_must 44 = .ok (.iload_n 3, 1) := by decide +kernel
theorem dX11_must_45 : decode cX11_must 45 = .ok (.iconst 2, 1) := by decide +kernel
theorem dX11_must_46 : decode cX11_must 46 = .ok (.if_icmp .le 7, 3) := by decide +kernel
theorem dX11_must_49 : decode cX11_must 49 = .ok (.iconst 1, 1) := by decide +kernel
theorem dX11_must_50 : decode cX11_must 50 = .ok (.goto 4, 3) := by decide +kernel
theorem dX11_must_53 : decode cX11_must 53 = .ok (.iconst 0, 1) := by decide +kernel
theorem dX11_must_54 : decode cX11_must 54 = .ok (.iconst 2, 1) := by decide +kernel
theorem dX11_must_55 : decode cX11_must 55 = .ok (.invokevirtual 79, 3) := by decide +kernel
theorem dX11_must_58 : decode cX11_must 58 = .ok (.ifCond .eq 5, 3) := by decide +kernel
theorem dX11_must_61 : decode cX11_must 61 = .ok (.iconst 0, 1) := by decide +kernel
theorem dX11_must_62 : decode cX11_must 62 = .ok (.ireturn, 1) := by decide +kernel
theorem dX11_must_63 : decode cX11_must 63 = .ok (.aload_n 0, 1) := by decide +kernel
theorem dX11_must_64 : decode cX11_must 64 = .ok (.getfield 43, 3) := by decide +kernel
theorem dX11_must_67 : decode cX11_must 67 = .ok (.bipush 40, 2) := by decide +kernel
theorem dX11_must_69 : decode cX11_must 69 = .ok (.iload_n 1, 1) := by decide +kernel
theorem dX11_must_70 : decode cX11_must 70 = .ok (.imul, 1) := by decide +kernel
theorem dX11_must_71 : decode cX11_must 71 = .ok (.iload_n 2, 1) := by decide +kernel
theorem dX11_must_72 : decode cX11_must 72 = .ok (.iadd, 1) := by decide +kernel
theorem dX11_must_73 : decode cX11_must 73 = .ok (.iaload, 1) := by decide +kernel
theorem dX11_must_74 : decode cX11_must 74 = .ok (.istore 4, 2) := by decide +kernel
theorem dX11_must_76 : decode cX11_must 76 = .ok (.aload_n 0, 1) := by decide +kernel
theorem dX11_must_77 : decode cX11_must 77 = .ok (.getfield 43, 3) := by decide +kernel
theorem dX11_must_80 : decode cX11_must 80 = .ok (.bipush 40, 2) := by decide +kernel
theorem dX11_must_82 : decode cX11_must 82 = .ok (.iload_n 1, 1) := by decide +kernel
theorem dX11_must_83 : decode cX11_must 83 = .ok (.imul, 1) := by decide +kernel
theorem dX11_must_84 : decode cX11_must 84 = .ok (.iload_n 2, 1) := by decide +kernel
theorem dX11_must_85 : decode cX11_must 85 = .ok (.iadd, 1) := by decide +kernel
theorem dX11_must_86 : decode cX11_must 86 = .ok (.iload_n 3, 1) := by decide +kernel
theorem dX11_must_87 : decode cX11_must 87 = .ok (.iastore, 1) := by decide +kernel
theorem dX11_must_88 : decode cX11_must 88 = .ok (.aload_n 0, 1) := by decide +kernel
theorem dX11_must_89 : decode cX11_must 89 = .ok (.getfield 43, 3) := by decide +kernel
theorem dX11_must_92 : decode cX11_must 92 = .ok (.bipush 40, 2) := by decide +kernel
theorem dX11_must_94 : decode cX11_must 94 = .ok (.iload_n 2, 1) := by decide +kernel
theorem dX11_must_95 : decode cX11_must 95 = .ok (.imul, 1) := by decide +kernel
theorem dX11_must_96 : decode cX11_must 96 = .ok (.iload_n 1, 1) := by decide +kernel
theorem dX11_must_97 : decode cX11_must 97 = .ok (.iadd, 1) := by decide +kernel
theorem dX11_must_98 : decode cX11_must 98 = .ok (.iload_n 3, 1) := by decide +kernel
theorem dX11_must_99 : decode cX11_must 99 = .ok (.iastore, 1) := by decide +kernel
theorem dX11_must_100 : decode cX11_must 100 = .ok (.iload 4, 2) := by decide +kernel
theorem dX11_must_102 : decode cX11_must 102 = .ok (.ireturn, 1) := by decide +kernel
theorem dX11_fix_0 : decode cX11_fix 0 = .ok (.aload_n 0, 1) := by decide +kernel
theorem dX11_fix_1 : decode cX11_fix 1 = .ok (.iconst 0, 1) := by decide +kernel
theorem dX11_fix_2 : decode cX11_fix 2 = .ok (.putfield 73, 3) := by decide +kernel
theorem dX11_fix_5 : decode cX11_fix 5 = .ok (.aload_n 0, 1) := by decide +kernel
theorem dX11_fix_6 : decode cX11_fix 6 = .ok (.aload_n 0, 1) := by decide +kernel
theorem dX11_fix_7 : decode cX11_fix 7 = .ok (.iload_n 1, 1) := by decide +kernel
theorem dX11_fix_8 : decode cX11_fix 8 = .ok (.invokevirtual 97, 3) := by decide +kernel
theorem dX11_fix_11 : decode cX11_fix 11 = .ok (.ifCond .ne 7, 3) := by decide +kernel
theorem dX11_fix_14 : decode cX11_fix 14 = .ok (.iconst 1, 1) := by decide +kernel
theorem dX11_fix_15 : decode cX11_fix 15 = .ok (.goto 4, 3) := by decide +kernel
theorem dX11_fix_18 : decode cX11_fix 18 = .ok (.iconst 0, 1) := by decide +kernel
theorem dX11_fix_19 : decode cX11_fix 19 = .ok (.iconst 1, 1) := by decide +kernel
theorem dX11_fix_20 : decode cX11_fix 20 = .ok (.invokevirtual 79, 3) := by decide +kernel
theorem dX11_fix_23 : decode cX11_fix 23 = .ok (.ifCond .ne 27, 3) := by decide +kernel
theorem dX11_fix_26 : decode cX11_fix 26 = .ok (.aload_n 0, 1) := by decide +kernel
theorem dX11_fix_27 : decode cX11_fix 27 = .ok (.iload_n 2, 1) := by decide +kernel
theorem dX11_fix_28 : decode cX11_fix 28 = .ok (.iconst (-1), 1) := by decide +kernel
theorem dX11_fix_29 : decode cX11_fix 29 = .ok (.if_icmp .lt 9, 3) := by decide +kernel
theorem dX11_fix_32 : decode cX11_fix 32 = .ok (.iload_n 2, 1) := by decide +kernel
theorem dX11_fix_33 : decode cX11_fix 33 = .ok (.bipush 6, 2) := by decide +kernel
theorem dX11_fix_35 : decode cX11_fix 35 = .ok (.if_icmp .lt 7, 3) := by decide +kernel
theorem dX11_fix_38 : decode cX11_fix 38 = .ok (.iconst 1, 1) := by decide +kernel
theorem dX11_fix_39 : decode cX11_fix 39 = .ok (.goto 4, 3) := by decide +kernel
theorem dX11_fix_42 : decode cX11_fix 42 = .ok (.iconst 0, 1) := by decide +kernel
theorem dX11_fix_43 : decode cX11_fix 43 = .ok (.iconst 2, 1) := by decide +kernel
theorem dX11_fix_44 : decode cX11_fix 44 = .ok (.invokevirtual 79, 3) := by decide +kernel
theorem dX11_fix_47 : decode cX11_fix 47 = .ok (.ifCond .eq 5, 3) := by decide +kernel
theorem dX11_fix_50 : decode cX11_fix 50 = .ok (.iconst 0, 1) := by decide +kernel
theorem dX11_fix_51 : decode cX11_fix 51 = .ok (.ireturn, 1) := by decide +kernel
theorem dX11_fix_52 : decode cX11_fix 52 = .ok (.aload_n 0, 1) := by decide +kernel
theorem dX11_fix_53 : decode cX11_fix 53 = .ok (.getfield 46, 3) := by decide +kernel
theorem dX11_fix_56 : decode cX11_fix 56 = .ok (.iload_n 1, 1) := by decide +kernel
theorem dX11_fix_57 : decode cX11_fix 57 = .ok (.iaload, 1) := by decide +kernel
theorem dX11_fix_58 : decode cX11_fix 58 = .ok (.istore_n 3, 1) := by decide +kernel
theorem dX11_fix_59 : decode cX11_fix 59 = .ok (.aload_n 0, 1) := by decide +kernel
theorem dX11_fix_60 : decode cX11_fix 60 = .ok (.getfield 46, 3) := by decide +kernel
theorem dX11_fix_63 : decode cX11_fix 63 = .ok (.iload_n 1, 1) := by decide +kernel
theorem dX11_fix_64 : decode cX11_fix 64 = .ok (.iload_n 2, 1) := by decide +kernel
theorem dX11_fix_65 : decode cX11_fix 65 = .ok (.iastore, 1) := by decide +kernel
theorem dX11_fix_66 : decode cX11_fix 66 = .ok (.iload_n 3, 1) := by decide +kernel
theorem dX11_fix_67 : decode cX11_fix 67 = .ok (.ireturn, 1) := by decide +kernel
theorem dX11_hub_0 : decode cX11_hub 0 = .ok (.aload_n 0, 1) := by decide +kernel
theorem dX11_hub_1 : decode cX11_hub 1 = .ok (.iconst 0, 1) := by decide +kernel
theorem dX11_hub_2 : decode cX11_hub 2 = .ok (.putfield 73, 3) := by decide +kernel
theorem dX11_hub_5 : decode cX11_hub 5 = .ok (.aload_n 0, 1) := by decide +kernel
theorem dX11_hub_6 : decode cX11_hub 6 = .ok (.aload_n 0, 1) := by decide +kernel
theorem dX11_hub_7 : decode cX11_hub 7 = .ok (.iload_n 1, 1) := by decide +kernel
theorem dX11_hub_8 : decode cX11_hub 8 = .ok (.invokevirtual 97, 3) := by decide +kernel
theorem dX11_hub_11 : decode cX11_hub 11 = .ok (.ifCond .ne 7, 3) := by decide +kernel
theorem dX11_hub_14 : decode cX11_hub 14 = .ok (.iconst 1, 1) := by decide +kernel
theorem dX11_hub_15 : decode cX11_hub 15 = .ok (.goto 4, 3) := by decide +kernel
theorem dX11_hub_18 : decode cX11_hub 18 = .ok (.iconst 0, 1) := by decide +kernel
theorem dX11_hub_19 : decode cX11_hub 19 = .ok (.iconst 1, 1) := by decide +kernel
theorem dX11_hub_20 : decode cX11_hub 20 = .ok (.invokevirtual 79, 3) := by decide +kernel
theorem dX11_hub_23 : decode cX11_hub 23 = .ok (.ifCond .ne 16, 3) := by decide +kernel
theorem dX11_hub_26 : decode cX11_hub 26 = .ok (.aload_n 0, 1) := by decide +kernel
theorem dX11_hub_27 : decode cX11_hub 27 = .ok (.getfield 36, 3) := by decide +kernel
theorem dX11_hub_30 : decode cX11_hub 30 = .ok (.iload_n 1, 1) := by decide +kernel
theorem dX11_hub_31 : decode cX11_hub 31 = .ok (.baload, 1) := by decide +kernel
theorem dX11_hub_32 : decode cX11_hub 32 = .ok (.ifCond .eq 7, 3) := by decide +kernel
theorem dX11_hub_35 : decode cX11_hub 35 = .ok (.iconst 1, 1) := by decide +kernel
theorem dX11_hub_36 : decode cX11_hub 36 = .ok (.goto 4, 3) := by decide +kernel
theorem dX11_hub_39 : decode cX11_hub 39 = .ok (.iconst 0, 1) := by decide +kernel
theorem dX11_hub_40 : decode cX11_hub 40 = .ok (.ireturn, 1) := by decide +kernel
theorem dX11_room_0 : decode cX11_room 0 = .ok (.aload_n 0, 1) := by decide +kernel
theorem dX11_room_1 : decode cX11_room 1 = .ok (.iconst 0, 1) := by decide +kernel
theorem dX11_room_2 : decode cX11_room 2 = .ok (.putfield 73, 3) := by decide +kernel
theorem dX11_room_5 : decode cX11_room 5 = .ok (.aload_n 0, 1) := by decide +kernel
theorem dX11_room_6 : decode cX11_room 6 = .ok (.aload_n 0, 1) := by decide +kernel
theorem dX11_room_7 : decode cX11_room 7 = .ok (.iload_n 1, 1) := by decide +kernel
theorem dX11_room_8 : decode cX11_room 8 = .ok (.invokevirtual 97, 3) := by decide +kernel
theorem dX11_room_11 : decode cX11_room 11 = .ok (.ifCond .ne 7, 3) := by decide +kernel
theorem dX11_room_14 : decode cX11_room 14 = .ok (.iconst 1, 1) := by decide +kernel
theorem dX11_room_15 : decode cX11_room 15 = .ok (.goto 4, 3) := by decide +kernel
theorem dX11_room_18 : decode cX11_room 18 = .ok (.iconst 0, 1) := by decide +kernel
theorem dX11_room_19 : decode cX11_room 19 = .ok (.iconst 1, 1) := by decide +kernel
theorem dX11_room_20 : decode cX11_room 20 = .ok (.invokevirtual 79, 3) := by decide +kernel
theorem dX11_room_23 : decode cX11_room 23 = .ok (.ifCond .eq 7, 3) := by decide +kernel
theorem dX11_room_26 : decode cX11_room 26 = .ok (.iconst 0, 1) := by decide +kernel
theorem dX11_room_27 : decode cX11_room 27 = .ok (.goto 22, 3) := by decide +kernel
theorem dX11_room_30 : decode cX11_room 30 = .ok (.aload_n 0, 1) := by decide +kernel
theorem dX11_room_31 : decode cX11_room 31 = .ok (.getfield 36, 3) := by decide +kernel
theorem dX11_room_34 : decode cX11_room 34 = .ok (.iload_n 1, 1) := by decide +kernel
theorem dX11_room_35 : decode cX11_room 35 = .ok (.baload, 1) := by decide +kernel
theorem dX11_room_36 : decode cX11_room 36 = .ok (.ifCond .eq 7, 3) := by decide +kernel
theorem dX11_room_39 : decode cX11_room 39 = .ok (.iconst (-1), 1) := by decide +kernel
theorem dX11_room_40 : decode cX11_room 40 = .ok (.goto 9, 3) := by decide +kernel
theorem dX11_room_43 : decode cX11_room 43 = .ok (.aload_n 0, 1) := by decide +kernel
theorem dX11_room_44 : decode cX11_room 44 = .ok (.getfield 40, 3) := by decide +kernel
theorem dX11_room_47 : decode cX11_room 47 = .ok (.iload_n 1, 1) := by decide +kernel
theorem dX11_room_48 : decode cX11_room 48 = .ok (.iaload, 1) := by decide +kernel
theorem dX11_room_49 : decode cX11_room 49 = .ok (.ireturn, 1) := by decide +kernel
theorem dX11_isRoom_0 : decode cX11_isRoom 0 = .ok (.iload_n 1, 1) := by decide +kernel
theorem dX11_isRoom_1 : decode cX11_isRoom 1 = .ok (.ifCond .lt 15, 3) := by decide +kernel
theorem dX11_isRoom_4 : decode cX11_isRoom 4 = .ok (.iload_n 1, 1) := by decide +kernel
theorem dX11_isRoom_5 : decode cX11_isRoom 5 = .ok (.aload_n 0, 1) := by decide +kernel
theorem dX11_isRoom_6 : decode cX11_isRoom 6 = .ok (.getfield 33, 3) := by decide +kernel
theorem dX11_isRoom_9 : decode cX11_isRoom 9 = .ok (.if_icmp .ge 7, 3) := by decide +kernel
theorem dX11_isRoom_12 : decode cX11_isRoom 12 = .ok (.iconst 1, 1) := by decide +kernel
theorem dX11_isRoom_13 : decode cX11_isRoom 13 = .ok (.goto 4, 3) := by decide +kernel
theorem dX11_isRoom_16 : decode cX11_isRoom 16 = .ok (.iconst 0, 1) := by decide +kernel
theorem dX11_isRoom_17 : decode cX11_isRoom 17 = .ok (.ireturn, 1) := by decide +kernel
theorem dX11_put_0 : decode cX11_put 0 = .ok (.aload_n 0, 1) := by decide +kernel
theorem dX11_put_1 : decode cX11_put 1 = .ok (.iconst 0, 1) := by decide +kernel
theorem dX11_put_2 : decode cX11_put 2 = .ok (.putfield 73, 3) := by decide +kernel
theorem dX11_put_5 : decode cX11_put 5 = .ok (.aload_n 0, 1) := by decide +kernel
theorem dX11_put_6 : decode cX11_put 6 = .ok (.aload_n 0, 1) := by decide +kernel
theorem dX11_put_7 : decode cX11_put 7 = .ok (.iload_n 1, 1) := by decide +kernel
theorem dX11_put_8 : decode cX11_put 8 = .ok (.invokevirtual 97, 3) := by decide +kernel
theorem dX11_put_11 : decode cX11_put 11 = .ok (.ifCond .ne 7, 3) := by decide +kernel
theorem dX11_put_14 : decode cX11_put 14 = .ok (.iconst 1, 1) := by decide +kernel
theorem dX11_put_15 : decode cX11_put 15 = .ok (.goto 4, 3) := by decide +kernel
theorem dX11_put_18 : decode cX11_put 18 = .ok (.iconst 0, 1) := by decide +kernel
theorem dX11_put_19 : decode cX11_put 19 = .ok (.iconst 1, 1) := by decide +kernel
theorem dX11_put_20 : decode cX11_put 20 = .ok (.invokevirtual 79, 3) := by decide +kernel
theorem dX11_put_23 : decode cX11_put 23 = .ok (.ifCond .ne 24, 3) := by decide +kernel
theorem dX11_put_26 : decode cX11_put 26 = .ok (.aload_n 0, 1) := by decide +kernel
theorem dX11_put_27 : decode cX11_put 27 = .ok (.aload_n 0, 1) := by decide +kernel
theorem dX11_put_28 : decode cX11_put 28 = .ok (.iload_n 2, 1) := by decide +kernel
theorem dX11_put_29 : decode cX11_put 29 = .ok (.invokevirtual 109, 3) := by decide +kernel
theorem dX11_put_32 : decode cX11_put 32 = .ok (.ifCond .ne 7, 3) := by decide +kernel
theorem dX11_put_35 : decode cX11_put 35 = .ok (.iconst 1, 1) := by decide +kernel
theorem dX11_put_36 : decode cX11_put 36 = .ok (.goto 4, 3) := by decide +kernel
theorem dX11_put_39 : decode cX11_put 39 = .ok (.iconst 0, 1) := by decide +kernel
theorem dX11_put_40 : decode cX11_put 40 = .ok (.iconst 2, 1) := by decide +kernel
theorem dX11_put_41 : decode cX11_put 41 = .ok (.invokevirtual 79, 3) := by decide +kernel
theorem dX11_put_44 : decode cX11_put 44 = .ok (.ifCond .eq 5, 3) := by decide +kernel
theorem dX11_put_47 : decode cX11_put 47 = .ok (.iconst 0, 1) := by decide +kernel
theorem dX11_put_48 : decode cX11_put 48 = .ok (.ireturn, 1) := by decide +kernel
theorem dX11_put_49 : decode cX11_put 49 = .ok (.aload_n 0, 1) := by decide +kernel
theorem dX11_put_50 : decode cX11_put 50 = .ok (.getfield 36, 3) := by decide +kernel
theorem dX11_put_53 : decode cX11_put 53 = .ok (.iload_n 1, 1) := by decide +kernel
theorem dX11_put_54 : decode cX11_put 54 = .ok (.baload, 1) := by decide +kernel
theorem dX11_put_55 : decode cX11_put 55 = .ok (.ifCond .eq 5, 3) := by decide +kernel
theorem dX11_put_58 : decode cX11_put 58 = .ok (.iconst (-1), 1) := by decide +kernel
theorem dX11_put_59 : decode cX11_put 59 = .ok (.ireturn, 1) := by decide +kernel
theorem dX11_put_60 : decode cX11_put 60 = .ok (.aload_n 0, 1) := by decide +kernel
theorem dX11_put_61 : decode cX11_put 61 = .ok (.getfield 40, 3) := by decide +kernel
theorem dX11_put_64 : decode cX11_put 64 = .ok (.iload_n 1, 1) := by decide +kernel
theorem dX11_put_65 : decode cX11_put 65 = .ok (.iaload, 1) := by decide +kernel
theorem dX11_put_66 : decode cX11_put 66 = .ok (.istore_n 3, 1) := by decide +kernel
theorem dX11_put_67 : decode cX11_put 67 = .ok (.aload_n 0, 1) := by decide +kernel
theorem dX11_put_68 : decode cX11_put 68 = .ok (.getfield 40, 3) := by decide +kernel
theorem dX11_put_71 : decode cX11_put 71 = .ok (.iload_n 1, 1) := by decide +kernel
theorem dX11_put_72 : decode cX11_put 72 = .ok (.iload_n 2, 1) := by decide +kernel
theorem dX11_put_73 : decode cX11_put 73 = .ok (.iastore, 1) := by decide +kernel
theorem dX11_put_74 : decode cX11_put 74 = .ok (.iload_n 3, 1) := by decide +kernel
theorem dX11_put_75 : decode cX11_put 75 = .ok (.ireturn, 1) := by decide +kernel
theorem dX11_sizeOf_0 : decode cX11_sizeOf 0 = .ok (.iconst 0, 1) := by decide +kernel
theorem dX11_sizeOf_1 : decode cX11_sizeOf 1 = .ok (.istore_n 2, 1) := by decide +kernel
theorem dX11_sizeOf_2 : decode cX11_sizeOf 2 = .ok (.iconst 0, 1) := by decide +kernel
theorem dX11_sizeOf_3 : decode cX11_sizeOf 3 = .ok (.istore_n 3, 1) := by decide +kernel
theorem dX11_sizeOf_4 : decode cX11_sizeOf 4 = .ok (.iload_n 3, 1) := by decide +kernel
theorem dX11_sizeOf_5 : decode cX11_sizeOf 5 = .ok (.aload_n 0, 1) := by decide +kernel
theorem dX11_sizeOf_6 : decode cX11_sizeOf 6 = .ok (.getfield 83, 3) := by decide +kernel
theorem dX11_sizeOf_9 : decode cX11_sizeOf 9 = .ok (.if_icmp .ge 36, 3) := by decide +kernel
theorem dX11_sizeOf_12 : decode cX11_sizeOf 12 = .ok (.iload_n 2, 1) := by decide +kernel
theorem dX11_sizeOf_13 : decode cX11_sizeOf 13 = .ok (.aload_n 0, 1) := by decide +kernel
theorem dX11_sizeOf_14 : decode cX11_sizeOf 14 = .ok (.getfield 36, 3) := by decide +kernel
theorem dX11_sizeOf_17 : decode cX11_sizeOf 17 = .ok (.iload_n 3, 1) := by decide +kernel
theorem dX11_sizeOf_18 : decode cX11_sizeOf 18 = .ok (.baload, 1) := by decide +kernel
theorem dX11_sizeOf_19 : decode cX11_sizeOf 19 = .ok (.ifCond .ne 17, 3) := by decide +kernel
theorem dX11_sizeOf_22 : decode cX11_sizeOf 22 = .ok (.aload_n 0, 1) := by decide +kernel
theorem dX11_sizeOf_23 : decode cX11_sizeOf 23 = .ok (.getfield 40, 3) := by decide +kernel
theorem dX11_sizeOf_26 : decode cX11_sizeOf 26 = .ok (.iload_n 3, 1) := by decide +kernel
theorem dX11_sizeOf_27 : decode cX11_sizeOf 27 = .ok (.iaload, 1) := by decide +kernel
theorem dX11_sizeOf_28 : decode cX11_sizeOf 28 = .ok (.iload_n 1, 1) := by decide +kernel
theorem dX11_sizeOf_29 : decode cX11_sizeOf 29 = .ok (.if_icmp .ne 7, 3) := by decide +kernel
theorem dX11_sizeOf_32 : decode cX11_sizeOf 32 = .ok (.iconst 1, 1) := by decide +kernel
theorem dX11_sizeOf_33 : decode cX11_sizeOf 33 = .ok (.goto 4, 3) := by decide +kernel
theorem dX11_sizeOf_36 : decode cX11_sizeOf 36 = .ok (.iconst 0, 1) := by decide +kernel
theorem dX11_sizeOf_37 : decode cX11_sizeOf 37 = .ok (.iadd, 1) := by decide +kernel
theorem dX11_sizeOf_38 : decode cX11_sizeOf 38 = .ok (.istore_n 2, 1) := by decide +kernel
theorem dX11_sizeOf_39 : decode cX11_sizeOf 39 = .ok (.iinc 3 1, 3) := by decide +kernel
theorem dX11_sizeOf_42 : decode cX11_sizeOf 42 = .ok (.goto (-38), 3) := by decide +kernel
theorem dX11_sizeOf_45 : decode cX11_sizeOf 45 = .ok (.iload_n 2, 1) := by decide +kernel
theorem dX11_sizeOf_46 : decode cX11_sizeOf 46 = .ok (.ireturn, 1) := by decide +kernel
theorem dX11_isBroken_0 : decode cX11_isBroken 0 = .ok (.iload_n 0, 1) := by decide +kernel
theorem dX11_isBroken_1 : decode cX11_isBroken 1 = .ok (.iconst 1, 1) := by decide +kernel
theorem dX11_isBroken_2 : decode cX11_isBroken 2 = .ok (.if_icmp .ne 8, 3) := by decide +kernel
theorem dX11_isBroken_5 : decode cX11_isBroken 5 = .ok (.iload_n 1, 1) := by decide +kernel
theorem dX11_isBroken_6 : decode cX11_isBroken 6 = .ok (.iload_n 2, 1) := by decide +kernel
theorem dX11_isBroken_7 : decode cX11_isBroken 7 = .ok (.if_icmp .ne 13, 3) := by decide +kernel
theorem dX11_isBroken_10 : decode cX11_isBroken 10 = .ok (.iload_n 0, 1) := by decide +kernel
theorem dX11_isBroken_11 : decode cX11_isBroken 11 = .ok (.iconst 2, 1) := by decide +kernel
theorem dX11_isBroken_12 : decode cX11_isBroken 12 = .ok (.if_icmp .ne 12, 3) := by decide +kernel
theorem dX11_isBroken_15 : decode cX11_isBroken 15 = .ok (.iload_n 1, 1) := by decide +kernel
theorem dX11_isBroken_16 : decode cX11_isBroken 16 = .ok (.iload_n 2, 1) := by decide +kernel
theorem dX11_isBroken_17 : decode cX11_isBroken 17 = .ok (.if_icmp .ne 7, 3) := by decide +kernel
theorem dX11_isBroken_20 : decode cX11_isBroken 20 = .ok (.iconst 1, 1) := by decide +kernel
theorem dX11_isBroken_21 : decode cX11_isBroken 21 = .ok (.goto 4, 3) := by decide +kernel
theorem dX11_isBroken_24 : decode cX11_isBroken 24 = .ok (.iconst 0, 1) := by decide +kernel
theorem dX11_isBroken_25 : decode cX11_isBroken 25 = .ok (.ireturn, 1) := by decide +kernel
theorem dX11_brokenMany_0 : decode cX11_brokenMany 0 = .ok (.iconst 0, 1) := by decide +kernel
theorem dX11_brokenMany_1 : decode cX11_brokenMany 1 = .ok (.istore_n 1, 1) := by decide +kernel
theorem dX11_brokenMany_2 : decode cX11_brokenMany 2 = .ok (.iconst 0, 1) := by decide +kernel
theorem dX11_brokenMany_3 : decode cX11_brokenMany 3 = .ok (.istore_n 2, 1) := by decide +kernel
theorem dX11_brokenMany_4 : decode cX11_brokenMany 4 = .ok (.iload_n 2, 1) := by decide +kernel
theorem dX11_brokenMany_5 : decode cX11_brokenMany 5 = .ok (.aload_n 0, 1) := by decide +kernel
theorem dX11_brokenMany_6 : decode cX11_brokenMany 6 = .ok (.getfield 83, 3) := by decide +kernel
theorem dX11_brokenMany_9 : decode cX11_brokenMany 9 = .ok (.if_icmp .ge 117, 3) := by decide +kernel
theorem dX11_brokenMany_12 : decode cX11_brokenMany 12 = .ok (.aload_n 0, 1) := by decide +kernel
theorem dX11_brokenMany_13 : decode cX11_brokenMany 13 = .ok (.getfield 36, 3) := by decide +kernel
theorem dX11_brokenMany_16 : decode cX11_brokenMany 16 = .ok (.iload_n 2, 1) := by decide +kernel
theorem dX11_brokenMany_17 : decode cX11_brokenMany 17 = .ok (.baload, 1) := by decide +kernel
theorem dX11_brokenMany_18 : decode cX11_brokenMany 18 = .ok (.ifCond .eq 6, 3) := by decide +kernel
theorem dX11_brokenMany_21 : decode cX11_brokenMany 21 = .ok (.goto 99, 3) := by decide +kernel
theorem dX11_brokenMany_24 : decode cX11_brokenMany 24 = .ok (.iload_n 1, 1) := by decide +kernel
theorem dX11_brokenMany_25 : decode cX11_brokenMany 25 = .ok (.aload_n 0, 1) := by decide +kernel
theorem dX11_brokenMany_26 : decode cX11_brokenMany 26 = .ok (.getfield 46, 3) := by decide +kernel
theorem dX11_brokenMany_29 : decode cX11_brokenMany 29 = .ok (.iload_n 2, 1) := by decide +kernel
theorem dX11_brokenMany_30 : decode cX11_brokenMany 30 = .ok (.iaload, 1) := by decide +kernel
theorem dX11_brokenMany_31 : decode cX11_brokenMany 31 = .ok (.ifCond .lt 22, 3) := by decide +kernel
theorem dX11_brokenMany_34 : decode cX11_brokenMany 34 = .ok (.aload_n 0, 1) := by decide +kernel
theorem dX11_brokenMany_35 : decode cX11_brokenMany 35 = .ok (.getfield 46, 3) := by decide +kernel
theorem dX11_brokenMany_38 : decode cX11_brokenMany 38 = .ok (.iload_n 2, 1) := by decide +kernel
theorem dX11_brokenMany_39 : decode cX11_brokenMany 39 = .ok (.iaload, 1) := by decide +kernel
theorem dX11_brokenMany_40 : decode cX11_brokenMany 40 = .ok (.aload_n 0, 1) := by decide +kernel
theorem dX11_brokenMany_41 : decode cX11_brokenMany 41 = .ok (.getfield 40, 3) := by decide +kernel
theorem dX11_brokenMany_44 : decode cX11_brokenMany 44 = .ok (.iload_n 2, 1) := by decide +kernel
theorem dX11_brokenMany_45 : decode cX11_brokenMany 45 = .ok (.iaload, 1) := by decide +kernel
theorem dX11_brokenMany_46 : decode cX11_brokenMany 46 = .ok (.if_icmp .eq 7, 3) := by decide +kernel
theorem dX11_brokenMany_49 : decode cX11_brokenMany 49 = .ok (.iconst 1, 1) := by decide +kernel
theorem dX11_brokenMany_50 : decode cX11_brokenMany 50 = .ok (.goto 4, 3) := by decide +kernel
theorem dX11_brokenMany_53 : decode cX11_brokenMany 53 = .ok (.iconst 0, 1) := by decide +kernel
theorem dX11_brokenMany_54 : decode cX11_brokenMany 54 = .ok (.iadd, 1) := by decide +kernel
theorem dX11_brokenMany_55 : decode cX11_brokenMany 55 = .ok (.istore_n 1, 1) := by decide +kernel
theorem dX11_brokenMany_56 : decode cX11_brokenMany 56 = .ok (.iload_n 2, 1) := by decide +kernel
theorem dX11_brokenMany_57 : decode cX11_brokenMany 57 = .ok (.iconst 1, 1) := by decide +kernel
theorem dX11_brokenMany_58 : decode cX11_brokenMany 58 = .ok (.iadd, 1) := by decide +kernel
theorem dX11_brokenMany_59 : decode cX11_brokenMany 59 = .ok (.istore_n 3, 1) := by decide +kernel
theorem dX11_brokenMany_60 : decode cX11_brokenMany 60 = .ok (.iload_n 3, 1) := by decide +kernel
theorem dX11_brokenMany_61 : decode cX11_brokenMany 61 = .ok (.aload_n 0, 1) := by decide +kernel
theorem dX11_brokenMany_62 : decode cX11_brokenMany 62 = .ok (.getfield 83, 3) := by decide +kernel
theorem dX11_brokenMany_65 : decode cX11_brokenMany 65 = .ok (.if_icmp .ge 55, 3) := by decide +kernel
theorem dX11_brokenMany_68 : decode cX11_brokenMany 68 = .ok (.iload_n 1, 1) := by decide +kernel
theorem dX11_brokenMany_69 : decode cX11_brokenMany 69 = .ok (.aload_n 0, 1) := by decide +kernel
theorem dX11_brokenMany_70 : decode cX11_brokenMany 70 = .ok (.getfield 36, 3) := by decide +kernel
theorem dX11_brokenMany_73 : decode cX11_brokenMany 73 = .ok (.iload_n 3, 1) := by decide +kernel
theorem dX11_brokenMany_74 : decode cX11_brokenMany 74 = .ok (.baload, 1) := by decide +kernel
theorem dX11_brokenMany_75 : decode cX11_brokenMany 75 = .ok (.ifCond .ne 36, 3) := by decide +kernel
theorem dX11_brokenMany_78 : decode cX11_brokenMany 78 = .ok (.aload_n 0, 1) := by decide +kernel
theorem dX11_brokenMany_79 : decode cX11_brokenMany 79 = .ok (.getfield 43, 3) := by decide +kernel
theorem dX11_brokenMany_82 : decode cX11_brokenMany 82 = .ok (.bipush 40, 2) := by decide +kernel
theorem dX11_brokenMany_84 : decode cX11_brokenMany 84 = .ok (.iload_n 2, 1) := by decide +kernel
theorem dX11_brokenMany_85 : decode cX11_brokenMany 85 = .ok (.imul, 1) := by decide +kernel
theorem dX11_brokenMany_86 : decode cX11_brokenMany 86 = .ok (.iload_n 3, 1) := by decide +kernel
theorem dX11_brokenMany_87 : decode cX11_brokenMany 87 = .ok (.iadd, 1) := by decide +kernel
theorem dX11_brokenMany_88 : decode cX11_brokenMany 88 = .ok (.iaload, 1) := by decide +kernel
theorem dX11_brokenMany_89 : decode cX11_brokenMany 89 = .ok (.aload_n 0, 1) := by decide +kernel
theorem dX11_brokenMany_90 : decode cX11_brokenMany 90 = .ok (.getfield 40, 3) := by decide +kernel
theorem dX11_brokenMany_93 : decode cX11_brokenMany 93 = .ok (.iload_n 2, 1) := by decide +kernel
theorem dX11_brokenMany_94 : decode cX11_brokenMany 94 = .ok (.iaload, 1) := by decide +kernel
theorem dX11_brokenMany_95 : decode cX11_brokenMany 95 = .ok (.aload_n 0, 1) := by decide +kernel
theorem dX11_brokenMany_96 : decode cX11_brokenMany 96 = .ok (.getfield 40, 3) := by decide +kernel
theorem dX11_brokenMany_99 : decode cX11_brokenMany 99 = .ok (.iload_n 3, 1) := by decide +kernel
theorem dX11_brokenMany_100 : decode cX11_brokenMany 100 = .ok (.iaload, 1) := by decide +kernel
theorem dX11_brokenMany_101 : decode cX11_brokenMany 101 = .ok (.invokestatic 112, 3) := by decide +kernel
theorem dX11_brokenMany_104 : decode cX11_brokenMany 104 = .ok (.ifCond .eq 7, 3) := by decide +kernel
theorem dX11_brokenMany_107 : decode cX11_brokenMany 107 = .ok (.iconst 1, 1) := by decide +kernel
theorem dX11_brokenMany_108 : decode cX11_brokenMany 108 = .ok (.goto 4, 3) := by decide +kernel
theorem dX11_brokenMany_111 : decode cX11_brokenMany 111 = .ok (.iconst 0, 1) := by decide +kernel
theorem dX11_brokenMany_112 : decode cX11_brokenMany 112 = .ok (.iadd, 1) := by decide +kernel
theorem dX11_brokenMany_113 : decode cX11_brokenMany 113 = .ok (.istore_n 1, 1) := by decide +kernel
theorem dX11_brokenMany_114 : decode cX11_brokenMany 114 = .ok (.iinc 3 1, 3) := by decide +kernel
theorem dX11_brokenMany_117 : decode cX11_brokenMany 117 = .ok (.goto (-57), 3) := by decide +kernel
theorem dX11_brokenMany_120 : decode cX11_brokenMany 120 = .ok (.iinc 2 1, 3) := by decide +kernel
theorem dX11_brokenMany_123 : decode cX11_brokenMany 123 = .ok (.goto (-119), 3) := by decide +kernel
theorem dX11_brokenMany_126 : decode cX11_brokenMany 126 = .ok (.iload_n 1, 1) := by decide +kernel
theorem dX11_brokenMany_127 : decode cX11_brokenMany 127 = .ok (.ireturn, 1) := by decide +kernel
theorem dX11_costNow_0 : decode cX11_costNow 0 = .ok (.ldc2_w 116, 3) := by decide +kernel
theorem dX11_costNow_3 : decode cX11_costNow 3 = .ok (.aload_n 0, 1) := by decide +kernel
theorem dX11_costNow_4 : decode cX11_costNow 4 = .ok (.invokevirtual 118, 3) := by decide +kernel
theorem dX11_costNow_7 : decode cX11_costNow 7 = .ok (.i2l, 1) := by decide +kernel
theorem dX11_costNow_8 : decode cX11_costNow 8 = .ok (.lmul, 1) := by decide +kernel
theorem dX11_costNow_9 : decode cX11_costNow 9 = .ok (.lstore_n 1, 1) := by decide +kernel
theorem dX11_costNow_10 : decode cX11_costNow 10 = .ok (.iconst 0, 1) := by decide +kernel
