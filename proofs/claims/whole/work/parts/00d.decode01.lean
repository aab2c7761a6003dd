theorem dX4_price_18 : decode cX4_price 18 = .ok (.i2l, 1) := by decide +kernel
theorem dX4_price_19 : decode cX4_price 19 = .ok (.lmul, 1) := by decide +kernel
theorem dX4_price_20 : decode cX4_price 20 = .ok (.ladd, 1) := by decide +kernel
theorem dX4_price_21 : decode cX4_price 21 = .ok (.aload_n 0, 1) := by decide +kernel
theorem dX4_price_22 : decode cX4_price 22 = .ok (.invokevirtual 117, 3) := by decide +kernel
theorem dX4_price_25 : decode cX4_price 25 = .ok (.ladd, 1) := by decide +kernel
theorem dX4_price_26 : decode cX4_price 26 = .ok (.lreturn, 1) := by decide +kernel
theorem dX4_brokenMusts_0 : decode cX4_brokenMusts 0 = .ok (.iconst 0, 1) := by decide +kernel
theorem dX4_brokenMusts_1 : decode cX4_brokenMusts 1 = .ok (.istore_n 1, 1) := by decide +kernel
theorem dX4_brokenMusts_2 : decode cX4_brokenMusts 2 = .ok (.iconst 0, 1) := by decide +kernel
theorem dX4_brokenMusts_3 : decode cX4_brokenMusts 3 = .ok (.istore_n 2, 1) := by decide +kernel
theorem dX4_brokenMusts_4 : decode cX4_brokenMusts 4 = .ok (.iload_n 2, 1) := by decide +kernel
theorem dX4_brokenMusts_5 : decode cX4_brokenMusts 5 = .ok (.aload_n 0, 1) := by decide +kernel
theorem dX4_brokenMusts_6 : decode cX4_brokenMusts 6 = .ok (.getfield 83, 3) := by decide +kernel
theorem dX4_brokenMusts_9 : decode cX4_brokenMusts 9 = .ok (.if_icmp .ge 63, 3) := by decide +kernel
theorem dX4_brokenMusts_12 : decode cX4_brokenMusts 12 = .ok (.aload_n 0, 1) := by decide +kernel
theorem dX4_brokenMusts_13 : decode cX4_brokenMusts 13 = .ok (.getfield 17, 3) := by decide +kernel
theorem dX4_brokenMusts_16 : decode cX4_brokenMusts 16 = .ok (.iload_n 2, 1) := by decide +kernel
theorem dX4_brokenMusts_17 : decode cX4_brokenMusts 17 = .ok (.aaload, 1) := by decide +kernel
theorem dX4_brokenMusts_18 : decode cX4_brokenMusts 18 = .ok (.invokevirtual 121, 3) := by decide +kernel
theorem dX4_brokenMusts_21 : decode cX4_brokenMusts 21 = .ok (.ifCond .eq 6, 3) := by decide +kernel
theorem dX4_brokenMusts_24 : decode cX4_brokenMusts 24 = .ok (.iinc 1 1, 3) := by decide +kernel
theorem dX4_brokenMusts_27 : decode cX4_brokenMusts 27 = .ok (.iload_n 2, 1) := by decide +kernel
theorem dX4_brokenMusts_28 : decode cX4_brokenMusts 28 = .ok (.iconst 1, 1) := by decide +kernel
theorem dX4_brokenMusts_29 : decode cX4_brokenMusts 29 = .ok (.iadd, 1) := by decide +kernel
theorem dX4_brokenMusts_30 : decode cX4_brokenMusts 30 = .ok (.istore_n 3, 1) := by decide +kernel
theorem dX4_brokenMusts_31 : decode cX4_brokenMusts 31 = .ok (.iload_n 3, 1) := by decide +kernel
theorem dX4_brokenMusts_32 : decode cX4_brokenMusts 32 = .ok (.aload_n 0, 1) := by decide +kernel
theorem dX4_brokenMusts_33 : decode cX4_brokenMusts 33 = .ok (.getfield 83, 3) := by decide +kernel
theorem dX4_brokenMusts_36 : decode cX4_brokenMusts 36 = .ok (.if_icmp .ge 30, 3) := by decide +kernel
theorem dX4_brokenMusts_39 : decode cX4_brokenMusts 39 = .ok (.aload_n 0, 1) := by decide +kernel
theorem dX4_brokenMusts_40 : decode cX4_brokenMusts 40 = .ok (.getfield 17, 3) := by decide +kernel
theorem dX4_brokenMusts_43 : decode cX4_brokenMusts 43 = .ok (.iload_n 2, 1) := by decide +kernel
theorem dX4_brokenMusts_44 : decode cX4_brokenMusts 44 = .ok (.aaload, 1) := by decide +kernel
theorem dX4_brokenMusts_45 : decode cX4_brokenMusts 45 = .ok (.aload_n 0, 1) := by decide +kernel
theorem dX4_brokenMusts_46 : decode cX4_brokenMusts 46 = .ok (.getfield 17, 3) := by decide +kernel
theorem dX4_brokenMusts_49 : decode cX4_brokenMusts 49 = .ok (.iload_n 3, 1) := by decide +kernel
theorem dX4_brokenMusts_50 : decode cX4_brokenMusts 50 = .ok (.aaload, 1) := by decide +kernel
theorem dX4_brokenMusts_51 : decode cX4_brokenMusts 51 = .ok (.invokevirtual 125, 3) := by decide +kernel
theorem dX4_brokenMusts_54 : decode cX4_brokenMusts 54 = .ok (.ifCond .eq 6, 3) := by decide +kernel
theorem dX4_brokenMusts_57 : decode cX4_brokenMusts 57 = .ok (.iinc 1 1, 3) := by decide +kernel
theorem dX4_brokenMusts_60 : decode cX4_brokenMusts 60 = .ok (.iinc 3 1, 3) := by decide +kernel
theorem dX4_brokenMusts_63 : decode cX4_brokenMusts 63 = .ok (.goto (-32), 3) := by decide +kernel
theorem dX4_brokenMusts_66 : decode cX4_brokenMusts 66 = .ok (.iinc 2 1, 3) := by decide +kernel
theorem dX4_brokenMusts_69 : decode cX4_brokenMusts 69 = .ok (.goto (-65), 3) := by decide +kernel
theorem dX4_brokenMusts_72 : decode cX4_brokenMusts 72 = .ok (.iload_n 1, 1) := by decide +kernel
theorem dX4_brokenMusts_73 : decode cX4_brokenMusts 73 = .ok (.ireturn, 1) := by decide +kernel
theorem dX4_squares_0 : decode cX4_squares 0 = .ok (.aload_n 0, 1) := by decide +kernel
theorem dX4_squares_1 : decode cX4_squares 1 = .ok (.invokevirtual 129, 3) := by decide +kernel
theorem dX4_squares_4 : decode cX4_squares 4 = .ok (.iconst 0, 1) := by decide +kernel
theorem dX4_squares_5 : decode cX4_squares 5 = .ok (.istore_n 1, 1) := by decide +kernel
theorem dX4_squares_6 : decode cX4_squares 6 = .ok (.iconst 0, 1) := by decide +kernel
theorem dX4_squares_7 : decode cX4_squares 7 = .ok (.istore_n 2, 1) := by decide +kernel
theorem dX4_squares_8 : decode cX4_squares 8 = .ok (.iload_n 2, 1) := by decide +kernel
theorem dX4_squares_9 : decode cX4_squares 9 = .ok (.bipush 6, 2) := by decide +kernel
theorem dX4_squares_11 : decode cX4_squares 11 = .ok (.if_icmp .ge 25, 3) := by decide +kernel
theorem dX4_squares_14 : decode cX4_squares 14 = .ok (.aload_n 0, 1) := by decide +kernel
theorem dX4_squares_15 : decode cX4_squares 15 = .ok (.getfield 24, 3) := by decide +kernel
theorem dX4_squares_18 : decode cX4_squares 18 = .ok (.iload_n 2, 1) := by decide +kernel
theorem dX4_squares_19 : decode cX4_squares 19 = .ok (.laload, 1) := by decide +kernel
theorem dX4_squares_20 : decode cX4_squares 20 = .ok (.invokestatic 89, 3) := by decide +kernel
theorem dX4_squares_23 : decode cX4_squares 23 = .ok (.istore_n 3, 1) := by decide +kernel
theorem dX4_squares_24 : decode cX4_squares 24 = .ok (.iload_n 1, 1) := by decide +kernel
theorem dX4_squares_25 : decode cX4_squares 25 = .ok (.iload_n 3, 1) := by decide +kernel
theorem dX4_squares_26 : decode cX4_squares 26 = .ok (.iload_n 3, 1) := by decide +kernel
theorem dX4_squares_27 : decode cX4_squares 27 = .ok (.imul, 1) := by decide +kernel
theorem dX4_squares_28 : decode cX4_squares 28 = .ok (.iadd, 1) := by decide +kernel
theorem dX4_squares_29 : decode cX4_squares 29 = .ok (.istore_n 1, 1) := by decide +kernel
theorem dX4_squares_30 : decode cX4_squares 30 = .ok (.iinc 2 1, 3) := by decide +kernel
theorem dX4_squares_33 : decode cX4_squares 33 = .ok (.goto (-25), 3) := by decide +kernel
theorem dX4_squares_36 : decode cX4_squares 36 = .ok (.iload_n 1, 1) := by decide +kernel
theorem dX4_squares_37 : decode cX4_squares 37 = .ok (.ireturn, 1) := by decide +kernel
theorem dX4_tiesBetweenRooms_0 : decode cX4_tiesBetweenRooms 0 = .ok (.lconst 0, 1) := by decide +kernel
theorem dX4_tiesBetweenRooms_1 : decode cX4_tiesBetweenRooms 1 = .ok (.lstore_n 1, 1) := by decide +kernel
theorem dX4_tiesBetweenRooms_2 : decode cX4_tiesBetweenRooms 2 = .ok (.iconst 0, 1) := by decide +kernel
theorem dX4_tiesBetweenRooms_3 : decode cX4_tiesBetweenRooms 3 = .ok (.istore_n 3, 1) := by decide +kernel
theorem dX4_tiesBetweenRooms_4 : decode cX4_tiesBetweenRooms 4 = .ok (.iload_n 3, 1) := by decide +kernel
theorem dX4_tiesBetweenRooms_5 : decode cX4_tiesBetweenRooms 5 = .ok (.aload_n 0, 1) := by decide +kernel
theorem dX4_tiesBetweenRooms_6 : decode cX4_tiesBetweenRooms 6 = .ok (.getfield 83, 3) := by decide +kernel
theorem dX4_tiesBetweenRooms_9 : decode cX4_tiesBetweenRooms 9 = .ok (.if_icmp .ge 75, 3) := by decide +kernel
theorem dX4_tiesBetweenRooms_12 : decode cX4_tiesBetweenRooms 12 = .ok (.iload_n 3, 1) := by decide +kernel
theorem dX4_tiesBetweenRooms_13 : decode cX4_tiesBetweenRooms 13 = .ok (.iconst 1, 1) := by decide +kernel
theorem dX4_tiesBetweenRooms_14 : decode cX4_tiesBetweenRooms 14 = .ok (.iadd, 1) := by decide +kernel
theorem dX4_tiesBetweenRooms_15 : decode cX4_tiesBetweenRooms 15 = .ok (.istore 4, 2) := by decide +kernel
theorem dX4_tiesBetweenRooms_17 : decode cX4_tiesBetweenRooms 17 = .ok (.iload 4, 2) := by decide +kernel
theorem dX4_tiesBetweenRooms_19 : decode cX4_tiesBetweenRooms 19 = .ok (.aload_n 0, 1) := by decide +kernel
theorem dX4_tiesBetweenRooms_20 : decode cX4_tiesBetweenRooms 20 = .ok (.getfield 83, 3) := by decide +kernel
theorem dX4_tiesBetweenRooms_23 : decode cX4_tiesBetweenRooms 23 = .ok (.if_icmp .ge 55, 3) := by decide +kernel
theorem dX4_tiesBetweenRooms_26 : decode cX4_tiesBetweenRooms 26 = .ok (.aload_n 0, 1) := by decide +kernel
theorem dX4_tiesBetweenRooms_27 : decode cX4_tiesBetweenRooms 27 = .ok (.getfield 17, 3) := by decide +kernel
theorem dX4_tiesBetweenRooms_30 : decode cX4_tiesBetweenRooms 30 = .ok (.iload_n 3, 1) := by decide +kernel
theorem dX4_tiesBetweenRooms_31 : decode cX4_tiesBetweenRooms 31 = .ok (.aaload, 1) := by decide +kernel
theorem dX4_tiesBetweenRooms_32 : decode cX4_tiesBetweenRooms 32 = .ok (.getfield 99, 3) := by decide +kernel
theorem dX4_tiesBetweenRooms_35 : decode cX4_tiesBetweenRooms 35 = .ok (.aload_n 0, 1) := by decide +kernel
theorem dX4_tiesBetweenRooms_36 : decode cX4_tiesBetweenRooms 36 = .ok (.getfield 17, 3) := by decide +kernel
theorem dX4_tiesBetweenRooms_39 : decode cX4_tiesBetweenRooms 39 = .ok (.iload 4, 2) := by decide +kernel
theorem dX4_tiesBetweenRooms_41 : decode cX4_tiesBetweenRooms 41 = .ok (.aaload, 1) := by decide +kernel
theorem dX4_tiesBetweenRooms_42 : decode cX4_tiesBetweenRooms 42 = .ok (.getfield 99, 3) := by decide +kernel
theorem dX4_tiesBetweenRooms_45 : decode cX4_tiesBetweenRooms 45 = .ok (.if_icmp .eq 27, 3) := by decide +kernel
theorem dX4_tiesBetweenRooms_48 : decode cX4_tiesBetweenRooms 48 = .ok (.lload_n 1, 1) := by decide +kernel
theorem dX4_tiesBetweenRooms_49 : decode cX4_tiesBetweenRooms 49 = .ok (.aload_n 0, 1) := by decide +kernel
theorem dX4_tiesBetweenRooms_50 : decode cX4_tiesBetweenRooms 50 = .ok (.getfield 17, 3) := by decide +kernel
theorem dX4_tiesBetweenRooms_53 : decode cX4_tiesBetweenRooms 53 = .ok (.iload_n 3, 1) := by decide +kernel
theorem dX4_tiesBetweenRooms_54 : decode cX4_tiesBetweenRooms 54 = .ok (.aaload, 1) := by decide +kernel
theorem dX4_tiesBetweenRooms_55 : decode cX4_tiesBetweenRooms 55 = .ok (.getfield 132, 3) := by decide +kernel
theorem dX4_tiesBetweenRooms_58 : decode cX4_tiesBetweenRooms 58 = .ok (.aload_n 0, 1) := by decide +kernel
theorem dX4_tiesBetweenRooms_59 : decode cX4_tiesBetweenRooms 59 = .ok (.getfield 17, 3) := by decide +kernel
theorem dX4_tiesBetweenRooms_62 : decode cX4_tiesBetweenRooms 62 = .ok (.iload 4, 2) := by decide +kernel
theorem dX4_tiesBetweenRooms_64 : decode cX4_tiesBetweenRooms 64 = .ok (.aaload, 1) := by decide +kernel
theorem dX4_tiesBetweenRooms_65 : decode cX4_tiesBetweenRooms 65 = .ok (.getfield 53, 3) := by decide +kernel
theorem dX4_tiesBetweenRooms_68 : decode cX4_tiesBetweenRooms 68 = .ok (.iaload, 1) := by decide +kernel
theorem dX4_tiesBetweenRooms_69 : decode cX4_tiesBetweenRooms 69 = .ok (.i2l, 1) := by decide +kernel
theorem dX4_tiesBetweenRooms_70 : decode cX4_tiesBetweenRooms 70 = .ok (.ladd, 1) := by decide +kernel
theorem dX4_tiesBetweenRooms_71 : decode cX4_tiesBetweenRooms 71 = .ok (.lstore_n 1, 1) := by decide +kernel
theorem dX4_tiesBetweenRooms_72 : decode cX4_tiesBetweenRooms 72 = .ok (.iinc 4 1, 3) := by decide +kernel
theorem dX4_tiesBetweenRooms_75 : decode cX4_tiesBetweenRooms 75 = .ok (.goto (-58), 3) := by decide +kernel
theorem dX4_tiesBetweenRooms_78 : decode cX4_tiesBetweenRooms 78 = .ok (.iinc 3 1, 3) := by decide +kernel
theorem dX4_tiesBetweenRooms_81 : decode cX4_tiesBetweenRooms 81 = .ok (.goto (-77), 3) := by decide +kernel
theorem dX4_tiesBetweenRooms_84 : decode cX4_tiesBetweenRooms 84 = .ok (.lload_n 1, 1) := by decide +kernel
theorem dX4_tiesBetweenRooms_85 : decode cX4_tiesBetweenRooms 85 = .ok (.lreturn, 1) := by decide +kernel
theorem dX5_init_0 : decode cX5_init 0 = .ok (.aload_n 0, 1) := by decide +kernel
theorem dX5_init_1 : decode cX5_init 1 = .ok (.invokespecial 3, 3) := by decide +kernel
theorem dX5_init_4 : decode cX5_init 4 = .ok (.aload_n 0, 1) := by decide +kernel
theorem dX5_init_5 : decode cX5_init 5 = .ok (.iconst 3, 1) := by decide +kernel
theorem dX5_init_6 : decode cX5_init 6 = .ok (.bipush 40, 2) := by decide +kernel
theorem dX5_init_8 : decode cX5_init 8 = .ok (.multianewarray 9 2, 4) := by decide +kernel
theorem dX5_init_12 : decode cX5_init 12 = .ok (.putfield 11, 3) := by decide +kernel
theorem dX5_init_15 : decode cX5_init 15 = .ok (.aload_n 0, 1) := by decide +kernel
theorem dX5_init_16 : decode cX5_init 16 = .ok (.bipush 40, 2) := by decide +kernel
theorem dX5_init_18 : decode cX5_init 18 = .ok (.newarray .int, 2) := by decide +kernel
theorem dX5_init_20 : decode cX5_init 20 = .ok (.putfield 16, 3) := by decide +kernel
theorem dX5_init_23 : decode cX5_init 23 = .ok (.aload_n 0, 1) := by decide +kernel
theorem dX5_init_24 : decode cX5_init 24 = .ok (.bipush 40, 2) := by decide +kernel
theorem dX5_init_26 : decode cX5_init 26 = .ok (.newarray .int, 2) := by decide +kernel
theorem dX5_init_28 : decode cX5_init 28 = .ok (.putfield 20, 3) := by decide +kernel
theorem dX5_init_31 : decode cX5_init 31 = .ok (.aload_n 0, 1) := by decide +kernel
theorem dX5_init_32 : decode cX5_init 32 = .ok (.bipush 6, 2) := by decide +kernel
theorem dX5_init_34 : decode cX5_init 34 = .ok (.newarray .long, 2) := by decide +kernel
theorem dX5_init_36 : decode cX5_init 36 = .ok (.putfield 23, 3) := by decide +kernel
theorem dX5_init_39 : decode cX5_init 39 = .ok (.aload_n 0, 1) := by decide +kernel
theorem dX5_init_40 : decode cX5_init 40 = .ok (.iconst (-1), 1) := by decide +kernel
theorem dX5_init_41 : decode cX5_init 41 = .ok (.putfield 27, 3) := by decide +kernel
theorem dX5_init_44 : decode cX5_init 44 = .ok (.aload_n 0, 1) := by decide +kernel
theorem dX5_init_45 : decode cX5_init 45 = .ok (.iload_n 1, 1) := by decide +kernel
theorem dX5_init_46 : decode cX5_init 46 = .ok (.putfield 31, 3) := by decide +kernel
theorem dX5_init_49 : decode cX5_init 49 = .ok (.aload_n 0, 1) := by decide +kernel
theorem dX5_init_50 : decode cX5_init 50 = .ok (.aload_n 2, 1) := by decide +kernel
theorem dX5_init_51 : decode cX5_init 51 = .ok (.putfield 34, 3) := by decide +kernel
theorem dX5_init_54 : decode cX5_init 54 = .ok (.aload_n 0, 1) := by decide +kernel
theorem dX5_init_55 : decode cX5_init 55 = .ok (.lconst 1, 1) := by decide +kernel
theorem dX5_init_56 : decode cX5_init 56 = .ok (.iload_n 1, 1) := by decide +kernel
theorem dX5_init_57 : decode cX5_init 57 = .ok (.lshl, 1) := by decide +kernel
theorem dX5_init_58 : decode cX5_init 58 = .ok (.putfield 38, 3) := by decide +kernel
theorem dX5_init_61 : decode cX5_init 61 = .ok (.return_, 1) := by decide +kernel
theorem dX5_setTie_0 : decode cX5_setTie 0 = .ok (.aload_n 0, 1) := by decide +kernel
theorem dX5_setTie_1 : decode cX5_setTie 1 = .ok (.getfield 16, 3) := by decide +kernel
theorem dX5_setTie_4 : decode cX5_setTie 4 = .ok (.aload_n 1, 1) := by decide +kernel
theorem dX5_setTie_5 : decode cX5_setTie 5 = .ok (.getfield 31, 3) := by decide +kernel
theorem dX5_setTie_8 : decode cX5_setTie 8 = .ok (.iload_n 2, 1) := by decide +kernel
theorem dX5_setTie_9 : decode cX5_setTie 9 = .ok (.iastore, 1) := by decide +kernel
theorem dX5_setTie_10 : decode cX5_setTie 10 = .ok (.aload_n 0, 1) := by decide +kernel
theorem dX5_setTie_11 : decode cX5_setTie 11 = .ok (.iload_n 2, 1) := by decide +kernel
theorem dX5_setTie_12 : decode cX5_setTie 12 = .ok (.ifCond .le 15, 3) := by decide +kernel
theorem dX5_setTie_15 : decode cX5_setTie 15 = .ok (.aload_n 0, 1) := by decide +kernel
theorem dX5_setTie_16 : decode cX5_setTie 16 = .ok (.getfield 42, 3) := by decide +kernel
theorem dX5_setTie_19 : decode cX5_setTie 19 = .ok (.aload_n 1, 1) := by decide +kernel
theorem dX5_setTie_20 : decode cX5_setTie 20 = .ok (.getfield 38, 3) := by decide +kernel
theorem dX5_setTie_23 : decode cX5_setTie 23 = .ok (.lor, 1) := by decide +kernel
theorem dX5_setTie_24 : decode cX5_setTie 24 = .ok (.goto 16, 3) := by decide +kernel
theorem dX5_setTie_27 : decode cX5_setTie 27 = .ok (.aload_n 0, 1) := by decide +kernel
theorem dX5_setTie_28 : decode cX5_setTie 28 = .ok (.getfield 42, 3) := by decide +kernel
theorem dX5_setTie_31 : decode cX5_setTie 31 = .ok (.aload_n 1, 1) := by decide +kernel
theorem dX5_setTie_32 : decode cX5_setTie 32 = .ok (.getfield 38, 3) := by decide +kernel
theorem dX5_setTie_35 : decode cX5_setTie 35 = .ok (.ldc2_w 45, 3) := by decide +kernel
theorem dX5_setTie_38 : decode cX5_setTie 38 = .ok (.lxor, 1) := by decide +kernel
theorem dX5_setTie_39 : decode cX5_setTie 39 = .ok (.land, 1) := by decide +kernel
theorem dX5_setTie_40 : decode cX5_setTie 40 = .ok (.putfield 42, 3) := by decide +kernel
theorem dX5_setTie_43 : decode cX5_setTie 43 = .ok (.return_, 1) := by decide +kernel
theorem dX5_isMisplaced_0 : decode cX5_isMisplaced 0 = .ok (.aload_n 0, 1) := by decide +kernel
theorem dX5_isMisplaced_1 : decode cX5_isMisplaced 1 = .ok (.getfield 27, 3) := by decide +kernel
theorem dX5_isMisplaced_4 : decode cX5_isMisplaced 4 = .ok (.iconst (-1), 1) := by decide +kernel
theorem dX5_isMisplaced_5 : decode cX5_isMisplaced 5 = .ok (.if_icmp .eq 18, 3) := by decide +kernel
theorem dX5_isMisplaced_8 : decode cX5_isMisplaced 8 = .ok (.aload_n 0, 1) := by decide +kernel
theorem dX5_isMisplaced_9 : decode cX5_isMisplaced 9 = .ok (.getfield 27, 3) := by decide +kernel
theorem dX5_isMisplaced_12 : decode cX5_isMisplaced 12 = .ok (.aload_n 0, 1) := by decide +kernel
theorem dX5_isMisplaced_13 : decode cX5_isMisplaced 13 = .ok (.getfield 47, 3) := by decide +kernel
theorem dX5_isMisplaced_16 : decode cX5_isMisplaced 16 = .ok (.if_icmp .eq 7, 3) := by decide +kernel
theorem dX5_isMisplaced_19 : decode cX5_isMisplaced 19 = .ok (.iconst 1, 1) := by decide +kernel
theorem dX5_isMisplaced_20 : decode cX5_isMisplaced 20 = .ok (.goto 4, 3) := by decide +kernel
theorem dX5_isMisplaced_23 : decode cX5_isMisplaced 23 = .ok (.iconst 0, 1) := by decide +kernel
theorem dX5_isMisplaced_24 : decode cX5_isMisplaced 24 = .ok (.ireturn, 1) := by decide +kernel
theorem dX5_clashesWith_0 : decode cX5_clashesWith 0 = .ok (.aload_n 0, 1) := by decide +kernel
theorem dX5_clashesWith_1 : decode cX5_clashesWith 1 = .ok (.getfield 20, 3) := by decide +kernel
theorem dX5_clashesWith_4 : decode cX5_clashesWith 4 = .ok (.aload_n 1, 1) := by decide +kernel
theorem dX5_clashesWith_5 : decode cX5_clashesWith 5 = .ok (.getfield 31, 3) := by decide +kernel
theorem dX5_clashesWith_8 : decode cX5_clashesWith 8 = .ok (.iaload, 1) := by decide +kernel
theorem dX5_clashesWith_9 : decode cX5_clashesWith 9 = .ok (.istore_n 2, 1) := by decide +kernel
theorem dX5_clashesWith_10 : decode cX5_clashesWith 10 = .ok (.iload_n 2, 1) := by decide +kernel
theorem dX5_clashesWith_11 : decode cX5_clashesWith 11 = .ok (.iconst 1, 1) := by decide +kernel
theorem dX5_clashesWith_12 : decode cX5_clashesWith 12 = .ok (.if_icmp .ne 14, 3) := by decide +kernel
theorem dX5_clashesWith_15 : decode cX5_clashesWith 15 = .ok (.aload_n 0, 1) := by decide +kernel
theorem dX5_clashesWith_16 : decode cX5_clashesWith 16 = .ok (.getfield 47, 3) := by decide +kernel
theorem dX5_clashesWith_19 : decode cX5_clashesWith 19 = .ok (.aload_n 1, 1) := by decide +kernel
theorem dX5_clashesWith_20 : decode cX5_clashesWith 20 = .ok (.getfield 47, 3) := by decide +kernel
theorem dX5_clashesWith_23 : decode cX5_clashesWith 23 = .ok (.if_icmp .ne 19, 3) := by decide +kernel
theorem dX5_clashesWith_26 : decode cX5_clashesWith 26 = .ok (.iload_n 2, 1) := by decide +kernel
theorem dX5_clashesWith_27 : decode cX5_clashesWith 27 = .ok (.iconst 2, 1) := by decide +kernel
theorem dX5_clashesWith_28 : decode cX5_clashesWith 28 = .ok (.if_icmp .ne 18, 3) := by decide +kernel
theorem dX5_clashesWith_31 : decode cX5_clashesWith 31 = .ok (.aload_n 0, 1) := by decide +kernel
theorem dX5_clashesWith_32 : decode cX5_clashesWith 32 = .ok (.getfield 47, 3) := by decide +kernel
theorem dX5_clashesWith_35 : decode cX5_clashesWith 35 = .ok (.aload_n 1, 1) := by decide +kernel
theorem dX5_clashesWith_36 : decode cX5_clashesWith 36 = .ok (.getfield 47, 3) := by decide +kernel
theorem dX5_clashesWith_39 : decode cX5_clashesWith 39 = .ok (.if_icmp .ne 7, 3) := by decide +kernel
theorem dX5_clashesWith_42 : decode cX5_clashesWith 42 = .ok (.iconst 1, 1) := by decide +kernel
theorem dX5_clashesWith_43 : decode cX5_clashesWith 43 = .ok (.goto 4, 3) := by decide +kernel
theorem dX5_clashesWith_46 : decode cX5_clashesWith 46 = .ok (.iconst 0, 1) := by decide +kernel
theorem dX5_clashesWith_47 : decode cX5_clashesWith 47 = .ok (.ireturn, 1) := by decide +kernel
theorem dX5_pullOf_0 : decode cX5_pullOf 0 = .ok (.aload_n 0, 1) := by decide +kernel
theorem dX5_pullOf_1 : decode cX5_pullOf 1 = .ok (.getfield 16, 3) := by decide +kernel
theorem dX5_pullOf_4 : decode cX5_pullOf 4 = .ok (.aload_n 1, 1) := by decide +kernel
theorem dX5_pullOf_5 : decode cX5_pullOf 5 = .ok (.getfield 31, 3) := by decide +kernel
theorem dX5_pullOf_8 : decode cX5_pullOf 8 = .ok (.iaload, 1) := by decide +kernel
theorem dX5_pullOf_9 : decode cX5_pullOf 9 = .ok (.istore_n 2, 1) := by decide +kernel
theorem dX5_pullOf_10 : decode cX5_pullOf 10 = .ok (.aload_n 0, 1) := by decide +kernel
theorem dX5_pullOf_11 : decode cX5_pullOf 11 = .ok (.getfield 20, 3) := by decide +kernel
theorem dX5_pullOf_14 : decode cX5_pullOf 14 = .ok (.aload_n 1, 1) := by decide +kernel
theorem dX5_pullOf_15 : decode cX5_pullOf 15 = .ok (.getfield 31, 3) := by decide +kernel
theorem dX5_pullOf_18 : decode cX5_pullOf 18 = .ok (.iaload, 1) := by decide +kernel
theorem dX5_pullOf_19 : decode cX5_pullOf 19 = .ok (.lookupswitch 35 #[(1, 25), (2, 30)], 25) := by decide +kernel
theorem dX5_pullOf_44 : decode cX5_pullOf 44 = .ok (.iload_n 2, 1) := by decide +kernel
theorem dX5_pullOf_45 : decode cX5_pullOf 45 = .ok (.ldc 50, 2) := by decide +kernel
theorem dX5_pullOf_47 : decode cX5_pullOf 47 = .ok (.iadd, 1) := by decide +kernel
theorem dX5_pullOf_48 : decode cX5_pullOf 48 = .ok (.ireturn, 1) := by decide +kernel
theorem dX5_pullOf_49 : decode cX5_pullOf 49 = .ok (.iload_n 2, 1) := by decide +kernel
theorem dX5_pullOf_50 : decode cX5_pullOf 50 = .ok (.ldc 50, 2) := by decide +kernel
theorem dX5_pullOf_52 : decode cX5_pullOf 52 = .ok (.isub, 1) := by decide +kernel
theorem dX5_pullOf_53 : decode cX5_pullOf 53 = .ok (.ireturn, 1) := by decide +kernel
theorem dX5_pullOf_54 : decode cX5_pullOf 54 = .ok (.iload_n 2, 1) := by decide +kernel
theorem dX5_pullOf_55 : decode cX5_pullOf 55 = .ok (.ireturn, 1) := by decide +kernel
theorem dX6_init_0 : decode cX6_init 0 = .ok (.aload_n 0, 1) := by decide +kernel
theorem dX6_init_1 : decode cX6_init 1 = .ok (.invokespecial 3, 3) := by decide +kernel
theorem dX6_init_4 : decode cX6_init 4 = .ok (.aload_n 0, 1) := by decide +kernel
theorem dX6_init_5 : decode cX6_init 5 = .ok (.bipush 9, 2) := by decide +kernel
theorem dX6_init_7 : decode cX6_init 7 = .ok (.newarray .int, 2) := by decide +kernel
theorem dX6_init_9 : decode cX6_init 9 = .ok (.putfield 9, 3) := by decide +kernel
theorem dX6_init_12 : decode cX6_init 12 = .ok (.aload_n 0, 1) := by decide +kernel
theorem dX6_init_13 : decode cX6_init 13 = .ok (.bipush 9, 2) := by decide +kernel
theorem dX6_init_15 : decode cX6_init 15 = .ok (.newarray .int, 2) := by decide +kernel
theorem dX6_init_17 : decode cX6_init 17 = .ok (.putfield 15, 3) := by decide +kernel
theorem dX6_init_20 : decode cX6_init 20 = .ok (.aload_n 0, 1) := by decide +kernel
theorem dX6_init_21 : decode cX6_init 21 = .ok (.aload_n 1, 1) := by decide +kernel
theorem dX6_init_22 : decode cX6_init 22 = .ok (.putfield 18, 3) := by decide +kernel
theorem dX6_init_25 : decode cX6_init 25 = .ok (.return_, 1) := by decide +kernel
theorem dX6_settleBest_0 : decode cX6_settleBest 0 = .ok (.aload_n 0, 1) := by decide +kernel
theorem dX6_settleBest_1 : decode cX6_settleBest 1 = .ok (.getfield 18, 3) := by decide +kernel
theorem dX6_settleBest_4 : decode cX6_settleBest 4 = .ok (.getfield 22, 3) := by decide +kernel
theorem dX6_settleBest_7 : decode cX6_settleBest 7 = .ok (.bipush 9, 2) := by decide +kernel
theorem dX6_settleBest_9 : decode cX6_settleBest 9 = .ok (.if_icmp .gt 14, 3) := by decide +kernel
theorem dX6_settleBest_12 : decode cX6_settleBest 12 = .ok (.aload_n 0, 1) := by decide +kernel
theorem dX6_settleBest_13 : decode cX6_settleBest 13 = .ok (.getfield 18, 3) := by decide +kernel
theorem dX6_settleBest_16 : decode cX6_settleBest 16 = .ok (.invokevirtual 28, 3) := by decide +kernel
theorem dX6_settleBest_19 : decode cX6_settleBest 19 = .ok (.iconst 3, 1) := by decide +kernel
theorem dX6_settleBest_20 : decode cX6_settleBest 20 = .ok (.if_icmp .le 7, 3) := by decide +kernel
theorem dX6_settleBest_23 : decode cX6_settleBest 23 = .ok (.ldc2_w 32, 3) := by decide +kernel
theorem dX6_settleBest_26 : decode cX6_settleBest 26 = .ok (.lreturn, 1) := by decide +kernel
theorem dX6_settleBest_27 : decode cX6_settleBest 27 = .ok (.aload_n 0, 1) := by decide +kernel
theorem dX6_settleBest_28 : decode cX6_settleBest 28 = .ok (.ldc2_w 34, 3) := by decide +kernel
theorem dX6_settleBest_31 : decode cX6_settleBest 31 = .ok (.putfield 36, 3) := by decide +kernel
theorem dX6_settleBest_34 : decode cX6_settleBest 34 = .ok (.aload_n 0, 1) := by decide +kernel
theorem dX6_settleBest_35 : decode cX6_settleBest 35 = .ok (.iconst 0, 1) := by decide +kernel
theorem dX6_settleBest_36 : decode cX6_settleBest 36 = .ok (.lconst 0, 1) := by decide +kernel
theorem dX6_settleBest_37 : decode cX6_settleBest 37 = .ok (.aload_n 0, 1) := by decide +kernel
theorem dX6_settleBest_38 : decode cX6_settleBest 38 = .ok (.invokevirtual 40, 3) := by decide +kernel
theorem dX6_settleBest_41 : decode cX6_settleBest 41 = .ok (.invokevirtual 43, 3) := by decide +kernel
theorem dX6_settleBest_44 : decode cX6_settleBest 44 = .ok (.iconst 0, 1) := by decide +kernel
theorem dX6_settleBest_45 : decode cX6_settleBest 45 = .ok (.istore_n 1, 1) := by decide +kernel
theorem dX6_settleBest_46 : decode cX6_settleBest 46 = .ok (.iload_n 1, 1) := by decide +kernel
theorem dX6_settleBest_47 : decode cX6_settleBest 47 = .ok (.aload_n 0, 1) := by decide +kernel
theorem dX6_settleBest_48 : decode cX6_settleBest 48 = .ok (.getfield 18, 3) := by decide +kernel
theorem dX6_settleBest_51 : decode cX6_settleBest 51 = .ok (.getfield 22, 3) := by decide +kernel
theorem dX6_settleBest_54 : decode cX6_settleBest 54 = .ok (.if_icmp .ge 27, 3) := by decide +kernel
theorem dX6_settleBest_57 : decode cX6_settleBest 57 = .ok (.aload_n 0, 1) := by decide +kernel
theorem dX6_settleBest_58 : decode cX6_settleBest 58 = .ok (.getfield 18, 3) := by decide +kernel
theorem dX6_settleBest_61 : decode cX6_settleBest 61 = .ok (.getfield 47, 3) := by decide +kernel
theorem dX6_settleBest_64 : decode cX6_settleBest 64 = .ok (.iload_n 1, 1) := by decide +kernel
theorem dX6_settleBest_65 : decode cX6_settleBest 65 = .ok (.aaload, 1) := by decide +kernel
theorem dX6_settleBest_66 : decode cX6_settleBest 66 = .ok (.aload_n 0, 1) := by decide +kernel
theorem dX6_settleBest_67 : decode cX6_settleBest 67 = .ok (.getfield 15, 3) := by decide +kernel
theorem dX6_settleBest_70 : decode cX6_settleBest 70 = .ok (.iload_n 1, 1) := by decide +kernel
theorem dX6_settleBest_71 : decode cX6_settleBest 71 = .ok (.iaload, 1) := by decide +kernel
theorem dX6_settleBest_72 : decode cX6_settleBest 72 = .ok (.putfield 51, 3) := by decide +kernel
theorem dX6_settleBest_75 : decode cX6_settleBest 75 = .ok (.iinc 1 1, 3) := by decide +kernel
theorem dX6_settleBest_78 : decode cX6_settleBest 78 = .ok (.goto (-32), 3) := by decide +kernel
theorem dX6_settleBest_81 : decode cX6_settleBest 81 = .ok (.aload_n 0, 1) := by decide +kernel
theorem dX6_settleBest_82 : decode cX6_settleBest 82 = .ok (.getfield 36, 3) := by decide +kernel
theorem dX6_settleBest_85 : decode cX6_settleBest 85 = .ok (.lreturn, 1) := by decide +kernel
theorem dX6_fixedRooms_0 : decode cX6_fixedRooms 0 = .ok (.iconst 0, 1) := by decide +kernel
theorem dX6_fixedRooms_1 : decode cX6_fixedRooms 1 = .ok (.istore_n 1, 1) := by decide +kernel
theorem dX6_fixedRooms_2 : decode cX6_fixedRooms 2 = .ok (.iconst 0, 1) := by decide +kernel
theorem dX6_fixedRooms_3 : decode cX6_fixedRooms 3 = .ok (.istore_n 2, 1) := by decide +kernel
theorem dX6_fixedRooms_4 : decode cX6_fixedRooms 4 = .ok (.iload_n 2, 1) := by decide +kernel
theorem dX6_fixedRooms_5 : decode cX6_fixedRooms 5 = .ok (.aload_n 0, 1) := by decide +kernel
theorem dX6_fixedRooms_6 : decode cX6_fixedRooms 6 = .ok (.getfield 18, 3) := by decide +kernel
theorem dX6_fixedRooms_9 : decode cX6_fixedRooms 9 = .ok (.getfield 22, 3) := by decide +kernel
theorem dX6_fixedRooms_12 : decode cX6_fixedRooms 12 = .ok (.if_icmp .ge 42, 3) := by decide +kernel
theorem dX6_fixedRooms_15 : decode cX6_fixedRooms 15 = .ok (.aload_n 0, 1) := by decide +kernel
theorem dX6_fixedRooms_16 : decode cX6_fixedRooms 16 = .ok (.getfield 18, 3) := by decide +kernel
theorem dX6_fixedRooms_19 : decode cX6_fixedRooms 19 = .ok (.getfield 47, 3) := by decide +kernel
theorem dX6_fixedRooms_22 : decode cX6_fixedRooms 22 = .ok (.iload_n 2, 1) := by decide +kernel
theorem dX6_fixedRooms_23 : decode cX6_fixedRooms 23 = .ok (.aaload, 1) := by decide +kernel
theorem dX6_fixedRooms_24 : decode cX6_fixedRooms 24 = .ok (.getfield 56, 3) := by decide +kernel
theorem dX6_fixedRooms_27 : decode cX6_fixedRooms 27 = .ok (.iconst (-1), 1) := by decide +kernel
theorem dX6_fixedRooms_28 : decode cX6_fixedRooms 28 = .ok (.if_icmp .eq 20, 3) := by decide +kernel
theorem dX6_fixedRooms_31 : decode cX6_fixedRooms 31 = .ok (.iload_n 1, 1) := by decide +kernel
theorem dX6_fixedRooms_32 : decode cX6_fixedRooms 32 = .ok (.iconst 1, 1) := by decide +kernel
theorem dX6_fixedRooms_33 : decode cX6_fixedRooms 33 = .ok (.aload_n 0, 1) := by decide +kernel
theorem dX6_fixedRooms_34 : decode cX6_fixedRooms 34 = .ok (.getfield 18, 3) := by decide +kernel
theorem dX6_fixedRooms_37 : decode cX6_fixedRooms 37 = .ok (.getfield 47, 3) := by decide +kernel
theorem dX6_fixedRooms_40 : decode cX6_fixedRooms 40 = .ok (.iload_n 2, 1) := by decide +kernel
theorem dX6_fixedRooms_41 : decode cX6_fixedRooms 41 = .ok (.aaload, 1) := by decide +kernel
theorem dX6_fixedRooms_42 : decode cX6_fixedRooms 42 = .ok (.getfield 56, 3) := by decide +kernel
theorem dX6_fixedRooms_45 : decode cX6_fixedRooms 45 = .ok (.ishl, 1) := by decide +kernel
theorem dX6_fixedRooms_46 : decode cX6_fixedRooms 46 = .ok (.ior, 1) := by decide +kernel
theorem dX6_fixedRooms_47 : decode cX6_fixedRooms 47 = .ok (.istore_n 1, 1) := by decide +kernel
theorem dX6_fixedRooms_48 : decode cX6_fixedRooms 48 = .ok (.iinc 2 1, 3) := by decide +kernel
theorem dX6_fixedRooms_51 : decode cX6_fixedRooms 51 = .ok (.goto (-47), 3) := by decide +kernel
theorem dX6_fixedRooms_54 : decode cX6_fixedRooms 54 = .ok (.iload_n 1, 1) := by decide +kernel
theorem dX6_fixedRooms_55 : decode cX6_fixedRooms 55 = .ok (.ireturn, 1) := by decide +kernel
theorem dX6_tryFrom_0 : decode cX6_tryFrom 0 = .ok (.lload_n 2, 1) := by decide +kernel
theorem dX6_tryFrom_1 : decode cX6_tryFrom 1 = .ok (.aload_n 0, 1) := by decide +kernel
theorem dX6_tryFrom_2 : decode cX6_tryFrom 2 = .ok (.getfield 36, 3) := by decide +kernel
theorem dX6_tryFrom_5 : decode cX6_tryFrom 5 = .ok (.lcmp, 1) := by decide +kernel
theorem dX6_tryFrom_6 : decode cX6_tryFrom 6 = .ok (.ifCond .lt 4, 3) := by decide +kernel
theorem dX6_tryFrom_9 : decode cX6_tryFrom 9 = .ok (.return_, 1) := by decide +kernel
theorem dX6_tryFrom_10 : decode cX6_tryFrom 10 = .ok (.iload_n 1, 1) := by decide +kernel
theorem dX6_tryFrom_11 : decode cX6_tryFrom 11 = .ok (.aload_n 0, 1) := by decide +kernel
theorem dX6_tryFrom_12 : decode cX6_tryFrom 12 = .ok (.getfield 18, 3) := by decide +kernel
theorem dX6_tryFrom_15 : decode cX6_tryFrom 15 = .ok (.getfield 22, 3) := by decide +kernel
theorem dX6_tryFrom_18 : decode cX6_tryFrom 18 = .ok (.if_icmp .ge 9, 3) := by decide +kernel
theorem dX6_tryFrom_21 : decode cX6_tryFrom 21 = .ok (.iload_n 1, 1) := by decide +kernel
theorem dX6_tryFrom_22 : decode cX6_tryFrom 22 = .ok (.bipush 9, 2) := by decide +kernel
theorem dX6_tryFrom_24 : decode cX6_tryFrom 24 = .ok (.if_icmp .lt 24, 3) := by decide +kernel
theorem dX6_tryFrom_27 : decode cX6_tryFrom 27 = .ok (.aload_n 0, 1) := by decide +kernel
theorem dX6_tryFrom_28 : decode cX6_tryFrom 28 = .ok (.lload_n 2, 1) := by decide +kernel
theorem dX6_tryFrom_29 : decode cX6_tryFrom 29 = .ok (.putfield 36, 3) := by decide +kernel
theorem dX6_tryFrom_32 : decode cX6_tryFrom 32 = .ok (.aload_n 0, 1) := by decide +kernel
theorem dX6_tryFrom_33 : decode cX6_tryFrom 33 = .ok (.getfield 9, 3) := by decide +kernel
theorem dX6_tryFrom_36 : decode cX6_tryFrom 36 = .ok (.iconst 0, 1) := by decide +kernel
theorem dX6_tryFrom_37 : decode cX6_tryFrom 37 = .ok (.aload_n 0, 1) := by decide +kernel
theorem dX6_tryFrom_38 : decode cX6_tryFrom 38 = .ok (.getfield 15, 3) := by decide +kernel
theorem dX6_tryFrom_41 : decode cX6_tryFrom 41 = .ok (.iconst 0, 1) := by decide +kernel
theorem dX6_tryFrom_42 : decode cX6_tryFrom 42 = .ok (.bipush 9, 2) := by decide +kernel
theorem dX6_tryFrom_44 : decode cX6_tryFrom 44 = .ok (.invokestatic 59, 3) := by decide +kernel
theorem dX6_tryFrom_47 : decode cX6_tryFrom 47 = .ok (.return_, 1) := by decide +kernel
theorem dX6_tryFrom_48 : decode cX6_tryFrom 48 = .ok (.aload_n 0, 1) := by decide +kernel
theorem dX6_tryFrom_49 : decode cX6_tryFrom 49 = .ok (.iload_n 1, 1) := by decide +kernel
theorem dX6_tryFrom_50 : decode cX6_tryFrom 50 = .ok (.lload_n 2, 1) := by decide +kernel
theorem dX6_tryFrom_51 : decode cX6_tryFrom 51 = .ok (.iload 4, 2) := by decide +kernel
theorem dX6_tryFrom_53 : decode cX6_tryFrom 53 = .ok (.invokevirtual 65, 3) := by decide +kernel
theorem dX6_tryFrom_56 : decode cX6_tryFrom 56 = .ok (.return_, 1) := by decide +kernel
theorem dX6_tryRooms_0 : decode cX6_tryRooms 0 = .ok (.iconst 0, 1) := by decide +kernel
theorem dX6_tryRooms_1 : decode cX6_tryRooms 1 = .ok (.istore 5, 2) := by decide +kernel
theorem dX6_tryRooms_3 : decode cX6_tryRooms 3 = .ok (.iconst 0, 1) := by decide +kernel
theorem dX6_tryRooms_4 : decode cX6_tryRooms 4 = .ok (.istore 6, 2) := by decide +kernel
theorem dX6_tryRooms_6 : decode cX6_tryRooms 6 = .ok (.iload 6, 2) := by decide +kernel
theorem dX6_tryRooms_8 : decode cX6_tryRooms 8 = .ok (.aload_n 0, 1) := by decide +kernel
theorem dX6_tryRooms_9 : decode cX6_tryRooms 9 = .ok (.getfield 18, 3) := by decide +kernel
theorem dX6_tryRooms_12 : decode cX6_tryRooms 12 = .ok (.invokevirtual 28, 3) := by decide +kernel
theorem dX6_tryRooms_15 : decode cX6_tryRooms 15 = .ok (.if_icmp .ge 74, 3) := by decide +kernel
theorem dX6_tryRooms_18 : decode cX6_tryRooms 18 = .ok (.iload 4, 2) := by decide +kernel
theorem dX6_tryRooms_20 : decode cX6_tryRooms 20 = .ok (.iconst 1, 1) := by decide +kernel
theorem dX6_tryRooms_21 : decode cX6_tryRooms 21 = .ok (.iload 6, 2) := by decide +kernel
theorem dX6_tryRooms_23 : decode cX6_tryRooms 23 = .ok (.ishl, 1) := by decide +kernel
theorem dX6_tryRooms_24 : decode cX6_tryRooms 24 = .ok (.iand, 1) := by decide +kernel
theorem dX6_tryRooms_25 : decode cX6_tryRooms 25 = .ok (.ifCond .ne 7, 3) := by decide +kernel
theorem dX6_tryRooms_28 : decode cX6_tryRooms 28 = .ok (.iconst 1, 1) := by decide +kernel
theorem dX6_tryRooms_29 : decode cX6_tryRooms 29 = .ok (.goto 4, 3) := by decide +kernel
theorem dX6_tryRooms_32 : decode cX6_tryRooms 32 = .ok (.iconst 0, 1) := by decide +kernel
theorem dX6_tryRooms_33 : decode cX6_tryRooms 33 = .ok (.istore 7, 2) := by decide +kernel
theorem dX6_tryRooms_35 : decode cX6_tryRooms 35 = .ok (.iload 7, 2) := by decide +kernel
theorem dX6_tryRooms_37 : decode cX6_tryRooms 37 = .ok (.ifCond .eq 8, 3) := by decide +kernel
theorem dX6_tryRooms_40 : decode cX6_tryRooms 40 = .ok (.iload 5, 2) := by decide +kernel
theorem dX6_tryRooms_42 : decode cX6_tryRooms 42 = .ok (.ifCond .ne 34, 3) := by decide +kernel
theorem dX6_tryRooms_45 : decode cX6_tryRooms 45 = .ok (.aload_n 0, 1) := by decide +kernel
theorem dX6_tryRooms_46 : decode cX6_tryRooms 46 = .ok (.getfield 9, 3) := by decide +kernel
theorem dX6_tryRooms_49 : decode cX6_tryRooms 49 = .ok (.iload_n 1, 1) := by decide +kernel
theorem dX6_tryRooms_50 : decode cX6_tryRooms 50 = .ok (.iload 6, 2) := by decide +kernel
theorem dX6_tryRooms_52 : decode cX6_tryRooms 52 = .ok (.iastore, 1) := by decide +kernel
theorem dX6_tryRooms_53 : decode cX6_tryRooms 53 = .ok (.aload_n 0, 1) := by decide +kernel
theorem dX6_tryRooms_54 : decode cX6_tryRooms 54 = .ok (.iload_n 1, 1) := by decide +kernel
theorem dX6_tryRooms_55 : decode cX6_tryRooms 55 = .ok (.iconst 1, 1) := by decide +kernel
theorem dX6_tryRooms_56 : decode cX6_tryRooms 56 = .ok (.iadd, 1) := by decide +kernel
theorem dX6_tryRooms_57 : decode cX6_tryRooms 57 = .ok (.lload_n 2, 1) := by decide +kernel
theorem dX6_tryRooms_58 : decode cX6_tryRooms 58 = .ok (.aload_n 0, 1) := by decide +kernel
theorem dX6_tryRooms_59 : decode cX6_tryRooms 59 = .ok (.iload_n 1, 1) := by decide +kernel
theorem dX6_tryRooms_60 : decode cX6_tryRooms 60 = .ok (.iload 6, 2) := by decide +kernel
theorem dX6_tryRooms_62 : decode cX6_tryRooms 62 = .ok (.invokevirtual 68, 3) := by decide +kernel
theorem dX6_tryRooms_65 : decode cX6_tryRooms 65 = .ok (.ladd, 1) := by decide +kernel
theorem dX6_tryRooms_66 : decode cX6_tryRooms 66 = .ok (.iload 4, 2) := by decide +kernel
theorem dX6_tryRooms_68 : decode cX6_tryRooms 68 = .ok (.iconst 1, 1) := by decide +kernel
theorem dX6_tryRooms_69 : decode cX6_tryRooms 69 = .ok (.iload 6, 2) := by decide +kernel
theorem dX6_tryRooms_71 : decode cX6_tryRooms 71 = .ok (.ishl, 1) := by decide +kernel
theorem dX6_tryRooms_72 : decode cX6_tryRooms 72 = .ok (.ior, 1) := by decide +kernel
theorem dX6_tryRooms_73 : decode cX6_tryRooms 73 = .ok (.invokevirtual 43, 3) := by decide +kernel
theorem dX6_tryRooms_76 : decode cX6_tryRooms 76 = .ok (.iload 5, 2) := by decide +kernel
theorem dX6_tryRooms_78 : decode cX6_tryRooms 78 = .ok (.iload 7, 2) := by decide +kernel
theorem dX6_tryRooms_80 : decode cX6_tryRooms 80 = .ok (.ior, 1) := by decide +kernel
theorem dX6_tryRooms_81 : decode cX6_tryRooms 81 = .ok (.istore 5, 2) := by decide +kernel
theorem dX6_tryRooms_83 : decode cX6_tryRooms 83 = .ok (.iinc 6 1, 3) := by decide +kernel
theorem dX6_tryRooms_86 : decode cX6_tryRooms 86 = .ok (.goto (-80), 3) := by decide +kernel
theorem dX6_tryRooms_89 : decode cX6_tryRooms 89 = .ok (.return_, 1) := by decide +kernel
theorem dX6_priceOfAdding_0 : decode cX6_priceOfAdding 0 = .ok (.aload_n 0, 1) := by decide +kernel
theorem dX6_priceOfAdding_1 : decode cX6_priceOfAdding 1 = .ok (.getfield 18, 3) := by decide +kernel
theorem dX6_priceOfAdding_4 : decode cX6_priceOfAdding 4 = .ok (.getfield 47, 3) := by decide +kernel
theorem dX6_priceOfAdding_7 : decode cX6_priceOfAdding 7 = .ok (.iload_n 1, 1) := by decide +kernel
theorem dX6_priceOfAdding_8 : decode cX6_priceOfAdding 8 = .ok (.aaload, 1) := by decide +kernel
theorem dX6_priceOfAdding_9 : decode cX6_priceOfAdding 9 = .ok (.astore_n 3, 1) := by decide +kernel
theorem dX6_priceOfAdding_10 : decode cX6_priceOfAdding 10 = .ok (.aload_n 3, 1) := by decide +kernel
theorem dX6_priceOfAdding_11 : decode cX6_priceOfAdding 11 = .ok (.getfield 56, 3) := by decide +kernel
theorem dX6_priceOfAdding_14 : decode cX6_priceOfAdding 14 = .ok (.iconst (-1), 1) := by decide +kernel
theorem dX6_priceOfAdding_15 : decode cX6_priceOfAdding 15 = .ok (.if_icmp .eq 17, 3) := by decide +kernel
theorem dX6_priceOfAdding_18 : decode cX6_priceOfAdding 18 = .ok (.aload_n 3, 1) := by decide +kernel
theorem dX6_priceOfAdding_19 : decode cX6_priceOfAdding 19 = .ok (.getfield 56, 3) := by decide +kernel
theorem dX6_priceOfAdding_22 : decode cX6_priceOfAdding 22 = .ok (.iload_n 2, 1) := by decide +kernel
theorem dX6_priceOfAdding_23 : decode cX6_priceOfAdding 23 = .ok (.if_icmp .eq 9, 3) := by decide +kernel
theorem dX6_priceOfAdding_26 : decode cX6_priceOfAdding 26 = .ok (.ldc2_w 72, 3) := by decide +kernel
theorem dX6_priceOfAdding_29 : decode cX6_priceOfAdding 29 = .ok (.goto 4, 3) := by decide +kernel
theorem dX6_priceOfAdding_32 : decode cX6_priceOfAdding 32 = .ok (.lconst 0, 1) := by decide +kernel
theorem dX6_priceOfAdding_33 : decode cX6_priceOfAdding 33 = .ok (.lstore 4, 2) := by decide +kernel
theorem dX6_priceOfAdding_35 : decode cX6_priceOfAdding 35 = .ok (.iconst 0, 1) := by decide +kernel
theorem dX6_priceOfAdding_36 : decode cX6_priceOfAdding 36 = .ok (.istore 6, 2) := by decide +kernel
theorem dX6_priceOfAdding_38 : decode cX6_priceOfAdding 38 = .ok (.iconst 0, 1) := by decide +kernel
theorem dX6_priceOfAdding_39 : decode cX6_priceOfAdding 39 = .ok (.istore 7, 2) := by decide +kernel
theorem dX6_priceOfAdding_41 : decode cX6_priceOfAdding 41 = .ok (.iload 7, 2) := by decide +kernel
theorem dX6_priceOfAdding_43 : decode cX6_priceOfAdding 43 = .ok (.iload_n 1, 1) := by decide +kernel
theorem dX6_priceOfAdding_44 : decode cX6_priceOfAdding 44 = .ok (.if_icmp .ge 94, 3) := by decide +kernel
theorem dX6_priceOfAdding_47 : decode cX6_priceOfAdding 47 = .ok (.aload_n 0, 1) := by decide +kernel
theorem dX6_priceOfAdding_48 : decode cX6_priceOfAdding 48 = .ok (.getfield 18, 3) := by decide +kernel
theorem dX6_priceOfAdding_51 : decode cX6_priceOfAdding 51 = .ok (.getfield 47, 3) := by decide +kernel
theorem dX6_priceOfAdding_54 : decode cX6_priceOfAdding 54 = .ok (.iload 7, 2) := by decide +kernel
theorem dX6_priceOfAdding_56 : decode cX6_priceOfAdding 56 = .ok (.aaload, 1) := by decide +kernel
theorem dX6_priceOfAdding_57 : decode cX6_priceOfAdding 57 = .ok (.getfield 74, 3) := by decide +kernel
theorem dX6_priceOfAdding_60 : decode cX6_priceOfAdding 60 = .ok (.istore 8, 2) := by decide +kernel
theorem dX6_priceOfAdding_62 : decode cX6_priceOfAdding 62 = .ok (.aload_n 3, 1) := by decide +kernel
theorem dX6_priceOfAdding_63 : decode cX6_priceOfAdding 63 = .ok (.getfield 77, 3) := by decide +kernel
theorem dX6_priceOfAdding_66 : decode cX6_priceOfAdding 66 = .ok (.iload 8, 2) := by decide +kernel
theorem dX6_priceOfAdding_68 : decode cX6_priceOfAdding 68 = .ok (.iaload, 1) := by decide +kernel
theorem dX6_priceOfAdding_69 : decode cX6_priceOfAdding 69 = .ok (.istore 9, 2) := by decide +kernel
theorem dX6_priceOfAdding_71 : decode cX6_priceOfAdding 71 = .ok (.aload_n 0, 1) := by decide +kernel
theorem dX6_priceOfAdding_72 : decode cX6_priceOfAdding 72 = .ok (.getfield 9, 3) := by decide +kernel
theorem dX6_priceOfAdding_75 : decode cX6_priceOfAdding 75 = .ok (.iload 7, 2) := by decide +kernel
theorem dX6_priceOfAdding_77 : decode cX6_priceOfAdding 77 = .ok (.iaload, 1) := by decide +kernel
theorem dX6_priceOfAdding_78 : decode cX6_priceOfAdding 78 = .ok (.iload_n 2, 1) := by decide +kernel
theorem dX6_priceOfAdding_79 : decode cX6_priceOfAdding 79 = .ok (.if_icmp .ne 27, 3) := by decide +kernel
theorem dX6_priceOfAdding_82 : decode cX6_priceOfAdding 82 = .ok (.iinc 6 1, 3) := by decide +kernel
theorem dX6_priceOfAdding_85 : decode cX6_priceOfAdding 85 = .ok (.lload 4, 2) := by decide +kernel
theorem dX6_priceOfAdding_87 : decode cX6_priceOfAdding 87 = .ok (.iload 9, 2) := by decide +kernel
theorem dX6_priceOfAdding_89 : decode cX6_priceOfAdding 89 = .ok (.iconst 2, 1) := by decide +kernel
theorem dX6_priceOfAdding_90 : decode cX6_priceOfAdding 90 = .ok (.if_icmp .ne 9, 3) := by decide +kernel
theorem dX6_priceOfAdding_93 : decode cX6_priceOfAdding 93 = .ok (.ldc2_w 72, 3) := by decide +kernel
theorem dX6_priceOfAdding_96 : decode cX6_priceOfAdding 96 = .ok (.goto 4, 3) := by decide +kernel
theorem dX6_priceOfAdding_99 : decode cX6_priceOfAdding 99 = .ok (.lconst 0, 1) := by decide +kernel
theorem dX6_priceOfAdding_100 : decode cX6_priceOfAdding 100 = .ok (.ladd, 1) := by decide +kernel
theorem dX6_priceOfAdding_101 : decode cX6_priceOfAdding 101 = .ok (.lstore 4, 2) := by decide +kernel
theorem dX6_priceOfAdding_103 : decode cX6_priceOfAdding 103 = .ok (.goto 29, 3) := by decide +kernel
theorem dX6_priceOfAdding_106 : decode cX6_priceOfAdding 106 = .ok (.lload 4, 2) := by decide +kernel
theorem dX6_priceOfAdding_108 : decode cX6_priceOfAdding 108 = .ok (.aload_n 3, 1) := by decide +kernel
theorem dX6_priceOfAdding_109 : decode cX6_priceOfAdding 109 = .ok (.getfield 80, 3) := by decide +kernel
theorem dX6_priceOfAdding_112 : decode cX6_priceOfAdding 112 = .ok (.iload 8, 2) := by decide +kernel
theorem dX6_priceOfAdding_114 : decode cX6_priceOfAdding 114 = .ok (.iaload, 1) := by decide +kernel
theorem dX6_priceOfAdding_115 : decode cX6_priceOfAdding 115 = .ok (.iload 9, 2) := by decide +kernel
theorem dX6_priceOfAdding_117 : decode cX6_priceOfAdding 117 = .ok (.iconst 1, 1) := by decide +kernel
theorem dX6_priceOfAdding_118 : decode cX6_priceOfAdding 118 = .ok (.if_icmp .ne 8, 3) := by decide +kernel
theorem dX6_priceOfAdding_121 : decode cX6_priceOfAdding 121 = .ok (.ldc 83, 2) := by decide +kernel
theorem dX6_priceOfAdding_123 : decode cX6_priceOfAdding 123 = .ok (.goto 4, 3) := by decide +kernel
theorem dX6_priceOfAdding_126 : decode cX6_priceOfAdding 126 = .ok (.iconst 0, 1) := by decide +kernel
theorem dX6_priceOfAdding_127 : decode cX6_priceOfAdding 127 = .ok (.iadd, 1) := by decide +kernel
theorem dX6_priceOfAdding_128 : decode cX6_priceOfAdding 128 = .ok (.i2l, 1) := by decide +kernel
theorem dX6_priceOfAdding_129 : decode cX6_priceOfAdding 129 = .ok (.ladd, 1) := by decide +kernel
theorem dX6_priceOfAdding_130 : decode cX6_priceOfAdding 130 = .ok (.lstore 4, 2) := by decide +kernel
theorem dX6_priceOfAdding_132 : decode cX6_priceOfAdding 132 = .ok (.iinc 7 1, 3) := by decide +kernel
theorem dX6_priceOfAdding_135 : decode cX6_priceOfAdding 135 = .ok (.goto (-94), 3) := by decide +kernel
theorem dX6_priceOfAdding_138 : decode cX6_priceOfAdding 138 = .ok (.lload 4, 2) := by decide +kernel
theorem dX6_priceOfAdding_140 : decode cX6_priceOfAdding 140 = .ok (.aload_n 0, 1) := by decide +kernel
theorem dX6_priceOfAdding_141 : decode cX6_priceOfAdding 141 = .ok (.getfield 18, 3) := by decide +kernel
theorem dX6_priceOfAdding_144 : decode cX6_priceOfAdding 144 = .ok (.invokevirtual 84, 3) := by decide +kernel
theorem dX6_priceOfAdding_147 : decode cX6_priceOfAdding 147 = .ok (.i2l, 1) := by decide +kernel
theorem dX6_priceOfAdding_148 : decode cX6_priceOfAdding 148 = .ok (.iconst 2, 1) := by decide +kernel
theorem dX6_priceOfAdding_149 : decode cX6_priceOfAdding 149 = .ok (.iload 6, 2) := by decide +kernel
theorem dX6_priceOfAdding_151 : decode cX6_priceOfAdding 151 = .ok (.imul, 1) := by decide +kernel
theorem dX6_priceOfAdding_152 : decode cX6_priceOfAdding 152 = .ok (.iconst 1, 1) := by decide +kernel
theorem dX6_priceOfAdding_153 : decode cX6_priceOfAdding 153 = .ok (.iadd, 1) := by decide +kernel
theorem dX6_priceOfAdding_154 : decode cX6_priceOfAdding 154 = .ok (.i2l, 1) := by decide +kernel
theorem dX6_priceOfAdding_155 : decode cX6_priceOfAdding 155 = .ok (.lmul, 1) := by decide +kernel
theorem dX6_priceOfAdding_156 : decode cX6_priceOfAdding 156 = .ok (.ladd, 1) := by decide +kernel
theorem dX6_priceOfAdding_157 : decode cX6_priceOfAdding 157 = .ok (.lreturn, 1) := by decide +kernel
theorem dX7_init_0 : decode cX7_init 0 = .ok (.aload_n 0, 1) := by decide +kernel
theorem dX7_init_1 : decode cX7_init 1 = .ok (.invokespecial 3, 3) := by decide +kernel
theorem dX7_init_4 : decode cX7_init 4 = .ok (.aload_n 0, 1) := by decide +kernel
theorem dX7_init_5 : decode cX7_init 5 = .ok (.iconst 0, 1) := by decide +kernel
theorem dX7_init_6 : decode cX7_init 6 = .ok (.iload_n 1, 1) := by decide +kernel
theorem dX7_init_7 : decode cX7_init 7 = .ok (.invokestatic 9, 3) := by decide +kernel
theorem dX7_init_10 : decode cX7_init 10 = .ok (.newarray .byte, 2) := by decide +kernel
theorem dX7_init_12 : decode cX7_init 12 = .ok (.putfield 15, 3) := by decide +kernel
theorem dX7_init_15 : decode cX7_init 15 = .ok (.aload_n 0, 1) := by decide +kernel
theorem dX7_init_16 : decode cX7_init 16 = .ok (.iconst 0, 1) := by decide +kernel
theorem dX7_init_17 : decode cX7_init 17 = .ok (.putfield 21, 3) := by decide +kernel
theorem dX7_init_20 : decode cX7_init 20 = .ok (.return_, 1) := by decide +kernel
theorem dX7_add_0 : decode cX7_add 0 = .ok (.aload_n 0, 1) := by decide +kernel
theorem dX7_add_1 : decode cX7_add 1 = .ok (.getfield 21, 3) := by decide +kernel
theorem dX7_add_4 : decode cX7_add 4 = .ok (.aload_n 0, 1) := by decide +kernel
theorem dX7_add_5 : decode cX7_add 5 = .ok (.getfield 15, 3) := by decide +kernel
theorem dX7_add_8 : decode cX7_add 8 = .ok (.arraylength, 1) := by decide +kernel
theorem dX7_add_9 : decode cX7_add 9 = .ok (.if_icmp .ge 24, 3) := by decide +kernel
theorem dX7_add_12 : decode cX7_add 12 = .ok (.aload_n 0, 1) := by decide +kernel
theorem dX7_add_13 : decode cX7_add 13 = .ok (.getfield 15, 3) := by decide +kernel
theorem dX7_add_16 : decode cX7_add 16 = .ok (.aload_n 0, 1) := by decide +kernel
theorem dX7_add_17 : decode cX7_add 17 = .ok (.getfield 21, 3) := by decide +kernel
theorem dX7_add_20 : decode cX7_add 20 = .ok (.iload_n 1, 1) := by decide +kernel
theorem dX7_add_21 : decode cX7_add 21 = .ok (.i2b, 1) := by decide +kernel
theorem dX7_add_22 : decode cX7_add 22 = .ok (.bastore, 1) := by decide +kernel
theorem dX7_add_23 : decode cX7_add 23 = .ok (.aload_n 0, 1) := by decide +kernel
theorem dX7_add_24 : decode cX7_add 24 = .ok (.dup, 1) := by decide +kernel
theorem dX7_add_25 : decode cX7_add 25 = .ok (.getfield 21, 3) := by decide +kernel
theorem dX7_add_28 : decode cX7_add 28 = .ok (.iconst 1, 1) := by decide +kernel
theorem dX7_add_29 : decode cX7_add 29 = .ok (.iadd, 1) := by decide +kernel
theorem dX7_add_30 : decode cX7_add 30 = .ok (.putfield 21, 3) := by decide +kernel
theorem dX7_add_33 : decode cX7_add 33 = .ok (.return_, 1) := by decide +kernel
theorem dX7_addNumber_0 : decode cX7_addNumber 0 = .ok (.aload_n 0, 1) := by decide +kernel
theorem dX7_addNumber_1 : decode cX7_addNumber 1 = .ok (.iload_n 1, 1) := by decide +kernel
theorem dX7_addNumber_2 : decode cX7_addNumber 2 = .ok (.bipush 24, 2) := by decide +kernel
theorem dX7_addNumber_4 : decode cX7_addNumber 4 = .ok (.iushr, 1) := by decide +kernel
theorem dX7_addNumber_5 : decode cX7_addNumber 5 = .ok (.invokevirtual 25, 3) := by decide +kernel
theorem dX7_addNumber_8 : decode cX7_addNumber 8 = .ok (.aload_n 0, 1) := by decide +kernel
theorem dX7_addNumber_9 : decode cX7_addNumber 9 = .ok (.iload_n 1, 1) := by decide +kernel
theorem dX7_addNumber_10 : decode cX7_addNumber 10 = .ok (.bipush 16, 2) := by decide +kernel
theorem dX7_addNumber_12 : decode cX7_addNumber 12 = .ok (.iushr, 1) := by decide +kernel
theorem dX7_addNumber_13 : decode cX7_addNumber 13 = .ok (.invokevirtual 25, 3) := by decide +kernel
theorem dX7_addNumber_16 : decode cX7_addNumber 16 = .ok (.aload_n 0, 1) := by decide +kernel
theorem dX7_addNumber_17 : decode cX7_addNumber 17 = .ok (.iload_n 1, 1) := by decide +kernel
theorem dX7_addNumber_18 : decode cX7_addNumber 18 = .ok (.bipush 8, 2) := by decide +kernel
theorem dX7_addNumber_20 : decode cX7_addNumber 20 = .ok (.iushr, 1) := by decide +kernel
theorem dX7_addNumber_21 : decode cX7_addNumber 21 = .ok (.invokevirtual 25, 3) := by decide +kernel
theorem dX7_addNumber_24 : decode cX7_addNumber 24 = .ok (.aload_n 0, 1) := by decide +kernel
theorem dX7_addNumber_25 : decode cX7_addNumber 25 = .ok (.iload_n 1, 1) := by decide +kernel
theorem dX7_addNumber_26 : decode cX7_addNumber 26 = .ok (.invokevirtual 25, 3) := by decide +kernel
theorem dX7_addNumber_29 : decode cX7_addNumber 29 = .ok (.return_, 1) := by decide +kernel
theorem dX7_addAll_0 : decode cX7_addAll 0 = .ok (.iconst 0, 1) := by decide +kernel
theorem dX7_addAll_1 : decode cX7_addAll 1 = .ok (.istore_n 2, 1) := by decide +kernel
theorem dX7_addAll_2 : decode cX7_addAll 2 = .ok (.iload_n 2, 1) := by decide +kernel
theorem dX7_addAll_3 : decode cX7_addAll 3 = .ok (.aload_n 1, 1) := by decide +kernel
theorem dX7_addAll_4 : decode cX7_addAll 4 = .ok (.getfield 21, 3) := by decide +kernel
theorem dX7_addAll_7 : decode cX7_addAll 7 = .ok (.if_icmp .ge 19, 3) := by decide +kernel
theorem dX7_addAll_10 : decode cX7_addAll 10 = .ok (.aload_n 0, 1) := by decide +kernel
theorem dX7_addAll_11 : decode cX7_addAll 11 = .ok (.aload_n 1, 1) := by decide +kernel
theorem dX7_addAll_12 : decode cX7_addAll 12 = .ok (.getfield 15, 3) := by decide +kernel
theorem dX7_addAll_15 : decode cX7_addAll 15 = .ok (.iload_n 2, 1) := by decide +kernel
theorem dX7_addAll_16 : decode cX7_addAll 16 = .ok (.baload, 1) := by decide +kernel
theorem dX7_addAll_17 : decode cX7_addAll 17 = .ok (.invokevirtual 25, 3) := by decide +kernel
theorem dX7_addAll_20 : decode cX7_addAll 20 = .ok (.iinc 2 1, 3) := by decide +kernel
theorem dX7_addAll_23 : decode cX7_addAll 23 = .ok (.goto (-21), 3) := by decide +kernel
theorem dX7_addAll_26 : decode cX7_addAll 26 = .ok (.return_, 1) := by decide +kernel
theorem dX7_clear_0 : decode cX7_clear 0 = .ok (.aload_n 0, 1) := by decide +kernel
theorem dX7_clear_1 : decode cX7_clear 1 = .ok (.iconst 0, 1) := by decide +kernel
theorem dX7_clear_2 : decode cX7_clear 2 = .ok (.putfield 21, 3) := by decide +kernel
theorem dX7_clear_5 : decode cX7_clear 5 = .ok (.return_, 1) := by decide +kernel
theorem dX7_at_0 : decode cX7_at 0 = .ok (.iload_n 1, 1) := by decide +kernel
theorem dX7_at_1 : decode cX7_at 1 = .ok (.ifCond .lt 11, 3) := by decide +kernel
theorem dX7_at_4 : decode cX7_at 4 = .ok (.iload_n 1, 1) := by decide +kernel
theorem dX7_at_5 : decode cX7_at 5 = .ok (.aload_n 0, 1) := by decide +kernel
theorem dX7_at_6 : decode cX7_at 6 = .ok (.getfield 21, 3) := by decide +kernel
theorem dX7_at_9 : decode cX7_at 9 = .ok (.if_icmp .lt 7, 3) := by decide +kernel
theorem dX7_at_12 : decode cX7_at 12 = .ok (.iconst (-1), 1) := by decide +kernel
theorem dX7_at_13 : decode cX7_at 13 = .ok (.goto 13, 3) := by decide +kernel
theorem dX7_at_16 : decode cX7_at 16 = .ok (.aload_n 0, 1) := by decide +kernel
theorem dX7_at_17 : decode cX7_at 17 = .ok (.getfield 15, 3) := by decide +kernel
theorem dX7_at_20 : decode cX7_at 20 = .ok (.iload_n 1, 1) := by decide +kernel
theorem dX7_at_21 : decode cX7_at 21 = .ok (.baload, 1) := by decide +kernel
theorem dX7_at_22 : decode cX7_at 22 = .ok (.sipush 255, 3) := by decide +kernel
theorem dX7_at_25 : decode cX7_at 25 = .ok (.iand, 1) := by decide +kernel
theorem dX7_at_26 : decode cX7_at 26 = .ok (.ireturn, 1) := by decide +kernel
theorem dX7_part_0 : decode cX7_part 0 = .ok (.new 16, 3) := by decide +kernel
theorem dX7_part_3 : decode cX7_part 3 = .ok (.dup, 1) := by decide +kernel
theorem dX7_part_4 : decode cX7_part 4 = .ok (.iload_n 2, 1) := by decide +kernel
theorem dX7_part_5 : decode cX7_part 5 = .ok (.iload_n 1, 1) := by decide +kernel
theorem dX7_part_6 : decode cX7_part 6 = .ok (.isub, 1) := by decide +kernel
theorem dX7_part_7 : decode cX7_part 7 = .ok (.invokespecial 29, 3) := by decide +kernel
theorem dX7_part_10 : decode cX7_part 10 = .ok (.astore_n 3, 1) := by decide +kernel
theorem dX7_part_11 : decode cX7_part 11 = .ok (.iload_n 1, 1) := by decide +kernel
theorem dX7_part_12 : decode cX7_part 12 = .ok (.istore 4, 2) := by decide +kernel
theorem dX7_part_14 : decode cX7_part 14 = .ok (.iload 4, 2) := by decide +kernel
theorem dX7_part_16 : decode cX7_part 16 = .ok (.iload_n 2, 1) := by decide +kernel
theorem dX7_part_17 : decode cX7_part 17 = .ok (.if_icmp .ge 19, 3) := by decide +kernel
theorem dX7_part_20 : decode cX7_part 20 = .ok (.aload_n 3, 1) := by decide +kernel
theorem dX7_part_21 : decode cX7_part 21 = .ok (.aload_n 0, 1) := by decide +kernel
theorem dX7_part_22 : decode cX7_part 22 = .ok (.iload 4, 2) := by decide +kernel
theorem dX7_part_24 : decode cX7_part 24 = .ok (.invokevirtual 31, 3) := by decide +kernel
theorem dX7_part_27 : decode cX7_part 27 = .ok (.invokevirtual 25, 3) := by decide +kernel
theorem dX7_part_30 : decode cX7_part 30 = .ok (.iinc 4 1, 3) := by decide +kernel
theorem dX7_part_33 : decode cX7_part 33 = .ok (.goto (-19), 3) := by decide +kernel
theorem dX7_part_36 : decode cX7_part 36 = .ok (.aload_n 3, 1) := by decide +kernel
theorem dX7_part_37 : decode cX7_part 37 = .ok (.areturn, 1) := by decide +kernel
theorem dX7_isName_0 : decode cX7_isName 0 = .ok (.aload_n 0, 1) := by decide +kernel
theorem dX7_isName_1 : decode cX7_isName 1 = .ok (.getfield 21, 3) := by decide +kernel
theorem dX7_isName_4 : decode cX7_isName 4 = .ok (.iconst 1, 1) := by decide +kernel
theorem dX7_isName_5 : decode cX7_isName 5 = .ok (.if_icmp .lt 12, 3) := by decide +kernel
theorem dX7_isName_8 : decode cX7_isName 8 = .ok (.aload_n 0, 1) := by decide +kernel
theorem dX7_isName_9 : decode cX7_isName 9 = .ok (.getfield 21, 3) := by decide +kernel
theorem dX7_isName_12 : decode cX7_isName 12 = .ok (.bipush 20, 2) := by decide +kernel
theorem dX7_isName_14 : decode cX7_isName 14 = .ok (.if_icmp .le 5, 3) := by decide +kernel
theorem dX7_isName_17 : decode cX7_isName 17 = .ok (.iconst 0, 1) := by decide +kernel
theorem dX7_isName_18 : decode cX7_isName 18 = .ok (.ireturn, 1) := by decide +kernel
theorem dX7_isName_19 : decode cX7_isName 19 = .ok (.iconst 0, 1) := by decide +kernel
theorem dX7_isName_20 : decode cX7_isName 20 = .ok (.istore_n 1, 1) := by decide +kernel
theorem dX7_isName_21 : decode cX7_isName 21 = .ok (.iload_n 1, 1) := by decide +kernel
theorem dX7_isName_22 : decode cX7_isName 22 = .ok (.aload_n 0, 1) := by decide +kernel
theorem dX7_isName_23 : decode cX7_isName 23 = .ok (.getfield 21, 3) := by decide +kernel
theorem dX7_isName_26 : decode cX7_isName 26 = .ok (.if_icmp .ge 35, 3) := by decide +kernel
theorem dX7_isName_29 : decode cX7_isName 29 = .ok (.aload_n 0, 1) := by decide +kernel
theorem dX7_isName_30 : decode cX7_isName 30 = .ok (.iload_n 1, 1) := by decide +kernel
theorem dX7_isName_31 : decode cX7_isName 31 = .ok (.invokevirtual 31, 3) := by decide +kernel
theorem dX7_isName_34 : decode cX7_isName 34 = .ok (.istore_n 2, 1) := by decide +kernel
theorem dX7_isName_35 : decode cX7_isName 35 = .ok (.iload_n 2, 1) := by decide +kernel
theorem dX7_isName_36 : decode cX7_isName 36 = .ok (.bipush 95, 2) := by decide +kernel
theorem dX7_isName_38 : decode cX7_isName 38 = .ok (.if_icmp .eq 17, 3) := by decide +kernel
theorem dX7_isName_41 : decode cX7_isName 41 = .ok (.iload_n 2, 1) := by decide +kernel
theorem dX7_isName_42 : decode cX7_isName 42 = .ok (.bipush 97, 2) := by decide +kernel
theorem dX7_isName_44 : decode cX7_isName 44 = .ok (.if_icmp .lt 9, 3) := by decide +kernel
theorem dX7_isName_47 : decode cX7_isName 47 = .ok (.iload_n 2, 1) := by decide +kernel
theorem dX7_isName_48 : decode cX7_isName 48 = .ok (.bipush 122, 2) := by decide +kernel
theorem dX7_isName_50 : decode cX7_isName 50 = .ok (.if_icmp .le 5, 3) := by decide +kernel
theorem dX7_isName_53 : decode cX7_isName 53 = .ok (.iconst 0, 1) := by decide +kernel
theorem dX7_isName_54 : decode cX7_isName 54 = .ok (.ireturn, 1) := by decide +kernel
theorem dX7_isName_55 : decode cX7_isName 55 = .ok (.iinc 1 1, 3) := by decide +kernel
theorem dX7_isName_58 : decode cX7_isName 58 = .ok (.goto (-37), 3) := by decide +kernel
theorem dX7_isName_61 : decode cX7_isName 61 = .ok (.iconst 1, 1) := by decide +kernel
theorem dX7_isName_62 : decode cX7_isName 62 = .ok (.ireturn, 1) := by decide +kernel
theorem dX7_compareWith_0 : decode cX7_compareWith 0 = .ok (.aload_n 0, 1) := by decide +kernel
theorem dX7_compareWith_1 : decode cX7_compareWith 1 = .ok (.getfield 21, 3) := by decide +kernel
theorem dX7_compareWith_4 : decode cX7_compareWith 4 = .ok (.aload_n 1, 1) := by decide +kernel
theorem dX7_compareWith_5 : decode cX7_compareWith 5 = .ok (.getfield 21, 3) := by decide +kernel
theorem dX7_compareWith_8 : decode cX7_compareWith 8 = .ok (.invokestatic 35, 3) := by decide +kernel
theorem dX7_compareWith_11 : decode cX7_compareWith 11 = .ok (.istore_n 2, 1) := by decide +kernel
theorem dX7_compareWith_12 : decode cX7_compareWith 12 = .ok (.iconst 0, 1) := by decide +kernel
theorem dX7_compareWith_13 : decode cX7_compareWith 13 = .ok (.istore_n 3, 1) := by decide +kernel
theorem dX7_compareWith_14 : decode cX7_compareWith 14 = .ok (.iload_n 3, 1) := by decide +kernel
theorem dX7_compareWith_15 : decode cX7_compareWith 15 = .ok (.iload_n 2, 1) := by decide +kernel
theorem dX7_compareWith_16 : decode cX7_compareWith 16 = .ok (.if_icmp .ge 30, 3) := by decide +kernel
theorem dX7_compareWith_19 : decode cX7_compareWith 19 = .ok (.aload_n 0, 1) := by decide +kernel
theorem dX7_compareWith_20 : decode cX7_compareWith 20 = .ok (.iload_n 3, 1) := by decide +kernel
theorem dX7_compareWith_21 : decode cX7_compareWith 21 = .ok (.invokevirtual 31, 3) := by decide +kernel
theorem dX7_compareWith_24 : decode cX7_compareWith 24 = .ok (.aload_n 1, 1) := by decide +kernel
theorem dX7_compareWith_25 : decode cX7_compareWith 25 = .ok (.iload_n 3, 1) := by decide +kernel
theorem dX7_compareWith_26 : decode cX7_compareWith 26 = .ok (.invokevirtual 31, 3) := by decide +kernel
theorem dX7_compareWith_29 : decode cX7_compareWith 29 = .ok (.isub, 1) := by decide +kernel
theorem dX7_compareWith_30 : decode cX7_compareWith 30 = .ok (.istore 4, 2) := by decide +kernel
theorem dX7_compareWith_32 : decode cX7_compareWith 32 = .ok (.iload 4, 2) := by decide +kernel
theorem dX7_compareWith_34 : decode cX7_compareWith 34 = .ok (.ifCond .eq 6, 3) := by decide +kernel
theorem dX7_compareWith_37 : decode cX7_compareWith 37 = .ok (.iload 4, 2) := by decide +kernel
theorem dX7_compareWith_39 : decode cX7_compareWith 39 = .ok (.ireturn, 1) := by decide +kernel
theorem dX7_compareWith_40 : decode cX7_compareWith 40 = .ok (.iinc 3 1, 3) := by decide +kernel
theorem dX7_compareWith_43 : decode cX7_compareWith 43 = .ok (.goto (-29), 3) := by decide +kernel
theorem dX7_compareWith_46 : decode cX7_compareWith 46 = .ok (.aload_n 0, 1) := by decide +kernel
theorem dX7_compareWith_47 : decode cX7_compareWith 47 = .ok (.getfield 21, 3) := by decide +kernel
theorem dX7_compareWith_50 : decode cX7_compareWith 50 = .ok (.aload_n 1, 1) := by decide +kernel
theorem dX7_compareWith_51 : decode cX7_compareWith 51 = .ok (.getfield 21, 3) := by decide +kernel
theorem dX7_compareWith_54 : decode cX7_compareWith 54 = .ok (.isub, 1) := by decide +kernel
theorem dX7_compareWith_55 : decode cX7_compareWith 55 = .ok (.ireturn, 1) := by decide +kernel
theorem dX8_init_0 : decode cX8_init 0 = .ok (.aload_n 0, 1) := by decide +kernel
theorem dX8_init_1 : decode cX8_init 1 = .ok (.invokespecial 3, 3) := by decide +kernel
theorem dX8_init_4 : decode cX8_init 4 = .ok (.aload_n 0, 1) := by decide +kernel
theorem dX8_init_5 : decode cX8_init 5 = .ok (.bipush 6, 2) := by decide +kernel
theorem dX8_init_7 : decode cX8_init 7 = .ok (.newarray .int, 2) := by decide +kernel
theorem dX8_init_9 : decode cX8_init 9 = .ok (.putfield 9, 3) := by decide +kernel
theorem dX8_init_12 : decode cX8_init 12 = .ok (.aload_n 0, 1) := by decide +kernel
theorem dX8_init_13 : decode cX8_init 13 = .ok (.aload_n 1, 1) := by decide +kernel
theorem dX8_init_14 : decode cX8_init 14 = .ok (.putfield 15, 3) := by decide +kernel
theorem dX8_init_17 : decode cX8_init 17 = .ok (.return_, 1) := by decide +kernel
theorem dX8_calledFromOutside_0 : decode cX8_calledFromOutside 0 = .ok (.aload_n 0, 1) := by decide +kernel
theorem dX8_calledFromOutside_1 : decode cX8_calledFromOutside 1 = .ok (.getfield 15, 3) := by decide +kernel
theorem dX8_calledFromOutside_4 : decode cX8_calledFromOutside 4 = .ok (.invokevirtual 19, 3) := by decide +kernel
theorem dX8_calledFromOutside_7 : decode cX8_calledFromOutside 7 = .ok (.iconst 0, 1) := by decide +kernel
theorem dX8_calledFromOutside_8 : decode cX8_calledFromOutside 8 = .ok (.istore_n 3, 1) := by decide +kernel
theorem dX8_calledFromOutside_9 : decode cX8_calledFromOutside 9 = .ok (.iconst 0, 1) := by decide +kernel
theorem dX8_calledFromOutside_10 : decode cX8_calledFromOutside 10 = .ok (.istore 4, 2) := by decide +kernel
theorem dX8_calledFromOutside_12 : decode cX8_calledFromOutside 12 = .ok (.iload 4, 2) := by decide +kernel
theorem dX8_calledFromOutside_14 : decode cX8_calledFromOutside 14 = .ok (.aload_n 0, 1) := by decide +kernel
theorem dX8_calledFromOutside_15 : decode cX8_calledFromOutside 15 = .ok (.getfield 15, 3) := by decide +kernel
theorem dX8_calledFromOutside_18 : decode cX8_calledFromOutside 18 = .ok (.getfield 24, 3) := by decide +kernel
theorem dX8_calledFromOutside_21 : decode cX8_calledFromOutside 21 = .ok (.if_icmp .ge 68, 3) := by decide +kernel
theorem dX8_calledFromOutside_24 : decode cX8_calledFromOutside 24 = .ok (.aload_n 0, 1) := by decide +kernel
theorem dX8_calledFromOutside_25 : decode cX8_calledFromOutside 25 = .ok (.getfield 15, 3) := by decide +kernel
theorem dX8_calledFromOutside_28 : decode cX8_calledFromOutside 28 = .ok (.getfield 28, 3) := by decide +kernel
theorem dX8_calledFromOutside_31 : decode cX8_calledFromOutside 31 = .ok (.iload 4, 2) := by decide +kernel
theorem dX8_calledFromOutside_33 : decode cX8_calledFromOutside 33 = .ok (.aaload, 1) := by decide +kernel
theorem dX8_calledFromOutside_34 : decode cX8_calledFromOutside 34 = .ok (.astore 5, 2) := by decide +kernel
theorem dX8_calledFromOutside_36 : decode cX8_calledFromOutside 36 = .ok (.aload 5, 2) := by decide +kernel
theorem dX8_calledFromOutside_38 : decode cX8_calledFromOutside 38 = .ok (.getfield 32, 3) := by decide +kernel
theorem dX8_calledFromOutside_41 : decode cX8_calledFromOutside 41 = .ok (.iload_n 1, 1) := by decide +kernel
theorem dX8_calledFromOutside_42 : decode cX8_calledFromOutside 42 = .ok (.if_icmp .ne 41, 3) := by decide +kernel
theorem dX8_calledFromOutside_45 : decode cX8_calledFromOutside 45 = .ok (.aload 5, 2) := by decide +kernel
theorem dX8_calledFromOutside_47 : decode cX8_calledFromOutside 47 = .ok (.getfield 37, 3) := by decide +kernel
theorem dX8_calledFromOutside_50 : decode cX8_calledFromOutside 50 = .ok (.aload_n 0, 1) := by decide +kernel
theorem dX8_calledFromOutside_51 : decode cX8_calledFromOutside 51 = .ok (.getfield 15, 3) := by decide +kernel
theorem dX8_calledFromOutside_54 : decode cX8_calledFromOutside 54 = .ok (.getfield 41, 3) := by decide +kernel
theorem dX8_calledFromOutside_57 : decode cX8_calledFromOutside 57 = .ok (.iload_n 1, 1) := by decide +kernel
theorem dX8_calledFromOutside_58 : decode cX8_calledFromOutside 58 = .ok (.laload, 1) := by decide +kernel
theorem dX8_calledFromOutside_59 : decode cX8_calledFromOutside 59 = .ok (.ldc2_w 45, 3) := by decide +kernel
theorem dX8_calledFromOutside_62 : decode cX8_calledFromOutside 62 = .ok (.lxor, 1) := by decide +kernel
theorem dX8_calledFromOutside_63 : decode cX8_calledFromOutside 63 = .ok (.land, 1) := by decide +kernel
theorem dX8_calledFromOutside_64 : decode cX8_calledFromOutside 64 = .ok (.lconst 0, 1) := by decide +kernel
theorem dX8_calledFromOutside_65 : decode cX8_calledFromOutside 65 = .ok (.lcmp, 1) := by decide +kernel
theorem dX8_calledFromOutside_66 : decode cX8_calledFromOutside 66 = .ok (.ifCond .eq 17, 3) := by decide +kernel
theorem dX8_calledFromOutside_69 : decode cX8_calledFromOutside 69 = .ok (.iload_n 3, 1) := by decide +kernel
theorem dX8_calledFromOutside_70 : decode cX8_calledFromOutside 70 = .ok (.iload_n 2, 1) := by decide +kernel
theorem dX8_calledFromOutside_71 : decode cX8_calledFromOutside 71 = .ok (.if_icmp .ne 9, 3) := by decide +kernel
theorem dX8_calledFromOutside_74 : decode cX8_calledFromOutside 74 = .ok (.aload 5, 2) := by decide +kernel
theorem dX8_calledFromOutside_76 : decode cX8_calledFromOutside 76 = .ok (.getfield 47, 3) := by decide +kernel
theorem dX8_calledFromOutside_79 : decode cX8_calledFromOutside 79 = .ok (.ireturn, 1) := by decide +kernel
theorem dX8_calledFromOutside_80 : decode cX8_calledFromOutside 80 = .ok (.iinc 3 1, 3) := by decide +kernel
theorem dX8_calledFromOutside_83 : decode cX8_calledFromOutside 83 = .ok (.iinc 4 1, 3) := by decide +kernel
theorem dX8_calledFromOutside_86 : decode cX8_calledFromOutside 86 = .ok (.goto (-74), 3) := by decide +kernel
theorem dX8_calledFromOutside_89 : decode cX8_calledFromOutside 89 = .ok (.iconst (-1), 1) := by decide +kernel
theorem dX8_calledFromOutside_90 : decode cX8_calledFromOutside 90 = .ok (.ireturn, 1) := by decide +kernel
theorem dX8_roomsAround_0 : decode cX8_roomsAround 0 = .ok (.aload_n 0, 1) := by decide +kernel
theorem dX8_roomsAround_1 : decode cX8_roomsAround 1 = .ok (.invokevirtual 50, 3) := by decide +kernel
theorem dX8_roomsAround_4 : decode cX8_roomsAround 4 = .ok (.aload_n 0, 1) := by decide +kernel
theorem dX8_roomsAround_5 : decode cX8_roomsAround 5 = .ok (.invokevirtual 53, 3) := by decide +kernel
theorem dX8_roomsAround_8 : decode cX8_roomsAround 8 = .ok (.iconst 1, 1) := by decide +kernel
theorem dX8_roomsAround_9 : decode cX8_roomsAround 9 = .ok (.iload_n 1, 1) := by decide +kernel
theorem dX8_roomsAround_10 : decode cX8_roomsAround 10 = .ok (.ishl, 1) := by decide +kernel
theorem dX8_roomsAround_11 : decode cX8_roomsAround 11 = .ok (.istore_n 2, 1) := by decide +kernel
theorem dX8_roomsAround_12 : decode cX8_roomsAround 12 = .ok (.iconst 0, 1) := by decide +kernel
theorem dX8_roomsAround_13 : decode cX8_roomsAround 13 = .ok (.istore_n 3, 1) := by decide +kernel
theorem dX8_roomsAround_14 : decode cX8_roomsAround 14 = .ok (.iload_n 3, 1) := by decide +kernel
theorem dX8_roomsAround_15 : decode cX8_roomsAround 15 = .ok (.bipush 6, 2) := by decide +kernel
theorem dX8_roomsAround_17 : decode cX8_roomsAround 17 = .ok (.if_icmp .ge 33, 3) := by decide +kernel
theorem dX8_roomsAround_20 : decode cX8_roomsAround 20 = .ok (.aload_n 0, 1) := by decide +kernel
theorem dX8_roomsAround_21 : decode cX8_roomsAround 21 = .ok (.iload_n 1, 1) := by decide +kernel
theorem dX8_roomsAround_22 : decode cX8_roomsAround 22 = .ok (.iload_n 3, 1) := by decide +kernel
theorem dX8_roomsAround_23 : decode cX8_roomsAround 23 = .ok (.invokevirtual 56, 3) := by decide +kernel
theorem dX8_roomsAround_26 : decode cX8_roomsAround 26 = .ok (.ifCond .eq 18, 3) := by decide +kernel
theorem dX8_roomsAround_29 : decode cX8_roomsAround 29 = .ok (.aload_n 0, 1) := by decide +kernel
theorem dX8_roomsAround_30 : decode cX8_roomsAround 30 = .ok (.iload_n 3, 1) := by decide +kernel
theorem dX8_roomsAround_31 : decode cX8_roomsAround 31 = .ok (.iload_n 1, 1) := by decide +kernel
theorem dX8_roomsAround_32 : decode cX8_roomsAround 32 = .ok (.invokevirtual 56, 3) := by decide +kernel
theorem dX8_roomsAround_35 : decode cX8_roomsAround 35 = .ok (.ifCond .eq 9, 3) := by decide +kernel
theorem dX8_roomsAround_38 : decode cX8_roomsAround 38 = .ok (.iload_n 2, 1) := by decide +kernel
theorem dX8_roomsAround_39 : decode cX8_roomsAround 39 = .ok (.iconst 1, 1) := by decide +kernel
theorem dX8_roomsAround_40 : decode cX8_roomsAround 40 = .ok (.iload_n 3, 1) := by decide +kernel
theorem dX8_roomsAround_41 : decode cX8_roomsAround 41 = .ok (.ishl, 1) := by decide +kernel
theorem dX8_roomsAround_42 : decode cX8_roomsAround 42 = .ok (.ior, 1) := by decide +kernel
theorem dX8_roomsAround_43 : decode cX8_roomsAround 43 = .ok (.istore_n 2, 1) := by decide +kernel
theorem dX8_roomsAround_44 : decode cX8_roomsAround 44 = .ok (.iinc 3 1, 3) := by decide +kernel
theorem dX8_roomsAround_47 : decode cX8_roomsAround 47 = .ok (.goto (-33), 3) := by decide +kernel
theorem dX8_roomsAround_50 : decode cX8_roomsAround 50 = .ok (.iload_n 2, 1) := by decide +kernel
theorem dX8_roomsAround_51 : decode cX8_roomsAround 51 = .ok (.ireturn, 1) := by decide +kernel
theorem dX8_findCalled_0 : decode cX8_findCalled 0 = .ok (.aload_n 0, 1) := by decide +kernel
theorem dX8_findCalled_1 : decode cX8_findCalled 1 = .ok (.getfield 15, 3) := by decide +kernel
theorem dX8_findCalled_4 : decode cX8_findCalled 4 = .ok (.invokevirtual 19, 3) := by decide +kernel
theorem dX8_findCalled_7 : decode cX8_findCalled 7 = .ok (.iconst 0, 1) := by decide +kernel
theorem dX8_findCalled_8 : decode cX8_findCalled 8 = .ok (.istore_n 1, 1) := by decide +kernel
theorem dX8_findCalled_9 : decode cX8_findCalled 9 = .ok (.iload_n 1, 1) := by decide +kernel
theorem dX8_findCalled_10 : decode cX8_findCalled 10 = .ok (.bipush 6, 2) := by decide +kernel
theorem dX8_findCalled_12 : decode cX8_findCalled 12 = .ok (.if_icmp .ge 16, 3) := by decide +kernel
theorem dX8_findCalled_15 : decode cX8_findCalled 15 = .ok (.aload_n 0, 1) := by decide +kernel
theorem dX8_findCalled_16 : decode cX8_findCalled 16 = .ok (.getfield 9, 3) := by decide +kernel
theorem dX8_findCalled_19 : decode cX8_findCalled 19 = .ok (.iload_n 1, 1) := by decide +kernel
theorem dX8_findCalled_20 : decode cX8_findCalled 20 = .ok (.iconst 0, 1) := by decide +kernel
theorem dX8_findCalled_21 : decode cX8_findCalled 21 = .ok (.iastore, 1) := by decide +kernel
theorem dX8_findCalled_22 : decode cX8_findCalled 22 = .ok (.iinc 1 1, 3) := by decide +kernel
theorem dX8_findCalled_25 : decode cX8_findCalled 25 = .ok (.goto (-16), 3) := by decide +kernel
theorem dX8_findCalled_28 : decode cX8_findCalled 28 = .ok (.iconst 0, 1) := by decide +kernel
theorem dX8_findCalled_29 : decode cX8_findCalled 29 = .ok (.istore_n 1, 1) := by decide +kernel
theorem dX8_findCalled_30 : decode cX8_findCalled 30 = .ok (.iload_n 1, 1) := by decide +kernel
theorem dX8_findCalled_31 : decode cX8_findCalled 31 = .ok (.aload_n 0, 1) := by decide +kernel
theorem dX8_findCalled_32 : decode cX8_findCalled 32 = .ok (.getfield 15, 3) := by decide +kernel
theorem dX8_findCalled_35 : decode cX8_findCalled 35 = .ok (.getfield 24, 3) := by decide +kernel
theorem dX8_findCalled_38 : decode cX8_findCalled 38 = .ok (.if_icmp .ge 67, 3) := by decide +kernel
theorem dX8_findCalled_41 : decode cX8_findCalled 41 = .ok (.aload_n 0, 1) := by decide +kernel
theorem dX8_findCalled_42 : decode cX8_findCalled 42 = .ok (.getfield 15, 3) := by decide +kernel
theorem dX8_findCalled_45 : decode cX8_findCalled 45 = .ok (.getfield 28, 3) := by decide +kernel
theorem dX8_findCalled_48 : decode cX8_findCalled 48 = .ok (.iload_n 1, 1) := by decide +kernel
theorem dX8_findCalled_49 : decode cX8_findCalled 49 = .ok (.aaload, 1) := by decide +kernel
theorem dX8_findCalled_50 : decode cX8_findCalled 50 = .ok (.astore_n 2, 1) := by decide +kernel
theorem dX8_findCalled_51 : decode cX8_findCalled 51 = .ok (.iconst 0, 1) := by decide +kernel
theorem dX8_findCalled_52 : decode cX8_findCalled 52 = .ok (.istore_n 3, 1) := by decide +kernel
theorem dX8_findCalled_53 : decode cX8_findCalled 53 = .ok (.iload_n 3, 1) := by decide +kernel
theorem dX8_findCalled_54 : decode cX8_findCalled 54 = .ok (.bipush 6, 2) := by decide +kernel
theorem dX8_findCalled_56 : decode cX8_findCalled 56 = .ok (.if_icmp .ge 43, 3) := by decide +kernel
theorem dX8_findCalled_59 : decode cX8_findCalled 59 = .ok (.aload_n 2, 1) := by decide +kernel
theorem dX8_findCalled_60 : decode cX8_findCalled 60 = .ok (.getfield 60, 3) := by decide +kernel
theorem dX8_findCalled_63 : decode cX8_findCalled 63 = .ok (.aload_n 0, 1) := by decide +kernel
theorem dX8_findCalled_64 : decode cX8_findCalled 64 = .ok (.getfield 15, 3) := by decide +kernel
theorem dX8_findCalled_67 : decode cX8_findCalled 67 = .ok (.getfield 41, 3) := by decide +kernel
theorem dX8_findCalled_70 : decode cX8_findCalled 70 = .ok (.iload_n 3, 1) := by decide +kernel
theorem dX8_findCalled_71 : decode cX8_findCalled 71 = .ok (.laload, 1) := by decide +kernel
theorem dX8_findCalled_72 : decode cX8_findCalled 72 = .ok (.land, 1) := by decide +kernel
theorem dX8_findCalled_73 : decode cX8_findCalled 73 = .ok (.lconst 0, 1) := by decide +kernel
theorem dX8_findCalled_74 : decode cX8_findCalled 74 = .ok (.lcmp, 1) := by decide +kernel
theorem dX8_findCalled_75 : decode cX8_findCalled 75 = .ok (.ifCond .eq 18, 3) := by decide +kernel
theorem dX8_findCalled_78 : decode cX8_findCalled 78 = .ok (.aload_n 0, 1) := by decide +kernel
theorem dX8_findCalled_79 : decode cX8_findCalled 79 = .ok (.getfield 9, 3) := by decide +kernel
theorem dX8_findCalled_82 : decode cX8_findCalled 82 = .ok (.aload_n 2, 1) := by decide +kernel
theorem dX8_findCalled_83 : decode cX8_findCalled 83 = .ok (.getfield 32, 3) := by decide +kernel
theorem dX8_findCalled_86 : decode cX8_findCalled 86 = .ok (.dup2, 1) := by decide +kernel
theorem dX8_findCalled_87 : decode cX8_findCalled 87 = .ok (.iaload, 1) := by decide +kernel
theorem dX8_findCalled_88 : decode cX8_findCalled 88 = .ok (.iconst 1, 1) := by decide +kernel
theorem dX8_findCalled_89 : decode cX8_findCalled 89 = .ok (.iload_n 3, 1) := by decide +kernel
theorem dX8_findCalled_90 : decode cX8_findCalled 90 = .ok (.ishl, 1) := by decide +kernel
theorem dX8_findCalled_91 : decode cX8_findCalled 91 = .ok (.ior, 1) := by decide +kernel
theorem dX8_findCalled_92 : decode cX8_findCalled 92 = .ok (.iastore, 1) := by decide +kernel
theorem dX8_findCalled_93 : decode cX8_findCalled 93 = .ok (.iinc 3 1, 3) := by decide +kernel
theorem dX8_findCalled_96 : decode cX8_findCalled 96 = .ok (.goto (-43), 3) := by decide +kernel
theorem dX8_findCalled_99 : decode cX8_findCalled 99 = .ok (.iinc 1 1, 3) := by decide +kernel
theorem dX8_findCalled_102 : decode cX8_findCalled 102 = .ok (.goto (-72), 3) := by decide +kernel
theorem dX8_findCalled_105 : decode cX8_findCalled 105 = .ok (.return_, 1) := by decide +kernel
theorem dX8_leadOn_0 : decode cX8_leadOn 0 = .ok (.iconst 0, 1) := by decide +kernel
theorem dX8_leadOn_1 : decode cX8_leadOn 1 = .ok (.istore_n 1, 1) := by decide +kernel
theorem dX8_leadOn_2 : decode cX8_leadOn 2 = .ok (.iload_n 1, 1) := by decide +kernel
theorem dX8_leadOn_3 : decode cX8_leadOn 3 = .ok (.bipush 6, 2) := by decide +kernel
theorem dX8_leadOn_5 : decode cX8_leadOn 5 = .ok (.if_icmp .ge 47, 3) := by decide +kernel
theorem dX8_leadOn_8 : decode cX8_leadOn 8 = .ok (.iconst 0, 1) := by decide +kernel
theorem dX8_leadOn_9 : decode cX8_leadOn 9 = .ok (.istore_n 2, 1) := by decide +kernel
theorem dX8_leadOn_10 : decode cX8_leadOn 10 = .ok (.iload_n 2, 1) := by decide +kernel
theorem dX8_leadOn_11 : decode cX8_leadOn 11 = .ok (.bipush 6, 2) := by decide +kernel
theorem dX8_leadOn_13 : decode cX8_leadOn 13 = .ok (.if_icmp .ge 33, 3) := by decide +kernel
theorem dX8_leadOn_16 : decode cX8_leadOn 16 = .ok (.aload_n 0, 1) := by decide +kernel
theorem dX8_leadOn_17 : decode cX8_leadOn 17 = .ok (.iload_n 2, 1) := by decide +kernel
theorem dX8_leadOn_18 : decode cX8_leadOn 18 = .ok (.iload_n 1, 1) := by decide +kernel
theorem dX8_leadOn_19 : decode cX8_leadOn 19 = .ok (.invokevirtual 56, 3) := by decide +kernel
theorem dX8_leadOn_22 : decode cX8_leadOn 22 = .ok (.ifCond .eq 18, 3) := by decide +kernel
theorem dX8_leadOn_25 : decode cX8_leadOn 25 = .ok (.aload_n 0, 1) := by decide +kernel
theorem dX8_leadOn_26 : decode cX8_leadOn 26 = .ok (.getfield 9, 3) := by decide +kernel
theorem dX8_leadOn_29 : decode cX8_leadOn 29 = .ok (.iload_n 2, 1) := by decide +kernel
theorem dX8_leadOn_30 : decode cX8_leadOn 30 = .ok (.dup2, 1) := by decide +kernel
theorem dX8_leadOn_31 : decode cX8_leadOn 31 = .ok (.iaload, 1) := by decide +kernel
theorem dX8_leadOn_32 : decode cX8_leadOn 32 = .ok (.aload_n 0, 1) := by decide +kernel
theorem dX8_leadOn_33 : decode cX8_leadOn 33 = .ok (.getfield 9, 3) := by decide +kernel
theorem dX8_leadOn_36 : decode cX8_leadOn 36 = .ok (.iload_n 1, 1) := by decide +kernel
theorem dX8_leadOn_37 : decode cX8_leadOn 37 = .ok (.iaload, 1) := by decide +kernel
theorem dX8_leadOn_38 : decode cX8_leadOn 38 = .ok (.ior, 1) := by decide +kernel
theorem dX8_leadOn_39 : decode cX8_leadOn 39 = .ok (.iastore, 1) := by decide +kernel
theorem dX8_leadOn_40 : decode cX8_leadOn 40 = .ok (.iinc 2 1, 3) := by decide +kernel
theorem dX8_leadOn_43 : decode cX8_leadOn 43 = .ok (.goto (-33), 3) := by decide +kernel
theorem dX8_leadOn_46 : decode cX8_leadOn 46 = .ok (.iinc 1 1, 3) := by decide +kernel
theorem dX8_leadOn_49 : decode cX8_leadOn 49 = .ok (.goto (-47), 3) := by decide +kernel
theorem dX8_leadOn_52 : decode cX8_leadOn 52 = .ok (.return_, 1) := by decide +kernel
theorem dX8_leads_0 : decode cX8_leads 0 = .ok (.aload_n 0, 1) := by decide +kernel
theorem dX8_leads_1 : decode cX8_leads 1 = .ok (.getfield 9, 3) := by decide +kernel
theorem dX8_leads_4 : decode cX8_leads 4 = .ok (.iload_n 1, 1) := by decide +kernel
theorem dX8_leads_5 : decode cX8_leads 5 = .ok (.iaload, 1) := by decide +kernel
theorem dX8_leads_6 : decode cX8_leads 6 = .ok (.iconst 1, 1) := by decide +kernel
theorem dX8_leads_7 : decode cX8_leads 7 = .ok (.iload_n 2, 1) := by decide +kernel
theorem dX8_leads_8 : decode cX8_leads 8 = .ok (.ishl, 1) := by decide +kernel
theorem dX8_leads_9 : decode cX8_leads 9 = .ok (.iand, 1) := by decide +kernel
theorem dX8_leads_10 : decode cX8_leads 10 = .ok (.ifCond .eq 7, 3) := by decide +kernel
theorem dX8_leads_13 : decode cX8_leads 13 = .ok (.iconst 1, 1) := by decide +kernel
theorem dX8_leads_14 : decode cX8_leads 14 = .ok (.goto 4, 3) := by decide +kernel
theorem dX8_leads_17 : decode cX8_leads 17 = .ok (.iconst 0, 1) := by decide +kernel
theorem dX8_leads_18 : decode cX8_leads 18 = .ok (.ireturn, 1) := by decide +kernel
theorem dX9_init_0 : decode cX9_init 0 = .ok (.aload_n 0, 1) := by decide +kernel
theorem dX9_init_1 : decode cX9_init 1 = .ok (.invokespecial 1, 3) := by decide +kernel
theorem dX9_init_4 : decode cX9_init 4 = .ok (.aload_n 0, 1) := by decide +kernel
theorem dX9_init_5 : decode cX9_init 5 = .ok (.aload_n 1, 1) := by decide +kernel
theorem dX9_init_6 : decode cX9_init 6 = .ok (.putfield 7, 3) := by decide +kernel
theorem dX9_init_9 : decode cX9_init 9 = .ok (.aload_n 0, 1) := by decide +kernel
theorem dX9_init_10 : decode cX9_init 10 = .ok (.lload_n 2, 1) := by decide +kernel
theorem dX9_init_11 : decode cX9_init 11 = .ok (.putfield 13, 3) := by decide +kernel
theorem dX9_init_14 : decode cX9_init 14 = .ok (.return_, 1) := by decide +kernel
theorem dX10_init_0 : decode cX10_init 0 = .ok (.aload_n 0, 1) := by decide +kernel
theorem dX10_init_1 : decode cX10_init 1 = .ok (.invokespecial 3, 3) := by decide +kernel
theorem dX10_init_4 : decode cX10_init 4 = .ok (.aload_n 0, 1) := by decide +kernel
theorem dX10_init_5 : decode cX10_init 5 = .ok (.new 9, 3) := by decide +kernel
theorem dX10_init_8 : decode cX10_init 8 = .ok (.dup, 1) := by decide +kernel
theorem dX10_init_9 : decode cX10_init 9 = .ok (.bipush 40, 2) := by decide +kernel
theorem dX10_init_11 : decode cX10_init 11 = .ok (.invokespecial 11, 3) := by decide +kernel
theorem dX10_init_14 : decode cX10_init 14 = .ok (.putfield 14, 3) := by decide +kernel
theorem dX10_init_17 : decode cX10_init 17 = .ok (.aload_n 0, 1) := by decide +kernel
theorem dX10_init_18 : decode cX10_init 18 = .ok (.new 9, 3) := by decide +kernel
theorem dX10_init_21 : decode cX10_init 21 = .ok (.dup, 1) := by decide +kernel
theorem dX10_init_22 : decode cX10_init 22 = .ok (.bipush 20, 2) := by decide +kernel
theorem dX10_init_24 : decode cX10_init 24 = .ok (.invokespecial 11, 3) := by decide +kernel
theorem dX10_init_27 : decode cX10_init 27 = .ok (.putfield 18, 3) := by decide +kernel
theorem dX10_init_30 : decode cX10_init 30 = .ok (.aload_n 0, 1) := by decide +kernel
theorem dX10_init_31 : decode cX10_init 31 = .ok (.new 21, 3) := by decide +kernel
theorem dX10_init_34 : decode cX10_init 34 = .ok (.dup, 1) := by decide +kernel
theorem dX10_init_35 : decode cX10_init 35 = .ok (.invokespecial 23, 3) := by decide +kernel
theorem dX10_init_38 : decode cX10_init 38 = .ok (.putfield 24, 3) := by decide +kernel
theorem dX10_init_41 : decode cX10_init 41 = .ok (.aload_n 0, 1) := by decide +kernel
theorem dX10_init_42 : decode cX10_init 42 = .ok (.new 28, 3) := by decide +kernel
theorem dX10_init_45 : decode cX10_init 45 = .ok (.dup, 1) := by decide +kernel
theorem dX10_init_46 : decode cX10_init 46 = .ok (.invokespecial 30, 3) := by decide +kernel
theorem dX10_init_49 : decode cX10_init 49 = .ok (.putfield 31, 3) := by decide +kernel
theorem dX10_init_52 : decode cX10_init 52 = .ok (.aload_n 0, 1) := by decide +kernel
theorem dX10_init_53 : decode cX10_init 53 = .ok (.new 35, 3) := by decide +kernel
theorem dX10_init_56 : decode cX10_init 56 = .ok (.dup, 1) := by decide +kernel
theorem dX10_init_57 : decode cX10_init 57 = .ok (.aload_n 0, 1) := by decide +kernel
theorem dX10_init_58 : decode cX10_init 58 = .ok (.getfield 24, 3) := by decide +kernel
theorem dX10_init_61 : decode cX10_init 61 = .ok (.invokespecial 37, 3) := by decide +kernel
theorem dX10_init_64 : decode cX10_init 64 = .ok (.putfield 40, 3) := by decide +kernel
theorem dX10_init_67 : decode cX10_init 67 = .ok (.aload_n 0, 1) := by decide +kernel
theorem dX10_init_68 : decode cX10_init 68 = .ok (.new 44, 3) := by decide +kernel
theorem dX10_init_71 : decode cX10_init 71 = .ok (.dup, 1) := by decide +kernel
theorem dX10_init_72 : decode cX10_init 72 = .ok (.aload_n 0, 1) := by decide +kernel
theorem dX10_init_73 : decode cX10_init 73 = .ok (.getfield 24, 3) := by decide +kernel
theorem dX10_init_76 : decode cX10_init 76 = .ok (.invokespecial 46, 3) := by decide +kernel
theorem dX10_init_79 : decode cX10_init 79 = .ok (.putfield 47, 3) := by decide +kernel
theorem dX10_init_82 : decode cX10_init 82 = .ok (.aload_n 0, 1) := by decide +kernel
theorem dX10_init_83 : decode cX10_init 83 = .ok (.new 51, 3) := by decide +kernel
theorem dX10_init_86 : decode cX10_init 86 = .ok (.dup, 1) := by decide +kernel
theorem dX10_init_87 : decode cX10_init 87 = .ok (.aload_n 0, 1) := by decide +kernel
theorem dX10_init_88 : decode cX10_init 88 = .ok (.getfield 24, 3) := by decide +kernel
theorem dX10_init_91 : decode cX10_init 91 = .ok (.invokespecial 53, 3) := by decide +kernel
theorem dX10_init_94 : decode cX10_init 94 = .ok (.putfield 54, 3) := by decide +kernel
theorem dX10_init_97 : decode cX10_init 97 = .ok (.aload_n 0, 1) := by decide +kernel
theorem dX10_init_98 : decode cX10_init 98 = .ok (.new 58, 3) := by decide +kernel
theorem dX10_init_101 : decode cX10_init 101 = .ok (.dup, 1) := by decide +kernel
theorem dX10_init_102 : decode cX10_init 102 = .ok (.invokespecial 60, 3) := by decide +kernel
theorem dX10_init_105 : decode cX10_init 105 = .ok (.putfield 61, 3) := by decide +kernel
theorem dX10_init_108 : decode cX10_init 108 = .ok (.aload_n 0, 1) := by decide +kernel
theorem dX10_init_109 : decode cX10_init 109 = .ok (.new 65, 3) := by decide +kernel
theorem dX10_init_112 : decode cX10_init 112 = .ok (.dup, 1) := by decide +kernel
theorem dX10_init_113 : decode cX10_init 113 = .ok (.invokespecial 67, 3) := by decide +kernel
theorem dX10_init_116 : decode cX10_init 116 = .ok (.putfield 68, 3) := by decide +kernel
theorem dX10_init_119 : decode cX10_init 119 = .ok (.return_, 1) := by decide +kernel
theorem dX10_feed_0 : decode cX10_feed 0 = .ok (.aload_n 0, 1) := by decide +kernel
theorem dX10_feed_1 : decode cX10_feed 1 = .ok (.getfield 14, 3) := by decide +kernel
theorem dX10_feed_4 : decode cX10_feed 4 = .ok (.getfield 72, 3) := by decide +kernel
theorem dX10_feed_7 : decode cX10_feed 7 = .ok (.bipush 20, 2) := by decide +kernel
theorem dX10_feed_9 : decode cX10_feed 9 = .ok (.iadd, 1) := by decide +kernel
theorem dX10_feed_10 : decode cX10_feed 10 = .ok (.bipush 40, 2) := by decide +kernel
theorem dX10_feed_12 : decode cX10_feed 12 = .ok (.if_icmp .le 5, 3) := by decide +kernel
theorem dX10_feed_15 : decode cX10_feed 15 = .ok (.iconst (-1), 1) := by decide +kernel
theorem dX10_feed_16 : decode cX10_feed 16 = .ok (.ireturn, 1) := by decide +kernel
theorem dX10_feed_17 : decode cX10_feed 17 = .ok (.aload_n 0, 1) := by decide +kernel
theorem dX10_feed_18 : decode cX10_feed 18 = .ok (.getfield 14, 3) := by decide +kernel
theorem dX10_feed_21 : decode cX10_feed 21 = .ok (.iload_n 1, 1) := by decide +kernel
theorem dX10_feed_22 : decode cX10_feed 22 = .ok (.invokevirtual 76, 3) := by decide +kernel
theorem dX10_feed_25 : decode cX10_feed 25 = .ok (.aload_n 0, 1) := by decide +kernel
theorem dX10_feed_26 : decode cX10_feed 26 = .ok (.getfield 14, 3) := by decide +kernel
theorem dX10_feed_29 : decode cX10_feed 29 = .ok (.iload_n 2, 1) := by decide +kernel
theorem dX10_feed_30 : decode cX10_feed 30 = .ok (.invokevirtual 76, 3) := by decide +kernel
theorem dX10_feed_33 : decode cX10_feed 33 = .ok (.aload_n 0, 1) := by decide +kernel
theorem dX10_feed_34 : decode cX10_feed 34 = .ok (.getfield 14, 3) := by decide +kernel
theorem dX10_feed_37 : decode cX10_feed 37 = .ok (.iload_n 3, 1) := by decide +kernel
theorem dX10_feed_38 : decode cX10_feed 38 = .ok (.invokevirtual 76, 3) := by decide +kernel
theorem dX10_feed_41 : decode cX10_feed 41 = .ok (.aload_n 0, 1) := by decide +kernel
theorem dX10_feed_42 : decode cX10_feed 42 = .ok (.getfield 14, 3) := by decide +kernel
theorem dX10_feed_45 : decode cX10_feed 45 = .ok (.iload 4, 2) := by decide +kernel
theorem dX10_feed_47 : decode cX10_feed 47 = .ok (.invokevirtual 76, 3) := by decide +kernel
theorem dX10_feed_50 : decode cX10_feed 50 = .ok (.aload_n 0, 1) := by decide +kernel
theorem dX10_feed_51 : decode cX10_feed 51 = .ok (.getfield 14, 3) := by decide +kernel
theorem dX10_feed_54 : decode cX10_feed 54 = .ok (.iload 5, 2) := by decide +kernel
theorem dX10_feed_56 : decode cX10_feed 56 = .ok (.invokevirtual 76, 3) := by decide +kernel
theorem dX10_feed_59 : decode cX10_feed 59 = .ok (.aload_n 0, 1) := by decide +kernel
theorem dX10_feed_60 : decode cX10_feed 60 = .ok (.getfield 14, 3) := by decide +kernel
theorem dX10_feed_63 : decode cX10_feed 63 = .ok (.getfield 72, 3) := by decide +kernel
theorem dX10_feed_66 : decode cX10_feed 66 = .ok (.ireturn, 1) := by decide +kernel
theorem dX10_routine_0 : decode cX10_routine 0 = .ok (.iload_n 1, 1) := by decide +kernel
theorem dX10_routine_1 : decode cX10_routine 1 = .ok (.ifCond .lt 14, 3) := by decide +kernel
theorem dX10_routine_4 : decode cX10_routine 4 = .ok (.iload_n 1, 1) := by decide +kernel
theorem dX10_routine_5 : decode cX10_routine 5 = .ok (.aload_n 0, 1) := by decide +kernel
theorem dX10_routine_6 : decode cX10_routine 6 = .ok (.getfield 14, 3) := by decide +kernel
theorem dX10_routine_9 : decode cX10_routine 9 = .ok (.getfield 72, 3) := by decide +kernel
theorem dX10_routine_12 : decode cX10_routine 12 = .ok (.if_icmp .le 13, 3) := by decide +kernel
theorem dX10_routine_15 : decode cX10_routine 15 = .ok (.new 79, 3) := by decide +kernel
theorem dX10_routine_18 : decode cX10_routine 18 = .ok (.dup, 1) := by decide +kernel
theorem dX10_routine_19 : decode cX10_routine 19 = .ok (.ldc 81, 2) := by decide +kernel
theorem dX10_routine_21 : decode cX10_routine 21 = .ok (.invokespecial 83, 3) := by decide +kernel
theorem dX10_routine_24 : decode cX10_routine 24 = .ok (.athrow, 1) := by decide +kernel
theorem dX10_routine_25 : decode cX10_routine 25 = .ok (.aload_n 0, 1) := by decide +kernel
theorem dX10_routine_26 : decode cX10_routine 26 = .ok (.getfield 24, 3) := by decide +kernel
theorem dX10_routine_29 : decode cX10_routine 29 = .ok (.getfield 86, 3) := by decide +kernel
theorem dX10_routine_32 : decode cX10_routine 32 = .ok (.bipush 40, 2) := by decide +kernel
theorem dX10_routine_34 : decode cX10_routine 34 = .ok (.if_icmp .lt 13, 3) := by decide +kernel
theorem dX10_routine_37 : decode cX10_routine 37 = .ok (.new 87, 3) := by decide +kernel
theorem dX10_routine_40 : decode cX10_routine 40 = .ok (.dup, 1) := by decide +kernel
theorem dX10_routine_41 : decode cX10_routine 41 = .ok (.ldc 89, 2) := by decide +kernel
theorem dX10_routine_43 : decode cX10_routine 43 = .ok (.invokespecial 91, 3) := by decide +kernel
theorem dX10_routine_46 : decode cX10_routine 46 = .ok (.athrow, 1) := by decide +kernel
theorem dX10_routine_47 : decode cX10_routine 47 = .ok (.aload_n 0, 1) := by decide +kernel
theorem dX10_routine_48 : decode cX10_routine 48 = .ok (.getfield 14, 3) := by decide +kernel
theorem dX10_routine_51 : decode cX10_routine 51 = .ok (.iconst 0, 1) := by decide +kernel
theorem dX10_routine_52 : decode cX10_routine 52 = .ok (.iload_n 1, 1) := by decide +kernel
theorem dX10_routine_53 : decode cX10_routine 53 = .ok (.invokevirtual 92, 3) := by decide +kernel
theorem dX10_routine_56 : decode cX10_routine 56 = .ok (.astore_n 2, 1) := by decide +kernel
theorem dX10_routine_57 : decode cX10_routine 57 = .ok (.aload_n 0, 1) := by decide +kernel
theorem dX10_routine_58 : decode cX10_routine 58 = .ok (.getfield 14, 3) := by decide +kernel
theorem dX10_routine_61 : decode cX10_routine 61 = .ok (.invokevirtual 96, 3) := by decide +kernel
theorem dX10_routine_64 : decode cX10_routine 64 = .ok (.aload_n 2, 1) := by decide +kernel
theorem dX10_routine_65 : decode cX10_routine 65 = .ok (.invokevirtual 99, 3) := by decide +kernel
theorem dX10_routine_68 : decode cX10_routine 68 = .ok (.ifCond .ne 5, 3) := by decide +kernel
theorem dX10_routine_71 : decode cX10_routine 71 = .ok (.iconst (-1), 1) := by decide +kernel
theorem dX10_routine_72 : decode cX10_routine 72 = .ok (.ireturn, 1) := by decide +kernel
theorem dX10_routine_73 : decode cX10_routine 73 = .ok (.aload_n 0, 1) := by decide +kernel
theorem dX10_routine_74 : decode cX10_routine 74 = .ok (.getfield 24, 3) := by decide +kernel
theorem dX10_routine_77 : decode cX10_routine 77 = .ok (.aload_n 2, 1) := by decide +kernel
theorem dX10_routine_78 : decode cX10_routine 78 = .ok (.invokevirtual 103, 3) := by decide +kernel
theorem dX10_routine_81 : decode cX10_routine 81 = .ok (.ifCond .eq 6, 3) := by decide +kernel
theorem dX10_routine_84 : decode cX10_routine 84 = .ok (.bipush (-2), 2) := by decide +kernel
theorem dX10_routine_86 : decode cX10_routine 86 = .ok (.ireturn, 1) := by decide +kernel
theorem dX10_routine_87 : decode cX10_routine 87 = .ok (.aload_n 0, 1) := by decide +kernel
theorem dX10_routine_88 : decode cX10_routine 88 = .ok (.getfield 24, 3) := by decide +kernel
theorem dX10_routine_91 : decode cX10_routine 91 = .ok (.aload_n 2, 1) := by decide +kernel
theorem dX10_routine_92 : decode cX10_routine 92 = .ok (.invokevirtual 107, 3) := by decide +kernel
theorem dX10_routine_95 : decode cX10_routine 95 = .ok (.astore_n 3, 1) := by decide +kernel
theorem dX10_routine_96 : decode cX10_routine 96 = .ok (.aload_n 0, 1) := by decide +kernel
theorem dX10_routine_97 : decode cX10_routine 97 = .ok (.getfield 31, 3) := by decide +kernel
theorem dX10_routine_100 : decode cX10_routine 100 = .ok (.aload_n 2, 1) := by decide +kernel
theorem dX10_routine_101 : decode cX10_routine 101 = .ok (.aload_n 3, 1) := by decide +kernel
theorem dX10_routine_102 : decode cX10_routine 102 = .ok (.getfield 111, 3) := by decide +kernel
theorem dX10_routine_105 : decode cX10_routine 105 = .ok (.invokevirtual 117, 3) := by decide +kernel
theorem dX10_routine_108 : decode cX10_routine 108 = .ok (.aload_n 3, 1) := by decide +kernel
theorem dX10_routine_109 : decode cX10_routine 109 = .ok (.getfield 121, 3) := by decide +kernel
theorem dX10_routine_112 : decode cX10_routine 112 = .ok (.ireturn, 1) := by decide +kernel
theorem dX10_tie_0 : decode cX10_tie 0 = .ok (.aload_n 0, 1) := by decide +kernel
theorem dX10_tie_1 : decode cX10_tie 1 = .ok (.iload_n 1, 1) := by decide +kernel
theorem dX10_tie_2 : decode cX10_tie 2 = .ok (.invokevirtual 124, 3) := by decide +kernel
theorem dX10_tie_5 : decode cX10_tie 5 = .ok (.astore 5, 2) := by decide +kernel
theorem dX10_tie_7 : decode cX10_tie 7 = .ok (.aload_n 0, 1) := by decide +kernel
theorem dX10_tie_8 : decode cX10_tie 8 = .ok (.iload_n 2, 1) := by decide +kernel
theorem dX10_tie_9 : decode cX10_tie 9 = .ok (.invokevirtual 124, 3) := by decide +kernel
theorem dX10_tie_12 : decode cX10_tie 12 = .ok (.astore 6, 2) := by decide +kernel
theorem dX10_tie_14 : decode cX10_tie 14 = .ok (.iload_n 1, 1) := by decide +kernel
theorem dX10_tie_15 : decode cX10_tie 15 = .ok (.iload_n 2, 1) := by decide +kernel
theorem dX10_tie_16 : decode cX10_tie 16 = .ok (.if_icmp .eq 26, 3) := by decide +kernel
theorem dX10_tie_19 : decode cX10_tie 19 = .ok (.iload_n 3, 1) := by decide +kernel
theorem dX10_tie_20 : decode cX10_tie 20 = .ok (.ifCond .lt 22, 3) := by decide +kernel
theorem dX10_tie_23 : decode cX10_tie 23 = .ok (.iload_n 3, 1) := by decide +kernel
theorem dX10_tie_24 : decode cX10_tie 24 = .ok (.iconst 3, 1) := by decide +kernel
theorem dX10_tie_25 : decode cX10_tie 25 = .ok (.if_icmp .ge 17, 3) := by decide +kernel
theorem dX10_tie_28 : decode cX10_tie 28 = .ok (.iload 4, 2) := by decide +kernel
theorem dX10_tie_30 : decode cX10_tie 30 = .ok (.iconst 1, 1) := by decide +kernel
theorem dX10_tie_31 : decode cX10_tie 31 = .ok (.if_icmp .lt 11, 3) := by decide +kernel
theorem dX10_tie_34 : decode cX10_tie 34 = .ok (.iload 4, 2) := by decide +kernel
theorem dX10_tie_36 : decode cX10_tie 36 = .ok (.sipush 1000, 3) := by decide +kernel
theorem dX10_tie_39 : decode cX10_tie 39 = .ok (.if_icmp .le 13, 3) := by decide +kernel
theorem dX10_tie_42 : decode cX10_tie 42 = .ok (.new 79, 3) := by decide +kernel
theorem dX10_tie_45 : decode cX10_tie 45 = .ok (.dup, 1) := by decide +kernel
theorem dX10_tie_46 : decode cX10_tie 46 = .ok (.ldc 128, 2) := by decide +kernel
theorem dX10_tie_48 : decode cX10_tie 48 = .ok (.invokespecial 83, 3) := by decide +kernel
theorem dX10_tie_51 : decode cX10_tie 51 = .ok (.athrow, 1) := by decide +kernel
theorem dX10_tie_52 : decode cX10_tie 52 = .ok (.aload_n 0, 1) := by decide +kernel
theorem dX10_tie_53 : decode cX10_tie 53 = .ok (.getfield 24, 3) := by decide +kernel
theorem dX10_tie_56 : decode cX10_tie 56 = .ok (.aload 5, 2) := by decide +kernel
theorem dX10_tie_58 : decode cX10_tie 58 = .ok (.aload 6, 2) := by decide +kernel
theorem dX10_tie_60 : decode cX10_tie 60 = .ok (.iload_n 3, 1) := by decide +kernel
theorem dX10_tie_61 : decode cX10_tie 61 = .ok (.iload 4, 2) := by decide +kernel
theorem dX10_tie_63 : decode cX10_tie 63 = .ok (.invokevirtual 130, 3) := by decide +kernel
theorem dX10_tie_66 : decode cX10_tie 66 = .ok (.ireturn, 1) := by decide +kernel
theorem dX10_ties_0 : decode cX10_ties 0 = .ok (.aload_n 0, 1) := by decide +kernel
theorem dX10_ties_1 : decode cX10_ties 1 = .ok (.iload_n 1, 1) := by decide +kernel
theorem dX10_ties_2 : decode cX10_ties 2 = .ok (.invokevirtual 124, 3) := by decide +kernel
theorem dX10_ties_5 : decode cX10_ties 5 = .ok (.astore_n 3, 1) := by decide +kernel
theorem dX10_ties_6 : decode cX10_ties 6 = .ok (.aload_n 0, 1) := by decide +kernel
theorem dX10_ties_7 : decode cX10_ties 7 = .ok (.iload_n 2, 1) := by decide +kernel
theorem dX10_ties_8 : decode cX10_ties 8 = .ok (.invokevirtual 124, 3) := by decide +kernel
theorem dX10_ties_11 : decode cX10_ties 11 = .ok (.astore 4, 2) := by decide +kernel
theorem dX10_ties_13 : decode cX10_ties 13 = .ok (.iload_n 1, 1) := by decide +kernel
theorem dX10_ties_14 : decode cX10_ties 14 = .ok (.iload_n 2, 1) := by decide +kernel
theorem dX10_ties_15 : decode cX10_ties 15 = .ok (.if_icmp .ne 13, 3) := by decide +kernel
theorem dX10_ties_18 : decode cX10_ties 18 = .ok (.new 79, 3) := by decide +kernel
theorem dX10_ties_21 : decode cX10_ties 21 = .ok (.dup, 1) := by decide +kernel
theorem dX10_ties_22 : decode cX10_ties 22 = .ok (.ldc 134, 2) := by decide +kernel
theorem dX10_ties_24 : decode cX10_ties 24 = .ok (.invokespecial 83, 3) := by decide +kernel
theorem dX10_ties_27 : decode cX10_ties 27 = .ok (.athrow, 1) := by decide +kernel
theorem dX10_ties_28 : decode cX10_ties 28 = .ok (.aload_n 3, 1) := by decide +kernel
theorem dX10_ties_29 : decode cX10_ties 29 = .ok (.getfield 136, 3) := by decide +kernel
theorem dX10_ties_32 : decode cX10_ties 32 = .ok (.aload 4, 2) := by decide +kernel
theorem dX10_ties_34 : decode cX10_ties 34 = .ok (.getfield 121, 3) := by decide +kernel
theorem dX10_ties_37 : decode cX10_ties 37 = .ok (.iaload, 1) := by decide +kernel
theorem dX10_ties_38 : decode cX10_ties 38 = .ok (.ireturn, 1) := by decide +kernel
theorem dX10_set_0 : decode cX10_set 0 = .ok (.iload_n 1, 1) := by decide +kernel
theorem dX10_set_1 : decode cX10_set 1 = .ok (.ifCond .lt 27, 3) := by decide +kernel
theorem dX10_set_4 : decode cX10_set 4 = .ok (.iload_n 1, 1) := by decide +kernel
theorem dX10_set_5 : decode cX10_set 5 = .ok (.bipush 6, 2) := by decide +kernel
theorem dX10_set_7 : decode cX10_set 7 = .ok (.if_icmp .ge 21, 3) := by decide +kernel
theorem dX10_set_10 : decode cX10_set 10 = .ok (.iload_n 2, 1) := by decide +kernel
theorem dX10_set_11 : decode cX10_set 11 = .ok (.getstatic 140, 3) := by decide +kernel
theorem dX10_set_14 : decode cX10_set 14 = .ok (.iload_n 1, 1) := by decide +kernel
theorem dX10_set_15 : decode cX10_set 15 = .ok (.iaload, 1) := by decide +kernel
theorem dX10_set_16 : decode cX10_set 16 = .ok (.if_icmp .lt 12, 3) := by decide +kernel
theorem dX10_set_19 : decode cX10_set 19 = .ok (.iload_n 2, 1) := by decide +kernel
theorem dX10_set_20 : decode cX10_set 20 = .ok (.getstatic 143, 3) := by decide +kernel
theorem dX10_set_23 : decode cX10_set 23 = .ok (.iload_n 1, 1) := by decide +kernel
theorem dX10_set_24 : decode cX10_set 24 = .ok (.iaload, 1) := by decide +kernel
theorem dX10_set_25 : decode cX10_set 25 = .ok (.if_icmp .le 13, 3) := by decide +kernel
theorem dX10_set_28 : decode cX10_set 28 = .ok (.new 79, 3) := by decide +kernel
theorem dX10_set_31 : decode cX10_set 31 = .ok (.dup, 1) := by decide +kernel
theorem dX10_set_32 : decode cX10_set 32 = .ok (.ldc 146, 2) := by decide +kernel
theorem dX10_set_34 : decode cX10_set 34 = .ok (.invokespecial 83, 3) := by decide +kernel
theorem dX10_set_37 : decode cX10_set 37 = .ok (.athrow, 1) := by decide +kernel
theorem dX10_set_38 : decode cX10_set 38 = .ok (.aload_n 0, 1) := by decide +kernel
theorem dX10_set_39 : decode cX10_set 39 = .ok (.getfield 24, 3) := by decide +kernel
theorem dX10_set_42 : decode cX10_set 42 = .ok (.iload_n 1, 1) := by decide +kernel
theorem dX10_set_43 : decode cX10_set 43 = .ok (.iload_n 2, 1) := by decide +kernel
theorem dX10_set_44 : decode cX10_set 44 = .ok (.invokevirtual 148, 3) := by decide +kernel
theorem dX10_set_47 : decode cX10_set 47 = .ok (.ireturn, 1) := by decide +kernel
theorem dX10_must_0 : decode cX10_must 0 = .ok (.aload_n 0, 1) := by decide +kernel
theorem dX10_must_1 : decode cX10_must 1 = .ok (.iload_n 1, 1) := by decide +kernel
theorem dX10_must_2 : decode cX10_must 2 = .ok (.invokevirtual 124, 3) := by decide +kernel
theorem dX10_must_5 : decode cX10_must 5 = .ok (.astore 4, 2) := by decide +kernel
theorem dX10_must_7 : decode cX10_must 7 = .ok (.aload_n 0, 1) := by decide +kernel
theorem dX10_must_8 : decode cX10_must 8 = .ok (.iload_n 2, 1) := by decide +kernel
theorem dX10_must_9 : decode cX10_must 9 = .ok (.invokevirtual 124, 3) := by decide +kernel
theorem dX10_must_12 : decode cX10_must 12 = .ok (.astore 5, 2) := by decide +kernel
theorem dX10_must_14 : decode cX10_must 14 = .ok (.iload_n 1, 1) := by decide +kernel
theorem dX10_must_15 : decode cX10_must 15 = .ok (.iload_n 2, 1) := by decide +kernel
theorem dX10_must_16 : decode cX10_must 16 = .ok (.if_icmp .eq 12, 3) := by decide +kernel
theorem dX10_must_19 : decode cX10_must 19 = .ok (.iload_n 3, 1) := by decide +kernel
theorem dX10_must_20 : decode cX10_must 20 = .ok (.ifCond .lt 8, 3) := by decide +kernel
theorem dX10_must_23 : decode cX10_must 23 = .ok (.iload_n 3, 1) := by decide +kernel
theorem dX10_must_24 : decode cX10_must 24 = .ok (.iconst 2, 1) := by decide +kernel
theorem dX10_must_25 : decode cX10_must 25 = .ok (.if_icmp .le 13, 3) := by decide +kernel
theorem dX10_must_28 : decode cX10_must 28 = .ok (.new 79, 3) := by decide +kernel
theorem dX10_must_31 : decode cX10_must 31 = .ok (.dup, 1) := by decide +kernel
theorem dX10_must_32 : decode cX10_must 32 = .ok (.ldc 152, 2) := by decide +kernel
theorem dX10_must_34 : decode cX10_must 34 = .ok (.invokespecial 83, 3) := by decide +kernel
theorem dX10_must_37 : decode cX10_must 37 = .ok (.athrow, 1) := by decide +kernel
theorem dX10_must_38 : decode cX10_must 38 = .ok (.aload 4, 2) := by decide +kernel
theorem dX10_must_40 : decode cX10_must 40 = .ok (.getfield 154, 3) := by decide +kernel
theorem dX10_must_43 : decode cX10_must 43 = .ok (.aload 5, 2) := by decide +kernel
theorem dX10_must_45 : decode cX10_must 45 = .ok (.getfield 121, 3) := by decide +kernel
theorem dX10_must_48 : decode cX10_must 48 = .ok (.iaload, 1) := by decide +kernel
theorem dX10_must_49 : decode cX10_must 49 = .ok (.istore 6, 2) := by decide +kernel
theorem dX10_must_51 : decode cX10_must 51 = .ok (.aload 4, 2) := by decide +kernel
theorem dX10_must_53 : decode cX10_must 53 = .ok (.getfield 154, 3) := by decide +kernel
theorem dX10_must_56 : decode cX10_must 56 = .ok (.aload 5, 2) := by decide +kernel
theorem dX10_must_58 : decode cX10_must 58 = .ok (.getfield 121, 3) := by decide +kernel
theorem dX10_must_61 : decode cX10_must 61 = .ok (.iload_n 3, 1) := by decide +kernel
theorem dX10_must_62 : decode cX10_must 62 = .ok (.iastore, 1) := by decide +kernel
theorem dX10_must_63 : decode cX10_must 63 = .ok (.aload 5, 2) := by decide +kernel
theorem dX10_must_65 : decode cX10_must 65 = .ok (.getfield 154, 3) := by decide +kernel
theorem dX10_must_68 : decode cX10_must 68 = .ok (.aload 4, 2) := by decide +kernel
theorem dX10_must_70 : decode cX10_must 70 = .ok (.getfield 121, 3) := by decide +kernel
theorem dX10_must_73 : decode cX10_must 73 = .ok (.iload_n 3, 1) := by decide +kernel
theorem dX10_must_74 : decode cX10_must 74 = .ok (.iastore, 1) := by decide +kernel
theorem dX10_must_75 : decode cX10_must 75 = .ok (.iload 6, 2) := by decide +kernel
theorem dX10_must_77 : decode cX10_must 77 = .ok (.ireturn, 1) := by decide +kernel
theorem dX10_fix_0 : decode cX10_fix 0 = .ok (.aload_n 0, 1) := by decide +kernel
theorem dX10_fix_1 : decode cX10_fix 1 = .ok (.iload_n 1, 1) := by decide +kernel
theorem dX10_fix_2 : decode cX10_fix 2 = .ok (.invokevirtual 124, 3) := by decide +kernel
theorem dX10_fix_5 : decode cX10_fix 5 = .ok (.astore_n 3, 1) := by decide +kernel
theorem dX10_fix_6 : decode cX10_fix 6 = .ok (.iload_n 2, 1) := by decide +kernel
theorem dX10_fix_7 : decode cX10_fix 7 = .ok (.iconst (-1), 1) := by decide +kernel
theorem dX10_fix_8 : decode cX10_fix 8 = .ok (.if_icmp .lt 9, 3) := by decide +kernel
theorem dX10_fix_11 : decode cX10_fix 11 = .ok (.iload_n 2, 1) := by decide +kernel
theorem dX10_fix_12 : decode cX10_fix 12 = .ok (.bipush 6, 2) := by decide +kernel
theorem dX10_fix_14 : decode cX10_fix 14 = .ok (.if_icmp .lt 13, 3) := by decide +kernel
theorem dX10_fix_17 : decode cX10_fix 17 = .ok (.new 79, 3) := by decide +kernel
theorem dX10_fix_20 : decode cX10_fix 20 = .ok (.dup, 1) := by decide +kernel
theorem dX10_fix_21 : decode cX10_fix 21 = .ok (.ldc 157, 2) := by decide +kernel
theorem dX10_fix_23 : decode cX10_fix 23 = .ok (.invokespecial 83, 3) := by decide +kernel
theorem dX10_fix_26 : decode cX10_fix 26 = .ok (.athrow, 1) := by decide +kernel
theorem dX10_fix_27 : decode cX10_fix 27 = .ok (.aload_n 3, 1) := by decide +kernel
theorem dX10_fix_28 : decode cX10_fix 28 = .ok (.getfield 159, 3) := by decide +kernel
theorem dX10_fix_31 : decode cX10_fix 31 = .ok (.istore 4, 2) := by decide +kernel
theorem dX10_fix_33 : decode cX10_fix 33 = .ok (.aload_n 3, 1) := by decide +kernel
theorem dX10_fix_34 : decode cX10_fix 34 = .ok (.iload_n 2, 1) := by decide +kernel
theorem dX10_fix_35 : decode cX10_fix 35 = .ok (.putfield 159, 3) := by decide +kernel
theorem dX10_fix_38 : decode cX10_fix 38 = .ok (.iload 4, 2) := by decide +kernel
theorem dX10_fix_40 : decode cX10_fix 40 = .ok (.ireturn, 1) := by decide +kernel
theorem dX10_hub_0 : decode cX10_hub 0 = .ok (.aload_n 0, 1) := by decide +kernel
theorem dX10_hub_1 : decode cX10_hub 1 = .ok (.iload_n 1, 1) := by decide +kernel
theorem dX10_hub_2 : decode cX10_hub 2 = .ok (.invokevirtual 124, 3) := by decide +kernel
theorem dX10_hub_5 : decode cX10_hub 5 = .ok (.getfield 162, 3) := by decide +kernel
theorem dX10_hub_8 : decode cX10_hub 8 = .ok (.ireturn, 1) := by decide +kernel
theorem dX10_room_0 : decode cX10_room 0 = .ok (.aload_n 0, 1) := by decide +kernel
theorem dX10_room_1 : decode cX10_room 1 = .ok (.iload_n 1, 1) := by decide +kernel
theorem dX10_room_2 : decode cX10_room 2 = .ok (.invokevirtual 124, 3) := by decide +kernel
theorem dX10_room_5 : decode cX10_room 5 = .ok (.astore_n 2, 1) := by decide +kernel
theorem dX10_room_6 : decode cX10_room 6 = .ok (.aload_n 2, 1) := by decide +kernel
theorem dX10_room_7 : decode cX10_room 7 = .ok (.getfield 162, 3) := by decide +kernel
theorem dX10_room_10 : decode cX10_room 10 = .ok (.ifCond .eq 7, 3) := by decide +kernel
theorem dX10_room_13 : decode cX10_room 13 = .ok (.iconst (-1), 1) := by decide +kernel
theorem dX10_room_14 : decode cX10_room 14 = .ok (.goto 7, 3) := by decide +kernel
theorem dX10_room_17 : decode cX10_room 17 = .ok (.aload_n 2, 1) := by decide +kernel
theorem dX10_room_18 : decode cX10_room 18 = .ok (.getfield 166, 3) := by decide +kernel
theorem dX10_room_21 : decode cX10_room 21 = .ok (.ireturn, 1) := by decide +kernel
theorem dX10_put_0 : decode cX10_put 0 = .ok (.aload_n 0, 1) := by decide +kernel
theorem dX10_put_1 : decode cX10_put 1 = .ok (.iload_n 1, 1) := by decide +kernel
theorem dX10_put_2 : decode cX10_put 2 = .ok (.invokevirtual 124, 3) := by decide +kernel
theorem dX10_put_5 : decode cX10_put 5 = .ok (.astore_n 3, 1) := by decide +kernel
theorem dX10_put_6 : decode cX10_put 6 = .ok (.aload_n 0, 1) := by decide +kernel
theorem dX10_put_7 : decode cX10_put 7 = .ok (.iload_n 2, 1) := by decide +kernel
theorem dX10_put_8 : decode cX10_put 8 = .ok (.invokevirtual 169, 3) := by decide +kernel
theorem dX10_put_11 : decode cX10_put 11 = .ok (.aload_n 3, 1) := by decide +kernel
theorem dX10_put_12 : decode cX10_put 12 = .ok (.getfield 162, 3) := by decide +kernel
theorem dX10_put_15 : decode cX10_put 15 = .ok (.ifCond .eq 5, 3) := by decide +kernel
theorem dX10_put_18 : decode cX10_put 18 = .ok (.iconst (-1), 1) := by decide +kernel
theorem dX10_put_19 : decode cX10_put 19 = .ok (.ireturn, 1) := by decide +kernel
theorem dX10_put_20 : decode cX10_put 20 = .ok (.aload_n 3, 1) := by decide +kernel
