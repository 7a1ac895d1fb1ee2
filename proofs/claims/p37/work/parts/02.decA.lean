theorem dX0_init_0 : decode cX0_init 0 = .ok (.aload_n 0, 1) := by decide +kernel
theorem dX0_init_1 : decode cX0_init 1 = .ok (.invokespecial 3, 3) := by decide +kernel
theorem dX0_init_4 : decode cX0_init 4 = .ok (.aload_n 0, 1) := by decide +kernel
theorem dX0_init_5 : decode cX0_init 5 = .ok (.bipush 32, 2) := by decide +kernel
theorem dX0_init_7 : decode cX0_init 7 = .ok (.newarray .int, 2) := by decide +kernel
theorem dX0_init_9 : decode cX0_init 9 = .ok (.putfield 9, 3) := by decide +kernel
theorem dX0_init_12 : decode cX0_init 12 = .ok (.aload_n 0, 1) := by decide +kernel
theorem dX0_init_13 : decode cX0_init 13 = .ok (.bipush 32, 2) := by decide +kernel
theorem dX0_init_15 : decode cX0_init 15 = .ok (.newarray .int, 2) := by decide +kernel
theorem dX0_init_17 : decode cX0_init 17 = .ok (.putfield 15, 3) := by decide +kernel
theorem dX0_init_20 : decode cX0_init 20 = .ok (.return_, 1) := by decide +kernel
theorem dX0_put_0 : decode cX0_put 0 = .ok (.iconst 0, 1) := by decide +kernel
theorem dX0_put_1 : decode cX0_put 1 = .ok (.istore_n 2, 1) := by decide +kernel
theorem dX0_put_2 : decode cX0_put 2 = .ok (.iload_n 2, 1) := by decide +kernel
theorem dX0_put_3 : decode cX0_put 3 = .ok (.aload_n 0, 1) := by decide +kernel
theorem dX0_put_4 : decode cX0_put 4 = .ok (.getfield 18, 3) := by decide +kernel
theorem dX0_put_7 : decode cX0_put 7 = .ok (.if_icmp .ge 30, 3) := by decide +kernel
theorem dX0_put_10 : decode cX0_put 10 = .ok (.aload_n 0, 1) := by decide +kernel
theorem dX0_put_11 : decode cX0_put 11 = .ok (.getfield 9, 3) := by decide +kernel
theorem dX0_put_14 : decode cX0_put 14 = .ok (.iload_n 2, 1) := by decide +kernel
theorem dX0_put_15 : decode cX0_put 15 = .ok (.iaload, 1) := by decide +kernel
theorem dX0_put_16 : decode cX0_put 16 = .ok (.iload_n 1, 1) := by decide +kernel
theorem dX0_put_17 : decode cX0_put 17 = .ok (.if_icmp .ne 14, 3) := by decide +kernel
theorem dX0_put_20 : decode cX0_put 20 = .ok (.aload_n 0, 1) := by decide +kernel
theorem dX0_put_21 : decode cX0_put 21 = .ok (.getfield 15, 3) := by decide +kernel
theorem dX0_put_24 : decode cX0_put 24 = .ok (.iload_n 2, 1) := by decide +kernel
theorem dX0_put_25 : decode cX0_put 25 = .ok (.dup2, 1) := by decide +kernel
theorem dX0_put_26 : decode cX0_put 26 = .ok (.iaload, 1) := by decide +kernel
theorem dX0_put_27 : decode cX0_put 27 = .ok (.iconst 1, 1) := by decide +kernel
theorem dX0_put_28 : decode cX0_put 28 = .ok (.iadd, 1) := by decide +kernel
theorem dX0_put_29 : decode cX0_put 29 = .ok (.iastore, 1) := by decide +kernel
theorem dX0_put_30 : decode cX0_put 30 = .ok (.return_, 1) := by decide +kernel
theorem dX0_put_31 : decode cX0_put 31 = .ok (.iinc 2 1, 3) := by decide +kernel
theorem dX0_put_34 : decode cX0_put 34 = .ok (.goto (-32), 3) := by decide +kernel
theorem dX0_put_37 : decode cX0_put 37 = .ok (.aload_n 0, 1) := by decide +kernel
theorem dX0_put_38 : decode cX0_put 38 = .ok (.getfield 18, 3) := by decide +kernel
theorem dX0_put_41 : decode cX0_put 41 = .ok (.bipush 32, 2) := by decide +kernel
theorem dX0_put_43 : decode cX0_put 43 = .ok (.if_icmp .ge 33, 3) := by decide +kernel
theorem dX0_put_46 : decode cX0_put 46 = .ok (.aload_n 0, 1) := by decide +kernel
theorem dX0_put_47 : decode cX0_put 47 = .ok (.getfield 9, 3) := by decide +kernel
theorem dX0_put_50 : decode cX0_put 50 = .ok (.aload_n 0, 1) := by decide +kernel
theorem dX0_put_51 : decode cX0_put 51 = .ok (.getfield 18, 3) := by decide +kernel
theorem dX0_put_54 : decode cX0_put 54 = .ok (.iload_n 1, 1) := by decide +kernel
theorem dX0_put_55 : decode cX0_put 55 = .ok (.iastore, 1) := by decide +kernel
theorem dX0_put_56 : decode cX0_put 56 = .ok (.aload_n 0, 1) := by decide +kernel
theorem dX0_put_57 : decode cX0_put 57 = .ok (.getfield 15, 3) := by decide +kernel
theorem dX0_put_60 : decode cX0_put 60 = .ok (.aload_n 0, 1) := by decide +kernel
theorem dX0_put_61 : decode cX0_put 61 = .ok (.getfield 18, 3) := by decide +kernel
theorem dX0_put_64 : decode cX0_put 64 = .ok (.iconst 1, 1) := by decide +kernel
theorem dX0_put_65 : decode cX0_put 65 = .ok (.iastore, 1) := by decide +kernel
theorem dX0_put_66 : decode cX0_put 66 = .ok (.aload_n 0, 1) := by decide +kernel
theorem dX0_put_67 : decode cX0_put 67 = .ok (.dup, 1) := by decide +kernel
theorem dX0_put_68 : decode cX0_put 68 = .ok (.getfield 18, 3) := by decide +kernel
theorem dX0_put_71 : decode cX0_put 71 = .ok (.iconst 1, 1) := by decide +kernel
theorem dX0_put_72 : decode cX0_put 72 = .ok (.iadd, 1) := by decide +kernel
theorem dX0_put_73 : decode cX0_put 73 = .ok (.putfield 18, 3) := by decide +kernel
theorem dX0_put_76 : decode cX0_put 76 = .ok (.return_, 1) := by decide +kernel
theorem dX1_init_0 : decode cX1_init 0 = .ok (.aload_n 0, 1) := by decide +kernel
theorem dX1_init_1 : decode cX1_init 1 = .ok (.invokespecial 3, 3) := by decide +kernel
theorem dX1_init_4 : decode cX1_init 4 = .ok (.aload_n 0, 1) := by decide +kernel
theorem dX1_init_5 : decode cX1_init 5 = .ok (.iconst 3, 1) := by decide +kernel
theorem dX1_init_6 : decode cX1_init 6 = .ok (.newarray .int, 2) := by decide +kernel
theorem dX1_init_8 : decode cX1_init 8 = .ok (.putfield 9, 3) := by decide +kernel
theorem dX1_init_11 : decode cX1_init 11 = .ok (.aload_n 0, 1) := by decide +kernel
theorem dX1_init_12 : decode cX1_init 12 = .ok (.iconst 3, 1) := by decide +kernel
theorem dX1_init_13 : decode cX1_init 13 = .ok (.newarray .int, 2) := by decide +kernel
theorem dX1_init_15 : decode cX1_init 15 = .ok (.putfield 15, 3) := by decide +kernel
theorem dX1_init_18 : decode cX1_init 18 = .ok (.return_, 1) := by decide +kernel
theorem dX1_begin_0 : decode cX1_begin 0 = .ok (.aload_n 0, 1) := by decide +kernel
theorem dX1_begin_1 : decode cX1_begin 1 = .ok (.iload_n 1, 1) := by decide +kernel
theorem dX1_begin_2 : decode cX1_begin 2 = .ok (.putfield 18, 3) := by decide +kernel
theorem dX1_begin_5 : decode cX1_begin 5 = .ok (.aload_n 0, 1) := by decide +kernel
theorem dX1_begin_6 : decode cX1_begin 6 = .ok (.iload_n 2, 1) := by decide +kernel
theorem dX1_begin_7 : decode cX1_begin 7 = .ok (.putfield 22, 3) := by decide +kernel
theorem dX1_begin_10 : decode cX1_begin 10 = .ok (.aload_n 0, 1) := by decide +kernel
theorem dX1_begin_11 : decode cX1_begin 11 = .ok (.iload_n 3, 1) := by decide +kernel
theorem dX1_begin_12 : decode cX1_begin 12 = .ok (.putfield 26, 3) := by decide +kernel
theorem dX1_begin_15 : decode cX1_begin 15 = .ok (.aload_n 0, 1) := by decide +kernel
theorem dX1_begin_16 : decode cX1_begin 16 = .ok (.iconst (-1), 1) := by decide +kernel
theorem dX1_begin_17 : decode cX1_begin 17 = .ok (.putfield 29, 3) := by decide +kernel
theorem dX1_begin_20 : decode cX1_begin 20 = .ok (.aload_n 0, 1) := by decide +kernel
theorem dX1_begin_21 : decode cX1_begin 21 = .ok (.iload 4, 2) := by decide +kernel
theorem dX1_begin_23 : decode cX1_begin 23 = .ok (.putfield 32, 3) := by decide +kernel
theorem dX1_begin_26 : decode cX1_begin 26 = .ok (.aload_n 0, 1) := by decide +kernel
theorem dX1_begin_27 : decode cX1_begin 27 = .ok (.iconst 0, 1) := by decide +kernel
theorem dX1_begin_28 : decode cX1_begin 28 = .ok (.putfield 35, 3) := by decide +kernel
theorem dX1_begin_31 : decode cX1_begin 31 = .ok (.aload_n 0, 1) := by decide +kernel
theorem dX1_begin_32 : decode cX1_begin 32 = .ok (.iconst 0, 1) := by decide +kernel
theorem dX1_begin_33 : decode cX1_begin 33 = .ok (.putfield 38, 3) := by decide +kernel
theorem dX1_begin_36 : decode cX1_begin 36 = .ok (.aload_n 0, 1) := by decide +kernel
theorem dX1_begin_37 : decode cX1_begin 37 = .ok (.iconst (-1), 1) := by decide +kernel
theorem dX1_begin_38 : decode cX1_begin 38 = .ok (.putfield 41, 3) := by decide +kernel
theorem dX1_begin_41 : decode cX1_begin 41 = .ok (.return_, 1) := by decide +kernel
theorem dX1_hitOn_0 : decode cX1_hitOn 0 = .ok (.aload_n 0, 1) := by decide +kernel
theorem dX1_hitOn_1 : decode cX1_hitOn 1 = .ok (.getfield 41, 3) := by decide +kernel
theorem dX1_hitOn_4 : decode cX1_hitOn 4 = .ok (.iload_n 1, 1) := by decide +kernel
theorem dX1_hitOn_5 : decode cX1_hitOn 5 = .ok (.if_icmp .eq 13, 3) := by decide +kernel
theorem dX1_hitOn_8 : decode cX1_hitOn 8 = .ok (.aload_n 0, 1) := by decide +kernel
theorem dX1_hitOn_9 : decode cX1_hitOn 9 = .ok (.dup, 1) := by decide +kernel
theorem dX1_hitOn_10 : decode cX1_hitOn 10 = .ok (.getfield 38, 3) := by decide +kernel
theorem dX1_hitOn_13 : decode cX1_hitOn 13 = .ok (.iconst 1, 1) := by decide +kernel
theorem dX1_hitOn_14 : decode cX1_hitOn 14 = .ok (.iadd, 1) := by decide +kernel
theorem dX1_hitOn_15 : decode cX1_hitOn 15 = .ok (.putfield 38, 3) := by decide +kernel
theorem dX1_hitOn_18 : decode cX1_hitOn 18 = .ok (.aload_n 0, 1) := by decide +kernel
theorem dX1_hitOn_19 : decode cX1_hitOn 19 = .ok (.dup, 1) := by decide +kernel
theorem dX1_hitOn_20 : decode cX1_hitOn 20 = .ok (.getfield 35, 3) := by decide +kernel
theorem dX1_hitOn_23 : decode cX1_hitOn 23 = .ok (.iconst 1, 1) := by decide +kernel
theorem dX1_hitOn_24 : decode cX1_hitOn 24 = .ok (.iadd, 1) := by decide +kernel
theorem dX1_hitOn_25 : decode cX1_hitOn 25 = .ok (.putfield 35, 3) := by decide +kernel
theorem dX1_hitOn_28 : decode cX1_hitOn 28 = .ok (.aload_n 0, 1) := by decide +kernel
theorem dX1_hitOn_29 : decode cX1_hitOn 29 = .ok (.iload_n 1, 1) := by decide +kernel
theorem dX1_hitOn_30 : decode cX1_hitOn 30 = .ok (.putfield 41, 3) := by decide +kernel
theorem dX1_hitOn_33 : decode cX1_hitOn 33 = .ok (.return_, 1) := by decide +kernel
theorem dX1_lastsOn_0 : decode cX1_lastsOn 0 = .ok (.aload_n 0, 1) := by decide +kernel
theorem dX1_lastsOn_1 : decode cX1_lastsOn 1 = .ok (.getfield 29, 3) := by decide +kernel
theorem dX1_lastsOn_4 : decode cX1_lastsOn 4 = .ok (.iconst (-1), 1) := by decide +kernel
theorem dX1_lastsOn_5 : decode cX1_lastsOn 5 = .ok (.if_icmp .eq 11, 3) := by decide +kernel
theorem dX1_lastsOn_8 : decode cX1_lastsOn 8 = .ok (.iload_n 1, 1) := by decide +kernel
theorem dX1_lastsOn_9 : decode cX1_lastsOn 9 = .ok (.aload_n 0, 1) := by decide +kernel
theorem dX1_lastsOn_10 : decode cX1_lastsOn 10 = .ok (.getfield 29, 3) := by decide +kernel
theorem dX1_lastsOn_13 : decode cX1_lastsOn 13 = .ok (.if_icmp .gt 7, 3) := by decide +kernel
theorem dX1_lastsOn_16 : decode cX1_lastsOn 16 = .ok (.iconst 1, 1) := by decide +kernel
theorem dX1_lastsOn_17 : decode cX1_lastsOn 17 = .ok (.goto 4, 3) := by decide +kernel
theorem dX1_lastsOn_20 : decode cX1_lastsOn 20 = .ok (.iconst 0, 1) := by decide +kernel
theorem dX1_lastsOn_21 : decode cX1_lastsOn 21 = .ok (.ireturn, 1) := by decide +kernel
theorem dX1_matches_0 : decode cX1_matches 0 = .ok (.aload_n 0, 1) := by decide +kernel
theorem dX1_matches_1 : decode cX1_matches 1 = .ok (.getfield 15, 3) := by decide +kernel
theorem dX1_matches_4 : decode cX1_matches 4 = .ok (.iconst 0, 1) := by decide +kernel
theorem dX1_matches_5 : decode cX1_matches 5 = .ok (.iaload, 1) := by decide +kernel
theorem dX1_matches_6 : decode cX1_matches 6 = .ok (.iload_n 1, 1) := by decide +kernel
theorem dX1_matches_7 : decode cX1_matches 7 = .ok (.invokestatic 44, 3) := by decide +kernel
theorem dX1_matches_10 : decode cX1_matches 10 = .ok (.ifCond .eq 33, 3) := by decide +kernel
theorem dX1_matches_13 : decode cX1_matches 13 = .ok (.aload_n 0, 1) := by decide +kernel
theorem dX1_matches_14 : decode cX1_matches 14 = .ok (.getfield 15, 3) := by decide +kernel
theorem dX1_matches_17 : decode cX1_matches 17 = .ok (.iconst 1, 1) := by decide +kernel
theorem dX1_matches_18 : decode cX1_matches 18 = .ok (.iaload, 1) := by decide +kernel
theorem dX1_matches_19 : decode cX1_matches 19 = .ok (.iload_n 2, 1) := by decide +kernel
theorem dX1_matches_20 : decode cX1_matches 20 = .ok (.invokestatic 44, 3) := by decide +kernel
theorem dX1_matches_23 : decode cX1_matches 23 = .ok (.ifCond .eq 20, 3) := by decide +kernel
theorem dX1_matches_26 : decode cX1_matches 26 = .ok (.aload_n 0, 1) := by decide +kernel
theorem dX1_matches_27 : decode cX1_matches 27 = .ok (.getfield 15, 3) := by decide +kernel
theorem dX1_matches_30 : decode cX1_matches 30 = .ok (.iconst 2, 1) := by decide +kernel
theorem dX1_matches_31 : decode cX1_matches 31 = .ok (.iaload, 1) := by decide +kernel
theorem dX1_matches_32 : decode cX1_matches 32 = .ok (.iload_n 3, 1) := by decide +kernel
theorem dX1_matches_33 : decode cX1_matches 33 = .ok (.invokestatic 44, 3) := by decide +kernel
theorem dX1_matches_36 : decode cX1_matches 36 = .ok (.ifCond .eq 7, 3) := by decide +kernel
theorem dX1_matches_39 : decode cX1_matches 39 = .ok (.iconst 1, 1) := by decide +kernel
theorem dX1_matches_40 : decode cX1_matches 40 = .ok (.goto 4, 3) := by decide +kernel
theorem dX1_matches_43 : decode cX1_matches 43 = .ok (.iconst 0, 1) := by decide +kernel
theorem dX1_matches_44 : decode cX1_matches 44 = .ok (.ireturn, 1) := by decide +kernel
theorem dX2_init_0 : decode cX2_init 0 = .ok (.aload_n 0, 1) := by decide +kernel
theorem dX2_init_1 : decode cX2_init 1 = .ok (.invokespecial 3, 3) := by decide +kernel
theorem dX2_init_4 : decode cX2_init 4 = .ok (.aload_n 0, 1) := by decide +kernel
theorem dX2_init_5 : decode cX2_init 5 = .ok (.iconst 3, 1) := by decide +kernel
theorem dX2_init_6 : decode cX2_init 6 = .ok (.newarray .int, 2) := by decide +kernel
theorem dX2_init_8 : decode cX2_init 8 = .ok (.putfield 9, 3) := by decide +kernel
theorem dX2_init_11 : decode cX2_init 11 = .ok (.return_, 1) := by decide +kernel
theorem dX2_ownValues_0 : decode cX2_ownValues 0 = .ok (.iconst 0, 1) := by decide +kernel
theorem dX2_ownValues_1 : decode cX2_ownValues 1 = .ok (.istore_n 1, 1) := by decide +kernel
theorem dX2_ownValues_2 : decode cX2_ownValues 2 = .ok (.iconst 0, 1) := by decide +kernel
theorem dX2_ownValues_3 : decode cX2_ownValues 3 = .ok (.istore_n 2, 1) := by decide +kernel
theorem dX2_ownValues_4 : decode cX2_ownValues 4 = .ok (.iload_n 2, 1) := by decide +kernel
theorem dX2_ownValues_5 : decode cX2_ownValues 5 = .ok (.aload_n 0, 1) := by decide +kernel
theorem dX2_ownValues_6 : decode cX2_ownValues 6 = .ok (.getfield 15, 3) := by decide +kernel
theorem dX2_ownValues_9 : decode cX2_ownValues 9 = .ok (.if_icmp .ge 18, 3) := by decide +kernel
theorem dX2_ownValues_12 : decode cX2_ownValues 12 = .ok (.iload_n 1, 1) := by decide +kernel
theorem dX2_ownValues_13 : decode cX2_ownValues 13 = .ok (.aload_n 0, 1) := by decide +kernel
theorem dX2_ownValues_14 : decode cX2_ownValues 14 = .ok (.getfield 9, 3) := by decide +kernel
theorem dX2_ownValues_17 : decode cX2_ownValues 17 = .ok (.iload_n 2, 1) := by decide +kernel
theorem dX2_ownValues_18 : decode cX2_ownValues 18 = .ok (.iaload, 1) := by decide +kernel
theorem dX2_ownValues_19 : decode cX2_ownValues 19 = .ok (.ior, 1) := by decide +kernel
theorem dX2_ownValues_20 : decode cX2_ownValues 20 = .ok (.istore_n 1, 1) := by decide +kernel
theorem dX2_ownValues_21 : decode cX2_ownValues 21 = .ok (.iinc 2 1, 3) := by decide +kernel
theorem dX2_ownValues_24 : decode cX2_ownValues 24 = .ok (.goto (-20), 3) := by decide +kernel
theorem dX2_ownValues_27 : decode cX2_ownValues 27 = .ok (.iload_n 1, 1) := by decide +kernel
theorem dX2_ownValues_28 : decode cX2_ownValues 28 = .ok (.ireturn, 1) := by decide +kernel
theorem dX3_init_0 : decode cX3_init 0 = .ok (.aload_n 0, 1) := by decide +kernel
theorem dX3_init_1 : decode cX3_init 1 = .ok (.invokespecial 3, 3) := by decide +kernel
theorem dX3_init_4 : decode cX3_init 4 = .ok (.aload_n 0, 1) := by decide +kernel
theorem dX3_init_5 : decode cX3_init 5 = .ok (.bipush 8, 2) := by decide +kernel
theorem dX3_init_7 : decode cX3_init 7 = .ok (.anewarray 9, 3) := by decide +kernel
theorem dX3_init_10 : decode cX3_init 10 = .ok (.putfield 11, 3) := by decide +kernel
theorem dX3_init_13 : decode cX3_init 13 = .ok (.aload_n 0, 1) := by decide +kernel
theorem dX3_init_14 : decode cX3_init 14 = .ok (.bipush 8, 2) := by decide +kernel
theorem dX3_init_16 : decode cX3_init 16 = .ok (.anewarray 15, 3) := by decide +kernel
theorem dX3_init_19 : decode cX3_init 19 = .ok (.putfield 17, 3) := by decide +kernel
theorem dX3_init_22 : decode cX3_init 22 = .ok (.aload_n 0, 1) := by decide +kernel
theorem dX3_init_23 : decode cX3_init 23 = .ok (.iconst 3, 1) := by decide +kernel
theorem dX3_init_24 : decode cX3_init 24 = .ok (.anewarray 21, 3) := by decide +kernel
theorem dX3_init_27 : decode cX3_init 27 = .ok (.putfield 23, 3) := by decide +kernel
theorem dX3_init_30 : decode cX3_init 30 = .ok (.aload_n 0, 1) := by decide +kernel
theorem dX3_init_31 : decode cX3_init 31 = .ok (.bipush 32, 2) := by decide +kernel
theorem dX3_init_33 : decode cX3_init 33 = .ok (.newarray .int, 2) := by decide +kernel
theorem dX3_init_35 : decode cX3_init 35 = .ok (.putfield 27, 3) := by decide +kernel
theorem dX3_init_38 : decode cX3_init 38 = .ok (.aload_n 0, 1) := by decide +kernel
theorem dX3_init_39 : decode cX3_init 39 = .ok (.bipush 9, 2) := by decide +kernel
theorem dX3_init_41 : decode cX3_init 41 = .ok (.bipush 9, 2) := by decide +kernel
theorem dX3_init_43 : decode cX3_init 43 = .ok (.multianewarray 31 2, 4) := by decide +kernel
theorem dX3_init_47 : decode cX3_init 47 = .ok (.putfield 33, 3) := by decide +kernel
theorem dX3_init_50 : decode cX3_init 50 = .ok (.iconst 0, 1) := by decide +kernel
theorem dX3_init_51 : decode cX3_init 51 = .ok (.istore_n 1, 1) := by decide +kernel
theorem dX3_init_52 : decode cX3_init 52 = .ok (.iload_n 1, 1) := by decide +kernel
theorem dX3_init_53 : decode cX3_init 53 = .ok (.bipush 8, 2) := by decide +kernel
theorem dX3_init_55 : decode cX3_init 55 = .ok (.if_icmp .ge 22, 3) := by decide +kernel
theorem dX3_init_58 : decode cX3_init 58 = .ok (.aload_n 0, 1) := by decide +kernel
theorem dX3_init_59 : decode cX3_init 59 = .ok (.getfield 11, 3) := by decide +kernel
theorem dX3_init_62 : decode cX3_init 62 = .ok (.iload_n 1, 1) := by decide +kernel
theorem dX3_init_63 : decode cX3_init 63 = .ok (.new 9, 3) := by decide +kernel
theorem dX3_init_66 : decode cX3_init 66 = .ok (.dup, 1) := by decide +kernel
theorem dX3_init_67 : decode cX3_init 67 = .ok (.invokespecial 36, 3) := by decide +kernel
theorem dX3_init_70 : decode cX3_init 70 = .ok (.aastore, 1) := by decide +kernel
theorem dX3_init_71 : decode cX3_init 71 = .ok (.iinc 1 1, 3) := by decide +kernel
theorem dX3_init_74 : decode cX3_init 74 = .ok (.goto (-22), 3) := by decide +kernel
theorem dX3_init_77 : decode cX3_init 77 = .ok (.iconst 0, 1) := by decide +kernel
theorem dX3_init_78 : decode cX3_init 78 = .ok (.istore_n 1, 1) := by decide +kernel
theorem dX3_init_79 : decode cX3_init 79 = .ok (.iload_n 1, 1) := by decide +kernel
theorem dX3_init_80 : decode cX3_init 80 = .ok (.bipush 8, 2) := by decide +kernel
theorem dX3_init_82 : decode cX3_init 82 = .ok (.if_icmp .ge 22, 3) := by decide +kernel
theorem dX3_init_85 : decode cX3_init 85 = .ok (.aload_n 0, 1) := by decide +kernel
theorem dX3_init_86 : decode cX3_init 86 = .ok (.getfield 17, 3) := by decide +kernel
theorem dX3_init_89 : decode cX3_init 89 = .ok (.iload_n 1, 1) := by decide +kernel
theorem dX3_init_90 : decode cX3_init 90 = .ok (.new 15, 3) := by decide +kernel
theorem dX3_init_93 : decode cX3_init 93 = .ok (.dup, 1) := by decide +kernel
theorem dX3_init_94 : decode cX3_init 94 = .ok (.invokespecial 37, 3) := by decide +kernel
theorem dX3_init_97 : decode cX3_init 97 = .ok (.aastore, 1) := by decide +kernel
theorem dX3_init_98 : decode cX3_init 98 = .ok (.iinc 1 1, 3) := by decide +kernel
theorem dX3_init_101 : decode cX3_init 101 = .ok (.goto (-22), 3) := by decide +kernel
theorem dX3_init_104 : decode cX3_init 104 = .ok (.iconst 0, 1) := by decide +kernel
theorem dX3_init_105 : decode cX3_init 105 = .ok (.istore_n 1, 1) := by decide +kernel
theorem dX3_init_106 : decode cX3_init 106 = .ok (.iload_n 1, 1) := by decide +kernel
theorem dX3_init_107 : decode cX3_init 107 = .ok (.iconst 3, 1) := by decide +kernel
theorem dX3_init_108 : decode cX3_init 108 = .ok (.if_icmp .ge 22, 3) := by decide +kernel
theorem dX3_init_111 : decode cX3_init 111 = .ok (.aload_n 0, 1) := by decide +kernel
theorem dX3_init_112 : decode cX3_init 112 = .ok (.getfield 23, 3) := by decide +kernel
theorem dX3_init_115 : decode cX3_init 115 = .ok (.iload_n 1, 1) := by decide +kernel
theorem dX3_init_116 : decode cX3_init 116 = .ok (.new 21, 3) := by decide +kernel
theorem dX3_init_119 : decode cX3_init 119 = .ok (.dup, 1) := by decide +kernel
theorem dX3_init_120 : decode cX3_init 120 = .ok (.invokespecial 38, 3) := by decide +kernel
theorem dX3_init_123 : decode cX3_init 123 = .ok (.aastore, 1) := by decide +kernel
theorem dX3_init_124 : decode cX3_init 124 = .ok (.iinc 1 1, 3) := by decide +kernel
theorem dX3_init_127 : decode cX3_init 127 = .ok (.goto (-21), 3) := by decide +kernel
theorem dX3_init_130 : decode cX3_init 130 = .ok (.return_, 1) := by decide +kernel
theorem dX3_addObject_0 : decode cX3_addObject 0 = .ok (.aload_n 0, 1) := by decide +kernel
theorem dX3_addObject_1 : decode cX3_addObject 1 = .ok (.getfield 39, 3) := by decide +kernel
theorem dX3_addObject_4 : decode cX3_addObject 4 = .ok (.bipush 8, 2) := by decide +kernel
theorem dX3_addObject_6 : decode cX3_addObject 6 = .ok (.if_icmp .lt 13, 3) := by decide +kernel
theorem dX3_addObject_9 : decode cX3_addObject 9 = .ok (.new 43, 3) := by decide +kernel
theorem dX3_addObject_12 : decode cX3_addObject 12 = .ok (.dup, 1) := by decide +kernel
theorem dX3_addObject_13 : decode cX3_addObject 13 = .ok (.ldc 45, 2) := by decide +kernel
theorem dX3_addObject_15 : decode cX3_addObject 15 = .ok (.invokespecial 47, 3) := by decide +kernel
theorem dX3_addObject_18 : decode cX3_addObject 18 = .ok (.athrow, 1) := by decide +kernel
theorem dX3_addObject_19 : decode cX3_addObject 19 = .ok (.aload_n 0, 1) := by decide +kernel
theorem dX3_addObject_20 : decode cX3_addObject 20 = .ok (.dup, 1) := by decide +kernel
theorem dX3_addObject_21 : decode cX3_addObject 21 = .ok (.getfield 39, 3) := by decide +kernel
theorem dX3_addObject_24 : decode cX3_addObject 24 = .ok (.iconst 1, 1) := by decide +kernel
theorem dX3_addObject_25 : decode cX3_addObject 25 = .ok (.iadd, 1) := by decide +kernel
theorem dX3_addObject_26 : decode cX3_addObject 26 = .ok (.putfield 39, 3) := by decide +kernel
theorem dX3_addObject_29 : decode cX3_addObject 29 = .ok (.aload_n 0, 1) := by decide +kernel
theorem dX3_addObject_30 : decode cX3_addObject 30 = .ok (.getfield 39, 3) := by decide +kernel
theorem dX3_addObject_33 : decode cX3_addObject 33 = .ok (.iconst 1, 1) := by decide +kernel
theorem dX3_addObject_34 : decode cX3_addObject 34 = .ok (.isub, 1) := by decide +kernel
theorem dX3_addObject_35 : decode cX3_addObject 35 = .ok (.ireturn, 1) := by decide +kernel
theorem dX3_addRange_0 : decode cX3_addRange 0 = .ok (.aload_n 0, 1) := by decide +kernel
theorem dX3_addRange_1 : decode cX3_addRange 1 = .ok (.iload_n 1, 1) := by decide +kernel
theorem dX3_addRange_2 : decode cX3_addRange 2 = .ok (.invokevirtual 50, 3) := by decide +kernel
theorem dX3_addRange_5 : decode cX3_addRange 5 = .ok (.iload_n 2, 1) := by decide +kernel
theorem dX3_addRange_6 : decode cX3_addRange 6 = .ok (.iload_n 3, 1) := by decide +kernel
theorem dX3_addRange_7 : decode cX3_addRange 7 = .ok (.invokestatic 54, 3) := by decide +kernel
theorem dX3_addRange_10 : decode cX3_addRange 10 = .ok (.aload_n 0, 1) := by decide +kernel
theorem dX3_addRange_11 : decode cX3_addRange 11 = .ok (.getfield 11, 3) := by decide +kernel
theorem dX3_addRange_14 : decode cX3_addRange 14 = .ok (.iload_n 1, 1) := by decide +kernel
theorem dX3_addRange_15 : decode cX3_addRange 15 = .ok (.aaload, 1) := by decide +kernel
theorem dX3_addRange_16 : decode cX3_addRange 16 = .ok (.astore 4, 2) := by decide +kernel
theorem dX3_addRange_18 : decode cX3_addRange 18 = .ok (.aload 4, 2) := by decide +kernel
theorem dX3_addRange_20 : decode cX3_addRange 20 = .ok (.getfield 58, 3) := by decide +kernel
theorem dX3_addRange_23 : decode cX3_addRange 23 = .ok (.iconst 3, 1) := by decide +kernel
theorem dX3_addRange_24 : decode cX3_addRange 24 = .ok (.if_icmp .lt 13, 3) := by decide +kernel
theorem dX3_addRange_27 : decode cX3_addRange 27 = .ok (.new 43, 3) := by decide +kernel
theorem dX3_addRange_30 : decode cX3_addRange 30 = .ok (.dup, 1) := by decide +kernel
theorem dX3_addRange_31 : decode cX3_addRange 31 = .ok (.ldc 61, 2) := by decide +kernel
theorem dX3_addRange_33 : decode cX3_addRange 33 = .ok (.invokespecial 47, 3) := by decide +kernel
theorem dX3_addRange_36 : decode cX3_addRange 36 = .ok (.athrow, 1) := by decide +kernel
theorem dX3_addRange_37 : decode cX3_addRange 37 = .ok (.aload 4, 2) := by decide +kernel
theorem dX3_addRange_39 : decode cX3_addRange 39 = .ok (.getfield 63, 3) := by decide +kernel
theorem dX3_addRange_42 : decode cX3_addRange 42 = .ok (.aload 4, 2) := by decide +kernel
theorem dX3_addRange_44 : decode cX3_addRange 44 = .ok (.getfield 58, 3) := by decide +kernel
theorem dX3_addRange_47 : decode cX3_addRange 47 = .ok (.iload_n 2, 1) := by decide +kernel
theorem dX3_addRange_48 : decode cX3_addRange 48 = .ok (.iload_n 3, 1) := by decide +kernel
theorem dX3_addRange_49 : decode cX3_addRange 49 = .ok (.invokestatic 66, 3) := by decide +kernel
theorem dX3_addRange_52 : decode cX3_addRange 52 = .ok (.iastore, 1) := by decide +kernel
theorem dX3_addRange_53 : decode cX3_addRange 53 = .ok (.aload 4, 2) := by decide +kernel
theorem dX3_addRange_55 : decode cX3_addRange 55 = .ok (.dup, 1) := by decide +kernel
theorem dX3_addRange_56 : decode cX3_addRange 56 = .ok (.getfield 58, 3) := by decide +kernel
theorem dX3_addRange_59 : decode cX3_addRange 59 = .ok (.iconst 1, 1) := by decide +kernel
theorem dX3_addRange_60 : decode cX3_addRange 60 = .ok (.iadd, 1) := by decide +kernel
theorem dX3_addRange_61 : decode cX3_addRange 61 = .ok (.putfield 58, 3) := by decide +kernel
theorem dX3_addRange_64 : decode cX3_addRange 64 = .ok (.aload_n 0, 1) := by decide +kernel
theorem dX3_addRange_65 : decode cX3_addRange 65 = .ok (.invokevirtual 70, 3) := by decide +kernel
theorem dX3_addRange_68 : decode cX3_addRange 68 = .ok (.aload 4, 2) := by decide +kernel
theorem dX3_addRange_70 : decode cX3_addRange 70 = .ok (.getfield 58, 3) := by decide +kernel
theorem dX3_addRange_73 : decode cX3_addRange 73 = .ok (.ireturn, 1) := by decide +kernel
theorem dX3_removeRange_0 : decode cX3_removeRange 0 = .ok (.aload_n 0, 1) := by decide +kernel
theorem dX3_removeRange_1 : decode cX3_removeRange 1 = .ok (.iload_n 1, 1) := by decide +kernel
theorem dX3_removeRange_2 : decode cX3_removeRange 2 = .ok (.invokevirtual 50, 3) := by decide +kernel
theorem dX3_removeRange_5 : decode cX3_removeRange 5 = .ok (.aload_n 0, 1) := by decide +kernel
theorem dX3_removeRange_6 : decode cX3_removeRange 6 = .ok (.getfield 11, 3) := by decide +kernel
theorem dX3_removeRange_9 : decode cX3_removeRange 9 = .ok (.iload_n 1, 1) := by decide +kernel
theorem dX3_removeRange_10 : decode cX3_removeRange 10 = .ok (.aaload, 1) := by decide +kernel
theorem dX3_removeRange_11 : decode cX3_removeRange 11 = .ok (.astore_n 2, 1) := by decide +kernel
theorem dX3_removeRange_12 : decode cX3_removeRange 12 = .ok (.aload_n 2, 1) := by decide +kernel
theorem dX3_removeRange_13 : decode cX3_removeRange 13 = .ok (.getfield 58, 3) := by decide +kernel
theorem dX3_removeRange_16 : decode cX3_removeRange 16 = .ok (.ifCond .gt 13, 3) := by decide +kernel
theorem dX3_removeRange_19 : decode cX3_removeRange 19 = .ok (.new 43, 3) := by decide +kernel
theorem dX3_removeRange_22 : decode cX3_removeRange 22 = .ok (.dup, 1) := by decide +kernel
theorem dX3_removeRange_23 : decode cX3_removeRange 23 = .ok (.ldc 73, 2) := by decide +kernel
theorem dX3_removeRange_25 : decode cX3_removeRange 25 = .ok (.invokespecial 47, 3) := by decide +kernel
theorem dX3_removeRange_28 : decode cX3_removeRange 28 = .ok (.athrow, 1) := by decide +kernel
theorem dX3_removeRange_29 : decode cX3_removeRange 29 = .ok (.aload_n 2, 1) := by decide +kernel
theorem dX3_removeRange_30 : decode cX3_removeRange 30 = .ok (.dup, 1) := by decide +kernel
theorem dX3_removeRange_31 : decode cX3_removeRange 31 = .ok (.getfield 58, 3) := by decide +kernel
theorem dX3_removeRange_34 : decode cX3_removeRange 34 = .ok (.iconst 1, 1) := by decide +kernel
theorem dX3_removeRange_35 : decode cX3_removeRange 35 = .ok (.isub, 1) := by decide +kernel
theorem dX3_removeRange_36 : decode cX3_removeRange 36 = .ok (.putfield 58, 3) := by decide +kernel
theorem dX3_removeRange_39 : decode cX3_removeRange 39 = .ok (.aload_n 0, 1) := by decide +kernel
theorem dX3_removeRange_40 : decode cX3_removeRange 40 = .ok (.invokevirtual 70, 3) := by decide +kernel
theorem dX3_removeRange_43 : decode cX3_removeRange 43 = .ok (.aload_n 2, 1) := by decide +kernel
theorem dX3_removeRange_44 : decode cX3_removeRange 44 = .ok (.getfield 58, 3) := by decide +kernel
theorem dX3_removeRange_47 : decode cX3_removeRange 47 = .ok (.ireturn, 1) := by decide +kernel
theorem dX3_addMember_0 : decode cX3_addMember 0 = .ok (.aload_n 0, 1) := by decide +kernel
theorem dX3_addMember_1 : decode cX3_addMember 1 = .ok (.iload_n 1, 1) := by decide +kernel
theorem dX3_addMember_2 : decode cX3_addMember 2 = .ok (.invokevirtual 50, 3) := by decide +kernel
theorem dX3_addMember_5 : decode cX3_addMember 5 = .ok (.aload_n 0, 1) := by decide +kernel
theorem dX3_addMember_6 : decode cX3_addMember 6 = .ok (.iload_n 2, 1) := by decide +kernel
theorem dX3_addMember_7 : decode cX3_addMember 7 = .ok (.invokevirtual 50, 3) := by decide +kernel
theorem dX3_addMember_10 : decode cX3_addMember 10 = .ok (.aload_n 0, 1) := by decide +kernel
theorem dX3_addMember_11 : decode cX3_addMember 11 = .ok (.getfield 11, 3) := by decide +kernel
theorem dX3_addMember_14 : decode cX3_addMember 14 = .ok (.iload_n 1, 1) := by decide +kernel
theorem dX3_addMember_15 : decode cX3_addMember 15 = .ok (.aaload, 1) := by decide +kernel
theorem dX3_addMember_16 : decode cX3_addMember 16 = .ok (.astore_n 3, 1) := by decide +kernel
theorem dX3_addMember_17 : decode cX3_addMember 17 = .ok (.iload_n 1, 1) := by decide +kernel
theorem dX3_addMember_18 : decode cX3_addMember 18 = .ok (.iload_n 2, 1) := by decide +kernel
theorem dX3_addMember_19 : decode cX3_addMember 19 = .ok (.if_icmp .eq 14, 3) := by decide +kernel
theorem dX3_addMember_22 : decode cX3_addMember 22 = .ok (.aload_n 3, 1) := by decide +kernel
theorem dX3_addMember_23 : decode cX3_addMember 23 = .ok (.getfield 75, 3) := by decide +kernel
theorem dX3_addMember_26 : decode cX3_addMember 26 = .ok (.iload_n 2, 1) := by decide +kernel
theorem dX3_addMember_27 : decode cX3_addMember 27 = .ok (.invokestatic 78, 3) := by decide +kernel
theorem dX3_addMember_30 : decode cX3_addMember 30 = .ok (.ifCond .eq 13, 3) := by decide +kernel
theorem dX3_addMember_33 : decode cX3_addMember 33 = .ok (.new 82, 3) := by decide +kernel
theorem dX3_addMember_36 : decode cX3_addMember 36 = .ok (.dup, 1) := by decide +kernel
theorem dX3_addMember_37 : decode cX3_addMember 37 = .ok (.ldc 84, 2) := by decide +kernel
theorem dX3_addMember_39 : decode cX3_addMember 39 = .ok (.invokespecial 86, 3) := by decide +kernel
theorem dX3_addMember_42 : decode cX3_addMember 42 = .ok (.athrow, 1) := by decide +kernel
theorem dX3_addMember_43 : decode cX3_addMember 43 = .ok (.aload_n 0, 1) := by decide +kernel
theorem dX3_addMember_44 : decode cX3_addMember 44 = .ok (.getfield 11, 3) := by decide +kernel
theorem dX3_addMember_47 : decode cX3_addMember 47 = .ok (.iload_n 2, 1) := by decide +kernel
theorem dX3_addMember_48 : decode cX3_addMember 48 = .ok (.iload_n 1, 1) := by decide +kernel
theorem dX3_addMember_49 : decode cX3_addMember 49 = .ok (.iconst 0, 1) := by decide +kernel
theorem dX3_addMember_50 : decode cX3_addMember 50 = .ok (.invokestatic 87, 3) := by decide +kernel
theorem dX3_addMember_53 : decode cX3_addMember 53 = .ok (.ifCond .eq 13, 3) := by decide +kernel
theorem dX3_addMember_56 : decode cX3_addMember 56 = .ok (.new 91, 3) := by decide +kernel
theorem dX3_addMember_59 : decode cX3_addMember 59 = .ok (.dup, 1) := by decide +kernel
theorem dX3_addMember_60 : decode cX3_addMember 60 = .ok (.ldc 93, 2) := by decide +kernel
theorem dX3_addMember_62 : decode cX3_addMember 62 = .ok (.invokespecial 95, 3) := by decide +kernel
theorem dX3_addMember_65 : decode cX3_addMember 65 = .ok (.athrow, 1) := by decide +kernel
theorem dX3_addMember_66 : decode cX3_addMember 66 = .ok (.aload_n 3, 1) := by decide +kernel
theorem dX3_addMember_67 : decode cX3_addMember 67 = .ok (.getfield 75, 3) := by decide +kernel
theorem dX3_addMember_70 : decode cX3_addMember 70 = .ok (.invokestatic 96, 3) := by decide +kernel
theorem dX3_addMember_73 : decode cX3_addMember 73 = .ok (.iconst 2, 1) := by decide +kernel
theorem dX3_addMember_74 : decode cX3_addMember 74 = .ok (.if_icmp .lt 13, 3) := by decide +kernel
theorem dX3_addMember_77 : decode cX3_addMember 77 = .ok (.new 43, 3) := by decide +kernel
theorem dX3_addMember_80 : decode cX3_addMember 80 = .ok (.dup, 1) := by decide +kernel
theorem dX3_addMember_81 : decode cX3_addMember 81 = .ok (.ldc 102, 2) := by decide +kernel
theorem dX3_addMember_83 : decode cX3_addMember 83 = .ok (.invokespecial 47, 3) := by decide +kernel
theorem dX3_addMember_86 : decode cX3_addMember 86 = .ok (.athrow, 1) := by decide +kernel
theorem dX3_addMember_87 : decode cX3_addMember 87 = .ok (.aload_n 3, 1) := by decide +kernel
theorem dX3_addMember_88 : decode cX3_addMember 88 = .ok (.dup, 1) := by decide +kernel
theorem dX3_addMember_89 : decode cX3_addMember 89 = .ok (.getfield 75, 3) := by decide +kernel
theorem dX3_addMember_92 : decode cX3_addMember 92 = .ok (.iconst 1, 1) := by decide +kernel
theorem dX3_addMember_93 : decode cX3_addMember 93 = .ok (.iload_n 2, 1) := by decide +kernel
theorem dX3_addMember_94 : decode cX3_addMember 94 = .ok (.ishl, 1) := by decide +kernel
theorem dX3_addMember_95 : decode cX3_addMember 95 = .ok (.ior, 1) := by decide +kernel
theorem dX3_addMember_96 : decode cX3_addMember 96 = .ok (.putfield 75, 3) := by decide +kernel
theorem dX3_addMember_99 : decode cX3_addMember 99 = .ok (.aload_n 0, 1) := by decide +kernel
theorem dX3_addMember_100 : decode cX3_addMember 100 = .ok (.invokevirtual 70, 3) := by decide +kernel
theorem dX3_addMember_103 : decode cX3_addMember 103 = .ok (.aload_n 3, 1) := by decide +kernel
theorem dX3_addMember_104 : decode cX3_addMember 104 = .ok (.getfield 75, 3) := by decide +kernel
theorem dX3_addMember_107 : decode cX3_addMember 107 = .ok (.invokestatic 96, 3) := by decide +kernel
theorem dX3_addMember_110 : decode cX3_addMember 110 = .ok (.ireturn, 1) := by decide +kernel
theorem dX3_removeMember_0 : decode cX3_removeMember 0 = .ok (.aload_n 0, 1) := by decide +kernel
theorem dX3_removeMember_1 : decode cX3_removeMember 1 = .ok (.iload_n 1, 1) := by decide +kernel
theorem dX3_removeMember_2 : decode cX3_removeMember 2 = .ok (.invokevirtual 50, 3) := by decide +kernel
theorem dX3_removeMember_5 : decode cX3_removeMember 5 = .ok (.aload_n 0, 1) := by decide +kernel
theorem dX3_removeMember_6 : decode cX3_removeMember 6 = .ok (.iload_n 2, 1) := by decide +kernel
theorem dX3_removeMember_7 : decode cX3_removeMember 7 = .ok (.invokevirtual 50, 3) := by decide +kernel
theorem dX3_removeMember_10 : decode cX3_removeMember 10 = .ok (.aload_n 0, 1) := by decide +kernel
theorem dX3_removeMember_11 : decode cX3_removeMember 11 = .ok (.getfield 11, 3) := by decide +kernel
theorem dX3_removeMember_14 : decode cX3_removeMember 14 = .ok (.iload_n 1, 1) := by decide +kernel
theorem dX3_removeMember_15 : decode cX3_removeMember 15 = .ok (.aaload, 1) := by decide +kernel
theorem dX3_removeMember_16 : decode cX3_removeMember 16 = .ok (.astore_n 3, 1) := by decide +kernel
theorem dX3_removeMember_17 : decode cX3_removeMember 17 = .ok (.aload_n 3, 1) := by decide +kernel
theorem dX3_removeMember_18 : decode cX3_removeMember 18 = .ok (.getfield 75, 3) := by decide +kernel
theorem dX3_removeMember_21 : decode cX3_removeMember 21 = .ok (.iload_n 2, 1) := by decide +kernel
theorem dX3_removeMember_22 : decode cX3_removeMember 22 = .ok (.invokestatic 78, 3) := by decide +kernel
theorem dX3_removeMember_25 : decode cX3_removeMember 25 = .ok (.ifCond .ne 13, 3) := by decide +kernel
theorem dX3_removeMember_28 : decode cX3_removeMember 28 = .ok (.new 104, 3) := by decide +kernel
theorem dX3_removeMember_31 : decode cX3_removeMember 31 = .ok (.dup, 1) := by decide +kernel
theorem dX3_removeMember_32 : decode cX3_removeMember 32 = .ok (.ldc 106, 2) := by decide +kernel
theorem dX3_removeMember_34 : decode cX3_removeMember 34 = .ok (.invokespecial 108, 3) := by decide +kernel
theorem dX3_removeMember_37 : decode cX3_removeMember 37 = .ok (.athrow, 1) := by decide +kernel
theorem dX3_removeMember_38 : decode cX3_removeMember 38 = .ok (.aload_n 3, 1) := by decide +kernel
theorem dX3_removeMember_39 : decode cX3_removeMember 39 = .ok (.dup, 1) := by decide +kernel
theorem dX3_removeMember_40 : decode cX3_removeMember 40 = .ok (.getfield 75, 3) := by decide +kernel
theorem dX3_removeMember_43 : decode cX3_removeMember 43 = .ok (.iconst 1, 1) := by decide +kernel
theorem dX3_removeMember_44 : decode cX3_removeMember 44 = .ok (.iload_n 2, 1) := by decide +kernel
theorem dX3_removeMember_45 : decode cX3_removeMember 45 = .ok (.ishl, 1) := by decide +kernel
theorem dX3_removeMember_46 : decode cX3_removeMember 46 = .ok (.iconst (-1), 1) := by decide +kernel
theorem dX3_removeMember_47 : decode cX3_removeMember 47 = .ok (.ixor, 1) := by decide +kernel
theorem dX3_removeMember_48 : decode cX3_removeMember 48 = .ok (.iand, 1) := by decide +kernel
theorem dX3_removeMember_49 : decode cX3_removeMember 49 = .ok (.putfield 75, 3) := by decide +kernel
theorem dX3_removeMember_52 : decode cX3_removeMember 52 = .ok (.aload_n 0, 1) := by decide +kernel
theorem dX3_removeMember_53 : decode cX3_removeMember 53 = .ok (.invokevirtual 70, 3) := by decide +kernel
theorem dX3_removeMember_56 : decode cX3_removeMember 56 = .ok (.aload_n 3, 1) := by decide +kernel
theorem dX3_removeMember_57 : decode cX3_removeMember 57 = .ok (.getfield 75, 3) := by decide +kernel
theorem dX3_removeMember_60 : decode cX3_removeMember 60 = .ok (.invokestatic 96, 3) := by decide +kernel
theorem dX3_removeMember_63 : decode cX3_removeMember 63 = .ok (.ireturn, 1) := by decide +kernel
theorem dX3_values_0 : decode cX3_values 0 = .ok (.aload_n 0, 1) := by decide +kernel
theorem dX3_values_1 : decode cX3_values 1 = .ok (.iload_n 1, 1) := by decide +kernel
theorem dX3_values_2 : decode cX3_values 2 = .ok (.invokevirtual 50, 3) := by decide +kernel
theorem dX3_values_5 : decode cX3_values 5 = .ok (.aload_n 0, 1) := by decide +kernel
theorem dX3_values_6 : decode cX3_values 6 = .ok (.getfield 11, 3) := by decide +kernel
theorem dX3_values_9 : decode cX3_values 9 = .ok (.iload_n 1, 1) := by decide +kernel
theorem dX3_values_10 : decode cX3_values 10 = .ok (.iconst 0, 1) := by decide +kernel
theorem dX3_values_11 : decode cX3_values 11 = .ok (.invokestatic 109, 3) := by decide +kernel
theorem dX3_values_14 : decode cX3_values 14 = .ok (.invokestatic 96, 3) := by decide +kernel
theorem dX3_values_17 : decode cX3_values 17 = .ok (.ireturn, 1) := by decide +kernel
theorem dX3_hasValue_0 : decode cX3_hasValue 0 = .ok (.aload_n 0, 1) := by decide +kernel
theorem dX3_hasValue_1 : decode cX3_hasValue 1 = .ok (.iload_n 1, 1) := by decide +kernel
theorem dX3_hasValue_2 : decode cX3_hasValue 2 = .ok (.invokevirtual 50, 3) := by decide +kernel
theorem dX3_hasValue_5 : decode cX3_hasValue 5 = .ok (.iload_n 2, 1) := by decide +kernel
theorem dX3_hasValue_6 : decode cX3_hasValue 6 = .ok (.invokestatic 113, 3) := by decide +kernel
theorem dX3_hasValue_9 : decode cX3_hasValue 9 = .ok (.aload_n 0, 1) := by decide +kernel
theorem dX3_hasValue_10 : decode cX3_hasValue 10 = .ok (.getfield 11, 3) := by decide +kernel
theorem dX3_hasValue_13 : decode cX3_hasValue 13 = .ok (.iload_n 1, 1) := by decide +kernel
theorem dX3_hasValue_14 : decode cX3_hasValue 14 = .ok (.iconst 0, 1) := by decide +kernel
theorem dX3_hasValue_15 : decode cX3_hasValue 15 = .ok (.invokestatic 109, 3) := by decide +kernel
theorem dX3_hasValue_18 : decode cX3_hasValue 18 = .ok (.iload_n 2, 1) := by decide +kernel
theorem dX3_hasValue_19 : decode cX3_hasValue 19 = .ok (.invokestatic 78, 3) := by decide +kernel
theorem dX3_hasValue_22 : decode cX3_hasValue 22 = .ok (.ireturn, 1) := by decide +kernel
theorem dX3_users_0 : decode cX3_users 0 = .ok (.aload_n 0, 1) := by decide +kernel
theorem dX3_users_1 : decode cX3_users 1 = .ok (.iload_n 1, 1) := by decide +kernel
theorem dX3_users_2 : decode cX3_users 2 = .ok (.invokevirtual 50, 3) := by decide +kernel
theorem dX3_users_5 : decode cX3_users 5 = .ok (.iconst 0, 1) := by decide +kernel
theorem dX3_users_6 : decode cX3_users 6 = .ok (.istore_n 2, 1) := by decide +kernel
theorem dX3_users_7 : decode cX3_users 7 = .ok (.iconst 0, 1) := by decide +kernel
theorem dX3_users_8 : decode cX3_users 8 = .ok (.istore_n 3, 1) := by decide +kernel
theorem dX3_users_9 : decode cX3_users 9 = .ok (.iload_n 3, 1) := by decide +kernel
theorem dX3_users_10 : decode cX3_users 10 = .ok (.aload_n 0, 1) := by decide +kernel
theorem dX3_users_11 : decode cX3_users 11 = .ok (.getfield 116, 3) := by decide +kernel
theorem dX3_users_14 : decode cX3_users 14 = .ok (.if_icmp .ge 59, 3) := by decide +kernel
theorem dX3_users_17 : decode cX3_users 17 = .ok (.aload_n 0, 1) := by decide +kernel
theorem dX3_users_18 : decode cX3_users 18 = .ok (.getfield 17, 3) := by decide +kernel
theorem dX3_users_21 : decode cX3_users 21 = .ok (.iload_n 3, 1) := by decide +kernel
theorem dX3_users_22 : decode cX3_users 22 = .ok (.aaload, 1) := by decide +kernel
theorem dX3_users_23 : decode cX3_users 23 = .ok (.getfield 119, 3) := by decide +kernel
theorem dX3_users_26 : decode cX3_users 26 = .ok (.astore 4, 2) := by decide +kernel
theorem dX3_users_28 : decode cX3_users 28 = .ok (.aload_n 0, 1) := by decide +kernel
theorem dX3_users_29 : decode cX3_users 29 = .ok (.aload 4, 2) := by decide +kernel
theorem dX3_users_31 : decode cX3_users 31 = .ok (.iconst 0, 1) := by decide +kernel
theorem dX3_users_32 : decode cX3_users 32 = .ok (.iaload, 1) := by decide +kernel
theorem dX3_users_33 : decode cX3_users 33 = .ok (.iload_n 1, 1) := by decide +kernel
theorem dX3_users_34 : decode cX3_users 34 = .ok (.invokevirtual 122, 3) := by decide +kernel
theorem dX3_users_37 : decode cX3_users 37 = .ok (.ifCond .ne 27, 3) := by decide +kernel
theorem dX3_users_40 : decode cX3_users 40 = .ok (.aload_n 0, 1) := by decide +kernel
theorem dX3_users_41 : decode cX3_users 41 = .ok (.aload 4, 2) := by decide +kernel
theorem dX3_users_43 : decode cX3_users 43 = .ok (.iconst 1, 1) := by decide +kernel
theorem dX3_users_44 : decode cX3_users 44 = .ok (.iaload, 1) := by decide +kernel
theorem dX3_users_45 : decode cX3_users 45 = .ok (.iload_n 1, 1) := by decide +kernel
theorem dX3_users_46 : decode cX3_users 46 = .ok (.invokevirtual 122, 3) := by decide +kernel
theorem dX3_users_49 : decode cX3_users 49 = .ok (.ifCond .ne 15, 3) := by decide +kernel
theorem dX3_users_52 : decode cX3_users 52 = .ok (.aload_n 0, 1) := by decide +kernel
theorem dX3_users_53 : decode cX3_users 53 = .ok (.aload 4, 2) := by decide +kernel
theorem dX3_users_55 : decode cX3_users 55 = .ok (.iconst 2, 1) := by decide +kernel
theorem dX3_users_56 : decode cX3_users 56 = .ok (.iaload, 1) := by decide +kernel
theorem dX3_users_57 : decode cX3_users 57 = .ok (.iload_n 1, 1) := by decide +kernel
theorem dX3_users_58 : decode cX3_users 58 = .ok (.invokevirtual 122, 3) := by decide +kernel
theorem dX3_users_61 : decode cX3_users 61 = .ok (.ifCond .eq 6, 3) := by decide +kernel
theorem dX3_users_64 : decode cX3_users 64 = .ok (.iinc 2 1, 3) := by decide +kernel
theorem dX3_users_67 : decode cX3_users 67 = .ok (.iinc 3 1, 3) := by decide +kernel
theorem dX3_users_70 : decode cX3_users 70 = .ok (.goto (-61), 3) := by decide +kernel
theorem dX3_users_73 : decode cX3_users 73 = .ok (.iload_n 2, 1) := by decide +kernel
theorem dX3_users_74 : decode cX3_users 74 = .ok (.ireturn, 1) := by decide +kernel
theorem dX3_addRule_0 : decode cX3_addRule 0 = .ok (.iload_n 1, 1) := by decide +kernel
theorem dX3_addRule_1 : decode cX3_addRule 1 = .ok (.ifCond .lt 11, 3) := by decide +kernel
theorem dX3_addRule_4 : decode cX3_addRule 4 = .ok (.iload_n 1, 1) := by decide +kernel
theorem dX3_addRule_5 : decode cX3_addRule 5 = .ok (.aload_n 0, 1) := by decide +kernel
theorem dX3_addRule_6 : decode cX3_addRule 6 = .ok (.getfield 116, 3) := by decide +kernel
theorem dX3_addRule_9 : decode cX3_addRule 9 = .ok (.if_icmp .le 13, 3) := by decide +kernel
theorem dX3_addRule_12 : decode cX3_addRule 12 = .ok (.new 125, 3) := by decide +kernel
theorem dX3_addRule_15 : decode cX3_addRule 15 = .ok (.dup, 1) := by decide +kernel
theorem dX3_addRule_16 : decode cX3_addRule 16 = .ok (.ldc 127, 2) := by decide +kernel
theorem dX3_addRule_18 : decode cX3_addRule 18 = .ok (.invokespecial 129, 3) := by decide +kernel
theorem dX3_addRule_21 : decode cX3_addRule 21 = .ok (.athrow, 1) := by decide +kernel
theorem dX3_addRule_22 : decode cX3_addRule 22 = .ok (.aload_n 0, 1) := by decide +kernel
theorem dX3_addRule_23 : decode cX3_addRule 23 = .ok (.iload_n 3, 1) := by decide +kernel
theorem dX3_addRule_24 : decode cX3_addRule 24 = .ok (.invokevirtual 130, 3) := by decide +kernel
theorem dX3_addRule_27 : decode cX3_addRule 27 = .ok (.aload_n 0, 1) := by decide +kernel
theorem dX3_addRule_28 : decode cX3_addRule 28 = .ok (.iload 4, 2) := by decide +kernel
theorem dX3_addRule_30 : decode cX3_addRule 30 = .ok (.invokevirtual 130, 3) := by decide +kernel
theorem dX3_addRule_33 : decode cX3_addRule 33 = .ok (.aload_n 0, 1) := by decide +kernel
theorem dX3_addRule_34 : decode cX3_addRule 34 = .ok (.iload 5, 2) := by decide +kernel
theorem dX3_addRule_36 : decode cX3_addRule 36 = .ok (.invokevirtual 130, 3) := by decide +kernel
theorem dX3_addRule_39 : decode cX3_addRule 39 = .ok (.iload_n 2, 1) := by decide +kernel
theorem dX3_addRule_40 : decode cX3_addRule 40 = .ok (.bipush 97, 2) := by decide +kernel
theorem dX3_addRule_42 : decode cX3_addRule 42 = .ok (.if_icmp .eq 19, 3) := by decide +kernel
theorem dX3_addRule_45 : decode cX3_addRule 45 = .ok (.iload_n 2, 1) := by decide +kernel
theorem dX3_addRule_46 : decode cX3_addRule 46 = .ok (.bipush 100, 2) := by decide +kernel
theorem dX3_addRule_48 : decode cX3_addRule 48 = .ok (.if_icmp .eq 13, 3) := by decide +kernel
theorem dX3_addRule_51 : decode cX3_addRule 51 = .ok (.new 82, 3) := by decide +kernel
theorem dX3_addRule_54 : decode cX3_addRule 54 = .ok (.dup, 1) := by decide +kernel
theorem dX3_addRule_55 : decode cX3_addRule 55 = .ok (.ldc 133, 2) := by decide +kernel
theorem dX3_addRule_57 : decode cX3_addRule 57 = .ok (.invokespecial 86, 3) := by decide +kernel
theorem dX3_addRule_60 : decode cX3_addRule 60 = .ok (.athrow, 1) := by decide +kernel
theorem dX3_addRule_61 : decode cX3_addRule 61 = .ok (.iload 6, 2) := by decide +kernel
theorem dX3_addRule_63 : decode cX3_addRule 63 = .ok (.invokestatic 135, 3) := by decide +kernel
theorem dX3_addRule_66 : decode cX3_addRule 66 = .ok (.aload_n 0, 1) := by decide +kernel
theorem dX3_addRule_67 : decode cX3_addRule 67 = .ok (.getfield 116, 3) := by decide +kernel
theorem dX3_addRule_70 : decode cX3_addRule 70 = .ok (.bipush 8, 2) := by decide +kernel
theorem dX3_addRule_72 : decode cX3_addRule 72 = .ok (.if_icmp .lt 13, 3) := by decide +kernel
theorem dX3_addRule_75 : decode cX3_addRule 75 = .ok (.new 43, 3) := by decide +kernel
theorem dX3_addRule_78 : decode cX3_addRule 78 = .ok (.dup, 1) := by decide +kernel
theorem dX3_addRule_79 : decode cX3_addRule 79 = .ok (.ldc 138, 2) := by decide +kernel
theorem dX3_addRule_81 : decode cX3_addRule 81 = .ok (.invokespecial 47, 3) := by decide +kernel
theorem dX3_addRule_84 : decode cX3_addRule 84 = .ok (.athrow, 1) := by decide +kernel
theorem dX3_addRule_85 : decode cX3_addRule 85 = .ok (.aload_n 0, 1) := by decide +kernel
theorem dX3_addRule_86 : decode cX3_addRule 86 = .ok (.getfield 17, 3) := by decide +kernel
theorem dX3_addRule_89 : decode cX3_addRule 89 = .ok (.aload_n 0, 1) := by decide +kernel
theorem dX3_addRule_90 : decode cX3_addRule 90 = .ok (.getfield 116, 3) := by decide +kernel
theorem dX3_addRule_93 : decode cX3_addRule 93 = .ok (.aaload, 1) := by decide +kernel
theorem dX3_addRule_94 : decode cX3_addRule 94 = .ok (.astore 7, 2) := by decide +kernel
theorem dX3_addRule_96 : decode cX3_addRule 96 = .ok (.aload 7, 2) := by decide +kernel
theorem dX3_addRule_98 : decode cX3_addRule 98 = .ok (.aload_n 0, 1) := by decide +kernel
theorem dX3_addRule_99 : decode cX3_addRule 99 = .ok (.getfield 140, 3) := by decide +kernel
theorem dX3_addRule_102 : decode cX3_addRule 102 = .ok (.iload_n 2, 1) := by decide +kernel
theorem dX3_addRule_103 : decode cX3_addRule 103 = .ok (.iload 6, 2) := by decide +kernel
theorem dX3_addRule_105 : decode cX3_addRule 105 = .ok (.aload_n 0, 1) := by decide +kernel
theorem dX3_addRule_106 : decode cX3_addRule 106 = .ok (.getfield 143, 3) := by decide +kernel
theorem dX3_addRule_109 : decode cX3_addRule 109 = .ok (.invokevirtual 146, 3) := by decide +kernel
theorem dX3_addRule_112 : decode cX3_addRule 112 = .ok (.aload 7, 2) := by decide +kernel
theorem dX3_addRule_114 : decode cX3_addRule 114 = .ok (.getfield 119, 3) := by decide +kernel
theorem dX3_addRule_117 : decode cX3_addRule 117 = .ok (.iconst 0, 1) := by decide +kernel
theorem dX3_addRule_118 : decode cX3_addRule 118 = .ok (.iload_n 3, 1) := by decide +kernel
theorem dX3_addRule_119 : decode cX3_addRule 119 = .ok (.iastore, 1) := by decide +kernel
theorem dX3_addRule_120 : decode cX3_addRule 120 = .ok (.aload 7, 2) := by decide +kernel
theorem dX3_addRule_122 : decode cX3_addRule 122 = .ok (.getfield 119, 3) := by decide +kernel
theorem dX3_addRule_125 : decode cX3_addRule 125 = .ok (.iconst 1, 1) := by decide +kernel
theorem dX3_addRule_126 : decode cX3_addRule 126 = .ok (.iload 4, 2) := by decide +kernel
theorem dX3_addRule_128 : decode cX3_addRule 128 = .ok (.iastore, 1) := by decide +kernel
theorem dX3_addRule_129 : decode cX3_addRule 129 = .ok (.aload 7, 2) := by decide +kernel
theorem dX3_addRule_131 : decode cX3_addRule 131 = .ok (.getfield 119, 3) := by decide +kernel
theorem dX3_addRule_134 : decode cX3_addRule 134 = .ok (.iconst 2, 1) := by decide +kernel
theorem dX3_addRule_135 : decode cX3_addRule 135 = .ok (.iload 5, 2) := by decide +kernel
theorem dX3_addRule_137 : decode cX3_addRule 137 = .ok (.iastore, 1) := by decide +kernel
theorem dX3_addRule_138 : decode cX3_addRule 138 = .ok (.aload_n 0, 1) := by decide +kernel
theorem dX3_addRule_139 : decode cX3_addRule 139 = .ok (.dup, 1) := by decide +kernel
theorem dX3_addRule_140 : decode cX3_addRule 140 = .ok (.getfield 140, 3) := by decide +kernel
theorem dX3_addRule_143 : decode cX3_addRule 143 = .ok (.iconst 1, 1) := by decide +kernel
theorem dX3_addRule_144 : decode cX3_addRule 144 = .ok (.iadd, 1) := by decide +kernel
theorem dX3_addRule_145 : decode cX3_addRule 145 = .ok (.putfield 140, 3) := by decide +kernel
theorem dX3_addRule_148 : decode cX3_addRule 148 = .ok (.aload_n 0, 1) := by decide +kernel
theorem dX3_addRule_149 : decode cX3_addRule 149 = .ok (.dup, 1) := by decide +kernel
theorem dX3_addRule_150 : decode cX3_addRule 150 = .ok (.getfield 116, 3) := by decide +kernel
theorem dX3_addRule_153 : decode cX3_addRule 153 = .ok (.iconst 1, 1) := by decide +kernel
theorem dX3_addRule_154 : decode cX3_addRule 154 = .ok (.iadd, 1) := by decide +kernel
theorem dX3_addRule_155 : decode cX3_addRule 155 = .ok (.putfield 116, 3) := by decide +kernel
theorem dX3_addRule_158 : decode cX3_addRule 158 = .ok (.aload_n 0, 1) := by decide +kernel
theorem dX3_addRule_159 : decode cX3_addRule 159 = .ok (.aload_n 0, 1) := by decide +kernel
theorem dX3_addRule_160 : decode cX3_addRule 160 = .ok (.getfield 116, 3) := by decide +kernel
theorem dX3_addRule_163 : decode cX3_addRule 163 = .ok (.iconst 1, 1) := by decide +kernel
theorem dX3_addRule_164 : decode cX3_addRule 164 = .ok (.isub, 1) := by decide +kernel
theorem dX3_addRule_165 : decode cX3_addRule 165 = .ok (.iload_n 1, 1) := by decide +kernel
theorem dX3_addRule_166 : decode cX3_addRule 166 = .ok (.invokevirtual 150, 3) := by decide +kernel
theorem dX3_addRule_169 : decode cX3_addRule 169 = .ok (.aload_n 0, 1) := by decide +kernel
theorem dX3_addRule_170 : decode cX3_addRule 170 = .ok (.invokevirtual 70, 3) := by decide +kernel
theorem dX3_addRule_173 : decode cX3_addRule 173 = .ok (.aload 7, 2) := by decide +kernel
theorem dX3_addRule_175 : decode cX3_addRule 175 = .ok (.getfield 153, 3) := by decide +kernel
theorem dX3_addRule_178 : decode cX3_addRule 178 = .ok (.ireturn, 1) := by decide +kernel
theorem dX3_removeRule_0 : decode cX3_removeRule 0 = .ok (.aload_n 0, 1) := by decide +kernel
theorem dX3_removeRule_1 : decode cX3_removeRule 1 = .ok (.iload_n 1, 1) := by decide +kernel
theorem dX3_removeRule_2 : decode cX3_removeRule 2 = .ok (.invokevirtual 156, 3) := by decide +kernel
theorem dX3_removeRule_5 : decode cX3_removeRule 5 = .ok (.istore_n 2, 1) := by decide +kernel
theorem dX3_removeRule_6 : decode cX3_removeRule 6 = .ok (.aload_n 0, 1) := by decide +kernel
theorem dX3_removeRule_7 : decode cX3_removeRule 7 = .ok (.iload_n 2, 1) := by decide +kernel
theorem dX3_removeRule_8 : decode cX3_removeRule 8 = .ok (.invokevirtual 159, 3) := by decide +kernel
theorem dX3_removeRule_11 : decode cX3_removeRule 11 = .ok (.istore_n 3, 1) := by decide +kernel
theorem dX3_removeRule_12 : decode cX3_removeRule 12 = .ok (.aload_n 0, 1) := by decide +kernel
theorem dX3_removeRule_13 : decode cX3_removeRule 13 = .ok (.iload_n 2, 1) := by decide +kernel
theorem dX3_removeRule_14 : decode cX3_removeRule 14 = .ok (.aload_n 0, 1) := by decide +kernel
theorem dX3_removeRule_15 : decode cX3_removeRule 15 = .ok (.getfield 116, 3) := by decide +kernel
theorem dX3_removeRule_18 : decode cX3_removeRule 18 = .ok (.iconst 1, 1) := by decide +kernel
theorem dX3_removeRule_19 : decode cX3_removeRule 19 = .ok (.isub, 1) := by decide +kernel
theorem dX3_removeRule_20 : decode cX3_removeRule 20 = .ok (.invokevirtual 150, 3) := by decide +kernel
theorem dX3_removeRule_23 : decode cX3_removeRule 23 = .ok (.aload_n 0, 1) := by decide +kernel
theorem dX3_removeRule_24 : decode cX3_removeRule 24 = .ok (.dup, 1) := by decide +kernel
theorem dX3_removeRule_25 : decode cX3_removeRule 25 = .ok (.getfield 116, 3) := by decide +kernel
theorem dX3_removeRule_28 : decode cX3_removeRule 28 = .ok (.iconst 1, 1) := by decide +kernel
theorem dX3_removeRule_29 : decode cX3_removeRule 29 = .ok (.isub, 1) := by decide +kernel
theorem dX3_removeRule_30 : decode cX3_removeRule 30 = .ok (.putfield 116, 3) := by decide +kernel
theorem dX3_removeRule_33 : decode cX3_removeRule 33 = .ok (.iload_n 3, 1) := by decide +kernel
theorem dX3_removeRule_34 : decode cX3_removeRule 34 = .ok (.ireturn, 1) := by decide +kernel
theorem dX3_setLastDay_0 : decode cX3_setLastDay 0 = .ok (.aload_n 0, 1) := by decide +kernel
theorem dX3_setLastDay_1 : decode cX3_setLastDay 1 = .ok (.getfield 17, 3) := by decide +kernel
theorem dX3_setLastDay_4 : decode cX3_setLastDay 4 = .ok (.aload_n 0, 1) := by decide +kernel
theorem dX3_setLastDay_5 : decode cX3_setLastDay 5 = .ok (.iload_n 1, 1) := by decide +kernel
theorem dX3_setLastDay_6 : decode cX3_setLastDay 6 = .ok (.invokevirtual 156, 3) := by decide +kernel
theorem dX3_setLastDay_9 : decode cX3_setLastDay 9 = .ok (.aaload, 1) := by decide +kernel
theorem dX3_setLastDay_10 : decode cX3_setLastDay 10 = .ok (.astore_n 3, 1) := by decide +kernel
theorem dX3_setLastDay_11 : decode cX3_setLastDay 11 = .ok (.iload_n 2, 1) := by decide +kernel
theorem dX3_setLastDay_12 : decode cX3_setLastDay 12 = .ok (.iconst (-1), 1) := by decide +kernel
theorem dX3_setLastDay_13 : decode cX3_setLastDay 13 = .ok (.if_icmp .eq 28, 3) := by decide +kernel
theorem dX3_setLastDay_16 : decode cX3_setLastDay 16 = .ok (.iload_n 2, 1) := by decide +kernel
theorem dX3_setLastDay_17 : decode cX3_setLastDay 17 = .ok (.aload_n 0, 1) := by decide +kernel
theorem dX3_setLastDay_18 : decode cX3_setLastDay 18 = .ok (.getfield 143, 3) := by decide +kernel
theorem dX3_setLastDay_21 : decode cX3_setLastDay 21 = .ok (.if_icmp .lt 10, 3) := by decide +kernel
theorem dX3_setLastDay_24 : decode cX3_setLastDay 24 = .ok (.iload_n 2, 1) := by decide +kernel
theorem dX3_setLastDay_25 : decode cX3_setLastDay 25 = .ok (.sipush 999, 3) := by decide +kernel
theorem dX3_setLastDay_28 : decode cX3_setLastDay 28 = .ok (.if_icmp .le 13, 3) := by decide +kernel
theorem dX3_setLastDay_31 : decode cX3_setLastDay 31 = .ok (.new 82, 3) := by decide +kernel
theorem dX3_setLastDay_34 : decode cX3_setLastDay 34 = .ok (.dup, 1) := by decide +kernel
theorem dX3_setLastDay_35 : decode cX3_setLastDay 35 = .ok (.ldc 162, 2) := by decide +kernel
theorem dX3_setLastDay_37 : decode cX3_setLastDay 37 = .ok (.invokespecial 86, 3) := by decide +kernel
theorem dX3_setLastDay_40 : decode cX3_setLastDay 40 = .ok (.athrow, 1) := by decide +kernel
theorem dX3_setLastDay_41 : decode cX3_setLastDay 41 = .ok (.aload_n 3, 1) := by decide +kernel
theorem dX3_setLastDay_42 : decode cX3_setLastDay 42 = .ok (.getfield 164, 3) := by decide +kernel
theorem dX3_setLastDay_45 : decode cX3_setLastDay 45 = .ok (.istore 4, 2) := by decide +kernel
theorem dX3_setLastDay_47 : decode cX3_setLastDay 47 = .ok (.aload_n 3, 1) := by decide +kernel
theorem dX3_setLastDay_48 : decode cX3_setLastDay 48 = .ok (.iload_n 2, 1) := by decide +kernel
theorem dX3_setLastDay_49 : decode cX3_setLastDay 49 = .ok (.putfield 164, 3) := by decide +kernel
theorem dX3_setLastDay_52 : decode cX3_setLastDay 52 = .ok (.iload 4, 2) := by decide +kernel
theorem dX3_setLastDay_54 : decode cX3_setLastDay 54 = .ok (.ireturn, 1) := by decide +kernel
theorem dX3_rules_0 : decode cX3_rules 0 = .ok (.aload_n 0, 1) := by decide +kernel
theorem dX3_rules_1 : decode cX3_rules 1 = .ok (.getfield 116, 3) := by decide +kernel
theorem dX3_rules_4 : decode cX3_rules 4 = .ok (.ireturn, 1) := by decide +kernel
theorem dX3_ruleAt_0 : decode cX3_ruleAt 0 = .ok (.aload_n 0, 1) := by decide +kernel
theorem dX3_ruleAt_1 : decode cX3_ruleAt 1 = .ok (.iload_n 1, 1) := by decide +kernel
theorem dX3_ruleAt_2 : decode cX3_ruleAt 2 = .ok (.invokevirtual 167, 3) := by decide +kernel
theorem dX3_ruleAt_5 : decode cX3_ruleAt 5 = .ok (.aload_n 0, 1) := by decide +kernel
theorem dX3_ruleAt_6 : decode cX3_ruleAt 6 = .ok (.getfield 17, 3) := by decide +kernel
theorem dX3_ruleAt_9 : decode cX3_ruleAt 9 = .ok (.iload_n 1, 1) := by decide +kernel
theorem dX3_ruleAt_10 : decode cX3_ruleAt 10 = .ok (.aaload, 1) := by decide +kernel
theorem dX3_ruleAt_11 : decode cX3_ruleAt 11 = .ok (.getfield 153, 3) := by decide +kernel
theorem dX3_ruleAt_14 : decode cX3_ruleAt 14 = .ok (.ireturn, 1) := by decide +kernel
theorem dX3_isInForce_0 : decode cX3_isInForce 0 = .ok (.aload_n 0, 1) := by decide +kernel
theorem dX3_isInForce_1 : decode cX3_isInForce 1 = .ok (.getfield 17, 3) := by decide +kernel
theorem dX3_isInForce_4 : decode cX3_isInForce 4 = .ok (.aload_n 0, 1) := by decide +kernel
theorem dX3_isInForce_5 : decode cX3_isInForce 5 = .ok (.iload_n 1, 1) := by decide +kernel
theorem dX3_isInForce_6 : decode cX3_isInForce 6 = .ok (.invokevirtual 156, 3) := by decide +kernel
theorem dX3_isInForce_9 : decode cX3_isInForce 9 = .ok (.aaload, 1) := by decide +kernel
theorem dX3_isInForce_10 : decode cX3_isInForce 10 = .ok (.aload_n 0, 1) := by decide +kernel
theorem dX3_isInForce_11 : decode cX3_isInForce 11 = .ok (.getfield 143, 3) := by decide +kernel
theorem dX3_isInForce_14 : decode cX3_isInForce 14 = .ok (.invokevirtual 170, 3) := by decide +kernel
theorem dX3_isInForce_17 : decode cX3_isInForce 17 = .ok (.ireturn, 1) := by decide +kernel
theorem dX3_expiring_0 : decode cX3_expiring 0 = .ok (.iload_n 1, 1) := by decide +kernel
theorem dX3_expiring_1 : decode cX3_expiring 1 = .ok (.invokestatic 135, 3) := by decide +kernel
theorem dX3_expiring_4 : decode cX3_expiring 4 = .ok (.iload_n 2, 1) := by decide +kernel
theorem dX3_expiring_5 : decode cX3_expiring 5 = .ok (.invokestatic 174, 3) := by decide +kernel
theorem dX3_expiring_8 : decode cX3_expiring 8 = .ok (.iconst 0, 1) := by decide +kernel
theorem dX3_expiring_9 : decode cX3_expiring 9 = .ok (.istore_n 3, 1) := by decide +kernel
theorem dX3_expiring_10 : decode cX3_expiring 10 = .ok (.iconst 0, 1) := by decide +kernel
theorem dX3_expiring_11 : decode cX3_expiring 11 = .ok (.istore 4, 2) := by decide +kernel
theorem dX3_expiring_13 : decode cX3_expiring 13 = .ok (.iload 4, 2) := by decide +kernel
theorem dX3_expiring_15 : decode cX3_expiring 15 = .ok (.aload_n 0, 1) := by decide +kernel
theorem dX3_expiring_16 : decode cX3_expiring 16 = .ok (.getfield 116, 3) := by decide +kernel
theorem dX3_expiring_19 : decode cX3_expiring 19 = .ok (.if_icmp .ge 56, 3) := by decide +kernel
theorem dX3_expiring_22 : decode cX3_expiring 22 = .ok (.aload_n 0, 1) := by decide +kernel
theorem dX3_expiring_23 : decode cX3_expiring 23 = .ok (.getfield 17, 3) := by decide +kernel
theorem dX3_expiring_26 : decode cX3_expiring 26 = .ok (.iload 4, 2) := by decide +kernel
theorem dX3_expiring_28 : decode cX3_expiring 28 = .ok (.aaload, 1) := by decide +kernel
theorem dX3_expiring_29 : decode cX3_expiring 29 = .ok (.astore 5, 2) := by decide +kernel
theorem dX3_expiring_31 : decode cX3_expiring 31 = .ok (.aload 5, 2) := by decide +kernel
theorem dX3_expiring_33 : decode cX3_expiring 33 = .ok (.getfield 177, 3) := by decide +kernel
theorem dX3_expiring_36 : decode cX3_expiring 36 = .ok (.iload_n 1, 1) := by decide +kernel
theorem dX3_expiring_37 : decode cX3_expiring 37 = .ok (.if_icmp .ne 32, 3) := by decide +kernel
theorem dX3_expiring_40 : decode cX3_expiring 40 = .ok (.aload 5, 2) := by decide +kernel
theorem dX3_expiring_42 : decode cX3_expiring 42 = .ok (.aload_n 0, 1) := by decide +kernel
theorem dX3_expiring_43 : decode cX3_expiring 43 = .ok (.getfield 143, 3) := by decide +kernel
theorem dX3_expiring_46 : decode cX3_expiring 46 = .ok (.invokevirtual 170, 3) := by decide +kernel
theorem dX3_expiring_49 : decode cX3_expiring 49 = .ok (.ifCond .eq 20, 3) := by decide +kernel
theorem dX3_expiring_52 : decode cX3_expiring 52 = .ok (.aload 5, 2) := by decide +kernel
theorem dX3_expiring_54 : decode cX3_expiring 54 = .ok (.aload_n 0, 1) := by decide +kernel
theorem dX3_expiring_55 : decode cX3_expiring 55 = .ok (.getfield 143, 3) := by decide +kernel
theorem dX3_expiring_58 : decode cX3_expiring 58 = .ok (.iload_n 2, 1) := by decide +kernel
theorem dX3_expiring_59 : decode cX3_expiring 59 = .ok (.iadd, 1) := by decide +kernel
theorem dX3_expiring_60 : decode cX3_expiring 60 = .ok (.invokevirtual 170, 3) := by decide +kernel
theorem dX3_expiring_63 : decode cX3_expiring 63 = .ok (.ifCond .ne 6, 3) := by decide +kernel
theorem dX3_expiring_66 : decode cX3_expiring 66 = .ok (.iinc 3 1, 3) := by decide +kernel
theorem dX3_expiring_69 : decode cX3_expiring 69 = .ok (.iinc 4 1, 3) := by decide +kernel
theorem dX3_expiring_72 : decode cX3_expiring 72 = .ok (.goto (-59), 3) := by decide +kernel
theorem dX3_expiring_75 : decode cX3_expiring 75 = .ok (.iload_n 3, 1) := by decide +kernel
theorem dX3_expiring_76 : decode cX3_expiring 76 = .ok (.ireturn, 1) := by decide +kernel
theorem dX3_packet_0 : decode cX3_packet 0 = .ok (.iload_n 1, 1) := by decide +kernel
theorem dX3_packet_1 : decode cX3_packet 1 = .ok (.iload_n 2, 1) := by decide +kernel
theorem dX3_packet_2 : decode cX3_packet 2 = .ok (.iload_n 3, 1) := by decide +kernel
theorem dX3_packet_3 : decode cX3_packet 3 = .ok (.invokestatic 180, 3) := by decide +kernel
theorem dX3_packet_6 : decode cX3_packet 6 = .ok (.aload_n 0, 1) := by decide +kernel
theorem dX3_packet_7 : decode cX3_packet 7 = .ok (.iload_n 1, 1) := by decide +kernel
theorem dX3_packet_8 : decode cX3_packet 8 = .ok (.iload_n 2, 1) := by decide +kernel
theorem dX3_packet_9 : decode cX3_packet 9 = .ok (.iload_n 3, 1) := by decide +kernel
theorem dX3_packet_10 : decode cX3_packet 10 = .ok (.invokevirtual 184, 3) := by decide +kernel
theorem dX3_packet_13 : decode cX3_packet 13 = .ok (.istore 4, 2) := by decide +kernel
theorem dX3_packet_15 : decode cX3_packet 15 = .ok (.iload 4, 2) := by decide +kernel
theorem dX3_packet_17 : decode cX3_packet 17 = .ok (.iconst (-1), 1) := by decide +kernel
theorem dX3_packet_18 : decode cX3_packet 18 = .ok (.if_icmp .ne 6, 3) := by decide +kernel
theorem dX3_packet_21 : decode cX3_packet 21 = .ok (.bipush 100, 2) := by decide +kernel
theorem dX3_packet_23 : decode cX3_packet 23 = .ok (.ireturn, 1) := by decide +kernel
theorem dX3_packet_24 : decode cX3_packet 24 = .ok (.aload_n 0, 1) := by decide +kernel
theorem dX3_packet_25 : decode cX3_packet 25 = .ok (.getfield 17, 3) := by decide +kernel
theorem dX3_packet_28 : decode cX3_packet 28 = .ok (.iload 4, 2) := by decide +kernel
theorem dX3_packet_30 : decode cX3_packet 30 = .ok (.aaload, 1) := by decide +kernel
theorem dX3_packet_31 : decode cX3_packet 31 = .ok (.astore 5, 2) := by decide +kernel
theorem dX3_packet_33 : decode cX3_packet 33 = .ok (.aload 5, 2) := by decide +kernel
theorem dX3_packet_35 : decode cX3_packet 35 = .ok (.aload_n 0, 1) := by decide +kernel
theorem dX3_packet_36 : decode cX3_packet 36 = .ok (.getfield 143, 3) := by decide +kernel
theorem dX3_packet_39 : decode cX3_packet 39 = .ok (.invokevirtual 188, 3) := by decide +kernel
theorem dX3_packet_42 : decode cX3_packet 42 = .ok (.aload 5, 2) := by decide +kernel
theorem dX3_packet_44 : decode cX3_packet 44 = .ok (.getfield 191, 3) := by decide +kernel
theorem dX3_packet_47 : decode cX3_packet 47 = .ok (.ireturn, 1) := by decide +kernel
theorem dX3_decider_0 : decode cX3_decider 0 = .ok (.iload_n 1, 1) := by decide +kernel
theorem dX3_decider_1 : decode cX3_decider 1 = .ok (.iload_n 2, 1) := by decide +kernel
theorem dX3_decider_2 : decode cX3_decider 2 = .ok (.iload_n 3, 1) := by decide +kernel
theorem dX3_decider_3 : decode cX3_decider 3 = .ok (.invokestatic 180, 3) := by decide +kernel
theorem dX3_decider_6 : decode cX3_decider 6 = .ok (.aload_n 0, 1) := by decide +kernel
theorem dX3_decider_7 : decode cX3_decider 7 = .ok (.iload_n 1, 1) := by decide +kernel
theorem dX3_decider_8 : decode cX3_decider 8 = .ok (.iload_n 2, 1) := by decide +kernel
theorem dX3_decider_9 : decode cX3_decider 9 = .ok (.iload_n 3, 1) := by decide +kernel
theorem dX3_decider_10 : decode cX3_decider 10 = .ok (.invokevirtual 184, 3) := by decide +kernel
theorem dX3_decider_13 : decode cX3_decider 13 = .ok (.istore 4, 2) := by decide +kernel
theorem dX3_decider_15 : decode cX3_decider 15 = .ok (.iload 4, 2) := by decide +kernel
theorem dX3_decider_17 : decode cX3_decider 17 = .ok (.iconst (-1), 1) := by decide +kernel
theorem dX3_decider_18 : decode cX3_decider 18 = .ok (.if_icmp .ne 7, 3) := by decide +kernel
theorem dX3_decider_21 : decode cX3_decider 21 = .ok (.iconst (-1), 1) := by decide +kernel
theorem dX3_decider_22 : decode cX3_decider 22 = .ok (.goto 13, 3) := by decide +kernel
theorem dX3_decider_25 : decode cX3_decider 25 = .ok (.aload_n 0, 1) := by decide +kernel
theorem dX3_decider_26 : decode cX3_decider 26 = .ok (.getfield 17, 3) := by decide +kernel
theorem dX3_decider_29 : decode cX3_decider 29 = .ok (.iload 4, 2) := by decide +kernel
theorem dX3_decider_31 : decode cX3_decider 31 = .ok (.aaload, 1) := by decide +kernel
theorem dX3_decider_32 : decode cX3_decider 32 = .ok (.getfield 153, 3) := by decide +kernel
theorem dX3_decider_35 : decode cX3_decider 35 = .ok (.ireturn, 1) := by decide +kernel
theorem dX3_hits_0 : decode cX3_hits 0 = .ok (.aload_n 0, 1) := by decide +kernel
theorem dX3_hits_1 : decode cX3_hits 1 = .ok (.getfield 17, 3) := by decide +kernel
theorem dX3_hits_4 : decode cX3_hits 4 = .ok (.aload_n 0, 1) := by decide +kernel
theorem dX3_hits_5 : decode cX3_hits 5 = .ok (.iload_n 1, 1) := by decide +kernel
theorem dX3_hits_6 : decode cX3_hits 6 = .ok (.invokevirtual 156, 3) := by decide +kernel
theorem dX3_hits_9 : decode cX3_hits 9 = .ok (.aaload, 1) := by decide +kernel
theorem dX3_hits_10 : decode cX3_hits 10 = .ok (.getfield 195, 3) := by decide +kernel
theorem dX3_hits_13 : decode cX3_hits 13 = .ok (.ireturn, 1) := by decide +kernel
theorem dX3_busyDays_0 : decode cX3_busyDays 0 = .ok (.aload_n 0, 1) := by decide +kernel
theorem dX3_busyDays_1 : decode cX3_busyDays 1 = .ok (.getfield 17, 3) := by decide +kernel
theorem dX3_busyDays_4 : decode cX3_busyDays 4 = .ok (.aload_n 0, 1) := by decide +kernel
theorem dX3_busyDays_5 : decode cX3_busyDays 5 = .ok (.iload_n 1, 1) := by decide +kernel
theorem dX3_busyDays_6 : decode cX3_busyDays 6 = .ok (.invokevirtual 156, 3) := by decide +kernel
theorem dX3_busyDays_9 : decode cX3_busyDays 9 = .ok (.aaload, 1) := by decide +kernel
theorem dX3_busyDays_10 : decode cX3_busyDays 10 = .ok (.getfield 198, 3) := by decide +kernel
theorem dX3_busyDays_13 : decode cX3_busyDays 13 = .ok (.ireturn, 1) := by decide +kernel
theorem dX3_idleDays_0 : decode cX3_idleDays 0 = .ok (.aload_n 0, 1) := by decide +kernel
theorem dX3_idleDays_1 : decode cX3_idleDays 1 = .ok (.getfield 17, 3) := by decide +kernel
theorem dX3_idleDays_4 : decode cX3_idleDays 4 = .ok (.aload_n 0, 1) := by decide +kernel
theorem dX3_idleDays_5 : decode cX3_idleDays 5 = .ok (.iload_n 1, 1) := by decide +kernel
theorem dX3_idleDays_6 : decode cX3_idleDays 6 = .ok (.invokevirtual 156, 3) := by decide +kernel
theorem dX3_idleDays_9 : decode cX3_idleDays 9 = .ok (.aaload, 1) := by decide +kernel
theorem dX3_idleDays_10 : decode cX3_idleDays 10 = .ok (.astore_n 2, 1) := by decide +kernel
theorem dX3_idleDays_11 : decode cX3_idleDays 11 = .ok (.aload_n 0, 1) := by decide +kernel
theorem dX3_idleDays_12 : decode cX3_idleDays 12 = .ok (.getfield 143, 3) := by decide +kernel
theorem dX3_idleDays_15 : decode cX3_idleDays 15 = .ok (.aload_n 2, 1) := by decide +kernel
theorem dX3_idleDays_16 : decode cX3_idleDays 16 = .ok (.getfield 201, 3) := by decide +kernel
theorem dX3_idleDays_19 : decode cX3_idleDays 19 = .ok (.iconst (-1), 1) := by decide +kernel
theorem dX3_idleDays_20 : decode cX3_idleDays 20 = .ok (.if_icmp .ne 10, 3) := by decide +kernel
theorem dX3_idleDays_23 : decode cX3_idleDays 23 = .ok (.aload_n 2, 1) := by decide +kernel
theorem dX3_idleDays_24 : decode cX3_idleDays 24 = .ok (.getfield 204, 3) := by decide +kernel
theorem dX3_idleDays_27 : decode cX3_idleDays 27 = .ok (.goto 7, 3) := by decide +kernel
theorem dX3_idleDays_30 : decode cX3_idleDays 30 = .ok (.aload_n 2, 1) := by decide +kernel
theorem dX3_idleDays_31 : decode cX3_idleDays 31 = .ok (.getfield 201, 3) := by decide +kernel
theorem dX3_idleDays_34 : decode cX3_idleDays 34 = .ok (.isub, 1) := by decide +kernel
theorem dX3_idleDays_35 : decode cX3_idleDays 35 = .ok (.ireturn, 1) := by decide +kernel
theorem dX3_pass_0 : decode cX3_pass 0 = .ok (.iload_n 1, 1) := by decide +kernel
theorem dX3_pass_1 : decode cX3_pass 1 = .ok (.invokestatic 174, 3) := by decide +kernel
theorem dX3_pass_4 : decode cX3_pass 4 = .ok (.aload_n 0, 1) := by decide +kernel
theorem dX3_pass_5 : decode cX3_pass 5 = .ok (.getfield 143, 3) := by decide +kernel
theorem dX3_pass_8 : decode cX3_pass 8 = .ok (.iload_n 1, 1) := by decide +kernel
theorem dX3_pass_9 : decode cX3_pass 9 = .ok (.iadd, 1) := by decide +kernel
theorem dX3_pass_10 : decode cX3_pass 10 = .ok (.sipush 999, 3) := by decide +kernel
theorem dX3_pass_13 : decode cX3_pass 13 = .ok (.if_icmp .le 13, 3) := by decide +kernel
theorem dX3_pass_16 : decode cX3_pass 16 = .ok (.new 82, 3) := by decide +kernel
theorem dX3_pass_19 : decode cX3_pass 19 = .ok (.dup, 1) := by decide +kernel
theorem dX3_pass_20 : decode cX3_pass 20 = .ok (.ldc 207, 2) := by decide +kernel
theorem dX3_pass_22 : decode cX3_pass 22 = .ok (.invokespecial 86, 3) := by decide +kernel
theorem dX3_pass_25 : decode cX3_pass 25 = .ok (.athrow, 1) := by decide +kernel
theorem dX3_pass_26 : decode cX3_pass 26 = .ok (.aload_n 0, 1) := by decide +kernel
theorem dX3_pass_27 : decode cX3_pass 27 = .ok (.dup, 1) := by decide +kernel
theorem dX3_pass_28 : decode cX3_pass 28 = .ok (.getfield 143, 3) := by decide +kernel
theorem dX3_pass_31 : decode cX3_pass 31 = .ok (.iload_n 1, 1) := by decide +kernel
theorem dX3_pass_32 : decode cX3_pass 32 = .ok (.iadd, 1) := by decide +kernel
theorem dX3_pass_33 : decode cX3_pass 33 = .ok (.putfield 143, 3) := by decide +kernel
theorem dX3_pass_36 : decode cX3_pass 36 = .ok (.aload_n 0, 1) := by decide +kernel
theorem dX3_pass_37 : decode cX3_pass 37 = .ok (.getfield 143, 3) := by decide +kernel
theorem dX3_pass_40 : decode cX3_pass 40 = .ok (.ireturn, 1) := by decide +kernel
theorem dX3_day_0 : decode cX3_day 0 = .ok (.aload_n 0, 1) := by decide +kernel
theorem dX3_day_1 : decode cX3_day 1 = .ok (.getfield 143, 3) := by decide +kernel
theorem dX3_day_4 : decode cX3_day 4 = .ok (.ireturn, 1) := by decide +kernel
theorem dX3_matched_0 : decode cX3_matched 0 = .ok (.aload_n 0, 1) := by decide +kernel
theorem dX3_matched_1 : decode cX3_matched 1 = .ok (.getfield 17, 3) := by decide +kernel
theorem dX3_matched_4 : decode cX3_matched 4 = .ok (.aload_n 0, 1) := by decide +kernel
theorem dX3_matched_5 : decode cX3_matched 5 = .ok (.iload_n 1, 1) := by decide +kernel
theorem dX3_matched_6 : decode cX3_matched 6 = .ok (.invokevirtual 156, 3) := by decide +kernel
theorem dX3_matched_9 : decode cX3_matched 9 = .ok (.aaload, 1) := by decide +kernel
theorem dX3_matched_10 : decode cX3_matched 10 = .ok (.astore_n 2, 1) := by decide +kernel
theorem dX3_matched_11 : decode cX3_matched 11 = .ok (.aload_n 2, 1) := by decide +kernel
theorem dX3_matched_12 : decode cX3_matched 12 = .ok (.aload_n 2, 1) := by decide +kernel
theorem dX3_matched_13 : decode cX3_matched 13 = .ok (.invokestatic 209, 3) := by decide +kernel
theorem dX3_matched_16 : decode cX3_matched 16 = .ok (.ireturn, 1) := by decide +kernel
theorem dX3_decided_0 : decode cX3_decided 0 = .ok (.aload_n 0, 1) := by decide +kernel
theorem dX3_decided_1 : decode cX3_decided 1 = .ok (.aload_n 0, 1) := by decide +kernel
theorem dX3_decided_2 : decode cX3_decided 2 = .ok (.iload_n 1, 1) := by decide +kernel
theorem dX3_decided_3 : decode cX3_decided 3 = .ok (.invokevirtual 156, 3) := by decide +kernel
theorem dX3_decided_6 : decode cX3_decided 6 = .ok (.invokevirtual 213, 3) := by decide +kernel
theorem dX3_decided_9 : decode cX3_decided 9 = .ok (.ireturn, 1) := by decide +kernel
theorem dX3_decidedBySamples_0 : decode cX3_decidedBySamples 0 = .ok (.aload_n 0, 1) := by decide +kernel
theorem dX3_decidedBySamples_1 : decode cX3_decidedBySamples 1 = .ok (.iload_n 1, 1) := by decide +kernel
theorem dX3_decidedBySamples_2 : decode cX3_decidedBySamples 2 = .ok (.invokevirtual 156, 3) := by decide +kernel
theorem dX3_decidedBySamples_5 : decode cX3_decidedBySamples 5 = .ok (.istore_n 2, 1) := by decide +kernel
theorem dX3_decidedBySamples_6 : decode cX3_decidedBySamples 6 = .ok (.aload_n 0, 1) := by decide +kernel
theorem dX3_decidedBySamples_7 : decode cX3_decidedBySamples 7 = .ok (.iconst (-1), 1) := by decide +kernel
theorem dX3_decidedBySamples_8 : decode cX3_decidedBySamples 8 = .ok (.iconst 0, 1) := by decide +kernel
theorem dX3_decidedBySamples_9 : decode cX3_decidedBySamples 9 = .ok (.invokevirtual 216, 3) := by decide +kernel
theorem dX3_decidedBySamples_12 : decode cX3_decidedBySamples 12 = .ok (.aload_n 0, 1) := by decide +kernel
theorem dX3_decidedBySamples_13 : decode cX3_decidedBySamples 13 = .ok (.getfield 33, 3) := by decide +kernel
theorem dX3_decidedBySamples_16 : decode cX3_decidedBySamples 16 = .ok (.iload_n 2, 1) := by decide +kernel
theorem dX3_decidedBySamples_17 : decode cX3_decidedBySamples 17 = .ok (.aaload, 1) := by decide +kernel
theorem dX3_decidedBySamples_18 : decode cX3_decidedBySamples 18 = .ok (.iload_n 2, 1) := by decide +kernel
theorem dX3_decidedBySamples_19 : decode cX3_decidedBySamples 19 = .ok (.iaload, 1) := by decide +kernel
theorem dX3_decidedBySamples_20 : decode cX3_decidedBySamples 20 = .ok (.ireturn, 1) := by decide +kernel
theorem dX3_isShadowed_0 : decode cX3_isShadowed 0 = .ok (.aload_n 0, 1) := by decide +kernel
theorem dX3_isShadowed_1 : decode cX3_isShadowed 1 = .ok (.aload_n 0, 1) := by decide +kernel
theorem dX3_isShadowed_2 : decode cX3_isShadowed 2 = .ok (.iload_n 1, 1) := by decide +kernel
theorem dX3_isShadowed_3 : decode cX3_isShadowed 3 = .ok (.invokevirtual 156, 3) := by decide +kernel
theorem dX3_isShadowed_6 : decode cX3_isShadowed 6 = .ok (.invokevirtual 219, 3) := by decide +kernel
theorem dX3_isShadowed_9 : decode cX3_isShadowed 9 = .ok (.ireturn, 1) := by decide +kernel
theorem dX3_mainShadow_0 : decode cX3_mainShadow 0 = .ok (.aload_n 0, 1) := by decide +kernel
theorem dX3_mainShadow_1 : decode cX3_mainShadow 1 = .ok (.iload_n 1, 1) := by decide +kernel
theorem dX3_mainShadow_2 : decode cX3_mainShadow 2 = .ok (.invokevirtual 156, 3) := by decide +kernel
theorem dX3_mainShadow_5 : decode cX3_mainShadow 5 = .ok (.istore_n 2, 1) := by decide +kernel
theorem dX3_mainShadow_6 : decode cX3_mainShadow 6 = .ok (.iconst 0, 1) := by decide +kernel
theorem dX3_mainShadow_7 : decode cX3_mainShadow 7 = .ok (.istore_n 3, 1) := by decide +kernel
theorem dX3_mainShadow_8 : decode cX3_mainShadow 8 = .ok (.iconst (-1), 1) := by decide +kernel
theorem dX3_mainShadow_9 : decode cX3_mainShadow 9 = .ok (.istore 4, 2) := by decide +kernel
theorem dX3_mainShadow_11 : decode cX3_mainShadow 11 = .ok (.iconst 0, 1) := by decide +kernel
theorem dX3_mainShadow_12 : decode cX3_mainShadow 12 = .ok (.istore 5, 2) := by decide +kernel
theorem dX3_mainShadow_14 : decode cX3_mainShadow 14 = .ok (.iload 5, 2) := by decide +kernel
theorem dX3_mainShadow_16 : decode cX3_mainShadow 16 = .ok (.iload_n 2, 1) := by decide +kernel
theorem dX3_mainShadow_17 : decode cX3_mainShadow 17 = .ok (.if_icmp .ge 65, 3) := by decide +kernel
theorem dX3_mainShadow_20 : decode cX3_mainShadow 20 = .ok (.aload_n 0, 1) := by decide +kernel
theorem dX3_mainShadow_21 : decode cX3_mainShadow 21 = .ok (.getfield 17, 3) := by decide +kernel
theorem dX3_mainShadow_24 : decode cX3_mainShadow 24 = .ok (.iload 5, 2) := by decide +kernel
theorem dX3_mainShadow_26 : decode cX3_mainShadow 26 = .ok (.aaload, 1) := by decide +kernel
theorem dX3_mainShadow_27 : decode cX3_mainShadow 27 = .ok (.aload_n 0, 1) := by decide +kernel
theorem dX3_mainShadow_28 : decode cX3_mainShadow 28 = .ok (.getfield 17, 3) := by decide +kernel
theorem dX3_mainShadow_31 : decode cX3_mainShadow 31 = .ok (.iload_n 2, 1) := by decide +kernel
theorem dX3_mainShadow_32 : decode cX3_mainShadow 32 = .ok (.aaload, 1) := by decide +kernel
theorem dX3_mainShadow_33 : decode cX3_mainShadow 33 = .ok (.invokestatic 209, 3) := by decide +kernel
theorem dX3_mainShadow_36 : decode cX3_mainShadow 36 = .ok (.istore 6, 2) := by decide +kernel
theorem dX3_mainShadow_38 : decode cX3_mainShadow 38 = .ok (.aload_n 0, 1) := by decide +kernel
theorem dX3_mainShadow_39 : decode cX3_mainShadow 39 = .ok (.getfield 17, 3) := by decide +kernel
theorem dX3_mainShadow_42 : decode cX3_mainShadow 42 = .ok (.iload 5, 2) := by decide +kernel
theorem dX3_mainShadow_44 : decode cX3_mainShadow 44 = .ok (.aaload, 1) := by decide +kernel
theorem dX3_mainShadow_45 : decode cX3_mainShadow 45 = .ok (.aload_n 0, 1) := by decide +kernel
theorem dX3_mainShadow_46 : decode cX3_mainShadow 46 = .ok (.getfield 143, 3) := by decide +kernel
theorem dX3_mainShadow_49 : decode cX3_mainShadow 49 = .ok (.invokevirtual 170, 3) := by decide +kernel
theorem dX3_mainShadow_52 : decode cX3_mainShadow 52 = .ok (.ifCond .eq 24, 3) := by decide +kernel
theorem dX3_mainShadow_55 : decode cX3_mainShadow 55 = .ok (.iload 6, 2) := by decide +kernel
theorem dX3_mainShadow_57 : decode cX3_mainShadow 57 = .ok (.iload_n 3, 1) := by decide +kernel
theorem dX3_mainShadow_58 : decode cX3_mainShadow 58 = .ok (.if_icmp .le 18, 3) := by decide +kernel
theorem dX3_mainShadow_61 : decode cX3_mainShadow 61 = .ok (.iload 6, 2) := by decide +kernel
theorem dX3_mainShadow_63 : decode cX3_mainShadow 63 = .ok (.istore_n 3, 1) := by decide +kernel
theorem dX3_mainShadow_64 : decode cX3_mainShadow 64 = .ok (.aload_n 0, 1) := by decide +kernel
theorem dX3_mainShadow_65 : decode cX3_mainShadow 65 = .ok (.getfield 17, 3) := by decide +kernel
theorem dX3_mainShadow_68 : decode cX3_mainShadow 68 = .ok (.iload 5, 2) := by decide +kernel
theorem dX3_mainShadow_70 : decode cX3_mainShadow 70 = .ok (.aaload, 1) := by decide +kernel
theorem dX3_mainShadow_71 : decode cX3_mainShadow 71 = .ok (.getfield 153, 3) := by decide +kernel
theorem dX3_mainShadow_74 : decode cX3_mainShadow 74 = .ok (.istore 4, 2) := by decide +kernel
theorem dX3_mainShadow_76 : decode cX3_mainShadow 76 = .ok (.iinc 5 1, 3) := by decide +kernel
theorem dX3_mainShadow_79 : decode cX3_mainShadow 79 = .ok (.goto (-65), 3) := by decide +kernel
theorem dX3_mainShadow_82 : decode cX3_mainShadow 82 = .ok (.iload_n 3, 1) := by decide +kernel
theorem dX3_mainShadow_83 : decode cX3_mainShadow 83 = .ok (.ifCond .ne 13, 3) := by decide +kernel
theorem dX3_mainShadow_86 : decode cX3_mainShadow 86 = .ok (.new 104, 3) := by decide +kernel
theorem dX3_mainShadow_89 : decode cX3_mainShadow 89 = .ok (.dup, 1) := by decide +kernel
theorem dX3_mainShadow_90 : decode cX3_mainShadow 90 = .ok (.ldc 222, 2) := by decide +kernel
theorem dX3_mainShadow_92 : decode cX3_mainShadow 92 = .ok (.invokespecial 108, 3) := by decide +kernel
theorem dX3_mainShadow_95 : decode cX3_mainShadow 95 = .ok (.athrow, 1) := by decide +kernel
theorem dX3_mainShadow_96 : decode cX3_mainShadow 96 = .ok (.iload 4, 2) := by decide +kernel
theorem dX3_mainShadow_98 : decode cX3_mainShadow 98 = .ok (.ireturn, 1) := by decide +kernel
theorem dX3_accepted_0 : decode cX3_accepted 0 = .ok (.iconst 0, 1) := by decide +kernel
theorem dX3_accepted_1 : decode cX3_accepted 1 = .ok (.istore_n 1, 1) := by decide +kernel
theorem dX3_accepted_2 : decode cX3_accepted 2 = .ok (.iconst 0, 1) := by decide +kernel
theorem dX3_accepted_3 : decode cX3_accepted 3 = .ok (.istore_n 2, 1) := by decide +kernel
theorem dX3_accepted_4 : decode cX3_accepted 4 = .ok (.iload_n 2, 1) := by decide +kernel
theorem dX3_accepted_5 : decode cX3_accepted 5 = .ok (.aload_n 0, 1) := by decide +kernel
theorem dX3_accepted_6 : decode cX3_accepted 6 = .ok (.getfield 116, 3) := by decide +kernel
theorem dX3_accepted_9 : decode cX3_accepted 9 = .ok (.if_icmp .ge 31, 3) := by decide +kernel
theorem dX3_accepted_12 : decode cX3_accepted 12 = .ok (.aload_n 0, 1) := by decide +kernel
theorem dX3_accepted_13 : decode cX3_accepted 13 = .ok (.getfield 17, 3) := by decide +kernel
theorem dX3_accepted_16 : decode cX3_accepted 16 = .ok (.iload_n 2, 1) := by decide +kernel
theorem dX3_accepted_17 : decode cX3_accepted 17 = .ok (.aaload, 1) := by decide +kernel
theorem dX3_accepted_18 : decode cX3_accepted 18 = .ok (.getfield 191, 3) := by decide +kernel
theorem dX3_accepted_21 : decode cX3_accepted 21 = .ok (.bipush 97, 2) := by decide +kernel
theorem dX3_accepted_23 : decode cX3_accepted 23 = .ok (.if_icmp .ne 11, 3) := by decide +kernel
theorem dX3_accepted_26 : decode cX3_accepted 26 = .ok (.iload_n 1, 1) := by decide +kernel
theorem dX3_accepted_27 : decode cX3_accepted 27 = .ok (.aload_n 0, 1) := by decide +kernel
theorem dX3_accepted_28 : decode cX3_accepted 28 = .ok (.iload_n 2, 1) := by decide +kernel
theorem dX3_accepted_29 : decode cX3_accepted 29 = .ok (.invokevirtual 213, 3) := by decide +kernel
theorem dX3_accepted_32 : decode cX3_accepted 32 = .ok (.iadd, 1) := by decide +kernel
theorem dX3_accepted_33 : decode cX3_accepted 33 = .ok (.istore_n 1, 1) := by decide +kernel
theorem dX3_accepted_34 : decode cX3_accepted 34 = .ok (.iinc 2 1, 3) := by decide +kernel
theorem dX3_accepted_37 : decode cX3_accepted 37 = .ok (.goto (-33), 3) := by decide +kernel
theorem dX3_accepted_40 : decode cX3_accepted 40 = .ok (.iload_n 1, 1) := by decide +kernel
theorem dX3_accepted_41 : decode cX3_accepted 41 = .ok (.ireturn, 1) := by decide +kernel
theorem dX3_changedByMove_0 : decode cX3_changedByMove 0 = .ok (.aload_n 0, 1) := by decide +kernel
theorem dX3_changedByMove_1 : decode cX3_changedByMove 1 = .ok (.iload_n 1, 1) := by decide +kernel
theorem dX3_changedByMove_2 : decode cX3_changedByMove 2 = .ok (.invokevirtual 156, 3) := by decide +kernel
theorem dX3_changedByMove_5 : decode cX3_changedByMove 5 = .ok (.istore_n 3, 1) := by decide +kernel
theorem dX3_changedByMove_6 : decode cX3_changedByMove 6 = .ok (.aload_n 0, 1) := by decide +kernel
theorem dX3_changedByMove_7 : decode cX3_changedByMove 7 = .ok (.iload_n 2, 1) := by decide +kernel
theorem dX3_changedByMove_8 : decode cX3_changedByMove 8 = .ok (.invokevirtual 167, 3) := by decide +kernel
theorem dX3_changedByMove_11 : decode cX3_changedByMove 11 = .ok (.aload_n 0, 1) := by decide +kernel
theorem dX3_changedByMove_12 : decode cX3_changedByMove 12 = .ok (.iload_n 3, 1) := by decide +kernel
theorem dX3_changedByMove_13 : decode cX3_changedByMove 13 = .ok (.iload_n 2, 1) := by decide +kernel
theorem dX3_changedByMove_14 : decode cX3_changedByMove 14 = .ok (.invokevirtual 224, 3) := by decide +kernel
theorem dX3_changedByMove_17 : decode cX3_changedByMove 17 = .ok (.ireturn, 1) := by decide +kernel
theorem dX3_move_0 : decode cX3_move 0 = .ok (.aload_n 0, 1) := by decide +kernel
theorem dX3_move_1 : decode cX3_move 1 = .ok (.iload_n 1, 1) := by decide +kernel
theorem dX3_move_2 : decode cX3_move 2 = .ok (.invokevirtual 156, 3) := by decide +kernel
theorem dX3_move_5 : decode cX3_move 5 = .ok (.istore_n 3, 1) := by decide +kernel
theorem dX3_move_6 : decode cX3_move 6 = .ok (.aload_n 0, 1) := by decide +kernel
theorem dX3_move_7 : decode cX3_move 7 = .ok (.iload_n 2, 1) := by decide +kernel
theorem dX3_move_8 : decode cX3_move 8 = .ok (.invokevirtual 167, 3) := by decide +kernel
theorem dX3_move_11 : decode cX3_move 11 = .ok (.aload_n 0, 1) := by decide +kernel
theorem dX3_move_12 : decode cX3_move 12 = .ok (.iload_n 3, 1) := by decide +kernel
theorem dX3_move_13 : decode cX3_move 13 = .ok (.iload_n 2, 1) := by decide +kernel
theorem dX3_move_14 : decode cX3_move 14 = .ok (.invokevirtual 224, 3) := by decide +kernel
theorem dX3_move_17 : decode cX3_move 17 = .ok (.ifCond .eq 13, 3) := by decide +kernel
theorem dX3_move_20 : decode cX3_move 20 = .ok (.new 91, 3) := by decide +kernel
theorem dX3_move_23 : decode cX3_move 23 = .ok (.dup, 1) := by decide +kernel
theorem dX3_move_24 : decode cX3_move 24 = .ok (.ldc 227, 2) := by decide +kernel
theorem dX3_move_26 : decode cX3_move 26 = .ok (.invokespecial 95, 3) := by decide +kernel
theorem dX3_move_29 : decode cX3_move 29 = .ok (.athrow, 1) := by decide +kernel
theorem dX3_move_30 : decode cX3_move 30 = .ok (.aload_n 0, 1) := by decide +kernel
theorem dX3_move_31 : decode cX3_move 31 = .ok (.iload_n 3, 1) := by decide +kernel
theorem dX3_move_32 : decode cX3_move 32 = .ok (.iload_n 2, 1) := by decide +kernel
theorem dX3_move_33 : decode cX3_move 33 = .ok (.invokevirtual 150, 3) := by decide +kernel
theorem dX3_move_36 : decode cX3_move 36 = .ok (.iload_n 3, 1) := by decide +kernel
theorem dX3_move_37 : decode cX3_move 37 = .ok (.ireturn, 1) := by decide +kernel
theorem dX3_sortByHits_0 : decode cX3_sortByHits 0 = .ok (.iconst 0, 1) := by decide +kernel
theorem dX3_sortByHits_1 : decode cX3_sortByHits 1 = .ok (.istore_n 1, 1) := by decide +kernel
theorem dX3_sortByHits_2 : decode cX3_sortByHits 2 = .ok (.iconst 0, 1) := by decide +kernel
theorem dX3_sortByHits_3 : decode cX3_sortByHits 3 = .ok (.istore_n 2, 1) := by decide +kernel
theorem dX3_sortByHits_4 : decode cX3_sortByHits 4 = .ok (.iload_n 2, 1) := by decide +kernel
theorem dX3_sortByHits_5 : decode cX3_sortByHits 5 = .ok (.bipush 64, 2) := by decide +kernel
theorem dX3_sortByHits_7 : decode cX3_sortByHits 7 = .ok (.if_icmp .ge 24, 3) := by decide +kernel
theorem dX3_sortByHits_10 : decode cX3_sortByHits 10 = .ok (.aload_n 0, 1) := by decide +kernel
theorem dX3_sortByHits_11 : decode cX3_sortByHits 11 = .ok (.invokevirtual 229, 3) := by decide +kernel
theorem dX3_sortByHits_14 : decode cX3_sortByHits 14 = .ok (.istore_n 3, 1) := by decide +kernel
theorem dX3_sortByHits_15 : decode cX3_sortByHits 15 = .ok (.iload_n 3, 1) := by decide +kernel
theorem dX3_sortByHits_16 : decode cX3_sortByHits 16 = .ok (.ifCond .ne 5, 3) := by decide +kernel
theorem dX3_sortByHits_19 : decode cX3_sortByHits 19 = .ok (.iload_n 1, 1) := by decide +kernel
theorem dX3_sortByHits_20 : decode cX3_sortByHits 20 = .ok (.ireturn, 1) := by decide +kernel
theorem dX3_sortByHits_21 : decode cX3_sortByHits 21 = .ok (.iload_n 1, 1) := by decide +kernel
theorem dX3_sortByHits_22 : decode cX3_sortByHits 22 = .ok (.iload_n 3, 1) := by decide +kernel
theorem dX3_sortByHits_23 : decode cX3_sortByHits 23 = .ok (.iadd, 1) := by decide +kernel
theorem dX3_sortByHits_24 : decode cX3_sortByHits 24 = .ok (.istore_n 1, 1) := by decide +kernel
theorem dX3_sortByHits_25 : decode cX3_sortByHits 25 = .ok (.iinc 2 1, 3) := by decide +kernel
theorem dX3_sortByHits_28 : decode cX3_sortByHits 28 = .ok (.goto (-24), 3) := by decide +kernel
theorem dX3_sortByHits_31 : decode cX3_sortByHits 31 = .ok (.iload_n 1, 1) := by decide +kernel
theorem dX3_sortByHits_32 : decode cX3_sortByHits 32 = .ok (.ireturn, 1) := by decide +kernel
theorem dX3_changedByRange_0 : decode cX3_changedByRange 0 = .ok (.aload_n 0, 1) := by decide +kernel
theorem dX3_changedByRange_1 : decode cX3_changedByRange 1 = .ok (.iload_n 1, 1) := by decide +kernel
theorem dX3_changedByRange_2 : decode cX3_changedByRange 2 = .ok (.invokevirtual 50, 3) := by decide +kernel
theorem dX3_changedByRange_5 : decode cX3_changedByRange 5 = .ok (.iload_n 2, 1) := by decide +kernel
theorem dX3_changedByRange_6 : decode cX3_changedByRange 6 = .ok (.iload_n 3, 1) := by decide +kernel
theorem dX3_changedByRange_7 : decode cX3_changedByRange 7 = .ok (.invokestatic 54, 3) := by decide +kernel
theorem dX3_changedByRange_10 : decode cX3_changedByRange 10 = .ok (.aload_n 0, 1) := by decide +kernel
theorem dX3_changedByRange_11 : decode cX3_changedByRange 11 = .ok (.iload_n 1, 1) := by decide +kernel
theorem dX3_changedByRange_12 : decode cX3_changedByRange 12 = .ok (.iload_n 2, 1) := by decide +kernel
theorem dX3_changedByRange_13 : decode cX3_changedByRange 13 = .ok (.iload_n 3, 1) := by decide +kernel
theorem dX3_changedByRange_14 : decode cX3_changedByRange 14 = .ok (.invokestatic 66, 3) := by decide +kernel
theorem dX3_changedByRange_17 : decode cX3_changedByRange 17 = .ok (.invokevirtual 216, 3) := by decide +kernel
theorem dX3_changedByRange_20 : decode cX3_changedByRange 20 = .ok (.iconst 0, 1) := by decide +kernel
theorem dX3_changedByRange_21 : decode cX3_changedByRange 21 = .ok (.istore 4, 2) := by decide +kernel
theorem dX3_changedByRange_23 : decode cX3_changedByRange 23 = .ok (.iconst 0, 1) := by decide +kernel
theorem dX3_changedByRange_24 : decode cX3_changedByRange 24 = .ok (.istore 5, 2) := by decide +kernel
theorem dX3_changedByRange_26 : decode cX3_changedByRange 26 = .ok (.iload 5, 2) := by decide +kernel
theorem dX3_changedByRange_28 : decode cX3_changedByRange 28 = .ok (.bipush 9, 2) := by decide +kernel
theorem dX3_changedByRange_30 : decode cX3_changedByRange 30 = .ok (.if_icmp .ge 55, 3) := by decide +kernel
theorem dX3_changedByRange_33 : decode cX3_changedByRange 33 = .ok (.iconst 0, 1) := by decide +kernel
theorem dX3_changedByRange_34 : decode cX3_changedByRange 34 = .ok (.istore 6, 2) := by decide +kernel
theorem dX3_changedByRange_36 : decode cX3_changedByRange 36 = .ok (.iload 6, 2) := by decide +kernel
theorem dX3_changedByRange_38 : decode cX3_changedByRange 38 = .ok (.bipush 9, 2) := by decide +kernel
theorem dX3_changedByRange_40 : decode cX3_changedByRange 40 = .ok (.if_icmp .ge 39, 3) := by decide +kernel
theorem dX3_changedByRange_43 : decode cX3_changedByRange 43 = .ok (.aload_n 0, 1) := by decide +kernel
theorem dX3_changedByRange_44 : decode cX3_changedByRange 44 = .ok (.iload 5, 2) := by decide +kernel
theorem dX3_changedByRange_46 : decode cX3_changedByRange 46 = .ok (.invokevirtual 233, 3) := by decide +kernel
theorem dX3_changedByRange_49 : decode cX3_changedByRange 49 = .ok (.aload_n 0, 1) := by decide +kernel
theorem dX3_changedByRange_50 : decode cX3_changedByRange 50 = .ok (.iload 6, 2) := by decide +kernel
theorem dX3_changedByRange_52 : decode cX3_changedByRange 52 = .ok (.invokevirtual 233, 3) := by decide +kernel
theorem dX3_changedByRange_55 : decode cX3_changedByRange 55 = .ok (.if_icmp .eq 18, 3) := by decide +kernel
theorem dX3_changedByRange_58 : decode cX3_changedByRange 58 = .ok (.iload 4, 2) := by decide +kernel
theorem dX3_changedByRange_60 : decode cX3_changedByRange 60 = .ok (.aload_n 0, 1) := by decide +kernel
theorem dX3_changedByRange_61 : decode cX3_changedByRange 61 = .ok (.getfield 33, 3) := by decide +kernel
theorem dX3_changedByRange_64 : decode cX3_changedByRange 64 = .ok (.iload 5, 2) := by decide +kernel
theorem dX3_changedByRange_66 : decode cX3_changedByRange 66 = .ok (.aaload, 1) := by decide +kernel
theorem dX3_changedByRange_67 : decode cX3_changedByRange 67 = .ok (.iload 6, 2) := by decide +kernel
theorem dX3_changedByRange_69 : decode cX3_changedByRange 69 = .ok (.iaload, 1) := by decide +kernel
theorem dX3_changedByRange_70 : decode cX3_changedByRange 70 = .ok (.iadd, 1) := by decide +kernel
theorem dX3_changedByRange_71 : decode cX3_changedByRange 71 = .ok (.istore 4, 2) := by decide +kernel
theorem dX3_changedByRange_73 : decode cX3_changedByRange 73 = .ok (.iinc 6 1, 3) := by decide +kernel
theorem dX3_changedByRange_76 : decode cX3_changedByRange 76 = .ok (.goto (-40), 3) := by decide +kernel
theorem dX3_changedByRange_79 : decode cX3_changedByRange 79 = .ok (.iinc 5 1, 3) := by decide +kernel
theorem dX3_changedByRange_82 : decode cX3_changedByRange 82 = .ok (.goto (-56), 3) := by decide +kernel
theorem dX3_changedByRange_85 : decode cX3_changedByRange 85 = .ok (.iload 4, 2) := by decide +kernel
theorem dX3_changedByRange_87 : decode cX3_changedByRange 87 = .ok (.ireturn, 1) := by decide +kernel
theorem dX3_shadowedShare_0 : decode cX3_shadowedShare 0 = .ok (.aload_n 0, 1) := by decide +kernel
theorem dX3_shadowedShare_1 : decode cX3_shadowedShare 1 = .ok (.aload_n 0, 1) := by decide +kernel
theorem dX3_shadowedShare_2 : decode cX3_shadowedShare 2 = .ok (.getfield 116, 3) := by decide +kernel
theorem dX3_shadowedShare_5 : decode cX3_shadowedShare 5 = .ok (.invokevirtual 237, 3) := by decide +kernel
theorem dX3_shadowedShare_8 : decode cX3_shadowedShare 8 = .ok (.invokestatic 96, 3) := by decide +kernel
theorem dX3_shadowedShare_11 : decode cX3_shadowedShare 11 = .ok (.istore_n 1, 1) := by decide +kernel
theorem dX3_shadowedShare_12 : decode cX3_shadowedShare 12 = .ok (.iload_n 1, 1) := by decide +kernel
theorem dX3_shadowedShare_13 : decode cX3_shadowedShare 13 = .ok (.ifCond .ne 13, 3) := by decide +kernel
theorem dX3_shadowedShare_16 : decode cX3_shadowedShare 16 = .ok (.new 240, 3) := by decide +kernel
theorem dX3_shadowedShare_19 : decode cX3_shadowedShare 19 = .ok (.dup, 1) := by decide +kernel
theorem dX3_shadowedShare_20 : decode cX3_shadowedShare 20 = .ok (.ldc 242, 2) := by decide +kernel
theorem dX3_shadowedShare_22 : decode cX3_shadowedShare 22 = .ok (.invokespecial 244, 3) := by decide +kernel
theorem dX3_shadowedShare_25 : decode cX3_shadowedShare 25 = .ok (.athrow, 1) := by decide +kernel
theorem dX3_shadowedShare_26 : decode cX3_shadowedShare 26 = .ok (.iconst 0, 1) := by decide +kernel
theorem dX3_shadowedShare_27 : decode cX3_shadowedShare 27 = .ok (.istore_n 2, 1) := by decide +kernel
theorem dX3_shadowedShare_28 : decode cX3_shadowedShare 28 = .ok (.iconst 0, 1) := by decide +kernel
theorem dX3_shadowedShare_29 : decode cX3_shadowedShare 29 = .ok (.istore_n 3, 1) := by decide +kernel
theorem dX3_shadowedShare_30 : decode cX3_shadowedShare 30 = .ok (.iload_n 3, 1) := by decide +kernel
theorem dX3_shadowedShare_31 : decode cX3_shadowedShare 31 = .ok (.aload_n 0, 1) := by decide +kernel
theorem dX3_shadowedShare_32 : decode cX3_shadowedShare 32 = .ok (.getfield 116, 3) := by decide +kernel
theorem dX3_shadowedShare_35 : decode cX3_shadowedShare 35 = .ok (.if_icmp .ge 20, 3) := by decide +kernel
theorem dX3_shadowedShare_38 : decode cX3_shadowedShare 38 = .ok (.aload_n 0, 1) := by decide +kernel
theorem dX3_shadowedShare_39 : decode cX3_shadowedShare 39 = .ok (.iload_n 3, 1) := by decide +kernel
theorem dX3_shadowedShare_40 : decode cX3_shadowedShare 40 = .ok (.invokevirtual 219, 3) := by decide +kernel
theorem dX3_shadowedShare_43 : decode cX3_shadowedShare 43 = .ok (.ifCond .eq 6, 3) := by decide +kernel
theorem dX3_shadowedShare_46 : decode cX3_shadowedShare 46 = .ok (.iinc 2 1, 3) := by decide +kernel
theorem dX3_shadowedShare_49 : decode cX3_shadowedShare 49 = .ok (.iinc 3 1, 3) := by decide +kernel
theorem dX3_shadowedShare_52 : decode cX3_shadowedShare 52 = .ok (.goto (-22), 3) := by decide +kernel
theorem dX3_shadowedShare_55 : decode cX3_shadowedShare 55 = .ok (.iload_n 2, 1) := by decide +kernel
theorem dX3_shadowedShare_56 : decode cX3_shadowedShare 56 = .ok (.i2f, 1) := by decide +kernel
theorem dX3_shadowedShare_57 : decode cX3_shadowedShare 57 = .ok (.iload_n 1, 1) := by decide +kernel
theorem dX3_shadowedShare_58 : decode cX3_shadowedShare 58 = .ok (.i2f, 1) := by decide +kernel
theorem dX3_shadowedShare_59 : decode cX3_shadowedShare 59 = .ok (.fdiv, 1) := by decide +kernel
theorem dX3_shadowedShare_60 : decode cX3_shadowedShare 60 = .ok (.freturn, 1) := by decide +kernel
theorem dX3_meanHits_0 : decode cX3_meanHits 0 = .ok (.aload_n 0, 1) := by decide +kernel
theorem dX3_meanHits_1 : decode cX3_meanHits 1 = .ok (.getfield 116, 3) := by decide +kernel
theorem dX3_meanHits_4 : decode cX3_meanHits 4 = .ok (.ifCond .ne 13, 3) := by decide +kernel
theorem dX3_meanHits_7 : decode cX3_meanHits 7 = .ok (.new 240, 3) := by decide +kernel
theorem dX3_meanHits_10 : decode cX3_meanHits 10 = .ok (.dup, 1) := by decide +kernel
theorem dX3_meanHits_11 : decode cX3_meanHits 11 = .ok (.ldc 245, 2) := by decide +kernel
theorem dX3_meanHits_13 : decode cX3_meanHits 13 = .ok (.invokespecial 244, 3) := by decide +kernel
theorem dX3_meanHits_16 : decode cX3_meanHits 16 = .ok (.athrow, 1) := by decide +kernel
theorem dX3_meanHits_17 : decode cX3_meanHits 17 = .ok (.iconst 0, 1) := by decide +kernel
theorem dX3_meanHits_18 : decode cX3_meanHits 18 = .ok (.istore_n 1, 1) := by decide +kernel
theorem dX3_meanHits_19 : decode cX3_meanHits 19 = .ok (.iconst 0, 1) := by decide +kernel
theorem dX3_meanHits_20 : decode cX3_meanHits 20 = .ok (.istore_n 2, 1) := by decide +kernel
theorem dX3_meanHits_21 : decode cX3_meanHits 21 = .ok (.iload_n 2, 1) := by decide +kernel
theorem dX3_meanHits_22 : decode cX3_meanHits 22 = .ok (.aload_n 0, 1) := by decide +kernel
theorem dX3_meanHits_23 : decode cX3_meanHits 23 = .ok (.getfield 116, 3) := by decide +kernel
theorem dX3_meanHits_26 : decode cX3_meanHits 26 = .ok (.if_icmp .ge 21, 3) := by decide +kernel
theorem dX3_meanHits_29 : decode cX3_meanHits 29 = .ok (.iload_n 1, 1) := by decide +kernel
theorem dX3_meanHits_30 : decode cX3_meanHits 30 = .ok (.aload_n 0, 1) := by decide +kernel
theorem dX3_meanHits_31 : decode cX3_meanHits 31 = .ok (.getfield 17, 3) := by decide +kernel
theorem dX3_meanHits_34 : decode cX3_meanHits 34 = .ok (.iload_n 2, 1) := by decide +kernel
theorem dX3_meanHits_35 : decode cX3_meanHits 35 = .ok (.aaload, 1) := by decide +kernel
theorem dX3_meanHits_36 : decode cX3_meanHits 36 = .ok (.getfield 195, 3) := by decide +kernel
theorem dX3_meanHits_39 : decode cX3_meanHits 39 = .ok (.iadd, 1) := by decide +kernel
theorem dX3_meanHits_40 : decode cX3_meanHits 40 = .ok (.istore_n 1, 1) := by decide +kernel
theorem dX3_meanHits_41 : decode cX3_meanHits 41 = .ok (.iinc 2 1, 3) := by decide +kernel
theorem dX3_meanHits_44 : decode cX3_meanHits 44 = .ok (.goto (-23), 3) := by decide +kernel
theorem dX3_meanHits_47 : decode cX3_meanHits 47 = .ok (.iload_n 1, 1) := by decide +kernel
theorem dX3_meanHits_48 : decode cX3_meanHits 48 = .ok (.i2d, 1) := by decide +kernel
theorem dX3_meanHits_49 : decode cX3_meanHits 49 = .ok (.aload_n 0, 1) := by decide +kernel
theorem dX3_meanHits_50 : decode cX3_meanHits 50 = .ok (.getfield 116, 3) := by decide +kernel
theorem dX3_meanHits_53 : decode cX3_meanHits 53 = .ok (.i2d, 1) := by decide +kernel
theorem dX3_meanHits_54 : decode cX3_meanHits 54 = .ok (.ddiv, 1) := by decide +kernel
theorem dX3_meanHits_55 : decode cX3_meanHits 55 = .ok (.dreturn, 1) := by decide +kernel
theorem dX3_requireObject_0 : decode cX3_requireObject 0 = .ok (.iload_n 1, 1) := by decide +kernel
theorem dX3_requireObject_1 : decode cX3_requireObject 1 = .ok (.ifCond .lt 11, 3) := by decide +kernel
theorem dX3_requireObject_4 : decode cX3_requireObject 4 = .ok (.iload_n 1, 1) := by decide +kernel
theorem dX3_requireObject_5 : decode cX3_requireObject 5 = .ok (.aload_n 0, 1) := by decide +kernel
theorem dX3_requireObject_6 : decode cX3_requireObject 6 = .ok (.getfield 39, 3) := by decide +kernel
theorem dX3_requireObject_9 : decode cX3_requireObject 9 = .ok (.if_icmp .lt 13, 3) := by decide +kernel
theorem dX3_requireObject_12 : decode cX3_requireObject 12 = .ok (.new 125, 3) := by decide +kernel
theorem dX3_requireObject_15 : decode cX3_requireObject 15 = .ok (.dup, 1) := by decide +kernel
theorem dX3_requireObject_16 : decode cX3_requireObject 16 = .ok (.ldc 247, 2) := by decide +kernel
theorem dX3_requireObject_18 : decode cX3_requireObject 18 = .ok (.invokespecial 129, 3) := by decide +kernel
theorem dX3_requireObject_21 : decode cX3_requireObject 21 = .ok (.athrow, 1) := by decide +kernel
theorem dX3_requireObject_22 : decode cX3_requireObject 22 = .ok (.return_, 1) := by decide +kernel
theorem dX3_requireObjectOrNone_0 : decode cX3_requireObjectOrNone 0 = .ok (.iload_n 1, 1) := by decide +kernel
theorem dX3_requireObjectOrNone_1 : decode cX3_requireObjectOrNone 1 = .ok (.iconst (-1), 1) := by decide +kernel
theorem dX3_requireObjectOrNone_2 : decode cX3_requireObjectOrNone 2 = .ok (.if_icmp .eq 8, 3) := by decide +kernel
theorem dX3_requireObjectOrNone_5 : decode cX3_requireObjectOrNone 5 = .ok (.aload_n 0, 1) := by decide +kernel
theorem dX3_requireObjectOrNone_6 : decode cX3_requireObjectOrNone 6 = .ok (.iload_n 1, 1) := by decide +kernel
theorem dX3_requireObjectOrNone_7 : decode cX3_requireObjectOrNone 7 = .ok (.invokevirtual 50, 3) := by decide +kernel
theorem dX3_requireObjectOrNone_10 : decode cX3_requireObjectOrNone 10 = .ok (.return_, 1) := by decide +kernel
theorem dX3_requirePosition_0 : decode cX3_requirePosition 0 = .ok (.iload_n 1, 1) := by decide +kernel
theorem dX3_requirePosition_1 : decode cX3_requirePosition 1 = .ok (.ifCond .lt 11, 3) := by decide +kernel
theorem dX3_requirePosition_4 : decode cX3_requirePosition 4 = .ok (.iload_n 1, 1) := by decide +kernel
theorem dX3_requirePosition_5 : decode cX3_requirePosition 5 = .ok (.aload_n 0, 1) := by decide +kernel
theorem dX3_requirePosition_6 : decode cX3_requirePosition 6 = .ok (.getfield 116, 3) := by decide +kernel
theorem dX3_requirePosition_9 : decode cX3_requirePosition 9 = .ok (.if_icmp .lt 13, 3) := by decide +kernel
theorem dX3_requirePosition_12 : decode cX3_requirePosition 12 = .ok (.new 125, 3) := by decide +kernel
theorem dX3_requirePosition_15 : decode cX3_requirePosition 15 = .ok (.dup, 1) := by decide +kernel
theorem dX3_requirePosition_16 : decode cX3_requirePosition 16 = .ok (.ldc 127, 2) := by decide +kernel
theorem dX3_requirePosition_18 : decode cX3_requirePosition 18 = .ok (.invokespecial 129, 3) := by decide +kernel
theorem dX3_requirePosition_21 : decode cX3_requirePosition 21 = .ok (.athrow, 1) := by decide +kernel
theorem dX3_requirePosition_22 : decode cX3_requirePosition 22 = .ok (.return_, 1) := by decide +kernel
theorem dX3_requireRule_0 : decode cX3_requireRule 0 = .ok (.iconst 0, 1) := by decide +kernel
theorem dX3_requireRule_1 : decode cX3_requireRule 1 = .ok (.istore_n 2, 1) := by decide +kernel
theorem dX3_requireRule_2 : decode cX3_requireRule 2 = .ok (.iload_n 2, 1) := by decide +kernel
theorem dX3_requireRule_3 : decode cX3_requireRule 3 = .ok (.aload_n 0, 1) := by decide +kernel
theorem dX3_requireRule_4 : decode cX3_requireRule 4 = .ok (.getfield 116, 3) := by decide +kernel
theorem dX3_requireRule_7 : decode cX3_requireRule 7 = .ok (.if_icmp .ge 24, 3) := by decide +kernel
theorem dX3_requireRule_10 : decode cX3_requireRule 10 = .ok (.aload_n 0, 1) := by decide +kernel
theorem dX3_requireRule_11 : decode cX3_requireRule 11 = .ok (.getfield 17, 3) := by decide +kernel
theorem dX3_requireRule_14 : decode cX3_requireRule 14 = .ok (.iload_n 2, 1) := by decide +kernel
theorem dX3_requireRule_15 : decode cX3_requireRule 15 = .ok (.aaload, 1) := by decide +kernel
theorem dX3_requireRule_16 : decode cX3_requireRule 16 = .ok (.getfield 153, 3) := by decide +kernel
theorem dX3_requireRule_19 : decode cX3_requireRule 19 = .ok (.iload_n 1, 1) := by decide +kernel
theorem dX3_requireRule_20 : decode cX3_requireRule 20 = .ok (.if_icmp .ne 5, 3) := by decide +kernel
theorem dX3_requireRule_23 : decode cX3_requireRule 23 = .ok (.iload_n 2, 1) := by decide +kernel
theorem dX3_requireRule_24 : decode cX3_requireRule 24 = .ok (.ireturn, 1) := by decide +kernel
theorem dX3_requireRule_25 : decode cX3_requireRule 25 = .ok (.iinc 2 1, 3) := by decide +kernel
theorem dX3_requireRule_28 : decode cX3_requireRule 28 = .ok (.goto (-26), 3) := by decide +kernel
theorem dX3_requireRule_31 : decode cX3_requireRule 31 = .ok (.new 104, 3) := by decide +kernel
theorem dX3_requireRule_34 : decode cX3_requireRule 34 = .ok (.dup, 1) := by decide +kernel
theorem dX3_requireRule_35 : decode cX3_requireRule 35 = .ok (.ldc 249, 2) := by decide +kernel
theorem dX3_requireRule_37 : decode cX3_requireRule 37 = .ok (.invokespecial 108, 3) := by decide +kernel
theorem dX3_requireRule_40 : decode cX3_requireRule 40 = .ok (.athrow, 1) := by decide +kernel
theorem dX3_requireValue_0 : decode cX3_requireValue 0 = .ok (.iload_n 0, 1) := by decide +kernel
theorem dX3_requireValue_1 : decode cX3_requireValue 1 = .ok (.ifCond .lt 9, 3) := by decide +kernel
theorem dX3_requireValue_4 : decode cX3_requireValue 4 = .ok (.iload_n 0, 1) := by decide +kernel
theorem dX3_requireValue_5 : decode cX3_requireValue 5 = .ok (.bipush 32, 2) := by decide +kernel
theorem dX3_requireValue_7 : decode cX3_requireValue 7 = .ok (.if_icmp .lt 13, 3) := by decide +kernel
theorem dX3_requireValue_10 : decode cX3_requireValue 10 = .ok (.new 82, 3) := by decide +kernel
theorem dX3_requireValue_13 : decode cX3_requireValue 13 = .ok (.dup, 1) := by decide +kernel
theorem dX3_requireValue_14 : decode cX3_requireValue 14 = .ok (.ldc 251, 2) := by decide +kernel
theorem dX3_requireValue_16 : decode cX3_requireValue 16 = .ok (.invokespecial 86, 3) := by decide +kernel
theorem dX3_requireValue_19 : decode cX3_requireValue 19 = .ok (.athrow, 1) := by decide +kernel
theorem dX3_requireValue_20 : decode cX3_requireValue 20 = .ok (.return_, 1) := by decide +kernel
theorem dX3_requireRange_0 : decode cX3_requireRange 0 = .ok (.iload_n 0, 1) := by decide +kernel
theorem dX3_requireRange_1 : decode cX3_requireRange 1 = .ok (.invokestatic 113, 3) := by decide +kernel
theorem dX3_requireRange_4 : decode cX3_requireRange 4 = .ok (.iload_n 1, 1) := by decide +kernel
theorem dX3_requireRange_5 : decode cX3_requireRange 5 = .ok (.invokestatic 113, 3) := by decide +kernel
theorem dX3_requireRange_8 : decode cX3_requireRange 8 = .ok (.iload_n 1, 1) := by decide +kernel
theorem dX3_requireRange_9 : decode cX3_requireRange 9 = .ok (.iload_n 0, 1) := by decide +kernel
theorem dX3_requireRange_10 : decode cX3_requireRange 10 = .ok (.if_icmp .ge 13, 3) := by decide +kernel
theorem dX3_requireRange_13 : decode cX3_requireRange 13 = .ok (.new 82, 3) := by decide +kernel
theorem dX3_requireRange_16 : decode cX3_requireRange 16 = .ok (.dup, 1) := by decide +kernel
theorem dX3_requireRange_17 : decode cX3_requireRange 17 = .ok (.ldc 253, 2) := by decide +kernel
theorem dX3_requireRange_19 : decode cX3_requireRange 19 = .ok (.invokespecial 86, 3) := by decide +kernel
theorem dX3_requireRange_22 : decode cX3_requireRange 22 = .ok (.athrow, 1) := by decide +kernel
theorem dX3_requireRange_23 : decode cX3_requireRange 23 = .ok (.return_, 1) := by decide +kernel
theorem dX3_requirePacket_0 : decode cX3_requirePacket 0 = .ok (.iload_n 0, 1) := by decide +kernel
theorem dX3_requirePacket_1 : decode cX3_requirePacket 1 = .ok (.invokestatic 113, 3) := by decide +kernel
theorem dX3_requirePacket_4 : decode cX3_requirePacket 4 = .ok (.iload_n 1, 1) := by decide +kernel
theorem dX3_requirePacket_5 : decode cX3_requirePacket 5 = .ok (.invokestatic 113, 3) := by decide +kernel
theorem dX3_requirePacket_8 : decode cX3_requirePacket 8 = .ok (.iload_n 2, 1) := by decide +kernel
theorem dX3_requirePacket_9 : decode cX3_requirePacket 9 = .ok (.invokestatic 113, 3) := by decide +kernel
theorem dX3_requirePacket_12 : decode cX3_requirePacket 12 = .ok (.return_, 1) := by decide +kernel
theorem dX3_requireOwner_0 : decode cX3_requireOwner 0 = .ok (.iload_n 0, 1) := by decide +kernel
theorem dX3_requireOwner_1 : decode cX3_requireOwner 1 = .ok (.ifCond .lt 9, 3) := by decide +kernel
theorem dX3_requireOwner_4 : decode cX3_requireOwner 4 = .ok (.iload_n 0, 1) := by decide +kernel
theorem dX3_requireOwner_5 : decode cX3_requireOwner 5 = .ok (.bipush 6, 2) := by decide +kernel
theorem dX3_requireOwner_7 : decode cX3_requireOwner 7 = .ok (.if_icmp .lt 13, 3) := by decide +kernel
theorem dX3_requireOwner_10 : decode cX3_requireOwner 10 = .ok (.new 82, 3) := by decide +kernel
theorem dX3_requireOwner_13 : decode cX3_requireOwner 13 = .ok (.dup, 1) := by decide +kernel
theorem dX3_requireOwner_14 : decode cX3_requireOwner 14 = .ok (.ldc 255, 2) := by decide +kernel
theorem dX3_requireOwner_16 : decode cX3_requireOwner 16 = .ok (.invokespecial 86, 3) := by decide +kernel
theorem dX3_requireOwner_19 : decode cX3_requireOwner 19 = .ok (.athrow, 1) := by decide +kernel
theorem dX3_requireOwner_20 : decode cX3_requireOwner 20 = .ok (.return_, 1) := by decide +kernel
theorem dX3_requireDays_0 : decode cX3_requireDays 0 = .ok (.iload_n 0, 1) := by decide +kernel
theorem dX3_requireDays_1 : decode cX3_requireDays 1 = .ok (.iconst 1, 1) := by decide +kernel
theorem dX3_requireDays_2 : decode cX3_requireDays 2 = .ok (.if_icmp .lt 9, 3) := by decide +kernel
theorem dX3_requireDays_5 : decode cX3_requireDays 5 = .ok (.iload_n 0, 1) := by decide +kernel
theorem dX3_requireDays_6 : decode cX3_requireDays 6 = .ok (.bipush 99, 2) := by decide +kernel
theorem dX3_requireDays_8 : decode cX3_requireDays 8 = .ok (.if_icmp .le 14, 3) := by decide +kernel
theorem dX3_requireDays_11 : decode cX3_requireDays 11 = .ok (.new 82, 3) := by decide +kernel
theorem dX3_requireDays_14 : decode cX3_requireDays 14 = .ok (.dup, 1) := by decide +kernel
theorem dX3_requireDays_15 : decode cX3_requireDays 15 = .ok (.ldc_w 257, 3) := by decide +kernel
theorem dX3_requireDays_18 : decode cX3_requireDays 18 = .ok (.invokespecial 86, 3) := by decide +kernel
theorem dX3_requireDays_21 : decode cX3_requireDays 21 = .ok (.athrow, 1) := by decide +kernel
theorem dX3_requireDays_22 : decode cX3_requireDays 22 = .ok (.return_, 1) := by decide +kernel
theorem dX3_contains_0 : decode cX3_contains 0 = .ok (.iload_n 0, 1) := by decide +kernel
theorem dX3_contains_1 : decode cX3_contains 1 = .ok (.iload_n 1, 1) := by decide +kernel
theorem dX3_contains_2 : decode cX3_contains 2 = .ok (.iushr, 1) := by decide +kernel
theorem dX3_contains_3 : decode cX3_contains 3 = .ok (.iconst 1, 1) := by decide +kernel
theorem dX3_contains_4 : decode cX3_contains 4 = .ok (.iand, 1) := by decide +kernel
theorem dX3_contains_5 : decode cX3_contains 5 = .ok (.ifCond .eq 7, 3) := by decide +kernel
theorem dX3_contains_8 : decode cX3_contains 8 = .ok (.iconst 1, 1) := by decide +kernel
theorem dX3_contains_9 : decode cX3_contains 9 = .ok (.goto 4, 3) := by decide +kernel
theorem dX3_contains_12 : decode cX3_contains 12 = .ok (.iconst 0, 1) := by decide +kernel
theorem dX3_contains_13 : decode cX3_contains 13 = .ok (.ireturn, 1) := by decide +kernel
theorem dX3_rangeOf_0 : decode cX3_rangeOf 0 = .ok (.iconst (-1), 1) := by decide +kernel
theorem dX3_rangeOf_1 : decode cX3_rangeOf 1 = .ok (.iload_n 0, 1) := by decide +kernel
theorem dX3_rangeOf_2 : decode cX3_rangeOf 2 = .ok (.ishl, 1) := by decide +kernel
theorem dX3_rangeOf_3 : decode cX3_rangeOf 3 = .ok (.iconst (-1), 1) := by decide +kernel
theorem dX3_rangeOf_4 : decode cX3_rangeOf 4 = .ok (.bipush 31, 2) := by decide +kernel
theorem dX3_rangeOf_6 : decode cX3_rangeOf 6 = .ok (.iload_n 1, 1) := by decide +kernel
theorem dX3_rangeOf_7 : decode cX3_rangeOf 7 = .ok (.isub, 1) := by decide +kernel
theorem dX3_rangeOf_8 : decode cX3_rangeOf 8 = .ok (.iushr, 1) := by decide +kernel
theorem dX3_rangeOf_9 : decode cX3_rangeOf 9 = .ok (.iand, 1) := by decide +kernel
theorem dX3_rangeOf_10 : decode cX3_rangeOf 10 = .ok (.ireturn, 1) := by decide +kernel
theorem dX3_valuesOf_0 : decode cX3_valuesOf 0 = .ok (.iload_n 2, 1) := by decide +kernel
theorem dX3_valuesOf_1 : decode cX3_valuesOf 1 = .ok (.bipush 8, 2) := by decide +kernel
theorem dX3_valuesOf_3 : decode cX3_valuesOf 3 = .ok (.if_icmp .lt 5, 3) := by decide +kernel
theorem dX3_valuesOf_6 : decode cX3_valuesOf 6 = .ok (.iconst 0, 1) := by decide +kernel
theorem dX3_valuesOf_7 : decode cX3_valuesOf 7 = .ok (.ireturn, 1) := by decide +kernel
theorem dX3_valuesOf_8 : decode cX3_valuesOf 8 = .ok (.aload_n 0, 1) := by decide +kernel
theorem dX3_valuesOf_9 : decode cX3_valuesOf 9 = .ok (.iload_n 1, 1) := by decide +kernel
theorem dX3_valuesOf_10 : decode cX3_valuesOf 10 = .ok (.aaload, 1) := by decide +kernel
theorem dX3_valuesOf_11 : decode cX3_valuesOf 11 = .ok (.invokevirtual 259, 3) := by decide +kernel
theorem dX3_valuesOf_14 : decode cX3_valuesOf 14 = .ok (.istore_n 3, 1) := by decide +kernel
theorem dX3_valuesOf_15 : decode cX3_valuesOf 15 = .ok (.iconst 0, 1) := by decide +kernel
theorem dX3_valuesOf_16 : decode cX3_valuesOf 16 = .ok (.istore 4, 2) := by decide +kernel
theorem dX3_valuesOf_18 : decode cX3_valuesOf 18 = .ok (.iload 4, 2) := by decide +kernel
theorem dX3_valuesOf_20 : decode cX3_valuesOf 20 = .ok (.bipush 8, 2) := by decide +kernel
theorem dX3_valuesOf_22 : decode cX3_valuesOf 22 = .ok (.if_icmp .ge 35, 3) := by decide +kernel
theorem dX3_valuesOf_25 : decode cX3_valuesOf 25 = .ok (.aload_n 0, 1) := by decide +kernel
theorem dX3_valuesOf_26 : decode cX3_valuesOf 26 = .ok (.iload_n 1, 1) := by decide +kernel
theorem dX3_valuesOf_27 : decode cX3_valuesOf 27 = .ok (.aaload, 1) := by decide +kernel
theorem dX3_valuesOf_28 : decode cX3_valuesOf 28 = .ok (.getfield 75, 3) := by decide +kernel
theorem dX3_valuesOf_31 : decode cX3_valuesOf 31 = .ok (.iload 4, 2) := by decide +kernel
theorem dX3_valuesOf_33 : decode cX3_valuesOf 33 = .ok (.invokestatic 78, 3) := by decide +kernel
theorem dX3_valuesOf_36 : decode cX3_valuesOf 36 = .ok (.ifCond .eq 15, 3) := by decide +kernel
theorem dX3_valuesOf_39 : decode cX3_valuesOf 39 = .ok (.iload_n 3, 1) := by decide +kernel
theorem dX3_valuesOf_40 : decode cX3_valuesOf 40 = .ok (.aload_n 0, 1) := by decide +kernel
theorem dX3_valuesOf_41 : decode cX3_valuesOf 41 = .ok (.iload 4, 2) := by decide +kernel
theorem dX3_valuesOf_43 : decode cX3_valuesOf 43 = .ok (.iload_n 2, 1) := by decide +kernel
theorem dX3_valuesOf_44 : decode cX3_valuesOf 44 = .ok (.iconst 1, 1) := by decide +kernel
theorem dX3_valuesOf_45 : decode cX3_valuesOf 45 = .ok (.iadd, 1) := by decide +kernel
theorem dX3_valuesOf_46 : decode cX3_valuesOf 46 = .ok (.invokestatic 109, 3) := by decide +kernel
theorem dX3_valuesOf_49 : decode cX3_valuesOf 49 = .ok (.ior, 1) := by decide +kernel
theorem dX3_valuesOf_50 : decode cX3_valuesOf 50 = .ok (.istore_n 3, 1) := by decide +kernel
theorem dX3_valuesOf_51 : decode cX3_valuesOf 51 = .ok (.iinc 4 1, 3) := by decide +kernel
theorem dX3_valuesOf_54 : decode cX3_valuesOf 54 = .ok (.goto (-36), 3) := by decide +kernel
theorem dX3_valuesOf_57 : decode cX3_valuesOf 57 = .ok (.iload_n 3, 1) := by decide +kernel
theorem dX3_valuesOf_58 : decode cX3_valuesOf 58 = .ok (.ireturn, 1) := by decide +kernel
theorem dX3_needs_0 : decode cX3_needs 0 = .ok (.iload_n 3, 1) := by decide +kernel
theorem dX3_needs_1 : decode cX3_needs 1 = .ok (.bipush 8, 2) := by decide +kernel
theorem dX3_needs_3 : decode cX3_needs 3 = .ok (.if_icmp .lt 5, 3) := by decide +kernel
theorem dX3_needs_6 : decode cX3_needs 6 = .ok (.iconst 0, 1) := by decide +kernel
theorem dX3_needs_7 : decode cX3_needs 7 = .ok (.ireturn, 1) := by decide +kernel
theorem dX3_needs_8 : decode cX3_needs 8 = .ok (.aload_n 0, 1) := by decide +kernel
theorem dX3_needs_9 : decode cX3_needs 9 = .ok (.iload_n 1, 1) := by decide +kernel
theorem dX3_needs_10 : decode cX3_needs 10 = .ok (.aaload, 1) := by decide +kernel
theorem dX3_needs_11 : decode cX3_needs 11 = .ok (.getfield 75, 3) := by decide +kernel
theorem dX3_needs_14 : decode cX3_needs 14 = .ok (.istore 4, 2) := by decide +kernel
theorem dX3_needs_16 : decode cX3_needs 16 = .ok (.iload 4, 2) := by decide +kernel
theorem dX3_needs_18 : decode cX3_needs 18 = .ok (.iload_n 2, 1) := by decide +kernel
theorem dX3_needs_19 : decode cX3_needs 19 = .ok (.invokestatic 78, 3) := by decide +kernel
theorem dX3_needs_22 : decode cX3_needs 22 = .ok (.ifCond .eq 5, 3) := by decide +kernel
theorem dX3_needs_25 : decode cX3_needs 25 = .ok (.iconst 1, 1) := by decide +kernel
theorem dX3_needs_26 : decode cX3_needs 26 = .ok (.ireturn, 1) := by decide +kernel
theorem dX3_needs_27 : decode cX3_needs 27 = .ok (.iconst 0, 1) := by decide +kernel
theorem dX3_needs_28 : decode cX3_needs 28 = .ok (.istore 5, 2) := by decide +kernel
theorem dX3_needs_30 : decode cX3_needs 30 = .ok (.iload 5, 2) := by decide +kernel
theorem dX3_needs_32 : decode cX3_needs 32 = .ok (.bipush 8, 2) := by decide +kernel
theorem dX3_needs_34 : decode cX3_needs 34 = .ok (.if_icmp .ge 34, 3) := by decide +kernel
theorem dX3_needs_37 : decode cX3_needs 37 = .ok (.iload 4, 2) := by decide +kernel
theorem dX3_needs_39 : decode cX3_needs 39 = .ok (.iload 5, 2) := by decide +kernel
theorem dX3_needs_41 : decode cX3_needs 41 = .ok (.invokestatic 78, 3) := by decide +kernel
theorem dX3_needs_44 : decode cX3_needs 44 = .ok (.ifCond .eq 18, 3) := by decide +kernel
theorem dX3_needs_47 : decode cX3_needs 47 = .ok (.aload_n 0, 1) := by decide +kernel
theorem dX3_needs_48 : decode cX3_needs 48 = .ok (.iload 5, 2) := by decide +kernel
theorem dX3_needs_50 : decode cX3_needs 50 = .ok (.iload_n 2, 1) := by decide +kernel
theorem dX3_needs_51 : decode cX3_needs 51 = .ok (.iload_n 3, 1) := by decide +kernel
theorem dX3_needs_52 : decode cX3_needs 52 = .ok (.iconst 1, 1) := by decide +kernel
theorem dX3_needs_53 : decode cX3_needs 53 = .ok (.iadd, 1) := by decide +kernel
theorem dX3_needs_54 : decode cX3_needs 54 = .ok (.invokestatic 87, 3) := by decide +kernel
theorem dX3_needs_57 : decode cX3_needs 57 = .ok (.ifCond .eq 5, 3) := by decide +kernel
theorem dX3_needs_60 : decode cX3_needs 60 = .ok (.iconst 1, 1) := by decide +kernel
theorem dX3_needs_61 : decode cX3_needs 61 = .ok (.ireturn, 1) := by decide +kernel
theorem dX3_needs_62 : decode cX3_needs 62 = .ok (.iinc 5 1, 3) := by decide +kernel
theorem dX3_needs_65 : decode cX3_needs 65 = .ok (.goto (-35), 3) := by decide +kernel
theorem dX3_needs_68 : decode cX3_needs 68 = .ok (.iconst 0, 1) := by decide +kernel
theorem dX3_needs_69 : decode cX3_needs 69 = .ok (.ireturn, 1) := by decide +kernel
theorem dX3_isOrNeeds_0 : decode cX3_isOrNeeds 0 = .ok (.iload_n 1, 1) := by decide +kernel
theorem dX3_isOrNeeds_1 : decode cX3_isOrNeeds 1 = .ok (.iconst (-1), 1) := by decide +kernel
theorem dX3_isOrNeeds_2 : decode cX3_isOrNeeds 2 = .ok (.if_icmp .eq 25, 3) := by decide +kernel
theorem dX3_isOrNeeds_5 : decode cX3_isOrNeeds 5 = .ok (.iload_n 1, 1) := by decide +kernel
theorem dX3_isOrNeeds_6 : decode cX3_isOrNeeds 6 = .ok (.iload_n 2, 1) := by decide +kernel
theorem dX3_isOrNeeds_7 : decode cX3_isOrNeeds 7 = .ok (.if_icmp .eq 16, 3) := by decide +kernel
theorem dX3_isOrNeeds_10 : decode cX3_isOrNeeds 10 = .ok (.aload_n 0, 1) := by decide +kernel
theorem dX3_isOrNeeds_11 : decode cX3_isOrNeeds 11 = .ok (.getfield 11, 3) := by decide +kernel
theorem dX3_isOrNeeds_14 : decode cX3_isOrNeeds 14 = .ok (.iload_n 1, 1) := by decide +kernel
theorem dX3_isOrNeeds_15 : decode cX3_isOrNeeds 15 = .ok (.iload_n 2, 1) := by decide +kernel
theorem dX3_isOrNeeds_16 : decode cX3_isOrNeeds 16 = .ok (.iconst 0, 1) := by decide +kernel
theorem dX3_isOrNeeds_17 : decode cX3_isOrNeeds 17 = .ok (.invokestatic 87, 3) := by decide +kernel
theorem dX3_isOrNeeds_20 : decode cX3_isOrNeeds 20 = .ok (.ifCond .eq 7, 3) := by decide +kernel
theorem dX3_isOrNeeds_23 : decode cX3_isOrNeeds 23 = .ok (.iconst 1, 1) := by decide +kernel
theorem dX3_isOrNeeds_24 : decode cX3_isOrNeeds 24 = .ok (.goto 4, 3) := by decide +kernel
theorem dX3_isOrNeeds_27 : decode cX3_isOrNeeds 27 = .ok (.iconst 0, 1) := by decide +kernel
theorem dX3_isOrNeeds_28 : decode cX3_isOrNeeds 28 = .ok (.ireturn, 1) := by decide +kernel
theorem dX3_updateMatching_0 : decode cX3_updateMatching 0 = .ok (.iconst 0, 1) := by decide +kernel
theorem dX3_updateMatching_1 : decode cX3_updateMatching 1 = .ok (.istore_n 1, 1) := by decide +kernel
theorem dX3_updateMatching_2 : decode cX3_updateMatching 2 = .ok (.iload_n 1, 1) := by decide +kernel
theorem dX3_updateMatching_3 : decode cX3_updateMatching 3 = .ok (.aload_n 0, 1) := by decide +kernel
theorem dX3_updateMatching_4 : decode cX3_updateMatching 4 = .ok (.getfield 116, 3) := by decide +kernel
theorem dX3_updateMatching_7 : decode cX3_updateMatching 7 = .ok (.if_icmp .ge 63, 3) := by decide +kernel
theorem dX3_updateMatching_10 : decode cX3_updateMatching 10 = .ok (.aload_n 0, 1) := by decide +kernel
theorem dX3_updateMatching_11 : decode cX3_updateMatching 11 = .ok (.getfield 17, 3) := by decide +kernel
theorem dX3_updateMatching_14 : decode cX3_updateMatching 14 = .ok (.iload_n 1, 1) := by decide +kernel
theorem dX3_updateMatching_15 : decode cX3_updateMatching 15 = .ok (.aaload, 1) := by decide +kernel
theorem dX3_updateMatching_16 : decode cX3_updateMatching 16 = .ok (.astore_n 2, 1) := by decide +kernel
theorem dX3_updateMatching_17 : decode cX3_updateMatching 17 = .ok (.iconst 0, 1) := by decide +kernel
theorem dX3_updateMatching_18 : decode cX3_updateMatching 18 = .ok (.istore_n 3, 1) := by decide +kernel
theorem dX3_updateMatching_19 : decode cX3_updateMatching 19 = .ok (.iload_n 3, 1) := by decide +kernel
theorem dX3_updateMatching_20 : decode cX3_updateMatching 20 = .ok (.iconst 3, 1) := by decide +kernel
theorem dX3_updateMatching_21 : decode cX3_updateMatching 21 = .ok (.if_icmp .ge 43, 3) := by decide +kernel
theorem dX3_updateMatching_24 : decode cX3_updateMatching 24 = .ok (.aload_n 2, 1) := by decide +kernel
theorem dX3_updateMatching_25 : decode cX3_updateMatching 25 = .ok (.getfield 119, 3) := by decide +kernel
theorem dX3_updateMatching_28 : decode cX3_updateMatching 28 = .ok (.iload_n 3, 1) := by decide +kernel
theorem dX3_updateMatching_29 : decode cX3_updateMatching 29 = .ok (.iaload, 1) := by decide +kernel
theorem dX3_updateMatching_30 : decode cX3_updateMatching 30 = .ok (.istore 4, 2) := by decide +kernel
theorem dX3_updateMatching_32 : decode cX3_updateMatching 32 = .ok (.aload_n 2, 1) := by decide +kernel
theorem dX3_updateMatching_33 : decode cX3_updateMatching 33 = .ok (.getfield 262, 3) := by decide +kernel
theorem dX3_updateMatching_36 : decode cX3_updateMatching 36 = .ok (.iload_n 3, 1) := by decide +kernel
theorem dX3_updateMatching_37 : decode cX3_updateMatching 37 = .ok (.iload 4, 2) := by decide +kernel
theorem dX3_updateMatching_39 : decode cX3_updateMatching 39 = .ok (.iconst (-1), 1) := by decide +kernel
theorem dX3_updateMatching_40 : decode cX3_updateMatching 40 = .ok (.if_icmp .ne 7, 3) := by decide +kernel
theorem dX3_updateMatching_43 : decode cX3_updateMatching 43 = .ok (.iconst (-1), 1) := by decide +kernel
theorem dX3_updateMatching_44 : decode cX3_updateMatching 44 = .ok (.goto 13, 3) := by decide +kernel
theorem dX3_updateMatching_47 : decode cX3_updateMatching 47 = .ok (.aload_n 0, 1) := by decide +kernel
theorem dX3_updateMatching_48 : decode cX3_updateMatching 48 = .ok (.getfield 11, 3) := by decide +kernel
theorem dX3_updateMatching_51 : decode cX3_updateMatching 51 = .ok (.iload 4, 2) := by decide +kernel
theorem dX3_updateMatching_53 : decode cX3_updateMatching 53 = .ok (.iconst 0, 1) := by decide +kernel
theorem dX3_updateMatching_54 : decode cX3_updateMatching 54 = .ok (.invokestatic 109, 3) := by decide +kernel
theorem dX3_updateMatching_57 : decode cX3_updateMatching 57 = .ok (.iastore, 1) := by decide +kernel
theorem dX3_updateMatching_58 : decode cX3_updateMatching 58 = .ok (.iinc 3 1, 3) := by decide +kernel
theorem dX3_updateMatching_61 : decode cX3_updateMatching 61 = .ok (.goto (-42), 3) := by decide +kernel
theorem dX3_updateMatching_64 : decode cX3_updateMatching 64 = .ok (.iinc 1 1, 3) := by decide +kernel
theorem dX3_updateMatching_67 : decode cX3_updateMatching 67 = .ok (.goto (-65), 3) := by decide +kernel
theorem dX3_updateMatching_70 : decode cX3_updateMatching 70 = .ok (.return_, 1) := by decide +kernel
theorem dX3_deciding_0 : decode cX3_deciding 0 = .ok (.iconst 0, 1) := by decide +kernel
theorem dX3_deciding_1 : decode cX3_deciding 1 = .ok (.istore 4, 2) := by decide +kernel
theorem dX3_deciding_3 : decode cX3_deciding 3 = .ok (.iload 4, 2) := by decide +kernel
theorem dX3_deciding_5 : decode cX3_deciding 5 = .ok (.aload_n 0, 1) := by decide +kernel
theorem dX3_deciding_6 : decode cX3_deciding 6 = .ok (.getfield 116, 3) := by decide +kernel
theorem dX3_deciding_9 : decode cX3_deciding 9 = .ok (.if_icmp .ge 45, 3) := by decide +kernel
theorem dX3_deciding_12 : decode cX3_deciding 12 = .ok (.aload_n 0, 1) := by decide +kernel
theorem dX3_deciding_13 : decode cX3_deciding 13 = .ok (.getfield 17, 3) := by decide +kernel
theorem dX3_deciding_16 : decode cX3_deciding 16 = .ok (.iload 4, 2) := by decide +kernel
theorem dX3_deciding_18 : decode cX3_deciding 18 = .ok (.aaload, 1) := by decide +kernel
theorem dX3_deciding_19 : decode cX3_deciding 19 = .ok (.aload_n 0, 1) := by decide +kernel
theorem dX3_deciding_20 : decode cX3_deciding 20 = .ok (.getfield 143, 3) := by decide +kernel
theorem dX3_deciding_23 : decode cX3_deciding 23 = .ok (.invokevirtual 170, 3) := by decide +kernel
theorem dX3_deciding_26 : decode cX3_deciding 26 = .ok (.ifCond .eq 22, 3) := by decide +kernel
theorem dX3_deciding_29 : decode cX3_deciding 29 = .ok (.aload_n 0, 1) := by decide +kernel
theorem dX3_deciding_30 : decode cX3_deciding 30 = .ok (.getfield 17, 3) := by decide +kernel
theorem dX3_deciding_33 : decode cX3_deciding 33 = .ok (.iload 4, 2) := by decide +kernel
theorem dX3_deciding_35 : decode cX3_deciding 35 = .ok (.aaload, 1) := by decide +kernel
theorem dX3_deciding_36 : decode cX3_deciding 36 = .ok (.iload_n 1, 1) := by decide +kernel
theorem dX3_deciding_37 : decode cX3_deciding 37 = .ok (.iload_n 2, 1) := by decide +kernel
theorem dX3_deciding_38 : decode cX3_deciding 38 = .ok (.iload_n 3, 1) := by decide +kernel
theorem dX3_deciding_39 : decode cX3_deciding 39 = .ok (.invokevirtual 265, 3) := by decide +kernel
theorem dX3_deciding_42 : decode cX3_deciding 42 = .ok (.ifCond .eq 6, 3) := by decide +kernel
theorem dX3_deciding_45 : decode cX3_deciding 45 = .ok (.iload 4, 2) := by decide +kernel
theorem dX3_deciding_47 : decode cX3_deciding 47 = .ok (.ireturn, 1) := by decide +kernel
theorem dX3_deciding_48 : decode cX3_deciding 48 = .ok (.iinc 4 1, 3) := by decide +kernel
theorem dX3_deciding_51 : decode cX3_deciding 51 = .ok (.goto (-48), 3) := by decide +kernel
theorem dX3_deciding_54 : decode cX3_deciding 54 = .ok (.iconst (-1), 1) := by decide +kernel
theorem dX3_deciding_55 : decode cX3_deciding 55 = .ok (.ireturn, 1) := by decide +kernel
theorem dX3_actionOf_0 : decode cX3_actionOf 0 = .ok (.iload_n 1, 1) := by decide +kernel
theorem dX3_actionOf_1 : decode cX3_actionOf 1 = .ok (.aload_n 0, 1) := by decide +kernel
theorem dX3_actionOf_2 : decode cX3_actionOf 2 = .ok (.getfield 116, 3) := by decide +kernel
theorem dX3_actionOf_5 : decode cX3_actionOf 5 = .ok (.if_icmp .ge 15, 3) := by decide +kernel
theorem dX3_actionOf_8 : decode cX3_actionOf 8 = .ok (.aload_n 0, 1) := by decide +kernel
theorem dX3_actionOf_9 : decode cX3_actionOf 9 = .ok (.getfield 17, 3) := by decide +kernel
theorem dX3_actionOf_12 : decode cX3_actionOf 12 = .ok (.iload_n 1, 1) := by decide +kernel
theorem dX3_actionOf_13 : decode cX3_actionOf 13 = .ok (.aaload, 1) := by decide +kernel
theorem dX3_actionOf_14 : decode cX3_actionOf 14 = .ok (.getfield 191, 3) := by decide +kernel
theorem dX3_actionOf_17 : decode cX3_actionOf 17 = .ok (.goto 5, 3) := by decide +kernel
theorem dX3_actionOf_20 : decode cX3_actionOf 20 = .ok (.bipush 100, 2) := by decide +kernel
theorem dX3_actionOf_22 : decode cX3_actionOf 22 = .ok (.ireturn, 1) := by decide +kernel
theorem dX3_packetsIn_0 : decode cX3_packetsIn 0 = .ok (.iload_n 0, 1) := by decide +kernel
theorem dX3_packetsIn_1 : decode cX3_packetsIn 1 = .ok (.invokestatic 96, 3) := by decide +kernel
theorem dX3_packetsIn_4 : decode cX3_packetsIn 4 = .ok (.iload_n 1, 1) := by decide +kernel
theorem dX3_packetsIn_5 : decode cX3_packetsIn 5 = .ok (.invokestatic 96, 3) := by decide +kernel
theorem dX3_packetsIn_8 : decode cX3_packetsIn 8 = .ok (.imul, 1) := by decide +kernel
theorem dX3_packetsIn_9 : decode cX3_packetsIn 9 = .ok (.iload_n 2, 1) := by decide +kernel
theorem dX3_packetsIn_10 : decode cX3_packetsIn 10 = .ok (.invokestatic 96, 3) := by decide +kernel
theorem dX3_packetsIn_13 : decode cX3_packetsIn 13 = .ok (.imul, 1) := by decide +kernel
theorem dX3_packetsIn_14 : decode cX3_packetsIn 14 = .ok (.ireturn, 1) := by decide +kernel
theorem dX3_packetsInBoth_0 : decode cX3_packetsInBoth 0 = .ok (.aload_n 0, 1) := by decide +kernel
theorem dX3_packetsInBoth_1 : decode cX3_packetsInBoth 1 = .ok (.getfield 262, 3) := by decide +kernel
theorem dX3_packetsInBoth_4 : decode cX3_packetsInBoth 4 = .ok (.iconst 0, 1) := by decide +kernel
theorem dX3_packetsInBoth_5 : decode cX3_packetsInBoth 5 = .ok (.iaload, 1) := by decide +kernel
theorem dX3_packetsInBoth_6 : decode cX3_packetsInBoth 6 = .ok (.aload_n 1, 1) := by decide +kernel
theorem dX3_packetsInBoth_7 : decode cX3_packetsInBoth 7 = .ok (.getfield 262, 3) := by decide +kernel
theorem dX3_packetsInBoth_10 : decode cX3_packetsInBoth 10 = .ok (.iconst 0, 1) := by decide +kernel
theorem dX3_packetsInBoth_11 : decode cX3_packetsInBoth 11 = .ok (.iaload, 1) := by decide +kernel
theorem dX3_packetsInBoth_12 : decode cX3_packetsInBoth 12 = .ok (.iand, 1) := by decide +kernel
theorem dX3_packetsInBoth_13 : decode cX3_packetsInBoth 13 = .ok (.aload_n 0, 1) := by decide +kernel
theorem dX3_packetsInBoth_14 : decode cX3_packetsInBoth 14 = .ok (.getfield 262, 3) := by decide +kernel
theorem dX3_packetsInBoth_17 : decode cX3_packetsInBoth 17 = .ok (.iconst 1, 1) := by decide +kernel
theorem dX3_packetsInBoth_18 : decode cX3_packetsInBoth 18 = .ok (.iaload, 1) := by decide +kernel
theorem dX3_packetsInBoth_19 : decode cX3_packetsInBoth 19 = .ok (.aload_n 1, 1) := by decide +kernel
theorem dX3_packetsInBoth_20 : decode cX3_packetsInBoth 20 = .ok (.getfield 262, 3) := by decide +kernel
theorem dX3_packetsInBoth_23 : decode cX3_packetsInBoth 23 = .ok (.iconst 1, 1) := by decide +kernel
theorem dX3_packetsInBoth_24 : decode cX3_packetsInBoth 24 = .ok (.iaload, 1) := by decide +kernel
theorem dX3_packetsInBoth_25 : decode cX3_packetsInBoth 25 = .ok (.iand, 1) := by decide +kernel
theorem dX3_packetsInBoth_26 : decode cX3_packetsInBoth 26 = .ok (.aload_n 0, 1) := by decide +kernel
theorem dX3_packetsInBoth_27 : decode cX3_packetsInBoth 27 = .ok (.getfield 262, 3) := by decide +kernel
theorem dX3_packetsInBoth_30 : decode cX3_packetsInBoth 30 = .ok (.iconst 2, 1) := by decide +kernel
theorem dX3_packetsInBoth_31 : decode cX3_packetsInBoth 31 = .ok (.iaload, 1) := by decide +kernel
theorem dX3_packetsInBoth_32 : decode cX3_packetsInBoth 32 = .ok (.aload_n 1, 1) := by decide +kernel
theorem dX3_packetsInBoth_33 : decode cX3_packetsInBoth 33 = .ok (.getfield 262, 3) := by decide +kernel
theorem dX3_packetsInBoth_36 : decode cX3_packetsInBoth 36 = .ok (.iconst 2, 1) := by decide +kernel
theorem dX3_packetsInBoth_37 : decode cX3_packetsInBoth 37 = .ok (.iaload, 1) := by decide +kernel
theorem dX3_packetsInBoth_38 : decode cX3_packetsInBoth 38 = .ok (.iand, 1) := by decide +kernel
theorem dX3_packetsInBoth_39 : decode cX3_packetsInBoth 39 = .ok (.invokestatic 269, 3) := by decide +kernel
theorem dX3_packetsInBoth_42 : decode cX3_packetsInBoth 42 = .ok (.ireturn, 1) := by decide +kernel
theorem dX3_inForceAhead_0 : decode cX3_inForceAhead 0 = .ok (.iconst 0, 1) := by decide +kernel
theorem dX3_inForceAhead_1 : decode cX3_inForceAhead 1 = .ok (.istore_n 2, 1) := by decide +kernel
theorem dX3_inForceAhead_2 : decode cX3_inForceAhead 2 = .ok (.iconst 0, 1) := by decide +kernel
theorem dX3_inForceAhead_3 : decode cX3_inForceAhead 3 = .ok (.istore_n 3, 1) := by decide +kernel
theorem dX3_inForceAhead_4 : decode cX3_inForceAhead 4 = .ok (.iload_n 3, 1) := by decide +kernel
theorem dX3_inForceAhead_5 : decode cX3_inForceAhead 5 = .ok (.iload_n 1, 1) := by decide +kernel
theorem dX3_inForceAhead_6 : decode cX3_inForceAhead 6 = .ok (.if_icmp .ge 31, 3) := by decide +kernel
theorem dX3_inForceAhead_9 : decode cX3_inForceAhead 9 = .ok (.aload_n 0, 1) := by decide +kernel
theorem dX3_inForceAhead_10 : decode cX3_inForceAhead 10 = .ok (.getfield 17, 3) := by decide +kernel
theorem dX3_inForceAhead_13 : decode cX3_inForceAhead 13 = .ok (.iload_n 3, 1) := by decide +kernel
theorem dX3_inForceAhead_14 : decode cX3_inForceAhead 14 = .ok (.aaload, 1) := by decide +kernel
theorem dX3_inForceAhead_15 : decode cX3_inForceAhead 15 = .ok (.aload_n 0, 1) := by decide +kernel
theorem dX3_inForceAhead_16 : decode cX3_inForceAhead 16 = .ok (.getfield 143, 3) := by decide +kernel
theorem dX3_inForceAhead_19 : decode cX3_inForceAhead 19 = .ok (.invokevirtual 170, 3) := by decide +kernel
theorem dX3_inForceAhead_22 : decode cX3_inForceAhead 22 = .ok (.ifCond .eq 9, 3) := by decide +kernel
theorem dX3_inForceAhead_25 : decode cX3_inForceAhead 25 = .ok (.iload_n 2, 1) := by decide +kernel
theorem dX3_inForceAhead_26 : decode cX3_inForceAhead 26 = .ok (.iconst 1, 1) := by decide +kernel
theorem dX3_inForceAhead_27 : decode cX3_inForceAhead 27 = .ok (.iload_n 3, 1) := by decide +kernel
theorem dX3_inForceAhead_28 : decode cX3_inForceAhead 28 = .ok (.ishl, 1) := by decide +kernel
theorem dX3_inForceAhead_29 : decode cX3_inForceAhead 29 = .ok (.ior, 1) := by decide +kernel
theorem dX3_inForceAhead_30 : decode cX3_inForceAhead 30 = .ok (.istore_n 2, 1) := by decide +kernel
theorem dX3_inForceAhead_31 : decode cX3_inForceAhead 31 = .ok (.iinc 3 1, 3) := by decide +kernel
theorem dX3_inForceAhead_34 : decode cX3_inForceAhead 34 = .ok (.goto (-30), 3) := by decide +kernel
theorem dX3_inForceAhead_37 : decode cX3_inForceAhead 37 = .ok (.iload_n 2, 1) := by decide +kernel
theorem dX3_inForceAhead_38 : decode cX3_inForceAhead 38 = .ok (.ireturn, 1) := by decide +kernel
theorem dX3_firstOf_0 : decode cX3_firstOf 0 = .ok (.iload_n 0, 1) := by decide +kernel
theorem dX3_firstOf_1 : decode cX3_firstOf 1 = .ok (.iload_n 0, 1) := by decide +kernel
theorem dX3_firstOf_2 : decode cX3_firstOf 2 = .ok (.ineg, 1) := by decide +kernel
theorem dX3_firstOf_3 : decode cX3_firstOf 3 = .ok (.iand, 1) := by decide +kernel
theorem dX3_firstOf_4 : decode cX3_firstOf 4 = .ok (.istore_n 1, 1) := by decide +kernel
theorem dX3_firstOf_5 : decode cX3_firstOf 5 = .ok (.iload_n 1, 1) := by decide +kernel
theorem dX3_firstOf_6 : decode cX3_firstOf 6 = .ok (.iconst 1, 1) := by decide +kernel
theorem dX3_firstOf_7 : decode cX3_firstOf 7 = .ok (.isub, 1) := by decide +kernel
theorem dX3_firstOf_8 : decode cX3_firstOf 8 = .ok (.invokestatic 96, 3) := by decide +kernel
theorem dX3_firstOf_11 : decode cX3_firstOf 11 = .ok (.bipush 8, 2) := by decide +kernel
theorem dX3_firstOf_13 : decode cX3_firstOf 13 = .ok (.invokestatic 272, 3) := by decide +kernel
theorem dX3_firstOf_16 : decode cX3_firstOf 16 = .ok (.ireturn, 1) := by decide +kernel
theorem dX3_leftOfBoth_0 : decode cX3_leftOfBoth 0 = .ok (.aload_n 0, 1) := by decide +kernel
theorem dX3_leftOfBoth_1 : decode cX3_leftOfBoth 1 = .ok (.getfield 17, 3) := by decide +kernel
theorem dX3_leftOfBoth_4 : decode cX3_leftOfBoth 4 = .ok (.iload_n 3, 1) := by decide +kernel
theorem dX3_leftOfBoth_5 : decode cX3_leftOfBoth 5 = .ok (.aload_n 1, 1) := by decide +kernel
theorem dX3_leftOfBoth_6 : decode cX3_leftOfBoth 6 = .ok (.getfield 262, 3) := by decide +kernel
theorem dX3_leftOfBoth_9 : decode cX3_leftOfBoth 9 = .ok (.iconst 0, 1) := by decide +kernel
theorem dX3_leftOfBoth_10 : decode cX3_leftOfBoth 10 = .ok (.iaload, 1) := by decide +kernel
theorem dX3_leftOfBoth_11 : decode cX3_leftOfBoth 11 = .ok (.aload_n 2, 1) := by decide +kernel
theorem dX3_leftOfBoth_12 : decode cX3_leftOfBoth 12 = .ok (.getfield 262, 3) := by decide +kernel
theorem dX3_leftOfBoth_15 : decode cX3_leftOfBoth 15 = .ok (.iconst 0, 1) := by decide +kernel
theorem dX3_leftOfBoth_16 : decode cX3_leftOfBoth 16 = .ok (.iaload, 1) := by decide +kernel
theorem dX3_leftOfBoth_17 : decode cX3_leftOfBoth 17 = .ok (.iand, 1) := by decide +kernel
theorem dX3_leftOfBoth_18 : decode cX3_leftOfBoth 18 = .ok (.aload_n 1, 1) := by decide +kernel
theorem dX3_leftOfBoth_19 : decode cX3_leftOfBoth 19 = .ok (.getfield 262, 3) := by decide +kernel
theorem dX3_leftOfBoth_22 : decode cX3_leftOfBoth 22 = .ok (.iconst 1, 1) := by decide +kernel
theorem dX3_leftOfBoth_23 : decode cX3_leftOfBoth 23 = .ok (.iaload, 1) := by decide +kernel
theorem dX3_leftOfBoth_24 : decode cX3_leftOfBoth 24 = .ok (.aload_n 2, 1) := by decide +kernel
theorem dX3_leftOfBoth_25 : decode cX3_leftOfBoth 25 = .ok (.getfield 262, 3) := by decide +kernel
theorem dX3_leftOfBoth_28 : decode cX3_leftOfBoth 28 = .ok (.iconst 1, 1) := by decide +kernel
theorem dX3_leftOfBoth_29 : decode cX3_leftOfBoth 29 = .ok (.iaload, 1) := by decide +kernel
theorem dX3_leftOfBoth_30 : decode cX3_leftOfBoth 30 = .ok (.iand, 1) := by decide +kernel
theorem dX3_leftOfBoth_31 : decode cX3_leftOfBoth 31 = .ok (.aload_n 1, 1) := by decide +kernel
theorem dX3_leftOfBoth_32 : decode cX3_leftOfBoth 32 = .ok (.getfield 262, 3) := by decide +kernel
theorem dX3_leftOfBoth_35 : decode cX3_leftOfBoth 35 = .ok (.iconst 2, 1) := by decide +kernel
theorem dX3_leftOfBoth_36 : decode cX3_leftOfBoth 36 = .ok (.iaload, 1) := by decide +kernel
theorem dX3_leftOfBoth_37 : decode cX3_leftOfBoth 37 = .ok (.aload_n 2, 1) := by decide +kernel
theorem dX3_leftOfBoth_38 : decode cX3_leftOfBoth 38 = .ok (.getfield 262, 3) := by decide +kernel
theorem dX3_leftOfBoth_41 : decode cX3_leftOfBoth 41 = .ok (.iconst 2, 1) := by decide +kernel
theorem dX3_leftOfBoth_42 : decode cX3_leftOfBoth 42 = .ok (.iaload, 1) := by decide +kernel
theorem dX3_leftOfBoth_43 : decode cX3_leftOfBoth 43 = .ok (.iand, 1) := by decide +kernel
theorem dX3_leftOfBoth_44 : decode cX3_leftOfBoth 44 = .ok (.invokestatic 277, 3) := by decide +kernel
theorem dX3_leftOfBoth_47 : decode cX3_leftOfBoth 47 = .ok (.ireturn, 1) := by decide +kernel
theorem dX3_leftOver_0 : decode cX3_leftOver 0 = .ok (.iload_n 2, 1) := by decide +kernel
theorem dX3_leftOver_1 : decode cX3_leftOver 1 = .ok (.ifCond .eq 12, 3) := by decide +kernel
theorem dX3_leftOver_4 : decode cX3_leftOver 4 = .ok (.iload_n 3, 1) := by decide +kernel
theorem dX3_leftOver_5 : decode cX3_leftOver 5 = .ok (.ifCond .eq 8, 3) := by decide +kernel
theorem dX3_leftOver_8 : decode cX3_leftOver 8 = .ok (.iload 4, 2) := by decide +kernel
theorem dX3_leftOver_10 : decode cX3_leftOver 10 = .ok (.ifCond .ne 5, 3) := by decide +kernel
theorem dX3_leftOver_13 : decode cX3_leftOver 13 = .ok (.iconst 0, 1) := by decide +kernel
theorem dX3_leftOver_14 : decode cX3_leftOver 14 = .ok (.ireturn, 1) := by decide +kernel
theorem dX3_leftOver_15 : decode cX3_leftOver 15 = .ok (.iload_n 1, 1) := by decide +kernel
theorem dX3_leftOver_16 : decode cX3_leftOver 16 = .ok (.invokestatic 281, 3) := by decide +kernel
theorem dX3_leftOver_19 : decode cX3_leftOver 19 = .ok (.istore 5, 2) := by decide +kernel
theorem dX3_leftOver_21 : decode cX3_leftOver 21 = .ok (.iload 5, 2) := by decide +kernel
theorem dX3_leftOver_23 : decode cX3_leftOver 23 = .ok (.bipush 8, 2) := by decide +kernel
theorem dX3_leftOver_25 : decode cX3_leftOver 25 = .ok (.if_icmp .lt 11, 3) := by decide +kernel
theorem dX3_leftOver_28 : decode cX3_leftOver 28 = .ok (.iload_n 2, 1) := by decide +kernel
theorem dX3_leftOver_29 : decode cX3_leftOver 29 = .ok (.iload_n 3, 1) := by decide +kernel
theorem dX3_leftOver_30 : decode cX3_leftOver 30 = .ok (.iload 4, 2) := by decide +kernel
theorem dX3_leftOver_32 : decode cX3_leftOver 32 = .ok (.invokestatic 269, 3) := by decide +kernel
theorem dX3_leftOver_35 : decode cX3_leftOver 35 = .ok (.ireturn, 1) := by decide +kernel
theorem dX3_leftOver_36 : decode cX3_leftOver 36 = .ok (.aload_n 0, 1) := by decide +kernel
theorem dX3_leftOver_37 : decode cX3_leftOver 37 = .ok (.iload 5, 2) := by decide +kernel
theorem dX3_leftOver_39 : decode cX3_leftOver 39 = .ok (.aaload, 1) := by decide +kernel
theorem dX3_leftOver_40 : decode cX3_leftOver 40 = .ok (.getfield 262, 3) := by decide +kernel
theorem dX3_leftOver_43 : decode cX3_leftOver 43 = .ok (.astore 6, 2) := by decide +kernel
theorem dX3_leftOver_45 : decode cX3_leftOver 45 = .ok (.iload_n 1, 1) := by decide +kernel
theorem dX3_leftOver_46 : decode cX3_leftOver 46 = .ok (.iconst 1, 1) := by decide +kernel
theorem dX3_leftOver_47 : decode cX3_leftOver 47 = .ok (.iload 5, 2) := by decide +kernel
theorem dX3_leftOver_49 : decode cX3_leftOver 49 = .ok (.ishl, 1) := by decide +kernel
theorem dX3_leftOver_50 : decode cX3_leftOver 50 = .ok (.iconst (-1), 1) := by decide +kernel
theorem dX3_leftOver_51 : decode cX3_leftOver 51 = .ok (.ixor, 1) := by decide +kernel
theorem dX3_leftOver_52 : decode cX3_leftOver 52 = .ok (.iand, 1) := by decide +kernel
theorem dX3_leftOver_53 : decode cX3_leftOver 53 = .ok (.istore 7, 2) := by decide +kernel
theorem dX3_leftOver_55 : decode cX3_leftOver 55 = .ok (.iload_n 2, 1) := by decide +kernel
theorem dX3_leftOver_56 : decode cX3_leftOver 56 = .ok (.aload 6, 2) := by decide +kernel
theorem dX3_leftOver_58 : decode cX3_leftOver 58 = .ok (.iconst 0, 1) := by decide +kernel
theorem dX3_leftOver_59 : decode cX3_leftOver 59 = .ok (.iaload, 1) := by decide +kernel
theorem dX3_leftOver_60 : decode cX3_leftOver 60 = .ok (.iand, 1) := by decide +kernel
theorem dX3_leftOver_61 : decode cX3_leftOver 61 = .ok (.istore 8, 2) := by decide +kernel
theorem dX3_leftOver_63 : decode cX3_leftOver 63 = .ok (.iload_n 3, 1) := by decide +kernel
theorem dX3_leftOver_64 : decode cX3_leftOver 64 = .ok (.aload 6, 2) := by decide +kernel
theorem dX3_leftOver_66 : decode cX3_leftOver 66 = .ok (.iconst 1, 1) := by decide +kernel
theorem dX3_leftOver_67 : decode cX3_leftOver 67 = .ok (.iaload, 1) := by decide +kernel
theorem dX3_leftOver_68 : decode cX3_leftOver 68 = .ok (.iand, 1) := by decide +kernel
theorem dX3_leftOver_69 : decode cX3_leftOver 69 = .ok (.istore 9, 2) := by decide +kernel
theorem dX3_leftOver_71 : decode cX3_leftOver 71 = .ok (.aload_n 0, 1) := by decide +kernel
theorem dX3_leftOver_72 : decode cX3_leftOver 72 = .ok (.iload 7, 2) := by decide +kernel
theorem dX3_leftOver_74 : decode cX3_leftOver 74 = .ok (.iload_n 2, 1) := by decide +kernel
theorem dX3_leftOver_75 : decode cX3_leftOver 75 = .ok (.aload 6, 2) := by decide +kernel
theorem dX3_leftOver_77 : decode cX3_leftOver 77 = .ok (.iconst 0, 1) := by decide +kernel
theorem dX3_leftOver_78 : decode cX3_leftOver 78 = .ok (.iaload, 1) := by decide +kernel
theorem dX3_leftOver_79 : decode cX3_leftOver 79 = .ok (.iconst (-1), 1) := by decide +kernel
theorem dX3_leftOver_80 : decode cX3_leftOver 80 = .ok (.ixor, 1) := by decide +kernel
theorem dX3_leftOver_81 : decode cX3_leftOver 81 = .ok (.iand, 1) := by decide +kernel
theorem dX3_leftOver_82 : decode cX3_leftOver 82 = .ok (.iload_n 3, 1) := by decide +kernel
theorem dX3_leftOver_83 : decode cX3_leftOver 83 = .ok (.iload 4, 2) := by decide +kernel
theorem dX3_leftOver_85 : decode cX3_leftOver 85 = .ok (.invokestatic 277, 3) := by decide +kernel
theorem dX3_leftOver_88 : decode cX3_leftOver 88 = .ok (.aload_n 0, 1) := by decide +kernel
theorem dX3_leftOver_89 : decode cX3_leftOver 89 = .ok (.iload 7, 2) := by decide +kernel
theorem dX3_leftOver_91 : decode cX3_leftOver 91 = .ok (.iload 8, 2) := by decide +kernel
theorem dX3_leftOver_93 : decode cX3_leftOver 93 = .ok (.iload_n 3, 1) := by decide +kernel
theorem dX3_leftOver_94 : decode cX3_leftOver 94 = .ok (.aload 6, 2) := by decide +kernel
theorem dX3_leftOver_96 : decode cX3_leftOver 96 = .ok (.iconst 1, 1) := by decide +kernel
theorem dX3_leftOver_97 : decode cX3_leftOver 97 = .ok (.iaload, 1) := by decide +kernel
theorem dX3_leftOver_98 : decode cX3_leftOver 98 = .ok (.iconst (-1), 1) := by decide +kernel
theorem dX3_leftOver_99 : decode cX3_leftOver 99 = .ok (.ixor, 1) := by decide +kernel
theorem dX3_leftOver_100 : decode cX3_leftOver 100 = .ok (.iand, 1) := by decide +kernel
theorem dX3_leftOver_101 : decode cX3_leftOver 101 = .ok (.iload 4, 2) := by decide +kernel
theorem dX3_leftOver_103 : decode cX3_leftOver 103 = .ok (.invokestatic 277, 3) := by decide +kernel
theorem dX3_leftOver_106 : decode cX3_leftOver 106 = .ok (.iadd, 1) := by decide +kernel
theorem dX3_leftOver_107 : decode cX3_leftOver 107 = .ok (.aload_n 0, 1) := by decide +kernel
theorem dX3_leftOver_108 : decode cX3_leftOver 108 = .ok (.iload 7, 2) := by decide +kernel
theorem dX3_leftOver_110 : decode cX3_leftOver 110 = .ok (.iload 8, 2) := by decide +kernel
theorem dX3_leftOver_112 : decode cX3_leftOver 112 = .ok (.iload 9, 2) := by decide +kernel
theorem dX3_leftOver_114 : decode cX3_leftOver 114 = .ok (.iload 4, 2) := by decide +kernel
theorem dX3_leftOver_116 : decode cX3_leftOver 116 = .ok (.aload 6, 2) := by decide +kernel
theorem dX3_leftOver_118 : decode cX3_leftOver 118 = .ok (.iconst 2, 1) := by decide +kernel
theorem dX3_leftOver_119 : decode cX3_leftOver 119 = .ok (.iaload, 1) := by decide +kernel
theorem dX3_leftOver_120 : decode cX3_leftOver 120 = .ok (.iconst (-1), 1) := by decide +kernel
theorem dX3_leftOver_121 : decode cX3_leftOver 121 = .ok (.ixor, 1) := by decide +kernel
theorem dX3_leftOver_122 : decode cX3_leftOver 122 = .ok (.iand, 1) := by decide +kernel
theorem dX3_leftOver_123 : decode cX3_leftOver 123 = .ok (.invokestatic 277, 3) := by decide +kernel
theorem dX3_leftOver_126 : decode cX3_leftOver 126 = .ok (.iadd, 1) := by decide +kernel
theorem dX3_leftOver_127 : decode cX3_leftOver 127 = .ok (.ireturn, 1) := by decide +kernel
theorem dX3_decidedAt_0 : decode cX3_decidedAt 0 = .ok (.aload_n 0, 1) := by decide +kernel
theorem dX3_decidedAt_1 : decode cX3_decidedAt 1 = .ok (.getfield 17, 3) := by decide +kernel
theorem dX3_decidedAt_4 : decode cX3_decidedAt 4 = .ok (.iload_n 1, 1) := by decide +kernel
theorem dX3_decidedAt_5 : decode cX3_decidedAt 5 = .ok (.aaload, 1) := by decide +kernel
theorem dX3_decidedAt_6 : decode cX3_decidedAt 6 = .ok (.astore_n 2, 1) := by decide +kernel
theorem dX3_decidedAt_7 : decode cX3_decidedAt 7 = .ok (.aload_n 2, 1) := by decide +kernel
theorem dX3_decidedAt_8 : decode cX3_decidedAt 8 = .ok (.aload_n 0, 1) := by decide +kernel
theorem dX3_decidedAt_9 : decode cX3_decidedAt 9 = .ok (.getfield 143, 3) := by decide +kernel
theorem dX3_decidedAt_12 : decode cX3_decidedAt 12 = .ok (.invokevirtual 170, 3) := by decide +kernel
theorem dX3_decidedAt_15 : decode cX3_decidedAt 15 = .ok (.ifCond .eq 17, 3) := by decide +kernel
theorem dX3_decidedAt_18 : decode cX3_decidedAt 18 = .ok (.aload_n 0, 1) := by decide +kernel
theorem dX3_decidedAt_19 : decode cX3_decidedAt 19 = .ok (.aload_n 2, 1) := by decide +kernel
theorem dX3_decidedAt_20 : decode cX3_decidedAt 20 = .ok (.aload_n 2, 1) := by decide +kernel
theorem dX3_decidedAt_21 : decode cX3_decidedAt 21 = .ok (.aload_n 0, 1) := by decide +kernel
theorem dX3_decidedAt_22 : decode cX3_decidedAt 22 = .ok (.iload_n 1, 1) := by decide +kernel
theorem dX3_decidedAt_23 : decode cX3_decidedAt 23 = .ok (.invokevirtual 237, 3) := by decide +kernel
theorem dX3_decidedAt_26 : decode cX3_decidedAt 26 = .ok (.invokevirtual 284, 3) := by decide +kernel
theorem dX3_decidedAt_29 : decode cX3_decidedAt 29 = .ok (.goto 4, 3) := by decide +kernel
theorem dX3_decidedAt_32 : decode cX3_decidedAt 32 = .ok (.iconst 0, 1) := by decide +kernel
theorem dX3_decidedAt_33 : decode cX3_decidedAt 33 = .ok (.ireturn, 1) := by decide +kernel
theorem dX3_isShadowedAt_0 : decode cX3_isShadowedAt 0 = .ok (.aload_n 0, 1) := by decide +kernel
theorem dX3_isShadowedAt_1 : decode cX3_isShadowedAt 1 = .ok (.getfield 17, 3) := by decide +kernel
theorem dX3_isShadowedAt_4 : decode cX3_isShadowedAt 4 = .ok (.iload_n 1, 1) := by decide +kernel
theorem dX3_isShadowedAt_5 : decode cX3_isShadowedAt 5 = .ok (.aaload, 1) := by decide +kernel
theorem dX3_isShadowedAt_6 : decode cX3_isShadowedAt 6 = .ok (.aload_n 0, 1) := by decide +kernel
theorem dX3_isShadowedAt_7 : decode cX3_isShadowedAt 7 = .ok (.getfield 143, 3) := by decide +kernel
theorem dX3_isShadowedAt_10 : decode cX3_isShadowedAt 10 = .ok (.invokevirtual 170, 3) := by decide +kernel
theorem dX3_isShadowedAt_13 : decode cX3_isShadowedAt 13 = .ok (.ifCond .eq 15, 3) := by decide +kernel
theorem dX3_isShadowedAt_16 : decode cX3_isShadowedAt 16 = .ok (.aload_n 0, 1) := by decide +kernel
theorem dX3_isShadowedAt_17 : decode cX3_isShadowedAt 17 = .ok (.iload_n 1, 1) := by decide +kernel
theorem dX3_isShadowedAt_18 : decode cX3_isShadowedAt 18 = .ok (.invokevirtual 213, 3) := by decide +kernel
theorem dX3_isShadowedAt_21 : decode cX3_isShadowedAt 21 = .ok (.ifCond .ne 7, 3) := by decide +kernel
theorem dX3_isShadowedAt_24 : decode cX3_isShadowedAt 24 = .ok (.iconst 1, 1) := by decide +kernel
theorem dX3_isShadowedAt_25 : decode cX3_isShadowedAt 25 = .ok (.goto 4, 3) := by decide +kernel
theorem dX3_isShadowedAt_28 : decode cX3_isShadowedAt 28 = .ok (.iconst 0, 1) := by decide +kernel
theorem dX3_isShadowedAt_29 : decode cX3_isShadowedAt 29 = .ok (.ireturn, 1) := by decide +kernel
theorem dX3_tallyDeciders_0 : decode cX3_tallyDeciders 0 = .ok (.iconst 0, 1) := by decide +kernel
theorem dX3_tallyDeciders_1 : decode cX3_tallyDeciders 1 = .ok (.istore_n 3, 1) := by decide +kernel
theorem dX3_tallyDeciders_2 : decode cX3_tallyDeciders 2 = .ok (.iload_n 3, 1) := by decide +kernel
theorem dX3_tallyDeciders_3 : decode cX3_tallyDeciders 3 = .ok (.bipush 9, 2) := by decide +kernel
theorem dX3_tallyDeciders_5 : decode cX3_tallyDeciders 5 = .ok (.if_icmp .ge 19, 3) := by decide +kernel
theorem dX3_tallyDeciders_8 : decode cX3_tallyDeciders 8 = .ok (.aload_n 0, 1) := by decide +kernel
theorem dX3_tallyDeciders_9 : decode cX3_tallyDeciders 9 = .ok (.getfield 33, 3) := by decide +kernel
theorem dX3_tallyDeciders_12 : decode cX3_tallyDeciders 12 = .ok (.iload_n 3, 1) := by decide +kernel
theorem dX3_tallyDeciders_13 : decode cX3_tallyDeciders 13 = .ok (.aaload, 1) := by decide +kernel
theorem dX3_tallyDeciders_14 : decode cX3_tallyDeciders 14 = .ok (.iconst 0, 1) := by decide +kernel
theorem dX3_tallyDeciders_15 : decode cX3_tallyDeciders 15 = .ok (.invokestatic 288, 3) := by decide +kernel
theorem dX3_tallyDeciders_18 : decode cX3_tallyDeciders 18 = .ok (.iinc 3 1, 3) := by decide +kernel
theorem dX3_tallyDeciders_21 : decode cX3_tallyDeciders 21 = .ok (.goto (-19), 3) := by decide +kernel
theorem dX3_tallyDeciders_24 : decode cX3_tallyDeciders 24 = .ok (.iconst 0, 1) := by decide +kernel
theorem dX3_tallyDeciders_25 : decode cX3_tallyDeciders 25 = .ok (.istore_n 3, 1) := by decide +kernel
theorem dX3_tallyDeciders_26 : decode cX3_tallyDeciders 26 = .ok (.iload_n 3, 1) := by decide +kernel
theorem dX3_tallyDeciders_27 : decode cX3_tallyDeciders 27 = .ok (.iconst 3, 1) := by decide +kernel
theorem dX3_tallyDeciders_28 : decode cX3_tallyDeciders 28 = .ok (.if_icmp .ge 26, 3) := by decide +kernel
theorem dX3_tallyDeciders_31 : decode cX3_tallyDeciders 31 = .ok (.aload_n 0, 1) := by decide +kernel
theorem dX3_tallyDeciders_32 : decode cX3_tallyDeciders 32 = .ok (.iload_n 3, 1) := by decide +kernel
theorem dX3_tallyDeciders_33 : decode cX3_tallyDeciders 33 = .ok (.iload_n 1, 1) := by decide +kernel
theorem dX3_tallyDeciders_34 : decode cX3_tallyDeciders 34 = .ok (.iload_n 2, 1) := by decide +kernel
theorem dX3_tallyDeciders_35 : decode cX3_tallyDeciders 35 = .ok (.invokevirtual 294, 3) := by decide +kernel
theorem dX3_tallyDeciders_38 : decode cX3_tallyDeciders 38 = .ok (.aload_n 0, 1) := by decide +kernel
theorem dX3_tallyDeciders_39 : decode cX3_tallyDeciders 39 = .ok (.aload_n 0, 1) := by decide +kernel
theorem dX3_tallyDeciders_40 : decode cX3_tallyDeciders 40 = .ok (.getfield 23, 3) := by decide +kernel
theorem dX3_tallyDeciders_43 : decode cX3_tallyDeciders 43 = .ok (.iload_n 3, 1) := by decide +kernel
theorem dX3_tallyDeciders_44 : decode cX3_tallyDeciders 44 = .ok (.aaload, 1) := by decide +kernel
theorem dX3_tallyDeciders_45 : decode cX3_tallyDeciders 45 = .ok (.invokevirtual 297, 3) := by decide +kernel
theorem dX3_tallyDeciders_48 : decode cX3_tallyDeciders 48 = .ok (.iinc 3 1, 3) := by decide +kernel
theorem dX3_tallyDeciders_51 : decode cX3_tallyDeciders 51 = .ok (.goto (-25), 3) := by decide +kernel
theorem dX3_tallyDeciders_54 : decode cX3_tallyDeciders 54 = .ok (.aload_n 0, 1) := by decide +kernel
theorem dX3_tallyDeciders_55 : decode cX3_tallyDeciders 55 = .ok (.getfield 23, 3) := by decide +kernel
theorem dX3_tallyDeciders_58 : decode cX3_tallyDeciders 58 = .ok (.iconst 0, 1) := by decide +kernel
theorem dX3_tallyDeciders_59 : decode cX3_tallyDeciders 59 = .ok (.aaload, 1) := by decide +kernel
theorem dX3_tallyDeciders_60 : decode cX3_tallyDeciders 60 = .ok (.astore_n 3, 1) := by decide +kernel
theorem dX3_tallyDeciders_61 : decode cX3_tallyDeciders 61 = .ok (.aload_n 0, 1) := by decide +kernel
theorem dX3_tallyDeciders_62 : decode cX3_tallyDeciders 62 = .ok (.getfield 23, 3) := by decide +kernel
theorem dX3_tallyDeciders_65 : decode cX3_tallyDeciders 65 = .ok (.iconst 1, 1) := by decide +kernel
theorem dX3_tallyDeciders_66 : decode cX3_tallyDeciders 66 = .ok (.aaload, 1) := by decide +kernel
theorem dX3_tallyDeciders_67 : decode cX3_tallyDeciders 67 = .ok (.astore 4, 2) := by decide +kernel
theorem dX3_tallyDeciders_69 : decode cX3_tallyDeciders 69 = .ok (.iconst 0, 1) := by decide +kernel
theorem dX3_tallyDeciders_70 : decode cX3_tallyDeciders 70 = .ok (.istore 5, 2) := by decide +kernel
theorem dX3_tallyDeciders_72 : decode cX3_tallyDeciders 72 = .ok (.iload 5, 2) := by decide +kernel
theorem dX3_tallyDeciders_74 : decode cX3_tallyDeciders 74 = .ok (.aload_n 3, 1) := by decide +kernel
theorem dX3_tallyDeciders_75 : decode cX3_tallyDeciders 75 = .ok (.getfield 301, 3) := by decide +kernel
theorem dX3_tallyDeciders_78 : decode cX3_tallyDeciders 78 = .ok (.if_icmp .ge 73, 3) := by decide +kernel
theorem dX3_tallyDeciders_81 : decode cX3_tallyDeciders 81 = .ok (.iconst 0, 1) := by decide +kernel
theorem dX3_tallyDeciders_82 : decode cX3_tallyDeciders 82 = .ok (.istore 6, 2) := by decide +kernel
theorem dX3_tallyDeciders_84 : decode cX3_tallyDeciders 84 = .ok (.iload 6, 2) := by decide +kernel
theorem dX3_tallyDeciders_86 : decode cX3_tallyDeciders 86 = .ok (.aload 4, 2) := by decide +kernel
theorem dX3_tallyDeciders_88 : decode cX3_tallyDeciders 88 = .ok (.getfield 301, 3) := by decide +kernel
theorem dX3_tallyDeciders_91 : decode cX3_tallyDeciders 91 = .ok (.if_icmp .ge 54, 3) := by decide +kernel
theorem dX3_tallyDeciders_94 : decode cX3_tallyDeciders 94 = .ok (.aload_n 3, 1) := by decide +kernel
theorem dX3_tallyDeciders_95 : decode cX3_tallyDeciders 95 = .ok (.getfield 304, 3) := by decide +kernel
theorem dX3_tallyDeciders_98 : decode cX3_tallyDeciders 98 = .ok (.iload 5, 2) := by decide +kernel
theorem dX3_tallyDeciders_100 : decode cX3_tallyDeciders 100 = .ok (.iaload, 1) := by decide +kernel
theorem dX3_tallyDeciders_101 : decode cX3_tallyDeciders 101 = .ok (.aload 4, 2) := by decide +kernel
theorem dX3_tallyDeciders_103 : decode cX3_tallyDeciders 103 = .ok (.getfield 304, 3) := by decide +kernel
theorem dX3_tallyDeciders_106 : decode cX3_tallyDeciders 106 = .ok (.iload 6, 2) := by decide +kernel
theorem dX3_tallyDeciders_108 : decode cX3_tallyDeciders 108 = .ok (.iaload, 1) := by decide +kernel
theorem dX3_tallyDeciders_109 : decode cX3_tallyDeciders 109 = .ok (.iand, 1) := by decide +kernel
theorem dX3_tallyDeciders_110 : decode cX3_tallyDeciders 110 = .ok (.istore 7, 2) := by decide +kernel
theorem dX3_tallyDeciders_112 : decode cX3_tallyDeciders 112 = .ok (.iload 7, 2) := by decide +kernel
theorem dX3_tallyDeciders_114 : decode cX3_tallyDeciders 114 = .ok (.ifCond .eq 25, 3) := by decide +kernel
theorem dX3_tallyDeciders_117 : decode cX3_tallyDeciders 117 = .ok (.aload_n 0, 1) := by decide +kernel
theorem dX3_tallyDeciders_118 : decode cX3_tallyDeciders 118 = .ok (.iload 7, 2) := by decide +kernel
theorem dX3_tallyDeciders_120 : decode cX3_tallyDeciders 120 = .ok (.aload_n 3, 1) := by decide +kernel
theorem dX3_tallyDeciders_121 : decode cX3_tallyDeciders 121 = .ok (.getfield 307, 3) := by decide +kernel
theorem dX3_tallyDeciders_124 : decode cX3_tallyDeciders 124 = .ok (.iload 5, 2) := by decide +kernel
theorem dX3_tallyDeciders_126 : decode cX3_tallyDeciders 126 = .ok (.iaload, 1) := by decide +kernel
theorem dX3_tallyDeciders_127 : decode cX3_tallyDeciders 127 = .ok (.aload 4, 2) := by decide +kernel
theorem dX3_tallyDeciders_129 : decode cX3_tallyDeciders 129 = .ok (.getfield 307, 3) := by decide +kernel
theorem dX3_tallyDeciders_132 : decode cX3_tallyDeciders 132 = .ok (.iload 6, 2) := by decide +kernel
theorem dX3_tallyDeciders_134 : decode cX3_tallyDeciders 134 = .ok (.iaload, 1) := by decide +kernel
theorem dX3_tallyDeciders_135 : decode cX3_tallyDeciders 135 = .ok (.imul, 1) := by decide +kernel
theorem dX3_tallyDeciders_136 : decode cX3_tallyDeciders 136 = .ok (.invokevirtual 310, 3) := by decide +kernel
theorem dX3_tallyDeciders_139 : decode cX3_tallyDeciders 139 = .ok (.iinc 6 1, 3) := by decide +kernel
theorem dX3_tallyDeciders_142 : decode cX3_tallyDeciders 142 = .ok (.goto (-58), 3) := by decide +kernel
theorem dX3_tallyDeciders_145 : decode cX3_tallyDeciders 145 = .ok (.iinc 5 1, 3) := by decide +kernel
theorem dX3_tallyDeciders_148 : decode cX3_tallyDeciders 148 = .ok (.goto (-76), 3) := by decide +kernel
theorem dX3_tallyDeciders_151 : decode cX3_tallyDeciders 151 = .ok (.return_, 1) := by decide +kernel
theorem dX3_tallyServices_0 : decode cX3_tallyServices 0 = .ok (.aload_n 0, 1) := by decide +kernel
theorem dX3_tallyServices_1 : decode cX3_tallyServices 1 = .ok (.getfield 23, 3) := by decide +kernel
theorem dX3_tallyServices_4 : decode cX3_tallyServices 4 = .ok (.iconst 2, 1) := by decide +kernel
theorem dX3_tallyServices_5 : decode cX3_tallyServices 5 = .ok (.aaload, 1) := by decide +kernel
theorem dX3_tallyServices_6 : decode cX3_tallyServices 6 = .ok (.astore_n 3, 1) := by decide +kernel
theorem dX3_tallyServices_7 : decode cX3_tallyServices 7 = .ok (.iconst 0, 1) := by decide +kernel
theorem dX3_tallyServices_8 : decode cX3_tallyServices 8 = .ok (.istore 4, 2) := by decide +kernel
theorem dX3_tallyServices_10 : decode cX3_tallyServices 10 = .ok (.iload 4, 2) := by decide +kernel
theorem dX3_tallyServices_12 : decode cX3_tallyServices 12 = .ok (.aload_n 3, 1) := by decide +kernel
theorem dX3_tallyServices_13 : decode cX3_tallyServices 13 = .ok (.getfield 301, 3) := by decide +kernel
theorem dX3_tallyServices_16 : decode cX3_tallyServices 16 = .ok (.if_icmp .ge 63, 3) := by decide +kernel
theorem dX3_tallyServices_19 : decode cX3_tallyServices 19 = .ok (.iload_n 1, 1) := by decide +kernel
theorem dX3_tallyServices_20 : decode cX3_tallyServices 20 = .ok (.aload_n 3, 1) := by decide +kernel
theorem dX3_tallyServices_21 : decode cX3_tallyServices 21 = .ok (.getfield 304, 3) := by decide +kernel
theorem dX3_tallyServices_24 : decode cX3_tallyServices 24 = .ok (.iload 4, 2) := by decide +kernel
theorem dX3_tallyServices_26 : decode cX3_tallyServices 26 = .ok (.iaload, 1) := by decide +kernel
theorem dX3_tallyServices_27 : decode cX3_tallyServices 27 = .ok (.iand, 1) := by decide +kernel
theorem dX3_tallyServices_28 : decode cX3_tallyServices 28 = .ok (.istore 5, 2) := by decide +kernel
theorem dX3_tallyServices_30 : decode cX3_tallyServices 30 = .ok (.iload 5, 2) := by decide +kernel
theorem dX3_tallyServices_32 : decode cX3_tallyServices 32 = .ok (.sipush 255, 3) := by decide +kernel
theorem dX3_tallyServices_35 : decode cX3_tallyServices 35 = .ok (.iand, 1) := by decide +kernel
theorem dX3_tallyServices_36 : decode cX3_tallyServices 36 = .ok (.invokestatic 281, 3) := by decide +kernel
theorem dX3_tallyServices_39 : decode cX3_tallyServices 39 = .ok (.istore 6, 2) := by decide +kernel
theorem dX3_tallyServices_41 : decode cX3_tallyServices 41 = .ok (.iload 5, 2) := by decide +kernel
theorem dX3_tallyServices_43 : decode cX3_tallyServices 43 = .ok (.bipush 8, 2) := by decide +kernel
theorem dX3_tallyServices_45 : decode cX3_tallyServices 45 = .ok (.iushr, 1) := by decide +kernel
theorem dX3_tallyServices_46 : decode cX3_tallyServices 46 = .ok (.invokestatic 281, 3) := by decide +kernel
theorem dX3_tallyServices_49 : decode cX3_tallyServices 49 = .ok (.istore 7, 2) := by decide +kernel
theorem dX3_tallyServices_51 : decode cX3_tallyServices 51 = .ok (.aload_n 0, 1) := by decide +kernel
theorem dX3_tallyServices_52 : decode cX3_tallyServices 52 = .ok (.getfield 33, 3) := by decide +kernel
theorem dX3_tallyServices_55 : decode cX3_tallyServices 55 = .ok (.iload 6, 2) := by decide +kernel
theorem dX3_tallyServices_57 : decode cX3_tallyServices 57 = .ok (.aaload, 1) := by decide +kernel
theorem dX3_tallyServices_58 : decode cX3_tallyServices 58 = .ok (.iload 7, 2) := by decide +kernel
theorem dX3_tallyServices_60 : decode cX3_tallyServices 60 = .ok (.dup2, 1) := by decide +kernel
theorem dX3_tallyServices_61 : decode cX3_tallyServices 61 = .ok (.iaload, 1) := by decide +kernel
theorem dX3_tallyServices_62 : decode cX3_tallyServices 62 = .ok (.iload_n 2, 1) := by decide +kernel
theorem dX3_tallyServices_63 : decode cX3_tallyServices 63 = .ok (.aload_n 3, 1) := by decide +kernel
theorem dX3_tallyServices_64 : decode cX3_tallyServices 64 = .ok (.getfield 307, 3) := by decide +kernel
theorem dX3_tallyServices_67 : decode cX3_tallyServices 67 = .ok (.iload 4, 2) := by decide +kernel
theorem dX3_tallyServices_69 : decode cX3_tallyServices 69 = .ok (.iaload, 1) := by decide +kernel
theorem dX3_tallyServices_70 : decode cX3_tallyServices 70 = .ok (.imul, 1) := by decide +kernel
theorem dX3_tallyServices_71 : decode cX3_tallyServices 71 = .ok (.iadd, 1) := by decide +kernel
theorem dX3_tallyServices_72 : decode cX3_tallyServices 72 = .ok (.iastore, 1) := by decide +kernel
theorem dX3_tallyServices_73 : decode cX3_tallyServices 73 = .ok (.iinc 4 1, 3) := by decide +kernel
theorem dX3_tallyServices_76 : decode cX3_tallyServices 76 = .ok (.goto (-66), 3) := by decide +kernel
theorem dX3_tallyServices_79 : decode cX3_tallyServices 79 = .ok (.return_, 1) := by decide +kernel
theorem dX3_markValues_0 : decode cX3_markValues 0 = .ok (.aload_n 0, 1) := by decide +kernel
theorem dX3_markValues_1 : decode cX3_markValues 1 = .ok (.getfield 27, 3) := by decide +kernel
theorem dX3_markValues_4 : decode cX3_markValues 4 = .ok (.iconst 0, 1) := by decide +kernel
theorem dX3_markValues_5 : decode cX3_markValues 5 = .ok (.invokestatic 288, 3) := by decide +kernel
theorem dX3_markValues_8 : decode cX3_markValues 8 = .ok (.iconst 0, 1) := by decide +kernel
theorem dX3_markValues_9 : decode cX3_markValues 9 = .ok (.istore 4, 2) := by decide +kernel
theorem dX3_markValues_11 : decode cX3_markValues 11 = .ok (.iload 4, 2) := by decide +kernel
theorem dX3_markValues_13 : decode cX3_markValues 13 = .ok (.aload_n 0, 1) := by decide +kernel
theorem dX3_markValues_14 : decode cX3_markValues 14 = .ok (.getfield 116, 3) := by decide +kernel
theorem dX3_markValues_17 : decode cX3_markValues 17 = .ok (.if_icmp .ge 127, 3) := by decide +kernel
theorem dX3_markValues_20 : decode cX3_markValues 20 = .ok (.aload_n 0, 1) := by decide +kernel
theorem dX3_markValues_21 : decode cX3_markValues 21 = .ok (.getfield 17, 3) := by decide +kernel
theorem dX3_markValues_24 : decode cX3_markValues 24 = .ok (.iload 4, 2) := by decide +kernel
theorem dX3_markValues_26 : decode cX3_markValues 26 = .ok (.aaload, 1) := by decide +kernel
theorem dX3_markValues_27 : decode cX3_markValues 27 = .ok (.astore 5, 2) := by decide +kernel
theorem dX3_markValues_29 : decode cX3_markValues 29 = .ok (.aload 5, 2) := by decide +kernel
theorem dX3_markValues_31 : decode cX3_markValues 31 = .ok (.aload_n 0, 1) := by decide +kernel
theorem dX3_markValues_32 : decode cX3_markValues 32 = .ok (.getfield 143, 3) := by decide +kernel
theorem dX3_markValues_35 : decode cX3_markValues 35 = .ok (.invokevirtual 170, 3) := by decide +kernel
theorem dX3_markValues_38 : decode cX3_markValues 38 = .ok (.ifCond .eq 100, 3) := by decide +kernel
theorem dX3_markValues_41 : decode cX3_markValues 41 = .ok (.aload 5, 2) := by decide +kernel
theorem dX3_markValues_43 : decode cX3_markValues 43 = .ok (.getfield 262, 3) := by decide +kernel
theorem dX3_markValues_46 : decode cX3_markValues 46 = .ok (.iload_n 1, 1) := by decide +kernel
theorem dX3_markValues_47 : decode cX3_markValues 47 = .ok (.iaload, 1) := by decide +kernel
theorem dX3_markValues_48 : decode cX3_markValues 48 = .ok (.istore 6, 2) := by decide +kernel
theorem dX3_markValues_50 : decode cX3_markValues 50 = .ok (.iload 6, 2) := by decide +kernel
theorem dX3_markValues_52 : decode cX3_markValues 52 = .ok (.istore 7, 2) := by decide +kernel
theorem dX3_markValues_54 : decode cX3_markValues 54 = .ok (.iload_n 3, 1) := by decide +kernel
theorem dX3_markValues_55 : decode cX3_markValues 55 = .ok (.ifCond .eq 24, 3) := by decide +kernel
theorem dX3_markValues_58 : decode cX3_markValues 58 = .ok (.aload_n 0, 1) := by decide +kernel
theorem dX3_markValues_59 : decode cX3_markValues 59 = .ok (.aload 5, 2) := by decide +kernel
theorem dX3_markValues_61 : decode cX3_markValues 61 = .ok (.getfield 119, 3) := by decide +kernel
theorem dX3_markValues_64 : decode cX3_markValues 64 = .ok (.iload_n 1, 1) := by decide +kernel
theorem dX3_markValues_65 : decode cX3_markValues 65 = .ok (.iaload, 1) := by decide +kernel
theorem dX3_markValues_66 : decode cX3_markValues 66 = .ok (.iload_n 2, 1) := by decide +kernel
theorem dX3_markValues_67 : decode cX3_markValues 67 = .ok (.invokevirtual 122, 3) := by decide +kernel
theorem dX3_markValues_70 : decode cX3_markValues 70 = .ok (.ifCond .eq 9, 3) := by decide +kernel
theorem dX3_markValues_73 : decode cX3_markValues 73 = .ok (.iload 7, 2) := by decide +kernel
theorem dX3_markValues_75 : decode cX3_markValues 75 = .ok (.iload_n 3, 1) := by decide +kernel
theorem dX3_markValues_76 : decode cX3_markValues 76 = .ok (.ior, 1) := by decide +kernel
theorem dX3_markValues_77 : decode cX3_markValues 77 = .ok (.istore 7, 2) := by decide +kernel
theorem dX3_markValues_79 : decode cX3_markValues 79 = .ok (.iconst 0, 1) := by decide +kernel
theorem dX3_markValues_80 : decode cX3_markValues 80 = .ok (.istore 8, 2) := by decide +kernel
theorem dX3_markValues_82 : decode cX3_markValues 82 = .ok (.iload 8, 2) := by decide +kernel
theorem dX3_markValues_84 : decode cX3_markValues 84 = .ok (.bipush 32, 2) := by decide +kernel
theorem dX3_markValues_86 : decode cX3_markValues 86 = .ok (.if_icmp .ge 52, 3) := by decide +kernel
theorem dX3_markValues_89 : decode cX3_markValues 89 = .ok (.aload_n 0, 1) := by decide +kernel
theorem dX3_markValues_90 : decode cX3_markValues 90 = .ok (.getfield 27, 3) := by decide +kernel
theorem dX3_markValues_93 : decode cX3_markValues 93 = .ok (.iload 8, 2) := by decide +kernel
theorem dX3_markValues_95 : decode cX3_markValues 95 = .ok (.dup2, 1) := by decide +kernel
theorem dX3_markValues_96 : decode cX3_markValues 96 = .ok (.iaload, 1) := by decide +kernel
theorem dX3_markValues_97 : decode cX3_markValues 97 = .ok (.iload 6, 2) := by decide +kernel
theorem dX3_markValues_99 : decode cX3_markValues 99 = .ok (.iload 8, 2) := by decide +kernel
theorem dX3_markValues_101 : decode cX3_markValues 101 = .ok (.iushr, 1) := by decide +kernel
theorem dX3_markValues_102 : decode cX3_markValues 102 = .ok (.iconst 1, 1) := by decide +kernel
theorem dX3_markValues_103 : decode cX3_markValues 103 = .ok (.iand, 1) := by decide +kernel
theorem dX3_markValues_104 : decode cX3_markValues 104 = .ok (.iload 4, 2) := by decide +kernel
theorem dX3_markValues_106 : decode cX3_markValues 106 = .ok (.ishl, 1) := by decide +kernel
theorem dX3_markValues_107 : decode cX3_markValues 107 = .ok (.ior, 1) := by decide +kernel
theorem dX3_markValues_108 : decode cX3_markValues 108 = .ok (.iastore, 1) := by decide +kernel
theorem dX3_markValues_109 : decode cX3_markValues 109 = .ok (.aload_n 0, 1) := by decide +kernel
theorem dX3_markValues_110 : decode cX3_markValues 110 = .ok (.getfield 27, 3) := by decide +kernel
theorem dX3_markValues_113 : decode cX3_markValues 113 = .ok (.iload 8, 2) := by decide +kernel
theorem dX3_markValues_115 : decode cX3_markValues 115 = .ok (.dup2, 1) := by decide +kernel
theorem dX3_markValues_116 : decode cX3_markValues 116 = .ok (.iaload, 1) := by decide +kernel
theorem dX3_markValues_117 : decode cX3_markValues 117 = .ok (.iload 7, 2) := by decide +kernel
theorem dX3_markValues_119 : decode cX3_markValues 119 = .ok (.iload 8, 2) := by decide +kernel
theorem dX3_markValues_121 : decode cX3_markValues 121 = .ok (.iushr, 1) := by decide +kernel
theorem dX3_markValues_122 : decode cX3_markValues 122 = .ok (.iconst 1, 1) := by decide +kernel
theorem dX3_markValues_123 : decode cX3_markValues 123 = .ok (.iand, 1) := by decide +kernel
theorem dX3_markValues_124 : decode cX3_markValues 124 = .ok (.iload 4, 2) := by decide +kernel
theorem dX3_markValues_126 : decode cX3_markValues 126 = .ok (.bipush 8, 2) := by decide +kernel
theorem dX3_markValues_128 : decode cX3_markValues 128 = .ok (.iadd, 1) := by decide +kernel
theorem dX3_markValues_129 : decode cX3_markValues 129 = .ok (.ishl, 1) := by decide +kernel
theorem dX3_markValues_130 : decode cX3_markValues 130 = .ok (.ior, 1) := by decide +kernel
theorem dX3_markValues_131 : decode cX3_markValues 131 = .ok (.iastore, 1) := by decide +kernel
theorem dX3_markValues_132 : decode cX3_markValues 132 = .ok (.iinc 8 1, 3) := by decide +kernel
theorem dX3_markValues_135 : decode cX3_markValues 135 = .ok (.goto (-53), 3) := by decide +kernel
theorem dX3_markValues_138 : decode cX3_markValues 138 = .ok (.iinc 4 1, 3) := by decide +kernel
theorem dX3_markValues_141 : decode cX3_markValues 141 = .ok (.goto (-130), 3) := by decide +kernel
theorem dX3_markValues_144 : decode cX3_markValues 144 = .ok (.return_, 1) := by decide +kernel
theorem dX3_groupValues_0 : decode cX3_groupValues 0 = .ok (.aload_n 1, 1) := by decide +kernel
theorem dX3_groupValues_1 : decode cX3_groupValues 1 = .ok (.iconst 0, 1) := by decide +kernel
theorem dX3_groupValues_2 : decode cX3_groupValues 2 = .ok (.putfield 301, 3) := by decide +kernel
theorem dX3_groupValues_5 : decode cX3_groupValues 5 = .ok (.iconst 0, 1) := by decide +kernel
theorem dX3_groupValues_6 : decode cX3_groupValues 6 = .ok (.istore_n 2, 1) := by decide +kernel
theorem dX3_groupValues_7 : decode cX3_groupValues 7 = .ok (.iload_n 2, 1) := by decide +kernel
theorem dX3_groupValues_8 : decode cX3_groupValues 8 = .ok (.bipush 32, 2) := by decide +kernel
theorem dX3_groupValues_10 : decode cX3_groupValues 10 = .ok (.if_icmp .ge 19, 3) := by decide +kernel
theorem dX3_groupValues_13 : decode cX3_groupValues 13 = .ok (.aload_n 1, 1) := by decide +kernel
theorem dX3_groupValues_14 : decode cX3_groupValues 14 = .ok (.aload_n 0, 1) := by decide +kernel
theorem dX3_groupValues_15 : decode cX3_groupValues 15 = .ok (.getfield 27, 3) := by decide +kernel
theorem dX3_groupValues_18 : decode cX3_groupValues 18 = .ok (.iload_n 2, 1) := by decide +kernel
theorem dX3_groupValues_19 : decode cX3_groupValues 19 = .ok (.iaload, 1) := by decide +kernel
theorem dX3_groupValues_20 : decode cX3_groupValues 20 = .ok (.invokevirtual 313, 3) := by decide +kernel
theorem dX3_groupValues_23 : decode cX3_groupValues 23 = .ok (.iinc 2 1, 3) := by decide +kernel
theorem dX3_groupValues_26 : decode cX3_groupValues 26 = .ok (.goto (-19), 3) := by decide +kernel
theorem dX3_groupValues_29 : decode cX3_groupValues 29 = .ok (.return_, 1) := by decide +kernel
theorem dX3_shift_0 : decode cX3_shift 0 = .ok (.aload_n 0, 1) := by decide +kernel
theorem dX3_shift_1 : decode cX3_shift 1 = .ok (.getfield 17, 3) := by decide +kernel
theorem dX3_shift_4 : decode cX3_shift 4 = .ok (.iload_n 1, 1) := by decide +kernel
theorem dX3_shift_5 : decode cX3_shift 5 = .ok (.aaload, 1) := by decide +kernel
theorem dX3_shift_6 : decode cX3_shift 6 = .ok (.astore_n 3, 1) := by decide +kernel
theorem dX3_shift_7 : decode cX3_shift 7 = .ok (.iload_n 1, 1) := by decide +kernel
theorem dX3_shift_8 : decode cX3_shift 8 = .ok (.istore 4, 2) := by decide +kernel
theorem dX3_shift_10 : decode cX3_shift 10 = .ok (.iload 4, 2) := by decide +kernel
theorem dX3_shift_12 : decode cX3_shift 12 = .ok (.iload_n 2, 1) := by decide +kernel
theorem dX3_shift_13 : decode cX3_shift 13 = .ok (.if_icmp .ge 25, 3) := by decide +kernel
theorem dX3_shift_16 : decode cX3_shift 16 = .ok (.aload_n 0, 1) := by decide +kernel
theorem dX3_shift_17 : decode cX3_shift 17 = .ok (.getfield 17, 3) := by decide +kernel
theorem dX3_shift_20 : decode cX3_shift 20 = .ok (.iload 4, 2) := by decide +kernel
theorem dX3_shift_22 : decode cX3_shift 22 = .ok (.aload_n 0, 1) := by decide +kernel
theorem dX3_shift_23 : decode cX3_shift 23 = .ok (.getfield 17, 3) := by decide +kernel
theorem dX3_shift_26 : decode cX3_shift 26 = .ok (.iload 4, 2) := by decide +kernel
theorem dX3_shift_28 : decode cX3_shift 28 = .ok (.iconst 1, 1) := by decide +kernel
theorem dX3_shift_29 : decode cX3_shift 29 = .ok (.iadd, 1) := by decide +kernel
theorem dX3_shift_30 : decode cX3_shift 30 = .ok (.aaload, 1) := by decide +kernel
theorem dX3_shift_31 : decode cX3_shift 31 = .ok (.aastore, 1) := by decide +kernel
theorem dX3_shift_32 : decode cX3_shift 32 = .ok (.iinc 4 1, 3) := by decide +kernel
theorem dX3_shift_35 : decode cX3_shift 35 = .ok (.goto (-25), 3) := by decide +kernel
theorem dX3_shift_38 : decode cX3_shift 38 = .ok (.iload_n 1, 1) := by decide +kernel
theorem dX3_shift_39 : decode cX3_shift 39 = .ok (.istore 4, 2) := by decide +kernel
theorem dX3_shift_41 : decode cX3_shift 41 = .ok (.iload 4, 2) := by decide +kernel
theorem dX3_shift_43 : decode cX3_shift 43 = .ok (.iload_n 2, 1) := by decide +kernel
theorem dX3_shift_44 : decode cX3_shift 44 = .ok (.if_icmp .le 25, 3) := by decide +kernel
theorem dX3_shift_47 : decode cX3_shift 47 = .ok (.aload_n 0, 1) := by decide +kernel
theorem dX3_shift_48 : decode cX3_shift 48 = .ok (.getfield 17, 3) := by decide +kernel
theorem dX3_shift_51 : decode cX3_shift 51 = .ok (.iload 4, 2) := by decide +kernel
theorem dX3_shift_53 : decode cX3_shift 53 = .ok (.aload_n 0, 1) := by decide +kernel
theorem dX3_shift_54 : decode cX3_shift 54 = .ok (.getfield 17, 3) := by decide +kernel
theorem dX3_shift_57 : decode cX3_shift 57 = .ok (.iload 4, 2) := by decide +kernel
theorem dX3_shift_59 : decode cX3_shift 59 = .ok (.iconst 1, 1) := by decide +kernel
theorem dX3_shift_60 : decode cX3_shift 60 = .ok (.isub, 1) := by decide +kernel
theorem dX3_shift_61 : decode cX3_shift 61 = .ok (.aaload, 1) := by decide +kernel
theorem dX3_shift_62 : decode cX3_shift 62 = .ok (.aastore, 1) := by decide +kernel
theorem dX3_shift_63 : decode cX3_shift 63 = .ok (.iinc 4 (-1), 3) := by decide +kernel
theorem dX3_shift_66 : decode cX3_shift 66 = .ok (.goto (-25), 3) := by decide +kernel
theorem dX3_shift_69 : decode cX3_shift 69 = .ok (.aload_n 0, 1) := by decide +kernel
theorem dX3_shift_70 : decode cX3_shift 70 = .ok (.getfield 17, 3) := by decide +kernel
theorem dX3_shift_73 : decode cX3_shift 73 = .ok (.iload_n 2, 1) := by decide +kernel
theorem dX3_shift_74 : decode cX3_shift 74 = .ok (.aload_n 3, 1) := by decide +kernel
theorem dX3_shift_75 : decode cX3_shift 75 = .ok (.aastore, 1) := by decide +kernel
theorem dX3_shift_76 : decode cX3_shift 76 = .ok (.return_, 1) := by decide +kernel
theorem dX3_changedByShift_0 : decode cX3_changedByShift 0 = .ok (.iload_n 2, 1) := by decide +kernel
theorem dX3_changedByShift_1 : decode cX3_changedByShift 1 = .ok (.iload_n 1, 1) := by decide +kernel
theorem dX3_changedByShift_2 : decode cX3_changedByShift 2 = .ok (.if_icmp .ge 13, 3) := by decide +kernel
theorem dX3_changedByShift_5 : decode cX3_changedByShift 5 = .ok (.aload_n 0, 1) := by decide +kernel
theorem dX3_changedByShift_6 : decode cX3_changedByShift 6 = .ok (.iload_n 1, 1) := by decide +kernel
theorem dX3_changedByShift_7 : decode cX3_changedByShift 7 = .ok (.iload_n 2, 1) := by decide +kernel
theorem dX3_changedByShift_8 : decode cX3_changedByShift 8 = .ok (.iload_n 1, 1) := by decide +kernel
theorem dX3_changedByShift_9 : decode cX3_changedByShift 9 = .ok (.invokevirtual 316, 3) := by decide +kernel
theorem dX3_changedByShift_12 : decode cX3_changedByShift 12 = .ok (.goto 14, 3) := by decide +kernel
theorem dX3_changedByShift_15 : decode cX3_changedByShift 15 = .ok (.aload_n 0, 1) := by decide +kernel
theorem dX3_changedByShift_16 : decode cX3_changedByShift 16 = .ok (.iload_n 1, 1) := by decide +kernel
theorem dX3_changedByShift_17 : decode cX3_changedByShift 17 = .ok (.iload_n 1, 1) := by decide +kernel
theorem dX3_changedByShift_18 : decode cX3_changedByShift 18 = .ok (.iconst 1, 1) := by decide +kernel
theorem dX3_changedByShift_19 : decode cX3_changedByShift 19 = .ok (.iadd, 1) := by decide +kernel
theorem dX3_changedByShift_20 : decode cX3_changedByShift 20 = .ok (.iload_n 2, 1) := by decide +kernel
theorem dX3_changedByShift_21 : decode cX3_changedByShift 21 = .ok (.iconst 1, 1) := by decide +kernel
theorem dX3_changedByShift_22 : decode cX3_changedByShift 22 = .ok (.iadd, 1) := by decide +kernel
theorem dX3_changedByShift_23 : decode cX3_changedByShift 23 = .ok (.invokevirtual 316, 3) := by decide +kernel
theorem dX3_changedByShift_26 : decode cX3_changedByShift 26 = .ok (.ireturn, 1) := by decide +kernel
theorem dX3_changedByRemoval_0 : decode cX3_changedByRemoval 0 = .ok (.aload_n 0, 1) := by decide +kernel
theorem dX3_changedByRemoval_1 : decode cX3_changedByRemoval 1 = .ok (.getfield 17, 3) := by decide +kernel
theorem dX3_changedByRemoval_4 : decode cX3_changedByRemoval 4 = .ok (.iload_n 1, 1) := by decide +kernel
theorem dX3_changedByRemoval_5 : decode cX3_changedByRemoval 5 = .ok (.aaload, 1) := by decide +kernel
theorem dX3_changedByRemoval_6 : decode cX3_changedByRemoval 6 = .ok (.astore_n 2, 1) := by decide +kernel
theorem dX3_changedByRemoval_7 : decode cX3_changedByRemoval 7 = .ok (.aload_n 0, 1) := by decide +kernel
theorem dX3_changedByRemoval_8 : decode cX3_changedByRemoval 8 = .ok (.iload_n 1, 1) := by decide +kernel
theorem dX3_changedByRemoval_9 : decode cX3_changedByRemoval 9 = .ok (.iload_n 1, 1) := by decide +kernel
theorem dX3_changedByRemoval_10 : decode cX3_changedByRemoval 10 = .ok (.iconst 1, 1) := by decide +kernel
theorem dX3_changedByRemoval_11 : decode cX3_changedByRemoval 11 = .ok (.iadd, 1) := by decide +kernel
theorem dX3_changedByRemoval_12 : decode cX3_changedByRemoval 12 = .ok (.aload_n 0, 1) := by decide +kernel
theorem dX3_changedByRemoval_13 : decode cX3_changedByRemoval 13 = .ok (.getfield 116, 3) := by decide +kernel
theorem dX3_changedByRemoval_16 : decode cX3_changedByRemoval 16 = .ok (.invokevirtual 316, 3) := by decide +kernel
theorem dX3_changedByRemoval_19 : decode cX3_changedByRemoval 19 = .ok (.istore_n 3, 1) := by decide +kernel
theorem dX3_changedByRemoval_20 : decode cX3_changedByRemoval 20 = .ok (.aload_n 2, 1) := by decide +kernel
theorem dX3_changedByRemoval_21 : decode cX3_changedByRemoval 21 = .ok (.getfield 191, 3) := by decide +kernel
theorem dX3_changedByRemoval_24 : decode cX3_changedByRemoval 24 = .ok (.bipush 97, 2) := by decide +kernel
theorem dX3_changedByRemoval_26 : decode cX3_changedByRemoval 26 = .ok (.if_icmp .ne 41, 3) := by decide +kernel
theorem dX3_changedByRemoval_29 : decode cX3_changedByRemoval 29 = .ok (.aload_n 2, 1) := by decide +kernel
theorem dX3_changedByRemoval_30 : decode cX3_changedByRemoval 30 = .ok (.aload_n 0, 1) := by decide +kernel
theorem dX3_changedByRemoval_31 : decode cX3_changedByRemoval 31 = .ok (.getfield 143, 3) := by decide +kernel
theorem dX3_changedByRemoval_34 : decode cX3_changedByRemoval 34 = .ok (.invokevirtual 170, 3) := by decide +kernel
theorem dX3_changedByRemoval_37 : decode cX3_changedByRemoval 37 = .ok (.ifCond .eq 30, 3) := by decide +kernel
theorem dX3_changedByRemoval_40 : decode cX3_changedByRemoval 40 = .ok (.aload_n 0, 1) := by decide +kernel
theorem dX3_changedByRemoval_41 : decode cX3_changedByRemoval 41 = .ok (.aload_n 0, 1) := by decide +kernel
theorem dX3_changedByRemoval_42 : decode cX3_changedByRemoval 42 = .ok (.getfield 116, 3) := by decide +kernel
theorem dX3_changedByRemoval_45 : decode cX3_changedByRemoval 45 = .ok (.invokevirtual 237, 3) := by decide +kernel
theorem dX3_changedByRemoval_48 : decode cX3_changedByRemoval 48 = .ok (.iconst 1, 1) := by decide +kernel
theorem dX3_changedByRemoval_49 : decode cX3_changedByRemoval 49 = .ok (.iload_n 1, 1) := by decide +kernel
theorem dX3_changedByRemoval_50 : decode cX3_changedByRemoval 50 = .ok (.ishl, 1) := by decide +kernel
theorem dX3_changedByRemoval_51 : decode cX3_changedByRemoval 51 = .ok (.iconst (-1), 1) := by decide +kernel
theorem dX3_changedByRemoval_52 : decode cX3_changedByRemoval 52 = .ok (.ixor, 1) := by decide +kernel
theorem dX3_changedByRemoval_53 : decode cX3_changedByRemoval 53 = .ok (.iand, 1) := by decide +kernel
theorem dX3_changedByRemoval_54 : decode cX3_changedByRemoval 54 = .ok (.istore 4, 2) := by decide +kernel
theorem dX3_changedByRemoval_56 : decode cX3_changedByRemoval 56 = .ok (.iload_n 3, 1) := by decide +kernel
theorem dX3_changedByRemoval_57 : decode cX3_changedByRemoval 57 = .ok (.aload_n 0, 1) := by decide +kernel
theorem dX3_changedByRemoval_58 : decode cX3_changedByRemoval 58 = .ok (.aload_n 2, 1) := by decide +kernel
theorem dX3_changedByRemoval_59 : decode cX3_changedByRemoval 59 = .ok (.aload_n 2, 1) := by decide +kernel
theorem dX3_changedByRemoval_60 : decode cX3_changedByRemoval 60 = .ok (.iload 4, 2) := by decide +kernel
theorem dX3_changedByRemoval_62 : decode cX3_changedByRemoval 62 = .ok (.invokevirtual 284, 3) := by decide +kernel
theorem dX3_changedByRemoval_65 : decode cX3_changedByRemoval 65 = .ok (.iadd, 1) := by decide +kernel
theorem dX3_changedByRemoval_66 : decode cX3_changedByRemoval 66 = .ok (.istore_n 3, 1) := by decide +kernel
theorem dX3_changedByRemoval_67 : decode cX3_changedByRemoval 67 = .ok (.iload_n 3, 1) := by decide +kernel
theorem dX3_changedByRemoval_68 : decode cX3_changedByRemoval 68 = .ok (.ireturn, 1) := by decide +kernel
theorem dX3_changedAgainst_0 : decode cX3_changedAgainst 0 = .ok (.aload_n 0, 1) := by decide +kernel
theorem dX3_changedAgainst_1 : decode cX3_changedAgainst 1 = .ok (.getfield 17, 3) := by decide +kernel
theorem dX3_changedAgainst_4 : decode cX3_changedAgainst 4 = .ok (.iload_n 1, 1) := by decide +kernel
theorem dX3_changedAgainst_5 : decode cX3_changedAgainst 5 = .ok (.aaload, 1) := by decide +kernel
theorem dX3_changedAgainst_6 : decode cX3_changedAgainst 6 = .ok (.astore 4, 2) := by decide +kernel
theorem dX3_changedAgainst_8 : decode cX3_changedAgainst 8 = .ok (.aload 4, 2) := by decide +kernel
theorem dX3_changedAgainst_10 : decode cX3_changedAgainst 10 = .ok (.aload_n 0, 1) := by decide +kernel
theorem dX3_changedAgainst_11 : decode cX3_changedAgainst 11 = .ok (.getfield 143, 3) := by decide +kernel
theorem dX3_changedAgainst_14 : decode cX3_changedAgainst 14 = .ok (.invokevirtual 170, 3) := by decide +kernel
theorem dX3_changedAgainst_17 : decode cX3_changedAgainst 17 = .ok (.ifCond .ne 5, 3) := by decide +kernel
theorem dX3_changedAgainst_20 : decode cX3_changedAgainst 20 = .ok (.iconst 0, 1) := by decide +kernel
theorem dX3_changedAgainst_21 : decode cX3_changedAgainst 21 = .ok (.ireturn, 1) := by decide +kernel
theorem dX3_changedAgainst_22 : decode cX3_changedAgainst 22 = .ok (.iconst 0, 1) := by decide +kernel
theorem dX3_changedAgainst_23 : decode cX3_changedAgainst 23 = .ok (.istore 5, 2) := by decide +kernel
theorem dX3_changedAgainst_25 : decode cX3_changedAgainst 25 = .ok (.iload_n 2, 1) := by decide +kernel
theorem dX3_changedAgainst_26 : decode cX3_changedAgainst 26 = .ok (.istore 6, 2) := by decide +kernel
theorem dX3_changedAgainst_28 : decode cX3_changedAgainst 28 = .ok (.iload 6, 2) := by decide +kernel
theorem dX3_changedAgainst_30 : decode cX3_changedAgainst 30 = .ok (.iload_n 3, 1) := by decide +kernel
theorem dX3_changedAgainst_31 : decode cX3_changedAgainst 31 = .ok (.if_icmp .ge 68, 3) := by decide +kernel
theorem dX3_changedAgainst_34 : decode cX3_changedAgainst 34 = .ok (.aload_n 0, 1) := by decide +kernel
theorem dX3_changedAgainst_35 : decode cX3_changedAgainst 35 = .ok (.getfield 17, 3) := by decide +kernel
theorem dX3_changedAgainst_38 : decode cX3_changedAgainst 38 = .ok (.iload 6, 2) := by decide +kernel
theorem dX3_changedAgainst_40 : decode cX3_changedAgainst 40 = .ok (.aaload, 1) := by decide +kernel
theorem dX3_changedAgainst_41 : decode cX3_changedAgainst 41 = .ok (.astore 7, 2) := by decide +kernel
theorem dX3_changedAgainst_43 : decode cX3_changedAgainst 43 = .ok (.aload 7, 2) := by decide +kernel
theorem dX3_changedAgainst_45 : decode cX3_changedAgainst 45 = .ok (.aload_n 0, 1) := by decide +kernel
theorem dX3_changedAgainst_46 : decode cX3_changedAgainst 46 = .ok (.getfield 143, 3) := by decide +kernel
theorem dX3_changedAgainst_49 : decode cX3_changedAgainst 49 = .ok (.invokevirtual 170, 3) := by decide +kernel
theorem dX3_changedAgainst_52 : decode cX3_changedAgainst 52 = .ok (.ifCond .eq 41, 3) := by decide +kernel
theorem dX3_changedAgainst_55 : decode cX3_changedAgainst 55 = .ok (.aload 7, 2) := by decide +kernel
theorem dX3_changedAgainst_57 : decode cX3_changedAgainst 57 = .ok (.getfield 191, 3) := by decide +kernel
theorem dX3_changedAgainst_60 : decode cX3_changedAgainst 60 = .ok (.aload 4, 2) := by decide +kernel
theorem dX3_changedAgainst_62 : decode cX3_changedAgainst 62 = .ok (.getfield 191, 3) := by decide +kernel
theorem dX3_changedAgainst_65 : decode cX3_changedAgainst 65 = .ok (.if_icmp .eq 28, 3) := by decide +kernel
theorem dX3_changedAgainst_68 : decode cX3_changedAgainst 68 = .ok (.iload 5, 2) := by decide +kernel
theorem dX3_changedAgainst_70 : decode cX3_changedAgainst 70 = .ok (.aload_n 0, 1) := by decide +kernel
theorem dX3_changedAgainst_71 : decode cX3_changedAgainst 71 = .ok (.aload 4, 2) := by decide +kernel
theorem dX3_changedAgainst_73 : decode cX3_changedAgainst 73 = .ok (.aload 7, 2) := by decide +kernel
theorem dX3_changedAgainst_75 : decode cX3_changedAgainst 75 = .ok (.aload_n 0, 1) := by decide +kernel
theorem dX3_changedAgainst_76 : decode cX3_changedAgainst 76 = .ok (.iload 6, 2) := by decide +kernel
theorem dX3_changedAgainst_78 : decode cX3_changedAgainst 78 = .ok (.invokevirtual 237, 3) := by decide +kernel
theorem dX3_changedAgainst_81 : decode cX3_changedAgainst 81 = .ok (.iconst 1, 1) := by decide +kernel
theorem dX3_changedAgainst_82 : decode cX3_changedAgainst 82 = .ok (.iload_n 1, 1) := by decide +kernel
theorem dX3_changedAgainst_83 : decode cX3_changedAgainst 83 = .ok (.ishl, 1) := by decide +kernel
theorem dX3_changedAgainst_84 : decode cX3_changedAgainst 84 = .ok (.iconst (-1), 1) := by decide +kernel
theorem dX3_changedAgainst_85 : decode cX3_changedAgainst 85 = .ok (.ixor, 1) := by decide +kernel
theorem dX3_changedAgainst_86 : decode cX3_changedAgainst 86 = .ok (.iand, 1) := by decide +kernel
theorem dX3_changedAgainst_87 : decode cX3_changedAgainst 87 = .ok (.invokevirtual 284, 3) := by decide +kernel
theorem dX3_changedAgainst_90 : decode cX3_changedAgainst 90 = .ok (.iadd, 1) := by decide +kernel
theorem dX3_changedAgainst_91 : decode cX3_changedAgainst 91 = .ok (.istore 5, 2) := by decide +kernel
theorem dX3_changedAgainst_93 : decode cX3_changedAgainst 93 = .ok (.iinc 6 1, 3) := by decide +kernel
theorem dX3_changedAgainst_96 : decode cX3_changedAgainst 96 = .ok (.goto (-68), 3) := by decide +kernel
theorem dX3_changedAgainst_99 : decode cX3_changedAgainst 99 = .ok (.iload 5, 2) := by decide +kernel
theorem dX3_changedAgainst_101 : decode cX3_changedAgainst 101 = .ok (.ireturn, 1) := by decide +kernel
theorem dX3_swapByHits_0 : decode cX3_swapByHits 0 = .ok (.iconst 0, 1) := by decide +kernel
theorem dX3_swapByHits_1 : decode cX3_swapByHits 1 = .ok (.istore_n 1, 1) := by decide +kernel
theorem dX3_swapByHits_2 : decode cX3_swapByHits 2 = .ok (.iconst 0, 1) := by decide +kernel
theorem dX3_swapByHits_3 : decode cX3_swapByHits 3 = .ok (.istore_n 2, 1) := by decide +kernel
theorem dX3_swapByHits_4 : decode cX3_swapByHits 4 = .ok (.iload_n 2, 1) := by decide +kernel
theorem dX3_swapByHits_5 : decode cX3_swapByHits 5 = .ok (.aload_n 0, 1) := by decide +kernel
theorem dX3_swapByHits_6 : decode cX3_swapByHits 6 = .ok (.getfield 116, 3) := by decide +kernel
theorem dX3_swapByHits_9 : decode cX3_swapByHits 9 = .ok (.iconst 1, 1) := by decide +kernel
theorem dX3_swapByHits_10 : decode cX3_swapByHits 10 = .ok (.isub, 1) := by decide +kernel
theorem dX3_swapByHits_11 : decode cX3_swapByHits 11 = .ok (.if_icmp .ge 54, 3) := by decide +kernel
theorem dX3_swapByHits_14 : decode cX3_swapByHits 14 = .ok (.aload_n 0, 1) := by decide +kernel
theorem dX3_swapByHits_15 : decode cX3_swapByHits 15 = .ok (.getfield 17, 3) := by decide +kernel
theorem dX3_swapByHits_18 : decode cX3_swapByHits 18 = .ok (.iload_n 2, 1) := by decide +kernel
theorem dX3_swapByHits_19 : decode cX3_swapByHits 19 = .ok (.iconst 1, 1) := by decide +kernel
theorem dX3_swapByHits_20 : decode cX3_swapByHits 20 = .ok (.iadd, 1) := by decide +kernel
theorem dX3_swapByHits_21 : decode cX3_swapByHits 21 = .ok (.aaload, 1) := by decide +kernel
theorem dX3_swapByHits_22 : decode cX3_swapByHits 22 = .ok (.getfield 195, 3) := by decide +kernel
theorem dX3_swapByHits_25 : decode cX3_swapByHits 25 = .ok (.aload_n 0, 1) := by decide +kernel
theorem dX3_swapByHits_26 : decode cX3_swapByHits 26 = .ok (.getfield 17, 3) := by decide +kernel
theorem dX3_swapByHits_29 : decode cX3_swapByHits 29 = .ok (.iload_n 2, 1) := by decide +kernel
theorem dX3_swapByHits_30 : decode cX3_swapByHits 30 = .ok (.aaload, 1) := by decide +kernel
theorem dX3_swapByHits_31 : decode cX3_swapByHits 31 = .ok (.getfield 195, 3) := by decide +kernel
theorem dX3_swapByHits_34 : decode cX3_swapByHits 34 = .ok (.if_icmp .le 25, 3) := by decide +kernel
theorem dX3_swapByHits_37 : decode cX3_swapByHits 37 = .ok (.aload_n 0, 1) := by decide +kernel
theorem dX3_swapByHits_38 : decode cX3_swapByHits 38 = .ok (.iload_n 2, 1) := by decide +kernel
theorem dX3_swapByHits_39 : decode cX3_swapByHits 39 = .ok (.iload_n 2, 1) := by decide +kernel
theorem dX3_swapByHits_40 : decode cX3_swapByHits 40 = .ok (.iconst 1, 1) := by decide +kernel
theorem dX3_swapByHits_41 : decode cX3_swapByHits 41 = .ok (.iadd, 1) := by decide +kernel
theorem dX3_swapByHits_42 : decode cX3_swapByHits 42 = .ok (.invokevirtual 224, 3) := by decide +kernel
theorem dX3_swapByHits_45 : decode cX3_swapByHits 45 = .ok (.ifCond .ne 14, 3) := by decide +kernel
theorem dX3_swapByHits_48 : decode cX3_swapByHits 48 = .ok (.aload_n 0, 1) := by decide +kernel
theorem dX3_swapByHits_49 : decode cX3_swapByHits 49 = .ok (.iload_n 2, 1) := by decide +kernel
theorem dX3_swapByHits_50 : decode cX3_swapByHits 50 = .ok (.iload_n 2, 1) := by decide +kernel
theorem dX3_swapByHits_51 : decode cX3_swapByHits 51 = .ok (.iconst 1, 1) := by decide +kernel
theorem dX3_swapByHits_52 : decode cX3_swapByHits 52 = .ok (.iadd, 1) := by decide +kernel
theorem dX3_swapByHits_53 : decode cX3_swapByHits 53 = .ok (.invokevirtual 150, 3) := by decide +kernel
theorem dX3_swapByHits_56 : decode cX3_swapByHits 56 = .ok (.iinc 1 1, 3) := by decide +kernel
theorem dX3_swapByHits_59 : decode cX3_swapByHits 59 = .ok (.iinc 2 1, 3) := by decide +kernel
theorem dX3_swapByHits_62 : decode cX3_swapByHits 62 = .ok (.goto (-58), 3) := by decide +kernel
theorem dX3_swapByHits_65 : decode cX3_swapByHits 65 = .ok (.iload_n 1, 1) := by decide +kernel
theorem dX3_swapByHits_66 : decode cX3_swapByHits 66 = .ok (.ireturn, 1) := by decide +kernel
theorem dJx00060_init_a7421_0 : decode cJx00060_init_a7421 0 = .ok (.aload_n 0, 1) := by decide +kernel
theorem dJx00060_init_a7421_1 : decode cJx00060_init_a7421 1 = .ok (.aload_n 1, 1) := by decide +kernel
theorem dJx00060_init_a7421_2 : decode cJx00060_init_a7421 2 = .ok (.invokespecial 7, 3) := by decide +kernel
theorem dJx00060_init_a7421_5 : decode cJx00060_init_a7421 5 = .ok (.return_, 1) := by decide +kernel
theorem dJ6_bitCount_0f7a4_0 : decode cJ6_bitCount_0f7a4 0 = .ok (.iload_n 0, 1) := by decide +kernel
theorem dJ6_bitCount_0f7a4_1 : decode cJ6_bitCount_0f7a4 1 = .ok (.iload_n 0, 1) := by decide +kernel
theorem dJ6_bitCount_0f7a4_2 : decode cJ6_bitCount_0f7a4 2 = .ok (.iconst 1, 1) := by decide +kernel
theorem dJ6_bitCount_0f7a4_3 : decode cJ6_bitCount_0f7a4 3 = .ok (.iushr, 1) := by decide +kernel
theorem dJ6_bitCount_0f7a4_4 : decode cJ6_bitCount_0f7a4 4 = .ok (.ldc_w 265, 3) := by decide +kernel
theorem dJ6_bitCount_0f7a4_7 : decode cJ6_bitCount_0f7a4 7 = .ok (.iand, 1) := by decide +kernel
theorem dJ6_bitCount_0f7a4_8 : decode cJ6_bitCount_0f7a4 8 = .ok (.isub, 1) := by decide +kernel
theorem dJ6_bitCount_0f7a4_9 : decode cJ6_bitCount_0f7a4 9 = .ok (.istore_n 0, 1) := by decide +kernel
theorem dJ6_bitCount_0f7a4_10 : decode cJ6_bitCount_0f7a4 10 = .ok (.iload_n 0, 1) := by decide +kernel
theorem dJ6_bitCount_0f7a4_11 : decode cJ6_bitCount_0f7a4 11 = .ok (.ldc_w 266, 3) := by decide +kernel
theorem dJ6_bitCount_0f7a4_14 : decode cJ6_bitCount_0f7a4 14 = .ok (.iand, 1) := by decide +kernel
theorem dJ6_bitCount_0f7a4_15 : decode cJ6_bitCount_0f7a4 15 = .ok (.iload_n 0, 1) := by decide +kernel
theorem dJ6_bitCount_0f7a4_16 : decode cJ6_bitCount_0f7a4 16 = .ok (.iconst 2, 1) := by decide +kernel
theorem dJ6_bitCount_0f7a4_17 : decode cJ6_bitCount_0f7a4 17 = .ok (.iushr, 1) := by decide +kernel
theorem dJ6_bitCount_0f7a4_18 : decode cJ6_bitCount_0f7a4 18 = .ok (.ldc_w 266, 3) := by decide +kernel
theorem dJ6_bitCount_0f7a4_21 : decode cJ6_bitCount_0f7a4 21 = .ok (.iand, 1) := by decide +kernel
theorem dJ6_bitCount_0f7a4_22 : decode cJ6_bitCount_0f7a4 22 = .ok (.iadd, 1) := by decide +kernel
theorem dJ6_bitCount_0f7a4_23 : decode cJ6_bitCount_0f7a4 23 = .ok (.istore_n 0, 1) := by decide +kernel
theorem dJ6_bitCount_0f7a4_24 : decode cJ6_bitCount_0f7a4 24 = .ok (.iload_n 0, 1) := by decide +kernel
theorem dJ6_bitCount_0f7a4_25 : decode cJ6_bitCount_0f7a4 25 = .ok (.iload_n 0, 1) := by decide +kernel
theorem dJ6_bitCount_0f7a4_26 : decode cJ6_bitCount_0f7a4 26 = .ok (.iconst 4, 1) := by decide +kernel
theorem dJ6_bitCount_0f7a4_27 : decode cJ6_bitCount_0f7a4 27 = .ok (.iushr, 1) := by decide +kernel
theorem dJ6_bitCount_0f7a4_28 : decode cJ6_bitCount_0f7a4 28 = .ok (.iadd, 1) := by decide +kernel
theorem dJ6_bitCount_0f7a4_29 : decode cJ6_bitCount_0f7a4 29 = .ok (.ldc_w 267, 3) := by decide +kernel
theorem dJ6_bitCount_0f7a4_32 : decode cJ6_bitCount_0f7a4 32 = .ok (.iand, 1) := by decide +kernel
theorem dJ6_bitCount_0f7a4_33 : decode cJ6_bitCount_0f7a4 33 = .ok (.istore_n 0, 1) := by decide +kernel
theorem dJ6_bitCount_0f7a4_34 : decode cJ6_bitCount_0f7a4 34 = .ok (.iload_n 0, 1) := by decide +kernel
theorem dJ6_bitCount_0f7a4_35 : decode cJ6_bitCount_0f7a4 35 = .ok (.iload_n 0, 1) := by decide +kernel
theorem dJ6_bitCount_0f7a4_36 : decode cJ6_bitCount_0f7a4 36 = .ok (.bipush 8, 2) := by decide +kernel
theorem dJ6_bitCount_0f7a4_38 : decode cJ6_bitCount_0f7a4 38 = .ok (.iushr, 1) := by decide +kernel
theorem dJ6_bitCount_0f7a4_39 : decode cJ6_bitCount_0f7a4 39 = .ok (.iadd, 1) := by decide +kernel
theorem dJ6_bitCount_0f7a4_40 : decode cJ6_bitCount_0f7a4 40 = .ok (.istore_n 0, 1) := by decide +kernel
theorem dJ6_bitCount_0f7a4_41 : decode cJ6_bitCount_0f7a4 41 = .ok (.iload_n 0, 1) := by decide +kernel
theorem dJ6_bitCount_0f7a4_42 : decode cJ6_bitCount_0f7a4 42 = .ok (.iload_n 0, 1) := by decide +kernel
theorem dJ6_bitCount_0f7a4_43 : decode cJ6_bitCount_0f7a4 43 = .ok (.bipush 16, 2) := by decide +kernel
theorem dJ6_bitCount_0f7a4_45 : decode cJ6_bitCount_0f7a4 45 = .ok (.iushr, 1) := by decide +kernel
theorem dJ6_bitCount_0f7a4_46 : decode cJ6_bitCount_0f7a4 46 = .ok (.iadd, 1) := by decide +kernel
theorem dJ6_bitCount_0f7a4_47 : decode cJ6_bitCount_0f7a4 47 = .ok (.istore_n 0, 1) := by decide +kernel
theorem dJ6_bitCount_0f7a4_48 : decode cJ6_bitCount_0f7a4 48 = .ok (.iload_n 0, 1) := by decide +kernel
theorem dJ6_bitCount_0f7a4_49 : decode cJ6_bitCount_0f7a4 49 = .ok (.bipush 63, 2) := by decide +kernel
theorem dJ6_bitCount_0f7a4_51 : decode cJ6_bitCount_0f7a4 51 = .ok (.iand, 1) := by decide +kernel
theorem dJ6_bitCount_0f7a4_52 : decode cJ6_bitCount_0f7a4 52 = .ok (.ireturn, 1) := by decide +kernel
theorem dJ9_abs_0f7a4_0 : decode cJ9_abs_0f7a4 0 = .ok (.iload_n 0, 1) := by decide +kernel
theorem dJ9_abs_0f7a4_1 : decode cJ9_abs_0f7a4 1 = .ok (.ifCond .ge 8, 3) := by decide +kernel
theorem dJ9_abs_0f7a4_4 : decode cJ9_abs_0f7a4 4 = .ok (.iload_n 0, 1) := by decide +kernel
theorem dJ9_abs_0f7a4_5 : decode cJ9_abs_0f7a4 5 = .ok (.ineg, 1) := by decide +kernel
theorem dJ9_abs_0f7a4_6 : decode cJ9_abs_0f7a4 6 = .ok (.goto 4, 3) := by decide +kernel
theorem dJ9_abs_0f7a4_9 : decode cJ9_abs_0f7a4 9 = .ok (.iload_n 0, 1) := by decide +kernel
theorem dJ9_abs_0f7a4_10 : decode cJ9_abs_0f7a4 10 = .ok (.ireturn, 1) := by decide +kernel
theorem dJ9_min_7cf53_0 : decode cJ9_min_7cf53 0 = .ok (.iload_n 0, 1) := by decide +kernel
theorem dJ9_min_7cf53_1 : decode cJ9_min_7cf53 1 = .ok (.iload_n 1, 1) := by decide +kernel
theorem dJ9_min_7cf53_2 : decode cJ9_min_7cf53 2 = .ok (.if_icmp .gt 7, 3) := by decide +kernel
theorem dJ9_min_7cf53_5 : decode cJ9_min_7cf53 5 = .ok (.iload_n 0, 1) := by decide +kernel
theorem dJ9_min_7cf53_6 : decode cJ9_min_7cf53 6 = .ok (.goto 4, 3) := by decide +kernel
theorem dJ9_min_7cf53_9 : decode cJ9_min_7cf53 9 = .ok (.iload_n 1, 1) := by decide +kernel
theorem dJ9_min_7cf53_10 : decode cJ9_min_7cf53 10 = .ok (.ireturn, 1) := by decide +kernel
theorem dJ7_fill_53178_0 : decode cJ7_fill_53178 0 = .ok (.iconst 0, 1) := by decide +kernel
theorem dJ7_fill_53178_1 : decode cJ7_fill_53178 1 = .ok (.istore_n 2, 1) := by decide +kernel
theorem dJ7_fill_53178_2 : decode cJ7_fill_53178 2 = .ok (.aload_n 0, 1) := by decide +kernel
theorem dJ7_fill_53178_3 : decode cJ7_fill_53178 3 = .ok (.arraylength, 1) := by decide +kernel
theorem dJ7_fill_53178_4 : decode cJ7_fill_53178 4 = .ok (.istore_n 3, 1) := by decide +kernel
theorem dJ7_fill_53178_5 : decode cJ7_fill_53178 5 = .ok (.iload_n 2, 1) := by decide +kernel
theorem dJ7_fill_53178_6 : decode cJ7_fill_53178 6 = .ok (.iload_n 3, 1) := by decide +kernel
theorem dJ7_fill_53178_7 : decode cJ7_fill_53178 7 = .ok (.if_icmp .ge 13, 3) := by decide +kernel
theorem dJ7_fill_53178_10 : decode cJ7_fill_53178 10 = .ok (.aload_n 0, 1) := by decide +kernel
theorem dJ7_fill_53178_11 : decode cJ7_fill_53178 11 = .ok (.iload_n 2, 1) := by decide +kernel
theorem dJ7_fill_53178_12 : decode cJ7_fill_53178 12 = .ok (.iload_n 1, 1) := by decide +kernel
theorem dJ7_fill_53178_13 : decode cJ7_fill_53178 13 = .ok (.iastore, 1) := by decide +kernel
theorem dJ7_fill_53178_14 : decode cJ7_fill_53178 14 = .ok (.iinc 2 1, 3) := by decide +kernel
theorem dJ7_fill_53178_17 : decode cJ7_fill_53178 17 = .ok (.goto (-12), 3) := by decide +kernel
theorem dJ7_fill_53178_20 : decode cJ7_fill_53178 20 = .ok (.return_, 1) := by decide +kernel
theorem dL_cell_0 : decode cL_cell 0 = .ok (.iload_n 1, 1) := by decide +kernel
theorem dL_cell_1 : decode cL_cell 1 = .ok (.aload_n 0, 1) := by decide +kernel
theorem dL_cell_2 : decode cL_cell 2 = .ok (.arraylength, 1) := by decide +kernel
theorem dL_cell_3 : decode cL_cell 3 = .ok (.if_icmp .ge 9, 3) := by decide +kernel
theorem dL_cell_6 : decode cL_cell 6 = .ok (.aload_n 0, 1) := by decide +kernel
theorem dL_cell_7 : decode cL_cell 7 = .ok (.iload_n 1, 1) := by decide +kernel
theorem dL_cell_8 : decode cL_cell 8 = .ok (.iaload, 1) := by decide +kernel
theorem dL_cell_9 : decode cL_cell 9 = .ok (.goto 11, 3) := by decide +kernel
theorem dL_cell_12 : decode cL_cell 12 = .ok (.ldc 7, 2) := by decide +kernel
theorem dL_cell_14 : decode cL_cell 14 = .ok (.iload_n 1, 1) := by decide +kernel
theorem dL_cell_15 : decode cL_cell 15 = .ok (.imul, 1) := by decide +kernel
theorem dL_cell_16 : decode cL_cell 16 = .ok (.sipush 389, 3) := by decide +kernel
theorem dL_cell_19 : decode cL_cell 19 = .ok (.iadd, 1) := by decide +kernel
theorem dL_cell_20 : decode cL_cell 20 = .ok (.ireturn, 1) := by decide +kernel
theorem dL_low_0 : decode cL_low 0 = .ok (.iload_n 0, 1) := by decide +kernel
theorem dL_low_1 : decode cL_low 1 = .ok (.ldc 8, 2) := by decide +kernel
theorem dL_low_3 : decode cL_low 3 = .ok (.iand, 1) := by decide +kernel
theorem dL_low_4 : decode cL_low 4 = .ok (.iload_n 1, 1) := by decide +kernel
theorem dL_low_5 : decode cL_low 5 = .ok (.irem, 1) := by decide +kernel
theorem dL_low_6 : decode cL_low 6 = .ok (.ireturn, 1) := by decide +kernel
theorem dL_call_0 : decode cL_call 0 = .ok (.iload_n 1, 1) := by decide +kernel
theorem dL_call_1 : decode cL_call 1 = .ok (.tableswitch 314 0 25 #[119, 124, 133, 139, 146, 153, 159, 174, 180, 186, 193, 199, 213, 220, 229, 238, 244, 250, 256, 262, 268, 274, 280, 294, 300, 307], 119) := by decide +kernel
theorem dL_call_120 : decode cL_call 120 = .ok (.aload_n 0, 1) := by decide +kernel
theorem dL_call_121 : decode cL_call 121 = .ok (.invokevirtual 9, 3) := by decide +kernel
theorem dL_call_124 : decode cL_call 124 = .ok (.ireturn, 1) := by decide +kernel
theorem dL_call_125 : decode cL_call 125 = .ok (.aload_n 0, 1) := by decide +kernel
theorem dL_call_126 : decode cL_call 126 = .ok (.iload_n 2, 1) := by decide +kernel
theorem dL_call_127 : decode cL_call 127 = .ok (.iload_n 3, 1) := by decide +kernel
theorem dL_call_128 : decode cL_call 128 = .ok (.iload 4, 2) := by decide +kernel
theorem dL_call_130 : decode cL_call 130 = .ok (.invokevirtual 15, 3) := by decide +kernel
theorem dL_call_133 : decode cL_call 133 = .ok (.ireturn, 1) := by decide +kernel
theorem dL_call_134 : decode cL_call 134 = .ok (.aload_n 0, 1) := by decide +kernel
theorem dL_call_135 : decode cL_call 135 = .ok (.iload_n 2, 1) := by decide +kernel
theorem dL_call_136 : decode cL_call 136 = .ok (.invokevirtual 19, 3) := by decide +kernel
theorem dL_call_139 : decode cL_call 139 = .ok (.ireturn, 1) := by decide +kernel
theorem dL_call_140 : decode cL_call 140 = .ok (.aload_n 0, 1) := by decide +kernel
theorem dL_call_141 : decode cL_call 141 = .ok (.iload_n 2, 1) := by decide +kernel
theorem dL_call_142 : decode cL_call 142 = .ok (.iload_n 3, 1) := by decide +kernel
theorem dL_call_143 : decode cL_call 143 = .ok (.invokevirtual 23, 3) := by decide +kernel
theorem dL_call_146 : decode cL_call 146 = .ok (.ireturn, 1) := by decide +kernel
theorem dL_call_147 : decode cL_call 147 = .ok (.aload_n 0, 1) := by decide +kernel
theorem dL_call_148 : decode cL_call 148 = .ok (.iload_n 2, 1) := by decide +kernel
theorem dL_call_149 : decode cL_call 149 = .ok (.iload_n 3, 1) := by decide +kernel
theorem dL_call_150 : decode cL_call 150 = .ok (.invokevirtual 27, 3) := by decide +kernel
theorem dL_call_153 : decode cL_call 153 = .ok (.ireturn, 1) := by decide +kernel
theorem dL_call_154 : decode cL_call 154 = .ok (.aload_n 0, 1) := by decide +kernel
theorem dL_call_155 : decode cL_call 155 = .ok (.iload_n 2, 1) := by decide +kernel
theorem dL_call_156 : decode cL_call 156 = .ok (.invokevirtual 30, 3) := by decide +kernel
theorem dL_call_159 : decode cL_call 159 = .ok (.ireturn, 1) := by decide +kernel
theorem dL_call_160 : decode cL_call 160 = .ok (.aload_n 0, 1) := by decide +kernel
theorem dL_call_161 : decode cL_call 161 = .ok (.iload_n 2, 1) := by decide +kernel
theorem dL_call_162 : decode cL_call 162 = .ok (.iload_n 3, 1) := by decide +kernel
theorem dL_call_163 : decode cL_call 163 = .ok (.invokevirtual 33, 3) := by decide +kernel
theorem dL_call_166 : decode cL_call 166 = .ok (.ifCond .eq 7, 3) := by decide +kernel
theorem dL_call_169 : decode cL_call 169 = .ok (.iconst 1, 1) := by decide +kernel
theorem dL_call_170 : decode cL_call 170 = .ok (.goto 4, 3) := by decide +kernel
theorem dL_call_173 : decode cL_call 173 = .ok (.iconst 0, 1) := by decide +kernel
theorem dL_call_174 : decode cL_call 174 = .ok (.ireturn, 1) := by decide +kernel
theorem dL_call_175 : decode cL_call 175 = .ok (.aload_n 0, 1) := by decide +kernel
theorem dL_call_176 : decode cL_call 176 = .ok (.iload_n 2, 1) := by decide +kernel
theorem dL_call_177 : decode cL_call 177 = .ok (.invokevirtual 37, 3) := by decide +kernel
theorem dL_call_180 : decode cL_call 180 = .ok (.ireturn, 1) := by decide +kernel
theorem dL_call_181 : decode cL_call 181 = .ok (.aload_n 0, 1) := by decide +kernel
theorem dL_call_182 : decode cL_call 182 = .ok (.iload_n 2, 1) := by decide +kernel
theorem dL_call_183 : decode cL_call 183 = .ok (.invokevirtual 40, 3) := by decide +kernel
theorem dL_call_186 : decode cL_call 186 = .ok (.ireturn, 1) := by decide +kernel
theorem dL_call_187 : decode cL_call 187 = .ok (.aload_n 0, 1) := by decide +kernel
theorem dL_call_188 : decode cL_call 188 = .ok (.iload_n 2, 1) := by decide +kernel
theorem dL_call_189 : decode cL_call 189 = .ok (.iload_n 3, 1) := by decide +kernel
theorem dL_call_190 : decode cL_call 190 = .ok (.invokevirtual 43, 3) := by decide +kernel
theorem dL_call_193 : decode cL_call 193 = .ok (.ireturn, 1) := by decide +kernel
theorem dL_call_194 : decode cL_call 194 = .ok (.aload_n 0, 1) := by decide +kernel
theorem dL_call_195 : decode cL_call 195 = .ok (.iload_n 2, 1) := by decide +kernel
theorem dL_call_196 : decode cL_call 196 = .ok (.invokevirtual 46, 3) := by decide +kernel
theorem dL_call_199 : decode cL_call 199 = .ok (.ireturn, 1) := by decide +kernel
theorem dL_call_200 : decode cL_call 200 = .ok (.aload_n 0, 1) := by decide +kernel
theorem dL_call_201 : decode cL_call 201 = .ok (.iload_n 2, 1) := by decide +kernel
theorem dL_call_202 : decode cL_call 202 = .ok (.invokevirtual 49, 3) := by decide +kernel
theorem dL_call_205 : decode cL_call 205 = .ok (.ifCond .eq 7, 3) := by decide +kernel
theorem dL_call_208 : decode cL_call 208 = .ok (.iconst 1, 1) := by decide +kernel
theorem dL_call_209 : decode cL_call 209 = .ok (.goto 4, 3) := by decide +kernel
theorem dL_call_212 : decode cL_call 212 = .ok (.iconst 0, 1) := by decide +kernel
theorem dL_call_213 : decode cL_call 213 = .ok (.ireturn, 1) := by decide +kernel
theorem dL_call_214 : decode cL_call 214 = .ok (.aload_n 0, 1) := by decide +kernel
theorem dL_call_215 : decode cL_call 215 = .ok (.iload_n 2, 1) := by decide +kernel
theorem dL_call_216 : decode cL_call 216 = .ok (.iload_n 3, 1) := by decide +kernel
theorem dL_call_217 : decode cL_call 217 = .ok (.invokevirtual 53, 3) := by decide +kernel
theorem dL_call_220 : decode cL_call 220 = .ok (.ireturn, 1) := by decide +kernel
theorem dL_call_221 : decode cL_call 221 = .ok (.aload_n 0, 1) := by decide +kernel
theorem dL_call_222 : decode cL_call 222 = .ok (.iload_n 2, 1) := by decide +kernel
theorem dL_call_223 : decode cL_call 223 = .ok (.iload_n 3, 1) := by decide +kernel
theorem dL_call_224 : decode cL_call 224 = .ok (.iload 4, 2) := by decide +kernel
theorem dL_call_226 : decode cL_call 226 = .ok (.invokevirtual 56, 3) := by decide +kernel
theorem dL_call_229 : decode cL_call 229 = .ok (.ireturn, 1) := by decide +kernel
theorem dL_call_230 : decode cL_call 230 = .ok (.aload_n 0, 1) := by decide +kernel
theorem dL_call_231 : decode cL_call 231 = .ok (.iload_n 2, 1) := by decide +kernel
theorem dL_call_232 : decode cL_call 232 = .ok (.iload_n 3, 1) := by decide +kernel
theorem dL_call_233 : decode cL_call 233 = .ok (.iload 4, 2) := by decide +kernel
theorem dL_call_235 : decode cL_call 235 = .ok (.invokevirtual 60, 3) := by decide +kernel
theorem dL_call_238 : decode cL_call 238 = .ok (.ireturn, 1) := by decide +kernel
theorem dL_call_239 : decode cL_call 239 = .ok (.aload_n 0, 1) := by decide +kernel
theorem dL_call_240 : decode cL_call 240 = .ok (.iload_n 2, 1) := by decide +kernel
theorem dL_call_241 : decode cL_call 241 = .ok (.invokevirtual 63, 3) := by decide +kernel
theorem dL_call_244 : decode cL_call 244 = .ok (.ireturn, 1) := by decide +kernel
theorem dL_call_245 : decode cL_call 245 = .ok (.aload_n 0, 1) := by decide +kernel
theorem dL_call_246 : decode cL_call 246 = .ok (.iload_n 2, 1) := by decide +kernel
theorem dL_call_247 : decode cL_call 247 = .ok (.invokevirtual 66, 3) := by decide +kernel
theorem dL_call_250 : decode cL_call 250 = .ok (.ireturn, 1) := by decide +kernel
theorem dL_call_251 : decode cL_call 251 = .ok (.aload_n 0, 1) := by decide +kernel
theorem dL_call_252 : decode cL_call 252 = .ok (.iload_n 2, 1) := by decide +kernel
theorem dL_call_253 : decode cL_call 253 = .ok (.invokevirtual 69, 3) := by decide +kernel
theorem dL_call_256 : decode cL_call 256 = .ok (.ireturn, 1) := by decide +kernel
theorem dL_call_257 : decode cL_call 257 = .ok (.aload_n 0, 1) := by decide +kernel
theorem dL_call_258 : decode cL_call 258 = .ok (.iload_n 2, 1) := by decide +kernel
theorem dL_call_259 : decode cL_call 259 = .ok (.invokevirtual 72, 3) := by decide +kernel
theorem dL_call_262 : decode cL_call 262 = .ok (.ireturn, 1) := by decide +kernel
theorem dL_call_263 : decode cL_call 263 = .ok (.aload_n 0, 1) := by decide +kernel
theorem dL_call_264 : decode cL_call 264 = .ok (.iload_n 2, 1) := by decide +kernel
theorem dL_call_265 : decode cL_call 265 = .ok (.invokevirtual 75, 3) := by decide +kernel
theorem dL_call_268 : decode cL_call 268 = .ok (.ireturn, 1) := by decide +kernel
theorem dL_call_269 : decode cL_call 269 = .ok (.aload_n 0, 1) := by decide +kernel
theorem dL_call_270 : decode cL_call 270 = .ok (.iload_n 2, 1) := by decide +kernel
theorem dL_call_271 : decode cL_call 271 = .ok (.invokevirtual 78, 3) := by decide +kernel
theorem dL_call_274 : decode cL_call 274 = .ok (.ireturn, 1) := by decide +kernel
theorem dL_call_275 : decode cL_call 275 = .ok (.aload_n 0, 1) := by decide +kernel
theorem dL_call_276 : decode cL_call 276 = .ok (.iload_n 2, 1) := by decide +kernel
theorem dL_call_277 : decode cL_call 277 = .ok (.invokevirtual 81, 3) := by decide +kernel
theorem dL_call_280 : decode cL_call 280 = .ok (.ireturn, 1) := by decide +kernel
theorem dL_call_281 : decode cL_call 281 = .ok (.aload_n 0, 1) := by decide +kernel
theorem dL_call_282 : decode cL_call 282 = .ok (.iload_n 2, 1) := by decide +kernel
theorem dL_call_283 : decode cL_call 283 = .ok (.invokevirtual 84, 3) := by decide +kernel
theorem dL_call_286 : decode cL_call 286 = .ok (.ifCond .eq 7, 3) := by decide +kernel
theorem dL_call_289 : decode cL_call 289 = .ok (.iconst 1, 1) := by decide +kernel
theorem dL_call_290 : decode cL_call 290 = .ok (.goto 4, 3) := by decide +kernel
theorem dL_call_293 : decode cL_call 293 = .ok (.iconst 0, 1) := by decide +kernel
theorem dL_call_294 : decode cL_call 294 = .ok (.ireturn, 1) := by decide +kernel
theorem dL_call_295 : decode cL_call 295 = .ok (.aload_n 0, 1) := by decide +kernel
theorem dL_call_296 : decode cL_call 296 = .ok (.iload_n 2, 1) := by decide +kernel
theorem dL_call_297 : decode cL_call 297 = .ok (.invokevirtual 87, 3) := by decide +kernel
theorem dL_call_300 : decode cL_call 300 = .ok (.ireturn, 1) := by decide +kernel
theorem dL_call_301 : decode cL_call 301 = .ok (.aload_n 0, 1) := by decide +kernel
theorem dL_call_302 : decode cL_call 302 = .ok (.iload_n 2, 1) := by decide +kernel
theorem dL_call_303 : decode cL_call 303 = .ok (.iload_n 3, 1) := by decide +kernel
theorem dL_call_304 : decode cL_call 304 = .ok (.invokevirtual 90, 3) := by decide +kernel
theorem dL_call_307 : decode cL_call 307 = .ok (.ireturn, 1) := by decide +kernel
theorem dL_call_308 : decode cL_call 308 = .ok (.aload_n 0, 1) := by decide +kernel
theorem dL_call_309 : decode cL_call 309 = .ok (.iload_n 2, 1) := by decide +kernel
theorem dL_call_310 : decode cL_call 310 = .ok (.iload_n 3, 1) := by decide +kernel
theorem dL_call_311 : decode cL_call 311 = .ok (.invokevirtual 93, 3) := by decide +kernel
theorem dL_call_314 : decode cL_call 314 = .ok (.ireturn, 1) := by decide +kernel
theorem dL_call_315 : decode cL_call 315 = .ok (.aload_n 0, 1) := by decide +kernel
theorem dL_call_316 : decode cL_call 316 = .ok (.iload_n 2, 1) := by decide +kernel
theorem dL_call_317 : decode cL_call 317 = .ok (.iload_n 3, 1) := by decide +kernel
theorem dL_call_318 : decode cL_call 318 = .ok (.iload 4, 2) := by decide +kernel
theorem dL_call_320 : decode cL_call 320 = .ok (.invokevirtual 96, 3) := by decide +kernel
theorem dL_call_323 : decode cL_call 323 = .ok (.ireturn, 1) := by decide +kernel
theorem dL_call_324 : decode cL_call 324 = .ok (.astore 5, 2) := by decide +kernel
theorem dL_call_326 : decode cL_call 326 = .ok (.bipush (-101), 2) := by decide +kernel
theorem dL_call_328 : decode cL_call 328 = .ok (.ireturn, 1) := by decide +kernel
theorem dL_call_329 : decode cL_call 329 = .ok (.astore 5, 2) := by decide +kernel
theorem dL_call_331 : decode cL_call 331 = .ok (.bipush (-102), 2) := by decide +kernel
theorem dL_call_333 : decode cL_call 333 = .ok (.ireturn, 1) := by decide +kernel
theorem dL_call_334 : decode cL_call 334 = .ok (.astore 5, 2) := by decide +kernel
theorem dL_call_336 : decode cL_call 336 = .ok (.bipush (-103), 2) := by decide +kernel
theorem dL_call_338 : decode cL_call 338 = .ok (.ireturn, 1) := by decide +kernel
theorem dL_call_339 : decode cL_call 339 = .ok (.astore 5, 2) := by decide +kernel
theorem dL_call_341 : decode cL_call 341 = .ok (.bipush (-104), 2) := by decide +kernel
theorem dL_call_343 : decode cL_call 343 = .ok (.ireturn, 1) := by decide +kernel
theorem dL_call_344 : decode cL_call 344 = .ok (.astore 5, 2) := by decide +kernel
theorem dL_call_346 : decode cL_call 346 = .ok (.bipush (-105), 2) := by decide +kernel
theorem dL_call_348 : decode cL_call 348 = .ok (.ireturn, 1) := by decide +kernel
theorem dL_addRule_0 : decode cL_addRule 0 = .ok (.aload_n 0, 1) := by decide +kernel
theorem dL_addRule_1 : decode cL_addRule 1 = .ok (.iload_n 1, 1) := by decide +kernel
theorem dL_addRule_2 : decode cL_addRule 2 = .ok (.iload_n 2, 1) := by decide +kernel
theorem dL_addRule_3 : decode cL_addRule 3 = .ok (.iload_n 3, 1) := by decide +kernel
theorem dL_addRule_4 : decode cL_addRule 4 = .ok (.iload 4, 2) := by decide +kernel
theorem dL_addRule_6 : decode cL_addRule 6 = .ok (.iload 5, 2) := by decide +kernel
theorem dL_addRule_8 : decode cL_addRule 8 = .ok (.iload 6, 2) := by decide +kernel
theorem dL_addRule_10 : decode cL_addRule 10 = .ok (.invokevirtual 109, 3) := by decide +kernel
theorem dL_addRule_13 : decode cL_addRule 13 = .ok (.ireturn, 1) := by decide +kernel
theorem dL_addRule_14 : decode cL_addRule 14 = .ok (.astore 7, 2) := by decide +kernel
theorem dL_addRule_16 : decode cL_addRule 16 = .ok (.bipush (-101), 2) := by decide +kernel
theorem dL_addRule_18 : decode cL_addRule 18 = .ok (.ireturn, 1) := by decide +kernel
theorem dL_addRule_19 : decode cL_addRule 19 = .ok (.astore 7, 2) := by decide +kernel
theorem dL_addRule_21 : decode cL_addRule 21 = .ok (.bipush (-102), 2) := by decide +kernel
theorem dL_addRule_23 : decode cL_addRule 23 = .ok (.ireturn, 1) := by decide +kernel
theorem dL_addRule_24 : decode cL_addRule 24 = .ok (.astore 7, 2) := by decide +kernel
theorem dL_addRule_26 : decode cL_addRule 26 = .ok (.bipush (-103), 2) := by decide +kernel
theorem dL_addRule_28 : decode cL_addRule 28 = .ok (.ireturn, 1) := by decide +kernel
theorem dL_state_0 : decode cL_state 0 = .ok (.ldc2_w 113, 3) := by decide +kernel
theorem dL_state_3 : decode cL_state 3 = .ok (.lstore_n 2, 1) := by decide +kernel
theorem dL_state_4 : decode cL_state 4 = .ok (.iconst 0, 1) := by decide +kernel
theorem dL_state_5 : decode cL_state 5 = .ok (.istore 4, 2) := by decide +kernel
theorem dL_state_7 : decode cL_state 7 = .ok (.iload 4, 2) := by decide +kernel
theorem dL_state_9 : decode cL_state 9 = .ok (.iload_n 1, 1) := by decide +kernel
theorem dL_state_10 : decode cL_state 10 = .ok (.if_icmp .ge 62, 3) := by decide +kernel
theorem dL_state_13 : decode cL_state 13 = .ok (.iconst 0, 1) := by decide +kernel
theorem dL_state_14 : decode cL_state 14 = .ok (.istore 5, 2) := by decide +kernel
theorem dL_state_16 : decode cL_state 16 = .ok (.iload 5, 2) := by decide +kernel
theorem dL_state_18 : decode cL_state 18 = .ok (.bipush 32, 2) := by decide +kernel
theorem dL_state_20 : decode cL_state 20 = .ok (.if_icmp .ge 28, 3) := by decide +kernel
theorem dL_state_23 : decode cL_state 23 = .ok (.ldc2_w 115, 3) := by decide +kernel
theorem dL_state_26 : decode cL_state 26 = .ok (.lload_n 2, 1) := by decide +kernel
theorem dL_state_27 : decode cL_state 27 = .ok (.lmul, 1) := by decide +kernel
theorem dL_state_28 : decode cL_state 28 = .ok (.aload_n 0, 1) := by decide +kernel
theorem dL_state_29 : decode cL_state 29 = .ok (.bipush 6, 2) := by decide +kernel
theorem dL_state_31 : decode cL_state 31 = .ok (.iload 4, 2) := by decide +kernel
theorem dL_state_33 : decode cL_state 33 = .ok (.iload 5, 2) := by decide +kernel
theorem dL_state_35 : decode cL_state 35 = .ok (.iconst 0, 1) := by decide +kernel
theorem dL_state_36 : decode cL_state 36 = .ok (.invokestatic 117, 3) := by decide +kernel
theorem dL_state_39 : decode cL_state 39 = .ok (.i2l, 1) := by decide +kernel
theorem dL_state_40 : decode cL_state 40 = .ok (.ladd, 1) := by decide +kernel
theorem dL_state_41 : decode cL_state 41 = .ok (.lstore_n 2, 1) := by decide +kernel
theorem dL_state_42 : decode cL_state 42 = .ok (.iinc 5 1, 3) := by decide +kernel
theorem dL_state_45 : decode cL_state 45 = .ok (.goto (-29), 3) := by decide +kernel
theorem dL_state_48 : decode cL_state 48 = .ok (.ldc2_w 115, 3) := by decide +kernel
theorem dL_state_51 : decode cL_state 51 = .ok (.lload_n 2, 1) := by decide +kernel
theorem dL_state_52 : decode cL_state 52 = .ok (.lmul, 1) := by decide +kernel
theorem dL_state_53 : decode cL_state 53 = .ok (.aload_n 0, 1) := by decide +kernel
theorem dL_state_54 : decode cL_state 54 = .ok (.bipush 7, 2) := by decide +kernel
theorem dL_state_56 : decode cL_state 56 = .ok (.iload 4, 2) := by decide +kernel
theorem dL_state_58 : decode cL_state 58 = .ok (.iconst 0, 1) := by decide +kernel
theorem dL_state_59 : decode cL_state 59 = .ok (.iconst 0, 1) := by decide +kernel
theorem dL_state_60 : decode cL_state 60 = .ok (.invokestatic 117, 3) := by decide +kernel
theorem dL_state_63 : decode cL_state 63 = .ok (.i2l, 1) := by decide +kernel
theorem dL_state_64 : decode cL_state 64 = .ok (.ladd, 1) := by decide +kernel
theorem dL_state_65 : decode cL_state 65 = .ok (.lstore_n 2, 1) := by decide +kernel
theorem dL_state_66 : decode cL_state 66 = .ok (.iinc 4 1, 3) := by decide +kernel
theorem dL_state_69 : decode cL_state 69 = .ok (.goto (-62), 3) := by decide +kernel
theorem dL_state_72 : decode cL_state 72 = .ok (.iconst 0, 1) := by decide +kernel
theorem dL_state_73 : decode cL_state 73 = .ok (.istore 4, 2) := by decide +kernel
theorem dL_state_75 : decode cL_state 75 = .ok (.iload 4, 2) := by decide +kernel
theorem dL_state_77 : decode cL_state 77 = .ok (.aload_n 0, 1) := by decide +kernel
theorem dL_state_78 : decode cL_state 78 = .ok (.invokevirtual 123, 3) := by decide +kernel
theorem dL_state_81 : decode cL_state 81 = .ok (.if_icmp .ge 113, 3) := by decide +kernel
theorem dL_state_84 : decode cL_state 84 = .ok (.aload_n 0, 1) := by decide +kernel
theorem dL_state_85 : decode cL_state 85 = .ok (.bipush 10, 2) := by decide +kernel
theorem dL_state_87 : decode cL_state 87 = .ok (.iload 4, 2) := by decide +kernel
theorem dL_state_89 : decode cL_state 89 = .ok (.iconst 0, 1) := by decide +kernel
theorem dL_state_90 : decode cL_state 90 = .ok (.iconst 0, 1) := by decide +kernel
theorem dL_state_91 : decode cL_state 91 = .ok (.invokestatic 117, 3) := by decide +kernel
theorem dL_state_94 : decode cL_state 94 = .ok (.istore 5, 2) := by decide +kernel
theorem dL_state_96 : decode cL_state 96 = .ok (.ldc2_w 115, 3) := by decide +kernel
theorem dL_state_99 : decode cL_state 99 = .ok (.ldc2_w 115, 3) := by decide +kernel
theorem dL_state_102 : decode cL_state 102 = .ok (.ldc2_w 115, 3) := by decide +kernel
theorem dL_state_105 : decode cL_state 105 = .ok (.lload_n 2, 1) := by decide +kernel
theorem dL_state_106 : decode cL_state 106 = .ok (.lmul, 1) := by decide +kernel
theorem dL_state_107 : decode cL_state 107 = .ok (.iload 5, 2) := by decide +kernel
theorem dL_state_109 : decode cL_state 109 = .ok (.i2l, 1) := by decide +kernel
theorem dL_state_110 : decode cL_state 110 = .ok (.ladd, 1) := by decide +kernel
theorem dL_state_111 : decode cL_state 111 = .ok (.lmul, 1) := by decide +kernel
theorem dL_state_112 : decode cL_state 112 = .ok (.aload_n 0, 1) := by decide +kernel
theorem dL_state_113 : decode cL_state 113 = .ok (.bipush 15, 2) := by decide +kernel
theorem dL_state_115 : decode cL_state 115 = .ok (.iload 5, 2) := by decide +kernel
theorem dL_state_117 : decode cL_state 117 = .ok (.iconst 0, 1) := by decide +kernel
theorem dL_state_118 : decode cL_state 118 = .ok (.iconst 0, 1) := by decide +kernel
theorem dL_state_119 : decode cL_state 119 = .ok (.invokestatic 117, 3) := by decide +kernel
theorem dL_state_122 : decode cL_state 122 = .ok (.i2l, 1) := by decide +kernel
theorem dL_state_123 : decode cL_state 123 = .ok (.ladd, 1) := by decide +kernel
theorem dL_state_124 : decode cL_state 124 = .ok (.lmul, 1) := by decide +kernel
theorem dL_state_125 : decode cL_state 125 = .ok (.aload_n 0, 1) := by decide +kernel
theorem dL_state_126 : decode cL_state 126 = .ok (.bipush 17, 2) := by decide +kernel
theorem dL_state_128 : decode cL_state 128 = .ok (.iload 5, 2) := by decide +kernel
theorem dL_state_130 : decode cL_state 130 = .ok (.iconst 0, 1) := by decide +kernel
theorem dL_state_131 : decode cL_state 131 = .ok (.iconst 0, 1) := by decide +kernel
theorem dL_state_132 : decode cL_state 132 = .ok (.invokestatic 117, 3) := by decide +kernel
theorem dL_state_135 : decode cL_state 135 = .ok (.i2l, 1) := by decide +kernel
theorem dL_state_136 : decode cL_state 136 = .ok (.ladd, 1) := by decide +kernel
theorem dL_state_137 : decode cL_state 137 = .ok (.lstore_n 2, 1) := by decide +kernel
theorem dL_state_138 : decode cL_state 138 = .ok (.ldc2_w 115, 3) := by decide +kernel
theorem dL_state_141 : decode cL_state 141 = .ok (.ldc2_w 115, 3) := by decide +kernel
theorem dL_state_144 : decode cL_state 144 = .ok (.ldc2_w 115, 3) := by decide +kernel
theorem dL_state_147 : decode cL_state 147 = .ok (.lload_n 2, 1) := by decide +kernel
theorem dL_state_148 : decode cL_state 148 = .ok (.lmul, 1) := by decide +kernel
theorem dL_state_149 : decode cL_state 149 = .ok (.aload_n 0, 1) := by decide +kernel
theorem dL_state_150 : decode cL_state 150 = .ok (.bipush 11, 2) := by decide +kernel
theorem dL_state_152 : decode cL_state 152 = .ok (.iload 5, 2) := by decide +kernel
theorem dL_state_154 : decode cL_state 154 = .ok (.iconst 0, 1) := by decide +kernel
theorem dL_state_155 : decode cL_state 155 = .ok (.iconst 0, 1) := by decide +kernel
theorem dL_state_156 : decode cL_state 156 = .ok (.invokestatic 117, 3) := by decide +kernel
theorem dL_state_159 : decode cL_state 159 = .ok (.i2l, 1) := by decide +kernel
theorem dL_state_160 : decode cL_state 160 = .ok (.ladd, 1) := by decide +kernel
theorem dL_state_161 : decode cL_state 161 = .ok (.lmul, 1) := by decide +kernel
theorem dL_state_162 : decode cL_state 162 = .ok (.aload_n 0, 1) := by decide +kernel
theorem dL_state_163 : decode cL_state 163 = .ok (.bipush 16, 2) := by decide +kernel
theorem dL_state_165 : decode cL_state 165 = .ok (.iload 5, 2) := by decide +kernel
theorem dL_state_167 : decode cL_state 167 = .ok (.iconst 0, 1) := by decide +kernel
theorem dL_state_168 : decode cL_state 168 = .ok (.iconst 0, 1) := by decide +kernel
theorem dL_state_169 : decode cL_state 169 = .ok (.invokestatic 117, 3) := by decide +kernel
theorem dL_state_172 : decode cL_state 172 = .ok (.i2l, 1) := by decide +kernel
theorem dL_state_173 : decode cL_state 173 = .ok (.ladd, 1) := by decide +kernel
theorem dL_state_174 : decode cL_state 174 = .ok (.lmul, 1) := by decide +kernel
theorem dL_state_175 : decode cL_state 175 = .ok (.aload_n 0, 1) := by decide +kernel
theorem dL_state_176 : decode cL_state 176 = .ok (.bipush 19, 2) := by decide +kernel
theorem dL_state_178 : decode cL_state 178 = .ok (.iload 5, 2) := by decide +kernel
theorem dL_state_180 : decode cL_state 180 = .ok (.iconst 0, 1) := by decide +kernel
theorem dL_state_181 : decode cL_state 181 = .ok (.iconst 0, 1) := by decide +kernel
theorem dL_state_182 : decode cL_state 182 = .ok (.invokestatic 117, 3) := by decide +kernel
theorem dL_state_185 : decode cL_state 185 = .ok (.i2l, 1) := by decide +kernel
theorem dL_state_186 : decode cL_state 186 = .ok (.ladd, 1) := by decide +kernel
theorem dL_state_187 : decode cL_state 187 = .ok (.lstore_n 2, 1) := by decide +kernel
theorem dL_state_188 : decode cL_state 188 = .ok (.iinc 4 1, 3) := by decide +kernel
theorem dL_state_191 : decode cL_state 191 = .ok (.goto (-116), 3) := by decide +kernel
theorem dL_state_194 : decode cL_state 194 = .ok (.ldc2_w 115, 3) := by decide +kernel
theorem dL_state_197 : decode cL_state 197 = .ok (.lload_n 2, 1) := by decide +kernel
theorem dL_state_198 : decode cL_state 198 = .ok (.lmul, 1) := by decide +kernel
theorem dL_state_199 : decode cL_state 199 = .ok (.aload_n 0, 1) := by decide +kernel
theorem dL_state_200 : decode cL_state 200 = .ok (.invokevirtual 126, 3) := by decide +kernel
theorem dL_state_203 : decode cL_state 203 = .ok (.i2l, 1) := by decide +kernel
theorem dL_state_204 : decode cL_state 204 = .ok (.ladd, 1) := by decide +kernel
theorem dL_state_205 : decode cL_state 205 = .ok (.lreturn, 1) := by decide +kernel
theorem dL_sound_0 : decode cL_sound 0 = .ok (.iconst 0, 1) := by decide +kernel
theorem dL_sound_1 : decode cL_sound 1 = .ok (.istore_n 2, 1) := by decide +kernel
theorem dL_sound_2 : decode cL_sound 2 = .ok (.iconst 0, 1) := by decide +kernel
theorem dL_sound_3 : decode cL_sound 3 = .ok (.istore_n 3, 1) := by decide +kernel
theorem dL_sound_4 : decode cL_sound 4 = .ok (.iconst 0, 1) := by decide +kernel
theorem dL_sound_5 : decode cL_sound 5 = .ok (.istore 4, 2) := by decide +kernel
theorem dL_sound_7 : decode cL_sound 7 = .ok (.iconst 0, 1) := by decide +kernel
theorem dL_sound_8 : decode cL_sound 8 = .ok (.istore 5, 2) := by decide +kernel
theorem dL_sound_10 : decode cL_sound 10 = .ok (.iconst 0, 1) := by decide +kernel
theorem dL_sound_11 : decode cL_sound 11 = .ok (.istore 6, 2) := by decide +kernel
theorem dL_sound_13 : decode cL_sound 13 = .ok (.iload 6, 2) := by decide +kernel
theorem dL_sound_15 : decode cL_sound 15 = .ok (.aload_n 0, 1) := by decide +kernel
theorem dL_sound_16 : decode cL_sound 16 = .ok (.invokevirtual 123, 3) := by decide +kernel
theorem dL_sound_19 : decode cL_sound 19 = .ok (.if_icmp .ge 265, 3) := by decide +kernel
theorem dL_sound_22 : decode cL_sound 22 = .ok (.aload_n 0, 1) := by decide +kernel
theorem dL_sound_23 : decode cL_sound 23 = .ok (.bipush 10, 2) := by decide +kernel
theorem dL_sound_25 : decode cL_sound 25 = .ok (.iload 6, 2) := by decide +kernel
theorem dL_sound_27 : decode cL_sound 27 = .ok (.iconst 0, 1) := by decide +kernel
theorem dL_sound_28 : decode cL_sound 28 = .ok (.iconst 0, 1) := by decide +kernel
theorem dL_sound_29 : decode cL_sound 29 = .ok (.invokestatic 117, 3) := by decide +kernel
theorem dL_sound_32 : decode cL_sound 32 = .ok (.istore 7, 2) := by decide +kernel
theorem dL_sound_34 : decode cL_sound 34 = .ok (.aload_n 0, 1) := by decide +kernel
theorem dL_sound_35 : decode cL_sound 35 = .ok (.bipush 20, 2) := by decide +kernel
theorem dL_sound_37 : decode cL_sound 37 = .ok (.iload 7, 2) := by decide +kernel
theorem dL_sound_39 : decode cL_sound 39 = .ok (.iconst 0, 1) := by decide +kernel
theorem dL_sound_40 : decode cL_sound 40 = .ok (.iconst 0, 1) := by decide +kernel
theorem dL_sound_41 : decode cL_sound 41 = .ok (.invokestatic 117, 3) := by decide +kernel
theorem dL_sound_44 : decode cL_sound 44 = .ok (.istore 8, 2) := by decide +kernel
theorem dL_sound_46 : decode cL_sound 46 = .ok (.aload_n 0, 1) := by decide +kernel
theorem dL_sound_47 : decode cL_sound 47 = .ok (.bipush 11, 2) := by decide +kernel
theorem dL_sound_49 : decode cL_sound 49 = .ok (.iload 7, 2) := by decide +kernel
theorem dL_sound_51 : decode cL_sound 51 = .ok (.iconst 0, 1) := by decide +kernel
theorem dL_sound_52 : decode cL_sound 52 = .ok (.iconst 0, 1) := by decide +kernel
theorem dL_sound_53 : decode cL_sound 53 = .ok (.invokestatic 117, 3) := by decide +kernel
theorem dL_sound_56 : decode cL_sound 56 = .ok (.istore 9, 2) := by decide +kernel
theorem dL_sound_58 : decode cL_sound 58 = .ok (.aload_n 0, 1) := by decide +kernel
theorem dL_sound_59 : decode cL_sound 59 = .ok (.bipush 23, 2) := by decide +kernel
theorem dL_sound_61 : decode cL_sound 61 = .ok (.iload 7, 2) := by decide +kernel
theorem dL_sound_63 : decode cL_sound 63 = .ok (.iconst 0, 1) := by decide +kernel
theorem dL_sound_64 : decode cL_sound 64 = .ok (.iconst 0, 1) := by decide +kernel
theorem dL_sound_65 : decode cL_sound 65 = .ok (.invokestatic 117, 3) := by decide +kernel
theorem dL_sound_68 : decode cL_sound 68 = .ok (.istore 10, 2) := by decide +kernel
theorem dL_sound_70 : decode cL_sound 70 = .ok (.iload_n 2, 1) := by decide +kernel
theorem dL_sound_71 : decode cL_sound 71 = .ok (.iload 8, 2) := by decide +kernel
theorem dL_sound_73 : decode cL_sound 73 = .ok (.iadd, 1) := by decide +kernel
theorem dL_sound_74 : decode cL_sound 74 = .ok (.istore_n 2, 1) := by decide +kernel
theorem dL_sound_75 : decode cL_sound 75 = .ok (.iload 4, 2) := by decide +kernel
theorem dL_sound_77 : decode cL_sound 77 = .ok (.iload 9, 2) := by decide +kernel
theorem dL_sound_79 : decode cL_sound 79 = .ok (.iadd, 1) := by decide +kernel
theorem dL_sound_80 : decode cL_sound 80 = .ok (.istore 4, 2) := by decide +kernel
theorem dL_sound_82 : decode cL_sound 82 = .ok (.iload 5, 2) := by decide +kernel
theorem dL_sound_84 : decode cL_sound 84 = .ok (.aload_n 0, 1) := by decide +kernel
theorem dL_sound_85 : decode cL_sound 85 = .ok (.bipush 15, 2) := by decide +kernel
theorem dL_sound_87 : decode cL_sound 87 = .ok (.iload 7, 2) := by decide +kernel
theorem dL_sound_89 : decode cL_sound 89 = .ok (.iconst 0, 1) := by decide +kernel
theorem dL_sound_90 : decode cL_sound 90 = .ok (.iconst 0, 1) := by decide +kernel
theorem dL_sound_91 : decode cL_sound 91 = .ok (.invokestatic 117, 3) := by decide +kernel
theorem dL_sound_94 : decode cL_sound 94 = .ok (.iadd, 1) := by decide +kernel
theorem dL_sound_95 : decode cL_sound 95 = .ok (.istore 5, 2) := by decide +kernel
theorem dL_sound_97 : decode cL_sound 97 = .ok (.iload_n 3, 1) := by decide +kernel
theorem dL_sound_98 : decode cL_sound 98 = .ok (.aload_n 0, 1) := by decide +kernel
theorem dL_sound_99 : decode cL_sound 99 = .ok (.bipush 22, 2) := by decide +kernel
theorem dL_sound_101 : decode cL_sound 101 = .ok (.iload 7, 2) := by decide +kernel
theorem dL_sound_103 : decode cL_sound 103 = .ok (.iconst 0, 1) := by decide +kernel
theorem dL_sound_104 : decode cL_sound 104 = .ok (.iconst 0, 1) := by decide +kernel
theorem dL_sound_105 : decode cL_sound 105 = .ok (.invokestatic 117, 3) := by decide +kernel
theorem dL_sound_108 : decode cL_sound 108 = .ok (.iadd, 1) := by decide +kernel
theorem dL_sound_109 : decode cL_sound 109 = .ok (.istore_n 3, 1) := by decide +kernel
theorem dL_sound_110 : decode cL_sound 110 = .ok (.iload 8, 2) := by decide +kernel
theorem dL_sound_112 : decode cL_sound 112 = .ok (.aload_n 0, 1) := by decide +kernel
theorem dL_sound_113 : decode cL_sound 113 = .ok (.bipush 21, 2) := by decide +kernel
theorem dL_sound_115 : decode cL_sound 115 = .ok (.iload 7, 2) := by decide +kernel
theorem dL_sound_117 : decode cL_sound 117 = .ok (.iconst 0, 1) := by decide +kernel
theorem dL_sound_118 : decode cL_sound 118 = .ok (.iconst 0, 1) := by decide +kernel
theorem dL_sound_119 : decode cL_sound 119 = .ok (.invokestatic 117, 3) := by decide +kernel
theorem dL_sound_122 : decode cL_sound 122 = .ok (.if_icmp .ne 154, 3) := by decide +kernel
theorem dL_sound_125 : decode cL_sound 125 = .ok (.iload 8, 2) := by decide +kernel
theorem dL_sound_127 : decode cL_sound 127 = .ok (.ifCond .lt 149, 3) := by decide +kernel
theorem dL_sound_130 : decode cL_sound 130 = .ok (.iload 8, 2) := by decide +kernel
theorem dL_sound_132 : decode cL_sound 132 = .ok (.aload_n 0, 1) := by decide +kernel
theorem dL_sound_133 : decode cL_sound 133 = .ok (.bipush 19, 2) := by decide +kernel
theorem dL_sound_135 : decode cL_sound 135 = .ok (.iload 7, 2) := by decide +kernel
theorem dL_sound_137 : decode cL_sound 137 = .ok (.iconst 0, 1) := by decide +kernel
theorem dL_sound_138 : decode cL_sound 138 = .ok (.iconst 0, 1) := by decide +kernel
theorem dL_sound_139 : decode cL_sound 139 = .ok (.invokestatic 117, 3) := by decide +kernel
theorem dL_sound_142 : decode cL_sound 142 = .ok (.if_icmp .gt 134, 3) := by decide +kernel
theorem dL_sound_145 : decode cL_sound 145 = .ok (.iload 9, 2) := by decide +kernel
theorem dL_sound_147 : decode cL_sound 147 = .ok (.ifCond .ne 8, 3) := by decide +kernel
theorem dL_sound_150 : decode cL_sound 150 = .ok (.iload 8, 2) := by decide +kernel
theorem dL_sound_152 : decode cL_sound 152 = .ok (.ifCond .ne 124, 3) := by decide +kernel
theorem dL_sound_155 : decode cL_sound 155 = .ok (.aload_n 0, 1) := by decide +kernel
theorem dL_sound_156 : decode cL_sound 156 = .ok (.bipush 22, 2) := by decide +kernel
theorem dL_sound_158 : decode cL_sound 158 = .ok (.iload 7, 2) := by decide +kernel
theorem dL_sound_160 : decode cL_sound 160 = .ok (.iconst 0, 1) := by decide +kernel
theorem dL_sound_161 : decode cL_sound 161 = .ok (.iconst 0, 1) := by decide +kernel
theorem dL_sound_162 : decode cL_sound 162 = .ok (.invokestatic 117, 3) := by decide +kernel
theorem dL_sound_165 : decode cL_sound 165 = .ok (.iload 9, 2) := by decide +kernel
theorem dL_sound_167 : decode cL_sound 167 = .ok (.iconst 1, 1) := by decide +kernel
theorem dL_sound_168 : decode cL_sound 168 = .ok (.if_icmp .ne 12, 3) := by decide +kernel
theorem dL_sound_171 : decode cL_sound 171 = .ok (.iload 8, 2) := by decide +kernel
theorem dL_sound_173 : decode cL_sound 173 = .ok (.ifCond .ne 7, 3) := by decide +kernel
theorem dL_sound_176 : decode cL_sound 176 = .ok (.iconst 1, 1) := by decide +kernel
theorem dL_sound_177 : decode cL_sound 177 = .ok (.goto 4, 3) := by decide +kernel
theorem dL_sound_180 : decode cL_sound 180 = .ok (.iconst 0, 1) := by decide +kernel
theorem dL_sound_181 : decode cL_sound 181 = .ok (.if_icmp .ne 95, 3) := by decide +kernel
theorem dL_sound_184 : decode cL_sound 184 = .ok (.iload 10, 2) := by decide +kernel
theorem dL_sound_186 : decode cL_sound 186 = .ok (.bipush (-105), 2) := by decide +kernel
theorem dL_sound_188 : decode cL_sound 188 = .ok (.if_icmp .eq 17, 3) := by decide +kernel
theorem dL_sound_191 : decode cL_sound 191 = .ok (.aload_n 0, 1) := by decide +kernel
theorem dL_sound_192 : decode cL_sound 192 = .ok (.bipush 11, 2) := by decide +kernel
theorem dL_sound_194 : decode cL_sound 194 = .ok (.iload 10, 2) := by decide +kernel
theorem dL_sound_196 : decode cL_sound 196 = .ok (.iconst 0, 1) := by decide +kernel
theorem dL_sound_197 : decode cL_sound 197 = .ok (.iconst 0, 1) := by decide +kernel
theorem dL_sound_198 : decode cL_sound 198 = .ok (.invokestatic 117, 3) := by decide +kernel
theorem dL_sound_201 : decode cL_sound 201 = .ok (.iconst 1, 1) := by decide +kernel
theorem dL_sound_202 : decode cL_sound 202 = .ok (.if_icmp .ne 74, 3) := by decide +kernel
theorem dL_sound_205 : decode cL_sound 205 = .ok (.aload_n 0, 1) := by decide +kernel
theorem dL_sound_206 : decode cL_sound 206 = .ok (.bipush 24, 2) := by decide +kernel
theorem dL_sound_208 : decode cL_sound 208 = .ok (.iload 7, 2) := by decide +kernel
theorem dL_sound_210 : decode cL_sound 210 = .ok (.iload 6, 2) := by decide +kernel
theorem dL_sound_212 : decode cL_sound 212 = .ok (.iconst 0, 1) := by decide +kernel
theorem dL_sound_213 : decode cL_sound 213 = .ok (.invokestatic 117, 3) := by decide +kernel
theorem dL_sound_216 : decode cL_sound 216 = .ok (.ifCond .ne 60, 3) := by decide +kernel
theorem dL_sound_219 : decode cL_sound 219 = .ok (.aload_n 0, 1) := by decide +kernel
theorem dL_sound_220 : decode cL_sound 220 = .ok (.bipush 16, 2) := by decide +kernel
theorem dL_sound_222 : decode cL_sound 222 = .ok (.iload 7, 2) := by decide +kernel
theorem dL_sound_224 : decode cL_sound 224 = .ok (.iconst 0, 1) := by decide +kernel
theorem dL_sound_225 : decode cL_sound 225 = .ok (.iconst 0, 1) := by decide +kernel
theorem dL_sound_226 : decode cL_sound 226 = .ok (.invokestatic 117, 3) := by decide +kernel
theorem dL_sound_229 : decode cL_sound 229 = .ok (.aload_n 0, 1) := by decide +kernel
theorem dL_sound_230 : decode cL_sound 230 = .ok (.bipush 15, 2) := by decide +kernel
theorem dL_sound_232 : decode cL_sound 232 = .ok (.iload 7, 2) := by decide +kernel
theorem dL_sound_234 : decode cL_sound 234 = .ok (.iconst 0, 1) := by decide +kernel
theorem dL_sound_235 : decode cL_sound 235 = .ok (.iconst 0, 1) := by decide +kernel
theorem dL_sound_236 : decode cL_sound 236 = .ok (.invokestatic 117, 3) := by decide +kernel
theorem dL_sound_239 : decode cL_sound 239 = .ok (.if_icmp .gt 37, 3) := by decide +kernel
theorem dL_sound_242 : decode cL_sound 242 = .ok (.aload_n 0, 1) := by decide +kernel
theorem dL_sound_243 : decode cL_sound 243 = .ok (.bipush 22, 2) := by decide +kernel
theorem dL_sound_245 : decode cL_sound 245 = .ok (.iload 7, 2) := by decide +kernel
theorem dL_sound_247 : decode cL_sound 247 = .ok (.iconst 0, 1) := by decide +kernel
theorem dL_sound_248 : decode cL_sound 248 = .ok (.iconst 0, 1) := by decide +kernel
theorem dL_sound_249 : decode cL_sound 249 = .ok (.invokestatic 117, 3) := by decide +kernel
theorem dL_sound_252 : decode cL_sound 252 = .ok (.iconst 1, 1) := by decide +kernel
theorem dL_sound_253 : decode cL_sound 253 = .ok (.if_icmp .ne 25, 3) := by decide +kernel
theorem dL_sound_256 : decode cL_sound 256 = .ok (.aload_n 0, 1) := by decide +kernel
theorem dL_sound_257 : decode cL_sound 257 = .ok (.bipush 19, 2) := by decide +kernel
theorem dL_sound_259 : decode cL_sound 259 = .ok (.iload 7, 2) := by decide +kernel
theorem dL_sound_261 : decode cL_sound 261 = .ok (.iconst 0, 1) := by decide +kernel
theorem dL_sound_262 : decode cL_sound 262 = .ok (.iconst 0, 1) := by decide +kernel
theorem dL_sound_263 : decode cL_sound 263 = .ok (.invokestatic 117, 3) := by decide +kernel
theorem dL_sound_266 : decode cL_sound 266 = .ok (.ifCond .le 12, 3) := by decide +kernel
theorem dL_sound_269 : decode cL_sound 269 = .ok (.iload 10, 2) := by decide +kernel
theorem dL_sound_271 : decode cL_sound 271 = .ok (.bipush (-105), 2) := by decide +kernel
theorem dL_sound_273 : decode cL_sound 273 = .ok (.if_icmp .ne 5, 3) := by decide +kernel
theorem dL_sound_276 : decode cL_sound 276 = .ok (.iconst 0, 1) := by decide +kernel
theorem dL_sound_277 : decode cL_sound 277 = .ok (.ireturn, 1) := by decide +kernel
theorem dL_sound_278 : decode cL_sound 278 = .ok (.iinc 6 1, 3) := by decide +kernel
theorem dL_sound_281 : decode cL_sound 281 = .ok (.goto (-268), 3) := by decide +kernel
theorem dL_sound_284 : decode cL_sound 284 = .ok (.iconst 0, 1) := by decide +kernel
theorem dL_sound_285 : decode cL_sound 285 = .ok (.istore 6, 2) := by decide +kernel
theorem dL_sound_287 : decode cL_sound 287 = .ok (.iload 6, 2) := by decide +kernel
theorem dL_sound_289 : decode cL_sound 289 = .ok (.bipush 12, 2) := by decide +kernel
theorem dL_sound_291 : decode cL_sound 291 = .ok (.if_icmp .ge 89, 3) := by decide +kernel
theorem dL_sound_294 : decode cL_sound 294 = .ok (.aload_n 0, 1) := by decide +kernel
theorem dL_sound_295 : decode cL_sound 295 = .ok (.bipush 14, 2) := by decide +kernel
theorem dL_sound_297 : decode cL_sound 297 = .ok (.iload_n 1, 1) := by decide +kernel
theorem dL_sound_298 : decode cL_sound 298 = .ok (.iload 6, 2) := by decide +kernel
theorem dL_sound_300 : decode cL_sound 300 = .ok (.iconst 3, 1) := by decide +kernel
theorem dL_sound_301 : decode cL_sound 301 = .ok (.iadd, 1) := by decide +kernel
theorem dL_sound_302 : decode cL_sound 302 = .ok (.imul, 1) := by decide +kernel
theorem dL_sound_303 : decode cL_sound 303 = .ok (.bipush 32, 2) := by decide +kernel
theorem dL_sound_305 : decode cL_sound 305 = .ok (.invokestatic 129, 3) := by decide +kernel
theorem dL_sound_308 : decode cL_sound 308 = .ok (.iload_n 1, 1) := by decide +kernel
theorem dL_sound_309 : decode cL_sound 309 = .ok (.iload 6, 2) := by decide +kernel
theorem dL_sound_311 : decode cL_sound 311 = .ok (.iconst 3, 1) := by decide +kernel
theorem dL_sound_312 : decode cL_sound 312 = .ok (.iadd, 1) := by decide +kernel
theorem dL_sound_313 : decode cL_sound 313 = .ok (.imul, 1) := by decide +kernel
theorem dL_sound_314 : decode cL_sound 314 = .ok (.bipush 7, 2) := by decide +kernel
theorem dL_sound_316 : decode cL_sound 316 = .ok (.ishr, 1) := by decide +kernel
theorem dL_sound_317 : decode cL_sound 317 = .ok (.bipush 32, 2) := by decide +kernel
theorem dL_sound_319 : decode cL_sound 319 = .ok (.invokestatic 129, 3) := by decide +kernel
theorem dL_sound_322 : decode cL_sound 322 = .ok (.iload_n 1, 1) := by decide +kernel
theorem dL_sound_323 : decode cL_sound 323 = .ok (.iload 6, 2) := by decide +kernel
theorem dL_sound_325 : decode cL_sound 325 = .ok (.iconst 3, 1) := by decide +kernel
theorem dL_sound_326 : decode cL_sound 326 = .ok (.iadd, 1) := by decide +kernel
theorem dL_sound_327 : decode cL_sound 327 = .ok (.imul, 1) := by decide +kernel
theorem dL_sound_328 : decode cL_sound 328 = .ok (.bipush 13, 2) := by decide +kernel
theorem dL_sound_330 : decode cL_sound 330 = .ok (.ishr, 1) := by decide +kernel
theorem dL_sound_331 : decode cL_sound 331 = .ok (.bipush 32, 2) := by decide +kernel
theorem dL_sound_333 : decode cL_sound 333 = .ok (.invokestatic 129, 3) := by decide +kernel
theorem dL_sound_336 : decode cL_sound 336 = .ok (.invokestatic 117, 3) := by decide +kernel
theorem dL_sound_339 : decode cL_sound 339 = .ok (.istore 7, 2) := by decide +kernel
theorem dL_sound_341 : decode cL_sound 341 = .ok (.iload 7, 2) := by decide +kernel
theorem dL_sound_343 : decode cL_sound 343 = .ok (.ifCond .lt 31, 3) := by decide +kernel
theorem dL_sound_346 : decode cL_sound 346 = .ok (.aload_n 0, 1) := by decide +kernel
theorem dL_sound_347 : decode cL_sound 347 = .ok (.bipush 20, 2) := by decide +kernel
theorem dL_sound_349 : decode cL_sound 349 = .ok (.iload 7, 2) := by decide +kernel
theorem dL_sound_351 : decode cL_sound 351 = .ok (.iconst 0, 1) := by decide +kernel
theorem dL_sound_352 : decode cL_sound 352 = .ok (.iconst 0, 1) := by decide +kernel
theorem dL_sound_353 : decode cL_sound 353 = .ok (.invokestatic 117, 3) := by decide +kernel
theorem dL_sound_356 : decode cL_sound 356 = .ok (.ifCond .le 16, 3) := by decide +kernel
theorem dL_sound_359 : decode cL_sound 359 = .ok (.aload_n 0, 1) := by decide +kernel
theorem dL_sound_360 : decode cL_sound 360 = .ok (.bipush 22, 2) := by decide +kernel
theorem dL_sound_362 : decode cL_sound 362 = .ok (.iload 7, 2) := by decide +kernel
theorem dL_sound_364 : decode cL_sound 364 = .ok (.iconst 0, 1) := by decide +kernel
theorem dL_sound_365 : decode cL_sound 365 = .ok (.iconst 0, 1) := by decide +kernel
theorem dL_sound_366 : decode cL_sound 366 = .ok (.invokestatic 117, 3) := by decide +kernel
theorem dL_sound_369 : decode cL_sound 369 = .ok (.ifCond .eq 5, 3) := by decide +kernel
theorem dL_sound_372 : decode cL_sound 372 = .ok (.iconst 0, 1) := by decide +kernel
theorem dL_sound_373 : decode cL_sound 373 = .ok (.ireturn, 1) := by decide +kernel
theorem dL_sound_374 : decode cL_sound 374 = .ok (.iinc 6 1, 3) := by decide +kernel
theorem dL_sound_377 : decode cL_sound 377 = .ok (.goto (-90), 3) := by decide +kernel
theorem dL_sound_380 : decode cL_sound 380 = .ok (.iload_n 2, 1) := by decide +kernel
theorem dL_sound_381 : decode cL_sound 381 = .ok (.ifCond .lt 64, 3) := by decide +kernel
theorem dL_sound_384 : decode cL_sound 384 = .ok (.iload_n 2, 1) := by decide +kernel
theorem dL_sound_385 : decode cL_sound 385 = .ok (.ldc 132, 2) := by decide +kernel
theorem dL_sound_387 : decode cL_sound 387 = .ok (.if_icmp .gt 58, 3) := by decide +kernel
theorem dL_sound_390 : decode cL_sound 390 = .ok (.aload_n 0, 1) := by decide +kernel
theorem dL_sound_391 : decode cL_sound 391 = .ok (.invokevirtual 133, 3) := by decide +kernel
theorem dL_sound_394 : decode cL_sound 394 = .ok (.iload_n 2, 1) := by decide +kernel
theorem dL_sound_395 : decode cL_sound 395 = .ok (.if_icmp .gt 50, 3) := by decide +kernel
theorem dL_sound_398 : decode cL_sound 398 = .ok (.iload 4, 2) := by decide +kernel
theorem dL_sound_400 : decode cL_sound 400 = .ok (.ifCond .eq 17, 3) := by decide +kernel
theorem dL_sound_403 : decode cL_sound 403 = .ok (.aload_n 0, 1) := by decide +kernel
theorem dL_sound_404 : decode cL_sound 404 = .ok (.invokevirtual 136, 3) := by decide +kernel
theorem dL_sound_407 : decode cL_sound 407 = .ok (.iload_n 3, 1) := by decide +kernel
theorem dL_sound_408 : decode cL_sound 408 = .ok (.i2f, 1) := by decide +kernel
theorem dL_sound_409 : decode cL_sound 409 = .ok (.iload 4, 2) := by decide +kernel
theorem dL_sound_411 : decode cL_sound 411 = .ok (.i2f, 1) := by decide +kernel
theorem dL_sound_412 : decode cL_sound 412 = .ok (.fdiv, 1) := by decide +kernel
theorem dL_sound_413 : decode cL_sound 413 = .ok (.fcmp .l, 1) := by decide +kernel
theorem dL_sound_414 : decode cL_sound 414 = .ok (.ifCond .ne 31, 3) := by decide +kernel
theorem dL_sound_417 : decode cL_sound 417 = .ok (.aload_n 0, 1) := by decide +kernel
theorem dL_sound_418 : decode cL_sound 418 = .ok (.invokevirtual 123, 3) := by decide +kernel
theorem dL_sound_421 : decode cL_sound 421 = .ok (.ifCond .eq 20, 3) := by decide +kernel
theorem dL_sound_424 : decode cL_sound 424 = .ok (.aload_n 0, 1) := by decide +kernel
theorem dL_sound_425 : decode cL_sound 425 = .ok (.invokevirtual 140, 3) := by decide +kernel
theorem dL_sound_428 : decode cL_sound 428 = .ok (.iload 5, 2) := by decide +kernel
theorem dL_sound_430 : decode cL_sound 430 = .ok (.i2d, 1) := by decide +kernel
theorem dL_sound_431 : decode cL_sound 431 = .ok (.aload_n 0, 1) := by decide +kernel
theorem dL_sound_432 : decode cL_sound 432 = .ok (.invokevirtual 123, 3) := by decide +kernel
theorem dL_sound_435 : decode cL_sound 435 = .ok (.i2d, 1) := by decide +kernel
theorem dL_sound_436 : decode cL_sound 436 = .ok (.ddiv, 1) := by decide +kernel
theorem dL_sound_437 : decode cL_sound 437 = .ok (.dcmp .l, 1) := by decide +kernel
theorem dL_sound_438 : decode cL_sound 438 = .ok (.ifCond .ne 7, 3) := by decide +kernel
theorem dL_sound_441 : decode cL_sound 441 = .ok (.iconst 1, 1) := by decide +kernel
theorem dL_sound_442 : decode cL_sound 442 = .ok (.goto 4, 3) := by decide +kernel
theorem dL_sound_445 : decode cL_sound 445 = .ok (.iconst 0, 1) := by decide +kernel
theorem dL_sound_446 : decode cL_sound 446 = .ok (.ireturn, 1) := by decide +kernel
