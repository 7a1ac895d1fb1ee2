theorem dX4_init_0 : decode cX4_init 0 = .ok (.aload_n 0, 1) := by decide +kernel
theorem dX4_init_1 : decode cX4_init 1 = .ok (.invokespecial 1, 3) := by decide +kernel
theorem dX4_init_4 : decode cX4_init 4 = .ok (.aload_n 0, 1) := by decide +kernel
theorem dX4_init_5 : decode cX4_init 5 = .ok (.bipush 8, 2) := by decide +kernel
theorem dX4_init_7 : decode cX4_init 7 = .ok (.newarray .int, 2) := by decide +kernel
theorem dX4_init_9 : decode cX4_init 9 = .ok (.putfield 7, 3) := by decide +kernel
theorem dX4_init_12 : decode cX4_init 12 = .ok (.aload_n 0, 1) := by decide +kernel
theorem dX4_init_13 : decode cX4_init 13 = .ok (.bipush 24, 2) := by decide +kernel
theorem dX4_init_15 : decode cX4_init 15 = .ok (.newarray .int, 2) := by decide +kernel
theorem dX4_init_17 : decode cX4_init 17 = .ok (.putfield 13, 3) := by decide +kernel
theorem dX4_init_20 : decode cX4_init 20 = .ok (.aload_n 0, 1) := by decide +kernel
theorem dX4_init_21 : decode cX4_init 21 = .ok (.bipush 24, 2) := by decide +kernel
theorem dX4_init_23 : decode cX4_init 23 = .ok (.newarray .int, 2) := by decide +kernel
theorem dX4_init_25 : decode cX4_init 25 = .ok (.putfield 16, 3) := by decide +kernel
theorem dX4_init_28 : decode cX4_init 28 = .ok (.aload_n 0, 1) := by decide +kernel
theorem dX4_init_29 : decode cX4_init 29 = .ok (.bipush 8, 2) := by decide +kernel
theorem dX4_init_31 : decode cX4_init 31 = .ok (.newarray .int, 2) := by decide +kernel
theorem dX4_init_33 : decode cX4_init 33 = .ok (.putfield 19, 3) := by decide +kernel
theorem dX4_init_36 : decode cX4_init 36 = .ok (.aload_n 0, 1) := by decide +kernel
theorem dX4_init_37 : decode cX4_init 37 = .ok (.bipush 16, 2) := by decide +kernel
theorem dX4_init_39 : decode cX4_init 39 = .ok (.newarray .int, 2) := by decide +kernel
theorem dX4_init_41 : decode cX4_init 41 = .ok (.putfield 22, 3) := by decide +kernel
theorem dX4_init_44 : decode cX4_init 44 = .ok (.aload_n 0, 1) := by decide +kernel
theorem dX4_init_45 : decode cX4_init 45 = .ok (.bipush 8, 2) := by decide +kernel
theorem dX4_init_47 : decode cX4_init 47 = .ok (.newarray .int, 2) := by decide +kernel
theorem dX4_init_49 : decode cX4_init 49 = .ok (.putfield 25, 3) := by decide +kernel
theorem dX4_init_52 : decode cX4_init 52 = .ok (.aload_n 0, 1) := by decide +kernel
theorem dX4_init_53 : decode cX4_init 53 = .ok (.bipush 8, 2) := by decide +kernel
theorem dX4_init_55 : decode cX4_init 55 = .ok (.newarray .boolean, 2) := by decide +kernel
theorem dX4_init_57 : decode cX4_init 57 = .ok (.putfield 28, 3) := by decide +kernel
theorem dX4_init_60 : decode cX4_init 60 = .ok (.aload_n 0, 1) := by decide +kernel
theorem dX4_init_61 : decode cX4_init 61 = .ok (.bipush 8, 2) := by decide +kernel
theorem dX4_init_63 : decode cX4_init 63 = .ok (.newarray .int, 2) := by decide +kernel
theorem dX4_init_65 : decode cX4_init 65 = .ok (.putfield 32, 3) := by decide +kernel
theorem dX4_init_68 : decode cX4_init 68 = .ok (.aload_n 0, 1) := by decide +kernel
theorem dX4_init_69 : decode cX4_init 69 = .ok (.bipush 8, 2) := by decide +kernel
theorem dX4_init_71 : decode cX4_init 71 = .ok (.newarray .boolean, 2) := by decide +kernel
theorem dX4_init_73 : decode cX4_init 73 = .ok (.putfield 35, 3) := by decide +kernel
theorem dX4_init_76 : decode cX4_init 76 = .ok (.aload_n 0, 1) := by decide +kernel
theorem dX4_init_77 : decode cX4_init 77 = .ok (.bipush 24, 2) := by decide +kernel
theorem dX4_init_79 : decode cX4_init 79 = .ok (.newarray .int, 2) := by decide +kernel
theorem dX4_init_81 : decode cX4_init 81 = .ok (.putfield 38, 3) := by decide +kernel
theorem dX4_init_84 : decode cX4_init 84 = .ok (.aload_n 0, 1) := by decide +kernel
theorem dX4_init_85 : decode cX4_init 85 = .ok (.bipush 8, 2) := by decide +kernel
theorem dX4_init_87 : decode cX4_init 87 = .ok (.newarray .int, 2) := by decide +kernel
theorem dX4_init_89 : decode cX4_init 89 = .ok (.putfield 41, 3) := by decide +kernel
theorem dX4_init_92 : decode cX4_init 92 = .ok (.aload_n 0, 1) := by decide +kernel
theorem dX4_init_93 : decode cX4_init 93 = .ok (.bipush 8, 2) := by decide +kernel
theorem dX4_init_95 : decode cX4_init 95 = .ok (.newarray .int, 2) := by decide +kernel
theorem dX4_init_97 : decode cX4_init 97 = .ok (.putfield 44, 3) := by decide +kernel
theorem dX4_init_100 : decode cX4_init 100 = .ok (.aload_n 0, 1) := by decide +kernel
theorem dX4_init_101 : decode cX4_init 101 = .ok (.bipush 8, 2) := by decide +kernel
theorem dX4_init_103 : decode cX4_init 103 = .ok (.newarray .int, 2) := by decide +kernel
theorem dX4_init_105 : decode cX4_init 105 = .ok (.putfield 47, 3) := by decide +kernel
theorem dX4_init_108 : decode cX4_init 108 = .ok (.aload_n 0, 1) := by decide +kernel
theorem dX4_init_109 : decode cX4_init 109 = .ok (.bipush 8, 2) := by decide +kernel
theorem dX4_init_111 : decode cX4_init 111 = .ok (.newarray .int, 2) := by decide +kernel
theorem dX4_init_113 : decode cX4_init 113 = .ok (.putfield 50, 3) := by decide +kernel
theorem dX4_init_116 : decode cX4_init 116 = .ok (.aload_n 0, 1) := by decide +kernel
theorem dX4_init_117 : decode cX4_init 117 = .ok (.bipush 8, 2) := by decide +kernel
theorem dX4_init_119 : decode cX4_init 119 = .ok (.newarray .int, 2) := by decide +kernel
theorem dX4_init_121 : decode cX4_init 121 = .ok (.putfield 53, 3) := by decide +kernel
theorem dX4_init_124 : decode cX4_init 124 = .ok (.aload_n 0, 1) := by decide +kernel
theorem dX4_init_125 : decode cX4_init 125 = .ok (.bipush 8, 2) := by decide +kernel
theorem dX4_init_127 : decode cX4_init 127 = .ok (.newarray .int, 2) := by decide +kernel
theorem dX4_init_129 : decode cX4_init 129 = .ok (.putfield 56, 3) := by decide +kernel
theorem dX4_init_132 : decode cX4_init 132 = .ok (.aload_n 0, 1) := by decide +kernel
theorem dX4_init_133 : decode cX4_init 133 = .ok (.bipush 8, 2) := by decide +kernel
theorem dX4_init_135 : decode cX4_init 135 = .ok (.newarray .int, 2) := by decide +kernel
theorem dX4_init_137 : decode cX4_init 137 = .ok (.putfield 59, 3) := by decide +kernel
theorem dX4_init_140 : decode cX4_init 140 = .ok (.aload_n 0, 1) := by decide +kernel
theorem dX4_init_141 : decode cX4_init 141 = .ok (.sipush 194, 3) := by decide +kernel
theorem dX4_init_144 : decode cX4_init 144 = .ok (.newarray .int, 2) := by decide +kernel
theorem dX4_init_146 : decode cX4_init 146 = .ok (.putfield 62, 3) := by decide +kernel
theorem dX4_init_149 : decode cX4_init 149 = .ok (.aload_n 0, 1) := by decide +kernel
theorem dX4_init_150 : decode cX4_init 150 = .ok (.bipush 8, 2) := by decide +kernel
theorem dX4_init_152 : decode cX4_init 152 = .ok (.newarray .int, 2) := by decide +kernel
theorem dX4_init_154 : decode cX4_init 154 = .ok (.putfield 65, 3) := by decide +kernel
theorem dX4_init_157 : decode cX4_init 157 = .ok (.return_, 1) := by decide +kernel
theorem dX4_thrown_0 : decode cX4_thrown 0 = .ok (.aload_n 0, 1) := by decide +kernel
theorem dX4_thrown_1 : decode cX4_thrown 1 = .ok (.getfield 68, 3) := by decide +kernel
theorem dX4_thrown_4 : decode cX4_thrown 4 = .ok (.ireturn, 1) := by decide +kernel
theorem dX4_in_0 : decode cX4_in 0 = .ok (.iload_n 0, 1) := by decide +kernel
theorem dX4_in_1 : decode cX4_in 1 = .ok (.iload_n 1, 1) := by decide +kernel
theorem dX4_in_2 : decode cX4_in 2 = .ok (.if_icmp .lt 12, 3) := by decide +kernel
theorem dX4_in_5 : decode cX4_in 5 = .ok (.iload_n 0, 1) := by decide +kernel
theorem dX4_in_6 : decode cX4_in 6 = .ok (.iload_n 2, 1) := by decide +kernel
theorem dX4_in_7 : decode cX4_in 7 = .ok (.if_icmp .gt 7, 3) := by decide +kernel
theorem dX4_in_10 : decode cX4_in 10 = .ok (.iconst 1, 1) := by decide +kernel
theorem dX4_in_11 : decode cX4_in 11 = .ok (.goto 4, 3) := by decide +kernel
theorem dX4_in_14 : decode cX4_in 14 = .ok (.iconst 0, 1) := by decide +kernel
theorem dX4_in_15 : decode cX4_in 15 = .ok (.ireturn, 1) := by decide +kernel
theorem dX4_fails_0 : decode cX4_fails 0 = .ok (.aload_n 0, 1) := by decide +kernel
theorem dX4_fails_1 : decode cX4_fails 1 = .ok (.iload_n 1, 1) := by decide +kernel
theorem dX4_fails_2 : decode cX4_fails 2 = .ok (.putfield 68, 3) := by decide +kernel
theorem dX4_fails_5 : decode cX4_fails 5 = .ok (.iconst 0, 1) := by decide +kernel
theorem dX4_fails_6 : decode cX4_fails 6 = .ok (.ireturn, 1) := by decide +kernel
theorem dX4_isObject_0 : decode cX4_isObject 0 = .ok (.iload_n 1, 1) := by decide +kernel
theorem dX4_isObject_1 : decode cX4_isObject 1 = .ok (.iconst 0, 1) := by decide +kernel
theorem dX4_isObject_2 : decode cX4_isObject 2 = .ok (.aload_n 0, 1) := by decide +kernel
theorem dX4_isObject_3 : decode cX4_isObject 3 = .ok (.getfield 72, 3) := by decide +kernel
theorem dX4_isObject_6 : decode cX4_isObject 6 = .ok (.iconst 1, 1) := by decide +kernel
theorem dX4_isObject_7 : decode cX4_isObject 7 = .ok (.isub, 1) := by decide +kernel
theorem dX4_isObject_8 : decode cX4_isObject 8 = .ok (.invokestatic 75, 3) := by decide +kernel
theorem dX4_isObject_11 : decode cX4_isObject 11 = .ok (.ireturn, 1) := by decide +kernel
theorem dX4_positionOf_0 : decode cX4_positionOf 0 = .ok (.iconst 0, 1) := by decide +kernel
theorem dX4_positionOf_1 : decode cX4_positionOf 1 = .ok (.istore_n 2, 1) := by decide +kernel
theorem dX4_positionOf_2 : decode cX4_positionOf 2 = .ok (.iload_n 2, 1) := by decide +kernel
theorem dX4_positionOf_3 : decode cX4_positionOf 3 = .ok (.aload_n 0, 1) := by decide +kernel
theorem dX4_positionOf_4 : decode cX4_positionOf 4 = .ok (.getfield 79, 3) := by decide +kernel
theorem dX4_positionOf_7 : decode cX4_positionOf 7 = .ok (.if_icmp .ge 26, 3) := by decide +kernel
theorem dX4_positionOf_10 : decode cX4_positionOf 10 = .ok (.aload_n 0, 1) := by decide +kernel
theorem dX4_positionOf_11 : decode cX4_positionOf 11 = .ok (.getfield 32, 3) := by decide +kernel
theorem dX4_positionOf_14 : decode cX4_positionOf 14 = .ok (.aload_n 0, 1) := by decide +kernel
theorem dX4_positionOf_15 : decode cX4_positionOf 15 = .ok (.getfield 25, 3) := by decide +kernel
theorem dX4_positionOf_18 : decode cX4_positionOf 18 = .ok (.iload_n 2, 1) := by decide +kernel
theorem dX4_positionOf_19 : decode cX4_positionOf 19 = .ok (.iaload, 1) := by decide +kernel
theorem dX4_positionOf_20 : decode cX4_positionOf 20 = .ok (.iaload, 1) := by decide +kernel
theorem dX4_positionOf_21 : decode cX4_positionOf 21 = .ok (.iload_n 1, 1) := by decide +kernel
theorem dX4_positionOf_22 : decode cX4_positionOf 22 = .ok (.if_icmp .ne 5, 3) := by decide +kernel
theorem dX4_positionOf_25 : decode cX4_positionOf 25 = .ok (.iload_n 2, 1) := by decide +kernel
theorem dX4_positionOf_26 : decode cX4_positionOf 26 = .ok (.ireturn, 1) := by decide +kernel
theorem dX4_positionOf_27 : decode cX4_positionOf 27 = .ok (.iinc 2 1, 3) := by decide +kernel
theorem dX4_positionOf_30 : decode cX4_positionOf 30 = .ok (.goto (-28), 3) := by decide +kernel
theorem dX4_positionOf_33 : decode cX4_positionOf 33 = .ok (.iconst (-1), 1) := by decide +kernel
theorem dX4_positionOf_34 : decode cX4_positionOf 34 = .ok (.ireturn, 1) := by decide +kernel
theorem dX4_slotOf_0 : decode cX4_slotOf 0 = .ok (.aload_n 0, 1) := by decide +kernel
theorem dX4_slotOf_1 : decode cX4_slotOf 1 = .ok (.iload_n 1, 1) := by decide +kernel
theorem dX4_slotOf_2 : decode cX4_slotOf 2 = .ok (.invokevirtual 82, 3) := by decide +kernel
theorem dX4_slotOf_5 : decode cX4_slotOf 5 = .ok (.istore_n 2, 1) := by decide +kernel
theorem dX4_slotOf_6 : decode cX4_slotOf 6 = .ok (.aload_n 0, 1) := by decide +kernel
theorem dX4_slotOf_7 : decode cX4_slotOf 7 = .ok (.iload_n 2, 1) := by decide +kernel
theorem dX4_slotOf_8 : decode cX4_slotOf 8 = .ok (.iconst (-1), 1) := by decide +kernel
theorem dX4_slotOf_9 : decode cX4_slotOf 9 = .ok (.if_icmp .ne 7, 3) := by decide +kernel
theorem dX4_slotOf_12 : decode cX4_slotOf 12 = .ok (.iconst 1, 1) := by decide +kernel
theorem dX4_slotOf_13 : decode cX4_slotOf 13 = .ok (.goto 4, 3) := by decide +kernel
theorem dX4_slotOf_16 : decode cX4_slotOf 16 = .ok (.iconst 0, 1) := by decide +kernel
theorem dX4_slotOf_17 : decode cX4_slotOf 17 = .ok (.putfield 68, 3) := by decide +kernel
theorem dX4_slotOf_20 : decode cX4_slotOf 20 = .ok (.iload_n 2, 1) := by decide +kernel
theorem dX4_slotOf_21 : decode cX4_slotOf 21 = .ok (.iconst (-1), 1) := by decide +kernel
theorem dX4_slotOf_22 : decode cX4_slotOf 22 = .ok (.if_icmp .ne 7, 3) := by decide +kernel
theorem dX4_slotOf_25 : decode cX4_slotOf 25 = .ok (.iconst 0, 1) := by decide +kernel
theorem dX4_slotOf_26 : decode cX4_slotOf 26 = .ok (.goto 9, 3) := by decide +kernel
theorem dX4_slotOf_29 : decode cX4_slotOf 29 = .ok (.aload_n 0, 1) := by decide +kernel
theorem dX4_slotOf_30 : decode cX4_slotOf 30 = .ok (.getfield 25, 3) := by decide +kernel
theorem dX4_slotOf_33 : decode cX4_slotOf 33 = .ok (.iload_n 2, 1) := by decide +kernel
theorem dX4_slotOf_34 : decode cX4_slotOf 34 = .ok (.iaload, 1) := by decide +kernel
theorem dX4_slotOf_35 : decode cX4_slotOf 35 = .ok (.ireturn, 1) := by decide +kernel
theorem dX4_span_0 : decode cX4_span 0 = .ok (.iconst 0, 1) := by decide +kernel
theorem dX4_span_1 : decode cX4_span 1 = .ok (.istore_n 2, 1) := by decide +kernel
theorem dX4_span_2 : decode cX4_span 2 = .ok (.iload_n 0, 1) := by decide +kernel
theorem dX4_span_3 : decode cX4_span 3 = .ok (.istore_n 3, 1) := by decide +kernel
theorem dX4_span_4 : decode cX4_span 4 = .ok (.iload_n 3, 1) := by decide +kernel
theorem dX4_span_5 : decode cX4_span 5 = .ok (.iload_n 1, 1) := by decide +kernel
theorem dX4_span_6 : decode cX4_span 6 = .ok (.if_icmp .gt 15, 3) := by decide +kernel
theorem dX4_span_9 : decode cX4_span 9 = .ok (.iload_n 2, 1) := by decide +kernel
theorem dX4_span_10 : decode cX4_span 10 = .ok (.iconst 1, 1) := by decide +kernel
theorem dX4_span_11 : decode cX4_span 11 = .ok (.iload_n 3, 1) := by decide +kernel
theorem dX4_span_12 : decode cX4_span 12 = .ok (.ishl, 1) := by decide +kernel
theorem dX4_span_13 : decode cX4_span 13 = .ok (.ior, 1) := by decide +kernel
theorem dX4_span_14 : decode cX4_span 14 = .ok (.istore_n 2, 1) := by decide +kernel
theorem dX4_span_15 : decode cX4_span 15 = .ok (.iinc 3 1, 3) := by decide +kernel
theorem dX4_span_18 : decode cX4_span 18 = .ok (.goto (-14), 3) := by decide +kernel
theorem dX4_span_21 : decode cX4_span 21 = .ok (.iload_n 2, 1) := by decide +kernel
theorem dX4_span_22 : decode cX4_span 22 = .ok (.ireturn, 1) := by decide +kernel
theorem dX4_spreads_0 : decode cX4_spreads 0 = .ok (.iconst 0, 1) := by decide +kernel
theorem dX4_spreads_1 : decode cX4_spreads 1 = .ok (.istore_n 3, 1) := by decide +kernel
theorem dX4_spreads_2 : decode cX4_spreads 2 = .ok (.iload_n 3, 1) := by decide +kernel
theorem dX4_spreads_3 : decode cX4_spreads 3 = .ok (.aload_n 0, 1) := by decide +kernel
theorem dX4_spreads_4 : decode cX4_spreads 4 = .ok (.getfield 72, 3) := by decide +kernel
theorem dX4_spreads_7 : decode cX4_spreads 7 = .ok (.if_icmp .ge 79, 3) := by decide +kernel
theorem dX4_spreads_10 : decode cX4_spreads 10 = .ok (.aload_n 0, 1) := by decide +kernel
theorem dX4_spreads_11 : decode cX4_spreads 11 = .ok (.getfield 59, 3) := by decide +kernel
theorem dX4_spreads_14 : decode cX4_spreads 14 = .ok (.iload_n 3, 1) := by decide +kernel
theorem dX4_spreads_15 : decode cX4_spreads 15 = .ok (.iload_n 3, 1) := by decide +kernel
theorem dX4_spreads_16 : decode cX4_spreads 16 = .ok (.iload_n 1, 1) := by decide +kernel
theorem dX4_spreads_17 : decode cX4_spreads 17 = .ok (.if_icmp .ne 7, 3) := by decide +kernel
theorem dX4_spreads_20 : decode cX4_spreads 20 = .ok (.iload_n 2, 1) := by decide +kernel
theorem dX4_spreads_21 : decode cX4_spreads 21 = .ok (.goto 4, 3) := by decide +kernel
theorem dX4_spreads_24 : decode cX4_spreads 24 = .ok (.iconst 0, 1) := by decide +kernel
theorem dX4_spreads_25 : decode cX4_spreads 25 = .ok (.iastore, 1) := by decide +kernel
theorem dX4_spreads_26 : decode cX4_spreads 26 = .ok (.iconst 0, 1) := by decide +kernel
theorem dX4_spreads_27 : decode cX4_spreads 27 = .ok (.istore 4, 2) := by decide +kernel
theorem dX4_spreads_29 : decode cX4_spreads 29 = .ok (.iload 4, 2) := by decide +kernel
theorem dX4_spreads_31 : decode cX4_spreads 31 = .ok (.aload_n 0, 1) := by decide +kernel
theorem dX4_spreads_32 : decode cX4_spreads 32 = .ok (.getfield 7, 3) := by decide +kernel
theorem dX4_spreads_35 : decode cX4_spreads 35 = .ok (.iload_n 3, 1) := by decide +kernel
theorem dX4_spreads_36 : decode cX4_spreads 36 = .ok (.iaload, 1) := by decide +kernel
theorem dX4_spreads_37 : decode cX4_spreads 37 = .ok (.if_icmp .ge 43, 3) := by decide +kernel
theorem dX4_spreads_40 : decode cX4_spreads 40 = .ok (.aload_n 0, 1) := by decide +kernel
theorem dX4_spreads_41 : decode cX4_spreads 41 = .ok (.getfield 59, 3) := by decide +kernel
theorem dX4_spreads_44 : decode cX4_spreads 44 = .ok (.iload_n 3, 1) := by decide +kernel
theorem dX4_spreads_45 : decode cX4_spreads 45 = .ok (.dup2, 1) := by decide +kernel
theorem dX4_spreads_46 : decode cX4_spreads 46 = .ok (.iaload, 1) := by decide +kernel
theorem dX4_spreads_47 : decode cX4_spreads 47 = .ok (.aload_n 0, 1) := by decide +kernel
theorem dX4_spreads_48 : decode cX4_spreads 48 = .ok (.getfield 13, 3) := by decide +kernel
theorem dX4_spreads_51 : decode cX4_spreads 51 = .ok (.iconst 3, 1) := by decide +kernel
theorem dX4_spreads_52 : decode cX4_spreads 52 = .ok (.iload_n 3, 1) := by decide +kernel
theorem dX4_spreads_53 : decode cX4_spreads 53 = .ok (.imul, 1) := by decide +kernel
theorem dX4_spreads_54 : decode cX4_spreads 54 = .ok (.iload 4, 2) := by decide +kernel
theorem dX4_spreads_56 : decode cX4_spreads 56 = .ok (.iadd, 1) := by decide +kernel
theorem dX4_spreads_57 : decode cX4_spreads 57 = .ok (.iaload, 1) := by decide +kernel
theorem dX4_spreads_58 : decode cX4_spreads 58 = .ok (.aload_n 0, 1) := by decide +kernel
theorem dX4_spreads_59 : decode cX4_spreads 59 = .ok (.getfield 16, 3) := by decide +kernel
theorem dX4_spreads_62 : decode cX4_spreads 62 = .ok (.iconst 3, 1) := by decide +kernel
theorem dX4_spreads_63 : decode cX4_spreads 63 = .ok (.iload_n 3, 1) := by decide +kernel
theorem dX4_spreads_64 : decode cX4_spreads 64 = .ok (.imul, 1) := by decide +kernel
theorem dX4_spreads_65 : decode cX4_spreads 65 = .ok (.iload 4, 2) := by decide +kernel
theorem dX4_spreads_67 : decode cX4_spreads 67 = .ok (.iadd, 1) := by decide +kernel
theorem dX4_spreads_68 : decode cX4_spreads 68 = .ok (.iaload, 1) := by decide +kernel
theorem dX4_spreads_69 : decode cX4_spreads 69 = .ok (.invokestatic 86, 3) := by decide +kernel
theorem dX4_spreads_72 : decode cX4_spreads 72 = .ok (.ior, 1) := by decide +kernel
theorem dX4_spreads_73 : decode cX4_spreads 73 = .ok (.iastore, 1) := by decide +kernel
theorem dX4_spreads_74 : decode cX4_spreads 74 = .ok (.iinc 4 1, 3) := by decide +kernel
theorem dX4_spreads_77 : decode cX4_spreads 77 = .ok (.goto (-48), 3) := by decide +kernel
theorem dX4_spreads_80 : decode cX4_spreads 80 = .ok (.iinc 3 1, 3) := by decide +kernel
theorem dX4_spreads_83 : decode cX4_spreads 83 = .ok (.goto (-81), 3) := by decide +kernel
theorem dX4_spreads_86 : decode cX4_spreads 86 = .ok (.iconst 0, 1) := by decide +kernel
theorem dX4_spreads_87 : decode cX4_spreads 87 = .ok (.istore_n 3, 1) := by decide +kernel
theorem dX4_spreads_88 : decode cX4_spreads 88 = .ok (.iload_n 3, 1) := by decide +kernel
theorem dX4_spreads_89 : decode cX4_spreads 89 = .ok (.bipush 8, 2) := by decide +kernel
theorem dX4_spreads_91 : decode cX4_spreads 91 = .ok (.if_icmp .ge 75, 3) := by decide +kernel
theorem dX4_spreads_94 : decode cX4_spreads 94 = .ok (.iconst 0, 1) := by decide +kernel
theorem dX4_spreads_95 : decode cX4_spreads 95 = .ok (.istore 4, 2) := by decide +kernel
theorem dX4_spreads_97 : decode cX4_spreads 97 = .ok (.iload 4, 2) := by decide +kernel
theorem dX4_spreads_99 : decode cX4_spreads 99 = .ok (.aload_n 0, 1) := by decide +kernel
theorem dX4_spreads_100 : decode cX4_spreads 100 = .ok (.getfield 72, 3) := by decide +kernel
theorem dX4_spreads_103 : decode cX4_spreads 103 = .ok (.if_icmp .ge 57, 3) := by decide +kernel
theorem dX4_spreads_106 : decode cX4_spreads 106 = .ok (.iconst 0, 1) := by decide +kernel
theorem dX4_spreads_107 : decode cX4_spreads 107 = .ok (.istore 5, 2) := by decide +kernel
theorem dX4_spreads_109 : decode cX4_spreads 109 = .ok (.iload 5, 2) := by decide +kernel
theorem dX4_spreads_111 : decode cX4_spreads 111 = .ok (.aload_n 0, 1) := by decide +kernel
theorem dX4_spreads_112 : decode cX4_spreads 112 = .ok (.getfield 19, 3) := by decide +kernel
theorem dX4_spreads_115 : decode cX4_spreads 115 = .ok (.iload 4, 2) := by decide +kernel
theorem dX4_spreads_117 : decode cX4_spreads 117 = .ok (.iaload, 1) := by decide +kernel
theorem dX4_spreads_118 : decode cX4_spreads 118 = .ok (.if_icmp .ge 36, 3) := by decide +kernel
theorem dX4_spreads_121 : decode cX4_spreads 121 = .ok (.aload_n 0, 1) := by decide +kernel
theorem dX4_spreads_122 : decode cX4_spreads 122 = .ok (.getfield 59, 3) := by decide +kernel
theorem dX4_spreads_125 : decode cX4_spreads 125 = .ok (.iload 4, 2) := by decide +kernel
theorem dX4_spreads_127 : decode cX4_spreads 127 = .ok (.dup2, 1) := by decide +kernel
theorem dX4_spreads_128 : decode cX4_spreads 128 = .ok (.iaload, 1) := by decide +kernel
theorem dX4_spreads_129 : decode cX4_spreads 129 = .ok (.aload_n 0, 1) := by decide +kernel
theorem dX4_spreads_130 : decode cX4_spreads 130 = .ok (.getfield 59, 3) := by decide +kernel
theorem dX4_spreads_133 : decode cX4_spreads 133 = .ok (.aload_n 0, 1) := by decide +kernel
theorem dX4_spreads_134 : decode cX4_spreads 134 = .ok (.getfield 22, 3) := by decide +kernel
theorem dX4_spreads_137 : decode cX4_spreads 137 = .ok (.iconst 2, 1) := by decide +kernel
theorem dX4_spreads_138 : decode cX4_spreads 138 = .ok (.iload 4, 2) := by decide +kernel
theorem dX4_spreads_140 : decode cX4_spreads 140 = .ok (.imul, 1) := by decide +kernel
theorem dX4_spreads_141 : decode cX4_spreads 141 = .ok (.iload 5, 2) := by decide +kernel
theorem dX4_spreads_143 : decode cX4_spreads 143 = .ok (.iadd, 1) := by decide +kernel
theorem dX4_spreads_144 : decode cX4_spreads 144 = .ok (.iaload, 1) := by decide +kernel
theorem dX4_spreads_145 : decode cX4_spreads 145 = .ok (.iaload, 1) := by decide +kernel
theorem dX4_spreads_146 : decode cX4_spreads 146 = .ok (.ior, 1) := by decide +kernel
theorem dX4_spreads_147 : decode cX4_spreads 147 = .ok (.iastore, 1) := by decide +kernel
theorem dX4_spreads_148 : decode cX4_spreads 148 = .ok (.iinc 5 1, 3) := by decide +kernel
theorem dX4_spreads_151 : decode cX4_spreads 151 = .ok (.goto (-42), 3) := by decide +kernel
theorem dX4_spreads_154 : decode cX4_spreads 154 = .ok (.iinc 4 1, 3) := by decide +kernel
theorem dX4_spreads_157 : decode cX4_spreads 157 = .ok (.goto (-60), 3) := by decide +kernel
theorem dX4_spreads_160 : decode cX4_spreads 160 = .ok (.iinc 3 1, 3) := by decide +kernel
theorem dX4_spreads_163 : decode cX4_spreads 163 = .ok (.goto (-75), 3) := by decide +kernel
theorem dX4_spreads_166 : decode cX4_spreads 166 = .ok (.return_, 1) := by decide +kernel
theorem dX4_dependents_0 : decode cX4_dependents 0 = .ok (.iconst 1, 1) := by decide +kernel
theorem dX4_dependents_1 : decode cX4_dependents 1 = .ok (.iload_n 1, 1) := by decide +kernel
theorem dX4_dependents_2 : decode cX4_dependents 2 = .ok (.ishl, 1) := by decide +kernel
theorem dX4_dependents_3 : decode cX4_dependents 3 = .ok (.istore_n 2, 1) := by decide +kernel
theorem dX4_dependents_4 : decode cX4_dependents 4 = .ok (.iconst 0, 1) := by decide +kernel
theorem dX4_dependents_5 : decode cX4_dependents 5 = .ok (.istore_n 3, 1) := by decide +kernel
theorem dX4_dependents_6 : decode cX4_dependents 6 = .ok (.iload_n 3, 1) := by decide +kernel
theorem dX4_dependents_7 : decode cX4_dependents 7 = .ok (.bipush 8, 2) := by decide +kernel
theorem dX4_dependents_9 : decode cX4_dependents 9 = .ok (.if_icmp .ge 79, 3) := by decide +kernel
theorem dX4_dependents_12 : decode cX4_dependents 12 = .ok (.iconst 0, 1) := by decide +kernel
theorem dX4_dependents_13 : decode cX4_dependents 13 = .ok (.istore 4, 2) := by decide +kernel
theorem dX4_dependents_15 : decode cX4_dependents 15 = .ok (.iload 4, 2) := by decide +kernel
theorem dX4_dependents_17 : decode cX4_dependents 17 = .ok (.aload_n 0, 1) := by decide +kernel
theorem dX4_dependents_18 : decode cX4_dependents 18 = .ok (.getfield 72, 3) := by decide +kernel
theorem dX4_dependents_21 : decode cX4_dependents 21 = .ok (.if_icmp .ge 61, 3) := by decide +kernel
theorem dX4_dependents_24 : decode cX4_dependents 24 = .ok (.iconst 0, 1) := by decide +kernel
theorem dX4_dependents_25 : decode cX4_dependents 25 = .ok (.istore 5, 2) := by decide +kernel
theorem dX4_dependents_27 : decode cX4_dependents 27 = .ok (.iload 5, 2) := by decide +kernel
theorem dX4_dependents_29 : decode cX4_dependents 29 = .ok (.aload_n 0, 1) := by decide +kernel
theorem dX4_dependents_30 : decode cX4_dependents 30 = .ok (.getfield 19, 3) := by decide +kernel
theorem dX4_dependents_33 : decode cX4_dependents 33 = .ok (.iload 4, 2) := by decide +kernel
theorem dX4_dependents_35 : decode cX4_dependents 35 = .ok (.iaload, 1) := by decide +kernel
theorem dX4_dependents_36 : decode cX4_dependents 36 = .ok (.if_icmp .ge 40, 3) := by decide +kernel
theorem dX4_dependents_39 : decode cX4_dependents 39 = .ok (.iload_n 2, 1) := by decide +kernel
theorem dX4_dependents_40 : decode cX4_dependents 40 = .ok (.iload_n 2, 1) := by decide +kernel
theorem dX4_dependents_41 : decode cX4_dependents 41 = .ok (.aload_n 0, 1) := by decide +kernel
theorem dX4_dependents_42 : decode cX4_dependents 42 = .ok (.getfield 22, 3) := by decide +kernel
theorem dX4_dependents_45 : decode cX4_dependents 45 = .ok (.iconst 2, 1) := by decide +kernel
theorem dX4_dependents_46 : decode cX4_dependents 46 = .ok (.iload 4, 2) := by decide +kernel
theorem dX4_dependents_48 : decode cX4_dependents 48 = .ok (.imul, 1) := by decide +kernel
theorem dX4_dependents_49 : decode cX4_dependents 49 = .ok (.iload 5, 2) := by decide +kernel
theorem dX4_dependents_51 : decode cX4_dependents 51 = .ok (.iadd, 1) := by decide +kernel
theorem dX4_dependents_52 : decode cX4_dependents 52 = .ok (.iaload, 1) := by decide +kernel
theorem dX4_dependents_53 : decode cX4_dependents 53 = .ok (.ishr, 1) := by decide +kernel
theorem dX4_dependents_54 : decode cX4_dependents 54 = .ok (.iconst 1, 1) := by decide +kernel
theorem dX4_dependents_55 : decode cX4_dependents 55 = .ok (.iand, 1) := by decide +kernel
theorem dX4_dependents_56 : decode cX4_dependents 56 = .ok (.iconst 1, 1) := by decide +kernel
theorem dX4_dependents_57 : decode cX4_dependents 57 = .ok (.if_icmp .ne 10, 3) := by decide +kernel
theorem dX4_dependents_60 : decode cX4_dependents 60 = .ok (.iconst 1, 1) := by decide +kernel
theorem dX4_dependents_61 : decode cX4_dependents 61 = .ok (.iload 4, 2) := by decide +kernel
theorem dX4_dependents_63 : decode cX4_dependents 63 = .ok (.ishl, 1) := by decide +kernel
theorem dX4_dependents_64 : decode cX4_dependents 64 = .ok (.goto 4, 3) := by decide +kernel
theorem dX4_dependents_67 : decode cX4_dependents 67 = .ok (.iconst 0, 1) := by decide +kernel
theorem dX4_dependents_68 : decode cX4_dependents 68 = .ok (.ior, 1) := by decide +kernel
theorem dX4_dependents_69 : decode cX4_dependents 69 = .ok (.istore_n 2, 1) := by decide +kernel
theorem dX4_dependents_70 : decode cX4_dependents 70 = .ok (.iinc 5 1, 3) := by decide +kernel
theorem dX4_dependents_73 : decode cX4_dependents 73 = .ok (.goto (-46), 3) := by decide +kernel
theorem dX4_dependents_76 : decode cX4_dependents 76 = .ok (.iinc 4 1, 3) := by decide +kernel
theorem dX4_dependents_79 : decode cX4_dependents 79 = .ok (.goto (-64), 3) := by decide +kernel
theorem dX4_dependents_82 : decode cX4_dependents 82 = .ok (.iinc 3 1, 3) := by decide +kernel
theorem dX4_dependents_85 : decode cX4_dependents 85 = .ok (.goto (-79), 3) := by decide +kernel
theorem dX4_dependents_88 : decode cX4_dependents 88 = .ok (.iload_n 2, 1) := by decide +kernel
theorem dX4_dependents_89 : decode cX4_dependents 89 = .ok (.ireturn, 1) := by decide +kernel
theorem dX4_size_0 : decode cX4_size 0 = .ok (.iconst 0, 1) := by decide +kernel
theorem dX4_size_1 : decode cX4_size 1 = .ok (.istore_n 1, 1) := by decide +kernel
theorem dX4_size_2 : decode cX4_size 2 = .ok (.iconst 0, 1) := by decide +kernel
theorem dX4_size_3 : decode cX4_size 3 = .ok (.istore_n 2, 1) := by decide +kernel
theorem dX4_size_4 : decode cX4_size 4 = .ok (.iload_n 2, 1) := by decide +kernel
theorem dX4_size_5 : decode cX4_size 5 = .ok (.bipush 32, 2) := by decide +kernel
theorem dX4_size_7 : decode cX4_size 7 = .ok (.if_icmp .ge 17, 3) := by decide +kernel
theorem dX4_size_10 : decode cX4_size 10 = .ok (.iload_n 1, 1) := by decide +kernel
theorem dX4_size_11 : decode cX4_size 11 = .ok (.iload_n 0, 1) := by decide +kernel
theorem dX4_size_12 : decode cX4_size 12 = .ok (.iload_n 2, 1) := by decide +kernel
theorem dX4_size_13 : decode cX4_size 13 = .ok (.ishr, 1) := by decide +kernel
theorem dX4_size_14 : decode cX4_size 14 = .ok (.iconst 1, 1) := by decide +kernel
theorem dX4_size_15 : decode cX4_size 15 = .ok (.iand, 1) := by decide +kernel
theorem dX4_size_16 : decode cX4_size 16 = .ok (.iadd, 1) := by decide +kernel
theorem dX4_size_17 : decode cX4_size 17 = .ok (.istore_n 1, 1) := by decide +kernel
theorem dX4_size_18 : decode cX4_size 18 = .ok (.iinc 2 1, 3) := by decide +kernel
theorem dX4_size_21 : decode cX4_size 21 = .ok (.goto (-17), 3) := by decide +kernel
theorem dX4_size_24 : decode cX4_size 24 = .ok (.iload_n 1, 1) := by decide +kernel
theorem dX4_size_25 : decode cX4_size 25 = .ok (.ireturn, 1) := by decide +kernel
theorem dX4_addObject_0 : decode cX4_addObject 0 = .ok (.aload_n 0, 1) := by decide +kernel
theorem dX4_addObject_1 : decode cX4_addObject 1 = .ok (.iconst 0, 1) := by decide +kernel
theorem dX4_addObject_2 : decode cX4_addObject 2 = .ok (.putfield 68, 3) := by decide +kernel
theorem dX4_addObject_5 : decode cX4_addObject 5 = .ok (.aload_n 0, 1) := by decide +kernel
theorem dX4_addObject_6 : decode cX4_addObject 6 = .ok (.getfield 72, 3) := by decide +kernel
theorem dX4_addObject_9 : decode cX4_addObject 9 = .ok (.bipush 8, 2) := by decide +kernel
theorem dX4_addObject_11 : decode cX4_addObject 11 = .ok (.if_icmp .ne 9, 3) := by decide +kernel
theorem dX4_addObject_14 : decode cX4_addObject 14 = .ok (.aload_n 0, 1) := by decide +kernel
theorem dX4_addObject_15 : decode cX4_addObject 15 = .ok (.iconst 1, 1) := by decide +kernel
theorem dX4_addObject_16 : decode cX4_addObject 16 = .ok (.invokevirtual 90, 3) := by decide +kernel
theorem dX4_addObject_19 : decode cX4_addObject 19 = .ok (.ireturn, 1) := by decide +kernel
theorem dX4_addObject_20 : decode cX4_addObject 20 = .ok (.aload_n 0, 1) := by decide +kernel
theorem dX4_addObject_21 : decode cX4_addObject 21 = .ok (.dup, 1) := by decide +kernel
theorem dX4_addObject_22 : decode cX4_addObject 22 = .ok (.getfield 72, 3) := by decide +kernel
theorem dX4_addObject_25 : decode cX4_addObject 25 = .ok (.iconst 1, 1) := by decide +kernel
theorem dX4_addObject_26 : decode cX4_addObject 26 = .ok (.iadd, 1) := by decide +kernel
theorem dX4_addObject_27 : decode cX4_addObject 27 = .ok (.putfield 72, 3) := by decide +kernel
theorem dX4_addObject_30 : decode cX4_addObject 30 = .ok (.aload_n 0, 1) := by decide +kernel
theorem dX4_addObject_31 : decode cX4_addObject 31 = .ok (.getfield 72, 3) := by decide +kernel
theorem dX4_addObject_34 : decode cX4_addObject 34 = .ok (.iconst 1, 1) := by decide +kernel
theorem dX4_addObject_35 : decode cX4_addObject 35 = .ok (.isub, 1) := by decide +kernel
theorem dX4_addObject_36 : decode cX4_addObject 36 = .ok (.ireturn, 1) := by decide +kernel
theorem dX4_addRange_0 : decode cX4_addRange 0 = .ok (.aload_n 0, 1) := by decide +kernel
theorem dX4_addRange_1 : decode cX4_addRange 1 = .ok (.iconst 0, 1) := by decide +kernel
theorem dX4_addRange_2 : decode cX4_addRange 2 = .ok (.putfield 68, 3) := by decide +kernel
theorem dX4_addRange_5 : decode cX4_addRange 5 = .ok (.aload_n 0, 1) := by decide +kernel
theorem dX4_addRange_6 : decode cX4_addRange 6 = .ok (.iload_n 1, 1) := by decide +kernel
theorem dX4_addRange_7 : decode cX4_addRange 7 = .ok (.invokevirtual 93, 3) := by decide +kernel
theorem dX4_addRange_10 : decode cX4_addRange 10 = .ok (.ifCond .ne 9, 3) := by decide +kernel
theorem dX4_addRange_13 : decode cX4_addRange 13 = .ok (.aload_n 0, 1) := by decide +kernel
theorem dX4_addRange_14 : decode cX4_addRange 14 = .ok (.iconst 1, 1) := by decide +kernel
theorem dX4_addRange_15 : decode cX4_addRange 15 = .ok (.invokevirtual 90, 3) := by decide +kernel
theorem dX4_addRange_18 : decode cX4_addRange 18 = .ok (.ireturn, 1) := by decide +kernel
theorem dX4_addRange_19 : decode cX4_addRange 19 = .ok (.iload_n 2, 1) := by decide +kernel
theorem dX4_addRange_20 : decode cX4_addRange 20 = .ok (.iconst 0, 1) := by decide +kernel
theorem dX4_addRange_21 : decode cX4_addRange 21 = .ok (.bipush 31, 2) := by decide +kernel
theorem dX4_addRange_23 : decode cX4_addRange 23 = .ok (.invokestatic 75, 3) := by decide +kernel
theorem dX4_addRange_26 : decode cX4_addRange 26 = .ok (.ifCond .eq 13, 3) := by decide +kernel
theorem dX4_addRange_29 : decode cX4_addRange 29 = .ok (.iload_n 3, 1) := by decide +kernel
theorem dX4_addRange_30 : decode cX4_addRange 30 = .ok (.iload_n 2, 1) := by decide +kernel
theorem dX4_addRange_31 : decode cX4_addRange 31 = .ok (.bipush 31, 2) := by decide +kernel
theorem dX4_addRange_33 : decode cX4_addRange 33 = .ok (.invokestatic 75, 3) := by decide +kernel
theorem dX4_addRange_36 : decode cX4_addRange 36 = .ok (.ifCond .ne 9, 3) := by decide +kernel
theorem dX4_addRange_39 : decode cX4_addRange 39 = .ok (.aload_n 0, 1) := by decide +kernel
theorem dX4_addRange_40 : decode cX4_addRange 40 = .ok (.iconst 2, 1) := by decide +kernel
theorem dX4_addRange_41 : decode cX4_addRange 41 = .ok (.invokevirtual 90, 3) := by decide +kernel
theorem dX4_addRange_44 : decode cX4_addRange 44 = .ok (.ireturn, 1) := by decide +kernel
theorem dX4_addRange_45 : decode cX4_addRange 45 = .ok (.aload_n 0, 1) := by decide +kernel
theorem dX4_addRange_46 : decode cX4_addRange 46 = .ok (.getfield 7, 3) := by decide +kernel
theorem dX4_addRange_49 : decode cX4_addRange 49 = .ok (.iload_n 1, 1) := by decide +kernel
theorem dX4_addRange_50 : decode cX4_addRange 50 = .ok (.iaload, 1) := by decide +kernel
theorem dX4_addRange_51 : decode cX4_addRange 51 = .ok (.iconst 3, 1) := by decide +kernel
theorem dX4_addRange_52 : decode cX4_addRange 52 = .ok (.if_icmp .ne 9, 3) := by decide +kernel
theorem dX4_addRange_55 : decode cX4_addRange 55 = .ok (.aload_n 0, 1) := by decide +kernel
theorem dX4_addRange_56 : decode cX4_addRange 56 = .ok (.iconst 3, 1) := by decide +kernel
theorem dX4_addRange_57 : decode cX4_addRange 57 = .ok (.invokevirtual 90, 3) := by decide +kernel
theorem dX4_addRange_60 : decode cX4_addRange 60 = .ok (.ireturn, 1) := by decide +kernel
theorem dX4_addRange_61 : decode cX4_addRange 61 = .ok (.aload_n 0, 1) := by decide +kernel
theorem dX4_addRange_62 : decode cX4_addRange 62 = .ok (.getfield 13, 3) := by decide +kernel
theorem dX4_addRange_65 : decode cX4_addRange 65 = .ok (.iconst 3, 1) := by decide +kernel
theorem dX4_addRange_66 : decode cX4_addRange 66 = .ok (.iload_n 1, 1) := by decide +kernel
theorem dX4_addRange_67 : decode cX4_addRange 67 = .ok (.imul, 1) := by decide +kernel
theorem dX4_addRange_68 : decode cX4_addRange 68 = .ok (.aload_n 0, 1) := by decide +kernel
theorem dX4_addRange_69 : decode cX4_addRange 69 = .ok (.getfield 7, 3) := by decide +kernel
theorem dX4_addRange_72 : decode cX4_addRange 72 = .ok (.iload_n 1, 1) := by decide +kernel
theorem dX4_addRange_73 : decode cX4_addRange 73 = .ok (.iaload, 1) := by decide +kernel
theorem dX4_addRange_74 : decode cX4_addRange 74 = .ok (.iadd, 1) := by decide +kernel
theorem dX4_addRange_75 : decode cX4_addRange 75 = .ok (.iload_n 2, 1) := by decide +kernel
theorem dX4_addRange_76 : decode cX4_addRange 76 = .ok (.iastore, 1) := by decide +kernel
theorem dX4_addRange_77 : decode cX4_addRange 77 = .ok (.aload_n 0, 1) := by decide +kernel
theorem dX4_addRange_78 : decode cX4_addRange 78 = .ok (.getfield 16, 3) := by decide +kernel
theorem dX4_addRange_81 : decode cX4_addRange 81 = .ok (.iconst 3, 1) := by decide +kernel
theorem dX4_addRange_82 : decode cX4_addRange 82 = .ok (.iload_n 1, 1) := by decide +kernel
theorem dX4_addRange_83 : decode cX4_addRange 83 = .ok (.imul, 1) := by decide +kernel
theorem dX4_addRange_84 : decode cX4_addRange 84 = .ok (.aload_n 0, 1) := by decide +kernel
theorem dX4_addRange_85 : decode cX4_addRange 85 = .ok (.getfield 7, 3) := by decide +kernel
theorem dX4_addRange_88 : decode cX4_addRange 88 = .ok (.iload_n 1, 1) := by decide +kernel
theorem dX4_addRange_89 : decode cX4_addRange 89 = .ok (.iaload, 1) := by decide +kernel
theorem dX4_addRange_90 : decode cX4_addRange 90 = .ok (.iadd, 1) := by decide +kernel
theorem dX4_addRange_91 : decode cX4_addRange 91 = .ok (.iload_n 3, 1) := by decide +kernel
theorem dX4_addRange_92 : decode cX4_addRange 92 = .ok (.iastore, 1) := by decide +kernel
theorem dX4_addRange_93 : decode cX4_addRange 93 = .ok (.aload_n 0, 1) := by decide +kernel
theorem dX4_addRange_94 : decode cX4_addRange 94 = .ok (.getfield 7, 3) := by decide +kernel
theorem dX4_addRange_97 : decode cX4_addRange 97 = .ok (.iload_n 1, 1) := by decide +kernel
theorem dX4_addRange_98 : decode cX4_addRange 98 = .ok (.dup2, 1) := by decide +kernel
theorem dX4_addRange_99 : decode cX4_addRange 99 = .ok (.iaload, 1) := by decide +kernel
theorem dX4_addRange_100 : decode cX4_addRange 100 = .ok (.iconst 1, 1) := by decide +kernel
theorem dX4_addRange_101 : decode cX4_addRange 101 = .ok (.iadd, 1) := by decide +kernel
theorem dX4_addRange_102 : decode cX4_addRange 102 = .ok (.iastore, 1) := by decide +kernel
theorem dX4_addRange_103 : decode cX4_addRange 103 = .ok (.aload_n 0, 1) := by decide +kernel
theorem dX4_addRange_104 : decode cX4_addRange 104 = .ok (.getfield 7, 3) := by decide +kernel
theorem dX4_addRange_107 : decode cX4_addRange 107 = .ok (.iload_n 1, 1) := by decide +kernel
theorem dX4_addRange_108 : decode cX4_addRange 108 = .ok (.iaload, 1) := by decide +kernel
theorem dX4_addRange_109 : decode cX4_addRange 109 = .ok (.ireturn, 1) := by decide +kernel
theorem dX4_removeRange_0 : decode cX4_removeRange 0 = .ok (.aload_n 0, 1) := by decide +kernel
theorem dX4_removeRange_1 : decode cX4_removeRange 1 = .ok (.iconst 0, 1) := by decide +kernel
theorem dX4_removeRange_2 : decode cX4_removeRange 2 = .ok (.putfield 68, 3) := by decide +kernel
theorem dX4_removeRange_5 : decode cX4_removeRange 5 = .ok (.aload_n 0, 1) := by decide +kernel
theorem dX4_removeRange_6 : decode cX4_removeRange 6 = .ok (.iload_n 1, 1) := by decide +kernel
theorem dX4_removeRange_7 : decode cX4_removeRange 7 = .ok (.invokevirtual 93, 3) := by decide +kernel
theorem dX4_removeRange_10 : decode cX4_removeRange 10 = .ok (.ifCond .ne 9, 3) := by decide +kernel
theorem dX4_removeRange_13 : decode cX4_removeRange 13 = .ok (.aload_n 0, 1) := by decide +kernel
theorem dX4_removeRange_14 : decode cX4_removeRange 14 = .ok (.iconst 1, 1) := by decide +kernel
theorem dX4_removeRange_15 : decode cX4_removeRange 15 = .ok (.invokevirtual 90, 3) := by decide +kernel
theorem dX4_removeRange_18 : decode cX4_removeRange 18 = .ok (.ireturn, 1) := by decide +kernel
theorem dX4_removeRange_19 : decode cX4_removeRange 19 = .ok (.aload_n 0, 1) := by decide +kernel
theorem dX4_removeRange_20 : decode cX4_removeRange 20 = .ok (.getfield 7, 3) := by decide +kernel
theorem dX4_removeRange_23 : decode cX4_removeRange 23 = .ok (.iload_n 1, 1) := by decide +kernel
theorem dX4_removeRange_24 : decode cX4_removeRange 24 = .ok (.iaload, 1) := by decide +kernel
theorem dX4_removeRange_25 : decode cX4_removeRange 25 = .ok (.ifCond .ne 9, 3) := by decide +kernel
theorem dX4_removeRange_28 : decode cX4_removeRange 28 = .ok (.aload_n 0, 1) := by decide +kernel
theorem dX4_removeRange_29 : decode cX4_removeRange 29 = .ok (.iconst 2, 1) := by decide +kernel
theorem dX4_removeRange_30 : decode cX4_removeRange 30 = .ok (.invokevirtual 90, 3) := by decide +kernel
theorem dX4_removeRange_33 : decode cX4_removeRange 33 = .ok (.ireturn, 1) := by decide +kernel
theorem dX4_removeRange_34 : decode cX4_removeRange 34 = .ok (.aload_n 0, 1) := by decide +kernel
theorem dX4_removeRange_35 : decode cX4_removeRange 35 = .ok (.getfield 7, 3) := by decide +kernel
theorem dX4_removeRange_38 : decode cX4_removeRange 38 = .ok (.iload_n 1, 1) := by decide +kernel
theorem dX4_removeRange_39 : decode cX4_removeRange 39 = .ok (.dup2, 1) := by decide +kernel
theorem dX4_removeRange_40 : decode cX4_removeRange 40 = .ok (.iaload, 1) := by decide +kernel
theorem dX4_removeRange_41 : decode cX4_removeRange 41 = .ok (.iconst 1, 1) := by decide +kernel
theorem dX4_removeRange_42 : decode cX4_removeRange 42 = .ok (.isub, 1) := by decide +kernel
theorem dX4_removeRange_43 : decode cX4_removeRange 43 = .ok (.iastore, 1) := by decide +kernel
theorem dX4_removeRange_44 : decode cX4_removeRange 44 = .ok (.aload_n 0, 1) := by decide +kernel
theorem dX4_removeRange_45 : decode cX4_removeRange 45 = .ok (.getfield 7, 3) := by decide +kernel
theorem dX4_removeRange_48 : decode cX4_removeRange 48 = .ok (.iload_n 1, 1) := by decide +kernel
theorem dX4_removeRange_49 : decode cX4_removeRange 49 = .ok (.iaload, 1) := by decide +kernel
theorem dX4_removeRange_50 : decode cX4_removeRange 50 = .ok (.ireturn, 1) := by decide +kernel
theorem dX4_memberAt_0 : decode cX4_memberAt 0 = .ok (.iconst 0, 1) := by decide +kernel
theorem dX4_memberAt_1 : decode cX4_memberAt 1 = .ok (.istore_n 3, 1) := by decide +kernel
theorem dX4_memberAt_2 : decode cX4_memberAt 2 = .ok (.iload_n 3, 1) := by decide +kernel
theorem dX4_memberAt_3 : decode cX4_memberAt 3 = .ok (.aload_n 0, 1) := by decide +kernel
theorem dX4_memberAt_4 : decode cX4_memberAt 4 = .ok (.getfield 19, 3) := by decide +kernel
theorem dX4_memberAt_7 : decode cX4_memberAt 7 = .ok (.iload_n 1, 1) := by decide +kernel
theorem dX4_memberAt_8 : decode cX4_memberAt 8 = .ok (.iaload, 1) := by decide +kernel
theorem dX4_memberAt_9 : decode cX4_memberAt 9 = .ok (.if_icmp .ge 25, 3) := by decide +kernel
theorem dX4_memberAt_12 : decode cX4_memberAt 12 = .ok (.aload_n 0, 1) := by decide +kernel
theorem dX4_memberAt_13 : decode cX4_memberAt 13 = .ok (.getfield 22, 3) := by decide +kernel
theorem dX4_memberAt_16 : decode cX4_memberAt 16 = .ok (.iconst 2, 1) := by decide +kernel
theorem dX4_memberAt_17 : decode cX4_memberAt 17 = .ok (.iload_n 1, 1) := by decide +kernel
theorem dX4_memberAt_18 : decode cX4_memberAt 18 = .ok (.imul, 1) := by decide +kernel
theorem dX4_memberAt_19 : decode cX4_memberAt 19 = .ok (.iload_n 3, 1) := by decide +kernel
theorem dX4_memberAt_20 : decode cX4_memberAt 20 = .ok (.iadd, 1) := by decide +kernel
theorem dX4_memberAt_21 : decode cX4_memberAt 21 = .ok (.iaload, 1) := by decide +kernel
theorem dX4_memberAt_22 : decode cX4_memberAt 22 = .ok (.iload_n 2, 1) := by decide +kernel
theorem dX4_memberAt_23 : decode cX4_memberAt 23 = .ok (.if_icmp .ne 5, 3) := by decide +kernel
theorem dX4_memberAt_26 : decode cX4_memberAt 26 = .ok (.iload_n 3, 1) := by decide +kernel
theorem dX4_memberAt_27 : decode cX4_memberAt 27 = .ok (.ireturn, 1) := by decide +kernel
theorem dX4_memberAt_28 : decode cX4_memberAt 28 = .ok (.iinc 3 1, 3) := by decide +kernel
theorem dX4_memberAt_31 : decode cX4_memberAt 31 = .ok (.goto (-29), 3) := by decide +kernel
theorem dX4_memberAt_34 : decode cX4_memberAt 34 = .ok (.iconst (-1), 1) := by decide +kernel
theorem dX4_memberAt_35 : decode cX4_memberAt 35 = .ok (.ireturn, 1) := by decide +kernel
theorem dX4_addMember_0 : decode cX4_addMember 0 = .ok (.aload_n 0, 1) := by decide +kernel
theorem dX4_addMember_1 : decode cX4_addMember 1 = .ok (.iconst 0, 1) := by decide +kernel
theorem dX4_addMember_2 : decode cX4_addMember 2 = .ok (.putfield 68, 3) := by decide +kernel
theorem dX4_addMember_5 : decode cX4_addMember 5 = .ok (.aload_n 0, 1) := by decide +kernel
theorem dX4_addMember_6 : decode cX4_addMember 6 = .ok (.iload_n 1, 1) := by decide +kernel
theorem dX4_addMember_7 : decode cX4_addMember 7 = .ok (.invokevirtual 93, 3) := by decide +kernel
theorem dX4_addMember_10 : decode cX4_addMember 10 = .ok (.ifCond .eq 11, 3) := by decide +kernel
theorem dX4_addMember_13 : decode cX4_addMember 13 = .ok (.aload_n 0, 1) := by decide +kernel
theorem dX4_addMember_14 : decode cX4_addMember 14 = .ok (.iload_n 2, 1) := by decide +kernel
theorem dX4_addMember_15 : decode cX4_addMember 15 = .ok (.invokevirtual 93, 3) := by decide +kernel
theorem dX4_addMember_18 : decode cX4_addMember 18 = .ok (.ifCond .ne 9, 3) := by decide +kernel
theorem dX4_addMember_21 : decode cX4_addMember 21 = .ok (.aload_n 0, 1) := by decide +kernel
theorem dX4_addMember_22 : decode cX4_addMember 22 = .ok (.iconst 1, 1) := by decide +kernel
theorem dX4_addMember_23 : decode cX4_addMember 23 = .ok (.invokevirtual 90, 3) := by decide +kernel
theorem dX4_addMember_26 : decode cX4_addMember 26 = .ok (.ireturn, 1) := by decide +kernel
theorem dX4_addMember_27 : decode cX4_addMember 27 = .ok (.iload_n 1, 1) := by decide +kernel
theorem dX4_addMember_28 : decode cX4_addMember 28 = .ok (.iload_n 2, 1) := by decide +kernel
theorem dX4_addMember_29 : decode cX4_addMember 29 = .ok (.if_icmp .eq 13, 3) := by decide +kernel
theorem dX4_addMember_32 : decode cX4_addMember 32 = .ok (.aload_n 0, 1) := by decide +kernel
theorem dX4_addMember_33 : decode cX4_addMember 33 = .ok (.iload_n 1, 1) := by decide +kernel
theorem dX4_addMember_34 : decode cX4_addMember 34 = .ok (.iload_n 2, 1) := by decide +kernel
theorem dX4_addMember_35 : decode cX4_addMember 35 = .ok (.invokevirtual 97, 3) := by decide +kernel
theorem dX4_addMember_38 : decode cX4_addMember 38 = .ok (.iconst (-1), 1) := by decide +kernel
theorem dX4_addMember_39 : decode cX4_addMember 39 = .ok (.if_icmp .eq 9, 3) := by decide +kernel
theorem dX4_addMember_42 : decode cX4_addMember 42 = .ok (.aload_n 0, 1) := by decide +kernel
theorem dX4_addMember_43 : decode cX4_addMember 43 = .ok (.iconst 2, 1) := by decide +kernel
theorem dX4_addMember_44 : decode cX4_addMember 44 = .ok (.invokevirtual 90, 3) := by decide +kernel
theorem dX4_addMember_47 : decode cX4_addMember 47 = .ok (.ireturn, 1) := by decide +kernel
theorem dX4_addMember_48 : decode cX4_addMember 48 = .ok (.aload_n 0, 1) := by decide +kernel
theorem dX4_addMember_49 : decode cX4_addMember 49 = .ok (.iload_n 1, 1) := by decide +kernel
theorem dX4_addMember_50 : decode cX4_addMember 50 = .ok (.invokevirtual 100, 3) := by decide +kernel
theorem dX4_addMember_53 : decode cX4_addMember 53 = .ok (.iload_n 2, 1) := by decide +kernel
theorem dX4_addMember_54 : decode cX4_addMember 54 = .ok (.ishr, 1) := by decide +kernel
theorem dX4_addMember_55 : decode cX4_addMember 55 = .ok (.iconst 1, 1) := by decide +kernel
theorem dX4_addMember_56 : decode cX4_addMember 56 = .ok (.iand, 1) := by decide +kernel
theorem dX4_addMember_57 : decode cX4_addMember 57 = .ok (.iconst 1, 1) := by decide +kernel
theorem dX4_addMember_58 : decode cX4_addMember 58 = .ok (.if_icmp .ne 9, 3) := by decide +kernel
theorem dX4_addMember_61 : decode cX4_addMember 61 = .ok (.aload_n 0, 1) := by decide +kernel
theorem dX4_addMember_62 : decode cX4_addMember 62 = .ok (.iconst 3, 1) := by decide +kernel
theorem dX4_addMember_63 : decode cX4_addMember 63 = .ok (.invokevirtual 90, 3) := by decide +kernel
theorem dX4_addMember_66 : decode cX4_addMember 66 = .ok (.ireturn, 1) := by decide +kernel
theorem dX4_addMember_67 : decode cX4_addMember 67 = .ok (.aload_n 0, 1) := by decide +kernel
theorem dX4_addMember_68 : decode cX4_addMember 68 = .ok (.getfield 19, 3) := by decide +kernel
theorem dX4_addMember_71 : decode cX4_addMember 71 = .ok (.iload_n 1, 1) := by decide +kernel
theorem dX4_addMember_72 : decode cX4_addMember 72 = .ok (.iaload, 1) := by decide +kernel
theorem dX4_addMember_73 : decode cX4_addMember 73 = .ok (.iconst 2, 1) := by decide +kernel
theorem dX4_addMember_74 : decode cX4_addMember 74 = .ok (.if_icmp .ne 9, 3) := by decide +kernel
theorem dX4_addMember_77 : decode cX4_addMember 77 = .ok (.aload_n 0, 1) := by decide +kernel
theorem dX4_addMember_78 : decode cX4_addMember 78 = .ok (.iconst 4, 1) := by decide +kernel
theorem dX4_addMember_79 : decode cX4_addMember 79 = .ok (.invokevirtual 90, 3) := by decide +kernel
theorem dX4_addMember_82 : decode cX4_addMember 82 = .ok (.ireturn, 1) := by decide +kernel
theorem dX4_addMember_83 : decode cX4_addMember 83 = .ok (.aload_n 0, 1) := by decide +kernel
theorem dX4_addMember_84 : decode cX4_addMember 84 = .ok (.getfield 22, 3) := by decide +kernel
theorem dX4_addMember_87 : decode cX4_addMember 87 = .ok (.iconst 2, 1) := by decide +kernel
theorem dX4_addMember_88 : decode cX4_addMember 88 = .ok (.iload_n 1, 1) := by decide +kernel
theorem dX4_addMember_89 : decode cX4_addMember 89 = .ok (.imul, 1) := by decide +kernel
theorem dX4_addMember_90 : decode cX4_addMember 90 = .ok (.aload_n 0, 1) := by decide +kernel
theorem dX4_addMember_91 : decode cX4_addMember 91 = .ok (.getfield 19, 3) := by decide +kernel
theorem dX4_addMember_94 : decode cX4_addMember 94 = .ok (.iload_n 1, 1) := by decide +kernel
theorem dX4_addMember_95 : decode cX4_addMember 95 = .ok (.iaload, 1) := by decide +kernel
theorem dX4_addMember_96 : decode cX4_addMember 96 = .ok (.iadd, 1) := by decide +kernel
theorem dX4_addMember_97 : decode cX4_addMember 97 = .ok (.iload_n 2, 1) := by decide +kernel
theorem dX4_addMember_98 : decode cX4_addMember 98 = .ok (.iastore, 1) := by decide +kernel
theorem dX4_addMember_99 : decode cX4_addMember 99 = .ok (.aload_n 0, 1) := by decide +kernel
theorem dX4_addMember_100 : decode cX4_addMember 100 = .ok (.getfield 19, 3) := by decide +kernel
theorem dX4_addMember_103 : decode cX4_addMember 103 = .ok (.iload_n 1, 1) := by decide +kernel
theorem dX4_addMember_104 : decode cX4_addMember 104 = .ok (.dup2, 1) := by decide +kernel
theorem dX4_addMember_105 : decode cX4_addMember 105 = .ok (.iaload, 1) := by decide +kernel
theorem dX4_addMember_106 : decode cX4_addMember 106 = .ok (.iconst 1, 1) := by decide +kernel
theorem dX4_addMember_107 : decode cX4_addMember 107 = .ok (.iadd, 1) := by decide +kernel
theorem dX4_addMember_108 : decode cX4_addMember 108 = .ok (.iastore, 1) := by decide +kernel
theorem dX4_addMember_109 : decode cX4_addMember 109 = .ok (.aload_n 0, 1) := by decide +kernel
theorem dX4_addMember_110 : decode cX4_addMember 110 = .ok (.getfield 19, 3) := by decide +kernel
theorem dX4_addMember_113 : decode cX4_addMember 113 = .ok (.iload_n 1, 1) := by decide +kernel
theorem dX4_addMember_114 : decode cX4_addMember 114 = .ok (.iaload, 1) := by decide +kernel
theorem dX4_addMember_115 : decode cX4_addMember 115 = .ok (.ireturn, 1) := by decide +kernel
theorem dX4_removeMember_0 : decode cX4_removeMember 0 = .ok (.aload_n 0, 1) := by decide +kernel
theorem dX4_removeMember_1 : decode cX4_removeMember 1 = .ok (.iconst 0, 1) := by decide +kernel
theorem dX4_removeMember_2 : decode cX4_removeMember 2 = .ok (.putfield 68, 3) := by decide +kernel
theorem dX4_removeMember_5 : decode cX4_removeMember 5 = .ok (.aload_n 0, 1) := by decide +kernel
theorem dX4_removeMember_6 : decode cX4_removeMember 6 = .ok (.iload_n 1, 1) := by decide +kernel
theorem dX4_removeMember_7 : decode cX4_removeMember 7 = .ok (.invokevirtual 93, 3) := by decide +kernel
theorem dX4_removeMember_10 : decode cX4_removeMember 10 = .ok (.ifCond .eq 11, 3) := by decide +kernel
theorem dX4_removeMember_13 : decode cX4_removeMember 13 = .ok (.aload_n 0, 1) := by decide +kernel
theorem dX4_removeMember_14 : decode cX4_removeMember 14 = .ok (.iload_n 2, 1) := by decide +kernel
theorem dX4_removeMember_15 : decode cX4_removeMember 15 = .ok (.invokevirtual 93, 3) := by decide +kernel
theorem dX4_removeMember_18 : decode cX4_removeMember 18 = .ok (.ifCond .ne 9, 3) := by decide +kernel
theorem dX4_removeMember_21 : decode cX4_removeMember 21 = .ok (.aload_n 0, 1) := by decide +kernel
theorem dX4_removeMember_22 : decode cX4_removeMember 22 = .ok (.iconst 1, 1) := by decide +kernel
theorem dX4_removeMember_23 : decode cX4_removeMember 23 = .ok (.invokevirtual 90, 3) := by decide +kernel
theorem dX4_removeMember_26 : decode cX4_removeMember 26 = .ok (.ireturn, 1) := by decide +kernel
theorem dX4_removeMember_27 : decode cX4_removeMember 27 = .ok (.aload_n 0, 1) := by decide +kernel
theorem dX4_removeMember_28 : decode cX4_removeMember 28 = .ok (.iload_n 1, 1) := by decide +kernel
theorem dX4_removeMember_29 : decode cX4_removeMember 29 = .ok (.iload_n 2, 1) := by decide +kernel
theorem dX4_removeMember_30 : decode cX4_removeMember 30 = .ok (.invokevirtual 97, 3) := by decide +kernel
theorem dX4_removeMember_33 : decode cX4_removeMember 33 = .ok (.istore_n 3, 1) := by decide +kernel
theorem dX4_removeMember_34 : decode cX4_removeMember 34 = .ok (.iload_n 3, 1) := by decide +kernel
theorem dX4_removeMember_35 : decode cX4_removeMember 35 = .ok (.iconst (-1), 1) := by decide +kernel
theorem dX4_removeMember_36 : decode cX4_removeMember 36 = .ok (.if_icmp .ne 9, 3) := by decide +kernel
theorem dX4_removeMember_39 : decode cX4_removeMember 39 = .ok (.aload_n 0, 1) := by decide +kernel
theorem dX4_removeMember_40 : decode cX4_removeMember 40 = .ok (.iconst 2, 1) := by decide +kernel
theorem dX4_removeMember_41 : decode cX4_removeMember 41 = .ok (.invokevirtual 90, 3) := by decide +kernel
theorem dX4_removeMember_44 : decode cX4_removeMember 44 = .ok (.ireturn, 1) := by decide +kernel
theorem dX4_removeMember_45 : decode cX4_removeMember 45 = .ok (.iload_n 3, 1) := by decide +kernel
theorem dX4_removeMember_46 : decode cX4_removeMember 46 = .ok (.ifCond .ne 21, 3) := by decide +kernel
theorem dX4_removeMember_49 : decode cX4_removeMember 49 = .ok (.aload_n 0, 1) := by decide +kernel
theorem dX4_removeMember_50 : decode cX4_removeMember 50 = .ok (.getfield 22, 3) := by decide +kernel
theorem dX4_removeMember_53 : decode cX4_removeMember 53 = .ok (.iconst 2, 1) := by decide +kernel
theorem dX4_removeMember_54 : decode cX4_removeMember 54 = .ok (.iload_n 1, 1) := by decide +kernel
theorem dX4_removeMember_55 : decode cX4_removeMember 55 = .ok (.imul, 1) := by decide +kernel
theorem dX4_removeMember_56 : decode cX4_removeMember 56 = .ok (.aload_n 0, 1) := by decide +kernel
theorem dX4_removeMember_57 : decode cX4_removeMember 57 = .ok (.getfield 22, 3) := by decide +kernel
theorem dX4_removeMember_60 : decode cX4_removeMember 60 = .ok (.iconst 2, 1) := by decide +kernel
theorem dX4_removeMember_61 : decode cX4_removeMember 61 = .ok (.iload_n 1, 1) := by decide +kernel
theorem dX4_removeMember_62 : decode cX4_removeMember 62 = .ok (.imul, 1) := by decide +kernel
theorem dX4_removeMember_63 : decode cX4_removeMember 63 = .ok (.iconst 1, 1) := by decide +kernel
theorem dX4_removeMember_64 : decode cX4_removeMember 64 = .ok (.iadd, 1) := by decide +kernel
theorem dX4_removeMember_65 : decode cX4_removeMember 65 = .ok (.iaload, 1) := by decide +kernel
theorem dX4_removeMember_66 : decode cX4_removeMember 66 = .ok (.iastore, 1) := by decide +kernel
theorem dX4_removeMember_67 : decode cX4_removeMember 67 = .ok (.aload_n 0, 1) := by decide +kernel
theorem dX4_removeMember_68 : decode cX4_removeMember 68 = .ok (.getfield 19, 3) := by decide +kernel
theorem dX4_removeMember_71 : decode cX4_removeMember 71 = .ok (.iload_n 1, 1) := by decide +kernel
theorem dX4_removeMember_72 : decode cX4_removeMember 72 = .ok (.dup2, 1) := by decide +kernel
theorem dX4_removeMember_73 : decode cX4_removeMember 73 = .ok (.iaload, 1) := by decide +kernel
theorem dX4_removeMember_74 : decode cX4_removeMember 74 = .ok (.iconst 1, 1) := by decide +kernel
theorem dX4_removeMember_75 : decode cX4_removeMember 75 = .ok (.isub, 1) := by decide +kernel
theorem dX4_removeMember_76 : decode cX4_removeMember 76 = .ok (.iastore, 1) := by decide +kernel
theorem dX4_removeMember_77 : decode cX4_removeMember 77 = .ok (.aload_n 0, 1) := by decide +kernel
theorem dX4_removeMember_78 : decode cX4_removeMember 78 = .ok (.getfield 19, 3) := by decide +kernel
theorem dX4_removeMember_81 : decode cX4_removeMember 81 = .ok (.iload_n 1, 1) := by decide +kernel
theorem dX4_removeMember_82 : decode cX4_removeMember 82 = .ok (.iaload, 1) := by decide +kernel
theorem dX4_removeMember_83 : decode cX4_removeMember 83 = .ok (.ireturn, 1) := by decide +kernel
theorem dX4_values_0 : decode cX4_values 0 = .ok (.aload_n 0, 1) := by decide +kernel
theorem dX4_values_1 : decode cX4_values 1 = .ok (.iconst 0, 1) := by decide +kernel
theorem dX4_values_2 : decode cX4_values 2 = .ok (.putfield 68, 3) := by decide +kernel
theorem dX4_values_5 : decode cX4_values 5 = .ok (.aload_n 0, 1) := by decide +kernel
theorem dX4_values_6 : decode cX4_values 6 = .ok (.iload_n 1, 1) := by decide +kernel
theorem dX4_values_7 : decode cX4_values 7 = .ok (.invokevirtual 93, 3) := by decide +kernel
theorem dX4_values_10 : decode cX4_values 10 = .ok (.ifCond .ne 9, 3) := by decide +kernel
theorem dX4_values_13 : decode cX4_values 13 = .ok (.aload_n 0, 1) := by decide +kernel
theorem dX4_values_14 : decode cX4_values 14 = .ok (.iconst 1, 1) := by decide +kernel
theorem dX4_values_15 : decode cX4_values 15 = .ok (.invokevirtual 90, 3) := by decide +kernel
theorem dX4_values_18 : decode cX4_values 18 = .ok (.ireturn, 1) := by decide +kernel
theorem dX4_values_19 : decode cX4_values 19 = .ok (.aload_n 0, 1) := by decide +kernel
theorem dX4_values_20 : decode cX4_values 20 = .ok (.iconst (-1), 1) := by decide +kernel
theorem dX4_values_21 : decode cX4_values 21 = .ok (.iconst 0, 1) := by decide +kernel
theorem dX4_values_22 : decode cX4_values 22 = .ok (.invokevirtual 103, 3) := by decide +kernel
theorem dX4_values_25 : decode cX4_values 25 = .ok (.aload_n 0, 1) := by decide +kernel
theorem dX4_values_26 : decode cX4_values 26 = .ok (.getfield 59, 3) := by decide +kernel
theorem dX4_values_29 : decode cX4_values 29 = .ok (.iload_n 1, 1) := by decide +kernel
theorem dX4_values_30 : decode cX4_values 30 = .ok (.iaload, 1) := by decide +kernel
theorem dX4_values_31 : decode cX4_values 31 = .ok (.invokestatic 107, 3) := by decide +kernel
theorem dX4_values_34 : decode cX4_values 34 = .ok (.ireturn, 1) := by decide +kernel
theorem dX4_hasValue_0 : decode cX4_hasValue 0 = .ok (.aload_n 0, 1) := by decide +kernel
theorem dX4_hasValue_1 : decode cX4_hasValue 1 = .ok (.aload_n 0, 1) := by decide +kernel
theorem dX4_hasValue_2 : decode cX4_hasValue 2 = .ok (.iload_n 1, 1) := by decide +kernel
theorem dX4_hasValue_3 : decode cX4_hasValue 3 = .ok (.invokevirtual 93, 3) := by decide +kernel
theorem dX4_hasValue_6 : decode cX4_hasValue 6 = .ok (.ifCond .ne 7, 3) := by decide +kernel
theorem dX4_hasValue_9 : decode cX4_hasValue 9 = .ok (.iconst 1, 1) := by decide +kernel
theorem dX4_hasValue_10 : decode cX4_hasValue 10 = .ok (.goto 18, 3) := by decide +kernel
theorem dX4_hasValue_13 : decode cX4_hasValue 13 = .ok (.iload_n 2, 1) := by decide +kernel
theorem dX4_hasValue_14 : decode cX4_hasValue 14 = .ok (.iconst 0, 1) := by decide +kernel
theorem dX4_hasValue_15 : decode cX4_hasValue 15 = .ok (.bipush 31, 2) := by decide +kernel
theorem dX4_hasValue_17 : decode cX4_hasValue 17 = .ok (.invokestatic 75, 3) := by decide +kernel
theorem dX4_hasValue_20 : decode cX4_hasValue 20 = .ok (.ifCond .ne 7, 3) := by decide +kernel
theorem dX4_hasValue_23 : decode cX4_hasValue 23 = .ok (.iconst 2, 1) := by decide +kernel
theorem dX4_hasValue_24 : decode cX4_hasValue 24 = .ok (.goto 4, 3) := by decide +kernel
theorem dX4_hasValue_27 : decode cX4_hasValue 27 = .ok (.iconst 0, 1) := by decide +kernel
theorem dX4_hasValue_28 : decode cX4_hasValue 28 = .ok (.putfield 68, 3) := by decide +kernel
theorem dX4_hasValue_31 : decode cX4_hasValue 31 = .ok (.aload_n 0, 1) := by decide +kernel
theorem dX4_hasValue_32 : decode cX4_hasValue 32 = .ok (.getfield 68, 3) := by decide +kernel
theorem dX4_hasValue_35 : decode cX4_hasValue 35 = .ok (.ifCond .le 5, 3) := by decide +kernel
theorem dX4_hasValue_38 : decode cX4_hasValue 38 = .ok (.iconst 0, 1) := by decide +kernel
theorem dX4_hasValue_39 : decode cX4_hasValue 39 = .ok (.ireturn, 1) := by decide +kernel
theorem dX4_hasValue_40 : decode cX4_hasValue 40 = .ok (.aload_n 0, 1) := by decide +kernel
theorem dX4_hasValue_41 : decode cX4_hasValue 41 = .ok (.iconst (-1), 1) := by decide +kernel
theorem dX4_hasValue_42 : decode cX4_hasValue 42 = .ok (.iconst 0, 1) := by decide +kernel
theorem dX4_hasValue_43 : decode cX4_hasValue 43 = .ok (.invokevirtual 103, 3) := by decide +kernel
theorem dX4_hasValue_46 : decode cX4_hasValue 46 = .ok (.aload_n 0, 1) := by decide +kernel
theorem dX4_hasValue_47 : decode cX4_hasValue 47 = .ok (.getfield 59, 3) := by decide +kernel
theorem dX4_hasValue_50 : decode cX4_hasValue 50 = .ok (.iload_n 1, 1) := by decide +kernel
theorem dX4_hasValue_51 : decode cX4_hasValue 51 = .ok (.iaload, 1) := by decide +kernel
theorem dX4_hasValue_52 : decode cX4_hasValue 52 = .ok (.iload_n 2, 1) := by decide +kernel
theorem dX4_hasValue_53 : decode cX4_hasValue 53 = .ok (.ishr, 1) := by decide +kernel
theorem dX4_hasValue_54 : decode cX4_hasValue 54 = .ok (.iconst 1, 1) := by decide +kernel
theorem dX4_hasValue_55 : decode cX4_hasValue 55 = .ok (.iand, 1) := by decide +kernel
theorem dX4_hasValue_56 : decode cX4_hasValue 56 = .ok (.iconst 1, 1) := by decide +kernel
theorem dX4_hasValue_57 : decode cX4_hasValue 57 = .ok (.if_icmp .ne 7, 3) := by decide +kernel
theorem dX4_hasValue_60 : decode cX4_hasValue 60 = .ok (.iconst 1, 1) := by decide +kernel
theorem dX4_hasValue_61 : decode cX4_hasValue 61 = .ok (.goto 4, 3) := by decide +kernel
theorem dX4_hasValue_64 : decode cX4_hasValue 64 = .ok (.iconst 0, 1) := by decide +kernel
theorem dX4_hasValue_65 : decode cX4_hasValue 65 = .ok (.ireturn, 1) := by decide +kernel
theorem dX4_users_0 : decode cX4_users 0 = .ok (.aload_n 0, 1) := by decide +kernel
theorem dX4_users_1 : decode cX4_users 1 = .ok (.iconst 0, 1) := by decide +kernel
theorem dX4_users_2 : decode cX4_users 2 = .ok (.putfield 68, 3) := by decide +kernel
theorem dX4_users_5 : decode cX4_users 5 = .ok (.aload_n 0, 1) := by decide +kernel
theorem dX4_users_6 : decode cX4_users 6 = .ok (.iload_n 1, 1) := by decide +kernel
theorem dX4_users_7 : decode cX4_users 7 = .ok (.invokevirtual 93, 3) := by decide +kernel
theorem dX4_users_10 : decode cX4_users 10 = .ok (.ifCond .ne 9, 3) := by decide +kernel
theorem dX4_users_13 : decode cX4_users 13 = .ok (.aload_n 0, 1) := by decide +kernel
theorem dX4_users_14 : decode cX4_users 14 = .ok (.iconst 1, 1) := by decide +kernel
theorem dX4_users_15 : decode cX4_users 15 = .ok (.invokevirtual 90, 3) := by decide +kernel
theorem dX4_users_18 : decode cX4_users 18 = .ok (.ireturn, 1) := by decide +kernel
theorem dX4_users_19 : decode cX4_users 19 = .ok (.aload_n 0, 1) := by decide +kernel
theorem dX4_users_20 : decode cX4_users 20 = .ok (.iload_n 1, 1) := by decide +kernel
theorem dX4_users_21 : decode cX4_users 21 = .ok (.invokevirtual 100, 3) := by decide +kernel
theorem dX4_users_24 : decode cX4_users 24 = .ok (.istore_n 2, 1) := by decide +kernel
theorem dX4_users_25 : decode cX4_users 25 = .ok (.iconst 0, 1) := by decide +kernel
theorem dX4_users_26 : decode cX4_users 26 = .ok (.istore_n 3, 1) := by decide +kernel
theorem dX4_users_27 : decode cX4_users 27 = .ok (.iconst 0, 1) := by decide +kernel
theorem dX4_users_28 : decode cX4_users 28 = .ok (.istore 4, 2) := by decide +kernel
theorem dX4_users_30 : decode cX4_users 30 = .ok (.iload 4, 2) := by decide +kernel
theorem dX4_users_32 : decode cX4_users 32 = .ok (.aload_n 0, 1) := by decide +kernel
theorem dX4_users_33 : decode cX4_users 33 = .ok (.getfield 79, 3) := by decide +kernel
theorem dX4_users_36 : decode cX4_users 36 = .ok (.if_icmp .ge 87, 3) := by decide +kernel
theorem dX4_users_39 : decode cX4_users 39 = .ok (.iconst 0, 1) := by decide +kernel
theorem dX4_users_40 : decode cX4_users 40 = .ok (.istore 5, 2) := by decide +kernel
theorem dX4_users_42 : decode cX4_users 42 = .ok (.iconst 0, 1) := by decide +kernel
theorem dX4_users_43 : decode cX4_users 43 = .ok (.istore 6, 2) := by decide +kernel
theorem dX4_users_45 : decode cX4_users 45 = .ok (.iload 6, 2) := by decide +kernel
theorem dX4_users_47 : decode cX4_users 47 = .ok (.iconst 3, 1) := by decide +kernel
theorem dX4_users_48 : decode cX4_users 48 = .ok (.if_icmp .ge 56, 3) := by decide +kernel
theorem dX4_users_51 : decode cX4_users 51 = .ok (.aload_n 0, 1) := by decide +kernel
theorem dX4_users_52 : decode cX4_users 52 = .ok (.getfield 38, 3) := by decide +kernel
theorem dX4_users_55 : decode cX4_users 55 = .ok (.iconst 3, 1) := by decide +kernel
theorem dX4_users_56 : decode cX4_users 56 = .ok (.aload_n 0, 1) := by decide +kernel
theorem dX4_users_57 : decode cX4_users 57 = .ok (.getfield 25, 3) := by decide +kernel
theorem dX4_users_60 : decode cX4_users 60 = .ok (.iload 4, 2) := by decide +kernel
theorem dX4_users_62 : decode cX4_users 62 = .ok (.iaload, 1) := by decide +kernel
theorem dX4_users_63 : decode cX4_users 63 = .ok (.imul, 1) := by decide +kernel
theorem dX4_users_64 : decode cX4_users 64 = .ok (.iload 6, 2) := by decide +kernel
theorem dX4_users_66 : decode cX4_users 66 = .ok (.iadd, 1) := by decide +kernel
theorem dX4_users_67 : decode cX4_users 67 = .ok (.iaload, 1) := by decide +kernel
theorem dX4_users_68 : decode cX4_users 68 = .ok (.istore 7, 2) := by decide +kernel
theorem dX4_users_70 : decode cX4_users 70 = .ok (.iload 5, 2) := by decide +kernel
theorem dX4_users_72 : decode cX4_users 72 = .ok (.ifCond .ne 19, 3) := by decide +kernel
theorem dX4_users_75 : decode cX4_users 75 = .ok (.iload 7, 2) := by decide +kernel
theorem dX4_users_77 : decode cX4_users 77 = .ok (.iconst (-1), 1) := by decide +kernel
theorem dX4_users_78 : decode cX4_users 78 = .ok (.if_icmp .eq 17, 3) := by decide +kernel
theorem dX4_users_81 : decode cX4_users 81 = .ok (.iload_n 2, 1) := by decide +kernel
theorem dX4_users_82 : decode cX4_users 82 = .ok (.iload 7, 2) := by decide +kernel
theorem dX4_users_84 : decode cX4_users 84 = .ok (.ishr, 1) := by decide +kernel
theorem dX4_users_85 : decode cX4_users 85 = .ok (.iconst 1, 1) := by decide +kernel
theorem dX4_users_86 : decode cX4_users 86 = .ok (.iand, 1) := by decide +kernel
theorem dX4_users_87 : decode cX4_users 87 = .ok (.iconst 1, 1) := by decide +kernel
theorem dX4_users_88 : decode cX4_users 88 = .ok (.if_icmp .ne 7, 3) := by decide +kernel
theorem dX4_users_91 : decode cX4_users 91 = .ok (.iconst 1, 1) := by decide +kernel
theorem dX4_users_92 : decode cX4_users 92 = .ok (.goto 4, 3) := by decide +kernel
theorem dX4_users_95 : decode cX4_users 95 = .ok (.iconst 0, 1) := by decide +kernel
theorem dX4_users_96 : decode cX4_users 96 = .ok (.istore 5, 2) := by decide +kernel
theorem dX4_users_98 : decode cX4_users 98 = .ok (.iinc 6 1, 3) := by decide +kernel
theorem dX4_users_101 : decode cX4_users 101 = .ok (.goto (-56), 3) := by decide +kernel
theorem dX4_users_104 : decode cX4_users 104 = .ok (.iload_n 3, 1) := by decide +kernel
theorem dX4_users_105 : decode cX4_users 105 = .ok (.iload 5, 2) := by decide +kernel
theorem dX4_users_107 : decode cX4_users 107 = .ok (.ifCond .eq 7, 3) := by decide +kernel
theorem dX4_users_110 : decode cX4_users 110 = .ok (.iconst 1, 1) := by decide +kernel
theorem dX4_users_111 : decode cX4_users 111 = .ok (.goto 4, 3) := by decide +kernel
theorem dX4_users_114 : decode cX4_users 114 = .ok (.iconst 0, 1) := by decide +kernel
theorem dX4_users_115 : decode cX4_users 115 = .ok (.iadd, 1) := by decide +kernel
theorem dX4_users_116 : decode cX4_users 116 = .ok (.istore_n 3, 1) := by decide +kernel
theorem dX4_users_117 : decode cX4_users 117 = .ok (.iinc 4 1, 3) := by decide +kernel
theorem dX4_users_120 : decode cX4_users 120 = .ok (.goto (-90), 3) := by decide +kernel
theorem dX4_users_123 : decode cX4_users 123 = .ok (.iload_n 3, 1) := by decide +kernel
theorem dX4_users_124 : decode cX4_users 124 = .ok (.ireturn, 1) := by decide +kernel
theorem dX4_isOn_0 : decode cX4_isOn 0 = .ok (.aload_n 0, 1) := by decide +kernel
theorem dX4_isOn_1 : decode cX4_isOn 1 = .ok (.getfield 44, 3) := by decide +kernel
theorem dX4_isOn_4 : decode cX4_isOn 4 = .ok (.iload_n 1, 1) := by decide +kernel
theorem dX4_isOn_5 : decode cX4_isOn 5 = .ok (.iaload, 1) := by decide +kernel
theorem dX4_isOn_6 : decode cX4_isOn 6 = .ok (.iconst (-1), 1) := by decide +kernel
theorem dX4_isOn_7 : decode cX4_isOn 7 = .ok (.if_icmp .eq 16, 3) := by decide +kernel
theorem dX4_isOn_10 : decode cX4_isOn 10 = .ok (.aload_n 0, 1) := by decide +kernel
theorem dX4_isOn_11 : decode cX4_isOn 11 = .ok (.getfield 110, 3) := by decide +kernel
theorem dX4_isOn_14 : decode cX4_isOn 14 = .ok (.aload_n 0, 1) := by decide +kernel
theorem dX4_isOn_15 : decode cX4_isOn 15 = .ok (.getfield 44, 3) := by decide +kernel
theorem dX4_isOn_18 : decode cX4_isOn 18 = .ok (.iload_n 1, 1) := by decide +kernel
theorem dX4_isOn_19 : decode cX4_isOn 19 = .ok (.iaload, 1) := by decide +kernel
theorem dX4_isOn_20 : decode cX4_isOn 20 = .ok (.if_icmp .gt 7, 3) := by decide +kernel
theorem dX4_isOn_23 : decode cX4_isOn 23 = .ok (.iconst 1, 1) := by decide +kernel
theorem dX4_isOn_24 : decode cX4_isOn 24 = .ok (.goto 4, 3) := by decide +kernel
theorem dX4_isOn_27 : decode cX4_isOn 27 = .ok (.iconst 0, 1) := by decide +kernel
theorem dX4_isOn_28 : decode cX4_isOn 28 = .ok (.ireturn, 1) := by decide +kernel
theorem dX4_setOf_0 : decode cX4_setOf 0 = .ok (.aload_n 0, 1) := by decide +kernel
theorem dX4_setOf_1 : decode cX4_setOf 1 = .ok (.getfield 38, 3) := by decide +kernel
theorem dX4_setOf_4 : decode cX4_setOf 4 = .ok (.iconst 3, 1) := by decide +kernel
theorem dX4_setOf_5 : decode cX4_setOf 5 = .ok (.iload_n 1, 1) := by decide +kernel
theorem dX4_setOf_6 : decode cX4_setOf 6 = .ok (.imul, 1) := by decide +kernel
theorem dX4_setOf_7 : decode cX4_setOf 7 = .ok (.iload_n 2, 1) := by decide +kernel
theorem dX4_setOf_8 : decode cX4_setOf 8 = .ok (.iadd, 1) := by decide +kernel
theorem dX4_setOf_9 : decode cX4_setOf 9 = .ok (.iaload, 1) := by decide +kernel
theorem dX4_setOf_10 : decode cX4_setOf 10 = .ok (.istore_n 3, 1) := by decide +kernel
theorem dX4_setOf_11 : decode cX4_setOf 11 = .ok (.iload_n 3, 1) := by decide +kernel
theorem dX4_setOf_12 : decode cX4_setOf 12 = .ok (.iconst (-1), 1) := by decide +kernel
theorem dX4_setOf_13 : decode cX4_setOf 13 = .ok (.if_icmp .ne 7, 3) := by decide +kernel
theorem dX4_setOf_16 : decode cX4_setOf 16 = .ok (.iconst (-1), 1) := by decide +kernel
theorem dX4_setOf_17 : decode cX4_setOf 17 = .ok (.goto 9, 3) := by decide +kernel
theorem dX4_setOf_20 : decode cX4_setOf 20 = .ok (.aload_n 0, 1) := by decide +kernel
theorem dX4_setOf_21 : decode cX4_setOf 21 = .ok (.getfield 59, 3) := by decide +kernel
theorem dX4_setOf_24 : decode cX4_setOf 24 = .ok (.iload_n 3, 1) := by decide +kernel
theorem dX4_setOf_25 : decode cX4_setOf 25 = .ok (.iaload, 1) := by decide +kernel
theorem dX4_setOf_26 : decode cX4_setOf 26 = .ok (.ireturn, 1) := by decide +kernel
theorem dX4_lays_0 : decode cX4_lays 0 = .ok (.bipush 97, 2) := by decide +kernel
theorem dX4_lays_2 : decode cX4_lays 2 = .ok (.iload_n 1, 1) := by decide +kernel
theorem dX4_lays_3 : decode cX4_lays 3 = .ok (.imul, 1) := by decide +kernel
theorem dX4_lays_4 : decode cX4_lays 4 = .ok (.istore 4, 2) := by decide +kernel
theorem dX4_lays_6 : decode cX4_lays 6 = .ok (.iconst 0, 1) := by decide +kernel
theorem dX4_lays_7 : decode cX4_lays 7 = .ok (.istore 5, 2) := by decide +kernel
theorem dX4_lays_9 : decode cX4_lays 9 = .ok (.iload 5, 2) := by decide +kernel
theorem dX4_lays_11 : decode cX4_lays 11 = .ok (.bipush 97, 2) := by decide +kernel
theorem dX4_lays_13 : decode cX4_lays 13 = .ok (.if_icmp .ge 20, 3) := by decide +kernel
theorem dX4_lays_16 : decode cX4_lays 16 = .ok (.aload_n 0, 1) := by decide +kernel
theorem dX4_lays_17 : decode cX4_lays 17 = .ok (.getfield 62, 3) := by decide +kernel
theorem dX4_lays_20 : decode cX4_lays 20 = .ok (.iload 4, 2) := by decide +kernel
theorem dX4_lays_22 : decode cX4_lays 22 = .ok (.iload 5, 2) := by decide +kernel
theorem dX4_lays_24 : decode cX4_lays 24 = .ok (.iadd, 1) := by decide +kernel
theorem dX4_lays_25 : decode cX4_lays 25 = .ok (.iconst 0, 1) := by decide +kernel
theorem dX4_lays_26 : decode cX4_lays 26 = .ok (.iastore, 1) := by decide +kernel
theorem dX4_lays_27 : decode cX4_lays 27 = .ok (.iinc 5 1, 3) := by decide +kernel
theorem dX4_lays_30 : decode cX4_lays 30 = .ok (.goto (-21), 3) := by decide +kernel
theorem dX4_lays_33 : decode cX4_lays 33 = .ok (.iconst 0, 1) := by decide +kernel
theorem dX4_lays_34 : decode cX4_lays 34 = .ok (.istore 5, 2) := by decide +kernel
theorem dX4_lays_36 : decode cX4_lays 36 = .ok (.iload 5, 2) := by decide +kernel
theorem dX4_lays_38 : decode cX4_lays 38 = .ok (.iload_n 3, 1) := by decide +kernel
theorem dX4_lays_39 : decode cX4_lays 39 = .ok (.if_icmp .ge 106, 3) := by decide +kernel
theorem dX4_lays_42 : decode cX4_lays 42 = .ok (.aload_n 2, 1) := by decide +kernel
theorem dX4_lays_43 : decode cX4_lays 43 = .ok (.iload 5, 2) := by decide +kernel
theorem dX4_lays_45 : decode cX4_lays 45 = .ok (.iaload, 1) := by decide +kernel
theorem dX4_lays_46 : decode cX4_lays 46 = .ok (.istore 6, 2) := by decide +kernel
theorem dX4_lays_48 : decode cX4_lays 48 = .ok (.aload_n 0, 1) := by decide +kernel
theorem dX4_lays_49 : decode cX4_lays 49 = .ok (.iload 6, 2) := by decide +kernel
theorem dX4_lays_51 : decode cX4_lays 51 = .ok (.invokevirtual 113, 3) := by decide +kernel
theorem dX4_lays_54 : decode cX4_lays 54 = .ok (.ifCond .eq 85, 3) := by decide +kernel
theorem dX4_lays_57 : decode cX4_lays 57 = .ok (.aload_n 0, 1) := by decide +kernel
theorem dX4_lays_58 : decode cX4_lays 58 = .ok (.getfield 62, 3) := by decide +kernel
theorem dX4_lays_61 : decode cX4_lays 61 = .ok (.iload 4, 2) := by decide +kernel
theorem dX4_lays_63 : decode cX4_lays 63 = .ok (.bipush 96, 2) := by decide +kernel
theorem dX4_lays_65 : decode cX4_lays 65 = .ok (.iadd, 1) := by decide +kernel
theorem dX4_lays_66 : decode cX4_lays 66 = .ok (.dup2, 1) := by decide +kernel
theorem dX4_lays_67 : decode cX4_lays 67 = .ok (.iaload, 1) := by decide +kernel
theorem dX4_lays_68 : decode cX4_lays 68 = .ok (.aload_n 0, 1) := by decide +kernel
theorem dX4_lays_69 : decode cX4_lays 69 = .ok (.getfield 35, 3) := by decide +kernel
theorem dX4_lays_72 : decode cX4_lays 72 = .ok (.iload 6, 2) := by decide +kernel
theorem dX4_lays_74 : decode cX4_lays 74 = .ok (.baload, 1) := by decide +kernel
theorem dX4_lays_75 : decode cX4_lays 75 = .ok (.ifCond .eq 10, 3) := by decide +kernel
theorem dX4_lays_78 : decode cX4_lays 78 = .ok (.iconst 1, 1) := by decide +kernel
theorem dX4_lays_79 : decode cX4_lays 79 = .ok (.iload 5, 2) := by decide +kernel
theorem dX4_lays_81 : decode cX4_lays 81 = .ok (.ishl, 1) := by decide +kernel
theorem dX4_lays_82 : decode cX4_lays 82 = .ok (.goto 4, 3) := by decide +kernel
theorem dX4_lays_85 : decode cX4_lays 85 = .ok (.iconst 0, 1) := by decide +kernel
theorem dX4_lays_86 : decode cX4_lays 86 = .ok (.ior, 1) := by decide +kernel
theorem dX4_lays_87 : decode cX4_lays 87 = .ok (.iastore, 1) := by decide +kernel
theorem dX4_lays_88 : decode cX4_lays 88 = .ok (.iconst 0, 1) := by decide +kernel
theorem dX4_lays_89 : decode cX4_lays 89 = .ok (.istore 7, 2) := by decide +kernel
theorem dX4_lays_91 : decode cX4_lays 91 = .ok (.iload 7, 2) := by decide +kernel
theorem dX4_lays_93 : decode cX4_lays 93 = .ok (.bipush 96, 2) := by decide +kernel
theorem dX4_lays_95 : decode cX4_lays 95 = .ok (.if_icmp .ge 44, 3) := by decide +kernel
theorem dX4_lays_98 : decode cX4_lays 98 = .ok (.aload_n 0, 1) := by decide +kernel
theorem dX4_lays_99 : decode cX4_lays 99 = .ok (.getfield 62, 3) := by decide +kernel
theorem dX4_lays_102 : decode cX4_lays 102 = .ok (.iload 4, 2) := by decide +kernel
theorem dX4_lays_104 : decode cX4_lays 104 = .ok (.iload 7, 2) := by decide +kernel
theorem dX4_lays_106 : decode cX4_lays 106 = .ok (.iadd, 1) := by decide +kernel
theorem dX4_lays_107 : decode cX4_lays 107 = .ok (.dup2, 1) := by decide +kernel
theorem dX4_lays_108 : decode cX4_lays 108 = .ok (.iaload, 1) := by decide +kernel
theorem dX4_lays_109 : decode cX4_lays 109 = .ok (.aload_n 0, 1) := by decide +kernel
theorem dX4_lays_110 : decode cX4_lays 110 = .ok (.iload 6, 2) := by decide +kernel
theorem dX4_lays_112 : decode cX4_lays 112 = .ok (.iload 7, 2) := by decide +kernel
theorem dX4_lays_114 : decode cX4_lays 114 = .ok (.bipush 32, 2) := by decide +kernel
theorem dX4_lays_116 : decode cX4_lays 116 = .ok (.idiv, 1) := by decide +kernel
theorem dX4_lays_117 : decode cX4_lays 117 = .ok (.invokevirtual 116, 3) := by decide +kernel
theorem dX4_lays_120 : decode cX4_lays 120 = .ok (.iload 7, 2) := by decide +kernel
theorem dX4_lays_122 : decode cX4_lays 122 = .ok (.bipush 32, 2) := by decide +kernel
theorem dX4_lays_124 : decode cX4_lays 124 = .ok (.irem, 1) := by decide +kernel
theorem dX4_lays_125 : decode cX4_lays 125 = .ok (.ishr, 1) := by decide +kernel
theorem dX4_lays_126 : decode cX4_lays 126 = .ok (.iconst 1, 1) := by decide +kernel
theorem dX4_lays_127 : decode cX4_lays 127 = .ok (.iand, 1) := by decide +kernel
theorem dX4_lays_128 : decode cX4_lays 128 = .ok (.iload 5, 2) := by decide +kernel
theorem dX4_lays_130 : decode cX4_lays 130 = .ok (.ishl, 1) := by decide +kernel
theorem dX4_lays_131 : decode cX4_lays 131 = .ok (.ior, 1) := by decide +kernel
theorem dX4_lays_132 : decode cX4_lays 132 = .ok (.iastore, 1) := by decide +kernel
theorem dX4_lays_133 : decode cX4_lays 133 = .ok (.iinc 7 1, 3) := by decide +kernel
theorem dX4_lays_136 : decode cX4_lays 136 = .ok (.goto (-45), 3) := by decide +kernel
theorem dX4_lays_139 : decode cX4_lays 139 = .ok (.iinc 5 1, 3) := by decide +kernel
theorem dX4_lays_142 : decode cX4_lays 142 = .ok (.goto (-106), 3) := by decide +kernel
theorem dX4_lays_145 : decode cX4_lays 145 = .ok (.return_, 1) := by decide +kernel
theorem dX4_first_0 : decode cX4_first 0 = .ok (.iload_n 0, 1) := by decide +kernel
theorem dX4_first_1 : decode cX4_first 1 = .ok (.iload_n 0, 1) := by decide +kernel
theorem dX4_first_2 : decode cX4_first 2 = .ok (.ineg, 1) := by decide +kernel
theorem dX4_first_3 : decode cX4_first 3 = .ok (.iand, 1) := by decide +kernel
theorem dX4_first_4 : decode cX4_first 4 = .ok (.ireturn, 1) := by decide +kernel
theorem dX4_laysNow_0 : decode cX4_laysNow 0 = .ok (.aload_n 0, 1) := by decide +kernel
theorem dX4_laysNow_1 : decode cX4_laysNow 1 = .ok (.iconst (-1), 1) := by decide +kernel
theorem dX4_laysNow_2 : decode cX4_laysNow 2 = .ok (.iconst 0, 1) := by decide +kernel
theorem dX4_laysNow_3 : decode cX4_laysNow 3 = .ok (.invokevirtual 103, 3) := by decide +kernel
theorem dX4_laysNow_6 : decode cX4_laysNow 6 = .ok (.aload_n 0, 1) := by decide +kernel
theorem dX4_laysNow_7 : decode cX4_laysNow 7 = .ok (.iconst 0, 1) := by decide +kernel
theorem dX4_laysNow_8 : decode cX4_laysNow 8 = .ok (.aload_n 0, 1) := by decide +kernel
theorem dX4_laysNow_9 : decode cX4_laysNow 9 = .ok (.getfield 25, 3) := by decide +kernel
theorem dX4_laysNow_12 : decode cX4_laysNow 12 = .ok (.aload_n 0, 1) := by decide +kernel
theorem dX4_laysNow_13 : decode cX4_laysNow 13 = .ok (.getfield 79, 3) := by decide +kernel
theorem dX4_laysNow_16 : decode cX4_laysNow 16 = .ok (.invokevirtual 119, 3) := by decide +kernel
theorem dX4_laysNow_19 : decode cX4_laysNow 19 = .ok (.iconst 0, 1) := by decide +kernel
theorem dX4_laysNow_20 : decode cX4_laysNow 20 = .ok (.ireturn, 1) := by decide +kernel
theorem dX4_unlike_0 : decode cX4_unlike 0 = .ok (.iconst 0, 1) := by decide +kernel
theorem dX4_unlike_1 : decode cX4_unlike 1 = .ok (.istore_n 1, 1) := by decide +kernel
theorem dX4_unlike_2 : decode cX4_unlike 2 = .ok (.iconst 0, 1) := by decide +kernel
theorem dX4_unlike_3 : decode cX4_unlike 3 = .ok (.istore_n 2, 1) := by decide +kernel
theorem dX4_unlike_4 : decode cX4_unlike 4 = .ok (.iload_n 2, 1) := by decide +kernel
theorem dX4_unlike_5 : decode cX4_unlike 5 = .ok (.ldc 123, 2) := by decide +kernel
theorem dX4_unlike_7 : decode cX4_unlike 7 = .ok (.if_icmp .ge 152, 3) := by decide +kernel
theorem dX4_unlike_10 : decode cX4_unlike 10 = .ok (.aload_n 0, 1) := by decide +kernel
theorem dX4_unlike_11 : decode cX4_unlike 11 = .ok (.getfield 62, 3) := by decide +kernel
theorem dX4_unlike_14 : decode cX4_unlike 14 = .ok (.iload_n 2, 1) := by decide +kernel
theorem dX4_unlike_15 : decode cX4_unlike 15 = .ok (.sipush 1024, 3) := by decide +kernel
theorem dX4_unlike_18 : decode cX4_unlike 18 = .ok (.idiv, 1) := by decide +kernel
theorem dX4_unlike_19 : decode cX4_unlike 19 = .ok (.iaload, 1) := by decide +kernel
theorem dX4_unlike_20 : decode cX4_unlike 20 = .ok (.aload_n 0, 1) := by decide +kernel
theorem dX4_unlike_21 : decode cX4_unlike 21 = .ok (.getfield 62, 3) := by decide +kernel
theorem dX4_unlike_24 : decode cX4_unlike 24 = .ok (.bipush 32, 2) := by decide +kernel
theorem dX4_unlike_26 : decode cX4_unlike 26 = .ok (.iload_n 2, 1) := by decide +kernel
theorem dX4_unlike_27 : decode cX4_unlike 27 = .ok (.bipush 32, 2) := by decide +kernel
theorem dX4_unlike_29 : decode cX4_unlike 29 = .ok (.idiv, 1) := by decide +kernel
theorem dX4_unlike_30 : decode cX4_unlike 30 = .ok (.bipush 32, 2) := by decide +kernel
theorem dX4_unlike_32 : decode cX4_unlike 32 = .ok (.irem, 1) := by decide +kernel
theorem dX4_unlike_33 : decode cX4_unlike 33 = .ok (.iadd, 1) := by decide +kernel
theorem dX4_unlike_34 : decode cX4_unlike 34 = .ok (.iaload, 1) := by decide +kernel
theorem dX4_unlike_35 : decode cX4_unlike 35 = .ok (.iand, 1) := by decide +kernel
theorem dX4_unlike_36 : decode cX4_unlike 36 = .ok (.aload_n 0, 1) := by decide +kernel
theorem dX4_unlike_37 : decode cX4_unlike 37 = .ok (.getfield 62, 3) := by decide +kernel
theorem dX4_unlike_40 : decode cX4_unlike 40 = .ok (.bipush 64, 2) := by decide +kernel
theorem dX4_unlike_42 : decode cX4_unlike 42 = .ok (.iload_n 2, 1) := by decide +kernel
theorem dX4_unlike_43 : decode cX4_unlike 43 = .ok (.bipush 32, 2) := by decide +kernel
theorem dX4_unlike_45 : decode cX4_unlike 45 = .ok (.irem, 1) := by decide +kernel
theorem dX4_unlike_46 : decode cX4_unlike 46 = .ok (.iadd, 1) := by decide +kernel
theorem dX4_unlike_47 : decode cX4_unlike 47 = .ok (.iaload, 1) := by decide +kernel
theorem dX4_unlike_48 : decode cX4_unlike 48 = .ok (.iand, 1) := by decide +kernel
theorem dX4_unlike_49 : decode cX4_unlike 49 = .ok (.istore_n 3, 1) := by decide +kernel
theorem dX4_unlike_50 : decode cX4_unlike 50 = .ok (.aload_n 0, 1) := by decide +kernel
theorem dX4_unlike_51 : decode cX4_unlike 51 = .ok (.getfield 62, 3) := by decide +kernel
theorem dX4_unlike_54 : decode cX4_unlike 54 = .ok (.bipush 97, 2) := by decide +kernel
theorem dX4_unlike_56 : decode cX4_unlike 56 = .ok (.iload_n 2, 1) := by decide +kernel
theorem dX4_unlike_57 : decode cX4_unlike 57 = .ok (.sipush 1024, 3) := by decide +kernel
theorem dX4_unlike_60 : decode cX4_unlike 60 = .ok (.idiv, 1) := by decide +kernel
theorem dX4_unlike_61 : decode cX4_unlike 61 = .ok (.iadd, 1) := by decide +kernel
theorem dX4_unlike_62 : decode cX4_unlike 62 = .ok (.iaload, 1) := by decide +kernel
theorem dX4_unlike_63 : decode cX4_unlike 63 = .ok (.aload_n 0, 1) := by decide +kernel
theorem dX4_unlike_64 : decode cX4_unlike 64 = .ok (.getfield 62, 3) := by decide +kernel
theorem dX4_unlike_67 : decode cX4_unlike 67 = .ok (.sipush 129, 3) := by decide +kernel
theorem dX4_unlike_70 : decode cX4_unlike 70 = .ok (.iload_n 2, 1) := by decide +kernel
theorem dX4_unlike_71 : decode cX4_unlike 71 = .ok (.bipush 32, 2) := by decide +kernel
theorem dX4_unlike_73 : decode cX4_unlike 73 = .ok (.idiv, 1) := by decide +kernel
theorem dX4_unlike_74 : decode cX4_unlike 74 = .ok (.bipush 32, 2) := by decide +kernel
theorem dX4_unlike_76 : decode cX4_unlike 76 = .ok (.irem, 1) := by decide +kernel
theorem dX4_unlike_77 : decode cX4_unlike 77 = .ok (.iadd, 1) := by decide +kernel
theorem dX4_unlike_78 : decode cX4_unlike 78 = .ok (.iaload, 1) := by decide +kernel
theorem dX4_unlike_79 : decode cX4_unlike 79 = .ok (.iand, 1) := by decide +kernel
theorem dX4_unlike_80 : decode cX4_unlike 80 = .ok (.aload_n 0, 1) := by decide +kernel
theorem dX4_unlike_81 : decode cX4_unlike 81 = .ok (.getfield 62, 3) := by decide +kernel
theorem dX4_unlike_84 : decode cX4_unlike 84 = .ok (.sipush 161, 3) := by decide +kernel
theorem dX4_unlike_87 : decode cX4_unlike 87 = .ok (.iload_n 2, 1) := by decide +kernel
theorem dX4_unlike_88 : decode cX4_unlike 88 = .ok (.bipush 32, 2) := by decide +kernel
theorem dX4_unlike_90 : decode cX4_unlike 90 = .ok (.irem, 1) := by decide +kernel
theorem dX4_unlike_91 : decode cX4_unlike 91 = .ok (.iadd, 1) := by decide +kernel
theorem dX4_unlike_92 : decode cX4_unlike 92 = .ok (.iaload, 1) := by decide +kernel
theorem dX4_unlike_93 : decode cX4_unlike 93 = .ok (.iand, 1) := by decide +kernel
theorem dX4_unlike_94 : decode cX4_unlike 94 = .ok (.istore 4, 2) := by decide +kernel
theorem dX4_unlike_96 : decode cX4_unlike 96 = .ok (.iload_n 3, 1) := by decide +kernel
theorem dX4_unlike_97 : decode cX4_unlike 97 = .ok (.invokestatic 124, 3) := by decide +kernel
theorem dX4_unlike_100 : decode cX4_unlike 100 = .ok (.aload_n 0, 1) := by decide +kernel
theorem dX4_unlike_101 : decode cX4_unlike 101 = .ok (.getfield 62, 3) := by decide +kernel
theorem dX4_unlike_104 : decode cX4_unlike 104 = .ok (.bipush 96, 2) := by decide +kernel
theorem dX4_unlike_106 : decode cX4_unlike 106 = .ok (.iaload, 1) := by decide +kernel
theorem dX4_unlike_107 : decode cX4_unlike 107 = .ok (.iand, 1) := by decide +kernel
theorem dX4_unlike_108 : decode cX4_unlike 108 = .ok (.ifCond .eq 7, 3) := by decide +kernel
theorem dX4_unlike_111 : decode cX4_unlike 111 = .ok (.iconst 1, 1) := by decide +kernel
theorem dX4_unlike_112 : decode cX4_unlike 112 = .ok (.goto 4, 3) := by decide +kernel
theorem dX4_unlike_115 : decode cX4_unlike 115 = .ok (.iconst 0, 1) := by decide +kernel
theorem dX4_unlike_116 : decode cX4_unlike 116 = .ok (.istore 5, 2) := by decide +kernel
theorem dX4_unlike_118 : decode cX4_unlike 118 = .ok (.iload_n 1, 1) := by decide +kernel
theorem dX4_unlike_119 : decode cX4_unlike 119 = .ok (.iload 5, 2) := by decide +kernel
theorem dX4_unlike_121 : decode cX4_unlike 121 = .ok (.iload 4, 2) := by decide +kernel
theorem dX4_unlike_123 : decode cX4_unlike 123 = .ok (.invokestatic 124, 3) := by decide +kernel
theorem dX4_unlike_126 : decode cX4_unlike 126 = .ok (.aload_n 0, 1) := by decide +kernel
theorem dX4_unlike_127 : decode cX4_unlike 127 = .ok (.getfield 62, 3) := by decide +kernel
theorem dX4_unlike_130 : decode cX4_unlike 130 = .ok (.sipush 193, 3) := by decide +kernel
theorem dX4_unlike_133 : decode cX4_unlike 133 = .ok (.iaload, 1) := by decide +kernel
theorem dX4_unlike_134 : decode cX4_unlike 134 = .ok (.iand, 1) := by decide +kernel
theorem dX4_unlike_135 : decode cX4_unlike 135 = .ok (.ifCond .eq 7, 3) := by decide +kernel
theorem dX4_unlike_138 : decode cX4_unlike 138 = .ok (.iconst 1, 1) := by decide +kernel
theorem dX4_unlike_139 : decode cX4_unlike 139 = .ok (.goto 4, 3) := by decide +kernel
theorem dX4_unlike_142 : decode cX4_unlike 142 = .ok (.iconst 0, 1) := by decide +kernel
theorem dX4_unlike_143 : decode cX4_unlike 143 = .ok (.if_icmp .eq 7, 3) := by decide +kernel
theorem dX4_unlike_146 : decode cX4_unlike 146 = .ok (.iconst 1, 1) := by decide +kernel
theorem dX4_unlike_147 : decode cX4_unlike 147 = .ok (.goto 4, 3) := by decide +kernel
theorem dX4_unlike_150 : decode cX4_unlike 150 = .ok (.iconst 0, 1) := by decide +kernel
theorem dX4_unlike_151 : decode cX4_unlike 151 = .ok (.iadd, 1) := by decide +kernel
theorem dX4_unlike_152 : decode cX4_unlike 152 = .ok (.istore_n 1, 1) := by decide +kernel
theorem dX4_unlike_153 : decode cX4_unlike 153 = .ok (.iinc 2 1, 3) := by decide +kernel
theorem dX4_unlike_156 : decode cX4_unlike 156 = .ok (.goto (-152), 3) := by decide +kernel
theorem dX4_unlike_159 : decode cX4_unlike 159 = .ok (.iload_n 1, 1) := by decide +kernel
theorem dX4_unlike_160 : decode cX4_unlike 160 = .ok (.ireturn, 1) := by decide +kernel
theorem dX4_addRule_0 : decode cX4_addRule 0 = .ok (.aload_n 0, 1) := by decide +kernel
theorem dX4_addRule_1 : decode cX4_addRule 1 = .ok (.iconst 0, 1) := by decide +kernel
theorem dX4_addRule_2 : decode cX4_addRule 2 = .ok (.putfield 68, 3) := by decide +kernel
theorem dX4_addRule_5 : decode cX4_addRule 5 = .ok (.iload_n 1, 1) := by decide +kernel
theorem dX4_addRule_6 : decode cX4_addRule 6 = .ok (.iconst 0, 1) := by decide +kernel
theorem dX4_addRule_7 : decode cX4_addRule 7 = .ok (.aload_n 0, 1) := by decide +kernel
theorem dX4_addRule_8 : decode cX4_addRule 8 = .ok (.getfield 79, 3) := by decide +kernel
theorem dX4_addRule_11 : decode cX4_addRule 11 = .ok (.invokestatic 75, 3) := by decide +kernel
theorem dX4_addRule_14 : decode cX4_addRule 14 = .ok (.ifCond .eq 47, 3) := by decide +kernel
theorem dX4_addRule_17 : decode cX4_addRule 17 = .ok (.iload_n 3, 1) := by decide +kernel
theorem dX4_addRule_18 : decode cX4_addRule 18 = .ok (.iconst (-1), 1) := by decide +kernel
theorem dX4_addRule_19 : decode cX4_addRule 19 = .ok (.aload_n 0, 1) := by decide +kernel
theorem dX4_addRule_20 : decode cX4_addRule 20 = .ok (.getfield 72, 3) := by decide +kernel
theorem dX4_addRule_23 : decode cX4_addRule 23 = .ok (.iconst 1, 1) := by decide +kernel
theorem dX4_addRule_24 : decode cX4_addRule 24 = .ok (.isub, 1) := by decide +kernel
theorem dX4_addRule_25 : decode cX4_addRule 25 = .ok (.invokestatic 75, 3) := by decide +kernel
theorem dX4_addRule_28 : decode cX4_addRule 28 = .ok (.ifCond .eq 33, 3) := by decide +kernel
theorem dX4_addRule_31 : decode cX4_addRule 31 = .ok (.iload 4, 2) := by decide +kernel
theorem dX4_addRule_33 : decode cX4_addRule 33 = .ok (.iconst (-1), 1) := by decide +kernel
theorem dX4_addRule_34 : decode cX4_addRule 34 = .ok (.aload_n 0, 1) := by decide +kernel
theorem dX4_addRule_35 : decode cX4_addRule 35 = .ok (.getfield 72, 3) := by decide +kernel
theorem dX4_addRule_38 : decode cX4_addRule 38 = .ok (.iconst 1, 1) := by decide +kernel
theorem dX4_addRule_39 : decode cX4_addRule 39 = .ok (.isub, 1) := by decide +kernel
theorem dX4_addRule_40 : decode cX4_addRule 40 = .ok (.invokestatic 75, 3) := by decide +kernel
theorem dX4_addRule_43 : decode cX4_addRule 43 = .ok (.ifCond .eq 18, 3) := by decide +kernel
theorem dX4_addRule_46 : decode cX4_addRule 46 = .ok (.iload 5, 2) := by decide +kernel
theorem dX4_addRule_48 : decode cX4_addRule 48 = .ok (.iconst (-1), 1) := by decide +kernel
theorem dX4_addRule_49 : decode cX4_addRule 49 = .ok (.aload_n 0, 1) := by decide +kernel
theorem dX4_addRule_50 : decode cX4_addRule 50 = .ok (.getfield 72, 3) := by decide +kernel
theorem dX4_addRule_53 : decode cX4_addRule 53 = .ok (.iconst 1, 1) := by decide +kernel
theorem dX4_addRule_54 : decode cX4_addRule 54 = .ok (.isub, 1) := by decide +kernel
theorem dX4_addRule_55 : decode cX4_addRule 55 = .ok (.invokestatic 75, 3) := by decide +kernel
theorem dX4_addRule_58 : decode cX4_addRule 58 = .ok (.ifCond .ne 9, 3) := by decide +kernel
theorem dX4_addRule_61 : decode cX4_addRule 61 = .ok (.aload_n 0, 1) := by decide +kernel
theorem dX4_addRule_62 : decode cX4_addRule 62 = .ok (.iconst 1, 1) := by decide +kernel
theorem dX4_addRule_63 : decode cX4_addRule 63 = .ok (.invokevirtual 90, 3) := by decide +kernel
theorem dX4_addRule_66 : decode cX4_addRule 66 = .ok (.ireturn, 1) := by decide +kernel
theorem dX4_addRule_67 : decode cX4_addRule 67 = .ok (.iload_n 2, 1) := by decide +kernel
theorem dX4_addRule_68 : decode cX4_addRule 68 = .ok (.bipush 97, 2) := by decide +kernel
theorem dX4_addRule_70 : decode cX4_addRule 70 = .ok (.if_icmp .eq 9, 3) := by decide +kernel
theorem dX4_addRule_73 : decode cX4_addRule 73 = .ok (.iload_n 2, 1) := by decide +kernel
theorem dX4_addRule_74 : decode cX4_addRule 74 = .ok (.bipush 100, 2) := by decide +kernel
theorem dX4_addRule_76 : decode cX4_addRule 76 = .ok (.if_icmp .ne 13, 3) := by decide +kernel
theorem dX4_addRule_79 : decode cX4_addRule 79 = .ok (.iload 6, 2) := by decide +kernel
theorem dX4_addRule_81 : decode cX4_addRule 81 = .ok (.iconst 0, 1) := by decide +kernel
theorem dX4_addRule_82 : decode cX4_addRule 82 = .ok (.iconst 5, 1) := by decide +kernel
theorem dX4_addRule_83 : decode cX4_addRule 83 = .ok (.invokestatic 75, 3) := by decide +kernel
theorem dX4_addRule_86 : decode cX4_addRule 86 = .ok (.ifCond .ne 9, 3) := by decide +kernel
theorem dX4_addRule_89 : decode cX4_addRule 89 = .ok (.aload_n 0, 1) := by decide +kernel
theorem dX4_addRule_90 : decode cX4_addRule 90 = .ok (.iconst 2, 1) := by decide +kernel
theorem dX4_addRule_91 : decode cX4_addRule 91 = .ok (.invokevirtual 90, 3) := by decide +kernel
theorem dX4_addRule_94 : decode cX4_addRule 94 = .ok (.ireturn, 1) := by decide +kernel
theorem dX4_addRule_95 : decode cX4_addRule 95 = .ok (.aload_n 0, 1) := by decide +kernel
theorem dX4_addRule_96 : decode cX4_addRule 96 = .ok (.getfield 79, 3) := by decide +kernel
theorem dX4_addRule_99 : decode cX4_addRule 99 = .ok (.bipush 8, 2) := by decide +kernel
theorem dX4_addRule_101 : decode cX4_addRule 101 = .ok (.if_icmp .ne 9, 3) := by decide +kernel
theorem dX4_addRule_104 : decode cX4_addRule 104 = .ok (.aload_n 0, 1) := by decide +kernel
theorem dX4_addRule_105 : decode cX4_addRule 105 = .ok (.iconst 3, 1) := by decide +kernel
theorem dX4_addRule_106 : decode cX4_addRule 106 = .ok (.invokevirtual 90, 3) := by decide +kernel
theorem dX4_addRule_109 : decode cX4_addRule 109 = .ok (.ireturn, 1) := by decide +kernel
theorem dX4_addRule_110 : decode cX4_addRule 110 = .ok (.iconst 0, 1) := by decide +kernel
theorem dX4_addRule_111 : decode cX4_addRule 111 = .ok (.istore 7, 2) := by decide +kernel
theorem dX4_addRule_113 : decode cX4_addRule 113 = .ok (.aload_n 0, 1) := by decide +kernel
theorem dX4_addRule_114 : decode cX4_addRule 114 = .ok (.getfield 28, 3) := by decide +kernel
theorem dX4_addRule_117 : decode cX4_addRule 117 = .ok (.iload 7, 2) := by decide +kernel
theorem dX4_addRule_119 : decode cX4_addRule 119 = .ok (.baload, 1) := by decide +kernel
theorem dX4_addRule_120 : decode cX4_addRule 120 = .ok (.ifCond .eq 9, 3) := by decide +kernel
theorem dX4_addRule_123 : decode cX4_addRule 123 = .ok (.iinc 7 1, 3) := by decide +kernel
theorem dX4_addRule_126 : decode cX4_addRule 126 = .ok (.goto (-13), 3) := by decide +kernel
theorem dX4_addRule_129 : decode cX4_addRule 129 = .ok (.aload_n 0, 1) := by decide +kernel
theorem dX4_addRule_130 : decode cX4_addRule 130 = .ok (.getfield 28, 3) := by decide +kernel
theorem dX4_addRule_133 : decode cX4_addRule 133 = .ok (.iload 7, 2) := by decide +kernel
theorem dX4_addRule_135 : decode cX4_addRule 135 = .ok (.iconst 1, 1) := by decide +kernel
theorem dX4_addRule_136 : decode cX4_addRule 136 = .ok (.bastore, 1) := by decide +kernel
theorem dX4_addRule_137 : decode cX4_addRule 137 = .ok (.aload_n 0, 1) := by decide +kernel
theorem dX4_addRule_138 : decode cX4_addRule 138 = .ok (.getfield 32, 3) := by decide +kernel
theorem dX4_addRule_141 : decode cX4_addRule 141 = .ok (.iload 7, 2) := by decide +kernel
theorem dX4_addRule_143 : decode cX4_addRule 143 = .ok (.aload_n 0, 1) := by decide +kernel
theorem dX4_addRule_144 : decode cX4_addRule 144 = .ok (.getfield 127, 3) := by decide +kernel
theorem dX4_addRule_147 : decode cX4_addRule 147 = .ok (.iastore, 1) := by decide +kernel
theorem dX4_addRule_148 : decode cX4_addRule 148 = .ok (.aload_n 0, 1) := by decide +kernel
theorem dX4_addRule_149 : decode cX4_addRule 149 = .ok (.getfield 35, 3) := by decide +kernel
theorem dX4_addRule_152 : decode cX4_addRule 152 = .ok (.iload 7, 2) := by decide +kernel
theorem dX4_addRule_154 : decode cX4_addRule 154 = .ok (.iload_n 2, 1) := by decide +kernel
theorem dX4_addRule_155 : decode cX4_addRule 155 = .ok (.bipush 97, 2) := by decide +kernel
theorem dX4_addRule_157 : decode cX4_addRule 157 = .ok (.if_icmp .ne 7, 3) := by decide +kernel
theorem dX4_addRule_160 : decode cX4_addRule 160 = .ok (.iconst 1, 1) := by decide +kernel
theorem dX4_addRule_161 : decode cX4_addRule 161 = .ok (.goto 4, 3) := by decide +kernel
theorem dX4_addRule_164 : decode cX4_addRule 164 = .ok (.iconst 0, 1) := by decide +kernel
theorem dX4_addRule_165 : decode cX4_addRule 165 = .ok (.bastore, 1) := by decide +kernel
theorem dX4_addRule_166 : decode cX4_addRule 166 = .ok (.aload_n 0, 1) := by decide +kernel
theorem dX4_addRule_167 : decode cX4_addRule 167 = .ok (.getfield 38, 3) := by decide +kernel
theorem dX4_addRule_170 : decode cX4_addRule 170 = .ok (.iconst 3, 1) := by decide +kernel
theorem dX4_addRule_171 : decode cX4_addRule 171 = .ok (.iload 7, 2) := by decide +kernel
theorem dX4_addRule_173 : decode cX4_addRule 173 = .ok (.imul, 1) := by decide +kernel
theorem dX4_addRule_174 : decode cX4_addRule 174 = .ok (.iload_n 3, 1) := by decide +kernel
theorem dX4_addRule_175 : decode cX4_addRule 175 = .ok (.iastore, 1) := by decide +kernel
theorem dX4_addRule_176 : decode cX4_addRule 176 = .ok (.aload_n 0, 1) := by decide +kernel
theorem dX4_addRule_177 : decode cX4_addRule 177 = .ok (.getfield 38, 3) := by decide +kernel
theorem dX4_addRule_180 : decode cX4_addRule 180 = .ok (.iconst 3, 1) := by decide +kernel
theorem dX4_addRule_181 : decode cX4_addRule 181 = .ok (.iload 7, 2) := by decide +kernel
theorem dX4_addRule_183 : decode cX4_addRule 183 = .ok (.imul, 1) := by decide +kernel
theorem dX4_addRule_184 : decode cX4_addRule 184 = .ok (.iconst 1, 1) := by decide +kernel
theorem dX4_addRule_185 : decode cX4_addRule 185 = .ok (.iadd, 1) := by decide +kernel
theorem dX4_addRule_186 : decode cX4_addRule 186 = .ok (.iload 4, 2) := by decide +kernel
theorem dX4_addRule_188 : decode cX4_addRule 188 = .ok (.iastore, 1) := by decide +kernel
theorem dX4_addRule_189 : decode cX4_addRule 189 = .ok (.aload_n 0, 1) := by decide +kernel
theorem dX4_addRule_190 : decode cX4_addRule 190 = .ok (.getfield 38, 3) := by decide +kernel
theorem dX4_addRule_193 : decode cX4_addRule 193 = .ok (.iconst 3, 1) := by decide +kernel
theorem dX4_addRule_194 : decode cX4_addRule 194 = .ok (.iload 7, 2) := by decide +kernel
theorem dX4_addRule_196 : decode cX4_addRule 196 = .ok (.imul, 1) := by decide +kernel
theorem dX4_addRule_197 : decode cX4_addRule 197 = .ok (.iconst 2, 1) := by decide +kernel
theorem dX4_addRule_198 : decode cX4_addRule 198 = .ok (.iadd, 1) := by decide +kernel
theorem dX4_addRule_199 : decode cX4_addRule 199 = .ok (.iload 5, 2) := by decide +kernel
theorem dX4_addRule_201 : decode cX4_addRule 201 = .ok (.iastore, 1) := by decide +kernel
theorem dX4_addRule_202 : decode cX4_addRule 202 = .ok (.aload_n 0, 1) := by decide +kernel
theorem dX4_addRule_203 : decode cX4_addRule 203 = .ok (.getfield 41, 3) := by decide +kernel
theorem dX4_addRule_206 : decode cX4_addRule 206 = .ok (.iload 7, 2) := by decide +kernel
theorem dX4_addRule_208 : decode cX4_addRule 208 = .ok (.iload 6, 2) := by decide +kernel
theorem dX4_addRule_210 : decode cX4_addRule 210 = .ok (.iastore, 1) := by decide +kernel
theorem dX4_addRule_211 : decode cX4_addRule 211 = .ok (.aload_n 0, 1) := by decide +kernel
theorem dX4_addRule_212 : decode cX4_addRule 212 = .ok (.getfield 44, 3) := by decide +kernel
theorem dX4_addRule_215 : decode cX4_addRule 215 = .ok (.iload 7, 2) := by decide +kernel
theorem dX4_addRule_217 : decode cX4_addRule 217 = .ok (.iconst (-1), 1) := by decide +kernel
theorem dX4_addRule_218 : decode cX4_addRule 218 = .ok (.iastore, 1) := by decide +kernel
theorem dX4_addRule_219 : decode cX4_addRule 219 = .ok (.aload_n 0, 1) := by decide +kernel
theorem dX4_addRule_220 : decode cX4_addRule 220 = .ok (.getfield 47, 3) := by decide +kernel
theorem dX4_addRule_223 : decode cX4_addRule 223 = .ok (.iload 7, 2) := by decide +kernel
theorem dX4_addRule_225 : decode cX4_addRule 225 = .ok (.iconst 0, 1) := by decide +kernel
theorem dX4_addRule_226 : decode cX4_addRule 226 = .ok (.iastore, 1) := by decide +kernel
theorem dX4_addRule_227 : decode cX4_addRule 227 = .ok (.aload_n 0, 1) := by decide +kernel
theorem dX4_addRule_228 : decode cX4_addRule 228 = .ok (.getfield 50, 3) := by decide +kernel
theorem dX4_addRule_231 : decode cX4_addRule 231 = .ok (.iload 7, 2) := by decide +kernel
theorem dX4_addRule_233 : decode cX4_addRule 233 = .ok (.aload_n 0, 1) := by decide +kernel
theorem dX4_addRule_234 : decode cX4_addRule 234 = .ok (.getfield 110, 3) := by decide +kernel
theorem dX4_addRule_237 : decode cX4_addRule 237 = .ok (.iastore, 1) := by decide +kernel
theorem dX4_addRule_238 : decode cX4_addRule 238 = .ok (.aload_n 0, 1) := by decide +kernel
theorem dX4_addRule_239 : decode cX4_addRule 239 = .ok (.getfield 53, 3) := by decide +kernel
theorem dX4_addRule_242 : decode cX4_addRule 242 = .ok (.iload 7, 2) := by decide +kernel
theorem dX4_addRule_244 : decode cX4_addRule 244 = .ok (.iconst 0, 1) := by decide +kernel
theorem dX4_addRule_245 : decode cX4_addRule 245 = .ok (.iastore, 1) := by decide +kernel
theorem dX4_addRule_246 : decode cX4_addRule 246 = .ok (.aload_n 0, 1) := by decide +kernel
theorem dX4_addRule_247 : decode cX4_addRule 247 = .ok (.getfield 56, 3) := by decide +kernel
theorem dX4_addRule_250 : decode cX4_addRule 250 = .ok (.iload 7, 2) := by decide +kernel
theorem dX4_addRule_252 : decode cX4_addRule 252 = .ok (.iconst (-1), 1) := by decide +kernel
theorem dX4_addRule_253 : decode cX4_addRule 253 = .ok (.iastore, 1) := by decide +kernel
theorem dX4_addRule_254 : decode cX4_addRule 254 = .ok (.aload_n 0, 1) := by decide +kernel
theorem dX4_addRule_255 : decode cX4_addRule 255 = .ok (.getfield 79, 3) := by decide +kernel
theorem dX4_addRule_258 : decode cX4_addRule 258 = .ok (.istore 8, 2) := by decide +kernel
theorem dX4_addRule_260 : decode cX4_addRule 260 = .ok (.iload 8, 2) := by decide +kernel
theorem dX4_addRule_262 : decode cX4_addRule 262 = .ok (.iload_n 1, 1) := by decide +kernel
theorem dX4_addRule_263 : decode cX4_addRule 263 = .ok (.if_icmp .le 25, 3) := by decide +kernel
theorem dX4_addRule_266 : decode cX4_addRule 266 = .ok (.aload_n 0, 1) := by decide +kernel
theorem dX4_addRule_267 : decode cX4_addRule 267 = .ok (.getfield 25, 3) := by decide +kernel
theorem dX4_addRule_270 : decode cX4_addRule 270 = .ok (.iload 8, 2) := by decide +kernel
theorem dX4_addRule_272 : decode cX4_addRule 272 = .ok (.aload_n 0, 1) := by decide +kernel
theorem dX4_addRule_273 : decode cX4_addRule 273 = .ok (.getfield 25, 3) := by decide +kernel
theorem dX4_addRule_276 : decode cX4_addRule 276 = .ok (.iload 8, 2) := by decide +kernel
theorem dX4_addRule_278 : decode cX4_addRule 278 = .ok (.iconst 1, 1) := by decide +kernel
theorem dX4_addRule_279 : decode cX4_addRule 279 = .ok (.isub, 1) := by decide +kernel
theorem dX4_addRule_280 : decode cX4_addRule 280 = .ok (.iaload, 1) := by decide +kernel
theorem dX4_addRule_281 : decode cX4_addRule 281 = .ok (.iastore, 1) := by decide +kernel
theorem dX4_addRule_282 : decode cX4_addRule 282 = .ok (.iinc 8 (-1), 3) := by decide +kernel
theorem dX4_addRule_285 : decode cX4_addRule 285 = .ok (.goto (-25), 3) := by decide +kernel
theorem dX4_addRule_288 : decode cX4_addRule 288 = .ok (.aload_n 0, 1) := by decide +kernel
theorem dX4_addRule_289 : decode cX4_addRule 289 = .ok (.getfield 25, 3) := by decide +kernel
theorem dX4_addRule_292 : decode cX4_addRule 292 = .ok (.iload_n 1, 1) := by decide +kernel
theorem dX4_addRule_293 : decode cX4_addRule 293 = .ok (.iload 7, 2) := by decide +kernel
theorem dX4_addRule_295 : decode cX4_addRule 295 = .ok (.iastore, 1) := by decide +kernel
theorem dX4_addRule_296 : decode cX4_addRule 296 = .ok (.aload_n 0, 1) := by decide +kernel
theorem dX4_addRule_297 : decode cX4_addRule 297 = .ok (.dup, 1) := by decide +kernel
theorem dX4_addRule_298 : decode cX4_addRule 298 = .ok (.getfield 79, 3) := by decide +kernel
theorem dX4_addRule_301 : decode cX4_addRule 301 = .ok (.iconst 1, 1) := by decide +kernel
theorem dX4_addRule_302 : decode cX4_addRule 302 = .ok (.iadd, 1) := by decide +kernel
theorem dX4_addRule_303 : decode cX4_addRule 303 = .ok (.putfield 79, 3) := by decide +kernel
theorem dX4_addRule_306 : decode cX4_addRule 306 = .ok (.aload_n 0, 1) := by decide +kernel
theorem dX4_addRule_307 : decode cX4_addRule 307 = .ok (.dup, 1) := by decide +kernel
theorem dX4_addRule_308 : decode cX4_addRule 308 = .ok (.getfield 127, 3) := by decide +kernel
theorem dX4_addRule_311 : decode cX4_addRule 311 = .ok (.iconst 1, 1) := by decide +kernel
theorem dX4_addRule_312 : decode cX4_addRule 312 = .ok (.iadd, 1) := by decide +kernel
theorem dX4_addRule_313 : decode cX4_addRule 313 = .ok (.putfield 127, 3) := by decide +kernel
theorem dX4_addRule_316 : decode cX4_addRule 316 = .ok (.aload_n 0, 1) := by decide +kernel
theorem dX4_addRule_317 : decode cX4_addRule 317 = .ok (.getfield 127, 3) := by decide +kernel
theorem dX4_addRule_320 : decode cX4_addRule 320 = .ok (.iconst 1, 1) := by decide +kernel
theorem dX4_addRule_321 : decode cX4_addRule 321 = .ok (.isub, 1) := by decide +kernel
theorem dX4_addRule_322 : decode cX4_addRule 322 = .ok (.ireturn, 1) := by decide +kernel
theorem dX4_removeRule_0 : decode cX4_removeRule 0 = .ok (.aload_n 0, 1) := by decide +kernel
theorem dX4_removeRule_1 : decode cX4_removeRule 1 = .ok (.iconst 0, 1) := by decide +kernel
theorem dX4_removeRule_2 : decode cX4_removeRule 2 = .ok (.putfield 68, 3) := by decide +kernel
theorem dX4_removeRule_5 : decode cX4_removeRule 5 = .ok (.aload_n 0, 1) := by decide +kernel
theorem dX4_removeRule_6 : decode cX4_removeRule 6 = .ok (.iload_n 1, 1) := by decide +kernel
theorem dX4_removeRule_7 : decode cX4_removeRule 7 = .ok (.invokevirtual 82, 3) := by decide +kernel
theorem dX4_removeRule_10 : decode cX4_removeRule 10 = .ok (.istore_n 2, 1) := by decide +kernel
theorem dX4_removeRule_11 : decode cX4_removeRule 11 = .ok (.iload_n 2, 1) := by decide +kernel
theorem dX4_removeRule_12 : decode cX4_removeRule 12 = .ok (.iconst (-1), 1) := by decide +kernel
theorem dX4_removeRule_13 : decode cX4_removeRule 13 = .ok (.if_icmp .ne 9, 3) := by decide +kernel
theorem dX4_removeRule_16 : decode cX4_removeRule 16 = .ok (.aload_n 0, 1) := by decide +kernel
theorem dX4_removeRule_17 : decode cX4_removeRule 17 = .ok (.iconst 1, 1) := by decide +kernel
theorem dX4_removeRule_18 : decode cX4_removeRule 18 = .ok (.invokevirtual 90, 3) := by decide +kernel
theorem dX4_removeRule_21 : decode cX4_removeRule 21 = .ok (.ireturn, 1) := by decide +kernel
theorem dX4_removeRule_22 : decode cX4_removeRule 22 = .ok (.aload_n 0, 1) := by decide +kernel
theorem dX4_removeRule_23 : decode cX4_removeRule 23 = .ok (.invokevirtual 130, 3) := by decide +kernel
theorem dX4_removeRule_26 : decode cX4_removeRule 26 = .ok (.pop, 1) := by decide +kernel
theorem dX4_removeRule_27 : decode cX4_removeRule 27 = .ok (.aload_n 0, 1) := by decide +kernel
theorem dX4_removeRule_28 : decode cX4_removeRule 28 = .ok (.getfield 28, 3) := by decide +kernel
theorem dX4_removeRule_31 : decode cX4_removeRule 31 = .ok (.aload_n 0, 1) := by decide +kernel
theorem dX4_removeRule_32 : decode cX4_removeRule 32 = .ok (.getfield 25, 3) := by decide +kernel
theorem dX4_removeRule_35 : decode cX4_removeRule 35 = .ok (.iload_n 2, 1) := by decide +kernel
theorem dX4_removeRule_36 : decode cX4_removeRule 36 = .ok (.iaload, 1) := by decide +kernel
theorem dX4_removeRule_37 : decode cX4_removeRule 37 = .ok (.iconst 0, 1) := by decide +kernel
theorem dX4_removeRule_38 : decode cX4_removeRule 38 = .ok (.bastore, 1) := by decide +kernel
theorem dX4_removeRule_39 : decode cX4_removeRule 39 = .ok (.aload_n 0, 1) := by decide +kernel
theorem dX4_removeRule_40 : decode cX4_removeRule 40 = .ok (.dup, 1) := by decide +kernel
theorem dX4_removeRule_41 : decode cX4_removeRule 41 = .ok (.getfield 79, 3) := by decide +kernel
theorem dX4_removeRule_44 : decode cX4_removeRule 44 = .ok (.iconst 1, 1) := by decide +kernel
theorem dX4_removeRule_45 : decode cX4_removeRule 45 = .ok (.isub, 1) := by decide +kernel
theorem dX4_removeRule_46 : decode cX4_removeRule 46 = .ok (.putfield 79, 3) := by decide +kernel
theorem dX4_removeRule_49 : decode cX4_removeRule 49 = .ok (.iload_n 2, 1) := by decide +kernel
theorem dX4_removeRule_50 : decode cX4_removeRule 50 = .ok (.istore_n 3, 1) := by decide +kernel
theorem dX4_removeRule_51 : decode cX4_removeRule 51 = .ok (.iload_n 3, 1) := by decide +kernel
theorem dX4_removeRule_52 : decode cX4_removeRule 52 = .ok (.aload_n 0, 1) := by decide +kernel
theorem dX4_removeRule_53 : decode cX4_removeRule 53 = .ok (.getfield 79, 3) := by decide +kernel
theorem dX4_removeRule_56 : decode cX4_removeRule 56 = .ok (.if_icmp .ge 23, 3) := by decide +kernel
theorem dX4_removeRule_59 : decode cX4_removeRule 59 = .ok (.aload_n 0, 1) := by decide +kernel
theorem dX4_removeRule_60 : decode cX4_removeRule 60 = .ok (.getfield 25, 3) := by decide +kernel
theorem dX4_removeRule_63 : decode cX4_removeRule 63 = .ok (.iload_n 3, 1) := by decide +kernel
theorem dX4_removeRule_64 : decode cX4_removeRule 64 = .ok (.aload_n 0, 1) := by decide +kernel
theorem dX4_removeRule_65 : decode cX4_removeRule 65 = .ok (.getfield 25, 3) := by decide +kernel
theorem dX4_removeRule_68 : decode cX4_removeRule 68 = .ok (.iload_n 3, 1) := by decide +kernel
theorem dX4_removeRule_69 : decode cX4_removeRule 69 = .ok (.iconst 1, 1) := by decide +kernel
theorem dX4_removeRule_70 : decode cX4_removeRule 70 = .ok (.iadd, 1) := by decide +kernel
theorem dX4_removeRule_71 : decode cX4_removeRule 71 = .ok (.iaload, 1) := by decide +kernel
theorem dX4_removeRule_72 : decode cX4_removeRule 72 = .ok (.iastore, 1) := by decide +kernel
theorem dX4_removeRule_73 : decode cX4_removeRule 73 = .ok (.iinc 3 1, 3) := by decide +kernel
theorem dX4_removeRule_76 : decode cX4_removeRule 76 = .ok (.goto (-25), 3) := by decide +kernel
theorem dX4_removeRule_79 : decode cX4_removeRule 79 = .ok (.aload_n 0, 1) := by decide +kernel
theorem dX4_removeRule_80 : decode cX4_removeRule 80 = .ok (.iconst 1, 1) := by decide +kernel
theorem dX4_removeRule_81 : decode cX4_removeRule 81 = .ok (.aload_n 0, 1) := by decide +kernel
theorem dX4_removeRule_82 : decode cX4_removeRule 82 = .ok (.getfield 25, 3) := by decide +kernel
theorem dX4_removeRule_85 : decode cX4_removeRule 85 = .ok (.aload_n 0, 1) := by decide +kernel
theorem dX4_removeRule_86 : decode cX4_removeRule 86 = .ok (.getfield 79, 3) := by decide +kernel
theorem dX4_removeRule_89 : decode cX4_removeRule 89 = .ok (.invokevirtual 119, 3) := by decide +kernel
theorem dX4_removeRule_92 : decode cX4_removeRule 92 = .ok (.aload_n 0, 1) := by decide +kernel
theorem dX4_removeRule_93 : decode cX4_removeRule 93 = .ok (.invokevirtual 134, 3) := by decide +kernel
theorem dX4_removeRule_96 : decode cX4_removeRule 96 = .ok (.ireturn, 1) := by decide +kernel
theorem dX4_setLastDay_0 : decode cX4_setLastDay 0 = .ok (.aload_n 0, 1) := by decide +kernel
theorem dX4_setLastDay_1 : decode cX4_setLastDay 1 = .ok (.iload_n 1, 1) := by decide +kernel
theorem dX4_setLastDay_2 : decode cX4_setLastDay 2 = .ok (.invokevirtual 137, 3) := by decide +kernel
theorem dX4_setLastDay_5 : decode cX4_setLastDay 5 = .ok (.istore_n 3, 1) := by decide +kernel
theorem dX4_setLastDay_6 : decode cX4_setLastDay 6 = .ok (.aload_n 0, 1) := by decide +kernel
theorem dX4_setLastDay_7 : decode cX4_setLastDay 7 = .ok (.getfield 68, 3) := by decide +kernel
theorem dX4_setLastDay_10 : decode cX4_setLastDay 10 = .ok (.ifCond .le 5, 3) := by decide +kernel
theorem dX4_setLastDay_13 : decode cX4_setLastDay 13 = .ok (.iconst 0, 1) := by decide +kernel
theorem dX4_setLastDay_14 : decode cX4_setLastDay 14 = .ok (.ireturn, 1) := by decide +kernel
theorem dX4_setLastDay_15 : decode cX4_setLastDay 15 = .ok (.iload_n 2, 1) := by decide +kernel
theorem dX4_setLastDay_16 : decode cX4_setLastDay 16 = .ok (.iconst (-1), 1) := by decide +kernel
theorem dX4_setLastDay_17 : decode cX4_setLastDay 17 = .ok (.if_icmp .eq 23, 3) := by decide +kernel
theorem dX4_setLastDay_20 : decode cX4_setLastDay 20 = .ok (.iload_n 2, 1) := by decide +kernel
theorem dX4_setLastDay_21 : decode cX4_setLastDay 21 = .ok (.aload_n 0, 1) := by decide +kernel
theorem dX4_setLastDay_22 : decode cX4_setLastDay 22 = .ok (.getfield 110, 3) := by decide +kernel
theorem dX4_setLastDay_25 : decode cX4_setLastDay 25 = .ok (.sipush 999, 3) := by decide +kernel
theorem dX4_setLastDay_28 : decode cX4_setLastDay 28 = .ok (.invokestatic 75, 3) := by decide +kernel
theorem dX4_setLastDay_31 : decode cX4_setLastDay 31 = .ok (.ifCond .ne 9, 3) := by decide +kernel
theorem dX4_setLastDay_34 : decode cX4_setLastDay 34 = .ok (.aload_n 0, 1) := by decide +kernel
theorem dX4_setLastDay_35 : decode cX4_setLastDay 35 = .ok (.iconst 2, 1) := by decide +kernel
theorem dX4_setLastDay_36 : decode cX4_setLastDay 36 = .ok (.invokevirtual 90, 3) := by decide +kernel
theorem dX4_setLastDay_39 : decode cX4_setLastDay 39 = .ok (.ireturn, 1) := by decide +kernel
theorem dX4_setLastDay_40 : decode cX4_setLastDay 40 = .ok (.aload_n 0, 1) := by decide +kernel
theorem dX4_setLastDay_41 : decode cX4_setLastDay 41 = .ok (.getfield 44, 3) := by decide +kernel
theorem dX4_setLastDay_44 : decode cX4_setLastDay 44 = .ok (.iload_n 3, 1) := by decide +kernel
theorem dX4_setLastDay_45 : decode cX4_setLastDay 45 = .ok (.iaload, 1) := by decide +kernel
theorem dX4_setLastDay_46 : decode cX4_setLastDay 46 = .ok (.istore 4, 2) := by decide +kernel
theorem dX4_setLastDay_48 : decode cX4_setLastDay 48 = .ok (.aload_n 0, 1) := by decide +kernel
theorem dX4_setLastDay_49 : decode cX4_setLastDay 49 = .ok (.getfield 44, 3) := by decide +kernel
theorem dX4_setLastDay_52 : decode cX4_setLastDay 52 = .ok (.iload_n 3, 1) := by decide +kernel
theorem dX4_setLastDay_53 : decode cX4_setLastDay 53 = .ok (.iload_n 2, 1) := by decide +kernel
theorem dX4_setLastDay_54 : decode cX4_setLastDay 54 = .ok (.iastore, 1) := by decide +kernel
theorem dX4_setLastDay_55 : decode cX4_setLastDay 55 = .ok (.iload 4, 2) := by decide +kernel
theorem dX4_setLastDay_57 : decode cX4_setLastDay 57 = .ok (.ireturn, 1) := by decide +kernel
theorem dX4_rules_0 : decode cX4_rules 0 = .ok (.aload_n 0, 1) := by decide +kernel
theorem dX4_rules_1 : decode cX4_rules 1 = .ok (.iconst 0, 1) := by decide +kernel
theorem dX4_rules_2 : decode cX4_rules 2 = .ok (.putfield 68, 3) := by decide +kernel
theorem dX4_rules_5 : decode cX4_rules 5 = .ok (.aload_n 0, 1) := by decide +kernel
theorem dX4_rules_6 : decode cX4_rules 6 = .ok (.getfield 79, 3) := by decide +kernel
theorem dX4_rules_9 : decode cX4_rules 9 = .ok (.ireturn, 1) := by decide +kernel
theorem dX4_ruleAt_0 : decode cX4_ruleAt 0 = .ok (.aload_n 0, 1) := by decide +kernel
theorem dX4_ruleAt_1 : decode cX4_ruleAt 1 = .ok (.iconst 0, 1) := by decide +kernel
theorem dX4_ruleAt_2 : decode cX4_ruleAt 2 = .ok (.putfield 68, 3) := by decide +kernel
theorem dX4_ruleAt_5 : decode cX4_ruleAt 5 = .ok (.iload_n 1, 1) := by decide +kernel
theorem dX4_ruleAt_6 : decode cX4_ruleAt 6 = .ok (.iconst 0, 1) := by decide +kernel
theorem dX4_ruleAt_7 : decode cX4_ruleAt 7 = .ok (.aload_n 0, 1) := by decide +kernel
theorem dX4_ruleAt_8 : decode cX4_ruleAt 8 = .ok (.getfield 79, 3) := by decide +kernel
theorem dX4_ruleAt_11 : decode cX4_ruleAt 11 = .ok (.iconst 1, 1) := by decide +kernel
theorem dX4_ruleAt_12 : decode cX4_ruleAt 12 = .ok (.isub, 1) := by decide +kernel
theorem dX4_ruleAt_13 : decode cX4_ruleAt 13 = .ok (.invokestatic 75, 3) := by decide +kernel
theorem dX4_ruleAt_16 : decode cX4_ruleAt 16 = .ok (.ifCond .eq 17, 3) := by decide +kernel
theorem dX4_ruleAt_19 : decode cX4_ruleAt 19 = .ok (.aload_n 0, 1) := by decide +kernel
theorem dX4_ruleAt_20 : decode cX4_ruleAt 20 = .ok (.getfield 32, 3) := by decide +kernel
theorem dX4_ruleAt_23 : decode cX4_ruleAt 23 = .ok (.aload_n 0, 1) := by decide +kernel
theorem dX4_ruleAt_24 : decode cX4_ruleAt 24 = .ok (.getfield 25, 3) := by decide +kernel
theorem dX4_ruleAt_27 : decode cX4_ruleAt 27 = .ok (.iload_n 1, 1) := by decide +kernel
theorem dX4_ruleAt_28 : decode cX4_ruleAt 28 = .ok (.iaload, 1) := by decide +kernel
theorem dX4_ruleAt_29 : decode cX4_ruleAt 29 = .ok (.iaload, 1) := by decide +kernel
theorem dX4_ruleAt_30 : decode cX4_ruleAt 30 = .ok (.goto 8, 3) := by decide +kernel
theorem dX4_ruleAt_33 : decode cX4_ruleAt 33 = .ok (.aload_n 0, 1) := by decide +kernel
theorem dX4_ruleAt_34 : decode cX4_ruleAt 34 = .ok (.iconst 1, 1) := by decide +kernel
theorem dX4_ruleAt_35 : decode cX4_ruleAt 35 = .ok (.invokevirtual 90, 3) := by decide +kernel
theorem dX4_ruleAt_38 : decode cX4_ruleAt 38 = .ok (.ireturn, 1) := by decide +kernel
theorem dX4_isInForce_0 : decode cX4_isInForce 0 = .ok (.aload_n 0, 1) := by decide +kernel
theorem dX4_isInForce_1 : decode cX4_isInForce 1 = .ok (.iload_n 1, 1) := by decide +kernel
theorem dX4_isInForce_2 : decode cX4_isInForce 2 = .ok (.invokevirtual 137, 3) := by decide +kernel
theorem dX4_isInForce_5 : decode cX4_isInForce 5 = .ok (.istore_n 2, 1) := by decide +kernel
theorem dX4_isInForce_6 : decode cX4_isInForce 6 = .ok (.aload_n 0, 1) := by decide +kernel
theorem dX4_isInForce_7 : decode cX4_isInForce 7 = .ok (.getfield 68, 3) := by decide +kernel
theorem dX4_isInForce_10 : decode cX4_isInForce 10 = .ok (.ifCond .ne 15, 3) := by decide +kernel
theorem dX4_isInForce_13 : decode cX4_isInForce 13 = .ok (.aload_n 0, 1) := by decide +kernel
theorem dX4_isInForce_14 : decode cX4_isInForce 14 = .ok (.iload_n 2, 1) := by decide +kernel
theorem dX4_isInForce_15 : decode cX4_isInForce 15 = .ok (.invokevirtual 113, 3) := by decide +kernel
theorem dX4_isInForce_18 : decode cX4_isInForce 18 = .ok (.ifCond .eq 7, 3) := by decide +kernel
theorem dX4_isInForce_21 : decode cX4_isInForce 21 = .ok (.iconst 1, 1) := by decide +kernel
theorem dX4_isInForce_22 : decode cX4_isInForce 22 = .ok (.goto 4, 3) := by decide +kernel
theorem dX4_isInForce_25 : decode cX4_isInForce 25 = .ok (.iconst 0, 1) := by decide +kernel
theorem dX4_isInForce_26 : decode cX4_isInForce 26 = .ok (.ireturn, 1) := by decide +kernel
theorem dX4_expiring_0 : decode cX4_expiring 0 = .ok (.aload_n 0, 1) := by decide +kernel
theorem dX4_expiring_1 : decode cX4_expiring 1 = .ok (.iconst 0, 1) := by decide +kernel
theorem dX4_expiring_2 : decode cX4_expiring 2 = .ok (.putfield 68, 3) := by decide +kernel
theorem dX4_expiring_5 : decode cX4_expiring 5 = .ok (.iload_n 1, 1) := by decide +kernel
theorem dX4_expiring_6 : decode cX4_expiring 6 = .ok (.iconst 0, 1) := by decide +kernel
theorem dX4_expiring_7 : decode cX4_expiring 7 = .ok (.iconst 5, 1) := by decide +kernel
theorem dX4_expiring_8 : decode cX4_expiring 8 = .ok (.invokestatic 75, 3) := by decide +kernel
theorem dX4_expiring_11 : decode cX4_expiring 11 = .ok (.ifCond .eq 13, 3) := by decide +kernel
theorem dX4_expiring_14 : decode cX4_expiring 14 = .ok (.iload_n 2, 1) := by decide +kernel
theorem dX4_expiring_15 : decode cX4_expiring 15 = .ok (.iconst 1, 1) := by decide +kernel
theorem dX4_expiring_16 : decode cX4_expiring 16 = .ok (.bipush 99, 2) := by decide +kernel
theorem dX4_expiring_18 : decode cX4_expiring 18 = .ok (.invokestatic 75, 3) := by decide +kernel
theorem dX4_expiring_21 : decode cX4_expiring 21 = .ok (.ifCond .ne 9, 3) := by decide +kernel
theorem dX4_expiring_24 : decode cX4_expiring 24 = .ok (.aload_n 0, 1) := by decide +kernel
theorem dX4_expiring_25 : decode cX4_expiring 25 = .ok (.iconst 1, 1) := by decide +kernel
theorem dX4_expiring_26 : decode cX4_expiring 26 = .ok (.invokevirtual 90, 3) := by decide +kernel
theorem dX4_expiring_29 : decode cX4_expiring 29 = .ok (.ireturn, 1) := by decide +kernel
theorem dX4_expiring_30 : decode cX4_expiring 30 = .ok (.iconst 0, 1) := by decide +kernel
theorem dX4_expiring_31 : decode cX4_expiring 31 = .ok (.istore_n 3, 1) := by decide +kernel
theorem dX4_expiring_32 : decode cX4_expiring 32 = .ok (.iconst 0, 1) := by decide +kernel
theorem dX4_expiring_33 : decode cX4_expiring 33 = .ok (.istore 4, 2) := by decide +kernel
theorem dX4_expiring_35 : decode cX4_expiring 35 = .ok (.iload 4, 2) := by decide +kernel
theorem dX4_expiring_37 : decode cX4_expiring 37 = .ok (.aload_n 0, 1) := by decide +kernel
theorem dX4_expiring_38 : decode cX4_expiring 38 = .ok (.getfield 79, 3) := by decide +kernel
theorem dX4_expiring_41 : decode cX4_expiring 41 = .ok (.if_icmp .ge 73, 3) := by decide +kernel
theorem dX4_expiring_44 : decode cX4_expiring 44 = .ok (.aload_n 0, 1) := by decide +kernel
theorem dX4_expiring_45 : decode cX4_expiring 45 = .ok (.getfield 25, 3) := by decide +kernel
theorem dX4_expiring_48 : decode cX4_expiring 48 = .ok (.iload 4, 2) := by decide +kernel
theorem dX4_expiring_50 : decode cX4_expiring 50 = .ok (.iaload, 1) := by decide +kernel
theorem dX4_expiring_51 : decode cX4_expiring 51 = .ok (.istore 5, 2) := by decide +kernel
theorem dX4_expiring_53 : decode cX4_expiring 53 = .ok (.iload_n 3, 1) := by decide +kernel
theorem dX4_expiring_54 : decode cX4_expiring 54 = .ok (.aload_n 0, 1) := by decide +kernel
theorem dX4_expiring_55 : decode cX4_expiring 55 = .ok (.getfield 41, 3) := by decide +kernel
theorem dX4_expiring_58 : decode cX4_expiring 58 = .ok (.iload 5, 2) := by decide +kernel
theorem dX4_expiring_60 : decode cX4_expiring 60 = .ok (.iaload, 1) := by decide +kernel
theorem dX4_expiring_61 : decode cX4_expiring 61 = .ok (.iload_n 1, 1) := by decide +kernel
theorem dX4_expiring_62 : decode cX4_expiring 62 = .ok (.if_icmp .ne 43, 3) := by decide +kernel
theorem dX4_expiring_65 : decode cX4_expiring 65 = .ok (.aload_n 0, 1) := by decide +kernel
theorem dX4_expiring_66 : decode cX4_expiring 66 = .ok (.getfield 44, 3) := by decide +kernel
theorem dX4_expiring_69 : decode cX4_expiring 69 = .ok (.iload 5, 2) := by decide +kernel
theorem dX4_expiring_71 : decode cX4_expiring 71 = .ok (.iaload, 1) := by decide +kernel
theorem dX4_expiring_72 : decode cX4_expiring 72 = .ok (.iconst (-1), 1) := by decide +kernel
theorem dX4_expiring_73 : decode cX4_expiring 73 = .ok (.if_icmp .eq 32, 3) := by decide +kernel
theorem dX4_expiring_76 : decode cX4_expiring 76 = .ok (.aload_n 0, 1) := by decide +kernel
theorem dX4_expiring_77 : decode cX4_expiring 77 = .ok (.iload 5, 2) := by decide +kernel
theorem dX4_expiring_79 : decode cX4_expiring 79 = .ok (.invokevirtual 113, 3) := by decide +kernel
theorem dX4_expiring_82 : decode cX4_expiring 82 = .ok (.ifCond .eq 23, 3) := by decide +kernel
theorem dX4_expiring_85 : decode cX4_expiring 85 = .ok (.aload_n 0, 1) := by decide +kernel
theorem dX4_expiring_86 : decode cX4_expiring 86 = .ok (.getfield 110, 3) := by decide +kernel
theorem dX4_expiring_89 : decode cX4_expiring 89 = .ok (.iload_n 2, 1) := by decide +kernel
theorem dX4_expiring_90 : decode cX4_expiring 90 = .ok (.iadd, 1) := by decide +kernel
theorem dX4_expiring_91 : decode cX4_expiring 91 = .ok (.aload_n 0, 1) := by decide +kernel
theorem dX4_expiring_92 : decode cX4_expiring 92 = .ok (.getfield 44, 3) := by decide +kernel
theorem dX4_expiring_95 : decode cX4_expiring 95 = .ok (.iload 5, 2) := by decide +kernel
theorem dX4_expiring_97 : decode cX4_expiring 97 = .ok (.iaload, 1) := by decide +kernel
theorem dX4_expiring_98 : decode cX4_expiring 98 = .ok (.if_icmp .le 7, 3) := by decide +kernel
theorem dX4_expiring_101 : decode cX4_expiring 101 = .ok (.iconst 1, 1) := by decide +kernel
theorem dX4_expiring_102 : decode cX4_expiring 102 = .ok (.goto 4, 3) := by decide +kernel
theorem dX4_expiring_105 : decode cX4_expiring 105 = .ok (.iconst 0, 1) := by decide +kernel
theorem dX4_expiring_106 : decode cX4_expiring 106 = .ok (.iadd, 1) := by decide +kernel
theorem dX4_expiring_107 : decode cX4_expiring 107 = .ok (.istore_n 3, 1) := by decide +kernel
theorem dX4_expiring_108 : decode cX4_expiring 108 = .ok (.iinc 4 1, 3) := by decide +kernel
theorem dX4_expiring_111 : decode cX4_expiring 111 = .ok (.goto (-76), 3) := by decide +kernel
theorem dX4_expiring_114 : decode cX4_expiring 114 = .ok (.iload_n 3, 1) := by decide +kernel
theorem dX4_expiring_115 : decode cX4_expiring 115 = .ok (.ireturn, 1) := by decide +kernel
theorem dX4_isPacket_0 : decode cX4_isPacket 0 = .ok (.iload_n 0, 1) := by decide +kernel
theorem dX4_isPacket_1 : decode cX4_isPacket 1 = .ok (.iconst 0, 1) := by decide +kernel
theorem dX4_isPacket_2 : decode cX4_isPacket 2 = .ok (.bipush 31, 2) := by decide +kernel
theorem dX4_isPacket_4 : decode cX4_isPacket 4 = .ok (.invokestatic 75, 3) := by decide +kernel
theorem dX4_isPacket_7 : decode cX4_isPacket 7 = .ok (.ifCond .eq 27, 3) := by decide +kernel
theorem dX4_isPacket_10 : decode cX4_isPacket 10 = .ok (.iload_n 1, 1) := by decide +kernel
theorem dX4_isPacket_11 : decode cX4_isPacket 11 = .ok (.iconst 0, 1) := by decide +kernel
theorem dX4_isPacket_12 : decode cX4_isPacket 12 = .ok (.bipush 31, 2) := by decide +kernel
theorem dX4_isPacket_14 : decode cX4_isPacket 14 = .ok (.invokestatic 75, 3) := by decide +kernel
theorem dX4_isPacket_17 : decode cX4_isPacket 17 = .ok (.ifCond .eq 17, 3) := by decide +kernel
theorem dX4_isPacket_20 : decode cX4_isPacket 20 = .ok (.iload_n 2, 1) := by decide +kernel
theorem dX4_isPacket_21 : decode cX4_isPacket 21 = .ok (.iconst 0, 1) := by decide +kernel
theorem dX4_isPacket_22 : decode cX4_isPacket 22 = .ok (.bipush 31, 2) := by decide +kernel
theorem dX4_isPacket_24 : decode cX4_isPacket 24 = .ok (.invokestatic 75, 3) := by decide +kernel
theorem dX4_isPacket_27 : decode cX4_isPacket 27 = .ok (.ifCond .eq 7, 3) := by decide +kernel
theorem dX4_isPacket_30 : decode cX4_isPacket 30 = .ok (.iconst 1, 1) := by decide +kernel
theorem dX4_isPacket_31 : decode cX4_isPacket 31 = .ok (.goto 4, 3) := by decide +kernel
theorem dX4_isPacket_34 : decode cX4_isPacket 34 = .ok (.iconst 0, 1) := by decide +kernel
theorem dX4_isPacket_35 : decode cX4_isPacket 35 = .ok (.ireturn, 1) := by decide +kernel
theorem dX4_deciding_0 : decode cX4_deciding 0 = .ok (.aload_n 0, 1) := by decide +kernel
theorem dX4_deciding_1 : decode cX4_deciding 1 = .ok (.getfield 62, 3) := by decide +kernel
theorem dX4_deciding_4 : decode cX4_deciding 4 = .ok (.iload_n 1, 1) := by decide +kernel
theorem dX4_deciding_5 : decode cX4_deciding 5 = .ok (.iaload, 1) := by decide +kernel
theorem dX4_deciding_6 : decode cX4_deciding 6 = .ok (.aload_n 0, 1) := by decide +kernel
theorem dX4_deciding_7 : decode cX4_deciding 7 = .ok (.getfield 62, 3) := by decide +kernel
theorem dX4_deciding_10 : decode cX4_deciding 10 = .ok (.bipush 32, 2) := by decide +kernel
theorem dX4_deciding_12 : decode cX4_deciding 12 = .ok (.iload_n 2, 1) := by decide +kernel
theorem dX4_deciding_13 : decode cX4_deciding 13 = .ok (.iadd, 1) := by decide +kernel
theorem dX4_deciding_14 : decode cX4_deciding 14 = .ok (.iaload, 1) := by decide +kernel
theorem dX4_deciding_15 : decode cX4_deciding 15 = .ok (.iand, 1) := by decide +kernel
theorem dX4_deciding_16 : decode cX4_deciding 16 = .ok (.aload_n 0, 1) := by decide +kernel
theorem dX4_deciding_17 : decode cX4_deciding 17 = .ok (.getfield 62, 3) := by decide +kernel
theorem dX4_deciding_20 : decode cX4_deciding 20 = .ok (.bipush 64, 2) := by decide +kernel
theorem dX4_deciding_22 : decode cX4_deciding 22 = .ok (.iload_n 3, 1) := by decide +kernel
theorem dX4_deciding_23 : decode cX4_deciding 23 = .ok (.iadd, 1) := by decide +kernel
theorem dX4_deciding_24 : decode cX4_deciding 24 = .ok (.iaload, 1) := by decide +kernel
theorem dX4_deciding_25 : decode cX4_deciding 25 = .ok (.iand, 1) := by decide +kernel
theorem dX4_deciding_26 : decode cX4_deciding 26 = .ok (.istore 4, 2) := by decide +kernel
theorem dX4_deciding_28 : decode cX4_deciding 28 = .ok (.iconst 0, 1) := by decide +kernel
theorem dX4_deciding_29 : decode cX4_deciding 29 = .ok (.istore 5, 2) := by decide +kernel
theorem dX4_deciding_31 : decode cX4_deciding 31 = .ok (.iload 5, 2) := by decide +kernel
theorem dX4_deciding_33 : decode cX4_deciding 33 = .ok (.aload_n 0, 1) := by decide +kernel
theorem dX4_deciding_34 : decode cX4_deciding 34 = .ok (.getfield 79, 3) := by decide +kernel
theorem dX4_deciding_37 : decode cX4_deciding 37 = .ok (.if_icmp .ge 23, 3) := by decide +kernel
theorem dX4_deciding_40 : decode cX4_deciding 40 = .ok (.iload 4, 2) := by decide +kernel
theorem dX4_deciding_42 : decode cX4_deciding 42 = .ok (.iload 5, 2) := by decide +kernel
theorem dX4_deciding_44 : decode cX4_deciding 44 = .ok (.ishr, 1) := by decide +kernel
theorem dX4_deciding_45 : decode cX4_deciding 45 = .ok (.iconst 1, 1) := by decide +kernel
theorem dX4_deciding_46 : decode cX4_deciding 46 = .ok (.iand, 1) := by decide +kernel
theorem dX4_deciding_47 : decode cX4_deciding 47 = .ok (.iconst 1, 1) := by decide +kernel
theorem dX4_deciding_48 : decode cX4_deciding 48 = .ok (.if_icmp .ne 6, 3) := by decide +kernel
theorem dX4_deciding_51 : decode cX4_deciding 51 = .ok (.iload 5, 2) := by decide +kernel
theorem dX4_deciding_53 : decode cX4_deciding 53 = .ok (.ireturn, 1) := by decide +kernel
theorem dX4_deciding_54 : decode cX4_deciding 54 = .ok (.iinc 5 1, 3) := by decide +kernel
theorem dX4_deciding_57 : decode cX4_deciding 57 = .ok (.goto (-26), 3) := by decide +kernel
theorem dX4_deciding_60 : decode cX4_deciding 60 = .ok (.iconst (-1), 1) := by decide +kernel
theorem dX4_deciding_61 : decode cX4_deciding 61 = .ok (.ireturn, 1) := by decide +kernel
theorem dX4_packet_0 : decode cX4_packet 0 = .ok (.aload_n 0, 1) := by decide +kernel
theorem dX4_packet_1 : decode cX4_packet 1 = .ok (.iload_n 1, 1) := by decide +kernel
theorem dX4_packet_2 : decode cX4_packet 2 = .ok (.iload_n 2, 1) := by decide +kernel
theorem dX4_packet_3 : decode cX4_packet 3 = .ok (.iload_n 3, 1) := by decide +kernel
theorem dX4_packet_4 : decode cX4_packet 4 = .ok (.invokestatic 140, 3) := by decide +kernel
theorem dX4_packet_7 : decode cX4_packet 7 = .ok (.ifCond .eq 7, 3) := by decide +kernel
theorem dX4_packet_10 : decode cX4_packet 10 = .ok (.iconst 0, 1) := by decide +kernel
theorem dX4_packet_11 : decode cX4_packet 11 = .ok (.goto 4, 3) := by decide +kernel
theorem dX4_packet_14 : decode cX4_packet 14 = .ok (.iconst 1, 1) := by decide +kernel
theorem dX4_packet_15 : decode cX4_packet 15 = .ok (.putfield 68, 3) := by decide +kernel
theorem dX4_packet_18 : decode cX4_packet 18 = .ok (.aload_n 0, 1) := by decide +kernel
theorem dX4_packet_19 : decode cX4_packet 19 = .ok (.getfield 68, 3) := by decide +kernel
theorem dX4_packet_22 : decode cX4_packet 22 = .ok (.ifCond .le 5, 3) := by decide +kernel
theorem dX4_packet_25 : decode cX4_packet 25 = .ok (.iconst 0, 1) := by decide +kernel
theorem dX4_packet_26 : decode cX4_packet 26 = .ok (.ireturn, 1) := by decide +kernel
theorem dX4_packet_27 : decode cX4_packet 27 = .ok (.aload_n 0, 1) := by decide +kernel
theorem dX4_packet_28 : decode cX4_packet 28 = .ok (.invokevirtual 130, 3) := by decide +kernel
theorem dX4_packet_31 : decode cX4_packet 31 = .ok (.pop, 1) := by decide +kernel
theorem dX4_packet_32 : decode cX4_packet 32 = .ok (.aload_n 0, 1) := by decide +kernel
theorem dX4_packet_33 : decode cX4_packet 33 = .ok (.iload_n 1, 1) := by decide +kernel
theorem dX4_packet_34 : decode cX4_packet 34 = .ok (.iload_n 2, 1) := by decide +kernel
theorem dX4_packet_35 : decode cX4_packet 35 = .ok (.iload_n 3, 1) := by decide +kernel
theorem dX4_packet_36 : decode cX4_packet 36 = .ok (.invokevirtual 143, 3) := by decide +kernel
theorem dX4_packet_39 : decode cX4_packet 39 = .ok (.istore 4, 2) := by decide +kernel
theorem dX4_packet_41 : decode cX4_packet 41 = .ok (.iload 4, 2) := by decide +kernel
theorem dX4_packet_43 : decode cX4_packet 43 = .ok (.iconst (-1), 1) := by decide +kernel
theorem dX4_packet_44 : decode cX4_packet 44 = .ok (.if_icmp .ne 6, 3) := by decide +kernel
theorem dX4_packet_47 : decode cX4_packet 47 = .ok (.bipush 100, 2) := by decide +kernel
theorem dX4_packet_49 : decode cX4_packet 49 = .ok (.ireturn, 1) := by decide +kernel
theorem dX4_packet_50 : decode cX4_packet 50 = .ok (.aload_n 0, 1) := by decide +kernel
theorem dX4_packet_51 : decode cX4_packet 51 = .ok (.getfield 25, 3) := by decide +kernel
theorem dX4_packet_54 : decode cX4_packet 54 = .ok (.iload 4, 2) := by decide +kernel
theorem dX4_packet_56 : decode cX4_packet 56 = .ok (.iaload, 1) := by decide +kernel
theorem dX4_packet_57 : decode cX4_packet 57 = .ok (.istore 5, 2) := by decide +kernel
theorem dX4_packet_59 : decode cX4_packet 59 = .ok (.aload_n 0, 1) := by decide +kernel
theorem dX4_packet_60 : decode cX4_packet 60 = .ok (.getfield 47, 3) := by decide +kernel
theorem dX4_packet_63 : decode cX4_packet 63 = .ok (.iload 5, 2) := by decide +kernel
theorem dX4_packet_65 : decode cX4_packet 65 = .ok (.dup2, 1) := by decide +kernel
theorem dX4_packet_66 : decode cX4_packet 66 = .ok (.iaload, 1) := by decide +kernel
theorem dX4_packet_67 : decode cX4_packet 67 = .ok (.iconst 1, 1) := by decide +kernel
theorem dX4_packet_68 : decode cX4_packet 68 = .ok (.iadd, 1) := by decide +kernel
theorem dX4_packet_69 : decode cX4_packet 69 = .ok (.iastore, 1) := by decide +kernel
theorem dX4_packet_70 : decode cX4_packet 70 = .ok (.aload_n 0, 1) := by decide +kernel
theorem dX4_packet_71 : decode cX4_packet 71 = .ok (.getfield 50, 3) := by decide +kernel
theorem dX4_packet_74 : decode cX4_packet 74 = .ok (.iload 5, 2) := by decide +kernel
theorem dX4_packet_76 : decode cX4_packet 76 = .ok (.aload_n 0, 1) := by decide +kernel
theorem dX4_packet_77 : decode cX4_packet 77 = .ok (.getfield 110, 3) := by decide +kernel
theorem dX4_packet_80 : decode cX4_packet 80 = .ok (.iastore, 1) := by decide +kernel
theorem dX4_packet_81 : decode cX4_packet 81 = .ok (.aload_n 0, 1) := by decide +kernel
theorem dX4_packet_82 : decode cX4_packet 82 = .ok (.getfield 53, 3) := by decide +kernel
theorem dX4_packet_85 : decode cX4_packet 85 = .ok (.iload 5, 2) := by decide +kernel
theorem dX4_packet_87 : decode cX4_packet 87 = .ok (.dup2, 1) := by decide +kernel
theorem dX4_packet_88 : decode cX4_packet 88 = .ok (.iaload, 1) := by decide +kernel
theorem dX4_packet_89 : decode cX4_packet 89 = .ok (.aload_n 0, 1) := by decide +kernel
theorem dX4_packet_90 : decode cX4_packet 90 = .ok (.getfield 56, 3) := by decide +kernel
theorem dX4_packet_93 : decode cX4_packet 93 = .ok (.iload 5, 2) := by decide +kernel
theorem dX4_packet_95 : decode cX4_packet 95 = .ok (.iaload, 1) := by decide +kernel
theorem dX4_packet_96 : decode cX4_packet 96 = .ok (.aload_n 0, 1) := by decide +kernel
theorem dX4_packet_97 : decode cX4_packet 97 = .ok (.getfield 110, 3) := by decide +kernel
theorem dX4_packet_100 : decode cX4_packet 100 = .ok (.if_icmp .ne 7, 3) := by decide +kernel
theorem dX4_packet_103 : decode cX4_packet 103 = .ok (.iconst 0, 1) := by decide +kernel
theorem dX4_packet_104 : decode cX4_packet 104 = .ok (.goto 4, 3) := by decide +kernel
theorem dX4_packet_107 : decode cX4_packet 107 = .ok (.iconst 1, 1) := by decide +kernel
theorem dX4_packet_108 : decode cX4_packet 108 = .ok (.iadd, 1) := by decide +kernel
theorem dX4_packet_109 : decode cX4_packet 109 = .ok (.iastore, 1) := by decide +kernel
theorem dX4_packet_110 : decode cX4_packet 110 = .ok (.aload_n 0, 1) := by decide +kernel
theorem dX4_packet_111 : decode cX4_packet 111 = .ok (.getfield 56, 3) := by decide +kernel
theorem dX4_packet_114 : decode cX4_packet 114 = .ok (.iload 5, 2) := by decide +kernel
theorem dX4_packet_116 : decode cX4_packet 116 = .ok (.aload_n 0, 1) := by decide +kernel
theorem dX4_packet_117 : decode cX4_packet 117 = .ok (.getfield 110, 3) := by decide +kernel
theorem dX4_packet_120 : decode cX4_packet 120 = .ok (.iastore, 1) := by decide +kernel
theorem dX4_packet_121 : decode cX4_packet 121 = .ok (.aload_n 0, 1) := by decide +kernel
theorem dX4_packet_122 : decode cX4_packet 122 = .ok (.getfield 35, 3) := by decide +kernel
theorem dX4_packet_125 : decode cX4_packet 125 = .ok (.iload 5, 2) := by decide +kernel
theorem dX4_packet_127 : decode cX4_packet 127 = .ok (.baload, 1) := by decide +kernel
theorem dX4_packet_128 : decode cX4_packet 128 = .ok (.ifCond .eq 8, 3) := by decide +kernel
theorem dX4_packet_131 : decode cX4_packet 131 = .ok (.bipush 97, 2) := by decide +kernel
theorem dX4_packet_133 : decode cX4_packet 133 = .ok (.goto 5, 3) := by decide +kernel
theorem dX4_packet_136 : decode cX4_packet 136 = .ok (.bipush 100, 2) := by decide +kernel
theorem dX4_packet_138 : decode cX4_packet 138 = .ok (.ireturn, 1) := by decide +kernel
theorem dX4_decider_0 : decode cX4_decider 0 = .ok (.aload_n 0, 1) := by decide +kernel
theorem dX4_decider_1 : decode cX4_decider 1 = .ok (.iconst 0, 1) := by decide +kernel
theorem dX4_decider_2 : decode cX4_decider 2 = .ok (.putfield 68, 3) := by decide +kernel
theorem dX4_decider_5 : decode cX4_decider 5 = .ok (.iload_n 1, 1) := by decide +kernel
theorem dX4_decider_6 : decode cX4_decider 6 = .ok (.iload_n 2, 1) := by decide +kernel
theorem dX4_decider_7 : decode cX4_decider 7 = .ok (.iload_n 3, 1) := by decide +kernel
theorem dX4_decider_8 : decode cX4_decider 8 = .ok (.invokestatic 140, 3) := by decide +kernel
theorem dX4_decider_11 : decode cX4_decider 11 = .ok (.ifCond .ne 9, 3) := by decide +kernel
theorem dX4_decider_14 : decode cX4_decider 14 = .ok (.aload_n 0, 1) := by decide +kernel
theorem dX4_decider_15 : decode cX4_decider 15 = .ok (.iconst 1, 1) := by decide +kernel
theorem dX4_decider_16 : decode cX4_decider 16 = .ok (.invokevirtual 90, 3) := by decide +kernel
theorem dX4_decider_19 : decode cX4_decider 19 = .ok (.ireturn, 1) := by decide +kernel
theorem dX4_decider_20 : decode cX4_decider 20 = .ok (.aload_n 0, 1) := by decide +kernel
theorem dX4_decider_21 : decode cX4_decider 21 = .ok (.invokevirtual 130, 3) := by decide +kernel
theorem dX4_decider_24 : decode cX4_decider 24 = .ok (.pop, 1) := by decide +kernel
theorem dX4_decider_25 : decode cX4_decider 25 = .ok (.aload_n 0, 1) := by decide +kernel
theorem dX4_decider_26 : decode cX4_decider 26 = .ok (.iload_n 1, 1) := by decide +kernel
theorem dX4_decider_27 : decode cX4_decider 27 = .ok (.iload_n 2, 1) := by decide +kernel
theorem dX4_decider_28 : decode cX4_decider 28 = .ok (.iload_n 3, 1) := by decide +kernel
theorem dX4_decider_29 : decode cX4_decider 29 = .ok (.invokevirtual 143, 3) := by decide +kernel
theorem dX4_decider_32 : decode cX4_decider 32 = .ok (.istore 4, 2) := by decide +kernel
theorem dX4_decider_34 : decode cX4_decider 34 = .ok (.iload 4, 2) := by decide +kernel
theorem dX4_decider_36 : decode cX4_decider 36 = .ok (.iconst (-1), 1) := by decide +kernel
theorem dX4_decider_37 : decode cX4_decider 37 = .ok (.if_icmp .ne 7, 3) := by decide +kernel
theorem dX4_decider_40 : decode cX4_decider 40 = .ok (.iconst (-1), 1) := by decide +kernel
theorem dX4_decider_41 : decode cX4_decider 41 = .ok (.goto 15, 3) := by decide +kernel
theorem dX4_decider_44 : decode cX4_decider 44 = .ok (.aload_n 0, 1) := by decide +kernel
theorem dX4_decider_45 : decode cX4_decider 45 = .ok (.getfield 32, 3) := by decide +kernel
theorem dX4_decider_48 : decode cX4_decider 48 = .ok (.aload_n 0, 1) := by decide +kernel
theorem dX4_decider_49 : decode cX4_decider 49 = .ok (.getfield 25, 3) := by decide +kernel
theorem dX4_decider_52 : decode cX4_decider 52 = .ok (.iload 4, 2) := by decide +kernel
theorem dX4_decider_54 : decode cX4_decider 54 = .ok (.iaload, 1) := by decide +kernel
theorem dX4_decider_55 : decode cX4_decider 55 = .ok (.iaload, 1) := by decide +kernel
theorem dX4_decider_56 : decode cX4_decider 56 = .ok (.ireturn, 1) := by decide +kernel
theorem dX4_hits_0 : decode cX4_hits 0 = .ok (.aload_n 0, 1) := by decide +kernel
theorem dX4_hits_1 : decode cX4_hits 1 = .ok (.iload_n 1, 1) := by decide +kernel
theorem dX4_hits_2 : decode cX4_hits 2 = .ok (.invokevirtual 137, 3) := by decide +kernel
theorem dX4_hits_5 : decode cX4_hits 5 = .ok (.istore_n 2, 1) := by decide +kernel
theorem dX4_hits_6 : decode cX4_hits 6 = .ok (.aload_n 0, 1) := by decide +kernel
theorem dX4_hits_7 : decode cX4_hits 7 = .ok (.getfield 68, 3) := by decide +kernel
theorem dX4_hits_10 : decode cX4_hits 10 = .ok (.ifCond .le 7, 3) := by decide +kernel
theorem dX4_hits_13 : decode cX4_hits 13 = .ok (.iconst 0, 1) := by decide +kernel
theorem dX4_hits_14 : decode cX4_hits 14 = .ok (.goto 9, 3) := by decide +kernel
theorem dX4_hits_17 : decode cX4_hits 17 = .ok (.aload_n 0, 1) := by decide +kernel
theorem dX4_hits_18 : decode cX4_hits 18 = .ok (.getfield 47, 3) := by decide +kernel
theorem dX4_hits_21 : decode cX4_hits 21 = .ok (.iload_n 2, 1) := by decide +kernel
theorem dX4_hits_22 : decode cX4_hits 22 = .ok (.iaload, 1) := by decide +kernel
theorem dX4_hits_23 : decode cX4_hits 23 = .ok (.ireturn, 1) := by decide +kernel
theorem dX4_busyDays_0 : decode cX4_busyDays 0 = .ok (.aload_n 0, 1) := by decide +kernel
theorem dX4_busyDays_1 : decode cX4_busyDays 1 = .ok (.iload_n 1, 1) := by decide +kernel
theorem dX4_busyDays_2 : decode cX4_busyDays 2 = .ok (.invokevirtual 137, 3) := by decide +kernel
theorem dX4_busyDays_5 : decode cX4_busyDays 5 = .ok (.istore_n 2, 1) := by decide +kernel
theorem dX4_busyDays_6 : decode cX4_busyDays 6 = .ok (.aload_n 0, 1) := by decide +kernel
theorem dX4_busyDays_7 : decode cX4_busyDays 7 = .ok (.getfield 68, 3) := by decide +kernel
theorem dX4_busyDays_10 : decode cX4_busyDays 10 = .ok (.ifCond .le 7, 3) := by decide +kernel
theorem dX4_busyDays_13 : decode cX4_busyDays 13 = .ok (.iconst 0, 1) := by decide +kernel
theorem dX4_busyDays_14 : decode cX4_busyDays 14 = .ok (.goto 9, 3) := by decide +kernel
theorem dX4_busyDays_17 : decode cX4_busyDays 17 = .ok (.aload_n 0, 1) := by decide +kernel
theorem dX4_busyDays_18 : decode cX4_busyDays 18 = .ok (.getfield 53, 3) := by decide +kernel
theorem dX4_busyDays_21 : decode cX4_busyDays 21 = .ok (.iload_n 2, 1) := by decide +kernel
theorem dX4_busyDays_22 : decode cX4_busyDays 22 = .ok (.iaload, 1) := by decide +kernel
theorem dX4_busyDays_23 : decode cX4_busyDays 23 = .ok (.ireturn, 1) := by decide +kernel
theorem dX4_idleDays_0 : decode cX4_idleDays 0 = .ok (.aload_n 0, 1) := by decide +kernel
theorem dX4_idleDays_1 : decode cX4_idleDays 1 = .ok (.iload_n 1, 1) := by decide +kernel
theorem dX4_idleDays_2 : decode cX4_idleDays 2 = .ok (.invokevirtual 137, 3) := by decide +kernel
theorem dX4_idleDays_5 : decode cX4_idleDays 5 = .ok (.istore_n 2, 1) := by decide +kernel
theorem dX4_idleDays_6 : decode cX4_idleDays 6 = .ok (.aload_n 0, 1) := by decide +kernel
theorem dX4_idleDays_7 : decode cX4_idleDays 7 = .ok (.getfield 68, 3) := by decide +kernel
theorem dX4_idleDays_10 : decode cX4_idleDays 10 = .ok (.ifCond .le 7, 3) := by decide +kernel
theorem dX4_idleDays_13 : decode cX4_idleDays 13 = .ok (.iconst 0, 1) := by decide +kernel
theorem dX4_idleDays_14 : decode cX4_idleDays 14 = .ok (.goto 14, 3) := by decide +kernel
theorem dX4_idleDays_17 : decode cX4_idleDays 17 = .ok (.aload_n 0, 1) := by decide +kernel
theorem dX4_idleDays_18 : decode cX4_idleDays 18 = .ok (.getfield 110, 3) := by decide +kernel
theorem dX4_idleDays_21 : decode cX4_idleDays 21 = .ok (.aload_n 0, 1) := by decide +kernel
theorem dX4_idleDays_22 : decode cX4_idleDays 22 = .ok (.getfield 50, 3) := by decide +kernel
theorem dX4_idleDays_25 : decode cX4_idleDays 25 = .ok (.iload_n 2, 1) := by decide +kernel
theorem dX4_idleDays_26 : decode cX4_idleDays 26 = .ok (.iaload, 1) := by decide +kernel
theorem dX4_idleDays_27 : decode cX4_idleDays 27 = .ok (.isub, 1) := by decide +kernel
theorem dX4_idleDays_28 : decode cX4_idleDays 28 = .ok (.ireturn, 1) := by decide +kernel
theorem dX4_pass_0 : decode cX4_pass 0 = .ok (.aload_n 0, 1) := by decide +kernel
theorem dX4_pass_1 : decode cX4_pass 1 = .ok (.iconst 0, 1) := by decide +kernel
theorem dX4_pass_2 : decode cX4_pass 2 = .ok (.putfield 68, 3) := by decide +kernel
theorem dX4_pass_5 : decode cX4_pass 5 = .ok (.iload_n 1, 1) := by decide +kernel
theorem dX4_pass_6 : decode cX4_pass 6 = .ok (.iconst 1, 1) := by decide +kernel
theorem dX4_pass_7 : decode cX4_pass 7 = .ok (.bipush 99, 2) := by decide +kernel
theorem dX4_pass_9 : decode cX4_pass 9 = .ok (.invokestatic 75, 3) := by decide +kernel
theorem dX4_pass_12 : decode cX4_pass 12 = .ok (.ifCond .eq 15, 3) := by decide +kernel
theorem dX4_pass_15 : decode cX4_pass 15 = .ok (.aload_n 0, 1) := by decide +kernel
theorem dX4_pass_16 : decode cX4_pass 16 = .ok (.getfield 110, 3) := by decide +kernel
theorem dX4_pass_19 : decode cX4_pass 19 = .ok (.iload_n 1, 1) := by decide +kernel
theorem dX4_pass_20 : decode cX4_pass 20 = .ok (.iadd, 1) := by decide +kernel
theorem dX4_pass_21 : decode cX4_pass 21 = .ok (.sipush 999, 3) := by decide +kernel
theorem dX4_pass_24 : decode cX4_pass 24 = .ok (.if_icmp .le 9, 3) := by decide +kernel
theorem dX4_pass_27 : decode cX4_pass 27 = .ok (.aload_n 0, 1) := by decide +kernel
theorem dX4_pass_28 : decode cX4_pass 28 = .ok (.iconst 1, 1) := by decide +kernel
theorem dX4_pass_29 : decode cX4_pass 29 = .ok (.invokevirtual 90, 3) := by decide +kernel
theorem dX4_pass_32 : decode cX4_pass 32 = .ok (.ireturn, 1) := by decide +kernel
theorem dX4_pass_33 : decode cX4_pass 33 = .ok (.aload_n 0, 1) := by decide +kernel
theorem dX4_pass_34 : decode cX4_pass 34 = .ok (.dup, 1) := by decide +kernel
theorem dX4_pass_35 : decode cX4_pass 35 = .ok (.getfield 110, 3) := by decide +kernel
theorem dX4_pass_38 : decode cX4_pass 38 = .ok (.iload_n 1, 1) := by decide +kernel
theorem dX4_pass_39 : decode cX4_pass 39 = .ok (.iadd, 1) := by decide +kernel
theorem dX4_pass_40 : decode cX4_pass 40 = .ok (.putfield 110, 3) := by decide +kernel
theorem dX4_pass_43 : decode cX4_pass 43 = .ok (.aload_n 0, 1) := by decide +kernel
theorem dX4_pass_44 : decode cX4_pass 44 = .ok (.getfield 110, 3) := by decide +kernel
theorem dX4_pass_47 : decode cX4_pass 47 = .ok (.ireturn, 1) := by decide +kernel
theorem dX4_day_0 : decode cX4_day 0 = .ok (.aload_n 0, 1) := by decide +kernel
theorem dX4_day_1 : decode cX4_day 1 = .ok (.iconst 0, 1) := by decide +kernel
theorem dX4_day_2 : decode cX4_day 2 = .ok (.putfield 68, 3) := by decide +kernel
theorem dX4_day_5 : decode cX4_day 5 = .ok (.aload_n 0, 1) := by decide +kernel
theorem dX4_day_6 : decode cX4_day 6 = .ok (.getfield 110, 3) := by decide +kernel
theorem dX4_day_9 : decode cX4_day 9 = .ok (.ireturn, 1) := by decide +kernel
theorem dX4_matched_0 : decode cX4_matched 0 = .ok (.aload_n 0, 1) := by decide +kernel
theorem dX4_matched_1 : decode cX4_matched 1 = .ok (.iload_n 1, 1) := by decide +kernel
theorem dX4_matched_2 : decode cX4_matched 2 = .ok (.invokevirtual 137, 3) := by decide +kernel
theorem dX4_matched_5 : decode cX4_matched 5 = .ok (.istore_n 2, 1) := by decide +kernel
theorem dX4_matched_6 : decode cX4_matched 6 = .ok (.aload_n 0, 1) := by decide +kernel
theorem dX4_matched_7 : decode cX4_matched 7 = .ok (.getfield 68, 3) := by decide +kernel
theorem dX4_matched_10 : decode cX4_matched 10 = .ok (.ifCond .le 5, 3) := by decide +kernel
theorem dX4_matched_13 : decode cX4_matched 13 = .ok (.iconst 0, 1) := by decide +kernel
theorem dX4_matched_14 : decode cX4_matched 14 = .ok (.ireturn, 1) := by decide +kernel
theorem dX4_matched_15 : decode cX4_matched 15 = .ok (.aload_n 0, 1) := by decide +kernel
theorem dX4_matched_16 : decode cX4_matched 16 = .ok (.iconst (-1), 1) := by decide +kernel
theorem dX4_matched_17 : decode cX4_matched 17 = .ok (.iconst 0, 1) := by decide +kernel
theorem dX4_matched_18 : decode cX4_matched 18 = .ok (.invokevirtual 103, 3) := by decide +kernel
theorem dX4_matched_21 : decode cX4_matched 21 = .ok (.aload_n 0, 1) := by decide +kernel
theorem dX4_matched_22 : decode cX4_matched 22 = .ok (.iload_n 2, 1) := by decide +kernel
theorem dX4_matched_23 : decode cX4_matched 23 = .ok (.iconst 0, 1) := by decide +kernel
theorem dX4_matched_24 : decode cX4_matched 24 = .ok (.invokevirtual 116, 3) := by decide +kernel
theorem dX4_matched_27 : decode cX4_matched 27 = .ok (.invokestatic 107, 3) := by decide +kernel
theorem dX4_matched_30 : decode cX4_matched 30 = .ok (.aload_n 0, 1) := by decide +kernel
theorem dX4_matched_31 : decode cX4_matched 31 = .ok (.iload_n 2, 1) := by decide +kernel
theorem dX4_matched_32 : decode cX4_matched 32 = .ok (.iconst 1, 1) := by decide +kernel
theorem dX4_matched_33 : decode cX4_matched 33 = .ok (.invokevirtual 116, 3) := by decide +kernel
theorem dX4_matched_36 : decode cX4_matched 36 = .ok (.invokestatic 107, 3) := by decide +kernel
theorem dX4_matched_39 : decode cX4_matched 39 = .ok (.imul, 1) := by decide +kernel
theorem dX4_matched_40 : decode cX4_matched 40 = .ok (.aload_n 0, 1) := by decide +kernel
theorem dX4_matched_41 : decode cX4_matched 41 = .ok (.iload_n 2, 1) := by decide +kernel
theorem dX4_matched_42 : decode cX4_matched 42 = .ok (.iconst 2, 1) := by decide +kernel
theorem dX4_matched_43 : decode cX4_matched 43 = .ok (.invokevirtual 116, 3) := by decide +kernel
theorem dX4_matched_46 : decode cX4_matched 46 = .ok (.invokestatic 107, 3) := by decide +kernel
theorem dX4_matched_49 : decode cX4_matched 49 = .ok (.imul, 1) := by decide +kernel
theorem dX4_matched_50 : decode cX4_matched 50 = .ok (.ireturn, 1) := by decide +kernel
theorem dX4_deciding__0 : decode cX4_deciding_ 0 = .ok (.iconst 0, 1) := by decide +kernel
theorem dX4_deciding__1 : decode cX4_deciding_ 1 = .ok (.istore_n 2, 1) := by decide +kernel
theorem dX4_deciding__2 : decode cX4_deciding_ 2 = .ok (.iconst 0, 1) := by decide +kernel
theorem dX4_deciding__3 : decode cX4_deciding_ 3 = .ok (.istore_n 3, 1) := by decide +kernel
theorem dX4_deciding__4 : decode cX4_deciding_ 4 = .ok (.iload_n 3, 1) := by decide +kernel
theorem dX4_deciding__5 : decode cX4_deciding_ 5 = .ok (.ldc 123, 2) := by decide +kernel
theorem dX4_deciding__7 : decode cX4_deciding_ 7 = .ok (.if_icmp .ge 65, 3) := by decide +kernel
theorem dX4_deciding__10 : decode cX4_deciding_ 10 = .ok (.iload_n 2, 1) := by decide +kernel
theorem dX4_deciding__11 : decode cX4_deciding_ 11 = .ok (.aload_n 0, 1) := by decide +kernel
theorem dX4_deciding__12 : decode cX4_deciding_ 12 = .ok (.getfield 62, 3) := by decide +kernel
theorem dX4_deciding__15 : decode cX4_deciding_ 15 = .ok (.iload_n 3, 1) := by decide +kernel
theorem dX4_deciding__16 : decode cX4_deciding_ 16 = .ok (.sipush 1024, 3) := by decide +kernel
theorem dX4_deciding__19 : decode cX4_deciding_ 19 = .ok (.idiv, 1) := by decide +kernel
theorem dX4_deciding__20 : decode cX4_deciding_ 20 = .ok (.iaload, 1) := by decide +kernel
theorem dX4_deciding__21 : decode cX4_deciding_ 21 = .ok (.aload_n 0, 1) := by decide +kernel
theorem dX4_deciding__22 : decode cX4_deciding_ 22 = .ok (.getfield 62, 3) := by decide +kernel
theorem dX4_deciding__25 : decode cX4_deciding_ 25 = .ok (.bipush 32, 2) := by decide +kernel
theorem dX4_deciding__27 : decode cX4_deciding_ 27 = .ok (.iload_n 3, 1) := by decide +kernel
theorem dX4_deciding__28 : decode cX4_deciding_ 28 = .ok (.bipush 32, 2) := by decide +kernel
theorem dX4_deciding__30 : decode cX4_deciding_ 30 = .ok (.idiv, 1) := by decide +kernel
theorem dX4_deciding__31 : decode cX4_deciding_ 31 = .ok (.bipush 32, 2) := by decide +kernel
theorem dX4_deciding__33 : decode cX4_deciding_ 33 = .ok (.irem, 1) := by decide +kernel
theorem dX4_deciding__34 : decode cX4_deciding_ 34 = .ok (.iadd, 1) := by decide +kernel
theorem dX4_deciding__35 : decode cX4_deciding_ 35 = .ok (.iaload, 1) := by decide +kernel
theorem dX4_deciding__36 : decode cX4_deciding_ 36 = .ok (.iand, 1) := by decide +kernel
theorem dX4_deciding__37 : decode cX4_deciding_ 37 = .ok (.aload_n 0, 1) := by decide +kernel
theorem dX4_deciding__38 : decode cX4_deciding_ 38 = .ok (.getfield 62, 3) := by decide +kernel
theorem dX4_deciding__41 : decode cX4_deciding_ 41 = .ok (.bipush 64, 2) := by decide +kernel
theorem dX4_deciding__43 : decode cX4_deciding_ 43 = .ok (.iload_n 3, 1) := by decide +kernel
theorem dX4_deciding__44 : decode cX4_deciding_ 44 = .ok (.bipush 32, 2) := by decide +kernel
theorem dX4_deciding__46 : decode cX4_deciding_ 46 = .ok (.irem, 1) := by decide +kernel
theorem dX4_deciding__47 : decode cX4_deciding_ 47 = .ok (.iadd, 1) := by decide +kernel
theorem dX4_deciding__48 : decode cX4_deciding_ 48 = .ok (.iaload, 1) := by decide +kernel
theorem dX4_deciding__49 : decode cX4_deciding_ 49 = .ok (.iand, 1) := by decide +kernel
theorem dX4_deciding__50 : decode cX4_deciding_ 50 = .ok (.invokestatic 124, 3) := by decide +kernel
theorem dX4_deciding__53 : decode cX4_deciding_ 53 = .ok (.iconst 1, 1) := by decide +kernel
theorem dX4_deciding__54 : decode cX4_deciding_ 54 = .ok (.iload_n 1, 1) := by decide +kernel
theorem dX4_deciding__55 : decode cX4_deciding_ 55 = .ok (.ishl, 1) := by decide +kernel
theorem dX4_deciding__56 : decode cX4_deciding_ 56 = .ok (.if_icmp .ne 7, 3) := by decide +kernel
theorem dX4_deciding__59 : decode cX4_deciding_ 59 = .ok (.iconst 1, 1) := by decide +kernel
theorem dX4_deciding__60 : decode cX4_deciding_ 60 = .ok (.goto 4, 3) := by decide +kernel
theorem dX4_deciding__63 : decode cX4_deciding_ 63 = .ok (.iconst 0, 1) := by decide +kernel
theorem dX4_deciding__64 : decode cX4_deciding_ 64 = .ok (.iadd, 1) := by decide +kernel
theorem dX4_deciding__65 : decode cX4_deciding_ 65 = .ok (.istore_n 2, 1) := by decide +kernel
theorem dX4_deciding__66 : decode cX4_deciding_ 66 = .ok (.iinc 3 1, 3) := by decide +kernel
theorem dX4_deciding__69 : decode cX4_deciding_ 69 = .ok (.goto (-65), 3) := by decide +kernel
theorem dX4_deciding__72 : decode cX4_deciding_ 72 = .ok (.iload_n 2, 1) := by decide +kernel
theorem dX4_deciding__73 : decode cX4_deciding_ 73 = .ok (.ireturn, 1) := by decide +kernel
theorem dX4_decided_0 : decode cX4_decided 0 = .ok (.aload_n 0, 1) := by decide +kernel
theorem dX4_decided_1 : decode cX4_decided 1 = .ok (.iconst 0, 1) := by decide +kernel
theorem dX4_decided_2 : decode cX4_decided 2 = .ok (.putfield 68, 3) := by decide +kernel
theorem dX4_decided_5 : decode cX4_decided 5 = .ok (.aload_n 0, 1) := by decide +kernel
theorem dX4_decided_6 : decode cX4_decided 6 = .ok (.iload_n 1, 1) := by decide +kernel
theorem dX4_decided_7 : decode cX4_decided 7 = .ok (.invokevirtual 82, 3) := by decide +kernel
theorem dX4_decided_10 : decode cX4_decided 10 = .ok (.istore_n 2, 1) := by decide +kernel
theorem dX4_decided_11 : decode cX4_decided 11 = .ok (.iload_n 2, 1) := by decide +kernel
theorem dX4_decided_12 : decode cX4_decided 12 = .ok (.iconst (-1), 1) := by decide +kernel
theorem dX4_decided_13 : decode cX4_decided 13 = .ok (.if_icmp .ne 9, 3) := by decide +kernel
theorem dX4_decided_16 : decode cX4_decided 16 = .ok (.aload_n 0, 1) := by decide +kernel
theorem dX4_decided_17 : decode cX4_decided 17 = .ok (.iconst 1, 1) := by decide +kernel
theorem dX4_decided_18 : decode cX4_decided 18 = .ok (.invokevirtual 90, 3) := by decide +kernel
theorem dX4_decided_21 : decode cX4_decided 21 = .ok (.ireturn, 1) := by decide +kernel
theorem dX4_decided_22 : decode cX4_decided 22 = .ok (.aload_n 0, 1) := by decide +kernel
theorem dX4_decided_23 : decode cX4_decided 23 = .ok (.invokevirtual 130, 3) := by decide +kernel
theorem dX4_decided_26 : decode cX4_decided 26 = .ok (.pop, 1) := by decide +kernel
theorem dX4_decided_27 : decode cX4_decided 27 = .ok (.aload_n 0, 1) := by decide +kernel
theorem dX4_decided_28 : decode cX4_decided 28 = .ok (.iload_n 2, 1) := by decide +kernel
theorem dX4_decided_29 : decode cX4_decided 29 = .ok (.invokevirtual 147, 3) := by decide +kernel
theorem dX4_decided_32 : decode cX4_decided 32 = .ok (.ireturn, 1) := by decide +kernel
theorem dX4_decidedBySamples_0 : decode cX4_decidedBySamples 0 = .ok (.aload_n 0, 1) := by decide +kernel
theorem dX4_decidedBySamples_1 : decode cX4_decidedBySamples 1 = .ok (.iload_n 1, 1) := by decide +kernel
theorem dX4_decidedBySamples_2 : decode cX4_decidedBySamples 2 = .ok (.invokevirtual 149, 3) := by decide +kernel
theorem dX4_decidedBySamples_5 : decode cX4_decidedBySamples 5 = .ok (.ireturn, 1) := by decide +kernel
theorem dX4_isShadowed_0 : decode cX4_isShadowed 0 = .ok (.aload_n 0, 1) := by decide +kernel
theorem dX4_isShadowed_1 : decode cX4_isShadowed 1 = .ok (.iload_n 1, 1) := by decide +kernel
theorem dX4_isShadowed_2 : decode cX4_isShadowed 2 = .ok (.invokevirtual 137, 3) := by decide +kernel
theorem dX4_isShadowed_5 : decode cX4_isShadowed 5 = .ok (.istore_n 2, 1) := by decide +kernel
theorem dX4_isShadowed_6 : decode cX4_isShadowed 6 = .ok (.aload_n 0, 1) := by decide +kernel
theorem dX4_isShadowed_7 : decode cX4_isShadowed 7 = .ok (.getfield 68, 3) := by decide +kernel
theorem dX4_isShadowed_10 : decode cX4_isShadowed 10 = .ok (.ifCond .ne 23, 3) := by decide +kernel
theorem dX4_isShadowed_13 : decode cX4_isShadowed 13 = .ok (.aload_n 0, 1) := by decide +kernel
theorem dX4_isShadowed_14 : decode cX4_isShadowed 14 = .ok (.iload_n 2, 1) := by decide +kernel
theorem dX4_isShadowed_15 : decode cX4_isShadowed 15 = .ok (.invokevirtual 113, 3) := by decide +kernel
theorem dX4_isShadowed_18 : decode cX4_isShadowed 18 = .ok (.ifCond .eq 15, 3) := by decide +kernel
theorem dX4_isShadowed_21 : decode cX4_isShadowed 21 = .ok (.aload_n 0, 1) := by decide +kernel
theorem dX4_isShadowed_22 : decode cX4_isShadowed 22 = .ok (.iload_n 1, 1) := by decide +kernel
theorem dX4_isShadowed_23 : decode cX4_isShadowed 23 = .ok (.invokevirtual 149, 3) := by decide +kernel
theorem dX4_isShadowed_26 : decode cX4_isShadowed 26 = .ok (.ifCond .ne 7, 3) := by decide +kernel
theorem dX4_isShadowed_29 : decode cX4_isShadowed 29 = .ok (.iconst 1, 1) := by decide +kernel
theorem dX4_isShadowed_30 : decode cX4_isShadowed 30 = .ok (.goto 4, 3) := by decide +kernel
theorem dX4_isShadowed_33 : decode cX4_isShadowed 33 = .ok (.iconst 0, 1) := by decide +kernel
theorem dX4_isShadowed_34 : decode cX4_isShadowed 34 = .ok (.ireturn, 1) := by decide +kernel
theorem dX4_mainShadow_0 : decode cX4_mainShadow 0 = .ok (.aload_n 0, 1) := by decide +kernel
theorem dX4_mainShadow_1 : decode cX4_mainShadow 1 = .ok (.iconst 0, 1) := by decide +kernel
theorem dX4_mainShadow_2 : decode cX4_mainShadow 2 = .ok (.putfield 68, 3) := by decide +kernel
theorem dX4_mainShadow_5 : decode cX4_mainShadow 5 = .ok (.aload_n 0, 1) := by decide +kernel
theorem dX4_mainShadow_6 : decode cX4_mainShadow 6 = .ok (.iload_n 1, 1) := by decide +kernel
theorem dX4_mainShadow_7 : decode cX4_mainShadow 7 = .ok (.invokevirtual 82, 3) := by decide +kernel
theorem dX4_mainShadow_10 : decode cX4_mainShadow 10 = .ok (.istore_n 2, 1) := by decide +kernel
theorem dX4_mainShadow_11 : decode cX4_mainShadow 11 = .ok (.iload_n 2, 1) := by decide +kernel
theorem dX4_mainShadow_12 : decode cX4_mainShadow 12 = .ok (.iconst (-1), 1) := by decide +kernel
theorem dX4_mainShadow_13 : decode cX4_mainShadow 13 = .ok (.if_icmp .ne 9, 3) := by decide +kernel
theorem dX4_mainShadow_16 : decode cX4_mainShadow 16 = .ok (.aload_n 0, 1) := by decide +kernel
theorem dX4_mainShadow_17 : decode cX4_mainShadow 17 = .ok (.iconst 1, 1) := by decide +kernel
theorem dX4_mainShadow_18 : decode cX4_mainShadow 18 = .ok (.invokevirtual 90, 3) := by decide +kernel
theorem dX4_mainShadow_21 : decode cX4_mainShadow 21 = .ok (.ireturn, 1) := by decide +kernel
theorem dX4_mainShadow_22 : decode cX4_mainShadow 22 = .ok (.aload_n 0, 1) := by decide +kernel
theorem dX4_mainShadow_23 : decode cX4_mainShadow 23 = .ok (.iconst (-1), 1) := by decide +kernel
theorem dX4_mainShadow_24 : decode cX4_mainShadow 24 = .ok (.iconst 0, 1) := by decide +kernel
theorem dX4_mainShadow_25 : decode cX4_mainShadow 25 = .ok (.invokevirtual 103, 3) := by decide +kernel
theorem dX4_mainShadow_28 : decode cX4_mainShadow 28 = .ok (.iconst 0, 1) := by decide +kernel
theorem dX4_mainShadow_29 : decode cX4_mainShadow 29 = .ok (.istore_n 3, 1) := by decide +kernel
theorem dX4_mainShadow_30 : decode cX4_mainShadow 30 = .ok (.iconst (-1), 1) := by decide +kernel
theorem dX4_mainShadow_31 : decode cX4_mainShadow 31 = .ok (.istore 4, 2) := by decide +kernel
theorem dX4_mainShadow_33 : decode cX4_mainShadow 33 = .ok (.iconst 0, 1) := by decide +kernel
theorem dX4_mainShadow_34 : decode cX4_mainShadow 34 = .ok (.istore 5, 2) := by decide +kernel
theorem dX4_mainShadow_36 : decode cX4_mainShadow 36 = .ok (.iload 5, 2) := by decide +kernel
theorem dX4_mainShadow_38 : decode cX4_mainShadow 38 = .ok (.iload_n 2, 1) := by decide +kernel
theorem dX4_mainShadow_39 : decode cX4_mainShadow 39 = .ok (.if_icmp .ge 107, 3) := by decide +kernel
theorem dX4_mainShadow_42 : decode cX4_mainShadow 42 = .ok (.aload_n 0, 1) := by decide +kernel
theorem dX4_mainShadow_43 : decode cX4_mainShadow 43 = .ok (.aload_n 0, 1) := by decide +kernel
theorem dX4_mainShadow_44 : decode cX4_mainShadow 44 = .ok (.getfield 25, 3) := by decide +kernel
theorem dX4_mainShadow_47 : decode cX4_mainShadow 47 = .ok (.iload 5, 2) := by decide +kernel
theorem dX4_mainShadow_49 : decode cX4_mainShadow 49 = .ok (.iaload, 1) := by decide +kernel
theorem dX4_mainShadow_50 : decode cX4_mainShadow 50 = .ok (.invokevirtual 113, 3) := by decide +kernel
theorem dX4_mainShadow_53 : decode cX4_mainShadow 53 = .ok (.ifCond .eq 7, 3) := by decide +kernel
theorem dX4_mainShadow_56 : decode cX4_mainShadow 56 = .ok (.iconst 1, 1) := by decide +kernel
theorem dX4_mainShadow_57 : decode cX4_mainShadow 57 = .ok (.goto 4, 3) := by decide +kernel
theorem dX4_mainShadow_60 : decode cX4_mainShadow 60 = .ok (.iconst 0, 1) := by decide +kernel
theorem dX4_mainShadow_61 : decode cX4_mainShadow 61 = .ok (.istore 6, 2) := by decide +kernel
theorem dX4_mainShadow_63 : decode cX4_mainShadow 63 = .ok (.iconst 0, 1) := by decide +kernel
theorem dX4_mainShadow_64 : decode cX4_mainShadow 64 = .ok (.istore 7, 2) := by decide +kernel
theorem dX4_mainShadow_66 : decode cX4_mainShadow 66 = .ok (.iload 7, 2) := by decide +kernel
theorem dX4_mainShadow_68 : decode cX4_mainShadow 68 = .ok (.iconst 3, 1) := by decide +kernel
theorem dX4_mainShadow_69 : decode cX4_mainShadow 69 = .ok (.if_icmp .ge 43, 3) := by decide +kernel
theorem dX4_mainShadow_72 : decode cX4_mainShadow 72 = .ok (.iload 6, 2) := by decide +kernel
theorem dX4_mainShadow_74 : decode cX4_mainShadow 74 = .ok (.aload_n 0, 1) := by decide +kernel
theorem dX4_mainShadow_75 : decode cX4_mainShadow 75 = .ok (.aload_n 0, 1) := by decide +kernel
theorem dX4_mainShadow_76 : decode cX4_mainShadow 76 = .ok (.getfield 25, 3) := by decide +kernel
theorem dX4_mainShadow_79 : decode cX4_mainShadow 79 = .ok (.iload 5, 2) := by decide +kernel
theorem dX4_mainShadow_81 : decode cX4_mainShadow 81 = .ok (.iaload, 1) := by decide +kernel
theorem dX4_mainShadow_82 : decode cX4_mainShadow 82 = .ok (.iload 7, 2) := by decide +kernel
theorem dX4_mainShadow_84 : decode cX4_mainShadow 84 = .ok (.invokevirtual 116, 3) := by decide +kernel
theorem dX4_mainShadow_87 : decode cX4_mainShadow 87 = .ok (.aload_n 0, 1) := by decide +kernel
theorem dX4_mainShadow_88 : decode cX4_mainShadow 88 = .ok (.aload_n 0, 1) := by decide +kernel
theorem dX4_mainShadow_89 : decode cX4_mainShadow 89 = .ok (.getfield 25, 3) := by decide +kernel
theorem dX4_mainShadow_92 : decode cX4_mainShadow 92 = .ok (.iload_n 2, 1) := by decide +kernel
theorem dX4_mainShadow_93 : decode cX4_mainShadow 93 = .ok (.iaload, 1) := by decide +kernel
theorem dX4_mainShadow_94 : decode cX4_mainShadow 94 = .ok (.iload 7, 2) := by decide +kernel
theorem dX4_mainShadow_96 : decode cX4_mainShadow 96 = .ok (.invokevirtual 116, 3) := by decide +kernel
theorem dX4_mainShadow_99 : decode cX4_mainShadow 99 = .ok (.iand, 1) := by decide +kernel
theorem dX4_mainShadow_100 : decode cX4_mainShadow 100 = .ok (.invokestatic 107, 3) := by decide +kernel
theorem dX4_mainShadow_103 : decode cX4_mainShadow 103 = .ok (.imul, 1) := by decide +kernel
theorem dX4_mainShadow_104 : decode cX4_mainShadow 104 = .ok (.istore 6, 2) := by decide +kernel
theorem dX4_mainShadow_106 : decode cX4_mainShadow 106 = .ok (.iinc 7 1, 3) := by decide +kernel
theorem dX4_mainShadow_109 : decode cX4_mainShadow 109 = .ok (.goto (-43), 3) := by decide +kernel
theorem dX4_mainShadow_112 : decode cX4_mainShadow 112 = .ok (.iload 6, 2) := by decide +kernel
theorem dX4_mainShadow_114 : decode cX4_mainShadow 114 = .ok (.iload_n 3, 1) := by decide +kernel
theorem dX4_mainShadow_115 : decode cX4_mainShadow 115 = .ok (.if_icmp .le 8, 3) := by decide +kernel
theorem dX4_mainShadow_118 : decode cX4_mainShadow 118 = .ok (.iload 5, 2) := by decide +kernel
theorem dX4_mainShadow_120 : decode cX4_mainShadow 120 = .ok (.goto 5, 3) := by decide +kernel
theorem dX4_mainShadow_123 : decode cX4_mainShadow 123 = .ok (.iload 4, 2) := by decide +kernel
theorem dX4_mainShadow_125 : decode cX4_mainShadow 125 = .ok (.istore 4, 2) := by decide +kernel
theorem dX4_mainShadow_127 : decode cX4_mainShadow 127 = .ok (.iload 6, 2) := by decide +kernel
theorem dX4_mainShadow_129 : decode cX4_mainShadow 129 = .ok (.iload_n 3, 1) := by decide +kernel
theorem dX4_mainShadow_130 : decode cX4_mainShadow 130 = .ok (.if_icmp .le 8, 3) := by decide +kernel
theorem dX4_mainShadow_133 : decode cX4_mainShadow 133 = .ok (.iload 6, 2) := by decide +kernel
theorem dX4_mainShadow_135 : decode cX4_mainShadow 135 = .ok (.goto 4, 3) := by decide +kernel
theorem dX4_mainShadow_138 : decode cX4_mainShadow 138 = .ok (.iload_n 3, 1) := by decide +kernel
theorem dX4_mainShadow_139 : decode cX4_mainShadow 139 = .ok (.istore_n 3, 1) := by decide +kernel
theorem dX4_mainShadow_140 : decode cX4_mainShadow 140 = .ok (.iinc 5 1, 3) := by decide +kernel
theorem dX4_mainShadow_143 : decode cX4_mainShadow 143 = .ok (.goto (-107), 3) := by decide +kernel
theorem dX4_mainShadow_146 : decode cX4_mainShadow 146 = .ok (.iload 4, 2) := by decide +kernel
theorem dX4_mainShadow_148 : decode cX4_mainShadow 148 = .ok (.iconst (-1), 1) := by decide +kernel
theorem dX4_mainShadow_149 : decode cX4_mainShadow 149 = .ok (.if_icmp .ne 11, 3) := by decide +kernel
theorem dX4_mainShadow_152 : decode cX4_mainShadow 152 = .ok (.aload_n 0, 1) := by decide +kernel
theorem dX4_mainShadow_153 : decode cX4_mainShadow 153 = .ok (.iconst 1, 1) := by decide +kernel
theorem dX4_mainShadow_154 : decode cX4_mainShadow 154 = .ok (.invokevirtual 90, 3) := by decide +kernel
theorem dX4_mainShadow_157 : decode cX4_mainShadow 157 = .ok (.goto 15, 3) := by decide +kernel
theorem dX4_mainShadow_160 : decode cX4_mainShadow 160 = .ok (.aload_n 0, 1) := by decide +kernel
theorem dX4_mainShadow_161 : decode cX4_mainShadow 161 = .ok (.getfield 32, 3) := by decide +kernel
theorem dX4_mainShadow_164 : decode cX4_mainShadow 164 = .ok (.aload_n 0, 1) := by decide +kernel
theorem dX4_mainShadow_165 : decode cX4_mainShadow 165 = .ok (.getfield 25, 3) := by decide +kernel
theorem dX4_mainShadow_168 : decode cX4_mainShadow 168 = .ok (.iload 4, 2) := by decide +kernel
theorem dX4_mainShadow_170 : decode cX4_mainShadow 170 = .ok (.iaload, 1) := by decide +kernel
theorem dX4_mainShadow_171 : decode cX4_mainShadow 171 = .ok (.iaload, 1) := by decide +kernel
theorem dX4_mainShadow_172 : decode cX4_mainShadow 172 = .ok (.ireturn, 1) := by decide +kernel
theorem dX4_accepted_0 : decode cX4_accepted 0 = .ok (.aload_n 0, 1) := by decide +kernel
theorem dX4_accepted_1 : decode cX4_accepted 1 = .ok (.iconst 0, 1) := by decide +kernel
theorem dX4_accepted_2 : decode cX4_accepted 2 = .ok (.putfield 68, 3) := by decide +kernel
theorem dX4_accepted_5 : decode cX4_accepted 5 = .ok (.aload_n 0, 1) := by decide +kernel
theorem dX4_accepted_6 : decode cX4_accepted 6 = .ok (.invokevirtual 130, 3) := by decide +kernel
theorem dX4_accepted_9 : decode cX4_accepted 9 = .ok (.pop, 1) := by decide +kernel
theorem dX4_accepted_10 : decode cX4_accepted 10 = .ok (.iconst 0, 1) := by decide +kernel
theorem dX4_accepted_11 : decode cX4_accepted 11 = .ok (.istore_n 1, 1) := by decide +kernel
theorem dX4_accepted_12 : decode cX4_accepted 12 = .ok (.iconst 0, 1) := by decide +kernel
theorem dX4_accepted_13 : decode cX4_accepted 13 = .ok (.istore_n 2, 1) := by decide +kernel
theorem dX4_accepted_14 : decode cX4_accepted 14 = .ok (.iload_n 2, 1) := by decide +kernel
theorem dX4_accepted_15 : decode cX4_accepted 15 = .ok (.ldc 123, 2) := by decide +kernel
theorem dX4_accepted_17 : decode cX4_accepted 17 = .ok (.if_icmp .ge 70, 3) := by decide +kernel
theorem dX4_accepted_20 : decode cX4_accepted 20 = .ok (.iload_n 1, 1) := by decide +kernel
theorem dX4_accepted_21 : decode cX4_accepted 21 = .ok (.aload_n 0, 1) := by decide +kernel
theorem dX4_accepted_22 : decode cX4_accepted 22 = .ok (.getfield 62, 3) := by decide +kernel
theorem dX4_accepted_25 : decode cX4_accepted 25 = .ok (.iload_n 2, 1) := by decide +kernel
theorem dX4_accepted_26 : decode cX4_accepted 26 = .ok (.sipush 1024, 3) := by decide +kernel
theorem dX4_accepted_29 : decode cX4_accepted 29 = .ok (.idiv, 1) := by decide +kernel
theorem dX4_accepted_30 : decode cX4_accepted 30 = .ok (.iaload, 1) := by decide +kernel
theorem dX4_accepted_31 : decode cX4_accepted 31 = .ok (.aload_n 0, 1) := by decide +kernel
theorem dX4_accepted_32 : decode cX4_accepted 32 = .ok (.getfield 62, 3) := by decide +kernel
theorem dX4_accepted_35 : decode cX4_accepted 35 = .ok (.bipush 32, 2) := by decide +kernel
theorem dX4_accepted_37 : decode cX4_accepted 37 = .ok (.iload_n 2, 1) := by decide +kernel
theorem dX4_accepted_38 : decode cX4_accepted 38 = .ok (.bipush 32, 2) := by decide +kernel
theorem dX4_accepted_40 : decode cX4_accepted 40 = .ok (.idiv, 1) := by decide +kernel
theorem dX4_accepted_41 : decode cX4_accepted 41 = .ok (.bipush 32, 2) := by decide +kernel
theorem dX4_accepted_43 : decode cX4_accepted 43 = .ok (.irem, 1) := by decide +kernel
theorem dX4_accepted_44 : decode cX4_accepted 44 = .ok (.iadd, 1) := by decide +kernel
theorem dX4_accepted_45 : decode cX4_accepted 45 = .ok (.iaload, 1) := by decide +kernel
theorem dX4_accepted_46 : decode cX4_accepted 46 = .ok (.iand, 1) := by decide +kernel
theorem dX4_accepted_47 : decode cX4_accepted 47 = .ok (.aload_n 0, 1) := by decide +kernel
theorem dX4_accepted_48 : decode cX4_accepted 48 = .ok (.getfield 62, 3) := by decide +kernel
theorem dX4_accepted_51 : decode cX4_accepted 51 = .ok (.bipush 64, 2) := by decide +kernel
theorem dX4_accepted_53 : decode cX4_accepted 53 = .ok (.iload_n 2, 1) := by decide +kernel
theorem dX4_accepted_54 : decode cX4_accepted 54 = .ok (.bipush 32, 2) := by decide +kernel
theorem dX4_accepted_56 : decode cX4_accepted 56 = .ok (.irem, 1) := by decide +kernel
theorem dX4_accepted_57 : decode cX4_accepted 57 = .ok (.iadd, 1) := by decide +kernel
theorem dX4_accepted_58 : decode cX4_accepted 58 = .ok (.iaload, 1) := by decide +kernel
theorem dX4_accepted_59 : decode cX4_accepted 59 = .ok (.iand, 1) := by decide +kernel
theorem dX4_accepted_60 : decode cX4_accepted 60 = .ok (.invokestatic 124, 3) := by decide +kernel
theorem dX4_accepted_63 : decode cX4_accepted 63 = .ok (.aload_n 0, 1) := by decide +kernel
theorem dX4_accepted_64 : decode cX4_accepted 64 = .ok (.getfield 62, 3) := by decide +kernel
theorem dX4_accepted_67 : decode cX4_accepted 67 = .ok (.bipush 96, 2) := by decide +kernel
theorem dX4_accepted_69 : decode cX4_accepted 69 = .ok (.iaload, 1) := by decide +kernel
theorem dX4_accepted_70 : decode cX4_accepted 70 = .ok (.iand, 1) := by decide +kernel
theorem dX4_accepted_71 : decode cX4_accepted 71 = .ok (.ifCond .eq 7, 3) := by decide +kernel
theorem dX4_accepted_74 : decode cX4_accepted 74 = .ok (.iconst 1, 1) := by decide +kernel
theorem dX4_accepted_75 : decode cX4_accepted 75 = .ok (.goto 4, 3) := by decide +kernel
theorem dX4_accepted_78 : decode cX4_accepted 78 = .ok (.iconst 0, 1) := by decide +kernel
theorem dX4_accepted_79 : decode cX4_accepted 79 = .ok (.iadd, 1) := by decide +kernel
theorem dX4_accepted_80 : decode cX4_accepted 80 = .ok (.istore_n 1, 1) := by decide +kernel
theorem dX4_accepted_81 : decode cX4_accepted 81 = .ok (.iinc 2 1, 3) := by decide +kernel
theorem dX4_accepted_84 : decode cX4_accepted 84 = .ok (.goto (-70), 3) := by decide +kernel
theorem dX4_accepted_87 : decode cX4_accepted 87 = .ok (.iload_n 1, 1) := by decide +kernel
theorem dX4_accepted_88 : decode cX4_accepted 88 = .ok (.ireturn, 1) := by decide +kernel
theorem dX4_byMove_0 : decode cX4_byMove 0 = .ok (.iconst 0, 1) := by decide +kernel
theorem dX4_byMove_1 : decode cX4_byMove 1 = .ok (.istore_n 3, 1) := by decide +kernel
theorem dX4_byMove_2 : decode cX4_byMove 2 = .ok (.iconst 0, 1) := by decide +kernel
theorem dX4_byMove_3 : decode cX4_byMove 3 = .ok (.istore 4, 2) := by decide +kernel
theorem dX4_byMove_5 : decode cX4_byMove 5 = .ok (.iload 4, 2) := by decide +kernel
theorem dX4_byMove_7 : decode cX4_byMove 7 = .ok (.aload_n 0, 1) := by decide +kernel
theorem dX4_byMove_8 : decode cX4_byMove 8 = .ok (.getfield 79, 3) := by decide +kernel
theorem dX4_byMove_11 : decode cX4_byMove 11 = .ok (.if_icmp .ge 60, 3) := by decide +kernel
theorem dX4_byMove_14 : decode cX4_byMove 14 = .ok (.iload_n 3, 1) := by decide +kernel
theorem dX4_byMove_15 : decode cX4_byMove 15 = .ok (.iload_n 3, 1) := by decide +kernel
theorem dX4_byMove_16 : decode cX4_byMove 16 = .ok (.iload_n 1, 1) := by decide +kernel
theorem dX4_byMove_17 : decode cX4_byMove 17 = .ok (.if_icmp .ne 7, 3) := by decide +kernel
theorem dX4_byMove_20 : decode cX4_byMove 20 = .ok (.iconst 1, 1) := by decide +kernel
theorem dX4_byMove_21 : decode cX4_byMove 21 = .ok (.goto 4, 3) := by decide +kernel
theorem dX4_byMove_24 : decode cX4_byMove 24 = .ok (.iconst 0, 1) := by decide +kernel
theorem dX4_byMove_25 : decode cX4_byMove 25 = .ok (.iadd, 1) := by decide +kernel
theorem dX4_byMove_26 : decode cX4_byMove 26 = .ok (.istore_n 3, 1) := by decide +kernel
theorem dX4_byMove_27 : decode cX4_byMove 27 = .ok (.iload 4, 2) := by decide +kernel
theorem dX4_byMove_29 : decode cX4_byMove 29 = .ok (.iload_n 2, 1) := by decide +kernel
theorem dX4_byMove_30 : decode cX4_byMove 30 = .ok (.if_icmp .ne 19, 3) := by decide +kernel
theorem dX4_byMove_33 : decode cX4_byMove 33 = .ok (.aload_n 0, 1) := by decide +kernel
theorem dX4_byMove_34 : decode cX4_byMove 34 = .ok (.getfield 65, 3) := by decide +kernel
theorem dX4_byMove_37 : decode cX4_byMove 37 = .ok (.iload 4, 2) := by decide +kernel
theorem dX4_byMove_39 : decode cX4_byMove 39 = .ok (.aload_n 0, 1) := by decide +kernel
theorem dX4_byMove_40 : decode cX4_byMove 40 = .ok (.getfield 25, 3) := by decide +kernel
theorem dX4_byMove_43 : decode cX4_byMove 43 = .ok (.iload_n 1, 1) := by decide +kernel
theorem dX4_byMove_44 : decode cX4_byMove 44 = .ok (.iaload, 1) := by decide +kernel
theorem dX4_byMove_45 : decode cX4_byMove 45 = .ok (.iastore, 1) := by decide +kernel
theorem dX4_byMove_46 : decode cX4_byMove 46 = .ok (.goto 19, 3) := by decide +kernel
theorem dX4_byMove_49 : decode cX4_byMove 49 = .ok (.aload_n 0, 1) := by decide +kernel
theorem dX4_byMove_50 : decode cX4_byMove 50 = .ok (.getfield 65, 3) := by decide +kernel
theorem dX4_byMove_53 : decode cX4_byMove 53 = .ok (.iload 4, 2) := by decide +kernel
theorem dX4_byMove_55 : decode cX4_byMove 55 = .ok (.aload_n 0, 1) := by decide +kernel
theorem dX4_byMove_56 : decode cX4_byMove 56 = .ok (.getfield 25, 3) := by decide +kernel
theorem dX4_byMove_59 : decode cX4_byMove 59 = .ok (.iload_n 3, 1) := by decide +kernel
theorem dX4_byMove_60 : decode cX4_byMove 60 = .ok (.iaload, 1) := by decide +kernel
theorem dX4_byMove_61 : decode cX4_byMove 61 = .ok (.iastore, 1) := by decide +kernel
theorem dX4_byMove_62 : decode cX4_byMove 62 = .ok (.iinc 3 1, 3) := by decide +kernel
theorem dX4_byMove_65 : decode cX4_byMove 65 = .ok (.iinc 4 1, 3) := by decide +kernel
theorem dX4_byMove_68 : decode cX4_byMove 68 = .ok (.goto (-63), 3) := by decide +kernel
theorem dX4_byMove_71 : decode cX4_byMove 71 = .ok (.aload_n 0, 1) := by decide +kernel
theorem dX4_byMove_72 : decode cX4_byMove 72 = .ok (.invokevirtual 130, 3) := by decide +kernel
theorem dX4_byMove_75 : decode cX4_byMove 75 = .ok (.pop, 1) := by decide +kernel
theorem dX4_byMove_76 : decode cX4_byMove 76 = .ok (.aload_n 0, 1) := by decide +kernel
theorem dX4_byMove_77 : decode cX4_byMove 77 = .ok (.iconst 1, 1) := by decide +kernel
theorem dX4_byMove_78 : decode cX4_byMove 78 = .ok (.aload_n 0, 1) := by decide +kernel
theorem dX4_byMove_79 : decode cX4_byMove 79 = .ok (.getfield 65, 3) := by decide +kernel
theorem dX4_byMove_82 : decode cX4_byMove 82 = .ok (.aload_n 0, 1) := by decide +kernel
theorem dX4_byMove_83 : decode cX4_byMove 83 = .ok (.getfield 79, 3) := by decide +kernel
theorem dX4_byMove_86 : decode cX4_byMove 86 = .ok (.invokevirtual 119, 3) := by decide +kernel
theorem dX4_byMove_89 : decode cX4_byMove 89 = .ok (.aload_n 0, 1) := by decide +kernel
theorem dX4_byMove_90 : decode cX4_byMove 90 = .ok (.invokevirtual 134, 3) := by decide +kernel
theorem dX4_byMove_93 : decode cX4_byMove 93 = .ok (.ireturn, 1) := by decide +kernel
theorem dX4_changedByMove_0 : decode cX4_changedByMove 0 = .ok (.aload_n 0, 1) := by decide +kernel
theorem dX4_changedByMove_1 : decode cX4_changedByMove 1 = .ok (.iconst 0, 1) := by decide +kernel
theorem dX4_changedByMove_2 : decode cX4_changedByMove 2 = .ok (.putfield 68, 3) := by decide +kernel
theorem dX4_changedByMove_5 : decode cX4_changedByMove 5 = .ok (.aload_n 0, 1) := by decide +kernel
theorem dX4_changedByMove_6 : decode cX4_changedByMove 6 = .ok (.iload_n 1, 1) := by decide +kernel
theorem dX4_changedByMove_7 : decode cX4_changedByMove 7 = .ok (.invokevirtual 82, 3) := by decide +kernel
theorem dX4_changedByMove_10 : decode cX4_changedByMove 10 = .ok (.istore_n 3, 1) := by decide +kernel
theorem dX4_changedByMove_11 : decode cX4_changedByMove 11 = .ok (.iload_n 3, 1) := by decide +kernel
theorem dX4_changedByMove_12 : decode cX4_changedByMove 12 = .ok (.iconst (-1), 1) := by decide +kernel
theorem dX4_changedByMove_13 : decode cX4_changedByMove 13 = .ok (.if_icmp .ne 9, 3) := by decide +kernel
theorem dX4_changedByMove_16 : decode cX4_changedByMove 16 = .ok (.aload_n 0, 1) := by decide +kernel
theorem dX4_changedByMove_17 : decode cX4_changedByMove 17 = .ok (.iconst 1, 1) := by decide +kernel
theorem dX4_changedByMove_18 : decode cX4_changedByMove 18 = .ok (.invokevirtual 90, 3) := by decide +kernel
theorem dX4_changedByMove_21 : decode cX4_changedByMove 21 = .ok (.ireturn, 1) := by decide +kernel
theorem dX4_changedByMove_22 : decode cX4_changedByMove 22 = .ok (.iload_n 2, 1) := by decide +kernel
theorem dX4_changedByMove_23 : decode cX4_changedByMove 23 = .ok (.iconst 0, 1) := by decide +kernel
theorem dX4_changedByMove_24 : decode cX4_changedByMove 24 = .ok (.aload_n 0, 1) := by decide +kernel
theorem dX4_changedByMove_25 : decode cX4_changedByMove 25 = .ok (.getfield 79, 3) := by decide +kernel
theorem dX4_changedByMove_28 : decode cX4_changedByMove 28 = .ok (.iconst 1, 1) := by decide +kernel
theorem dX4_changedByMove_29 : decode cX4_changedByMove 29 = .ok (.isub, 1) := by decide +kernel
theorem dX4_changedByMove_30 : decode cX4_changedByMove 30 = .ok (.invokestatic 75, 3) := by decide +kernel
theorem dX4_changedByMove_33 : decode cX4_changedByMove 33 = .ok (.ifCond .eq 12, 3) := by decide +kernel
theorem dX4_changedByMove_36 : decode cX4_changedByMove 36 = .ok (.aload_n 0, 1) := by decide +kernel
theorem dX4_changedByMove_37 : decode cX4_changedByMove 37 = .ok (.iload_n 3, 1) := by decide +kernel
theorem dX4_changedByMove_38 : decode cX4_changedByMove 38 = .ok (.iload_n 2, 1) := by decide +kernel
theorem dX4_changedByMove_39 : decode cX4_changedByMove 39 = .ok (.invokevirtual 152, 3) := by decide +kernel
theorem dX4_changedByMove_42 : decode cX4_changedByMove 42 = .ok (.goto 8, 3) := by decide +kernel
theorem dX4_changedByMove_45 : decode cX4_changedByMove 45 = .ok (.aload_n 0, 1) := by decide +kernel
theorem dX4_changedByMove_46 : decode cX4_changedByMove 46 = .ok (.iconst 2, 1) := by decide +kernel
theorem dX4_changedByMove_47 : decode cX4_changedByMove 47 = .ok (.invokevirtual 90, 3) := by decide +kernel
theorem dX4_changedByMove_50 : decode cX4_changedByMove 50 = .ok (.ireturn, 1) := by decide +kernel
theorem dX4_takes_0 : decode cX4_takes 0 = .ok (.iconst 0, 1) := by decide +kernel
theorem dX4_takes_1 : decode cX4_takes 1 = .ok (.istore_n 1, 1) := by decide +kernel
theorem dX4_takes_2 : decode cX4_takes 2 = .ok (.iload_n 1, 1) := by decide +kernel
theorem dX4_takes_3 : decode cX4_takes 3 = .ok (.aload_n 0, 1) := by decide +kernel
theorem dX4_takes_4 : decode cX4_takes 4 = .ok (.getfield 79, 3) := by decide +kernel
theorem dX4_takes_7 : decode cX4_takes 7 = .ok (.if_icmp .ge 21, 3) := by decide +kernel
theorem dX4_takes_10 : decode cX4_takes 10 = .ok (.aload_n 0, 1) := by decide +kernel
theorem dX4_takes_11 : decode cX4_takes 11 = .ok (.getfield 25, 3) := by decide +kernel
theorem dX4_takes_14 : decode cX4_takes 14 = .ok (.iload_n 1, 1) := by decide +kernel
theorem dX4_takes_15 : decode cX4_takes 15 = .ok (.aload_n 0, 1) := by decide +kernel
theorem dX4_takes_16 : decode cX4_takes 16 = .ok (.getfield 65, 3) := by decide +kernel
theorem dX4_takes_19 : decode cX4_takes 19 = .ok (.iload_n 1, 1) := by decide +kernel
theorem dX4_takes_20 : decode cX4_takes 20 = .ok (.iaload, 1) := by decide +kernel
theorem dX4_takes_21 : decode cX4_takes 21 = .ok (.iastore, 1) := by decide +kernel
theorem dX4_takes_22 : decode cX4_takes 22 = .ok (.iinc 1 1, 3) := by decide +kernel
theorem dX4_takes_25 : decode cX4_takes 25 = .ok (.goto (-23), 3) := by decide +kernel
theorem dX4_takes_28 : decode cX4_takes 28 = .ok (.return_, 1) := by decide +kernel
theorem dX4_move_0 : decode cX4_move 0 = .ok (.aload_n 0, 1) := by decide +kernel
theorem dX4_move_1 : decode cX4_move 1 = .ok (.iconst 0, 1) := by decide +kernel
theorem dX4_move_2 : decode cX4_move 2 = .ok (.putfield 68, 3) := by decide +kernel
theorem dX4_move_5 : decode cX4_move 5 = .ok (.aload_n 0, 1) := by decide +kernel
theorem dX4_move_6 : decode cX4_move 6 = .ok (.iload_n 1, 1) := by decide +kernel
theorem dX4_move_7 : decode cX4_move 7 = .ok (.invokevirtual 82, 3) := by decide +kernel
theorem dX4_move_10 : decode cX4_move 10 = .ok (.istore_n 3, 1) := by decide +kernel
theorem dX4_move_11 : decode cX4_move 11 = .ok (.iload_n 3, 1) := by decide +kernel
theorem dX4_move_12 : decode cX4_move 12 = .ok (.iconst (-1), 1) := by decide +kernel
theorem dX4_move_13 : decode cX4_move 13 = .ok (.if_icmp .ne 9, 3) := by decide +kernel
theorem dX4_move_16 : decode cX4_move 16 = .ok (.aload_n 0, 1) := by decide +kernel
theorem dX4_move_17 : decode cX4_move 17 = .ok (.iconst 1, 1) := by decide +kernel
theorem dX4_move_18 : decode cX4_move 18 = .ok (.invokevirtual 90, 3) := by decide +kernel
theorem dX4_move_21 : decode cX4_move 21 = .ok (.ireturn, 1) := by decide +kernel
theorem dX4_move_22 : decode cX4_move 22 = .ok (.iload_n 2, 1) := by decide +kernel
theorem dX4_move_23 : decode cX4_move 23 = .ok (.iconst 0, 1) := by decide +kernel
theorem dX4_move_24 : decode cX4_move 24 = .ok (.aload_n 0, 1) := by decide +kernel
theorem dX4_move_25 : decode cX4_move 25 = .ok (.getfield 79, 3) := by decide +kernel
theorem dX4_move_28 : decode cX4_move 28 = .ok (.iconst 1, 1) := by decide +kernel
theorem dX4_move_29 : decode cX4_move 29 = .ok (.isub, 1) := by decide +kernel
theorem dX4_move_30 : decode cX4_move 30 = .ok (.invokestatic 75, 3) := by decide +kernel
theorem dX4_move_33 : decode cX4_move 33 = .ok (.ifCond .ne 9, 3) := by decide +kernel
theorem dX4_move_36 : decode cX4_move 36 = .ok (.aload_n 0, 1) := by decide +kernel
theorem dX4_move_37 : decode cX4_move 37 = .ok (.iconst 2, 1) := by decide +kernel
theorem dX4_move_38 : decode cX4_move 38 = .ok (.invokevirtual 90, 3) := by decide +kernel
theorem dX4_move_41 : decode cX4_move 41 = .ok (.ireturn, 1) := by decide +kernel
theorem dX4_move_42 : decode cX4_move 42 = .ok (.aload_n 0, 1) := by decide +kernel
theorem dX4_move_43 : decode cX4_move 43 = .ok (.iload_n 3, 1) := by decide +kernel
theorem dX4_move_44 : decode cX4_move 44 = .ok (.iload_n 2, 1) := by decide +kernel
theorem dX4_move_45 : decode cX4_move 45 = .ok (.invokevirtual 152, 3) := by decide +kernel
theorem dX4_move_48 : decode cX4_move 48 = .ok (.ifCond .le 9, 3) := by decide +kernel
theorem dX4_move_51 : decode cX4_move 51 = .ok (.aload_n 0, 1) := by decide +kernel
theorem dX4_move_52 : decode cX4_move 52 = .ok (.iconst 3, 1) := by decide +kernel
theorem dX4_move_53 : decode cX4_move 53 = .ok (.invokevirtual 90, 3) := by decide +kernel
theorem dX4_move_56 : decode cX4_move 56 = .ok (.ireturn, 1) := by decide +kernel
theorem dX4_move_57 : decode cX4_move 57 = .ok (.aload_n 0, 1) := by decide +kernel
theorem dX4_move_58 : decode cX4_move 58 = .ok (.invokevirtual 155, 3) := by decide +kernel
theorem dX4_move_61 : decode cX4_move 61 = .ok (.iload_n 3, 1) := by decide +kernel
theorem dX4_move_62 : decode cX4_move 62 = .ok (.ireturn, 1) := by decide +kernel
theorem dX4_sortByHits_0 : decode cX4_sortByHits 0 = .ok (.aload_n 0, 1) := by decide +kernel
theorem dX4_sortByHits_1 : decode cX4_sortByHits 1 = .ok (.iconst 0, 1) := by decide +kernel
theorem dX4_sortByHits_2 : decode cX4_sortByHits 2 = .ok (.putfield 68, 3) := by decide +kernel
theorem dX4_sortByHits_5 : decode cX4_sortByHits 5 = .ok (.iconst 0, 1) := by decide +kernel
theorem dX4_sortByHits_6 : decode cX4_sortByHits 6 = .ok (.istore_n 1, 1) := by decide +kernel
theorem dX4_sortByHits_7 : decode cX4_sortByHits 7 = .ok (.iconst 1, 1) := by decide +kernel
theorem dX4_sortByHits_8 : decode cX4_sortByHits 8 = .ok (.istore_n 2, 1) := by decide +kernel
theorem dX4_sortByHits_9 : decode cX4_sortByHits 9 = .ok (.iload_n 2, 1) := by decide +kernel
theorem dX4_sortByHits_10 : decode cX4_sortByHits 10 = .ok (.ifCond .le 75, 3) := by decide +kernel
theorem dX4_sortByHits_13 : decode cX4_sortByHits 13 = .ok (.iconst 0, 1) := by decide +kernel
theorem dX4_sortByHits_14 : decode cX4_sortByHits 14 = .ok (.istore_n 2, 1) := by decide +kernel
theorem dX4_sortByHits_15 : decode cX4_sortByHits 15 = .ok (.iconst 0, 1) := by decide +kernel
theorem dX4_sortByHits_16 : decode cX4_sortByHits 16 = .ok (.istore_n 3, 1) := by decide +kernel
theorem dX4_sortByHits_17 : decode cX4_sortByHits 17 = .ok (.iload_n 3, 1) := by decide +kernel
theorem dX4_sortByHits_18 : decode cX4_sortByHits 18 = .ok (.iconst 1, 1) := by decide +kernel
theorem dX4_sortByHits_19 : decode cX4_sortByHits 19 = .ok (.iadd, 1) := by decide +kernel
theorem dX4_sortByHits_20 : decode cX4_sortByHits 20 = .ok (.aload_n 0, 1) := by decide +kernel
theorem dX4_sortByHits_21 : decode cX4_sortByHits 21 = .ok (.getfield 79, 3) := by decide +kernel
theorem dX4_sortByHits_24 : decode cX4_sortByHits 24 = .ok (.if_icmp .ge 54, 3) := by decide +kernel
theorem dX4_sortByHits_27 : decode cX4_sortByHits 27 = .ok (.aload_n 0, 1) := by decide +kernel
theorem dX4_sortByHits_28 : decode cX4_sortByHits 28 = .ok (.getfield 47, 3) := by decide +kernel
theorem dX4_sortByHits_31 : decode cX4_sortByHits 31 = .ok (.aload_n 0, 1) := by decide +kernel
theorem dX4_sortByHits_32 : decode cX4_sortByHits 32 = .ok (.getfield 25, 3) := by decide +kernel
theorem dX4_sortByHits_35 : decode cX4_sortByHits 35 = .ok (.iload_n 3, 1) := by decide +kernel
theorem dX4_sortByHits_36 : decode cX4_sortByHits 36 = .ok (.iconst 1, 1) := by decide +kernel
theorem dX4_sortByHits_37 : decode cX4_sortByHits 37 = .ok (.iadd, 1) := by decide +kernel
theorem dX4_sortByHits_38 : decode cX4_sortByHits 38 = .ok (.iaload, 1) := by decide +kernel
theorem dX4_sortByHits_39 : decode cX4_sortByHits 39 = .ok (.iaload, 1) := by decide +kernel
theorem dX4_sortByHits_40 : decode cX4_sortByHits 40 = .ok (.aload_n 0, 1) := by decide +kernel
theorem dX4_sortByHits_41 : decode cX4_sortByHits 41 = .ok (.getfield 47, 3) := by decide +kernel
theorem dX4_sortByHits_44 : decode cX4_sortByHits 44 = .ok (.aload_n 0, 1) := by decide +kernel
theorem dX4_sortByHits_45 : decode cX4_sortByHits 45 = .ok (.getfield 25, 3) := by decide +kernel
theorem dX4_sortByHits_48 : decode cX4_sortByHits 48 = .ok (.iload_n 3, 1) := by decide +kernel
theorem dX4_sortByHits_49 : decode cX4_sortByHits 49 = .ok (.iaload, 1) := by decide +kernel
theorem dX4_sortByHits_50 : decode cX4_sortByHits 50 = .ok (.iaload, 1) := by decide +kernel
theorem dX4_sortByHits_51 : decode cX4_sortByHits 51 = .ok (.if_icmp .le 21, 3) := by decide +kernel
theorem dX4_sortByHits_54 : decode cX4_sortByHits 54 = .ok (.aload_n 0, 1) := by decide +kernel
theorem dX4_sortByHits_55 : decode cX4_sortByHits 55 = .ok (.iload_n 3, 1) := by decide +kernel
theorem dX4_sortByHits_56 : decode cX4_sortByHits 56 = .ok (.iload_n 3, 1) := by decide +kernel
theorem dX4_sortByHits_57 : decode cX4_sortByHits 57 = .ok (.iconst 1, 1) := by decide +kernel
theorem dX4_sortByHits_58 : decode cX4_sortByHits 58 = .ok (.iadd, 1) := by decide +kernel
theorem dX4_sortByHits_59 : decode cX4_sortByHits 59 = .ok (.invokevirtual 152, 3) := by decide +kernel
theorem dX4_sortByHits_62 : decode cX4_sortByHits 62 = .ok (.ifCond .ne 10, 3) := by decide +kernel
theorem dX4_sortByHits_65 : decode cX4_sortByHits 65 = .ok (.aload_n 0, 1) := by decide +kernel
theorem dX4_sortByHits_66 : decode cX4_sortByHits 66 = .ok (.invokevirtual 155, 3) := by decide +kernel
theorem dX4_sortByHits_69 : decode cX4_sortByHits 69 = .ok (.iinc 2 1, 3) := by decide +kernel
theorem dX4_sortByHits_72 : decode cX4_sortByHits 72 = .ok (.iinc 3 1, 3) := by decide +kernel
theorem dX4_sortByHits_75 : decode cX4_sortByHits 75 = .ok (.goto (-58), 3) := by decide +kernel
theorem dX4_sortByHits_78 : decode cX4_sortByHits 78 = .ok (.iload_n 1, 1) := by decide +kernel
theorem dX4_sortByHits_79 : decode cX4_sortByHits 79 = .ok (.iload_n 2, 1) := by decide +kernel
theorem dX4_sortByHits_80 : decode cX4_sortByHits 80 = .ok (.iadd, 1) := by decide +kernel
theorem dX4_sortByHits_81 : decode cX4_sortByHits 81 = .ok (.istore_n 1, 1) := by decide +kernel
theorem dX4_sortByHits_82 : decode cX4_sortByHits 82 = .ok (.goto (-73), 3) := by decide +kernel
theorem dX4_sortByHits_85 : decode cX4_sortByHits 85 = .ok (.iload_n 1, 1) := by decide +kernel
theorem dX4_sortByHits_86 : decode cX4_sortByHits 86 = .ok (.ireturn, 1) := by decide +kernel
theorem dX4_changedByRange_0 : decode cX4_changedByRange 0 = .ok (.aload_n 0, 1) := by decide +kernel
theorem dX4_changedByRange_1 : decode cX4_changedByRange 1 = .ok (.iconst 0, 1) := by decide +kernel
theorem dX4_changedByRange_2 : decode cX4_changedByRange 2 = .ok (.putfield 68, 3) := by decide +kernel
theorem dX4_changedByRange_5 : decode cX4_changedByRange 5 = .ok (.aload_n 0, 1) := by decide +kernel
theorem dX4_changedByRange_6 : decode cX4_changedByRange 6 = .ok (.iload_n 1, 1) := by decide +kernel
theorem dX4_changedByRange_7 : decode cX4_changedByRange 7 = .ok (.invokevirtual 93, 3) := by decide +kernel
theorem dX4_changedByRange_10 : decode cX4_changedByRange 10 = .ok (.ifCond .ne 9, 3) := by decide +kernel
theorem dX4_changedByRange_13 : decode cX4_changedByRange 13 = .ok (.aload_n 0, 1) := by decide +kernel
theorem dX4_changedByRange_14 : decode cX4_changedByRange 14 = .ok (.iconst 1, 1) := by decide +kernel
theorem dX4_changedByRange_15 : decode cX4_changedByRange 15 = .ok (.invokevirtual 90, 3) := by decide +kernel
theorem dX4_changedByRange_18 : decode cX4_changedByRange 18 = .ok (.ireturn, 1) := by decide +kernel
theorem dX4_changedByRange_19 : decode cX4_changedByRange 19 = .ok (.iload_n 2, 1) := by decide +kernel
theorem dX4_changedByRange_20 : decode cX4_changedByRange 20 = .ok (.iconst 0, 1) := by decide +kernel
theorem dX4_changedByRange_21 : decode cX4_changedByRange 21 = .ok (.bipush 31, 2) := by decide +kernel
theorem dX4_changedByRange_23 : decode cX4_changedByRange 23 = .ok (.invokestatic 75, 3) := by decide +kernel
theorem dX4_changedByRange_26 : decode cX4_changedByRange 26 = .ok (.ifCond .eq 13, 3) := by decide +kernel
theorem dX4_changedByRange_29 : decode cX4_changedByRange 29 = .ok (.iload_n 3, 1) := by decide +kernel
theorem dX4_changedByRange_30 : decode cX4_changedByRange 30 = .ok (.iload_n 2, 1) := by decide +kernel
theorem dX4_changedByRange_31 : decode cX4_changedByRange 31 = .ok (.bipush 31, 2) := by decide +kernel
theorem dX4_changedByRange_33 : decode cX4_changedByRange 33 = .ok (.invokestatic 75, 3) := by decide +kernel
theorem dX4_changedByRange_36 : decode cX4_changedByRange 36 = .ok (.ifCond .ne 9, 3) := by decide +kernel
theorem dX4_changedByRange_39 : decode cX4_changedByRange 39 = .ok (.aload_n 0, 1) := by decide +kernel
theorem dX4_changedByRange_40 : decode cX4_changedByRange 40 = .ok (.iconst 2, 1) := by decide +kernel
theorem dX4_changedByRange_41 : decode cX4_changedByRange 41 = .ok (.invokevirtual 90, 3) := by decide +kernel
theorem dX4_changedByRange_44 : decode cX4_changedByRange 44 = .ok (.ireturn, 1) := by decide +kernel
theorem dX4_changedByRange_45 : decode cX4_changedByRange 45 = .ok (.aload_n 0, 1) := by decide +kernel
theorem dX4_changedByRange_46 : decode cX4_changedByRange 46 = .ok (.invokevirtual 130, 3) := by decide +kernel
theorem dX4_changedByRange_49 : decode cX4_changedByRange 49 = .ok (.pop, 1) := by decide +kernel
theorem dX4_changedByRange_50 : decode cX4_changedByRange 50 = .ok (.aload_n 0, 1) := by decide +kernel
theorem dX4_changedByRange_51 : decode cX4_changedByRange 51 = .ok (.iload_n 1, 1) := by decide +kernel
theorem dX4_changedByRange_52 : decode cX4_changedByRange 52 = .ok (.iload_n 2, 1) := by decide +kernel
theorem dX4_changedByRange_53 : decode cX4_changedByRange 53 = .ok (.iload_n 3, 1) := by decide +kernel
theorem dX4_changedByRange_54 : decode cX4_changedByRange 54 = .ok (.invokestatic 86, 3) := by decide +kernel
theorem dX4_changedByRange_57 : decode cX4_changedByRange 57 = .ok (.invokevirtual 103, 3) := by decide +kernel
theorem dX4_changedByRange_60 : decode cX4_changedByRange 60 = .ok (.aload_n 0, 1) := by decide +kernel
theorem dX4_changedByRange_61 : decode cX4_changedByRange 61 = .ok (.iconst 1, 1) := by decide +kernel
theorem dX4_changedByRange_62 : decode cX4_changedByRange 62 = .ok (.aload_n 0, 1) := by decide +kernel
theorem dX4_changedByRange_63 : decode cX4_changedByRange 63 = .ok (.getfield 25, 3) := by decide +kernel
theorem dX4_changedByRange_66 : decode cX4_changedByRange 66 = .ok (.aload_n 0, 1) := by decide +kernel
theorem dX4_changedByRange_67 : decode cX4_changedByRange 67 = .ok (.getfield 79, 3) := by decide +kernel
theorem dX4_changedByRange_70 : decode cX4_changedByRange 70 = .ok (.invokevirtual 119, 3) := by decide +kernel
theorem dX4_changedByRange_73 : decode cX4_changedByRange 73 = .ok (.aload_n 0, 1) := by decide +kernel
theorem dX4_changedByRange_74 : decode cX4_changedByRange 74 = .ok (.invokevirtual 134, 3) := by decide +kernel
theorem dX4_changedByRange_77 : decode cX4_changedByRange 77 = .ok (.ireturn, 1) := by decide +kernel
theorem dX4_shadowedShare_0 : decode cX4_shadowedShare 0 = .ok (.aload_n 0, 1) := by decide +kernel
theorem dX4_shadowedShare_1 : decode cX4_shadowedShare 1 = .ok (.iconst 0, 1) := by decide +kernel
theorem dX4_shadowedShare_2 : decode cX4_shadowedShare 2 = .ok (.putfield 68, 3) := by decide +kernel
theorem dX4_shadowedShare_5 : decode cX4_shadowedShare 5 = .ok (.aload_n 0, 1) := by decide +kernel
theorem dX4_shadowedShare_6 : decode cX4_shadowedShare 6 = .ok (.invokevirtual 130, 3) := by decide +kernel
theorem dX4_shadowedShare_9 : decode cX4_shadowedShare 9 = .ok (.pop, 1) := by decide +kernel
theorem dX4_shadowedShare_10 : decode cX4_shadowedShare 10 = .ok (.iconst 0, 1) := by decide +kernel
theorem dX4_shadowedShare_11 : decode cX4_shadowedShare 11 = .ok (.istore_n 1, 1) := by decide +kernel
theorem dX4_shadowedShare_12 : decode cX4_shadowedShare 12 = .ok (.iconst 0, 1) := by decide +kernel
theorem dX4_shadowedShare_13 : decode cX4_shadowedShare 13 = .ok (.istore_n 2, 1) := by decide +kernel
theorem dX4_shadowedShare_14 : decode cX4_shadowedShare 14 = .ok (.iconst 0, 1) := by decide +kernel
theorem dX4_shadowedShare_15 : decode cX4_shadowedShare 15 = .ok (.istore_n 3, 1) := by decide +kernel
theorem dX4_shadowedShare_16 : decode cX4_shadowedShare 16 = .ok (.iload_n 3, 1) := by decide +kernel
theorem dX4_shadowedShare_17 : decode cX4_shadowedShare 17 = .ok (.aload_n 0, 1) := by decide +kernel
theorem dX4_shadowedShare_18 : decode cX4_shadowedShare 18 = .ok (.getfield 79, 3) := by decide +kernel
theorem dX4_shadowedShare_21 : decode cX4_shadowedShare 21 = .ok (.if_icmp .ge 55, 3) := by decide +kernel
theorem dX4_shadowedShare_24 : decode cX4_shadowedShare 24 = .ok (.aload_n 0, 1) := by decide +kernel
theorem dX4_shadowedShare_25 : decode cX4_shadowedShare 25 = .ok (.aload_n 0, 1) := by decide +kernel
theorem dX4_shadowedShare_26 : decode cX4_shadowedShare 26 = .ok (.getfield 25, 3) := by decide +kernel
theorem dX4_shadowedShare_29 : decode cX4_shadowedShare 29 = .ok (.iload_n 3, 1) := by decide +kernel
theorem dX4_shadowedShare_30 : decode cX4_shadowedShare 30 = .ok (.iaload, 1) := by decide +kernel
theorem dX4_shadowedShare_31 : decode cX4_shadowedShare 31 = .ok (.invokevirtual 113, 3) := by decide +kernel
theorem dX4_shadowedShare_34 : decode cX4_shadowedShare 34 = .ok (.istore 4, 2) := by decide +kernel
theorem dX4_shadowedShare_36 : decode cX4_shadowedShare 36 = .ok (.iload_n 1, 1) := by decide +kernel
theorem dX4_shadowedShare_37 : decode cX4_shadowedShare 37 = .ok (.iload 4, 2) := by decide +kernel
theorem dX4_shadowedShare_39 : decode cX4_shadowedShare 39 = .ok (.ifCond .eq 7, 3) := by decide +kernel
theorem dX4_shadowedShare_42 : decode cX4_shadowedShare 42 = .ok (.iconst 1, 1) := by decide +kernel
theorem dX4_shadowedShare_43 : decode cX4_shadowedShare 43 = .ok (.goto 4, 3) := by decide +kernel
theorem dX4_shadowedShare_46 : decode cX4_shadowedShare 46 = .ok (.iconst 0, 1) := by decide +kernel
theorem dX4_shadowedShare_47 : decode cX4_shadowedShare 47 = .ok (.iadd, 1) := by decide +kernel
theorem dX4_shadowedShare_48 : decode cX4_shadowedShare 48 = .ok (.istore_n 1, 1) := by decide +kernel
theorem dX4_shadowedShare_49 : decode cX4_shadowedShare 49 = .ok (.iload_n 2, 1) := by decide +kernel
theorem dX4_shadowedShare_50 : decode cX4_shadowedShare 50 = .ok (.iload 4, 2) := by decide +kernel
theorem dX4_shadowedShare_52 : decode cX4_shadowedShare 52 = .ok (.ifCond .eq 15, 3) := by decide +kernel
theorem dX4_shadowedShare_55 : decode cX4_shadowedShare 55 = .ok (.aload_n 0, 1) := by decide +kernel
theorem dX4_shadowedShare_56 : decode cX4_shadowedShare 56 = .ok (.iload_n 3, 1) := by decide +kernel
theorem dX4_shadowedShare_57 : decode cX4_shadowedShare 57 = .ok (.invokevirtual 147, 3) := by decide +kernel
theorem dX4_shadowedShare_60 : decode cX4_shadowedShare 60 = .ok (.ifCond .ne 7, 3) := by decide +kernel
theorem dX4_shadowedShare_63 : decode cX4_shadowedShare 63 = .ok (.iconst 1, 1) := by decide +kernel
theorem dX4_shadowedShare_64 : decode cX4_shadowedShare 64 = .ok (.goto 4, 3) := by decide +kernel
theorem dX4_shadowedShare_67 : decode cX4_shadowedShare 67 = .ok (.iconst 0, 1) := by decide +kernel
theorem dX4_shadowedShare_68 : decode cX4_shadowedShare 68 = .ok (.iadd, 1) := by decide +kernel
theorem dX4_shadowedShare_69 : decode cX4_shadowedShare 69 = .ok (.istore_n 2, 1) := by decide +kernel
theorem dX4_shadowedShare_70 : decode cX4_shadowedShare 70 = .ok (.iinc 3 1, 3) := by decide +kernel
theorem dX4_shadowedShare_73 : decode cX4_shadowedShare 73 = .ok (.goto (-57), 3) := by decide +kernel
theorem dX4_shadowedShare_76 : decode cX4_shadowedShare 76 = .ok (.iload_n 1, 1) := by decide +kernel
theorem dX4_shadowedShare_77 : decode cX4_shadowedShare 77 = .ok (.ifCond .ne 10, 3) := by decide +kernel
theorem dX4_shadowedShare_80 : decode cX4_shadowedShare 80 = .ok (.aload_n 0, 1) := by decide +kernel
theorem dX4_shadowedShare_81 : decode cX4_shadowedShare 81 = .ok (.iconst 1, 1) := by decide +kernel
theorem dX4_shadowedShare_82 : decode cX4_shadowedShare 82 = .ok (.putfield 68, 3) := by decide +kernel
theorem dX4_shadowedShare_85 : decode cX4_shadowedShare 85 = .ok (.fconst 0, 1) := by decide +kernel
theorem dX4_shadowedShare_86 : decode cX4_shadowedShare 86 = .ok (.freturn, 1) := by decide +kernel
theorem dX4_shadowedShare_87 : decode cX4_shadowedShare 87 = .ok (.iload_n 2, 1) := by decide +kernel
theorem dX4_shadowedShare_88 : decode cX4_shadowedShare 88 = .ok (.i2f, 1) := by decide +kernel
theorem dX4_shadowedShare_89 : decode cX4_shadowedShare 89 = .ok (.iload_n 1, 1) := by decide +kernel
theorem dX4_shadowedShare_90 : decode cX4_shadowedShare 90 = .ok (.i2f, 1) := by decide +kernel
theorem dX4_shadowedShare_91 : decode cX4_shadowedShare 91 = .ok (.fdiv, 1) := by decide +kernel
theorem dX4_shadowedShare_92 : decode cX4_shadowedShare 92 = .ok (.freturn, 1) := by decide +kernel
theorem dX4_meanHits_0 : decode cX4_meanHits 0 = .ok (.aload_n 0, 1) := by decide +kernel
theorem dX4_meanHits_1 : decode cX4_meanHits 1 = .ok (.iconst 0, 1) := by decide +kernel
theorem dX4_meanHits_2 : decode cX4_meanHits 2 = .ok (.putfield 68, 3) := by decide +kernel
theorem dX4_meanHits_5 : decode cX4_meanHits 5 = .ok (.iconst 0, 1) := by decide +kernel
theorem dX4_meanHits_6 : decode cX4_meanHits 6 = .ok (.istore_n 1, 1) := by decide +kernel
theorem dX4_meanHits_7 : decode cX4_meanHits 7 = .ok (.iconst 0, 1) := by decide +kernel
theorem dX4_meanHits_8 : decode cX4_meanHits 8 = .ok (.istore_n 2, 1) := by decide +kernel
theorem dX4_meanHits_9 : decode cX4_meanHits 9 = .ok (.iload_n 2, 1) := by decide +kernel
theorem dX4_meanHits_10 : decode cX4_meanHits 10 = .ok (.aload_n 0, 1) := by decide +kernel
theorem dX4_meanHits_11 : decode cX4_meanHits 11 = .ok (.getfield 79, 3) := by decide +kernel
theorem dX4_meanHits_14 : decode cX4_meanHits 14 = .ok (.if_icmp .ge 23, 3) := by decide +kernel
theorem dX4_meanHits_17 : decode cX4_meanHits 17 = .ok (.iload_n 1, 1) := by decide +kernel
theorem dX4_meanHits_18 : decode cX4_meanHits 18 = .ok (.aload_n 0, 1) := by decide +kernel
theorem dX4_meanHits_19 : decode cX4_meanHits 19 = .ok (.getfield 47, 3) := by decide +kernel
theorem dX4_meanHits_22 : decode cX4_meanHits 22 = .ok (.aload_n 0, 1) := by decide +kernel
theorem dX4_meanHits_23 : decode cX4_meanHits 23 = .ok (.getfield 25, 3) := by decide +kernel
theorem dX4_meanHits_26 : decode cX4_meanHits 26 = .ok (.iload_n 2, 1) := by decide +kernel
theorem dX4_meanHits_27 : decode cX4_meanHits 27 = .ok (.iaload, 1) := by decide +kernel
theorem dX4_meanHits_28 : decode cX4_meanHits 28 = .ok (.iaload, 1) := by decide +kernel
theorem dX4_meanHits_29 : decode cX4_meanHits 29 = .ok (.iadd, 1) := by decide +kernel
theorem dX4_meanHits_30 : decode cX4_meanHits 30 = .ok (.istore_n 1, 1) := by decide +kernel
theorem dX4_meanHits_31 : decode cX4_meanHits 31 = .ok (.iinc 2 1, 3) := by decide +kernel
theorem dX4_meanHits_34 : decode cX4_meanHits 34 = .ok (.goto (-25), 3) := by decide +kernel
theorem dX4_meanHits_37 : decode cX4_meanHits 37 = .ok (.aload_n 0, 1) := by decide +kernel
theorem dX4_meanHits_38 : decode cX4_meanHits 38 = .ok (.getfield 79, 3) := by decide +kernel
theorem dX4_meanHits_41 : decode cX4_meanHits 41 = .ok (.ifCond .ne 10, 3) := by decide +kernel
theorem dX4_meanHits_44 : decode cX4_meanHits 44 = .ok (.aload_n 0, 1) := by decide +kernel
theorem dX4_meanHits_45 : decode cX4_meanHits 45 = .ok (.iconst 1, 1) := by decide +kernel
theorem dX4_meanHits_46 : decode cX4_meanHits 46 = .ok (.putfield 68, 3) := by decide +kernel
theorem dX4_meanHits_49 : decode cX4_meanHits 49 = .ok (.dconst 0, 1) := by decide +kernel
theorem dX4_meanHits_50 : decode cX4_meanHits 50 = .ok (.dreturn, 1) := by decide +kernel
theorem dX4_meanHits_51 : decode cX4_meanHits 51 = .ok (.iload_n 1, 1) := by decide +kernel
theorem dX4_meanHits_52 : decode cX4_meanHits 52 = .ok (.i2d, 1) := by decide +kernel
theorem dX4_meanHits_53 : decode cX4_meanHits 53 = .ok (.aload_n 0, 1) := by decide +kernel
theorem dX4_meanHits_54 : decode cX4_meanHits 54 = .ok (.getfield 79, 3) := by decide +kernel
theorem dX4_meanHits_57 : decode cX4_meanHits 57 = .ok (.i2d, 1) := by decide +kernel
theorem dX4_meanHits_58 : decode cX4_meanHits 58 = .ok (.ddiv, 1) := by decide +kernel
theorem dX4_meanHits_59 : decode cX4_meanHits 59 = .ok (.dreturn, 1) := by decide +kernel
