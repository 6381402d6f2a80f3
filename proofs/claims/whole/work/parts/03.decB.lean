theorem dX12_init_0 : decode cX12_init 0 = .ok (.aload_n 0, 1) := by decide +kernel
theorem dX12_init_1 : decode cX12_init 1 = .ok (.invokespecial 1, 3) := by decide +kernel
theorem dX12_init_4 : decode cX12_init 4 = .ok (.aload_n 0, 1) := by decide +kernel
theorem dX12_init_5 : decode cX12_init 5 = .ok (.bipush 99, 2) := by decide +kernel
theorem dX12_init_7 : decode cX12_init 7 = .ok (.newarray .int, 2) := by decide +kernel
theorem dX12_init_9 : decode cX12_init 9 = .ok (.putfield 7, 3) := by decide +kernel
theorem dX12_init_12 : decode cX12_init 12 = .ok (.aload_n 0, 1) := by decide +kernel
theorem dX12_init_13 : decode cX12_init 13 = .ok (.lconst 1, 1) := by decide +kernel
theorem dX12_init_14 : decode cX12_init 14 = .ok (.putfield 13, 3) := by decide +kernel
theorem dX12_init_17 : decode cX12_init 17 = .ok (.aload_n 0, 1) := by decide +kernel
theorem dX12_init_18 : decode cX12_init 18 = .ok (.iconst 3, 1) := by decide +kernel
theorem dX12_init_19 : decode cX12_init 19 = .ok (.newarray .int, 2) := by decide +kernel
theorem dX12_init_21 : decode cX12_init 21 = .ok (.putfield 17, 3) := by decide +kernel
theorem dX12_init_24 : decode cX12_init 24 = .ok (.aload_n 0, 1) := by decide +kernel
theorem dX12_init_25 : decode cX12_init 25 = .ok (.sipush 150, 3) := by decide +kernel
theorem dX12_init_28 : decode cX12_init 28 = .ok (.newarray .int, 2) := by decide +kernel
theorem dX12_init_30 : decode cX12_init 30 = .ok (.putfield 20, 3) := by decide +kernel
theorem dX12_init_33 : decode cX12_init 33 = .ok (.aload_n 0, 1) := by decide +kernel
theorem dX12_init_34 : decode cX12_init 34 = .ok (.iconst 5, 1) := by decide +kernel
theorem dX12_init_35 : decode cX12_init 35 = .ok (.newarray .int, 2) := by decide +kernel
theorem dX12_init_37 : decode cX12_init 37 = .ok (.putfield 23, 3) := by decide +kernel
theorem dX12_init_40 : decode cX12_init 40 = .ok (.aload_n 0, 1) := by decide +kernel
theorem dX12_init_41 : decode cX12_init 41 = .ok (.bipush 8, 2) := by decide +kernel
theorem dX12_init_43 : decode cX12_init 43 = .ok (.newarray .int, 2) := by decide +kernel
theorem dX12_init_45 : decode cX12_init 45 = .ok (.putfield 26, 3) := by decide +kernel
theorem dX12_init_48 : decode cX12_init 48 = .ok (.aload_n 0, 1) := by decide +kernel
theorem dX12_init_49 : decode cX12_init 49 = .ok (.bipush 40, 2) := by decide +kernel
theorem dX12_init_51 : decode cX12_init 51 = .ok (.newarray .int, 2) := by decide +kernel
theorem dX12_init_53 : decode cX12_init 53 = .ok (.putfield 29, 3) := by decide +kernel
theorem dX12_init_56 : decode cX12_init 56 = .ok (.aload_n 0, 1) := by decide +kernel
theorem dX12_init_57 : decode cX12_init 57 = .ok (.bipush 64, 2) := by decide +kernel
theorem dX12_init_59 : decode cX12_init 59 = .ok (.newarray .boolean, 2) := by decide +kernel
theorem dX12_init_61 : decode cX12_init 61 = .ok (.putfield 32, 3) := by decide +kernel
theorem dX12_init_64 : decode cX12_init 64 = .ok (.aload_n 0, 1) := by decide +kernel
theorem dX12_init_65 : decode cX12_init 65 = .ok (.sipush 480, 3) := by decide +kernel
theorem dX12_init_68 : decode cX12_init 68 = .ok (.newarray .int, 2) := by decide +kernel
theorem dX12_init_70 : decode cX12_init 70 = .ok (.putfield 36, 3) := by decide +kernel
theorem dX12_init_73 : decode cX12_init 73 = .ok (.aload_n 0, 1) := by decide +kernel
theorem dX12_init_74 : decode cX12_init 74 = .ok (.bipush 64, 2) := by decide +kernel
theorem dX12_init_76 : decode cX12_init 76 = .ok (.newarray .boolean, 2) := by decide +kernel
theorem dX12_init_78 : decode cX12_init 78 = .ok (.putfield 39, 3) := by decide +kernel
theorem dX12_init_81 : decode cX12_init 81 = .ok (.aload_n 0, 1) := by decide +kernel
theorem dX12_init_82 : decode cX12_init 82 = .ok (.bipush 64, 2) := by decide +kernel
theorem dX12_init_84 : decode cX12_init 84 = .ok (.newarray .boolean, 2) := by decide +kernel
theorem dX12_init_86 : decode cX12_init 86 = .ok (.putfield 42, 3) := by decide +kernel
theorem dX12_init_89 : decode cX12_init 89 = .ok (.aload_n 0, 1) := by decide +kernel
theorem dX12_init_90 : decode cX12_init 90 = .ok (.bipush 104, 2) := by decide +kernel
theorem dX12_init_92 : decode cX12_init 92 = .ok (.newarray .long, 2) := by decide +kernel
theorem dX12_init_94 : decode cX12_init 94 = .ok (.putfield 45, 3) := by decide +kernel
theorem dX12_init_97 : decode cX12_init 97 = .ok (.aload_n 0, 1) := by decide +kernel
theorem dX12_init_98 : decode cX12_init 98 = .ok (.bipush 104, 2) := by decide +kernel
theorem dX12_init_100 : decode cX12_init 100 = .ok (.newarray .long, 2) := by decide +kernel
theorem dX12_init_102 : decode cX12_init 102 = .ok (.putfield 49, 3) := by decide +kernel
theorem dX12_init_105 : decode cX12_init 105 = .ok (.aload_n 0, 1) := by decide +kernel
theorem dX12_init_106 : decode cX12_init 106 = .ok (.sipush 768, 3) := by decide +kernel
theorem dX12_init_109 : decode cX12_init 109 = .ok (.newarray .boolean, 2) := by decide +kernel
theorem dX12_init_111 : decode cX12_init 111 = .ok (.putfield 52, 3) := by decide +kernel
theorem dX12_init_114 : decode cX12_init 114 = .ok (.aload_n 0, 1) := by decide +kernel
theorem dX12_init_115 : decode cX12_init 115 = .ok (.iconst 5, 1) := by decide +kernel
theorem dX12_init_116 : decode cX12_init 116 = .ok (.newarray .int, 2) := by decide +kernel
theorem dX12_init_118 : decode cX12_init 118 = .ok (.putfield 55, 3) := by decide +kernel
theorem dX12_init_121 : decode cX12_init 121 = .ok (.aload_n 0, 1) := by decide +kernel
theorem dX12_init_122 : decode cX12_init 122 = .ok (.iconst 2, 1) := by decide +kernel
theorem dX12_init_123 : decode cX12_init 123 = .ok (.newarray .boolean, 2) := by decide +kernel
theorem dX12_init_125 : decode cX12_init 125 = .ok (.putfield 58, 3) := by decide +kernel
theorem dX12_init_128 : decode cX12_init 128 = .ok (.aload_n 0, 1) := by decide +kernel
theorem dX12_init_129 : decode cX12_init 129 = .ok (.sipush 198, 3) := by decide +kernel
theorem dX12_init_132 : decode cX12_init 132 = .ok (.newarray .int, 2) := by decide +kernel
theorem dX12_init_134 : decode cX12_init 134 = .ok (.putfield 61, 3) := by decide +kernel
theorem dX12_init_137 : decode cX12_init 137 = .ok (.aload_n 0, 1) := by decide +kernel
theorem dX12_init_138 : decode cX12_init 138 = .ok (.bipush 80, 2) := by decide +kernel
theorem dX12_init_140 : decode cX12_init 140 = .ok (.newarray .int, 2) := by decide +kernel
theorem dX12_init_142 : decode cX12_init 142 = .ok (.putfield 64, 3) := by decide +kernel
theorem dX12_init_145 : decode cX12_init 145 = .ok (.aload_n 0, 1) := by decide +kernel
theorem dX12_init_146 : decode cX12_init 146 = .ok (.iconst 2, 1) := by decide +kernel
theorem dX12_init_147 : decode cX12_init 147 = .ok (.newarray .int, 2) := by decide +kernel
theorem dX12_init_149 : decode cX12_init 149 = .ok (.putfield 67, 3) := by decide +kernel
theorem dX12_init_152 : decode cX12_init 152 = .ok (.aload_n 0, 1) := by decide +kernel
theorem dX12_init_153 : decode cX12_init 153 = .ok (.invokevirtual 70, 3) := by decide +kernel
theorem dX12_init_156 : decode cX12_init 156 = .ok (.return_, 1) := by decide +kernel
theorem dX12_in_0 : decode cX12_in 0 = .ok (.lload_n 0, 1) := by decide +kernel
theorem dX12_in_1 : decode cX12_in 1 = .ok (.lload_n 2, 1) := by decide +kernel
theorem dX12_in_2 : decode cX12_in 2 = .ok (.lcmp, 1) := by decide +kernel
theorem dX12_in_3 : decode cX12_in 3 = .ok (.ifCond .lt 14, 3) := by decide +kernel
theorem dX12_in_6 : decode cX12_in 6 = .ok (.lload_n 0, 1) := by decide +kernel
theorem dX12_in_7 : decode cX12_in 7 = .ok (.lload 4, 2) := by decide +kernel
theorem dX12_in_9 : decode cX12_in 9 = .ok (.lcmp, 1) := by decide +kernel
theorem dX12_in_10 : decode cX12_in 10 = .ok (.ifCond .gt 7, 3) := by decide +kernel
theorem dX12_in_13 : decode cX12_in 13 = .ok (.iconst 1, 1) := by decide +kernel
theorem dX12_in_14 : decode cX12_in 14 = .ok (.goto 4, 3) := by decide +kernel
theorem dX12_in_17 : decode cX12_in 17 = .ok (.iconst 0, 1) := by decide +kernel
theorem dX12_in_18 : decode cX12_in 18 = .ok (.ireturn, 1) := by decide +kernel
theorem dX12_has_0 : decode cX12_has 0 = .ok (.iload_n 0, 1) := by decide +kernel
theorem dX12_has_1 : decode cX12_has 1 = .ok (.iload_n 1, 1) := by decide +kernel
theorem dX12_has_2 : decode cX12_has 2 = .ok (.ishr, 1) := by decide +kernel
theorem dX12_has_3 : decode cX12_has 3 = .ok (.iconst 1, 1) := by decide +kernel
theorem dX12_has_4 : decode cX12_has 4 = .ok (.iand, 1) := by decide +kernel
theorem dX12_has_5 : decode cX12_has 5 = .ok (.iconst 1, 1) := by decide +kernel
theorem dX12_has_6 : decode cX12_has 6 = .ok (.if_icmp .ne 7, 3) := by decide +kernel
theorem dX12_has_9 : decode cX12_has 9 = .ok (.iconst 1, 1) := by decide +kernel
theorem dX12_has_10 : decode cX12_has 10 = .ok (.goto 4, 3) := by decide +kernel
theorem dX12_has_13 : decode cX12_has 13 = .ok (.iconst 0, 1) := by decide +kernel
theorem dX12_has_14 : decode cX12_has 14 = .ok (.ireturn, 1) := by decide +kernel
theorem dX12_ones_0 : decode cX12_ones 0 = .ok (.iconst 0, 1) := by decide +kernel
theorem dX12_ones_1 : decode cX12_ones 1 = .ok (.istore_n 1, 1) := by decide +kernel
theorem dX12_ones_2 : decode cX12_ones 2 = .ok (.iload_n 0, 1) := by decide +kernel
theorem dX12_ones_3 : decode cX12_ones 3 = .ok (.istore_n 2, 1) := by decide +kernel
theorem dX12_ones_4 : decode cX12_ones 4 = .ok (.iload_n 2, 1) := by decide +kernel
theorem dX12_ones_5 : decode cX12_ones 5 = .ok (.ifCond .eq 15, 3) := by decide +kernel
theorem dX12_ones_8 : decode cX12_ones 8 = .ok (.iinc 1 1, 3) := by decide +kernel
theorem dX12_ones_11 : decode cX12_ones 11 = .ok (.iload_n 2, 1) := by decide +kernel
theorem dX12_ones_12 : decode cX12_ones 12 = .ok (.iload_n 2, 1) := by decide +kernel
theorem dX12_ones_13 : decode cX12_ones 13 = .ok (.iconst 1, 1) := by decide +kernel
theorem dX12_ones_14 : decode cX12_ones 14 = .ok (.isub, 1) := by decide +kernel
theorem dX12_ones_15 : decode cX12_ones 15 = .ok (.iand, 1) := by decide +kernel
theorem dX12_ones_16 : decode cX12_ones 16 = .ok (.istore_n 2, 1) := by decide +kernel
theorem dX12_ones_17 : decode cX12_ones 17 = .ok (.goto (-13), 3) := by decide +kernel
theorem dX12_ones_20 : decode cX12_ones 20 = .ok (.iload_n 1, 1) := by decide +kernel
theorem dX12_ones_21 : decode cX12_ones 21 = .ok (.ireturn, 1) := by decide +kernel
theorem dX12_bad_0 : decode cX12_bad 0 = .ok (.aload_n 0, 1) := by decide +kernel
theorem dX12_bad_1 : decode cX12_bad 1 = .ok (.getfield 17, 3) := by decide +kernel
theorem dX12_bad_4 : decode cX12_bad 4 = .ok (.iconst 0, 1) := by decide +kernel
theorem dX12_bad_5 : decode cX12_bad 5 = .ok (.dup2, 1) := by decide +kernel
theorem dX12_bad_6 : decode cX12_bad 6 = .ok (.iaload, 1) := by decide +kernel
theorem dX12_bad_7 : decode cX12_bad 7 = .ok (.iconst 1, 1) := by decide +kernel
theorem dX12_bad_8 : decode cX12_bad 8 = .ok (.iadd, 1) := by decide +kernel
theorem dX12_bad_9 : decode cX12_bad 9 = .ok (.iastore, 1) := by decide +kernel
theorem dX12_bad_10 : decode cX12_bad 10 = .ok (.bipush (-2), 2) := by decide +kernel
theorem dX12_bad_12 : decode cX12_bad 12 = .ok (.ireturn, 1) := by decide +kernel
theorem dX12_no_0 : decode cX12_no 0 = .ok (.aload_n 0, 1) := by decide +kernel
theorem dX12_no_1 : decode cX12_no 1 = .ok (.getfield 17, 3) := by decide +kernel
theorem dX12_no_4 : decode cX12_no 4 = .ok (.iconst 1, 1) := by decide +kernel
theorem dX12_no_5 : decode cX12_no 5 = .ok (.dup2, 1) := by decide +kernel
theorem dX12_no_6 : decode cX12_no 6 = .ok (.iaload, 1) := by decide +kernel
theorem dX12_no_7 : decode cX12_no 7 = .ok (.iconst 1, 1) := by decide +kernel
theorem dX12_no_8 : decode cX12_no 8 = .ok (.iadd, 1) := by decide +kernel
theorem dX12_no_9 : decode cX12_no 9 = .ok (.iastore, 1) := by decide +kernel
theorem dX12_no_10 : decode cX12_no 10 = .ok (.bipush (-3), 2) := by decide +kernel
theorem dX12_no_12 : decode cX12_no 12 = .ok (.ireturn, 1) := by decide +kernel
theorem dX12_full_0 : decode cX12_full 0 = .ok (.aload_n 0, 1) := by decide +kernel
theorem dX12_full_1 : decode cX12_full 1 = .ok (.getfield 17, 3) := by decide +kernel
theorem dX12_full_4 : decode cX12_full 4 = .ok (.iconst 2, 1) := by decide +kernel
theorem dX12_full_5 : decode cX12_full 5 = .ok (.dup2, 1) := by decide +kernel
theorem dX12_full_6 : decode cX12_full 6 = .ok (.iaload, 1) := by decide +kernel
theorem dX12_full_7 : decode cX12_full 7 = .ok (.iconst 1, 1) := by decide +kernel
theorem dX12_full_8 : decode cX12_full 8 = .ok (.iadd, 1) := by decide +kernel
theorem dX12_full_9 : decode cX12_full 9 = .ok (.iastore, 1) := by decide +kernel
theorem dX12_full_10 : decode cX12_full 10 = .ok (.bipush (-4), 2) := by decide +kernel
theorem dX12_full_12 : decode cX12_full 12 = .ok (.ireturn, 1) := by decide +kernel
theorem dX12_isRoom_0 : decode cX12_isRoom 0 = .ok (.iload_n 0, 1) := by decide +kernel
theorem dX12_isRoom_1 : decode cX12_isRoom 1 = .ok (.i2l, 1) := by decide +kernel
theorem dX12_isRoom_2 : decode cX12_isRoom 2 = .ok (.lconst 0, 1) := by decide +kernel
theorem dX12_isRoom_3 : decode cX12_isRoom 3 = .ok (.ldc2_w 73, 3) := by decide +kernel
theorem dX12_isRoom_6 : decode cX12_isRoom 6 = .ok (.invokestatic 75, 3) := by decide +kernel
theorem dX12_isRoom_9 : decode cX12_isRoom 9 = .ok (.ireturn, 1) := by decide +kernel
theorem dX12_isMinute_0 : decode cX12_isMinute 0 = .ok (.iload_n 0, 1) := by decide +kernel
theorem dX12_isMinute_1 : decode cX12_isMinute 1 = .ok (.i2l, 1) := by decide +kernel
theorem dX12_isMinute_2 : decode cX12_isMinute 2 = .ok (.lconst 0, 1) := by decide +kernel
theorem dX12_isMinute_3 : decode cX12_isMinute 3 = .ok (.ldc2_w 79, 3) := by decide +kernel
theorem dX12_isMinute_6 : decode cX12_isMinute 6 = .ok (.invokestatic 75, 3) := by decide +kernel
theorem dX12_isMinute_9 : decode cX12_isMinute 9 = .ok (.ireturn, 1) := by decide +kernel
theorem dX12_isWhat_0 : decode cX12_isWhat 0 = .ok (.iload_n 0, 1) := by decide +kernel
theorem dX12_isWhat_1 : decode cX12_isWhat 1 = .ok (.i2l, 1) := by decide +kernel
theorem dX12_isWhat_2 : decode cX12_isWhat 2 = .ok (.lconst 0, 1) := by decide +kernel
theorem dX12_isWhat_3 : decode cX12_isWhat 3 = .ok (.lconst 1, 1) := by decide +kernel
theorem dX12_isWhat_4 : decode cX12_isWhat 4 = .ok (.invokestatic 75, 3) := by decide +kernel
theorem dX12_isWhat_7 : decode cX12_isWhat 7 = .ok (.ireturn, 1) := by decide +kernel
theorem dX12_isSleeper_0 : decode cX12_isSleeper 0 = .ok (.iload_n 1, 1) := by decide +kernel
theorem dX12_isSleeper_1 : decode cX12_isSleeper 1 = .ok (.i2l, 1) := by decide +kernel
theorem dX12_isSleeper_2 : decode cX12_isSleeper 2 = .ok (.lconst 0, 1) := by decide +kernel
theorem dX12_isSleeper_3 : decode cX12_isSleeper 3 = .ok (.aload_n 0, 1) := by decide +kernel
theorem dX12_isSleeper_4 : decode cX12_isSleeper 4 = .ok (.getfield 7, 3) := by decide +kernel
theorem dX12_isSleeper_7 : decode cX12_isSleeper 7 = .ok (.iconst 5, 1) := by decide +kernel
theorem dX12_isSleeper_8 : decode cX12_isSleeper 8 = .ok (.iaload, 1) := by decide +kernel
theorem dX12_isSleeper_9 : decode cX12_isSleeper 9 = .ok (.iconst 1, 1) := by decide +kernel
theorem dX12_isSleeper_10 : decode cX12_isSleeper 10 = .ok (.isub, 1) := by decide +kernel
theorem dX12_isSleeper_11 : decode cX12_isSleeper 11 = .ok (.i2l, 1) := by decide +kernel
theorem dX12_isSleeper_12 : decode cX12_isSleeper 12 = .ok (.invokestatic 75, 3) := by decide +kernel
theorem dX12_isSleeper_15 : decode cX12_isSleeper 15 = .ok (.ireturn, 1) := by decide +kernel
theorem dX12_anew_0 : decode cX12_anew 0 = .ok (.iconst 0, 1) := by decide +kernel
theorem dX12_anew_1 : decode cX12_anew 1 = .ok (.istore_n 1, 1) := by decide +kernel
theorem dX12_anew_2 : decode cX12_anew 2 = .ok (.iload_n 1, 1) := by decide +kernel
theorem dX12_anew_3 : decode cX12_anew 3 = .ok (.bipush 99, 2) := by decide +kernel
theorem dX12_anew_5 : decode cX12_anew 5 = .ok (.if_icmp .ge 26, 3) := by decide +kernel
theorem dX12_anew_8 : decode cX12_anew 8 = .ok (.aload_n 0, 1) := by decide +kernel
theorem dX12_anew_9 : decode cX12_anew 9 = .ok (.getfield 7, 3) := by decide +kernel
theorem dX12_anew_12 : decode cX12_anew 12 = .ok (.iload_n 1, 1) := by decide +kernel
theorem dX12_anew_13 : decode cX12_anew 13 = .ok (.iload_n 1, 1) := by decide +kernel
theorem dX12_anew_14 : decode cX12_anew 14 = .ok (.bipush 71, 2) := by decide +kernel
theorem dX12_anew_16 : decode cX12_anew 16 = .ok (.if_icmp .ge 7, 3) := by decide +kernel
theorem dX12_anew_19 : decode cX12_anew 19 = .ok (.iconst 0, 1) := by decide +kernel
theorem dX12_anew_20 : decode cX12_anew 20 = .ok (.goto 4, 3) := by decide +kernel
theorem dX12_anew_23 : decode cX12_anew 23 = .ok (.iconst (-1), 1) := by decide +kernel
theorem dX12_anew_24 : decode cX12_anew 24 = .ok (.iastore, 1) := by decide +kernel
theorem dX12_anew_25 : decode cX12_anew 25 = .ok (.iinc 1 1, 3) := by decide +kernel
theorem dX12_anew_28 : decode cX12_anew 28 = .ok (.goto (-26), 3) := by decide +kernel
theorem dX12_anew_31 : decode cX12_anew 31 = .ok (.aload_n 0, 1) := by decide +kernel
theorem dX12_anew_32 : decode cX12_anew 32 = .ok (.iconst 0, 1) := by decide +kernel
theorem dX12_anew_33 : decode cX12_anew 33 = .ok (.putfield 81, 3) := by decide +kernel
theorem dX12_anew_36 : decode cX12_anew 36 = .ok (.return_, 1) := by decide +kernel
theorem dX12_house_0 : decode cX12_house 0 = .ok (.aload_n 0, 1) := by decide +kernel
theorem dX12_house_1 : decode cX12_house 1 = .ok (.getfield 7, 3) := by decide +kernel
theorem dX12_house_4 : decode cX12_house 4 = .ok (.iconst 5, 1) := by decide +kernel
theorem dX12_house_5 : decode cX12_house 5 = .ok (.iaload, 1) := by decide +kernel
theorem dX12_house_6 : decode cX12_house 6 = .ok (.istore_n 1, 1) := by decide +kernel
theorem dX12_house_7 : decode cX12_house 7 = .ok (.aload_n 0, 1) := by decide +kernel
theorem dX12_house_8 : decode cX12_house 8 = .ok (.invokevirtual 70, 3) := by decide +kernel
theorem dX12_house_11 : decode cX12_house 11 = .ok (.iload_n 1, 1) := by decide +kernel
theorem dX12_house_12 : decode cX12_house 12 = .ok (.ireturn, 1) := by decide +kernel
theorem dX12_pairOf_0 : decode cX12_pairOf 0 = .ok (.iload_n 0, 1) := by decide +kernel
theorem dX12_pairOf_1 : decode cX12_pairOf 1 = .ok (.iload_n 1, 1) := by decide +kernel
theorem dX12_pairOf_2 : decode cX12_pairOf 2 = .ok (.if_icmp .ge 7, 3) := by decide +kernel
theorem dX12_pairOf_5 : decode cX12_pairOf 5 = .ok (.iload_n 0, 1) := by decide +kernel
theorem dX12_pairOf_6 : decode cX12_pairOf 6 = .ok (.goto 4, 3) := by decide +kernel
theorem dX12_pairOf_9 : decode cX12_pairOf 9 = .ok (.iload_n 1, 1) := by decide +kernel
theorem dX12_pairOf_10 : decode cX12_pairOf 10 = .ok (.istore_n 2, 1) := by decide +kernel
theorem dX12_pairOf_11 : decode cX12_pairOf 11 = .ok (.iload_n 0, 1) := by decide +kernel
theorem dX12_pairOf_12 : decode cX12_pairOf 12 = .ok (.iload_n 1, 1) := by decide +kernel
theorem dX12_pairOf_13 : decode cX12_pairOf 13 = .ok (.if_icmp .ge 7, 3) := by decide +kernel
theorem dX12_pairOf_16 : decode cX12_pairOf 16 = .ok (.iload_n 1, 1) := by decide +kernel
theorem dX12_pairOf_17 : decode cX12_pairOf 17 = .ok (.goto 4, 3) := by decide +kernel
theorem dX12_pairOf_20 : decode cX12_pairOf 20 = .ok (.iload_n 0, 1) := by decide +kernel
theorem dX12_pairOf_21 : decode cX12_pairOf 21 = .ok (.istore_n 3, 1) := by decide +kernel
theorem dX12_pairOf_22 : decode cX12_pairOf 22 = .ok (.iload_n 2, 1) := by decide +kernel
theorem dX12_pairOf_23 : decode cX12_pairOf 23 = .ok (.bipush 15, 2) := by decide +kernel
theorem dX12_pairOf_25 : decode cX12_pairOf 25 = .ok (.iload_n 2, 1) := by decide +kernel
theorem dX12_pairOf_26 : decode cX12_pairOf 26 = .ok (.isub, 1) := by decide +kernel
theorem dX12_pairOf_27 : decode cX12_pairOf 27 = .ok (.imul, 1) := by decide +kernel
theorem dX12_pairOf_28 : decode cX12_pairOf 28 = .ok (.iconst 2, 1) := by decide +kernel
theorem dX12_pairOf_29 : decode cX12_pairOf 29 = .ok (.idiv, 1) := by decide +kernel
theorem dX12_pairOf_30 : decode cX12_pairOf 30 = .ok (.iload_n 3, 1) := by decide +kernel
theorem dX12_pairOf_31 : decode cX12_pairOf 31 = .ok (.iadd, 1) := by decide +kernel
theorem dX12_pairOf_32 : decode cX12_pairOf 32 = .ok (.iload_n 2, 1) := by decide +kernel
theorem dX12_pairOf_33 : decode cX12_pairOf 33 = .ok (.isub, 1) := by decide +kernel
theorem dX12_pairOf_34 : decode cX12_pairOf 34 = .ok (.iconst 1, 1) := by decide +kernel
theorem dX12_pairOf_35 : decode cX12_pairOf 35 = .ok (.isub, 1) := by decide +kernel
theorem dX12_pairOf_36 : decode cX12_pairOf 36 = .ok (.ireturn, 1) := by decide +kernel
theorem dX12_creakOf_0 : decode cX12_creakOf 0 = .ok (.iload_n 1, 1) := by decide +kernel
theorem dX12_creakOf_1 : decode cX12_creakOf 1 = .ok (.iload_n 2, 1) := by decide +kernel
theorem dX12_creakOf_2 : decode cX12_creakOf 2 = .ok (.if_icmp .ne 7, 3) := by decide +kernel
theorem dX12_creakOf_5 : decode cX12_creakOf 5 = .ok (.iconst (-1), 1) := by decide +kernel
theorem dX12_creakOf_6 : decode cX12_creakOf 6 = .ok (.goto 16, 3) := by decide +kernel
theorem dX12_creakOf_9 : decode cX12_creakOf 9 = .ok (.aload_n 0, 1) := by decide +kernel
theorem dX12_creakOf_10 : decode cX12_creakOf 10 = .ok (.getfield 7, 3) := by decide +kernel
theorem dX12_creakOf_13 : decode cX12_creakOf 13 = .ok (.bipush 71, 2) := by decide +kernel
theorem dX12_creakOf_15 : decode cX12_creakOf 15 = .ok (.iload_n 1, 1) := by decide +kernel
theorem dX12_creakOf_16 : decode cX12_creakOf 16 = .ok (.iload_n 2, 1) := by decide +kernel
theorem dX12_creakOf_17 : decode cX12_creakOf 17 = .ok (.invokestatic 85, 3) := by decide +kernel
theorem dX12_creakOf_20 : decode cX12_creakOf 20 = .ok (.iadd, 1) := by decide +kernel
theorem dX12_creakOf_21 : decode cX12_creakOf 21 = .ok (.iaload, 1) := by decide +kernel
theorem dX12_creakOf_22 : decode cX12_creakOf 22 = .ok (.ireturn, 1) := by decide +kernel
theorem dX12_stair_0 : decode cX12_stair 0 = .ok (.iload_n 1, 1) := by decide +kernel
theorem dX12_stair_1 : decode cX12_stair 1 = .ok (.invokestatic 89, 3) := by decide +kernel
theorem dX12_stair_4 : decode cX12_stair 4 = .ok (.ifCond .eq 27, 3) := by decide +kernel
theorem dX12_stair_7 : decode cX12_stair 7 = .ok (.iload_n 2, 1) := by decide +kernel
theorem dX12_stair_8 : decode cX12_stair 8 = .ok (.invokestatic 89, 3) := by decide +kernel
theorem dX12_stair_11 : decode cX12_stair 11 = .ok (.ifCond .eq 20, 3) := by decide +kernel
theorem dX12_stair_14 : decode cX12_stair 14 = .ok (.iload_n 1, 1) := by decide +kernel
theorem dX12_stair_15 : decode cX12_stair 15 = .ok (.iload_n 2, 1) := by decide +kernel
theorem dX12_stair_16 : decode cX12_stair 16 = .ok (.if_icmp .eq 15, 3) := by decide +kernel
theorem dX12_stair_19 : decode cX12_stair 19 = .ok (.iload_n 3, 1) := by decide +kernel
theorem dX12_stair_20 : decode cX12_stair 20 = .ok (.i2l, 1) := by decide +kernel
theorem dX12_stair_21 : decode cX12_stair 21 = .ok (.lconst 0, 1) := by decide +kernel
theorem dX12_stair_22 : decode cX12_stair 22 = .ok (.ldc2_w 93, 3) := by decide +kernel
theorem dX12_stair_25 : decode cX12_stair 25 = .ok (.invokestatic 75, 3) := by decide +kernel
theorem dX12_stair_28 : decode cX12_stair 28 = .ok (.ifCond .ne 11, 3) := by decide +kernel
theorem dX12_stair_31 : decode cX12_stair 31 = .ok (.aload_n 0, 1) := by decide +kernel
theorem dX12_stair_32 : decode cX12_stair 32 = .ok (.invokevirtual 95, 3) := by decide +kernel
theorem dX12_stair_35 : decode cX12_stair 35 = .ok (.pop, 1) := by decide +kernel
theorem dX12_stair_36 : decode cX12_stair 36 = .ok (.bipush (-10), 2) := by decide +kernel
theorem dX12_stair_38 : decode cX12_stair 38 = .ok (.ireturn, 1) := by decide +kernel
theorem dX12_stair_39 : decode cX12_stair 39 = .ok (.aload_n 0, 1) := by decide +kernel
theorem dX12_stair_40 : decode cX12_stair 40 = .ok (.iload_n 1, 1) := by decide +kernel
theorem dX12_stair_41 : decode cX12_stair 41 = .ok (.iload_n 2, 1) := by decide +kernel
theorem dX12_stair_42 : decode cX12_stair 42 = .ok (.invokevirtual 99, 3) := by decide +kernel
theorem dX12_stair_45 : decode cX12_stair 45 = .ok (.istore 4, 2) := by decide +kernel
theorem dX12_stair_47 : decode cX12_stair 47 = .ok (.aload_n 0, 1) := by decide +kernel
theorem dX12_stair_48 : decode cX12_stair 48 = .ok (.getfield 7, 3) := by decide +kernel
theorem dX12_stair_51 : decode cX12_stair 51 = .ok (.bipush 71, 2) := by decide +kernel
theorem dX12_stair_53 : decode cX12_stair 53 = .ok (.iload_n 1, 1) := by decide +kernel
theorem dX12_stair_54 : decode cX12_stair 54 = .ok (.iload_n 2, 1) := by decide +kernel
theorem dX12_stair_55 : decode cX12_stair 55 = .ok (.invokestatic 85, 3) := by decide +kernel
theorem dX12_stair_58 : decode cX12_stair 58 = .ok (.iadd, 1) := by decide +kernel
theorem dX12_stair_59 : decode cX12_stair 59 = .ok (.iload_n 3, 1) := by decide +kernel
theorem dX12_stair_60 : decode cX12_stair 60 = .ok (.iastore, 1) := by decide +kernel
theorem dX12_stair_61 : decode cX12_stair 61 = .ok (.iload 4, 2) := by decide +kernel
theorem dX12_stair_63 : decode cX12_stair 63 = .ok (.ireturn, 1) := by decide +kernel
theorem dX12_addSleeper_0 : decode cX12_addSleeper 0 = .ok (.aload_n 0, 1) := by decide +kernel
theorem dX12_addSleeper_1 : decode cX12_addSleeper 1 = .ok (.getfield 7, 3) := by decide +kernel
theorem dX12_addSleeper_4 : decode cX12_addSleeper 4 = .ok (.iconst 5, 1) := by decide +kernel
theorem dX12_addSleeper_5 : decode cX12_addSleeper 5 = .ok (.iaload, 1) := by decide +kernel
theorem dX12_addSleeper_6 : decode cX12_addSleeper 6 = .ok (.istore 4, 2) := by decide +kernel
theorem dX12_addSleeper_8 : decode cX12_addSleeper 8 = .ok (.aload_n 0, 1) := by decide +kernel
theorem dX12_addSleeper_9 : decode cX12_addSleeper 9 = .ok (.getfield 7, 3) := by decide +kernel
theorem dX12_addSleeper_12 : decode cX12_addSleeper 12 = .ok (.bipush 6, 2) := by decide +kernel
theorem dX12_addSleeper_14 : decode cX12_addSleeper 14 = .ok (.iload 4, 2) := by decide +kernel
theorem dX12_addSleeper_16 : decode cX12_addSleeper 16 = .ok (.iadd, 1) := by decide +kernel
theorem dX12_addSleeper_17 : decode cX12_addSleeper 17 = .ok (.iload_n 1, 1) := by decide +kernel
theorem dX12_addSleeper_18 : decode cX12_addSleeper 18 = .ok (.iastore, 1) := by decide +kernel
theorem dX12_addSleeper_19 : decode cX12_addSleeper 19 = .ok (.aload_n 0, 1) := by decide +kernel
theorem dX12_addSleeper_20 : decode cX12_addSleeper 20 = .ok (.getfield 7, 3) := by decide +kernel
theorem dX12_addSleeper_23 : decode cX12_addSleeper 23 = .ok (.bipush 11, 2) := by decide +kernel
theorem dX12_addSleeper_25 : decode cX12_addSleeper 25 = .ok (.iload 4, 2) := by decide +kernel
theorem dX12_addSleeper_27 : decode cX12_addSleeper 27 = .ok (.iadd, 1) := by decide +kernel
theorem dX12_addSleeper_28 : decode cX12_addSleeper 28 = .ok (.iload_n 2, 1) := by decide +kernel
theorem dX12_addSleeper_29 : decode cX12_addSleeper 29 = .ok (.iastore, 1) := by decide +kernel
theorem dX12_addSleeper_30 : decode cX12_addSleeper 30 = .ok (.aload_n 0, 1) := by decide +kernel
theorem dX12_addSleeper_31 : decode cX12_addSleeper 31 = .ok (.getfield 7, 3) := by decide +kernel
theorem dX12_addSleeper_34 : decode cX12_addSleeper 34 = .ok (.bipush 16, 2) := by decide +kernel
theorem dX12_addSleeper_36 : decode cX12_addSleeper 36 = .ok (.iload 4, 2) := by decide +kernel
theorem dX12_addSleeper_38 : decode cX12_addSleeper 38 = .ok (.iadd, 1) := by decide +kernel
theorem dX12_addSleeper_39 : decode cX12_addSleeper 39 = .ok (.iload_n 3, 1) := by decide +kernel
theorem dX12_addSleeper_40 : decode cX12_addSleeper 40 = .ok (.iastore, 1) := by decide +kernel
theorem dX12_addSleeper_41 : decode cX12_addSleeper 41 = .ok (.aload_n 0, 1) := by decide +kernel
theorem dX12_addSleeper_42 : decode cX12_addSleeper 42 = .ok (.getfield 7, 3) := by decide +kernel
theorem dX12_addSleeper_45 : decode cX12_addSleeper 45 = .ok (.iconst 5, 1) := by decide +kernel
theorem dX12_addSleeper_46 : decode cX12_addSleeper 46 = .ok (.dup2, 1) := by decide +kernel
theorem dX12_addSleeper_47 : decode cX12_addSleeper 47 = .ok (.iaload, 1) := by decide +kernel
theorem dX12_addSleeper_48 : decode cX12_addSleeper 48 = .ok (.iconst 1, 1) := by decide +kernel
theorem dX12_addSleeper_49 : decode cX12_addSleeper 49 = .ok (.iadd, 1) := by decide +kernel
theorem dX12_addSleeper_50 : decode cX12_addSleeper 50 = .ok (.iastore, 1) := by decide +kernel
theorem dX12_addSleeper_51 : decode cX12_addSleeper 51 = .ok (.return_, 1) := by decide +kernel
theorem dX12_sleeper_0 : decode cX12_sleeper 0 = .ok (.iload_n 1, 1) := by decide +kernel
theorem dX12_sleeper_1 : decode cX12_sleeper 1 = .ok (.i2l, 1) := by decide +kernel
theorem dX12_sleeper_2 : decode cX12_sleeper 2 = .ok (.lconst 0, 1) := by decide +kernel
theorem dX12_sleeper_3 : decode cX12_sleeper 3 = .ok (.ldc2_w 102, 3) := by decide +kernel
theorem dX12_sleeper_6 : decode cX12_sleeper 6 = .ok (.invokestatic 75, 3) := by decide +kernel
theorem dX12_sleeper_9 : decode cX12_sleeper 9 = .ok (.ifCond .eq 22, 3) := by decide +kernel
theorem dX12_sleeper_12 : decode cX12_sleeper 12 = .ok (.iload_n 2, 1) := by decide +kernel
theorem dX12_sleeper_13 : decode cX12_sleeper 13 = .ok (.invokestatic 89, 3) := by decide +kernel
theorem dX12_sleeper_16 : decode cX12_sleeper 16 = .ok (.ifCond .eq 15, 3) := by decide +kernel
theorem dX12_sleeper_19 : decode cX12_sleeper 19 = .ok (.iload_n 3, 1) := by decide +kernel
theorem dX12_sleeper_20 : decode cX12_sleeper 20 = .ok (.i2l, 1) := by decide +kernel
theorem dX12_sleeper_21 : decode cX12_sleeper 21 = .ok (.lconst 0, 1) := by decide +kernel
theorem dX12_sleeper_22 : decode cX12_sleeper 22 = .ok (.ldc2_w 93, 3) := by decide +kernel
theorem dX12_sleeper_25 : decode cX12_sleeper 25 = .ok (.invokestatic 75, 3) := by decide +kernel
theorem dX12_sleeper_28 : decode cX12_sleeper 28 = .ok (.ifCond .ne 8, 3) := by decide +kernel
theorem dX12_sleeper_31 : decode cX12_sleeper 31 = .ok (.aload_n 0, 1) := by decide +kernel
theorem dX12_sleeper_32 : decode cX12_sleeper 32 = .ok (.invokevirtual 95, 3) := by decide +kernel
theorem dX12_sleeper_35 : decode cX12_sleeper 35 = .ok (.ireturn, 1) := by decide +kernel
theorem dX12_sleeper_36 : decode cX12_sleeper 36 = .ok (.aload_n 0, 1) := by decide +kernel
theorem dX12_sleeper_37 : decode cX12_sleeper 37 = .ok (.getfield 7, 3) := by decide +kernel
theorem dX12_sleeper_40 : decode cX12_sleeper 40 = .ok (.iconst 5, 1) := by decide +kernel
theorem dX12_sleeper_41 : decode cX12_sleeper 41 = .ok (.iaload, 1) := by decide +kernel
theorem dX12_sleeper_42 : decode cX12_sleeper 42 = .ok (.iconst 5, 1) := by decide +kernel
theorem dX12_sleeper_43 : decode cX12_sleeper 43 = .ok (.if_icmp .ne 8, 3) := by decide +kernel
theorem dX12_sleeper_46 : decode cX12_sleeper 46 = .ok (.aload_n 0, 1) := by decide +kernel
theorem dX12_sleeper_47 : decode cX12_sleeper 47 = .ok (.invokevirtual 104, 3) := by decide +kernel
theorem dX12_sleeper_50 : decode cX12_sleeper 50 = .ok (.ireturn, 1) := by decide +kernel
theorem dX12_sleeper_51 : decode cX12_sleeper 51 = .ok (.aload_n 0, 1) := by decide +kernel
theorem dX12_sleeper_52 : decode cX12_sleeper 52 = .ok (.iload_n 1, 1) := by decide +kernel
theorem dX12_sleeper_53 : decode cX12_sleeper 53 = .ok (.iload_n 2, 1) := by decide +kernel
theorem dX12_sleeper_54 : decode cX12_sleeper 54 = .ok (.iload_n 3, 1) := by decide +kernel
theorem dX12_sleeper_55 : decode cX12_sleeper 55 = .ok (.invokevirtual 107, 3) := by decide +kernel
theorem dX12_sleeper_58 : decode cX12_sleeper 58 = .ok (.aload_n 0, 1) := by decide +kernel
theorem dX12_sleeper_59 : decode cX12_sleeper 59 = .ok (.iconst 0, 1) := by decide +kernel
theorem dX12_sleeper_60 : decode cX12_sleeper 60 = .ok (.putfield 81, 3) := by decide +kernel
theorem dX12_sleeper_63 : decode cX12_sleeper 63 = .ok (.aload_n 0, 1) := by decide +kernel
theorem dX12_sleeper_64 : decode cX12_sleeper 64 = .ok (.getfield 7, 3) := by decide +kernel
theorem dX12_sleeper_67 : decode cX12_sleeper 67 = .ok (.iconst 5, 1) := by decide +kernel
theorem dX12_sleeper_68 : decode cX12_sleeper 68 = .ok (.iaload, 1) := by decide +kernel
theorem dX12_sleeper_69 : decode cX12_sleeper 69 = .ok (.iconst 1, 1) := by decide +kernel
theorem dX12_sleeper_70 : decode cX12_sleeper 70 = .ok (.isub, 1) := by decide +kernel
theorem dX12_sleeper_71 : decode cX12_sleeper 71 = .ok (.ireturn, 1) := by decide +kernel
theorem dX12_addThing_0 : decode cX12_addThing 0 = .ok (.aload_n 0, 1) := by decide +kernel
theorem dX12_addThing_1 : decode cX12_addThing 1 = .ok (.getfield 7, 3) := by decide +kernel
theorem dX12_addThing_4 : decode cX12_addThing 4 = .ok (.bipush 22, 2) := by decide +kernel
theorem dX12_addThing_6 : decode cX12_addThing 6 = .ok (.aload_n 0, 1) := by decide +kernel
theorem dX12_addThing_7 : decode cX12_addThing 7 = .ok (.getfield 7, 3) := by decide +kernel
theorem dX12_addThing_10 : decode cX12_addThing 10 = .ok (.bipush 21, 2) := by decide +kernel
theorem dX12_addThing_12 : decode cX12_addThing 12 = .ok (.iaload, 1) := by decide +kernel
theorem dX12_addThing_13 : decode cX12_addThing 13 = .ok (.iadd, 1) := by decide +kernel
theorem dX12_addThing_14 : decode cX12_addThing 14 = .ok (.iload_n 1, 1) := by decide +kernel
theorem dX12_addThing_15 : decode cX12_addThing 15 = .ok (.iastore, 1) := by decide +kernel
theorem dX12_addThing_16 : decode cX12_addThing 16 = .ok (.aload_n 0, 1) := by decide +kernel
theorem dX12_addThing_17 : decode cX12_addThing 17 = .ok (.getfield 7, 3) := by decide +kernel
theorem dX12_addThing_20 : decode cX12_addThing 20 = .ok (.bipush 27, 2) := by decide +kernel
theorem dX12_addThing_22 : decode cX12_addThing 22 = .ok (.aload_n 0, 1) := by decide +kernel
theorem dX12_addThing_23 : decode cX12_addThing 23 = .ok (.getfield 7, 3) := by decide +kernel
theorem dX12_addThing_26 : decode cX12_addThing 26 = .ok (.bipush 21, 2) := by decide +kernel
theorem dX12_addThing_28 : decode cX12_addThing 28 = .ok (.iaload, 1) := by decide +kernel
theorem dX12_addThing_29 : decode cX12_addThing 29 = .ok (.iadd, 1) := by decide +kernel
theorem dX12_addThing_30 : decode cX12_addThing 30 = .ok (.iconst 0, 1) := by decide +kernel
theorem dX12_addThing_31 : decode cX12_addThing 31 = .ok (.iastore, 1) := by decide +kernel
theorem dX12_addThing_32 : decode cX12_addThing 32 = .ok (.aload_n 0, 1) := by decide +kernel
theorem dX12_addThing_33 : decode cX12_addThing 33 = .ok (.getfield 7, 3) := by decide +kernel
theorem dX12_addThing_36 : decode cX12_addThing 36 = .ok (.bipush 21, 2) := by decide +kernel
theorem dX12_addThing_38 : decode cX12_addThing 38 = .ok (.dup2, 1) := by decide +kernel
theorem dX12_addThing_39 : decode cX12_addThing 39 = .ok (.iaload, 1) := by decide +kernel
theorem dX12_addThing_40 : decode cX12_addThing 40 = .ok (.iconst 1, 1) := by decide +kernel
theorem dX12_addThing_41 : decode cX12_addThing 41 = .ok (.iadd, 1) := by decide +kernel
theorem dX12_addThing_42 : decode cX12_addThing 42 = .ok (.iastore, 1) := by decide +kernel
theorem dX12_addThing_43 : decode cX12_addThing 43 = .ok (.return_, 1) := by decide +kernel
theorem dX12_thing_0 : decode cX12_thing 0 = .ok (.iload_n 1, 1) := by decide +kernel
theorem dX12_thing_1 : decode cX12_thing 1 = .ok (.invokestatic 89, 3) := by decide +kernel
theorem dX12_thing_4 : decode cX12_thing 4 = .ok (.ifCond .ne 8, 3) := by decide +kernel
theorem dX12_thing_7 : decode cX12_thing 7 = .ok (.aload_n 0, 1) := by decide +kernel
theorem dX12_thing_8 : decode cX12_thing 8 = .ok (.invokevirtual 95, 3) := by decide +kernel
theorem dX12_thing_11 : decode cX12_thing 11 = .ok (.ireturn, 1) := by decide +kernel
theorem dX12_thing_12 : decode cX12_thing 12 = .ok (.aload_n 0, 1) := by decide +kernel
theorem dX12_thing_13 : decode cX12_thing 13 = .ok (.getfield 7, 3) := by decide +kernel
theorem dX12_thing_16 : decode cX12_thing 16 = .ok (.bipush 21, 2) := by decide +kernel
theorem dX12_thing_18 : decode cX12_thing 18 = .ok (.iaload, 1) := by decide +kernel
theorem dX12_thing_19 : decode cX12_thing 19 = .ok (.iconst 5, 1) := by decide +kernel
theorem dX12_thing_20 : decode cX12_thing 20 = .ok (.if_icmp .ne 8, 3) := by decide +kernel
theorem dX12_thing_23 : decode cX12_thing 23 = .ok (.aload_n 0, 1) := by decide +kernel
theorem dX12_thing_24 : decode cX12_thing 24 = .ok (.invokevirtual 104, 3) := by decide +kernel
theorem dX12_thing_27 : decode cX12_thing 27 = .ok (.ireturn, 1) := by decide +kernel
theorem dX12_thing_28 : decode cX12_thing 28 = .ok (.aload_n 0, 1) := by decide +kernel
theorem dX12_thing_29 : decode cX12_thing 29 = .ok (.iload_n 1, 1) := by decide +kernel
theorem dX12_thing_30 : decode cX12_thing 30 = .ok (.invokevirtual 111, 3) := by decide +kernel
theorem dX12_thing_33 : decode cX12_thing 33 = .ok (.aload_n 0, 1) := by decide +kernel
theorem dX12_thing_34 : decode cX12_thing 34 = .ok (.getfield 7, 3) := by decide +kernel
theorem dX12_thing_37 : decode cX12_thing 37 = .ok (.bipush 21, 2) := by decide +kernel
theorem dX12_thing_39 : decode cX12_thing 39 = .ok (.iaload, 1) := by decide +kernel
theorem dX12_thing_40 : decode cX12_thing 40 = .ok (.iconst 1, 1) := by decide +kernel
theorem dX12_thing_41 : decode cX12_thing 41 = .ok (.isub, 1) := by decide +kernel
theorem dX12_thing_42 : decode cX12_thing 42 = .ok (.ireturn, 1) := by decide +kernel
theorem dX12_isThing_0 : decode cX12_isThing 0 = .ok (.iload_n 1, 1) := by decide +kernel
theorem dX12_isThing_1 : decode cX12_isThing 1 = .ok (.i2l, 1) := by decide +kernel
theorem dX12_isThing_2 : decode cX12_isThing 2 = .ok (.lconst 0, 1) := by decide +kernel
theorem dX12_isThing_3 : decode cX12_isThing 3 = .ok (.aload_n 0, 1) := by decide +kernel
theorem dX12_isThing_4 : decode cX12_isThing 4 = .ok (.getfield 7, 3) := by decide +kernel
theorem dX12_isThing_7 : decode cX12_isThing 7 = .ok (.bipush 21, 2) := by decide +kernel
theorem dX12_isThing_9 : decode cX12_isThing 9 = .ok (.iaload, 1) := by decide +kernel
theorem dX12_isThing_10 : decode cX12_isThing 10 = .ok (.iconst 1, 1) := by decide +kernel
theorem dX12_isThing_11 : decode cX12_isThing 11 = .ok (.isub, 1) := by decide +kernel
theorem dX12_isThing_12 : decode cX12_isThing 12 = .ok (.i2l, 1) := by decide +kernel
theorem dX12_isThing_13 : decode cX12_isThing 13 = .ok (.invokestatic 75, 3) := by decide +kernel
theorem dX12_isThing_16 : decode cX12_isThing 16 = .ok (.ireturn, 1) := by decide +kernel
theorem dX12_lastOwner_0 : decode cX12_lastOwner 0 = .ok (.aload_n 0, 1) := by decide +kernel
theorem dX12_lastOwner_1 : decode cX12_lastOwner 1 = .ok (.getfield 7, 3) := by decide +kernel
theorem dX12_lastOwner_4 : decode cX12_lastOwner 4 = .ok (.bipush 27, 2) := by decide +kernel
theorem dX12_lastOwner_6 : decode cX12_lastOwner 6 = .ok (.iload_n 1, 1) := by decide +kernel
theorem dX12_lastOwner_7 : decode cX12_lastOwner 7 = .ok (.iadd, 1) := by decide +kernel
theorem dX12_lastOwner_8 : decode cX12_lastOwner 8 = .ok (.iaload, 1) := by decide +kernel
theorem dX12_lastOwner_9 : decode cX12_lastOwner 9 = .ok (.ifCond .ne 7, 3) := by decide +kernel
theorem dX12_lastOwner_12 : decode cX12_lastOwner 12 = .ok (.iconst (-1), 1) := by decide +kernel
theorem dX12_lastOwner_13 : decode cX12_lastOwner 13 = .ok (.goto 26, 3) := by decide +kernel
theorem dX12_lastOwner_16 : decode cX12_lastOwner 16 = .ok (.aload_n 0, 1) := by decide +kernel
theorem dX12_lastOwner_17 : decode cX12_lastOwner 17 = .ok (.getfield 7, 3) := by decide +kernel
theorem dX12_lastOwner_20 : decode cX12_lastOwner 20 = .ok (.bipush 32, 2) := by decide +kernel
theorem dX12_lastOwner_22 : decode cX12_lastOwner 22 = .ok (.iconst 4, 1) := by decide +kernel
theorem dX12_lastOwner_23 : decode cX12_lastOwner 23 = .ok (.iload_n 1, 1) := by decide +kernel
theorem dX12_lastOwner_24 : decode cX12_lastOwner 24 = .ok (.imul, 1) := by decide +kernel
theorem dX12_lastOwner_25 : decode cX12_lastOwner 25 = .ok (.iadd, 1) := by decide +kernel
theorem dX12_lastOwner_26 : decode cX12_lastOwner 26 = .ok (.aload_n 0, 1) := by decide +kernel
theorem dX12_lastOwner_27 : decode cX12_lastOwner 27 = .ok (.getfield 7, 3) := by decide +kernel
theorem dX12_lastOwner_30 : decode cX12_lastOwner 30 = .ok (.bipush 27, 2) := by decide +kernel
theorem dX12_lastOwner_32 : decode cX12_lastOwner 32 = .ok (.iload_n 1, 1) := by decide +kernel
theorem dX12_lastOwner_33 : decode cX12_lastOwner 33 = .ok (.iadd, 1) := by decide +kernel
theorem dX12_lastOwner_34 : decode cX12_lastOwner 34 = .ok (.iaload, 1) := by decide +kernel
theorem dX12_lastOwner_35 : decode cX12_lastOwner 35 = .ok (.iadd, 1) := by decide +kernel
theorem dX12_lastOwner_36 : decode cX12_lastOwner 36 = .ok (.iconst 1, 1) := by decide +kernel
theorem dX12_lastOwner_37 : decode cX12_lastOwner 37 = .ok (.isub, 1) := by decide +kernel
theorem dX12_lastOwner_38 : decode cX12_lastOwner 38 = .ok (.iaload, 1) := by decide +kernel
theorem dX12_lastOwner_39 : decode cX12_lastOwner 39 = .ok (.ireturn, 1) := by decide +kernel
theorem dX12_addOwner_0 : decode cX12_addOwner 0 = .ok (.aload_n 0, 1) := by decide +kernel
theorem dX12_addOwner_1 : decode cX12_addOwner 1 = .ok (.getfield 7, 3) := by decide +kernel
theorem dX12_addOwner_4 : decode cX12_addOwner 4 = .ok (.bipush 32, 2) := by decide +kernel
theorem dX12_addOwner_6 : decode cX12_addOwner 6 = .ok (.iconst 4, 1) := by decide +kernel
theorem dX12_addOwner_7 : decode cX12_addOwner 7 = .ok (.iload_n 1, 1) := by decide +kernel
theorem dX12_addOwner_8 : decode cX12_addOwner 8 = .ok (.imul, 1) := by decide +kernel
theorem dX12_addOwner_9 : decode cX12_addOwner 9 = .ok (.iadd, 1) := by decide +kernel
theorem dX12_addOwner_10 : decode cX12_addOwner 10 = .ok (.aload_n 0, 1) := by decide +kernel
theorem dX12_addOwner_11 : decode cX12_addOwner 11 = .ok (.getfield 7, 3) := by decide +kernel
theorem dX12_addOwner_14 : decode cX12_addOwner 14 = .ok (.bipush 27, 2) := by decide +kernel
theorem dX12_addOwner_16 : decode cX12_addOwner 16 = .ok (.iload_n 1, 1) := by decide +kernel
theorem dX12_addOwner_17 : decode cX12_addOwner 17 = .ok (.iadd, 1) := by decide +kernel
theorem dX12_addOwner_18 : decode cX12_addOwner 18 = .ok (.iaload, 1) := by decide +kernel
theorem dX12_addOwner_19 : decode cX12_addOwner 19 = .ok (.iadd, 1) := by decide +kernel
theorem dX12_addOwner_20 : decode cX12_addOwner 20 = .ok (.iload_n 2, 1) := by decide +kernel
theorem dX12_addOwner_21 : decode cX12_addOwner 21 = .ok (.iastore, 1) := by decide +kernel
theorem dX12_addOwner_22 : decode cX12_addOwner 22 = .ok (.aload_n 0, 1) := by decide +kernel
theorem dX12_addOwner_23 : decode cX12_addOwner 23 = .ok (.getfield 7, 3) := by decide +kernel
theorem dX12_addOwner_26 : decode cX12_addOwner 26 = .ok (.bipush 27, 2) := by decide +kernel
theorem dX12_addOwner_28 : decode cX12_addOwner 28 = .ok (.iload_n 1, 1) := by decide +kernel
theorem dX12_addOwner_29 : decode cX12_addOwner 29 = .ok (.iadd, 1) := by decide +kernel
theorem dX12_addOwner_30 : decode cX12_addOwner 30 = .ok (.dup2, 1) := by decide +kernel
theorem dX12_addOwner_31 : decode cX12_addOwner 31 = .ok (.iaload, 1) := by decide +kernel
theorem dX12_addOwner_32 : decode cX12_addOwner 32 = .ok (.iconst 1, 1) := by decide +kernel
theorem dX12_addOwner_33 : decode cX12_addOwner 33 = .ok (.iadd, 1) := by decide +kernel
theorem dX12_addOwner_34 : decode cX12_addOwner 34 = .ok (.iastore, 1) := by decide +kernel
theorem dX12_addOwner_35 : decode cX12_addOwner 35 = .ok (.return_, 1) := by decide +kernel
theorem dX12_owner_0 : decode cX12_owner 0 = .ok (.aload_n 0, 1) := by decide +kernel
theorem dX12_owner_1 : decode cX12_owner 1 = .ok (.iload_n 1, 1) := by decide +kernel
theorem dX12_owner_2 : decode cX12_owner 2 = .ok (.invokevirtual 115, 3) := by decide +kernel
theorem dX12_owner_5 : decode cX12_owner 5 = .ok (.ifCond .eq 24, 3) := by decide +kernel
theorem dX12_owner_8 : decode cX12_owner 8 = .ok (.iload_n 2, 1) := by decide +kernel
theorem dX12_owner_9 : decode cX12_owner 9 = .ok (.i2l, 1) := by decide +kernel
theorem dX12_owner_10 : decode cX12_owner 10 = .ok (.lconst 0, 1) := by decide +kernel
theorem dX12_owner_11 : decode cX12_owner 11 = .ok (.ldc2_w 118, 3) := by decide +kernel
theorem dX12_owner_14 : decode cX12_owner 14 = .ok (.invokestatic 75, 3) := by decide +kernel
theorem dX12_owner_17 : decode cX12_owner 17 = .ok (.ifCond .eq 12, 3) := by decide +kernel
theorem dX12_owner_20 : decode cX12_owner 20 = .ok (.aload_n 0, 1) := by decide +kernel
theorem dX12_owner_21 : decode cX12_owner 21 = .ok (.iload_n 1, 1) := by decide +kernel
theorem dX12_owner_22 : decode cX12_owner 22 = .ok (.invokevirtual 120, 3) := by decide +kernel
theorem dX12_owner_25 : decode cX12_owner 25 = .ok (.iload_n 2, 1) := by decide +kernel
theorem dX12_owner_26 : decode cX12_owner 26 = .ok (.if_icmp .ne 8, 3) := by decide +kernel
theorem dX12_owner_29 : decode cX12_owner 29 = .ok (.aload_n 0, 1) := by decide +kernel
theorem dX12_owner_30 : decode cX12_owner 30 = .ok (.invokevirtual 95, 3) := by decide +kernel
theorem dX12_owner_33 : decode cX12_owner 33 = .ok (.ireturn, 1) := by decide +kernel
theorem dX12_owner_34 : decode cX12_owner 34 = .ok (.aload_n 0, 1) := by decide +kernel
theorem dX12_owner_35 : decode cX12_owner 35 = .ok (.getfield 7, 3) := by decide +kernel
theorem dX12_owner_38 : decode cX12_owner 38 = .ok (.bipush 27, 2) := by decide +kernel
theorem dX12_owner_40 : decode cX12_owner 40 = .ok (.iload_n 1, 1) := by decide +kernel
theorem dX12_owner_41 : decode cX12_owner 41 = .ok (.iadd, 1) := by decide +kernel
theorem dX12_owner_42 : decode cX12_owner 42 = .ok (.iaload, 1) := by decide +kernel
theorem dX12_owner_43 : decode cX12_owner 43 = .ok (.iconst 4, 1) := by decide +kernel
theorem dX12_owner_44 : decode cX12_owner 44 = .ok (.if_icmp .ne 8, 3) := by decide +kernel
theorem dX12_owner_47 : decode cX12_owner 47 = .ok (.aload_n 0, 1) := by decide +kernel
theorem dX12_owner_48 : decode cX12_owner 48 = .ok (.invokevirtual 104, 3) := by decide +kernel
theorem dX12_owner_51 : decode cX12_owner 51 = .ok (.ireturn, 1) := by decide +kernel
theorem dX12_owner_52 : decode cX12_owner 52 = .ok (.aload_n 0, 1) := by decide +kernel
theorem dX12_owner_53 : decode cX12_owner 53 = .ok (.iload_n 1, 1) := by decide +kernel
theorem dX12_owner_54 : decode cX12_owner 54 = .ok (.iload_n 2, 1) := by decide +kernel
theorem dX12_owner_55 : decode cX12_owner 55 = .ok (.invokevirtual 124, 3) := by decide +kernel
theorem dX12_owner_58 : decode cX12_owner 58 = .ok (.aload_n 0, 1) := by decide +kernel
theorem dX12_owner_59 : decode cX12_owner 59 = .ok (.getfield 7, 3) := by decide +kernel
theorem dX12_owner_62 : decode cX12_owner 62 = .ok (.bipush 27, 2) := by decide +kernel
theorem dX12_owner_64 : decode cX12_owner 64 = .ok (.iload_n 1, 1) := by decide +kernel
theorem dX12_owner_65 : decode cX12_owner 65 = .ok (.iadd, 1) := by decide +kernel
theorem dX12_owner_66 : decode cX12_owner 66 = .ok (.iaload, 1) := by decide +kernel
theorem dX12_owner_67 : decode cX12_owner 67 = .ok (.ireturn, 1) := by decide +kernel
theorem dX12_type_0 : decode cX12_type 0 = .ok (.iload_n 1, 1) := by decide +kernel
theorem dX12_type_1 : decode cX12_type 1 = .ok (.i2l, 1) := by decide +kernel
theorem dX12_type_2 : decode cX12_type 2 = .ok (.lconst 0, 1) := by decide +kernel
theorem dX12_type_3 : decode cX12_type 3 = .ok (.ldc2_w 128, 3) := by decide +kernel
theorem dX12_type_6 : decode cX12_type 6 = .ok (.invokestatic 75, 3) := by decide +kernel
theorem dX12_type_9 : decode cX12_type 9 = .ok (.ifCond .ne 8, 3) := by decide +kernel
theorem dX12_type_12 : decode cX12_type 12 = .ok (.aload_n 0, 1) := by decide +kernel
theorem dX12_type_13 : decode cX12_type 13 = .ok (.invokevirtual 95, 3) := by decide +kernel
theorem dX12_type_16 : decode cX12_type 16 = .ok (.ireturn, 1) := by decide +kernel
theorem dX12_type_17 : decode cX12_type 17 = .ok (.aload_n 0, 1) := by decide +kernel
theorem dX12_type_18 : decode cX12_type 18 = .ok (.getfield 130, 3) := by decide +kernel
theorem dX12_type_21 : decode cX12_type 21 = .ok (.sipush 150, 3) := by decide +kernel
theorem dX12_type_24 : decode cX12_type 24 = .ok (.if_icmp .ne 8, 3) := by decide +kernel
theorem dX12_type_27 : decode cX12_type 27 = .ok (.aload_n 0, 1) := by decide +kernel
theorem dX12_type_28 : decode cX12_type 28 = .ok (.invokevirtual 104, 3) := by decide +kernel
theorem dX12_type_31 : decode cX12_type 31 = .ok (.ireturn, 1) := by decide +kernel
theorem dX12_type_32 : decode cX12_type 32 = .ok (.aload_n 0, 1) := by decide +kernel
theorem dX12_type_33 : decode cX12_type 33 = .ok (.getfield 20, 3) := by decide +kernel
theorem dX12_type_36 : decode cX12_type 36 = .ok (.aload_n 0, 1) := by decide +kernel
theorem dX12_type_37 : decode cX12_type 37 = .ok (.getfield 130, 3) := by decide +kernel
theorem dX12_type_40 : decode cX12_type 40 = .ok (.iload_n 1, 1) := by decide +kernel
theorem dX12_type_41 : decode cX12_type 41 = .ok (.iastore, 1) := by decide +kernel
theorem dX12_type_42 : decode cX12_type 42 = .ok (.aload_n 0, 1) := by decide +kernel
theorem dX12_type_43 : decode cX12_type 43 = .ok (.dup, 1) := by decide +kernel
theorem dX12_type_44 : decode cX12_type 44 = .ok (.getfield 130, 3) := by decide +kernel
theorem dX12_type_47 : decode cX12_type 47 = .ok (.iconst 1, 1) := by decide +kernel
theorem dX12_type_48 : decode cX12_type 48 = .ok (.iadd, 1) := by decide +kernel
theorem dX12_type_49 : decode cX12_type 49 = .ok (.putfield 130, 3) := by decide +kernel
theorem dX12_type_52 : decode cX12_type 52 = .ok (.aload_n 0, 1) := by decide +kernel
theorem dX12_type_53 : decode cX12_type 53 = .ok (.getfield 130, 3) := by decide +kernel
theorem dX12_type_56 : decode cX12_type 56 = .ok (.ireturn, 1) := by decide +kernel
theorem dX12_clear_0 : decode cX12_clear 0 = .ok (.aload_n 0, 1) := by decide +kernel
theorem dX12_clear_1 : decode cX12_clear 1 = .ok (.getfield 130, 3) := by decide +kernel
theorem dX12_clear_4 : decode cX12_clear 4 = .ok (.istore_n 1, 1) := by decide +kernel
theorem dX12_clear_5 : decode cX12_clear 5 = .ok (.aload_n 0, 1) := by decide +kernel
theorem dX12_clear_6 : decode cX12_clear 6 = .ok (.iconst 0, 1) := by decide +kernel
theorem dX12_clear_7 : decode cX12_clear 7 = .ok (.putfield 130, 3) := by decide +kernel
theorem dX12_clear_10 : decode cX12_clear 10 = .ok (.iload_n 1, 1) := by decide +kernel
theorem dX12_clear_11 : decode cX12_clear 11 = .ok (.ireturn, 1) := by decide +kernel
theorem dX12_byteAt_0 : decode cX12_byteAt 0 = .ok (.iload_n 1, 1) := by decide +kernel
theorem dX12_byteAt_1 : decode cX12_byteAt 1 = .ok (.aload_n 0, 1) := by decide +kernel
theorem dX12_byteAt_2 : decode cX12_byteAt 2 = .ok (.getfield 130, 3) := by decide +kernel
theorem dX12_byteAt_5 : decode cX12_byteAt 5 = .ok (.if_icmp .ge 12, 3) := by decide +kernel
theorem dX12_byteAt_8 : decode cX12_byteAt 8 = .ok (.aload_n 0, 1) := by decide +kernel
theorem dX12_byteAt_9 : decode cX12_byteAt 9 = .ok (.getfield 20, 3) := by decide +kernel
theorem dX12_byteAt_12 : decode cX12_byteAt 12 = .ok (.iload_n 1, 1) := by decide +kernel
theorem dX12_byteAt_13 : decode cX12_byteAt 13 = .ok (.iaload, 1) := by decide +kernel
theorem dX12_byteAt_14 : decode cX12_byteAt 14 = .ok (.goto 4, 3) := by decide +kernel
theorem dX12_byteAt_17 : decode cX12_byteAt 17 = .ok (.iconst (-1), 1) := by decide +kernel
theorem dX12_byteAt_18 : decode cX12_byteAt 18 = .ok (.ireturn, 1) := by decide +kernel
theorem dX12_nextToken_0 : decode cX12_nextToken 0 = .ok (.aload_n 0, 1) := by decide +kernel
theorem dX12_nextToken_1 : decode cX12_nextToken 1 = .ok (.aload_n 0, 1) := by decide +kernel
theorem dX12_nextToken_2 : decode cX12_nextToken 2 = .ok (.getfield 133, 3) := by decide +kernel
theorem dX12_nextToken_5 : decode cX12_nextToken 5 = .ok (.invokevirtual 136, 3) := by decide +kernel
theorem dX12_nextToken_8 : decode cX12_nextToken 8 = .ok (.bipush 32, 2) := by decide +kernel
theorem dX12_nextToken_10 : decode cX12_nextToken 10 = .ok (.if_icmp .ne 16, 3) := by decide +kernel
theorem dX12_nextToken_13 : decode cX12_nextToken 13 = .ok (.aload_n 0, 1) := by decide +kernel
theorem dX12_nextToken_14 : decode cX12_nextToken 14 = .ok (.dup, 1) := by decide +kernel
theorem dX12_nextToken_15 : decode cX12_nextToken 15 = .ok (.getfield 133, 3) := by decide +kernel
theorem dX12_nextToken_18 : decode cX12_nextToken 18 = .ok (.iconst 1, 1) := by decide +kernel
theorem dX12_nextToken_19 : decode cX12_nextToken 19 = .ok (.iadd, 1) := by decide +kernel
theorem dX12_nextToken_20 : decode cX12_nextToken 20 = .ok (.putfield 133, 3) := by decide +kernel
theorem dX12_nextToken_23 : decode cX12_nextToken 23 = .ok (.goto (-23), 3) := by decide +kernel
theorem dX12_nextToken_26 : decode cX12_nextToken 26 = .ok (.aload_n 0, 1) := by decide +kernel
theorem dX12_nextToken_27 : decode cX12_nextToken 27 = .ok (.aload_n 0, 1) := by decide +kernel
theorem dX12_nextToken_28 : decode cX12_nextToken 28 = .ok (.getfield 133, 3) := by decide +kernel
theorem dX12_nextToken_31 : decode cX12_nextToken 31 = .ok (.putfield 139, 3) := by decide +kernel
theorem dX12_nextToken_34 : decode cX12_nextToken 34 = .ok (.aload_n 0, 1) := by decide +kernel
theorem dX12_nextToken_35 : decode cX12_nextToken 35 = .ok (.iconst 0, 1) := by decide +kernel
theorem dX12_nextToken_36 : decode cX12_nextToken 36 = .ok (.putfield 142, 3) := by decide +kernel
theorem dX12_nextToken_39 : decode cX12_nextToken 39 = .ok (.aload_n 0, 1) := by decide +kernel
theorem dX12_nextToken_40 : decode cX12_nextToken 40 = .ok (.aload_n 0, 1) := by decide +kernel
theorem dX12_nextToken_41 : decode cX12_nextToken 41 = .ok (.getfield 133, 3) := by decide +kernel
theorem dX12_nextToken_44 : decode cX12_nextToken 44 = .ok (.aload_n 0, 1) := by decide +kernel
theorem dX12_nextToken_45 : decode cX12_nextToken 45 = .ok (.getfield 130, 3) := by decide +kernel
theorem dX12_nextToken_48 : decode cX12_nextToken 48 = .ok (.if_icmp .ne 7, 3) := by decide +kernel
theorem dX12_nextToken_51 : decode cX12_nextToken 51 = .ok (.iconst 3, 1) := by decide +kernel
theorem dX12_nextToken_52 : decode cX12_nextToken 52 = .ok (.goto 4, 3) := by decide +kernel
theorem dX12_nextToken_55 : decode cX12_nextToken 55 = .ok (.iconst 0, 1) := by decide +kernel
theorem dX12_nextToken_56 : decode cX12_nextToken 56 = .ok (.putfield 145, 3) := by decide +kernel
theorem dX12_nextToken_59 : decode cX12_nextToken 59 = .ok (.aload_n 0, 1) := by decide +kernel
theorem dX12_nextToken_60 : decode cX12_nextToken 60 = .ok (.aload_n 0, 1) := by decide +kernel
theorem dX12_nextToken_61 : decode cX12_nextToken 61 = .ok (.getfield 133, 3) := by decide +kernel
theorem dX12_nextToken_64 : decode cX12_nextToken 64 = .ok (.invokevirtual 136, 3) := by decide +kernel
theorem dX12_nextToken_67 : decode cX12_nextToken 67 = .ok (.i2l, 1) := by decide +kernel
theorem dX12_nextToken_68 : decode cX12_nextToken 68 = .ok (.ldc2_w 148, 3) := by decide +kernel
theorem dX12_nextToken_71 : decode cX12_nextToken 71 = .ok (.ldc2_w 150, 3) := by decide +kernel
theorem dX12_nextToken_74 : decode cX12_nextToken 74 = .ok (.invokestatic 75, 3) := by decide +kernel
theorem dX12_nextToken_77 : decode cX12_nextToken 77 = .ok (.ifCond .eq 29, 3) := by decide +kernel
theorem dX12_nextToken_80 : decode cX12_nextToken 80 = .ok (.aload_n 0, 1) := by decide +kernel
theorem dX12_nextToken_81 : decode cX12_nextToken 81 = .ok (.getfield 145, 3) := by decide +kernel
theorem dX12_nextToken_84 : decode cX12_nextToken 84 = .ok (.iconst 2, 1) := by decide +kernel
theorem dX12_nextToken_85 : decode cX12_nextToken 85 = .ok (.if_icmp .ge 21, 3) := by decide +kernel
theorem dX12_nextToken_88 : decode cX12_nextToken 88 = .ok (.aload_n 0, 1) := by decide +kernel
theorem dX12_nextToken_89 : decode cX12_nextToken 89 = .ok (.iconst 1, 1) := by decide +kernel
theorem dX12_nextToken_90 : decode cX12_nextToken 90 = .ok (.putfield 145, 3) := by decide +kernel
theorem dX12_nextToken_93 : decode cX12_nextToken 93 = .ok (.aload_n 0, 1) := by decide +kernel
theorem dX12_nextToken_94 : decode cX12_nextToken 94 = .ok (.dup, 1) := by decide +kernel
theorem dX12_nextToken_95 : decode cX12_nextToken 95 = .ok (.getfield 133, 3) := by decide +kernel
theorem dX12_nextToken_98 : decode cX12_nextToken 98 = .ok (.iconst 1, 1) := by decide +kernel
theorem dX12_nextToken_99 : decode cX12_nextToken 99 = .ok (.iadd, 1) := by decide +kernel
theorem dX12_nextToken_100 : decode cX12_nextToken 100 = .ok (.putfield 133, 3) := by decide +kernel
theorem dX12_nextToken_103 : decode cX12_nextToken 103 = .ok (.goto (-44), 3) := by decide +kernel
theorem dX12_nextToken_106 : decode cX12_nextToken 106 = .ok (.aload_n 0, 1) := by decide +kernel
theorem dX12_nextToken_107 : decode cX12_nextToken 107 = .ok (.aload_n 0, 1) := by decide +kernel
theorem dX12_nextToken_108 : decode cX12_nextToken 108 = .ok (.getfield 133, 3) := by decide +kernel
theorem dX12_nextToken_111 : decode cX12_nextToken 111 = .ok (.invokevirtual 136, 3) := by decide +kernel
theorem dX12_nextToken_114 : decode cX12_nextToken 114 = .ok (.i2l, 1) := by decide +kernel
theorem dX12_nextToken_115 : decode cX12_nextToken 115 = .ok (.ldc2_w 152, 3) := by decide +kernel
theorem dX12_nextToken_118 : decode cX12_nextToken 118 = .ok (.ldc2_w 154, 3) := by decide +kernel
theorem dX12_nextToken_121 : decode cX12_nextToken 121 = .ok (.invokestatic 75, 3) := by decide +kernel
theorem dX12_nextToken_124 : decode cX12_nextToken 124 = .ok (.ifCond .eq 69, 3) := by decide +kernel
theorem dX12_nextToken_127 : decode cX12_nextToken 127 = .ok (.aload_n 0, 1) := by decide +kernel
theorem dX12_nextToken_128 : decode cX12_nextToken 128 = .ok (.getfield 145, 3) := by decide +kernel
theorem dX12_nextToken_131 : decode cX12_nextToken 131 = .ok (.iconst 1, 1) := by decide +kernel
theorem dX12_nextToken_132 : decode cX12_nextToken 132 = .ok (.if_icmp .eq 61, 3) := by decide +kernel
theorem dX12_nextToken_135 : decode cX12_nextToken 135 = .ok (.aload_n 0, 1) := by decide +kernel
theorem dX12_nextToken_136 : decode cX12_nextToken 136 = .ok (.iconst 2, 1) := by decide +kernel
theorem dX12_nextToken_137 : decode cX12_nextToken 137 = .ok (.putfield 145, 3) := by decide +kernel
theorem dX12_nextToken_140 : decode cX12_nextToken 140 = .ok (.aload_n 0, 1) := by decide +kernel
theorem dX12_nextToken_141 : decode cX12_nextToken 141 = .ok (.aload_n 0, 1) := by decide +kernel
theorem dX12_nextToken_142 : decode cX12_nextToken 142 = .ok (.getfield 142, 3) := by decide +kernel
theorem dX12_nextToken_145 : decode cX12_nextToken 145 = .ok (.bipush 99, 2) := by decide +kernel
theorem dX12_nextToken_147 : decode cX12_nextToken 147 = .ok (.if_icmp .le 10, 3) := by decide +kernel
theorem dX12_nextToken_150 : decode cX12_nextToken 150 = .ok (.aload_n 0, 1) := by decide +kernel
theorem dX12_nextToken_151 : decode cX12_nextToken 151 = .ok (.getfield 142, 3) := by decide +kernel
theorem dX12_nextToken_154 : decode cX12_nextToken 154 = .ok (.goto 23, 3) := by decide +kernel
theorem dX12_nextToken_157 : decode cX12_nextToken 157 = .ok (.bipush 10, 2) := by decide +kernel
theorem dX12_nextToken_159 : decode cX12_nextToken 159 = .ok (.aload_n 0, 1) := by decide +kernel
theorem dX12_nextToken_160 : decode cX12_nextToken 160 = .ok (.getfield 142, 3) := by decide +kernel
theorem dX12_nextToken_163 : decode cX12_nextToken 163 = .ok (.imul, 1) := by decide +kernel
theorem dX12_nextToken_164 : decode cX12_nextToken 164 = .ok (.aload_n 0, 1) := by decide +kernel
theorem dX12_nextToken_165 : decode cX12_nextToken 165 = .ok (.getfield 20, 3) := by decide +kernel
theorem dX12_nextToken_168 : decode cX12_nextToken 168 = .ok (.aload_n 0, 1) := by decide +kernel
theorem dX12_nextToken_169 : decode cX12_nextToken 169 = .ok (.getfield 133, 3) := by decide +kernel
theorem dX12_nextToken_172 : decode cX12_nextToken 172 = .ok (.iaload, 1) := by decide +kernel
theorem dX12_nextToken_173 : decode cX12_nextToken 173 = .ok (.iadd, 1) := by decide +kernel
theorem dX12_nextToken_174 : decode cX12_nextToken 174 = .ok (.bipush 48, 2) := by decide +kernel
theorem dX12_nextToken_176 : decode cX12_nextToken 176 = .ok (.isub, 1) := by decide +kernel
theorem dX12_nextToken_177 : decode cX12_nextToken 177 = .ok (.putfield 142, 3) := by decide +kernel
theorem dX12_nextToken_180 : decode cX12_nextToken 180 = .ok (.aload_n 0, 1) := by decide +kernel
theorem dX12_nextToken_181 : decode cX12_nextToken 181 = .ok (.dup, 1) := by decide +kernel
theorem dX12_nextToken_182 : decode cX12_nextToken 182 = .ok (.getfield 133, 3) := by decide +kernel
theorem dX12_nextToken_185 : decode cX12_nextToken 185 = .ok (.iconst 1, 1) := by decide +kernel
theorem dX12_nextToken_186 : decode cX12_nextToken 186 = .ok (.iadd, 1) := by decide +kernel
theorem dX12_nextToken_187 : decode cX12_nextToken 187 = .ok (.putfield 133, 3) := by decide +kernel
theorem dX12_nextToken_190 : decode cX12_nextToken 190 = .ok (.goto (-84), 3) := by decide +kernel
theorem dX12_nextToken_193 : decode cX12_nextToken 193 = .ok (.aload_n 0, 1) := by decide +kernel
theorem dX12_nextToken_194 : decode cX12_nextToken 194 = .ok (.getfield 145, 3) := by decide +kernel
theorem dX12_nextToken_197 : decode cX12_nextToken 197 = .ok (.iconst 2, 1) := by decide +kernel
theorem dX12_nextToken_198 : decode cX12_nextToken 198 = .ok (.if_icmp .ne 24, 3) := by decide +kernel
theorem dX12_nextToken_201 : decode cX12_nextToken 201 = .ok (.aload_n 0, 1) := by decide +kernel
theorem dX12_nextToken_202 : decode cX12_nextToken 202 = .ok (.getfield 133, 3) := by decide +kernel
theorem dX12_nextToken_205 : decode cX12_nextToken 205 = .ok (.aload_n 0, 1) := by decide +kernel
theorem dX12_nextToken_206 : decode cX12_nextToken 206 = .ok (.getfield 139, 3) := by decide +kernel
theorem dX12_nextToken_209 : decode cX12_nextToken 209 = .ok (.isub, 1) := by decide +kernel
theorem dX12_nextToken_210 : decode cX12_nextToken 210 = .ok (.iconst 2, 1) := by decide +kernel
theorem dX12_nextToken_211 : decode cX12_nextToken 211 = .ok (.if_icmp .le 11, 3) := by decide +kernel
theorem dX12_nextToken_214 : decode cX12_nextToken 214 = .ok (.aload_n 0, 1) := by decide +kernel
theorem dX12_nextToken_215 : decode cX12_nextToken 215 = .ok (.iconst 0, 1) := by decide +kernel
theorem dX12_nextToken_216 : decode cX12_nextToken 216 = .ok (.putfield 145, 3) := by decide +kernel
theorem dX12_nextToken_219 : decode cX12_nextToken 219 = .ok (.goto 42, 3) := by decide +kernel
theorem dX12_nextToken_222 : decode cX12_nextToken 222 = .ok (.aload_n 0, 1) := by decide +kernel
theorem dX12_nextToken_223 : decode cX12_nextToken 223 = .ok (.getfield 145, 3) := by decide +kernel
theorem dX12_nextToken_226 : decode cX12_nextToken 226 = .ok (.ifCond .ne 35, 3) := by decide +kernel
theorem dX12_nextToken_229 : decode cX12_nextToken 229 = .ok (.aload_n 0, 1) := by decide +kernel
theorem dX12_nextToken_230 : decode cX12_nextToken 230 = .ok (.aload_n 0, 1) := by decide +kernel
theorem dX12_nextToken_231 : decode cX12_nextToken 231 = .ok (.aload_n 0, 1) := by decide +kernel
theorem dX12_nextToken_232 : decode cX12_nextToken 232 = .ok (.getfield 133, 3) := by decide +kernel
theorem dX12_nextToken_235 : decode cX12_nextToken 235 = .ok (.invokevirtual 136, 3) := by decide +kernel
theorem dX12_nextToken_238 : decode cX12_nextToken 238 = .ok (.bipush 59, 2) := by decide +kernel
theorem dX12_nextToken_240 : decode cX12_nextToken 240 = .ok (.if_icmp .ne 7, 3) := by decide +kernel
theorem dX12_nextToken_243 : decode cX12_nextToken 243 = .ok (.iconst 4, 1) := by decide +kernel
theorem dX12_nextToken_244 : decode cX12_nextToken 244 = .ok (.goto 4, 3) := by decide +kernel
theorem dX12_nextToken_247 : decode cX12_nextToken 247 = .ok (.iconst 0, 1) := by decide +kernel
theorem dX12_nextToken_248 : decode cX12_nextToken 248 = .ok (.putfield 145, 3) := by decide +kernel
theorem dX12_nextToken_251 : decode cX12_nextToken 251 = .ok (.aload_n 0, 1) := by decide +kernel
theorem dX12_nextToken_252 : decode cX12_nextToken 252 = .ok (.dup, 1) := by decide +kernel
theorem dX12_nextToken_253 : decode cX12_nextToken 253 = .ok (.getfield 133, 3) := by decide +kernel
theorem dX12_nextToken_256 : decode cX12_nextToken 256 = .ok (.iconst 1, 1) := by decide +kernel
theorem dX12_nextToken_257 : decode cX12_nextToken 257 = .ok (.iadd, 1) := by decide +kernel
theorem dX12_nextToken_258 : decode cX12_nextToken 258 = .ok (.putfield 133, 3) := by decide +kernel
theorem dX12_nextToken_261 : decode cX12_nextToken 261 = .ok (.return_, 1) := by decide +kernel
theorem dX12_isWord_0 : decode cX12_isWord 0 = .ok (.aload_n 0, 1) := by decide +kernel
theorem dX12_isWord_1 : decode cX12_isWord 1 = .ok (.getfield 145, 3) := by decide +kernel
theorem dX12_isWord_4 : decode cX12_isWord 4 = .ok (.iconst 1, 1) := by decide +kernel
theorem dX12_isWord_5 : decode cX12_isWord 5 = .ok (.if_icmp .ne 17, 3) := by decide +kernel
theorem dX12_isWord_8 : decode cX12_isWord 8 = .ok (.aload_n 0, 1) := by decide +kernel
theorem dX12_isWord_9 : decode cX12_isWord 9 = .ok (.getfield 133, 3) := by decide +kernel
theorem dX12_isWord_12 : decode cX12_isWord 12 = .ok (.aload_n 0, 1) := by decide +kernel
theorem dX12_isWord_13 : decode cX12_isWord 13 = .ok (.getfield 139, 3) := by decide +kernel
theorem dX12_isWord_16 : decode cX12_isWord 16 = .ok (.isub, 1) := by decide +kernel
theorem dX12_isWord_17 : decode cX12_isWord 17 = .ok (.bipush 7, 2) := by decide +kernel
theorem dX12_isWord_19 : decode cX12_isWord 19 = .ok (.if_icmp .le 5, 3) := by decide +kernel
theorem dX12_isWord_22 : decode cX12_isWord 22 = .ok (.iconst 0, 1) := by decide +kernel
theorem dX12_isWord_23 : decode cX12_isWord 23 = .ok (.ireturn, 1) := by decide +kernel
theorem dX12_isWord_24 : decode cX12_isWord 24 = .ok (.lconst 0, 1) := by decide +kernel
theorem dX12_isWord_25 : decode cX12_isWord 25 = .ok (.lstore_n 3, 1) := by decide +kernel
theorem dX12_isWord_26 : decode cX12_isWord 26 = .ok (.aload_n 0, 1) := by decide +kernel
theorem dX12_isWord_27 : decode cX12_isWord 27 = .ok (.getfield 139, 3) := by decide +kernel
theorem dX12_isWord_30 : decode cX12_isWord 30 = .ok (.istore 5, 2) := by decide +kernel
theorem dX12_isWord_32 : decode cX12_isWord 32 = .ok (.iload 5, 2) := by decide +kernel
theorem dX12_isWord_34 : decode cX12_isWord 34 = .ok (.aload_n 0, 1) := by decide +kernel
theorem dX12_isWord_35 : decode cX12_isWord 35 = .ok (.getfield 133, 3) := by decide +kernel
theorem dX12_isWord_38 : decode cX12_isWord 38 = .ok (.if_icmp .ge 30, 3) := by decide +kernel
theorem dX12_isWord_41 : decode cX12_isWord 41 = .ok (.ldc2_w 156, 3) := by decide +kernel
theorem dX12_isWord_44 : decode cX12_isWord 44 = .ok (.lload_n 3, 1) := by decide +kernel
theorem dX12_isWord_45 : decode cX12_isWord 45 = .ok (.lmul, 1) := by decide +kernel
theorem dX12_isWord_46 : decode cX12_isWord 46 = .ok (.aload_n 0, 1) := by decide +kernel
theorem dX12_isWord_47 : decode cX12_isWord 47 = .ok (.getfield 20, 3) := by decide +kernel
theorem dX12_isWord_50 : decode cX12_isWord 50 = .ok (.iload 5, 2) := by decide +kernel
theorem dX12_isWord_52 : decode cX12_isWord 52 = .ok (.iaload, 1) := by decide +kernel
theorem dX12_isWord_53 : decode cX12_isWord 53 = .ok (.i2l, 1) := by decide +kernel
theorem dX12_isWord_54 : decode cX12_isWord 54 = .ok (.ladd, 1) := by decide +kernel
theorem dX12_isWord_55 : decode cX12_isWord 55 = .ok (.ldc2_w 148, 3) := by decide +kernel
theorem dX12_isWord_58 : decode cX12_isWord 58 = .ok (.lsub, 1) := by decide +kernel
theorem dX12_isWord_59 : decode cX12_isWord 59 = .ok (.lconst 1, 1) := by decide +kernel
theorem dX12_isWord_60 : decode cX12_isWord 60 = .ok (.ladd, 1) := by decide +kernel
theorem dX12_isWord_61 : decode cX12_isWord 61 = .ok (.lstore_n 3, 1) := by decide +kernel
theorem dX12_isWord_62 : decode cX12_isWord 62 = .ok (.iinc 5 1, 3) := by decide +kernel
theorem dX12_isWord_65 : decode cX12_isWord 65 = .ok (.goto (-33), 3) := by decide +kernel
theorem dX12_isWord_68 : decode cX12_isWord 68 = .ok (.lload_n 3, 1) := by decide +kernel
theorem dX12_isWord_69 : decode cX12_isWord 69 = .ok (.lload_n 1, 1) := by decide +kernel
theorem dX12_isWord_70 : decode cX12_isWord 70 = .ok (.lcmp, 1) := by decide +kernel
theorem dX12_isWord_71 : decode cX12_isWord 71 = .ok (.ifCond .ne 7, 3) := by decide +kernel
theorem dX12_isWord_74 : decode cX12_isWord 74 = .ok (.iconst 1, 1) := by decide +kernel
theorem dX12_isWord_75 : decode cX12_isWord 75 = .ok (.goto 4, 3) := by decide +kernel
theorem dX12_isWord_78 : decode cX12_isWord 78 = .ok (.iconst 0, 1) := by decide +kernel
theorem dX12_isWord_79 : decode cX12_isWord 79 = .ok (.ireturn, 1) := by decide +kernel
theorem dX12_spelt_0 : decode cX12_spelt 0 = .ok (.lconst 0, 1) := by decide +kernel
theorem dX12_spelt_1 : decode cX12_spelt 1 = .ok (.lstore 7, 2) := by decide +kernel
theorem dX12_spelt_3 : decode cX12_spelt 3 = .ok (.ldc2_w 156, 3) := by decide +kernel
theorem dX12_spelt_6 : decode cX12_spelt 6 = .ok (.ldc2_w 156, 3) := by decide +kernel
theorem dX12_spelt_9 : decode cX12_spelt 9 = .ok (.ldc2_w 156, 3) := by decide +kernel
theorem dX12_spelt_12 : decode cX12_spelt 12 = .ok (.ldc2_w 156, 3) := by decide +kernel
theorem dX12_spelt_15 : decode cX12_spelt 15 = .ok (.iload_n 0, 1) := by decide +kernel
theorem dX12_spelt_16 : decode cX12_spelt 16 = .ok (.bipush 96, 2) := by decide +kernel
theorem dX12_spelt_18 : decode cX12_spelt 18 = .ok (.isub, 1) := by decide +kernel
theorem dX12_spelt_19 : decode cX12_spelt 19 = .ok (.i2l, 1) := by decide +kernel
theorem dX12_spelt_20 : decode cX12_spelt 20 = .ok (.lmul, 1) := by decide +kernel
theorem dX12_spelt_21 : decode cX12_spelt 21 = .ok (.iload_n 1, 1) := by decide +kernel
theorem dX12_spelt_22 : decode cX12_spelt 22 = .ok (.i2l, 1) := by decide +kernel
theorem dX12_spelt_23 : decode cX12_spelt 23 = .ok (.ladd, 1) := by decide +kernel
theorem dX12_spelt_24 : decode cX12_spelt 24 = .ok (.ldc2_w 158, 3) := by decide +kernel
theorem dX12_spelt_27 : decode cX12_spelt 27 = .ok (.lsub, 1) := by decide +kernel
theorem dX12_spelt_28 : decode cX12_spelt 28 = .ok (.lmul, 1) := by decide +kernel
theorem dX12_spelt_29 : decode cX12_spelt 29 = .ok (.iload_n 2, 1) := by decide +kernel
theorem dX12_spelt_30 : decode cX12_spelt 30 = .ok (.i2l, 1) := by decide +kernel
theorem dX12_spelt_31 : decode cX12_spelt 31 = .ok (.ladd, 1) := by decide +kernel
theorem dX12_spelt_32 : decode cX12_spelt 32 = .ok (.ldc2_w 158, 3) := by decide +kernel
theorem dX12_spelt_35 : decode cX12_spelt 35 = .ok (.lsub, 1) := by decide +kernel
theorem dX12_spelt_36 : decode cX12_spelt 36 = .ok (.lmul, 1) := by decide +kernel
theorem dX12_spelt_37 : decode cX12_spelt 37 = .ok (.iload_n 3, 1) := by decide +kernel
theorem dX12_spelt_38 : decode cX12_spelt 38 = .ok (.i2l, 1) := by decide +kernel
theorem dX12_spelt_39 : decode cX12_spelt 39 = .ok (.ladd, 1) := by decide +kernel
theorem dX12_spelt_40 : decode cX12_spelt 40 = .ok (.ldc2_w 158, 3) := by decide +kernel
theorem dX12_spelt_43 : decode cX12_spelt 43 = .ok (.lsub, 1) := by decide +kernel
theorem dX12_spelt_44 : decode cX12_spelt 44 = .ok (.lmul, 1) := by decide +kernel
theorem dX12_spelt_45 : decode cX12_spelt 45 = .ok (.iload 4, 2) := by decide +kernel
theorem dX12_spelt_47 : decode cX12_spelt 47 = .ok (.i2l, 1) := by decide +kernel
theorem dX12_spelt_48 : decode cX12_spelt 48 = .ok (.ladd, 1) := by decide +kernel
theorem dX12_spelt_49 : decode cX12_spelt 49 = .ok (.ldc2_w 158, 3) := by decide +kernel
theorem dX12_spelt_52 : decode cX12_spelt 52 = .ok (.lsub, 1) := by decide +kernel
theorem dX12_spelt_53 : decode cX12_spelt 53 = .ok (.lstore 7, 2) := by decide +kernel
theorem dX12_spelt_55 : decode cX12_spelt 55 = .ok (.iload 5, 2) := by decide +kernel
theorem dX12_spelt_57 : decode cX12_spelt 57 = .ok (.ifCond .ne 8, 3) := by decide +kernel
theorem dX12_spelt_60 : decode cX12_spelt 60 = .ok (.lload 7, 2) := by decide +kernel
theorem dX12_spelt_62 : decode cX12_spelt 62 = .ok (.goto 29, 3) := by decide +kernel
theorem dX12_spelt_65 : decode cX12_spelt 65 = .ok (.ldc2_w 156, 3) := by decide +kernel
theorem dX12_spelt_68 : decode cX12_spelt 68 = .ok (.ldc2_w 156, 3) := by decide +kernel
theorem dX12_spelt_71 : decode cX12_spelt 71 = .ok (.lload 7, 2) := by decide +kernel
theorem dX12_spelt_73 : decode cX12_spelt 73 = .ok (.lmul, 1) := by decide +kernel
theorem dX12_spelt_74 : decode cX12_spelt 74 = .ok (.iload 5, 2) := by decide +kernel
theorem dX12_spelt_76 : decode cX12_spelt 76 = .ok (.i2l, 1) := by decide +kernel
theorem dX12_spelt_77 : decode cX12_spelt 77 = .ok (.ladd, 1) := by decide +kernel
theorem dX12_spelt_78 : decode cX12_spelt 78 = .ok (.ldc2_w 158, 3) := by decide +kernel
theorem dX12_spelt_81 : decode cX12_spelt 81 = .ok (.lsub, 1) := by decide +kernel
theorem dX12_spelt_82 : decode cX12_spelt 82 = .ok (.lmul, 1) := by decide +kernel
theorem dX12_spelt_83 : decode cX12_spelt 83 = .ok (.iload 6, 2) := by decide +kernel
theorem dX12_spelt_85 : decode cX12_spelt 85 = .ok (.i2l, 1) := by decide +kernel
theorem dX12_spelt_86 : decode cX12_spelt 86 = .ok (.ladd, 1) := by decide +kernel
theorem dX12_spelt_87 : decode cX12_spelt 87 = .ok (.ldc2_w 158, 3) := by decide +kernel
theorem dX12_spelt_90 : decode cX12_spelt 90 = .ok (.lsub, 1) := by decide +kernel
theorem dX12_spelt_91 : decode cX12_spelt 91 = .ok (.lreturn, 1) := by decide +kernel
theorem dX12_reads_0 : decode cX12_reads 0 = .ok (.aload_n 0, 1) := by decide +kernel
theorem dX12_reads_1 : decode cX12_reads 1 = .ok (.invokevirtual 160, 3) := by decide +kernel
theorem dX12_reads_4 : decode cX12_reads 4 = .ok (.aload_n 0, 1) := by decide +kernel
theorem dX12_reads_5 : decode cX12_reads 5 = .ok (.getfield 23, 3) := by decide +kernel
theorem dX12_reads_8 : decode cX12_reads 8 = .ok (.iload_n 1, 1) := by decide +kernel
theorem dX12_reads_9 : decode cX12_reads 9 = .ok (.aload_n 0, 1) := by decide +kernel
theorem dX12_reads_10 : decode cX12_reads 10 = .ok (.getfield 142, 3) := by decide +kernel
theorem dX12_reads_13 : decode cX12_reads 13 = .ok (.iastore, 1) := by decide +kernel
theorem dX12_reads_14 : decode cX12_reads 14 = .ok (.aload_n 0, 1) := by decide +kernel
theorem dX12_reads_15 : decode cX12_reads 15 = .ok (.getfield 145, 3) := by decide +kernel
theorem dX12_reads_18 : decode cX12_reads 18 = .ok (.iconst 2, 1) := by decide +kernel
theorem dX12_reads_19 : decode cX12_reads 19 = .ok (.if_icmp .ne 15, 3) := by decide +kernel
theorem dX12_reads_22 : decode cX12_reads 22 = .ok (.aload_n 0, 1) := by decide +kernel
theorem dX12_reads_23 : decode cX12_reads 23 = .ok (.getfield 142, 3) := by decide +kernel
theorem dX12_reads_26 : decode cX12_reads 26 = .ok (.iload_n 2, 1) := by decide +kernel
theorem dX12_reads_27 : decode cX12_reads 27 = .ok (.if_icmp .gt 7, 3) := by decide +kernel
theorem dX12_reads_30 : decode cX12_reads 30 = .ok (.iconst 1, 1) := by decide +kernel
theorem dX12_reads_31 : decode cX12_reads 31 = .ok (.goto 4, 3) := by decide +kernel
theorem dX12_reads_34 : decode cX12_reads 34 = .ok (.iconst 0, 1) := by decide +kernel
theorem dX12_reads_35 : decode cX12_reads 35 = .ok (.ireturn, 1) := by decide +kernel
theorem dX12_ends_0 : decode cX12_ends 0 = .ok (.aload_n 0, 1) := by decide +kernel
theorem dX12_ends_1 : decode cX12_ends 1 = .ok (.invokevirtual 160, 3) := by decide +kernel
theorem dX12_ends_4 : decode cX12_ends 4 = .ok (.aload_n 0, 1) := by decide +kernel
theorem dX12_ends_5 : decode cX12_ends 5 = .ok (.getfield 145, 3) := by decide +kernel
theorem dX12_ends_8 : decode cX12_ends 8 = .ok (.iconst 4, 1) := by decide +kernel
theorem dX12_ends_9 : decode cX12_ends 9 = .ok (.if_icmp .ne 7, 3) := by decide +kernel
theorem dX12_ends_12 : decode cX12_ends 12 = .ok (.iconst 1, 1) := by decide +kernel
theorem dX12_ends_13 : decode cX12_ends 13 = .ok (.goto 4, 3) := by decide +kernel
theorem dX12_ends_16 : decode cX12_ends 16 = .ok (.iconst 0, 1) := by decide +kernel
theorem dX12_ends_17 : decode cX12_ends 17 = .ok (.ireturn, 1) := by decide +kernel
theorem dX12_readOwners_0 : decode cX12_readOwners 0 = .ok (.aload_n 0, 1) := by decide +kernel
theorem dX12_readOwners_1 : decode cX12_readOwners 1 = .ok (.iconst 0, 1) := by decide +kernel
theorem dX12_readOwners_2 : decode cX12_readOwners 2 = .ok (.putfield 163, 3) := by decide +kernel
theorem dX12_readOwners_5 : decode cX12_readOwners 5 = .ok (.aload_n 0, 1) := by decide +kernel
theorem dX12_readOwners_6 : decode cX12_readOwners 6 = .ok (.invokevirtual 160, 3) := by decide +kernel
theorem dX12_readOwners_9 : decode cX12_readOwners 9 = .ok (.aload_n 0, 1) := by decide +kernel
theorem dX12_readOwners_10 : decode cX12_readOwners 10 = .ok (.getfield 145, 3) := by decide +kernel
theorem dX12_readOwners_13 : decode cX12_readOwners 13 = .ok (.iconst 2, 1) := by decide +kernel
theorem dX12_readOwners_14 : decode cX12_readOwners 14 = .ok (.if_icmp .ne 74, 3) := by decide +kernel
theorem dX12_readOwners_17 : decode cX12_readOwners 17 = .ok (.aload_n 0, 1) := by decide +kernel
theorem dX12_readOwners_18 : decode cX12_readOwners 18 = .ok (.getfield 142, 3) := by decide +kernel
theorem dX12_readOwners_21 : decode cX12_readOwners 21 = .ok (.iconst 3, 1) := by decide +kernel
theorem dX12_readOwners_22 : decode cX12_readOwners 22 = .ok (.if_icmp .ge 66, 3) := by decide +kernel
theorem dX12_readOwners_25 : decode cX12_readOwners 25 = .ok (.aload_n 0, 1) := by decide +kernel
theorem dX12_readOwners_26 : decode cX12_readOwners 26 = .ok (.getfield 163, 3) := by decide +kernel
theorem dX12_readOwners_29 : decode cX12_readOwners 29 = .ok (.iconst 4, 1) := by decide +kernel
theorem dX12_readOwners_30 : decode cX12_readOwners 30 = .ok (.if_icmp .ge 58, 3) := by decide +kernel
theorem dX12_readOwners_33 : decode cX12_readOwners 33 = .ok (.aload_n 0, 1) := by decide +kernel
theorem dX12_readOwners_34 : decode cX12_readOwners 34 = .ok (.getfield 163, 3) := by decide +kernel
theorem dX12_readOwners_37 : decode cX12_readOwners 37 = .ok (.ifCond .eq 19, 3) := by decide +kernel
theorem dX12_readOwners_40 : decode cX12_readOwners 40 = .ok (.aload_n 0, 1) := by decide +kernel
theorem dX12_readOwners_41 : decode cX12_readOwners 41 = .ok (.getfield 23, 3) := by decide +kernel
theorem dX12_readOwners_44 : decode cX12_readOwners 44 = .ok (.aload_n 0, 1) := by decide +kernel
theorem dX12_readOwners_45 : decode cX12_readOwners 45 = .ok (.getfield 163, 3) := by decide +kernel
theorem dX12_readOwners_48 : decode cX12_readOwners 48 = .ok (.iaload, 1) := by decide +kernel
theorem dX12_readOwners_49 : decode cX12_readOwners 49 = .ok (.aload_n 0, 1) := by decide +kernel
theorem dX12_readOwners_50 : decode cX12_readOwners 50 = .ok (.getfield 142, 3) := by decide +kernel
theorem dX12_readOwners_53 : decode cX12_readOwners 53 = .ok (.if_icmp .eq 35, 3) := by decide +kernel
theorem dX12_readOwners_56 : decode cX12_readOwners 56 = .ok (.aload_n 0, 1) := by decide +kernel
theorem dX12_readOwners_57 : decode cX12_readOwners 57 = .ok (.getfield 23, 3) := by decide +kernel
theorem dX12_readOwners_60 : decode cX12_readOwners 60 = .ok (.aload_n 0, 1) := by decide +kernel
theorem dX12_readOwners_61 : decode cX12_readOwners 61 = .ok (.getfield 163, 3) := by decide +kernel
theorem dX12_readOwners_64 : decode cX12_readOwners 64 = .ok (.iconst 1, 1) := by decide +kernel
theorem dX12_readOwners_65 : decode cX12_readOwners 65 = .ok (.iadd, 1) := by decide +kernel
theorem dX12_readOwners_66 : decode cX12_readOwners 66 = .ok (.aload_n 0, 1) := by decide +kernel
theorem dX12_readOwners_67 : decode cX12_readOwners 67 = .ok (.getfield 142, 3) := by decide +kernel
theorem dX12_readOwners_70 : decode cX12_readOwners 70 = .ok (.iastore, 1) := by decide +kernel
theorem dX12_readOwners_71 : decode cX12_readOwners 71 = .ok (.aload_n 0, 1) := by decide +kernel
theorem dX12_readOwners_72 : decode cX12_readOwners 72 = .ok (.dup, 1) := by decide +kernel
theorem dX12_readOwners_73 : decode cX12_readOwners 73 = .ok (.getfield 163, 3) := by decide +kernel
theorem dX12_readOwners_76 : decode cX12_readOwners 76 = .ok (.iconst 1, 1) := by decide +kernel
theorem dX12_readOwners_77 : decode cX12_readOwners 77 = .ok (.iadd, 1) := by decide +kernel
theorem dX12_readOwners_78 : decode cX12_readOwners 78 = .ok (.putfield 163, 3) := by decide +kernel
theorem dX12_readOwners_81 : decode cX12_readOwners 81 = .ok (.aload_n 0, 1) := by decide +kernel
theorem dX12_readOwners_82 : decode cX12_readOwners 82 = .ok (.invokevirtual 160, 3) := by decide +kernel
theorem dX12_readOwners_85 : decode cX12_readOwners 85 = .ok (.goto (-76), 3) := by decide +kernel
theorem dX12_readOwners_88 : decode cX12_readOwners 88 = .ok (.aload_n 0, 1) := by decide +kernel
theorem dX12_readOwners_89 : decode cX12_readOwners 89 = .ok (.getfield 145, 3) := by decide +kernel
theorem dX12_readOwners_92 : decode cX12_readOwners 92 = .ok (.iconst 4, 1) := by decide +kernel
theorem dX12_readOwners_93 : decode cX12_readOwners 93 = .ok (.if_icmp .ne 7, 3) := by decide +kernel
theorem dX12_readOwners_96 : decode cX12_readOwners 96 = .ok (.iconst 1, 1) := by decide +kernel
theorem dX12_readOwners_97 : decode cX12_readOwners 97 = .ok (.goto 4, 3) := by decide +kernel
theorem dX12_readOwners_100 : decode cX12_readOwners 100 = .ok (.iconst 0, 1) := by decide +kernel
theorem dX12_readOwners_101 : decode cX12_readOwners 101 = .ok (.ireturn, 1) := by decide +kernel
theorem dX12_readItem_0 : decode cX12_readItem 0 = .ok (.iload_n 1, 1) := by decide +kernel
theorem dX12_readItem_1 : decode cX12_readItem 1 = .ok (.ifCond .ne 40, 3) := by decide +kernel
theorem dX12_readItem_4 : decode cX12_readItem 4 = .ok (.aload_n 0, 1) := by decide +kernel
theorem dX12_readItem_5 : decode cX12_readItem 5 = .ok (.bipush 104, 2) := by decide +kernel
theorem dX12_readItem_7 : decode cX12_readItem 7 = .ok (.bipush 111, 2) := by decide +kernel
theorem dX12_readItem_9 : decode cX12_readItem 9 = .ok (.bipush 117, 2) := by decide +kernel
theorem dX12_readItem_11 : decode cX12_readItem 11 = .ok (.bipush 115, 2) := by decide +kernel
theorem dX12_readItem_13 : decode cX12_readItem 13 = .ok (.bipush 101, 2) := by decide +kernel
theorem dX12_readItem_15 : decode cX12_readItem 15 = .ok (.iconst 0, 1) := by decide +kernel
theorem dX12_readItem_16 : decode cX12_readItem 16 = .ok (.iconst 0, 1) := by decide +kernel
theorem dX12_readItem_17 : decode cX12_readItem 17 = .ok (.invokestatic 166, 3) := by decide +kernel
theorem dX12_readItem_20 : decode cX12_readItem 20 = .ok (.invokevirtual 170, 3) := by decide +kernel
theorem dX12_readItem_23 : decode cX12_readItem 23 = .ok (.ifCond .ne 5, 3) := by decide +kernel
theorem dX12_readItem_26 : decode cX12_readItem 26 = .ok (.iconst 0, 1) := by decide +kernel
theorem dX12_readItem_27 : decode cX12_readItem 27 = .ok (.ireturn, 1) := by decide +kernel
theorem dX12_readItem_28 : decode cX12_readItem 28 = .ok (.iload_n 2, 1) := by decide +kernel
theorem dX12_readItem_29 : decode cX12_readItem 29 = .ok (.ifCond .eq 7, 3) := by decide +kernel
theorem dX12_readItem_32 : decode cX12_readItem 32 = .ok (.aload_n 0, 1) := by decide +kernel
theorem dX12_readItem_33 : decode cX12_readItem 33 = .ok (.invokevirtual 70, 3) := by decide +kernel
theorem dX12_readItem_36 : decode cX12_readItem 36 = .ok (.aload_n 0, 1) := by decide +kernel
theorem dX12_readItem_37 : decode cX12_readItem 37 = .ok (.invokevirtual 174, 3) := by decide +kernel
theorem dX12_readItem_40 : decode cX12_readItem 40 = .ok (.ireturn, 1) := by decide +kernel
theorem dX12_readItem_41 : decode cX12_readItem 41 = .ok (.aload_n 0, 1) := by decide +kernel
theorem dX12_readItem_42 : decode cX12_readItem 42 = .ok (.bipush 115, 2) := by decide +kernel
theorem dX12_readItem_44 : decode cX12_readItem 44 = .ok (.bipush 116, 2) := by decide +kernel
theorem dX12_readItem_46 : decode cX12_readItem 46 = .ok (.bipush 97, 2) := by decide +kernel
theorem dX12_readItem_48 : decode cX12_readItem 48 = .ok (.bipush 105, 2) := by decide +kernel
theorem dX12_readItem_50 : decode cX12_readItem 50 = .ok (.bipush 114, 2) := by decide +kernel
theorem dX12_readItem_52 : decode cX12_readItem 52 = .ok (.iconst 0, 1) := by decide +kernel
theorem dX12_readItem_53 : decode cX12_readItem 53 = .ok (.iconst 0, 1) := by decide +kernel
theorem dX12_readItem_54 : decode cX12_readItem 54 = .ok (.invokestatic 166, 3) := by decide +kernel
theorem dX12_readItem_57 : decode cX12_readItem 57 = .ok (.invokevirtual 170, 3) := by decide +kernel
theorem dX12_readItem_60 : decode cX12_readItem 60 = .ok (.ifCond .eq 108, 3) := by decide +kernel
theorem dX12_readItem_63 : decode cX12_readItem 63 = .ok (.aload_n 0, 1) := by decide +kernel
theorem dX12_readItem_64 : decode cX12_readItem 64 = .ok (.iconst 0, 1) := by decide +kernel
theorem dX12_readItem_65 : decode cX12_readItem 65 = .ok (.bipush 7, 2) := by decide +kernel
theorem dX12_readItem_67 : decode cX12_readItem 67 = .ok (.invokevirtual 178, 3) := by decide +kernel
theorem dX12_readItem_70 : decode cX12_readItem 70 = .ok (.ifCond .eq 42, 3) := by decide +kernel
theorem dX12_readItem_73 : decode cX12_readItem 73 = .ok (.aload_n 0, 1) := by decide +kernel
theorem dX12_readItem_74 : decode cX12_readItem 74 = .ok (.iconst 1, 1) := by decide +kernel
theorem dX12_readItem_75 : decode cX12_readItem 75 = .ok (.bipush 7, 2) := by decide +kernel
theorem dX12_readItem_77 : decode cX12_readItem 77 = .ok (.invokevirtual 178, 3) := by decide +kernel
theorem dX12_readItem_80 : decode cX12_readItem 80 = .ok (.ifCond .eq 32, 3) := by decide +kernel
theorem dX12_readItem_83 : decode cX12_readItem 83 = .ok (.aload_n 0, 1) := by decide +kernel
theorem dX12_readItem_84 : decode cX12_readItem 84 = .ok (.getfield 23, 3) := by decide +kernel
theorem dX12_readItem_87 : decode cX12_readItem 87 = .ok (.iconst 0, 1) := by decide +kernel
theorem dX12_readItem_88 : decode cX12_readItem 88 = .ok (.iaload, 1) := by decide +kernel
theorem dX12_readItem_89 : decode cX12_readItem 89 = .ok (.aload_n 0, 1) := by decide +kernel
theorem dX12_readItem_90 : decode cX12_readItem 90 = .ok (.getfield 23, 3) := by decide +kernel
theorem dX12_readItem_93 : decode cX12_readItem 93 = .ok (.iconst 1, 1) := by decide +kernel
theorem dX12_readItem_94 : decode cX12_readItem 94 = .ok (.iaload, 1) := by decide +kernel
theorem dX12_readItem_95 : decode cX12_readItem 95 = .ok (.if_icmp .eq 17, 3) := by decide +kernel
theorem dX12_readItem_98 : decode cX12_readItem 98 = .ok (.aload_n 0, 1) := by decide +kernel
theorem dX12_readItem_99 : decode cX12_readItem 99 = .ok (.iconst 2, 1) := by decide +kernel
theorem dX12_readItem_100 : decode cX12_readItem 100 = .ok (.bipush 9, 2) := by decide +kernel
theorem dX12_readItem_102 : decode cX12_readItem 102 = .ok (.invokevirtual 178, 3) := by decide +kernel
theorem dX12_readItem_105 : decode cX12_readItem 105 = .ok (.ifCond .eq 7, 3) := by decide +kernel
theorem dX12_readItem_108 : decode cX12_readItem 108 = .ok (.iconst 1, 1) := by decide +kernel
theorem dX12_readItem_109 : decode cX12_readItem 109 = .ok (.goto 4, 3) := by decide +kernel
theorem dX12_readItem_112 : decode cX12_readItem 112 = .ok (.iconst 0, 1) := by decide +kernel
theorem dX12_readItem_113 : decode cX12_readItem 113 = .ok (.istore_n 3, 1) := by decide +kernel
theorem dX12_readItem_114 : decode cX12_readItem 114 = .ok (.iload_n 3, 1) := by decide +kernel
theorem dX12_readItem_115 : decode cX12_readItem 115 = .ok (.ifCond .eq 36, 3) := by decide +kernel
theorem dX12_readItem_118 : decode cX12_readItem 118 = .ok (.iload_n 2, 1) := by decide +kernel
theorem dX12_readItem_119 : decode cX12_readItem 119 = .ok (.ifCond .eq 32, 3) := by decide +kernel
theorem dX12_readItem_122 : decode cX12_readItem 122 = .ok (.aload_n 0, 1) := by decide +kernel
theorem dX12_readItem_123 : decode cX12_readItem 123 = .ok (.getfield 7, 3) := by decide +kernel
theorem dX12_readItem_126 : decode cX12_readItem 126 = .ok (.bipush 71, 2) := by decide +kernel
theorem dX12_readItem_128 : decode cX12_readItem 128 = .ok (.aload_n 0, 1) := by decide +kernel
theorem dX12_readItem_129 : decode cX12_readItem 129 = .ok (.getfield 23, 3) := by decide +kernel
theorem dX12_readItem_132 : decode cX12_readItem 132 = .ok (.iconst 0, 1) := by decide +kernel
theorem dX12_readItem_133 : decode cX12_readItem 133 = .ok (.iaload, 1) := by decide +kernel
theorem dX12_readItem_134 : decode cX12_readItem 134 = .ok (.aload_n 0, 1) := by decide +kernel
theorem dX12_readItem_135 : decode cX12_readItem 135 = .ok (.getfield 23, 3) := by decide +kernel
theorem dX12_readItem_138 : decode cX12_readItem 138 = .ok (.iconst 1, 1) := by decide +kernel
theorem dX12_readItem_139 : decode cX12_readItem 139 = .ok (.iaload, 1) := by decide +kernel
theorem dX12_readItem_140 : decode cX12_readItem 140 = .ok (.invokestatic 85, 3) := by decide +kernel
theorem dX12_readItem_143 : decode cX12_readItem 143 = .ok (.iadd, 1) := by decide +kernel
theorem dX12_readItem_144 : decode cX12_readItem 144 = .ok (.aload_n 0, 1) := by decide +kernel
theorem dX12_readItem_145 : decode cX12_readItem 145 = .ok (.getfield 23, 3) := by decide +kernel
theorem dX12_readItem_148 : decode cX12_readItem 148 = .ok (.iconst 2, 1) := by decide +kernel
theorem dX12_readItem_149 : decode cX12_readItem 149 = .ok (.iaload, 1) := by decide +kernel
theorem dX12_readItem_150 : decode cX12_readItem 150 = .ok (.iastore, 1) := by decide +kernel
theorem dX12_readItem_151 : decode cX12_readItem 151 = .ok (.iload_n 3, 1) := by decide +kernel
theorem dX12_readItem_152 : decode cX12_readItem 152 = .ok (.ifCond .eq 14, 3) := by decide +kernel
theorem dX12_readItem_155 : decode cX12_readItem 155 = .ok (.aload_n 0, 1) := by decide +kernel
theorem dX12_readItem_156 : decode cX12_readItem 156 = .ok (.invokevirtual 174, 3) := by decide +kernel
theorem dX12_readItem_159 : decode cX12_readItem 159 = .ok (.ifCond .eq 7, 3) := by decide +kernel
theorem dX12_readItem_162 : decode cX12_readItem 162 = .ok (.iconst 1, 1) := by decide +kernel
theorem dX12_readItem_163 : decode cX12_readItem 163 = .ok (.goto 4, 3) := by decide +kernel
theorem dX12_readItem_166 : decode cX12_readItem 166 = .ok (.iconst 0, 1) := by decide +kernel
theorem dX12_readItem_167 : decode cX12_readItem 167 = .ok (.ireturn, 1) := by decide +kernel
theorem dX12_readItem_168 : decode cX12_readItem 168 = .ok (.aload_n 0, 1) := by decide +kernel
theorem dX12_readItem_169 : decode cX12_readItem 169 = .ok (.bipush 115, 2) := by decide +kernel
theorem dX12_readItem_171 : decode cX12_readItem 171 = .ok (.bipush 108, 2) := by decide +kernel
theorem dX12_readItem_173 : decode cX12_readItem 173 = .ok (.bipush 101, 2) := by decide +kernel
theorem dX12_readItem_175 : decode cX12_readItem 175 = .ok (.bipush 101, 2) := by decide +kernel
theorem dX12_readItem_177 : decode cX12_readItem 177 = .ok (.bipush 112, 2) := by decide +kernel
theorem dX12_readItem_179 : decode cX12_readItem 179 = .ok (.bipush 101, 2) := by decide +kernel
theorem dX12_readItem_181 : decode cX12_readItem 181 = .ok (.bipush 114, 2) := by decide +kernel
theorem dX12_readItem_183 : decode cX12_readItem 183 = .ok (.invokestatic 166, 3) := by decide +kernel
theorem dX12_readItem_186 : decode cX12_readItem 186 = .ok (.invokevirtual 170, 3) := by decide +kernel
theorem dX12_readItem_189 : decode cX12_readItem 189 = .ok (.ifCond .eq 103, 3) := by decide +kernel
theorem dX12_readItem_192 : decode cX12_readItem 192 = .ok (.aload_n 0, 1) := by decide +kernel
theorem dX12_readItem_193 : decode cX12_readItem 193 = .ok (.getfield 182, 3) := by decide +kernel
theorem dX12_readItem_196 : decode cX12_readItem 196 = .ok (.iconst 5, 1) := by decide +kernel
theorem dX12_readItem_197 : decode cX12_readItem 197 = .ok (.if_icmp .ge 36, 3) := by decide +kernel
theorem dX12_readItem_200 : decode cX12_readItem 200 = .ok (.aload_n 0, 1) := by decide +kernel
theorem dX12_readItem_201 : decode cX12_readItem 201 = .ok (.iconst 0, 1) := by decide +kernel
theorem dX12_readItem_202 : decode cX12_readItem 202 = .ok (.iconst 5, 1) := by decide +kernel
theorem dX12_readItem_203 : decode cX12_readItem 203 = .ok (.invokevirtual 178, 3) := by decide +kernel
theorem dX12_readItem_206 : decode cX12_readItem 206 = .ok (.ifCond .eq 27, 3) := by decide +kernel
theorem dX12_readItem_209 : decode cX12_readItem 209 = .ok (.aload_n 0, 1) := by decide +kernel
theorem dX12_readItem_210 : decode cX12_readItem 210 = .ok (.iconst 1, 1) := by decide +kernel
theorem dX12_readItem_211 : decode cX12_readItem 211 = .ok (.bipush 7, 2) := by decide +kernel
theorem dX12_readItem_213 : decode cX12_readItem 213 = .ok (.invokevirtual 178, 3) := by decide +kernel
theorem dX12_readItem_216 : decode cX12_readItem 216 = .ok (.ifCond .eq 17, 3) := by decide +kernel
theorem dX12_readItem_219 : decode cX12_readItem 219 = .ok (.aload_n 0, 1) := by decide +kernel
theorem dX12_readItem_220 : decode cX12_readItem 220 = .ok (.iconst 2, 1) := by decide +kernel
theorem dX12_readItem_221 : decode cX12_readItem 221 = .ok (.bipush 9, 2) := by decide +kernel
theorem dX12_readItem_223 : decode cX12_readItem 223 = .ok (.invokevirtual 178, 3) := by decide +kernel
theorem dX12_readItem_226 : decode cX12_readItem 226 = .ok (.ifCond .eq 7, 3) := by decide +kernel
theorem dX12_readItem_229 : decode cX12_readItem 229 = .ok (.iconst 1, 1) := by decide +kernel
theorem dX12_readItem_230 : decode cX12_readItem 230 = .ok (.goto 4, 3) := by decide +kernel
theorem dX12_readItem_233 : decode cX12_readItem 233 = .ok (.iconst 0, 1) := by decide +kernel
theorem dX12_readItem_234 : decode cX12_readItem 234 = .ok (.istore_n 3, 1) := by decide +kernel
theorem dX12_readItem_235 : decode cX12_readItem 235 = .ok (.aload_n 0, 1) := by decide +kernel
theorem dX12_readItem_236 : decode cX12_readItem 236 = .ok (.dup, 1) := by decide +kernel
theorem dX12_readItem_237 : decode cX12_readItem 237 = .ok (.getfield 182, 3) := by decide +kernel
theorem dX12_readItem_240 : decode cX12_readItem 240 = .ok (.iconst 1, 1) := by decide +kernel
theorem dX12_readItem_241 : decode cX12_readItem 241 = .ok (.iadd, 1) := by decide +kernel
theorem dX12_readItem_242 : decode cX12_readItem 242 = .ok (.putfield 182, 3) := by decide +kernel
theorem dX12_readItem_245 : decode cX12_readItem 245 = .ok (.iload_n 3, 1) := by decide +kernel
theorem dX12_readItem_246 : decode cX12_readItem 246 = .ok (.ifCond .eq 29, 3) := by decide +kernel
theorem dX12_readItem_249 : decode cX12_readItem 249 = .ok (.iload_n 2, 1) := by decide +kernel
theorem dX12_readItem_250 : decode cX12_readItem 250 = .ok (.ifCond .eq 25, 3) := by decide +kernel
theorem dX12_readItem_253 : decode cX12_readItem 253 = .ok (.aload_n 0, 1) := by decide +kernel
theorem dX12_readItem_254 : decode cX12_readItem 254 = .ok (.aload_n 0, 1) := by decide +kernel
theorem dX12_readItem_255 : decode cX12_readItem 255 = .ok (.getfield 23, 3) := by decide +kernel
theorem dX12_readItem_258 : decode cX12_readItem 258 = .ok (.iconst 0, 1) := by decide +kernel
theorem dX12_readItem_259 : decode cX12_readItem 259 = .ok (.iaload, 1) := by decide +kernel
theorem dX12_readItem_260 : decode cX12_readItem 260 = .ok (.aload_n 0, 1) := by decide +kernel
theorem dX12_readItem_261 : decode cX12_readItem 261 = .ok (.getfield 23, 3) := by decide +kernel
theorem dX12_readItem_264 : decode cX12_readItem 264 = .ok (.iconst 1, 1) := by decide +kernel
theorem dX12_readItem_265 : decode cX12_readItem 265 = .ok (.iaload, 1) := by decide +kernel
theorem dX12_readItem_266 : decode cX12_readItem 266 = .ok (.aload_n 0, 1) := by decide +kernel
theorem dX12_readItem_267 : decode cX12_readItem 267 = .ok (.getfield 23, 3) := by decide +kernel
theorem dX12_readItem_270 : decode cX12_readItem 270 = .ok (.iconst 2, 1) := by decide +kernel
theorem dX12_readItem_271 : decode cX12_readItem 271 = .ok (.iaload, 1) := by decide +kernel
theorem dX12_readItem_272 : decode cX12_readItem 272 = .ok (.invokevirtual 107, 3) := by decide +kernel
theorem dX12_readItem_275 : decode cX12_readItem 275 = .ok (.iload_n 3, 1) := by decide +kernel
theorem dX12_readItem_276 : decode cX12_readItem 276 = .ok (.ifCond .eq 14, 3) := by decide +kernel
theorem dX12_readItem_279 : decode cX12_readItem 279 = .ok (.aload_n 0, 1) := by decide +kernel
theorem dX12_readItem_280 : decode cX12_readItem 280 = .ok (.invokevirtual 174, 3) := by decide +kernel
theorem dX12_readItem_283 : decode cX12_readItem 283 = .ok (.ifCond .eq 7, 3) := by decide +kernel
theorem dX12_readItem_286 : decode cX12_readItem 286 = .ok (.iconst 1, 1) := by decide +kernel
theorem dX12_readItem_287 : decode cX12_readItem 287 = .ok (.goto 4, 3) := by decide +kernel
theorem dX12_readItem_290 : decode cX12_readItem 290 = .ok (.iconst 0, 1) := by decide +kernel
theorem dX12_readItem_291 : decode cX12_readItem 291 = .ok (.ireturn, 1) := by decide +kernel
theorem dX12_readItem_292 : decode cX12_readItem 292 = .ok (.aload_n 0, 1) := by decide +kernel
theorem dX12_readItem_293 : decode cX12_readItem 293 = .ok (.bipush 116, 2) := by decide +kernel
theorem dX12_readItem_295 : decode cX12_readItem 295 = .ok (.bipush 104, 2) := by decide +kernel
theorem dX12_readItem_297 : decode cX12_readItem 297 = .ok (.bipush 105, 2) := by decide +kernel
theorem dX12_readItem_299 : decode cX12_readItem 299 = .ok (.bipush 110, 2) := by decide +kernel
theorem dX12_readItem_301 : decode cX12_readItem 301 = .ok (.bipush 103, 2) := by decide +kernel
theorem dX12_readItem_303 : decode cX12_readItem 303 = .ok (.iconst 0, 1) := by decide +kernel
theorem dX12_readItem_304 : decode cX12_readItem 304 = .ok (.iconst 0, 1) := by decide +kernel
theorem dX12_readItem_305 : decode cX12_readItem 305 = .ok (.invokestatic 166, 3) := by decide +kernel
theorem dX12_readItem_308 : decode cX12_readItem 308 = .ok (.invokevirtual 170, 3) := by decide +kernel
theorem dX12_readItem_311 : decode cX12_readItem 311 = .ok (.ifCond .eq 25, 3) := by decide +kernel
theorem dX12_readItem_314 : decode cX12_readItem 314 = .ok (.aload_n 0, 1) := by decide +kernel
theorem dX12_readItem_315 : decode cX12_readItem 315 = .ok (.getfield 185, 3) := by decide +kernel
theorem dX12_readItem_318 : decode cX12_readItem 318 = .ok (.iconst 5, 1) := by decide +kernel
theorem dX12_readItem_319 : decode cX12_readItem 319 = .ok (.if_icmp .ge 17, 3) := by decide +kernel
theorem dX12_readItem_322 : decode cX12_readItem 322 = .ok (.aload_n 0, 1) := by decide +kernel
theorem dX12_readItem_323 : decode cX12_readItem 323 = .ok (.iconst 0, 1) := by decide +kernel
theorem dX12_readItem_324 : decode cX12_readItem 324 = .ok (.bipush 7, 2) := by decide +kernel
theorem dX12_readItem_326 : decode cX12_readItem 326 = .ok (.invokevirtual 178, 3) := by decide +kernel
theorem dX12_readItem_329 : decode cX12_readItem 329 = .ok (.ifCond .eq 7, 3) := by decide +kernel
theorem dX12_readItem_332 : decode cX12_readItem 332 = .ok (.iconst 1, 1) := by decide +kernel
theorem dX12_readItem_333 : decode cX12_readItem 333 = .ok (.goto 4, 3) := by decide +kernel
theorem dX12_readItem_336 : decode cX12_readItem 336 = .ok (.iconst 0, 1) := by decide +kernel
theorem dX12_readItem_337 : decode cX12_readItem 337 = .ok (.istore_n 3, 1) := by decide +kernel
theorem dX12_readItem_338 : decode cX12_readItem 338 = .ok (.aload_n 0, 1) := by decide +kernel
theorem dX12_readItem_339 : decode cX12_readItem 339 = .ok (.dup, 1) := by decide +kernel
theorem dX12_readItem_340 : decode cX12_readItem 340 = .ok (.getfield 185, 3) := by decide +kernel
theorem dX12_readItem_343 : decode cX12_readItem 343 = .ok (.iconst 1, 1) := by decide +kernel
theorem dX12_readItem_344 : decode cX12_readItem 344 = .ok (.iadd, 1) := by decide +kernel
theorem dX12_readItem_345 : decode cX12_readItem 345 = .ok (.putfield 185, 3) := by decide +kernel
theorem dX12_readItem_348 : decode cX12_readItem 348 = .ok (.iload_n 3, 1) := by decide +kernel
theorem dX12_readItem_349 : decode cX12_readItem 349 = .ok (.ifCond .ne 5, 3) := by decide +kernel
theorem dX12_readItem_352 : decode cX12_readItem 352 = .ok (.iconst 0, 1) := by decide +kernel
theorem dX12_readItem_353 : decode cX12_readItem 353 = .ok (.ireturn, 1) := by decide +kernel
theorem dX12_readItem_354 : decode cX12_readItem 354 = .ok (.iload_n 2, 1) := by decide +kernel
theorem dX12_readItem_355 : decode cX12_readItem 355 = .ok (.ifCond .eq 13, 3) := by decide +kernel
theorem dX12_readItem_358 : decode cX12_readItem 358 = .ok (.aload_n 0, 1) := by decide +kernel
theorem dX12_readItem_359 : decode cX12_readItem 359 = .ok (.aload_n 0, 1) := by decide +kernel
theorem dX12_readItem_360 : decode cX12_readItem 360 = .ok (.getfield 23, 3) := by decide +kernel
theorem dX12_readItem_363 : decode cX12_readItem 363 = .ok (.iconst 0, 1) := by decide +kernel
theorem dX12_readItem_364 : decode cX12_readItem 364 = .ok (.iaload, 1) := by decide +kernel
theorem dX12_readItem_365 : decode cX12_readItem 365 = .ok (.invokevirtual 111, 3) := by decide +kernel
theorem dX12_readItem_368 : decode cX12_readItem 368 = .ok (.aload_n 0, 1) := by decide +kernel
theorem dX12_readItem_369 : decode cX12_readItem 369 = .ok (.invokevirtual 188, 3) := by decide +kernel
theorem dX12_readItem_372 : decode cX12_readItem 372 = .ok (.istore 4, 2) := by decide +kernel
theorem dX12_readItem_374 : decode cX12_readItem 374 = .ok (.iconst 0, 1) := by decide +kernel
theorem dX12_readItem_375 : decode cX12_readItem 375 = .ok (.istore 5, 2) := by decide +kernel
theorem dX12_readItem_377 : decode cX12_readItem 377 = .ok (.iload 5, 2) := by decide +kernel
theorem dX12_readItem_379 : decode cX12_readItem 379 = .ok (.aload_n 0, 1) := by decide +kernel
theorem dX12_readItem_380 : decode cX12_readItem 380 = .ok (.getfield 163, 3) := by decide +kernel
theorem dX12_readItem_383 : decode cX12_readItem 383 = .ok (.if_icmp .ge 35, 3) := by decide +kernel
theorem dX12_readItem_386 : decode cX12_readItem 386 = .ok (.iload_n 2, 1) := by decide +kernel
theorem dX12_readItem_387 : decode cX12_readItem 387 = .ok (.ifCond .eq 31, 3) := by decide +kernel
theorem dX12_readItem_390 : decode cX12_readItem 390 = .ok (.aload_n 0, 1) := by decide +kernel
theorem dX12_readItem_391 : decode cX12_readItem 391 = .ok (.aload_n 0, 1) := by decide +kernel
theorem dX12_readItem_392 : decode cX12_readItem 392 = .ok (.getfield 7, 3) := by decide +kernel
theorem dX12_readItem_395 : decode cX12_readItem 395 = .ok (.bipush 21, 2) := by decide +kernel
theorem dX12_readItem_397 : decode cX12_readItem 397 = .ok (.iaload, 1) := by decide +kernel
theorem dX12_readItem_398 : decode cX12_readItem 398 = .ok (.iconst 1, 1) := by decide +kernel
theorem dX12_readItem_399 : decode cX12_readItem 399 = .ok (.isub, 1) := by decide +kernel
theorem dX12_readItem_400 : decode cX12_readItem 400 = .ok (.aload_n 0, 1) := by decide +kernel
theorem dX12_readItem_401 : decode cX12_readItem 401 = .ok (.getfield 23, 3) := by decide +kernel
theorem dX12_readItem_404 : decode cX12_readItem 404 = .ok (.iload 5, 2) := by decide +kernel
theorem dX12_readItem_406 : decode cX12_readItem 406 = .ok (.iconst 1, 1) := by decide +kernel
theorem dX12_readItem_407 : decode cX12_readItem 407 = .ok (.iadd, 1) := by decide +kernel
theorem dX12_readItem_408 : decode cX12_readItem 408 = .ok (.iaload, 1) := by decide +kernel
theorem dX12_readItem_409 : decode cX12_readItem 409 = .ok (.invokevirtual 124, 3) := by decide +kernel
theorem dX12_readItem_412 : decode cX12_readItem 412 = .ok (.iinc 5 1, 3) := by decide +kernel
theorem dX12_readItem_415 : decode cX12_readItem 415 = .ok (.goto (-38), 3) := by decide +kernel
theorem dX12_readItem_418 : decode cX12_readItem 418 = .ok (.iload 4, 2) := by decide +kernel
theorem dX12_readItem_420 : decode cX12_readItem 420 = .ok (.ireturn, 1) := by decide +kernel
theorem dX12_readText_0 : decode cX12_readText 0 = .ok (.aload_n 0, 1) := by decide +kernel
theorem dX12_readText_1 : decode cX12_readText 1 = .ok (.iconst 0, 1) := by decide +kernel
theorem dX12_readText_2 : decode cX12_readText 2 = .ok (.putfield 133, 3) := by decide +kernel
theorem dX12_readText_5 : decode cX12_readText 5 = .ok (.aload_n 0, 1) := by decide +kernel
theorem dX12_readText_6 : decode cX12_readText 6 = .ok (.iconst 0, 1) := by decide +kernel
theorem dX12_readText_7 : decode cX12_readText 7 = .ok (.putfield 182, 3) := by decide +kernel
theorem dX12_readText_10 : decode cX12_readText 10 = .ok (.aload_n 0, 1) := by decide +kernel
theorem dX12_readText_11 : decode cX12_readText 11 = .ok (.iconst 0, 1) := by decide +kernel
theorem dX12_readText_12 : decode cX12_readText 12 = .ok (.putfield 185, 3) := by decide +kernel
theorem dX12_readText_15 : decode cX12_readText 15 = .ok (.iconst 0, 1) := by decide +kernel
theorem dX12_readText_16 : decode cX12_readText 16 = .ok (.istore_n 2, 1) := by decide +kernel
theorem dX12_readText_17 : decode cX12_readText 17 = .ok (.aload_n 0, 1) := by decide +kernel
theorem dX12_readText_18 : decode cX12_readText 18 = .ok (.invokevirtual 160, 3) := by decide +kernel
theorem dX12_readText_21 : decode cX12_readText 21 = .ok (.iload_n 2, 1) := by decide +kernel
theorem dX12_readText_22 : decode cX12_readText 22 = .ok (.ifCond .eq 11, 3) := by decide +kernel
theorem dX12_readText_25 : decode cX12_readText 25 = .ok (.aload_n 0, 1) := by decide +kernel
theorem dX12_readText_26 : decode cX12_readText 26 = .ok (.getfield 145, 3) := by decide +kernel
theorem dX12_readText_29 : decode cX12_readText 29 = .ok (.iconst 3, 1) := by decide +kernel
theorem dX12_readText_30 : decode cX12_readText 30 = .ok (.if_icmp .eq 24, 3) := by decide +kernel
theorem dX12_readText_33 : decode cX12_readText 33 = .ok (.aload_n 0, 1) := by decide +kernel
theorem dX12_readText_34 : decode cX12_readText 34 = .ok (.iload_n 2, 1) := by decide +kernel
theorem dX12_readText_35 : decode cX12_readText 35 = .ok (.iload_n 1, 1) := by decide +kernel
theorem dX12_readText_36 : decode cX12_readText 36 = .ok (.invokevirtual 191, 3) := by decide +kernel
theorem dX12_readText_39 : decode cX12_readText 39 = .ok (.ifCond .ne 5, 3) := by decide +kernel
theorem dX12_readText_42 : decode cX12_readText 42 = .ok (.iconst (-1), 1) := by decide +kernel
theorem dX12_readText_43 : decode cX12_readText 43 = .ok (.ireturn, 1) := by decide +kernel
theorem dX12_readText_44 : decode cX12_readText 44 = .ok (.iinc 2 1, 3) := by decide +kernel
theorem dX12_readText_47 : decode cX12_readText 47 = .ok (.aload_n 0, 1) := by decide +kernel
theorem dX12_readText_48 : decode cX12_readText 48 = .ok (.invokevirtual 160, 3) := by decide +kernel
theorem dX12_readText_51 : decode cX12_readText 51 = .ok (.goto (-30), 3) := by decide +kernel
theorem dX12_readText_54 : decode cX12_readText 54 = .ok (.iload_n 2, 1) := by decide +kernel
theorem dX12_readText_55 : decode cX12_readText 55 = .ok (.ireturn, 1) := by decide +kernel
theorem dX12_read_0 : decode cX12_read 0 = .ok (.aload_n 0, 1) := by decide +kernel
theorem dX12_read_1 : decode cX12_read 1 = .ok (.iconst 0, 1) := by decide +kernel
theorem dX12_read_2 : decode cX12_read 2 = .ok (.invokevirtual 195, 3) := by decide +kernel
theorem dX12_read_5 : decode cX12_read 5 = .ok (.ifCond .ge 11, 3) := by decide +kernel
theorem dX12_read_8 : decode cX12_read 8 = .ok (.bipush (-10), 2) := by decide +kernel
theorem dX12_read_10 : decode cX12_read 10 = .ok (.aload_n 0, 1) := by decide +kernel
theorem dX12_read_11 : decode cX12_read 11 = .ok (.getfield 139, 3) := by decide +kernel
theorem dX12_read_14 : decode cX12_read 14 = .ok (.isub, 1) := by decide +kernel
theorem dX12_read_15 : decode cX12_read 15 = .ok (.ireturn, 1) := by decide +kernel
theorem dX12_read_16 : decode cX12_read 16 = .ok (.aload_n 0, 1) := by decide +kernel
theorem dX12_read_17 : decode cX12_read 17 = .ok (.iconst 1, 1) := by decide +kernel
theorem dX12_read_18 : decode cX12_read 18 = .ok (.invokevirtual 195, 3) := by decide +kernel
theorem dX12_read_21 : decode cX12_read 21 = .ok (.ireturn, 1) := by decide +kernel
theorem dX12_findFar_0 : decode cX12_findFar 0 = .ok (.iconst 0, 1) := by decide +kernel
theorem dX12_findFar_1 : decode cX12_findFar 1 = .ok (.istore_n 2, 1) := by decide +kernel
theorem dX12_findFar_2 : decode cX12_findFar 2 = .ok (.iload_n 2, 1) := by decide +kernel
theorem dX12_findFar_3 : decode cX12_findFar 3 = .ok (.bipush 8, 2) := by decide +kernel
theorem dX12_findFar_5 : decode cX12_findFar 5 = .ok (.if_icmp .ge 26, 3) := by decide +kernel
theorem dX12_findFar_8 : decode cX12_findFar 8 = .ok (.aload_n 0, 1) := by decide +kernel
theorem dX12_findFar_9 : decode cX12_findFar 9 = .ok (.getfield 26, 3) := by decide +kernel
theorem dX12_findFar_12 : decode cX12_findFar 12 = .ok (.iload_n 2, 1) := by decide +kernel
theorem dX12_findFar_13 : decode cX12_findFar 13 = .ok (.iload_n 2, 1) := by decide +kernel
theorem dX12_findFar_14 : decode cX12_findFar 14 = .ok (.iload_n 1, 1) := by decide +kernel
theorem dX12_findFar_15 : decode cX12_findFar 15 = .ok (.if_icmp .ne 7, 3) := by decide +kernel
theorem dX12_findFar_18 : decode cX12_findFar 18 = .ok (.iconst 0, 1) := by decide +kernel
theorem dX12_findFar_19 : decode cX12_findFar 19 = .ok (.goto 5, 3) := by decide +kernel
theorem dX12_findFar_22 : decode cX12_findFar 22 = .ok (.bipush 99, 2) := by decide +kernel
theorem dX12_findFar_24 : decode cX12_findFar 24 = .ok (.iastore, 1) := by decide +kernel
theorem dX12_findFar_25 : decode cX12_findFar 25 = .ok (.iinc 2 1, 3) := by decide +kernel
theorem dX12_findFar_28 : decode cX12_findFar 28 = .ok (.goto (-26), 3) := by decide +kernel
theorem dX12_findFar_31 : decode cX12_findFar 31 = .ok (.iconst 0, 1) := by decide +kernel
theorem dX12_findFar_32 : decode cX12_findFar 32 = .ok (.istore_n 2, 1) := by decide +kernel
theorem dX12_findFar_33 : decode cX12_findFar 33 = .ok (.iload_n 2, 1) := by decide +kernel
theorem dX12_findFar_34 : decode cX12_findFar 34 = .ok (.bipush 8, 2) := by decide +kernel
theorem dX12_findFar_36 : decode cX12_findFar 36 = .ok (.if_icmp .ge 92, 3) := by decide +kernel
theorem dX12_findFar_39 : decode cX12_findFar 39 = .ok (.iconst 0, 1) := by decide +kernel
theorem dX12_findFar_40 : decode cX12_findFar 40 = .ok (.istore_n 3, 1) := by decide +kernel
theorem dX12_findFar_41 : decode cX12_findFar 41 = .ok (.iload_n 3, 1) := by decide +kernel
theorem dX12_findFar_42 : decode cX12_findFar 42 = .ok (.bipush 8, 2) := by decide +kernel
theorem dX12_findFar_44 : decode cX12_findFar 44 = .ok (.if_icmp .ge 78, 3) := by decide +kernel
theorem dX12_findFar_47 : decode cX12_findFar 47 = .ok (.iconst 0, 1) := by decide +kernel
theorem dX12_findFar_48 : decode cX12_findFar 48 = .ok (.istore 4, 2) := by decide +kernel
theorem dX12_findFar_50 : decode cX12_findFar 50 = .ok (.iload 4, 2) := by decide +kernel
theorem dX12_findFar_52 : decode cX12_findFar 52 = .ok (.bipush 8, 2) := by decide +kernel
theorem dX12_findFar_54 : decode cX12_findFar 54 = .ok (.if_icmp .ge 62, 3) := by decide +kernel
theorem dX12_findFar_57 : decode cX12_findFar 57 = .ok (.aload_n 0, 1) := by decide +kernel
theorem dX12_findFar_58 : decode cX12_findFar 58 = .ok (.getfield 26, 3) := by decide +kernel
theorem dX12_findFar_61 : decode cX12_findFar 61 = .ok (.iload 4, 2) := by decide +kernel
theorem dX12_findFar_63 : decode cX12_findFar 63 = .ok (.aload_n 0, 1) := by decide +kernel
theorem dX12_findFar_64 : decode cX12_findFar 64 = .ok (.iload_n 3, 1) := by decide +kernel
theorem dX12_findFar_65 : decode cX12_findFar 65 = .ok (.iload 4, 2) := by decide +kernel
theorem dX12_findFar_67 : decode cX12_findFar 67 = .ok (.invokevirtual 99, 3) := by decide +kernel
theorem dX12_findFar_70 : decode cX12_findFar 70 = .ok (.ifCond .lt 32, 3) := by decide +kernel
theorem dX12_findFar_73 : decode cX12_findFar 73 = .ok (.aload_n 0, 1) := by decide +kernel
theorem dX12_findFar_74 : decode cX12_findFar 74 = .ok (.getfield 26, 3) := by decide +kernel
theorem dX12_findFar_77 : decode cX12_findFar 77 = .ok (.iload_n 3, 1) := by decide +kernel
theorem dX12_findFar_78 : decode cX12_findFar 78 = .ok (.iaload, 1) := by decide +kernel
theorem dX12_findFar_79 : decode cX12_findFar 79 = .ok (.iconst 1, 1) := by decide +kernel
theorem dX12_findFar_80 : decode cX12_findFar 80 = .ok (.iadd, 1) := by decide +kernel
theorem dX12_findFar_81 : decode cX12_findFar 81 = .ok (.aload_n 0, 1) := by decide +kernel
theorem dX12_findFar_82 : decode cX12_findFar 82 = .ok (.getfield 26, 3) := by decide +kernel
theorem dX12_findFar_85 : decode cX12_findFar 85 = .ok (.iload 4, 2) := by decide +kernel
theorem dX12_findFar_87 : decode cX12_findFar 87 = .ok (.iaload, 1) := by decide +kernel
theorem dX12_findFar_88 : decode cX12_findFar 88 = .ok (.if_icmp .ge 14, 3) := by decide +kernel
theorem dX12_findFar_91 : decode cX12_findFar 91 = .ok (.aload_n 0, 1) := by decide +kernel
theorem dX12_findFar_92 : decode cX12_findFar 92 = .ok (.getfield 26, 3) := by decide +kernel
theorem dX12_findFar_95 : decode cX12_findFar 95 = .ok (.iload_n 3, 1) := by decide +kernel
theorem dX12_findFar_96 : decode cX12_findFar 96 = .ok (.iaload, 1) := by decide +kernel
theorem dX12_findFar_97 : decode cX12_findFar 97 = .ok (.iconst 1, 1) := by decide +kernel
theorem dX12_findFar_98 : decode cX12_findFar 98 = .ok (.iadd, 1) := by decide +kernel
theorem dX12_findFar_99 : decode cX12_findFar 99 = .ok (.goto 10, 3) := by decide +kernel
theorem dX12_findFar_102 : decode cX12_findFar 102 = .ok (.aload_n 0, 1) := by decide +kernel
theorem dX12_findFar_103 : decode cX12_findFar 103 = .ok (.getfield 26, 3) := by decide +kernel
theorem dX12_findFar_106 : decode cX12_findFar 106 = .ok (.iload 4, 2) := by decide +kernel
theorem dX12_findFar_108 : decode cX12_findFar 108 = .ok (.iaload, 1) := by decide +kernel
theorem dX12_findFar_109 : decode cX12_findFar 109 = .ok (.iastore, 1) := by decide +kernel
theorem dX12_findFar_110 : decode cX12_findFar 110 = .ok (.iinc 4 1, 3) := by decide +kernel
theorem dX12_findFar_113 : decode cX12_findFar 113 = .ok (.goto (-63), 3) := by decide +kernel
theorem dX12_findFar_116 : decode cX12_findFar 116 = .ok (.iinc 3 1, 3) := by decide +kernel
theorem dX12_findFar_119 : decode cX12_findFar 119 = .ok (.goto (-78), 3) := by decide +kernel
theorem dX12_findFar_122 : decode cX12_findFar 122 = .ok (.iinc 2 1, 3) := by decide +kernel
theorem dX12_findFar_125 : decode cX12_findFar 125 = .ok (.goto (-92), 3) := by decide +kernel
theorem dX12_findFar_128 : decode cX12_findFar 128 = .ok (.return_, 1) := by decide +kernel
theorem dX12_far_0 : decode cX12_far 0 = .ok (.iload_n 1, 1) := by decide +kernel
theorem dX12_far_1 : decode cX12_far 1 = .ok (.invokestatic 89, 3) := by decide +kernel
theorem dX12_far_4 : decode cX12_far 4 = .ok (.ifCond .eq 10, 3) := by decide +kernel
theorem dX12_far_7 : decode cX12_far 7 = .ok (.iload_n 2, 1) := by decide +kernel
theorem dX12_far_8 : decode cX12_far 8 = .ok (.invokestatic 89, 3) := by decide +kernel
theorem dX12_far_11 : decode cX12_far 11 = .ok (.ifCond .ne 8, 3) := by decide +kernel
theorem dX12_far_14 : decode cX12_far 14 = .ok (.aload_n 0, 1) := by decide +kernel
theorem dX12_far_15 : decode cX12_far 15 = .ok (.invokevirtual 95, 3) := by decide +kernel
theorem dX12_far_18 : decode cX12_far 18 = .ok (.ireturn, 1) := by decide +kernel
theorem dX12_far_19 : decode cX12_far 19 = .ok (.aload_n 0, 1) := by decide +kernel
theorem dX12_far_20 : decode cX12_far 20 = .ok (.iload_n 1, 1) := by decide +kernel
theorem dX12_far_21 : decode cX12_far 21 = .ok (.invokevirtual 199, 3) := by decide +kernel
theorem dX12_far_24 : decode cX12_far 24 = .ok (.aload_n 0, 1) := by decide +kernel
theorem dX12_far_25 : decode cX12_far 25 = .ok (.getfield 26, 3) := by decide +kernel
theorem dX12_far_28 : decode cX12_far 28 = .ok (.iload_n 2, 1) := by decide +kernel
theorem dX12_far_29 : decode cX12_far 29 = .ok (.iaload, 1) := by decide +kernel
theorem dX12_far_30 : decode cX12_far 30 = .ok (.bipush 99, 2) := by decide +kernel
theorem dX12_far_32 : decode cX12_far 32 = .ok (.if_icmp .ne 7, 3) := by decide +kernel
theorem dX12_far_35 : decode cX12_far 35 = .ok (.iconst (-1), 1) := by decide +kernel
theorem dX12_far_36 : decode cX12_far 36 = .ok (.goto 9, 3) := by decide +kernel
theorem dX12_far_39 : decode cX12_far 39 = .ok (.aload_n 0, 1) := by decide +kernel
theorem dX12_far_40 : decode cX12_far 40 = .ok (.getfield 26, 3) := by decide +kernel
theorem dX12_far_43 : decode cX12_far 43 = .ok (.iload_n 2, 1) := by decide +kernel
theorem dX12_far_44 : decode cX12_far 44 = .ok (.iaload, 1) := by decide +kernel
theorem dX12_far_45 : decode cX12_far 45 = .ok (.ireturn, 1) := by decide +kernel
theorem dX12_wakesFrom_0 : decode cX12_wakesFrom 0 = .ok (.aload_n 0, 1) := by decide +kernel
theorem dX12_wakesFrom_1 : decode cX12_wakesFrom 1 = .ok (.getfield 7, 3) := by decide +kernel
theorem dX12_wakesFrom_4 : decode cX12_wakesFrom 4 = .ok (.bipush 16, 2) := by decide +kernel
theorem dX12_wakesFrom_6 : decode cX12_wakesFrom 6 = .ok (.iload_n 1, 1) := by decide +kernel
theorem dX12_wakesFrom_7 : decode cX12_wakesFrom 7 = .ok (.iadd, 1) := by decide +kernel
theorem dX12_wakesFrom_8 : decode cX12_wakesFrom 8 = .ok (.iaload, 1) := by decide +kernel
theorem dX12_wakesFrom_9 : decode cX12_wakesFrom 9 = .ok (.iconst 2, 1) := by decide +kernel
theorem dX12_wakesFrom_10 : decode cX12_wakesFrom 10 = .ok (.iadd, 1) := by decide +kernel
theorem dX12_wakesFrom_11 : decode cX12_wakesFrom 11 = .ok (.istore 4, 2) := by decide +kernel
theorem dX12_wakesFrom_13 : decode cX12_wakesFrom 13 = .ok (.aload_n 0, 1) := by decide +kernel
theorem dX12_wakesFrom_14 : decode cX12_wakesFrom 14 = .ok (.getfield 7, 3) := by decide +kernel
theorem dX12_wakesFrom_17 : decode cX12_wakesFrom 17 = .ok (.bipush 6, 2) := by decide +kernel
theorem dX12_wakesFrom_19 : decode cX12_wakesFrom 19 = .ok (.iload_n 1, 1) := by decide +kernel
theorem dX12_wakesFrom_20 : decode cX12_wakesFrom 20 = .ok (.iadd, 1) := by decide +kernel
theorem dX12_wakesFrom_21 : decode cX12_wakesFrom 21 = .ok (.iaload, 1) := by decide +kernel
theorem dX12_wakesFrom_22 : decode cX12_wakesFrom 22 = .ok (.istore 5, 2) := by decide +kernel
theorem dX12_wakesFrom_24 : decode cX12_wakesFrom 24 = .ok (.iload_n 3, 1) := by decide +kernel
theorem dX12_wakesFrom_25 : decode cX12_wakesFrom 25 = .ok (.bipush 10, 2) := by decide +kernel
theorem dX12_wakesFrom_27 : decode cX12_wakesFrom 27 = .ok (.irem, 1) := by decide +kernel
theorem dX12_wakesFrom_28 : decode cX12_wakesFrom 28 = .ok (.ifCond .ne 10, 3) := by decide +kernel
theorem dX12_wakesFrom_31 : decode cX12_wakesFrom 31 = .ok (.iload 4, 2) := by decide +kernel
theorem dX12_wakesFrom_33 : decode cX12_wakesFrom 33 = .ok (.iconst 2, 1) := by decide +kernel
theorem dX12_wakesFrom_34 : decode cX12_wakesFrom 34 = .ok (.idiv, 1) := by decide +kernel
theorem dX12_wakesFrom_35 : decode cX12_wakesFrom 35 = .ok (.goto 7, 3) := by decide +kernel
theorem dX12_wakesFrom_38 : decode cX12_wakesFrom 38 = .ok (.iload 4, 2) := by decide +kernel
theorem dX12_wakesFrom_40 : decode cX12_wakesFrom 40 = .ok (.iconst 3, 1) := by decide +kernel
theorem dX12_wakesFrom_41 : decode cX12_wakesFrom 41 = .ok (.iadd, 1) := by decide +kernel
theorem dX12_wakesFrom_42 : decode cX12_wakesFrom 42 = .ok (.istore 6, 2) := by decide +kernel
theorem dX12_wakesFrom_44 : decode cX12_wakesFrom 44 = .ok (.iload 5, 2) := by decide +kernel
theorem dX12_wakesFrom_46 : decode cX12_wakesFrom 46 = .ok (.tableswitch 101 1 5 #[34, 39, 42, 64, 84], 34) := by decide +kernel
theorem dX12_wakesFrom_80 : decode cX12_wakesFrom 80 = .ok (.iload 4, 2) := by decide +kernel
theorem dX12_wakesFrom_82 : decode cX12_wakesFrom 82 = .ok (.iconst 2, 1) := by decide +kernel
theorem dX12_wakesFrom_83 : decode cX12_wakesFrom 83 = .ok (.idiv, 1) := by decide +kernel
theorem dX12_wakesFrom_84 : decode cX12_wakesFrom 84 = .ok (.ireturn, 1) := by decide +kernel
theorem dX12_wakesFrom_85 : decode cX12_wakesFrom 85 = .ok (.iload 6, 2) := by decide +kernel
theorem dX12_wakesFrom_87 : decode cX12_wakesFrom 87 = .ok (.ireturn, 1) := by decide +kernel
theorem dX12_wakesFrom_88 : decode cX12_wakesFrom 88 = .ok (.iload_n 2, 1) := by decide +kernel
theorem dX12_wakesFrom_89 : decode cX12_wakesFrom 89 = .ok (.aload_n 0, 1) := by decide +kernel
theorem dX12_wakesFrom_90 : decode cX12_wakesFrom 90 = .ok (.getfield 7, 3) := by decide +kernel
theorem dX12_wakesFrom_93 : decode cX12_wakesFrom 93 = .ok (.bipush 11, 2) := by decide +kernel
theorem dX12_wakesFrom_95 : decode cX12_wakesFrom 95 = .ok (.iload_n 1, 1) := by decide +kernel
theorem dX12_wakesFrom_96 : decode cX12_wakesFrom 96 = .ok (.iadd, 1) := by decide +kernel
theorem dX12_wakesFrom_97 : decode cX12_wakesFrom 97 = .ok (.iaload, 1) := by decide +kernel
theorem dX12_wakesFrom_98 : decode cX12_wakesFrom 98 = .ok (.if_icmp .ne 7, 3) := by decide +kernel
theorem dX12_wakesFrom_101 : decode cX12_wakesFrom 101 = .ok (.iconst 1, 1) := by decide +kernel
theorem dX12_wakesFrom_102 : decode cX12_wakesFrom 102 = .ok (.goto 7, 3) := by decide +kernel
theorem dX12_wakesFrom_105 : decode cX12_wakesFrom 105 = .ok (.iload 4, 2) := by decide +kernel
theorem dX12_wakesFrom_107 : decode cX12_wakesFrom 107 = .ok (.iconst 2, 1) := by decide +kernel
theorem dX12_wakesFrom_108 : decode cX12_wakesFrom 108 = .ok (.idiv, 1) := by decide +kernel
theorem dX12_wakesFrom_109 : decode cX12_wakesFrom 109 = .ok (.ireturn, 1) := by decide +kernel
theorem dX12_wakesFrom_110 : decode cX12_wakesFrom 110 = .ok (.iload_n 3, 1) := by decide +kernel
theorem dX12_wakesFrom_111 : decode cX12_wakesFrom 111 = .ok (.bipush 30, 2) := by decide +kernel
theorem dX12_wakesFrom_113 : decode cX12_wakesFrom 113 = .ok (.if_icmp .ge 10, 3) := by decide +kernel
theorem dX12_wakesFrom_116 : decode cX12_wakesFrom 116 = .ok (.iload 4, 2) := by decide +kernel
theorem dX12_wakesFrom_118 : decode cX12_wakesFrom 118 = .ok (.iconst 2, 1) := by decide +kernel
theorem dX12_wakesFrom_119 : decode cX12_wakesFrom 119 = .ok (.idiv, 1) := by decide +kernel
theorem dX12_wakesFrom_120 : decode cX12_wakesFrom 120 = .ok (.goto 9, 3) := by decide +kernel
theorem dX12_wakesFrom_123 : decode cX12_wakesFrom 123 = .ok (.iconst 2, 1) := by decide +kernel
theorem dX12_wakesFrom_124 : decode cX12_wakesFrom 124 = .ok (.iload 4, 2) := by decide +kernel
theorem dX12_wakesFrom_126 : decode cX12_wakesFrom 126 = .ok (.iconst 2, 1) := by decide +kernel
theorem dX12_wakesFrom_127 : decode cX12_wakesFrom 127 = .ok (.idiv, 1) := by decide +kernel
theorem dX12_wakesFrom_128 : decode cX12_wakesFrom 128 = .ok (.imul, 1) := by decide +kernel
theorem dX12_wakesFrom_129 : decode cX12_wakesFrom 129 = .ok (.ireturn, 1) := by decide +kernel
theorem dX12_wakesFrom_130 : decode cX12_wakesFrom 130 = .ok (.iload_n 3, 1) := by decide +kernel
theorem dX12_wakesFrom_131 : decode cX12_wakesFrom 131 = .ok (.iconst 2, 1) := by decide +kernel
theorem dX12_wakesFrom_132 : decode cX12_wakesFrom 132 = .ok (.irem, 1) := by decide +kernel
theorem dX12_wakesFrom_133 : decode cX12_wakesFrom 133 = .ok (.iconst 1, 1) := by decide +kernel
theorem dX12_wakesFrom_134 : decode cX12_wakesFrom 134 = .ok (.if_icmp .ne 10, 3) := by decide +kernel
theorem dX12_wakesFrom_137 : decode cX12_wakesFrom 137 = .ok (.iconst 2, 1) := by decide +kernel
theorem dX12_wakesFrom_138 : decode cX12_wakesFrom 138 = .ok (.iload 6, 2) := by decide +kernel
theorem dX12_wakesFrom_140 : decode cX12_wakesFrom 140 = .ok (.imul, 1) := by decide +kernel
theorem dX12_wakesFrom_141 : decode cX12_wakesFrom 141 = .ok (.goto 5, 3) := by decide +kernel
theorem dX12_wakesFrom_144 : decode cX12_wakesFrom 144 = .ok (.iload 6, 2) := by decide +kernel
theorem dX12_wakesFrom_146 : decode cX12_wakesFrom 146 = .ok (.ireturn, 1) := by decide +kernel
theorem dX12_wakesFrom_147 : decode cX12_wakesFrom 147 = .ok (.iload 4, 2) := by decide +kernel
theorem dX12_wakesFrom_149 : decode cX12_wakesFrom 149 = .ok (.ireturn, 1) := by decide +kernel
theorem dX12_wakesBy_0 : decode cX12_wakesBy 0 = .ok (.aload_n 0, 1) := by decide +kernel
theorem dX12_wakesBy_1 : decode cX12_wakesBy 1 = .ok (.iload_n 2, 1) := by decide +kernel
theorem dX12_wakesBy_2 : decode cX12_wakesBy 2 = .ok (.invokevirtual 199, 3) := by decide +kernel
theorem dX12_wakesBy_5 : decode cX12_wakesBy 5 = .ok (.iconst 0, 1) := by decide +kernel
theorem dX12_wakesBy_6 : decode cX12_wakesBy 6 = .ok (.istore 4, 2) := by decide +kernel
theorem dX12_wakesBy_8 : decode cX12_wakesBy 8 = .ok (.iconst 0, 1) := by decide +kernel
theorem dX12_wakesBy_9 : decode cX12_wakesBy 9 = .ok (.istore 5, 2) := by decide +kernel
theorem dX12_wakesBy_11 : decode cX12_wakesBy 11 = .ok (.iload 5, 2) := by decide +kernel
theorem dX12_wakesBy_13 : decode cX12_wakesBy 13 = .ok (.aload_n 0, 1) := by decide +kernel
theorem dX12_wakesBy_14 : decode cX12_wakesBy 14 = .ok (.getfield 7, 3) := by decide +kernel
theorem dX12_wakesBy_17 : decode cX12_wakesBy 17 = .ok (.iconst 5, 1) := by decide +kernel
theorem dX12_wakesBy_18 : decode cX12_wakesBy 18 = .ok (.iaload, 1) := by decide +kernel
theorem dX12_wakesBy_19 : decode cX12_wakesBy 19 = .ok (.if_icmp .ge 61, 3) := by decide +kernel
theorem dX12_wakesBy_22 : decode cX12_wakesBy 22 = .ok (.iload_n 1, 1) := by decide +kernel
theorem dX12_wakesBy_23 : decode cX12_wakesBy 23 = .ok (.iconst 2, 1) := by decide +kernel
theorem dX12_wakesBy_24 : decode cX12_wakesBy 24 = .ok (.aload_n 0, 1) := by decide +kernel
theorem dX12_wakesBy_25 : decode cX12_wakesBy 25 = .ok (.getfield 26, 3) := by decide +kernel
theorem dX12_wakesBy_28 : decode cX12_wakesBy 28 = .ok (.aload_n 0, 1) := by decide +kernel
theorem dX12_wakesBy_29 : decode cX12_wakesBy 29 = .ok (.getfield 7, 3) := by decide +kernel
theorem dX12_wakesBy_32 : decode cX12_wakesBy 32 = .ok (.bipush 11, 2) := by decide +kernel
theorem dX12_wakesBy_34 : decode cX12_wakesBy 34 = .ok (.iload 5, 2) := by decide +kernel
theorem dX12_wakesBy_36 : decode cX12_wakesBy 36 = .ok (.iadd, 1) := by decide +kernel
theorem dX12_wakesBy_37 : decode cX12_wakesBy 37 = .ok (.iaload, 1) := by decide +kernel
theorem dX12_wakesBy_38 : decode cX12_wakesBy 38 = .ok (.iaload, 1) := by decide +kernel
theorem dX12_wakesBy_39 : decode cX12_wakesBy 39 = .ok (.imul, 1) := by decide +kernel
theorem dX12_wakesBy_40 : decode cX12_wakesBy 40 = .ok (.isub, 1) := by decide +kernel
theorem dX12_wakesBy_41 : decode cX12_wakesBy 41 = .ok (.istore 6, 2) := by decide +kernel
theorem dX12_wakesBy_43 : decode cX12_wakesBy 43 = .ok (.iload 4, 2) := by decide +kernel
theorem dX12_wakesBy_45 : decode cX12_wakesBy 45 = .ok (.iload 6, 2) := by decide +kernel
theorem dX12_wakesBy_47 : decode cX12_wakesBy 47 = .ok (.ifCond .le 23, 3) := by decide +kernel
theorem dX12_wakesBy_50 : decode cX12_wakesBy 50 = .ok (.iload 6, 2) := by decide +kernel
theorem dX12_wakesBy_52 : decode cX12_wakesBy 52 = .ok (.aload_n 0, 1) := by decide +kernel
theorem dX12_wakesBy_53 : decode cX12_wakesBy 53 = .ok (.iload 5, 2) := by decide +kernel
theorem dX12_wakesBy_55 : decode cX12_wakesBy 55 = .ok (.iload_n 2, 1) := by decide +kernel
theorem dX12_wakesBy_56 : decode cX12_wakesBy 56 = .ok (.iload_n 3, 1) := by decide +kernel
theorem dX12_wakesBy_57 : decode cX12_wakesBy 57 = .ok (.invokevirtual 202, 3) := by decide +kernel
theorem dX12_wakesBy_60 : decode cX12_wakesBy 60 = .ok (.if_icmp .lt 10, 3) := by decide +kernel
theorem dX12_wakesBy_63 : decode cX12_wakesBy 63 = .ok (.iconst 1, 1) := by decide +kernel
theorem dX12_wakesBy_64 : decode cX12_wakesBy 64 = .ok (.iload 5, 2) := by decide +kernel
theorem dX12_wakesBy_66 : decode cX12_wakesBy 66 = .ok (.ishl, 1) := by decide +kernel
theorem dX12_wakesBy_67 : decode cX12_wakesBy 67 = .ok (.goto 4, 3) := by decide +kernel
theorem dX12_wakesBy_70 : decode cX12_wakesBy 70 = .ok (.iconst 0, 1) := by decide +kernel
theorem dX12_wakesBy_71 : decode cX12_wakesBy 71 = .ok (.ior, 1) := by decide +kernel
theorem dX12_wakesBy_72 : decode cX12_wakesBy 72 = .ok (.istore 4, 2) := by decide +kernel
theorem dX12_wakesBy_74 : decode cX12_wakesBy 74 = .ok (.iinc 5 1, 3) := by decide +kernel
theorem dX12_wakesBy_77 : decode cX12_wakesBy 77 = .ok (.goto (-66), 3) := by decide +kernel
theorem dX12_wakesBy_80 : decode cX12_wakesBy 80 = .ok (.iload 4, 2) := by decide +kernel
theorem dX12_wakesBy_82 : decode cX12_wakesBy 82 = .ok (.ireturn, 1) := by decide +kernel
theorem dX12_wakes_0 : decode cX12_wakes 0 = .ok (.iload_n 1, 1) := by decide +kernel
theorem dX12_wakes_1 : decode cX12_wakes 1 = .ok (.i2l, 1) := by decide +kernel
theorem dX12_wakes_2 : decode cX12_wakes 2 = .ok (.lconst 0, 1) := by decide +kernel
theorem dX12_wakes_3 : decode cX12_wakes 3 = .ok (.ldc2_w 206, 3) := by decide +kernel
theorem dX12_wakes_6 : decode cX12_wakes 6 = .ok (.invokestatic 75, 3) := by decide +kernel
theorem dX12_wakes_9 : decode cX12_wakes 9 = .ok (.ifCond .eq 27, 3) := by decide +kernel
theorem dX12_wakes_12 : decode cX12_wakes 12 = .ok (.iload_n 2, 1) := by decide +kernel
theorem dX12_wakes_13 : decode cX12_wakes 13 = .ok (.invokestatic 89, 3) := by decide +kernel
theorem dX12_wakes_16 : decode cX12_wakes 16 = .ok (.ifCond .eq 20, 3) := by decide +kernel
theorem dX12_wakes_19 : decode cX12_wakes 19 = .ok (.iload_n 3, 1) := by decide +kernel
theorem dX12_wakes_20 : decode cX12_wakes 20 = .ok (.invokestatic 208, 3) := by decide +kernel
theorem dX12_wakes_23 : decode cX12_wakes 23 = .ok (.ifCond .eq 13, 3) := by decide +kernel
theorem dX12_wakes_26 : decode cX12_wakes 26 = .ok (.aload_n 0, 1) := by decide +kernel
theorem dX12_wakes_27 : decode cX12_wakes 27 = .ok (.iload_n 1, 1) := by decide +kernel
theorem dX12_wakes_28 : decode cX12_wakes 28 = .ok (.iload_n 2, 1) := by decide +kernel
theorem dX12_wakes_29 : decode cX12_wakes 29 = .ok (.iload_n 3, 1) := by decide +kernel
theorem dX12_wakes_30 : decode cX12_wakes 30 = .ok (.invokevirtual 211, 3) := by decide +kernel
theorem dX12_wakes_33 : decode cX12_wakes 33 = .ok (.goto 7, 3) := by decide +kernel
theorem dX12_wakes_36 : decode cX12_wakes 36 = .ok (.aload_n 0, 1) := by decide +kernel
theorem dX12_wakes_37 : decode cX12_wakes 37 = .ok (.invokevirtual 95, 3) := by decide +kernel
theorem dX12_wakes_40 : decode cX12_wakes 40 = .ok (.ireturn, 1) := by decide +kernel
theorem dX12_loud_0 : decode cX12_loud 0 = .ok (.iload_n 1, 1) := by decide +kernel
theorem dX12_loud_1 : decode cX12_loud 1 = .ok (.invokestatic 89, 3) := by decide +kernel
theorem dX12_loud_4 : decode cX12_loud 4 = .ok (.ifCond .eq 10, 3) := by decide +kernel
theorem dX12_loud_7 : decode cX12_loud 7 = .ok (.iload_n 2, 1) := by decide +kernel
theorem dX12_loud_8 : decode cX12_loud 8 = .ok (.invokestatic 208, 3) := by decide +kernel
theorem dX12_loud_11 : decode cX12_loud 11 = .ok (.ifCond .ne 8, 3) := by decide +kernel
theorem dX12_loud_14 : decode cX12_loud 14 = .ok (.aload_n 0, 1) := by decide +kernel
theorem dX12_loud_15 : decode cX12_loud 15 = .ok (.invokevirtual 95, 3) := by decide +kernel
theorem dX12_loud_18 : decode cX12_loud 18 = .ok (.ireturn, 1) := by decide +kernel
theorem dX12_loud_19 : decode cX12_loud 19 = .ok (.iconst 0, 1) := by decide +kernel
theorem dX12_loud_20 : decode cX12_loud 20 = .ok (.istore_n 3, 1) := by decide +kernel
theorem dX12_loud_21 : decode cX12_loud 21 = .ok (.iconst 1, 1) := by decide +kernel
theorem dX12_loud_22 : decode cX12_loud 22 = .ok (.istore 4, 2) := by decide +kernel
theorem dX12_loud_24 : decode cX12_loud 24 = .ok (.iload 4, 2) := by decide +kernel
theorem dX12_loud_26 : decode cX12_loud 26 = .ok (.bipush 30, 2) := by decide +kernel
theorem dX12_loud_28 : decode cX12_loud 28 = .ok (.if_icmp .gt 27, 3) := by decide +kernel
theorem dX12_loud_31 : decode cX12_loud 31 = .ok (.aload_n 0, 1) := by decide +kernel
theorem dX12_loud_32 : decode cX12_loud 32 = .ok (.iload 4, 2) := by decide +kernel
theorem dX12_loud_34 : decode cX12_loud 34 = .ok (.iload_n 1, 1) := by decide +kernel
theorem dX12_loud_35 : decode cX12_loud 35 = .ok (.iload_n 2, 1) := by decide +kernel
theorem dX12_loud_36 : decode cX12_loud 36 = .ok (.invokevirtual 211, 3) := by decide +kernel
theorem dX12_loud_39 : decode cX12_loud 39 = .ok (.ifCond .ne 8, 3) := by decide +kernel
theorem dX12_loud_42 : decode cX12_loud 42 = .ok (.iload 4, 2) := by decide +kernel
theorem dX12_loud_44 : decode cX12_loud 44 = .ok (.goto 4, 3) := by decide +kernel
theorem dX12_loud_47 : decode cX12_loud 47 = .ok (.iload_n 3, 1) := by decide +kernel
theorem dX12_loud_48 : decode cX12_loud 48 = .ok (.istore_n 3, 1) := by decide +kernel
theorem dX12_loud_49 : decode cX12_loud 49 = .ok (.iinc 4 1, 3) := by decide +kernel
theorem dX12_loud_52 : decode cX12_loud 52 = .ok (.goto (-28), 3) := by decide +kernel
theorem dX12_loud_55 : decode cX12_loud 55 = .ok (.iload_n 3, 1) := by decide +kernel
theorem dX12_loud_56 : decode cX12_loud 56 = .ok (.ireturn, 1) := by decide +kernel
theorem dX12_note_0 : decode cX12_note 0 = .ok (.aload_n 0, 1) := by decide +kernel
theorem dX12_note_1 : decode cX12_note 1 = .ok (.getfield 81, 3) := by decide +kernel
theorem dX12_note_4 : decode cX12_note 4 = .ok (.bipush 8, 2) := by decide +kernel
theorem dX12_note_6 : decode cX12_note 6 = .ok (.if_icmp .ne 41, 3) := by decide +kernel
theorem dX12_note_9 : decode cX12_note 9 = .ok (.iconst 0, 1) := by decide +kernel
theorem dX12_note_10 : decode cX12_note 10 = .ok (.istore_n 1, 1) := by decide +kernel
theorem dX12_note_11 : decode cX12_note 11 = .ok (.iload_n 1, 1) := by decide +kernel
theorem dX12_note_12 : decode cX12_note 12 = .ok (.bipush 35, 2) := by decide +kernel
theorem dX12_note_14 : decode cX12_note 14 = .ok (.if_icmp .ge 23, 3) := by decide +kernel
theorem dX12_note_17 : decode cX12_note 17 = .ok (.aload_n 0, 1) := by decide +kernel
theorem dX12_note_18 : decode cX12_note 18 = .ok (.getfield 29, 3) := by decide +kernel
theorem dX12_note_21 : decode cX12_note 21 = .ok (.iload_n 1, 1) := by decide +kernel
theorem dX12_note_22 : decode cX12_note 22 = .ok (.aload_n 0, 1) := by decide +kernel
theorem dX12_note_23 : decode cX12_note 23 = .ok (.getfield 29, 3) := by decide +kernel
theorem dX12_note_26 : decode cX12_note 26 = .ok (.iload_n 1, 1) := by decide +kernel
theorem dX12_note_27 : decode cX12_note 27 = .ok (.iconst 5, 1) := by decide +kernel
theorem dX12_note_28 : decode cX12_note 28 = .ok (.iadd, 1) := by decide +kernel
theorem dX12_note_29 : decode cX12_note 29 = .ok (.iaload, 1) := by decide +kernel
theorem dX12_note_30 : decode cX12_note 30 = .ok (.iastore, 1) := by decide +kernel
theorem dX12_note_31 : decode cX12_note 31 = .ok (.iinc 1 1, 3) := by decide +kernel
theorem dX12_note_34 : decode cX12_note 34 = .ok (.goto (-23), 3) := by decide +kernel
theorem dX12_note_37 : decode cX12_note 37 = .ok (.aload_n 0, 1) := by decide +kernel
theorem dX12_note_38 : decode cX12_note 38 = .ok (.dup, 1) := by decide +kernel
theorem dX12_note_39 : decode cX12_note 39 = .ok (.getfield 81, 3) := by decide +kernel
theorem dX12_note_42 : decode cX12_note 42 = .ok (.iconst 1, 1) := by decide +kernel
theorem dX12_note_43 : decode cX12_note 43 = .ok (.isub, 1) := by decide +kernel
theorem dX12_note_44 : decode cX12_note 44 = .ok (.putfield 81, 3) := by decide +kernel
theorem dX12_note_47 : decode cX12_note 47 = .ok (.iconst 0, 1) := by decide +kernel
theorem dX12_note_48 : decode cX12_note 48 = .ok (.istore_n 1, 1) := by decide +kernel
theorem dX12_note_49 : decode cX12_note 49 = .ok (.iload_n 1, 1) := by decide +kernel
theorem dX12_note_50 : decode cX12_note 50 = .ok (.iconst 5, 1) := by decide +kernel
theorem dX12_note_51 : decode cX12_note 51 = .ok (.if_icmp .ge 28, 3) := by decide +kernel
theorem dX12_note_54 : decode cX12_note 54 = .ok (.aload_n 0, 1) := by decide +kernel
theorem dX12_note_55 : decode cX12_note 55 = .ok (.getfield 29, 3) := by decide +kernel
theorem dX12_note_58 : decode cX12_note 58 = .ok (.iconst 5, 1) := by decide +kernel
theorem dX12_note_59 : decode cX12_note 59 = .ok (.aload_n 0, 1) := by decide +kernel
theorem dX12_note_60 : decode cX12_note 60 = .ok (.getfield 81, 3) := by decide +kernel
theorem dX12_note_63 : decode cX12_note 63 = .ok (.imul, 1) := by decide +kernel
theorem dX12_note_64 : decode cX12_note 64 = .ok (.iload_n 1, 1) := by decide +kernel
theorem dX12_note_65 : decode cX12_note 65 = .ok (.iadd, 1) := by decide +kernel
theorem dX12_note_66 : decode cX12_note 66 = .ok (.aload_n 0, 1) := by decide +kernel
theorem dX12_note_67 : decode cX12_note 67 = .ok (.getfield 7, 3) := by decide +kernel
theorem dX12_note_70 : decode cX12_note 70 = .ok (.iload_n 1, 1) := by decide +kernel
theorem dX12_note_71 : decode cX12_note 71 = .ok (.iaload, 1) := by decide +kernel
theorem dX12_note_72 : decode cX12_note 72 = .ok (.iastore, 1) := by decide +kernel
theorem dX12_note_73 : decode cX12_note 73 = .ok (.iinc 1 1, 3) := by decide +kernel
theorem dX12_note_76 : decode cX12_note 76 = .ok (.goto (-27), 3) := by decide +kernel
theorem dX12_note_79 : decode cX12_note 79 = .ok (.aload_n 0, 1) := by decide +kernel
theorem dX12_note_80 : decode cX12_note 80 = .ok (.dup, 1) := by decide +kernel
theorem dX12_note_81 : decode cX12_note 81 = .ok (.getfield 81, 3) := by decide +kernel
theorem dX12_note_84 : decode cX12_note 84 = .ok (.iconst 1, 1) := by decide +kernel
theorem dX12_note_85 : decode cX12_note 85 = .ok (.iadd, 1) := by decide +kernel
theorem dX12_note_86 : decode cX12_note 86 = .ok (.putfield 81, 3) := by decide +kernel
theorem dX12_note_89 : decode cX12_note 89 = .ok (.return_, 1) := by decide +kernel
theorem dX12_passes_0 : decode cX12_passes 0 = .ok (.aload_n 0, 1) := by decide +kernel
theorem dX12_passes_1 : decode cX12_passes 1 = .ok (.getfield 7, 3) := by decide +kernel
theorem dX12_passes_4 : decode cX12_passes 4 = .ok (.iconst 0, 1) := by decide +kernel
theorem dX12_passes_5 : decode cX12_passes 5 = .ok (.aload_n 0, 1) := by decide +kernel
theorem dX12_passes_6 : decode cX12_passes 6 = .ok (.getfield 7, 3) := by decide +kernel
theorem dX12_passes_9 : decode cX12_passes 9 = .ok (.iconst 0, 1) := by decide +kernel
theorem dX12_passes_10 : decode cX12_passes 10 = .ok (.iaload, 1) := by decide +kernel
theorem dX12_passes_11 : decode cX12_passes 11 = .ok (.iload_n 1, 1) := by decide +kernel
theorem dX12_passes_12 : decode cX12_passes 12 = .ok (.iadd, 1) := by decide +kernel
theorem dX12_passes_13 : decode cX12_passes 13 = .ok (.bipush 59, 2) := by decide +kernel
theorem dX12_passes_15 : decode cX12_passes 15 = .ok (.if_icmp .le 8, 3) := by decide +kernel
theorem dX12_passes_18 : decode cX12_passes 18 = .ok (.bipush 59, 2) := by decide +kernel
theorem dX12_passes_20 : decode cX12_passes 20 = .ok (.goto 11, 3) := by decide +kernel
theorem dX12_passes_23 : decode cX12_passes 23 = .ok (.aload_n 0, 1) := by decide +kernel
theorem dX12_passes_24 : decode cX12_passes 24 = .ok (.getfield 7, 3) := by decide +kernel
theorem dX12_passes_27 : decode cX12_passes 27 = .ok (.iconst 0, 1) := by decide +kernel
theorem dX12_passes_28 : decode cX12_passes 28 = .ok (.iaload, 1) := by decide +kernel
theorem dX12_passes_29 : decode cX12_passes 29 = .ok (.iload_n 1, 1) := by decide +kernel
theorem dX12_passes_30 : decode cX12_passes 30 = .ok (.iadd, 1) := by decide +kernel
theorem dX12_passes_31 : decode cX12_passes 31 = .ok (.iastore, 1) := by decide +kernel
theorem dX12_passes_32 : decode cX12_passes 32 = .ok (.return_, 1) := by decide +kernel
theorem dX12_goes_0 : decode cX12_goes 0 = .ok (.aload_n 0, 1) := by decide +kernel
theorem dX12_goes_1 : decode cX12_goes 1 = .ok (.aload_n 0, 1) := by decide +kernel
theorem dX12_goes_2 : decode cX12_goes 2 = .ok (.aload_n 0, 1) := by decide +kernel
theorem dX12_goes_3 : decode cX12_goes 3 = .ok (.getfield 7, 3) := by decide +kernel
theorem dX12_goes_6 : decode cX12_goes 6 = .ok (.iconst 2, 1) := by decide +kernel
theorem dX12_goes_7 : decode cX12_goes 7 = .ok (.iload_n 1, 1) := by decide +kernel
theorem dX12_goes_8 : decode cX12_goes 8 = .ok (.iadd, 1) := by decide +kernel
theorem dX12_goes_9 : decode cX12_goes 9 = .ok (.iaload, 1) := by decide +kernel
theorem dX12_goes_10 : decode cX12_goes 10 = .ok (.iload_n 2, 1) := by decide +kernel
theorem dX12_goes_11 : decode cX12_goes 11 = .ok (.invokevirtual 99, 3) := by decide +kernel
theorem dX12_goes_14 : decode cX12_goes 14 = .ok (.iload_n 2, 1) := by decide +kernel
theorem dX12_goes_15 : decode cX12_goes 15 = .ok (.aload_n 0, 1) := by decide +kernel
theorem dX12_goes_16 : decode cX12_goes 16 = .ok (.getfield 7, 3) := by decide +kernel
theorem dX12_goes_19 : decode cX12_goes 19 = .ok (.iconst 0, 1) := by decide +kernel
theorem dX12_goes_20 : decode cX12_goes 20 = .ok (.iaload, 1) := by decide +kernel
theorem dX12_goes_21 : decode cX12_goes 21 = .ok (.invokevirtual 211, 3) := by decide +kernel
theorem dX12_goes_24 : decode cX12_goes 24 = .ok (.istore_n 3, 1) := by decide +kernel
theorem dX12_goes_25 : decode cX12_goes 25 = .ok (.aload_n 0, 1) := by decide +kernel
theorem dX12_goes_26 : decode cX12_goes 26 = .ok (.getfield 7, 3) := by decide +kernel
theorem dX12_goes_29 : decode cX12_goes 29 = .ok (.iconst 2, 1) := by decide +kernel
theorem dX12_goes_30 : decode cX12_goes 30 = .ok (.iload_n 1, 1) := by decide +kernel
theorem dX12_goes_31 : decode cX12_goes 31 = .ok (.iadd, 1) := by decide +kernel
theorem dX12_goes_32 : decode cX12_goes 32 = .ok (.iload_n 2, 1) := by decide +kernel
theorem dX12_goes_33 : decode cX12_goes 33 = .ok (.iastore, 1) := by decide +kernel
theorem dX12_goes_34 : decode cX12_goes 34 = .ok (.aload_n 0, 1) := by decide +kernel
theorem dX12_goes_35 : decode cX12_goes 35 = .ok (.getfield 7, 3) := by decide +kernel
theorem dX12_goes_38 : decode cX12_goes 38 = .ok (.iconst 1, 1) := by decide +kernel
theorem dX12_goes_39 : decode cX12_goes 39 = .ok (.dup2, 1) := by decide +kernel
theorem dX12_goes_40 : decode cX12_goes 40 = .ok (.iaload, 1) := by decide +kernel
theorem dX12_goes_41 : decode cX12_goes 41 = .ok (.iload_n 3, 1) := by decide +kernel
theorem dX12_goes_42 : decode cX12_goes 42 = .ok (.ior, 1) := by decide +kernel
theorem dX12_goes_43 : decode cX12_goes 43 = .ok (.iastore, 1) := by decide +kernel
theorem dX12_goes_44 : decode cX12_goes 44 = .ok (.iload_n 3, 1) := by decide +kernel
theorem dX12_goes_45 : decode cX12_goes 45 = .ok (.ireturn, 1) := by decide +kernel
theorem dX12_step_0 : decode cX12_step 0 = .ok (.iload_n 1, 1) := by decide +kernel
theorem dX12_step_1 : decode cX12_step 1 = .ok (.i2l, 1) := by decide +kernel
theorem dX12_step_2 : decode cX12_step 2 = .ok (.lconst 0, 1) := by decide +kernel
theorem dX12_step_3 : decode cX12_step 3 = .ok (.ldc2_w 118, 3) := by decide +kernel
theorem dX12_step_6 : decode cX12_step 6 = .ok (.invokestatic 75, 3) := by decide +kernel
theorem dX12_step_9 : decode cX12_step 9 = .ok (.ifCond .eq 10, 3) := by decide +kernel
theorem dX12_step_12 : decode cX12_step 12 = .ok (.iload_n 2, 1) := by decide +kernel
theorem dX12_step_13 : decode cX12_step 13 = .ok (.invokestatic 89, 3) := by decide +kernel
theorem dX12_step_16 : decode cX12_step 16 = .ok (.ifCond .ne 8, 3) := by decide +kernel
theorem dX12_step_19 : decode cX12_step 19 = .ok (.aload_n 0, 1) := by decide +kernel
theorem dX12_step_20 : decode cX12_step 20 = .ok (.invokevirtual 95, 3) := by decide +kernel
theorem dX12_step_23 : decode cX12_step 23 = .ok (.ireturn, 1) := by decide +kernel
theorem dX12_step_24 : decode cX12_step 24 = .ok (.aload_n 0, 1) := by decide +kernel
theorem dX12_step_25 : decode cX12_step 25 = .ok (.aload_n 0, 1) := by decide +kernel
theorem dX12_step_26 : decode cX12_step 26 = .ok (.getfield 7, 3) := by decide +kernel
theorem dX12_step_29 : decode cX12_step 29 = .ok (.iconst 2, 1) := by decide +kernel
theorem dX12_step_30 : decode cX12_step 30 = .ok (.iload_n 1, 1) := by decide +kernel
theorem dX12_step_31 : decode cX12_step 31 = .ok (.iadd, 1) := by decide +kernel
theorem dX12_step_32 : decode cX12_step 32 = .ok (.iaload, 1) := by decide +kernel
theorem dX12_step_33 : decode cX12_step 33 = .ok (.iload_n 2, 1) := by decide +kernel
theorem dX12_step_34 : decode cX12_step 34 = .ok (.invokevirtual 99, 3) := by decide +kernel
theorem dX12_step_37 : decode cX12_step 37 = .ok (.ifCond .ge 8, 3) := by decide +kernel
theorem dX12_step_40 : decode cX12_step 40 = .ok (.aload_n 0, 1) := by decide +kernel
theorem dX12_step_41 : decode cX12_step 41 = .ok (.invokevirtual 214, 3) := by decide +kernel
theorem dX12_step_44 : decode cX12_step 44 = .ok (.ireturn, 1) := by decide +kernel
theorem dX12_step_45 : decode cX12_step 45 = .ok (.aload_n 0, 1) := by decide +kernel
theorem dX12_step_46 : decode cX12_step 46 = .ok (.invokevirtual 217, 3) := by decide +kernel
theorem dX12_step_49 : decode cX12_step 49 = .ok (.aload_n 0, 1) := by decide +kernel
theorem dX12_step_50 : decode cX12_step 50 = .ok (.iload_n 1, 1) := by decide +kernel
theorem dX12_step_51 : decode cX12_step 51 = .ok (.iload_n 2, 1) := by decide +kernel
theorem dX12_step_52 : decode cX12_step 52 = .ok (.invokevirtual 220, 3) := by decide +kernel
theorem dX12_step_55 : decode cX12_step 55 = .ok (.istore_n 3, 1) := by decide +kernel
theorem dX12_step_56 : decode cX12_step 56 = .ok (.aload_n 0, 1) := by decide +kernel
theorem dX12_step_57 : decode cX12_step 57 = .ok (.iconst 1, 1) := by decide +kernel
theorem dX12_step_58 : decode cX12_step 58 = .ok (.invokevirtual 223, 3) := by decide +kernel
theorem dX12_step_61 : decode cX12_step 61 = .ok (.iload_n 3, 1) := by decide +kernel
theorem dX12_step_62 : decode cX12_step 62 = .ok (.ireturn, 1) := by decide +kernel
theorem dX12_waits_0 : decode cX12_waits 0 = .ok (.iload_n 1, 1) := by decide +kernel
theorem dX12_waits_1 : decode cX12_waits 1 = .ok (.i2l, 1) := by decide +kernel
theorem dX12_waits_2 : decode cX12_waits 2 = .ok (.lconst 1, 1) := by decide +kernel
theorem dX12_waits_3 : decode cX12_waits 3 = .ok (.ldc2_w 79, 3) := by decide +kernel
theorem dX12_waits_6 : decode cX12_waits 6 = .ok (.invokestatic 75, 3) := by decide +kernel
theorem dX12_waits_9 : decode cX12_waits 9 = .ok (.ifCond .ne 8, 3) := by decide +kernel
theorem dX12_waits_12 : decode cX12_waits 12 = .ok (.aload_n 0, 1) := by decide +kernel
theorem dX12_waits_13 : decode cX12_waits 13 = .ok (.invokevirtual 95, 3) := by decide +kernel
theorem dX12_waits_16 : decode cX12_waits 16 = .ok (.ireturn, 1) := by decide +kernel
theorem dX12_waits_17 : decode cX12_waits 17 = .ok (.aload_n 0, 1) := by decide +kernel
theorem dX12_waits_18 : decode cX12_waits 18 = .ok (.invokevirtual 217, 3) := by decide +kernel
theorem dX12_waits_21 : decode cX12_waits 21 = .ok (.aload_n 0, 1) := by decide +kernel
theorem dX12_waits_22 : decode cX12_waits 22 = .ok (.iload_n 1, 1) := by decide +kernel
theorem dX12_waits_23 : decode cX12_waits 23 = .ok (.invokevirtual 223, 3) := by decide +kernel
theorem dX12_waits_26 : decode cX12_waits 26 = .ok (.aload_n 0, 1) := by decide +kernel
theorem dX12_waits_27 : decode cX12_waits 27 = .ok (.getfield 7, 3) := by decide +kernel
theorem dX12_waits_30 : decode cX12_waits 30 = .ok (.iconst 0, 1) := by decide +kernel
theorem dX12_waits_31 : decode cX12_waits 31 = .ok (.iaload, 1) := by decide +kernel
theorem dX12_waits_32 : decode cX12_waits 32 = .ok (.ireturn, 1) := by decide +kernel
theorem dX12_undo_0 : decode cX12_undo 0 = .ok (.aload_n 0, 1) := by decide +kernel
theorem dX12_undo_1 : decode cX12_undo 1 = .ok (.getfield 81, 3) := by decide +kernel
theorem dX12_undo_4 : decode cX12_undo 4 = .ok (.ifCond .ne 8, 3) := by decide +kernel
theorem dX12_undo_7 : decode cX12_undo 7 = .ok (.aload_n 0, 1) := by decide +kernel
theorem dX12_undo_8 : decode cX12_undo 8 = .ok (.invokevirtual 214, 3) := by decide +kernel
theorem dX12_undo_11 : decode cX12_undo 11 = .ok (.ireturn, 1) := by decide +kernel
theorem dX12_undo_12 : decode cX12_undo 12 = .ok (.aload_n 0, 1) := by decide +kernel
theorem dX12_undo_13 : decode cX12_undo 13 = .ok (.dup, 1) := by decide +kernel
theorem dX12_undo_14 : decode cX12_undo 14 = .ok (.getfield 81, 3) := by decide +kernel
theorem dX12_undo_17 : decode cX12_undo 17 = .ok (.iconst 1, 1) := by decide +kernel
theorem dX12_undo_18 : decode cX12_undo 18 = .ok (.isub, 1) := by decide +kernel
theorem dX12_undo_19 : decode cX12_undo 19 = .ok (.putfield 81, 3) := by decide +kernel
theorem dX12_undo_22 : decode cX12_undo 22 = .ok (.iconst 0, 1) := by decide +kernel
theorem dX12_undo_23 : decode cX12_undo 23 = .ok (.istore_n 1, 1) := by decide +kernel
theorem dX12_undo_24 : decode cX12_undo 24 = .ok (.iload_n 1, 1) := by decide +kernel
theorem dX12_undo_25 : decode cX12_undo 25 = .ok (.iconst 5, 1) := by decide +kernel
theorem dX12_undo_26 : decode cX12_undo 26 = .ok (.if_icmp .ge 28, 3) := by decide +kernel
theorem dX12_undo_29 : decode cX12_undo 29 = .ok (.aload_n 0, 1) := by decide +kernel
theorem dX12_undo_30 : decode cX12_undo 30 = .ok (.getfield 7, 3) := by decide +kernel
theorem dX12_undo_33 : decode cX12_undo 33 = .ok (.iload_n 1, 1) := by decide +kernel
theorem dX12_undo_34 : decode cX12_undo 34 = .ok (.aload_n 0, 1) := by decide +kernel
theorem dX12_undo_35 : decode cX12_undo 35 = .ok (.getfield 29, 3) := by decide +kernel
theorem dX12_undo_38 : decode cX12_undo 38 = .ok (.iconst 5, 1) := by decide +kernel
theorem dX12_undo_39 : decode cX12_undo 39 = .ok (.aload_n 0, 1) := by decide +kernel
theorem dX12_undo_40 : decode cX12_undo 40 = .ok (.getfield 81, 3) := by decide +kernel
theorem dX12_undo_43 : decode cX12_undo 43 = .ok (.imul, 1) := by decide +kernel
theorem dX12_undo_44 : decode cX12_undo 44 = .ok (.iload_n 1, 1) := by decide +kernel
theorem dX12_undo_45 : decode cX12_undo 45 = .ok (.iadd, 1) := by decide +kernel
theorem dX12_undo_46 : decode cX12_undo 46 = .ok (.iaload, 1) := by decide +kernel
theorem dX12_undo_47 : decode cX12_undo 47 = .ok (.iastore, 1) := by decide +kernel
theorem dX12_undo_48 : decode cX12_undo 48 = .ok (.iinc 1 1, 3) := by decide +kernel
theorem dX12_undo_51 : decode cX12_undo 51 = .ok (.goto (-27), 3) := by decide +kernel
theorem dX12_undo_54 : decode cX12_undo 54 = .ok (.aload_n 0, 1) := by decide +kernel
theorem dX12_undo_55 : decode cX12_undo 55 = .ok (.getfield 7, 3) := by decide +kernel
theorem dX12_undo_58 : decode cX12_undo 58 = .ok (.iconst 0, 1) := by decide +kernel
theorem dX12_undo_59 : decode cX12_undo 59 = .ok (.iaload, 1) := by decide +kernel
theorem dX12_undo_60 : decode cX12_undo 60 = .ok (.ireturn, 1) := by decide +kernel
theorem dX12_of_0 : decode cX12_of 0 = .ok (.aload_n 0, 1) := by decide +kernel
theorem dX12_of_1 : decode cX12_of 1 = .ok (.iload_n 1, 1) := by decide +kernel
theorem dX12_of_2 : decode cX12_of 2 = .ok (.invokevirtual 226, 3) := by decide +kernel
theorem dX12_of_5 : decode cX12_of 5 = .ok (.ifCond .eq 15, 3) := by decide +kernel
theorem dX12_of_8 : decode cX12_of 8 = .ok (.iload_n 2, 1) := by decide +kernel
theorem dX12_of_9 : decode cX12_of 9 = .ok (.i2l, 1) := by decide +kernel
theorem dX12_of_10 : decode cX12_of 10 = .ok (.lconst 0, 1) := by decide +kernel
theorem dX12_of_11 : decode cX12_of 11 = .ok (.ldc2_w 229, 3) := by decide +kernel
theorem dX12_of_14 : decode cX12_of 14 = .ok (.invokestatic 75, 3) := by decide +kernel
theorem dX12_of_17 : decode cX12_of 17 = .ok (.ifCond .ne 8, 3) := by decide +kernel
theorem dX12_of_20 : decode cX12_of 20 = .ok (.aload_n 0, 1) := by decide +kernel
theorem dX12_of_21 : decode cX12_of 21 = .ok (.invokevirtual 95, 3) := by decide +kernel
theorem dX12_of_24 : decode cX12_of 24 = .ok (.ireturn, 1) := by decide +kernel
theorem dX12_of_25 : decode cX12_of 25 = .ok (.iload_n 2, 1) := by decide +kernel
theorem dX12_of_26 : decode cX12_of 26 = .ok (.ifCond .ne 15, 3) := by decide +kernel
theorem dX12_of_29 : decode cX12_of 29 = .ok (.aload_n 0, 1) := by decide +kernel
theorem dX12_of_30 : decode cX12_of 30 = .ok (.getfield 7, 3) := by decide +kernel
theorem dX12_of_33 : decode cX12_of 33 = .ok (.bipush 6, 2) := by decide +kernel
theorem dX12_of_35 : decode cX12_of 35 = .ok (.iload_n 1, 1) := by decide +kernel
theorem dX12_of_36 : decode cX12_of 36 = .ok (.iadd, 1) := by decide +kernel
theorem dX12_of_37 : decode cX12_of 37 = .ok (.iaload, 1) := by decide +kernel
theorem dX12_of_38 : decode cX12_of 38 = .ok (.goto 47, 3) := by decide +kernel
theorem dX12_of_41 : decode cX12_of 41 = .ok (.iload_n 2, 1) := by decide +kernel
theorem dX12_of_42 : decode cX12_of 42 = .ok (.iconst 1, 1) := by decide +kernel
theorem dX12_of_43 : decode cX12_of 43 = .ok (.if_icmp .ne 15, 3) := by decide +kernel
theorem dX12_of_46 : decode cX12_of 46 = .ok (.aload_n 0, 1) := by decide +kernel
theorem dX12_of_47 : decode cX12_of 47 = .ok (.getfield 7, 3) := by decide +kernel
theorem dX12_of_50 : decode cX12_of 50 = .ok (.bipush 11, 2) := by decide +kernel
theorem dX12_of_52 : decode cX12_of 52 = .ok (.iload_n 1, 1) := by decide +kernel
theorem dX12_of_53 : decode cX12_of 53 = .ok (.iadd, 1) := by decide +kernel
theorem dX12_of_54 : decode cX12_of 54 = .ok (.iaload, 1) := by decide +kernel
theorem dX12_of_55 : decode cX12_of 55 = .ok (.goto 30, 3) := by decide +kernel
theorem dX12_of_58 : decode cX12_of 58 = .ok (.iload_n 2, 1) := by decide +kernel
theorem dX12_of_59 : decode cX12_of 59 = .ok (.iconst 2, 1) := by decide +kernel
theorem dX12_of_60 : decode cX12_of 60 = .ok (.if_icmp .ne 15, 3) := by decide +kernel
theorem dX12_of_63 : decode cX12_of 63 = .ok (.aload_n 0, 1) := by decide +kernel
theorem dX12_of_64 : decode cX12_of 64 = .ok (.getfield 7, 3) := by decide +kernel
theorem dX12_of_67 : decode cX12_of 67 = .ok (.bipush 16, 2) := by decide +kernel
theorem dX12_of_69 : decode cX12_of 69 = .ok (.iload_n 1, 1) := by decide +kernel
theorem dX12_of_70 : decode cX12_of 70 = .ok (.iadd, 1) := by decide +kernel
theorem dX12_of_71 : decode cX12_of 71 = .ok (.iaload, 1) := by decide +kernel
theorem dX12_of_72 : decode cX12_of 72 = .ok (.goto 13, 3) := by decide +kernel
theorem dX12_of_75 : decode cX12_of 75 = .ok (.aload_n 0, 1) := by decide +kernel
theorem dX12_of_76 : decode cX12_of 76 = .ok (.getfield 7, 3) := by decide +kernel
theorem dX12_of_79 : decode cX12_of 79 = .ok (.iconst 1, 1) := by decide +kernel
theorem dX12_of_80 : decode cX12_of 80 = .ok (.iaload, 1) := by decide +kernel
theorem dX12_of_81 : decode cX12_of 81 = .ok (.iload_n 1, 1) := by decide +kernel
theorem dX12_of_82 : decode cX12_of 82 = .ok (.ishr, 1) := by decide +kernel
theorem dX12_of_83 : decode cX12_of 83 = .ok (.iconst 1, 1) := by decide +kernel
theorem dX12_of_84 : decode cX12_of 84 = .ok (.iand, 1) := by decide +kernel
theorem dX12_of_85 : decode cX12_of 85 = .ok (.ireturn, 1) := by decide +kernel
theorem dX12_where_0 : decode cX12_where 0 = .ok (.iload_n 1, 1) := by decide +kernel
theorem dX12_where_1 : decode cX12_where 1 = .ok (.i2l, 1) := by decide +kernel
theorem dX12_where_2 : decode cX12_where 2 = .ok (.lconst 0, 1) := by decide +kernel
theorem dX12_where_3 : decode cX12_where 3 = .ok (.ldc2_w 118, 3) := by decide +kernel
theorem dX12_where_6 : decode cX12_where 6 = .ok (.invokestatic 75, 3) := by decide +kernel
theorem dX12_where_9 : decode cX12_where 9 = .ok (.ifCond .eq 14, 3) := by decide +kernel
theorem dX12_where_12 : decode cX12_where 12 = .ok (.aload_n 0, 1) := by decide +kernel
theorem dX12_where_13 : decode cX12_where 13 = .ok (.getfield 7, 3) := by decide +kernel
theorem dX12_where_16 : decode cX12_where 16 = .ok (.iconst 2, 1) := by decide +kernel
theorem dX12_where_17 : decode cX12_where 17 = .ok (.iload_n 1, 1) := by decide +kernel
theorem dX12_where_18 : decode cX12_where 18 = .ok (.iadd, 1) := by decide +kernel
theorem dX12_where_19 : decode cX12_where 19 = .ok (.iaload, 1) := by decide +kernel
theorem dX12_where_20 : decode cX12_where 20 = .ok (.goto 7, 3) := by decide +kernel
theorem dX12_where_23 : decode cX12_where 23 = .ok (.aload_n 0, 1) := by decide +kernel
theorem dX12_where_24 : decode cX12_where 24 = .ok (.invokevirtual 95, 3) := by decide +kernel
theorem dX12_where_27 : decode cX12_where 27 = .ok (.ireturn, 1) := by decide +kernel
theorem dX12_isQuiet_0 : decode cX12_isQuiet 0 = .ok (.iload_n 1, 1) := by decide +kernel
theorem dX12_isQuiet_1 : decode cX12_isQuiet 1 = .ok (.iload_n 2, 1) := by decide +kernel
theorem dX12_isQuiet_2 : decode cX12_isQuiet 2 = .ok (.if_icmp .eq 27, 3) := by decide +kernel
theorem dX12_isQuiet_5 : decode cX12_isQuiet 5 = .ok (.aload_n 0, 1) := by decide +kernel
theorem dX12_isQuiet_6 : decode cX12_isQuiet 6 = .ok (.iload_n 1, 1) := by decide +kernel
theorem dX12_isQuiet_7 : decode cX12_isQuiet 7 = .ok (.iload_n 2, 1) := by decide +kernel
theorem dX12_isQuiet_8 : decode cX12_isQuiet 8 = .ok (.invokevirtual 99, 3) := by decide +kernel
theorem dX12_isQuiet_11 : decode cX12_isQuiet 11 = .ok (.ifCond .lt 22, 3) := by decide +kernel
theorem dX12_isQuiet_14 : decode cX12_isQuiet 14 = .ok (.aload_n 0, 1) := by decide +kernel
theorem dX12_isQuiet_15 : decode cX12_isQuiet 15 = .ok (.aload_n 0, 1) := by decide +kernel
theorem dX12_isQuiet_16 : decode cX12_isQuiet 16 = .ok (.iload_n 1, 1) := by decide +kernel
theorem dX12_isQuiet_17 : decode cX12_isQuiet 17 = .ok (.iload_n 2, 1) := by decide +kernel
theorem dX12_isQuiet_18 : decode cX12_isQuiet 18 = .ok (.invokevirtual 99, 3) := by decide +kernel
theorem dX12_isQuiet_21 : decode cX12_isQuiet 21 = .ok (.iload_n 2, 1) := by decide +kernel
theorem dX12_isQuiet_22 : decode cX12_isQuiet 22 = .ok (.iload_n 3, 1) := by decide +kernel
theorem dX12_isQuiet_23 : decode cX12_isQuiet 23 = .ok (.invokevirtual 211, 3) := by decide +kernel
theorem dX12_isQuiet_26 : decode cX12_isQuiet 26 = .ok (.ifCond .ne 7, 3) := by decide +kernel
theorem dX12_isQuiet_29 : decode cX12_isQuiet 29 = .ok (.iconst 1, 1) := by decide +kernel
theorem dX12_isQuiet_30 : decode cX12_isQuiet 30 = .ok (.goto 4, 3) := by decide +kernel
theorem dX12_isQuiet_33 : decode cX12_isQuiet 33 = .ok (.iconst 0, 1) := by decide +kernel
theorem dX12_isQuiet_34 : decode cX12_isQuiet 34 = .ok (.ireturn, 1) := by decide +kernel
theorem dX12_findQuiet_0 : decode cX12_findQuiet 0 = .ok (.iconst 0, 1) := by decide +kernel
theorem dX12_findQuiet_1 : decode cX12_findQuiet 1 = .ok (.istore_n 2, 1) := by decide +kernel
theorem dX12_findQuiet_2 : decode cX12_findQuiet 2 = .ok (.iload_n 2, 1) := by decide +kernel
theorem dX12_findQuiet_3 : decode cX12_findQuiet 3 = .ok (.bipush 64, 2) := by decide +kernel
theorem dX12_findQuiet_5 : decode cX12_findQuiet 5 = .ok (.if_icmp .ge 28, 3) := by decide +kernel
theorem dX12_findQuiet_8 : decode cX12_findQuiet 8 = .ok (.aload_n 0, 1) := by decide +kernel
theorem dX12_findQuiet_9 : decode cX12_findQuiet 9 = .ok (.getfield 32, 3) := by decide +kernel
theorem dX12_findQuiet_12 : decode cX12_findQuiet 12 = .ok (.iload_n 2, 1) := by decide +kernel
theorem dX12_findQuiet_13 : decode cX12_findQuiet 13 = .ok (.aload_n 0, 1) := by decide +kernel
theorem dX12_findQuiet_14 : decode cX12_findQuiet 14 = .ok (.iload_n 2, 1) := by decide +kernel
theorem dX12_findQuiet_15 : decode cX12_findQuiet 15 = .ok (.bipush 8, 2) := by decide +kernel
theorem dX12_findQuiet_17 : decode cX12_findQuiet 17 = .ok (.idiv, 1) := by decide +kernel
theorem dX12_findQuiet_18 : decode cX12_findQuiet 18 = .ok (.iload_n 2, 1) := by decide +kernel
theorem dX12_findQuiet_19 : decode cX12_findQuiet 19 = .ok (.bipush 8, 2) := by decide +kernel
theorem dX12_findQuiet_21 : decode cX12_findQuiet 21 = .ok (.irem, 1) := by decide +kernel
theorem dX12_findQuiet_22 : decode cX12_findQuiet 22 = .ok (.iload_n 1, 1) := by decide +kernel
theorem dX12_findQuiet_23 : decode cX12_findQuiet 23 = .ok (.invokevirtual 231, 3) := by decide +kernel
theorem dX12_findQuiet_26 : decode cX12_findQuiet 26 = .ok (.bastore, 1) := by decide +kernel
theorem dX12_findQuiet_27 : decode cX12_findQuiet 27 = .ok (.iinc 2 1, 3) := by decide +kernel
theorem dX12_findQuiet_30 : decode cX12_findQuiet 30 = .ok (.goto (-28), 3) := by decide +kernel
theorem dX12_findQuiet_33 : decode cX12_findQuiet 33 = .ok (.return_, 1) := by decide +kernel
theorem dX12_findWays_0 : decode cX12_findWays 0 = .ok (.bipush 59, 2) := by decide +kernel
theorem dX12_findWays_2 : decode cX12_findWays 2 = .ok (.istore_n 3, 1) := by decide +kernel
theorem dX12_findWays_3 : decode cX12_findWays 3 = .ok (.iload_n 3, 1) := by decide +kernel
theorem dX12_findWays_4 : decode cX12_findWays 4 = .ok (.iload_n 2, 1) := by decide +kernel
theorem dX12_findWays_5 : decode cX12_findWays 5 = .ok (.if_icmp .lt 136, 3) := by decide +kernel
theorem dX12_findWays_8 : decode cX12_findWays 8 = .ok (.aload_n 0, 1) := by decide +kernel
theorem dX12_findWays_9 : decode cX12_findWays 9 = .ok (.iload_n 3, 1) := by decide +kernel
theorem dX12_findWays_10 : decode cX12_findWays 10 = .ok (.invokevirtual 235, 3) := by decide +kernel
theorem dX12_findWays_13 : decode cX12_findWays 13 = .ok (.iconst 0, 1) := by decide +kernel
theorem dX12_findWays_14 : decode cX12_findWays 14 = .ok (.istore 4, 2) := by decide +kernel
theorem dX12_findWays_16 : decode cX12_findWays 16 = .ok (.iload 4, 2) := by decide +kernel
theorem dX12_findWays_18 : decode cX12_findWays 18 = .ok (.bipush 8, 2) := by decide +kernel
theorem dX12_findWays_20 : decode cX12_findWays 20 = .ok (.if_icmp .ge 115, 3) := by decide +kernel
theorem dX12_findWays_23 : decode cX12_findWays 23 = .ok (.iload 4, 2) := by decide +kernel
theorem dX12_findWays_25 : decode cX12_findWays 25 = .ok (.iload_n 1, 1) := by decide +kernel
theorem dX12_findWays_26 : decode cX12_findWays 26 = .ok (.if_icmp .ne 7, 3) := by decide +kernel
theorem dX12_findWays_29 : decode cX12_findWays 29 = .ok (.iconst 0, 1) := by decide +kernel
theorem dX12_findWays_30 : decode cX12_findWays 30 = .ok (.goto 5, 3) := by decide +kernel
theorem dX12_findWays_33 : decode cX12_findWays 33 = .ok (.bipush 99, 2) := by decide +kernel
theorem dX12_findWays_35 : decode cX12_findWays 35 = .ok (.istore 5, 2) := by decide +kernel
theorem dX12_findWays_37 : decode cX12_findWays 37 = .ok (.iconst 0, 1) := by decide +kernel
theorem dX12_findWays_38 : decode cX12_findWays 38 = .ok (.istore 6, 2) := by decide +kernel
theorem dX12_findWays_40 : decode cX12_findWays 40 = .ok (.iload 6, 2) := by decide +kernel
theorem dX12_findWays_42 : decode cX12_findWays 42 = .ok (.bipush 8, 2) := by decide +kernel
theorem dX12_findWays_44 : decode cX12_findWays 44 = .ok (.if_icmp .ge 71, 3) := by decide +kernel
theorem dX12_findWays_47 : decode cX12_findWays 47 = .ok (.iload_n 3, 1) := by decide +kernel
theorem dX12_findWays_48 : decode cX12_findWays 48 = .ok (.bipush 59, 2) := by decide +kernel
theorem dX12_findWays_50 : decode cX12_findWays 50 = .ok (.if_icmp .ge 65, 3) := by decide +kernel
theorem dX12_findWays_53 : decode cX12_findWays 53 = .ok (.iload 4, 2) := by decide +kernel
theorem dX12_findWays_55 : decode cX12_findWays 55 = .ok (.iload_n 1, 1) := by decide +kernel
theorem dX12_findWays_56 : decode cX12_findWays 56 = .ok (.if_icmp .eq 59, 3) := by decide +kernel
theorem dX12_findWays_59 : decode cX12_findWays 59 = .ok (.aload_n 0, 1) := by decide +kernel
theorem dX12_findWays_60 : decode cX12_findWays 60 = .ok (.getfield 36, 3) := by decide +kernel
theorem dX12_findWays_63 : decode cX12_findWays 63 = .ok (.bipush 8, 2) := by decide +kernel
theorem dX12_findWays_65 : decode cX12_findWays 65 = .ok (.iload_n 3, 1) := by decide +kernel
theorem dX12_findWays_66 : decode cX12_findWays 66 = .ok (.iconst 1, 1) := by decide +kernel
theorem dX12_findWays_67 : decode cX12_findWays 67 = .ok (.iadd, 1) := by decide +kernel
theorem dX12_findWays_68 : decode cX12_findWays 68 = .ok (.imul, 1) := by decide +kernel
theorem dX12_findWays_69 : decode cX12_findWays 69 = .ok (.iload 6, 2) := by decide +kernel
theorem dX12_findWays_71 : decode cX12_findWays 71 = .ok (.iadd, 1) := by decide +kernel
theorem dX12_findWays_72 : decode cX12_findWays 72 = .ok (.iaload, 1) := by decide +kernel
theorem dX12_findWays_73 : decode cX12_findWays 73 = .ok (.iconst 1, 1) := by decide +kernel
theorem dX12_findWays_74 : decode cX12_findWays 74 = .ok (.iadd, 1) := by decide +kernel
theorem dX12_findWays_75 : decode cX12_findWays 75 = .ok (.istore 7, 2) := by decide +kernel
theorem dX12_findWays_77 : decode cX12_findWays 77 = .ok (.iload 7, 2) := by decide +kernel
theorem dX12_findWays_79 : decode cX12_findWays 79 = .ok (.iload 5, 2) := by decide +kernel
theorem dX12_findWays_81 : decode cX12_findWays 81 = .ok (.if_icmp .ge 24, 3) := by decide +kernel
theorem dX12_findWays_84 : decode cX12_findWays 84 = .ok (.aload_n 0, 1) := by decide +kernel
theorem dX12_findWays_85 : decode cX12_findWays 85 = .ok (.getfield 32, 3) := by decide +kernel
theorem dX12_findWays_88 : decode cX12_findWays 88 = .ok (.bipush 8, 2) := by decide +kernel
theorem dX12_findWays_90 : decode cX12_findWays 90 = .ok (.iload 4, 2) := by decide +kernel
theorem dX12_findWays_92 : decode cX12_findWays 92 = .ok (.imul, 1) := by decide +kernel
theorem dX12_findWays_93 : decode cX12_findWays 93 = .ok (.iload 6, 2) := by decide +kernel
theorem dX12_findWays_95 : decode cX12_findWays 95 = .ok (.iadd, 1) := by decide +kernel
theorem dX12_findWays_96 : decode cX12_findWays 96 = .ok (.baload, 1) := by decide +kernel
theorem dX12_findWays_97 : decode cX12_findWays 97 = .ok (.ifCond .eq 8, 3) := by decide +kernel
theorem dX12_findWays_100 : decode cX12_findWays 100 = .ok (.iload 7, 2) := by decide +kernel
theorem dX12_findWays_102 : decode cX12_findWays 102 = .ok (.goto 5, 3) := by decide +kernel
theorem dX12_findWays_105 : decode cX12_findWays 105 = .ok (.iload 5, 2) := by decide +kernel
theorem dX12_findWays_107 : decode cX12_findWays 107 = .ok (.istore 5, 2) := by decide +kernel
theorem dX12_findWays_109 : decode cX12_findWays 109 = .ok (.iinc 6 1, 3) := by decide +kernel
theorem dX12_findWays_112 : decode cX12_findWays 112 = .ok (.goto (-72), 3) := by decide +kernel
theorem dX12_findWays_115 : decode cX12_findWays 115 = .ok (.aload_n 0, 1) := by decide +kernel
theorem dX12_findWays_116 : decode cX12_findWays 116 = .ok (.getfield 36, 3) := by decide +kernel
theorem dX12_findWays_119 : decode cX12_findWays 119 = .ok (.bipush 8, 2) := by decide +kernel
theorem dX12_findWays_121 : decode cX12_findWays 121 = .ok (.iload_n 3, 1) := by decide +kernel
theorem dX12_findWays_122 : decode cX12_findWays 122 = .ok (.imul, 1) := by decide +kernel
theorem dX12_findWays_123 : decode cX12_findWays 123 = .ok (.iload 4, 2) := by decide +kernel
theorem dX12_findWays_125 : decode cX12_findWays 125 = .ok (.iadd, 1) := by decide +kernel
theorem dX12_findWays_126 : decode cX12_findWays 126 = .ok (.iload 5, 2) := by decide +kernel
theorem dX12_findWays_128 : decode cX12_findWays 128 = .ok (.iastore, 1) := by decide +kernel
theorem dX12_findWays_129 : decode cX12_findWays 129 = .ok (.iinc 4 1, 3) := by decide +kernel
theorem dX12_findWays_132 : decode cX12_findWays 132 = .ok (.goto (-116), 3) := by decide +kernel
theorem dX12_findWays_135 : decode cX12_findWays 135 = .ok (.iinc 3 (-1), 3) := by decide +kernel
theorem dX12_findWays_138 : decode cX12_findWays 138 = .ok (.goto (-135), 3) := by decide +kernel
theorem dX12_findWays_141 : decode cX12_findWays 141 = .ok (.return_, 1) := by decide +kernel
