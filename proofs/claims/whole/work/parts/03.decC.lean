theorem dX12_way_0 : decode cX12_way 0 = .ok (.iload_n 1, 1) := by decide +kernel
theorem dX12_way_1 : decode cX12_way 1 = .ok (.invokestatic 89, 3) := by decide +kernel
theorem dX12_way_4 : decode cX12_way 4 = .ok (.ifCond .eq 25, 3) := by decide +kernel
theorem dX12_way_7 : decode cX12_way 7 = .ok (.iload_n 2, 1) := by decide +kernel
theorem dX12_way_8 : decode cX12_way 8 = .ok (.invokestatic 89, 3) := by decide +kernel
theorem dX12_way_11 : decode cX12_way 11 = .ok (.ifCond .eq 18, 3) := by decide +kernel
theorem dX12_way_14 : decode cX12_way 14 = .ok (.iload_n 3, 1) := by decide +kernel
theorem dX12_way_15 : decode cX12_way 15 = .ok (.invokestatic 208, 3) := by decide +kernel
theorem dX12_way_18 : decode cX12_way 18 = .ok (.ifCond .eq 11, 3) := by decide +kernel
theorem dX12_way_21 : decode cX12_way 21 = .ok (.iload 4, 2) := by decide +kernel
theorem dX12_way_23 : decode cX12_way 23 = .ok (.invokestatic 238, 3) := by decide +kernel
theorem dX12_way_26 : decode cX12_way 26 = .ok (.ifCond .ne 8, 3) := by decide +kernel
theorem dX12_way_29 : decode cX12_way 29 = .ok (.aload_n 0, 1) := by decide +kernel
theorem dX12_way_30 : decode cX12_way 30 = .ok (.invokevirtual 95, 3) := by decide +kernel
theorem dX12_way_33 : decode cX12_way 33 = .ok (.ireturn, 1) := by decide +kernel
theorem dX12_way_34 : decode cX12_way 34 = .ok (.aload_n 0, 1) := by decide +kernel
theorem dX12_way_35 : decode cX12_way 35 = .ok (.iload_n 2, 1) := by decide +kernel
theorem dX12_way_36 : decode cX12_way 36 = .ok (.iload_n 3, 1) := by decide +kernel
theorem dX12_way_37 : decode cX12_way 37 = .ok (.invokevirtual 241, 3) := by decide +kernel
theorem dX12_way_40 : decode cX12_way 40 = .ok (.aload_n 0, 1) := by decide +kernel
theorem dX12_way_41 : decode cX12_way 41 = .ok (.getfield 36, 3) := by decide +kernel
theorem dX12_way_44 : decode cX12_way 44 = .ok (.bipush 8, 2) := by decide +kernel
theorem dX12_way_46 : decode cX12_way 46 = .ok (.iload_n 3, 1) := by decide +kernel
theorem dX12_way_47 : decode cX12_way 47 = .ok (.imul, 1) := by decide +kernel
theorem dX12_way_48 : decode cX12_way 48 = .ok (.iload_n 1, 1) := by decide +kernel
theorem dX12_way_49 : decode cX12_way 49 = .ok (.iadd, 1) := by decide +kernel
theorem dX12_way_50 : decode cX12_way 50 = .ok (.iaload, 1) := by decide +kernel
theorem dX12_way_51 : decode cX12_way 51 = .ok (.istore 5, 2) := by decide +kernel
theorem dX12_way_53 : decode cX12_way 53 = .ok (.iload 5, 2) := by decide +kernel
theorem dX12_way_55 : decode cX12_way 55 = .ok (.bipush 99, 2) := by decide +kernel
theorem dX12_way_57 : decode cX12_way 57 = .ok (.if_icmp .lt 5, 3) := by decide +kernel
theorem dX12_way_60 : decode cX12_way 60 = .ok (.iconst (-1), 1) := by decide +kernel
theorem dX12_way_61 : decode cX12_way 61 = .ok (.ireturn, 1) := by decide +kernel
theorem dX12_way_62 : decode cX12_way 62 = .ok (.iload 4, 2) := by decide +kernel
theorem dX12_way_64 : decode cX12_way 64 = .ok (.ifCond .eq 8, 3) := by decide +kernel
theorem dX12_way_67 : decode cX12_way 67 = .ok (.iload 5, 2) := by decide +kernel
theorem dX12_way_69 : decode cX12_way 69 = .ok (.ifCond .ne 15, 3) := by decide +kernel
theorem dX12_way_72 : decode cX12_way 72 = .ok (.iload 4, 2) := by decide +kernel
theorem dX12_way_74 : decode cX12_way 74 = .ok (.ifCond .ne 8, 3) := by decide +kernel
theorem dX12_way_77 : decode cX12_way 77 = .ok (.iload 5, 2) := by decide +kernel
theorem dX12_way_79 : decode cX12_way 79 = .ok (.goto 4, 3) := by decide +kernel
theorem dX12_way_82 : decode cX12_way 82 = .ok (.iload_n 2, 1) := by decide +kernel
theorem dX12_way_83 : decode cX12_way 83 = .ok (.ireturn, 1) := by decide +kernel
theorem dX12_way_84 : decode cX12_way 84 = .ok (.iconst 0, 1) := by decide +kernel
theorem dX12_way_85 : decode cX12_way 85 = .ok (.istore 6, 2) := by decide +kernel
theorem dX12_way_87 : decode cX12_way 87 = .ok (.aload_n 0, 1) := by decide +kernel
theorem dX12_way_88 : decode cX12_way 88 = .ok (.getfield 36, 3) := by decide +kernel
theorem dX12_way_91 : decode cX12_way 91 = .ok (.bipush 8, 2) := by decide +kernel
theorem dX12_way_93 : decode cX12_way 93 = .ok (.iload_n 3, 1) := by decide +kernel
theorem dX12_way_94 : decode cX12_way 94 = .ok (.iconst 1, 1) := by decide +kernel
theorem dX12_way_95 : decode cX12_way 95 = .ok (.iadd, 1) := by decide +kernel
theorem dX12_way_96 : decode cX12_way 96 = .ok (.imul, 1) := by decide +kernel
theorem dX12_way_97 : decode cX12_way 97 = .ok (.iload 6, 2) := by decide +kernel
theorem dX12_way_99 : decode cX12_way 99 = .ok (.iadd, 1) := by decide +kernel
theorem dX12_way_100 : decode cX12_way 100 = .ok (.iaload, 1) := by decide +kernel
theorem dX12_way_101 : decode cX12_way 101 = .ok (.iload 5, 2) := by decide +kernel
theorem dX12_way_103 : decode cX12_way 103 = .ok (.iconst 1, 1) := by decide +kernel
theorem dX12_way_104 : decode cX12_way 104 = .ok (.isub, 1) := by decide +kernel
theorem dX12_way_105 : decode cX12_way 105 = .ok (.if_icmp .ne 14, 3) := by decide +kernel
theorem dX12_way_108 : decode cX12_way 108 = .ok (.aload_n 0, 1) := by decide +kernel
theorem dX12_way_109 : decode cX12_way 109 = .ok (.iload_n 1, 1) := by decide +kernel
theorem dX12_way_110 : decode cX12_way 110 = .ok (.iload 6, 2) := by decide +kernel
theorem dX12_way_112 : decode cX12_way 112 = .ok (.iload_n 3, 1) := by decide +kernel
theorem dX12_way_113 : decode cX12_way 113 = .ok (.invokevirtual 231, 3) := by decide +kernel
theorem dX12_way_116 : decode cX12_way 116 = .ok (.ifCond .ne 9, 3) := by decide +kernel
theorem dX12_way_119 : decode cX12_way 119 = .ok (.iinc 6 1, 3) := by decide +kernel
theorem dX12_way_122 : decode cX12_way 122 = .ok (.goto (-35), 3) := by decide +kernel
theorem dX12_way_125 : decode cX12_way 125 = .ok (.iload 6, 2) := by decide +kernel
theorem dX12_way_127 : decode cX12_way 127 = .ok (.ireturn, 1) := by decide +kernel
theorem dX12_softest_0 : decode cX12_softest 0 = .ok (.iload_n 1, 1) := by decide +kernel
theorem dX12_softest_1 : decode cX12_softest 1 = .ok (.invokestatic 89, 3) := by decide +kernel
theorem dX12_softest_4 : decode cX12_softest 4 = .ok (.ifCond .eq 10, 3) := by decide +kernel
theorem dX12_softest_7 : decode cX12_softest 7 = .ok (.iload_n 2, 1) := by decide +kernel
theorem dX12_softest_8 : decode cX12_softest 8 = .ok (.invokestatic 89, 3) := by decide +kernel
theorem dX12_softest_11 : decode cX12_softest 11 = .ok (.ifCond .ne 8, 3) := by decide +kernel
theorem dX12_softest_14 : decode cX12_softest 14 = .ok (.aload_n 0, 1) := by decide +kernel
theorem dX12_softest_15 : decode cX12_softest 15 = .ok (.invokevirtual 95, 3) := by decide +kernel
theorem dX12_softest_18 : decode cX12_softest 18 = .ok (.ireturn, 1) := by decide +kernel
theorem dX12_softest_19 : decode cX12_softest 19 = .ok (.iconst 0, 1) := by decide +kernel
theorem dX12_softest_20 : decode cX12_softest 20 = .ok (.istore_n 3, 1) := by decide +kernel
theorem dX12_softest_21 : decode cX12_softest 21 = .ok (.iload_n 3, 1) := by decide +kernel
theorem dX12_softest_22 : decode cX12_softest 22 = .ok (.bipush 8, 2) := by decide +kernel
theorem dX12_softest_24 : decode cX12_softest 24 = .ok (.if_icmp .ge 26, 3) := by decide +kernel
theorem dX12_softest_27 : decode cX12_softest 27 = .ok (.aload_n 0, 1) := by decide +kernel
theorem dX12_softest_28 : decode cX12_softest 28 = .ok (.getfield 26, 3) := by decide +kernel
theorem dX12_softest_31 : decode cX12_softest 31 = .ok (.iload_n 3, 1) := by decide +kernel
theorem dX12_softest_32 : decode cX12_softest 32 = .ok (.iload_n 3, 1) := by decide +kernel
theorem dX12_softest_33 : decode cX12_softest 33 = .ok (.iload_n 1, 1) := by decide +kernel
theorem dX12_softest_34 : decode cX12_softest 34 = .ok (.if_icmp .ne 7, 3) := by decide +kernel
theorem dX12_softest_37 : decode cX12_softest 37 = .ok (.iconst 0, 1) := by decide +kernel
theorem dX12_softest_38 : decode cX12_softest 38 = .ok (.goto 5, 3) := by decide +kernel
theorem dX12_softest_41 : decode cX12_softest 41 = .ok (.bipush 99, 2) := by decide +kernel
theorem dX12_softest_43 : decode cX12_softest 43 = .ok (.iastore, 1) := by decide +kernel
theorem dX12_softest_44 : decode cX12_softest 44 = .ok (.iinc 3 1, 3) := by decide +kernel
theorem dX12_softest_47 : decode cX12_softest 47 = .ok (.goto (-26), 3) := by decide +kernel
theorem dX12_softest_50 : decode cX12_softest 50 = .ok (.iconst 0, 1) := by decide +kernel
theorem dX12_softest_51 : decode cX12_softest 51 = .ok (.istore_n 3, 1) := by decide +kernel
theorem dX12_softest_52 : decode cX12_softest 52 = .ok (.iload_n 3, 1) := by decide +kernel
theorem dX12_softest_53 : decode cX12_softest 53 = .ok (.bipush 8, 2) := by decide +kernel
theorem dX12_softest_55 : decode cX12_softest 55 = .ok (.if_icmp .ge 113, 3) := by decide +kernel
theorem dX12_softest_58 : decode cX12_softest 58 = .ok (.iconst 0, 1) := by decide +kernel
theorem dX12_softest_59 : decode cX12_softest 59 = .ok (.istore 4, 2) := by decide +kernel
theorem dX12_softest_61 : decode cX12_softest 61 = .ok (.iload 4, 2) := by decide +kernel
theorem dX12_softest_63 : decode cX12_softest 63 = .ok (.bipush 8, 2) := by decide +kernel
theorem dX12_softest_65 : decode cX12_softest 65 = .ok (.if_icmp .ge 97, 3) := by decide +kernel
theorem dX12_softest_68 : decode cX12_softest 68 = .ok (.iconst 0, 1) := by decide +kernel
theorem dX12_softest_69 : decode cX12_softest 69 = .ok (.istore 5, 2) := by decide +kernel
theorem dX12_softest_71 : decode cX12_softest 71 = .ok (.iload 5, 2) := by decide +kernel
theorem dX12_softest_73 : decode cX12_softest 73 = .ok (.bipush 8, 2) := by decide +kernel
theorem dX12_softest_75 : decode cX12_softest 75 = .ok (.if_icmp .ge 81, 3) := by decide +kernel
theorem dX12_softest_78 : decode cX12_softest 78 = .ok (.aload_n 0, 1) := by decide +kernel
theorem dX12_softest_79 : decode cX12_softest 79 = .ok (.iload 4, 2) := by decide +kernel
theorem dX12_softest_81 : decode cX12_softest 81 = .ok (.iload 5, 2) := by decide +kernel
theorem dX12_softest_83 : decode cX12_softest 83 = .ok (.invokevirtual 99, 3) := by decide +kernel
theorem dX12_softest_86 : decode cX12_softest 86 = .ok (.istore 6, 2) := by decide +kernel
theorem dX12_softest_88 : decode cX12_softest 88 = .ok (.iload 6, 2) := by decide +kernel
theorem dX12_softest_90 : decode cX12_softest 90 = .ok (.aload_n 0, 1) := by decide +kernel
theorem dX12_softest_91 : decode cX12_softest 91 = .ok (.getfield 26, 3) := by decide +kernel
theorem dX12_softest_94 : decode cX12_softest 94 = .ok (.iload 4, 2) := by decide +kernel
theorem dX12_softest_96 : decode cX12_softest 96 = .ok (.iaload, 1) := by decide +kernel
theorem dX12_softest_97 : decode cX12_softest 97 = .ok (.if_icmp .le 8, 3) := by decide +kernel
theorem dX12_softest_100 : decode cX12_softest 100 = .ok (.iload 6, 2) := by decide +kernel
theorem dX12_softest_102 : decode cX12_softest 102 = .ok (.goto 10, 3) := by decide +kernel
theorem dX12_softest_105 : decode cX12_softest 105 = .ok (.aload_n 0, 1) := by decide +kernel
theorem dX12_softest_106 : decode cX12_softest 106 = .ok (.getfield 26, 3) := by decide +kernel
theorem dX12_softest_109 : decode cX12_softest 109 = .ok (.iload 4, 2) := by decide +kernel
theorem dX12_softest_111 : decode cX12_softest 111 = .ok (.iaload, 1) := by decide +kernel
theorem dX12_softest_112 : decode cX12_softest 112 = .ok (.istore 7, 2) := by decide +kernel
theorem dX12_softest_114 : decode cX12_softest 114 = .ok (.aload_n 0, 1) := by decide +kernel
theorem dX12_softest_115 : decode cX12_softest 115 = .ok (.getfield 26, 3) := by decide +kernel
theorem dX12_softest_118 : decode cX12_softest 118 = .ok (.iload 5, 2) := by decide +kernel
theorem dX12_softest_120 : decode cX12_softest 120 = .ok (.iload 6, 2) := by decide +kernel
theorem dX12_softest_122 : decode cX12_softest 122 = .ok (.ifCond .lt 20, 3) := by decide +kernel
theorem dX12_softest_125 : decode cX12_softest 125 = .ok (.iload 7, 2) := by decide +kernel
theorem dX12_softest_127 : decode cX12_softest 127 = .ok (.aload_n 0, 1) := by decide +kernel
theorem dX12_softest_128 : decode cX12_softest 128 = .ok (.getfield 26, 3) := by decide +kernel
theorem dX12_softest_131 : decode cX12_softest 131 = .ok (.iload 5, 2) := by decide +kernel
theorem dX12_softest_133 : decode cX12_softest 133 = .ok (.iaload, 1) := by decide +kernel
theorem dX12_softest_134 : decode cX12_softest 134 = .ok (.if_icmp .ge 8, 3) := by decide +kernel
theorem dX12_softest_137 : decode cX12_softest 137 = .ok (.iload 7, 2) := by decide +kernel
theorem dX12_softest_139 : decode cX12_softest 139 = .ok (.goto 10, 3) := by decide +kernel
theorem dX12_softest_142 : decode cX12_softest 142 = .ok (.aload_n 0, 1) := by decide +kernel
theorem dX12_softest_143 : decode cX12_softest 143 = .ok (.getfield 26, 3) := by decide +kernel
theorem dX12_softest_146 : decode cX12_softest 146 = .ok (.iload 5, 2) := by decide +kernel
theorem dX12_softest_148 : decode cX12_softest 148 = .ok (.iaload, 1) := by decide +kernel
theorem dX12_softest_149 : decode cX12_softest 149 = .ok (.iastore, 1) := by decide +kernel
theorem dX12_softest_150 : decode cX12_softest 150 = .ok (.iinc 5 1, 3) := by decide +kernel
theorem dX12_softest_153 : decode cX12_softest 153 = .ok (.goto (-82), 3) := by decide +kernel
theorem dX12_softest_156 : decode cX12_softest 156 = .ok (.iinc 4 1, 3) := by decide +kernel
theorem dX12_softest_159 : decode cX12_softest 159 = .ok (.goto (-98), 3) := by decide +kernel
theorem dX12_softest_162 : decode cX12_softest 162 = .ok (.iinc 3 1, 3) := by decide +kernel
theorem dX12_softest_165 : decode cX12_softest 165 = .ok (.goto (-113), 3) := by decide +kernel
theorem dX12_softest_168 : decode cX12_softest 168 = .ok (.aload_n 0, 1) := by decide +kernel
theorem dX12_softest_169 : decode cX12_softest 169 = .ok (.getfield 26, 3) := by decide +kernel
theorem dX12_softest_172 : decode cX12_softest 172 = .ok (.iload_n 2, 1) := by decide +kernel
theorem dX12_softest_173 : decode cX12_softest 173 = .ok (.iaload, 1) := by decide +kernel
theorem dX12_softest_174 : decode cX12_softest 174 = .ok (.bipush 99, 2) := by decide +kernel
theorem dX12_softest_176 : decode cX12_softest 176 = .ok (.if_icmp .ne 7, 3) := by decide +kernel
theorem dX12_softest_179 : decode cX12_softest 179 = .ok (.iconst (-1), 1) := by decide +kernel
theorem dX12_softest_180 : decode cX12_softest 180 = .ok (.goto 9, 3) := by decide +kernel
theorem dX12_softest_183 : decode cX12_softest 183 = .ok (.aload_n 0, 1) := by decide +kernel
theorem dX12_softest_184 : decode cX12_softest 184 = .ok (.getfield 26, 3) := by decide +kernel
theorem dX12_softest_187 : decode cX12_softest 187 = .ok (.iload_n 2, 1) := by decide +kernel
theorem dX12_softest_188 : decode cX12_softest 188 = .ok (.iaload, 1) := by decide +kernel
theorem dX12_softest_189 : decode cX12_softest 189 = .ok (.ireturn, 1) := by decide +kernel
theorem dX12_bothGo_0 : decode cX12_bothGo 0 = .ok (.iconst 0, 1) := by decide +kernel
theorem dX12_bothGo_1 : decode cX12_bothGo 1 = .ok (.istore_n 3, 1) := by decide +kernel
theorem dX12_bothGo_2 : decode cX12_bothGo 2 = .ok (.iload_n 3, 1) := by decide +kernel
theorem dX12_bothGo_3 : decode cX12_bothGo 3 = .ok (.bipush 8, 2) := by decide +kernel
theorem dX12_bothGo_5 : decode cX12_bothGo 5 = .ok (.if_icmp .ge 126, 3) := by decide +kernel
theorem dX12_bothGo_8 : decode cX12_bothGo 8 = .ok (.iconst 0, 1) := by decide +kernel
theorem dX12_bothGo_9 : decode cX12_bothGo 9 = .ok (.istore 4, 2) := by decide +kernel
theorem dX12_bothGo_11 : decode cX12_bothGo 11 = .ok (.iload 4, 2) := by decide +kernel
theorem dX12_bothGo_13 : decode cX12_bothGo 13 = .ok (.bipush 8, 2) := by decide +kernel
theorem dX12_bothGo_15 : decode cX12_bothGo 15 = .ok (.if_icmp .ge 110, 3) := by decide +kernel
theorem dX12_bothGo_18 : decode cX12_bothGo 18 = .ok (.iload_n 3, 1) := by decide +kernel
theorem dX12_bothGo_19 : decode cX12_bothGo 19 = .ok (.iload 4, 2) := by decide +kernel
theorem dX12_bothGo_21 : decode cX12_bothGo 21 = .ok (.if_icmp .ne 7, 3) := by decide +kernel
theorem dX12_bothGo_24 : decode cX12_bothGo 24 = .ok (.iload_n 3, 1) := by decide +kernel
theorem dX12_bothGo_25 : decode cX12_bothGo 25 = .ok (.ifCond .ne 7, 3) := by decide +kernel
theorem dX12_bothGo_28 : decode cX12_bothGo 28 = .ok (.iconst 1, 1) := by decide +kernel
theorem dX12_bothGo_29 : decode cX12_bothGo 29 = .ok (.goto 4, 3) := by decide +kernel
theorem dX12_bothGo_32 : decode cX12_bothGo 32 = .ok (.iconst 0, 1) := by decide +kernel
theorem dX12_bothGo_33 : decode cX12_bothGo 33 = .ok (.istore 5, 2) := by decide +kernel
theorem dX12_bothGo_35 : decode cX12_bothGo 35 = .ok (.iload_n 1, 1) := by decide +kernel
theorem dX12_bothGo_36 : decode cX12_bothGo 36 = .ok (.iload_n 3, 1) := by decide +kernel
theorem dX12_bothGo_37 : decode cX12_bothGo 37 = .ok (.if_icmp .eq 27, 3) := by decide +kernel
theorem dX12_bothGo_40 : decode cX12_bothGo 40 = .ok (.iload_n 2, 1) := by decide +kernel
theorem dX12_bothGo_41 : decode cX12_bothGo 41 = .ok (.iload 4, 2) := by decide +kernel
theorem dX12_bothGo_43 : decode cX12_bothGo 43 = .ok (.if_icmp .eq 21, 3) := by decide +kernel
theorem dX12_bothGo_46 : decode cX12_bothGo 46 = .ok (.iload_n 1, 1) := by decide +kernel
theorem dX12_bothGo_47 : decode cX12_bothGo 47 = .ok (.iload_n 3, 1) := by decide +kernel
theorem dX12_bothGo_48 : decode cX12_bothGo 48 = .ok (.invokestatic 85, 3) := by decide +kernel
theorem dX12_bothGo_51 : decode cX12_bothGo 51 = .ok (.iload_n 2, 1) := by decide +kernel
theorem dX12_bothGo_52 : decode cX12_bothGo 52 = .ok (.iload 4, 2) := by decide +kernel
theorem dX12_bothGo_54 : decode cX12_bothGo 54 = .ok (.invokestatic 85, 3) := by decide +kernel
theorem dX12_bothGo_57 : decode cX12_bothGo 57 = .ok (.if_icmp .ne 7, 3) := by decide +kernel
theorem dX12_bothGo_60 : decode cX12_bothGo 60 = .ok (.iconst 1, 1) := by decide +kernel
theorem dX12_bothGo_61 : decode cX12_bothGo 61 = .ok (.goto 4, 3) := by decide +kernel
theorem dX12_bothGo_64 : decode cX12_bothGo 64 = .ok (.iconst 0, 1) := by decide +kernel
theorem dX12_bothGo_65 : decode cX12_bothGo 65 = .ok (.istore 6, 2) := by decide +kernel
theorem dX12_bothGo_67 : decode cX12_bothGo 67 = .ok (.iload 5, 2) := by decide +kernel
theorem dX12_bothGo_69 : decode cX12_bothGo 69 = .ok (.ifCond .eq 50, 3) := by decide +kernel
theorem dX12_bothGo_72 : decode cX12_bothGo 72 = .ok (.iload 6, 2) := by decide +kernel
theorem dX12_bothGo_74 : decode cX12_bothGo 74 = .ok (.ifCond .ne 45, 3) := by decide +kernel
theorem dX12_bothGo_77 : decode cX12_bothGo 77 = .ok (.aload_n 0, 1) := by decide +kernel
theorem dX12_bothGo_78 : decode cX12_bothGo 78 = .ok (.getfield 32, 3) := by decide +kernel
theorem dX12_bothGo_81 : decode cX12_bothGo 81 = .ok (.bipush 8, 2) := by decide +kernel
theorem dX12_bothGo_83 : decode cX12_bothGo 83 = .ok (.iload_n 1, 1) := by decide +kernel
theorem dX12_bothGo_84 : decode cX12_bothGo 84 = .ok (.imul, 1) := by decide +kernel
theorem dX12_bothGo_85 : decode cX12_bothGo 85 = .ok (.iload_n 3, 1) := by decide +kernel
theorem dX12_bothGo_86 : decode cX12_bothGo 86 = .ok (.iadd, 1) := by decide +kernel
theorem dX12_bothGo_87 : decode cX12_bothGo 87 = .ok (.baload, 1) := by decide +kernel
theorem dX12_bothGo_88 : decode cX12_bothGo 88 = .ok (.ifCond .eq 31, 3) := by decide +kernel
theorem dX12_bothGo_91 : decode cX12_bothGo 91 = .ok (.aload_n 0, 1) := by decide +kernel
theorem dX12_bothGo_92 : decode cX12_bothGo 92 = .ok (.getfield 32, 3) := by decide +kernel
theorem dX12_bothGo_95 : decode cX12_bothGo 95 = .ok (.bipush 8, 2) := by decide +kernel
theorem dX12_bothGo_97 : decode cX12_bothGo 97 = .ok (.iload_n 2, 1) := by decide +kernel
theorem dX12_bothGo_98 : decode cX12_bothGo 98 = .ok (.imul, 1) := by decide +kernel
theorem dX12_bothGo_99 : decode cX12_bothGo 99 = .ok (.iload 4, 2) := by decide +kernel
theorem dX12_bothGo_101 : decode cX12_bothGo 101 = .ok (.iadd, 1) := by decide +kernel
theorem dX12_bothGo_102 : decode cX12_bothGo 102 = .ok (.baload, 1) := by decide +kernel
theorem dX12_bothGo_103 : decode cX12_bothGo 103 = .ok (.ifCond .eq 16, 3) := by decide +kernel
theorem dX12_bothGo_106 : decode cX12_bothGo 106 = .ok (.aload_n 0, 1) := by decide +kernel
theorem dX12_bothGo_107 : decode cX12_bothGo 107 = .ok (.getfield 42, 3) := by decide +kernel
theorem dX12_bothGo_110 : decode cX12_bothGo 110 = .ok (.bipush 8, 2) := by decide +kernel
theorem dX12_bothGo_112 : decode cX12_bothGo 112 = .ok (.iload_n 3, 1) := by decide +kernel
theorem dX12_bothGo_113 : decode cX12_bothGo 113 = .ok (.imul, 1) := by decide +kernel
theorem dX12_bothGo_114 : decode cX12_bothGo 114 = .ok (.iload 4, 2) := by decide +kernel
theorem dX12_bothGo_116 : decode cX12_bothGo 116 = .ok (.iadd, 1) := by decide +kernel
theorem dX12_bothGo_117 : decode cX12_bothGo 117 = .ok (.iconst 1, 1) := by decide +kernel
theorem dX12_bothGo_118 : decode cX12_bothGo 118 = .ok (.bastore, 1) := by decide +kernel
theorem dX12_bothGo_119 : decode cX12_bothGo 119 = .ok (.iinc 4 1, 3) := by decide +kernel
theorem dX12_bothGo_122 : decode cX12_bothGo 122 = .ok (.goto (-111), 3) := by decide +kernel
theorem dX12_bothGo_125 : decode cX12_bothGo 125 = .ok (.iinc 3 1, 3) := by decide +kernel
theorem dX12_bothGo_128 : decode cX12_bothGo 128 = .ok (.goto (-126), 3) := by decide +kernel
theorem dX12_bothGo_131 : decode cX12_bothGo 131 = .ok (.return_, 1) := by decide +kernel
theorem dX12_schedule_0 : decode cX12_schedule 0 = .ok (.iload_n 1, 1) := by decide +kernel
theorem dX12_schedule_1 : decode cX12_schedule 1 = .ok (.invokestatic 89, 3) := by decide +kernel
theorem dX12_schedule_4 : decode cX12_schedule 4 = .ok (.ifCond .eq 10, 3) := by decide +kernel
theorem dX12_schedule_7 : decode cX12_schedule 7 = .ok (.iload_n 2, 1) := by decide +kernel
theorem dX12_schedule_8 : decode cX12_schedule 8 = .ok (.invokestatic 89, 3) := by decide +kernel
theorem dX12_schedule_11 : decode cX12_schedule 11 = .ok (.ifCond .ne 8, 3) := by decide +kernel
theorem dX12_schedule_14 : decode cX12_schedule 14 = .ok (.aload_n 0, 1) := by decide +kernel
theorem dX12_schedule_15 : decode cX12_schedule 15 = .ok (.invokevirtual 95, 3) := by decide +kernel
theorem dX12_schedule_18 : decode cX12_schedule 18 = .ok (.ireturn, 1) := by decide +kernel
theorem dX12_schedule_19 : decode cX12_schedule 19 = .ok (.iconst 0, 1) := by decide +kernel
theorem dX12_schedule_20 : decode cX12_schedule 20 = .ok (.istore_n 3, 1) := by decide +kernel
theorem dX12_schedule_21 : decode cX12_schedule 21 = .ok (.iload_n 3, 1) := by decide +kernel
theorem dX12_schedule_22 : decode cX12_schedule 22 = .ok (.bipush 64, 2) := by decide +kernel
theorem dX12_schedule_24 : decode cX12_schedule 24 = .ok (.if_icmp .ge 24, 3) := by decide +kernel
theorem dX12_schedule_27 : decode cX12_schedule 27 = .ok (.aload_n 0, 1) := by decide +kernel
theorem dX12_schedule_28 : decode cX12_schedule 28 = .ok (.getfield 39, 3) := by decide +kernel
theorem dX12_schedule_31 : decode cX12_schedule 31 = .ok (.iload_n 3, 1) := by decide +kernel
theorem dX12_schedule_32 : decode cX12_schedule 32 = .ok (.iload_n 3, 1) := by decide +kernel
theorem dX12_schedule_33 : decode cX12_schedule 33 = .ok (.ifCond .ne 7, 3) := by decide +kernel
theorem dX12_schedule_36 : decode cX12_schedule 36 = .ok (.iconst 1, 1) := by decide +kernel
theorem dX12_schedule_37 : decode cX12_schedule 37 = .ok (.goto 4, 3) := by decide +kernel
theorem dX12_schedule_40 : decode cX12_schedule 40 = .ok (.iconst 0, 1) := by decide +kernel
theorem dX12_schedule_41 : decode cX12_schedule 41 = .ok (.bastore, 1) := by decide +kernel
theorem dX12_schedule_42 : decode cX12_schedule 42 = .ok (.iinc 3 1, 3) := by decide +kernel
theorem dX12_schedule_45 : decode cX12_schedule 45 = .ok (.goto (-24), 3) := by decide +kernel
theorem dX12_schedule_48 : decode cX12_schedule 48 = .ok (.iconst 0, 1) := by decide +kernel
theorem dX12_schedule_49 : decode cX12_schedule 49 = .ok (.istore_n 3, 1) := by decide +kernel
theorem dX12_schedule_50 : decode cX12_schedule 50 = .ok (.iload_n 3, 1) := by decide +kernel
theorem dX12_schedule_51 : decode cX12_schedule 51 = .ok (.bipush 20, 2) := by decide +kernel
theorem dX12_schedule_53 : decode cX12_schedule 53 = .ok (.if_icmp .ge 122, 3) := by decide +kernel
theorem dX12_schedule_56 : decode cX12_schedule 56 = .ok (.aload_n 0, 1) := by decide +kernel
theorem dX12_schedule_57 : decode cX12_schedule 57 = .ok (.getfield 39, 3) := by decide +kernel
theorem dX12_schedule_60 : decode cX12_schedule 60 = .ok (.bipush 8, 2) := by decide +kernel
theorem dX12_schedule_62 : decode cX12_schedule 62 = .ok (.iload_n 1, 1) := by decide +kernel
theorem dX12_schedule_63 : decode cX12_schedule 63 = .ok (.imul, 1) := by decide +kernel
theorem dX12_schedule_64 : decode cX12_schedule 64 = .ok (.iload_n 2, 1) := by decide +kernel
theorem dX12_schedule_65 : decode cX12_schedule 65 = .ok (.iadd, 1) := by decide +kernel
theorem dX12_schedule_66 : decode cX12_schedule 66 = .ok (.baload, 1) := by decide +kernel
theorem dX12_schedule_67 : decode cX12_schedule 67 = .ok (.ifCond .ne 108, 3) := by decide +kernel
theorem dX12_schedule_70 : decode cX12_schedule 70 = .ok (.aload_n 0, 1) := by decide +kernel
theorem dX12_schedule_71 : decode cX12_schedule 71 = .ok (.iload_n 3, 1) := by decide +kernel
theorem dX12_schedule_72 : decode cX12_schedule 72 = .ok (.invokevirtual 235, 3) := by decide +kernel
theorem dX12_schedule_75 : decode cX12_schedule 75 = .ok (.iconst 0, 1) := by decide +kernel
theorem dX12_schedule_76 : decode cX12_schedule 76 = .ok (.istore 4, 2) := by decide +kernel
theorem dX12_schedule_78 : decode cX12_schedule 78 = .ok (.iload 4, 2) := by decide +kernel
theorem dX12_schedule_80 : decode cX12_schedule 80 = .ok (.bipush 64, 2) := by decide +kernel
theorem dX12_schedule_82 : decode cX12_schedule 82 = .ok (.if_icmp .ge 17, 3) := by decide +kernel
theorem dX12_schedule_85 : decode cX12_schedule 85 = .ok (.aload_n 0, 1) := by decide +kernel
theorem dX12_schedule_86 : decode cX12_schedule 86 = .ok (.getfield 42, 3) := by decide +kernel
theorem dX12_schedule_89 : decode cX12_schedule 89 = .ok (.iload 4, 2) := by decide +kernel
theorem dX12_schedule_91 : decode cX12_schedule 91 = .ok (.iconst 0, 1) := by decide +kernel
theorem dX12_schedule_92 : decode cX12_schedule 92 = .ok (.bastore, 1) := by decide +kernel
theorem dX12_schedule_93 : decode cX12_schedule 93 = .ok (.iinc 4 1, 3) := by decide +kernel
theorem dX12_schedule_96 : decode cX12_schedule 96 = .ok (.goto (-18), 3) := by decide +kernel
theorem dX12_schedule_99 : decode cX12_schedule 99 = .ok (.iconst 0, 1) := by decide +kernel
theorem dX12_schedule_100 : decode cX12_schedule 100 = .ok (.istore 4, 2) := by decide +kernel
theorem dX12_schedule_102 : decode cX12_schedule 102 = .ok (.iload 4, 2) := by decide +kernel
theorem dX12_schedule_104 : decode cX12_schedule 104 = .ok (.bipush 64, 2) := by decide +kernel
theorem dX12_schedule_106 : decode cX12_schedule 106 = .ok (.if_icmp .ge 33, 3) := by decide +kernel
theorem dX12_schedule_109 : decode cX12_schedule 109 = .ok (.aload_n 0, 1) := by decide +kernel
theorem dX12_schedule_110 : decode cX12_schedule 110 = .ok (.getfield 39, 3) := by decide +kernel
theorem dX12_schedule_113 : decode cX12_schedule 113 = .ok (.iload 4, 2) := by decide +kernel
theorem dX12_schedule_115 : decode cX12_schedule 115 = .ok (.baload, 1) := by decide +kernel
theorem dX12_schedule_116 : decode cX12_schedule 116 = .ok (.ifCond .eq 17, 3) := by decide +kernel
theorem dX12_schedule_119 : decode cX12_schedule 119 = .ok (.aload_n 0, 1) := by decide +kernel
theorem dX12_schedule_120 : decode cX12_schedule 120 = .ok (.iload 4, 2) := by decide +kernel
theorem dX12_schedule_122 : decode cX12_schedule 122 = .ok (.bipush 8, 2) := by decide +kernel
theorem dX12_schedule_124 : decode cX12_schedule 124 = .ok (.idiv, 1) := by decide +kernel
theorem dX12_schedule_125 : decode cX12_schedule 125 = .ok (.iload 4, 2) := by decide +kernel
theorem dX12_schedule_127 : decode cX12_schedule 127 = .ok (.bipush 8, 2) := by decide +kernel
theorem dX12_schedule_129 : decode cX12_schedule 129 = .ok (.irem, 1) := by decide +kernel
theorem dX12_schedule_130 : decode cX12_schedule 130 = .ok (.invokevirtual 244, 3) := by decide +kernel
theorem dX12_schedule_133 : decode cX12_schedule 133 = .ok (.iinc 4 1, 3) := by decide +kernel
theorem dX12_schedule_136 : decode cX12_schedule 136 = .ok (.goto (-34), 3) := by decide +kernel
theorem dX12_schedule_139 : decode cX12_schedule 139 = .ok (.iconst 0, 1) := by decide +kernel
theorem dX12_schedule_140 : decode cX12_schedule 140 = .ok (.istore 4, 2) := by decide +kernel
theorem dX12_schedule_142 : decode cX12_schedule 142 = .ok (.iload 4, 2) := by decide +kernel
theorem dX12_schedule_144 : decode cX12_schedule 144 = .ok (.bipush 64, 2) := by decide +kernel
theorem dX12_schedule_146 : decode cX12_schedule 146 = .ok (.if_icmp .ge 23, 3) := by decide +kernel
theorem dX12_schedule_149 : decode cX12_schedule 149 = .ok (.aload_n 0, 1) := by decide +kernel
theorem dX12_schedule_150 : decode cX12_schedule 150 = .ok (.getfield 39, 3) := by decide +kernel
theorem dX12_schedule_153 : decode cX12_schedule 153 = .ok (.iload 4, 2) := by decide +kernel
theorem dX12_schedule_155 : decode cX12_schedule 155 = .ok (.aload_n 0, 1) := by decide +kernel
theorem dX12_schedule_156 : decode cX12_schedule 156 = .ok (.getfield 42, 3) := by decide +kernel
theorem dX12_schedule_159 : decode cX12_schedule 159 = .ok (.iload 4, 2) := by decide +kernel
theorem dX12_schedule_161 : decode cX12_schedule 161 = .ok (.baload, 1) := by decide +kernel
theorem dX12_schedule_162 : decode cX12_schedule 162 = .ok (.bastore, 1) := by decide +kernel
theorem dX12_schedule_163 : decode cX12_schedule 163 = .ok (.iinc 4 1, 3) := by decide +kernel
theorem dX12_schedule_166 : decode cX12_schedule 166 = .ok (.goto (-24), 3) := by decide +kernel
theorem dX12_schedule_169 : decode cX12_schedule 169 = .ok (.iinc 3 1, 3) := by decide +kernel
theorem dX12_schedule_172 : decode cX12_schedule 172 = .ok (.goto (-122), 3) := by decide +kernel
theorem dX12_schedule_175 : decode cX12_schedule 175 = .ok (.aload_n 0, 1) := by decide +kernel
theorem dX12_schedule_176 : decode cX12_schedule 176 = .ok (.getfield 39, 3) := by decide +kernel
theorem dX12_schedule_179 : decode cX12_schedule 179 = .ok (.bipush 8, 2) := by decide +kernel
theorem dX12_schedule_181 : decode cX12_schedule 181 = .ok (.iload_n 1, 1) := by decide +kernel
theorem dX12_schedule_182 : decode cX12_schedule 182 = .ok (.imul, 1) := by decide +kernel
theorem dX12_schedule_183 : decode cX12_schedule 183 = .ok (.iload_n 2, 1) := by decide +kernel
theorem dX12_schedule_184 : decode cX12_schedule 184 = .ok (.iadd, 1) := by decide +kernel
theorem dX12_schedule_185 : decode cX12_schedule 185 = .ok (.baload, 1) := by decide +kernel
theorem dX12_schedule_186 : decode cX12_schedule 186 = .ok (.ifCond .eq 7, 3) := by decide +kernel
theorem dX12_schedule_189 : decode cX12_schedule 189 = .ok (.iload_n 3, 1) := by decide +kernel
theorem dX12_schedule_190 : decode cX12_schedule 190 = .ok (.goto 4, 3) := by decide +kernel
theorem dX12_schedule_193 : decode cX12_schedule 193 = .ok (.iconst (-1), 1) := by decide +kernel
theorem dX12_schedule_194 : decode cX12_schedule 194 = .ok (.ireturn, 1) := by decide +kernel
theorem dX12_owed_0 : decode cX12_owed 0 = .ok (.iload_n 1, 1) := by decide +kernel
theorem dX12_owed_1 : decode cX12_owed 1 = .ok (.i2l, 1) := by decide +kernel
theorem dX12_owed_2 : decode cX12_owed 2 = .ok (.lconst 0, 1) := by decide +kernel
theorem dX12_owed_3 : decode cX12_owed 3 = .ok (.ldc2_w 118, 3) := by decide +kernel
theorem dX12_owed_6 : decode cX12_owed 6 = .ok (.invokestatic 75, 3) := by decide +kernel
theorem dX12_owed_9 : decode cX12_owed 9 = .ok (.ifCond .ne 8, 3) := by decide +kernel
theorem dX12_owed_12 : decode cX12_owed 12 = .ok (.aload_n 0, 1) := by decide +kernel
theorem dX12_owed_13 : decode cX12_owed 13 = .ok (.invokevirtual 95, 3) := by decide +kernel
theorem dX12_owed_16 : decode cX12_owed 16 = .ok (.ireturn, 1) := by decide +kernel
theorem dX12_owed_17 : decode cX12_owed 17 = .ok (.iconst 0, 1) := by decide +kernel
theorem dX12_owed_18 : decode cX12_owed 18 = .ok (.istore_n 2, 1) := by decide +kernel
theorem dX12_owed_19 : decode cX12_owed 19 = .ok (.iconst 0, 1) := by decide +kernel
theorem dX12_owed_20 : decode cX12_owed 20 = .ok (.istore_n 3, 1) := by decide +kernel
theorem dX12_owed_21 : decode cX12_owed 21 = .ok (.iload_n 3, 1) := by decide +kernel
theorem dX12_owed_22 : decode cX12_owed 22 = .ok (.aload_n 0, 1) := by decide +kernel
theorem dX12_owed_23 : decode cX12_owed 23 = .ok (.getfield 7, 3) := by decide +kernel
theorem dX12_owed_26 : decode cX12_owed 26 = .ok (.bipush 21, 2) := by decide +kernel
theorem dX12_owed_28 : decode cX12_owed 28 = .ok (.iaload, 1) := by decide +kernel
theorem dX12_owed_29 : decode cX12_owed 29 = .ok (.if_icmp .ge 62, 3) := by decide +kernel
theorem dX12_owed_32 : decode cX12_owed 32 = .ok (.iconst 0, 1) := by decide +kernel
theorem dX12_owed_33 : decode cX12_owed 33 = .ok (.istore 4, 2) := by decide +kernel
theorem dX12_owed_35 : decode cX12_owed 35 = .ok (.iload 4, 2) := by decide +kernel
theorem dX12_owed_37 : decode cX12_owed 37 = .ok (.iconst 1, 1) := by decide +kernel
theorem dX12_owed_38 : decode cX12_owed 38 = .ok (.iadd, 1) := by decide +kernel
theorem dX12_owed_39 : decode cX12_owed 39 = .ok (.aload_n 0, 1) := by decide +kernel
theorem dX12_owed_40 : decode cX12_owed 40 = .ok (.getfield 7, 3) := by decide +kernel
theorem dX12_owed_43 : decode cX12_owed 43 = .ok (.bipush 27, 2) := by decide +kernel
theorem dX12_owed_45 : decode cX12_owed 45 = .ok (.iload_n 3, 1) := by decide +kernel
theorem dX12_owed_46 : decode cX12_owed 46 = .ok (.iadd, 1) := by decide +kernel
theorem dX12_owed_47 : decode cX12_owed 47 = .ok (.iaload, 1) := by decide +kernel
theorem dX12_owed_48 : decode cX12_owed 48 = .ok (.if_icmp .ge 37, 3) := by decide +kernel
theorem dX12_owed_51 : decode cX12_owed 51 = .ok (.iload_n 2, 1) := by decide +kernel
theorem dX12_owed_52 : decode cX12_owed 52 = .ok (.aload_n 0, 1) := by decide +kernel
theorem dX12_owed_53 : decode cX12_owed 53 = .ok (.getfield 7, 3) := by decide +kernel
theorem dX12_owed_56 : decode cX12_owed 56 = .ok (.bipush 32, 2) := by decide +kernel
theorem dX12_owed_58 : decode cX12_owed 58 = .ok (.iconst 4, 1) := by decide +kernel
theorem dX12_owed_59 : decode cX12_owed 59 = .ok (.iload_n 3, 1) := by decide +kernel
theorem dX12_owed_60 : decode cX12_owed 60 = .ok (.imul, 1) := by decide +kernel
theorem dX12_owed_61 : decode cX12_owed 61 = .ok (.iadd, 1) := by decide +kernel
theorem dX12_owed_62 : decode cX12_owed 62 = .ok (.iload 4, 2) := by decide +kernel
theorem dX12_owed_64 : decode cX12_owed 64 = .ok (.iadd, 1) := by decide +kernel
theorem dX12_owed_65 : decode cX12_owed 65 = .ok (.iaload, 1) := by decide +kernel
theorem dX12_owed_66 : decode cX12_owed 66 = .ok (.iload_n 1, 1) := by decide +kernel
theorem dX12_owed_67 : decode cX12_owed 67 = .ok (.if_icmp .ne 9, 3) := by decide +kernel
theorem dX12_owed_70 : decode cX12_owed 70 = .ok (.iconst 1, 1) := by decide +kernel
theorem dX12_owed_71 : decode cX12_owed 71 = .ok (.iload_n 3, 1) := by decide +kernel
theorem dX12_owed_72 : decode cX12_owed 72 = .ok (.ishl, 1) := by decide +kernel
theorem dX12_owed_73 : decode cX12_owed 73 = .ok (.goto 4, 3) := by decide +kernel
theorem dX12_owed_76 : decode cX12_owed 76 = .ok (.iconst 0, 1) := by decide +kernel
theorem dX12_owed_77 : decode cX12_owed 77 = .ok (.ior, 1) := by decide +kernel
theorem dX12_owed_78 : decode cX12_owed 78 = .ok (.istore_n 2, 1) := by decide +kernel
theorem dX12_owed_79 : decode cX12_owed 79 = .ok (.iinc 4 1, 3) := by decide +kernel
theorem dX12_owed_82 : decode cX12_owed 82 = .ok (.goto (-47), 3) := by decide +kernel
theorem dX12_owed_85 : decode cX12_owed 85 = .ok (.iinc 3 1, 3) := by decide +kernel
theorem dX12_owed_88 : decode cX12_owed 88 = .ok (.goto (-67), 3) := by decide +kernel
theorem dX12_owed_91 : decode cX12_owed 91 = .ok (.iload_n 2, 1) := by decide +kernel
theorem dX12_owed_92 : decode cX12_owed 92 = .ok (.ireturn, 1) := by decide +kernel
theorem dX12_took_0 : decode cX12_took 0 = .ok (.aload_n 0, 1) := by decide +kernel
theorem dX12_took_1 : decode cX12_took 1 = .ok (.iload_n 1, 1) := by decide +kernel
theorem dX12_took_2 : decode cX12_took 2 = .ok (.invokevirtual 115, 3) := by decide +kernel
theorem dX12_took_5 : decode cX12_took 5 = .ok (.ifCond .eq 11, 3) := by decide +kernel
theorem dX12_took_8 : decode cX12_took 8 = .ok (.aload_n 0, 1) := by decide +kernel
theorem dX12_took_9 : decode cX12_took 9 = .ok (.iload_n 1, 1) := by decide +kernel
theorem dX12_took_10 : decode cX12_took 10 = .ok (.invokevirtual 120, 3) := by decide +kernel
theorem dX12_took_13 : decode cX12_took 13 = .ok (.goto 7, 3) := by decide +kernel
theorem dX12_took_16 : decode cX12_took 16 = .ok (.aload_n 0, 1) := by decide +kernel
theorem dX12_took_17 : decode cX12_took 17 = .ok (.invokevirtual 95, 3) := by decide +kernel
theorem dX12_took_20 : decode cX12_took 20 = .ok (.ireturn, 1) := by decide +kernel
theorem dX12_canNot_0 : decode cX12_canNot 0 = .ok (.iconst 0, 1) := by decide +kernel
theorem dX12_canNot_1 : decode cX12_canNot 1 = .ok (.istore_n 1, 1) := by decide +kernel
theorem dX12_canNot_2 : decode cX12_canNot 2 = .ok (.iconst 0, 1) := by decide +kernel
theorem dX12_canNot_3 : decode cX12_canNot 3 = .ok (.istore_n 2, 1) := by decide +kernel
theorem dX12_canNot_4 : decode cX12_canNot 4 = .ok (.iload_n 2, 1) := by decide +kernel
theorem dX12_canNot_5 : decode cX12_canNot 5 = .ok (.aload_n 0, 1) := by decide +kernel
theorem dX12_canNot_6 : decode cX12_canNot 6 = .ok (.getfield 7, 3) := by decide +kernel
theorem dX12_canNot_9 : decode cX12_canNot 9 = .ok (.bipush 21, 2) := by decide +kernel
theorem dX12_canNot_11 : decode cX12_canNot 11 = .ok (.iaload, 1) := by decide +kernel
theorem dX12_canNot_12 : decode cX12_canNot 12 = .ok (.if_icmp .ge 44, 3) := by decide +kernel
theorem dX12_canNot_15 : decode cX12_canNot 15 = .ok (.aload_n 0, 1) := by decide +kernel
theorem dX12_canNot_16 : decode cX12_canNot 16 = .ok (.aload_n 0, 1) := by decide +kernel
theorem dX12_canNot_17 : decode cX12_canNot 17 = .ok (.getfield 7, 3) := by decide +kernel
theorem dX12_canNot_20 : decode cX12_canNot 20 = .ok (.bipush 22, 2) := by decide +kernel
theorem dX12_canNot_22 : decode cX12_canNot 22 = .ok (.iload_n 2, 1) := by decide +kernel
theorem dX12_canNot_23 : decode cX12_canNot 23 = .ok (.iadd, 1) := by decide +kernel
theorem dX12_canNot_24 : decode cX12_canNot 24 = .ok (.iaload, 1) := by decide +kernel
theorem dX12_canNot_25 : decode cX12_canNot 25 = .ok (.iconst 0, 1) := by decide +kernel
theorem dX12_canNot_26 : decode cX12_canNot 26 = .ok (.invokevirtual 241, 3) := by decide +kernel
theorem dX12_canNot_29 : decode cX12_canNot 29 = .ok (.iload_n 1, 1) := by decide +kernel
theorem dX12_canNot_30 : decode cX12_canNot 30 = .ok (.aload_n 0, 1) := by decide +kernel
theorem dX12_canNot_31 : decode cX12_canNot 31 = .ok (.getfield 36, 3) := by decide +kernel
theorem dX12_canNot_34 : decode cX12_canNot 34 = .ok (.iconst 0, 1) := by decide +kernel
theorem dX12_canNot_35 : decode cX12_canNot 35 = .ok (.iaload, 1) := by decide +kernel
theorem dX12_canNot_36 : decode cX12_canNot 36 = .ok (.bipush 99, 2) := by decide +kernel
theorem dX12_canNot_38 : decode cX12_canNot 38 = .ok (.if_icmp .lt 9, 3) := by decide +kernel
theorem dX12_canNot_41 : decode cX12_canNot 41 = .ok (.iconst 1, 1) := by decide +kernel
theorem dX12_canNot_42 : decode cX12_canNot 42 = .ok (.iload_n 2, 1) := by decide +kernel
theorem dX12_canNot_43 : decode cX12_canNot 43 = .ok (.ishl, 1) := by decide +kernel
theorem dX12_canNot_44 : decode cX12_canNot 44 = .ok (.goto 4, 3) := by decide +kernel
theorem dX12_canNot_47 : decode cX12_canNot 47 = .ok (.iconst 0, 1) := by decide +kernel
theorem dX12_canNot_48 : decode cX12_canNot 48 = .ok (.ior, 1) := by decide +kernel
theorem dX12_canNot_49 : decode cX12_canNot 49 = .ok (.istore_n 1, 1) := by decide +kernel
theorem dX12_canNot_50 : decode cX12_canNot 50 = .ok (.iinc 2 1, 3) := by decide +kernel
theorem dX12_canNot_53 : decode cX12_canNot 53 = .ok (.goto (-49), 3) := by decide +kernel
theorem dX12_canNot_56 : decode cX12_canNot 56 = .ok (.iload_n 1, 1) := by decide +kernel
theorem dX12_canNot_57 : decode cX12_canNot 57 = .ok (.ireturn, 1) := by decide +kernel
theorem dX12_heard_0 : decode cX12_heard 0 = .ok (.aload_n 0, 1) := by decide +kernel
theorem dX12_heard_1 : decode cX12_heard 1 = .ok (.iload_n 1, 1) := by decide +kernel
theorem dX12_heard_2 : decode cX12_heard 2 = .ok (.invokevirtual 226, 3) := by decide +kernel
theorem dX12_heard_5 : decode cX12_heard 5 = .ok (.ifCond .eq 22, 3) := by decide +kernel
theorem dX12_heard_8 : decode cX12_heard 8 = .ok (.iload_n 2, 1) := by decide +kernel
theorem dX12_heard_9 : decode cX12_heard 9 = .ok (.i2l, 1) := by decide +kernel
theorem dX12_heard_10 : decode cX12_heard 10 = .ok (.lconst 0, 1) := by decide +kernel
theorem dX12_heard_11 : decode cX12_heard 11 = .ok (.ldc2_w 247, 3) := by decide +kernel
theorem dX12_heard_14 : decode cX12_heard 14 = .ok (.invokestatic 75, 3) := by decide +kernel
theorem dX12_heard_17 : decode cX12_heard 17 = .ok (.ifCond .eq 10, 3) := by decide +kernel
theorem dX12_heard_20 : decode cX12_heard 20 = .ok (.iload_n 3, 1) := by decide +kernel
theorem dX12_heard_21 : decode cX12_heard 21 = .ok (.invokestatic 238, 3) := by decide +kernel
theorem dX12_heard_24 : decode cX12_heard 24 = .ok (.ifCond .ne 8, 3) := by decide +kernel
theorem dX12_heard_27 : decode cX12_heard 27 = .ok (.aload_n 0, 1) := by decide +kernel
theorem dX12_heard_28 : decode cX12_heard 28 = .ok (.invokevirtual 95, 3) := by decide +kernel
theorem dX12_heard_31 : decode cX12_heard 31 = .ok (.ireturn, 1) := by decide +kernel
theorem dX12_heard_32 : decode cX12_heard 32 = .ok (.aload_n 0, 1) := by decide +kernel
theorem dX12_heard_33 : decode cX12_heard 33 = .ok (.getfield 7, 3) := by decide +kernel
theorem dX12_heard_36 : decode cX12_heard 36 = .ok (.bipush 52, 2) := by decide +kernel
theorem dX12_heard_38 : decode cX12_heard 38 = .ok (.iaload, 1) := by decide +kernel
theorem dX12_heard_39 : decode cX12_heard 39 = .ok (.bipush 6, 2) := by decide +kernel
theorem dX12_heard_41 : decode cX12_heard 41 = .ok (.if_icmp .ne 8, 3) := by decide +kernel
theorem dX12_heard_44 : decode cX12_heard 44 = .ok (.aload_n 0, 1) := by decide +kernel
theorem dX12_heard_45 : decode cX12_heard 45 = .ok (.invokevirtual 104, 3) := by decide +kernel
theorem dX12_heard_48 : decode cX12_heard 48 = .ok (.ireturn, 1) := by decide +kernel
theorem dX12_heard_49 : decode cX12_heard 49 = .ok (.bipush 53, 2) := by decide +kernel
theorem dX12_heard_51 : decode cX12_heard 51 = .ok (.iconst 3, 1) := by decide +kernel
theorem dX12_heard_52 : decode cX12_heard 52 = .ok (.aload_n 0, 1) := by decide +kernel
theorem dX12_heard_53 : decode cX12_heard 53 = .ok (.getfield 7, 3) := by decide +kernel
theorem dX12_heard_56 : decode cX12_heard 56 = .ok (.bipush 52, 2) := by decide +kernel
theorem dX12_heard_58 : decode cX12_heard 58 = .ok (.iaload, 1) := by decide +kernel
theorem dX12_heard_59 : decode cX12_heard 59 = .ok (.imul, 1) := by decide +kernel
theorem dX12_heard_60 : decode cX12_heard 60 = .ok (.iadd, 1) := by decide +kernel
theorem dX12_heard_61 : decode cX12_heard 61 = .ok (.istore 4, 2) := by decide +kernel
theorem dX12_heard_63 : decode cX12_heard 63 = .ok (.aload_n 0, 1) := by decide +kernel
theorem dX12_heard_64 : decode cX12_heard 64 = .ok (.getfield 7, 3) := by decide +kernel
theorem dX12_heard_67 : decode cX12_heard 67 = .ok (.iload 4, 2) := by decide +kernel
theorem dX12_heard_69 : decode cX12_heard 69 = .ok (.iload_n 1, 1) := by decide +kernel
theorem dX12_heard_70 : decode cX12_heard 70 = .ok (.iastore, 1) := by decide +kernel
theorem dX12_heard_71 : decode cX12_heard 71 = .ok (.aload_n 0, 1) := by decide +kernel
theorem dX12_heard_72 : decode cX12_heard 72 = .ok (.getfield 7, 3) := by decide +kernel
theorem dX12_heard_75 : decode cX12_heard 75 = .ok (.iload 4, 2) := by decide +kernel
theorem dX12_heard_77 : decode cX12_heard 77 = .ok (.iconst 1, 1) := by decide +kernel
theorem dX12_heard_78 : decode cX12_heard 78 = .ok (.iadd, 1) := by decide +kernel
theorem dX12_heard_79 : decode cX12_heard 79 = .ok (.iload_n 2, 1) := by decide +kernel
theorem dX12_heard_80 : decode cX12_heard 80 = .ok (.iastore, 1) := by decide +kernel
theorem dX12_heard_81 : decode cX12_heard 81 = .ok (.aload_n 0, 1) := by decide +kernel
theorem dX12_heard_82 : decode cX12_heard 82 = .ok (.getfield 7, 3) := by decide +kernel
theorem dX12_heard_85 : decode cX12_heard 85 = .ok (.iload 4, 2) := by decide +kernel
theorem dX12_heard_87 : decode cX12_heard 87 = .ok (.iconst 2, 1) := by decide +kernel
theorem dX12_heard_88 : decode cX12_heard 88 = .ok (.iadd, 1) := by decide +kernel
theorem dX12_heard_89 : decode cX12_heard 89 = .ok (.iload_n 3, 1) := by decide +kernel
theorem dX12_heard_90 : decode cX12_heard 90 = .ok (.iastore, 1) := by decide +kernel
theorem dX12_heard_91 : decode cX12_heard 91 = .ok (.aload_n 0, 1) := by decide +kernel
theorem dX12_heard_92 : decode cX12_heard 92 = .ok (.getfield 7, 3) := by decide +kernel
theorem dX12_heard_95 : decode cX12_heard 95 = .ok (.bipush 52, 2) := by decide +kernel
theorem dX12_heard_97 : decode cX12_heard 97 = .ok (.dup2, 1) := by decide +kernel
theorem dX12_heard_98 : decode cX12_heard 98 = .ok (.iaload, 1) := by decide +kernel
theorem dX12_heard_99 : decode cX12_heard 99 = .ok (.iconst 1, 1) := by decide +kernel
theorem dX12_heard_100 : decode cX12_heard 100 = .ok (.iadd, 1) := by decide +kernel
theorem dX12_heard_101 : decode cX12_heard 101 = .ok (.iastore, 1) := by decide +kernel
theorem dX12_heard_102 : decode cX12_heard 102 = .ok (.aload_n 0, 1) := by decide +kernel
theorem dX12_heard_103 : decode cX12_heard 103 = .ok (.getfield 7, 3) := by decide +kernel
theorem dX12_heard_106 : decode cX12_heard 106 = .ok (.bipush 52, 2) := by decide +kernel
theorem dX12_heard_108 : decode cX12_heard 108 = .ok (.iaload, 1) := by decide +kernel
theorem dX12_heard_109 : decode cX12_heard 109 = .ok (.ireturn, 1) := by decide +kernel
theorem dX12_forget_0 : decode cX12_forget 0 = .ok (.aload_n 0, 1) := by decide +kernel
theorem dX12_forget_1 : decode cX12_forget 1 = .ok (.getfield 7, 3) := by decide +kernel
theorem dX12_forget_4 : decode cX12_forget 4 = .ok (.bipush 52, 2) := by decide +kernel
theorem dX12_forget_6 : decode cX12_forget 6 = .ok (.iaload, 1) := by decide +kernel
theorem dX12_forget_7 : decode cX12_forget 7 = .ok (.istore_n 1, 1) := by decide +kernel
theorem dX12_forget_8 : decode cX12_forget 8 = .ok (.aload_n 0, 1) := by decide +kernel
theorem dX12_forget_9 : decode cX12_forget 9 = .ok (.getfield 7, 3) := by decide +kernel
theorem dX12_forget_12 : decode cX12_forget 12 = .ok (.bipush 52, 2) := by decide +kernel
theorem dX12_forget_14 : decode cX12_forget 14 = .ok (.iconst 0, 1) := by decide +kernel
theorem dX12_forget_15 : decode cX12_forget 15 = .ok (.iastore, 1) := by decide +kernel
theorem dX12_forget_16 : decode cX12_forget 16 = .ok (.iload_n 1, 1) := by decide +kernel
theorem dX12_forget_17 : decode cX12_forget 17 = .ok (.ireturn, 1) := by decide +kernel
theorem dX12_heardBy_0 : decode cX12_heardBy 0 = .ok (.iload_n 1, 1) := by decide +kernel
theorem dX12_heardBy_1 : decode cX12_heardBy 1 = .ok (.iload_n 2, 1) := by decide +kernel
theorem dX12_heardBy_2 : decode cX12_heardBy 2 = .ok (.if_icmp .ne 7, 3) := by decide +kernel
theorem dX12_heardBy_5 : decode cX12_heardBy 5 = .ok (.iconst 0, 1) := by decide +kernel
theorem dX12_heardBy_6 : decode cX12_heardBy 6 = .ok (.goto 15, 3) := by decide +kernel
theorem dX12_heardBy_9 : decode cX12_heardBy 9 = .ok (.aload_n 0, 1) := by decide +kernel
theorem dX12_heardBy_10 : decode cX12_heardBy 10 = .ok (.aload_n 0, 1) := by decide +kernel
theorem dX12_heardBy_11 : decode cX12_heardBy 11 = .ok (.iload_n 1, 1) := by decide +kernel
theorem dX12_heardBy_12 : decode cX12_heardBy 12 = .ok (.iload_n 2, 1) := by decide +kernel
theorem dX12_heardBy_13 : decode cX12_heardBy 13 = .ok (.invokevirtual 99, 3) := by decide +kernel
theorem dX12_heardBy_16 : decode cX12_heardBy 16 = .ok (.iload_n 2, 1) := by decide +kernel
theorem dX12_heardBy_17 : decode cX12_heardBy 17 = .ok (.iload_n 3, 1) := by decide +kernel
theorem dX12_heardBy_18 : decode cX12_heardBy 18 = .ok (.invokevirtual 211, 3) := by decide +kernel
theorem dX12_heardBy_21 : decode cX12_heardBy 21 = .ok (.ireturn, 1) := by decide +kernel
theorem dX12_canBe_0 : decode cX12_canBe 0 = .ok (.iload_n 1, 1) := by decide +kernel
theorem dX12_canBe_1 : decode cX12_canBe 1 = .ok (.iload_n 2, 1) := by decide +kernel
theorem dX12_canBe_2 : decode cX12_canBe 2 = .ok (.if_icmp .eq 14, 3) := by decide +kernel
theorem dX12_canBe_5 : decode cX12_canBe 5 = .ok (.aload_n 0, 1) := by decide +kernel
theorem dX12_canBe_6 : decode cX12_canBe 6 = .ok (.iload_n 1, 1) := by decide +kernel
theorem dX12_canBe_7 : decode cX12_canBe 7 = .ok (.iload_n 2, 1) := by decide +kernel
theorem dX12_canBe_8 : decode cX12_canBe 8 = .ok (.invokevirtual 99, 3) := by decide +kernel
theorem dX12_canBe_11 : decode cX12_canBe 11 = .ok (.ifCond .ge 5, 3) := by decide +kernel
theorem dX12_canBe_14 : decode cX12_canBe 14 = .ok (.iconst 0, 1) := by decide +kernel
theorem dX12_canBe_15 : decode cX12_canBe 15 = .ok (.ireturn, 1) := by decide +kernel
theorem dX12_canBe_16 : decode cX12_canBe 16 = .ok (.aload_n 0, 1) := by decide +kernel
theorem dX12_canBe_17 : decode cX12_canBe 17 = .ok (.iload_n 1, 1) := by decide +kernel
theorem dX12_canBe_18 : decode cX12_canBe 18 = .ok (.iload_n 2, 1) := by decide +kernel
theorem dX12_canBe_19 : decode cX12_canBe 19 = .ok (.iload_n 3, 1) := by decide +kernel
theorem dX12_canBe_20 : decode cX12_canBe 20 = .ok (.invokevirtual 249, 3) := by decide +kernel
theorem dX12_canBe_23 : decode cX12_canBe 23 = .ok (.istore 4, 2) := by decide +kernel
theorem dX12_canBe_25 : decode cX12_canBe 25 = .ok (.iconst 1, 1) := by decide +kernel
theorem dX12_canBe_26 : decode cX12_canBe 26 = .ok (.istore 5, 2) := by decide +kernel
theorem dX12_canBe_28 : decode cX12_canBe 28 = .ok (.iconst 0, 1) := by decide +kernel
theorem dX12_canBe_29 : decode cX12_canBe 29 = .ok (.istore 6, 2) := by decide +kernel
theorem dX12_canBe_31 : decode cX12_canBe 31 = .ok (.iload 6, 2) := by decide +kernel
theorem dX12_canBe_33 : decode cX12_canBe 33 = .ok (.aload_n 0, 1) := by decide +kernel
theorem dX12_canBe_34 : decode cX12_canBe 34 = .ok (.getfield 7, 3) := by decide +kernel
theorem dX12_canBe_37 : decode cX12_canBe 37 = .ok (.bipush 52, 2) := by decide +kernel
theorem dX12_canBe_39 : decode cX12_canBe 39 = .ok (.iaload, 1) := by decide +kernel
theorem dX12_canBe_40 : decode cX12_canBe 40 = .ok (.if_icmp .ge 67, 3) := by decide +kernel
theorem dX12_canBe_43 : decode cX12_canBe 43 = .ok (.bipush 53, 2) := by decide +kernel
theorem dX12_canBe_45 : decode cX12_canBe 45 = .ok (.iconst 3, 1) := by decide +kernel
theorem dX12_canBe_46 : decode cX12_canBe 46 = .ok (.iload 6, 2) := by decide +kernel
theorem dX12_canBe_48 : decode cX12_canBe 48 = .ok (.imul, 1) := by decide +kernel
theorem dX12_canBe_49 : decode cX12_canBe 49 = .ok (.iadd, 1) := by decide +kernel
theorem dX12_canBe_50 : decode cX12_canBe 50 = .ok (.istore 7, 2) := by decide +kernel
theorem dX12_canBe_52 : decode cX12_canBe 52 = .ok (.iload 5, 2) := by decide +kernel
theorem dX12_canBe_54 : decode cX12_canBe 54 = .ok (.ifCond .eq 44, 3) := by decide +kernel
theorem dX12_canBe_57 : decode cX12_canBe 57 = .ok (.aload_n 0, 1) := by decide +kernel
theorem dX12_canBe_58 : decode cX12_canBe 58 = .ok (.getfield 7, 3) := by decide +kernel
theorem dX12_canBe_61 : decode cX12_canBe 61 = .ok (.iload 7, 2) := by decide +kernel
theorem dX12_canBe_63 : decode cX12_canBe 63 = .ok (.iconst 1, 1) := by decide +kernel
theorem dX12_canBe_64 : decode cX12_canBe 64 = .ok (.iadd, 1) := by decide +kernel
theorem dX12_canBe_65 : decode cX12_canBe 65 = .ok (.iaload, 1) := by decide +kernel
theorem dX12_canBe_66 : decode cX12_canBe 66 = .ok (.iload_n 3, 1) := by decide +kernel
theorem dX12_canBe_67 : decode cX12_canBe 67 = .ok (.if_icmp .ne 27, 3) := by decide +kernel
theorem dX12_canBe_70 : decode cX12_canBe 70 = .ok (.iload 4, 2) := by decide +kernel
theorem dX12_canBe_72 : decode cX12_canBe 72 = .ok (.aload_n 0, 1) := by decide +kernel
theorem dX12_canBe_73 : decode cX12_canBe 73 = .ok (.getfield 7, 3) := by decide +kernel
theorem dX12_canBe_76 : decode cX12_canBe 76 = .ok (.iload 7, 2) := by decide +kernel
theorem dX12_canBe_78 : decode cX12_canBe 78 = .ok (.iaload, 1) := by decide +kernel
theorem dX12_canBe_79 : decode cX12_canBe 79 = .ok (.ishr, 1) := by decide +kernel
theorem dX12_canBe_80 : decode cX12_canBe 80 = .ok (.iconst 1, 1) := by decide +kernel
theorem dX12_canBe_81 : decode cX12_canBe 81 = .ok (.iand, 1) := by decide +kernel
theorem dX12_canBe_82 : decode cX12_canBe 82 = .ok (.aload_n 0, 1) := by decide +kernel
theorem dX12_canBe_83 : decode cX12_canBe 83 = .ok (.getfield 7, 3) := by decide +kernel
theorem dX12_canBe_86 : decode cX12_canBe 86 = .ok (.iload 7, 2) := by decide +kernel
theorem dX12_canBe_88 : decode cX12_canBe 88 = .ok (.iconst 2, 1) := by decide +kernel
theorem dX12_canBe_89 : decode cX12_canBe 89 = .ok (.iadd, 1) := by decide +kernel
theorem dX12_canBe_90 : decode cX12_canBe 90 = .ok (.iaload, 1) := by decide +kernel
theorem dX12_canBe_91 : decode cX12_canBe 91 = .ok (.if_icmp .ne 7, 3) := by decide +kernel
theorem dX12_canBe_94 : decode cX12_canBe 94 = .ok (.iconst 1, 1) := by decide +kernel
theorem dX12_canBe_95 : decode cX12_canBe 95 = .ok (.goto 4, 3) := by decide +kernel
theorem dX12_canBe_98 : decode cX12_canBe 98 = .ok (.iconst 0, 1) := by decide +kernel
theorem dX12_canBe_99 : decode cX12_canBe 99 = .ok (.istore 5, 2) := by decide +kernel
theorem dX12_canBe_101 : decode cX12_canBe 101 = .ok (.iinc 6 1, 3) := by decide +kernel
theorem dX12_canBe_104 : decode cX12_canBe 104 = .ok (.goto (-73), 3) := by decide +kernel
theorem dX12_canBe_107 : decode cX12_canBe 107 = .ok (.iload 5, 2) := by decide +kernel
theorem dX12_canBe_109 : decode cX12_canBe 109 = .ok (.ireturn, 1) := by decide +kernel
theorem dX12_findHeard_0 : decode cX12_findHeard 0 = .ok (.iconst 0, 1) := by decide +kernel
theorem dX12_findHeard_1 : decode cX12_findHeard 1 = .ok (.istore_n 1, 1) := by decide +kernel
theorem dX12_findHeard_2 : decode cX12_findHeard 2 = .ok (.iload_n 1, 1) := by decide +kernel
theorem dX12_findHeard_3 : decode cX12_findHeard 3 = .ok (.bipush 12, 2) := by decide +kernel
theorem dX12_findHeard_5 : decode cX12_findHeard 5 = .ok (.if_icmp .ge 47, 3) := by decide +kernel
theorem dX12_findHeard_8 : decode cX12_findHeard 8 = .ok (.iconst 0, 1) := by decide +kernel
theorem dX12_findHeard_9 : decode cX12_findHeard 9 = .ok (.istore_n 2, 1) := by decide +kernel
theorem dX12_findHeard_10 : decode cX12_findHeard 10 = .ok (.iload_n 2, 1) := by decide +kernel
theorem dX12_findHeard_11 : decode cX12_findHeard 11 = .ok (.bipush 64, 2) := by decide +kernel
theorem dX12_findHeard_13 : decode cX12_findHeard 13 = .ok (.if_icmp .ge 33, 3) := by decide +kernel
theorem dX12_findHeard_16 : decode cX12_findHeard 16 = .ok (.aload_n 0, 1) := by decide +kernel
theorem dX12_findHeard_17 : decode cX12_findHeard 17 = .ok (.getfield 52, 3) := by decide +kernel
theorem dX12_findHeard_20 : decode cX12_findHeard 20 = .ok (.bipush 64, 2) := by decide +kernel
theorem dX12_findHeard_22 : decode cX12_findHeard 22 = .ok (.iload_n 1, 1) := by decide +kernel
theorem dX12_findHeard_23 : decode cX12_findHeard 23 = .ok (.imul, 1) := by decide +kernel
theorem dX12_findHeard_24 : decode cX12_findHeard 24 = .ok (.iload_n 2, 1) := by decide +kernel
theorem dX12_findHeard_25 : decode cX12_findHeard 25 = .ok (.iadd, 1) := by decide +kernel
theorem dX12_findHeard_26 : decode cX12_findHeard 26 = .ok (.aload_n 0, 1) := by decide +kernel
theorem dX12_findHeard_27 : decode cX12_findHeard 27 = .ok (.iload_n 2, 1) := by decide +kernel
theorem dX12_findHeard_28 : decode cX12_findHeard 28 = .ok (.bipush 8, 2) := by decide +kernel
theorem dX12_findHeard_30 : decode cX12_findHeard 30 = .ok (.idiv, 1) := by decide +kernel
theorem dX12_findHeard_31 : decode cX12_findHeard 31 = .ok (.iload_n 2, 1) := by decide +kernel
theorem dX12_findHeard_32 : decode cX12_findHeard 32 = .ok (.bipush 8, 2) := by decide +kernel
theorem dX12_findHeard_34 : decode cX12_findHeard 34 = .ok (.irem, 1) := by decide +kernel
theorem dX12_findHeard_35 : decode cX12_findHeard 35 = .ok (.iload_n 1, 1) := by decide +kernel
theorem dX12_findHeard_36 : decode cX12_findHeard 36 = .ok (.invokevirtual 252, 3) := by decide +kernel
theorem dX12_findHeard_39 : decode cX12_findHeard 39 = .ok (.bastore, 1) := by decide +kernel
theorem dX12_findHeard_40 : decode cX12_findHeard 40 = .ok (.iinc 2 1, 3) := by decide +kernel
theorem dX12_findHeard_43 : decode cX12_findHeard 43 = .ok (.goto (-33), 3) := by decide +kernel
theorem dX12_findHeard_46 : decode cX12_findHeard 46 = .ok (.iinc 1 1, 3) := by decide +kernel
theorem dX12_findHeard_49 : decode cX12_findHeard 49 = .ok (.goto (-47), 3) := by decide +kernel
theorem dX12_findHeard_52 : decode cX12_findHeard 52 = .ok (.iconst 0, 1) := by decide +kernel
theorem dX12_findHeard_53 : decode cX12_findHeard 53 = .ok (.istore_n 1, 1) := by decide +kernel
theorem dX12_findHeard_54 : decode cX12_findHeard 54 = .ok (.iload_n 1, 1) := by decide +kernel
theorem dX12_findHeard_55 : decode cX12_findHeard 55 = .ok (.bipush 104, 2) := by decide +kernel
theorem dX12_findHeard_57 : decode cX12_findHeard 57 = .ok (.if_icmp .ge 41, 3) := by decide +kernel
theorem dX12_findHeard_60 : decode cX12_findHeard 60 = .ok (.aload_n 0, 1) := by decide +kernel
theorem dX12_findHeard_61 : decode cX12_findHeard 61 = .ok (.getfield 45, 3) := by decide +kernel
theorem dX12_findHeard_64 : decode cX12_findHeard 64 = .ok (.iload_n 1, 1) := by decide +kernel
theorem dX12_findHeard_65 : decode cX12_findHeard 65 = .ok (.iload_n 1, 1) := by decide +kernel
theorem dX12_findHeard_66 : decode cX12_findHeard 66 = .ok (.ifCond .ne 7, 3) := by decide +kernel
theorem dX12_findHeard_69 : decode cX12_findHeard 69 = .ok (.lconst 1, 1) := by decide +kernel
theorem dX12_findHeard_70 : decode cX12_findHeard 70 = .ok (.goto 4, 3) := by decide +kernel
theorem dX12_findHeard_73 : decode cX12_findHeard 73 = .ok (.lconst 0, 1) := by decide +kernel
theorem dX12_findHeard_74 : decode cX12_findHeard 74 = .ok (.lastore, 1) := by decide +kernel
theorem dX12_findHeard_75 : decode cX12_findHeard 75 = .ok (.aload_n 0, 1) := by decide +kernel
theorem dX12_findHeard_76 : decode cX12_findHeard 76 = .ok (.getfield 49, 3) := by decide +kernel
theorem dX12_findHeard_79 : decode cX12_findHeard 79 = .ok (.iload_n 1, 1) := by decide +kernel
theorem dX12_findHeard_80 : decode cX12_findHeard 80 = .ok (.iload_n 1, 1) := by decide +kernel
theorem dX12_findHeard_81 : decode cX12_findHeard 81 = .ok (.bipush 96, 2) := by decide +kernel
theorem dX12_findHeard_83 : decode cX12_findHeard 83 = .ok (.if_icmp .ge 7, 3) := by decide +kernel
theorem dX12_findHeard_86 : decode cX12_findHeard 86 = .ok (.lconst 0, 1) := by decide +kernel
theorem dX12_findHeard_87 : decode cX12_findHeard 87 = .ok (.goto 4, 3) := by decide +kernel
theorem dX12_findHeard_90 : decode cX12_findHeard 90 = .ok (.lconst 1, 1) := by decide +kernel
theorem dX12_findHeard_91 : decode cX12_findHeard 91 = .ok (.lastore, 1) := by decide +kernel
theorem dX12_findHeard_92 : decode cX12_findHeard 92 = .ok (.iinc 1 1, 3) := by decide +kernel
theorem dX12_findHeard_95 : decode cX12_findHeard 95 = .ok (.goto (-41), 3) := by decide +kernel
theorem dX12_findHeard_98 : decode cX12_findHeard 98 = .ok (.iconst 0, 1) := by decide +kernel
theorem dX12_findHeard_99 : decode cX12_findHeard 99 = .ok (.istore_n 1, 1) := by decide +kernel
theorem dX12_findHeard_100 : decode cX12_findHeard 100 = .ok (.iload_n 1, 1) := by decide +kernel
theorem dX12_findHeard_101 : decode cX12_findHeard 101 = .ok (.bipush 12, 2) := by decide +kernel
theorem dX12_findHeard_103 : decode cX12_findHeard 103 = .ok (.if_icmp .ge 74, 3) := by decide +kernel
theorem dX12_findHeard_106 : decode cX12_findHeard 106 = .ok (.iconst 0, 1) := by decide +kernel
theorem dX12_findHeard_107 : decode cX12_findHeard 107 = .ok (.istore_n 2, 1) := by decide +kernel
theorem dX12_findHeard_108 : decode cX12_findHeard 108 = .ok (.iload_n 2, 1) := by decide +kernel
theorem dX12_findHeard_109 : decode cX12_findHeard 109 = .ok (.bipush 64, 2) := by decide +kernel
theorem dX12_findHeard_111 : decode cX12_findHeard 111 = .ok (.if_icmp .ge 60, 3) := by decide +kernel
theorem dX12_findHeard_114 : decode cX12_findHeard 114 = .ok (.aload_n 0, 1) := by decide +kernel
theorem dX12_findHeard_115 : decode cX12_findHeard 115 = .ok (.getfield 45, 3) := by decide +kernel
theorem dX12_findHeard_118 : decode cX12_findHeard 118 = .ok (.bipush 8, 2) := by decide +kernel
theorem dX12_findHeard_120 : decode cX12_findHeard 120 = .ok (.iload_n 1, 1) := by decide +kernel
theorem dX12_findHeard_121 : decode cX12_findHeard 121 = .ok (.iconst 1, 1) := by decide +kernel
theorem dX12_findHeard_122 : decode cX12_findHeard 122 = .ok (.iadd, 1) := by decide +kernel
theorem dX12_findHeard_123 : decode cX12_findHeard 123 = .ok (.imul, 1) := by decide +kernel
theorem dX12_findHeard_124 : decode cX12_findHeard 124 = .ok (.iload_n 2, 1) := by decide +kernel
theorem dX12_findHeard_125 : decode cX12_findHeard 125 = .ok (.bipush 8, 2) := by decide +kernel
theorem dX12_findHeard_127 : decode cX12_findHeard 127 = .ok (.irem, 1) := by decide +kernel
theorem dX12_findHeard_128 : decode cX12_findHeard 128 = .ok (.iadd, 1) := by decide +kernel
theorem dX12_findHeard_129 : decode cX12_findHeard 129 = .ok (.dup2, 1) := by decide +kernel
theorem dX12_findHeard_130 : decode cX12_findHeard 130 = .ok (.laload, 1) := by decide +kernel
theorem dX12_findHeard_131 : decode cX12_findHeard 131 = .ok (.aload_n 0, 1) := by decide +kernel
theorem dX12_findHeard_132 : decode cX12_findHeard 132 = .ok (.getfield 52, 3) := by decide +kernel
theorem dX12_findHeard_135 : decode cX12_findHeard 135 = .ok (.bipush 64, 2) := by decide +kernel
theorem dX12_findHeard_137 : decode cX12_findHeard 137 = .ok (.iload_n 1, 1) := by decide +kernel
theorem dX12_findHeard_138 : decode cX12_findHeard 138 = .ok (.imul, 1) := by decide +kernel
theorem dX12_findHeard_139 : decode cX12_findHeard 139 = .ok (.iload_n 2, 1) := by decide +kernel
theorem dX12_findHeard_140 : decode cX12_findHeard 140 = .ok (.iadd, 1) := by decide +kernel
theorem dX12_findHeard_141 : decode cX12_findHeard 141 = .ok (.baload, 1) := by decide +kernel
theorem dX12_findHeard_142 : decode cX12_findHeard 142 = .ok (.ifCond .eq 20, 3) := by decide +kernel
theorem dX12_findHeard_145 : decode cX12_findHeard 145 = .ok (.aload_n 0, 1) := by decide +kernel
theorem dX12_findHeard_146 : decode cX12_findHeard 146 = .ok (.getfield 45, 3) := by decide +kernel
theorem dX12_findHeard_149 : decode cX12_findHeard 149 = .ok (.bipush 8, 2) := by decide +kernel
theorem dX12_findHeard_151 : decode cX12_findHeard 151 = .ok (.iload_n 1, 1) := by decide +kernel
theorem dX12_findHeard_152 : decode cX12_findHeard 152 = .ok (.imul, 1) := by decide +kernel
theorem dX12_findHeard_153 : decode cX12_findHeard 153 = .ok (.iload_n 2, 1) := by decide +kernel
theorem dX12_findHeard_154 : decode cX12_findHeard 154 = .ok (.bipush 8, 2) := by decide +kernel
theorem dX12_findHeard_156 : decode cX12_findHeard 156 = .ok (.idiv, 1) := by decide +kernel
theorem dX12_findHeard_157 : decode cX12_findHeard 157 = .ok (.iadd, 1) := by decide +kernel
theorem dX12_findHeard_158 : decode cX12_findHeard 158 = .ok (.laload, 1) := by decide +kernel
theorem dX12_findHeard_159 : decode cX12_findHeard 159 = .ok (.goto 4, 3) := by decide +kernel
theorem dX12_findHeard_162 : decode cX12_findHeard 162 = .ok (.lconst 0, 1) := by decide +kernel
theorem dX12_findHeard_163 : decode cX12_findHeard 163 = .ok (.ladd, 1) := by decide +kernel
theorem dX12_findHeard_164 : decode cX12_findHeard 164 = .ok (.lastore, 1) := by decide +kernel
theorem dX12_findHeard_165 : decode cX12_findHeard 165 = .ok (.iinc 2 1, 3) := by decide +kernel
theorem dX12_findHeard_168 : decode cX12_findHeard 168 = .ok (.goto (-60), 3) := by decide +kernel
theorem dX12_findHeard_171 : decode cX12_findHeard 171 = .ok (.iinc 1 1, 3) := by decide +kernel
theorem dX12_findHeard_174 : decode cX12_findHeard 174 = .ok (.goto (-74), 3) := by decide +kernel
theorem dX12_findHeard_177 : decode cX12_findHeard 177 = .ok (.bipush 11, 2) := by decide +kernel
theorem dX12_findHeard_179 : decode cX12_findHeard 179 = .ok (.istore_n 1, 1) := by decide +kernel
theorem dX12_findHeard_180 : decode cX12_findHeard 180 = .ok (.iload_n 1, 1) := by decide +kernel
theorem dX12_findHeard_181 : decode cX12_findHeard 181 = .ok (.ifCond .lt 74, 3) := by decide +kernel
theorem dX12_findHeard_184 : decode cX12_findHeard 184 = .ok (.iconst 0, 1) := by decide +kernel
theorem dX12_findHeard_185 : decode cX12_findHeard 185 = .ok (.istore_n 2, 1) := by decide +kernel
theorem dX12_findHeard_186 : decode cX12_findHeard 186 = .ok (.iload_n 2, 1) := by decide +kernel
theorem dX12_findHeard_187 : decode cX12_findHeard 187 = .ok (.bipush 64, 2) := by decide +kernel
theorem dX12_findHeard_189 : decode cX12_findHeard 189 = .ok (.if_icmp .ge 60, 3) := by decide +kernel
theorem dX12_findHeard_192 : decode cX12_findHeard 192 = .ok (.aload_n 0, 1) := by decide +kernel
theorem dX12_findHeard_193 : decode cX12_findHeard 193 = .ok (.getfield 49, 3) := by decide +kernel
theorem dX12_findHeard_196 : decode cX12_findHeard 196 = .ok (.bipush 8, 2) := by decide +kernel
theorem dX12_findHeard_198 : decode cX12_findHeard 198 = .ok (.iload_n 1, 1) := by decide +kernel
theorem dX12_findHeard_199 : decode cX12_findHeard 199 = .ok (.imul, 1) := by decide +kernel
theorem dX12_findHeard_200 : decode cX12_findHeard 200 = .ok (.iload_n 2, 1) := by decide +kernel
theorem dX12_findHeard_201 : decode cX12_findHeard 201 = .ok (.bipush 8, 2) := by decide +kernel
theorem dX12_findHeard_203 : decode cX12_findHeard 203 = .ok (.idiv, 1) := by decide +kernel
theorem dX12_findHeard_204 : decode cX12_findHeard 204 = .ok (.iadd, 1) := by decide +kernel
theorem dX12_findHeard_205 : decode cX12_findHeard 205 = .ok (.dup2, 1) := by decide +kernel
theorem dX12_findHeard_206 : decode cX12_findHeard 206 = .ok (.laload, 1) := by decide +kernel
theorem dX12_findHeard_207 : decode cX12_findHeard 207 = .ok (.aload_n 0, 1) := by decide +kernel
theorem dX12_findHeard_208 : decode cX12_findHeard 208 = .ok (.getfield 52, 3) := by decide +kernel
theorem dX12_findHeard_211 : decode cX12_findHeard 211 = .ok (.bipush 64, 2) := by decide +kernel
theorem dX12_findHeard_213 : decode cX12_findHeard 213 = .ok (.iload_n 1, 1) := by decide +kernel
theorem dX12_findHeard_214 : decode cX12_findHeard 214 = .ok (.imul, 1) := by decide +kernel
theorem dX12_findHeard_215 : decode cX12_findHeard 215 = .ok (.iload_n 2, 1) := by decide +kernel
theorem dX12_findHeard_216 : decode cX12_findHeard 216 = .ok (.iadd, 1) := by decide +kernel
theorem dX12_findHeard_217 : decode cX12_findHeard 217 = .ok (.baload, 1) := by decide +kernel
theorem dX12_findHeard_218 : decode cX12_findHeard 218 = .ok (.ifCond .eq 22, 3) := by decide +kernel
theorem dX12_findHeard_221 : decode cX12_findHeard 221 = .ok (.aload_n 0, 1) := by decide +kernel
theorem dX12_findHeard_222 : decode cX12_findHeard 222 = .ok (.getfield 49, 3) := by decide +kernel
theorem dX12_findHeard_225 : decode cX12_findHeard 225 = .ok (.bipush 8, 2) := by decide +kernel
theorem dX12_findHeard_227 : decode cX12_findHeard 227 = .ok (.iload_n 1, 1) := by decide +kernel
theorem dX12_findHeard_228 : decode cX12_findHeard 228 = .ok (.iconst 1, 1) := by decide +kernel
theorem dX12_findHeard_229 : decode cX12_findHeard 229 = .ok (.iadd, 1) := by decide +kernel
theorem dX12_findHeard_230 : decode cX12_findHeard 230 = .ok (.imul, 1) := by decide +kernel
theorem dX12_findHeard_231 : decode cX12_findHeard 231 = .ok (.iload_n 2, 1) := by decide +kernel
theorem dX12_findHeard_232 : decode cX12_findHeard 232 = .ok (.bipush 8, 2) := by decide +kernel
theorem dX12_findHeard_234 : decode cX12_findHeard 234 = .ok (.irem, 1) := by decide +kernel
theorem dX12_findHeard_235 : decode cX12_findHeard 235 = .ok (.iadd, 1) := by decide +kernel
theorem dX12_findHeard_236 : decode cX12_findHeard 236 = .ok (.laload, 1) := by decide +kernel
theorem dX12_findHeard_237 : decode cX12_findHeard 237 = .ok (.goto 4, 3) := by decide +kernel
theorem dX12_findHeard_240 : decode cX12_findHeard 240 = .ok (.lconst 0, 1) := by decide +kernel
theorem dX12_findHeard_241 : decode cX12_findHeard 241 = .ok (.ladd, 1) := by decide +kernel
theorem dX12_findHeard_242 : decode cX12_findHeard 242 = .ok (.lastore, 1) := by decide +kernel
theorem dX12_findHeard_243 : decode cX12_findHeard 243 = .ok (.iinc 2 1, 3) := by decide +kernel
theorem dX12_findHeard_246 : decode cX12_findHeard 246 = .ok (.goto (-60), 3) := by decide +kernel
theorem dX12_findHeard_249 : decode cX12_findHeard 249 = .ok (.iinc 1 (-1), 3) := by decide +kernel
theorem dX12_findHeard_252 : decode cX12_findHeard 252 = .ok (.goto (-72), 3) := by decide +kernel
theorem dX12_findHeard_255 : decode cX12_findHeard 255 = .ok (.return_, 1) := by decide +kernel
theorem dX12_may_0 : decode cX12_may 0 = .ok (.iload_n 1, 1) := by decide +kernel
theorem dX12_may_1 : decode cX12_may 1 = .ok (.i2l, 1) := by decide +kernel
theorem dX12_may_2 : decode cX12_may 2 = .ok (.lconst 0, 1) := by decide +kernel
theorem dX12_may_3 : decode cX12_may 3 = .ok (.ldc2_w 247, 3) := by decide +kernel
theorem dX12_may_6 : decode cX12_may 6 = .ok (.invokestatic 75, 3) := by decide +kernel
theorem dX12_may_9 : decode cX12_may 9 = .ok (.ifCond .ne 8, 3) := by decide +kernel
theorem dX12_may_12 : decode cX12_may 12 = .ok (.aload_n 0, 1) := by decide +kernel
theorem dX12_may_13 : decode cX12_may 13 = .ok (.invokevirtual 95, 3) := by decide +kernel
theorem dX12_may_16 : decode cX12_may 16 = .ok (.ireturn, 1) := by decide +kernel
theorem dX12_may_17 : decode cX12_may 17 = .ok (.aload_n 0, 1) := by decide +kernel
theorem dX12_may_18 : decode cX12_may 18 = .ok (.invokevirtual 255, 3) := by decide +kernel
theorem dX12_may_21 : decode cX12_may 21 = .ok (.iconst 0, 1) := by decide +kernel
theorem dX12_may_22 : decode cX12_may 22 = .ok (.istore_n 2, 1) := by decide +kernel
theorem dX12_may_23 : decode cX12_may 23 = .ok (.iconst 0, 1) := by decide +kernel
theorem dX12_may_24 : decode cX12_may 24 = .ok (.istore_n 3, 1) := by decide +kernel
theorem dX12_may_25 : decode cX12_may 25 = .ok (.iload_n 3, 1) := by decide +kernel
theorem dX12_may_26 : decode cX12_may 26 = .ok (.bipush 8, 2) := by decide +kernel
theorem dX12_may_28 : decode cX12_may 28 = .ok (.if_icmp .ge 51, 3) := by decide +kernel
theorem dX12_may_31 : decode cX12_may 31 = .ok (.iload_n 2, 1) := by decide +kernel
theorem dX12_may_32 : decode cX12_may 32 = .ok (.aload_n 0, 1) := by decide +kernel
theorem dX12_may_33 : decode cX12_may 33 = .ok (.getfield 45, 3) := by decide +kernel
theorem dX12_may_36 : decode cX12_may 36 = .ok (.bipush 8, 2) := by decide +kernel
theorem dX12_may_38 : decode cX12_may 38 = .ok (.iload_n 1, 1) := by decide +kernel
theorem dX12_may_39 : decode cX12_may 39 = .ok (.imul, 1) := by decide +kernel
theorem dX12_may_40 : decode cX12_may 40 = .ok (.iload_n 3, 1) := by decide +kernel
theorem dX12_may_41 : decode cX12_may 41 = .ok (.iadd, 1) := by decide +kernel
theorem dX12_may_42 : decode cX12_may 42 = .ok (.laload, 1) := by decide +kernel
theorem dX12_may_43 : decode cX12_may 43 = .ok (.lconst 0, 1) := by decide +kernel
theorem dX12_may_44 : decode cX12_may 44 = .ok (.lcmp, 1) := by decide +kernel
theorem dX12_may_45 : decode cX12_may 45 = .ok (.ifCond .le 25, 3) := by decide +kernel
theorem dX12_may_48 : decode cX12_may 48 = .ok (.aload_n 0, 1) := by decide +kernel
theorem dX12_may_49 : decode cX12_may 49 = .ok (.getfield 49, 3) := by decide +kernel
theorem dX12_may_52 : decode cX12_may 52 = .ok (.bipush 8, 2) := by decide +kernel
theorem dX12_may_54 : decode cX12_may 54 = .ok (.iload_n 1, 1) := by decide +kernel
theorem dX12_may_55 : decode cX12_may 55 = .ok (.imul, 1) := by decide +kernel
theorem dX12_may_56 : decode cX12_may 56 = .ok (.iload_n 3, 1) := by decide +kernel
theorem dX12_may_57 : decode cX12_may 57 = .ok (.iadd, 1) := by decide +kernel
theorem dX12_may_58 : decode cX12_may 58 = .ok (.laload, 1) := by decide +kernel
theorem dX12_may_59 : decode cX12_may 59 = .ok (.lconst 0, 1) := by decide +kernel
theorem dX12_may_60 : decode cX12_may 60 = .ok (.lcmp, 1) := by decide +kernel
theorem dX12_may_61 : decode cX12_may 61 = .ok (.ifCond .le 9, 3) := by decide +kernel
theorem dX12_may_64 : decode cX12_may 64 = .ok (.iconst 1, 1) := by decide +kernel
theorem dX12_may_65 : decode cX12_may 65 = .ok (.iload_n 3, 1) := by decide +kernel
theorem dX12_may_66 : decode cX12_may 66 = .ok (.ishl, 1) := by decide +kernel
theorem dX12_may_67 : decode cX12_may 67 = .ok (.goto 4, 3) := by decide +kernel
theorem dX12_may_70 : decode cX12_may 70 = .ok (.iconst 0, 1) := by decide +kernel
theorem dX12_may_71 : decode cX12_may 71 = .ok (.ior, 1) := by decide +kernel
theorem dX12_may_72 : decode cX12_may 72 = .ok (.istore_n 2, 1) := by decide +kernel
theorem dX12_may_73 : decode cX12_may 73 = .ok (.iinc 3 1, 3) := by decide +kernel
theorem dX12_may_76 : decode cX12_may 76 = .ok (.goto (-51), 3) := by decide +kernel
theorem dX12_may_79 : decode cX12_may 79 = .ok (.iload_n 2, 1) := by decide +kernel
theorem dX12_may_80 : decode cX12_may 80 = .ok (.ireturn, 1) := by decide +kernel
theorem dX12_ways_0 : decode cX12_ways 0 = .ok (.aload_n 0, 1) := by decide +kernel
theorem dX12_ways_1 : decode cX12_ways 1 = .ok (.invokevirtual 255, 3) := by decide +kernel
theorem dX12_ways_4 : decode cX12_ways 4 = .ok (.aload_n 0, 1) := by decide +kernel
theorem dX12_ways_5 : decode cX12_ways 5 = .ok (.getfield 49, 3) := by decide +kernel
theorem dX12_ways_8 : decode cX12_ways 8 = .ok (.iconst 0, 1) := by decide +kernel
theorem dX12_ways_9 : decode cX12_ways 9 = .ok (.laload, 1) := by decide +kernel
theorem dX12_ways_10 : decode cX12_ways 10 = .ok (.lreturn, 1) := by decide +kernel
theorem dX12_listen_0 : decode cX12_listen 0 = .ok (.iload_n 1, 1) := by decide +kernel
theorem dX12_listen_1 : decode cX12_listen 1 = .ok (.i2l, 1) := by decide +kernel
theorem dX12_listen_2 : decode cX12_listen 2 = .ok (.lconst 0, 1) := by decide +kernel
theorem dX12_listen_3 : decode cX12_listen 3 = .ok (.ldc2_w 258, 3) := by decide +kernel
theorem dX12_listen_6 : decode cX12_listen 6 = .ok (.invokestatic 75, 3) := by decide +kernel
theorem dX12_listen_9 : decode cX12_listen 9 = .ok (.ifCond .ne 8, 3) := by decide +kernel
theorem dX12_listen_12 : decode cX12_listen 12 = .ok (.aload_n 0, 1) := by decide +kernel
theorem dX12_listen_13 : decode cX12_listen 13 = .ok (.invokevirtual 95, 3) := by decide +kernel
theorem dX12_listen_16 : decode cX12_listen 16 = .ok (.ireturn, 1) := by decide +kernel
theorem dX12_listen_17 : decode cX12_listen 17 = .ok (.aload_n 0, 1) := by decide +kernel
theorem dX12_listen_18 : decode cX12_listen 18 = .ok (.invokevirtual 255, 3) := by decide +kernel
theorem dX12_listen_21 : decode cX12_listen 21 = .ok (.iconst (-1), 1) := by decide +kernel
theorem dX12_listen_22 : decode cX12_listen 22 = .ok (.istore_n 2, 1) := by decide +kernel
theorem dX12_listen_23 : decode cX12_listen 23 = .ok (.aload_n 0, 1) := by decide +kernel
theorem dX12_listen_24 : decode cX12_listen 24 = .ok (.getfield 49, 3) := by decide +kernel
theorem dX12_listen_27 : decode cX12_listen 27 = .ok (.iconst 0, 1) := by decide +kernel
theorem dX12_listen_28 : decode cX12_listen 28 = .ok (.laload, 1) := by decide +kernel
theorem dX12_listen_29 : decode cX12_listen 29 = .ok (.lstore_n 3, 1) := by decide +kernel
theorem dX12_listen_30 : decode cX12_listen 30 = .ok (.aload_n 0, 1) := by decide +kernel
theorem dX12_listen_31 : decode cX12_listen 31 = .ok (.getfield 7, 3) := by decide +kernel
theorem dX12_listen_34 : decode cX12_listen 34 = .ok (.iconst 5, 1) := by decide +kernel
theorem dX12_listen_35 : decode cX12_listen 35 = .ok (.iaload, 1) := by decide +kernel
theorem dX12_listen_36 : decode cX12_listen 36 = .ok (.iconst 1, 1) := by decide +kernel
theorem dX12_listen_37 : decode cX12_listen 37 = .ok (.isub, 1) := by decide +kernel
theorem dX12_listen_38 : decode cX12_listen 38 = .ok (.istore 5, 2) := by decide +kernel
theorem dX12_listen_40 : decode cX12_listen 40 = .ok (.iload 5, 2) := by decide +kernel
theorem dX12_listen_42 : decode cX12_listen 42 = .ok (.ifCond .lt 177, 3) := by decide +kernel
theorem dX12_listen_45 : decode cX12_listen 45 = .ok (.aload_n 0, 1) := by decide +kernel
theorem dX12_listen_46 : decode cX12_listen 46 = .ok (.getfield 49, 3) := by decide +kernel
theorem dX12_listen_49 : decode cX12_listen 49 = .ok (.iconst 0, 1) := by decide +kernel
theorem dX12_listen_50 : decode cX12_listen 50 = .ok (.laload, 1) := by decide +kernel
theorem dX12_listen_51 : decode cX12_listen 51 = .ok (.lconst 0, 1) := by decide +kernel
theorem dX12_listen_52 : decode cX12_listen 52 = .ok (.lcmp, 1) := by decide +kernel
theorem dX12_listen_53 : decode cX12_listen 53 = .ok (.ifCond .le 166, 3) := by decide +kernel
theorem dX12_listen_56 : decode cX12_listen 56 = .ok (.lconst 0, 1) := by decide +kernel
theorem dX12_listen_57 : decode cX12_listen 57 = .ok (.lstore 6, 2) := by decide +kernel
theorem dX12_listen_59 : decode cX12_listen 59 = .ok (.iconst 0, 1) := by decide +kernel
theorem dX12_listen_60 : decode cX12_listen 60 = .ok (.istore 8, 2) := by decide +kernel
theorem dX12_listen_62 : decode cX12_listen 62 = .ok (.iload 8, 2) := by decide +kernel
theorem dX12_listen_64 : decode cX12_listen 64 = .ok (.bipush 64, 2) := by decide +kernel
theorem dX12_listen_66 : decode cX12_listen 66 = .ok (.if_icmp .ge 103, 3) := by decide +kernel
theorem dX12_listen_69 : decode cX12_listen 69 = .ok (.iload 8, 2) := by decide +kernel
theorem dX12_listen_71 : decode cX12_listen 71 = .ok (.bipush 8, 2) := by decide +kernel
theorem dX12_listen_73 : decode cX12_listen 73 = .ok (.idiv, 1) := by decide +kernel
theorem dX12_listen_74 : decode cX12_listen 74 = .ok (.istore 9, 2) := by decide +kernel
theorem dX12_listen_76 : decode cX12_listen 76 = .ok (.iload 8, 2) := by decide +kernel
theorem dX12_listen_78 : decode cX12_listen 78 = .ok (.bipush 8, 2) := by decide +kernel
theorem dX12_listen_80 : decode cX12_listen 80 = .ok (.irem, 1) := by decide +kernel
theorem dX12_listen_81 : decode cX12_listen 81 = .ok (.istore 10, 2) := by decide +kernel
theorem dX12_listen_83 : decode cX12_listen 83 = .ok (.aload_n 0, 1) := by decide +kernel
theorem dX12_listen_84 : decode cX12_listen 84 = .ok (.getfield 52, 3) := by decide +kernel
theorem dX12_listen_87 : decode cX12_listen 87 = .ok (.bipush 64, 2) := by decide +kernel
theorem dX12_listen_89 : decode cX12_listen 89 = .ok (.iload_n 1, 1) := by decide +kernel
theorem dX12_listen_90 : decode cX12_listen 90 = .ok (.imul, 1) := by decide +kernel
theorem dX12_listen_91 : decode cX12_listen 91 = .ok (.iload 8, 2) := by decide +kernel
theorem dX12_listen_93 : decode cX12_listen 93 = .ok (.iadd, 1) := by decide +kernel
theorem dX12_listen_94 : decode cX12_listen 94 = .ok (.baload, 1) := by decide +kernel
theorem dX12_listen_95 : decode cX12_listen 95 = .ok (.ifCond .eq 24, 3) := by decide +kernel
theorem dX12_listen_98 : decode cX12_listen 98 = .ok (.aload_n 0, 1) := by decide +kernel
theorem dX12_listen_99 : decode cX12_listen 99 = .ok (.iload 9, 2) := by decide +kernel
theorem dX12_listen_101 : decode cX12_listen 101 = .ok (.iload 10, 2) := by decide +kernel
theorem dX12_listen_103 : decode cX12_listen 103 = .ok (.iload_n 1, 1) := by decide +kernel
theorem dX12_listen_104 : decode cX12_listen 104 = .ok (.invokevirtual 249, 3) := by decide +kernel
theorem dX12_listen_107 : decode cX12_listen 107 = .ok (.iload 5, 2) := by decide +kernel
theorem dX12_listen_109 : decode cX12_listen 109 = .ok (.invokestatic 260, 3) := by decide +kernel
theorem dX12_listen_112 : decode cX12_listen 112 = .ok (.ifCond .eq 7, 3) := by decide +kernel
theorem dX12_listen_115 : decode cX12_listen 115 = .ok (.iconst 1, 1) := by decide +kernel
theorem dX12_listen_116 : decode cX12_listen 116 = .ok (.goto 4, 3) := by decide +kernel
theorem dX12_listen_119 : decode cX12_listen 119 = .ok (.iconst 0, 1) := by decide +kernel
theorem dX12_listen_120 : decode cX12_listen 120 = .ok (.istore 11, 2) := by decide +kernel
theorem dX12_listen_122 : decode cX12_listen 122 = .ok (.lload 6, 2) := by decide +kernel
theorem dX12_listen_124 : decode cX12_listen 124 = .ok (.iload 11, 2) := by decide +kernel
theorem dX12_listen_126 : decode cX12_listen 126 = .ok (.ifCond .eq 33, 3) := by decide +kernel
theorem dX12_listen_129 : decode cX12_listen 129 = .ok (.aload_n 0, 1) := by decide +kernel
theorem dX12_listen_130 : decode cX12_listen 130 = .ok (.getfield 45, 3) := by decide +kernel
theorem dX12_listen_133 : decode cX12_listen 133 = .ok (.bipush 8, 2) := by decide +kernel
theorem dX12_listen_135 : decode cX12_listen 135 = .ok (.iload_n 1, 1) := by decide +kernel
theorem dX12_listen_136 : decode cX12_listen 136 = .ok (.imul, 1) := by decide +kernel
theorem dX12_listen_137 : decode cX12_listen 137 = .ok (.iload 9, 2) := by decide +kernel
theorem dX12_listen_139 : decode cX12_listen 139 = .ok (.iadd, 1) := by decide +kernel
theorem dX12_listen_140 : decode cX12_listen 140 = .ok (.laload, 1) := by decide +kernel
theorem dX12_listen_141 : decode cX12_listen 141 = .ok (.aload_n 0, 1) := by decide +kernel
theorem dX12_listen_142 : decode cX12_listen 142 = .ok (.getfield 49, 3) := by decide +kernel
theorem dX12_listen_145 : decode cX12_listen 145 = .ok (.bipush 8, 2) := by decide +kernel
theorem dX12_listen_147 : decode cX12_listen 147 = .ok (.iload_n 1, 1) := by decide +kernel
theorem dX12_listen_148 : decode cX12_listen 148 = .ok (.iconst 1, 1) := by decide +kernel
theorem dX12_listen_149 : decode cX12_listen 149 = .ok (.iadd, 1) := by decide +kernel
theorem dX12_listen_150 : decode cX12_listen 150 = .ok (.imul, 1) := by decide +kernel
theorem dX12_listen_151 : decode cX12_listen 151 = .ok (.iload 10, 2) := by decide +kernel
theorem dX12_listen_153 : decode cX12_listen 153 = .ok (.iadd, 1) := by decide +kernel
theorem dX12_listen_154 : decode cX12_listen 154 = .ok (.laload, 1) := by decide +kernel
theorem dX12_listen_155 : decode cX12_listen 155 = .ok (.lmul, 1) := by decide +kernel
theorem dX12_listen_156 : decode cX12_listen 156 = .ok (.goto 4, 3) := by decide +kernel
theorem dX12_listen_159 : decode cX12_listen 159 = .ok (.lconst 0, 1) := by decide +kernel
theorem dX12_listen_160 : decode cX12_listen 160 = .ok (.ladd, 1) := by decide +kernel
theorem dX12_listen_161 : decode cX12_listen 161 = .ok (.lstore 6, 2) := by decide +kernel
theorem dX12_listen_163 : decode cX12_listen 163 = .ok (.iinc 8 1, 3) := by decide +kernel
theorem dX12_listen_166 : decode cX12_listen 166 = .ok (.goto (-104), 3) := by decide +kernel
theorem dX12_listen_169 : decode cX12_listen 169 = .ok (.lload 6, 2) := by decide +kernel
theorem dX12_listen_171 : decode cX12_listen 171 = .ok (.aload_n 0, 1) := by decide +kernel
theorem dX12_listen_172 : decode cX12_listen 172 = .ok (.getfield 49, 3) := by decide +kernel
theorem dX12_listen_175 : decode cX12_listen 175 = .ok (.iconst 0, 1) := by decide +kernel
theorem dX12_listen_176 : decode cX12_listen 176 = .ok (.laload, 1) := by decide +kernel
theorem dX12_listen_177 : decode cX12_listen 177 = .ok (.lload 6, 2) := by decide +kernel
theorem dX12_listen_179 : decode cX12_listen 179 = .ok (.lsub, 1) := by decide +kernel
theorem dX12_listen_180 : decode cX12_listen 180 = .ok (.lcmp, 1) := by decide +kernel
theorem dX12_listen_181 : decode cX12_listen 181 = .ok (.ifCond .le 8, 3) := by decide +kernel
theorem dX12_listen_184 : decode cX12_listen 184 = .ok (.lload 6, 2) := by decide +kernel
theorem dX12_listen_186 : decode cX12_listen 186 = .ok (.goto 12, 3) := by decide +kernel
theorem dX12_listen_189 : decode cX12_listen 189 = .ok (.aload_n 0, 1) := by decide +kernel
theorem dX12_listen_190 : decode cX12_listen 190 = .ok (.getfield 49, 3) := by decide +kernel
theorem dX12_listen_193 : decode cX12_listen 193 = .ok (.iconst 0, 1) := by decide +kernel
theorem dX12_listen_194 : decode cX12_listen 194 = .ok (.laload, 1) := by decide +kernel
theorem dX12_listen_195 : decode cX12_listen 195 = .ok (.lload 6, 2) := by decide +kernel
theorem dX12_listen_197 : decode cX12_listen 197 = .ok (.lsub, 1) := by decide +kernel
theorem dX12_listen_198 : decode cX12_listen 198 = .ok (.lstore 8, 2) := by decide +kernel
theorem dX12_listen_200 : decode cX12_listen 200 = .ok (.lload 8, 2) := by decide +kernel
theorem dX12_listen_202 : decode cX12_listen 202 = .ok (.lload_n 3, 1) := by decide +kernel
theorem dX12_listen_203 : decode cX12_listen 203 = .ok (.lcmp, 1) := by decide +kernel
theorem dX12_listen_204 : decode cX12_listen 204 = .ok (.ifCond .gt 9, 3) := by decide +kernel
theorem dX12_listen_207 : decode cX12_listen 207 = .ok (.iload 5, 2) := by decide +kernel
theorem dX12_listen_209 : decode cX12_listen 209 = .ok (.istore_n 2, 1) := by decide +kernel
theorem dX12_listen_210 : decode cX12_listen 210 = .ok (.lload 8, 2) := by decide +kernel
theorem dX12_listen_212 : decode cX12_listen 212 = .ok (.lstore_n 3, 1) := by decide +kernel
theorem dX12_listen_213 : decode cX12_listen 213 = .ok (.iinc 5 (-1), 3) := by decide +kernel
theorem dX12_listen_216 : decode cX12_listen 216 = .ok (.goto (-176), 3) := by decide +kernel
theorem dX12_listen_219 : decode cX12_listen 219 = .ok (.iload_n 2, 1) := by decide +kernel
theorem dX12_listen_220 : decode cX12_listen 220 = .ok (.ireturn, 1) := by decide +kernel
theorem dX12_setFraction_0 : decode cX12_setFraction 0 = .ok (.lload_n 1, 1) := by decide +kernel
theorem dX12_setFraction_1 : decode cX12_setFraction 1 = .ok (.lstore 5, 2) := by decide +kernel
theorem dX12_setFraction_3 : decode cX12_setFraction 3 = .ok (.lload_n 3, 1) := by decide +kernel
theorem dX12_setFraction_4 : decode cX12_setFraction 4 = .ok (.lstore 7, 2) := by decide +kernel
theorem dX12_setFraction_6 : decode cX12_setFraction 6 = .ok (.lload 7, 2) := by decide +kernel
theorem dX12_setFraction_8 : decode cX12_setFraction 8 = .ok (.lconst 0, 1) := by decide +kernel
theorem dX12_setFraction_9 : decode cX12_setFraction 9 = .ok (.lcmp, 1) := by decide +kernel
theorem dX12_setFraction_10 : decode cX12_setFraction 10 = .ok (.ifCond .eq 21, 3) := by decide +kernel
theorem dX12_setFraction_13 : decode cX12_setFraction 13 = .ok (.lload 5, 2) := by decide +kernel
theorem dX12_setFraction_15 : decode cX12_setFraction 15 = .ok (.lload 7, 2) := by decide +kernel
theorem dX12_setFraction_17 : decode cX12_setFraction 17 = .ok (.lrem, 1) := by decide +kernel
theorem dX12_setFraction_18 : decode cX12_setFraction 18 = .ok (.lstore 9, 2) := by decide +kernel
theorem dX12_setFraction_20 : decode cX12_setFraction 20 = .ok (.lload 7, 2) := by decide +kernel
theorem dX12_setFraction_22 : decode cX12_setFraction 22 = .ok (.lstore 5, 2) := by decide +kernel
theorem dX12_setFraction_24 : decode cX12_setFraction 24 = .ok (.lload 9, 2) := by decide +kernel
theorem dX12_setFraction_26 : decode cX12_setFraction 26 = .ok (.lstore 7, 2) := by decide +kernel
theorem dX12_setFraction_28 : decode cX12_setFraction 28 = .ok (.goto (-22), 3) := by decide +kernel
theorem dX12_setFraction_31 : decode cX12_setFraction 31 = .ok (.aload_n 0, 1) := by decide +kernel
theorem dX12_setFraction_32 : decode cX12_setFraction 32 = .ok (.lload_n 1, 1) := by decide +kernel
theorem dX12_setFraction_33 : decode cX12_setFraction 33 = .ok (.lload 5, 2) := by decide +kernel
theorem dX12_setFraction_35 : decode cX12_setFraction 35 = .ok (.ldiv, 1) := by decide +kernel
theorem dX12_setFraction_36 : decode cX12_setFraction 36 = .ok (.putfield 263, 3) := by decide +kernel
theorem dX12_setFraction_39 : decode cX12_setFraction 39 = .ok (.aload_n 0, 1) := by decide +kernel
theorem dX12_setFraction_40 : decode cX12_setFraction 40 = .ok (.lload_n 3, 1) := by decide +kernel
theorem dX12_setFraction_41 : decode cX12_setFraction 41 = .ok (.lload 5, 2) := by decide +kernel
theorem dX12_setFraction_43 : decode cX12_setFraction 43 = .ok (.ldiv, 1) := by decide +kernel
theorem dX12_setFraction_44 : decode cX12_setFraction 44 = .ok (.putfield 13, 3) := by decide +kernel
theorem dX12_setFraction_47 : decode cX12_setFraction 47 = .ok (.return_, 1) := by decide +kernel
theorem dX12_clocks_0 : decode cX12_clocks 0 = .ok (.iload_n 1, 1) := by decide +kernel
theorem dX12_clocks_1 : decode cX12_clocks 1 = .ok (.invokestatic 89, 3) := by decide +kernel
theorem dX12_clocks_4 : decode cX12_clocks 4 = .ok (.ifCond .eq 27, 3) := by decide +kernel
theorem dX12_clocks_7 : decode cX12_clocks 7 = .ok (.iload_n 2, 1) := by decide +kernel
theorem dX12_clocks_8 : decode cX12_clocks 8 = .ok (.i2l, 1) := by decide +kernel
theorem dX12_clocks_9 : decode cX12_clocks 9 = .ok (.lconst 0, 1) := by decide +kernel
theorem dX12_clocks_10 : decode cX12_clocks 10 = .ok (.ldc2_w 266, 3) := by decide +kernel
theorem dX12_clocks_13 : decode cX12_clocks 13 = .ok (.invokestatic 75, 3) := by decide +kernel
theorem dX12_clocks_16 : decode cX12_clocks 16 = .ok (.ifCond .eq 15, 3) := by decide +kernel
theorem dX12_clocks_19 : decode cX12_clocks 19 = .ok (.iload_n 3, 1) := by decide +kernel
theorem dX12_clocks_20 : decode cX12_clocks 20 = .ok (.i2l, 1) := by decide +kernel
theorem dX12_clocks_21 : decode cX12_clocks 21 = .ok (.lconst 0, 1) := by decide +kernel
theorem dX12_clocks_22 : decode cX12_clocks 22 = .ok (.ldc2_w 102, 3) := by decide +kernel
theorem dX12_clocks_25 : decode cX12_clocks 25 = .ok (.invokestatic 75, 3) := by decide +kernel
theorem dX12_clocks_28 : decode cX12_clocks 28 = .ok (.ifCond .ne 8, 3) := by decide +kernel
theorem dX12_clocks_31 : decode cX12_clocks 31 = .ok (.aload_n 0, 1) := by decide +kernel
theorem dX12_clocks_32 : decode cX12_clocks 32 = .ok (.invokevirtual 95, 3) := by decide +kernel
theorem dX12_clocks_35 : decode cX12_clocks 35 = .ok (.ireturn, 1) := by decide +kernel
theorem dX12_clocks_36 : decode cX12_clocks 36 = .ok (.aload_n 0, 1) := by decide +kernel
theorem dX12_clocks_37 : decode cX12_clocks 37 = .ok (.getfield 7, 3) := by decide +kernel
theorem dX12_clocks_40 : decode cX12_clocks 40 = .ok (.iconst 1, 1) := by decide +kernel
theorem dX12_clocks_41 : decode cX12_clocks 41 = .ok (.iaload, 1) := by decide +kernel
theorem dX12_clocks_42 : decode cX12_clocks 42 = .ok (.aload_n 0, 1) := by decide +kernel
theorem dX12_clocks_43 : decode cX12_clocks 43 = .ok (.bipush 9, 2) := by decide +kernel
theorem dX12_clocks_45 : decode cX12_clocks 45 = .ok (.iload_n 1, 1) := by decide +kernel
theorem dX12_clocks_46 : decode cX12_clocks 46 = .ok (.aload_n 0, 1) := by decide +kernel
theorem dX12_clocks_47 : decode cX12_clocks 47 = .ok (.getfield 7, 3) := by decide +kernel
theorem dX12_clocks_50 : decode cX12_clocks 50 = .ok (.iconst 0, 1) := by decide +kernel
theorem dX12_clocks_51 : decode cX12_clocks 51 = .ok (.iaload, 1) := by decide +kernel
theorem dX12_clocks_52 : decode cX12_clocks 52 = .ok (.invokevirtual 211, 3) := by decide +kernel
theorem dX12_clocks_55 : decode cX12_clocks 55 = .ok (.ior, 1) := by decide +kernel
theorem dX12_clocks_56 : decode cX12_clocks 56 = .ok (.istore 4, 2) := by decide +kernel
theorem dX12_clocks_58 : decode cX12_clocks 58 = .ok (.lconst 0, 1) := by decide +kernel
theorem dX12_clocks_59 : decode cX12_clocks 59 = .ok (.lstore 5, 2) := by decide +kernel
theorem dX12_clocks_61 : decode cX12_clocks 61 = .ok (.lconst 1, 1) := by decide +kernel
theorem dX12_clocks_62 : decode cX12_clocks 62 = .ok (.lstore 7, 2) := by decide +kernel
theorem dX12_clocks_64 : decode cX12_clocks 64 = .ok (.iconst 0, 1) := by decide +kernel
theorem dX12_clocks_65 : decode cX12_clocks 65 = .ok (.istore 9, 2) := by decide +kernel
theorem dX12_clocks_67 : decode cX12_clocks 67 = .ok (.iload 9, 2) := by decide +kernel
theorem dX12_clocks_69 : decode cX12_clocks 69 = .ok (.aload_n 0, 1) := by decide +kernel
theorem dX12_clocks_70 : decode cX12_clocks 70 = .ok (.getfield 7, 3) := by decide +kernel
theorem dX12_clocks_73 : decode cX12_clocks 73 = .ok (.iconst 5, 1) := by decide +kernel
theorem dX12_clocks_74 : decode cX12_clocks 74 = .ok (.iaload, 1) := by decide +kernel
theorem dX12_clocks_75 : decode cX12_clocks 75 = .ok (.if_icmp .ge 17, 3) := by decide +kernel
theorem dX12_clocks_78 : decode cX12_clocks 78 = .ok (.lload 7, 2) := by decide +kernel
theorem dX12_clocks_80 : decode cX12_clocks 80 = .ok (.ldc2_w 266, 3) := by decide +kernel
theorem dX12_clocks_83 : decode cX12_clocks 83 = .ok (.lmul, 1) := by decide +kernel
theorem dX12_clocks_84 : decode cX12_clocks 84 = .ok (.lstore 7, 2) := by decide +kernel
theorem dX12_clocks_86 : decode cX12_clocks 86 = .ok (.iinc 9 1, 3) := by decide +kernel
theorem dX12_clocks_89 : decode cX12_clocks 89 = .ok (.goto (-22), 3) := by decide +kernel
theorem dX12_clocks_92 : decode cX12_clocks 92 = .ok (.iconst 0, 1) := by decide +kernel
theorem dX12_clocks_93 : decode cX12_clocks 93 = .ok (.istore 9, 2) := by decide +kernel
theorem dX12_clocks_95 : decode cX12_clocks 95 = .ok (.iload 9, 2) := by decide +kernel
theorem dX12_clocks_97 : decode cX12_clocks 97 = .ok (.iconst 1, 1) := by decide +kernel
theorem dX12_clocks_98 : decode cX12_clocks 98 = .ok (.aload_n 0, 1) := by decide +kernel
theorem dX12_clocks_99 : decode cX12_clocks 99 = .ok (.getfield 7, 3) := by decide +kernel
theorem dX12_clocks_102 : decode cX12_clocks 102 = .ok (.iconst 5, 1) := by decide +kernel
theorem dX12_clocks_103 : decode cX12_clocks 103 = .ok (.iaload, 1) := by decide +kernel
theorem dX12_clocks_104 : decode cX12_clocks 104 = .ok (.ishl, 1) := by decide +kernel
theorem dX12_clocks_105 : decode cX12_clocks 105 = .ok (.if_icmp .ge 80, 3) := by decide +kernel
theorem dX12_clocks_108 : decode cX12_clocks 108 = .ok (.lconst 1, 1) := by decide +kernel
theorem dX12_clocks_109 : decode cX12_clocks 109 = .ok (.lstore 10, 2) := by decide +kernel
theorem dX12_clocks_111 : decode cX12_clocks 111 = .ok (.iconst 0, 1) := by decide +kernel
theorem dX12_clocks_112 : decode cX12_clocks 112 = .ok (.istore 12, 2) := by decide +kernel
theorem dX12_clocks_114 : decode cX12_clocks 114 = .ok (.iload 12, 2) := by decide +kernel
theorem dX12_clocks_116 : decode cX12_clocks 116 = .ok (.aload_n 0, 1) := by decide +kernel
theorem dX12_clocks_117 : decode cX12_clocks 117 = .ok (.getfield 7, 3) := by decide +kernel
theorem dX12_clocks_120 : decode cX12_clocks 120 = .ok (.iconst 5, 1) := by decide +kernel
theorem dX12_clocks_121 : decode cX12_clocks 121 = .ok (.iaload, 1) := by decide +kernel
theorem dX12_clocks_122 : decode cX12_clocks 122 = .ok (.if_icmp .ge 34, 3) := by decide +kernel
theorem dX12_clocks_125 : decode cX12_clocks 125 = .ok (.lload 10, 2) := by decide +kernel
theorem dX12_clocks_127 : decode cX12_clocks 127 = .ok (.iload 9, 2) := by decide +kernel
theorem dX12_clocks_129 : decode cX12_clocks 129 = .ok (.iload 12, 2) := by decide +kernel
theorem dX12_clocks_131 : decode cX12_clocks 131 = .ok (.invokestatic 260, 3) := by decide +kernel
theorem dX12_clocks_134 : decode cX12_clocks 134 = .ok (.ifCond .eq 8, 3) := by decide +kernel
theorem dX12_clocks_137 : decode cX12_clocks 137 = .ok (.iload_n 2, 1) := by decide +kernel
theorem dX12_clocks_138 : decode cX12_clocks 138 = .ok (.i2l, 1) := by decide +kernel
theorem dX12_clocks_139 : decode cX12_clocks 139 = .ok (.goto 8, 3) := by decide +kernel
theorem dX12_clocks_142 : decode cX12_clocks 142 = .ok (.bipush 10, 2) := by decide +kernel
theorem dX12_clocks_144 : decode cX12_clocks 144 = .ok (.iload_n 2, 1) := by decide +kernel
theorem dX12_clocks_145 : decode cX12_clocks 145 = .ok (.isub, 1) := by decide +kernel
theorem dX12_clocks_146 : decode cX12_clocks 146 = .ok (.i2l, 1) := by decide +kernel
theorem dX12_clocks_147 : decode cX12_clocks 147 = .ok (.lmul, 1) := by decide +kernel
theorem dX12_clocks_148 : decode cX12_clocks 148 = .ok (.lstore 10, 2) := by decide +kernel
theorem dX12_clocks_150 : decode cX12_clocks 150 = .ok (.iinc 12 1, 3) := by decide +kernel
theorem dX12_clocks_153 : decode cX12_clocks 153 = .ok (.goto (-39), 3) := by decide +kernel
theorem dX12_clocks_156 : decode cX12_clocks 156 = .ok (.lload 5, 2) := by decide +kernel
theorem dX12_clocks_158 : decode cX12_clocks 158 = .ok (.iload 9, 2) := by decide +kernel
theorem dX12_clocks_160 : decode cX12_clocks 160 = .ok (.iload 4, 2) := by decide +kernel
theorem dX12_clocks_162 : decode cX12_clocks 162 = .ok (.ior, 1) := by decide +kernel
theorem dX12_clocks_163 : decode cX12_clocks 163 = .ok (.invokestatic 268, 3) := by decide +kernel
theorem dX12_clocks_166 : decode cX12_clocks 166 = .ok (.iload_n 3, 1) := by decide +kernel
theorem dX12_clocks_167 : decode cX12_clocks 167 = .ok (.if_icmp .gt 8, 3) := by decide +kernel
theorem dX12_clocks_170 : decode cX12_clocks 170 = .ok (.lload 10, 2) := by decide +kernel
theorem dX12_clocks_172 : decode cX12_clocks 172 = .ok (.goto 4, 3) := by decide +kernel
theorem dX12_clocks_175 : decode cX12_clocks 175 = .ok (.lconst 0, 1) := by decide +kernel
theorem dX12_clocks_176 : decode cX12_clocks 176 = .ok (.ladd, 1) := by decide +kernel
theorem dX12_clocks_177 : decode cX12_clocks 177 = .ok (.lstore 5, 2) := by decide +kernel
theorem dX12_clocks_179 : decode cX12_clocks 179 = .ok (.iinc 9 1, 3) := by decide +kernel
theorem dX12_clocks_182 : decode cX12_clocks 182 = .ok (.goto (-87), 3) := by decide +kernel
theorem dX12_clocks_185 : decode cX12_clocks 185 = .ok (.aload_n 0, 1) := by decide +kernel
theorem dX12_clocks_186 : decode cX12_clocks 186 = .ok (.lload 5, 2) := by decide +kernel
theorem dX12_clocks_188 : decode cX12_clocks 188 = .ok (.lload 7, 2) := by decide +kernel
theorem dX12_clocks_190 : decode cX12_clocks 190 = .ok (.invokevirtual 271, 3) := by decide +kernel
theorem dX12_clocks_193 : decode cX12_clocks 193 = .ok (.iconst 1, 1) := by decide +kernel
theorem dX12_clocks_194 : decode cX12_clocks 194 = .ok (.ireturn, 1) := by decide +kernel
theorem dX12_nights_0 : decode cX12_nights 0 = .ok (.iload_n 1, 1) := by decide +kernel
theorem dX12_nights_1 : decode cX12_nights 1 = .ok (.i2l, 1) := by decide +kernel
theorem dX12_nights_2 : decode cX12_nights 2 = .ok (.lconst 0, 1) := by decide +kernel
theorem dX12_nights_3 : decode cX12_nights 3 = .ok (.ldc2_w 275, 3) := by decide +kernel
theorem dX12_nights_6 : decode cX12_nights 6 = .ok (.invokestatic 75, 3) := by decide +kernel
theorem dX12_nights_9 : decode cX12_nights 9 = .ok (.ifCond .eq 10, 3) := by decide +kernel
theorem dX12_nights_12 : decode cX12_nights 12 = .ok (.iload_n 2, 1) := by decide +kernel
theorem dX12_nights_13 : decode cX12_nights 13 = .ok (.invokestatic 208, 3) := by decide +kernel
theorem dX12_nights_16 : decode cX12_nights 16 = .ok (.ifCond .ne 8, 3) := by decide +kernel
theorem dX12_nights_19 : decode cX12_nights 19 = .ok (.aload_n 0, 1) := by decide +kernel
theorem dX12_nights_20 : decode cX12_nights 20 = .ok (.invokevirtual 95, 3) := by decide +kernel
theorem dX12_nights_23 : decode cX12_nights 23 = .ok (.ireturn, 1) := by decide +kernel
theorem dX12_nights_24 : decode cX12_nights 24 = .ok (.iconst 0, 1) := by decide +kernel
theorem dX12_nights_25 : decode cX12_nights 25 = .ok (.istore_n 3, 1) := by decide +kernel
theorem dX12_nights_26 : decode cX12_nights 26 = .ok (.iload_n 3, 1) := by decide +kernel
theorem dX12_nights_27 : decode cX12_nights 27 = .ok (.iconst 5, 1) := by decide +kernel
theorem dX12_nights_28 : decode cX12_nights 28 = .ok (.if_icmp .ge 21, 3) := by decide +kernel
theorem dX12_nights_31 : decode cX12_nights 31 = .ok (.aload_n 0, 1) := by decide +kernel
theorem dX12_nights_32 : decode cX12_nights 32 = .ok (.getfield 55, 3) := by decide +kernel
theorem dX12_nights_35 : decode cX12_nights 35 = .ok (.iload_n 3, 1) := by decide +kernel
theorem dX12_nights_36 : decode cX12_nights 36 = .ok (.aload_n 0, 1) := by decide +kernel
theorem dX12_nights_37 : decode cX12_nights 37 = .ok (.getfield 7, 3) := by decide +kernel
theorem dX12_nights_40 : decode cX12_nights 40 = .ok (.iload_n 3, 1) := by decide +kernel
theorem dX12_nights_41 : decode cX12_nights 41 = .ok (.iaload, 1) := by decide +kernel
theorem dX12_nights_42 : decode cX12_nights 42 = .ok (.iastore, 1) := by decide +kernel
theorem dX12_nights_43 : decode cX12_nights 43 = .ok (.iinc 3 1, 3) := by decide +kernel
theorem dX12_nights_46 : decode cX12_nights 46 = .ok (.goto (-20), 3) := by decide +kernel
theorem dX12_nights_49 : decode cX12_nights 49 = .ok (.iload_n 1, 1) := by decide +kernel
theorem dX12_nights_50 : decode cX12_nights 50 = .ok (.i2l, 1) := by decide +kernel
theorem dX12_nights_51 : decode cX12_nights 51 = .ok (.lstore_n 3, 1) := by decide +kernel
theorem dX12_nights_52 : decode cX12_nights 52 = .ok (.iconst 0, 1) := by decide +kernel
theorem dX12_nights_53 : decode cX12_nights 53 = .ok (.istore 5, 2) := by decide +kernel
theorem dX12_nights_55 : decode cX12_nights 55 = .ok (.iload 5, 2) := by decide +kernel
theorem dX12_nights_57 : decode cX12_nights 57 = .ok (.iload_n 2, 1) := by decide +kernel
theorem dX12_nights_58 : decode cX12_nights 58 = .ok (.if_icmp .ge 82, 3) := by decide +kernel
theorem dX12_nights_61 : decode cX12_nights 61 = .ok (.iconst 0, 1) := by decide +kernel
theorem dX12_nights_62 : decode cX12_nights 62 = .ok (.istore 6, 2) := by decide +kernel
theorem dX12_nights_64 : decode cX12_nights 64 = .ok (.iload 6, 2) := by decide +kernel
theorem dX12_nights_66 : decode cX12_nights 66 = .ok (.iconst 3, 1) := by decide +kernel
theorem dX12_nights_67 : decode cX12_nights 67 = .ok (.if_icmp .ge 62, 3) := by decide +kernel
theorem dX12_nights_70 : decode cX12_nights 70 = .ok (.lload_n 3, 1) := by decide +kernel
theorem dX12_nights_71 : decode cX12_nights 71 = .ok (.ldc2_w 277, 3) := by decide +kernel
theorem dX12_nights_74 : decode cX12_nights 74 = .ok (.lmul, 1) := by decide +kernel
theorem dX12_nights_75 : decode cX12_nights 75 = .ok (.ldc2_w 279, 3) := by decide +kernel
theorem dX12_nights_78 : decode cX12_nights 78 = .ok (.ladd, 1) := by decide +kernel
theorem dX12_nights_79 : decode cX12_nights 79 = .ok (.ldc2_w 281, 3) := by decide +kernel
theorem dX12_nights_82 : decode cX12_nights 82 = .ok (.lrem, 1) := by decide +kernel
theorem dX12_nights_83 : decode cX12_nights 83 = .ok (.lstore_n 3, 1) := by decide +kernel
theorem dX12_nights_84 : decode cX12_nights 84 = .ok (.lload_n 3, 1) := by decide +kernel
theorem dX12_nights_85 : decode cX12_nights 85 = .ok (.ldc2_w 283, 3) := by decide +kernel
theorem dX12_nights_88 : decode cX12_nights 88 = .ok (.ldiv, 1) := by decide +kernel
theorem dX12_nights_89 : decode cX12_nights 89 = .ok (.ldc2_w 285, 3) := by decide +kernel
theorem dX12_nights_92 : decode cX12_nights 92 = .ok (.lrem, 1) := by decide +kernel
theorem dX12_nights_93 : decode cX12_nights 93 = .ok (.l2i, 1) := by decide +kernel
theorem dX12_nights_94 : decode cX12_nights 94 = .ok (.istore 7, 2) := by decide +kernel
theorem dX12_nights_96 : decode cX12_nights 96 = .ok (.aload_n 0, 1) := by decide +kernel
theorem dX12_nights_97 : decode cX12_nights 97 = .ok (.aload_n 0, 1) := by decide +kernel
theorem dX12_nights_98 : decode cX12_nights 98 = .ok (.getfield 7, 3) := by decide +kernel
theorem dX12_nights_101 : decode cX12_nights 101 = .ok (.iconst 2, 1) := by decide +kernel
theorem dX12_nights_102 : decode cX12_nights 102 = .ok (.iload 6, 2) := by decide +kernel
theorem dX12_nights_104 : decode cX12_nights 104 = .ok (.iadd, 1) := by decide +kernel
theorem dX12_nights_105 : decode cX12_nights 105 = .ok (.iaload, 1) := by decide +kernel
theorem dX12_nights_106 : decode cX12_nights 106 = .ok (.iload 7, 2) := by decide +kernel
theorem dX12_nights_108 : decode cX12_nights 108 = .ok (.invokevirtual 99, 3) := by decide +kernel
theorem dX12_nights_111 : decode cX12_nights 111 = .ok (.ifCond .lt 12, 3) := by decide +kernel
theorem dX12_nights_114 : decode cX12_nights 114 = .ok (.aload_n 0, 1) := by decide +kernel
theorem dX12_nights_115 : decode cX12_nights 115 = .ok (.iload 6, 2) := by decide +kernel
theorem dX12_nights_117 : decode cX12_nights 117 = .ok (.iload 7, 2) := by decide +kernel
theorem dX12_nights_119 : decode cX12_nights 119 = .ok (.invokevirtual 220, 3) := by decide +kernel
theorem dX12_nights_122 : decode cX12_nights 122 = .ok (.pop, 1) := by decide +kernel
theorem dX12_nights_123 : decode cX12_nights 123 = .ok (.iinc 6 1, 3) := by decide +kernel
theorem dX12_nights_126 : decode cX12_nights 126 = .ok (.goto (-62), 3) := by decide +kernel
theorem dX12_nights_129 : decode cX12_nights 129 = .ok (.aload_n 0, 1) := by decide +kernel
theorem dX12_nights_130 : decode cX12_nights 130 = .ok (.iconst 1, 1) := by decide +kernel
theorem dX12_nights_131 : decode cX12_nights 131 = .ok (.invokevirtual 223, 3) := by decide +kernel
theorem dX12_nights_134 : decode cX12_nights 134 = .ok (.iinc 5 1, 3) := by decide +kernel
theorem dX12_nights_137 : decode cX12_nights 137 = .ok (.goto (-82), 3) := by decide +kernel
theorem dX12_nights_140 : decode cX12_nights 140 = .ok (.aload_n 0, 1) := by decide +kernel
theorem dX12_nights_141 : decode cX12_nights 141 = .ok (.getfield 7, 3) := by decide +kernel
theorem dX12_nights_144 : decode cX12_nights 144 = .ok (.iconst 1, 1) := by decide +kernel
theorem dX12_nights_145 : decode cX12_nights 145 = .ok (.iaload, 1) := by decide +kernel
theorem dX12_nights_146 : decode cX12_nights 146 = .ok (.invokestatic 268, 3) := by decide +kernel
theorem dX12_nights_149 : decode cX12_nights 149 = .ok (.istore 5, 2) := by decide +kernel
theorem dX12_nights_151 : decode cX12_nights 151 = .ok (.iconst 0, 1) := by decide +kernel
theorem dX12_nights_152 : decode cX12_nights 152 = .ok (.istore 6, 2) := by decide +kernel
theorem dX12_nights_154 : decode cX12_nights 154 = .ok (.iload 6, 2) := by decide +kernel
theorem dX12_nights_156 : decode cX12_nights 156 = .ok (.iconst 5, 1) := by decide +kernel
theorem dX12_nights_157 : decode cX12_nights 157 = .ok (.if_icmp .ge 23, 3) := by decide +kernel
theorem dX12_nights_160 : decode cX12_nights 160 = .ok (.aload_n 0, 1) := by decide +kernel
theorem dX12_nights_161 : decode cX12_nights 161 = .ok (.getfield 7, 3) := by decide +kernel
theorem dX12_nights_164 : decode cX12_nights 164 = .ok (.iload 6, 2) := by decide +kernel
theorem dX12_nights_166 : decode cX12_nights 166 = .ok (.aload_n 0, 1) := by decide +kernel
theorem dX12_nights_167 : decode cX12_nights 167 = .ok (.getfield 55, 3) := by decide +kernel
theorem dX12_nights_170 : decode cX12_nights 170 = .ok (.iload 6, 2) := by decide +kernel
theorem dX12_nights_172 : decode cX12_nights 172 = .ok (.iaload, 1) := by decide +kernel
theorem dX12_nights_173 : decode cX12_nights 173 = .ok (.iastore, 1) := by decide +kernel
theorem dX12_nights_174 : decode cX12_nights 174 = .ok (.iinc 6 1, 3) := by decide +kernel
theorem dX12_nights_177 : decode cX12_nights 177 = .ok (.goto (-23), 3) := by decide +kernel
theorem dX12_nights_180 : decode cX12_nights 180 = .ok (.iload 5, 2) := by decide +kernel
theorem dX12_nights_182 : decode cX12_nights 182 = .ok (.ireturn, 1) := by decide +kernel
theorem dX12_part_0 : decode cX12_part 0 = .ok (.iload_n 1, 1) := by decide +kernel
theorem dX12_part_1 : decode cX12_part 1 = .ok (.ifCond .ne 10, 3) := by decide +kernel
theorem dX12_part_4 : decode cX12_part 4 = .ok (.aload_n 0, 1) := by decide +kernel
theorem dX12_part_5 : decode cX12_part 5 = .ok (.getfield 263, 3) := by decide +kernel
theorem dX12_part_8 : decode cX12_part 8 = .ok (.goto 20, 3) := by decide +kernel
theorem dX12_part_11 : decode cX12_part 11 = .ok (.iload_n 1, 1) := by decide +kernel
theorem dX12_part_12 : decode cX12_part 12 = .ok (.iconst 1, 1) := by decide +kernel
theorem dX12_part_13 : decode cX12_part 13 = .ok (.if_icmp .ne 10, 3) := by decide +kernel
theorem dX12_part_16 : decode cX12_part 16 = .ok (.aload_n 0, 1) := by decide +kernel
theorem dX12_part_17 : decode cX12_part 17 = .ok (.getfield 13, 3) := by decide +kernel
theorem dX12_part_20 : decode cX12_part 20 = .ok (.goto 8, 3) := by decide +kernel
theorem dX12_part_23 : decode cX12_part 23 = .ok (.aload_n 0, 1) := by decide +kernel
theorem dX12_part_24 : decode cX12_part 24 = .ok (.invokevirtual 95, 3) := by decide +kernel
theorem dX12_part_27 : decode cX12_part 27 = .ok (.i2l, 1) := by decide +kernel
theorem dX12_part_28 : decode cX12_part 28 = .ok (.lreturn, 1) := by decide +kernel
theorem dX12_image_0 : decode cX12_image 0 = .ok (.iload_n 1, 1) := by decide +kernel
theorem dX12_image_1 : decode cX12_image 1 = .ok (.invokestatic 238, 3) := by decide +kernel
theorem dX12_image_4 : decode cX12_image 4 = .ok (.ifCond .ne 8, 3) := by decide +kernel
theorem dX12_image_7 : decode cX12_image 7 = .ok (.aload_n 0, 1) := by decide +kernel
theorem dX12_image_8 : decode cX12_image 8 = .ok (.invokevirtual 95, 3) := by decide +kernel
theorem dX12_image_11 : decode cX12_image 11 = .ok (.ireturn, 1) := by decide +kernel
theorem dX12_image_12 : decode cX12_image 12 = .ok (.iconst 0, 1) := by decide +kernel
theorem dX12_image_13 : decode cX12_image 13 = .ok (.istore_n 2, 1) := by decide +kernel
theorem dX12_image_14 : decode cX12_image 14 = .ok (.iload_n 2, 1) := by decide +kernel
theorem dX12_image_15 : decode cX12_image 15 = .ok (.bipush 99, 2) := by decide +kernel
theorem dX12_image_17 : decode cX12_image 17 = .ok (.if_icmp .ge 26, 3) := by decide +kernel
theorem dX12_image_20 : decode cX12_image 20 = .ok (.aload_n 0, 1) := by decide +kernel
theorem dX12_image_21 : decode cX12_image 21 = .ok (.getfield 61, 3) := by decide +kernel
theorem dX12_image_24 : decode cX12_image 24 = .ok (.bipush 99, 2) := by decide +kernel
theorem dX12_image_26 : decode cX12_image 26 = .ok (.iload_n 1, 1) := by decide +kernel
theorem dX12_image_27 : decode cX12_image 27 = .ok (.imul, 1) := by decide +kernel
theorem dX12_image_28 : decode cX12_image 28 = .ok (.iload_n 2, 1) := by decide +kernel
theorem dX12_image_29 : decode cX12_image 29 = .ok (.iadd, 1) := by decide +kernel
theorem dX12_image_30 : decode cX12_image 30 = .ok (.aload_n 0, 1) := by decide +kernel
theorem dX12_image_31 : decode cX12_image 31 = .ok (.getfield 7, 3) := by decide +kernel
theorem dX12_image_34 : decode cX12_image 34 = .ok (.iload_n 2, 1) := by decide +kernel
theorem dX12_image_35 : decode cX12_image 35 = .ok (.iaload, 1) := by decide +kernel
theorem dX12_image_36 : decode cX12_image 36 = .ok (.iastore, 1) := by decide +kernel
theorem dX12_image_37 : decode cX12_image 37 = .ok (.iinc 2 1, 3) := by decide +kernel
theorem dX12_image_40 : decode cX12_image 40 = .ok (.goto (-26), 3) := by decide +kernel
theorem dX12_image_43 : decode cX12_image 43 = .ok (.iconst 0, 1) := by decide +kernel
theorem dX12_image_44 : decode cX12_image 44 = .ok (.istore_n 2, 1) := by decide +kernel
theorem dX12_image_45 : decode cX12_image 45 = .ok (.iload_n 2, 1) := by decide +kernel
theorem dX12_image_46 : decode cX12_image 46 = .ok (.bipush 40, 2) := by decide +kernel
theorem dX12_image_48 : decode cX12_image 48 = .ok (.if_icmp .ge 26, 3) := by decide +kernel
theorem dX12_image_51 : decode cX12_image 51 = .ok (.aload_n 0, 1) := by decide +kernel
theorem dX12_image_52 : decode cX12_image 52 = .ok (.getfield 64, 3) := by decide +kernel
theorem dX12_image_55 : decode cX12_image 55 = .ok (.bipush 40, 2) := by decide +kernel
theorem dX12_image_57 : decode cX12_image 57 = .ok (.iload_n 1, 1) := by decide +kernel
theorem dX12_image_58 : decode cX12_image 58 = .ok (.imul, 1) := by decide +kernel
theorem dX12_image_59 : decode cX12_image 59 = .ok (.iload_n 2, 1) := by decide +kernel
theorem dX12_image_60 : decode cX12_image 60 = .ok (.iadd, 1) := by decide +kernel
theorem dX12_image_61 : decode cX12_image 61 = .ok (.aload_n 0, 1) := by decide +kernel
theorem dX12_image_62 : decode cX12_image 62 = .ok (.getfield 29, 3) := by decide +kernel
theorem dX12_image_65 : decode cX12_image 65 = .ok (.iload_n 2, 1) := by decide +kernel
theorem dX12_image_66 : decode cX12_image 66 = .ok (.iaload, 1) := by decide +kernel
theorem dX12_image_67 : decode cX12_image 67 = .ok (.iastore, 1) := by decide +kernel
theorem dX12_image_68 : decode cX12_image 68 = .ok (.iinc 2 1, 3) := by decide +kernel
theorem dX12_image_71 : decode cX12_image 71 = .ok (.goto (-26), 3) := by decide +kernel
theorem dX12_image_74 : decode cX12_image 74 = .ok (.aload_n 0, 1) := by decide +kernel
theorem dX12_image_75 : decode cX12_image 75 = .ok (.getfield 67, 3) := by decide +kernel
theorem dX12_image_78 : decode cX12_image 78 = .ok (.iload_n 1, 1) := by decide +kernel
theorem dX12_image_79 : decode cX12_image 79 = .ok (.aload_n 0, 1) := by decide +kernel
theorem dX12_image_80 : decode cX12_image 80 = .ok (.getfield 81, 3) := by decide +kernel
theorem dX12_image_83 : decode cX12_image 83 = .ok (.iastore, 1) := by decide +kernel
theorem dX12_image_84 : decode cX12_image 84 = .ok (.aload_n 0, 1) := by decide +kernel
theorem dX12_image_85 : decode cX12_image 85 = .ok (.getfield 58, 3) := by decide +kernel
theorem dX12_image_88 : decode cX12_image 88 = .ok (.iload_n 1, 1) := by decide +kernel
theorem dX12_image_89 : decode cX12_image 89 = .ok (.iconst 1, 1) := by decide +kernel
theorem dX12_image_90 : decode cX12_image 90 = .ok (.bastore, 1) := by decide +kernel
theorem dX12_image_91 : decode cX12_image 91 = .ok (.iconst 1, 1) := by decide +kernel
theorem dX12_image_92 : decode cX12_image 92 = .ok (.ireturn, 1) := by decide +kernel
theorem dX12_from_0 : decode cX12_from 0 = .ok (.iload_n 1, 1) := by decide +kernel
theorem dX12_from_1 : decode cX12_from 1 = .ok (.invokestatic 238, 3) := by decide +kernel
theorem dX12_from_4 : decode cX12_from 4 = .ok (.ifCond .ne 8, 3) := by decide +kernel
theorem dX12_from_7 : decode cX12_from 7 = .ok (.aload_n 0, 1) := by decide +kernel
theorem dX12_from_8 : decode cX12_from 8 = .ok (.invokevirtual 95, 3) := by decide +kernel
theorem dX12_from_11 : decode cX12_from 11 = .ok (.ireturn, 1) := by decide +kernel
theorem dX12_from_12 : decode cX12_from 12 = .ok (.aload_n 0, 1) := by decide +kernel
theorem dX12_from_13 : decode cX12_from 13 = .ok (.getfield 58, 3) := by decide +kernel
theorem dX12_from_16 : decode cX12_from 16 = .ok (.iload_n 1, 1) := by decide +kernel
theorem dX12_from_17 : decode cX12_from 17 = .ok (.baload, 1) := by decide +kernel
theorem dX12_from_18 : decode cX12_from 18 = .ok (.ifCond .ne 8, 3) := by decide +kernel
theorem dX12_from_21 : decode cX12_from 21 = .ok (.aload_n 0, 1) := by decide +kernel
theorem dX12_from_22 : decode cX12_from 22 = .ok (.invokevirtual 214, 3) := by decide +kernel
theorem dX12_from_25 : decode cX12_from 25 = .ok (.ireturn, 1) := by decide +kernel
theorem dX12_from_26 : decode cX12_from 26 = .ok (.iconst 0, 1) := by decide +kernel
theorem dX12_from_27 : decode cX12_from 27 = .ok (.istore_n 2, 1) := by decide +kernel
theorem dX12_from_28 : decode cX12_from 28 = .ok (.iload_n 2, 1) := by decide +kernel
theorem dX12_from_29 : decode cX12_from 29 = .ok (.bipush 99, 2) := by decide +kernel
theorem dX12_from_31 : decode cX12_from 31 = .ok (.if_icmp .ge 26, 3) := by decide +kernel
theorem dX12_from_34 : decode cX12_from 34 = .ok (.aload_n 0, 1) := by decide +kernel
theorem dX12_from_35 : decode cX12_from 35 = .ok (.getfield 7, 3) := by decide +kernel
theorem dX12_from_38 : decode cX12_from 38 = .ok (.iload_n 2, 1) := by decide +kernel
theorem dX12_from_39 : decode cX12_from 39 = .ok (.aload_n 0, 1) := by decide +kernel
theorem dX12_from_40 : decode cX12_from 40 = .ok (.getfield 61, 3) := by decide +kernel
theorem dX12_from_43 : decode cX12_from 43 = .ok (.bipush 99, 2) := by decide +kernel
theorem dX12_from_45 : decode cX12_from 45 = .ok (.iload_n 1, 1) := by decide +kernel
theorem dX12_from_46 : decode cX12_from 46 = .ok (.imul, 1) := by decide +kernel
theorem dX12_from_47 : decode cX12_from 47 = .ok (.iload_n 2, 1) := by decide +kernel
theorem dX12_from_48 : decode cX12_from 48 = .ok (.iadd, 1) := by decide +kernel
theorem dX12_from_49 : decode cX12_from 49 = .ok (.iaload, 1) := by decide +kernel
theorem dX12_from_50 : decode cX12_from 50 = .ok (.iastore, 1) := by decide +kernel
theorem dX12_from_51 : decode cX12_from 51 = .ok (.iinc 2 1, 3) := by decide +kernel
theorem dX12_from_54 : decode cX12_from 54 = .ok (.goto (-26), 3) := by decide +kernel
theorem dX12_from_57 : decode cX12_from 57 = .ok (.iconst 0, 1) := by decide +kernel
theorem dX12_from_58 : decode cX12_from 58 = .ok (.istore_n 2, 1) := by decide +kernel
theorem dX12_from_59 : decode cX12_from 59 = .ok (.iload_n 2, 1) := by decide +kernel
theorem dX12_from_60 : decode cX12_from 60 = .ok (.bipush 40, 2) := by decide +kernel
theorem dX12_from_62 : decode cX12_from 62 = .ok (.if_icmp .ge 26, 3) := by decide +kernel
theorem dX12_from_65 : decode cX12_from 65 = .ok (.aload_n 0, 1) := by decide +kernel
theorem dX12_from_66 : decode cX12_from 66 = .ok (.getfield 29, 3) := by decide +kernel
theorem dX12_from_69 : decode cX12_from 69 = .ok (.iload_n 2, 1) := by decide +kernel
theorem dX12_from_70 : decode cX12_from 70 = .ok (.aload_n 0, 1) := by decide +kernel
theorem dX12_from_71 : decode cX12_from 71 = .ok (.getfield 64, 3) := by decide +kernel
theorem dX12_from_74 : decode cX12_from 74 = .ok (.bipush 40, 2) := by decide +kernel
theorem dX12_from_76 : decode cX12_from 76 = .ok (.iload_n 1, 1) := by decide +kernel
theorem dX12_from_77 : decode cX12_from 77 = .ok (.imul, 1) := by decide +kernel
theorem dX12_from_78 : decode cX12_from 78 = .ok (.iload_n 2, 1) := by decide +kernel
theorem dX12_from_79 : decode cX12_from 79 = .ok (.iadd, 1) := by decide +kernel
theorem dX12_from_80 : decode cX12_from 80 = .ok (.iaload, 1) := by decide +kernel
theorem dX12_from_81 : decode cX12_from 81 = .ok (.iastore, 1) := by decide +kernel
theorem dX12_from_82 : decode cX12_from 82 = .ok (.iinc 2 1, 3) := by decide +kernel
theorem dX12_from_85 : decode cX12_from 85 = .ok (.goto (-26), 3) := by decide +kernel
theorem dX12_from_88 : decode cX12_from 88 = .ok (.aload_n 0, 1) := by decide +kernel
theorem dX12_from_89 : decode cX12_from 89 = .ok (.aload_n 0, 1) := by decide +kernel
theorem dX12_from_90 : decode cX12_from 90 = .ok (.getfield 67, 3) := by decide +kernel
theorem dX12_from_93 : decode cX12_from 93 = .ok (.iload_n 1, 1) := by decide +kernel
theorem dX12_from_94 : decode cX12_from 94 = .ok (.iaload, 1) := by decide +kernel
theorem dX12_from_95 : decode cX12_from 95 = .ok (.putfield 81, 3) := by decide +kernel
theorem dX12_from_98 : decode cX12_from 98 = .ok (.iconst 1, 1) := by decide +kernel
theorem dX12_from_99 : decode cX12_from 99 = .ok (.ireturn, 1) := by decide +kernel
theorem dX12_status_0 : decode cX12_status 0 = .ok (.iload_n 1, 1) := by decide +kernel
theorem dX12_status_1 : decode cX12_status 1 = .ok (.i2l, 1) := by decide +kernel
theorem dX12_status_2 : decode cX12_status 2 = .ok (.lconst 0, 1) := by decide +kernel
theorem dX12_status_3 : decode cX12_status 3 = .ok (.ldc2_w 118, 3) := by decide +kernel
theorem dX12_status_6 : decode cX12_status 6 = .ok (.invokestatic 75, 3) := by decide +kernel
theorem dX12_status_9 : decode cX12_status 9 = .ok (.ifCond .ne 10, 3) := by decide +kernel
theorem dX12_status_12 : decode cX12_status 12 = .ok (.aload_n 0, 1) := by decide +kernel
theorem dX12_status_13 : decode cX12_status 13 = .ok (.invokevirtual 95, 3) := by decide +kernel
theorem dX12_status_16 : decode cX12_status 16 = .ok (.pop, 1) := by decide +kernel
theorem dX12_status_17 : decode cX12_status 17 = .ok (.iconst (-1), 1) := by decide +kernel
theorem dX12_status_18 : decode cX12_status 18 = .ok (.ireturn, 1) := by decide +kernel
theorem dX12_status_19 : decode cX12_status 19 = .ok (.aload_n 0, 1) := by decide +kernel
theorem dX12_status_20 : decode cX12_status 20 = .ok (.getfield 17, 3) := by decide +kernel
theorem dX12_status_23 : decode cX12_status 23 = .ok (.iload_n 1, 1) := by decide +kernel
theorem dX12_status_24 : decode cX12_status 24 = .ok (.iaload, 1) := by decide +kernel
theorem dX12_status_25 : decode cX12_status 25 = .ok (.ireturn, 1) := by decide +kernel
theorem dX12_countOf_0 : decode cX12_countOf 0 = .ok (.iload_n 1, 1) := by decide +kernel
theorem dX12_countOf_1 : decode cX12_countOf 1 = .ok (.tableswitch 84 0 5 #[39, 46, 54, 61, 71, 79], 39) := by decide +kernel
theorem dX12_countOf_40 : decode cX12_countOf 40 = .ok (.aload_n 0, 1) := by decide +kernel
theorem dX12_countOf_41 : decode cX12_countOf 41 = .ok (.getfield 7, 3) := by decide +kernel
theorem dX12_countOf_44 : decode cX12_countOf 44 = .ok (.iconst 5, 1) := by decide +kernel
theorem dX12_countOf_45 : decode cX12_countOf 45 = .ok (.iaload, 1) := by decide +kernel
theorem dX12_countOf_46 : decode cX12_countOf 46 = .ok (.ireturn, 1) := by decide +kernel
theorem dX12_countOf_47 : decode cX12_countOf 47 = .ok (.aload_n 0, 1) := by decide +kernel
theorem dX12_countOf_48 : decode cX12_countOf 48 = .ok (.getfield 7, 3) := by decide +kernel
theorem dX12_countOf_51 : decode cX12_countOf 51 = .ok (.bipush 21, 2) := by decide +kernel
theorem dX12_countOf_53 : decode cX12_countOf 53 = .ok (.iaload, 1) := by decide +kernel
theorem dX12_countOf_54 : decode cX12_countOf 54 = .ok (.ireturn, 1) := by decide +kernel
theorem dX12_countOf_55 : decode cX12_countOf 55 = .ok (.aload_n 0, 1) := by decide +kernel
theorem dX12_countOf_56 : decode cX12_countOf 56 = .ok (.getfield 7, 3) := by decide +kernel
theorem dX12_countOf_59 : decode cX12_countOf 59 = .ok (.iconst 0, 1) := by decide +kernel
theorem dX12_countOf_60 : decode cX12_countOf 60 = .ok (.iaload, 1) := by decide +kernel
theorem dX12_countOf_61 : decode cX12_countOf 61 = .ok (.ireturn, 1) := by decide +kernel
theorem dX12_countOf_62 : decode cX12_countOf 62 = .ok (.aload_n 0, 1) := by decide +kernel
theorem dX12_countOf_63 : decode cX12_countOf 63 = .ok (.getfield 7, 3) := by decide +kernel
theorem dX12_countOf_66 : decode cX12_countOf 66 = .ok (.iconst 1, 1) := by decide +kernel
theorem dX12_countOf_67 : decode cX12_countOf 67 = .ok (.iaload, 1) := by decide +kernel
theorem dX12_countOf_68 : decode cX12_countOf 68 = .ok (.invokestatic 268, 3) := by decide +kernel
theorem dX12_countOf_71 : decode cX12_countOf 71 = .ok (.ireturn, 1) := by decide +kernel
theorem dX12_countOf_72 : decode cX12_countOf 72 = .ok (.aload_n 0, 1) := by decide +kernel
theorem dX12_countOf_73 : decode cX12_countOf 73 = .ok (.getfield 7, 3) := by decide +kernel
theorem dX12_countOf_76 : decode cX12_countOf 76 = .ok (.bipush 52, 2) := by decide +kernel
theorem dX12_countOf_78 : decode cX12_countOf 78 = .ok (.iaload, 1) := by decide +kernel
theorem dX12_countOf_79 : decode cX12_countOf 79 = .ok (.ireturn, 1) := by decide +kernel
theorem dX12_countOf_80 : decode cX12_countOf 80 = .ok (.aload_n 0, 1) := by decide +kernel
theorem dX12_countOf_81 : decode cX12_countOf 81 = .ok (.getfield 81, 3) := by decide +kernel
theorem dX12_countOf_84 : decode cX12_countOf 84 = .ok (.ireturn, 1) := by decide +kernel
theorem dX12_countOf_85 : decode cX12_countOf 85 = .ok (.aload_n 0, 1) := by decide +kernel
theorem dX12_countOf_86 : decode cX12_countOf 86 = .ok (.getfield 130, 3) := by decide +kernel
theorem dX12_countOf_89 : decode cX12_countOf 89 = .ok (.ireturn, 1) := by decide +kernel
theorem dX12_count_0 : decode cX12_count 0 = .ok (.iload_n 1, 1) := by decide +kernel
theorem dX12_count_1 : decode cX12_count 1 = .ok (.i2l, 1) := by decide +kernel
theorem dX12_count_2 : decode cX12_count 2 = .ok (.lconst 0, 1) := by decide +kernel
theorem dX12_count_3 : decode cX12_count 3 = .ok (.ldc2_w 287, 3) := by decide +kernel
theorem dX12_count_6 : decode cX12_count 6 = .ok (.invokestatic 75, 3) := by decide +kernel
theorem dX12_count_9 : decode cX12_count 9 = .ok (.ifCond .eq 11, 3) := by decide +kernel
theorem dX12_count_12 : decode cX12_count 12 = .ok (.aload_n 0, 1) := by decide +kernel
theorem dX12_count_13 : decode cX12_count 13 = .ok (.iload_n 1, 1) := by decide +kernel
theorem dX12_count_14 : decode cX12_count 14 = .ok (.invokevirtual 289, 3) := by decide +kernel
theorem dX12_count_17 : decode cX12_count 17 = .ok (.goto 7, 3) := by decide +kernel
theorem dX12_count_20 : decode cX12_count 20 = .ok (.aload_n 0, 1) := by decide +kernel
theorem dX12_count_21 : decode cX12_count 21 = .ok (.invokevirtual 95, 3) := by decide +kernel
theorem dX12_count_24 : decode cX12_count 24 = .ok (.ireturn, 1) := by decide +kernel
theorem dX12_digest_0 : decode cX12_digest 0 = .ok (.ldc2_w 292, 3) := by decide +kernel
theorem dX12_digest_3 : decode cX12_digest 3 = .ok (.lstore_n 1, 1) := by decide +kernel
theorem dX12_digest_4 : decode cX12_digest 4 = .ok (.iconst 0, 1) := by decide +kernel
theorem dX12_digest_5 : decode cX12_digest 5 = .ok (.istore_n 3, 1) := by decide +kernel
theorem dX12_digest_6 : decode cX12_digest 6 = .ok (.iload_n 3, 1) := by decide +kernel
theorem dX12_digest_7 : decode cX12_digest 7 = .ok (.bipush 7, 2) := by decide +kernel
theorem dX12_digest_9 : decode cX12_digest 9 = .ok (.if_icmp .ge 22, 3) := by decide +kernel
theorem dX12_digest_12 : decode cX12_digest 12 = .ok (.ldc2_w 294, 3) := by decide +kernel
theorem dX12_digest_15 : decode cX12_digest 15 = .ok (.lload_n 1, 1) := by decide +kernel
theorem dX12_digest_16 : decode cX12_digest 16 = .ok (.lmul, 1) := by decide +kernel
theorem dX12_digest_17 : decode cX12_digest 17 = .ok (.aload_n 0, 1) := by decide +kernel
theorem dX12_digest_18 : decode cX12_digest 18 = .ok (.iload_n 3, 1) := by decide +kernel
theorem dX12_digest_19 : decode cX12_digest 19 = .ok (.invokevirtual 289, 3) := by decide +kernel
theorem dX12_digest_22 : decode cX12_digest 22 = .ok (.i2l, 1) := by decide +kernel
theorem dX12_digest_23 : decode cX12_digest 23 = .ok (.ladd, 1) := by decide +kernel
theorem dX12_digest_24 : decode cX12_digest 24 = .ok (.lstore_n 1, 1) := by decide +kernel
theorem dX12_digest_25 : decode cX12_digest 25 = .ok (.iinc 3 1, 3) := by decide +kernel
theorem dX12_digest_28 : decode cX12_digest 28 = .ok (.goto (-22), 3) := by decide +kernel
theorem dX12_digest_31 : decode cX12_digest 31 = .ok (.iconst 0, 1) := by decide +kernel
theorem dX12_digest_32 : decode cX12_digest 32 = .ok (.istore_n 3, 1) := by decide +kernel
theorem dX12_digest_33 : decode cX12_digest 33 = .ok (.iload_n 3, 1) := by decide +kernel
theorem dX12_digest_34 : decode cX12_digest 34 = .ok (.bipush 28, 2) := by decide +kernel
theorem dX12_digest_36 : decode cX12_digest 36 = .ok (.if_icmp .ge 26, 3) := by decide +kernel
theorem dX12_digest_39 : decode cX12_digest 39 = .ok (.ldc2_w 294, 3) := by decide +kernel
theorem dX12_digest_42 : decode cX12_digest 42 = .ok (.lload_n 1, 1) := by decide +kernel
theorem dX12_digest_43 : decode cX12_digest 43 = .ok (.lmul, 1) := by decide +kernel
theorem dX12_digest_44 : decode cX12_digest 44 = .ok (.aload_n 0, 1) := by decide +kernel
theorem dX12_digest_45 : decode cX12_digest 45 = .ok (.getfield 7, 3) := by decide +kernel
theorem dX12_digest_48 : decode cX12_digest 48 = .ok (.bipush 71, 2) := by decide +kernel
theorem dX12_digest_50 : decode cX12_digest 50 = .ok (.iload_n 3, 1) := by decide +kernel
theorem dX12_digest_51 : decode cX12_digest 51 = .ok (.iadd, 1) := by decide +kernel
theorem dX12_digest_52 : decode cX12_digest 52 = .ok (.iaload, 1) := by decide +kernel
theorem dX12_digest_53 : decode cX12_digest 53 = .ok (.i2l, 1) := by decide +kernel
theorem dX12_digest_54 : decode cX12_digest 54 = .ok (.ladd, 1) := by decide +kernel
theorem dX12_digest_55 : decode cX12_digest 55 = .ok (.lstore_n 1, 1) := by decide +kernel
theorem dX12_digest_56 : decode cX12_digest 56 = .ok (.iinc 3 1, 3) := by decide +kernel
theorem dX12_digest_59 : decode cX12_digest 59 = .ok (.goto (-26), 3) := by decide +kernel
theorem dX12_digest_62 : decode cX12_digest 62 = .ok (.iconst 0, 1) := by decide +kernel
theorem dX12_digest_63 : decode cX12_digest 63 = .ok (.istore_n 3, 1) := by decide +kernel
theorem dX12_digest_64 : decode cX12_digest 64 = .ok (.iload_n 3, 1) := by decide +kernel
theorem dX12_digest_65 : decode cX12_digest 65 = .ok (.aload_n 0, 1) := by decide +kernel
theorem dX12_digest_66 : decode cX12_digest 66 = .ok (.getfield 7, 3) := by decide +kernel
theorem dX12_digest_69 : decode cX12_digest 69 = .ok (.iconst 5, 1) := by decide +kernel
theorem dX12_digest_70 : decode cX12_digest 70 = .ok (.iaload, 1) := by decide +kernel
theorem dX12_digest_71 : decode cX12_digest 71 = .ok (.if_icmp .ge 78, 3) := by decide +kernel
theorem dX12_digest_74 : decode cX12_digest 74 = .ok (.ldc2_w 294, 3) := by decide +kernel
theorem dX12_digest_77 : decode cX12_digest 77 = .ok (.lload_n 1, 1) := by decide +kernel
theorem dX12_digest_78 : decode cX12_digest 78 = .ok (.lmul, 1) := by decide +kernel
theorem dX12_digest_79 : decode cX12_digest 79 = .ok (.aload_n 0, 1) := by decide +kernel
theorem dX12_digest_80 : decode cX12_digest 80 = .ok (.getfield 7, 3) := by decide +kernel
theorem dX12_digest_83 : decode cX12_digest 83 = .ok (.bipush 6, 2) := by decide +kernel
theorem dX12_digest_85 : decode cX12_digest 85 = .ok (.iload_n 3, 1) := by decide +kernel
theorem dX12_digest_86 : decode cX12_digest 86 = .ok (.iadd, 1) := by decide +kernel
theorem dX12_digest_87 : decode cX12_digest 87 = .ok (.iaload, 1) := by decide +kernel
theorem dX12_digest_88 : decode cX12_digest 88 = .ok (.i2l, 1) := by decide +kernel
theorem dX12_digest_89 : decode cX12_digest 89 = .ok (.ladd, 1) := by decide +kernel
theorem dX12_digest_90 : decode cX12_digest 90 = .ok (.lstore_n 1, 1) := by decide +kernel
theorem dX12_digest_91 : decode cX12_digest 91 = .ok (.ldc2_w 294, 3) := by decide +kernel
theorem dX12_digest_94 : decode cX12_digest 94 = .ok (.lload_n 1, 1) := by decide +kernel
theorem dX12_digest_95 : decode cX12_digest 95 = .ok (.lmul, 1) := by decide +kernel
theorem dX12_digest_96 : decode cX12_digest 96 = .ok (.aload_n 0, 1) := by decide +kernel
theorem dX12_digest_97 : decode cX12_digest 97 = .ok (.getfield 7, 3) := by decide +kernel
theorem dX12_digest_100 : decode cX12_digest 100 = .ok (.bipush 11, 2) := by decide +kernel
theorem dX12_digest_102 : decode cX12_digest 102 = .ok (.iload_n 3, 1) := by decide +kernel
theorem dX12_digest_103 : decode cX12_digest 103 = .ok (.iadd, 1) := by decide +kernel
theorem dX12_digest_104 : decode cX12_digest 104 = .ok (.iaload, 1) := by decide +kernel
theorem dX12_digest_105 : decode cX12_digest 105 = .ok (.i2l, 1) := by decide +kernel
theorem dX12_digest_106 : decode cX12_digest 106 = .ok (.ladd, 1) := by decide +kernel
theorem dX12_digest_107 : decode cX12_digest 107 = .ok (.lstore_n 1, 1) := by decide +kernel
theorem dX12_digest_108 : decode cX12_digest 108 = .ok (.ldc2_w 294, 3) := by decide +kernel
theorem dX12_digest_111 : decode cX12_digest 111 = .ok (.lload_n 1, 1) := by decide +kernel
theorem dX12_digest_112 : decode cX12_digest 112 = .ok (.lmul, 1) := by decide +kernel
theorem dX12_digest_113 : decode cX12_digest 113 = .ok (.aload_n 0, 1) := by decide +kernel
theorem dX12_digest_114 : decode cX12_digest 114 = .ok (.getfield 7, 3) := by decide +kernel
theorem dX12_digest_117 : decode cX12_digest 117 = .ok (.bipush 16, 2) := by decide +kernel
theorem dX12_digest_119 : decode cX12_digest 119 = .ok (.iload_n 3, 1) := by decide +kernel
theorem dX12_digest_120 : decode cX12_digest 120 = .ok (.iadd, 1) := by decide +kernel
theorem dX12_digest_121 : decode cX12_digest 121 = .ok (.iaload, 1) := by decide +kernel
theorem dX12_digest_122 : decode cX12_digest 122 = .ok (.i2l, 1) := by decide +kernel
theorem dX12_digest_123 : decode cX12_digest 123 = .ok (.ladd, 1) := by decide +kernel
theorem dX12_digest_124 : decode cX12_digest 124 = .ok (.lstore_n 1, 1) := by decide +kernel
theorem dX12_digest_125 : decode cX12_digest 125 = .ok (.ldc2_w 294, 3) := by decide +kernel
theorem dX12_digest_128 : decode cX12_digest 128 = .ok (.lload_n 1, 1) := by decide +kernel
theorem dX12_digest_129 : decode cX12_digest 129 = .ok (.lmul, 1) := by decide +kernel
theorem dX12_digest_130 : decode cX12_digest 130 = .ok (.aload_n 0, 1) := by decide +kernel
theorem dX12_digest_131 : decode cX12_digest 131 = .ok (.getfield 7, 3) := by decide +kernel
theorem dX12_digest_134 : decode cX12_digest 134 = .ok (.iconst 1, 1) := by decide +kernel
theorem dX12_digest_135 : decode cX12_digest 135 = .ok (.iaload, 1) := by decide +kernel
theorem dX12_digest_136 : decode cX12_digest 136 = .ok (.iload_n 3, 1) := by decide +kernel
theorem dX12_digest_137 : decode cX12_digest 137 = .ok (.ishr, 1) := by decide +kernel
theorem dX12_digest_138 : decode cX12_digest 138 = .ok (.iconst 1, 1) := by decide +kernel
theorem dX12_digest_139 : decode cX12_digest 139 = .ok (.iand, 1) := by decide +kernel
theorem dX12_digest_140 : decode cX12_digest 140 = .ok (.i2l, 1) := by decide +kernel
theorem dX12_digest_141 : decode cX12_digest 141 = .ok (.ladd, 1) := by decide +kernel
theorem dX12_digest_142 : decode cX12_digest 142 = .ok (.lstore_n 1, 1) := by decide +kernel
theorem dX12_digest_143 : decode cX12_digest 143 = .ok (.iinc 3 1, 3) := by decide +kernel
theorem dX12_digest_146 : decode cX12_digest 146 = .ok (.goto (-82), 3) := by decide +kernel
theorem dX12_digest_149 : decode cX12_digest 149 = .ok (.iconst 0, 1) := by decide +kernel
theorem dX12_digest_150 : decode cX12_digest 150 = .ok (.istore_n 3, 1) := by decide +kernel
theorem dX12_digest_151 : decode cX12_digest 151 = .ok (.iload_n 3, 1) := by decide +kernel
theorem dX12_digest_152 : decode cX12_digest 152 = .ok (.iconst 3, 1) := by decide +kernel
theorem dX12_digest_153 : decode cX12_digest 153 = .ok (.if_icmp .ge 25, 3) := by decide +kernel
theorem dX12_digest_156 : decode cX12_digest 156 = .ok (.ldc2_w 294, 3) := by decide +kernel
theorem dX12_digest_159 : decode cX12_digest 159 = .ok (.lload_n 1, 1) := by decide +kernel
theorem dX12_digest_160 : decode cX12_digest 160 = .ok (.lmul, 1) := by decide +kernel
theorem dX12_digest_161 : decode cX12_digest 161 = .ok (.aload_n 0, 1) := by decide +kernel
theorem dX12_digest_162 : decode cX12_digest 162 = .ok (.getfield 7, 3) := by decide +kernel
theorem dX12_digest_165 : decode cX12_digest 165 = .ok (.iconst 2, 1) := by decide +kernel
theorem dX12_digest_166 : decode cX12_digest 166 = .ok (.iload_n 3, 1) := by decide +kernel
theorem dX12_digest_167 : decode cX12_digest 167 = .ok (.iadd, 1) := by decide +kernel
theorem dX12_digest_168 : decode cX12_digest 168 = .ok (.iaload, 1) := by decide +kernel
theorem dX12_digest_169 : decode cX12_digest 169 = .ok (.i2l, 1) := by decide +kernel
theorem dX12_digest_170 : decode cX12_digest 170 = .ok (.ladd, 1) := by decide +kernel
theorem dX12_digest_171 : decode cX12_digest 171 = .ok (.lstore_n 1, 1) := by decide +kernel
theorem dX12_digest_172 : decode cX12_digest 172 = .ok (.iinc 3 1, 3) := by decide +kernel
theorem dX12_digest_175 : decode cX12_digest 175 = .ok (.goto (-24), 3) := by decide +kernel
theorem dX12_digest_178 : decode cX12_digest 178 = .ok (.iconst 0, 1) := by decide +kernel
theorem dX12_digest_179 : decode cX12_digest 179 = .ok (.istore_n 3, 1) := by decide +kernel
theorem dX12_digest_180 : decode cX12_digest 180 = .ok (.iload_n 3, 1) := by decide +kernel
theorem dX12_digest_181 : decode cX12_digest 181 = .ok (.aload_n 0, 1) := by decide +kernel
theorem dX12_digest_182 : decode cX12_digest 182 = .ok (.getfield 7, 3) := by decide +kernel
theorem dX12_digest_185 : decode cX12_digest 185 = .ok (.bipush 21, 2) := by decide +kernel
theorem dX12_digest_187 : decode cX12_digest 187 = .ok (.iaload, 1) := by decide +kernel
theorem dX12_digest_188 : decode cX12_digest 188 = .ok (.if_icmp .ge 88, 3) := by decide +kernel
theorem dX12_digest_191 : decode cX12_digest 191 = .ok (.ldc2_w 294, 3) := by decide +kernel
theorem dX12_digest_194 : decode cX12_digest 194 = .ok (.lload_n 1, 1) := by decide +kernel
theorem dX12_digest_195 : decode cX12_digest 195 = .ok (.lmul, 1) := by decide +kernel
theorem dX12_digest_196 : decode cX12_digest 196 = .ok (.aload_n 0, 1) := by decide +kernel
theorem dX12_digest_197 : decode cX12_digest 197 = .ok (.getfield 7, 3) := by decide +kernel
theorem dX12_digest_200 : decode cX12_digest 200 = .ok (.bipush 22, 2) := by decide +kernel
theorem dX12_digest_202 : decode cX12_digest 202 = .ok (.iload_n 3, 1) := by decide +kernel
theorem dX12_digest_203 : decode cX12_digest 203 = .ok (.iadd, 1) := by decide +kernel
theorem dX12_digest_204 : decode cX12_digest 204 = .ok (.iaload, 1) := by decide +kernel
theorem dX12_digest_205 : decode cX12_digest 205 = .ok (.i2l, 1) := by decide +kernel
theorem dX12_digest_206 : decode cX12_digest 206 = .ok (.ladd, 1) := by decide +kernel
theorem dX12_digest_207 : decode cX12_digest 207 = .ok (.lstore_n 1, 1) := by decide +kernel
theorem dX12_digest_208 : decode cX12_digest 208 = .ok (.ldc2_w 294, 3) := by decide +kernel
theorem dX12_digest_211 : decode cX12_digest 211 = .ok (.lload_n 1, 1) := by decide +kernel
theorem dX12_digest_212 : decode cX12_digest 212 = .ok (.lmul, 1) := by decide +kernel
theorem dX12_digest_213 : decode cX12_digest 213 = .ok (.aload_n 0, 1) := by decide +kernel
theorem dX12_digest_214 : decode cX12_digest 214 = .ok (.getfield 7, 3) := by decide +kernel
theorem dX12_digest_217 : decode cX12_digest 217 = .ok (.bipush 27, 2) := by decide +kernel
theorem dX12_digest_219 : decode cX12_digest 219 = .ok (.iload_n 3, 1) := by decide +kernel
theorem dX12_digest_220 : decode cX12_digest 220 = .ok (.iadd, 1) := by decide +kernel
theorem dX12_digest_221 : decode cX12_digest 221 = .ok (.iaload, 1) := by decide +kernel
theorem dX12_digest_222 : decode cX12_digest 222 = .ok (.i2l, 1) := by decide +kernel
theorem dX12_digest_223 : decode cX12_digest 223 = .ok (.ladd, 1) := by decide +kernel
theorem dX12_digest_224 : decode cX12_digest 224 = .ok (.lstore_n 1, 1) := by decide +kernel
theorem dX12_digest_225 : decode cX12_digest 225 = .ok (.iconst 0, 1) := by decide +kernel
theorem dX12_digest_226 : decode cX12_digest 226 = .ok (.istore 4, 2) := by decide +kernel
theorem dX12_digest_228 : decode cX12_digest 228 = .ok (.iload 4, 2) := by decide +kernel
theorem dX12_digest_230 : decode cX12_digest 230 = .ok (.aload_n 0, 1) := by decide +kernel
theorem dX12_digest_231 : decode cX12_digest 231 = .ok (.getfield 7, 3) := by decide +kernel
theorem dX12_digest_234 : decode cX12_digest 234 = .ok (.bipush 27, 2) := by decide +kernel
theorem dX12_digest_236 : decode cX12_digest 236 = .ok (.iload_n 3, 1) := by decide +kernel
theorem dX12_digest_237 : decode cX12_digest 237 = .ok (.iadd, 1) := by decide +kernel
theorem dX12_digest_238 : decode cX12_digest 238 = .ok (.iaload, 1) := by decide +kernel
theorem dX12_digest_239 : decode cX12_digest 239 = .ok (.if_icmp .ge 31, 3) := by decide +kernel
theorem dX12_digest_242 : decode cX12_digest 242 = .ok (.ldc2_w 294, 3) := by decide +kernel
theorem dX12_digest_245 : decode cX12_digest 245 = .ok (.lload_n 1, 1) := by decide +kernel
theorem dX12_digest_246 : decode cX12_digest 246 = .ok (.lmul, 1) := by decide +kernel
theorem dX12_digest_247 : decode cX12_digest 247 = .ok (.aload_n 0, 1) := by decide +kernel
theorem dX12_digest_248 : decode cX12_digest 248 = .ok (.getfield 7, 3) := by decide +kernel
theorem dX12_digest_251 : decode cX12_digest 251 = .ok (.bipush 32, 2) := by decide +kernel
theorem dX12_digest_253 : decode cX12_digest 253 = .ok (.iconst 4, 1) := by decide +kernel
theorem dX12_digest_254 : decode cX12_digest 254 = .ok (.iload_n 3, 1) := by decide +kernel
theorem dX12_digest_255 : decode cX12_digest 255 = .ok (.imul, 1) := by decide +kernel
theorem dX12_digest_256 : decode cX12_digest 256 = .ok (.iadd, 1) := by decide +kernel
theorem dX12_digest_257 : decode cX12_digest 257 = .ok (.iload 4, 2) := by decide +kernel
theorem dX12_digest_259 : decode cX12_digest 259 = .ok (.iadd, 1) := by decide +kernel
theorem dX12_digest_260 : decode cX12_digest 260 = .ok (.iaload, 1) := by decide +kernel
theorem dX12_digest_261 : decode cX12_digest 261 = .ok (.i2l, 1) := by decide +kernel
theorem dX12_digest_262 : decode cX12_digest 262 = .ok (.ladd, 1) := by decide +kernel
theorem dX12_digest_263 : decode cX12_digest 263 = .ok (.lstore_n 1, 1) := by decide +kernel
theorem dX12_digest_264 : decode cX12_digest 264 = .ok (.iinc 4 1, 3) := by decide +kernel
theorem dX12_digest_267 : decode cX12_digest 267 = .ok (.goto (-39), 3) := by decide +kernel
theorem dX12_digest_270 : decode cX12_digest 270 = .ok (.iinc 3 1, 3) := by decide +kernel
theorem dX12_digest_273 : decode cX12_digest 273 = .ok (.goto (-93), 3) := by decide +kernel
theorem dX12_digest_276 : decode cX12_digest 276 = .ok (.iconst 0, 1) := by decide +kernel
theorem dX12_digest_277 : decode cX12_digest 277 = .ok (.istore_n 3, 1) := by decide +kernel
theorem dX12_digest_278 : decode cX12_digest 278 = .ok (.iload_n 3, 1) := by decide +kernel
theorem dX12_digest_279 : decode cX12_digest 279 = .ok (.iconst 3, 1) := by decide +kernel
theorem dX12_digest_280 : decode cX12_digest 280 = .ok (.aload_n 0, 1) := by decide +kernel
theorem dX12_digest_281 : decode cX12_digest 281 = .ok (.getfield 7, 3) := by decide +kernel
theorem dX12_digest_284 : decode cX12_digest 284 = .ok (.bipush 52, 2) := by decide +kernel
theorem dX12_digest_286 : decode cX12_digest 286 = .ok (.iaload, 1) := by decide +kernel
theorem dX12_digest_287 : decode cX12_digest 287 = .ok (.imul, 1) := by decide +kernel
theorem dX12_digest_288 : decode cX12_digest 288 = .ok (.if_icmp .ge 26, 3) := by decide +kernel
theorem dX12_digest_291 : decode cX12_digest 291 = .ok (.ldc2_w 294, 3) := by decide +kernel
theorem dX12_digest_294 : decode cX12_digest 294 = .ok (.lload_n 1, 1) := by decide +kernel
theorem dX12_digest_295 : decode cX12_digest 295 = .ok (.lmul, 1) := by decide +kernel
theorem dX12_digest_296 : decode cX12_digest 296 = .ok (.aload_n 0, 1) := by decide +kernel
theorem dX12_digest_297 : decode cX12_digest 297 = .ok (.getfield 7, 3) := by decide +kernel
theorem dX12_digest_300 : decode cX12_digest 300 = .ok (.bipush 53, 2) := by decide +kernel
theorem dX12_digest_302 : decode cX12_digest 302 = .ok (.iload_n 3, 1) := by decide +kernel
theorem dX12_digest_303 : decode cX12_digest 303 = .ok (.iadd, 1) := by decide +kernel
theorem dX12_digest_304 : decode cX12_digest 304 = .ok (.iaload, 1) := by decide +kernel
theorem dX12_digest_305 : decode cX12_digest 305 = .ok (.i2l, 1) := by decide +kernel
theorem dX12_digest_306 : decode cX12_digest 306 = .ok (.ladd, 1) := by decide +kernel
theorem dX12_digest_307 : decode cX12_digest 307 = .ok (.lstore_n 1, 1) := by decide +kernel
theorem dX12_digest_308 : decode cX12_digest 308 = .ok (.iinc 3 1, 3) := by decide +kernel
theorem dX12_digest_311 : decode cX12_digest 311 = .ok (.goto (-33), 3) := by decide +kernel
theorem dX12_digest_314 : decode cX12_digest 314 = .ok (.ldc2_w 294, 3) := by decide +kernel
theorem dX12_digest_317 : decode cX12_digest 317 = .ok (.lload_n 1, 1) := by decide +kernel
theorem dX12_digest_318 : decode cX12_digest 318 = .ok (.lmul, 1) := by decide +kernel
theorem dX12_digest_319 : decode cX12_digest 319 = .ok (.aload_n 0, 1) := by decide +kernel
theorem dX12_digest_320 : decode cX12_digest 320 = .ok (.getfield 263, 3) := by decide +kernel
theorem dX12_digest_323 : decode cX12_digest 323 = .ok (.ladd, 1) := by decide +kernel
theorem dX12_digest_324 : decode cX12_digest 324 = .ok (.lstore_n 1, 1) := by decide +kernel
theorem dX12_digest_325 : decode cX12_digest 325 = .ok (.ldc2_w 294, 3) := by decide +kernel
theorem dX12_digest_328 : decode cX12_digest 328 = .ok (.lload_n 1, 1) := by decide +kernel
theorem dX12_digest_329 : decode cX12_digest 329 = .ok (.lmul, 1) := by decide +kernel
theorem dX12_digest_330 : decode cX12_digest 330 = .ok (.aload_n 0, 1) := by decide +kernel
theorem dX12_digest_331 : decode cX12_digest 331 = .ok (.getfield 13, 3) := by decide +kernel
theorem dX12_digest_334 : decode cX12_digest 334 = .ok (.ladd, 1) := by decide +kernel
theorem dX12_digest_335 : decode cX12_digest 335 = .ok (.lreturn, 1) := by decide +kernel
