theorem dX10_lure_122 : decode cX10_lure 122 = .ok (.ireturn, 1) := by decide +kernel
theorem dX10_hedge_0 : decode cX10_hedge 0 = .ok (.aload_n 0, 1) := by decide +kernel
theorem dX10_hedge_1 : decode cX10_hedge 1 = .ok (.getfield 26, 3) := by decide +kernel
theorem dX10_hedge_4 : decode cX10_hedge 4 = .ok (.iload_n 1, 1) := by decide +kernel
theorem dX10_hedge_5 : decode cX10_hedge 5 = .ok (.invokevirtual 135, 3) := by decide +kernel
theorem dX10_hedge_8 : decode cX10_hedge 8 = .ok (.ifCond .eq 14, 3) := by decide +kernel
theorem dX10_hedge_11 : decode cX10_hedge 11 = .ok (.iload_n 2, 1) := by decide +kernel
theorem dX10_hedge_12 : decode cX10_hedge 12 = .ok (.iconst 1, 1) := by decide +kernel
theorem dX10_hedge_13 : decode cX10_hedge 13 = .ok (.if_icmp .lt 9, 3) := by decide +kernel
theorem dX10_hedge_16 : decode cX10_hedge 16 = .ok (.iload_n 2, 1) := by decide +kernel
theorem dX10_hedge_17 : decode cX10_hedge 17 = .ok (.bipush 100, 2) := by decide +kernel
theorem dX10_hedge_19 : decode cX10_hedge 19 = .ok (.if_icmp .le 5, 3) := by decide +kernel
theorem dX10_hedge_22 : decode cX10_hedge 22 = .ok (.iconst (-1), 1) := by decide +kernel
theorem dX10_hedge_23 : decode cX10_hedge 23 = .ok (.ireturn, 1) := by decide +kernel
theorem dX10_hedge_24 : decode cX10_hedge 24 = .ok (.aload_n 0, 1) := by decide +kernel
theorem dX10_hedge_25 : decode cX10_hedge 25 = .ok (.getfield 61, 3) := by decide +kernel
theorem dX10_hedge_28 : decode cX10_hedge 28 = .ok (.invokevirtual 377, 3) := by decide +kernel
theorem dX10_hedge_31 : decode cX10_hedge 31 = .ok (.pop, 1) := by decide +kernel
theorem dX10_hedge_32 : decode cX10_hedge 32 = .ok (.aload_n 0, 1) := by decide +kernel
theorem dX10_hedge_33 : decode cX10_hedge 33 = .ok (.getfield 61, 3) := by decide +kernel
theorem dX10_hedge_36 : decode cX10_hedge 36 = .ok (.iload_n 1, 1) := by decide +kernel
theorem dX10_hedge_37 : decode cX10_hedge 37 = .ok (.iload_n 2, 1) := by decide +kernel
theorem dX10_hedge_38 : decode cX10_hedge 38 = .ok (.invokevirtual 380, 3) := by decide +kernel
theorem dX10_hedge_41 : decode cX10_hedge 41 = .ok (.iconst (-1), 1) := by decide +kernel
theorem dX10_hedge_42 : decode cX10_hedge 42 = .ok (.if_icmp .ne 12, 3) := by decide +kernel
theorem dX10_hedge_45 : decode cX10_hedge 45 = .ok (.aload_n 0, 1) := by decide +kernel
theorem dX10_hedge_46 : decode cX10_hedge 46 = .ok (.getfield 19, 3) := by decide +kernel
theorem dX10_hedge_49 : decode cX10_hedge 49 = .ok (.invokevirtual 292, 3) := by decide +kernel
theorem dX10_hedge_52 : decode cX10_hedge 52 = .ok (.iconst 0, 1) := by decide +kernel
theorem dX10_hedge_53 : decode cX10_hedge 53 = .ok (.ireturn, 1) := by decide +kernel
theorem dX10_hedge_54 : decode cX10_hedge 54 = .ok (.aload_n 0, 1) := by decide +kernel
theorem dX10_hedge_55 : decode cX10_hedge 55 = .ok (.getfield 61, 3) := by decide +kernel
theorem dX10_hedge_58 : decode cX10_hedge 58 = .ok (.iload_n 1, 1) := by decide +kernel
theorem dX10_hedge_59 : decode cX10_hedge 59 = .ok (.iload_n 2, 1) := by decide +kernel
theorem dX10_hedge_60 : decode cX10_hedge 60 = .ok (.invokevirtual 401, 3) := by decide +kernel
theorem dX10_hedge_63 : decode cX10_hedge 63 = .ok (.ifCond .eq 27, 3) := by decide +kernel
theorem dX10_hedge_66 : decode cX10_hedge 66 = .ok (.aload_n 0, 1) := by decide +kernel
theorem dX10_hedge_67 : decode cX10_hedge 67 = .ok (.getfield 19, 3) := by decide +kernel
theorem dX10_hedge_70 : decode cX10_hedge 70 = .ok (.invokevirtual 292, 3) := by decide +kernel
theorem dX10_hedge_73 : decode cX10_hedge 73 = .ok (.aload_n 0, 1) := by decide +kernel
theorem dX10_hedge_74 : decode cX10_hedge 74 = .ok (.getfield 19, 3) := by decide +kernel
theorem dX10_hedge_77 : decode cX10_hedge 77 = .ok (.aload_n 0, 1) := by decide +kernel
theorem dX10_hedge_78 : decode cX10_hedge 78 = .ok (.getfield 61, 3) := by decide +kernel
theorem dX10_hedge_81 : decode cX10_hedge 81 = .ok (.getfield 398, 3) := by decide +kernel
theorem dX10_hedge_84 : decode cX10_hedge 84 = .ok (.i2l, 1) := by decide +kernel
theorem dX10_hedge_85 : decode cX10_hedge 85 = .ok (.invokevirtual 295, 3) := by decide +kernel
theorem dX10_hedge_88 : decode cX10_hedge 88 = .ok (.iconst 1, 1) := by decide +kernel
theorem dX10_hedge_89 : decode cX10_hedge 89 = .ok (.ireturn, 1) := by decide +kernel
theorem dX10_hedge_90 : decode cX10_hedge 90 = .ok (.aload_n 0, 1) := by decide +kernel
theorem dX10_hedge_91 : decode cX10_hedge 91 = .ok (.getfield 61, 3) := by decide +kernel
theorem dX10_hedge_94 : decode cX10_hedge 94 = .ok (.iload_n 1, 1) := by decide +kernel
theorem dX10_hedge_95 : decode cX10_hedge 95 = .ok (.iload_n 2, 1) := by decide +kernel
theorem dX10_hedge_96 : decode cX10_hedge 96 = .ok (.invokevirtual 404, 3) := by decide +kernel
theorem dX10_hedge_99 : decode cX10_hedge 99 = .ok (.ifCond .eq 42, 3) := by decide +kernel
theorem dX10_hedge_102 : decode cX10_hedge 102 = .ok (.aload_n 0, 1) := by decide +kernel
theorem dX10_hedge_103 : decode cX10_hedge 103 = .ok (.getfield 19, 3) := by decide +kernel
theorem dX10_hedge_106 : decode cX10_hedge 106 = .ok (.invokevirtual 292, 3) := by decide +kernel
theorem dX10_hedge_109 : decode cX10_hedge 109 = .ok (.aload_n 0, 1) := by decide +kernel
theorem dX10_hedge_110 : decode cX10_hedge 110 = .ok (.getfield 19, 3) := by decide +kernel
theorem dX10_hedge_113 : decode cX10_hedge 113 = .ok (.aload_n 0, 1) := by decide +kernel
theorem dX10_hedge_114 : decode cX10_hedge 114 = .ok (.getfield 61, 3) := by decide +kernel
theorem dX10_hedge_117 : decode cX10_hedge 117 = .ok (.getfield 398, 3) := by decide +kernel
theorem dX10_hedge_120 : decode cX10_hedge 120 = .ok (.i2l, 1) := by decide +kernel
theorem dX10_hedge_121 : decode cX10_hedge 121 = .ok (.invokevirtual 295, 3) := by decide +kernel
theorem dX10_hedge_124 : decode cX10_hedge 124 = .ok (.aload_n 0, 1) := by decide +kernel
theorem dX10_hedge_125 : decode cX10_hedge 125 = .ok (.getfield 19, 3) := by decide +kernel
theorem dX10_hedge_128 : decode cX10_hedge 128 = .ok (.aload_n 0, 1) := by decide +kernel
theorem dX10_hedge_129 : decode cX10_hedge 129 = .ok (.getfield 61, 3) := by decide +kernel
theorem dX10_hedge_132 : decode cX10_hedge 132 = .ok (.getfield 407, 3) := by decide +kernel
theorem dX10_hedge_135 : decode cX10_hedge 135 = .ok (.i2l, 1) := by decide +kernel
theorem dX10_hedge_136 : decode cX10_hedge 136 = .ok (.invokevirtual 295, 3) := by decide +kernel
theorem dX10_hedge_139 : decode cX10_hedge 139 = .ok (.iconst 2, 1) := by decide +kernel
theorem dX10_hedge_140 : decode cX10_hedge 140 = .ok (.ireturn, 1) := by decide +kernel
theorem dX10_hedge_141 : decode cX10_hedge 141 = .ok (.bipush (-2), 2) := by decide +kernel
theorem dX10_hedge_143 : decode cX10_hedge 143 = .ok (.ireturn, 1) := by decide +kernel
theorem dX10_gates_0 : decode cX10_gates 0 = .ok (.aload_n 0, 1) := by decide +kernel
theorem dX10_gates_1 : decode cX10_gates 1 = .ok (.getfield 49, 3) := by decide +kernel
theorem dX10_gates_4 : decode cX10_gates 4 = .ok (.iload_n 1, 1) := by decide +kernel
theorem dX10_gates_5 : decode cX10_gates 5 = .ok (.invokevirtual 178, 3) := by decide +kernel
theorem dX10_gates_8 : decode cX10_gates 8 = .ok (.ifCond .eq 25, 3) := by decide +kernel
theorem dX10_gates_11 : decode cX10_gates 11 = .ok (.aload_n 0, 1) := by decide +kernel
theorem dX10_gates_12 : decode cX10_gates 12 = .ok (.getfield 26, 3) := by decide +kernel
theorem dX10_gates_15 : decode cX10_gates 15 = .ok (.iload_n 2, 1) := by decide +kernel
theorem dX10_gates_16 : decode cX10_gates 16 = .ok (.invokevirtual 135, 3) := by decide +kernel
theorem dX10_gates_19 : decode cX10_gates 19 = .ok (.ifCond .eq 14, 3) := by decide +kernel
theorem dX10_gates_22 : decode cX10_gates 22 = .ok (.iload_n 3, 1) := by decide +kernel
theorem dX10_gates_23 : decode cX10_gates 23 = .ok (.iconst 1, 1) := by decide +kernel
theorem dX10_gates_24 : decode cX10_gates 24 = .ok (.if_icmp .lt 9, 3) := by decide +kernel
theorem dX10_gates_27 : decode cX10_gates 27 = .ok (.iload_n 3, 1) := by decide +kernel
theorem dX10_gates_28 : decode cX10_gates 28 = .ok (.bipush 100, 2) := by decide +kernel
theorem dX10_gates_30 : decode cX10_gates 30 = .ok (.if_icmp .le 5, 3) := by decide +kernel
theorem dX10_gates_33 : decode cX10_gates 33 = .ok (.iconst (-1), 1) := by decide +kernel
theorem dX10_gates_34 : decode cX10_gates 34 = .ok (.ireturn, 1) := by decide +kernel
theorem dX10_gates_35 : decode cX10_gates 35 = .ok (.aload_n 0, 1) := by decide +kernel
theorem dX10_gates_36 : decode cX10_gates 36 = .ok (.getfield 26, 3) := by decide +kernel
theorem dX10_gates_39 : decode cX10_gates 39 = .ok (.aload_n 0, 1) := by decide +kernel
theorem dX10_gates_40 : decode cX10_gates 40 = .ok (.getfield 49, 3) := by decide +kernel
theorem dX10_gates_43 : decode cX10_gates 43 = .ok (.invokevirtual 410, 3) := by decide +kernel
theorem dX10_gates_46 : decode cX10_gates 46 = .ok (.invokevirtual 413, 3) := by decide +kernel
theorem dX10_gates_49 : decode cX10_gates 49 = .ok (.istore 4, 2) := by decide +kernel
theorem dX10_gates_51 : decode cX10_gates 51 = .ok (.iconst 0, 1) := by decide +kernel
theorem dX10_gates_52 : decode cX10_gates 52 = .ok (.istore 5, 2) := by decide +kernel
theorem dX10_gates_54 : decode cX10_gates 54 = .ok (.iconst (-1), 1) := by decide +kernel
theorem dX10_gates_55 : decode cX10_gates 55 = .ok (.istore 6, 2) := by decide +kernel
theorem dX10_gates_57 : decode cX10_gates 57 = .ok (.iconst (-1), 1) := by decide +kernel
theorem dX10_gates_58 : decode cX10_gates 58 = .ok (.istore 7, 2) := by decide +kernel
theorem dX10_gates_60 : decode cX10_gates 60 = .ok (.iconst 0, 1) := by decide +kernel
theorem dX10_gates_61 : decode cX10_gates 61 = .ok (.istore 8, 2) := by decide +kernel
theorem dX10_gates_63 : decode cX10_gates 63 = .ok (.iload 8, 2) := by decide +kernel
theorem dX10_gates_65 : decode cX10_gates 65 = .ok (.iconst 1, 1) := by decide +kernel
theorem dX10_gates_66 : decode cX10_gates 66 = .ok (.aload_n 0, 1) := by decide +kernel
theorem dX10_gates_67 : decode cX10_gates 67 = .ok (.getfield 26, 3) := by decide +kernel
theorem dX10_gates_70 : decode cX10_gates 70 = .ok (.getfield 306, 3) := by decide +kernel
theorem dX10_gates_73 : decode cX10_gates 73 = .ok (.ishl, 1) := by decide +kernel
theorem dX10_gates_74 : decode cX10_gates 74 = .ok (.if_icmp .ge 84, 3) := by decide +kernel
theorem dX10_gates_77 : decode cX10_gates 77 = .ok (.iload 8, 2) := by decide +kernel
theorem dX10_gates_79 : decode cX10_gates 79 = .ok (.iload 4, 2) := by decide +kernel
theorem dX10_gates_81 : decode cX10_gates 81 = .ok (.iand, 1) := by decide +kernel
theorem dX10_gates_82 : decode cX10_gates 82 = .ok (.iload 4, 2) := by decide +kernel
theorem dX10_gates_84 : decode cX10_gates 84 = .ok (.if_icmp .ne 68, 3) := by decide +kernel
theorem dX10_gates_87 : decode cX10_gates 87 = .ok (.aload_n 0, 1) := by decide +kernel
theorem dX10_gates_88 : decode cX10_gates 88 = .ok (.getfield 61, 3) := by decide +kernel
theorem dX10_gates_91 : decode cX10_gates 91 = .ok (.iload 8, 2) := by decide +kernel
theorem dX10_gates_93 : decode cX10_gates 93 = .ok (.iload_n 1, 1) := by decide +kernel
theorem dX10_gates_94 : decode cX10_gates 94 = .ok (.iload_n 2, 1) := by decide +kernel
theorem dX10_gates_95 : decode cX10_gates 95 = .ok (.iload_n 3, 1) := by decide +kernel
theorem dX10_gates_96 : decode cX10_gates 96 = .ok (.invokevirtual 416, 3) := by decide +kernel
theorem dX10_gates_99 : decode cX10_gates 99 = .ok (.ifCond .eq 53, 3) := by decide +kernel
theorem dX10_gates_102 : decode cX10_gates 102 = .ok (.iinc 5 1, 3) := by decide +kernel
theorem dX10_gates_105 : decode cX10_gates 105 = .ok (.iload 7, 2) := by decide +kernel
theorem dX10_gates_107 : decode cX10_gates 107 = .ok (.iload 8, 2) := by decide +kernel
theorem dX10_gates_109 : decode cX10_gates 109 = .ok (.iand, 1) := by decide +kernel
theorem dX10_gates_110 : decode cX10_gates 110 = .ok (.istore 7, 2) := by decide +kernel
theorem dX10_gates_112 : decode cX10_gates 112 = .ok (.iload 5, 2) := by decide +kernel
theorem dX10_gates_114 : decode cX10_gates 114 = .ok (.iconst 1, 1) := by decide +kernel
theorem dX10_gates_115 : decode cX10_gates 115 = .ok (.if_icmp .eq 16, 3) := by decide +kernel
theorem dX10_gates_118 : decode cX10_gates 118 = .ok (.iload 8, 2) := by decide +kernel
theorem dX10_gates_120 : decode cX10_gates 120 = .ok (.invokestatic 420, 3) := by decide +kernel
theorem dX10_gates_123 : decode cX10_gates 123 = .ok (.iload 6, 2) := by decide +kernel
theorem dX10_gates_125 : decode cX10_gates 125 = .ok (.invokestatic 420, 3) := by decide +kernel
theorem dX10_gates_128 : decode cX10_gates 128 = .ok (.if_icmp .ge 7, 3) := by decide +kernel
theorem dX10_gates_131 : decode cX10_gates 131 = .ok (.iconst 1, 1) := by decide +kernel
theorem dX10_gates_132 : decode cX10_gates 132 = .ok (.goto 4, 3) := by decide +kernel
theorem dX10_gates_135 : decode cX10_gates 135 = .ok (.iconst 0, 1) := by decide +kernel
theorem dX10_gates_136 : decode cX10_gates 136 = .ok (.istore 9, 2) := by decide +kernel
theorem dX10_gates_138 : decode cX10_gates 138 = .ok (.iload 9, 2) := by decide +kernel
theorem dX10_gates_140 : decode cX10_gates 140 = .ok (.ifCond .eq 8, 3) := by decide +kernel
theorem dX10_gates_143 : decode cX10_gates 143 = .ok (.iload 8, 2) := by decide +kernel
theorem dX10_gates_145 : decode cX10_gates 145 = .ok (.goto 5, 3) := by decide +kernel
theorem dX10_gates_148 : decode cX10_gates 148 = .ok (.iload 6, 2) := by decide +kernel
theorem dX10_gates_150 : decode cX10_gates 150 = .ok (.istore 6, 2) := by decide +kernel
theorem dX10_gates_152 : decode cX10_gates 152 = .ok (.iinc 8 1, 3) := by decide +kernel
theorem dX10_gates_155 : decode cX10_gates 155 = .ok (.goto (-92), 3) := by decide +kernel
theorem dX10_gates_158 : decode cX10_gates 158 = .ok (.aload_n 0, 1) := by decide +kernel
theorem dX10_gates_159 : decode cX10_gates 159 = .ok (.getfield 19, 3) := by decide +kernel
theorem dX10_gates_162 : decode cX10_gates 162 = .ok (.invokevirtual 292, 3) := by decide +kernel
theorem dX10_gates_165 : decode cX10_gates 165 = .ok (.aload_n 0, 1) := by decide +kernel
theorem dX10_gates_166 : decode cX10_gates 166 = .ok (.getfield 19, 3) := by decide +kernel
theorem dX10_gates_169 : decode cX10_gates 169 = .ok (.iload 6, 2) := by decide +kernel
theorem dX10_gates_171 : decode cX10_gates 171 = .ok (.i2l, 1) := by decide +kernel
theorem dX10_gates_172 : decode cX10_gates 172 = .ok (.invokevirtual 295, 3) := by decide +kernel
theorem dX10_gates_175 : decode cX10_gates 175 = .ok (.aload_n 0, 1) := by decide +kernel
theorem dX10_gates_176 : decode cX10_gates 176 = .ok (.getfield 19, 3) := by decide +kernel
theorem dX10_gates_179 : decode cX10_gates 179 = .ok (.iload 5, 2) := by decide +kernel
theorem dX10_gates_181 : decode cX10_gates 181 = .ok (.ifCond .ne 7, 3) := by decide +kernel
theorem dX10_gates_184 : decode cX10_gates 184 = .ok (.lconst 0, 1) := by decide +kernel
theorem dX10_gates_185 : decode cX10_gates 185 = .ok (.goto 6, 3) := by decide +kernel
theorem dX10_gates_188 : decode cX10_gates 188 = .ok (.iload 7, 2) := by decide +kernel
theorem dX10_gates_190 : decode cX10_gates 190 = .ok (.i2l, 1) := by decide +kernel
theorem dX10_gates_191 : decode cX10_gates 191 = .ok (.invokevirtual 295, 3) := by decide +kernel
theorem dX10_gates_194 : decode cX10_gates 194 = .ok (.iload 5, 2) := by decide +kernel
theorem dX10_gates_196 : decode cX10_gates 196 = .ok (.ireturn, 1) := by decide +kernel
theorem dX10_ways_0 : decode cX10_ways 0 = .ok (.aload_n 0, 1) := by decide +kernel
theorem dX10_ways_1 : decode cX10_ways 1 = .ok (.getfield 26, 3) := by decide +kernel
theorem dX10_ways_4 : decode cX10_ways 4 = .ok (.iload_n 1, 1) := by decide +kernel
theorem dX10_ways_5 : decode cX10_ways 5 = .ok (.invokevirtual 135, 3) := by decide +kernel
theorem dX10_ways_8 : decode cX10_ways 8 = .ok (.ifCond .eq 24, 3) := by decide +kernel
theorem dX10_ways_11 : decode cX10_ways 11 = .ok (.aload_n 0, 1) := by decide +kernel
theorem dX10_ways_12 : decode cX10_ways 12 = .ok (.getfield 26, 3) := by decide +kernel
theorem dX10_ways_15 : decode cX10_ways 15 = .ok (.iload_n 2, 1) := by decide +kernel
theorem dX10_ways_16 : decode cX10_ways 16 = .ok (.invokevirtual 135, 3) := by decide +kernel
theorem dX10_ways_19 : decode cX10_ways 19 = .ok (.ifCond .eq 13, 3) := by decide +kernel
theorem dX10_ways_22 : decode cX10_ways 22 = .ok (.iload_n 3, 1) := by decide +kernel
theorem dX10_ways_23 : decode cX10_ways 23 = .ok (.ifCond .lt 9, 3) := by decide +kernel
theorem dX10_ways_26 : decode cX10_ways 26 = .ok (.iload_n 3, 1) := by decide +kernel
theorem dX10_ways_27 : decode cX10_ways 27 = .ok (.bipush 20, 2) := by decide +kernel
theorem dX10_ways_29 : decode cX10_ways 29 = .ok (.if_icmp .le 5, 3) := by decide +kernel
theorem dX10_ways_32 : decode cX10_ways 32 = .ok (.iconst (-1), 1) := by decide +kernel
theorem dX10_ways_33 : decode cX10_ways 33 = .ok (.ireturn, 1) := by decide +kernel
theorem dX10_ways_34 : decode cX10_ways 34 = .ok (.aload_n 0, 1) := by decide +kernel
theorem dX10_ways_35 : decode cX10_ways 35 = .ok (.invokevirtual 335, 3) := by decide +kernel
theorem dX10_ways_38 : decode cX10_ways 38 = .ok (.lstore 4, 2) := by decide +kernel
theorem dX10_ways_40 : decode cX10_ways 40 = .ok (.iconst (-1), 1) := by decide +kernel
theorem dX10_ways_41 : decode cX10_ways 41 = .ok (.istore 6, 2) := by decide +kernel
theorem dX10_ways_43 : decode cX10_ways 43 = .ok (.iload_n 3, 1) := by decide +kernel
theorem dX10_ways_44 : decode cX10_ways 44 = .ok (.ifCond .le 35, 3) := by decide +kernel
theorem dX10_ways_47 : decode cX10_ways 47 = .ok (.lload 4, 2) := by decide +kernel
theorem dX10_ways_49 : decode cX10_ways 49 = .ok (.iload_n 1, 1) := by decide +kernel
theorem dX10_ways_50 : decode cX10_ways 50 = .ok (.invokestatic 321, 3) := by decide +kernel
theorem dX10_ways_53 : decode cX10_ways 53 = .ok (.ifCond .eq 26, 3) := by decide +kernel
theorem dX10_ways_56 : decode cX10_ways 56 = .ok (.aload_n 0, 1) := by decide +kernel
theorem dX10_ways_57 : decode cX10_ways 57 = .ok (.getfield 68, 3) := by decide +kernel
theorem dX10_ways_60 : decode cX10_ways 60 = .ok (.lload 4, 2) := by decide +kernel
theorem dX10_ways_62 : decode cX10_ways 62 = .ok (.iload_n 2, 1) := by decide +kernel
theorem dX10_ways_63 : decode cX10_ways 63 = .ok (.iload_n 3, 1) := by decide +kernel
theorem dX10_ways_64 : decode cX10_ways 64 = .ok (.iconst 1, 1) := by decide +kernel
theorem dX10_ways_65 : decode cX10_ways 65 = .ok (.isub, 1) := by decide +kernel
theorem dX10_ways_66 : decode cX10_ways 66 = .ok (.invokevirtual 424, 3) := by decide +kernel
theorem dX10_ways_69 : decode cX10_ways 69 = .ok (.aload_n 0, 1) := by decide +kernel
theorem dX10_ways_70 : decode cX10_ways 70 = .ok (.getfield 68, 3) := by decide +kernel
theorem dX10_ways_73 : decode cX10_ways 73 = .ok (.iload_n 1, 1) := by decide +kernel
theorem dX10_ways_74 : decode cX10_ways 74 = .ok (.invokevirtual 428, 3) := by decide +kernel
theorem dX10_ways_77 : decode cX10_ways 77 = .ok (.istore 6, 2) := by decide +kernel
theorem dX10_ways_79 : decode cX10_ways 79 = .ok (.aload_n 0, 1) := by decide +kernel
theorem dX10_ways_80 : decode cX10_ways 80 = .ok (.getfield 68, 3) := by decide +kernel
theorem dX10_ways_83 : decode cX10_ways 83 = .ok (.lload 4, 2) := by decide +kernel
theorem dX10_ways_85 : decode cX10_ways 85 = .ok (.iload_n 2, 1) := by decide +kernel
theorem dX10_ways_86 : decode cX10_ways 86 = .ok (.iload_n 3, 1) := by decide +kernel
theorem dX10_ways_87 : decode cX10_ways 87 = .ok (.invokevirtual 424, 3) := by decide +kernel
theorem dX10_ways_90 : decode cX10_ways 90 = .ok (.aload_n 0, 1) := by decide +kernel
theorem dX10_ways_91 : decode cX10_ways 91 = .ok (.getfield 19, 3) := by decide +kernel
theorem dX10_ways_94 : decode cX10_ways 94 = .ok (.invokevirtual 292, 3) := by decide +kernel
theorem dX10_ways_97 : decode cX10_ways 97 = .ok (.aload_n 0, 1) := by decide +kernel
theorem dX10_ways_98 : decode cX10_ways 98 = .ok (.getfield 19, 3) := by decide +kernel
theorem dX10_ways_101 : decode cX10_ways 101 = .ok (.iload 6, 2) := by decide +kernel
theorem dX10_ways_103 : decode cX10_ways 103 = .ok (.i2l, 1) := by decide +kernel
theorem dX10_ways_104 : decode cX10_ways 104 = .ok (.invokevirtual 295, 3) := by decide +kernel
theorem dX10_ways_107 : decode cX10_ways 107 = .ok (.aload_n 0, 1) := by decide +kernel
theorem dX10_ways_108 : decode cX10_ways 108 = .ok (.getfield 68, 3) := by decide +kernel
theorem dX10_ways_111 : decode cX10_ways 111 = .ok (.getfield 431, 3) := by decide +kernel
theorem dX10_ways_114 : decode cX10_ways 114 = .ok (.iload_n 1, 1) := by decide +kernel
theorem dX10_ways_115 : decode cX10_ways 115 = .ok (.laload, 1) := by decide +kernel
theorem dX10_ways_116 : decode cX10_ways 116 = .ok (.l2i, 1) := by decide +kernel
theorem dX10_ways_117 : decode cX10_ways 117 = .ok (.ireturn, 1) := by decide +kernel
theorem dX10_bride_0 : decode cX10_bride 0 = .ok (.aload_n 0, 1) := by decide +kernel
theorem dX10_bride_1 : decode cX10_bride 1 = .ok (.getfield 10, 3) := by decide +kernel
theorem dX10_bride_4 : decode cX10_bride 4 = .ok (.bipush 80, 2) := by decide +kernel
theorem dX10_bride_6 : decode cX10_bride 6 = .ok (.invokevirtual 220, 3) := by decide +kernel
theorem dX10_bride_9 : decode cX10_bride 9 = .ok (.aload_n 0, 1) := by decide +kernel
theorem dX10_bride_10 : decode cX10_bride 10 = .ok (.invokevirtual 435, 3) := by decide +kernel
theorem dX10_bride_13 : decode cX10_bride 13 = .ok (.istore_n 1, 1) := by decide +kernel
theorem dX10_bride_14 : decode cX10_bride 14 = .ok (.iload_n 1, 1) := by decide +kernel
theorem dX10_bride_15 : decode cX10_bride 15 = .ok (.ifCond .ne 10, 3) := by decide +kernel
theorem dX10_bride_18 : decode cX10_bride 18 = .ok (.aload_n 0, 1) := by decide +kernel
theorem dX10_bride_19 : decode cX10_bride 19 = .ok (.invokevirtual 438, 3) := by decide +kernel
theorem dX10_bride_22 : decode cX10_bride 22 = .ok (.goto 4, 3) := by decide +kernel
theorem dX10_bride_25 : decode cX10_bride 25 = .ok (.iload_n 1, 1) := by decide +kernel
theorem dX10_bride_26 : decode cX10_bride 26 = .ok (.istore_n 2, 1) := by decide +kernel
theorem dX10_bride_27 : decode cX10_bride 27 = .ok (.aload_n 0, 1) := by decide +kernel
theorem dX10_bride_28 : decode cX10_bride 28 = .ok (.getfield 10, 3) := by decide +kernel
theorem dX10_bride_31 : decode cX10_bride 31 = .ok (.invokevirtual 93, 3) := by decide +kernel
theorem dX10_bride_34 : decode cX10_bride 34 = .ok (.iload_n 2, 1) := by decide +kernel
theorem dX10_bride_35 : decode cX10_bride 35 = .ok (.ireturn, 1) := by decide +kernel
theorem dX10_lost_0 : decode cX10_lost 0 = .ok (.aload_n 0, 1) := by decide +kernel
theorem dX10_lost_1 : decode cX10_lost 1 = .ok (.getfield 26, 3) := by decide +kernel
theorem dX10_lost_4 : decode cX10_lost 4 = .ok (.iload_n 1, 1) := by decide +kernel
theorem dX10_lost_5 : decode cX10_lost 5 = .ok (.invokevirtual 135, 3) := by decide +kernel
theorem dX10_lost_8 : decode cX10_lost 8 = .ok (.ifCond .eq 24, 3) := by decide +kernel
theorem dX10_lost_11 : decode cX10_lost 11 = .ok (.aload_n 0, 1) := by decide +kernel
theorem dX10_lost_12 : decode cX10_lost 12 = .ok (.getfield 26, 3) := by decide +kernel
theorem dX10_lost_15 : decode cX10_lost 15 = .ok (.iload_n 2, 1) := by decide +kernel
theorem dX10_lost_16 : decode cX10_lost 16 = .ok (.invokevirtual 135, 3) := by decide +kernel
theorem dX10_lost_19 : decode cX10_lost 19 = .ok (.ifCond .eq 13, 3) := by decide +kernel
theorem dX10_lost_22 : decode cX10_lost 22 = .ok (.iload_n 3, 1) := by decide +kernel
theorem dX10_lost_23 : decode cX10_lost 23 = .ok (.ifCond .lt 9, 3) := by decide +kernel
theorem dX10_lost_26 : decode cX10_lost 26 = .ok (.iload_n 3, 1) := by decide +kernel
theorem dX10_lost_27 : decode cX10_lost 27 = .ok (.bipush 40, 2) := by decide +kernel
theorem dX10_lost_29 : decode cX10_lost 29 = .ok (.if_icmp .le 5, 3) := by decide +kernel
theorem dX10_lost_32 : decode cX10_lost 32 = .ok (.iconst (-1), 1) := by decide +kernel
theorem dX10_lost_33 : decode cX10_lost 33 = .ok (.ireturn, 1) := by decide +kernel
theorem dX10_lost_34 : decode cX10_lost 34 = .ok (.aload_n 0, 1) := by decide +kernel
theorem dX10_lost_35 : decode cX10_lost 35 = .ok (.getfield 26, 3) := by decide +kernel
theorem dX10_lost_38 : decode cX10_lost 38 = .ok (.aload_n 0, 1) := by decide +kernel
theorem dX10_lost_39 : decode cX10_lost 39 = .ok (.getfield 49, 3) := by decide +kernel
theorem dX10_lost_42 : decode cX10_lost 42 = .ok (.getfield 154, 3) := by decide +kernel
theorem dX10_lost_45 : decode cX10_lost 45 = .ok (.invokevirtual 195, 3) := by decide +kernel
theorem dX10_lost_48 : decode cX10_lost 48 = .ok (.lstore 4, 2) := by decide +kernel
theorem dX10_lost_50 : decode cX10_lost 50 = .ok (.lload 4, 2) := by decide +kernel
theorem dX10_lost_52 : decode cX10_lost 52 = .ok (.iload_n 1, 1) := by decide +kernel
theorem dX10_lost_53 : decode cX10_lost 53 = .ok (.invokestatic 321, 3) := by decide +kernel
theorem dX10_lost_56 : decode cX10_lost 56 = .ok (.ifCond .ne 5, 3) := by decide +kernel
theorem dX10_lost_59 : decode cX10_lost 59 = .ok (.iconst (-1), 1) := by decide +kernel
theorem dX10_lost_60 : decode cX10_lost 60 = .ok (.ireturn, 1) := by decide +kernel
theorem dX10_lost_61 : decode cX10_lost 61 = .ok (.aload_n 0, 1) := by decide +kernel
theorem dX10_lost_62 : decode cX10_lost 62 = .ok (.getfield 68, 3) := by decide +kernel
theorem dX10_lost_65 : decode cX10_lost 65 = .ok (.lload 4, 2) := by decide +kernel
theorem dX10_lost_67 : decode cX10_lost 67 = .ok (.iload_n 1, 1) := by decide +kernel
theorem dX10_lost_68 : decode cX10_lost 68 = .ok (.iload_n 3, 1) := by decide +kernel
theorem dX10_lost_69 : decode cX10_lost 69 = .ok (.invokevirtual 441, 3) := by decide +kernel
theorem dX10_lost_72 : decode cX10_lost 72 = .ok (.aload_n 0, 1) := by decide +kernel
theorem dX10_lost_73 : decode cX10_lost 73 = .ok (.getfield 19, 3) := by decide +kernel
theorem dX10_lost_76 : decode cX10_lost 76 = .ok (.invokevirtual 292, 3) := by decide +kernel
theorem dX10_lost_79 : decode cX10_lost 79 = .ok (.aload_n 0, 1) := by decide +kernel
theorem dX10_lost_80 : decode cX10_lost 80 = .ok (.getfield 19, 3) := by decide +kernel
theorem dX10_lost_83 : decode cX10_lost 83 = .ok (.aload_n 0, 1) := by decide +kernel
theorem dX10_lost_84 : decode cX10_lost 84 = .ok (.getfield 68, 3) := by decide +kernel
theorem dX10_lost_87 : decode cX10_lost 87 = .ok (.invokevirtual 444, 3) := by decide +kernel
theorem dX10_lost_90 : decode cX10_lost 90 = .ok (.i2l, 1) := by decide +kernel
theorem dX10_lost_91 : decode cX10_lost 91 = .ok (.invokevirtual 295, 3) := by decide +kernel
theorem dX10_lost_94 : decode cX10_lost 94 = .ok (.aload_n 0, 1) := by decide +kernel
theorem dX10_lost_95 : decode cX10_lost 95 = .ok (.getfield 68, 3) := by decide +kernel
theorem dX10_lost_98 : decode cX10_lost 98 = .ok (.getfield 431, 3) := by decide +kernel
theorem dX10_lost_101 : decode cX10_lost 101 = .ok (.iload_n 2, 1) := by decide +kernel
theorem dX10_lost_102 : decode cX10_lost 102 = .ok (.laload, 1) := by decide +kernel
theorem dX10_lost_103 : decode cX10_lost 103 = .ok (.l2i, 1) := by decide +kernel
theorem dX10_lost_104 : decode cX10_lost 104 = .ok (.ireturn, 1) := by decide +kernel
theorem dX10_letter_0 : decode cX10_letter 0 = .ok (.aload_n 0, 1) := by decide +kernel
theorem dX10_letter_1 : decode cX10_letter 1 = .ok (.getfield 26, 3) := by decide +kernel
theorem dX10_letter_4 : decode cX10_letter 4 = .ok (.iload_n 1, 1) := by decide +kernel
theorem dX10_letter_5 : decode cX10_letter 5 = .ok (.invokevirtual 135, 3) := by decide +kernel
theorem dX10_letter_8 : decode cX10_letter 8 = .ok (.ifCond .ne 5, 3) := by decide +kernel
theorem dX10_letter_11 : decode cX10_letter 11 = .ok (.iconst (-1), 1) := by decide +kernel
theorem dX10_letter_12 : decode cX10_letter 12 = .ok (.ireturn, 1) := by decide +kernel
theorem dX10_letter_13 : decode cX10_letter 13 = .ok (.aload_n 0, 1) := by decide +kernel
theorem dX10_letter_14 : decode cX10_letter 14 = .ok (.getfield 61, 3) := by decide +kernel
theorem dX10_letter_17 : decode cX10_letter 17 = .ok (.invokevirtual 377, 3) := by decide +kernel
theorem dX10_letter_20 : decode cX10_letter 20 = .ok (.astore_n 2, 1) := by decide +kernel
theorem dX10_letter_21 : decode cX10_letter 21 = .ok (.aload_n 2, 1) := by decide +kernel
theorem dX10_letter_22 : decode cX10_letter 22 = .ok (.iload_n 1, 1) := by decide +kernel
theorem dX10_letter_23 : decode cX10_letter 23 = .ok (.invokevirtual 383, 3) := by decide +kernel
theorem dX10_letter_26 : decode cX10_letter 26 = .ok (.istore_n 3, 1) := by decide +kernel
theorem dX10_letter_27 : decode cX10_letter 27 = .ok (.iconst 1, 1) := by decide +kernel
theorem dX10_letter_28 : decode cX10_letter 28 = .ok (.istore 4, 2) := by decide +kernel
theorem dX10_letter_30 : decode cX10_letter 30 = .ok (.iload 4, 2) := by decide +kernel
theorem dX10_letter_32 : decode cX10_letter 32 = .ok (.bipush 100, 2) := by decide +kernel
theorem dX10_letter_34 : decode cX10_letter 34 = .ok (.if_icmp .gt 76, 3) := by decide +kernel
theorem dX10_letter_37 : decode cX10_letter 37 = .ok (.aload_n 0, 1) := by decide +kernel
theorem dX10_letter_38 : decode cX10_letter 38 = .ok (.getfield 42, 3) := by decide +kernel
theorem dX10_letter_41 : decode cX10_letter 41 = .ok (.aload_n 2, 1) := by decide +kernel
theorem dX10_letter_42 : decode cX10_letter 42 = .ok (.invokevirtual 269, 3) := by decide +kernel
theorem dX10_letter_45 : decode cX10_letter 45 = .ok (.pop, 1) := by decide +kernel
theorem dX10_letter_46 : decode cX10_letter 46 = .ok (.iload_n 3, 1) := by decide +kernel
theorem dX10_letter_47 : decode cX10_letter 47 = .ok (.iconst (-1), 1) := by decide +kernel
theorem dX10_letter_48 : decode cX10_letter 48 = .ok (.if_icmp .ne 12, 3) := by decide +kernel
theorem dX10_letter_51 : decode cX10_letter 51 = .ok (.aload_n 2, 1) := by decide +kernel
theorem dX10_letter_52 : decode cX10_letter 52 = .ok (.iload_n 1, 1) := by decide +kernel
theorem dX10_letter_53 : decode cX10_letter 53 = .ok (.invokevirtual 383, 3) := by decide +kernel
theorem dX10_letter_56 : decode cX10_letter 56 = .ok (.istore_n 3, 1) := by decide +kernel
theorem dX10_letter_57 : decode cX10_letter 57 = .ok (.goto 47, 3) := by decide +kernel
theorem dX10_letter_60 : decode cX10_letter 60 = .ok (.aload_n 2, 1) := by decide +kernel
theorem dX10_letter_61 : decode cX10_letter 61 = .ok (.getfield 192, 3) := by decide +kernel
theorem dX10_letter_64 : decode cX10_letter 64 = .ok (.iload_n 3, 1) := by decide +kernel
theorem dX10_letter_65 : decode cX10_letter 65 = .ok (.ishr, 1) := by decide +kernel
theorem dX10_letter_66 : decode cX10_letter 66 = .ok (.iconst 1, 1) := by decide +kernel
theorem dX10_letter_67 : decode cX10_letter 67 = .ok (.iand, 1) := by decide +kernel
theorem dX10_letter_68 : decode cX10_letter 68 = .ok (.ifCond .eq 36, 3) := by decide +kernel
theorem dX10_letter_71 : decode cX10_letter 71 = .ok (.aload_n 0, 1) := by decide +kernel
theorem dX10_letter_72 : decode cX10_letter 72 = .ok (.getfield 19, 3) := by decide +kernel
theorem dX10_letter_75 : decode cX10_letter 75 = .ok (.invokevirtual 292, 3) := by decide +kernel
theorem dX10_letter_78 : decode cX10_letter 78 = .ok (.aload_n 0, 1) := by decide +kernel
theorem dX10_letter_79 : decode cX10_letter 79 = .ok (.getfield 19, 3) := by decide +kernel
theorem dX10_letter_82 : decode cX10_letter 82 = .ok (.iload_n 3, 1) := by decide +kernel
theorem dX10_letter_83 : decode cX10_letter 83 = .ok (.i2l, 1) := by decide +kernel
theorem dX10_letter_84 : decode cX10_letter 84 = .ok (.invokevirtual 295, 3) := by decide +kernel
theorem dX10_letter_87 : decode cX10_letter 87 = .ok (.aload_n 0, 1) := by decide +kernel
theorem dX10_letter_88 : decode cX10_letter 88 = .ok (.getfield 19, 3) := by decide +kernel
theorem dX10_letter_91 : decode cX10_letter 91 = .ok (.aload_n 2, 1) := by decide +kernel
theorem dX10_letter_92 : decode cX10_letter 92 = .ok (.getfield 183, 3) := by decide +kernel
theorem dX10_letter_95 : decode cX10_letter 95 = .ok (.iload_n 3, 1) := by decide +kernel
theorem dX10_letter_96 : decode cX10_letter 96 = .ok (.iaload, 1) := by decide +kernel
theorem dX10_letter_97 : decode cX10_letter 97 = .ok (.i2l, 1) := by decide +kernel
theorem dX10_letter_98 : decode cX10_letter 98 = .ok (.invokevirtual 295, 3) := by decide +kernel
theorem dX10_letter_101 : decode cX10_letter 101 = .ok (.iload 4, 2) := by decide +kernel
theorem dX10_letter_103 : decode cX10_letter 103 = .ok (.ireturn, 1) := by decide +kernel
theorem dX10_letter_104 : decode cX10_letter 104 = .ok (.iinc 4 1, 3) := by decide +kernel
theorem dX10_letter_107 : decode cX10_letter 107 = .ok (.goto (-77), 3) := by decide +kernel
theorem dX10_letter_110 : decode cX10_letter 110 = .ok (.bipush (-2), 2) := by decide +kernel
theorem dX10_letter_112 : decode cX10_letter 112 = .ok (.ireturn, 1) := by decide +kernel
theorem dX10_faultOfSightings_0 : decode cX10_faultOfSightings 0 = .ok (.iconst 0, 1) := by decide +kernel
theorem dX10_faultOfSightings_1 : decode cX10_faultOfSightings 1 = .ok (.istore_n 1, 1) := by decide +kernel
theorem dX10_faultOfSightings_2 : decode cX10_faultOfSightings 2 = .ok (.iload_n 1, 1) := by decide +kernel
theorem dX10_faultOfSightings_3 : decode cX10_faultOfSightings 3 = .ok (.bipush 12, 2) := by decide +kernel
theorem dX10_faultOfSightings_5 : decode cX10_faultOfSightings 5 = .ok (.if_icmp .ge 51, 3) := by decide +kernel
theorem dX10_faultOfSightings_8 : decode cX10_faultOfSightings 8 = .ok (.aload_n 0, 1) := by decide +kernel
theorem dX10_faultOfSightings_9 : decode cX10_faultOfSightings 9 = .ok (.aload_n 0, 1) := by decide +kernel
theorem dX10_faultOfSightings_10 : decode cX10_faultOfSightings 10 = .ok (.getfield 26, 3) := by decide +kernel
theorem dX10_faultOfSightings_13 : decode cX10_faultOfSightings 13 = .ok (.getfield 121, 3) := by decide +kernel
theorem dX10_faultOfSightings_16 : decode cX10_faultOfSightings 16 = .ok (.aload_n 0, 1) := by decide +kernel
theorem dX10_faultOfSightings_17 : decode cX10_faultOfSightings 17 = .ok (.getfield 26, 3) := by decide +kernel
theorem dX10_faultOfSightings_20 : decode cX10_faultOfSightings 20 = .ok (.getfield 124, 3) := by decide +kernel
theorem dX10_faultOfSightings_23 : decode cX10_faultOfSightings 23 = .ok (.invokevirtual 238, 3) := by decide +kernel
theorem dX10_faultOfSightings_26 : decode cX10_faultOfSightings 26 = .ok (.iconst (-1), 1) := by decide +kernel
theorem dX10_faultOfSightings_27 : decode cX10_faultOfSightings 27 = .ok (.if_icmp .ne 11, 3) := by decide +kernel
theorem dX10_faultOfSightings_30 : decode cX10_faultOfSightings 30 = .ok (.aload_n 0, 1) := by decide +kernel
theorem dX10_faultOfSightings_31 : decode cX10_faultOfSightings 31 = .ok (.getfield 10, 3) := by decide +kernel
theorem dX10_faultOfSightings_34 : decode cX10_faultOfSightings 34 = .ok (.invokevirtual 231, 3) := by decide +kernel
theorem dX10_faultOfSightings_37 : decode cX10_faultOfSightings 37 = .ok (.ireturn, 1) := by decide +kernel
theorem dX10_faultOfSightings_38 : decode cX10_faultOfSightings 38 = .ok (.aload_n 0, 1) := by decide +kernel
theorem dX10_faultOfSightings_39 : decode cX10_faultOfSightings 39 = .ok (.getfield 10, 3) := by decide +kernel
theorem dX10_faultOfSightings_42 : decode cX10_faultOfSightings 42 = .ok (.invokevirtual 224, 3) := by decide +kernel
theorem dX10_faultOfSightings_45 : decode cX10_faultOfSightings 45 = .ok (.ifCond .eq 5, 3) := by decide +kernel
theorem dX10_faultOfSightings_48 : decode cX10_faultOfSightings 48 = .ok (.iconst 0, 1) := by decide +kernel
theorem dX10_faultOfSightings_49 : decode cX10_faultOfSightings 49 = .ok (.ireturn, 1) := by decide +kernel
theorem dX10_faultOfSightings_50 : decode cX10_faultOfSightings 50 = .ok (.iinc 1 1, 3) := by decide +kernel
theorem dX10_faultOfSightings_53 : decode cX10_faultOfSightings 53 = .ok (.goto (-51), 3) := by decide +kernel
theorem dX10_faultOfSightings_56 : decode cX10_faultOfSightings 56 = .ok (.aload_n 0, 1) := by decide +kernel
theorem dX10_faultOfSightings_57 : decode cX10_faultOfSightings 57 = .ok (.getfield 10, 3) := by decide +kernel
theorem dX10_faultOfSightings_60 : decode cX10_faultOfSightings 60 = .ok (.invokevirtual 231, 3) := by decide +kernel
theorem dX10_faultOfSightings_63 : decode cX10_faultOfSightings 63 = .ok (.ireturn, 1) := by decide +kernel
theorem dX10_followSightings_0 : decode cX10_followSightings 0 = .ok (.aload_n 0, 1) := by decide +kernel
theorem dX10_followSightings_1 : decode cX10_followSightings 1 = .ok (.getfield 10, 3) := by decide +kernel
theorem dX10_followSightings_4 : decode cX10_followSightings 4 = .ok (.bipush 80, 2) := by decide +kernel
theorem dX10_followSightings_6 : decode cX10_followSightings 6 = .ok (.invokevirtual 220, 3) := by decide +kernel
theorem dX10_followSightings_9 : decode cX10_followSightings 9 = .ok (.aload_n 0, 1) := by decide +kernel
theorem dX10_followSightings_10 : decode cX10_followSightings 10 = .ok (.invokevirtual 335, 3) := by decide +kernel
theorem dX10_followSightings_13 : decode cX10_followSightings 13 = .ok (.lstore_n 1, 1) := by decide +kernel
theorem dX10_followSightings_14 : decode cX10_followSightings 14 = .ok (.aload_n 0, 1) := by decide +kernel
theorem dX10_followSightings_15 : decode cX10_followSightings 15 = .ok (.aload_n 0, 1) := by decide +kernel
theorem dX10_followSightings_16 : decode cX10_followSightings 16 = .ok (.getfield 26, 3) := by decide +kernel
theorem dX10_followSightings_19 : decode cX10_followSightings 19 = .ok (.getfield 121, 3) := by decide +kernel
theorem dX10_followSightings_22 : decode cX10_followSightings 22 = .ok (.aload_n 0, 1) := by decide +kernel
theorem dX10_followSightings_23 : decode cX10_followSightings 23 = .ok (.getfield 26, 3) := by decide +kernel
theorem dX10_followSightings_26 : decode cX10_followSightings 26 = .ok (.getfield 124, 3) := by decide +kernel
theorem dX10_followSightings_29 : decode cX10_followSightings 29 = .ok (.invokevirtual 238, 3) := by decide +kernel
theorem dX10_followSightings_32 : decode cX10_followSightings 32 = .ok (.istore_n 3, 1) := by decide +kernel
theorem dX10_followSightings_33 : decode cX10_followSightings 33 = .ok (.lload_n 1, 1) := by decide +kernel
theorem dX10_followSightings_34 : decode cX10_followSightings 34 = .ok (.iload_n 3, 1) := by decide +kernel
theorem dX10_followSightings_35 : decode cX10_followSightings 35 = .ok (.invokestatic 321, 3) := by decide +kernel
theorem dX10_followSightings_38 : decode cX10_followSightings 38 = .ok (.ifCond .ne 6, 3) := by decide +kernel
theorem dX10_followSightings_41 : decode cX10_followSightings 41 = .ok (.bipush (-100), 2) := by decide +kernel
theorem dX10_followSightings_43 : decode cX10_followSightings 43 = .ok (.ireturn, 1) := by decide +kernel
theorem dX10_followSightings_44 : decode cX10_followSightings 44 = .ok (.iconst 0, 1) := by decide +kernel
theorem dX10_followSightings_45 : decode cX10_followSightings 45 = .ok (.istore 4, 2) := by decide +kernel
theorem dX10_followSightings_47 : decode cX10_followSightings 47 = .ok (.lconst 1, 1) := by decide +kernel
theorem dX10_followSightings_48 : decode cX10_followSightings 48 = .ok (.lstore 5, 2) := by decide +kernel
theorem dX10_followSightings_50 : decode cX10_followSightings 50 = .ok (.iconst 1, 1) := by decide +kernel
theorem dX10_followSightings_51 : decode cX10_followSightings 51 = .ok (.istore 7, 2) := by decide +kernel
theorem dX10_followSightings_53 : decode cX10_followSightings 53 = .ok (.iload 7, 2) := by decide +kernel
theorem dX10_followSightings_55 : decode cX10_followSightings 55 = .ok (.bipush 12, 2) := by decide +kernel
theorem dX10_followSightings_57 : decode cX10_followSightings 57 = .ok (.if_icmp .ge 128, 3) := by decide +kernel
theorem dX10_followSightings_60 : decode cX10_followSightings 60 = .ok (.aload_n 0, 1) := by decide +kernel
theorem dX10_followSightings_61 : decode cX10_followSightings 61 = .ok (.getfield 10, 3) := by decide +kernel
theorem dX10_followSightings_64 : decode cX10_followSightings 64 = .ok (.invokevirtual 224, 3) := by decide +kernel
theorem dX10_followSightings_67 : decode cX10_followSightings 67 = .ok (.ifCond .ne 118, 3) := by decide +kernel
theorem dX10_followSightings_70 : decode cX10_followSightings 70 = .ok (.aload_n 0, 1) := by decide +kernel
theorem dX10_followSightings_71 : decode cX10_followSightings 71 = .ok (.aload_n 0, 1) := by decide +kernel
theorem dX10_followSightings_72 : decode cX10_followSightings 72 = .ok (.getfield 26, 3) := by decide +kernel
theorem dX10_followSightings_75 : decode cX10_followSightings 75 = .ok (.getfield 121, 3) := by decide +kernel
theorem dX10_followSightings_78 : decode cX10_followSightings 78 = .ok (.aload_n 0, 1) := by decide +kernel
theorem dX10_followSightings_79 : decode cX10_followSightings 79 = .ok (.getfield 26, 3) := by decide +kernel
theorem dX10_followSightings_82 : decode cX10_followSightings 82 = .ok (.getfield 124, 3) := by decide +kernel
theorem dX10_followSightings_85 : decode cX10_followSightings 85 = .ok (.invokevirtual 238, 3) := by decide +kernel
theorem dX10_followSightings_88 : decode cX10_followSightings 88 = .ok (.istore 8, 2) := by decide +kernel
theorem dX10_followSightings_90 : decode cX10_followSightings 90 = .ok (.aload_n 0, 1) := by decide +kernel
theorem dX10_followSightings_91 : decode cX10_followSightings 91 = .ok (.getfield 68, 3) := by decide +kernel
theorem dX10_followSightings_94 : decode cX10_followSightings 94 = .ok (.lload_n 1, 1) := by decide +kernel
theorem dX10_followSightings_95 : decode cX10_followSightings 95 = .ok (.iload_n 3, 1) := by decide +kernel
theorem dX10_followSightings_96 : decode cX10_followSightings 96 = .ok (.invokevirtual 354, 3) := by decide +kernel
theorem dX10_followSightings_99 : decode cX10_followSightings 99 = .ok (.lload_n 1, 1) := by decide +kernel
theorem dX10_followSightings_100 : decode cX10_followSightings 100 = .ok (.iload 8, 2) := by decide +kernel
theorem dX10_followSightings_102 : decode cX10_followSightings 102 = .ok (.invokestatic 321, 3) := by decide +kernel
theorem dX10_followSightings_105 : decode cX10_followSightings 105 = .ok (.ifCond .eq 17, 3) := by decide +kernel
theorem dX10_followSightings_108 : decode cX10_followSightings 108 = .ok (.aload_n 0, 1) := by decide +kernel
theorem dX10_followSightings_109 : decode cX10_followSightings 109 = .ok (.getfield 68, 3) := by decide +kernel
theorem dX10_followSightings_112 : decode cX10_followSightings 112 = .ok (.getfield 358, 3) := by decide +kernel
theorem dX10_followSightings_115 : decode cX10_followSightings 115 = .ok (.iload 8, 2) := by decide +kernel
theorem dX10_followSightings_117 : decode cX10_followSightings 117 = .ok (.iaload, 1) := by decide +kernel
theorem dX10_followSightings_118 : decode cX10_followSightings 118 = .ok (.iconst (-1), 1) := by decide +kernel
theorem dX10_followSightings_119 : decode cX10_followSightings 119 = .ok (.if_icmp .ne 6, 3) := by decide +kernel
theorem dX10_followSightings_122 : decode cX10_followSightings 122 = .ok (.bipush (-100), 2) := by decide +kernel
theorem dX10_followSightings_124 : decode cX10_followSightings 124 = .ok (.ireturn, 1) := by decide +kernel
theorem dX10_followSightings_125 : decode cX10_followSightings 125 = .ok (.aload_n 0, 1) := by decide +kernel
theorem dX10_followSightings_126 : decode cX10_followSightings 126 = .ok (.getfield 68, 3) := by decide +kernel
theorem dX10_followSightings_129 : decode cX10_followSightings 129 = .ok (.getfield 358, 3) := by decide +kernel
theorem dX10_followSightings_132 : decode cX10_followSightings 132 = .ok (.iload 8, 2) := by decide +kernel
theorem dX10_followSightings_134 : decode cX10_followSightings 134 = .ok (.iaload, 1) := by decide +kernel
theorem dX10_followSightings_135 : decode cX10_followSightings 135 = .ok (.istore 9, 2) := by decide +kernel
theorem dX10_followSightings_137 : decode cX10_followSightings 137 = .ok (.aload_n 0, 1) := by decide +kernel
theorem dX10_followSightings_138 : decode cX10_followSightings 138 = .ok (.getfield 68, 3) := by decide +kernel
theorem dX10_followSightings_141 : decode cX10_followSightings 141 = .ok (.lload_n 1, 1) := by decide +kernel
theorem dX10_followSightings_142 : decode cX10_followSightings 142 = .ok (.iload 8, 2) := by decide +kernel
theorem dX10_followSightings_144 : decode cX10_followSightings 144 = .ok (.iload 9, 2) := by decide +kernel
theorem dX10_followSightings_146 : decode cX10_followSightings 146 = .ok (.invokevirtual 424, 3) := by decide +kernel
theorem dX10_followSightings_149 : decode cX10_followSightings 149 = .ok (.iload 4, 2) := by decide +kernel
theorem dX10_followSightings_151 : decode cX10_followSightings 151 = .ok (.iload 9, 2) := by decide +kernel
theorem dX10_followSightings_153 : decode cX10_followSightings 153 = .ok (.iadd, 1) := by decide +kernel
theorem dX10_followSightings_154 : decode cX10_followSightings 154 = .ok (.istore 4, 2) := by decide +kernel
theorem dX10_followSightings_156 : decode cX10_followSightings 156 = .ok (.ldc2_w 447, 3) := by decide +kernel
theorem dX10_followSightings_159 : decode cX10_followSightings 159 = .ok (.lload 5, 2) := by decide +kernel
theorem dX10_followSightings_161 : decode cX10_followSightings 161 = .ok (.aload_n 0, 1) := by decide +kernel
theorem dX10_followSightings_162 : decode cX10_followSightings 162 = .ok (.getfield 68, 3) := by decide +kernel
theorem dX10_followSightings_165 : decode cX10_followSightings 165 = .ok (.getfield 431, 3) := by decide +kernel
theorem dX10_followSightings_168 : decode cX10_followSightings 168 = .ok (.iload_n 3, 1) := by decide +kernel
theorem dX10_followSightings_169 : decode cX10_followSightings 169 = .ok (.laload, 1) := by decide +kernel
theorem dX10_followSightings_170 : decode cX10_followSightings 170 = .ok (.lmul, 1) := by decide +kernel
theorem dX10_followSightings_171 : decode cX10_followSightings 171 = .ok (.invokestatic 449, 3) := by decide +kernel
theorem dX10_followSightings_174 : decode cX10_followSightings 174 = .ok (.lstore 5, 2) := by decide +kernel
theorem dX10_followSightings_176 : decode cX10_followSightings 176 = .ok (.iload 8, 2) := by decide +kernel
theorem dX10_followSightings_178 : decode cX10_followSightings 178 = .ok (.istore_n 3, 1) := by decide +kernel
theorem dX10_followSightings_179 : decode cX10_followSightings 179 = .ok (.iinc 7 1, 3) := by decide +kernel
theorem dX10_followSightings_182 : decode cX10_followSightings 182 = .ok (.goto (-129), 3) := by decide +kernel
theorem dX10_followSightings_185 : decode cX10_followSightings 185 = .ok (.aload_n 0, 1) := by decide +kernel
theorem dX10_followSightings_186 : decode cX10_followSightings 186 = .ok (.getfield 19, 3) := by decide +kernel
theorem dX10_followSightings_189 : decode cX10_followSightings 189 = .ok (.invokevirtual 292, 3) := by decide +kernel
theorem dX10_followSightings_192 : decode cX10_followSightings 192 = .ok (.aload_n 0, 1) := by decide +kernel
theorem dX10_followSightings_193 : decode cX10_followSightings 193 = .ok (.getfield 19, 3) := by decide +kernel
theorem dX10_followSightings_196 : decode cX10_followSightings 196 = .ok (.lload 5, 2) := by decide +kernel
theorem dX10_followSightings_198 : decode cX10_followSightings 198 = .ok (.invokevirtual 295, 3) := by decide +kernel
theorem dX10_followSightings_201 : decode cX10_followSightings 201 = .ok (.iload 4, 2) := by decide +kernel
theorem dX10_followSightings_203 : decode cX10_followSightings 203 = .ok (.ireturn, 1) := by decide +kernel
theorem dX10_snow_0 : decode cX10_snow 0 = .ok (.aload_n 0, 1) := by decide +kernel
theorem dX10_snow_1 : decode cX10_snow 1 = .ok (.iconst 1, 1) := by decide +kernel
theorem dX10_snow_2 : decode cX10_snow 2 = .ok (.putfield 117, 3) := by decide +kernel
theorem dX10_snow_5 : decode cX10_snow 5 = .ok (.aload_n 0, 1) := by decide +kernel
theorem dX10_snow_6 : decode cX10_snow 6 = .ok (.aload_n 0, 1) := by decide +kernel
theorem dX10_snow_7 : decode cX10_snow 7 = .ok (.invokevirtual 335, 3) := by decide +kernel
theorem dX10_snow_10 : decode cX10_snow 10 = .ok (.putfield 452, 3) := by decide +kernel
theorem dX10_snow_13 : decode cX10_snow 13 = .ok (.aload_n 0, 1) := by decide +kernel
theorem dX10_snow_14 : decode cX10_snow 14 = .ok (.getfield 452, 3) := by decide +kernel
theorem dX10_snow_17 : decode cX10_snow 17 = .ok (.invokestatic 349, 3) := by decide +kernel
theorem dX10_snow_20 : decode cX10_snow 20 = .ok (.ireturn, 1) := by decide +kernel
theorem dX10_thaw_0 : decode cX10_thaw 0 = .ok (.aload_n 0, 1) := by decide +kernel
theorem dX10_thaw_1 : decode cX10_thaw 1 = .ok (.getfield 117, 3) := by decide +kernel
theorem dX10_thaw_4 : decode cX10_thaw 4 = .ok (.ifCond .ne 6, 3) := by decide +kernel
theorem dX10_thaw_7 : decode cX10_thaw 7 = .ok (.bipush (-2), 2) := by decide +kernel
theorem dX10_thaw_9 : decode cX10_thaw 9 = .ok (.ireturn, 1) := by decide +kernel
theorem dX10_thaw_10 : decode cX10_thaw 10 = .ok (.aload_n 0, 1) := by decide +kernel
theorem dX10_thaw_11 : decode cX10_thaw 11 = .ok (.invokevirtual 335, 3) := by decide +kernel
theorem dX10_thaw_14 : decode cX10_thaw 14 = .ok (.lstore_n 1, 1) := by decide +kernel
theorem dX10_thaw_15 : decode cX10_thaw 15 = .ok (.aload_n 0, 1) := by decide +kernel
theorem dX10_thaw_16 : decode cX10_thaw 16 = .ok (.getfield 19, 3) := by decide +kernel
theorem dX10_thaw_19 : decode cX10_thaw 19 = .ok (.invokevirtual 292, 3) := by decide +kernel
theorem dX10_thaw_22 : decode cX10_thaw 22 = .ok (.aload_n 0, 1) := by decide +kernel
theorem dX10_thaw_23 : decode cX10_thaw 23 = .ok (.getfield 19, 3) := by decide +kernel
theorem dX10_thaw_26 : decode cX10_thaw 26 = .ok (.aload_n 0, 1) := by decide +kernel
theorem dX10_thaw_27 : decode cX10_thaw 27 = .ok (.getfield 452, 3) := by decide +kernel
theorem dX10_thaw_30 : decode cX10_thaw 30 = .ok (.lload_n 1, 1) := by decide +kernel
theorem dX10_thaw_31 : decode cX10_thaw 31 = .ok (.ldc2_w 347, 3) := by decide +kernel
theorem dX10_thaw_34 : decode cX10_thaw 34 = .ok (.lxor, 1) := by decide +kernel
theorem dX10_thaw_35 : decode cX10_thaw 35 = .ok (.land, 1) := by decide +kernel
theorem dX10_thaw_36 : decode cX10_thaw 36 = .ok (.invokevirtual 295, 3) := by decide +kernel
theorem dX10_thaw_39 : decode cX10_thaw 39 = .ok (.aload_n 0, 1) := by decide +kernel
theorem dX10_thaw_40 : decode cX10_thaw 40 = .ok (.getfield 19, 3) := by decide +kernel
theorem dX10_thaw_43 : decode cX10_thaw 43 = .ok (.lload_n 1, 1) := by decide +kernel
theorem dX10_thaw_44 : decode cX10_thaw 44 = .ok (.aload_n 0, 1) := by decide +kernel
theorem dX10_thaw_45 : decode cX10_thaw 45 = .ok (.getfield 452, 3) := by decide +kernel
theorem dX10_thaw_48 : decode cX10_thaw 48 = .ok (.ldc2_w 347, 3) := by decide +kernel
theorem dX10_thaw_51 : decode cX10_thaw 51 = .ok (.lxor, 1) := by decide +kernel
theorem dX10_thaw_52 : decode cX10_thaw 52 = .ok (.land, 1) := by decide +kernel
theorem dX10_thaw_53 : decode cX10_thaw 53 = .ok (.invokevirtual 295, 3) := by decide +kernel
theorem dX10_thaw_56 : decode cX10_thaw 56 = .ok (.aload_n 0, 1) := by decide +kernel
theorem dX10_thaw_57 : decode cX10_thaw 57 = .ok (.getfield 452, 3) := by decide +kernel
theorem dX10_thaw_60 : decode cX10_thaw 60 = .ok (.lload_n 1, 1) := by decide +kernel
theorem dX10_thaw_61 : decode cX10_thaw 61 = .ok (.ldc2_w 347, 3) := by decide +kernel
theorem dX10_thaw_64 : decode cX10_thaw 64 = .ok (.lxor, 1) := by decide +kernel
theorem dX10_thaw_65 : decode cX10_thaw 65 = .ok (.land, 1) := by decide +kernel
theorem dX10_thaw_66 : decode cX10_thaw 66 = .ok (.invokestatic 349, 3) := by decide +kernel
theorem dX10_thaw_69 : decode cX10_thaw 69 = .ok (.ireturn, 1) := by decide +kernel
theorem dX10_season_0 : decode cX10_season 0 = .ok (.aload_n 0, 1) := by decide +kernel
theorem dX10_season_1 : decode cX10_season 1 = .ok (.getfield 26, 3) := by decide +kernel
theorem dX10_season_4 : decode cX10_season 4 = .ok (.getfield 121, 3) := by decide +kernel
theorem dX10_season_7 : decode cX10_season 7 = .ok (.aload_n 0, 1) := by decide +kernel
theorem dX10_season_8 : decode cX10_season 8 = .ok (.getfield 26, 3) := by decide +kernel
theorem dX10_season_11 : decode cX10_season 11 = .ok (.getfield 124, 3) := by decide +kernel
theorem dX10_season_14 : decode cX10_season 14 = .ok (.imul, 1) := by decide +kernel
theorem dX10_season_15 : decode cX10_season 15 = .ok (.istore_n 3, 1) := by decide +kernel
theorem dX10_season_16 : decode cX10_season 16 = .ok (.iload_n 2, 1) := by decide +kernel
theorem dX10_season_17 : decode cX10_season 17 = .ok (.iconst 1, 1) := by decide +kernel
theorem dX10_season_18 : decode cX10_season 18 = .ok (.if_icmp .lt 14, 3) := by decide +kernel
theorem dX10_season_21 : decode cX10_season 21 = .ok (.iload_n 2, 1) := by decide +kernel
theorem dX10_season_22 : decode cX10_season 22 = .ok (.bipush 60, 2) := by decide +kernel
theorem dX10_season_24 : decode cX10_season 24 = .ok (.if_icmp .gt 8, 3) := by decide +kernel
theorem dX10_season_27 : decode cX10_season 27 = .ok (.iload_n 3, 1) := by decide +kernel
theorem dX10_season_28 : decode cX10_season 28 = .ok (.iconst 1, 1) := by decide +kernel
theorem dX10_season_29 : decode cX10_season 29 = .ok (.if_icmp .ge 5, 3) := by decide +kernel
theorem dX10_season_32 : decode cX10_season 32 = .ok (.iconst (-1), 1) := by decide +kernel
theorem dX10_season_33 : decode cX10_season 33 = .ok (.ireturn, 1) := by decide +kernel
theorem dX10_season_34 : decode cX10_season 34 = .ok (.aload_n 0, 1) := by decide +kernel
theorem dX10_season_35 : decode cX10_season 35 = .ok (.getfield 61, 3) := by decide +kernel
theorem dX10_season_38 : decode cX10_season 38 = .ok (.invokevirtual 377, 3) := by decide +kernel
theorem dX10_season_41 : decode cX10_season 41 = .ok (.astore 4, 2) := by decide +kernel
theorem dX10_season_43 : decode cX10_season 43 = .ok (.iload_n 1, 1) := by decide +kernel
theorem dX10_season_44 : decode cX10_season 44 = .ok (.istore 5, 2) := by decide +kernel
theorem dX10_season_46 : decode cX10_season 46 = .ok (.iconst 0, 1) := by decide +kernel
theorem dX10_season_47 : decode cX10_season 47 = .ok (.istore 6, 2) := by decide +kernel
theorem dX10_season_49 : decode cX10_season 49 = .ok (.iconst 0, 1) := by decide +kernel
theorem dX10_season_50 : decode cX10_season 50 = .ok (.istore 7, 2) := by decide +kernel
theorem dX10_season_52 : decode cX10_season 52 = .ok (.iload 7, 2) := by decide +kernel
theorem dX10_season_54 : decode cX10_season 54 = .ok (.iload_n 2, 1) := by decide +kernel
theorem dX10_season_55 : decode cX10_season 55 = .ok (.if_icmp .ge 46, 3) := by decide +kernel
theorem dX10_season_58 : decode cX10_season 58 = .ok (.iload 5, 2) := by decide +kernel
theorem dX10_season_60 : decode cX10_season 60 = .ok (.ldc_w 456, 3) := by decide +kernel
theorem dX10_season_63 : decode cX10_season 63 = .ok (.imul, 1) := by decide +kernel
theorem dX10_season_64 : decode cX10_season 64 = .ok (.sipush 12345, 3) := by decide +kernel
theorem dX10_season_67 : decode cX10_season 67 = .ok (.iadd, 1) := by decide +kernel
theorem dX10_season_68 : decode cX10_season 68 = .ok (.istore 5, 2) := by decide +kernel
theorem dX10_season_70 : decode cX10_season 70 = .ok (.iload 6, 2) := by decide +kernel
theorem dX10_season_72 : decode cX10_season 72 = .ok (.aload_n 0, 1) := by decide +kernel
theorem dX10_season_73 : decode cX10_season 73 = .ok (.aload 4, 2) := by decide +kernel
theorem dX10_season_75 : decode cX10_season 75 = .ok (.aload_n 0, 1) := by decide +kernel
theorem dX10_season_76 : decode cX10_season 76 = .ok (.getfield 26, 3) := by decide +kernel
theorem dX10_season_79 : decode cX10_season 79 = .ok (.iload 5, 2) := by decide +kernel
theorem dX10_season_81 : decode cX10_season 81 = .ok (.bipush 16, 2) := by decide +kernel
theorem dX10_season_83 : decode cX10_season 83 = .ok (.iushr, 1) := by decide +kernel
theorem dX10_season_84 : decode cX10_season 84 = .ok (.iload_n 3, 1) := by decide +kernel
theorem dX10_season_85 : decode cX10_season 85 = .ok (.irem, 1) := by decide +kernel
theorem dX10_season_86 : decode cX10_season 86 = .ok (.invokevirtual 457, 3) := by decide +kernel
theorem dX10_season_89 : decode cX10_season 89 = .ok (.invokevirtual 460, 3) := by decide +kernel
theorem dX10_season_92 : decode cX10_season 92 = .ok (.iadd, 1) := by decide +kernel
theorem dX10_season_93 : decode cX10_season 93 = .ok (.istore 6, 2) := by decide +kernel
theorem dX10_season_95 : decode cX10_season 95 = .ok (.iinc 7 1, 3) := by decide +kernel
theorem dX10_season_98 : decode cX10_season 98 = .ok (.goto (-46), 3) := by decide +kernel
theorem dX10_season_101 : decode cX10_season 101 = .ok (.aload_n 0, 1) := by decide +kernel
theorem dX10_season_102 : decode cX10_season 102 = .ok (.aload 4, 2) := by decide +kernel
theorem dX10_season_104 : decode cX10_season 104 = .ok (.invokevirtual 273, 3) := by decide +kernel
theorem dX10_season_107 : decode cX10_season 107 = .ok (.iload 6, 2) := by decide +kernel
theorem dX10_season_109 : decode cX10_season 109 = .ok (.ireturn, 1) := by decide +kernel
theorem dX10_passWithFlies_0 : decode cX10_passWithFlies 0 = .ok (.aload_n 0, 1) := by decide +kernel
theorem dX10_passWithFlies_1 : decode cX10_passWithFlies 1 = .ok (.getfield 26, 3) := by decide +kernel
theorem dX10_passWithFlies_4 : decode cX10_passWithFlies 4 = .ok (.iload_n 2, 1) := by decide +kernel
theorem dX10_passWithFlies_5 : decode cX10_passWithFlies 5 = .ok (.invokevirtual 241, 3) := by decide +kernel
theorem dX10_passWithFlies_8 : decode cX10_passWithFlies 8 = .ok (.ifCond .ne 12, 3) := by decide +kernel
theorem dX10_passWithFlies_11 : decode cX10_passWithFlies 11 = .ok (.aload_n 0, 1) := by decide +kernel
theorem dX10_passWithFlies_12 : decode cX10_passWithFlies 12 = .ok (.getfield 42, 3) := by decide +kernel
theorem dX10_passWithFlies_15 : decode cX10_passWithFlies 15 = .ok (.aload_n 1, 1) := by decide +kernel
theorem dX10_passWithFlies_16 : decode cX10_passWithFlies 16 = .ok (.invokevirtual 269, 3) := by decide +kernel
theorem dX10_passWithFlies_19 : decode cX10_passWithFlies 19 = .ok (.ireturn, 1) := by decide +kernel
theorem dX10_passWithFlies_20 : decode cX10_passWithFlies 20 = .ok (.aload_n 1, 1) := by decide +kernel
theorem dX10_passWithFlies_21 : decode cX10_passWithFlies 21 = .ok (.getfield 151, 3) := by decide +kernel
theorem dX10_passWithFlies_24 : decode cX10_passWithFlies 24 = .ok (.iload_n 2, 1) := by decide +kernel
theorem dX10_passWithFlies_25 : decode cX10_passWithFlies 25 = .ok (.iaload, 1) := by decide +kernel
theorem dX10_passWithFlies_26 : decode cX10_passWithFlies 26 = .ok (.istore_n 3, 1) := by decide +kernel
theorem dX10_passWithFlies_27 : decode cX10_passWithFlies 27 = .ok (.aload_n 1, 1) := by decide +kernel
theorem dX10_passWithFlies_28 : decode cX10_passWithFlies 28 = .ok (.getfield 151, 3) := by decide +kernel
theorem dX10_passWithFlies_31 : decode cX10_passWithFlies 31 = .ok (.iload_n 2, 1) := by decide +kernel
theorem dX10_passWithFlies_32 : decode cX10_passWithFlies 32 = .ok (.bipush 9, 2) := by decide +kernel
theorem dX10_passWithFlies_34 : decode cX10_passWithFlies 34 = .ok (.iastore, 1) := by decide +kernel
theorem dX10_passWithFlies_35 : decode cX10_passWithFlies 35 = .ok (.aload_n 0, 1) := by decide +kernel
theorem dX10_passWithFlies_36 : decode cX10_passWithFlies 36 = .ok (.getfield 42, 3) := by decide +kernel
theorem dX10_passWithFlies_39 : decode cX10_passWithFlies 39 = .ok (.aload_n 1, 1) := by decide +kernel
theorem dX10_passWithFlies_40 : decode cX10_passWithFlies 40 = .ok (.invokevirtual 269, 3) := by decide +kernel
theorem dX10_passWithFlies_43 : decode cX10_passWithFlies 43 = .ok (.istore 4, 2) := by decide +kernel
theorem dX10_passWithFlies_45 : decode cX10_passWithFlies 45 = .ok (.aload_n 1, 1) := by decide +kernel
theorem dX10_passWithFlies_46 : decode cX10_passWithFlies 46 = .ok (.getfield 151, 3) := by decide +kernel
theorem dX10_passWithFlies_49 : decode cX10_passWithFlies 49 = .ok (.iload_n 2, 1) := by decide +kernel
theorem dX10_passWithFlies_50 : decode cX10_passWithFlies 50 = .ok (.iload_n 3, 1) := by decide +kernel
theorem dX10_passWithFlies_51 : decode cX10_passWithFlies 51 = .ok (.iastore, 1) := by decide +kernel
theorem dX10_passWithFlies_52 : decode cX10_passWithFlies 52 = .ok (.iload 4, 2) := by decide +kernel
theorem dX10_passWithFlies_54 : decode cX10_passWithFlies 54 = .ok (.ireturn, 1) := by decide +kernel
theorem dX10_keep_0 : decode cX10_keep 0 = .ok (.iload_n 1, 1) := by decide +kernel
theorem dX10_keep_1 : decode cX10_keep 1 = .ok (.ifCond .lt 8, 3) := by decide +kernel
theorem dX10_keep_4 : decode cX10_keep 4 = .ok (.iload_n 1, 1) := by decide +kernel
theorem dX10_keep_5 : decode cX10_keep 5 = .ok (.iconst 2, 1) := by decide +kernel
theorem dX10_keep_6 : decode cX10_keep 6 = .ok (.if_icmp .lt 5, 3) := by decide +kernel
theorem dX10_keep_9 : decode cX10_keep 9 = .ok (.iconst 0, 1) := by decide +kernel
theorem dX10_keep_10 : decode cX10_keep 10 = .ok (.ireturn, 1) := by decide +kernel
theorem dX10_keep_11 : decode cX10_keep 11 = .ok (.aload_n 0, 1) := by decide +kernel
theorem dX10_keep_12 : decode cX10_keep 12 = .ok (.getfield 79, 3) := by decide +kernel
theorem dX10_keep_15 : decode cX10_keep 15 = .ok (.iload_n 1, 1) := by decide +kernel
theorem dX10_keep_16 : decode cX10_keep 16 = .ok (.aaload, 1) := by decide +kernel
theorem dX10_keep_17 : decode cX10_keep 17 = .ok (.aload_n 0, 1) := by decide +kernel
theorem dX10_keep_18 : decode cX10_keep 18 = .ok (.getfield 49, 3) := by decide +kernel
theorem dX10_keep_21 : decode cX10_keep 21 = .ok (.invokevirtual 131, 3) := by decide +kernel
theorem dX10_keep_24 : decode cX10_keep 24 = .ok (.aload_n 0, 1) := by decide +kernel
theorem dX10_keep_25 : decode cX10_keep 25 = .ok (.dup, 1) := by decide +kernel
theorem dX10_keep_26 : decode cX10_keep 26 = .ok (.getfield 114, 3) := by decide +kernel
theorem dX10_keep_29 : decode cX10_keep 29 = .ok (.iconst 1, 1) := by decide +kernel
theorem dX10_keep_30 : decode cX10_keep 30 = .ok (.iload_n 1, 1) := by decide +kernel
theorem dX10_keep_31 : decode cX10_keep 31 = .ok (.ishl, 1) := by decide +kernel
theorem dX10_keep_32 : decode cX10_keep 32 = .ok (.ior, 1) := by decide +kernel
theorem dX10_keep_33 : decode cX10_keep 33 = .ok (.putfield 114, 3) := by decide +kernel
theorem dX10_keep_36 : decode cX10_keep 36 = .ok (.iconst 1, 1) := by decide +kernel
theorem dX10_keep_37 : decode cX10_keep 37 = .ok (.ireturn, 1) := by decide +kernel
theorem dX10_again_0 : decode cX10_again 0 = .ok (.iload_n 1, 1) := by decide +kernel
theorem dX10_again_1 : decode cX10_again 1 = .ok (.ifCond .lt 19, 3) := by decide +kernel
theorem dX10_again_4 : decode cX10_again 4 = .ok (.iload_n 1, 1) := by decide +kernel
theorem dX10_again_5 : decode cX10_again 5 = .ok (.iconst 2, 1) := by decide +kernel
theorem dX10_again_6 : decode cX10_again 6 = .ok (.if_icmp .ge 14, 3) := by decide +kernel
theorem dX10_again_9 : decode cX10_again 9 = .ok (.aload_n 0, 1) := by decide +kernel
theorem dX10_again_10 : decode cX10_again 10 = .ok (.getfield 114, 3) := by decide +kernel
theorem dX10_again_13 : decode cX10_again 13 = .ok (.iload_n 1, 1) := by decide +kernel
theorem dX10_again_14 : decode cX10_again 14 = .ok (.ishr, 1) := by decide +kernel
theorem dX10_again_15 : decode cX10_again 15 = .ok (.iconst 1, 1) := by decide +kernel
theorem dX10_again_16 : decode cX10_again 16 = .ok (.iand, 1) := by decide +kernel
theorem dX10_again_17 : decode cX10_again 17 = .ok (.ifCond .ne 5, 3) := by decide +kernel
theorem dX10_again_20 : decode cX10_again 20 = .ok (.iconst 0, 1) := by decide +kernel
theorem dX10_again_21 : decode cX10_again 21 = .ok (.ireturn, 1) := by decide +kernel
theorem dX10_again_22 : decode cX10_again 22 = .ok (.aload_n 0, 1) := by decide +kernel
theorem dX10_again_23 : decode cX10_again 23 = .ok (.getfield 49, 3) := by decide +kernel
theorem dX10_again_26 : decode cX10_again 26 = .ok (.aload_n 0, 1) := by decide +kernel
theorem dX10_again_27 : decode cX10_again 27 = .ok (.getfield 79, 3) := by decide +kernel
theorem dX10_again_30 : decode cX10_again 30 = .ok (.iload_n 1, 1) := by decide +kernel
theorem dX10_again_31 : decode cX10_again 31 = .ok (.aaload, 1) := by decide +kernel
theorem dX10_again_32 : decode cX10_again 32 = .ok (.invokevirtual 131, 3) := by decide +kernel
theorem dX10_again_35 : decode cX10_again 35 = .ok (.aload_n 0, 1) := by decide +kernel
theorem dX10_again_36 : decode cX10_again 36 = .ok (.getfield 75, 3) := by decide +kernel
theorem dX10_again_39 : decode cX10_again 39 = .ok (.invokevirtual 111, 3) := by decide +kernel
theorem dX10_again_42 : decode cX10_again 42 = .ok (.iconst 1, 1) := by decide +kernel
theorem dX10_again_43 : decode cX10_again 43 = .ok (.ireturn, 1) := by decide +kernel
theorem dX10_count_0 : decode cX10_count 0 = .ok (.iload_n 1, 1) := by decide +kernel
theorem dX10_count_1 : decode cX10_count 1 = .ok (.tableswitch 171 0 12 #[67, 75, 83, 91, 99, 107, 115, 123, 131, 139, 147, 155, 163], 67) := by decide +kernel
theorem dX10_count_68 : decode cX10_count 68 = .ok (.aload_n 0, 1) := by decide +kernel
theorem dX10_count_69 : decode cX10_count 69 = .ok (.getfield 26, 3) := by decide +kernel
theorem dX10_count_72 : decode cX10_count 72 = .ok (.getfield 121, 3) := by decide +kernel
theorem dX10_count_75 : decode cX10_count 75 = .ok (.ireturn, 1) := by decide +kernel
theorem dX10_count_76 : decode cX10_count 76 = .ok (.aload_n 0, 1) := by decide +kernel
theorem dX10_count_77 : decode cX10_count 77 = .ok (.getfield 26, 3) := by decide +kernel
theorem dX10_count_80 : decode cX10_count 80 = .ok (.getfield 124, 3) := by decide +kernel
theorem dX10_count_83 : decode cX10_count 83 = .ok (.ireturn, 1) := by decide +kernel
theorem dX10_count_84 : decode cX10_count 84 = .ok (.aload_n 0, 1) := by decide +kernel
theorem dX10_count_85 : decode cX10_count 85 = .ok (.getfield 26, 3) := by decide +kernel
theorem dX10_count_88 : decode cX10_count 88 = .ok (.getfield 306, 3) := by decide +kernel
theorem dX10_count_91 : decode cX10_count 91 = .ok (.ireturn, 1) := by decide +kernel
theorem dX10_count_92 : decode cX10_count 92 = .ok (.aload_n 0, 1) := by decide +kernel
theorem dX10_count_93 : decode cX10_count 93 = .ok (.getfield 49, 3) := by decide +kernel
theorem dX10_count_96 : decode cX10_count 96 = .ok (.getfield 154, 3) := by decide +kernel
theorem dX10_count_99 : decode cX10_count 99 = .ok (.ireturn, 1) := by decide +kernel
theorem dX10_count_100 : decode cX10_count 100 = .ok (.aload_n 0, 1) := by decide +kernel
theorem dX10_count_101 : decode cX10_count 101 = .ok (.getfield 49, 3) := by decide +kernel
theorem dX10_count_104 : decode cX10_count 104 = .ok (.getfield 206, 3) := by decide +kernel
theorem dX10_count_107 : decode cX10_count 107 = .ok (.ireturn, 1) := by decide +kernel
theorem dX10_count_108 : decode cX10_count 108 = .ok (.aload_n 0, 1) := by decide +kernel
theorem dX10_count_109 : decode cX10_count 109 = .ok (.getfield 49, 3) := by decide +kernel
theorem dX10_count_112 : decode cX10_count 112 = .ok (.getfield 192, 3) := by decide +kernel
theorem dX10_count_115 : decode cX10_count 115 = .ok (.ireturn, 1) := by decide +kernel
theorem dX10_count_116 : decode cX10_count 116 = .ok (.aload_n 0, 1) := by decide +kernel
theorem dX10_count_117 : decode cX10_count 117 = .ok (.getfield 49, 3) := by decide +kernel
theorem dX10_count_120 : decode cX10_count 120 = .ok (.getfield 463, 3) := by decide +kernel
theorem dX10_count_123 : decode cX10_count 123 = .ok (.ireturn, 1) := by decide +kernel
theorem dX10_count_124 : decode cX10_count 124 = .ok (.aload_n 0, 1) := by decide +kernel
theorem dX10_count_125 : decode cX10_count 125 = .ok (.getfield 42, 3) := by decide +kernel
theorem dX10_count_128 : decode cX10_count 128 = .ok (.getfield 167, 3) := by decide +kernel
theorem dX10_count_131 : decode cX10_count 131 = .ok (.ireturn, 1) := by decide +kernel
theorem dX10_count_132 : decode cX10_count 132 = .ok (.aload_n 0, 1) := by decide +kernel
theorem dX10_count_133 : decode cX10_count 133 = .ok (.getfield 42, 3) := by decide +kernel
theorem dX10_count_136 : decode cX10_count 136 = .ok (.getfield 203, 3) := by decide +kernel
theorem dX10_count_139 : decode cX10_count 139 = .ok (.ireturn, 1) := by decide +kernel
theorem dX10_count_140 : decode cX10_count 140 = .ok (.aload_n 0, 1) := by decide +kernel
theorem dX10_count_141 : decode cX10_count 141 = .ok (.getfield 49, 3) := by decide +kernel
theorem dX10_count_144 : decode cX10_count 144 = .ok (.invokevirtual 466, 3) := by decide +kernel
theorem dX10_count_147 : decode cX10_count 147 = .ok (.ireturn, 1) := by decide +kernel
theorem dX10_count_148 : decode cX10_count 148 = .ok (.aload_n 0, 1) := by decide +kernel
theorem dX10_count_149 : decode cX10_count 149 = .ok (.getfield 75, 3) := by decide +kernel
theorem dX10_count_152 : decode cX10_count 152 = .ok (.getfield 303, 3) := by decide +kernel
theorem dX10_count_155 : decode cX10_count 155 = .ok (.ireturn, 1) := by decide +kernel
theorem dX10_count_156 : decode cX10_count 156 = .ok (.aload_n 0, 1) := by decide +kernel
theorem dX10_count_157 : decode cX10_count 157 = .ok (.getfield 19, 3) := by decide +kernel
theorem dX10_count_160 : decode cX10_count 160 = .ok (.getfield 469, 3) := by decide +kernel
theorem dX10_count_163 : decode cX10_count 163 = .ok (.ireturn, 1) := by decide +kernel
theorem dX10_count_164 : decode cX10_count 164 = .ok (.aload_n 0, 1) := by decide +kernel
theorem dX10_count_165 : decode cX10_count 165 = .ok (.getfield 10, 3) := by decide +kernel
theorem dX10_count_168 : decode cX10_count 168 = .ok (.getfield 100, 3) := by decide +kernel
theorem dX10_count_171 : decode cX10_count 171 = .ok (.ireturn, 1) := by decide +kernel
theorem dX10_count_172 : decode cX10_count 172 = .ok (.iconst (-1), 1) := by decide +kernel
theorem dX10_count_173 : decode cX10_count 173 = .ok (.ireturn, 1) := by decide +kernel
theorem dX10_row_0 : decode cX10_row 0 = .ok (.iload_n 1, 1) := by decide +kernel
theorem dX10_row_1 : decode cX10_row 1 = .ok (.ifCond .lt 14, 3) := by decide +kernel
theorem dX10_row_4 : decode cX10_row 4 = .ok (.iload_n 1, 1) := by decide +kernel
theorem dX10_row_5 : decode cX10_row 5 = .ok (.aload_n 0, 1) := by decide +kernel
theorem dX10_row_6 : decode cX10_row 6 = .ok (.getfield 19, 3) := by decide +kernel
theorem dX10_row_9 : decode cX10_row 9 = .ok (.getfield 469, 3) := by decide +kernel
theorem dX10_row_12 : decode cX10_row 12 = .ok (.if_icmp .lt 14, 3) := by decide +kernel
theorem dX10_row_15 : decode cX10_row 15 = .ok (.new 138, 3) := by decide +kernel
theorem dX10_row_18 : decode cX10_row 18 = .ok (.dup, 1) := by decide +kernel
theorem dX10_row_19 : decode cX10_row 19 = .ok (.ldc_w 470, 3) := by decide +kernel
theorem dX10_row_22 : decode cX10_row 22 = .ok (.invokespecial 142, 3) := by decide +kernel
theorem dX10_row_25 : decode cX10_row 25 = .ok (.athrow, 1) := by decide +kernel
theorem dX10_row_26 : decode cX10_row 26 = .ok (.aload_n 0, 1) := by decide +kernel
theorem dX10_row_27 : decode cX10_row 27 = .ok (.getfield 19, 3) := by decide +kernel
theorem dX10_row_30 : decode cX10_row 30 = .ok (.getfield 472, 3) := by decide +kernel
theorem dX10_row_33 : decode cX10_row 33 = .ok (.iload_n 1, 1) := by decide +kernel
theorem dX10_row_34 : decode cX10_row 34 = .ok (.laload, 1) := by decide +kernel
theorem dX10_row_35 : decode cX10_row 35 = .ok (.lreturn, 1) := by decide +kernel
theorem dX11_init_0 : decode cX11_init 0 = .ok (.aload_n 0, 1) := by decide +kernel
theorem dX11_init_1 : decode cX11_init 1 = .ok (.invokespecial 3, 3) := by decide +kernel
theorem dX11_init_4 : decode cX11_init 4 = .ok (.aload_n 0, 1) := by decide +kernel
theorem dX11_init_5 : decode cX11_init 5 = .ok (.sipush 334, 3) := by decide +kernel
theorem dX11_init_8 : decode cX11_init 8 = .ok (.newarray .int, 2) := by decide +kernel
theorem dX11_init_10 : decode cX11_init 10 = .ok (.putfield 9, 3) := by decide +kernel
theorem dX11_init_13 : decode cX11_init 13 = .ok (.aload_n 0, 1) := by decide +kernel
theorem dX11_init_14 : decode cX11_init 14 = .ok (.bipush 64, 2) := by decide +kernel
theorem dX11_init_16 : decode cX11_init 16 = .ok (.newarray .int, 2) := by decide +kernel
theorem dX11_init_18 : decode cX11_init 18 = .ok (.putfield 13, 3) := by decide +kernel
theorem dX11_init_21 : decode cX11_init 21 = .ok (.aload_n 0, 1) := by decide +kernel
theorem dX11_init_22 : decode cX11_init 22 = .ok (.bipush 64, 2) := by decide +kernel
theorem dX11_init_24 : decode cX11_init 24 = .ok (.newarray .int, 2) := by decide +kernel
theorem dX11_init_26 : decode cX11_init 26 = .ok (.putfield 16, 3) := by decide +kernel
theorem dX11_init_29 : decode cX11_init 29 = .ok (.aload_n 0, 1) := by decide +kernel
theorem dX11_init_30 : decode cX11_init 30 = .ok (.bipush 6, 2) := by decide +kernel
theorem dX11_init_32 : decode cX11_init 32 = .ok (.newarray .int, 2) := by decide +kernel
theorem dX11_init_34 : decode cX11_init 34 = .ok (.putfield 19, 3) := by decide +kernel
theorem dX11_init_37 : decode cX11_init 37 = .ok (.aload_n 0, 1) := by decide +kernel
theorem dX11_init_38 : decode cX11_init 38 = .ok (.bipush 6, 2) := by decide +kernel
theorem dX11_init_40 : decode cX11_init 40 = .ok (.newarray .int, 2) := by decide +kernel
theorem dX11_init_42 : decode cX11_init 42 = .ok (.putfield 22, 3) := by decide +kernel
theorem dX11_init_45 : decode cX11_init 45 = .ok (.aload_n 0, 1) := by decide +kernel
theorem dX11_init_46 : decode cX11_init 46 = .ok (.bipush 12, 2) := by decide +kernel
theorem dX11_init_48 : decode cX11_init 48 = .ok (.putfield 25, 3) := by decide +kernel
theorem dX11_init_51 : decode cX11_init 51 = .ok (.aload_n 0, 1) := by decide +kernel
theorem dX11_init_52 : decode cX11_init 52 = .ok (.bipush 6, 2) := by decide +kernel
theorem dX11_init_54 : decode cX11_init 54 = .ok (.putfield 29, 3) := by decide +kernel
theorem dX11_init_57 : decode cX11_init 57 = .ok (.aload_n 0, 1) := by decide +kernel
theorem dX11_init_58 : decode cX11_init 58 = .ok (.bipush 80, 2) := by decide +kernel
theorem dX11_init_60 : decode cX11_init 60 = .ok (.newarray .byte, 2) := by decide +kernel
theorem dX11_init_62 : decode cX11_init 62 = .ok (.putfield 32, 3) := by decide +kernel
theorem dX11_init_65 : decode cX11_init 65 = .ok (.aload_n 0, 1) := by decide +kernel
theorem dX11_init_66 : decode cX11_init 66 = .ok (.bipush 20, 2) := by decide +kernel
theorem dX11_init_68 : decode cX11_init 68 = .ok (.newarray .long, 2) := by decide +kernel
theorem dX11_init_70 : decode cX11_init 70 = .ok (.putfield 36, 3) := by decide +kernel
theorem dX11_init_73 : decode cX11_init 73 = .ok (.aload_n 0, 1) := by decide +kernel
theorem dX11_init_74 : decode cX11_init 74 = .ok (.bipush 64, 2) := by decide +kernel
theorem dX11_init_76 : decode cX11_init 76 = .ok (.newarray .int, 2) := by decide +kernel
theorem dX11_init_78 : decode cX11_init 78 = .ok (.putfield 40, 3) := by decide +kernel
theorem dX11_init_81 : decode cX11_init 81 = .ok (.aload_n 0, 1) := by decide +kernel
theorem dX11_init_82 : decode cX11_init 82 = .ok (.bipush 64, 2) := by decide +kernel
theorem dX11_init_84 : decode cX11_init 84 = .ok (.newarray .int, 2) := by decide +kernel
theorem dX11_init_86 : decode cX11_init 86 = .ok (.putfield 43, 3) := by decide +kernel
theorem dX11_init_89 : decode cX11_init 89 = .ok (.aload_n 0, 1) := by decide +kernel
theorem dX11_init_90 : decode cX11_init 90 = .ok (.bipush 18, 2) := by decide +kernel
theorem dX11_init_92 : decode cX11_init 92 = .ok (.newarray .int, 2) := by decide +kernel
theorem dX11_init_94 : decode cX11_init 94 = .ok (.putfield 46, 3) := by decide +kernel
theorem dX11_init_97 : decode cX11_init 97 = .ok (.aload_n 0, 1) := by decide +kernel
theorem dX11_init_98 : decode cX11_init 98 = .ok (.bipush 40, 2) := by decide +kernel
theorem dX11_init_100 : decode cX11_init 100 = .ok (.newarray .byte, 2) := by decide +kernel
theorem dX11_init_102 : decode cX11_init 102 = .ok (.putfield 49, 3) := by decide +kernel
theorem dX11_init_105 : decode cX11_init 105 = .ok (.aload_n 0, 1) := by decide +kernel
theorem dX11_init_106 : decode cX11_init 106 = .ok (.bipush 9, 2) := by decide +kernel
theorem dX11_init_108 : decode cX11_init 108 = .ok (.newarray .int, 2) := by decide +kernel
theorem dX11_init_110 : decode cX11_init 110 = .ok (.putfield 52, 3) := by decide +kernel
theorem dX11_init_113 : decode cX11_init 113 = .ok (.aload_n 0, 1) := by decide +kernel
theorem dX11_init_114 : decode cX11_init 114 = .ok (.sipush 3340, 3) := by decide +kernel
theorem dX11_init_117 : decode cX11_init 117 = .ok (.newarray .int, 2) := by decide +kernel
theorem dX11_init_119 : decode cX11_init 119 = .ok (.putfield 55, 3) := by decide +kernel
theorem dX11_init_122 : decode cX11_init 122 = .ok (.aload_n 0, 1) := by decide +kernel
theorem dX11_init_123 : decode cX11_init 123 = .ok (.sipush 334, 3) := by decide +kernel
theorem dX11_init_126 : decode cX11_init 126 = .ok (.newarray .int, 2) := by decide +kernel
theorem dX11_init_128 : decode cX11_init 128 = .ok (.putfield 58, 3) := by decide +kernel
theorem dX11_init_131 : decode cX11_init 131 = .ok (.aload_n 0, 1) := by decide +kernel
theorem dX11_init_132 : decode cX11_init 132 = .ok (.sipush 320, 3) := by decide +kernel
theorem dX11_init_135 : decode cX11_init 135 = .ok (.newarray .int, 2) := by decide +kernel
theorem dX11_init_137 : decode cX11_init 137 = .ok (.putfield 61, 3) := by decide +kernel
theorem dX11_init_140 : decode cX11_init 140 = .ok (.aload_n 0, 1) := by decide +kernel
theorem dX11_init_141 : decode cX11_init 141 = .ok (.bipush 64, 2) := by decide +kernel
theorem dX11_init_143 : decode cX11_init 143 = .ok (.newarray .int, 2) := by decide +kernel
theorem dX11_init_145 : decode cX11_init 145 = .ok (.putfield 64, 3) := by decide +kernel
theorem dX11_init_148 : decode cX11_init 148 = .ok (.aload_n 0, 1) := by decide +kernel
theorem dX11_init_149 : decode cX11_init 149 = .ok (.sipush 334, 3) := by decide +kernel
theorem dX11_init_152 : decode cX11_init 152 = .ok (.newarray .int, 2) := by decide +kernel
theorem dX11_init_154 : decode cX11_init 154 = .ok (.putfield 67, 3) := by decide +kernel
theorem dX11_init_157 : decode cX11_init 157 = .ok (.aload_n 0, 1) := by decide +kernel
theorem dX11_init_158 : decode cX11_init 158 = .ok (.bipush 64, 2) := by decide +kernel
theorem dX11_init_160 : decode cX11_init 160 = .ok (.newarray .int, 2) := by decide +kernel
theorem dX11_init_162 : decode cX11_init 162 = .ok (.putfield 70, 3) := by decide +kernel
theorem dX11_init_165 : decode cX11_init 165 = .ok (.aload_n 0, 1) := by decide +kernel
theorem dX11_init_166 : decode cX11_init 166 = .ok (.bipush 64, 2) := by decide +kernel
theorem dX11_init_168 : decode cX11_init 168 = .ok (.newarray .int, 2) := by decide +kernel
theorem dX11_init_170 : decode cX11_init 170 = .ok (.putfield 73, 3) := by decide +kernel
theorem dX11_init_173 : decode cX11_init 173 = .ok (.aload_n 0, 1) := by decide +kernel
theorem dX11_init_174 : decode cX11_init 174 = .ok (.bipush 12, 2) := by decide +kernel
theorem dX11_init_176 : decode cX11_init 176 = .ok (.newarray .int, 2) := by decide +kernel
theorem dX11_init_178 : decode cX11_init 178 = .ok (.putfield 76, 3) := by decide +kernel
theorem dX11_init_181 : decode cX11_init 181 = .ok (.aload_n 0, 1) := by decide +kernel
theorem dX11_init_182 : decode cX11_init 182 = .ok (.sipush 668, 3) := by decide +kernel
theorem dX11_init_185 : decode cX11_init 185 = .ok (.newarray .int, 2) := by decide +kernel
theorem dX11_init_187 : decode cX11_init 187 = .ok (.putfield 79, 3) := by decide +kernel
theorem dX11_init_190 : decode cX11_init 190 = .ok (.aload_n 0, 1) := by decide +kernel
theorem dX11_init_191 : decode cX11_init 191 = .ok (.iconst 2, 1) := by decide +kernel
theorem dX11_init_192 : decode cX11_init 192 = .ok (.newarray .boolean, 2) := by decide +kernel
theorem dX11_init_194 : decode cX11_init 194 = .ok (.putfield 82, 3) := by decide +kernel
theorem dX11_init_197 : decode cX11_init 197 = .ok (.aload_n 0, 1) := by decide +kernel
theorem dX11_init_198 : decode cX11_init 198 = .ok (.iconst 2, 1) := by decide +kernel
theorem dX11_init_199 : decode cX11_init 199 = .ok (.newarray .int, 2) := by decide +kernel
theorem dX11_init_201 : decode cX11_init 201 = .ok (.putfield 86, 3) := by decide +kernel
theorem dX11_init_204 : decode cX11_init 204 = .ok (.return_, 1) := by decide +kernel
theorem dX11_in_0 : decode cX11_in 0 = .ok (.iload_n 0, 1) := by decide +kernel
theorem dX11_in_1 : decode cX11_in 1 = .ok (.iload_n 1, 1) := by decide +kernel
theorem dX11_in_2 : decode cX11_in 2 = .ok (.if_icmp .lt 12, 3) := by decide +kernel
theorem dX11_in_5 : decode cX11_in 5 = .ok (.iload_n 0, 1) := by decide +kernel
theorem dX11_in_6 : decode cX11_in 6 = .ok (.iload_n 2, 1) := by decide +kernel
theorem dX11_in_7 : decode cX11_in 7 = .ok (.if_icmp .gt 7, 3) := by decide +kernel
theorem dX11_in_10 : decode cX11_in 10 = .ok (.iconst 1, 1) := by decide +kernel
theorem dX11_in_11 : decode cX11_in 11 = .ok (.goto 4, 3) := by decide +kernel
theorem dX11_in_14 : decode cX11_in 14 = .ok (.iconst 0, 1) := by decide +kernel
theorem dX11_in_15 : decode cX11_in 15 = .ok (.ireturn, 1) := by decide +kernel
theorem dX11_has_0 : decode cX11_has 0 = .ok (.lload_n 0, 1) := by decide +kernel
theorem dX11_has_1 : decode cX11_has 1 = .ok (.iload_n 2, 1) := by decide +kernel
theorem dX11_has_2 : decode cX11_has 2 = .ok (.lushr, 1) := by decide +kernel
theorem dX11_has_3 : decode cX11_has 3 = .ok (.lconst 1, 1) := by decide +kernel
theorem dX11_has_4 : decode cX11_has 4 = .ok (.land, 1) := by decide +kernel
theorem dX11_has_5 : decode cX11_has 5 = .ok (.lconst 1, 1) := by decide +kernel
theorem dX11_has_6 : decode cX11_has 6 = .ok (.lcmp, 1) := by decide +kernel
theorem dX11_has_7 : decode cX11_has 7 = .ok (.ifCond .ne 7, 3) := by decide +kernel
theorem dX11_has_10 : decode cX11_has 10 = .ok (.iconst 1, 1) := by decide +kernel
theorem dX11_has_11 : decode cX11_has 11 = .ok (.goto 4, 3) := by decide +kernel
theorem dX11_has_14 : decode cX11_has 14 = .ok (.iconst 0, 1) := by decide +kernel
theorem dX11_has_15 : decode cX11_has 15 = .ok (.ireturn, 1) := by decide +kernel
theorem dX11_lost_0 : decode cX11_lost 0 = .ok (.aload_n 0, 1) := by decide +kernel
theorem dX11_lost_1 : decode cX11_lost 1 = .ok (.iconst 1, 1) := by decide +kernel
theorem dX11_lost_2 : decode cX11_lost 2 = .ok (.putfield 89, 3) := by decide +kernel
theorem dX11_lost_5 : decode cX11_lost 5 = .ok (.iconst 0, 1) := by decide +kernel
theorem dX11_lost_6 : decode cX11_lost 6 = .ok (.ireturn, 1) := by decide +kernel
theorem dX11_tell_0 : decode cX11_tell 0 = .ok (.aload_n 0, 1) := by decide +kernel
theorem dX11_tell_1 : decode cX11_tell 1 = .ok (.getfield 36, 3) := by decide +kernel
theorem dX11_tell_4 : decode cX11_tell 4 = .ok (.aload_n 0, 1) := by decide +kernel
theorem dX11_tell_5 : decode cX11_tell 5 = .ok (.getfield 92, 3) := by decide +kernel
theorem dX11_tell_8 : decode cX11_tell 8 = .ok (.lload_n 1, 1) := by decide +kernel
theorem dX11_tell_9 : decode cX11_tell 9 = .ok (.lastore, 1) := by decide +kernel
theorem dX11_tell_10 : decode cX11_tell 10 = .ok (.aload_n 0, 1) := by decide +kernel
theorem dX11_tell_11 : decode cX11_tell 11 = .ok (.dup, 1) := by decide +kernel
theorem dX11_tell_12 : decode cX11_tell 12 = .ok (.getfield 92, 3) := by decide +kernel
theorem dX11_tell_15 : decode cX11_tell 15 = .ok (.iconst 1, 1) := by decide +kernel
theorem dX11_tell_16 : decode cX11_tell 16 = .ok (.iadd, 1) := by decide +kernel
theorem dX11_tell_17 : decode cX11_tell 17 = .ok (.putfield 92, 3) := by decide +kernel
theorem dX11_tell_20 : decode cX11_tell 20 = .ok (.return_, 1) := by decide +kernel
theorem dX11_isCell_0 : decode cX11_isCell 0 = .ok (.iload_n 1, 1) := by decide +kernel
theorem dX11_isCell_1 : decode cX11_isCell 1 = .ok (.iconst 0, 1) := by decide +kernel
theorem dX11_isCell_2 : decode cX11_isCell 2 = .ok (.bipush 63, 2) := by decide +kernel
theorem dX11_isCell_4 : decode cX11_isCell 4 = .ok (.invokestatic 95, 3) := by decide +kernel
theorem dX11_isCell_7 : decode cX11_isCell 7 = .ok (.ifCond .eq 29, 3) := by decide +kernel
theorem dX11_isCell_10 : decode cX11_isCell 10 = .ok (.iload_n 1, 1) := by decide +kernel
theorem dX11_isCell_11 : decode cX11_isCell 11 = .ok (.bipush 8, 2) := by decide +kernel
theorem dX11_isCell_13 : decode cX11_isCell 13 = .ok (.irem, 1) := by decide +kernel
theorem dX11_isCell_14 : decode cX11_isCell 14 = .ok (.aload_n 0, 1) := by decide +kernel
theorem dX11_isCell_15 : decode cX11_isCell 15 = .ok (.getfield 99, 3) := by decide +kernel
theorem dX11_isCell_18 : decode cX11_isCell 18 = .ok (.if_icmp .ge 18, 3) := by decide +kernel
theorem dX11_isCell_21 : decode cX11_isCell 21 = .ok (.iload_n 1, 1) := by decide +kernel
theorem dX11_isCell_22 : decode cX11_isCell 22 = .ok (.bipush 8, 2) := by decide +kernel
theorem dX11_isCell_24 : decode cX11_isCell 24 = .ok (.idiv, 1) := by decide +kernel
theorem dX11_isCell_25 : decode cX11_isCell 25 = .ok (.aload_n 0, 1) := by decide +kernel
theorem dX11_isCell_26 : decode cX11_isCell 26 = .ok (.getfield 102, 3) := by decide +kernel
theorem dX11_isCell_29 : decode cX11_isCell 29 = .ok (.if_icmp .ge 7, 3) := by decide +kernel
theorem dX11_isCell_32 : decode cX11_isCell 32 = .ok (.iconst 1, 1) := by decide +kernel
theorem dX11_isCell_33 : decode cX11_isCell 33 = .ok (.goto 4, 3) := by decide +kernel
theorem dX11_isCell_36 : decode cX11_isCell 36 = .ok (.iconst 0, 1) := by decide +kernel
theorem dX11_isCell_37 : decode cX11_isCell 37 = .ok (.ireturn, 1) := by decide +kernel
theorem dX11_isHerd_0 : decode cX11_isHerd 0 = .ok (.iload_n 1, 1) := by decide +kernel
theorem dX11_isHerd_1 : decode cX11_isHerd 1 = .ok (.iconst 0, 1) := by decide +kernel
theorem dX11_isHerd_2 : decode cX11_isHerd 2 = .ok (.aload_n 0, 1) := by decide +kernel
theorem dX11_isHerd_3 : decode cX11_isHerd 3 = .ok (.getfield 105, 3) := by decide +kernel
theorem dX11_isHerd_6 : decode cX11_isHerd 6 = .ok (.iconst 1, 1) := by decide +kernel
theorem dX11_isHerd_7 : decode cX11_isHerd 7 = .ok (.isub, 1) := by decide +kernel
theorem dX11_isHerd_8 : decode cX11_isHerd 8 = .ok (.invokestatic 95, 3) := by decide +kernel
theorem dX11_isHerd_11 : decode cX11_isHerd 11 = .ok (.ireturn, 1) := by decide +kernel
theorem dX11_sign_0 : decode cX11_sign 0 = .ok (.aload_n 0, 1) := by decide +kernel
theorem dX11_sign_1 : decode cX11_sign 1 = .ok (.iconst 0, 1) := by decide +kernel
theorem dX11_sign_2 : decode cX11_sign 2 = .ok (.putfield 89, 3) := by decide +kernel
theorem dX11_sign_5 : decode cX11_sign 5 = .ok (.aload_n 0, 1) := by decide +kernel
theorem dX11_sign_6 : decode cX11_sign 6 = .ok (.getfield 108, 3) := by decide +kernel
theorem dX11_sign_9 : decode cX11_sign 9 = .ok (.iconst 4, 1) := by decide +kernel
theorem dX11_sign_10 : decode cX11_sign 10 = .ok (.iadd, 1) := by decide +kernel
theorem dX11_sign_11 : decode cX11_sign 11 = .ok (.bipush 80, 2) := by decide +kernel
theorem dX11_sign_13 : decode cX11_sign 13 = .ok (.if_icmp .le 5, 3) := by decide +kernel
theorem dX11_sign_16 : decode cX11_sign 16 = .ok (.iconst (-1), 1) := by decide +kernel
theorem dX11_sign_17 : decode cX11_sign 17 = .ok (.ireturn, 1) := by decide +kernel
theorem dX11_sign_18 : decode cX11_sign 18 = .ok (.iconst 3, 1) := by decide +kernel
theorem dX11_sign_19 : decode cX11_sign 19 = .ok (.istore_n 2, 1) := by decide +kernel
theorem dX11_sign_20 : decode cX11_sign 20 = .ok (.iload_n 2, 1) := by decide +kernel
theorem dX11_sign_21 : decode cX11_sign 21 = .ok (.ifCond .lt 32, 3) := by decide +kernel
theorem dX11_sign_24 : decode cX11_sign 24 = .ok (.aload_n 0, 1) := by decide +kernel
theorem dX11_sign_25 : decode cX11_sign 25 = .ok (.getfield 32, 3) := by decide +kernel
theorem dX11_sign_28 : decode cX11_sign 28 = .ok (.aload_n 0, 1) := by decide +kernel
theorem dX11_sign_29 : decode cX11_sign 29 = .ok (.dup, 1) := by decide +kernel
theorem dX11_sign_30 : decode cX11_sign 30 = .ok (.getfield 108, 3) := by decide +kernel
theorem dX11_sign_33 : decode cX11_sign 33 = .ok (.dup_x1, 1) := by decide +kernel
theorem dX11_sign_34 : decode cX11_sign 34 = .ok (.iconst 1, 1) := by decide +kernel
theorem dX11_sign_35 : decode cX11_sign 35 = .ok (.iadd, 1) := by decide +kernel
theorem dX11_sign_36 : decode cX11_sign 36 = .ok (.putfield 108, 3) := by decide +kernel
theorem dX11_sign_39 : decode cX11_sign 39 = .ok (.iload_n 1, 1) := by decide +kernel
theorem dX11_sign_40 : decode cX11_sign 40 = .ok (.bipush 8, 2) := by decide +kernel
theorem dX11_sign_42 : decode cX11_sign 42 = .ok (.iload_n 2, 1) := by decide +kernel
theorem dX11_sign_43 : decode cX11_sign 43 = .ok (.imul, 1) := by decide +kernel
theorem dX11_sign_44 : decode cX11_sign 44 = .ok (.ishr, 1) := by decide +kernel
theorem dX11_sign_45 : decode cX11_sign 45 = .ok (.i2b, 1) := by decide +kernel
theorem dX11_sign_46 : decode cX11_sign 46 = .ok (.bastore, 1) := by decide +kernel
theorem dX11_sign_47 : decode cX11_sign 47 = .ok (.iinc 2 (-1), 3) := by decide +kernel
theorem dX11_sign_50 : decode cX11_sign 50 = .ok (.goto (-30), 3) := by decide +kernel
theorem dX11_sign_53 : decode cX11_sign 53 = .ok (.aload_n 0, 1) := by decide +kernel
theorem dX11_sign_54 : decode cX11_sign 54 = .ok (.getfield 108, 3) := by decide +kernel
theorem dX11_sign_57 : decode cX11_sign 57 = .ok (.ireturn, 1) := by decide +kernel
theorem dX11_end_0 : decode cX11_end 0 = .ok (.aload_n 0, 1) := by decide +kernel
theorem dX11_end_1 : decode cX11_end 1 = .ok (.iconst 0, 1) := by decide +kernel
theorem dX11_end_2 : decode cX11_end 2 = .ok (.putfield 89, 3) := by decide +kernel
theorem dX11_end_5 : decode cX11_end 5 = .ok (.iload_n 1, 1) := by decide +kernel
theorem dX11_end_6 : decode cX11_end 6 = .ok (.iconst 0, 1) := by decide +kernel
theorem dX11_end_7 : decode cX11_end 7 = .ok (.aload_n 0, 1) := by decide +kernel
theorem dX11_end_8 : decode cX11_end 8 = .ok (.getfield 108, 3) := by decide +kernel
theorem dX11_end_11 : decode cX11_end 11 = .ok (.invokestatic 95, 3) := by decide +kernel
theorem dX11_end_14 : decode cX11_end 14 = .ok (.ifCond .ne 5, 3) := by decide +kernel
theorem dX11_end_17 : decode cX11_end 17 = .ok (.iconst 0, 1) := by decide +kernel
theorem dX11_end_18 : decode cX11_end 18 = .ok (.ireturn, 1) := by decide +kernel
theorem dX11_end_19 : decode cX11_end 19 = .ok (.aload_n 0, 1) := by decide +kernel
theorem dX11_end_20 : decode cX11_end 20 = .ok (.iload_n 1, 1) := by decide +kernel
theorem dX11_end_21 : decode cX11_end 21 = .ok (.putfield 108, 3) := by decide +kernel
theorem dX11_end_24 : decode cX11_end 24 = .ok (.iconst 1, 1) := by decide +kernel
theorem dX11_end_25 : decode cX11_end 25 = .ok (.ireturn, 1) := by decide +kernel
theorem dX11_begin_0 : decode cX11_begin 0 = .ok (.aload_n 0, 1) := by decide +kernel
theorem dX11_begin_1 : decode cX11_begin 1 = .ok (.aload_n 1, 1) := by decide +kernel
theorem dX11_begin_2 : decode cX11_begin 2 = .ok (.putfield 111, 3) := by decide +kernel
theorem dX11_begin_5 : decode cX11_begin 5 = .ok (.aload_n 0, 1) := by decide +kernel
theorem dX11_begin_6 : decode cX11_begin 6 = .ok (.iload_n 2, 1) := by decide +kernel
theorem dX11_begin_7 : decode cX11_begin 7 = .ok (.putfield 114, 3) := by decide +kernel
theorem dX11_begin_10 : decode cX11_begin 10 = .ok (.aload_n 0, 1) := by decide +kernel
theorem dX11_begin_11 : decode cX11_begin 11 = .ok (.iload_n 3, 1) := by decide +kernel
theorem dX11_begin_12 : decode cX11_begin 12 = .ok (.putfield 117, 3) := by decide +kernel
theorem dX11_begin_15 : decode cX11_begin 15 = .ok (.aload_n 0, 1) := by decide +kernel
theorem dX11_begin_16 : decode cX11_begin 16 = .ok (.iconst 0, 1) := by decide +kernel
theorem dX11_begin_17 : decode cX11_begin 17 = .ok (.putfield 120, 3) := by decide +kernel
theorem dX11_begin_20 : decode cX11_begin 20 = .ok (.aload_n 0, 1) := by decide +kernel
theorem dX11_begin_21 : decode cX11_begin 21 = .ok (.iconst (-1), 1) := by decide +kernel
theorem dX11_begin_22 : decode cX11_begin 22 = .ok (.putfield 123, 3) := by decide +kernel
theorem dX11_begin_25 : decode cX11_begin 25 = .ok (.return_, 1) := by decide +kernel
theorem dX11_here_0 : decode cX11_here 0 = .ok (.aload_n 0, 1) := by decide +kernel
theorem dX11_here_1 : decode cX11_here 1 = .ok (.getfield 120, 3) := by decide +kernel
theorem dX11_here_4 : decode cX11_here 4 = .ok (.aload_n 0, 1) := by decide +kernel
theorem dX11_here_5 : decode cX11_here 5 = .ok (.getfield 114, 3) := by decide +kernel
theorem dX11_here_8 : decode cX11_here 8 = .ok (.if_icmp .ge 30, 3) := by decide +kernel
theorem dX11_here_11 : decode cX11_here 11 = .ok (.aload_n 0, 1) := by decide +kernel
theorem dX11_here_12 : decode cX11_here 12 = .ok (.getfield 120, 3) := by decide +kernel
theorem dX11_here_15 : decode cX11_here 15 = .ok (.aload_n 0, 1) := by decide +kernel
theorem dX11_here_16 : decode cX11_here 16 = .ok (.getfield 117, 3) := by decide +kernel
theorem dX11_here_19 : decode cX11_here 19 = .ok (.if_icmp .ge 19, 3) := by decide +kernel
theorem dX11_here_22 : decode cX11_here 22 = .ok (.aload_n 0, 1) := by decide +kernel
theorem dX11_here_23 : decode cX11_here 23 = .ok (.getfield 111, 3) := by decide +kernel
theorem dX11_here_26 : decode cX11_here 26 = .ok (.aload_n 0, 1) := by decide +kernel
theorem dX11_here_27 : decode cX11_here 27 = .ok (.getfield 120, 3) := by decide +kernel
theorem dX11_here_30 : decode cX11_here 30 = .ok (.baload, 1) := by decide +kernel
theorem dX11_here_31 : decode cX11_here 31 = .ok (.sipush 255, 3) := by decide +kernel
theorem dX11_here_34 : decode cX11_here 34 = .ok (.iand, 1) := by decide +kernel
theorem dX11_here_35 : decode cX11_here 35 = .ok (.goto 4, 3) := by decide +kernel
theorem dX11_here_38 : decode cX11_here 38 = .ok (.iconst (-1), 1) := by decide +kernel
theorem dX11_here_39 : decode cX11_here 39 = .ok (.ireturn, 1) := by decide +kernel
theorem dX11_fine_0 : decode cX11_fine 0 = .ok (.aload_n 0, 1) := by decide +kernel
theorem dX11_fine_1 : decode cX11_fine 1 = .ok (.getfield 123, 3) := by decide +kernel
theorem dX11_fine_4 : decode cX11_fine 4 = .ok (.iconst (-1), 1) := by decide +kernel
theorem dX11_fine_5 : decode cX11_fine 5 = .ok (.if_icmp .ne 7, 3) := by decide +kernel
theorem dX11_fine_8 : decode cX11_fine 8 = .ok (.iconst 1, 1) := by decide +kernel
theorem dX11_fine_9 : decode cX11_fine 9 = .ok (.goto 4, 3) := by decide +kernel
theorem dX11_fine_12 : decode cX11_fine 12 = .ok (.iconst 0, 1) := by decide +kernel
theorem dX11_fine_13 : decode cX11_fine 13 = .ok (.ireturn, 1) := by decide +kernel
theorem dX11_fault_0 : decode cX11_fault 0 = .ok (.aload_n 0, 1) := by decide +kernel
theorem dX11_fault_1 : decode cX11_fault 1 = .ok (.invokevirtual 126, 3) := by decide +kernel
theorem dX11_fault_4 : decode cX11_fault 4 = .ok (.ifCond .eq 8, 3) := by decide +kernel
theorem dX11_fault_7 : decode cX11_fault 7 = .ok (.aload_n 0, 1) := by decide +kernel
theorem dX11_fault_8 : decode cX11_fault 8 = .ok (.iload_n 1, 1) := by decide +kernel
theorem dX11_fault_9 : decode cX11_fault 9 = .ok (.putfield 123, 3) := by decide +kernel
theorem dX11_fault_12 : decode cX11_fault 12 = .ok (.return_, 1) := by decide +kernel
theorem dX11_passes_0 : decode cX11_passes 0 = .ok (.aload_n 0, 1) := by decide +kernel
theorem dX11_passes_1 : decode cX11_passes 1 = .ok (.invokevirtual 126, 3) := by decide +kernel
theorem dX11_passes_4 : decode cX11_passes 4 = .ok (.ifCond .eq 11, 3) := by decide +kernel
theorem dX11_passes_7 : decode cX11_passes 7 = .ok (.aload_n 0, 1) := by decide +kernel
theorem dX11_passes_8 : decode cX11_passes 8 = .ok (.invokevirtual 130, 3) := by decide +kernel
theorem dX11_passes_11 : decode cX11_passes 11 = .ok (.iload_n 1, 1) := by decide +kernel
theorem dX11_passes_12 : decode cX11_passes 12 = .ok (.if_icmp .eq 5, 3) := by decide +kernel
theorem dX11_passes_15 : decode cX11_passes 15 = .ok (.iconst 0, 1) := by decide +kernel
theorem dX11_passes_16 : decode cX11_passes 16 = .ok (.ireturn, 1) := by decide +kernel
theorem dX11_passes_17 : decode cX11_passes 17 = .ok (.aload_n 0, 1) := by decide +kernel
theorem dX11_passes_18 : decode cX11_passes 18 = .ok (.dup, 1) := by decide +kernel
theorem dX11_passes_19 : decode cX11_passes 19 = .ok (.getfield 120, 3) := by decide +kernel
theorem dX11_passes_22 : decode cX11_passes 22 = .ok (.iconst 1, 1) := by decide +kernel
theorem dX11_passes_23 : decode cX11_passes 23 = .ok (.iadd, 1) := by decide +kernel
theorem dX11_passes_24 : decode cX11_passes 24 = .ok (.putfield 120, 3) := by decide +kernel
theorem dX11_passes_27 : decode cX11_passes 27 = .ok (.iconst 1, 1) := by decide +kernel
theorem dX11_passes_28 : decode cX11_passes 28 = .ok (.ireturn, 1) := by decide +kernel
theorem dX11_need_0 : decode cX11_need 0 = .ok (.aload_n 0, 1) := by decide +kernel
theorem dX11_need_1 : decode cX11_need 1 = .ok (.iload_n 1, 1) := by decide +kernel
theorem dX11_need_2 : decode cX11_need 2 = .ok (.invokevirtual 134, 3) := by decide +kernel
theorem dX11_need_5 : decode cX11_need 5 = .ok (.ifCond .ne 11, 3) := by decide +kernel
theorem dX11_need_8 : decode cX11_need 8 = .ok (.aload_n 0, 1) := by decide +kernel
theorem dX11_need_9 : decode cX11_need 9 = .ok (.aload_n 0, 1) := by decide +kernel
theorem dX11_need_10 : decode cX11_need 10 = .ok (.getfield 120, 3) := by decide +kernel
theorem dX11_need_13 : decode cX11_need 13 = .ok (.invokevirtual 138, 3) := by decide +kernel
theorem dX11_need_16 : decode cX11_need 16 = .ok (.return_, 1) := by decide +kernel
theorem dX11_oneOf_0 : decode cX11_oneOf 0 = .ok (.aload_n 0, 1) := by decide +kernel
theorem dX11_oneOf_1 : decode cX11_oneOf 1 = .ok (.invokevirtual 126, 3) := by decide +kernel
theorem dX11_oneOf_4 : decode cX11_oneOf 4 = .ok (.ifCond .ne 5, 3) := by decide +kernel
theorem dX11_oneOf_7 : decode cX11_oneOf 7 = .ok (.iconst 0, 1) := by decide +kernel
theorem dX11_oneOf_8 : decode cX11_oneOf 8 = .ok (.ireturn, 1) := by decide +kernel
theorem dX11_oneOf_9 : decode cX11_oneOf 9 = .ok (.aload_n 0, 1) := by decide +kernel
theorem dX11_oneOf_10 : decode cX11_oneOf 10 = .ok (.invokevirtual 130, 3) := by decide +kernel
theorem dX11_oneOf_13 : decode cX11_oneOf 13 = .ok (.iload_n 1, 1) := by decide +kernel
theorem dX11_oneOf_14 : decode cX11_oneOf 14 = .ok (.iload_n 1, 1) := by decide +kernel
theorem dX11_oneOf_15 : decode cX11_oneOf 15 = .ok (.iload_n 2, 1) := by decide +kernel
theorem dX11_oneOf_16 : decode cX11_oneOf 16 = .ok (.iadd, 1) := by decide +kernel
theorem dX11_oneOf_17 : decode cX11_oneOf 17 = .ok (.iconst 1, 1) := by decide +kernel
theorem dX11_oneOf_18 : decode cX11_oneOf 18 = .ok (.isub, 1) := by decide +kernel
theorem dX11_oneOf_19 : decode cX11_oneOf 19 = .ok (.invokestatic 95, 3) := by decide +kernel
theorem dX11_oneOf_22 : decode cX11_oneOf 22 = .ok (.ifCond .ne 13, 3) := by decide +kernel
theorem dX11_oneOf_25 : decode cX11_oneOf 25 = .ok (.aload_n 0, 1) := by decide +kernel
theorem dX11_oneOf_26 : decode cX11_oneOf 26 = .ok (.aload_n 0, 1) := by decide +kernel
theorem dX11_oneOf_27 : decode cX11_oneOf 27 = .ok (.getfield 120, 3) := by decide +kernel
theorem dX11_oneOf_30 : decode cX11_oneOf 30 = .ok (.invokevirtual 138, 3) := by decide +kernel
theorem dX11_oneOf_33 : decode cX11_oneOf 33 = .ok (.iconst 0, 1) := by decide +kernel
theorem dX11_oneOf_34 : decode cX11_oneOf 34 = .ok (.ireturn, 1) := by decide +kernel
theorem dX11_oneOf_35 : decode cX11_oneOf 35 = .ok (.aload_n 0, 1) := by decide +kernel
theorem dX11_oneOf_36 : decode cX11_oneOf 36 = .ok (.dup, 1) := by decide +kernel
theorem dX11_oneOf_37 : decode cX11_oneOf 37 = .ok (.getfield 120, 3) := by decide +kernel
theorem dX11_oneOf_40 : decode cX11_oneOf 40 = .ok (.iconst 1, 1) := by decide +kernel
theorem dX11_oneOf_41 : decode cX11_oneOf 41 = .ok (.iadd, 1) := by decide +kernel
theorem dX11_oneOf_42 : decode cX11_oneOf 42 = .ok (.putfield 120, 3) := by decide +kernel
theorem dX11_oneOf_45 : decode cX11_oneOf 45 = .ok (.aload_n 0, 1) := by decide +kernel
theorem dX11_oneOf_46 : decode cX11_oneOf 46 = .ok (.getfield 111, 3) := by decide +kernel
theorem dX11_oneOf_49 : decode cX11_oneOf 49 = .ok (.aload_n 0, 1) := by decide +kernel
theorem dX11_oneOf_50 : decode cX11_oneOf 50 = .ok (.getfield 120, 3) := by decide +kernel
theorem dX11_oneOf_53 : decode cX11_oneOf 53 = .ok (.iconst 1, 1) := by decide +kernel
theorem dX11_oneOf_54 : decode cX11_oneOf 54 = .ok (.isub, 1) := by decide +kernel
theorem dX11_oneOf_55 : decode cX11_oneOf 55 = .ok (.baload, 1) := by decide +kernel
theorem dX11_oneOf_56 : decode cX11_oneOf 56 = .ok (.iload_n 1, 1) := by decide +kernel
theorem dX11_oneOf_57 : decode cX11_oneOf 57 = .ok (.isub, 1) := by decide +kernel
theorem dX11_oneOf_58 : decode cX11_oneOf 58 = .ok (.ireturn, 1) := by decide +kernel
theorem dX11_meadow_0 : decode cX11_meadow 0 = .ok (.aload_n 0, 1) := by decide +kernel
theorem dX11_meadow_1 : decode cX11_meadow 1 = .ok (.iconst 0, 1) := by decide +kernel
theorem dX11_meadow_2 : decode cX11_meadow 2 = .ok (.putfield 89, 3) := by decide +kernel
theorem dX11_meadow_5 : decode cX11_meadow 5 = .ok (.aload_n 0, 1) := by decide +kernel
theorem dX11_meadow_6 : decode cX11_meadow 6 = .ok (.aload_n 0, 1) := by decide +kernel
theorem dX11_meadow_7 : decode cX11_meadow 7 = .ok (.getfield 32, 3) := by decide +kernel
theorem dX11_meadow_10 : decode cX11_meadow 10 = .ok (.aload_n 0, 1) := by decide +kernel
theorem dX11_meadow_11 : decode cX11_meadow 11 = .ok (.getfield 108, 3) := by decide +kernel
theorem dX11_meadow_14 : decode cX11_meadow 14 = .ok (.bipush 76, 2) := by decide +kernel
theorem dX11_meadow_16 : decode cX11_meadow 16 = .ok (.invokevirtual 142, 3) := by decide +kernel
theorem dX11_meadow_19 : decode cX11_meadow 19 = .ok (.aload_n 0, 1) := by decide +kernel
theorem dX11_meadow_20 : decode cX11_meadow 20 = .ok (.iconst 0, 1) := by decide +kernel
theorem dX11_meadow_21 : decode cX11_meadow 21 = .ok (.putfield 108, 3) := by decide +kernel
theorem dX11_meadow_24 : decode cX11_meadow 24 = .ok (.iconst 0, 1) := by decide +kernel
theorem dX11_meadow_25 : decode cX11_meadow 25 = .ok (.istore_n 1, 1) := by decide +kernel
theorem dX11_meadow_26 : decode cX11_meadow 26 = .ok (.iconst 0, 1) := by decide +kernel
theorem dX11_meadow_27 : decode cX11_meadow 27 = .ok (.istore_n 2, 1) := by decide +kernel
theorem dX11_meadow_28 : decode cX11_meadow 28 = .ok (.iconst 0, 1) := by decide +kernel
theorem dX11_meadow_29 : decode cX11_meadow 29 = .ok (.istore_n 3, 1) := by decide +kernel
theorem dX11_meadow_30 : decode cX11_meadow 30 = .ok (.iconst 1, 1) := by decide +kernel
theorem dX11_meadow_31 : decode cX11_meadow 31 = .ok (.istore 4, 2) := by decide +kernel
theorem dX11_meadow_33 : decode cX11_meadow 33 = .ok (.iload 4, 2) := by decide +kernel
theorem dX11_meadow_35 : decode cX11_meadow 35 = .ok (.ifCond .eq 232, 3) := by decide +kernel
theorem dX11_meadow_38 : decode cX11_meadow 38 = .ok (.aload_n 0, 1) := by decide +kernel
theorem dX11_meadow_39 : decode cX11_meadow 39 = .ok (.invokevirtual 126, 3) := by decide +kernel
theorem dX11_meadow_42 : decode cX11_meadow 42 = .ok (.ifCond .eq 225, 3) := by decide +kernel
theorem dX11_meadow_45 : decode cX11_meadow 45 = .ok (.iconst 0, 1) := by decide +kernel
theorem dX11_meadow_46 : decode cX11_meadow 46 = .ok (.istore 5, 2) := by decide +kernel
theorem dX11_meadow_48 : decode cX11_meadow 48 = .ok (.aload_n 0, 1) := by decide +kernel
theorem dX11_meadow_49 : decode cX11_meadow 49 = .ok (.invokevirtual 126, 3) := by decide +kernel
theorem dX11_meadow_52 : decode cX11_meadow 52 = .ok (.ifCond .eq 135, 3) := by decide +kernel
theorem dX11_meadow_55 : decode cX11_meadow 55 = .ok (.iload 5, 2) := by decide +kernel
theorem dX11_meadow_57 : decode cX11_meadow 57 = .ok (.iload_n 2, 1) := by decide +kernel
theorem dX11_meadow_58 : decode cX11_meadow 58 = .ok (.ifCond .ne 8, 3) := by decide +kernel
theorem dX11_meadow_61 : decode cX11_meadow 61 = .ok (.bipush 8, 2) := by decide +kernel
theorem dX11_meadow_63 : decode cX11_meadow 63 = .ok (.goto 4, 3) := by decide +kernel
theorem dX11_meadow_66 : decode cX11_meadow 66 = .ok (.iload_n 1, 1) := by decide +kernel
theorem dX11_meadow_67 : decode cX11_meadow 67 = .ok (.if_icmp .ge 120, 3) := by decide +kernel
theorem dX11_meadow_70 : decode cX11_meadow 70 = .ok (.aload_n 0, 1) := by decide +kernel
theorem dX11_meadow_71 : decode cX11_meadow 71 = .ok (.invokevirtual 130, 3) := by decide +kernel
theorem dX11_meadow_74 : decode cX11_meadow 74 = .ok (.iload_n 3, 1) := by decide +kernel
theorem dX11_meadow_75 : decode cX11_meadow 75 = .ok (.invokestatic 146, 3) := by decide +kernel
theorem dX11_meadow_78 : decode cX11_meadow 78 = .ok (.ifCond .eq 109, 3) := by decide +kernel
theorem dX11_meadow_81 : decode cX11_meadow 81 = .ok (.bipush 8, 2) := by decide +kernel
theorem dX11_meadow_83 : decode cX11_meadow 83 = .ok (.iload_n 2, 1) := by decide +kernel
theorem dX11_meadow_84 : decode cX11_meadow 84 = .ok (.imul, 1) := by decide +kernel
theorem dX11_meadow_85 : decode cX11_meadow 85 = .ok (.iload 5, 2) := by decide +kernel
theorem dX11_meadow_87 : decode cX11_meadow 87 = .ok (.iadd, 1) := by decide +kernel
theorem dX11_meadow_88 : decode cX11_meadow 88 = .ok (.istore 6, 2) := by decide +kernel
theorem dX11_meadow_90 : decode cX11_meadow 90 = .ok (.aload_n 0, 1) := by decide +kernel
theorem dX11_meadow_91 : decode cX11_meadow 91 = .ok (.getfield 40, 3) := by decide +kernel
theorem dX11_meadow_94 : decode cX11_meadow 94 = .ok (.iload 6, 2) := by decide +kernel
theorem dX11_meadow_96 : decode cX11_meadow 96 = .ok (.aload_n 0, 1) := by decide +kernel
theorem dX11_meadow_97 : decode cX11_meadow 97 = .ok (.invokevirtual 130, 3) := by decide +kernel
theorem dX11_meadow_100 : decode cX11_meadow 100 = .ok (.bipush 35, 2) := by decide +kernel
theorem dX11_meadow_102 : decode cX11_meadow 102 = .ok (.if_icmp .ne 7, 3) := by decide +kernel
theorem dX11_meadow_105 : decode cX11_meadow 105 = .ok (.iconst 1, 1) := by decide +kernel
theorem dX11_meadow_106 : decode cX11_meadow 106 = .ok (.goto 17, 3) := by decide +kernel
theorem dX11_meadow_109 : decode cX11_meadow 109 = .ok (.aload_n 0, 1) := by decide +kernel
theorem dX11_meadow_110 : decode cX11_meadow 110 = .ok (.invokevirtual 130, 3) := by decide +kernel
theorem dX11_meadow_113 : decode cX11_meadow 113 = .ok (.bipush 43, 2) := by decide +kernel
theorem dX11_meadow_115 : decode cX11_meadow 115 = .ok (.if_icmp .ne 7, 3) := by decide +kernel
theorem dX11_meadow_118 : decode cX11_meadow 118 = .ok (.iconst 2, 1) := by decide +kernel
theorem dX11_meadow_119 : decode cX11_meadow 119 = .ok (.goto 4, 3) := by decide +kernel
theorem dX11_meadow_122 : decode cX11_meadow 122 = .ok (.iconst 0, 1) := by decide +kernel
theorem dX11_meadow_123 : decode cX11_meadow 123 = .ok (.iastore, 1) := by decide +kernel
theorem dX11_meadow_124 : decode cX11_meadow 124 = .ok (.aload_n 0, 1) := by decide +kernel
theorem dX11_meadow_125 : decode cX11_meadow 125 = .ok (.getfield 43, 3) := by decide +kernel
theorem dX11_meadow_128 : decode cX11_meadow 128 = .ok (.iload 6, 2) := by decide +kernel
theorem dX11_meadow_130 : decode cX11_meadow 130 = .ok (.aload_n 0, 1) := by decide +kernel
theorem dX11_meadow_131 : decode cX11_meadow 131 = .ok (.getfield 40, 3) := by decide +kernel
theorem dX11_meadow_134 : decode cX11_meadow 134 = .ok (.iload 6, 2) := by decide +kernel
theorem dX11_meadow_136 : decode cX11_meadow 136 = .ok (.iaload, 1) := by decide +kernel
theorem dX11_meadow_137 : decode cX11_meadow 137 = .ok (.ifCond .ne 13, 3) := by decide +kernel
theorem dX11_meadow_140 : decode cX11_meadow 140 = .ok (.aload_n 0, 1) := by decide +kernel
theorem dX11_meadow_141 : decode cX11_meadow 141 = .ok (.invokevirtual 130, 3) := by decide +kernel
theorem dX11_meadow_144 : decode cX11_meadow 144 = .ok (.bipush 48, 2) := by decide +kernel
theorem dX11_meadow_146 : decode cX11_meadow 146 = .ok (.isub, 1) := by decide +kernel
theorem dX11_meadow_147 : decode cX11_meadow 147 = .ok (.goto 4, 3) := by decide +kernel
theorem dX11_meadow_150 : decode cX11_meadow 150 = .ok (.iconst 0, 1) := by decide +kernel
theorem dX11_meadow_151 : decode cX11_meadow 151 = .ok (.iastore, 1) := by decide +kernel
theorem dX11_meadow_152 : decode cX11_meadow 152 = .ok (.iload_n 3, 1) := by decide +kernel
theorem dX11_meadow_153 : decode cX11_meadow 153 = .ok (.aload_n 0, 1) := by decide +kernel
theorem dX11_meadow_154 : decode cX11_meadow 154 = .ok (.getfield 40, 3) := by decide +kernel
theorem dX11_meadow_157 : decode cX11_meadow 157 = .ok (.iload 6, 2) := by decide +kernel
theorem dX11_meadow_159 : decode cX11_meadow 159 = .ok (.iaload, 1) := by decide +kernel
theorem dX11_meadow_160 : decode cX11_meadow 160 = .ok (.iconst 2, 1) := by decide +kernel
theorem dX11_meadow_161 : decode cX11_meadow 161 = .ok (.if_icmp .ne 7, 3) := by decide +kernel
theorem dX11_meadow_164 : decode cX11_meadow 164 = .ok (.iconst 1, 1) := by decide +kernel
theorem dX11_meadow_165 : decode cX11_meadow 165 = .ok (.goto 4, 3) := by decide +kernel
theorem dX11_meadow_168 : decode cX11_meadow 168 = .ok (.iconst 0, 1) := by decide +kernel
theorem dX11_meadow_169 : decode cX11_meadow 169 = .ok (.iadd, 1) := by decide +kernel
theorem dX11_meadow_170 : decode cX11_meadow 170 = .ok (.istore_n 3, 1) := by decide +kernel
theorem dX11_meadow_171 : decode cX11_meadow 171 = .ok (.iinc 5 1, 3) := by decide +kernel
theorem dX11_meadow_174 : decode cX11_meadow 174 = .ok (.aload_n 0, 1) := by decide +kernel
theorem dX11_meadow_175 : decode cX11_meadow 175 = .ok (.dup, 1) := by decide +kernel
theorem dX11_meadow_176 : decode cX11_meadow 176 = .ok (.getfield 120, 3) := by decide +kernel
theorem dX11_meadow_179 : decode cX11_meadow 179 = .ok (.iconst 1, 1) := by decide +kernel
theorem dX11_meadow_180 : decode cX11_meadow 180 = .ok (.iadd, 1) := by decide +kernel
theorem dX11_meadow_181 : decode cX11_meadow 181 = .ok (.putfield 120, 3) := by decide +kernel
theorem dX11_meadow_184 : decode cX11_meadow 184 = .ok (.goto (-136), 3) := by decide +kernel
theorem dX11_meadow_187 : decode cX11_meadow 187 = .ok (.iload 5, 2) := by decide +kernel
theorem dX11_meadow_189 : decode cX11_meadow 189 = .ok (.ifCond .eq 13, 3) := by decide +kernel
theorem dX11_meadow_192 : decode cX11_meadow 192 = .ok (.iload_n 2, 1) := by decide +kernel
theorem dX11_meadow_193 : decode cX11_meadow 193 = .ok (.ifCond .le 17, 3) := by decide +kernel
theorem dX11_meadow_196 : decode cX11_meadow 196 = .ok (.iload 5, 2) := by decide +kernel
theorem dX11_meadow_198 : decode cX11_meadow 198 = .ok (.iload_n 1, 1) := by decide +kernel
theorem dX11_meadow_199 : decode cX11_meadow 199 = .ok (.if_icmp .ge 11, 3) := by decide +kernel
theorem dX11_meadow_202 : decode cX11_meadow 202 = .ok (.aload_n 0, 1) := by decide +kernel
theorem dX11_meadow_203 : decode cX11_meadow 203 = .ok (.aload_n 0, 1) := by decide +kernel
theorem dX11_meadow_204 : decode cX11_meadow 204 = .ok (.getfield 120, 3) := by decide +kernel
theorem dX11_meadow_207 : decode cX11_meadow 207 = .ok (.invokevirtual 138, 3) := by decide +kernel
theorem dX11_meadow_210 : decode cX11_meadow 210 = .ok (.iload_n 2, 1) := by decide +kernel
theorem dX11_meadow_211 : decode cX11_meadow 211 = .ok (.ifCond .ne 6, 3) := by decide +kernel
theorem dX11_meadow_214 : decode cX11_meadow 214 = .ok (.iload 5, 2) := by decide +kernel
theorem dX11_meadow_216 : decode cX11_meadow 216 = .ok (.istore_n 1, 1) := by decide +kernel
theorem dX11_meadow_217 : decode cX11_meadow 217 = .ok (.iinc 2 1, 3) := by decide +kernel
theorem dX11_meadow_220 : decode cX11_meadow 220 = .ok (.aload_n 0, 1) := by decide +kernel
theorem dX11_meadow_221 : decode cX11_meadow 221 = .ok (.invokevirtual 126, 3) := by decide +kernel
theorem dX11_meadow_224 : decode cX11_meadow 224 = .ok (.ifCond .eq 22, 3) := by decide +kernel
theorem dX11_meadow_227 : decode cX11_meadow 227 = .ok (.aload_n 0, 1) := by decide +kernel
theorem dX11_meadow_228 : decode cX11_meadow 228 = .ok (.invokevirtual 130, 3) := by decide +kernel
theorem dX11_meadow_231 : decode cX11_meadow 231 = .ok (.bipush 47, 2) := by decide +kernel
theorem dX11_meadow_233 : decode cX11_meadow 233 = .ok (.if_icmp .ne 13, 3) := by decide +kernel
theorem dX11_meadow_236 : decode cX11_meadow 236 = .ok (.iload_n 2, 1) := by decide +kernel
theorem dX11_meadow_237 : decode cX11_meadow 237 = .ok (.bipush 8, 2) := by decide +kernel
theorem dX11_meadow_239 : decode cX11_meadow 239 = .ok (.if_icmp .ge 7, 3) := by decide +kernel
theorem dX11_meadow_242 : decode cX11_meadow 242 = .ok (.iconst 1, 1) := by decide +kernel
theorem dX11_meadow_243 : decode cX11_meadow 243 = .ok (.goto 4, 3) := by decide +kernel
theorem dX11_meadow_246 : decode cX11_meadow 246 = .ok (.iconst 0, 1) := by decide +kernel
theorem dX11_meadow_247 : decode cX11_meadow 247 = .ok (.istore 4, 2) := by decide +kernel
theorem dX11_meadow_249 : decode cX11_meadow 249 = .ok (.iload 4, 2) := by decide +kernel
theorem dX11_meadow_251 : decode cX11_meadow 251 = .ok (.ifCond .eq 13, 3) := by decide +kernel
theorem dX11_meadow_254 : decode cX11_meadow 254 = .ok (.aload_n 0, 1) := by decide +kernel
theorem dX11_meadow_255 : decode cX11_meadow 255 = .ok (.dup, 1) := by decide +kernel
theorem dX11_meadow_256 : decode cX11_meadow 256 = .ok (.getfield 120, 3) := by decide +kernel
theorem dX11_meadow_259 : decode cX11_meadow 259 = .ok (.iconst 1, 1) := by decide +kernel
theorem dX11_meadow_260 : decode cX11_meadow 260 = .ok (.iadd, 1) := by decide +kernel
theorem dX11_meadow_261 : decode cX11_meadow 261 = .ok (.putfield 120, 3) := by decide +kernel
theorem dX11_meadow_264 : decode cX11_meadow 264 = .ok (.goto (-231), 3) := by decide +kernel
theorem dX11_meadow_267 : decode cX11_meadow 267 = .ok (.aload_n 0, 1) := by decide +kernel
theorem dX11_meadow_268 : decode cX11_meadow 268 = .ok (.getfield 120, 3) := by decide +kernel
theorem dX11_meadow_271 : decode cX11_meadow 271 = .ok (.aload_n 0, 1) := by decide +kernel
theorem dX11_meadow_272 : decode cX11_meadow 272 = .ok (.getfield 114, 3) := by decide +kernel
theorem dX11_meadow_275 : decode cX11_meadow 275 = .ok (.if_icmp .ge 11, 3) := by decide +kernel
theorem dX11_meadow_278 : decode cX11_meadow 278 = .ok (.aload_n 0, 1) := by decide +kernel
theorem dX11_meadow_279 : decode cX11_meadow 279 = .ok (.aload_n 0, 1) := by decide +kernel
theorem dX11_meadow_280 : decode cX11_meadow 280 = .ok (.getfield 120, 3) := by decide +kernel
theorem dX11_meadow_283 : decode cX11_meadow 283 = .ok (.invokevirtual 138, 3) := by decide +kernel
theorem dX11_meadow_286 : decode cX11_meadow 286 = .ok (.aload_n 0, 1) := by decide +kernel
theorem dX11_meadow_287 : decode cX11_meadow 287 = .ok (.invokevirtual 126, 3) := by decide +kernel
theorem dX11_meadow_290 : decode cX11_meadow 290 = .ok (.ifCond .ne 10, 3) := by decide +kernel
theorem dX11_meadow_293 : decode cX11_meadow 293 = .ok (.iconst (-1), 1) := by decide +kernel
theorem dX11_meadow_294 : decode cX11_meadow 294 = .ok (.aload_n 0, 1) := by decide +kernel
theorem dX11_meadow_295 : decode cX11_meadow 295 = .ok (.getfield 123, 3) := by decide +kernel
theorem dX11_meadow_298 : decode cX11_meadow 298 = .ok (.isub, 1) := by decide +kernel
theorem dX11_meadow_299 : decode cX11_meadow 299 = .ok (.ireturn, 1) := by decide +kernel
theorem dX11_meadow_300 : decode cX11_meadow 300 = .ok (.aload_n 0, 1) := by decide +kernel
theorem dX11_meadow_301 : decode cX11_meadow 301 = .ok (.iload_n 1, 1) := by decide +kernel
theorem dX11_meadow_302 : decode cX11_meadow 302 = .ok (.iload_n 2, 1) := by decide +kernel
theorem dX11_meadow_303 : decode cX11_meadow 303 = .ok (.invokevirtual 150, 3) := by decide +kernel
theorem dX11_meadow_306 : decode cX11_meadow 306 = .ok (.iload_n 1, 1) := by decide +kernel
theorem dX11_meadow_307 : decode cX11_meadow 307 = .ok (.iload_n 2, 1) := by decide +kernel
theorem dX11_meadow_308 : decode cX11_meadow 308 = .ok (.imul, 1) := by decide +kernel
theorem dX11_meadow_309 : decode cX11_meadow 309 = .ok (.ireturn, 1) := by decide +kernel
theorem dX11_isGround_0 : decode cX11_isGround 0 = .ok (.iload_n 0, 1) := by decide +kernel
theorem dX11_isGround_1 : decode cX11_isGround 1 = .ok (.bipush 48, 2) := by decide +kernel
theorem dX11_isGround_3 : decode cX11_isGround 3 = .ok (.bipush 57, 2) := by decide +kernel
theorem dX11_isGround_5 : decode cX11_isGround 5 = .ok (.invokestatic 95, 3) := by decide +kernel
theorem dX11_isGround_8 : decode cX11_isGround 8 = .ok (.ifCond .ne 21, 3) := by decide +kernel
theorem dX11_isGround_11 : decode cX11_isGround 11 = .ok (.iload_n 0, 1) := by decide +kernel
theorem dX11_isGround_12 : decode cX11_isGround 12 = .ok (.bipush 35, 2) := by decide +kernel
theorem dX11_isGround_14 : decode cX11_isGround 14 = .ok (.if_icmp .eq 15, 3) := by decide +kernel
theorem dX11_isGround_17 : decode cX11_isGround 17 = .ok (.iload_n 0, 1) := by decide +kernel
theorem dX11_isGround_18 : decode cX11_isGround 18 = .ok (.bipush 43, 2) := by decide +kernel
theorem dX11_isGround_20 : decode cX11_isGround 20 = .ok (.if_icmp .ne 13, 3) := by decide +kernel
theorem dX11_isGround_23 : decode cX11_isGround 23 = .ok (.iload_n 1, 1) := by decide +kernel
theorem dX11_isGround_24 : decode cX11_isGround 24 = .ok (.bipush 6, 2) := by decide +kernel
theorem dX11_isGround_26 : decode cX11_isGround 26 = .ok (.if_icmp .ge 7, 3) := by decide +kernel
theorem dX11_isGround_29 : decode cX11_isGround 29 = .ok (.iconst 1, 1) := by decide +kernel
theorem dX11_isGround_30 : decode cX11_isGround 30 = .ok (.goto 4, 3) := by decide +kernel
theorem dX11_isGround_33 : decode cX11_isGround 33 = .ok (.iconst 0, 1) := by decide +kernel
theorem dX11_isGround_34 : decode cX11_isGround 34 = .ok (.ireturn, 1) := by decide +kernel
theorem dX11_take_0 : decode cX11_take 0 = .ok (.aload_n 0, 1) := by decide +kernel
theorem dX11_take_1 : decode cX11_take 1 = .ok (.iload_n 1, 1) := by decide +kernel
theorem dX11_take_2 : decode cX11_take 2 = .ok (.putfield 99, 3) := by decide +kernel
theorem dX11_take_5 : decode cX11_take 5 = .ok (.aload_n 0, 1) := by decide +kernel
theorem dX11_take_6 : decode cX11_take 6 = .ok (.iload_n 2, 1) := by decide +kernel
theorem dX11_take_7 : decode cX11_take 7 = .ok (.putfield 102, 3) := by decide +kernel
theorem dX11_take_10 : decode cX11_take 10 = .ok (.aload_n 0, 1) := by decide +kernel
theorem dX11_take_11 : decode cX11_take 11 = .ok (.iconst 0, 1) := by decide +kernel
theorem dX11_take_12 : decode cX11_take 12 = .ok (.putfield 154, 3) := by decide +kernel
theorem dX11_take_15 : decode cX11_take 15 = .ok (.iconst 0, 1) := by decide +kernel
theorem dX11_take_16 : decode cX11_take 16 = .ok (.istore_n 3, 1) := by decide +kernel
theorem dX11_take_17 : decode cX11_take 17 = .ok (.iload_n 3, 1) := by decide +kernel
theorem dX11_take_18 : decode cX11_take 18 = .ok (.bipush 64, 2) := by decide +kernel
theorem dX11_take_20 : decode cX11_take 20 = .ok (.if_icmp .ge 158, 3) := by decide +kernel
theorem dX11_take_23 : decode cX11_take 23 = .ok (.aload_n 0, 1) := by decide +kernel
theorem dX11_take_24 : decode cX11_take 24 = .ok (.iload_n 3, 1) := by decide +kernel
theorem dX11_take_25 : decode cX11_take 25 = .ok (.invokevirtual 157, 3) := by decide +kernel
theorem dX11_take_28 : decode cX11_take 28 = .ok (.istore 4, 2) := by decide +kernel
theorem dX11_take_30 : decode cX11_take 30 = .ok (.aload_n 0, 1) := by decide +kernel
theorem dX11_take_31 : decode cX11_take 31 = .ok (.getfield 13, 3) := by decide +kernel
theorem dX11_take_34 : decode cX11_take 34 = .ok (.iload_n 3, 1) := by decide +kernel
theorem dX11_take_35 : decode cX11_take 35 = .ok (.iload 4, 2) := by decide +kernel
theorem dX11_take_37 : decode cX11_take 37 = .ok (.ifCond .eq 12, 3) := by decide +kernel
theorem dX11_take_40 : decode cX11_take 40 = .ok (.aload_n 0, 1) := by decide +kernel
theorem dX11_take_41 : decode cX11_take 41 = .ok (.getfield 40, 3) := by decide +kernel
theorem dX11_take_44 : decode cX11_take 44 = .ok (.iload_n 3, 1) := by decide +kernel
theorem dX11_take_45 : decode cX11_take 45 = .ok (.iaload, 1) := by decide +kernel
theorem dX11_take_46 : decode cX11_take 46 = .ok (.goto 4, 3) := by decide +kernel
theorem dX11_take_49 : decode cX11_take 49 = .ok (.iconst 1, 1) := by decide +kernel
theorem dX11_take_50 : decode cX11_take 50 = .ok (.iastore, 1) := by decide +kernel
theorem dX11_take_51 : decode cX11_take 51 = .ok (.aload_n 0, 1) := by decide +kernel
theorem dX11_take_52 : decode cX11_take 52 = .ok (.getfield 9, 3) := by decide +kernel
theorem dX11_take_55 : decode cX11_take 55 = .ok (.iconst 0, 1) := by decide +kernel
theorem dX11_take_56 : decode cX11_take 56 = .ok (.iload_n 3, 1) := by decide +kernel
theorem dX11_take_57 : decode cX11_take 57 = .ok (.iadd, 1) := by decide +kernel
theorem dX11_take_58 : decode cX11_take 58 = .ok (.iload 4, 2) := by decide +kernel
theorem dX11_take_60 : decode cX11_take 60 = .ok (.ifCond .eq 12, 3) := by decide +kernel
theorem dX11_take_63 : decode cX11_take 63 = .ok (.aload_n 0, 1) := by decide +kernel
theorem dX11_take_64 : decode cX11_take 64 = .ok (.getfield 43, 3) := by decide +kernel
theorem dX11_take_67 : decode cX11_take 67 = .ok (.iload_n 3, 1) := by decide +kernel
theorem dX11_take_68 : decode cX11_take 68 = .ok (.iaload, 1) := by decide +kernel
theorem dX11_take_69 : decode cX11_take 69 = .ok (.goto 4, 3) := by decide +kernel
theorem dX11_take_72 : decode cX11_take 72 = .ok (.iconst 0, 1) := by decide +kernel
theorem dX11_take_73 : decode cX11_take 73 = .ok (.iastore, 1) := by decide +kernel
theorem dX11_take_74 : decode cX11_take 74 = .ok (.aload_n 0, 1) := by decide +kernel
theorem dX11_take_75 : decode cX11_take 75 = .ok (.getfield 9, 3) := by decide +kernel
theorem dX11_take_78 : decode cX11_take 78 = .ok (.bipush 64, 2) := by decide +kernel
theorem dX11_take_80 : decode cX11_take 80 = .ok (.iload_n 3, 1) := by decide +kernel
theorem dX11_take_81 : decode cX11_take 81 = .ok (.iadd, 1) := by decide +kernel
theorem dX11_take_82 : decode cX11_take 82 = .ok (.iconst 0, 1) := by decide +kernel
theorem dX11_take_83 : decode cX11_take 83 = .ok (.iastore, 1) := by decide +kernel
theorem dX11_take_84 : decode cX11_take 84 = .ok (.aload_n 0, 1) := by decide +kernel
theorem dX11_take_85 : decode cX11_take 85 = .ok (.getfield 9, 3) := by decide +kernel
theorem dX11_take_88 : decode cX11_take 88 = .ok (.sipush 128, 3) := by decide +kernel
theorem dX11_take_91 : decode cX11_take 91 = .ok (.iload_n 3, 1) := by decide +kernel
theorem dX11_take_92 : decode cX11_take 92 = .ok (.iadd, 1) := by decide +kernel
theorem dX11_take_93 : decode cX11_take 93 = .ok (.iconst 0, 1) := by decide +kernel
theorem dX11_take_94 : decode cX11_take 94 = .ok (.iastore, 1) := by decide +kernel
theorem dX11_take_95 : decode cX11_take 95 = .ok (.aload_n 0, 1) := by decide +kernel
theorem dX11_take_96 : decode cX11_take 96 = .ok (.getfield 9, 3) := by decide +kernel
theorem dX11_take_99 : decode cX11_take 99 = .ok (.sipush 192, 3) := by decide +kernel
theorem dX11_take_102 : decode cX11_take 102 = .ok (.iload_n 3, 1) := by decide +kernel
theorem dX11_take_103 : decode cX11_take 103 = .ok (.iadd, 1) := by decide +kernel
theorem dX11_take_104 : decode cX11_take 104 = .ok (.iconst (-1), 1) := by decide +kernel
theorem dX11_take_105 : decode cX11_take 105 = .ok (.iastore, 1) := by decide +kernel
theorem dX11_take_106 : decode cX11_take 106 = .ok (.aload_n 0, 1) := by decide +kernel
theorem dX11_take_107 : decode cX11_take 107 = .ok (.getfield 9, 3) := by decide +kernel
theorem dX11_take_110 : decode cX11_take 110 = .ok (.sipush 256, 3) := by decide +kernel
theorem dX11_take_113 : decode cX11_take 113 = .ok (.iload_n 3, 1) := by decide +kernel
theorem dX11_take_114 : decode cX11_take 114 = .ok (.iadd, 1) := by decide +kernel
theorem dX11_take_115 : decode cX11_take 115 = .ok (.iconst (-1), 1) := by decide +kernel
theorem dX11_take_116 : decode cX11_take 116 = .ok (.iastore, 1) := by decide +kernel
theorem dX11_take_117 : decode cX11_take 117 = .ok (.aload_n 0, 1) := by decide +kernel
theorem dX11_take_118 : decode cX11_take 118 = .ok (.getfield 16, 3) := by decide +kernel
theorem dX11_take_121 : decode cX11_take 121 = .ok (.iload_n 3, 1) := by decide +kernel
theorem dX11_take_122 : decode cX11_take 122 = .ok (.iconst (-1), 1) := by decide +kernel
theorem dX11_take_123 : decode cX11_take 123 = .ok (.iastore, 1) := by decide +kernel
theorem dX11_take_124 : decode cX11_take 124 = .ok (.iload 4, 2) := by decide +kernel
theorem dX11_take_126 : decode cX11_take 126 = .ok (.ifCond .eq 46, 3) := by decide +kernel
theorem dX11_take_129 : decode cX11_take 129 = .ok (.aload_n 0, 1) := by decide +kernel
theorem dX11_take_130 : decode cX11_take 130 = .ok (.getfield 13, 3) := by decide +kernel
theorem dX11_take_133 : decode cX11_take 133 = .ok (.iload_n 3, 1) := by decide +kernel
theorem dX11_take_134 : decode cX11_take 134 = .ok (.iaload, 1) := by decide +kernel
theorem dX11_take_135 : decode cX11_take 135 = .ok (.iconst 2, 1) := by decide +kernel
theorem dX11_take_136 : decode cX11_take 136 = .ok (.if_icmp .eq 6, 3) := by decide +kernel
theorem dX11_take_139 : decode cX11_take 139 = .ok (.goto 33, 3) := by decide +kernel
theorem dX11_take_142 : decode cX11_take 142 = .ok (.aload_n 0, 1) := by decide +kernel
theorem dX11_take_143 : decode cX11_take 143 = .ok (.getfield 16, 3) := by decide +kernel
theorem dX11_take_146 : decode cX11_take 146 = .ok (.iload_n 3, 1) := by decide +kernel
theorem dX11_take_147 : decode cX11_take 147 = .ok (.aload_n 0, 1) := by decide +kernel
theorem dX11_take_148 : decode cX11_take 148 = .ok (.getfield 154, 3) := by decide +kernel
theorem dX11_take_151 : decode cX11_take 151 = .ok (.iastore, 1) := by decide +kernel
theorem dX11_take_152 : decode cX11_take 152 = .ok (.aload_n 0, 1) := by decide +kernel
theorem dX11_take_153 : decode cX11_take 153 = .ok (.getfield 19, 3) := by decide +kernel
theorem dX11_take_156 : decode cX11_take 156 = .ok (.aload_n 0, 1) := by decide +kernel
theorem dX11_take_157 : decode cX11_take 157 = .ok (.getfield 154, 3) := by decide +kernel
theorem dX11_take_160 : decode cX11_take 160 = .ok (.iload_n 3, 1) := by decide +kernel
theorem dX11_take_161 : decode cX11_take 161 = .ok (.iastore, 1) := by decide +kernel
theorem dX11_take_162 : decode cX11_take 162 = .ok (.aload_n 0, 1) := by decide +kernel
theorem dX11_take_163 : decode cX11_take 163 = .ok (.dup, 1) := by decide +kernel
theorem dX11_take_164 : decode cX11_take 164 = .ok (.getfield 154, 3) := by decide +kernel
theorem dX11_take_167 : decode cX11_take 167 = .ok (.iconst 1, 1) := by decide +kernel
theorem dX11_take_168 : decode cX11_take 168 = .ok (.iadd, 1) := by decide +kernel
theorem dX11_take_169 : decode cX11_take 169 = .ok (.putfield 154, 3) := by decide +kernel
theorem dX11_take_172 : decode cX11_take 172 = .ok (.iinc 3 1, 3) := by decide +kernel
theorem dX11_take_175 : decode cX11_take 175 = .ok (.goto (-158), 3) := by decide +kernel
theorem dX11_take_178 : decode cX11_take 178 = .ok (.aload_n 0, 1) := by decide +kernel
theorem dX11_take_179 : decode cX11_take 179 = .ok (.iconst 0, 1) := by decide +kernel
theorem dX11_take_180 : decode cX11_take 180 = .ok (.putfield 105, 3) := by decide +kernel
theorem dX11_take_183 : decode cX11_take 183 = .ok (.aload_n 0, 1) := by decide +kernel
theorem dX11_take_184 : decode cX11_take 184 = .ok (.iconst 0, 1) := by decide +kernel
theorem dX11_take_185 : decode cX11_take 185 = .ok (.putfield 161, 3) := by decide +kernel
theorem dX11_take_188 : decode cX11_take 188 = .ok (.aload_n 0, 1) := by decide +kernel
theorem dX11_take_189 : decode cX11_take 189 = .ok (.getfield 9, 3) := by decide +kernel
theorem dX11_take_192 : decode cX11_take 192 = .ok (.sipush 332, 3) := by decide +kernel
theorem dX11_take_195 : decode cX11_take 195 = .ok (.iconst 0, 1) := by decide +kernel
theorem dX11_take_196 : decode cX11_take 196 = .ok (.iastore, 1) := by decide +kernel
theorem dX11_take_197 : decode cX11_take 197 = .ok (.aload_n 0, 1) := by decide +kernel
theorem dX11_take_198 : decode cX11_take 198 = .ok (.getfield 9, 3) := by decide +kernel
theorem dX11_take_201 : decode cX11_take 201 = .ok (.sipush 333, 3) := by decide +kernel
theorem dX11_take_204 : decode cX11_take 204 = .ok (.iconst 0, 1) := by decide +kernel
theorem dX11_take_205 : decode cX11_take 205 = .ok (.iastore, 1) := by decide +kernel
theorem dX11_take_206 : decode cX11_take 206 = .ok (.aload_n 0, 1) := by decide +kernel
theorem dX11_take_207 : decode cX11_take 207 = .ok (.iconst 0, 1) := by decide +kernel
theorem dX11_take_208 : decode cX11_take 208 = .ok (.putfield 164, 3) := by decide +kernel
theorem dX11_take_211 : decode cX11_take 211 = .ok (.aload_n 0, 1) := by decide +kernel
theorem dX11_take_212 : decode cX11_take 212 = .ok (.iconst 0, 1) := by decide +kernel
theorem dX11_take_213 : decode cX11_take 213 = .ok (.putfield 168, 3) := by decide +kernel
theorem dX11_take_216 : decode cX11_take 216 = .ok (.iconst 0, 1) := by decide +kernel
theorem dX11_take_217 : decode cX11_take 217 = .ok (.istore_n 3, 1) := by decide +kernel
theorem dX11_take_218 : decode cX11_take 218 = .ok (.iload_n 3, 1) := by decide +kernel
theorem dX11_take_219 : decode cX11_take 219 = .ok (.iconst 2, 1) := by decide +kernel
theorem dX11_take_220 : decode cX11_take 220 = .ok (.if_icmp .ge 16, 3) := by decide +kernel
theorem dX11_take_223 : decode cX11_take 223 = .ok (.aload_n 0, 1) := by decide +kernel
theorem dX11_take_224 : decode cX11_take 224 = .ok (.getfield 82, 3) := by decide +kernel
theorem dX11_take_227 : decode cX11_take 227 = .ok (.iload_n 3, 1) := by decide +kernel
theorem dX11_take_228 : decode cX11_take 228 = .ok (.iconst 0, 1) := by decide +kernel
theorem dX11_take_229 : decode cX11_take 229 = .ok (.bastore, 1) := by decide +kernel
theorem dX11_take_230 : decode cX11_take 230 = .ok (.iinc 3 1, 3) := by decide +kernel
theorem dX11_take_233 : decode cX11_take 233 = .ok (.goto (-15), 3) := by decide +kernel
theorem dX11_take_236 : decode cX11_take 236 = .ok (.return_, 1) := by decide +kernel
theorem dX11_readHerd_0 : decode cX11_readHerd 0 = .ok (.aload_n 0, 1) := by decide +kernel
theorem dX11_readHerd_1 : decode cX11_readHerd 1 = .ok (.bipush 97, 2) := by decide +kernel
theorem dX11_readHerd_3 : decode cX11_readHerd 3 = .ok (.aload_n 0, 1) := by decide +kernel
theorem dX11_readHerd_4 : decode cX11_readHerd 4 = .ok (.getfield 99, 3) := by decide +kernel
theorem dX11_readHerd_7 : decode cX11_readHerd 7 = .ok (.invokevirtual 171, 3) := by decide +kernel
theorem dX11_readHerd_10 : decode cX11_readHerd 10 = .ok (.istore_n 2, 1) := by decide +kernel
theorem dX11_readHerd_11 : decode cX11_readHerd 11 = .ok (.aload_n 0, 1) := by decide +kernel
theorem dX11_readHerd_12 : decode cX11_readHerd 12 = .ok (.bipush 49, 2) := by decide +kernel
theorem dX11_readHerd_14 : decode cX11_readHerd 14 = .ok (.aload_n 0, 1) := by decide +kernel
theorem dX11_readHerd_15 : decode cX11_readHerd 15 = .ok (.getfield 102, 3) := by decide +kernel
theorem dX11_readHerd_18 : decode cX11_readHerd 18 = .ok (.invokevirtual 171, 3) := by decide +kernel
theorem dX11_readHerd_21 : decode cX11_readHerd 21 = .ok (.istore_n 3, 1) := by decide +kernel
theorem dX11_readHerd_22 : decode cX11_readHerd 22 = .ok (.bipush 8, 2) := by decide +kernel
theorem dX11_readHerd_24 : decode cX11_readHerd 24 = .ok (.iload_n 3, 1) := by decide +kernel
theorem dX11_readHerd_25 : decode cX11_readHerd 25 = .ok (.imul, 1) := by decide +kernel
theorem dX11_readHerd_26 : decode cX11_readHerd 26 = .ok (.iload_n 2, 1) := by decide +kernel
theorem dX11_readHerd_27 : decode cX11_readHerd 27 = .ok (.iadd, 1) := by decide +kernel
theorem dX11_readHerd_28 : decode cX11_readHerd 28 = .ok (.istore 4, 2) := by decide +kernel
theorem dX11_readHerd_30 : decode cX11_readHerd 30 = .ok (.aload_n 0, 1) := by decide +kernel
theorem dX11_readHerd_31 : decode cX11_readHerd 31 = .ok (.invokevirtual 126, 3) := by decide +kernel
theorem dX11_readHerd_34 : decode cX11_readHerd 34 = .ok (.ifCond .eq 23, 3) := by decide +kernel
theorem dX11_readHerd_37 : decode cX11_readHerd 37 = .ok (.aload_n 0, 1) := by decide +kernel
theorem dX11_readHerd_38 : decode cX11_readHerd 38 = .ok (.getfield 13, 3) := by decide +kernel
theorem dX11_readHerd_41 : decode cX11_readHerd 41 = .ok (.iload 4, 2) := by decide +kernel
theorem dX11_readHerd_43 : decode cX11_readHerd 43 = .ok (.iaload, 1) := by decide +kernel
theorem dX11_readHerd_44 : decode cX11_readHerd 44 = .ok (.ifCond .eq 13, 3) := by decide +kernel
theorem dX11_readHerd_47 : decode cX11_readHerd 47 = .ok (.aload_n 0, 1) := by decide +kernel
theorem dX11_readHerd_48 : decode cX11_readHerd 48 = .ok (.aload_n 0, 1) := by decide +kernel
theorem dX11_readHerd_49 : decode cX11_readHerd 49 = .ok (.getfield 120, 3) := by decide +kernel
theorem dX11_readHerd_52 : decode cX11_readHerd 52 = .ok (.iconst 1, 1) := by decide +kernel
theorem dX11_readHerd_53 : decode cX11_readHerd 53 = .ok (.isub, 1) := by decide +kernel
theorem dX11_readHerd_54 : decode cX11_readHerd 54 = .ok (.invokevirtual 138, 3) := by decide +kernel
theorem dX11_readHerd_57 : decode cX11_readHerd 57 = .ok (.aload_n 0, 1) := by decide +kernel
theorem dX11_readHerd_58 : decode cX11_readHerd 58 = .ok (.getfield 46, 3) := by decide +kernel
theorem dX11_readHerd_61 : decode cX11_readHerd 61 = .ok (.iload_n 1, 1) := by decide +kernel
theorem dX11_readHerd_62 : decode cX11_readHerd 62 = .ok (.iload 4, 2) := by decide +kernel
theorem dX11_readHerd_64 : decode cX11_readHerd 64 = .ok (.iastore, 1) := by decide +kernel
theorem dX11_readHerd_65 : decode cX11_readHerd 65 = .ok (.aload_n 0, 1) := by decide +kernel
theorem dX11_readHerd_66 : decode cX11_readHerd 66 = .ok (.getfield 46, 3) := by decide +kernel
theorem dX11_readHerd_69 : decode cX11_readHerd 69 = .ok (.iload_n 1, 1) := by decide +kernel
theorem dX11_readHerd_70 : decode cX11_readHerd 70 = .ok (.iconst 1, 1) := by decide +kernel
theorem dX11_readHerd_71 : decode cX11_readHerd 71 = .ok (.iadd, 1) := by decide +kernel
theorem dX11_readHerd_72 : decode cX11_readHerd 72 = .ok (.aload_n 0, 1) := by decide +kernel
theorem dX11_readHerd_73 : decode cX11_readHerd 73 = .ok (.bipush 48, 2) := by decide +kernel
theorem dX11_readHerd_75 : decode cX11_readHerd 75 = .ok (.bipush 10, 2) := by decide +kernel
theorem dX11_readHerd_77 : decode cX11_readHerd 77 = .ok (.invokevirtual 171, 3) := by decide +kernel
theorem dX11_readHerd_80 : decode cX11_readHerd 80 = .ok (.iastore, 1) := by decide +kernel
theorem dX11_readHerd_81 : decode cX11_readHerd 81 = .ok (.aload_n 0, 1) := by decide +kernel
theorem dX11_readHerd_82 : decode cX11_readHerd 82 = .ok (.getfield 46, 3) := by decide +kernel
theorem dX11_readHerd_85 : decode cX11_readHerd 85 = .ok (.iload_n 1, 1) := by decide +kernel
theorem dX11_readHerd_86 : decode cX11_readHerd 86 = .ok (.iconst 2, 1) := by decide +kernel
theorem dX11_readHerd_87 : decode cX11_readHerd 87 = .ok (.iadd, 1) := by decide +kernel
theorem dX11_readHerd_88 : decode cX11_readHerd 88 = .ok (.aload_n 0, 1) := by decide +kernel
theorem dX11_readHerd_89 : decode cX11_readHerd 89 = .ok (.bipush 42, 2) := by decide +kernel
theorem dX11_readHerd_91 : decode cX11_readHerd 91 = .ok (.invokevirtual 134, 3) := by decide +kernel
theorem dX11_readHerd_94 : decode cX11_readHerd 94 = .ok (.ifCond .eq 7, 3) := by decide +kernel
theorem dX11_readHerd_97 : decode cX11_readHerd 97 = .ok (.iconst 1, 1) := by decide +kernel
theorem dX11_readHerd_98 : decode cX11_readHerd 98 = .ok (.goto 4, 3) := by decide +kernel
theorem dX11_readHerd_101 : decode cX11_readHerd 101 = .ok (.iconst 0, 1) := by decide +kernel
theorem dX11_readHerd_102 : decode cX11_readHerd 102 = .ok (.iastore, 1) := by decide +kernel
theorem dX11_readHerd_103 : decode cX11_readHerd 103 = .ok (.return_, 1) := by decide +kernel
theorem dX11_herds_0 : decode cX11_herds 0 = .ok (.aload_n 0, 1) := by decide +kernel
theorem dX11_herds_1 : decode cX11_herds 1 = .ok (.iconst 0, 1) := by decide +kernel
theorem dX11_herds_2 : decode cX11_herds 2 = .ok (.putfield 89, 3) := by decide +kernel
theorem dX11_herds_5 : decode cX11_herds 5 = .ok (.aload_n 0, 1) := by decide +kernel
theorem dX11_herds_6 : decode cX11_herds 6 = .ok (.aload_n 0, 1) := by decide +kernel
theorem dX11_herds_7 : decode cX11_herds 7 = .ok (.getfield 32, 3) := by decide +kernel
theorem dX11_herds_10 : decode cX11_herds 10 = .ok (.aload_n 0, 1) := by decide +kernel
theorem dX11_herds_11 : decode cX11_herds 11 = .ok (.getfield 108, 3) := by decide +kernel
theorem dX11_herds_14 : decode cX11_herds 14 = .ok (.bipush 76, 2) := by decide +kernel
theorem dX11_herds_16 : decode cX11_herds 16 = .ok (.invokevirtual 142, 3) := by decide +kernel
theorem dX11_herds_19 : decode cX11_herds 19 = .ok (.aload_n 0, 1) := by decide +kernel
theorem dX11_herds_20 : decode cX11_herds 20 = .ok (.iconst 0, 1) := by decide +kernel
theorem dX11_herds_21 : decode cX11_herds 21 = .ok (.putfield 108, 3) := by decide +kernel
theorem dX11_herds_24 : decode cX11_herds 24 = .ok (.aload_n 0, 1) := by decide +kernel
theorem dX11_herds_25 : decode cX11_herds 25 = .ok (.getfield 114, 3) := by decide +kernel
theorem dX11_herds_28 : decode cX11_herds 28 = .ok (.ifCond .ne 5, 3) := by decide +kernel
