theorem dX11_lure_129 : decode cX11_lure 129 = .ok (.iadd, 1) := by decide +kernel
theorem dX11_lure_130 : decode cX11_lure 130 = .ok (.iaload, 1) := by decide +kernel
theorem dX11_lure_131 : decode cX11_lure 131 = .ok (.iload 4, 2) := by decide +kernel
theorem dX11_lure_133 : decode cX11_lure 133 = .ok (.iadd, 1) := by decide +kernel
theorem dX11_lure_134 : decode cX11_lure 134 = .ok (.bipush 9, 2) := by decide +kernel
theorem dX11_lure_136 : decode cX11_lure 136 = .ok (.if_icmp .le 6, 3) := by decide +kernel
theorem dX11_lure_139 : decode cX11_lure 139 = .ok (.goto 57, 3) := by decide +kernel
theorem dX11_lure_142 : decode cX11_lure 142 = .ok (.aload_n 0, 1) := by decide +kernel
theorem dX11_lure_143 : decode cX11_lure 143 = .ok (.getfield 9, 3) := by decide +kernel
theorem dX11_lure_146 : decode cX11_lure 146 = .ok (.aload_n 0, 1) := by decide +kernel
theorem dX11_lure_147 : decode cX11_lure 147 = .ok (.getfield 67, 3) := by decide +kernel
theorem dX11_lure_150 : decode cX11_lure 150 = .ok (.iconst 0, 1) := by decide +kernel
theorem dX11_lure_151 : decode cX11_lure 151 = .ok (.invokestatic 251, 3) := by decide +kernel
theorem dX11_lure_154 : decode cX11_lure 154 = .ok (.aload_n 0, 1) := by decide +kernel
theorem dX11_lure_155 : decode cX11_lure 155 = .ok (.getfield 67, 3) := by decide +kernel
theorem dX11_lure_158 : decode cX11_lure 158 = .ok (.bipush 64, 2) := by decide +kernel
theorem dX11_lure_160 : decode cX11_lure 160 = .ok (.iload 5, 2) := by decide +kernel
theorem dX11_lure_162 : decode cX11_lure 162 = .ok (.iadd, 1) := by decide +kernel
theorem dX11_lure_163 : decode cX11_lure 163 = .ok (.dup2, 1) := by decide +kernel
theorem dX11_lure_164 : decode cX11_lure 164 = .ok (.iaload, 1) := by decide +kernel
theorem dX11_lure_165 : decode cX11_lure 165 = .ok (.iload 4, 2) := by decide +kernel
theorem dX11_lure_167 : decode cX11_lure 167 = .ok (.iadd, 1) := by decide +kernel
theorem dX11_lure_168 : decode cX11_lure 168 = .ok (.iastore, 1) := by decide +kernel
theorem dX11_lure_169 : decode cX11_lure 169 = .ok (.aload_n 0, 1) := by decide +kernel
theorem dX11_lure_170 : decode cX11_lure 170 = .ok (.iload_n 1, 1) := by decide +kernel
theorem dX11_lure_171 : decode cX11_lure 171 = .ok (.iload_n 2, 1) := by decide +kernel
theorem dX11_lure_172 : decode cX11_lure 172 = .ok (.invokevirtual 348, 3) := by decide +kernel
theorem dX11_lure_175 : decode cX11_lure 175 = .ok (.ifCond .ne 6, 3) := by decide +kernel
theorem dX11_lure_178 : decode cX11_lure 178 = .ok (.goto 18, 3) := by decide +kernel
theorem dX11_lure_181 : decode cX11_lure 181 = .ok (.aload_n 0, 1) := by decide +kernel
theorem dX11_lure_182 : decode cX11_lure 182 = .ok (.iconst 0, 1) := by decide +kernel
theorem dX11_lure_183 : decode cX11_lure 183 = .ok (.putfield 92, 3) := by decide +kernel
theorem dX11_lure_186 : decode cX11_lure 186 = .ok (.aload_n 0, 1) := by decide +kernel
theorem dX11_lure_187 : decode cX11_lure 187 = .ok (.iload 5, 2) := by decide +kernel
theorem dX11_lure_189 : decode cX11_lure 189 = .ok (.i2l, 1) := by decide +kernel
theorem dX11_lure_190 : decode cX11_lure 190 = .ok (.invokevirtual 278, 3) := by decide +kernel
theorem dX11_lure_193 : decode cX11_lure 193 = .ok (.iload 4, 2) := by decide +kernel
theorem dX11_lure_195 : decode cX11_lure 195 = .ok (.ireturn, 1) := by decide +kernel
theorem dX11_lure_196 : decode cX11_lure 196 = .ok (.iinc 5 1, 3) := by decide +kernel
theorem dX11_lure_199 : decode cX11_lure 199 = .ok (.goto (-104), 3) := by decide +kernel
theorem dX11_lure_202 : decode cX11_lure 202 = .ok (.iinc 4 1, 3) := by decide +kernel
theorem dX11_lure_205 : decode cX11_lure 205 = .ok (.goto (-120), 3) := by decide +kernel
theorem dX11_lure_208 : decode cX11_lure 208 = .ok (.bipush (-2), 2) := by decide +kernel
theorem dX11_lure_210 : decode cX11_lure 210 = .ok (.ireturn, 1) := by decide +kernel
theorem dX11_isHedged_0 : decode cX11_isHedged 0 = .ok (.aload_n 0, 1) := by decide +kernel
theorem dX11_isHedged_1 : decode cX11_isHedged 1 = .ok (.getfield 9, 3) := by decide +kernel
theorem dX11_isHedged_4 : decode cX11_isHedged 4 = .ok (.aload_n 0, 1) := by decide +kernel
theorem dX11_isHedged_5 : decode cX11_isHedged 5 = .ok (.getfield 67, 3) := by decide +kernel
theorem dX11_isHedged_8 : decode cX11_isHedged 8 = .ok (.iconst 0, 1) := by decide +kernel
theorem dX11_isHedged_9 : decode cX11_isHedged 9 = .ok (.invokestatic 251, 3) := by decide +kernel
theorem dX11_isHedged_12 : decode cX11_isHedged 12 = .ok (.iload_n 3, 1) := by decide +kernel
theorem dX11_isHedged_13 : decode cX11_isHedged 13 = .ok (.iconst (-1), 1) := by decide +kernel
theorem dX11_isHedged_14 : decode cX11_isHedged 14 = .ok (.if_icmp .eq 15, 3) := by decide +kernel
theorem dX11_isHedged_17 : decode cX11_isHedged 17 = .ok (.aload_n 0, 1) := by decide +kernel
theorem dX11_isHedged_18 : decode cX11_isHedged 18 = .ok (.getfield 67, 3) := by decide +kernel
theorem dX11_isHedged_21 : decode cX11_isHedged 21 = .ok (.sipush 128, 3) := by decide +kernel
theorem dX11_isHedged_24 : decode cX11_isHedged 24 = .ok (.iload_n 3, 1) := by decide +kernel
theorem dX11_isHedged_25 : decode cX11_isHedged 25 = .ok (.iadd, 1) := by decide +kernel
theorem dX11_isHedged_26 : decode cX11_isHedged 26 = .ok (.bipush 9, 2) := by decide +kernel
theorem dX11_isHedged_28 : decode cX11_isHedged 28 = .ok (.iastore, 1) := by decide +kernel
theorem dX11_isHedged_29 : decode cX11_isHedged 29 = .ok (.iload 4, 2) := by decide +kernel
theorem dX11_isHedged_31 : decode cX11_isHedged 31 = .ok (.iconst (-1), 1) := by decide +kernel
theorem dX11_isHedged_32 : decode cX11_isHedged 32 = .ok (.if_icmp .eq 16, 3) := by decide +kernel
theorem dX11_isHedged_35 : decode cX11_isHedged 35 = .ok (.aload_n 0, 1) := by decide +kernel
theorem dX11_isHedged_36 : decode cX11_isHedged 36 = .ok (.getfield 67, 3) := by decide +kernel
theorem dX11_isHedged_39 : decode cX11_isHedged 39 = .ok (.sipush 128, 3) := by decide +kernel
theorem dX11_isHedged_42 : decode cX11_isHedged 42 = .ok (.iload 4, 2) := by decide +kernel
theorem dX11_isHedged_44 : decode cX11_isHedged 44 = .ok (.iadd, 1) := by decide +kernel
theorem dX11_isHedged_45 : decode cX11_isHedged 45 = .ok (.bipush 9, 2) := by decide +kernel
theorem dX11_isHedged_47 : decode cX11_isHedged 47 = .ok (.iastore, 1) := by decide +kernel
theorem dX11_isHedged_48 : decode cX11_isHedged 48 = .ok (.aload_n 0, 1) := by decide +kernel
theorem dX11_isHedged_49 : decode cX11_isHedged 49 = .ok (.iload_n 1, 1) := by decide +kernel
theorem dX11_isHedged_50 : decode cX11_isHedged 50 = .ok (.iload_n 2, 1) := by decide +kernel
theorem dX11_isHedged_51 : decode cX11_isHedged 51 = .ok (.invokevirtual 348, 3) := by decide +kernel
theorem dX11_isHedged_54 : decode cX11_isHedged 54 = .ok (.ifCond .ne 7, 3) := by decide +kernel
theorem dX11_isHedged_57 : decode cX11_isHedged 57 = .ok (.iconst 1, 1) := by decide +kernel
theorem dX11_isHedged_58 : decode cX11_isHedged 58 = .ok (.goto 4, 3) := by decide +kernel
theorem dX11_isHedged_61 : decode cX11_isHedged 61 = .ok (.iconst 0, 1) := by decide +kernel
theorem dX11_isHedged_62 : decode cX11_isHedged 62 = .ok (.ireturn, 1) := by decide +kernel
theorem dX11_canHedge_0 : decode cX11_canHedge 0 = .ok (.aload_n 0, 1) := by decide +kernel
theorem dX11_canHedge_1 : decode cX11_canHedge 1 = .ok (.iload_n 1, 1) := by decide +kernel
theorem dX11_canHedge_2 : decode cX11_canHedge 2 = .ok (.invokevirtual 157, 3) := by decide +kernel
theorem dX11_canHedge_5 : decode cX11_canHedge 5 = .ok (.ifCond .eq 16, 3) := by decide +kernel
theorem dX11_canHedge_8 : decode cX11_canHedge 8 = .ok (.aload_n 0, 1) := by decide +kernel
theorem dX11_canHedge_9 : decode cX11_canHedge 9 = .ok (.getfield 13, 3) := by decide +kernel
theorem dX11_canHedge_12 : decode cX11_canHedge 12 = .ok (.iload_n 1, 1) := by decide +kernel
theorem dX11_canHedge_13 : decode cX11_canHedge 13 = .ok (.iaload, 1) := by decide +kernel
theorem dX11_canHedge_14 : decode cX11_canHedge 14 = .ok (.ifCond .ne 7, 3) := by decide +kernel
theorem dX11_canHedge_17 : decode cX11_canHedge 17 = .ok (.iconst 1, 1) := by decide +kernel
theorem dX11_canHedge_18 : decode cX11_canHedge 18 = .ok (.goto 4, 3) := by decide +kernel
theorem dX11_canHedge_21 : decode cX11_canHedge 21 = .ok (.iconst 0, 1) := by decide +kernel
theorem dX11_canHedge_22 : decode cX11_canHedge 22 = .ok (.ireturn, 1) := by decide +kernel
theorem dX11_hedge_0 : decode cX11_hedge 0 = .ok (.aload_n 0, 1) := by decide +kernel
theorem dX11_hedge_1 : decode cX11_hedge 1 = .ok (.iconst 0, 1) := by decide +kernel
theorem dX11_hedge_2 : decode cX11_hedge 2 = .ok (.putfield 89, 3) := by decide +kernel
theorem dX11_hedge_5 : decode cX11_hedge 5 = .ok (.aload_n 0, 1) := by decide +kernel
theorem dX11_hedge_6 : decode cX11_hedge 6 = .ok (.iload_n 1, 1) := by decide +kernel
theorem dX11_hedge_7 : decode cX11_hedge 7 = .ok (.invokevirtual 157, 3) := by decide +kernel
theorem dX11_hedge_10 : decode cX11_hedge 10 = .ok (.ifCond .eq 13, 3) := by decide +kernel
theorem dX11_hedge_13 : decode cX11_hedge 13 = .ok (.iload_n 2, 1) := by decide +kernel
theorem dX11_hedge_14 : decode cX11_hedge 14 = .ok (.iconst 1, 1) := by decide +kernel
theorem dX11_hedge_15 : decode cX11_hedge 15 = .ok (.bipush 100, 2) := by decide +kernel
theorem dX11_hedge_17 : decode cX11_hedge 17 = .ok (.invokestatic 95, 3) := by decide +kernel
theorem dX11_hedge_20 : decode cX11_hedge 20 = .ok (.ifCond .ne 5, 3) := by decide +kernel
theorem dX11_hedge_23 : decode cX11_hedge 23 = .ok (.iconst (-1), 1) := by decide +kernel
theorem dX11_hedge_24 : decode cX11_hedge 24 = .ok (.ireturn, 1) := by decide +kernel
theorem dX11_hedge_25 : decode cX11_hedge 25 = .ok (.aload_n 0, 1) := by decide +kernel
theorem dX11_hedge_26 : decode cX11_hedge 26 = .ok (.iload_n 1, 1) := by decide +kernel
theorem dX11_hedge_27 : decode cX11_hedge 27 = .ok (.iload_n 2, 1) := by decide +kernel
theorem dX11_hedge_28 : decode cX11_hedge 28 = .ok (.iconst (-1), 1) := by decide +kernel
theorem dX11_hedge_29 : decode cX11_hedge 29 = .ok (.iconst (-1), 1) := by decide +kernel
theorem dX11_hedge_30 : decode cX11_hedge 30 = .ok (.invokevirtual 351, 3) := by decide +kernel
theorem dX11_hedge_33 : decode cX11_hedge 33 = .ok (.ifCond .eq 10, 3) := by decide +kernel
theorem dX11_hedge_36 : decode cX11_hedge 36 = .ok (.aload_n 0, 1) := by decide +kernel
theorem dX11_hedge_37 : decode cX11_hedge 37 = .ok (.iconst 0, 1) := by decide +kernel
theorem dX11_hedge_38 : decode cX11_hedge 38 = .ok (.putfield 92, 3) := by decide +kernel
theorem dX11_hedge_41 : decode cX11_hedge 41 = .ok (.iconst 0, 1) := by decide +kernel
theorem dX11_hedge_42 : decode cX11_hedge 42 = .ok (.ireturn, 1) := by decide +kernel
theorem dX11_hedge_43 : decode cX11_hedge 43 = .ok (.iconst 0, 1) := by decide +kernel
theorem dX11_hedge_44 : decode cX11_hedge 44 = .ok (.istore_n 3, 1) := by decide +kernel
theorem dX11_hedge_45 : decode cX11_hedge 45 = .ok (.iload_n 3, 1) := by decide +kernel
theorem dX11_hedge_46 : decode cX11_hedge 46 = .ok (.bipush 64, 2) := by decide +kernel
theorem dX11_hedge_48 : decode cX11_hedge 48 = .ok (.if_icmp .ge 44, 3) := by decide +kernel
theorem dX11_hedge_51 : decode cX11_hedge 51 = .ok (.aload_n 0, 1) := by decide +kernel
theorem dX11_hedge_52 : decode cX11_hedge 52 = .ok (.iload_n 3, 1) := by decide +kernel
theorem dX11_hedge_53 : decode cX11_hedge 53 = .ok (.invokevirtual 354, 3) := by decide +kernel
theorem dX11_hedge_56 : decode cX11_hedge 56 = .ok (.ifCond .eq 30, 3) := by decide +kernel
theorem dX11_hedge_59 : decode cX11_hedge 59 = .ok (.aload_n 0, 1) := by decide +kernel
theorem dX11_hedge_60 : decode cX11_hedge 60 = .ok (.iload_n 1, 1) := by decide +kernel
theorem dX11_hedge_61 : decode cX11_hedge 61 = .ok (.iload_n 2, 1) := by decide +kernel
theorem dX11_hedge_62 : decode cX11_hedge 62 = .ok (.iload_n 3, 1) := by decide +kernel
theorem dX11_hedge_63 : decode cX11_hedge 63 = .ok (.iconst (-1), 1) := by decide +kernel
theorem dX11_hedge_64 : decode cX11_hedge 64 = .ok (.invokevirtual 351, 3) := by decide +kernel
theorem dX11_hedge_67 : decode cX11_hedge 67 = .ok (.ifCond .ne 6, 3) := by decide +kernel
theorem dX11_hedge_70 : decode cX11_hedge 70 = .ok (.goto 16, 3) := by decide +kernel
theorem dX11_hedge_73 : decode cX11_hedge 73 = .ok (.aload_n 0, 1) := by decide +kernel
theorem dX11_hedge_74 : decode cX11_hedge 74 = .ok (.iconst 0, 1) := by decide +kernel
theorem dX11_hedge_75 : decode cX11_hedge 75 = .ok (.putfield 92, 3) := by decide +kernel
theorem dX11_hedge_78 : decode cX11_hedge 78 = .ok (.aload_n 0, 1) := by decide +kernel
theorem dX11_hedge_79 : decode cX11_hedge 79 = .ok (.iload_n 3, 1) := by decide +kernel
theorem dX11_hedge_80 : decode cX11_hedge 80 = .ok (.i2l, 1) := by decide +kernel
theorem dX11_hedge_81 : decode cX11_hedge 81 = .ok (.invokevirtual 278, 3) := by decide +kernel
theorem dX11_hedge_84 : decode cX11_hedge 84 = .ok (.iconst 1, 1) := by decide +kernel
theorem dX11_hedge_85 : decode cX11_hedge 85 = .ok (.ireturn, 1) := by decide +kernel
theorem dX11_hedge_86 : decode cX11_hedge 86 = .ok (.iinc 3 1, 3) := by decide +kernel
theorem dX11_hedge_89 : decode cX11_hedge 89 = .ok (.goto (-44), 3) := by decide +kernel
theorem dX11_hedge_92 : decode cX11_hedge 92 = .ok (.iconst 0, 1) := by decide +kernel
theorem dX11_hedge_93 : decode cX11_hedge 93 = .ok (.istore_n 3, 1) := by decide +kernel
theorem dX11_hedge_94 : decode cX11_hedge 94 = .ok (.iload_n 3, 1) := by decide +kernel
theorem dX11_hedge_95 : decode cX11_hedge 95 = .ok (.bipush 64, 2) := by decide +kernel
theorem dX11_hedge_97 : decode cX11_hedge 97 = .ok (.if_icmp .ge 79, 3) := by decide +kernel
theorem dX11_hedge_100 : decode cX11_hedge 100 = .ok (.iload_n 3, 1) := by decide +kernel
theorem dX11_hedge_101 : decode cX11_hedge 101 = .ok (.iconst 1, 1) := by decide +kernel
theorem dX11_hedge_102 : decode cX11_hedge 102 = .ok (.iadd, 1) := by decide +kernel
theorem dX11_hedge_103 : decode cX11_hedge 103 = .ok (.istore 4, 2) := by decide +kernel
theorem dX11_hedge_105 : decode cX11_hedge 105 = .ok (.iload 4, 2) := by decide +kernel
theorem dX11_hedge_107 : decode cX11_hedge 107 = .ok (.bipush 64, 2) := by decide +kernel
theorem dX11_hedge_109 : decode cX11_hedge 109 = .ok (.if_icmp .ge 61, 3) := by decide +kernel
theorem dX11_hedge_112 : decode cX11_hedge 112 = .ok (.aload_n 0, 1) := by decide +kernel
theorem dX11_hedge_113 : decode cX11_hedge 113 = .ok (.iload_n 3, 1) := by decide +kernel
theorem dX11_hedge_114 : decode cX11_hedge 114 = .ok (.invokevirtual 354, 3) := by decide +kernel
theorem dX11_hedge_117 : decode cX11_hedge 117 = .ok (.ifCond .eq 47, 3) := by decide +kernel
theorem dX11_hedge_120 : decode cX11_hedge 120 = .ok (.aload_n 0, 1) := by decide +kernel
theorem dX11_hedge_121 : decode cX11_hedge 121 = .ok (.iload 4, 2) := by decide +kernel
theorem dX11_hedge_123 : decode cX11_hedge 123 = .ok (.invokevirtual 354, 3) := by decide +kernel
theorem dX11_hedge_126 : decode cX11_hedge 126 = .ok (.ifCond .eq 38, 3) := by decide +kernel
theorem dX11_hedge_129 : decode cX11_hedge 129 = .ok (.aload_n 0, 1) := by decide +kernel
theorem dX11_hedge_130 : decode cX11_hedge 130 = .ok (.iload_n 1, 1) := by decide +kernel
theorem dX11_hedge_131 : decode cX11_hedge 131 = .ok (.iload_n 2, 1) := by decide +kernel
theorem dX11_hedge_132 : decode cX11_hedge 132 = .ok (.iload_n 3, 1) := by decide +kernel
theorem dX11_hedge_133 : decode cX11_hedge 133 = .ok (.iload 4, 2) := by decide +kernel
theorem dX11_hedge_135 : decode cX11_hedge 135 = .ok (.invokevirtual 351, 3) := by decide +kernel
theorem dX11_hedge_138 : decode cX11_hedge 138 = .ok (.ifCond .ne 6, 3) := by decide +kernel
theorem dX11_hedge_141 : decode cX11_hedge 141 = .ok (.goto 23, 3) := by decide +kernel
theorem dX11_hedge_144 : decode cX11_hedge 144 = .ok (.aload_n 0, 1) := by decide +kernel
theorem dX11_hedge_145 : decode cX11_hedge 145 = .ok (.iconst 0, 1) := by decide +kernel
theorem dX11_hedge_146 : decode cX11_hedge 146 = .ok (.putfield 92, 3) := by decide +kernel
theorem dX11_hedge_149 : decode cX11_hedge 149 = .ok (.aload_n 0, 1) := by decide +kernel
theorem dX11_hedge_150 : decode cX11_hedge 150 = .ok (.iload_n 3, 1) := by decide +kernel
theorem dX11_hedge_151 : decode cX11_hedge 151 = .ok (.i2l, 1) := by decide +kernel
theorem dX11_hedge_152 : decode cX11_hedge 152 = .ok (.invokevirtual 278, 3) := by decide +kernel
theorem dX11_hedge_155 : decode cX11_hedge 155 = .ok (.aload_n 0, 1) := by decide +kernel
theorem dX11_hedge_156 : decode cX11_hedge 156 = .ok (.iload 4, 2) := by decide +kernel
theorem dX11_hedge_158 : decode cX11_hedge 158 = .ok (.i2l, 1) := by decide +kernel
theorem dX11_hedge_159 : decode cX11_hedge 159 = .ok (.invokevirtual 278, 3) := by decide +kernel
theorem dX11_hedge_162 : decode cX11_hedge 162 = .ok (.iconst 2, 1) := by decide +kernel
theorem dX11_hedge_163 : decode cX11_hedge 163 = .ok (.ireturn, 1) := by decide +kernel
theorem dX11_hedge_164 : decode cX11_hedge 164 = .ok (.iinc 4 1, 3) := by decide +kernel
theorem dX11_hedge_167 : decode cX11_hedge 167 = .ok (.goto (-62), 3) := by decide +kernel
theorem dX11_hedge_170 : decode cX11_hedge 170 = .ok (.iinc 3 1, 3) := by decide +kernel
theorem dX11_hedge_173 : decode cX11_hedge 173 = .ok (.goto (-79), 3) := by decide +kernel
theorem dX11_hedge_176 : decode cX11_hedge 176 = .ok (.bipush (-2), 2) := by decide +kernel
theorem dX11_hedge_178 : decode cX11_hedge 178 = .ok (.ireturn, 1) := by decide +kernel
theorem dX11_gates_0 : decode cX11_gates 0 = .ok (.aload_n 0, 1) := by decide +kernel
theorem dX11_gates_1 : decode cX11_gates 1 = .ok (.iconst 0, 1) := by decide +kernel
theorem dX11_gates_2 : decode cX11_gates 2 = .ok (.putfield 89, 3) := by decide +kernel
theorem dX11_gates_5 : decode cX11_gates 5 = .ok (.aload_n 0, 1) := by decide +kernel
theorem dX11_gates_6 : decode cX11_gates 6 = .ok (.iload_n 1, 1) := by decide +kernel
theorem dX11_gates_7 : decode cX11_gates 7 = .ok (.invokevirtual 237, 3) := by decide +kernel
theorem dX11_gates_10 : decode cX11_gates 10 = .ok (.ifCond .eq 21, 3) := by decide +kernel
theorem dX11_gates_13 : decode cX11_gates 13 = .ok (.aload_n 0, 1) := by decide +kernel
theorem dX11_gates_14 : decode cX11_gates 14 = .ok (.iload_n 2, 1) := by decide +kernel
theorem dX11_gates_15 : decode cX11_gates 15 = .ok (.invokevirtual 157, 3) := by decide +kernel
theorem dX11_gates_18 : decode cX11_gates 18 = .ok (.ifCond .eq 13, 3) := by decide +kernel
theorem dX11_gates_21 : decode cX11_gates 21 = .ok (.iload_n 3, 1) := by decide +kernel
theorem dX11_gates_22 : decode cX11_gates 22 = .ok (.iconst 1, 1) := by decide +kernel
theorem dX11_gates_23 : decode cX11_gates 23 = .ok (.bipush 100, 2) := by decide +kernel
theorem dX11_gates_25 : decode cX11_gates 25 = .ok (.invokestatic 95, 3) := by decide +kernel
theorem dX11_gates_28 : decode cX11_gates 28 = .ok (.ifCond .ne 5, 3) := by decide +kernel
theorem dX11_gates_31 : decode cX11_gates 31 = .ok (.iconst (-1), 1) := by decide +kernel
theorem dX11_gates_32 : decode cX11_gates 32 = .ok (.ireturn, 1) := by decide +kernel
theorem dX11_gates_33 : decode cX11_gates 33 = .ok (.iconst 0, 1) := by decide +kernel
theorem dX11_gates_34 : decode cX11_gates 34 = .ok (.istore 4, 2) := by decide +kernel
theorem dX11_gates_36 : decode cX11_gates 36 = .ok (.iconst 0, 1) := by decide +kernel
theorem dX11_gates_37 : decode cX11_gates 37 = .ok (.istore 5, 2) := by decide +kernel
theorem dX11_gates_39 : decode cX11_gates 39 = .ok (.iload 5, 2) := by decide +kernel
theorem dX11_gates_41 : decode cX11_gates 41 = .ok (.aload_n 0, 1) := by decide +kernel
theorem dX11_gates_42 : decode cX11_gates 42 = .ok (.getfield 154, 3) := by decide +kernel
theorem dX11_gates_45 : decode cX11_gates 45 = .ok (.if_icmp .ge 40, 3) := by decide +kernel
theorem dX11_gates_48 : decode cX11_gates 48 = .ok (.iload 4, 2) := by decide +kernel
theorem dX11_gates_50 : decode cX11_gates 50 = .ok (.aload_n 0, 1) := by decide +kernel
theorem dX11_gates_51 : decode cX11_gates 51 = .ok (.aload_n 0, 1) := by decide +kernel
theorem dX11_gates_52 : decode cX11_gates 52 = .ok (.getfield 9, 3) := by decide +kernel
theorem dX11_gates_55 : decode cX11_gates 55 = .ok (.aload_n 0, 1) := by decide +kernel
theorem dX11_gates_56 : decode cX11_gates 56 = .ok (.getfield 19, 3) := by decide +kernel
theorem dX11_gates_59 : decode cX11_gates 59 = .ok (.iload 5, 2) := by decide +kernel
theorem dX11_gates_61 : decode cX11_gates 61 = .ok (.iaload, 1) := by decide +kernel
theorem dX11_gates_62 : decode cX11_gates 62 = .ok (.invokevirtual 233, 3) := by decide +kernel
theorem dX11_gates_65 : decode cX11_gates 65 = .ok (.ifCond .ne 7, 3) := by decide +kernel
theorem dX11_gates_68 : decode cX11_gates 68 = .ok (.iconst 0, 1) := by decide +kernel
theorem dX11_gates_69 : decode cX11_gates 69 = .ok (.goto 7, 3) := by decide +kernel
theorem dX11_gates_72 : decode cX11_gates 72 = .ok (.iconst 1, 1) := by decide +kernel
theorem dX11_gates_73 : decode cX11_gates 73 = .ok (.iload 5, 2) := by decide +kernel
theorem dX11_gates_75 : decode cX11_gates 75 = .ok (.ishl, 1) := by decide +kernel
theorem dX11_gates_76 : decode cX11_gates 76 = .ok (.ior, 1) := by decide +kernel
theorem dX11_gates_77 : decode cX11_gates 77 = .ok (.istore 4, 2) := by decide +kernel
theorem dX11_gates_79 : decode cX11_gates 79 = .ok (.iinc 5 1, 3) := by decide +kernel
theorem dX11_gates_82 : decode cX11_gates 82 = .ok (.goto (-43), 3) := by decide +kernel
theorem dX11_gates_85 : decode cX11_gates 85 = .ok (.iconst 0, 1) := by decide +kernel
theorem dX11_gates_86 : decode cX11_gates 86 = .ok (.istore 5, 2) := by decide +kernel
theorem dX11_gates_88 : decode cX11_gates 88 = .ok (.iconst (-1), 1) := by decide +kernel
theorem dX11_gates_89 : decode cX11_gates 89 = .ok (.istore 6, 2) := by decide +kernel
theorem dX11_gates_91 : decode cX11_gates 91 = .ok (.iconst 1, 1) := by decide +kernel
theorem dX11_gates_92 : decode cX11_gates 92 = .ok (.aload_n 0, 1) := by decide +kernel
theorem dX11_gates_93 : decode cX11_gates 93 = .ok (.getfield 154, 3) := by decide +kernel
theorem dX11_gates_96 : decode cX11_gates 96 = .ok (.ishl, 1) := by decide +kernel
theorem dX11_gates_97 : decode cX11_gates 97 = .ok (.iconst 1, 1) := by decide +kernel
theorem dX11_gates_98 : decode cX11_gates 98 = .ok (.isub, 1) := by decide +kernel
theorem dX11_gates_99 : decode cX11_gates 99 = .ok (.istore 7, 2) := by decide +kernel
theorem dX11_gates_101 : decode cX11_gates 101 = .ok (.iconst 0, 1) := by decide +kernel
theorem dX11_gates_102 : decode cX11_gates 102 = .ok (.istore 8, 2) := by decide +kernel
theorem dX11_gates_104 : decode cX11_gates 104 = .ok (.iload 8, 2) := by decide +kernel
theorem dX11_gates_106 : decode cX11_gates 106 = .ok (.iconst 1, 1) := by decide +kernel
theorem dX11_gates_107 : decode cX11_gates 107 = .ok (.aload_n 0, 1) := by decide +kernel
theorem dX11_gates_108 : decode cX11_gates 108 = .ok (.getfield 154, 3) := by decide +kernel
theorem dX11_gates_111 : decode cX11_gates 111 = .ok (.ishl, 1) := by decide +kernel
theorem dX11_gates_112 : decode cX11_gates 112 = .ok (.if_icmp .ge 118, 3) := by decide +kernel
theorem dX11_gates_115 : decode cX11_gates 115 = .ok (.iload 4, 2) := by decide +kernel
theorem dX11_gates_117 : decode cX11_gates 117 = .ok (.iload 8, 2) := by decide +kernel
theorem dX11_gates_119 : decode cX11_gates 119 = .ok (.iconst (-1), 1) := by decide +kernel
theorem dX11_gates_120 : decode cX11_gates 120 = .ok (.ixor, 1) := by decide +kernel
theorem dX11_gates_121 : decode cX11_gates 121 = .ok (.iand, 1) := by decide +kernel
theorem dX11_gates_122 : decode cX11_gates 122 = .ok (.ifCond .eq 6, 3) := by decide +kernel
theorem dX11_gates_125 : decode cX11_gates 125 = .ok (.goto 99, 3) := by decide +kernel
theorem dX11_gates_128 : decode cX11_gates 128 = .ok (.aload_n 0, 1) := by decide +kernel
theorem dX11_gates_129 : decode cX11_gates 129 = .ok (.getfield 9, 3) := by decide +kernel
theorem dX11_gates_132 : decode cX11_gates 132 = .ok (.aload_n 0, 1) := by decide +kernel
theorem dX11_gates_133 : decode cX11_gates 133 = .ok (.getfield 67, 3) := by decide +kernel
theorem dX11_gates_136 : decode cX11_gates 136 = .ok (.iconst 0, 1) := by decide +kernel
theorem dX11_gates_137 : decode cX11_gates 137 = .ok (.invokestatic 251, 3) := by decide +kernel
theorem dX11_gates_140 : decode cX11_gates 140 = .ok (.aload_n 0, 1) := by decide +kernel
theorem dX11_gates_141 : decode cX11_gates 141 = .ok (.getfield 67, 3) := by decide +kernel
theorem dX11_gates_144 : decode cX11_gates 144 = .ok (.sipush 332, 3) := by decide +kernel
theorem dX11_gates_147 : decode cX11_gates 147 = .ok (.iload 8, 2) := by decide +kernel
theorem dX11_gates_149 : decode cX11_gates 149 = .ok (.iastore, 1) := by decide +kernel
theorem dX11_gates_150 : decode cX11_gates 150 = .ok (.iconst 0, 1) := by decide +kernel
theorem dX11_gates_151 : decode cX11_gates 151 = .ok (.istore 9, 2) := by decide +kernel
theorem dX11_gates_153 : decode cX11_gates 153 = .ok (.iload 9, 2) := by decide +kernel
theorem dX11_gates_155 : decode cX11_gates 155 = .ok (.iload_n 3, 1) := by decide +kernel
theorem dX11_gates_156 : decode cX11_gates 156 = .ok (.if_icmp .ge 18, 3) := by decide +kernel
theorem dX11_gates_159 : decode cX11_gates 159 = .ok (.aload_n 0, 1) := by decide +kernel
theorem dX11_gates_160 : decode cX11_gates 160 = .ok (.aload_n 0, 1) := by decide +kernel
theorem dX11_gates_161 : decode cX11_gates 161 = .ok (.getfield 67, 3) := by decide +kernel
theorem dX11_gates_164 : decode cX11_gates 164 = .ok (.invokevirtual 285, 3) := by decide +kernel
theorem dX11_gates_167 : decode cX11_gates 167 = .ok (.pop, 1) := by decide +kernel
theorem dX11_gates_168 : decode cX11_gates 168 = .ok (.iinc 9 1, 3) := by decide +kernel
theorem dX11_gates_171 : decode cX11_gates 171 = .ok (.goto (-18), 3) := by decide +kernel
theorem dX11_gates_174 : decode cX11_gates 174 = .ok (.aload_n 0, 1) := by decide +kernel
theorem dX11_gates_175 : decode cX11_gates 175 = .ok (.getfield 67, 3) := by decide +kernel
theorem dX11_gates_178 : decode cX11_gates 178 = .ok (.sipush 320, 3) := by decide +kernel
theorem dX11_gates_181 : decode cX11_gates 181 = .ok (.iload_n 1, 1) := by decide +kernel
theorem dX11_gates_182 : decode cX11_gates 182 = .ok (.iadd, 1) := by decide +kernel
theorem dX11_gates_183 : decode cX11_gates 183 = .ok (.iaload, 1) := by decide +kernel
theorem dX11_gates_184 : decode cX11_gates 184 = .ok (.iload_n 2, 1) := by decide +kernel
theorem dX11_gates_185 : decode cX11_gates 185 = .ok (.if_icmp .eq 6, 3) := by decide +kernel
theorem dX11_gates_188 : decode cX11_gates 188 = .ok (.goto 36, 3) := by decide +kernel
theorem dX11_gates_191 : decode cX11_gates 191 = .ok (.iinc 5 1, 3) := by decide +kernel
theorem dX11_gates_194 : decode cX11_gates 194 = .ok (.iload 7, 2) := by decide +kernel
theorem dX11_gates_196 : decode cX11_gates 196 = .ok (.iload 8, 2) := by decide +kernel
theorem dX11_gates_198 : decode cX11_gates 198 = .ok (.iand, 1) := by decide +kernel
theorem dX11_gates_199 : decode cX11_gates 199 = .ok (.istore 7, 2) := by decide +kernel
theorem dX11_gates_201 : decode cX11_gates 201 = .ok (.iload 6, 2) := by decide +kernel
theorem dX11_gates_203 : decode cX11_gates 203 = .ok (.iconst (-1), 1) := by decide +kernel
theorem dX11_gates_204 : decode cX11_gates 204 = .ok (.if_icmp .eq 16, 3) := by decide +kernel
theorem dX11_gates_207 : decode cX11_gates 207 = .ok (.iload 8, 2) := by decide +kernel
theorem dX11_gates_209 : decode cX11_gates 209 = .ok (.invokestatic 357, 3) := by decide +kernel
theorem dX11_gates_212 : decode cX11_gates 212 = .ok (.iload 6, 2) := by decide +kernel
theorem dX11_gates_214 : decode cX11_gates 214 = .ok (.invokestatic 357, 3) := by decide +kernel
theorem dX11_gates_217 : decode cX11_gates 217 = .ok (.if_icmp .ge 7, 3) := by decide +kernel
theorem dX11_gates_220 : decode cX11_gates 220 = .ok (.iload 8, 2) := by decide +kernel
theorem dX11_gates_222 : decode cX11_gates 222 = .ok (.istore 6, 2) := by decide +kernel
theorem dX11_gates_224 : decode cX11_gates 224 = .ok (.iinc 8 1, 3) := by decide +kernel
theorem dX11_gates_227 : decode cX11_gates 227 = .ok (.goto (-123), 3) := by decide +kernel
theorem dX11_gates_230 : decode cX11_gates 230 = .ok (.aload_n 0, 1) := by decide +kernel
theorem dX11_gates_231 : decode cX11_gates 231 = .ok (.iconst 0, 1) := by decide +kernel
theorem dX11_gates_232 : decode cX11_gates 232 = .ok (.putfield 92, 3) := by decide +kernel
theorem dX11_gates_235 : decode cX11_gates 235 = .ok (.aload_n 0, 1) := by decide +kernel
theorem dX11_gates_236 : decode cX11_gates 236 = .ok (.iload 6, 2) := by decide +kernel
theorem dX11_gates_238 : decode cX11_gates 238 = .ok (.i2l, 1) := by decide +kernel
theorem dX11_gates_239 : decode cX11_gates 239 = .ok (.invokevirtual 278, 3) := by decide +kernel
theorem dX11_gates_242 : decode cX11_gates 242 = .ok (.aload_n 0, 1) := by decide +kernel
theorem dX11_gates_243 : decode cX11_gates 243 = .ok (.iload 5, 2) := by decide +kernel
theorem dX11_gates_245 : decode cX11_gates 245 = .ok (.ifCond .ne 7, 3) := by decide +kernel
theorem dX11_gates_248 : decode cX11_gates 248 = .ok (.lconst 0, 1) := by decide +kernel
theorem dX11_gates_249 : decode cX11_gates 249 = .ok (.goto 6, 3) := by decide +kernel
theorem dX11_gates_252 : decode cX11_gates 252 = .ok (.iload 7, 2) := by decide +kernel
theorem dX11_gates_254 : decode cX11_gates 254 = .ok (.i2l, 1) := by decide +kernel
theorem dX11_gates_255 : decode cX11_gates 255 = .ok (.invokevirtual 278, 3) := by decide +kernel
theorem dX11_gates_258 : decode cX11_gates 258 = .ok (.iload 5, 2) := by decide +kernel
theorem dX11_gates_260 : decode cX11_gates 260 = .ok (.ireturn, 1) := by decide +kernel
theorem dX11_sumBeside_0 : decode cX11_sumBeside 0 = .ok (.iconst 0, 1) := by decide +kernel
theorem dX11_sumBeside_1 : decode cX11_sumBeside 1 = .ok (.istore_n 3, 1) := by decide +kernel
theorem dX11_sumBeside_2 : decode cX11_sumBeside 2 = .ok (.iconst 0, 1) := by decide +kernel
theorem dX11_sumBeside_3 : decode cX11_sumBeside 3 = .ok (.istore 4, 2) := by decide +kernel
theorem dX11_sumBeside_5 : decode cX11_sumBeside 5 = .ok (.iload 4, 2) := by decide +kernel
theorem dX11_sumBeside_7 : decode cX11_sumBeside 7 = .ok (.iconst 4, 1) := by decide +kernel
theorem dX11_sumBeside_8 : decode cX11_sumBeside 8 = .ok (.if_icmp .ge 35, 3) := by decide +kernel
theorem dX11_sumBeside_11 : decode cX11_sumBeside 11 = .ok (.aload_n 0, 1) := by decide +kernel
theorem dX11_sumBeside_12 : decode cX11_sumBeside 12 = .ok (.iload_n 2, 1) := by decide +kernel
theorem dX11_sumBeside_13 : decode cX11_sumBeside 13 = .ok (.iload 4, 2) := by decide +kernel
theorem dX11_sumBeside_15 : decode cX11_sumBeside 15 = .ok (.invokevirtual 223, 3) := by decide +kernel
theorem dX11_sumBeside_18 : decode cX11_sumBeside 18 = .ok (.istore 5, 2) := by decide +kernel
theorem dX11_sumBeside_20 : decode cX11_sumBeside 20 = .ok (.iload_n 3, 1) := by decide +kernel
theorem dX11_sumBeside_21 : decode cX11_sumBeside 21 = .ok (.iload 5, 2) := by decide +kernel
theorem dX11_sumBeside_23 : decode cX11_sumBeside 23 = .ok (.iconst (-1), 1) := by decide +kernel
theorem dX11_sumBeside_24 : decode cX11_sumBeside 24 = .ok (.if_icmp .ne 7, 3) := by decide +kernel
theorem dX11_sumBeside_27 : decode cX11_sumBeside 27 = .ok (.iconst 0, 1) := by decide +kernel
theorem dX11_sumBeside_28 : decode cX11_sumBeside 28 = .ok (.goto 7, 3) := by decide +kernel
theorem dX11_sumBeside_31 : decode cX11_sumBeside 31 = .ok (.aload_n 1, 1) := by decide +kernel
theorem dX11_sumBeside_32 : decode cX11_sumBeside 32 = .ok (.iload 5, 2) := by decide +kernel
theorem dX11_sumBeside_34 : decode cX11_sumBeside 34 = .ok (.iaload, 1) := by decide +kernel
theorem dX11_sumBeside_35 : decode cX11_sumBeside 35 = .ok (.iadd, 1) := by decide +kernel
theorem dX11_sumBeside_36 : decode cX11_sumBeside 36 = .ok (.istore_n 3, 1) := by decide +kernel
theorem dX11_sumBeside_37 : decode cX11_sumBeside 37 = .ok (.iinc 4 1, 3) := by decide +kernel
theorem dX11_sumBeside_40 : decode cX11_sumBeside 40 = .ok (.goto (-35), 3) := by decide +kernel
theorem dX11_sumBeside_43 : decode cX11_sumBeside 43 = .ok (.ldc_w 359, 3) := by decide +kernel
theorem dX11_sumBeside_46 : decode cX11_sumBeside 46 = .ok (.iload_n 3, 1) := by decide +kernel
theorem dX11_sumBeside_47 : decode cX11_sumBeside 47 = .ok (.invokestatic 243, 3) := by decide +kernel
theorem dX11_sumBeside_50 : decode cX11_sumBeside 50 = .ok (.ireturn, 1) := by decide +kernel
theorem dX11_findWalks_0 : decode cX11_findWalks 0 = .ok (.iconst 0, 1) := by decide +kernel
theorem dX11_findWalks_1 : decode cX11_findWalks 1 = .ok (.istore 5, 2) := by decide +kernel
theorem dX11_findWalks_3 : decode cX11_findWalks 3 = .ok (.iload 5, 2) := by decide +kernel
theorem dX11_findWalks_5 : decode cX11_findWalks 5 = .ok (.bipush 64, 2) := by decide +kernel
theorem dX11_findWalks_7 : decode cX11_findWalks 7 = .ok (.if_icmp .ge 36, 3) := by decide +kernel
theorem dX11_findWalks_10 : decode cX11_findWalks 10 = .ok (.aload_n 0, 1) := by decide +kernel
theorem dX11_findWalks_11 : decode cX11_findWalks 11 = .ok (.getfield 70, 3) := by decide +kernel
theorem dX11_findWalks_14 : decode cX11_findWalks 14 = .ok (.iload 5, 2) := by decide +kernel
theorem dX11_findWalks_16 : decode cX11_findWalks 16 = .ok (.iload 5, 2) := by decide +kernel
theorem dX11_findWalks_18 : decode cX11_findWalks 18 = .ok (.iload_n 1, 1) := by decide +kernel
theorem dX11_findWalks_19 : decode cX11_findWalks 19 = .ok (.if_icmp .ne 16, 3) := by decide +kernel
theorem dX11_findWalks_22 : decode cX11_findWalks 22 = .ok (.lload_n 3, 1) := by decide +kernel
theorem dX11_findWalks_23 : decode cX11_findWalks 23 = .ok (.iload 5, 2) := by decide +kernel
theorem dX11_findWalks_25 : decode cX11_findWalks 25 = .ok (.invokestatic 215, 3) := by decide +kernel
theorem dX11_findWalks_28 : decode cX11_findWalks 28 = .ok (.ifCond .eq 7, 3) := by decide +kernel
theorem dX11_findWalks_31 : decode cX11_findWalks 31 = .ok (.iconst 1, 1) := by decide +kernel
theorem dX11_findWalks_32 : decode cX11_findWalks 32 = .ok (.goto 4, 3) := by decide +kernel
theorem dX11_findWalks_35 : decode cX11_findWalks 35 = .ok (.iconst 0, 1) := by decide +kernel
theorem dX11_findWalks_36 : decode cX11_findWalks 36 = .ok (.iastore, 1) := by decide +kernel
theorem dX11_findWalks_37 : decode cX11_findWalks 37 = .ok (.iinc 5 1, 3) := by decide +kernel
theorem dX11_findWalks_40 : decode cX11_findWalks 40 = .ok (.goto (-37), 3) := by decide +kernel
theorem dX11_findWalks_43 : decode cX11_findWalks 43 = .ok (.iconst 0, 1) := by decide +kernel
theorem dX11_findWalks_44 : decode cX11_findWalks 44 = .ok (.istore 5, 2) := by decide +kernel
theorem dX11_findWalks_46 : decode cX11_findWalks 46 = .ok (.iload 5, 2) := by decide +kernel
theorem dX11_findWalks_48 : decode cX11_findWalks 48 = .ok (.iload_n 2, 1) := by decide +kernel
theorem dX11_findWalks_49 : decode cX11_findWalks 49 = .ok (.if_icmp .ge 85, 3) := by decide +kernel
theorem dX11_findWalks_52 : decode cX11_findWalks 52 = .ok (.iconst 0, 1) := by decide +kernel
theorem dX11_findWalks_53 : decode cX11_findWalks 53 = .ok (.istore 6, 2) := by decide +kernel
theorem dX11_findWalks_55 : decode cX11_findWalks 55 = .ok (.iload 6, 2) := by decide +kernel
theorem dX11_findWalks_57 : decode cX11_findWalks 57 = .ok (.bipush 64, 2) := by decide +kernel
theorem dX11_findWalks_59 : decode cX11_findWalks 59 = .ok (.if_icmp .ge 39, 3) := by decide +kernel
theorem dX11_findWalks_62 : decode cX11_findWalks 62 = .ok (.aload_n 0, 1) := by decide +kernel
theorem dX11_findWalks_63 : decode cX11_findWalks 63 = .ok (.getfield 73, 3) := by decide +kernel
theorem dX11_findWalks_66 : decode cX11_findWalks 66 = .ok (.iload 6, 2) := by decide +kernel
theorem dX11_findWalks_68 : decode cX11_findWalks 68 = .ok (.lload_n 3, 1) := by decide +kernel
theorem dX11_findWalks_69 : decode cX11_findWalks 69 = .ok (.iload 6, 2) := by decide +kernel
theorem dX11_findWalks_71 : decode cX11_findWalks 71 = .ok (.invokestatic 215, 3) := by decide +kernel
theorem dX11_findWalks_74 : decode cX11_findWalks 74 = .ok (.ifCond .eq 16, 3) := by decide +kernel
theorem dX11_findWalks_77 : decode cX11_findWalks 77 = .ok (.aload_n 0, 1) := by decide +kernel
theorem dX11_findWalks_78 : decode cX11_findWalks 78 = .ok (.aload_n 0, 1) := by decide +kernel
theorem dX11_findWalks_79 : decode cX11_findWalks 79 = .ok (.getfield 70, 3) := by decide +kernel
theorem dX11_findWalks_82 : decode cX11_findWalks 82 = .ok (.iload 6, 2) := by decide +kernel
theorem dX11_findWalks_84 : decode cX11_findWalks 84 = .ok (.invokevirtual 360, 3) := by decide +kernel
theorem dX11_findWalks_87 : decode cX11_findWalks 87 = .ok (.goto 4, 3) := by decide +kernel
theorem dX11_findWalks_90 : decode cX11_findWalks 90 = .ok (.iconst 0, 1) := by decide +kernel
theorem dX11_findWalks_91 : decode cX11_findWalks 91 = .ok (.iastore, 1) := by decide +kernel
theorem dX11_findWalks_92 : decode cX11_findWalks 92 = .ok (.iinc 6 1, 3) := by decide +kernel
theorem dX11_findWalks_95 : decode cX11_findWalks 95 = .ok (.goto (-40), 3) := by decide +kernel
theorem dX11_findWalks_98 : decode cX11_findWalks 98 = .ok (.iconst 0, 1) := by decide +kernel
theorem dX11_findWalks_99 : decode cX11_findWalks 99 = .ok (.istore 6, 2) := by decide +kernel
theorem dX11_findWalks_101 : decode cX11_findWalks 101 = .ok (.iload 6, 2) := by decide +kernel
theorem dX11_findWalks_103 : decode cX11_findWalks 103 = .ok (.bipush 64, 2) := by decide +kernel
theorem dX11_findWalks_105 : decode cX11_findWalks 105 = .ok (.if_icmp .ge 23, 3) := by decide +kernel
theorem dX11_findWalks_108 : decode cX11_findWalks 108 = .ok (.aload_n 0, 1) := by decide +kernel
theorem dX11_findWalks_109 : decode cX11_findWalks 109 = .ok (.getfield 70, 3) := by decide +kernel
theorem dX11_findWalks_112 : decode cX11_findWalks 112 = .ok (.iload 6, 2) := by decide +kernel
theorem dX11_findWalks_114 : decode cX11_findWalks 114 = .ok (.aload_n 0, 1) := by decide +kernel
theorem dX11_findWalks_115 : decode cX11_findWalks 115 = .ok (.getfield 73, 3) := by decide +kernel
theorem dX11_findWalks_118 : decode cX11_findWalks 118 = .ok (.iload 6, 2) := by decide +kernel
theorem dX11_findWalks_120 : decode cX11_findWalks 120 = .ok (.iaload, 1) := by decide +kernel
theorem dX11_findWalks_121 : decode cX11_findWalks 121 = .ok (.iastore, 1) := by decide +kernel
theorem dX11_findWalks_122 : decode cX11_findWalks 122 = .ok (.iinc 6 1, 3) := by decide +kernel
theorem dX11_findWalks_125 : decode cX11_findWalks 125 = .ok (.goto (-24), 3) := by decide +kernel
theorem dX11_findWalks_128 : decode cX11_findWalks 128 = .ok (.iinc 5 1, 3) := by decide +kernel
theorem dX11_findWalks_131 : decode cX11_findWalks 131 = .ok (.goto (-85), 3) := by decide +kernel
theorem dX11_findWalks_134 : decode cX11_findWalks 134 = .ok (.return_, 1) := by decide +kernel
theorem dX11_ways_0 : decode cX11_ways 0 = .ok (.aload_n 0, 1) := by decide +kernel
theorem dX11_ways_1 : decode cX11_ways 1 = .ok (.iconst 0, 1) := by decide +kernel
theorem dX11_ways_2 : decode cX11_ways 2 = .ok (.putfield 89, 3) := by decide +kernel
theorem dX11_ways_5 : decode cX11_ways 5 = .ok (.aload_n 0, 1) := by decide +kernel
theorem dX11_ways_6 : decode cX11_ways 6 = .ok (.iload_n 1, 1) := by decide +kernel
theorem dX11_ways_7 : decode cX11_ways 7 = .ok (.invokevirtual 157, 3) := by decide +kernel
theorem dX11_ways_10 : decode cX11_ways 10 = .ok (.ifCond .eq 21, 3) := by decide +kernel
theorem dX11_ways_13 : decode cX11_ways 13 = .ok (.aload_n 0, 1) := by decide +kernel
theorem dX11_ways_14 : decode cX11_ways 14 = .ok (.iload_n 2, 1) := by decide +kernel
theorem dX11_ways_15 : decode cX11_ways 15 = .ok (.invokevirtual 157, 3) := by decide +kernel
theorem dX11_ways_18 : decode cX11_ways 18 = .ok (.ifCond .eq 13, 3) := by decide +kernel
theorem dX11_ways_21 : decode cX11_ways 21 = .ok (.iload_n 3, 1) := by decide +kernel
theorem dX11_ways_22 : decode cX11_ways 22 = .ok (.iconst 0, 1) := by decide +kernel
theorem dX11_ways_23 : decode cX11_ways 23 = .ok (.bipush 20, 2) := by decide +kernel
theorem dX11_ways_25 : decode cX11_ways 25 = .ok (.invokestatic 95, 3) := by decide +kernel
theorem dX11_ways_28 : decode cX11_ways 28 = .ok (.ifCond .ne 5, 3) := by decide +kernel
theorem dX11_ways_31 : decode cX11_ways 31 = .ok (.iconst (-1), 1) := by decide +kernel
theorem dX11_ways_32 : decode cX11_ways 32 = .ok (.ireturn, 1) := by decide +kernel
theorem dX11_ways_33 : decode cX11_ways 33 = .ok (.aload_n 0, 1) := by decide +kernel
theorem dX11_ways_34 : decode cX11_ways 34 = .ok (.aload_n 0, 1) := by decide +kernel
theorem dX11_ways_35 : decode cX11_ways 35 = .ok (.getfield 9, 3) := by decide +kernel
theorem dX11_ways_38 : decode cX11_ways 38 = .ok (.invokevirtual 313, 3) := by decide +kernel
theorem dX11_ways_41 : decode cX11_ways 41 = .ok (.lstore 4, 2) := by decide +kernel
theorem dX11_ways_43 : decode cX11_ways 43 = .ok (.aload_n 0, 1) := by decide +kernel
theorem dX11_ways_44 : decode cX11_ways 44 = .ok (.iload_n 2, 1) := by decide +kernel
theorem dX11_ways_45 : decode cX11_ways 45 = .ok (.iload_n 3, 1) := by decide +kernel
theorem dX11_ways_46 : decode cX11_ways 46 = .ok (.lload 4, 2) := by decide +kernel
theorem dX11_ways_48 : decode cX11_ways 48 = .ok (.invokevirtual 363, 3) := by decide +kernel
theorem dX11_ways_51 : decode cX11_ways 51 = .ok (.aload_n 0, 1) := by decide +kernel
theorem dX11_ways_52 : decode cX11_ways 52 = .ok (.getfield 70, 3) := by decide +kernel
theorem dX11_ways_55 : decode cX11_ways 55 = .ok (.iload_n 1, 1) := by decide +kernel
theorem dX11_ways_56 : decode cX11_ways 56 = .ok (.iaload, 1) := by decide +kernel
theorem dX11_ways_57 : decode cX11_ways 57 = .ok (.istore 6, 2) := by decide +kernel
theorem dX11_ways_59 : decode cX11_ways 59 = .ok (.iconst (-1), 1) := by decide +kernel
theorem dX11_ways_60 : decode cX11_ways 60 = .ok (.istore 7, 2) := by decide +kernel
theorem dX11_ways_62 : decode cX11_ways 62 = .ok (.iload_n 3, 1) := by decide +kernel
theorem dX11_ways_63 : decode cX11_ways 63 = .ok (.ifCond .le 61, 3) := by decide +kernel
theorem dX11_ways_66 : decode cX11_ways 66 = .ok (.iload 6, 2) := by decide +kernel
theorem dX11_ways_68 : decode cX11_ways 68 = .ok (.ifCond .le 56, 3) := by decide +kernel
theorem dX11_ways_71 : decode cX11_ways 71 = .ok (.aload_n 0, 1) := by decide +kernel
theorem dX11_ways_72 : decode cX11_ways 72 = .ok (.iload_n 2, 1) := by decide +kernel
theorem dX11_ways_73 : decode cX11_ways 73 = .ok (.iload_n 3, 1) := by decide +kernel
theorem dX11_ways_74 : decode cX11_ways 74 = .ok (.iconst 1, 1) := by decide +kernel
theorem dX11_ways_75 : decode cX11_ways 75 = .ok (.isub, 1) := by decide +kernel
theorem dX11_ways_76 : decode cX11_ways 76 = .ok (.lload 4, 2) := by decide +kernel
theorem dX11_ways_78 : decode cX11_ways 78 = .ok (.invokevirtual 363, 3) := by decide +kernel
theorem dX11_ways_81 : decode cX11_ways 81 = .ok (.bipush 63, 2) := by decide +kernel
theorem dX11_ways_83 : decode cX11_ways 83 = .ok (.istore 8, 2) := by decide +kernel
theorem dX11_ways_85 : decode cX11_ways 85 = .ok (.iload 8, 2) := by decide +kernel
theorem dX11_ways_87 : decode cX11_ways 87 = .ok (.ifCond .lt 37, 3) := by decide +kernel
theorem dX11_ways_90 : decode cX11_ways 90 = .ok (.lconst 1, 1) := by decide +kernel
theorem dX11_ways_91 : decode cX11_ways 91 = .ok (.iload_n 1, 1) := by decide +kernel
theorem dX11_ways_92 : decode cX11_ways 92 = .ok (.lshl, 1) := by decide +kernel
theorem dX11_ways_93 : decode cX11_ways 93 = .ok (.invokestatic 309, 3) := by decide +kernel
theorem dX11_ways_96 : decode cX11_ways 96 = .ok (.iload 8, 2) := by decide +kernel
theorem dX11_ways_98 : decode cX11_ways 98 = .ok (.invokestatic 215, 3) := by decide +kernel
theorem dX11_ways_101 : decode cX11_ways 101 = .ok (.ifCond .eq 17, 3) := by decide +kernel
theorem dX11_ways_104 : decode cX11_ways 104 = .ok (.aload_n 0, 1) := by decide +kernel
theorem dX11_ways_105 : decode cX11_ways 105 = .ok (.getfield 70, 3) := by decide +kernel
theorem dX11_ways_108 : decode cX11_ways 108 = .ok (.iload 8, 2) := by decide +kernel
theorem dX11_ways_110 : decode cX11_ways 110 = .ok (.iaload, 1) := by decide +kernel
theorem dX11_ways_111 : decode cX11_ways 111 = .ok (.ifCond .le 7, 3) := by decide +kernel
theorem dX11_ways_114 : decode cX11_ways 114 = .ok (.iload 8, 2) := by decide +kernel
theorem dX11_ways_116 : decode cX11_ways 116 = .ok (.istore 7, 2) := by decide +kernel
theorem dX11_ways_118 : decode cX11_ways 118 = .ok (.iinc 8 (-1), 3) := by decide +kernel
theorem dX11_ways_121 : decode cX11_ways 121 = .ok (.goto (-36), 3) := by decide +kernel
theorem dX11_ways_124 : decode cX11_ways 124 = .ok (.aload_n 0, 1) := by decide +kernel
theorem dX11_ways_125 : decode cX11_ways 125 = .ok (.iconst 0, 1) := by decide +kernel
theorem dX11_ways_126 : decode cX11_ways 126 = .ok (.putfield 92, 3) := by decide +kernel
theorem dX11_ways_129 : decode cX11_ways 129 = .ok (.aload_n 0, 1) := by decide +kernel
theorem dX11_ways_130 : decode cX11_ways 130 = .ok (.iload 7, 2) := by decide +kernel
theorem dX11_ways_132 : decode cX11_ways 132 = .ok (.i2l, 1) := by decide +kernel
theorem dX11_ways_133 : decode cX11_ways 133 = .ok (.invokevirtual 278, 3) := by decide +kernel
theorem dX11_ways_136 : decode cX11_ways 136 = .ok (.iload 6, 2) := by decide +kernel
theorem dX11_ways_138 : decode cX11_ways 138 = .ok (.ireturn, 1) := by decide +kernel
theorem dX11_bride_0 : decode cX11_bride 0 = .ok (.aload_n 0, 1) := by decide +kernel
theorem dX11_bride_1 : decode cX11_bride 1 = .ok (.iconst 0, 1) := by decide +kernel
theorem dX11_bride_2 : decode cX11_bride 2 = .ok (.putfield 89, 3) := by decide +kernel
theorem dX11_bride_5 : decode cX11_bride 5 = .ok (.aload_n 0, 1) := by decide +kernel
theorem dX11_bride_6 : decode cX11_bride 6 = .ok (.aload_n 0, 1) := by decide +kernel
theorem dX11_bride_7 : decode cX11_bride 7 = .ok (.getfield 32, 3) := by decide +kernel
theorem dX11_bride_10 : decode cX11_bride 10 = .ok (.aload_n 0, 1) := by decide +kernel
theorem dX11_bride_11 : decode cX11_bride 11 = .ok (.getfield 108, 3) := by decide +kernel
theorem dX11_bride_14 : decode cX11_bride 14 = .ok (.bipush 80, 2) := by decide +kernel
theorem dX11_bride_16 : decode cX11_bride 16 = .ok (.invokevirtual 142, 3) := by decide +kernel
theorem dX11_bride_19 : decode cX11_bride 19 = .ok (.aload_n 0, 1) := by decide +kernel
theorem dX11_bride_20 : decode cX11_bride 20 = .ok (.iconst 0, 1) := by decide +kernel
theorem dX11_bride_21 : decode cX11_bride 21 = .ok (.putfield 108, 3) := by decide +kernel
theorem dX11_bride_24 : decode cX11_bride 24 = .ok (.iconst 0, 1) := by decide +kernel
theorem dX11_bride_25 : decode cX11_bride 25 = .ok (.istore_n 1, 1) := by decide +kernel
theorem dX11_bride_26 : decode cX11_bride 26 = .ok (.aload_n 0, 1) := by decide +kernel
theorem dX11_bride_27 : decode cX11_bride 27 = .ok (.invokevirtual 126, 3) := by decide +kernel
theorem dX11_bride_30 : decode cX11_bride 30 = .ok (.ifCond .eq 73, 3) := by decide +kernel
theorem dX11_bride_33 : decode cX11_bride 33 = .ok (.iload_n 1, 1) := by decide +kernel
theorem dX11_bride_34 : decode cX11_bride 34 = .ok (.ifCond .eq 14, 3) := by decide +kernel
theorem dX11_bride_37 : decode cX11_bride 37 = .ok (.aload_n 0, 1) := by decide +kernel
theorem dX11_bride_38 : decode cX11_bride 38 = .ok (.getfield 120, 3) := by decide +kernel
theorem dX11_bride_41 : decode cX11_bride 41 = .ok (.aload_n 0, 1) := by decide +kernel
theorem dX11_bride_42 : decode cX11_bride 42 = .ok (.getfield 114, 3) := by decide +kernel
theorem dX11_bride_45 : decode cX11_bride 45 = .ok (.if_icmp .ge 58, 3) := by decide +kernel
theorem dX11_bride_48 : decode cX11_bride 48 = .ok (.iload_n 1, 1) := by decide +kernel
theorem dX11_bride_49 : decode cX11_bride 49 = .ok (.bipush 12, 2) := by decide +kernel
theorem dX11_bride_51 : decode cX11_bride 51 = .ok (.if_icmp .ne 14, 3) := by decide +kernel
theorem dX11_bride_54 : decode cX11_bride 54 = .ok (.aload_n 0, 1) := by decide +kernel
theorem dX11_bride_55 : decode cX11_bride 55 = .ok (.aload_n 0, 1) := by decide +kernel
theorem dX11_bride_56 : decode cX11_bride 56 = .ok (.getfield 120, 3) := by decide +kernel
theorem dX11_bride_59 : decode cX11_bride 59 = .ok (.invokevirtual 138, 3) := by decide +kernel
theorem dX11_bride_62 : decode cX11_bride 62 = .ok (.goto (-36), 3) := by decide +kernel
theorem dX11_bride_65 : decode cX11_bride 65 = .ok (.aload_n 0, 1) := by decide +kernel
theorem dX11_bride_66 : decode cX11_bride 66 = .ok (.bipush 97, 2) := by decide +kernel
theorem dX11_bride_68 : decode cX11_bride 68 = .ok (.aload_n 0, 1) := by decide +kernel
theorem dX11_bride_69 : decode cX11_bride 69 = .ok (.getfield 99, 3) := by decide +kernel
theorem dX11_bride_72 : decode cX11_bride 72 = .ok (.invokevirtual 171, 3) := by decide +kernel
theorem dX11_bride_75 : decode cX11_bride 75 = .ok (.istore_n 2, 1) := by decide +kernel
theorem dX11_bride_76 : decode cX11_bride 76 = .ok (.aload_n 0, 1) := by decide +kernel
theorem dX11_bride_77 : decode cX11_bride 77 = .ok (.getfield 76, 3) := by decide +kernel
theorem dX11_bride_80 : decode cX11_bride 80 = .ok (.iload_n 1, 1) := by decide +kernel
theorem dX11_bride_81 : decode cX11_bride 81 = .ok (.bipush 8, 2) := by decide +kernel
theorem dX11_bride_83 : decode cX11_bride 83 = .ok (.aload_n 0, 1) := by decide +kernel
theorem dX11_bride_84 : decode cX11_bride 84 = .ok (.bipush 49, 2) := by decide +kernel
theorem dX11_bride_86 : decode cX11_bride 86 = .ok (.aload_n 0, 1) := by decide +kernel
theorem dX11_bride_87 : decode cX11_bride 87 = .ok (.getfield 102, 3) := by decide +kernel
theorem dX11_bride_90 : decode cX11_bride 90 = .ok (.invokevirtual 171, 3) := by decide +kernel
theorem dX11_bride_93 : decode cX11_bride 93 = .ok (.imul, 1) := by decide +kernel
theorem dX11_bride_94 : decode cX11_bride 94 = .ok (.iload_n 2, 1) := by decide +kernel
theorem dX11_bride_95 : decode cX11_bride 95 = .ok (.iadd, 1) := by decide +kernel
theorem dX11_bride_96 : decode cX11_bride 96 = .ok (.iastore, 1) := by decide +kernel
theorem dX11_bride_97 : decode cX11_bride 97 = .ok (.iinc 1 1, 3) := by decide +kernel
theorem dX11_bride_100 : decode cX11_bride 100 = .ok (.goto (-74), 3) := by decide +kernel
theorem dX11_bride_103 : decode cX11_bride 103 = .ok (.aload_n 0, 1) := by decide +kernel
theorem dX11_bride_104 : decode cX11_bride 104 = .ok (.invokevirtual 126, 3) := by decide +kernel
theorem dX11_bride_107 : decode cX11_bride 107 = .ok (.ifCond .ne 10, 3) := by decide +kernel
theorem dX11_bride_110 : decode cX11_bride 110 = .ok (.iconst (-1), 1) := by decide +kernel
theorem dX11_bride_111 : decode cX11_bride 111 = .ok (.aload_n 0, 1) := by decide +kernel
theorem dX11_bride_112 : decode cX11_bride 112 = .ok (.getfield 123, 3) := by decide +kernel
theorem dX11_bride_115 : decode cX11_bride 115 = .ok (.isub, 1) := by decide +kernel
theorem dX11_bride_116 : decode cX11_bride 116 = .ok (.ireturn, 1) := by decide +kernel
theorem dX11_bride_117 : decode cX11_bride 117 = .ok (.aload_n 0, 1) := by decide +kernel
theorem dX11_bride_118 : decode cX11_bride 118 = .ok (.aload_n 0, 1) := by decide +kernel
theorem dX11_bride_119 : decode cX11_bride 119 = .ok (.getfield 9, 3) := by decide +kernel
theorem dX11_bride_122 : decode cX11_bride 122 = .ok (.invokevirtual 313, 3) := by decide +kernel
theorem dX11_bride_125 : decode cX11_bride 125 = .ok (.lstore_n 2, 1) := by decide +kernel
theorem dX11_bride_126 : decode cX11_bride 126 = .ok (.lload_n 2, 1) := by decide +kernel
theorem dX11_bride_127 : decode cX11_bride 127 = .ok (.aload_n 0, 1) := by decide +kernel
theorem dX11_bride_128 : decode cX11_bride 128 = .ok (.getfield 76, 3) := by decide +kernel
theorem dX11_bride_131 : decode cX11_bride 131 = .ok (.iconst 0, 1) := by decide +kernel
theorem dX11_bride_132 : decode cX11_bride 132 = .ok (.iaload, 1) := by decide +kernel
theorem dX11_bride_133 : decode cX11_bride 133 = .ok (.invokestatic 215, 3) := by decide +kernel
theorem dX11_bride_136 : decode cX11_bride 136 = .ok (.ifCond .ne 6, 3) := by decide +kernel
theorem dX11_bride_139 : decode cX11_bride 139 = .ok (.bipush (-100), 2) := by decide +kernel
theorem dX11_bride_141 : decode cX11_bride 141 = .ok (.ireturn, 1) := by decide +kernel
theorem dX11_bride_142 : decode cX11_bride 142 = .ok (.iconst 0, 1) := by decide +kernel
theorem dX11_bride_143 : decode cX11_bride 143 = .ok (.istore 4, 2) := by decide +kernel
theorem dX11_bride_145 : decode cX11_bride 145 = .ok (.lconst 1, 1) := by decide +kernel
theorem dX11_bride_146 : decode cX11_bride 146 = .ok (.lstore 5, 2) := by decide +kernel
theorem dX11_bride_148 : decode cX11_bride 148 = .ok (.iconst 1, 1) := by decide +kernel
theorem dX11_bride_149 : decode cX11_bride 149 = .ok (.istore 7, 2) := by decide +kernel
theorem dX11_bride_151 : decode cX11_bride 151 = .ok (.iload 7, 2) := by decide +kernel
theorem dX11_bride_153 : decode cX11_bride 153 = .ok (.iload_n 1, 1) := by decide +kernel
theorem dX11_bride_154 : decode cX11_bride 154 = .ok (.if_icmp .ge 95, 3) := by decide +kernel
theorem dX11_bride_157 : decode cX11_bride 157 = .ok (.aload_n 0, 1) := by decide +kernel
theorem dX11_bride_158 : decode cX11_bride 158 = .ok (.aload_n 0, 1) := by decide +kernel
theorem dX11_bride_159 : decode cX11_bride 159 = .ok (.getfield 76, 3) := by decide +kernel
theorem dX11_bride_162 : decode cX11_bride 162 = .ok (.iload 7, 2) := by decide +kernel
theorem dX11_bride_164 : decode cX11_bride 164 = .ok (.iaload, 1) := by decide +kernel
theorem dX11_bride_165 : decode cX11_bride 165 = .ok (.lload_n 2, 1) := by decide +kernel
theorem dX11_bride_166 : decode cX11_bride 166 = .ok (.invokevirtual 330, 3) := by decide +kernel
theorem dX11_bride_169 : decode cX11_bride 169 = .ok (.aload_n 0, 1) := by decide +kernel
theorem dX11_bride_170 : decode cX11_bride 170 = .ok (.getfield 64, 3) := by decide +kernel
theorem dX11_bride_173 : decode cX11_bride 173 = .ok (.aload_n 0, 1) := by decide +kernel
theorem dX11_bride_174 : decode cX11_bride 174 = .ok (.getfield 76, 3) := by decide +kernel
theorem dX11_bride_177 : decode cX11_bride 177 = .ok (.iload 7, 2) := by decide +kernel
theorem dX11_bride_179 : decode cX11_bride 179 = .ok (.iconst 1, 1) := by decide +kernel
theorem dX11_bride_180 : decode cX11_bride 180 = .ok (.isub, 1) := by decide +kernel
theorem dX11_bride_181 : decode cX11_bride 181 = .ok (.iaload, 1) := by decide +kernel
theorem dX11_bride_182 : decode cX11_bride 182 = .ok (.iaload, 1) := by decide +kernel
theorem dX11_bride_183 : decode cX11_bride 183 = .ok (.istore 8, 2) := by decide +kernel
theorem dX11_bride_185 : decode cX11_bride 185 = .ok (.iload 8, 2) := by decide +kernel
theorem dX11_bride_187 : decode cX11_bride 187 = .ok (.ldc_w 329, 3) := by decide +kernel
theorem dX11_bride_190 : decode cX11_bride 190 = .ok (.if_icmp .ne 6, 3) := by decide +kernel
theorem dX11_bride_193 : decode cX11_bride 193 = .ok (.bipush (-100), 2) := by decide +kernel
theorem dX11_bride_195 : decode cX11_bride 195 = .ok (.ireturn, 1) := by decide +kernel
theorem dX11_bride_196 : decode cX11_bride 196 = .ok (.iload 4, 2) := by decide +kernel
theorem dX11_bride_198 : decode cX11_bride 198 = .ok (.iload 8, 2) := by decide +kernel
theorem dX11_bride_200 : decode cX11_bride 200 = .ok (.iadd, 1) := by decide +kernel
theorem dX11_bride_201 : decode cX11_bride 201 = .ok (.istore 4, 2) := by decide +kernel
theorem dX11_bride_203 : decode cX11_bride 203 = .ok (.aload_n 0, 1) := by decide +kernel
theorem dX11_bride_204 : decode cX11_bride 204 = .ok (.aload_n 0, 1) := by decide +kernel
theorem dX11_bride_205 : decode cX11_bride 205 = .ok (.getfield 76, 3) := by decide +kernel
theorem dX11_bride_208 : decode cX11_bride 208 = .ok (.iload 7, 2) := by decide +kernel
theorem dX11_bride_210 : decode cX11_bride 210 = .ok (.iaload, 1) := by decide +kernel
theorem dX11_bride_211 : decode cX11_bride 211 = .ok (.iload 8, 2) := by decide +kernel
theorem dX11_bride_213 : decode cX11_bride 213 = .ok (.lload_n 2, 1) := by decide +kernel
theorem dX11_bride_214 : decode cX11_bride 214 = .ok (.invokevirtual 363, 3) := by decide +kernel
theorem dX11_bride_217 : decode cX11_bride 217 = .ok (.ldc2_w 367, 3) := by decide +kernel
theorem dX11_bride_220 : decode cX11_bride 220 = .ok (.lload 5, 2) := by decide +kernel
theorem dX11_bride_222 : decode cX11_bride 222 = .ok (.aload_n 0, 1) := by decide +kernel
theorem dX11_bride_223 : decode cX11_bride 223 = .ok (.getfield 70, 3) := by decide +kernel
theorem dX11_bride_226 : decode cX11_bride 226 = .ok (.aload_n 0, 1) := by decide +kernel
theorem dX11_bride_227 : decode cX11_bride 227 = .ok (.getfield 76, 3) := by decide +kernel
theorem dX11_bride_230 : decode cX11_bride 230 = .ok (.iload 7, 2) := by decide +kernel
theorem dX11_bride_232 : decode cX11_bride 232 = .ok (.iconst 1, 1) := by decide +kernel
theorem dX11_bride_233 : decode cX11_bride 233 = .ok (.isub, 1) := by decide +kernel
theorem dX11_bride_234 : decode cX11_bride 234 = .ok (.iaload, 1) := by decide +kernel
theorem dX11_bride_235 : decode cX11_bride 235 = .ok (.iaload, 1) := by decide +kernel
theorem dX11_bride_236 : decode cX11_bride 236 = .ok (.i2l, 1) := by decide +kernel
theorem dX11_bride_237 : decode cX11_bride 237 = .ok (.lmul, 1) := by decide +kernel
theorem dX11_bride_238 : decode cX11_bride 238 = .ok (.invokestatic 369, 3) := by decide +kernel
theorem dX11_bride_241 : decode cX11_bride 241 = .ok (.lstore 5, 2) := by decide +kernel
theorem dX11_bride_243 : decode cX11_bride 243 = .ok (.iinc 7 1, 3) := by decide +kernel
theorem dX11_bride_246 : decode cX11_bride 246 = .ok (.goto (-95), 3) := by decide +kernel
theorem dX11_bride_249 : decode cX11_bride 249 = .ok (.aload_n 0, 1) := by decide +kernel
theorem dX11_bride_250 : decode cX11_bride 250 = .ok (.iconst 0, 1) := by decide +kernel
theorem dX11_bride_251 : decode cX11_bride 251 = .ok (.putfield 92, 3) := by decide +kernel
theorem dX11_bride_254 : decode cX11_bride 254 = .ok (.aload_n 0, 1) := by decide +kernel
theorem dX11_bride_255 : decode cX11_bride 255 = .ok (.lload 5, 2) := by decide +kernel
theorem dX11_bride_257 : decode cX11_bride 257 = .ok (.invokevirtual 278, 3) := by decide +kernel
theorem dX11_bride_260 : decode cX11_bride 260 = .ok (.iload 4, 2) := by decide +kernel
theorem dX11_bride_262 : decode cX11_bride 262 = .ok (.ireturn, 1) := by decide +kernel
theorem dX11_lost__0 : decode cX11_lost_ 0 = .ok (.aload_n 0, 1) := by decide +kernel
theorem dX11_lost__1 : decode cX11_lost_ 1 = .ok (.iconst 0, 1) := by decide +kernel
theorem dX11_lost__2 : decode cX11_lost_ 2 = .ok (.putfield 89, 3) := by decide +kernel
theorem dX11_lost__5 : decode cX11_lost_ 5 = .ok (.aload_n 0, 1) := by decide +kernel
theorem dX11_lost__6 : decode cX11_lost_ 6 = .ok (.iload_n 1, 1) := by decide +kernel
theorem dX11_lost__7 : decode cX11_lost_ 7 = .ok (.invokevirtual 157, 3) := by decide +kernel
theorem dX11_lost__10 : decode cX11_lost_ 10 = .ok (.ifCond .eq 33, 3) := by decide +kernel
theorem dX11_lost__13 : decode cX11_lost_ 13 = .ok (.aload_n 0, 1) := by decide +kernel
theorem dX11_lost__14 : decode cX11_lost_ 14 = .ok (.iload_n 2, 1) := by decide +kernel
theorem dX11_lost__15 : decode cX11_lost_ 15 = .ok (.invokevirtual 157, 3) := by decide +kernel
theorem dX11_lost__18 : decode cX11_lost_ 18 = .ok (.ifCond .eq 25, 3) := by decide +kernel
theorem dX11_lost__21 : decode cX11_lost_ 21 = .ok (.iload_n 3, 1) := by decide +kernel
theorem dX11_lost__22 : decode cX11_lost_ 22 = .ok (.iconst 0, 1) := by decide +kernel
theorem dX11_lost__23 : decode cX11_lost_ 23 = .ok (.bipush 40, 2) := by decide +kernel
theorem dX11_lost__25 : decode cX11_lost_ 25 = .ok (.invokestatic 95, 3) := by decide +kernel
theorem dX11_lost__28 : decode cX11_lost_ 28 = .ok (.ifCond .eq 15, 3) := by decide +kernel
theorem dX11_lost__31 : decode cX11_lost_ 31 = .ok (.aload_n 0, 1) := by decide +kernel
theorem dX11_lost__32 : decode cX11_lost_ 32 = .ok (.aload_n 0, 1) := by decide +kernel
theorem dX11_lost__33 : decode cX11_lost_ 33 = .ok (.getfield 9, 3) := by decide +kernel
theorem dX11_lost__36 : decode cX11_lost_ 36 = .ok (.iload_n 1, 1) := by decide +kernel
theorem dX11_lost__37 : decode cX11_lost_ 37 = .ok (.invokevirtual 227, 3) := by decide +kernel
theorem dX11_lost__40 : decode cX11_lost_ 40 = .ok (.ifCond .ne 5, 3) := by decide +kernel
theorem dX11_lost__43 : decode cX11_lost_ 43 = .ok (.iconst (-1), 1) := by decide +kernel
theorem dX11_lost__44 : decode cX11_lost_ 44 = .ok (.ireturn, 1) := by decide +kernel
theorem dX11_lost__45 : decode cX11_lost_ 45 = .ok (.iconst 0, 1) := by decide +kernel
theorem dX11_lost__46 : decode cX11_lost_ 46 = .ok (.istore 4, 2) := by decide +kernel
theorem dX11_lost__48 : decode cX11_lost_ 48 = .ok (.iload 4, 2) := by decide +kernel
theorem dX11_lost__50 : decode cX11_lost_ 50 = .ok (.bipush 64, 2) := by decide +kernel
theorem dX11_lost__52 : decode cX11_lost_ 52 = .ok (.if_icmp .ge 29, 3) := by decide +kernel
theorem dX11_lost__55 : decode cX11_lost_ 55 = .ok (.aload_n 0, 1) := by decide +kernel
theorem dX11_lost__56 : decode cX11_lost_ 56 = .ok (.getfield 70, 3) := by decide +kernel
theorem dX11_lost__59 : decode cX11_lost_ 59 = .ok (.iload 4, 2) := by decide +kernel
theorem dX11_lost__61 : decode cX11_lost_ 61 = .ok (.iload 4, 2) := by decide +kernel
theorem dX11_lost__63 : decode cX11_lost_ 63 = .ok (.iload_n 1, 1) := by decide +kernel
theorem dX11_lost__64 : decode cX11_lost_ 64 = .ok (.if_icmp .ne 9, 3) := by decide +kernel
theorem dX11_lost__67 : decode cX11_lost_ 67 = .ok (.ldc_w 359, 3) := by decide +kernel
theorem dX11_lost__70 : decode cX11_lost_ 70 = .ok (.goto 4, 3) := by decide +kernel
theorem dX11_lost__73 : decode cX11_lost_ 73 = .ok (.iconst 0, 1) := by decide +kernel
theorem dX11_lost__74 : decode cX11_lost_ 74 = .ok (.iastore, 1) := by decide +kernel
theorem dX11_lost__75 : decode cX11_lost_ 75 = .ok (.iinc 4 1, 3) := by decide +kernel
theorem dX11_lost__78 : decode cX11_lost_ 78 = .ok (.goto (-30), 3) := by decide +kernel
theorem dX11_lost__81 : decode cX11_lost_ 81 = .ok (.iconst 0, 1) := by decide +kernel
theorem dX11_lost__82 : decode cX11_lost_ 82 = .ok (.istore 4, 2) := by decide +kernel
theorem dX11_lost__84 : decode cX11_lost_ 84 = .ok (.iload 4, 2) := by decide +kernel
theorem dX11_lost__86 : decode cX11_lost_ 86 = .ok (.iload_n 3, 1) := by decide +kernel
theorem dX11_lost__87 : decode cX11_lost_ 87 = .ok (.if_icmp .ge 95, 3) := by decide +kernel
theorem dX11_lost__90 : decode cX11_lost_ 90 = .ok (.iconst 0, 1) := by decide +kernel
theorem dX11_lost__91 : decode cX11_lost_ 91 = .ok (.istore 5, 2) := by decide +kernel
theorem dX11_lost__93 : decode cX11_lost_ 93 = .ok (.iload 5, 2) := by decide +kernel
theorem dX11_lost__95 : decode cX11_lost_ 95 = .ok (.bipush 64, 2) := by decide +kernel
theorem dX11_lost__97 : decode cX11_lost_ 97 = .ok (.if_icmp .ge 17, 3) := by decide +kernel
theorem dX11_lost__100 : decode cX11_lost_ 100 = .ok (.aload_n 0, 1) := by decide +kernel
theorem dX11_lost__101 : decode cX11_lost_ 101 = .ok (.getfield 73, 3) := by decide +kernel
theorem dX11_lost__104 : decode cX11_lost_ 104 = .ok (.iload 5, 2) := by decide +kernel
theorem dX11_lost__106 : decode cX11_lost_ 106 = .ok (.iconst 0, 1) := by decide +kernel
theorem dX11_lost__107 : decode cX11_lost_ 107 = .ok (.iastore, 1) := by decide +kernel
theorem dX11_lost__108 : decode cX11_lost_ 108 = .ok (.iinc 5 1, 3) := by decide +kernel
theorem dX11_lost__111 : decode cX11_lost_ 111 = .ok (.goto (-18), 3) := by decide +kernel
theorem dX11_lost__114 : decode cX11_lost_ 114 = .ok (.iconst 0, 1) := by decide +kernel
theorem dX11_lost__115 : decode cX11_lost_ 115 = .ok (.istore 5, 2) := by decide +kernel
theorem dX11_lost__117 : decode cX11_lost_ 117 = .ok (.iload 5, 2) := by decide +kernel
theorem dX11_lost__119 : decode cX11_lost_ 119 = .ok (.bipush 64, 2) := by decide +kernel
theorem dX11_lost__121 : decode cX11_lost_ 121 = .ok (.if_icmp .ge 25, 3) := by decide +kernel
theorem dX11_lost__124 : decode cX11_lost_ 124 = .ok (.aload_n 0, 1) := by decide +kernel
theorem dX11_lost__125 : decode cX11_lost_ 125 = .ok (.getfield 70, 3) := by decide +kernel
theorem dX11_lost__128 : decode cX11_lost_ 128 = .ok (.iload 5, 2) := by decide +kernel
theorem dX11_lost__130 : decode cX11_lost_ 130 = .ok (.iaload, 1) := by decide +kernel
theorem dX11_lost__131 : decode cX11_lost_ 131 = .ok (.ifCond .le 9, 3) := by decide +kernel
theorem dX11_lost__134 : decode cX11_lost_ 134 = .ok (.aload_n 0, 1) := by decide +kernel
theorem dX11_lost__135 : decode cX11_lost_ 135 = .ok (.iload 5, 2) := by decide +kernel
theorem dX11_lost__137 : decode cX11_lost_ 137 = .ok (.invokevirtual 371, 3) := by decide +kernel
theorem dX11_lost__140 : decode cX11_lost_ 140 = .ok (.iinc 5 1, 3) := by decide +kernel
theorem dX11_lost__143 : decode cX11_lost_ 143 = .ok (.goto (-26), 3) := by decide +kernel
theorem dX11_lost__146 : decode cX11_lost_ 146 = .ok (.iconst 0, 1) := by decide +kernel
theorem dX11_lost__147 : decode cX11_lost_ 147 = .ok (.istore 5, 2) := by decide +kernel
theorem dX11_lost__149 : decode cX11_lost_ 149 = .ok (.iload 5, 2) := by decide +kernel
theorem dX11_lost__151 : decode cX11_lost_ 151 = .ok (.bipush 64, 2) := by decide +kernel
theorem dX11_lost__153 : decode cX11_lost_ 153 = .ok (.if_icmp .ge 23, 3) := by decide +kernel
theorem dX11_lost__156 : decode cX11_lost_ 156 = .ok (.aload_n 0, 1) := by decide +kernel
theorem dX11_lost__157 : decode cX11_lost_ 157 = .ok (.getfield 70, 3) := by decide +kernel
theorem dX11_lost__160 : decode cX11_lost_ 160 = .ok (.iload 5, 2) := by decide +kernel
theorem dX11_lost__162 : decode cX11_lost_ 162 = .ok (.aload_n 0, 1) := by decide +kernel
theorem dX11_lost__163 : decode cX11_lost_ 163 = .ok (.getfield 73, 3) := by decide +kernel
theorem dX11_lost__166 : decode cX11_lost_ 166 = .ok (.iload 5, 2) := by decide +kernel
theorem dX11_lost__168 : decode cX11_lost_ 168 = .ok (.iaload, 1) := by decide +kernel
theorem dX11_lost__169 : decode cX11_lost_ 169 = .ok (.iastore, 1) := by decide +kernel
theorem dX11_lost__170 : decode cX11_lost_ 170 = .ok (.iinc 5 1, 3) := by decide +kernel
theorem dX11_lost__173 : decode cX11_lost_ 173 = .ok (.goto (-24), 3) := by decide +kernel
theorem dX11_lost__176 : decode cX11_lost_ 176 = .ok (.iinc 4 1, 3) := by decide +kernel
theorem dX11_lost__179 : decode cX11_lost_ 179 = .ok (.goto (-95), 3) := by decide +kernel
theorem dX11_lost__182 : decode cX11_lost_ 182 = .ok (.iconst 0, 1) := by decide +kernel
theorem dX11_lost__183 : decode cX11_lost_ 183 = .ok (.istore 4, 2) := by decide +kernel
theorem dX11_lost__185 : decode cX11_lost_ 185 = .ok (.iconst 1, 1) := by decide +kernel
theorem dX11_lost__186 : decode cX11_lost_ 186 = .ok (.istore 5, 2) := by decide +kernel
theorem dX11_lost__188 : decode cX11_lost_ 188 = .ok (.iload 5, 2) := by decide +kernel
theorem dX11_lost__190 : decode cX11_lost_ 190 = .ok (.bipush 64, 2) := by decide +kernel
theorem dX11_lost__192 : decode cX11_lost_ 192 = .ok (.if_icmp .ge 30, 3) := by decide +kernel
theorem dX11_lost__195 : decode cX11_lost_ 195 = .ok (.aload_n 0, 1) := by decide +kernel
theorem dX11_lost__196 : decode cX11_lost_ 196 = .ok (.getfield 70, 3) := by decide +kernel
theorem dX11_lost__199 : decode cX11_lost_ 199 = .ok (.iload 5, 2) := by decide +kernel
theorem dX11_lost__201 : decode cX11_lost_ 201 = .ok (.iaload, 1) := by decide +kernel
theorem dX11_lost__202 : decode cX11_lost_ 202 = .ok (.aload_n 0, 1) := by decide +kernel
theorem dX11_lost__203 : decode cX11_lost_ 203 = .ok (.getfield 70, 3) := by decide +kernel
theorem dX11_lost__206 : decode cX11_lost_ 206 = .ok (.iload 4, 2) := by decide +kernel
theorem dX11_lost__208 : decode cX11_lost_ 208 = .ok (.iaload, 1) := by decide +kernel
theorem dX11_lost__209 : decode cX11_lost_ 209 = .ok (.if_icmp .le 7, 3) := by decide +kernel
theorem dX11_lost__212 : decode cX11_lost_ 212 = .ok (.iload 5, 2) := by decide +kernel
theorem dX11_lost__214 : decode cX11_lost_ 214 = .ok (.istore 4, 2) := by decide +kernel
theorem dX11_lost__216 : decode cX11_lost_ 216 = .ok (.iinc 5 1, 3) := by decide +kernel
theorem dX11_lost__219 : decode cX11_lost_ 219 = .ok (.goto (-31), 3) := by decide +kernel
theorem dX11_lost__222 : decode cX11_lost_ 222 = .ok (.aload_n 0, 1) := by decide +kernel
theorem dX11_lost__223 : decode cX11_lost_ 223 = .ok (.iconst 0, 1) := by decide +kernel
theorem dX11_lost__224 : decode cX11_lost_ 224 = .ok (.putfield 92, 3) := by decide +kernel
theorem dX11_lost__227 : decode cX11_lost_ 227 = .ok (.aload_n 0, 1) := by decide +kernel
theorem dX11_lost__228 : decode cX11_lost_ 228 = .ok (.iload 4, 2) := by decide +kernel
theorem dX11_lost__230 : decode cX11_lost_ 230 = .ok (.i2l, 1) := by decide +kernel
theorem dX11_lost__231 : decode cX11_lost_ 231 = .ok (.invokevirtual 278, 3) := by decide +kernel
theorem dX11_lost__234 : decode cX11_lost_ 234 = .ok (.aload_n 0, 1) := by decide +kernel
theorem dX11_lost__235 : decode cX11_lost_ 235 = .ok (.getfield 70, 3) := by decide +kernel
theorem dX11_lost__238 : decode cX11_lost_ 238 = .ok (.iload_n 2, 1) := by decide +kernel
theorem dX11_lost__239 : decode cX11_lost_ 239 = .ok (.iaload, 1) := by decide +kernel
theorem dX11_lost__240 : decode cX11_lost_ 240 = .ok (.ireturn, 1) := by decide +kernel
theorem dX11_share_0 : decode cX11_share 0 = .ok (.iconst 1, 1) := by decide +kernel
theorem dX11_share_1 : decode cX11_share 1 = .ok (.istore_n 2, 1) := by decide +kernel
theorem dX11_share_2 : decode cX11_share 2 = .ok (.iconst 0, 1) := by decide +kernel
theorem dX11_share_3 : decode cX11_share 3 = .ok (.istore_n 3, 1) := by decide +kernel
theorem dX11_share_4 : decode cX11_share 4 = .ok (.iload_n 3, 1) := by decide +kernel
theorem dX11_share_5 : decode cX11_share 5 = .ok (.iconst 4, 1) := by decide +kernel
theorem dX11_share_6 : decode cX11_share 6 = .ok (.if_icmp .ge 26, 3) := by decide +kernel
theorem dX11_share_9 : decode cX11_share 9 = .ok (.iload_n 2, 1) := by decide +kernel
theorem dX11_share_10 : decode cX11_share 10 = .ok (.aload_n 0, 1) := by decide +kernel
theorem dX11_share_11 : decode cX11_share 11 = .ok (.iload_n 1, 1) := by decide +kernel
theorem dX11_share_12 : decode cX11_share 12 = .ok (.iload_n 3, 1) := by decide +kernel
theorem dX11_share_13 : decode cX11_share 13 = .ok (.invokevirtual 374, 3) := by decide +kernel
theorem dX11_share_16 : decode cX11_share 16 = .ok (.ifCond .eq 7, 3) := by decide +kernel
theorem dX11_share_19 : decode cX11_share 19 = .ok (.iconst 1, 1) := by decide +kernel
theorem dX11_share_20 : decode cX11_share 20 = .ok (.goto 4, 3) := by decide +kernel
theorem dX11_share_23 : decode cX11_share 23 = .ok (.iconst 0, 1) := by decide +kernel
theorem dX11_share_24 : decode cX11_share 24 = .ok (.iadd, 1) := by decide +kernel
theorem dX11_share_25 : decode cX11_share 25 = .ok (.istore_n 2, 1) := by decide +kernel
theorem dX11_share_26 : decode cX11_share 26 = .ok (.iinc 3 1, 3) := by decide +kernel
theorem dX11_share_29 : decode cX11_share 29 = .ok (.goto (-25), 3) := by decide +kernel
theorem dX11_share_32 : decode cX11_share 32 = .ok (.aload_n 0, 1) := by decide +kernel
theorem dX11_share_33 : decode cX11_share 33 = .ok (.getfield 70, 3) := by decide +kernel
theorem dX11_share_36 : decode cX11_share 36 = .ok (.iload_n 1, 1) := by decide +kernel
theorem dX11_share_37 : decode cX11_share 37 = .ok (.iaload, 1) := by decide +kernel
theorem dX11_share_38 : decode cX11_share 38 = .ok (.iload_n 2, 1) := by decide +kernel
theorem dX11_share_39 : decode cX11_share 39 = .ok (.idiv, 1) := by decide +kernel
theorem dX11_share_40 : decode cX11_share 40 = .ok (.istore_n 3, 1) := by decide +kernel
theorem dX11_share_41 : decode cX11_share 41 = .ok (.aload_n 0, 1) := by decide +kernel
theorem dX11_share_42 : decode cX11_share 42 = .ok (.getfield 73, 3) := by decide +kernel
theorem dX11_share_45 : decode cX11_share 45 = .ok (.iload_n 1, 1) := by decide +kernel
theorem dX11_share_46 : decode cX11_share 46 = .ok (.dup2, 1) := by decide +kernel
theorem dX11_share_47 : decode cX11_share 47 = .ok (.iaload, 1) := by decide +kernel
theorem dX11_share_48 : decode cX11_share 48 = .ok (.iload_n 3, 1) := by decide +kernel
theorem dX11_share_49 : decode cX11_share 49 = .ok (.iadd, 1) := by decide +kernel
theorem dX11_share_50 : decode cX11_share 50 = .ok (.iastore, 1) := by decide +kernel
theorem dX11_share_51 : decode cX11_share 51 = .ok (.iconst 0, 1) := by decide +kernel
theorem dX11_share_52 : decode cX11_share 52 = .ok (.istore 4, 2) := by decide +kernel
theorem dX11_share_54 : decode cX11_share 54 = .ok (.iload 4, 2) := by decide +kernel
theorem dX11_share_56 : decode cX11_share 56 = .ok (.iconst 4, 1) := by decide +kernel
theorem dX11_share_57 : decode cX11_share 57 = .ok (.if_icmp .ge 35, 3) := by decide +kernel
theorem dX11_share_60 : decode cX11_share 60 = .ok (.aload_n 0, 1) := by decide +kernel
theorem dX11_share_61 : decode cX11_share 61 = .ok (.iload_n 1, 1) := by decide +kernel
theorem dX11_share_62 : decode cX11_share 62 = .ok (.iload 4, 2) := by decide +kernel
theorem dX11_share_64 : decode cX11_share 64 = .ok (.invokevirtual 374, 3) := by decide +kernel
theorem dX11_share_67 : decode cX11_share 67 = .ok (.ifCond .eq 19, 3) := by decide +kernel
theorem dX11_share_70 : decode cX11_share 70 = .ok (.aload_n 0, 1) := by decide +kernel
theorem dX11_share_71 : decode cX11_share 71 = .ok (.getfield 73, 3) := by decide +kernel
theorem dX11_share_74 : decode cX11_share 74 = .ok (.aload_n 0, 1) := by decide +kernel
theorem dX11_share_75 : decode cX11_share 75 = .ok (.iload_n 1, 1) := by decide +kernel
theorem dX11_share_76 : decode cX11_share 76 = .ok (.iload 4, 2) := by decide +kernel
theorem dX11_share_78 : decode cX11_share 78 = .ok (.invokevirtual 223, 3) := by decide +kernel
theorem dX11_share_81 : decode cX11_share 81 = .ok (.dup2, 1) := by decide +kernel
theorem dX11_share_82 : decode cX11_share 82 = .ok (.iaload, 1) := by decide +kernel
theorem dX11_share_83 : decode cX11_share 83 = .ok (.iload_n 3, 1) := by decide +kernel
theorem dX11_share_84 : decode cX11_share 84 = .ok (.iadd, 1) := by decide +kernel
theorem dX11_share_85 : decode cX11_share 85 = .ok (.iastore, 1) := by decide +kernel
theorem dX11_share_86 : decode cX11_share 86 = .ok (.iinc 4 1, 3) := by decide +kernel
theorem dX11_share_89 : decode cX11_share 89 = .ok (.goto (-35), 3) := by decide +kernel
theorem dX11_share_92 : decode cX11_share 92 = .ok (.return_, 1) := by decide +kernel
theorem dX11_goesBeside_0 : decode cX11_goesBeside 0 = .ok (.aload_n 0, 1) := by decide +kernel
theorem dX11_goesBeside_1 : decode cX11_goesBeside 1 = .ok (.iload_n 1, 1) := by decide +kernel
theorem dX11_goesBeside_2 : decode cX11_goesBeside 2 = .ok (.iload_n 2, 1) := by decide +kernel
theorem dX11_goesBeside_3 : decode cX11_goesBeside 3 = .ok (.invokevirtual 223, 3) := by decide +kernel
theorem dX11_goesBeside_6 : decode cX11_goesBeside 6 = .ok (.istore_n 3, 1) := by decide +kernel
theorem dX11_goesBeside_7 : decode cX11_goesBeside 7 = .ok (.iload_n 3, 1) := by decide +kernel
theorem dX11_goesBeside_8 : decode cX11_goesBeside 8 = .ok (.iconst (-1), 1) := by decide +kernel
theorem dX11_goesBeside_9 : decode cX11_goesBeside 9 = .ok (.if_icmp .eq 19, 3) := by decide +kernel
theorem dX11_goesBeside_12 : decode cX11_goesBeside 12 = .ok (.aload_n 0, 1) := by decide +kernel
theorem dX11_goesBeside_13 : decode cX11_goesBeside 13 = .ok (.aload_n 0, 1) := by decide +kernel
theorem dX11_goesBeside_14 : decode cX11_goesBeside 14 = .ok (.getfield 9, 3) := by decide +kernel
theorem dX11_goesBeside_17 : decode cX11_goesBeside 17 = .ok (.iload_n 3, 1) := by decide +kernel
theorem dX11_goesBeside_18 : decode cX11_goesBeside 18 = .ok (.invokevirtual 227, 3) := by decide +kernel
theorem dX11_goesBeside_21 : decode cX11_goesBeside 21 = .ok (.ifCond .eq 7, 3) := by decide +kernel
theorem dX11_goesBeside_24 : decode cX11_goesBeside 24 = .ok (.iconst 1, 1) := by decide +kernel
theorem dX11_goesBeside_25 : decode cX11_goesBeside 25 = .ok (.goto 4, 3) := by decide +kernel
theorem dX11_goesBeside_28 : decode cX11_goesBeside 28 = .ok (.iconst 0, 1) := by decide +kernel
theorem dX11_goesBeside_29 : decode cX11_goesBeside 29 = .ok (.ireturn, 1) := by decide +kernel
theorem dX11_letter_0 : decode cX11_letter 0 = .ok (.aload_n 0, 1) := by decide +kernel
theorem dX11_letter_1 : decode cX11_letter 1 = .ok (.iconst 0, 1) := by decide +kernel
theorem dX11_letter_2 : decode cX11_letter 2 = .ok (.putfield 89, 3) := by decide +kernel
theorem dX11_letter_5 : decode cX11_letter 5 = .ok (.aload_n 0, 1) := by decide +kernel
theorem dX11_letter_6 : decode cX11_letter 6 = .ok (.iload_n 1, 1) := by decide +kernel
theorem dX11_letter_7 : decode cX11_letter 7 = .ok (.invokevirtual 157, 3) := by decide +kernel
theorem dX11_letter_10 : decode cX11_letter 10 = .ok (.ifCond .ne 5, 3) := by decide +kernel
theorem dX11_letter_13 : decode cX11_letter 13 = .ok (.iconst (-1), 1) := by decide +kernel
theorem dX11_letter_14 : decode cX11_letter 14 = .ok (.ireturn, 1) := by decide +kernel
theorem dX11_letter_15 : decode cX11_letter 15 = .ok (.aload_n 0, 1) := by decide +kernel
theorem dX11_letter_16 : decode cX11_letter 16 = .ok (.getfield 9, 3) := by decide +kernel
theorem dX11_letter_19 : decode cX11_letter 19 = .ok (.aload_n 0, 1) := by decide +kernel
theorem dX11_letter_20 : decode cX11_letter 20 = .ok (.getfield 67, 3) := by decide +kernel
theorem dX11_letter_23 : decode cX11_letter 23 = .ok (.iconst 0, 1) := by decide +kernel
theorem dX11_letter_24 : decode cX11_letter 24 = .ok (.invokestatic 251, 3) := by decide +kernel
theorem dX11_letter_27 : decode cX11_letter 27 = .ok (.aload_n 0, 1) := by decide +kernel
theorem dX11_letter_28 : decode cX11_letter 28 = .ok (.aload_n 0, 1) := by decide +kernel
theorem dX11_letter_29 : decode cX11_letter 29 = .ok (.getfield 9, 3) := by decide +kernel
theorem dX11_letter_32 : decode cX11_letter 32 = .ok (.iload_n 1, 1) := by decide +kernel
theorem dX11_letter_33 : decode cX11_letter 33 = .ok (.invokevirtual 233, 3) := by decide +kernel
theorem dX11_letter_36 : decode cX11_letter 36 = .ok (.ifCond .ne 7, 3) := by decide +kernel
theorem dX11_letter_39 : decode cX11_letter 39 = .ok (.iconst (-1), 1) := by decide +kernel
theorem dX11_letter_40 : decode cX11_letter 40 = .ok (.goto 15, 3) := by decide +kernel
theorem dX11_letter_43 : decode cX11_letter 43 = .ok (.aload_n 0, 1) := by decide +kernel
theorem dX11_letter_44 : decode cX11_letter 44 = .ok (.aload_n 0, 1) := by decide +kernel
theorem dX11_letter_45 : decode cX11_letter 45 = .ok (.getfield 9, 3) := by decide +kernel
theorem dX11_letter_48 : decode cX11_letter 48 = .ok (.iload_n 1, 1) := by decide +kernel
theorem dX11_letter_49 : decode cX11_letter 49 = .ok (.invokevirtual 233, 3) := by decide +kernel
theorem dX11_letter_52 : decode cX11_letter 52 = .ok (.invokestatic 343, 3) := by decide +kernel
theorem dX11_letter_55 : decode cX11_letter 55 = .ok (.istore_n 2, 1) := by decide +kernel
theorem dX11_letter_56 : decode cX11_letter 56 = .ok (.iconst 1, 1) := by decide +kernel
theorem dX11_letter_57 : decode cX11_letter 57 = .ok (.istore_n 3, 1) := by decide +kernel
theorem dX11_letter_58 : decode cX11_letter 58 = .ok (.iload_n 3, 1) := by decide +kernel
theorem dX11_letter_59 : decode cX11_letter 59 = .ok (.bipush 100, 2) := by decide +kernel
theorem dX11_letter_61 : decode cX11_letter 61 = .ok (.if_icmp .gt 99, 3) := by decide +kernel
theorem dX11_letter_64 : decode cX11_letter 64 = .ok (.aload_n 0, 1) := by decide +kernel
theorem dX11_letter_65 : decode cX11_letter 65 = .ok (.aload_n 0, 1) := by decide +kernel
theorem dX11_letter_66 : decode cX11_letter 66 = .ok (.getfield 67, 3) := by decide +kernel
theorem dX11_letter_69 : decode cX11_letter 69 = .ok (.invokevirtual 285, 3) := by decide +kernel
theorem dX11_letter_72 : decode cX11_letter 72 = .ok (.pop, 1) := by decide +kernel
theorem dX11_letter_73 : decode cX11_letter 73 = .ok (.iload_n 2, 1) := by decide +kernel
theorem dX11_letter_74 : decode cX11_letter 74 = .ok (.iconst (-1), 1) := by decide +kernel
theorem dX11_letter_75 : decode cX11_letter 75 = .ok (.if_icmp .ne 35, 3) := by decide +kernel
theorem dX11_letter_78 : decode cX11_letter 78 = .ok (.aload_n 0, 1) := by decide +kernel
theorem dX11_letter_79 : decode cX11_letter 79 = .ok (.aload_n 0, 1) := by decide +kernel
theorem dX11_letter_80 : decode cX11_letter 80 = .ok (.getfield 67, 3) := by decide +kernel
theorem dX11_letter_83 : decode cX11_letter 83 = .ok (.iload_n 1, 1) := by decide +kernel
theorem dX11_letter_84 : decode cX11_letter 84 = .ok (.invokevirtual 233, 3) := by decide +kernel
theorem dX11_letter_87 : decode cX11_letter 87 = .ok (.ifCond .ne 7, 3) := by decide +kernel
theorem dX11_letter_90 : decode cX11_letter 90 = .ok (.iconst (-1), 1) := by decide +kernel
theorem dX11_letter_91 : decode cX11_letter 91 = .ok (.goto 15, 3) := by decide +kernel
theorem dX11_letter_94 : decode cX11_letter 94 = .ok (.aload_n 0, 1) := by decide +kernel
theorem dX11_letter_95 : decode cX11_letter 95 = .ok (.aload_n 0, 1) := by decide +kernel
theorem dX11_letter_96 : decode cX11_letter 96 = .ok (.getfield 67, 3) := by decide +kernel
theorem dX11_letter_99 : decode cX11_letter 99 = .ok (.iload_n 1, 1) := by decide +kernel
theorem dX11_letter_100 : decode cX11_letter 100 = .ok (.invokevirtual 233, 3) := by decide +kernel
theorem dX11_letter_103 : decode cX11_letter 103 = .ok (.invokestatic 343, 3) := by decide +kernel
theorem dX11_letter_106 : decode cX11_letter 106 = .ok (.istore_n 2, 1) := by decide +kernel
theorem dX11_letter_107 : decode cX11_letter 107 = .ok (.goto 47, 3) := by decide +kernel
theorem dX11_letter_110 : decode cX11_letter 110 = .ok (.aload_n 0, 1) := by decide +kernel
theorem dX11_letter_111 : decode cX11_letter 111 = .ok (.getfield 67, 3) := by decide +kernel
theorem dX11_letter_114 : decode cX11_letter 114 = .ok (.sipush 326, 3) := by decide +kernel
theorem dX11_letter_117 : decode cX11_letter 117 = .ok (.iload_n 2, 1) := by decide +kernel
theorem dX11_letter_118 : decode cX11_letter 118 = .ok (.iadd, 1) := by decide +kernel
theorem dX11_letter_119 : decode cX11_letter 119 = .ok (.iaload, 1) := by decide +kernel
theorem dX11_letter_120 : decode cX11_letter 120 = .ok (.ifCond .ne 6, 3) := by decide +kernel
theorem dX11_letter_123 : decode cX11_letter 123 = .ok (.goto 31, 3) := by decide +kernel
theorem dX11_letter_126 : decode cX11_letter 126 = .ok (.aload_n 0, 1) := by decide +kernel
theorem dX11_letter_127 : decode cX11_letter 127 = .ok (.iconst 0, 1) := by decide +kernel
theorem dX11_letter_128 : decode cX11_letter 128 = .ok (.putfield 92, 3) := by decide +kernel
theorem dX11_letter_131 : decode cX11_letter 131 = .ok (.aload_n 0, 1) := by decide +kernel
theorem dX11_letter_132 : decode cX11_letter 132 = .ok (.iload_n 2, 1) := by decide +kernel
theorem dX11_letter_133 : decode cX11_letter 133 = .ok (.i2l, 1) := by decide +kernel
theorem dX11_letter_134 : decode cX11_letter 134 = .ok (.invokevirtual 278, 3) := by decide +kernel
theorem dX11_letter_137 : decode cX11_letter 137 = .ok (.aload_n 0, 1) := by decide +kernel
theorem dX11_letter_138 : decode cX11_letter 138 = .ok (.aload_n 0, 1) := by decide +kernel
theorem dX11_letter_139 : decode cX11_letter 139 = .ok (.getfield 67, 3) := by decide +kernel
theorem dX11_letter_142 : decode cX11_letter 142 = .ok (.sipush 320, 3) := by decide +kernel
theorem dX11_letter_145 : decode cX11_letter 145 = .ok (.iload_n 2, 1) := by decide +kernel
theorem dX11_letter_146 : decode cX11_letter 146 = .ok (.iadd, 1) := by decide +kernel
theorem dX11_letter_147 : decode cX11_letter 147 = .ok (.iaload, 1) := by decide +kernel
theorem dX11_letter_148 : decode cX11_letter 148 = .ok (.i2l, 1) := by decide +kernel
theorem dX11_letter_149 : decode cX11_letter 149 = .ok (.invokevirtual 278, 3) := by decide +kernel
theorem dX11_letter_152 : decode cX11_letter 152 = .ok (.iload_n 3, 1) := by decide +kernel
theorem dX11_letter_153 : decode cX11_letter 153 = .ok (.ireturn, 1) := by decide +kernel
theorem dX11_letter_154 : decode cX11_letter 154 = .ok (.iinc 3 1, 3) := by decide +kernel
theorem dX11_letter_157 : decode cX11_letter 157 = .ok (.goto (-99), 3) := by decide +kernel
theorem dX11_letter_160 : decode cX11_letter 160 = .ok (.bipush (-2), 2) := by decide +kernel
theorem dX11_letter_162 : decode cX11_letter 162 = .ok (.ireturn, 1) := by decide +kernel
theorem dX11_snow_0 : decode cX11_snow 0 = .ok (.aload_n 0, 1) := by decide +kernel
theorem dX11_snow_1 : decode cX11_snow 1 = .ok (.iconst 0, 1) := by decide +kernel
theorem dX11_snow_2 : decode cX11_snow 2 = .ok (.putfield 89, 3) := by decide +kernel
theorem dX11_snow_5 : decode cX11_snow 5 = .ok (.aload_n 0, 1) := by decide +kernel
theorem dX11_snow_6 : decode cX11_snow 6 = .ok (.aload_n 0, 1) := by decide +kernel
theorem dX11_snow_7 : decode cX11_snow 7 = .ok (.aload_n 0, 1) := by decide +kernel
theorem dX11_snow_8 : decode cX11_snow 8 = .ok (.getfield 9, 3) := by decide +kernel
theorem dX11_snow_11 : decode cX11_snow 11 = .ok (.invokevirtual 313, 3) := by decide +kernel
theorem dX11_snow_14 : decode cX11_snow 14 = .ok (.putfield 377, 3) := by decide +kernel
theorem dX11_snow_17 : decode cX11_snow 17 = .ok (.aload_n 0, 1) := by decide +kernel
theorem dX11_snow_18 : decode cX11_snow 18 = .ok (.iconst 1, 1) := by decide +kernel
theorem dX11_snow_19 : decode cX11_snow 19 = .ok (.putfield 164, 3) := by decide +kernel
theorem dX11_snow_22 : decode cX11_snow 22 = .ok (.aload_n 0, 1) := by decide +kernel
theorem dX11_snow_23 : decode cX11_snow 23 = .ok (.getfield 377, 3) := by decide +kernel
theorem dX11_snow_26 : decode cX11_snow 26 = .ok (.invokestatic 321, 3) := by decide +kernel
theorem dX11_snow_29 : decode cX11_snow 29 = .ok (.ireturn, 1) := by decide +kernel
theorem dX11_thaw_0 : decode cX11_thaw 0 = .ok (.aload_n 0, 1) := by decide +kernel
theorem dX11_thaw_1 : decode cX11_thaw 1 = .ok (.iconst 0, 1) := by decide +kernel
theorem dX11_thaw_2 : decode cX11_thaw 2 = .ok (.putfield 89, 3) := by decide +kernel
theorem dX11_thaw_5 : decode cX11_thaw 5 = .ok (.aload_n 0, 1) := by decide +kernel
theorem dX11_thaw_6 : decode cX11_thaw 6 = .ok (.getfield 164, 3) := by decide +kernel
theorem dX11_thaw_9 : decode cX11_thaw 9 = .ok (.ifCond .ne 6, 3) := by decide +kernel
theorem dX11_thaw_12 : decode cX11_thaw 12 = .ok (.bipush (-2), 2) := by decide +kernel
theorem dX11_thaw_14 : decode cX11_thaw 14 = .ok (.ireturn, 1) := by decide +kernel
theorem dX11_thaw_15 : decode cX11_thaw 15 = .ok (.aload_n 0, 1) := by decide +kernel
theorem dX11_thaw_16 : decode cX11_thaw 16 = .ok (.aload_n 0, 1) := by decide +kernel
theorem dX11_thaw_17 : decode cX11_thaw 17 = .ok (.getfield 9, 3) := by decide +kernel
theorem dX11_thaw_20 : decode cX11_thaw 20 = .ok (.invokevirtual 313, 3) := by decide +kernel
theorem dX11_thaw_23 : decode cX11_thaw 23 = .ok (.lstore_n 1, 1) := by decide +kernel
theorem dX11_thaw_24 : decode cX11_thaw 24 = .ok (.aload_n 0, 1) := by decide +kernel
theorem dX11_thaw_25 : decode cX11_thaw 25 = .ok (.iconst 0, 1) := by decide +kernel
theorem dX11_thaw_26 : decode cX11_thaw 26 = .ok (.putfield 92, 3) := by decide +kernel
theorem dX11_thaw_29 : decode cX11_thaw 29 = .ok (.aload_n 0, 1) := by decide +kernel
theorem dX11_thaw_30 : decode cX11_thaw 30 = .ok (.aload_n 0, 1) := by decide +kernel
theorem dX11_thaw_31 : decode cX11_thaw 31 = .ok (.getfield 377, 3) := by decide +kernel
theorem dX11_thaw_34 : decode cX11_thaw 34 = .ok (.lload_n 1, 1) := by decide +kernel
theorem dX11_thaw_35 : decode cX11_thaw 35 = .ok (.ldc2_w 327, 3) := by decide +kernel
theorem dX11_thaw_38 : decode cX11_thaw 38 = .ok (.lxor, 1) := by decide +kernel
theorem dX11_thaw_39 : decode cX11_thaw 39 = .ok (.land, 1) := by decide +kernel
theorem dX11_thaw_40 : decode cX11_thaw 40 = .ok (.invokevirtual 278, 3) := by decide +kernel
theorem dX11_thaw_43 : decode cX11_thaw 43 = .ok (.aload_n 0, 1) := by decide +kernel
theorem dX11_thaw_44 : decode cX11_thaw 44 = .ok (.lload_n 1, 1) := by decide +kernel
theorem dX11_thaw_45 : decode cX11_thaw 45 = .ok (.aload_n 0, 1) := by decide +kernel
theorem dX11_thaw_46 : decode cX11_thaw 46 = .ok (.getfield 377, 3) := by decide +kernel
theorem dX11_thaw_49 : decode cX11_thaw 49 = .ok (.ldc2_w 327, 3) := by decide +kernel
theorem dX11_thaw_52 : decode cX11_thaw 52 = .ok (.lxor, 1) := by decide +kernel
theorem dX11_thaw_53 : decode cX11_thaw 53 = .ok (.land, 1) := by decide +kernel
theorem dX11_thaw_54 : decode cX11_thaw 54 = .ok (.invokevirtual 278, 3) := by decide +kernel
theorem dX11_thaw_57 : decode cX11_thaw 57 = .ok (.aload_n 0, 1) := by decide +kernel
theorem dX11_thaw_58 : decode cX11_thaw 58 = .ok (.getfield 377, 3) := by decide +kernel
theorem dX11_thaw_61 : decode cX11_thaw 61 = .ok (.lload_n 1, 1) := by decide +kernel
theorem dX11_thaw_62 : decode cX11_thaw 62 = .ok (.ldc2_w 327, 3) := by decide +kernel
theorem dX11_thaw_65 : decode cX11_thaw 65 = .ok (.lxor, 1) := by decide +kernel
theorem dX11_thaw_66 : decode cX11_thaw 66 = .ok (.land, 1) := by decide +kernel
theorem dX11_thaw_67 : decode cX11_thaw 67 = .ok (.invokestatic 321, 3) := by decide +kernel
theorem dX11_thaw_70 : decode cX11_thaw 70 = .ok (.ireturn, 1) := by decide +kernel
theorem dX11_season_0 : decode cX11_season 0 = .ok (.aload_n 0, 1) := by decide +kernel
theorem dX11_season_1 : decode cX11_season 1 = .ok (.iconst 0, 1) := by decide +kernel
theorem dX11_season_2 : decode cX11_season 2 = .ok (.putfield 89, 3) := by decide +kernel
theorem dX11_season_5 : decode cX11_season 5 = .ok (.iload_n 2, 1) := by decide +kernel
theorem dX11_season_6 : decode cX11_season 6 = .ok (.iconst 1, 1) := by decide +kernel
theorem dX11_season_7 : decode cX11_season 7 = .ok (.bipush 60, 2) := by decide +kernel
theorem dX11_season_9 : decode cX11_season 9 = .ok (.invokestatic 95, 3) := by decide +kernel
theorem dX11_season_12 : decode cX11_season 12 = .ok (.ifCond .eq 10, 3) := by decide +kernel
theorem dX11_season_15 : decode cX11_season 15 = .ok (.aload_n 0, 1) := by decide +kernel
theorem dX11_season_16 : decode cX11_season 16 = .ok (.getfield 99, 3) := by decide +kernel
theorem dX11_season_19 : decode cX11_season 19 = .ok (.ifCond .ne 5, 3) := by decide +kernel
theorem dX11_season_22 : decode cX11_season 22 = .ok (.iconst (-1), 1) := by decide +kernel
theorem dX11_season_23 : decode cX11_season 23 = .ok (.ireturn, 1) := by decide +kernel
theorem dX11_season_24 : decode cX11_season 24 = .ok (.iload_n 1, 1) := by decide +kernel
theorem dX11_season_25 : decode cX11_season 25 = .ok (.istore_n 3, 1) := by decide +kernel
theorem dX11_season_26 : decode cX11_season 26 = .ok (.iconst 0, 1) := by decide +kernel
theorem dX11_season_27 : decode cX11_season 27 = .ok (.istore 4, 2) := by decide +kernel
theorem dX11_season_29 : decode cX11_season 29 = .ok (.aload_n 0, 1) := by decide +kernel
theorem dX11_season_30 : decode cX11_season 30 = .ok (.getfield 9, 3) := by decide +kernel
theorem dX11_season_33 : decode cX11_season 33 = .ok (.aload_n 0, 1) := by decide +kernel
theorem dX11_season_34 : decode cX11_season 34 = .ok (.getfield 67, 3) := by decide +kernel
theorem dX11_season_37 : decode cX11_season 37 = .ok (.iconst 0, 1) := by decide +kernel
theorem dX11_season_38 : decode cX11_season 38 = .ok (.invokestatic 251, 3) := by decide +kernel
theorem dX11_season_41 : decode cX11_season 41 = .ok (.iconst 0, 1) := by decide +kernel
theorem dX11_season_42 : decode cX11_season 42 = .ok (.istore 5, 2) := by decide +kernel
theorem dX11_season_44 : decode cX11_season 44 = .ok (.iload 5, 2) := by decide +kernel
theorem dX11_season_46 : decode cX11_season 46 = .ok (.iload_n 2, 1) := by decide +kernel
theorem dX11_season_47 : decode cX11_season 47 = .ok (.if_icmp .ge 117, 3) := by decide +kernel
theorem dX11_season_50 : decode cX11_season 50 = .ok (.iload_n 3, 1) := by decide +kernel
theorem dX11_season_51 : decode cX11_season 51 = .ok (.ldc_w 381, 3) := by decide +kernel
theorem dX11_season_54 : decode cX11_season 54 = .ok (.imul, 1) := by decide +kernel
theorem dX11_season_55 : decode cX11_season 55 = .ok (.sipush 12345, 3) := by decide +kernel
theorem dX11_season_58 : decode cX11_season 58 = .ok (.iadd, 1) := by decide +kernel
theorem dX11_season_59 : decode cX11_season 59 = .ok (.istore_n 3, 1) := by decide +kernel
theorem dX11_season_60 : decode cX11_season 60 = .ok (.iload_n 3, 1) := by decide +kernel
theorem dX11_season_61 : decode cX11_season 61 = .ok (.bipush 16, 2) := by decide +kernel
theorem dX11_season_63 : decode cX11_season 63 = .ok (.iushr, 1) := by decide +kernel
theorem dX11_season_64 : decode cX11_season 64 = .ok (.aload_n 0, 1) := by decide +kernel
theorem dX11_season_65 : decode cX11_season 65 = .ok (.getfield 99, 3) := by decide +kernel
theorem dX11_season_68 : decode cX11_season 68 = .ok (.aload_n 0, 1) := by decide +kernel
theorem dX11_season_69 : decode cX11_season 69 = .ok (.getfield 102, 3) := by decide +kernel
theorem dX11_season_72 : decode cX11_season 72 = .ok (.imul, 1) := by decide +kernel
theorem dX11_season_73 : decode cX11_season 73 = .ok (.irem, 1) := by decide +kernel
theorem dX11_season_74 : decode cX11_season 74 = .ok (.istore 6, 2) := by decide +kernel
theorem dX11_season_76 : decode cX11_season 76 = .ok (.bipush 8, 2) := by decide +kernel
theorem dX11_season_78 : decode cX11_season 78 = .ok (.iload 6, 2) := by decide +kernel
theorem dX11_season_80 : decode cX11_season 80 = .ok (.aload_n 0, 1) := by decide +kernel
theorem dX11_season_81 : decode cX11_season 81 = .ok (.getfield 99, 3) := by decide +kernel
theorem dX11_season_84 : decode cX11_season 84 = .ok (.idiv, 1) := by decide +kernel
theorem dX11_season_85 : decode cX11_season 85 = .ok (.imul, 1) := by decide +kernel
theorem dX11_season_86 : decode cX11_season 86 = .ok (.iload 6, 2) := by decide +kernel
theorem dX11_season_88 : decode cX11_season 88 = .ok (.aload_n 0, 1) := by decide +kernel
theorem dX11_season_89 : decode cX11_season 89 = .ok (.getfield 99, 3) := by decide +kernel
theorem dX11_season_92 : decode cX11_season 92 = .ok (.irem, 1) := by decide +kernel
theorem dX11_season_93 : decode cX11_season 93 = .ok (.iadd, 1) := by decide +kernel
theorem dX11_season_94 : decode cX11_season 94 = .ok (.istore 7, 2) := by decide +kernel
theorem dX11_season_96 : decode cX11_season 96 = .ok (.aload_n 0, 1) := by decide +kernel
theorem dX11_season_97 : decode cX11_season 97 = .ok (.getfield 67, 3) := by decide +kernel
theorem dX11_season_100 : decode cX11_season 100 = .ok (.sipush 128, 3) := by decide +kernel
theorem dX11_season_103 : decode cX11_season 103 = .ok (.iload 7, 2) := by decide +kernel
theorem dX11_season_105 : decode cX11_season 105 = .ok (.iadd, 1) := by decide +kernel
theorem dX11_season_106 : decode cX11_season 106 = .ok (.iaload, 1) := by decide +kernel
theorem dX11_season_107 : decode cX11_season 107 = .ok (.istore 8, 2) := by decide +kernel
theorem dX11_season_109 : decode cX11_season 109 = .ok (.aload_n 0, 1) := by decide +kernel
theorem dX11_season_110 : decode cX11_season 110 = .ok (.getfield 13, 3) := by decide +kernel
theorem dX11_season_113 : decode cX11_season 113 = .ok (.iload 7, 2) := by decide +kernel
theorem dX11_season_115 : decode cX11_season 115 = .ok (.iaload, 1) := by decide +kernel
theorem dX11_season_116 : decode cX11_season 116 = .ok (.ifCond .ne 16, 3) := by decide +kernel
theorem dX11_season_119 : decode cX11_season 119 = .ok (.aload_n 0, 1) := by decide +kernel
theorem dX11_season_120 : decode cX11_season 120 = .ok (.getfield 67, 3) := by decide +kernel
theorem dX11_season_123 : decode cX11_season 123 = .ok (.sipush 128, 3) := by decide +kernel
theorem dX11_season_126 : decode cX11_season 126 = .ok (.iload 7, 2) := by decide +kernel
theorem dX11_season_128 : decode cX11_season 128 = .ok (.iadd, 1) := by decide +kernel
theorem dX11_season_129 : decode cX11_season 129 = .ok (.bipush 9, 2) := by decide +kernel
theorem dX11_season_131 : decode cX11_season 131 = .ok (.iastore, 1) := by decide +kernel
theorem dX11_season_132 : decode cX11_season 132 = .ok (.iload 4, 2) := by decide +kernel
theorem dX11_season_134 : decode cX11_season 134 = .ok (.aload_n 0, 1) := by decide +kernel
theorem dX11_season_135 : decode cX11_season 135 = .ok (.aload_n 0, 1) := by decide +kernel
theorem dX11_season_136 : decode cX11_season 136 = .ok (.getfield 67, 3) := by decide +kernel
theorem dX11_season_139 : decode cX11_season 139 = .ok (.invokevirtual 285, 3) := by decide +kernel
theorem dX11_season_142 : decode cX11_season 142 = .ok (.iadd, 1) := by decide +kernel
theorem dX11_season_143 : decode cX11_season 143 = .ok (.istore 4, 2) := by decide +kernel
theorem dX11_season_145 : decode cX11_season 145 = .ok (.aload_n 0, 1) := by decide +kernel
theorem dX11_season_146 : decode cX11_season 146 = .ok (.getfield 67, 3) := by decide +kernel
theorem dX11_season_149 : decode cX11_season 149 = .ok (.sipush 128, 3) := by decide +kernel
theorem dX11_season_152 : decode cX11_season 152 = .ok (.iload 7, 2) := by decide +kernel
theorem dX11_season_154 : decode cX11_season 154 = .ok (.iadd, 1) := by decide +kernel
theorem dX11_season_155 : decode cX11_season 155 = .ok (.iload 8, 2) := by decide +kernel
theorem dX11_season_157 : decode cX11_season 157 = .ok (.iastore, 1) := by decide +kernel
theorem dX11_season_158 : decode cX11_season 158 = .ok (.iinc 5 1, 3) := by decide +kernel
theorem dX11_season_161 : decode cX11_season 161 = .ok (.goto (-117), 3) := by decide +kernel
theorem dX11_season_164 : decode cX11_season 164 = .ok (.aload_n 0, 1) := by decide +kernel
theorem dX11_season_165 : decode cX11_season 165 = .ok (.aload_n 0, 1) := by decide +kernel
theorem dX11_season_166 : decode cX11_season 166 = .ok (.getfield 67, 3) := by decide +kernel
theorem dX11_season_169 : decode cX11_season 169 = .ok (.invokevirtual 289, 3) := by decide +kernel
theorem dX11_season_172 : decode cX11_season 172 = .ok (.iload 4, 2) := by decide +kernel
theorem dX11_season_174 : decode cX11_season 174 = .ok (.ireturn, 1) := by decide +kernel
theorem dX11_keep_0 : decode cX11_keep 0 = .ok (.aload_n 0, 1) := by decide +kernel
theorem dX11_keep_1 : decode cX11_keep 1 = .ok (.iconst 0, 1) := by decide +kernel
theorem dX11_keep_2 : decode cX11_keep 2 = .ok (.putfield 89, 3) := by decide +kernel
theorem dX11_keep_5 : decode cX11_keep 5 = .ok (.iload_n 1, 1) := by decide +kernel
theorem dX11_keep_6 : decode cX11_keep 6 = .ok (.iconst 0, 1) := by decide +kernel
theorem dX11_keep_7 : decode cX11_keep 7 = .ok (.iconst 1, 1) := by decide +kernel
theorem dX11_keep_8 : decode cX11_keep 8 = .ok (.invokestatic 95, 3) := by decide +kernel
theorem dX11_keep_11 : decode cX11_keep 11 = .ok (.ifCond .ne 5, 3) := by decide +kernel
theorem dX11_keep_14 : decode cX11_keep 14 = .ok (.iconst 0, 1) := by decide +kernel
theorem dX11_keep_15 : decode cX11_keep 15 = .ok (.ireturn, 1) := by decide +kernel
theorem dX11_keep_16 : decode cX11_keep 16 = .ok (.aload_n 0, 1) := by decide +kernel
theorem dX11_keep_17 : decode cX11_keep 17 = .ok (.getfield 82, 3) := by decide +kernel
theorem dX11_keep_20 : decode cX11_keep 20 = .ok (.iload_n 1, 1) := by decide +kernel
theorem dX11_keep_21 : decode cX11_keep 21 = .ok (.iconst 1, 1) := by decide +kernel
theorem dX11_keep_22 : decode cX11_keep 22 = .ok (.bastore, 1) := by decide +kernel
theorem dX11_keep_23 : decode cX11_keep 23 = .ok (.aload_n 0, 1) := by decide +kernel
theorem dX11_keep_24 : decode cX11_keep 24 = .ok (.getfield 86, 3) := by decide +kernel
theorem dX11_keep_27 : decode cX11_keep 27 = .ok (.iload_n 1, 1) := by decide +kernel
theorem dX11_keep_28 : decode cX11_keep 28 = .ok (.aload_n 0, 1) := by decide +kernel
theorem dX11_keep_29 : decode cX11_keep 29 = .ok (.getfield 182, 3) := by decide +kernel
theorem dX11_keep_32 : decode cX11_keep 32 = .ok (.iastore, 1) := by decide +kernel
theorem dX11_keep_33 : decode cX11_keep 33 = .ok (.aload_n 0, 1) := by decide +kernel
theorem dX11_keep_34 : decode cX11_keep 34 = .ok (.getfield 9, 3) := by decide +kernel
theorem dX11_keep_37 : decode cX11_keep 37 = .ok (.aload_n 0, 1) := by decide +kernel
theorem dX11_keep_38 : decode cX11_keep 38 = .ok (.getfield 79, 3) := by decide +kernel
theorem dX11_keep_41 : decode cX11_keep 41 = .ok (.sipush 334, 3) := by decide +kernel
theorem dX11_keep_44 : decode cX11_keep 44 = .ok (.iload_n 1, 1) := by decide +kernel
theorem dX11_keep_45 : decode cX11_keep 45 = .ok (.imul, 1) := by decide +kernel
theorem dX11_keep_46 : decode cX11_keep 46 = .ok (.invokestatic 251, 3) := by decide +kernel
theorem dX11_keep_49 : decode cX11_keep 49 = .ok (.iconst 1, 1) := by decide +kernel
theorem dX11_keep_50 : decode cX11_keep 50 = .ok (.ireturn, 1) := by decide +kernel
theorem dX11_again_0 : decode cX11_again 0 = .ok (.aload_n 0, 1) := by decide +kernel
theorem dX11_again_1 : decode cX11_again 1 = .ok (.iconst 0, 1) := by decide +kernel
theorem dX11_again_2 : decode cX11_again 2 = .ok (.putfield 89, 3) := by decide +kernel
theorem dX11_again_5 : decode cX11_again 5 = .ok (.iload_n 1, 1) := by decide +kernel
theorem dX11_again_6 : decode cX11_again 6 = .ok (.iconst 0, 1) := by decide +kernel
theorem dX11_again_7 : decode cX11_again 7 = .ok (.iconst 1, 1) := by decide +kernel
theorem dX11_again_8 : decode cX11_again 8 = .ok (.invokestatic 95, 3) := by decide +kernel
theorem dX11_again_11 : decode cX11_again 11 = .ok (.ifCond .eq 25, 3) := by decide +kernel
theorem dX11_again_14 : decode cX11_again 14 = .ok (.aload_n 0, 1) := by decide +kernel
theorem dX11_again_15 : decode cX11_again 15 = .ok (.getfield 82, 3) := by decide +kernel
theorem dX11_again_18 : decode cX11_again 18 = .ok (.iload_n 1, 1) := by decide +kernel
theorem dX11_again_19 : decode cX11_again 19 = .ok (.baload, 1) := by decide +kernel
theorem dX11_again_20 : decode cX11_again 20 = .ok (.ifCond .eq 16, 3) := by decide +kernel
theorem dX11_again_23 : decode cX11_again 23 = .ok (.aload_n 0, 1) := by decide +kernel
theorem dX11_again_24 : decode cX11_again 24 = .ok (.getfield 86, 3) := by decide +kernel
theorem dX11_again_27 : decode cX11_again 27 = .ok (.iload_n 1, 1) := by decide +kernel
theorem dX11_again_28 : decode cX11_again 28 = .ok (.iaload, 1) := by decide +kernel
theorem dX11_again_29 : decode cX11_again 29 = .ok (.aload_n 0, 1) := by decide +kernel
theorem dX11_again_30 : decode cX11_again 30 = .ok (.getfield 182, 3) := by decide +kernel
theorem dX11_again_33 : decode cX11_again 33 = .ok (.if_icmp .eq 5, 3) := by decide +kernel
theorem dX11_again_36 : decode cX11_again 36 = .ok (.iconst 0, 1) := by decide +kernel
theorem dX11_again_37 : decode cX11_again 37 = .ok (.ireturn, 1) := by decide +kernel
theorem dX11_again_38 : decode cX11_again 38 = .ok (.iconst 0, 1) := by decide +kernel
theorem dX11_again_39 : decode cX11_again 39 = .ok (.istore_n 2, 1) := by decide +kernel
theorem dX11_again_40 : decode cX11_again 40 = .ok (.iload_n 2, 1) := by decide +kernel
theorem dX11_again_41 : decode cX11_again 41 = .ok (.sipush 334, 3) := by decide +kernel
theorem dX11_again_44 : decode cX11_again 44 = .ok (.if_icmp .ge 27, 3) := by decide +kernel
theorem dX11_again_47 : decode cX11_again 47 = .ok (.aload_n 0, 1) := by decide +kernel
theorem dX11_again_48 : decode cX11_again 48 = .ok (.getfield 9, 3) := by decide +kernel
theorem dX11_again_51 : decode cX11_again 51 = .ok (.iload_n 2, 1) := by decide +kernel
theorem dX11_again_52 : decode cX11_again 52 = .ok (.aload_n 0, 1) := by decide +kernel
theorem dX11_again_53 : decode cX11_again 53 = .ok (.getfield 79, 3) := by decide +kernel
theorem dX11_again_56 : decode cX11_again 56 = .ok (.sipush 334, 3) := by decide +kernel
theorem dX11_again_59 : decode cX11_again 59 = .ok (.iload_n 1, 1) := by decide +kernel
theorem dX11_again_60 : decode cX11_again 60 = .ok (.imul, 1) := by decide +kernel
theorem dX11_again_61 : decode cX11_again 61 = .ok (.iload_n 2, 1) := by decide +kernel
theorem dX11_again_62 : decode cX11_again 62 = .ok (.iadd, 1) := by decide +kernel
theorem dX11_again_63 : decode cX11_again 63 = .ok (.iaload, 1) := by decide +kernel
theorem dX11_again_64 : decode cX11_again 64 = .ok (.iastore, 1) := by decide +kernel
theorem dX11_again_65 : decode cX11_again 65 = .ok (.iinc 2 1, 3) := by decide +kernel
theorem dX11_again_68 : decode cX11_again 68 = .ok (.goto (-28), 3) := by decide +kernel
theorem dX11_again_71 : decode cX11_again 71 = .ok (.aload_n 0, 1) := by decide +kernel
theorem dX11_again_72 : decode cX11_again 72 = .ok (.iconst 0, 1) := by decide +kernel
theorem dX11_again_73 : decode cX11_again 73 = .ok (.putfield 168, 3) := by decide +kernel
theorem dX11_again_76 : decode cX11_again 76 = .ok (.iconst 1, 1) := by decide +kernel
theorem dX11_again_77 : decode cX11_again 77 = .ok (.ireturn, 1) := by decide +kernel
theorem dX11_count_0 : decode cX11_count 0 = .ok (.aload_n 0, 1) := by decide +kernel
theorem dX11_count_1 : decode cX11_count 1 = .ok (.iconst 0, 1) := by decide +kernel
theorem dX11_count_2 : decode cX11_count 2 = .ok (.putfield 89, 3) := by decide +kernel
theorem dX11_count_5 : decode cX11_count 5 = .ok (.iconst 0, 1) := by decide +kernel
theorem dX11_count_6 : decode cX11_count 6 = .ok (.istore_n 2, 1) := by decide +kernel
theorem dX11_count_7 : decode cX11_count 7 = .ok (.iload_n 1, 1) := by decide +kernel
theorem dX11_count_8 : decode cX11_count 8 = .ok (.tableswitch 191 0 12 #[68, 73, 78, 83, 92, 97, 130, 139, 144, 149, 176, 181, 186], 68) := by decide +kernel
theorem dX11_count_76 : decode cX11_count 76 = .ok (.aload_n 0, 1) := by decide +kernel
theorem dX11_count_77 : decode cX11_count 77 = .ok (.getfield 99, 3) := by decide +kernel
theorem dX11_count_80 : decode cX11_count 80 = .ok (.ireturn, 1) := by decide +kernel
theorem dX11_count_81 : decode cX11_count 81 = .ok (.aload_n 0, 1) := by decide +kernel
theorem dX11_count_82 : decode cX11_count 82 = .ok (.getfield 102, 3) := by decide +kernel
theorem dX11_count_85 : decode cX11_count 85 = .ok (.ireturn, 1) := by decide +kernel
theorem dX11_count_86 : decode cX11_count 86 = .ok (.aload_n 0, 1) := by decide +kernel
theorem dX11_count_87 : decode cX11_count 87 = .ok (.getfield 154, 3) := by decide +kernel
theorem dX11_count_90 : decode cX11_count 90 = .ok (.ireturn, 1) := by decide +kernel
theorem dX11_count_91 : decode cX11_count 91 = .ok (.aload_n 0, 1) := by decide +kernel
theorem dX11_count_92 : decode cX11_count 92 = .ok (.getfield 9, 3) := by decide +kernel
theorem dX11_count_95 : decode cX11_count 95 = .ok (.sipush 332, 3) := by decide +kernel
theorem dX11_count_98 : decode cX11_count 98 = .ok (.iaload, 1) := by decide +kernel
theorem dX11_count_99 : decode cX11_count 99 = .ok (.ireturn, 1) := by decide +kernel
theorem dX11_count_100 : decode cX11_count 100 = .ok (.aload_n 0, 1) := by decide +kernel
theorem dX11_count_101 : decode cX11_count 101 = .ok (.getfield 105, 3) := by decide +kernel
theorem dX11_count_104 : decode cX11_count 104 = .ok (.ireturn, 1) := by decide +kernel
theorem dX11_count_105 : decode cX11_count 105 = .ok (.iconst 0, 1) := by decide +kernel
theorem dX11_count_106 : decode cX11_count 106 = .ok (.istore_n 3, 1) := by decide +kernel
theorem dX11_count_107 : decode cX11_count 107 = .ok (.iload_n 3, 1) := by decide +kernel
theorem dX11_count_108 : decode cX11_count 108 = .ok (.aload_n 0, 1) := by decide +kernel
theorem dX11_count_109 : decode cX11_count 109 = .ok (.getfield 105, 3) := by decide +kernel
theorem dX11_count_112 : decode cX11_count 112 = .ok (.if_icmp .ge 24, 3) := by decide +kernel
theorem dX11_count_115 : decode cX11_count 115 = .ok (.iload_n 2, 1) := by decide +kernel
theorem dX11_count_116 : decode cX11_count 116 = .ok (.aload_n 0, 1) := by decide +kernel
theorem dX11_count_117 : decode cX11_count 117 = .ok (.getfield 9, 3) := by decide +kernel
theorem dX11_count_120 : decode cX11_count 120 = .ok (.sipush 326, 3) := by decide +kernel
theorem dX11_count_123 : decode cX11_count 123 = .ok (.iload_n 3, 1) := by decide +kernel
theorem dX11_count_124 : decode cX11_count 124 = .ok (.iadd, 1) := by decide +kernel
theorem dX11_count_125 : decode cX11_count 125 = .ok (.iaload, 1) := by decide +kernel
theorem dX11_count_126 : decode cX11_count 126 = .ok (.iload_n 3, 1) := by decide +kernel
theorem dX11_count_127 : decode cX11_count 127 = .ok (.ishl, 1) := by decide +kernel
theorem dX11_count_128 : decode cX11_count 128 = .ok (.ior, 1) := by decide +kernel
theorem dX11_count_129 : decode cX11_count 129 = .ok (.istore_n 2, 1) := by decide +kernel
theorem dX11_count_130 : decode cX11_count 130 = .ok (.iinc 3 1, 3) := by decide +kernel
theorem dX11_count_133 : decode cX11_count 133 = .ok (.goto (-26), 3) := by decide +kernel
theorem dX11_count_136 : decode cX11_count 136 = .ok (.iload_n 2, 1) := by decide +kernel
theorem dX11_count_137 : decode cX11_count 137 = .ok (.ireturn, 1) := by decide +kernel
theorem dX11_count_138 : decode cX11_count 138 = .ok (.aload_n 0, 1) := by decide +kernel
theorem dX11_count_139 : decode cX11_count 139 = .ok (.getfield 9, 3) := by decide +kernel
theorem dX11_count_142 : decode cX11_count 142 = .ok (.sipush 333, 3) := by decide +kernel
theorem dX11_count_145 : decode cX11_count 145 = .ok (.iaload, 1) := by decide +kernel
theorem dX11_count_146 : decode cX11_count 146 = .ok (.ireturn, 1) := by decide +kernel
theorem dX11_count_147 : decode cX11_count 147 = .ok (.aload_n 0, 1) := by decide +kernel
theorem dX11_count_148 : decode cX11_count 148 = .ok (.getfield 25, 3) := by decide +kernel
theorem dX11_count_151 : decode cX11_count 151 = .ok (.ireturn, 1) := by decide +kernel
theorem dX11_count_152 : decode cX11_count 152 = .ok (.aload_n 0, 1) := by decide +kernel
theorem dX11_count_153 : decode cX11_count 153 = .ok (.getfield 29, 3) := by decide +kernel
theorem dX11_count_156 : decode cX11_count 156 = .ok (.ireturn, 1) := by decide +kernel
theorem dX11_count_157 : decode cX11_count 157 = .ok (.iconst 0, 1) := by decide +kernel
theorem dX11_count_158 : decode cX11_count 158 = .ok (.istore_n 3, 1) := by decide +kernel
theorem dX11_count_159 : decode cX11_count 159 = .ok (.iload_n 3, 1) := by decide +kernel
theorem dX11_count_160 : decode cX11_count 160 = .ok (.bipush 64, 2) := by decide +kernel
theorem dX11_count_162 : decode cX11_count 162 = .ok (.if_icmp .ge 20, 3) := by decide +kernel
theorem dX11_count_165 : decode cX11_count 165 = .ok (.iload_n 2, 1) := by decide +kernel
theorem dX11_count_166 : decode cX11_count 166 = .ok (.aload_n 0, 1) := by decide +kernel
theorem dX11_count_167 : decode cX11_count 167 = .ok (.getfield 9, 3) := by decide +kernel
theorem dX11_count_170 : decode cX11_count 170 = .ok (.iconst 0, 1) := by decide +kernel
theorem dX11_count_171 : decode cX11_count 171 = .ok (.iload_n 3, 1) := by decide +kernel
theorem dX11_count_172 : decode cX11_count 172 = .ok (.iadd, 1) := by decide +kernel
theorem dX11_count_173 : decode cX11_count 173 = .ok (.iaload, 1) := by decide +kernel
theorem dX11_count_174 : decode cX11_count 174 = .ok (.iadd, 1) := by decide +kernel
theorem dX11_count_175 : decode cX11_count 175 = .ok (.istore_n 2, 1) := by decide +kernel
theorem dX11_count_176 : decode cX11_count 176 = .ok (.iinc 3 1, 3) := by decide +kernel
theorem dX11_count_179 : decode cX11_count 179 = .ok (.goto (-20), 3) := by decide +kernel
theorem dX11_count_182 : decode cX11_count 182 = .ok (.iload_n 2, 1) := by decide +kernel
theorem dX11_count_183 : decode cX11_count 183 = .ok (.ireturn, 1) := by decide +kernel
theorem dX11_count_184 : decode cX11_count 184 = .ok (.aload_n 0, 1) := by decide +kernel
theorem dX11_count_185 : decode cX11_count 185 = .ok (.getfield 168, 3) := by decide +kernel
theorem dX11_count_188 : decode cX11_count 188 = .ok (.ireturn, 1) := by decide +kernel
theorem dX11_count_189 : decode cX11_count 189 = .ok (.aload_n 0, 1) := by decide +kernel
theorem dX11_count_190 : decode cX11_count 190 = .ok (.getfield 92, 3) := by decide +kernel
theorem dX11_count_193 : decode cX11_count 193 = .ok (.ireturn, 1) := by decide +kernel
theorem dX11_count_194 : decode cX11_count 194 = .ok (.aload_n 0, 1) := by decide +kernel
theorem dX11_count_195 : decode cX11_count 195 = .ok (.getfield 108, 3) := by decide +kernel
theorem dX11_count_198 : decode cX11_count 198 = .ok (.ireturn, 1) := by decide +kernel
theorem dX11_count_199 : decode cX11_count 199 = .ok (.iconst (-1), 1) := by decide +kernel
theorem dX11_count_200 : decode cX11_count 200 = .ok (.ireturn, 1) := by decide +kernel
theorem dX11_row_0 : decode cX11_row 0 = .ok (.aload_n 0, 1) := by decide +kernel
theorem dX11_row_1 : decode cX11_row 1 = .ok (.iconst 0, 1) := by decide +kernel
theorem dX11_row_2 : decode cX11_row 2 = .ok (.putfield 89, 3) := by decide +kernel
theorem dX11_row_5 : decode cX11_row 5 = .ok (.iload_n 1, 1) := by decide +kernel
theorem dX11_row_6 : decode cX11_row 6 = .ok (.iconst 0, 1) := by decide +kernel
theorem dX11_row_7 : decode cX11_row 7 = .ok (.aload_n 0, 1) := by decide +kernel
theorem dX11_row_8 : decode cX11_row 8 = .ok (.getfield 92, 3) := by decide +kernel
theorem dX11_row_11 : decode cX11_row 11 = .ok (.iconst 1, 1) := by decide +kernel
theorem dX11_row_12 : decode cX11_row 12 = .ok (.isub, 1) := by decide +kernel
theorem dX11_row_13 : decode cX11_row 13 = .ok (.invokestatic 95, 3) := by decide +kernel
theorem dX11_row_16 : decode cX11_row 16 = .ok (.ifCond .eq 12, 3) := by decide +kernel
theorem dX11_row_19 : decode cX11_row 19 = .ok (.aload_n 0, 1) := by decide +kernel
theorem dX11_row_20 : decode cX11_row 20 = .ok (.getfield 36, 3) := by decide +kernel
theorem dX11_row_23 : decode cX11_row 23 = .ok (.iload_n 1, 1) := by decide +kernel
theorem dX11_row_24 : decode cX11_row 24 = .ok (.laload, 1) := by decide +kernel
theorem dX11_row_25 : decode cX11_row 25 = .ok (.goto 8, 3) := by decide +kernel
theorem dX11_row_28 : decode cX11_row 28 = .ok (.aload_n 0, 1) := by decide +kernel
theorem dX11_row_29 : decode cX11_row 29 = .ok (.invokevirtual 230, 3) := by decide +kernel
theorem dX11_row_32 : decode cX11_row 32 = .ok (.i2l, 1) := by decide +kernel
theorem dX11_row_33 : decode cX11_row 33 = .ok (.lreturn, 1) := by decide +kernel
theorem dJ11_isValidCodePoint_9a6ad_0 : decode cJ11_isValidCodePoint_9a6ad 0 = .ok (.iload_n 0, 1) := by decide +kernel
theorem dJ11_isValidCodePoint_9a6ad_1 : decode cJ11_isValidCodePoint_9a6ad 1 = .ok (.bipush 16, 2) := by decide +kernel
theorem dJ11_isValidCodePoint_9a6ad_3 : decode cJ11_isValidCodePoint_9a6ad 3 = .ok (.iushr, 1) := by decide +kernel
theorem dJ11_isValidCodePoint_9a6ad_4 : decode cJ11_isValidCodePoint_9a6ad 4 = .ok (.istore_n 1, 1) := by decide +kernel
theorem dJ11_isValidCodePoint_9a6ad_5 : decode cJ11_isValidCodePoint_9a6ad 5 = .ok (.iload_n 1, 1) := by decide +kernel
theorem dJ11_isValidCodePoint_9a6ad_6 : decode cJ11_isValidCodePoint_9a6ad 6 = .ok (.bipush 17, 2) := by decide +kernel
theorem dJ11_isValidCodePoint_9a6ad_8 : decode cJ11_isValidCodePoint_9a6ad 8 = .ok (.if_icmp .ge 7, 3) := by decide +kernel
theorem dJ11_isValidCodePoint_9a6ad_11 : decode cJ11_isValidCodePoint_9a6ad 11 = .ok (.iconst 1, 1) := by decide +kernel
theorem dJ11_isValidCodePoint_9a6ad_12 : decode cJ11_isValidCodePoint_9a6ad 12 = .ok (.goto 4, 3) := by decide +kernel
theorem dJ11_isValidCodePoint_9a6ad_15 : decode cJ11_isValidCodePoint_9a6ad 15 = .ok (.iconst 0, 1) := by decide +kernel
theorem dJ11_isValidCodePoint_9a6ad_16 : decode cJ11_isValidCodePoint_9a6ad 16 = .ok (.ireturn, 1) := by decide +kernel
theorem dJ11_highSurrogate_5068e_0 : decode cJ11_highSurrogate_5068e 0 = .ok (.iload_n 0, 1) := by decide +kernel
theorem dJ11_highSurrogate_5068e_1 : decode cJ11_highSurrogate_5068e 1 = .ok (.bipush 10, 2) := by decide +kernel
theorem dJ11_highSurrogate_5068e_3 : decode cJ11_highSurrogate_5068e 3 = .ok (.iushr, 1) := by decide +kernel
theorem dJ11_highSurrogate_5068e_4 : decode cJ11_highSurrogate_5068e 4 = .ok (.ldc 110, 2) := by decide +kernel
theorem dJ11_highSurrogate_5068e_6 : decode cJ11_highSurrogate_5068e 6 = .ok (.iadd, 1) := by decide +kernel
theorem dJ11_highSurrogate_5068e_7 : decode cJ11_highSurrogate_5068e 7 = .ok (.i2c, 1) := by decide +kernel
theorem dJ11_highSurrogate_5068e_8 : decode cJ11_highSurrogate_5068e 8 = .ok (.ireturn, 1) := by decide +kernel
theorem dJ11_lowSurrogate_5068e_0 : decode cJ11_lowSurrogate_5068e 0 = .ok (.iload_n 0, 1) := by decide +kernel
theorem dJ11_lowSurrogate_5068e_1 : decode cJ11_lowSurrogate_5068e 1 = .ok (.sipush 1023, 3) := by decide +kernel
theorem dJ11_lowSurrogate_5068e_4 : decode cJ11_lowSurrogate_5068e 4 = .ok (.iand, 1) := by decide +kernel
theorem dJ11_lowSurrogate_5068e_5 : decode cJ11_lowSurrogate_5068e 5 = .ok (.ldc 76, 2) := by decide +kernel
theorem dJ11_lowSurrogate_5068e_7 : decode cJ11_lowSurrogate_5068e 7 = .ok (.iadd, 1) := by decide +kernel
theorem dJ11_lowSurrogate_5068e_8 : decode cJ11_lowSurrogate_5068e 8 = .ok (.i2c, 1) := by decide +kernel
theorem dJ11_lowSurrogate_5068e_9 : decode cJ11_lowSurrogate_5068e 9 = .ok (.ireturn, 1) := by decide +kernel
theorem dJ6_numberOfTrailingZeros_0f7a4_0 : decode cJ6_numberOfTrailingZeros_0f7a4 0 = .ok (.iload_n 0, 1) := by decide +kernel
theorem dJ6_numberOfTrailingZeros_0f7a4_1 : decode cJ6_numberOfTrailingZeros_0f7a4 1 = .ok (.iconst (-1), 1) := by decide +kernel
theorem dJ6_numberOfTrailingZeros_0f7a4_2 : decode cJ6_numberOfTrailingZeros_0f7a4 2 = .ok (.ixor, 1) := by decide +kernel
theorem dJ6_numberOfTrailingZeros_0f7a4_3 : decode cJ6_numberOfTrailingZeros_0f7a4 3 = .ok (.iload_n 0, 1) := by decide +kernel
theorem dJ6_numberOfTrailingZeros_0f7a4_4 : decode cJ6_numberOfTrailingZeros_0f7a4 4 = .ok (.iconst 1, 1) := by decide +kernel
theorem dJ6_numberOfTrailingZeros_0f7a4_5 : decode cJ6_numberOfTrailingZeros_0f7a4 5 = .ok (.isub, 1) := by decide +kernel
theorem dJ6_numberOfTrailingZeros_0f7a4_6 : decode cJ6_numberOfTrailingZeros_0f7a4 6 = .ok (.iand, 1) := by decide +kernel
theorem dJ6_numberOfTrailingZeros_0f7a4_7 : decode cJ6_numberOfTrailingZeros_0f7a4 7 = .ok (.istore_n 0, 1) := by decide +kernel
theorem dJ6_numberOfTrailingZeros_0f7a4_8 : decode cJ6_numberOfTrailingZeros_0f7a4 8 = .ok (.iload_n 0, 1) := by decide +kernel
theorem dJ6_numberOfTrailingZeros_0f7a4_9 : decode cJ6_numberOfTrailingZeros_0f7a4 9 = .ok (.ifCond .gt 8, 3) := by decide +kernel
theorem dJ6_numberOfTrailingZeros_0f7a4_12 : decode cJ6_numberOfTrailingZeros_0f7a4 12 = .ok (.iload_n 0, 1) := by decide +kernel
theorem dJ6_numberOfTrailingZeros_0f7a4_13 : decode cJ6_numberOfTrailingZeros_0f7a4 13 = .ok (.bipush 32, 2) := by decide +kernel
theorem dJ6_numberOfTrailingZeros_0f7a4_15 : decode cJ6_numberOfTrailingZeros_0f7a4 15 = .ok (.iand, 1) := by decide +kernel
theorem dJ6_numberOfTrailingZeros_0f7a4_16 : decode cJ6_numberOfTrailingZeros_0f7a4 16 = .ok (.ireturn, 1) := by decide +kernel
theorem dJ6_numberOfTrailingZeros_0f7a4_17 : decode cJ6_numberOfTrailingZeros_0f7a4 17 = .ok (.iconst 1, 1) := by decide +kernel
theorem dJ6_numberOfTrailingZeros_0f7a4_18 : decode cJ6_numberOfTrailingZeros_0f7a4 18 = .ok (.istore_n 1, 1) := by decide +kernel
theorem dJ6_numberOfTrailingZeros_0f7a4_19 : decode cJ6_numberOfTrailingZeros_0f7a4 19 = .ok (.iload_n 0, 1) := by decide +kernel
theorem dJ6_numberOfTrailingZeros_0f7a4_20 : decode cJ6_numberOfTrailingZeros_0f7a4 20 = .ok (.ldc_w 264, 3) := by decide +kernel
theorem dJ6_numberOfTrailingZeros_0f7a4_23 : decode cJ6_numberOfTrailingZeros_0f7a4 23 = .ok (.if_icmp .le 11, 3) := by decide +kernel
theorem dJ6_numberOfTrailingZeros_0f7a4_26 : decode cJ6_numberOfTrailingZeros_0f7a4 26 = .ok (.iinc 1 16, 3) := by decide +kernel
theorem dJ6_numberOfTrailingZeros_0f7a4_29 : decode cJ6_numberOfTrailingZeros_0f7a4 29 = .ok (.iload_n 0, 1) := by decide +kernel
theorem dJ6_numberOfTrailingZeros_0f7a4_30 : decode cJ6_numberOfTrailingZeros_0f7a4 30 = .ok (.bipush 16, 2) := by decide +kernel
theorem dJ6_numberOfTrailingZeros_0f7a4_32 : decode cJ6_numberOfTrailingZeros_0f7a4 32 = .ok (.iushr, 1) := by decide +kernel
theorem dJ6_numberOfTrailingZeros_0f7a4_33 : decode cJ6_numberOfTrailingZeros_0f7a4 33 = .ok (.istore_n 0, 1) := by decide +kernel
theorem dJ6_numberOfTrailingZeros_0f7a4_34 : decode cJ6_numberOfTrailingZeros_0f7a4 34 = .ok (.iload_n 0, 1) := by decide +kernel
theorem dJ6_numberOfTrailingZeros_0f7a4_35 : decode cJ6_numberOfTrailingZeros_0f7a4 35 = .ok (.sipush 256, 3) := by decide +kernel
theorem dJ6_numberOfTrailingZeros_0f7a4_38 : decode cJ6_numberOfTrailingZeros_0f7a4 38 = .ok (.if_icmp .le 11, 3) := by decide +kernel
theorem dJ6_numberOfTrailingZeros_0f7a4_41 : decode cJ6_numberOfTrailingZeros_0f7a4 41 = .ok (.iinc 1 8, 3) := by decide +kernel
theorem dJ6_numberOfTrailingZeros_0f7a4_44 : decode cJ6_numberOfTrailingZeros_0f7a4 44 = .ok (.iload_n 0, 1) := by decide +kernel
theorem dJ6_numberOfTrailingZeros_0f7a4_45 : decode cJ6_numberOfTrailingZeros_0f7a4 45 = .ok (.bipush 8, 2) := by decide +kernel
theorem dJ6_numberOfTrailingZeros_0f7a4_47 : decode cJ6_numberOfTrailingZeros_0f7a4 47 = .ok (.iushr, 1) := by decide +kernel
theorem dJ6_numberOfTrailingZeros_0f7a4_48 : decode cJ6_numberOfTrailingZeros_0f7a4 48 = .ok (.istore_n 0, 1) := by decide +kernel
theorem dJ6_numberOfTrailingZeros_0f7a4_49 : decode cJ6_numberOfTrailingZeros_0f7a4 49 = .ok (.iload_n 0, 1) := by decide +kernel
theorem dJ6_numberOfTrailingZeros_0f7a4_50 : decode cJ6_numberOfTrailingZeros_0f7a4 50 = .ok (.bipush 16, 2) := by decide +kernel
theorem dJ6_numberOfTrailingZeros_0f7a4_52 : decode cJ6_numberOfTrailingZeros_0f7a4 52 = .ok (.if_icmp .le 10, 3) := by decide +kernel
theorem dJ6_numberOfTrailingZeros_0f7a4_55 : decode cJ6_numberOfTrailingZeros_0f7a4 55 = .ok (.iinc 1 4, 3) := by decide +kernel
theorem dJ6_numberOfTrailingZeros_0f7a4_58 : decode cJ6_numberOfTrailingZeros_0f7a4 58 = .ok (.iload_n 0, 1) := by decide +kernel
theorem dJ6_numberOfTrailingZeros_0f7a4_59 : decode cJ6_numberOfTrailingZeros_0f7a4 59 = .ok (.iconst 4, 1) := by decide +kernel
theorem dJ6_numberOfTrailingZeros_0f7a4_60 : decode cJ6_numberOfTrailingZeros_0f7a4 60 = .ok (.iushr, 1) := by decide +kernel
theorem dJ6_numberOfTrailingZeros_0f7a4_61 : decode cJ6_numberOfTrailingZeros_0f7a4 61 = .ok (.istore_n 0, 1) := by decide +kernel
theorem dJ6_numberOfTrailingZeros_0f7a4_62 : decode cJ6_numberOfTrailingZeros_0f7a4 62 = .ok (.iload_n 0, 1) := by decide +kernel
theorem dJ6_numberOfTrailingZeros_0f7a4_63 : decode cJ6_numberOfTrailingZeros_0f7a4 63 = .ok (.iconst 4, 1) := by decide +kernel
theorem dJ6_numberOfTrailingZeros_0f7a4_64 : decode cJ6_numberOfTrailingZeros_0f7a4 64 = .ok (.if_icmp .le 10, 3) := by decide +kernel
theorem dJ6_numberOfTrailingZeros_0f7a4_67 : decode cJ6_numberOfTrailingZeros_0f7a4 67 = .ok (.iinc 1 2, 3) := by decide +kernel
theorem dJ6_numberOfTrailingZeros_0f7a4_70 : decode cJ6_numberOfTrailingZeros_0f7a4 70 = .ok (.iload_n 0, 1) := by decide +kernel
theorem dJ6_numberOfTrailingZeros_0f7a4_71 : decode cJ6_numberOfTrailingZeros_0f7a4 71 = .ok (.iconst 2, 1) := by decide +kernel
theorem dJ6_numberOfTrailingZeros_0f7a4_72 : decode cJ6_numberOfTrailingZeros_0f7a4 72 = .ok (.iushr, 1) := by decide +kernel
theorem dJ6_numberOfTrailingZeros_0f7a4_73 : decode cJ6_numberOfTrailingZeros_0f7a4 73 = .ok (.istore_n 0, 1) := by decide +kernel
theorem dJ6_numberOfTrailingZeros_0f7a4_74 : decode cJ6_numberOfTrailingZeros_0f7a4 74 = .ok (.iload_n 1, 1) := by decide +kernel
theorem dJ6_numberOfTrailingZeros_0f7a4_75 : decode cJ6_numberOfTrailingZeros_0f7a4 75 = .ok (.iload_n 0, 1) := by decide +kernel
theorem dJ6_numberOfTrailingZeros_0f7a4_76 : decode cJ6_numberOfTrailingZeros_0f7a4 76 = .ok (.iconst 1, 1) := by decide +kernel
theorem dJ6_numberOfTrailingZeros_0f7a4_77 : decode cJ6_numberOfTrailingZeros_0f7a4 77 = .ok (.iushr, 1) := by decide +kernel
theorem dJ6_numberOfTrailingZeros_0f7a4_78 : decode cJ6_numberOfTrailingZeros_0f7a4 78 = .ok (.iadd, 1) := by decide +kernel
theorem dJ6_numberOfTrailingZeros_0f7a4_79 : decode cJ6_numberOfTrailingZeros_0f7a4 79 = .ok (.ireturn, 1) := by decide +kernel
theorem dJ6_bitCount_0f7a4_0 : decode cJ6_bitCount_0f7a4 0 = .ok (.iload_n 0, 1) := by decide +kernel
theorem dJ6_bitCount_0f7a4_1 : decode cJ6_bitCount_0f7a4 1 = .ok (.iload_n 0, 1) := by decide +kernel
theorem dJ6_bitCount_0f7a4_2 : decode cJ6_bitCount_0f7a4 2 = .ok (.iconst 1, 1) := by decide +kernel
theorem dJ6_bitCount_0f7a4_3 : decode cJ6_bitCount_0f7a4 3 = .ok (.iushr, 1) := by decide +kernel
theorem dJ6_bitCount_0f7a4_4 : decode cJ6_bitCount_0f7a4 4 = .ok (.ldc_w 265, 3) := by decide +kernel
theorem dJ6_bitCount_0f7a4_7 : decode cJ6_bitCount_0f7a4 7 = .ok (.iand, 1) := by decide +kernel
theorem dJ6_bitCount_0f7a4_8 : decode cJ6_bitCount_0f7a4 8 = .ok (.isub, 1) := by decide +kernel
theorem dJ6_bitCount_0f7a4_9 : decode cJ6_bitCount_0f7a4 9 = .ok (.istore_n 0, 1) := by decide +kernel
theorem dJ6_bitCount_0f7a4_10 : decode cJ6_bitCount_0f7a4 10 = .ok (.iload_n 0, 1) := by decide +kernel
theorem dJ6_bitCount_0f7a4_11 : decode cJ6_bitCount_0f7a4 11 = .ok (.ldc_w 266, 3) := by decide +kernel
theorem dJ6_bitCount_0f7a4_14 : decode cJ6_bitCount_0f7a4 14 = .ok (.iand, 1) := by decide +kernel
theorem dJ6_bitCount_0f7a4_15 : decode cJ6_bitCount_0f7a4 15 = .ok (.iload_n 0, 1) := by decide +kernel
theorem dJ6_bitCount_0f7a4_16 : decode cJ6_bitCount_0f7a4 16 = .ok (.iconst 2, 1) := by decide +kernel
theorem dJ6_bitCount_0f7a4_17 : decode cJ6_bitCount_0f7a4 17 = .ok (.iushr, 1) := by decide +kernel
theorem dJ6_bitCount_0f7a4_18 : decode cJ6_bitCount_0f7a4 18 = .ok (.ldc_w 266, 3) := by decide +kernel
theorem dJ6_bitCount_0f7a4_21 : decode cJ6_bitCount_0f7a4 21 = .ok (.iand, 1) := by decide +kernel
theorem dJ6_bitCount_0f7a4_22 : decode cJ6_bitCount_0f7a4 22 = .ok (.iadd, 1) := by decide +kernel
theorem dJ6_bitCount_0f7a4_23 : decode cJ6_bitCount_0f7a4 23 = .ok (.istore_n 0, 1) := by decide +kernel
theorem dJ6_bitCount_0f7a4_24 : decode cJ6_bitCount_0f7a4 24 = .ok (.iload_n 0, 1) := by decide +kernel
theorem dJ6_bitCount_0f7a4_25 : decode cJ6_bitCount_0f7a4 25 = .ok (.iload_n 0, 1) := by decide +kernel
theorem dJ6_bitCount_0f7a4_26 : decode cJ6_bitCount_0f7a4 26 = .ok (.iconst 4, 1) := by decide +kernel
theorem dJ6_bitCount_0f7a4_27 : decode cJ6_bitCount_0f7a4 27 = .ok (.iushr, 1) := by decide +kernel
theorem dJ6_bitCount_0f7a4_28 : decode cJ6_bitCount_0f7a4 28 = .ok (.iadd, 1) := by decide +kernel
theorem dJ6_bitCount_0f7a4_29 : decode cJ6_bitCount_0f7a4 29 = .ok (.ldc_w 267, 3) := by decide +kernel
theorem dJ6_bitCount_0f7a4_32 : decode cJ6_bitCount_0f7a4 32 = .ok (.iand, 1) := by decide +kernel
theorem dJ6_bitCount_0f7a4_33 : decode cJ6_bitCount_0f7a4 33 = .ok (.istore_n 0, 1) := by decide +kernel
theorem dJ6_bitCount_0f7a4_34 : decode cJ6_bitCount_0f7a4 34 = .ok (.iload_n 0, 1) := by decide +kernel
theorem dJ6_bitCount_0f7a4_35 : decode cJ6_bitCount_0f7a4 35 = .ok (.iload_n 0, 1) := by decide +kernel
theorem dJ6_bitCount_0f7a4_36 : decode cJ6_bitCount_0f7a4 36 = .ok (.bipush 8, 2) := by decide +kernel
theorem dJ6_bitCount_0f7a4_38 : decode cJ6_bitCount_0f7a4 38 = .ok (.iushr, 1) := by decide +kernel
theorem dJ6_bitCount_0f7a4_39 : decode cJ6_bitCount_0f7a4 39 = .ok (.iadd, 1) := by decide +kernel
theorem dJ6_bitCount_0f7a4_40 : decode cJ6_bitCount_0f7a4 40 = .ok (.istore_n 0, 1) := by decide +kernel
theorem dJ6_bitCount_0f7a4_41 : decode cJ6_bitCount_0f7a4 41 = .ok (.iload_n 0, 1) := by decide +kernel
theorem dJ6_bitCount_0f7a4_42 : decode cJ6_bitCount_0f7a4 42 = .ok (.iload_n 0, 1) := by decide +kernel
theorem dJ6_bitCount_0f7a4_43 : decode cJ6_bitCount_0f7a4 43 = .ok (.bipush 16, 2) := by decide +kernel
theorem dJ6_bitCount_0f7a4_45 : decode cJ6_bitCount_0f7a4 45 = .ok (.iushr, 1) := by decide +kernel
theorem dJ6_bitCount_0f7a4_46 : decode cJ6_bitCount_0f7a4 46 = .ok (.iadd, 1) := by decide +kernel
theorem dJ6_bitCount_0f7a4_47 : decode cJ6_bitCount_0f7a4 47 = .ok (.istore_n 0, 1) := by decide +kernel
theorem dJ6_bitCount_0f7a4_48 : decode cJ6_bitCount_0f7a4 48 = .ok (.iload_n 0, 1) := by decide +kernel
theorem dJ6_bitCount_0f7a4_49 : decode cJ6_bitCount_0f7a4 49 = .ok (.bipush 63, 2) := by decide +kernel
theorem dJ6_bitCount_0f7a4_51 : decode cJ6_bitCount_0f7a4 51 = .ok (.iand, 1) := by decide +kernel
theorem dJ6_bitCount_0f7a4_52 : decode cJ6_bitCount_0f7a4 52 = .ok (.ireturn, 1) := by decide +kernel
theorem dJ13_numberOfTrailingZeros_95d88_0 : decode cJ13_numberOfTrailingZeros_95d88 0 = .ok (.lload_n 0, 1) := by decide +kernel
theorem dJ13_numberOfTrailingZeros_95d88_1 : decode cJ13_numberOfTrailingZeros_95d88 1 = .ok (.l2i, 1) := by decide +kernel
theorem dJ13_numberOfTrailingZeros_95d88_2 : decode cJ13_numberOfTrailingZeros_95d88 2 = .ok (.istore_n 2, 1) := by decide +kernel
theorem dJ13_numberOfTrailingZeros_95d88_3 : decode cJ13_numberOfTrailingZeros_95d88 3 = .ok (.iload_n 2, 1) := by decide +kernel
theorem dJ13_numberOfTrailingZeros_95d88_4 : decode cJ13_numberOfTrailingZeros_95d88 4 = .ok (.ifCond .ne 17, 3) := by decide +kernel
theorem dJ13_numberOfTrailingZeros_95d88_7 : decode cJ13_numberOfTrailingZeros_95d88 7 = .ok (.bipush 32, 2) := by decide +kernel
theorem dJ13_numberOfTrailingZeros_95d88_9 : decode cJ13_numberOfTrailingZeros_95d88 9 = .ok (.lload_n 0, 1) := by decide +kernel
theorem dJ13_numberOfTrailingZeros_95d88_10 : decode cJ13_numberOfTrailingZeros_95d88 10 = .ok (.bipush 32, 2) := by decide +kernel
theorem dJ13_numberOfTrailingZeros_95d88_12 : decode cJ13_numberOfTrailingZeros_95d88 12 = .ok (.lushr, 1) := by decide +kernel
theorem dJ13_numberOfTrailingZeros_95d88_13 : decode cJ13_numberOfTrailingZeros_95d88 13 = .ok (.l2i, 1) := by decide +kernel
theorem dJ13_numberOfTrailingZeros_95d88_14 : decode cJ13_numberOfTrailingZeros_95d88 14 = .ok (.invokestatic 311, 3) := by decide +kernel
theorem dJ13_numberOfTrailingZeros_95d88_17 : decode cJ13_numberOfTrailingZeros_95d88 17 = .ok (.iadd, 1) := by decide +kernel
theorem dJ13_numberOfTrailingZeros_95d88_18 : decode cJ13_numberOfTrailingZeros_95d88 18 = .ok (.goto 7, 3) := by decide +kernel
theorem dJ13_numberOfTrailingZeros_95d88_21 : decode cJ13_numberOfTrailingZeros_95d88 21 = .ok (.iload_n 2, 1) := by decide +kernel
theorem dJ13_numberOfTrailingZeros_95d88_22 : decode cJ13_numberOfTrailingZeros_95d88 22 = .ok (.invokestatic 311, 3) := by decide +kernel
theorem dJ13_numberOfTrailingZeros_95d88_25 : decode cJ13_numberOfTrailingZeros_95d88 25 = .ok (.ireturn, 1) := by decide +kernel
theorem dJ13_bitCount_95d88_0 : decode cJ13_bitCount_95d88 0 = .ok (.lload_n 0, 1) := by decide +kernel
theorem dJ13_bitCount_95d88_1 : decode cJ13_bitCount_95d88 1 = .ok (.lload_n 0, 1) := by decide +kernel
theorem dJ13_bitCount_95d88_2 : decode cJ13_bitCount_95d88 2 = .ok (.iconst 1, 1) := by decide +kernel
theorem dJ13_bitCount_95d88_3 : decode cJ13_bitCount_95d88 3 = .ok (.lushr, 1) := by decide +kernel
theorem dJ13_bitCount_95d88_4 : decode cJ13_bitCount_95d88 4 = .ok (.ldc2_w 314, 3) := by decide +kernel
theorem dJ13_bitCount_95d88_7 : decode cJ13_bitCount_95d88 7 = .ok (.land, 1) := by decide +kernel
theorem dJ13_bitCount_95d88_8 : decode cJ13_bitCount_95d88 8 = .ok (.lsub, 1) := by decide +kernel
theorem dJ13_bitCount_95d88_9 : decode cJ13_bitCount_95d88 9 = .ok (.lstore_n 0, 1) := by decide +kernel
theorem dJ13_bitCount_95d88_10 : decode cJ13_bitCount_95d88 10 = .ok (.lload_n 0, 1) := by decide +kernel
theorem dJ13_bitCount_95d88_11 : decode cJ13_bitCount_95d88 11 = .ok (.ldc2_w 316, 3) := by decide +kernel
theorem dJ13_bitCount_95d88_14 : decode cJ13_bitCount_95d88 14 = .ok (.land, 1) := by decide +kernel
theorem dJ13_bitCount_95d88_15 : decode cJ13_bitCount_95d88 15 = .ok (.lload_n 0, 1) := by decide +kernel
theorem dJ13_bitCount_95d88_16 : decode cJ13_bitCount_95d88 16 = .ok (.iconst 2, 1) := by decide +kernel
theorem dJ13_bitCount_95d88_17 : decode cJ13_bitCount_95d88 17 = .ok (.lushr, 1) := by decide +kernel
theorem dJ13_bitCount_95d88_18 : decode cJ13_bitCount_95d88 18 = .ok (.ldc2_w 316, 3) := by decide +kernel
theorem dJ13_bitCount_95d88_21 : decode cJ13_bitCount_95d88 21 = .ok (.land, 1) := by decide +kernel
theorem dJ13_bitCount_95d88_22 : decode cJ13_bitCount_95d88 22 = .ok (.ladd, 1) := by decide +kernel
theorem dJ13_bitCount_95d88_23 : decode cJ13_bitCount_95d88 23 = .ok (.lstore_n 0, 1) := by decide +kernel
theorem dJ13_bitCount_95d88_24 : decode cJ13_bitCount_95d88 24 = .ok (.lload_n 0, 1) := by decide +kernel
theorem dJ13_bitCount_95d88_25 : decode cJ13_bitCount_95d88 25 = .ok (.lload_n 0, 1) := by decide +kernel
theorem dJ13_bitCount_95d88_26 : decode cJ13_bitCount_95d88 26 = .ok (.iconst 4, 1) := by decide +kernel
theorem dJ13_bitCount_95d88_27 : decode cJ13_bitCount_95d88 27 = .ok (.lushr, 1) := by decide +kernel
theorem dJ13_bitCount_95d88_28 : decode cJ13_bitCount_95d88 28 = .ok (.ladd, 1) := by decide +kernel
theorem dJ13_bitCount_95d88_29 : decode cJ13_bitCount_95d88 29 = .ok (.ldc2_w 318, 3) := by decide +kernel
theorem dJ13_bitCount_95d88_32 : decode cJ13_bitCount_95d88 32 = .ok (.land, 1) := by decide +kernel
theorem dJ13_bitCount_95d88_33 : decode cJ13_bitCount_95d88 33 = .ok (.lstore_n 0, 1) := by decide +kernel
theorem dJ13_bitCount_95d88_34 : decode cJ13_bitCount_95d88 34 = .ok (.lload_n 0, 1) := by decide +kernel
theorem dJ13_bitCount_95d88_35 : decode cJ13_bitCount_95d88 35 = .ok (.lload_n 0, 1) := by decide +kernel
theorem dJ13_bitCount_95d88_36 : decode cJ13_bitCount_95d88 36 = .ok (.bipush 8, 2) := by decide +kernel
theorem dJ13_bitCount_95d88_38 : decode cJ13_bitCount_95d88 38 = .ok (.lushr, 1) := by decide +kernel
theorem dJ13_bitCount_95d88_39 : decode cJ13_bitCount_95d88 39 = .ok (.ladd, 1) := by decide +kernel
theorem dJ13_bitCount_95d88_40 : decode cJ13_bitCount_95d88 40 = .ok (.lstore_n 0, 1) := by decide +kernel
theorem dJ13_bitCount_95d88_41 : decode cJ13_bitCount_95d88 41 = .ok (.lload_n 0, 1) := by decide +kernel
theorem dJ13_bitCount_95d88_42 : decode cJ13_bitCount_95d88 42 = .ok (.lload_n 0, 1) := by decide +kernel
theorem dJ13_bitCount_95d88_43 : decode cJ13_bitCount_95d88 43 = .ok (.bipush 16, 2) := by decide +kernel
theorem dJ13_bitCount_95d88_45 : decode cJ13_bitCount_95d88 45 = .ok (.lushr, 1) := by decide +kernel
theorem dJ13_bitCount_95d88_46 : decode cJ13_bitCount_95d88 46 = .ok (.ladd, 1) := by decide +kernel
theorem dJ13_bitCount_95d88_47 : decode cJ13_bitCount_95d88 47 = .ok (.lstore_n 0, 1) := by decide +kernel
theorem dJ13_bitCount_95d88_48 : decode cJ13_bitCount_95d88 48 = .ok (.lload_n 0, 1) := by decide +kernel
theorem dJ13_bitCount_95d88_49 : decode cJ13_bitCount_95d88 49 = .ok (.lload_n 0, 1) := by decide +kernel
theorem dJ13_bitCount_95d88_50 : decode cJ13_bitCount_95d88 50 = .ok (.bipush 32, 2) := by decide +kernel
theorem dJ13_bitCount_95d88_52 : decode cJ13_bitCount_95d88 52 = .ok (.lushr, 1) := by decide +kernel
theorem dJ13_bitCount_95d88_53 : decode cJ13_bitCount_95d88 53 = .ok (.ladd, 1) := by decide +kernel
theorem dJ13_bitCount_95d88_54 : decode cJ13_bitCount_95d88 54 = .ok (.lstore_n 0, 1) := by decide +kernel
theorem dJ13_bitCount_95d88_55 : decode cJ13_bitCount_95d88 55 = .ok (.lload_n 0, 1) := by decide +kernel
theorem dJ13_bitCount_95d88_56 : decode cJ13_bitCount_95d88 56 = .ok (.l2i, 1) := by decide +kernel
theorem dJ13_bitCount_95d88_57 : decode cJ13_bitCount_95d88 57 = .ok (.bipush 127, 2) := by decide +kernel
theorem dJ13_bitCount_95d88_59 : decode cJ13_bitCount_95d88 59 = .ok (.iand, 1) := by decide +kernel
theorem dJ13_bitCount_95d88_60 : decode cJ13_bitCount_95d88 60 = .ok (.ireturn, 1) := by decide +kernel
theorem dJ9_max_7cf53_0 : decode cJ9_max_7cf53 0 = .ok (.iload_n 0, 1) := by decide +kernel
theorem dJ9_max_7cf53_1 : decode cJ9_max_7cf53 1 = .ok (.iload_n 1, 1) := by decide +kernel
theorem dJ9_max_7cf53_2 : decode cJ9_max_7cf53 2 = .ok (.if_icmp .lt 7, 3) := by decide +kernel
theorem dJ9_max_7cf53_5 : decode cJ9_max_7cf53 5 = .ok (.iload_n 0, 1) := by decide +kernel
theorem dJ9_max_7cf53_6 : decode cJ9_max_7cf53 6 = .ok (.goto 4, 3) := by decide +kernel
theorem dJ9_max_7cf53_9 : decode cJ9_max_7cf53 9 = .ok (.iload_n 1, 1) := by decide +kernel
theorem dJ9_max_7cf53_10 : decode cJ9_max_7cf53 10 = .ok (.ireturn, 1) := by decide +kernel
theorem dJ9_min_7cf53_0 : decode cJ9_min_7cf53 0 = .ok (.iload_n 0, 1) := by decide +kernel
theorem dJ9_min_7cf53_1 : decode cJ9_min_7cf53 1 = .ok (.iload_n 1, 1) := by decide +kernel
theorem dJ9_min_7cf53_2 : decode cJ9_min_7cf53 2 = .ok (.if_icmp .gt 7, 3) := by decide +kernel
theorem dJ9_min_7cf53_5 : decode cJ9_min_7cf53 5 = .ok (.iload_n 0, 1) := by decide +kernel
theorem dJ9_min_7cf53_6 : decode cJ9_min_7cf53 6 = .ok (.goto 4, 3) := by decide +kernel
theorem dJ9_min_7cf53_9 : decode cJ9_min_7cf53 9 = .ok (.iload_n 1, 1) := by decide +kernel
theorem dJ9_min_7cf53_10 : decode cJ9_min_7cf53 10 = .ok (.ireturn, 1) := by decide +kernel
theorem dJ9_min_f86c9_0 : decode cJ9_min_f86c9 0 = .ok (.lload_n 0, 1) := by decide +kernel
theorem dJ9_min_f86c9_1 : decode cJ9_min_f86c9 1 = .ok (.lload_n 2, 1) := by decide +kernel
theorem dJ9_min_f86c9_2 : decode cJ9_min_f86c9 2 = .ok (.lcmp, 1) := by decide +kernel
theorem dJ9_min_f86c9_3 : decode cJ9_min_f86c9 3 = .ok (.ifCond .gt 7, 3) := by decide +kernel
theorem dJ9_min_f86c9_6 : decode cJ9_min_f86c9 6 = .ok (.lload_n 0, 1) := by decide +kernel
theorem dJ9_min_f86c9_7 : decode cJ9_min_f86c9 7 = .ok (.goto 4, 3) := by decide +kernel
theorem dJ9_min_f86c9_10 : decode cJ9_min_f86c9 10 = .ok (.lload_n 2, 1) := by decide +kernel
theorem dJ9_min_f86c9_11 : decode cJ9_min_f86c9 11 = .ok (.lreturn, 1) := by decide +kernel
theorem dJ0_length_8abf5_0 : decode cJ0_length_8abf5 0 = .ok (.aload_n 0, 1) := by decide +kernel
theorem dJ0_length_8abf5_1 : decode cJ0_length_8abf5 1 = .ok (.getfield 9, 3) := by decide +kernel
theorem dJ0_length_8abf5_4 : decode cJ0_length_8abf5 4 = .ok (.arraylength, 1) := by decide +kernel
theorem dJ0_length_8abf5_5 : decode cJ0_length_8abf5 5 = .ok (.aload_n 0, 1) := by decide +kernel
theorem dJ0_length_8abf5_6 : decode cJ0_length_8abf5 6 = .ok (.invokevirtual 335, 3) := by decide +kernel
theorem dJ0_length_8abf5_9 : decode cJ0_length_8abf5 9 = .ok (.ishr, 1) := by decide +kernel
theorem dJ0_length_8abf5_10 : decode cJ0_length_8abf5 10 = .ok (.ireturn, 1) := by decide +kernel
theorem dJ0_charAt_5068e_0 : decode cJ0_charAt_5068e 0 = .ok (.aload_n 0, 1) := by decide +kernel
theorem dJ0_charAt_5068e_1 : decode cJ0_charAt_5068e 1 = .ok (.invokevirtual 492, 3) := by decide +kernel
theorem dJ0_charAt_5068e_4 : decode cJ0_charAt_5068e 4 = .ok (.ifCond .eq 12, 3) := by decide +kernel
theorem dJ0_charAt_5068e_7 : decode cJ0_charAt_5068e 7 = .ok (.aload_n 0, 1) := by decide +kernel
theorem dJ0_charAt_5068e_8 : decode cJ0_charAt_5068e 8 = .ok (.getfield 9, 3) := by decide +kernel
theorem dJ0_charAt_5068e_11 : decode cJ0_charAt_5068e 11 = .ok (.iload_n 1, 1) := by decide +kernel
theorem dJ0_charAt_5068e_12 : decode cJ0_charAt_5068e 12 = .ok (.invokestatic 495, 3) := by decide +kernel
theorem dJ0_charAt_5068e_15 : decode cJ0_charAt_5068e 15 = .ok (.ireturn, 1) := by decide +kernel
theorem dJ0_charAt_5068e_16 : decode cJ0_charAt_5068e 16 = .ok (.aload_n 0, 1) := by decide +kernel
theorem dJ0_charAt_5068e_17 : decode cJ0_charAt_5068e 17 = .ok (.getfield 9, 3) := by decide +kernel
theorem dJ0_charAt_5068e_20 : decode cJ0_charAt_5068e 20 = .ok (.iload_n 1, 1) := by decide +kernel
theorem dJ0_charAt_5068e_21 : decode cJ0_charAt_5068e 21 = .ok (.invokestatic 498, 3) := by decide +kernel
theorem dJ0_charAt_5068e_24 : decode cJ0_charAt_5068e 24 = .ok (.ireturn, 1) := by decide +kernel
theorem dJ0_indexOf_0f7a4_0 : decode cJ0_indexOf_0f7a4 0 = .ok (.aload_n 0, 1) := by decide +kernel
theorem dJ0_indexOf_0f7a4_1 : decode cJ0_indexOf_0f7a4 1 = .ok (.iload_n 1, 1) := by decide +kernel
theorem dJ0_indexOf_0f7a4_2 : decode cJ0_indexOf_0f7a4 2 = .ok (.iconst 0, 1) := by decide +kernel
theorem dJ0_indexOf_0f7a4_3 : decode cJ0_indexOf_0f7a4 3 = .ok (.invokevirtual 633, 3) := by decide +kernel
theorem dJ0_indexOf_0f7a4_6 : decode cJ0_indexOf_0f7a4 6 = .ok (.ireturn, 1) := by decide +kernel
