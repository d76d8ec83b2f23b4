theorem dX11_goHour_205 : decode cX11_goHour 205 = .ok (.iinc 3 1, 3) := by decide +kernel
theorem dX11_goHour_208 : decode cX11_goHour 208 = .ok (.goto (-52), 3) := by decide +kernel
theorem dX11_goHour_211 : decode cX11_goHour 211 = .ok (.iload_n 2, 1) := by decide +kernel
theorem dX11_goHour_212 : decode cX11_goHour 212 = .ok (.ireturn, 1) := by decide +kernel
theorem dX11_tellHerds_0 : decode cX11_tellHerds 0 = .ok (.aload_n 0, 1) := by decide +kernel
theorem dX11_tellHerds_1 : decode cX11_tellHerds 1 = .ok (.iconst 0, 1) := by decide +kernel
theorem dX11_tellHerds_2 : decode cX11_tellHerds 2 = .ok (.putfield 92, 3) := by decide +kernel
theorem dX11_tellHerds_5 : decode cX11_tellHerds 5 = .ok (.iconst 0, 1) := by decide +kernel
theorem dX11_tellHerds_6 : decode cX11_tellHerds 6 = .ok (.istore_n 2, 1) := by decide +kernel
theorem dX11_tellHerds_7 : decode cX11_tellHerds 7 = .ok (.iload_n 2, 1) := by decide +kernel
theorem dX11_tellHerds_8 : decode cX11_tellHerds 8 = .ok (.aload_n 0, 1) := by decide +kernel
theorem dX11_tellHerds_9 : decode cX11_tellHerds 9 = .ok (.getfield 105, 3) := by decide +kernel
theorem dX11_tellHerds_12 : decode cX11_tellHerds 12 = .ok (.if_icmp .ge 21, 3) := by decide +kernel
theorem dX11_tellHerds_15 : decode cX11_tellHerds 15 = .ok (.aload_n 0, 1) := by decide +kernel
theorem dX11_tellHerds_16 : decode cX11_tellHerds 16 = .ok (.aload_n 1, 1) := by decide +kernel
theorem dX11_tellHerds_17 : decode cX11_tellHerds 17 = .ok (.sipush 320, 3) := by decide +kernel
theorem dX11_tellHerds_20 : decode cX11_tellHerds 20 = .ok (.iload_n 2, 1) := by decide +kernel
theorem dX11_tellHerds_21 : decode cX11_tellHerds 21 = .ok (.iadd, 1) := by decide +kernel
theorem dX11_tellHerds_22 : decode cX11_tellHerds 22 = .ok (.iaload, 1) := by decide +kernel
theorem dX11_tellHerds_23 : decode cX11_tellHerds 23 = .ok (.i2l, 1) := by decide +kernel
theorem dX11_tellHerds_24 : decode cX11_tellHerds 24 = .ok (.invokevirtual 278, 3) := by decide +kernel
theorem dX11_tellHerds_27 : decode cX11_tellHerds 27 = .ok (.iinc 2 1, 3) := by decide +kernel
theorem dX11_tellHerds_30 : decode cX11_tellHerds 30 = .ok (.goto (-23), 3) := by decide +kernel
theorem dX11_tellHerds_33 : decode cX11_tellHerds 33 = .ok (.return_, 1) := by decide +kernel
theorem dX11_hour_0 : decode cX11_hour 0 = .ok (.aload_n 0, 1) := by decide +kernel
theorem dX11_hour_1 : decode cX11_hour 1 = .ok (.iconst 1, 1) := by decide +kernel
theorem dX11_hour_2 : decode cX11_hour 2 = .ok (.invokevirtual 282, 3) := by decide +kernel
theorem dX11_hour_5 : decode cX11_hour 5 = .ok (.ireturn, 1) := by decide +kernel
theorem dX11_hours_0 : decode cX11_hours 0 = .ok (.aload_n 0, 1) := by decide +kernel
theorem dX11_hours_1 : decode cX11_hours 1 = .ok (.iconst 0, 1) := by decide +kernel
theorem dX11_hours_2 : decode cX11_hours 2 = .ok (.putfield 89, 3) := by decide +kernel
theorem dX11_hours_5 : decode cX11_hours 5 = .ok (.iload_n 1, 1) := by decide +kernel
theorem dX11_hours_6 : decode cX11_hours 6 = .ok (.iconst 0, 1) := by decide +kernel
theorem dX11_hours_7 : decode cX11_hours 7 = .ok (.bipush 60, 2) := by decide +kernel
theorem dX11_hours_9 : decode cX11_hours 9 = .ok (.invokestatic 95, 3) := by decide +kernel
theorem dX11_hours_12 : decode cX11_hours 12 = .ok (.ifCond .ne 5, 3) := by decide +kernel
theorem dX11_hours_15 : decode cX11_hours 15 = .ok (.iconst (-1), 1) := by decide +kernel
theorem dX11_hours_16 : decode cX11_hours 16 = .ok (.ireturn, 1) := by decide +kernel
theorem dX11_hours_17 : decode cX11_hours 17 = .ok (.iload_n 1, 1) := by decide +kernel
theorem dX11_hours_18 : decode cX11_hours 18 = .ok (.ifCond .le 11, 3) := by decide +kernel
theorem dX11_hours_21 : decode cX11_hours 21 = .ok (.aload_n 0, 1) := by decide +kernel
theorem dX11_hours_22 : decode cX11_hours 22 = .ok (.aload_n 0, 1) := by decide +kernel
theorem dX11_hours_23 : decode cX11_hours 23 = .ok (.getfield 9, 3) := by decide +kernel
theorem dX11_hours_26 : decode cX11_hours 26 = .ok (.invokevirtual 258, 3) := by decide +kernel
theorem dX11_hours_29 : decode cX11_hours 29 = .ok (.iconst 0, 1) := by decide +kernel
theorem dX11_hours_30 : decode cX11_hours 30 = .ok (.istore_n 2, 1) := by decide +kernel
theorem dX11_hours_31 : decode cX11_hours 31 = .ok (.iconst 0, 1) := by decide +kernel
theorem dX11_hours_32 : decode cX11_hours 32 = .ok (.istore_n 3, 1) := by decide +kernel
theorem dX11_hours_33 : decode cX11_hours 33 = .ok (.iload_n 3, 1) := by decide +kernel
theorem dX11_hours_34 : decode cX11_hours 34 = .ok (.iload_n 1, 1) := by decide +kernel
theorem dX11_hours_35 : decode cX11_hours 35 = .ok (.if_icmp .ge 20, 3) := by decide +kernel
theorem dX11_hours_38 : decode cX11_hours 38 = .ok (.iload_n 2, 1) := by decide +kernel
theorem dX11_hours_39 : decode cX11_hours 39 = .ok (.aload_n 0, 1) := by decide +kernel
theorem dX11_hours_40 : decode cX11_hours 40 = .ok (.aload_n 0, 1) := by decide +kernel
theorem dX11_hours_41 : decode cX11_hours 41 = .ok (.getfield 9, 3) := by decide +kernel
theorem dX11_hours_44 : decode cX11_hours 44 = .ok (.invokevirtual 285, 3) := by decide +kernel
theorem dX11_hours_47 : decode cX11_hours 47 = .ok (.iadd, 1) := by decide +kernel
theorem dX11_hours_48 : decode cX11_hours 48 = .ok (.istore_n 2, 1) := by decide +kernel
theorem dX11_hours_49 : decode cX11_hours 49 = .ok (.iinc 3 1, 3) := by decide +kernel
theorem dX11_hours_52 : decode cX11_hours 52 = .ok (.goto (-19), 3) := by decide +kernel
theorem dX11_hours_55 : decode cX11_hours 55 = .ok (.aload_n 0, 1) := by decide +kernel
theorem dX11_hours_56 : decode cX11_hours 56 = .ok (.aload_n 0, 1) := by decide +kernel
theorem dX11_hours_57 : decode cX11_hours 57 = .ok (.getfield 9, 3) := by decide +kernel
theorem dX11_hours_60 : decode cX11_hours 60 = .ok (.invokevirtual 289, 3) := by decide +kernel
theorem dX11_hours_63 : decode cX11_hours 63 = .ok (.iload_n 2, 1) := by decide +kernel
theorem dX11_hours_64 : decode cX11_hours 64 = .ok (.ireturn, 1) := by decide +kernel
theorem dX11_day_0 : decode cX11_day 0 = .ok (.aload_n 0, 1) := by decide +kernel
theorem dX11_day_1 : decode cX11_day 1 = .ok (.iconst 0, 1) := by decide +kernel
theorem dX11_day_2 : decode cX11_day 2 = .ok (.putfield 89, 3) := by decide +kernel
theorem dX11_day_5 : decode cX11_day 5 = .ok (.aload_n 0, 1) := by decide +kernel
theorem dX11_day_6 : decode cX11_day 6 = .ok (.aload_n 0, 1) := by decide +kernel
theorem dX11_day_7 : decode cX11_day 7 = .ok (.getfield 32, 3) := by decide +kernel
theorem dX11_day_10 : decode cX11_day 10 = .ok (.aload_n 0, 1) := by decide +kernel
theorem dX11_day_11 : decode cX11_day 11 = .ok (.getfield 108, 3) := by decide +kernel
theorem dX11_day_14 : decode cX11_day 14 = .ok (.bipush 60, 2) := by decide +kernel
theorem dX11_day_16 : decode cX11_day 16 = .ok (.invokevirtual 142, 3) := by decide +kernel
theorem dX11_day_19 : decode cX11_day 19 = .ok (.aload_n 0, 1) := by decide +kernel
theorem dX11_day_20 : decode cX11_day 20 = .ok (.iconst 0, 1) := by decide +kernel
theorem dX11_day_21 : decode cX11_day 21 = .ok (.putfield 108, 3) := by decide +kernel
theorem dX11_day_24 : decode cX11_day 24 = .ok (.iconst 0, 1) := by decide +kernel
theorem dX11_day_25 : decode cX11_day 25 = .ok (.istore_n 1, 1) := by decide +kernel
theorem dX11_day_26 : decode cX11_day 26 = .ok (.aload_n 0, 1) := by decide +kernel
theorem dX11_day_27 : decode cX11_day 27 = .ok (.getfield 114, 3) := by decide +kernel
theorem dX11_day_30 : decode cX11_day 30 = .ok (.ifCond .le 7, 3) := by decide +kernel
theorem dX11_day_33 : decode cX11_day 33 = .ok (.iconst 1, 1) := by decide +kernel
theorem dX11_day_34 : decode cX11_day 34 = .ok (.goto 4, 3) := by decide +kernel
theorem dX11_day_37 : decode cX11_day 37 = .ok (.iconst 0, 1) := by decide +kernel
theorem dX11_day_38 : decode cX11_day 38 = .ok (.istore_n 2, 1) := by decide +kernel
theorem dX11_day_39 : decode cX11_day 39 = .ok (.iload_n 2, 1) := by decide +kernel
theorem dX11_day_40 : decode cX11_day 40 = .ok (.ifCond .eq 30, 3) := by decide +kernel
theorem dX11_day_43 : decode cX11_day 43 = .ok (.aload_n 0, 1) := by decide +kernel
theorem dX11_day_44 : decode cX11_day 44 = .ok (.invokevirtual 126, 3) := by decide +kernel
theorem dX11_day_47 : decode cX11_day 47 = .ok (.ifCond .eq 23, 3) := by decide +kernel
theorem dX11_day_50 : decode cX11_day 50 = .ok (.aload_n 0, 1) := by decide +kernel
theorem dX11_day_51 : decode cX11_day 51 = .ok (.iconst 4, 1) := by decide +kernel
theorem dX11_day_52 : decode cX11_day 52 = .ok (.iload_n 1, 1) := by decide +kernel
theorem dX11_day_53 : decode cX11_day 53 = .ok (.imul, 1) := by decide +kernel
theorem dX11_day_54 : decode cX11_day 54 = .ok (.invokevirtual 292, 3) := by decide +kernel
theorem dX11_day_57 : decode cX11_day 57 = .ok (.iinc 1 1, 3) := by decide +kernel
theorem dX11_day_60 : decode cX11_day 60 = .ok (.aload_n 0, 1) := by decide +kernel
theorem dX11_day_61 : decode cX11_day 61 = .ok (.bipush 59, 2) := by decide +kernel
theorem dX11_day_63 : decode cX11_day 63 = .ok (.invokevirtual 134, 3) := by decide +kernel
theorem dX11_day_66 : decode cX11_day 66 = .ok (.istore_n 2, 1) := by decide +kernel
theorem dX11_day_67 : decode cX11_day 67 = .ok (.goto (-28), 3) := by decide +kernel
theorem dX11_day_70 : decode cX11_day 70 = .ok (.aload_n 0, 1) := by decide +kernel
theorem dX11_day_71 : decode cX11_day 71 = .ok (.getfield 120, 3) := by decide +kernel
theorem dX11_day_74 : decode cX11_day 74 = .ok (.aload_n 0, 1) := by decide +kernel
theorem dX11_day_75 : decode cX11_day 75 = .ok (.getfield 114, 3) := by decide +kernel
theorem dX11_day_78 : decode cX11_day 78 = .ok (.if_icmp .ge 11, 3) := by decide +kernel
theorem dX11_day_81 : decode cX11_day 81 = .ok (.aload_n 0, 1) := by decide +kernel
theorem dX11_day_82 : decode cX11_day 82 = .ok (.aload_n 0, 1) := by decide +kernel
theorem dX11_day_83 : decode cX11_day 83 = .ok (.getfield 120, 3) := by decide +kernel
theorem dX11_day_86 : decode cX11_day 86 = .ok (.invokevirtual 138, 3) := by decide +kernel
theorem dX11_day_89 : decode cX11_day 89 = .ok (.aload_n 0, 1) := by decide +kernel
theorem dX11_day_90 : decode cX11_day 90 = .ok (.invokevirtual 126, 3) := by decide +kernel
theorem dX11_day_93 : decode cX11_day 93 = .ok (.ifCond .ne 10, 3) := by decide +kernel
theorem dX11_day_96 : decode cX11_day 96 = .ok (.iconst (-1), 1) := by decide +kernel
theorem dX11_day_97 : decode cX11_day 97 = .ok (.aload_n 0, 1) := by decide +kernel
theorem dX11_day_98 : decode cX11_day 98 = .ok (.getfield 123, 3) := by decide +kernel
theorem dX11_day_101 : decode cX11_day 101 = .ok (.isub, 1) := by decide +kernel
theorem dX11_day_102 : decode cX11_day 102 = .ok (.ireturn, 1) := by decide +kernel
theorem dX11_day_103 : decode cX11_day 103 = .ok (.aload_n 0, 1) := by decide +kernel
theorem dX11_day_104 : decode cX11_day 104 = .ok (.getfield 9, 3) := by decide +kernel
theorem dX11_day_107 : decode cX11_day 107 = .ok (.aload_n 0, 1) := by decide +kernel
theorem dX11_day_108 : decode cX11_day 108 = .ok (.getfield 58, 3) := by decide +kernel
theorem dX11_day_111 : decode cX11_day 111 = .ok (.iconst 0, 1) := by decide +kernel
theorem dX11_day_112 : decode cX11_day 112 = .ok (.invokestatic 251, 3) := by decide +kernel
theorem dX11_day_115 : decode cX11_day 115 = .ok (.aload_n 0, 1) := by decide +kernel
theorem dX11_day_116 : decode cX11_day 116 = .ok (.iconst 0, 1) := by decide +kernel
theorem dX11_day_117 : decode cX11_day 117 = .ok (.putfield 295, 3) := by decide +kernel
theorem dX11_day_120 : decode cX11_day 120 = .ok (.iconst 0, 1) := by decide +kernel
theorem dX11_day_121 : decode cX11_day 121 = .ok (.istore_n 3, 1) := by decide +kernel
theorem dX11_day_122 : decode cX11_day 122 = .ok (.iload_n 3, 1) := by decide +kernel
theorem dX11_day_123 : decode cX11_day 123 = .ok (.iload_n 1, 1) := by decide +kernel
theorem dX11_day_124 : decode cX11_day 124 = .ok (.if_icmp .ge 54, 3) := by decide +kernel
theorem dX11_day_127 : decode cX11_day 127 = .ok (.aload_n 0, 1) := by decide +kernel
theorem dX11_day_128 : decode cX11_day 128 = .ok (.aload_n 0, 1) := by decide +kernel
theorem dX11_day_129 : decode cX11_day 129 = .ok (.getfield 61, 3) := by decide +kernel
theorem dX11_day_132 : decode cX11_day 132 = .ok (.iconst 4, 1) := by decide +kernel
theorem dX11_day_133 : decode cX11_day 133 = .ok (.iload_n 3, 1) := by decide +kernel
theorem dX11_day_134 : decode cX11_day 134 = .ok (.imul, 1) := by decide +kernel
theorem dX11_day_135 : decode cX11_day 135 = .ok (.iaload, 1) := by decide +kernel
theorem dX11_day_136 : decode cX11_day 136 = .ok (.aload_n 0, 1) := by decide +kernel
theorem dX11_day_137 : decode cX11_day 137 = .ok (.getfield 61, 3) := by decide +kernel
theorem dX11_day_140 : decode cX11_day 140 = .ok (.iconst 4, 1) := by decide +kernel
theorem dX11_day_141 : decode cX11_day 141 = .ok (.iload_n 3, 1) := by decide +kernel
theorem dX11_day_142 : decode cX11_day 142 = .ok (.imul, 1) := by decide +kernel
theorem dX11_day_143 : decode cX11_day 143 = .ok (.iconst 1, 1) := by decide +kernel
theorem dX11_day_144 : decode cX11_day 144 = .ok (.iadd, 1) := by decide +kernel
theorem dX11_day_145 : decode cX11_day 145 = .ok (.iaload, 1) := by decide +kernel
theorem dX11_day_146 : decode cX11_day 146 = .ok (.aload_n 0, 1) := by decide +kernel
theorem dX11_day_147 : decode cX11_day 147 = .ok (.getfield 61, 3) := by decide +kernel
theorem dX11_day_150 : decode cX11_day 150 = .ok (.iconst 4, 1) := by decide +kernel
theorem dX11_day_151 : decode cX11_day 151 = .ok (.iload_n 3, 1) := by decide +kernel
theorem dX11_day_152 : decode cX11_day 152 = .ok (.imul, 1) := by decide +kernel
theorem dX11_day_153 : decode cX11_day 153 = .ok (.iconst 2, 1) := by decide +kernel
theorem dX11_day_154 : decode cX11_day 154 = .ok (.iadd, 1) := by decide +kernel
theorem dX11_day_155 : decode cX11_day 155 = .ok (.iaload, 1) := by decide +kernel
theorem dX11_day_156 : decode cX11_day 156 = .ok (.aload_n 0, 1) := by decide +kernel
theorem dX11_day_157 : decode cX11_day 157 = .ok (.getfield 61, 3) := by decide +kernel
theorem dX11_day_160 : decode cX11_day 160 = .ok (.iconst 4, 1) := by decide +kernel
theorem dX11_day_161 : decode cX11_day 161 = .ok (.iload_n 3, 1) := by decide +kernel
theorem dX11_day_162 : decode cX11_day 162 = .ok (.imul, 1) := by decide +kernel
theorem dX11_day_163 : decode cX11_day 163 = .ok (.iconst 3, 1) := by decide +kernel
theorem dX11_day_164 : decode cX11_day 164 = .ok (.iadd, 1) := by decide +kernel
theorem dX11_day_165 : decode cX11_day 165 = .ok (.iaload, 1) := by decide +kernel
theorem dX11_day_166 : decode cX11_day 166 = .ok (.invokevirtual 298, 3) := by decide +kernel
theorem dX11_day_169 : decode cX11_day 169 = .ok (.ifCond .eq 9, 3) := by decide +kernel
theorem dX11_day_172 : decode cX11_day 172 = .ok (.iinc 3 1, 3) := by decide +kernel
theorem dX11_day_175 : decode cX11_day 175 = .ok (.goto (-53), 3) := by decide +kernel
theorem dX11_day_178 : decode cX11_day 178 = .ok (.iload_n 3, 1) := by decide +kernel
theorem dX11_day_179 : decode cX11_day 179 = .ok (.ifCond .le 11, 3) := by decide +kernel
theorem dX11_day_182 : decode cX11_day 182 = .ok (.aload_n 0, 1) := by decide +kernel
theorem dX11_day_183 : decode cX11_day 183 = .ok (.aload_n 0, 1) := by decide +kernel
theorem dX11_day_184 : decode cX11_day 184 = .ok (.getfield 58, 3) := by decide +kernel
theorem dX11_day_187 : decode cX11_day 187 = .ok (.invokevirtual 258, 3) := by decide +kernel
theorem dX11_day_190 : decode cX11_day 190 = .ok (.aload_n 0, 1) := by decide +kernel
theorem dX11_day_191 : decode cX11_day 191 = .ok (.iconst 0, 1) := by decide +kernel
theorem dX11_day_192 : decode cX11_day 192 = .ok (.putfield 92, 3) := by decide +kernel
theorem dX11_day_195 : decode cX11_day 195 = .ok (.aload_n 0, 1) := by decide +kernel
theorem dX11_day_196 : decode cX11_day 196 = .ok (.iload_n 3, 1) := by decide +kernel
theorem dX11_day_197 : decode cX11_day 197 = .ok (.iload_n 1, 1) := by decide +kernel
theorem dX11_day_198 : decode cX11_day 198 = .ok (.if_icmp .ge 7, 3) := by decide +kernel
theorem dX11_day_201 : decode cX11_day 201 = .ok (.lconst 1, 1) := by decide +kernel
theorem dX11_day_202 : decode cX11_day 202 = .ok (.goto 4, 3) := by decide +kernel
theorem dX11_day_205 : decode cX11_day 205 = .ok (.lconst 0, 1) := by decide +kernel
theorem dX11_day_206 : decode cX11_day 206 = .ok (.invokevirtual 278, 3) := by decide +kernel
theorem dX11_day_209 : decode cX11_day 209 = .ok (.aload_n 0, 1) := by decide +kernel
theorem dX11_day_210 : decode cX11_day 210 = .ok (.aload_n 0, 1) := by decide +kernel
theorem dX11_day_211 : decode cX11_day 211 = .ok (.getfield 295, 3) := by decide +kernel
theorem dX11_day_214 : decode cX11_day 214 = .ok (.i2l, 1) := by decide +kernel
theorem dX11_day_215 : decode cX11_day 215 = .ok (.invokevirtual 278, 3) := by decide +kernel
theorem dX11_day_218 : decode cX11_day 218 = .ok (.iload_n 3, 1) := by decide +kernel
theorem dX11_day_219 : decode cX11_day 219 = .ok (.ireturn, 1) := by decide +kernel
theorem dX11_readCell_0 : decode cX11_readCell 0 = .ok (.aload_n 0, 1) := by decide +kernel
theorem dX11_readCell_1 : decode cX11_readCell 1 = .ok (.bipush 97, 2) := by decide +kernel
theorem dX11_readCell_3 : decode cX11_readCell 3 = .ok (.bipush 8, 2) := by decide +kernel
theorem dX11_readCell_5 : decode cX11_readCell 5 = .ok (.invokevirtual 171, 3) := by decide +kernel
theorem dX11_readCell_8 : decode cX11_readCell 8 = .ok (.istore_n 1, 1) := by decide +kernel
theorem dX11_readCell_9 : decode cX11_readCell 9 = .ok (.bipush 8, 2) := by decide +kernel
theorem dX11_readCell_11 : decode cX11_readCell 11 = .ok (.aload_n 0, 1) := by decide +kernel
theorem dX11_readCell_12 : decode cX11_readCell 12 = .ok (.bipush 49, 2) := by decide +kernel
theorem dX11_readCell_14 : decode cX11_readCell 14 = .ok (.bipush 8, 2) := by decide +kernel
theorem dX11_readCell_16 : decode cX11_readCell 16 = .ok (.invokevirtual 171, 3) := by decide +kernel
theorem dX11_readCell_19 : decode cX11_readCell 19 = .ok (.imul, 1) := by decide +kernel
theorem dX11_readCell_20 : decode cX11_readCell 20 = .ok (.iload_n 1, 1) := by decide +kernel
theorem dX11_readCell_21 : decode cX11_readCell 21 = .ok (.iadd, 1) := by decide +kernel
theorem dX11_readCell_22 : decode cX11_readCell 22 = .ok (.ireturn, 1) := by decide +kernel
theorem dX11_readAct_0 : decode cX11_readAct 0 = .ok (.aload_n 0, 1) := by decide +kernel
theorem dX11_readAct_1 : decode cX11_readAct 1 = .ok (.invokevirtual 130, 3) := by decide +kernel
theorem dX11_readAct_4 : decode cX11_readAct 4 = .ok (.istore_n 2, 1) := by decide +kernel
theorem dX11_readAct_5 : decode cX11_readAct 5 = .ok (.iload_n 2, 1) := by decide +kernel
theorem dX11_readAct_6 : decode cX11_readAct 6 = .ok (.bipush 104, 2) := by decide +kernel
theorem dX11_readAct_8 : decode cX11_readAct 8 = .ok (.if_icmp .eq 41, 3) := by decide +kernel
theorem dX11_readAct_11 : decode cX11_readAct 11 = .ok (.iload_n 2, 1) := by decide +kernel
theorem dX11_readAct_12 : decode cX11_readAct 12 = .ok (.bipush 115, 2) := by decide +kernel
theorem dX11_readAct_14 : decode cX11_readAct 14 = .ok (.if_icmp .eq 35, 3) := by decide +kernel
theorem dX11_readAct_17 : decode cX11_readAct 17 = .ok (.iload_n 2, 1) := by decide +kernel
theorem dX11_readAct_18 : decode cX11_readAct 18 = .ok (.bipush 116, 2) := by decide +kernel
theorem dX11_readAct_20 : decode cX11_readAct 20 = .ok (.if_icmp .eq 29, 3) := by decide +kernel
theorem dX11_readAct_23 : decode cX11_readAct 23 = .ok (.iload_n 2, 1) := by decide +kernel
theorem dX11_readAct_24 : decode cX11_readAct 24 = .ok (.bipush 111, 2) := by decide +kernel
theorem dX11_readAct_26 : decode cX11_readAct 26 = .ok (.if_icmp .eq 23, 3) := by decide +kernel
theorem dX11_readAct_29 : decode cX11_readAct 29 = .ok (.iload_n 2, 1) := by decide +kernel
theorem dX11_readAct_30 : decode cX11_readAct 30 = .ok (.bipush 99, 2) := by decide +kernel
theorem dX11_readAct_32 : decode cX11_readAct 32 = .ok (.if_icmp .eq 17, 3) := by decide +kernel
theorem dX11_readAct_35 : decode cX11_readAct 35 = .ok (.iload_n 2, 1) := by decide +kernel
theorem dX11_readAct_36 : decode cX11_readAct 36 = .ok (.bipush 100, 2) := by decide +kernel
theorem dX11_readAct_38 : decode cX11_readAct 38 = .ok (.if_icmp .eq 11, 3) := by decide +kernel
theorem dX11_readAct_41 : decode cX11_readAct 41 = .ok (.aload_n 0, 1) := by decide +kernel
theorem dX11_readAct_42 : decode cX11_readAct 42 = .ok (.aload_n 0, 1) := by decide +kernel
theorem dX11_readAct_43 : decode cX11_readAct 43 = .ok (.getfield 120, 3) := by decide +kernel
theorem dX11_readAct_46 : decode cX11_readAct 46 = .ok (.invokevirtual 138, 3) := by decide +kernel
theorem dX11_readAct_49 : decode cX11_readAct 49 = .ok (.aload_n 0, 1) := by decide +kernel
theorem dX11_readAct_50 : decode cX11_readAct 50 = .ok (.dup, 1) := by decide +kernel
theorem dX11_readAct_51 : decode cX11_readAct 51 = .ok (.getfield 120, 3) := by decide +kernel
theorem dX11_readAct_54 : decode cX11_readAct 54 = .ok (.iconst 1, 1) := by decide +kernel
theorem dX11_readAct_55 : decode cX11_readAct 55 = .ok (.iadd, 1) := by decide +kernel
theorem dX11_readAct_56 : decode cX11_readAct 56 = .ok (.putfield 120, 3) := by decide +kernel
theorem dX11_readAct_59 : decode cX11_readAct 59 = .ok (.aload_n 0, 1) := by decide +kernel
theorem dX11_readAct_60 : decode cX11_readAct 60 = .ok (.getfield 61, 3) := by decide +kernel
theorem dX11_readAct_63 : decode cX11_readAct 63 = .ok (.iload_n 1, 1) := by decide +kernel
theorem dX11_readAct_64 : decode cX11_readAct 64 = .ok (.iload_n 2, 1) := by decide +kernel
theorem dX11_readAct_65 : decode cX11_readAct 65 = .ok (.iastore, 1) := by decide +kernel
theorem dX11_readAct_66 : decode cX11_readAct 66 = .ok (.iload_n 2, 1) := by decide +kernel
theorem dX11_readAct_67 : decode cX11_readAct 67 = .ok (.lookupswitch 136 #[(100, 107), (104, 41), (115, 78), (116, 78)], 41) := by decide +kernel
theorem dX11_readAct_108 : decode cX11_readAct 108 = .ok (.aload_n 0, 1) := by decide +kernel
theorem dX11_readAct_109 : decode cX11_readAct 109 = .ok (.getfield 61, 3) := by decide +kernel
theorem dX11_readAct_112 : decode cX11_readAct 112 = .ok (.iload_n 1, 1) := by decide +kernel
theorem dX11_readAct_113 : decode cX11_readAct 113 = .ok (.iconst 1, 1) := by decide +kernel
theorem dX11_readAct_114 : decode cX11_readAct 114 = .ok (.iadd, 1) := by decide +kernel
theorem dX11_readAct_115 : decode cX11_readAct 115 = .ok (.aload_n 0, 1) := by decide +kernel
theorem dX11_readAct_116 : decode cX11_readAct 116 = .ok (.invokevirtual 130, 3) := by decide +kernel
theorem dX11_readAct_119 : decode cX11_readAct 119 = .ok (.bipush 49, 2) := by decide +kernel
theorem dX11_readAct_121 : decode cX11_readAct 121 = .ok (.bipush 57, 2) := by decide +kernel
theorem dX11_readAct_123 : decode cX11_readAct 123 = .ok (.invokestatic 95, 3) := by decide +kernel
theorem dX11_readAct_126 : decode cX11_readAct 126 = .ok (.ifCond .eq 16, 3) := by decide +kernel
theorem dX11_readAct_129 : decode cX11_readAct 129 = .ok (.aload_n 0, 1) := by decide +kernel
theorem dX11_readAct_130 : decode cX11_readAct 130 = .ok (.bipush 49, 2) := by decide +kernel
theorem dX11_readAct_132 : decode cX11_readAct 132 = .ok (.bipush 9, 2) := by decide +kernel
theorem dX11_readAct_134 : decode cX11_readAct 134 = .ok (.invokevirtual 171, 3) := by decide +kernel
theorem dX11_readAct_137 : decode cX11_readAct 137 = .ok (.iconst 1, 1) := by decide +kernel
theorem dX11_readAct_138 : decode cX11_readAct 138 = .ok (.iadd, 1) := by decide +kernel
theorem dX11_readAct_139 : decode cX11_readAct 139 = .ok (.goto 4, 3) := by decide +kernel
theorem dX11_readAct_142 : decode cX11_readAct 142 = .ok (.iconst 1, 1) := by decide +kernel
theorem dX11_readAct_143 : decode cX11_readAct 143 = .ok (.iastore, 1) := by decide +kernel
theorem dX11_readAct_144 : decode cX11_readAct 144 = .ok (.return_, 1) := by decide +kernel
theorem dX11_readAct_145 : decode cX11_readAct 145 = .ok (.aload_n 0, 1) := by decide +kernel
theorem dX11_readAct_146 : decode cX11_readAct 146 = .ok (.getfield 61, 3) := by decide +kernel
theorem dX11_readAct_149 : decode cX11_readAct 149 = .ok (.iload_n 1, 1) := by decide +kernel
theorem dX11_readAct_150 : decode cX11_readAct 150 = .ok (.iconst 1, 1) := by decide +kernel
theorem dX11_readAct_151 : decode cX11_readAct 151 = .ok (.iadd, 1) := by decide +kernel
theorem dX11_readAct_152 : decode cX11_readAct 152 = .ok (.aload_n 0, 1) := by decide +kernel
theorem dX11_readAct_153 : decode cX11_readAct 153 = .ok (.invokevirtual 302, 3) := by decide +kernel
theorem dX11_readAct_156 : decode cX11_readAct 156 = .ok (.iastore, 1) := by decide +kernel
theorem dX11_readAct_157 : decode cX11_readAct 157 = .ok (.aload_n 0, 1) := by decide +kernel
theorem dX11_readAct_158 : decode cX11_readAct 158 = .ok (.getfield 61, 3) := by decide +kernel
theorem dX11_readAct_161 : decode cX11_readAct 161 = .ok (.iload_n 1, 1) := by decide +kernel
theorem dX11_readAct_162 : decode cX11_readAct 162 = .ok (.iconst 2, 1) := by decide +kernel
theorem dX11_readAct_163 : decode cX11_readAct 163 = .ok (.iadd, 1) := by decide +kernel
theorem dX11_readAct_164 : decode cX11_readAct 164 = .ok (.aload_n 0, 1) := by decide +kernel
theorem dX11_readAct_165 : decode cX11_readAct 165 = .ok (.bipush 48, 2) := by decide +kernel
theorem dX11_readAct_167 : decode cX11_readAct 167 = .ok (.bipush 10, 2) := by decide +kernel
theorem dX11_readAct_169 : decode cX11_readAct 169 = .ok (.invokevirtual 171, 3) := by decide +kernel
theorem dX11_readAct_172 : decode cX11_readAct 172 = .ok (.iastore, 1) := by decide +kernel
theorem dX11_readAct_173 : decode cX11_readAct 173 = .ok (.return_, 1) := by decide +kernel
theorem dX11_readAct_174 : decode cX11_readAct 174 = .ok (.aload_n 0, 1) := by decide +kernel
theorem dX11_readAct_175 : decode cX11_readAct 175 = .ok (.getfield 61, 3) := by decide +kernel
theorem dX11_readAct_178 : decode cX11_readAct 178 = .ok (.iload_n 1, 1) := by decide +kernel
theorem dX11_readAct_179 : decode cX11_readAct 179 = .ok (.iconst 1, 1) := by decide +kernel
theorem dX11_readAct_180 : decode cX11_readAct 180 = .ok (.iadd, 1) := by decide +kernel
theorem dX11_readAct_181 : decode cX11_readAct 181 = .ok (.aload_n 0, 1) := by decide +kernel
theorem dX11_readAct_182 : decode cX11_readAct 182 = .ok (.bipush 48, 2) := by decide +kernel
theorem dX11_readAct_184 : decode cX11_readAct 184 = .ok (.bipush 10, 2) := by decide +kernel
theorem dX11_readAct_186 : decode cX11_readAct 186 = .ok (.invokevirtual 171, 3) := by decide +kernel
theorem dX11_readAct_189 : decode cX11_readAct 189 = .ok (.iastore, 1) := by decide +kernel
theorem dX11_readAct_190 : decode cX11_readAct 190 = .ok (.aload_n 0, 1) := by decide +kernel
theorem dX11_readAct_191 : decode cX11_readAct 191 = .ok (.getfield 61, 3) := by decide +kernel
theorem dX11_readAct_194 : decode cX11_readAct 194 = .ok (.iload_n 1, 1) := by decide +kernel
theorem dX11_readAct_195 : decode cX11_readAct 195 = .ok (.iconst 2, 1) := by decide +kernel
theorem dX11_readAct_196 : decode cX11_readAct 196 = .ok (.iadd, 1) := by decide +kernel
theorem dX11_readAct_197 : decode cX11_readAct 197 = .ok (.aload_n 0, 1) := by decide +kernel
theorem dX11_readAct_198 : decode cX11_readAct 198 = .ok (.invokevirtual 302, 3) := by decide +kernel
theorem dX11_readAct_201 : decode cX11_readAct 201 = .ok (.iastore, 1) := by decide +kernel
theorem dX11_readAct_202 : decode cX11_readAct 202 = .ok (.return_, 1) := by decide +kernel
theorem dX11_readAct_203 : decode cX11_readAct 203 = .ok (.aload_n 0, 1) := by decide +kernel
theorem dX11_readAct_204 : decode cX11_readAct 204 = .ok (.getfield 61, 3) := by decide +kernel
theorem dX11_readAct_207 : decode cX11_readAct 207 = .ok (.iload_n 1, 1) := by decide +kernel
theorem dX11_readAct_208 : decode cX11_readAct 208 = .ok (.iconst 1, 1) := by decide +kernel
theorem dX11_readAct_209 : decode cX11_readAct 209 = .ok (.iadd, 1) := by decide +kernel
theorem dX11_readAct_210 : decode cX11_readAct 210 = .ok (.aload_n 0, 1) := by decide +kernel
theorem dX11_readAct_211 : decode cX11_readAct 211 = .ok (.bipush 48, 2) := by decide +kernel
theorem dX11_readAct_213 : decode cX11_readAct 213 = .ok (.bipush 10, 2) := by decide +kernel
theorem dX11_readAct_215 : decode cX11_readAct 215 = .ok (.invokevirtual 171, 3) := by decide +kernel
theorem dX11_readAct_218 : decode cX11_readAct 218 = .ok (.iastore, 1) := by decide +kernel
theorem dX11_readAct_219 : decode cX11_readAct 219 = .ok (.return_, 1) := by decide +kernel
theorem dX11_act_0 : decode cX11_act 0 = .ok (.iload_n 1, 1) := by decide +kernel
theorem dX11_act_1 : decode cX11_act 1 = .ok (.lookupswitch 132 #[(100, 112), (104, 43), (115, 77), (116, 77)], 43) := by decide +kernel
theorem dX11_act_44 : decode cX11_act 44 = .ok (.iconst 0, 1) := by decide +kernel
theorem dX11_act_45 : decode cX11_act 45 = .ok (.istore 5, 2) := by decide +kernel
theorem dX11_act_47 : decode cX11_act 47 = .ok (.iload 5, 2) := by decide +kernel
theorem dX11_act_49 : decode cX11_act 49 = .ok (.iload_n 2, 1) := by decide +kernel
theorem dX11_act_50 : decode cX11_act 50 = .ok (.if_icmp .ge 26, 3) := by decide +kernel
theorem dX11_act_53 : decode cX11_act 53 = .ok (.aload_n 0, 1) := by decide +kernel
theorem dX11_act_54 : decode cX11_act 54 = .ok (.dup, 1) := by decide +kernel
theorem dX11_act_55 : decode cX11_act 55 = .ok (.getfield 295, 3) := by decide +kernel
theorem dX11_act_58 : decode cX11_act 58 = .ok (.aload_n 0, 1) := by decide +kernel
theorem dX11_act_59 : decode cX11_act 59 = .ok (.aload_n 0, 1) := by decide +kernel
theorem dX11_act_60 : decode cX11_act 60 = .ok (.getfield 9, 3) := by decide +kernel
theorem dX11_act_63 : decode cX11_act 63 = .ok (.invokevirtual 285, 3) := by decide +kernel
theorem dX11_act_66 : decode cX11_act 66 = .ok (.iadd, 1) := by decide +kernel
theorem dX11_act_67 : decode cX11_act 67 = .ok (.putfield 295, 3) := by decide +kernel
theorem dX11_act_70 : decode cX11_act 70 = .ok (.iinc 5 1, 3) := by decide +kernel
theorem dX11_act_73 : decode cX11_act 73 = .ok (.goto (-26), 3) := by decide +kernel
theorem dX11_act_76 : decode cX11_act 76 = .ok (.iconst 1, 1) := by decide +kernel
theorem dX11_act_77 : decode cX11_act 77 = .ok (.ireturn, 1) := by decide +kernel
theorem dX11_act_78 : decode cX11_act 78 = .ok (.aload_n 0, 1) := by decide +kernel
theorem dX11_act_79 : decode cX11_act 79 = .ok (.iload_n 2, 1) := by decide +kernel
theorem dX11_act_80 : decode cX11_act 80 = .ok (.iload_n 3, 1) := by decide +kernel
theorem dX11_act_81 : decode cX11_act 81 = .ok (.invokevirtual 255, 3) := by decide +kernel
theorem dX11_act_84 : decode cX11_act 84 = .ok (.ifCond .ge 5, 3) := by decide +kernel
theorem dX11_act_87 : decode cX11_act 87 = .ok (.iconst 0, 1) := by decide +kernel
theorem dX11_act_88 : decode cX11_act 88 = .ok (.ireturn, 1) := by decide +kernel
theorem dX11_act_89 : decode cX11_act 89 = .ok (.aload_n 0, 1) := by decide +kernel
theorem dX11_act_90 : decode cX11_act 90 = .ok (.getfield 9, 3) := by decide +kernel
theorem dX11_act_93 : decode cX11_act 93 = .ok (.iload_n 1, 1) := by decide +kernel
theorem dX11_act_94 : decode cX11_act 94 = .ok (.bipush 115, 2) := by decide +kernel
theorem dX11_act_96 : decode cX11_act 96 = .ok (.if_icmp .ne 8, 3) := by decide +kernel
theorem dX11_act_99 : decode cX11_act 99 = .ok (.bipush 64, 2) := by decide +kernel
theorem dX11_act_101 : decode cX11_act 101 = .ok (.goto 6, 3) := by decide +kernel
theorem dX11_act_104 : decode cX11_act 104 = .ok (.sipush 128, 3) := by decide +kernel
theorem dX11_act_107 : decode cX11_act 107 = .ok (.iload_n 2, 1) := by decide +kernel
theorem dX11_act_108 : decode cX11_act 108 = .ok (.iadd, 1) := by decide +kernel
theorem dX11_act_109 : decode cX11_act 109 = .ok (.iload_n 3, 1) := by decide +kernel
theorem dX11_act_110 : decode cX11_act 110 = .ok (.iastore, 1) := by decide +kernel
theorem dX11_act_111 : decode cX11_act 111 = .ok (.iconst 1, 1) := by decide +kernel
theorem dX11_act_112 : decode cX11_act 112 = .ok (.ireturn, 1) := by decide +kernel
theorem dX11_act_113 : decode cX11_act 113 = .ok (.aload_n 0, 1) := by decide +kernel
theorem dX11_act_114 : decode cX11_act 114 = .ok (.iload_n 2, 1) := by decide +kernel
theorem dX11_act_115 : decode cX11_act 115 = .ok (.iload_n 3, 1) := by decide +kernel
theorem dX11_act_116 : decode cX11_act 116 = .ok (.invokevirtual 272, 3) := by decide +kernel
theorem dX11_act_119 : decode cX11_act 119 = .ok (.ifCond .ge 5, 3) := by decide +kernel
theorem dX11_act_122 : decode cX11_act 122 = .ok (.iconst 0, 1) := by decide +kernel
theorem dX11_act_123 : decode cX11_act 123 = .ok (.ireturn, 1) := by decide +kernel
theorem dX11_act_124 : decode cX11_act 124 = .ok (.aload_n 0, 1) := by decide +kernel
theorem dX11_act_125 : decode cX11_act 125 = .ok (.iload_n 2, 1) := by decide +kernel
theorem dX11_act_126 : decode cX11_act 126 = .ok (.iload_n 3, 1) := by decide +kernel
theorem dX11_act_127 : decode cX11_act 127 = .ok (.invokevirtual 275, 3) := by decide +kernel
theorem dX11_act_130 : decode cX11_act 130 = .ok (.pop, 1) := by decide +kernel
theorem dX11_act_131 : decode cX11_act 131 = .ok (.iconst 1, 1) := by decide +kernel
theorem dX11_act_132 : decode cX11_act 132 = .ok (.ireturn, 1) := by decide +kernel
theorem dX11_act_133 : decode cX11_act 133 = .ok (.iload_n 1, 1) := by decide +kernel
theorem dX11_act_134 : decode cX11_act 134 = .ok (.bipush 111, 2) := by decide +kernel
theorem dX11_act_136 : decode cX11_act 136 = .ok (.if_icmp .ne 7, 3) := by decide +kernel
theorem dX11_act_139 : decode cX11_act 139 = .ok (.iconst 1, 1) := by decide +kernel
theorem dX11_act_140 : decode cX11_act 140 = .ok (.goto 4, 3) := by decide +kernel
theorem dX11_act_143 : decode cX11_act 143 = .ok (.iconst 0, 1) := by decide +kernel
theorem dX11_act_144 : decode cX11_act 144 = .ok (.istore 5, 2) := by decide +kernel
theorem dX11_act_146 : decode cX11_act 146 = .ok (.aload_n 0, 1) := by decide +kernel
theorem dX11_act_147 : decode cX11_act 147 = .ok (.iload_n 2, 1) := by decide +kernel
theorem dX11_act_148 : decode cX11_act 148 = .ok (.iload 5, 2) := by decide +kernel
theorem dX11_act_150 : decode cX11_act 150 = .ok (.invokevirtual 266, 3) := by decide +kernel
theorem dX11_act_153 : decode cX11_act 153 = .ok (.ifCond .ge 5, 3) := by decide +kernel
theorem dX11_act_156 : decode cX11_act 156 = .ok (.iconst 0, 1) := by decide +kernel
theorem dX11_act_157 : decode cX11_act 157 = .ok (.ireturn, 1) := by decide +kernel
theorem dX11_act_158 : decode cX11_act 158 = .ok (.aload_n 0, 1) := by decide +kernel
theorem dX11_act_159 : decode cX11_act 159 = .ok (.iload_n 2, 1) := by decide +kernel
theorem dX11_act_160 : decode cX11_act 160 = .ok (.iload 5, 2) := by decide +kernel
theorem dX11_act_162 : decode cX11_act 162 = .ok (.invokevirtual 269, 3) := by decide +kernel
theorem dX11_act_165 : decode cX11_act 165 = .ok (.pop, 1) := by decide +kernel
theorem dX11_act_166 : decode cX11_act 166 = .ok (.iconst 1, 1) := by decide +kernel
theorem dX11_act_167 : decode cX11_act 167 = .ok (.ireturn, 1) := by decide +kernel
theorem dX11_undo_0 : decode cX11_undo 0 = .ok (.aload_n 0, 1) := by decide +kernel
theorem dX11_undo_1 : decode cX11_undo 1 = .ok (.iconst 0, 1) := by decide +kernel
theorem dX11_undo_2 : decode cX11_undo 2 = .ok (.putfield 89, 3) := by decide +kernel
theorem dX11_undo_5 : decode cX11_undo 5 = .ok (.aload_n 0, 1) := by decide +kernel
theorem dX11_undo_6 : decode cX11_undo 6 = .ok (.getfield 168, 3) := by decide +kernel
theorem dX11_undo_9 : decode cX11_undo 9 = .ok (.ifCond .ne 5, 3) := by decide +kernel
theorem dX11_undo_12 : decode cX11_undo 12 = .ok (.iconst (-1), 1) := by decide +kernel
theorem dX11_undo_13 : decode cX11_undo 13 = .ok (.ireturn, 1) := by decide +kernel
theorem dX11_undo_14 : decode cX11_undo 14 = .ok (.aload_n 0, 1) := by decide +kernel
theorem dX11_undo_15 : decode cX11_undo 15 = .ok (.dup, 1) := by decide +kernel
theorem dX11_undo_16 : decode cX11_undo 16 = .ok (.getfield 168, 3) := by decide +kernel
theorem dX11_undo_19 : decode cX11_undo 19 = .ok (.iconst 1, 1) := by decide +kernel
theorem dX11_undo_20 : decode cX11_undo 20 = .ok (.isub, 1) := by decide +kernel
theorem dX11_undo_21 : decode cX11_undo 21 = .ok (.putfield 168, 3) := by decide +kernel
theorem dX11_undo_24 : decode cX11_undo 24 = .ok (.iconst 0, 1) := by decide +kernel
theorem dX11_undo_25 : decode cX11_undo 25 = .ok (.istore_n 1, 1) := by decide +kernel
theorem dX11_undo_26 : decode cX11_undo 26 = .ok (.iload_n 1, 1) := by decide +kernel
theorem dX11_undo_27 : decode cX11_undo 27 = .ok (.sipush 334, 3) := by decide +kernel
theorem dX11_undo_30 : decode cX11_undo 30 = .ok (.if_icmp .ge 30, 3) := by decide +kernel
theorem dX11_undo_33 : decode cX11_undo 33 = .ok (.aload_n 0, 1) := by decide +kernel
theorem dX11_undo_34 : decode cX11_undo 34 = .ok (.getfield 9, 3) := by decide +kernel
theorem dX11_undo_37 : decode cX11_undo 37 = .ok (.iload_n 1, 1) := by decide +kernel
theorem dX11_undo_38 : decode cX11_undo 38 = .ok (.aload_n 0, 1) := by decide +kernel
theorem dX11_undo_39 : decode cX11_undo 39 = .ok (.getfield 55, 3) := by decide +kernel
theorem dX11_undo_42 : decode cX11_undo 42 = .ok (.sipush 334, 3) := by decide +kernel
theorem dX11_undo_45 : decode cX11_undo 45 = .ok (.aload_n 0, 1) := by decide +kernel
theorem dX11_undo_46 : decode cX11_undo 46 = .ok (.getfield 168, 3) := by decide +kernel
theorem dX11_undo_49 : decode cX11_undo 49 = .ok (.imul, 1) := by decide +kernel
theorem dX11_undo_50 : decode cX11_undo 50 = .ok (.iload_n 1, 1) := by decide +kernel
theorem dX11_undo_51 : decode cX11_undo 51 = .ok (.iadd, 1) := by decide +kernel
theorem dX11_undo_52 : decode cX11_undo 52 = .ok (.iaload, 1) := by decide +kernel
theorem dX11_undo_53 : decode cX11_undo 53 = .ok (.iastore, 1) := by decide +kernel
theorem dX11_undo_54 : decode cX11_undo 54 = .ok (.iinc 1 1, 3) := by decide +kernel
theorem dX11_undo_57 : decode cX11_undo 57 = .ok (.goto (-31), 3) := by decide +kernel
theorem dX11_undo_60 : decode cX11_undo 60 = .ok (.aload_n 0, 1) := by decide +kernel
theorem dX11_undo_61 : decode cX11_undo 61 = .ok (.getfield 168, 3) := by decide +kernel
theorem dX11_undo_64 : decode cX11_undo 64 = .ok (.ireturn, 1) := by decide +kernel
theorem dX11_roadOf_0 : decode cX11_roadOf 0 = .ok (.lconst 0, 1) := by decide +kernel
theorem dX11_roadOf_1 : decode cX11_roadOf 1 = .ok (.lstore_n 2, 1) := by decide +kernel
theorem dX11_roadOf_2 : decode cX11_roadOf 2 = .ok (.iconst 0, 1) := by decide +kernel
theorem dX11_roadOf_3 : decode cX11_roadOf 3 = .ok (.istore 4, 2) := by decide +kernel
theorem dX11_roadOf_5 : decode cX11_roadOf 5 = .ok (.iload 4, 2) := by decide +kernel
theorem dX11_roadOf_7 : decode cX11_roadOf 7 = .ok (.bipush 64, 2) := by decide +kernel
theorem dX11_roadOf_9 : decode cX11_roadOf 9 = .ok (.if_icmp .ge 39, 3) := by decide +kernel
theorem dX11_roadOf_12 : decode cX11_roadOf 12 = .ok (.lload_n 2, 1) := by decide +kernel
theorem dX11_roadOf_13 : decode cX11_roadOf 13 = .ok (.aload_n 0, 1) := by decide +kernel
theorem dX11_roadOf_14 : decode cX11_roadOf 14 = .ok (.iload 4, 2) := by decide +kernel
theorem dX11_roadOf_16 : decode cX11_roadOf 16 = .ok (.invokevirtual 157, 3) := by decide +kernel
theorem dX11_roadOf_19 : decode cX11_roadOf 19 = .ok (.ifCond .eq 20, 3) := by decide +kernel
theorem dX11_roadOf_22 : decode cX11_roadOf 22 = .ok (.aload_n 0, 1) := by decide +kernel
theorem dX11_roadOf_23 : decode cX11_roadOf 23 = .ok (.aload_n 1, 1) := by decide +kernel
theorem dX11_roadOf_24 : decode cX11_roadOf 24 = .ok (.iload 4, 2) := by decide +kernel
theorem dX11_roadOf_26 : decode cX11_roadOf 26 = .ok (.invokevirtual 211, 3) := by decide +kernel
theorem dX11_roadOf_29 : decode cX11_roadOf 29 = .ok (.ifCond .eq 10, 3) := by decide +kernel
theorem dX11_roadOf_32 : decode cX11_roadOf 32 = .ok (.lconst 1, 1) := by decide +kernel
theorem dX11_roadOf_33 : decode cX11_roadOf 33 = .ok (.iload 4, 2) := by decide +kernel
theorem dX11_roadOf_35 : decode cX11_roadOf 35 = .ok (.lshl, 1) := by decide +kernel
theorem dX11_roadOf_36 : decode cX11_roadOf 36 = .ok (.goto 4, 3) := by decide +kernel
theorem dX11_roadOf_39 : decode cX11_roadOf 39 = .ok (.lconst 0, 1) := by decide +kernel
theorem dX11_roadOf_40 : decode cX11_roadOf 40 = .ok (.lor, 1) := by decide +kernel
theorem dX11_roadOf_41 : decode cX11_roadOf 41 = .ok (.lstore_n 2, 1) := by decide +kernel
theorem dX11_roadOf_42 : decode cX11_roadOf 42 = .ok (.iinc 4 1, 3) := by decide +kernel
theorem dX11_roadOf_45 : decode cX11_roadOf 45 = .ok (.goto (-40), 3) := by decide +kernel
theorem dX11_roadOf_48 : decode cX11_roadOf 48 = .ok (.lload_n 2, 1) := by decide +kernel
theorem dX11_roadOf_49 : decode cX11_roadOf 49 = .ok (.lreturn, 1) := by decide +kernel
theorem dX11_besides_0 : decode cX11_besides 0 = .ok (.lload_n 0, 1) := by decide +kernel
theorem dX11_besides_1 : decode cX11_besides 1 = .ok (.bipush 8, 2) := by decide +kernel
theorem dX11_besides_3 : decode cX11_besides 3 = .ok (.lshl, 1) := by decide +kernel
theorem dX11_besides_4 : decode cX11_besides 4 = .ok (.lload_n 0, 1) := by decide +kernel
theorem dX11_besides_5 : decode cX11_besides 5 = .ok (.bipush 8, 2) := by decide +kernel
theorem dX11_besides_7 : decode cX11_besides 7 = .ok (.lushr, 1) := by decide +kernel
theorem dX11_besides_8 : decode cX11_besides 8 = .ok (.lor, 1) := by decide +kernel
theorem dX11_besides_9 : decode cX11_besides 9 = .ok (.lload_n 0, 1) := by decide +kernel
theorem dX11_besides_10 : decode cX11_besides 10 = .ok (.ldc2_w 305, 3) := by decide +kernel
theorem dX11_besides_13 : decode cX11_besides 13 = .ok (.land, 1) := by decide +kernel
theorem dX11_besides_14 : decode cX11_besides 14 = .ok (.iconst 1, 1) := by decide +kernel
theorem dX11_besides_15 : decode cX11_besides 15 = .ok (.lshl, 1) := by decide +kernel
theorem dX11_besides_16 : decode cX11_besides 16 = .ok (.lor, 1) := by decide +kernel
theorem dX11_besides_17 : decode cX11_besides 17 = .ok (.lload_n 0, 1) := by decide +kernel
theorem dX11_besides_18 : decode cX11_besides 18 = .ok (.ldc2_w 307, 3) := by decide +kernel
theorem dX11_besides_21 : decode cX11_besides 21 = .ok (.land, 1) := by decide +kernel
theorem dX11_besides_22 : decode cX11_besides 22 = .ok (.iconst 1, 1) := by decide +kernel
theorem dX11_besides_23 : decode cX11_besides 23 = .ok (.lushr, 1) := by decide +kernel
theorem dX11_besides_24 : decode cX11_besides 24 = .ok (.lor, 1) := by decide +kernel
theorem dX11_besides_25 : decode cX11_besides 25 = .ok (.lreturn, 1) := by decide +kernel
theorem dX11_spread_0 : decode cX11_spread 0 = .ok (.lload_n 0, 1) := by decide +kernel
theorem dX11_spread_1 : decode cX11_spread 1 = .ok (.lload_n 2, 1) := by decide +kernel
theorem dX11_spread_2 : decode cX11_spread 2 = .ok (.land, 1) := by decide +kernel
theorem dX11_spread_3 : decode cX11_spread 3 = .ok (.lstore 4, 2) := by decide +kernel
theorem dX11_spread_5 : decode cX11_spread 5 = .ok (.lconst 0, 1) := by decide +kernel
theorem dX11_spread_6 : decode cX11_spread 6 = .ok (.lstore 6, 2) := by decide +kernel
theorem dX11_spread_8 : decode cX11_spread 8 = .ok (.lload 4, 2) := by decide +kernel
theorem dX11_spread_10 : decode cX11_spread 10 = .ok (.lload 6, 2) := by decide +kernel
theorem dX11_spread_12 : decode cX11_spread 12 = .ok (.lcmp, 1) := by decide +kernel
theorem dX11_spread_13 : decode cX11_spread 13 = .ok (.ifCond .eq 22, 3) := by decide +kernel
theorem dX11_spread_16 : decode cX11_spread 16 = .ok (.lload 4, 2) := by decide +kernel
theorem dX11_spread_18 : decode cX11_spread 18 = .ok (.lstore 6, 2) := by decide +kernel
theorem dX11_spread_20 : decode cX11_spread 20 = .ok (.lload 4, 2) := by decide +kernel
theorem dX11_spread_22 : decode cX11_spread 22 = .ok (.lload 4, 2) := by decide +kernel
theorem dX11_spread_24 : decode cX11_spread 24 = .ok (.invokestatic 309, 3) := by decide +kernel
theorem dX11_spread_27 : decode cX11_spread 27 = .ok (.lload_n 2, 1) := by decide +kernel
theorem dX11_spread_28 : decode cX11_spread 28 = .ok (.land, 1) := by decide +kernel
theorem dX11_spread_29 : decode cX11_spread 29 = .ok (.lor, 1) := by decide +kernel
theorem dX11_spread_30 : decode cX11_spread 30 = .ok (.lstore 4, 2) := by decide +kernel
theorem dX11_spread_32 : decode cX11_spread 32 = .ok (.goto (-24), 3) := by decide +kernel
theorem dX11_spread_35 : decode cX11_spread 35 = .ok (.lload 4, 2) := by decide +kernel
theorem dX11_spread_37 : decode cX11_spread 37 = .ok (.lreturn, 1) := by decide +kernel
theorem dX11_road_0 : decode cX11_road 0 = .ok (.aload_n 0, 1) := by decide +kernel
theorem dX11_road_1 : decode cX11_road 1 = .ok (.iconst 0, 1) := by decide +kernel
theorem dX11_road_2 : decode cX11_road 2 = .ok (.putfield 89, 3) := by decide +kernel
theorem dX11_road_5 : decode cX11_road 5 = .ok (.aload_n 0, 1) := by decide +kernel
theorem dX11_road_6 : decode cX11_road 6 = .ok (.aload_n 0, 1) := by decide +kernel
theorem dX11_road_7 : decode cX11_road 7 = .ok (.getfield 9, 3) := by decide +kernel
theorem dX11_road_10 : decode cX11_road 10 = .ok (.invokevirtual 313, 3) := by decide +kernel
theorem dX11_road_13 : decode cX11_road 13 = .ok (.lstore_n 1, 1) := by decide +kernel
theorem dX11_road_14 : decode cX11_road 14 = .ok (.lload_n 1, 1) := by decide +kernel
theorem dX11_road_15 : decode cX11_road 15 = .ok (.lstore_n 3, 1) := by decide +kernel
theorem dX11_road_16 : decode cX11_road 16 = .ok (.iconst 0, 1) := by decide +kernel
theorem dX11_road_17 : decode cX11_road 17 = .ok (.istore 5, 2) := by decide +kernel
theorem dX11_road_19 : decode cX11_road 19 = .ok (.iconst 0, 1) := by decide +kernel
theorem dX11_road_20 : decode cX11_road 20 = .ok (.istore 6, 2) := by decide +kernel
theorem dX11_road_22 : decode cX11_road 22 = .ok (.lload_n 3, 1) := by decide +kernel
theorem dX11_road_23 : decode cX11_road 23 = .ok (.lconst 0, 1) := by decide +kernel
theorem dX11_road_24 : decode cX11_road 24 = .ok (.lcmp, 1) := by decide +kernel
theorem dX11_road_25 : decode cX11_road 25 = .ok (.ifCond .eq 40, 3) := by decide +kernel
theorem dX11_road_28 : decode cX11_road 28 = .ok (.lload_n 3, 1) := by decide +kernel
theorem dX11_road_29 : decode cX11_road 29 = .ok (.lload_n 3, 1) := by decide +kernel
theorem dX11_road_30 : decode cX11_road 30 = .ok (.lneg, 1) := by decide +kernel
theorem dX11_road_31 : decode cX11_road 31 = .ok (.land, 1) := by decide +kernel
theorem dX11_road_32 : decode cX11_road 32 = .ok (.lload_n 3, 1) := by decide +kernel
theorem dX11_road_33 : decode cX11_road 33 = .ok (.invokestatic 317, 3) := by decide +kernel
theorem dX11_road_36 : decode cX11_road 36 = .ok (.lstore 7, 2) := by decide +kernel
theorem dX11_road_38 : decode cX11_road 38 = .ok (.iinc 5 1, 3) := by decide +kernel
theorem dX11_road_41 : decode cX11_road 41 = .ok (.iload 6, 2) := by decide +kernel
theorem dX11_road_43 : decode cX11_road 43 = .ok (.lload 7, 2) := by decide +kernel
theorem dX11_road_45 : decode cX11_road 45 = .ok (.invokestatic 321, 3) := by decide +kernel
theorem dX11_road_48 : decode cX11_road 48 = .ok (.invokestatic 248, 3) := by decide +kernel
theorem dX11_road_51 : decode cX11_road 51 = .ok (.istore 6, 2) := by decide +kernel
theorem dX11_road_53 : decode cX11_road 53 = .ok (.lload_n 3, 1) := by decide +kernel
theorem dX11_road_54 : decode cX11_road 54 = .ok (.lload 7, 2) := by decide +kernel
theorem dX11_road_56 : decode cX11_road 56 = .ok (.ldc2_w 327, 3) := by decide +kernel
theorem dX11_road_59 : decode cX11_road 59 = .ok (.lxor, 1) := by decide +kernel
theorem dX11_road_60 : decode cX11_road 60 = .ok (.land, 1) := by decide +kernel
theorem dX11_road_61 : decode cX11_road 61 = .ok (.lstore_n 3, 1) := by decide +kernel
theorem dX11_road_62 : decode cX11_road 62 = .ok (.goto (-40), 3) := by decide +kernel
theorem dX11_road_65 : decode cX11_road 65 = .ok (.aload_n 0, 1) := by decide +kernel
theorem dX11_road_66 : decode cX11_road 66 = .ok (.iconst 0, 1) := by decide +kernel
theorem dX11_road_67 : decode cX11_road 67 = .ok (.putfield 92, 3) := by decide +kernel
theorem dX11_road_70 : decode cX11_road 70 = .ok (.aload_n 0, 1) := by decide +kernel
theorem dX11_road_71 : decode cX11_road 71 = .ok (.lload_n 1, 1) := by decide +kernel
theorem dX11_road_72 : decode cX11_road 72 = .ok (.invokevirtual 278, 3) := by decide +kernel
theorem dX11_road_75 : decode cX11_road 75 = .ok (.aload_n 0, 1) := by decide +kernel
theorem dX11_road_76 : decode cX11_road 76 = .ok (.iload 5, 2) := by decide +kernel
theorem dX11_road_78 : decode cX11_road 78 = .ok (.i2l, 1) := by decide +kernel
theorem dX11_road_79 : decode cX11_road 79 = .ok (.invokevirtual 278, 3) := by decide +kernel
theorem dX11_road_82 : decode cX11_road 82 = .ok (.aload_n 0, 1) := by decide +kernel
theorem dX11_road_83 : decode cX11_road 83 = .ok (.iload 6, 2) := by decide +kernel
theorem dX11_road_85 : decode cX11_road 85 = .ok (.i2l, 1) := by decide +kernel
theorem dX11_road_86 : decode cX11_road 86 = .ok (.invokevirtual 278, 3) := by decide +kernel
theorem dX11_road_89 : decode cX11_road 89 = .ok (.lload_n 1, 1) := by decide +kernel
theorem dX11_road_90 : decode cX11_road 90 = .ok (.invokestatic 321, 3) := by decide +kernel
theorem dX11_road_93 : decode cX11_road 93 = .ok (.ireturn, 1) := by decide +kernel
theorem dX11_squares_0 : decode cX11_squares 0 = .ok (.aload_n 0, 1) := by decide +kernel
theorem dX11_squares_1 : decode cX11_squares 1 = .ok (.iconst 0, 1) := by decide +kernel
theorem dX11_squares_2 : decode cX11_squares 2 = .ok (.putfield 89, 3) := by decide +kernel
theorem dX11_squares_5 : decode cX11_squares 5 = .ok (.aload_n 0, 1) := by decide +kernel
theorem dX11_squares_6 : decode cX11_squares 6 = .ok (.aload_n 0, 1) := by decide +kernel
theorem dX11_squares_7 : decode cX11_squares 7 = .ok (.getfield 9, 3) := by decide +kernel
theorem dX11_squares_10 : decode cX11_squares 10 = .ok (.invokevirtual 313, 3) := by decide +kernel
theorem dX11_squares_13 : decode cX11_squares 13 = .ok (.lstore_n 1, 1) := by decide +kernel
theorem dX11_squares_14 : decode cX11_squares 14 = .ok (.lconst 0, 1) := by decide +kernel
theorem dX11_squares_15 : decode cX11_squares 15 = .ok (.lstore_n 3, 1) := by decide +kernel
theorem dX11_squares_16 : decode cX11_squares 16 = .ok (.iconst 0, 1) := by decide +kernel
theorem dX11_squares_17 : decode cX11_squares 17 = .ok (.istore 5, 2) := by decide +kernel
theorem dX11_squares_19 : decode cX11_squares 19 = .ok (.iload 5, 2) := by decide +kernel
theorem dX11_squares_21 : decode cX11_squares 21 = .ok (.bipush 64, 2) := by decide +kernel
theorem dX11_squares_23 : decode cX11_squares 23 = .ok (.if_icmp .ge 45, 3) := by decide +kernel
theorem dX11_squares_26 : decode cX11_squares 26 = .ok (.lload_n 3, 1) := by decide +kernel
theorem dX11_squares_27 : decode cX11_squares 27 = .ok (.lload_n 1, 1) := by decide +kernel
theorem dX11_squares_28 : decode cX11_squares 28 = .ok (.iload 5, 2) := by decide +kernel
theorem dX11_squares_30 : decode cX11_squares 30 = .ok (.invokestatic 215, 3) := by decide +kernel
theorem dX11_squares_33 : decode cX11_squares 33 = .ok (.ifCond .eq 26, 3) := by decide +kernel
theorem dX11_squares_36 : decode cX11_squares 36 = .ok (.lconst 1, 1) := by decide +kernel
theorem dX11_squares_37 : decode cX11_squares 37 = .ok (.iload 5, 2) := by decide +kernel
theorem dX11_squares_39 : decode cX11_squares 39 = .ok (.lshl, 1) := by decide +kernel
theorem dX11_squares_40 : decode cX11_squares 40 = .ok (.invokestatic 309, 3) := by decide +kernel
theorem dX11_squares_43 : decode cX11_squares 43 = .ok (.lload_n 1, 1) := by decide +kernel
theorem dX11_squares_44 : decode cX11_squares 44 = .ok (.land, 1) := by decide +kernel
theorem dX11_squares_45 : decode cX11_squares 45 = .ok (.invokestatic 321, 3) := by decide +kernel
theorem dX11_squares_48 : decode cX11_squares 48 = .ok (.iconst 3, 1) := by decide +kernel
theorem dX11_squares_49 : decode cX11_squares 49 = .ok (.if_icmp .lt 10, 3) := by decide +kernel
theorem dX11_squares_52 : decode cX11_squares 52 = .ok (.lconst 1, 1) := by decide +kernel
theorem dX11_squares_53 : decode cX11_squares 53 = .ok (.iload 5, 2) := by decide +kernel
theorem dX11_squares_55 : decode cX11_squares 55 = .ok (.lshl, 1) := by decide +kernel
theorem dX11_squares_56 : decode cX11_squares 56 = .ok (.goto 4, 3) := by decide +kernel
theorem dX11_squares_59 : decode cX11_squares 59 = .ok (.lconst 0, 1) := by decide +kernel
theorem dX11_squares_60 : decode cX11_squares 60 = .ok (.lor, 1) := by decide +kernel
theorem dX11_squares_61 : decode cX11_squares 61 = .ok (.lstore_n 3, 1) := by decide +kernel
theorem dX11_squares_62 : decode cX11_squares 62 = .ok (.iinc 5 1, 3) := by decide +kernel
theorem dX11_squares_65 : decode cX11_squares 65 = .ok (.goto (-46), 3) := by decide +kernel
theorem dX11_squares_68 : decode cX11_squares 68 = .ok (.aload_n 0, 1) := by decide +kernel
theorem dX11_squares_69 : decode cX11_squares 69 = .ok (.iconst 0, 1) := by decide +kernel
theorem dX11_squares_70 : decode cX11_squares 70 = .ok (.putfield 92, 3) := by decide +kernel
theorem dX11_squares_73 : decode cX11_squares 73 = .ok (.aload_n 0, 1) := by decide +kernel
theorem dX11_squares_74 : decode cX11_squares 74 = .ok (.lload_n 3, 1) := by decide +kernel
theorem dX11_squares_75 : decode cX11_squares 75 = .ok (.invokevirtual 278, 3) := by decide +kernel
theorem dX11_squares_78 : decode cX11_squares 78 = .ok (.lload_n 3, 1) := by decide +kernel
theorem dX11_squares_79 : decode cX11_squares 79 = .ok (.invokestatic 321, 3) := by decide +kernel
theorem dX11_squares_82 : decode cX11_squares 82 = .ok (.ireturn, 1) := by decide +kernel
theorem dX11_findFar_0 : decode cX11_findFar 0 = .ok (.iconst 0, 1) := by decide +kernel
theorem dX11_findFar_1 : decode cX11_findFar 1 = .ok (.istore 4, 2) := by decide +kernel
theorem dX11_findFar_3 : decode cX11_findFar 3 = .ok (.iload 4, 2) := by decide +kernel
theorem dX11_findFar_5 : decode cX11_findFar 5 = .ok (.bipush 64, 2) := by decide +kernel
theorem dX11_findFar_7 : decode cX11_findFar 7 = .ok (.if_icmp .ge 19, 3) := by decide +kernel
theorem dX11_findFar_10 : decode cX11_findFar 10 = .ok (.aload_n 0, 1) := by decide +kernel
theorem dX11_findFar_11 : decode cX11_findFar 11 = .ok (.getfield 64, 3) := by decide +kernel
theorem dX11_findFar_14 : decode cX11_findFar 14 = .ok (.iload 4, 2) := by decide +kernel
theorem dX11_findFar_16 : decode cX11_findFar 16 = .ok (.ldc_w 329, 3) := by decide +kernel
theorem dX11_findFar_19 : decode cX11_findFar 19 = .ok (.iastore, 1) := by decide +kernel
theorem dX11_findFar_20 : decode cX11_findFar 20 = .ok (.iinc 4 1, 3) := by decide +kernel
theorem dX11_findFar_23 : decode cX11_findFar 23 = .ok (.goto (-20), 3) := by decide +kernel
theorem dX11_findFar_26 : decode cX11_findFar 26 = .ok (.lconst 1, 1) := by decide +kernel
theorem dX11_findFar_27 : decode cX11_findFar 27 = .ok (.iload_n 1, 1) := by decide +kernel
theorem dX11_findFar_28 : decode cX11_findFar 28 = .ok (.lshl, 1) := by decide +kernel
theorem dX11_findFar_29 : decode cX11_findFar 29 = .ok (.lload_n 2, 1) := by decide +kernel
theorem dX11_findFar_30 : decode cX11_findFar 30 = .ok (.land, 1) := by decide +kernel
theorem dX11_findFar_31 : decode cX11_findFar 31 = .ok (.lstore 4, 2) := by decide +kernel
theorem dX11_findFar_33 : decode cX11_findFar 33 = .ok (.lconst 0, 1) := by decide +kernel
theorem dX11_findFar_34 : decode cX11_findFar 34 = .ok (.lstore 6, 2) := by decide +kernel
theorem dX11_findFar_36 : decode cX11_findFar 36 = .ok (.iconst 0, 1) := by decide +kernel
theorem dX11_findFar_37 : decode cX11_findFar 37 = .ok (.istore 8, 2) := by decide +kernel
theorem dX11_findFar_39 : decode cX11_findFar 39 = .ok (.lload 4, 2) := by decide +kernel
theorem dX11_findFar_41 : decode cX11_findFar 41 = .ok (.lconst 0, 1) := by decide +kernel
theorem dX11_findFar_42 : decode cX11_findFar 42 = .ok (.lcmp, 1) := by decide +kernel
theorem dX11_findFar_43 : decode cX11_findFar 43 = .ok (.ifCond .eq 67, 3) := by decide +kernel
theorem dX11_findFar_46 : decode cX11_findFar 46 = .ok (.iconst 0, 1) := by decide +kernel
theorem dX11_findFar_47 : decode cX11_findFar 47 = .ok (.istore 9, 2) := by decide +kernel
theorem dX11_findFar_49 : decode cX11_findFar 49 = .ok (.iload 9, 2) := by decide +kernel
theorem dX11_findFar_51 : decode cX11_findFar 51 = .ok (.bipush 64, 2) := by decide +kernel
theorem dX11_findFar_53 : decode cX11_findFar 53 = .ok (.if_icmp .ge 28, 3) := by decide +kernel
theorem dX11_findFar_56 : decode cX11_findFar 56 = .ok (.lload 4, 2) := by decide +kernel
theorem dX11_findFar_58 : decode cX11_findFar 58 = .ok (.iload 9, 2) := by decide +kernel
theorem dX11_findFar_60 : decode cX11_findFar 60 = .ok (.invokestatic 215, 3) := by decide +kernel
theorem dX11_findFar_63 : decode cX11_findFar 63 = .ok (.ifCond .eq 12, 3) := by decide +kernel
theorem dX11_findFar_66 : decode cX11_findFar 66 = .ok (.aload_n 0, 1) := by decide +kernel
theorem dX11_findFar_67 : decode cX11_findFar 67 = .ok (.getfield 64, 3) := by decide +kernel
theorem dX11_findFar_70 : decode cX11_findFar 70 = .ok (.iload 9, 2) := by decide +kernel
theorem dX11_findFar_72 : decode cX11_findFar 72 = .ok (.iload 8, 2) := by decide +kernel
theorem dX11_findFar_74 : decode cX11_findFar 74 = .ok (.iastore, 1) := by decide +kernel
theorem dX11_findFar_75 : decode cX11_findFar 75 = .ok (.iinc 9 1, 3) := by decide +kernel
theorem dX11_findFar_78 : decode cX11_findFar 78 = .ok (.goto (-29), 3) := by decide +kernel
theorem dX11_findFar_81 : decode cX11_findFar 81 = .ok (.lload 6, 2) := by decide +kernel
theorem dX11_findFar_83 : decode cX11_findFar 83 = .ok (.lload 4, 2) := by decide +kernel
theorem dX11_findFar_85 : decode cX11_findFar 85 = .ok (.lor, 1) := by decide +kernel
theorem dX11_findFar_86 : decode cX11_findFar 86 = .ok (.lstore 6, 2) := by decide +kernel
theorem dX11_findFar_88 : decode cX11_findFar 88 = .ok (.lload 4, 2) := by decide +kernel
theorem dX11_findFar_90 : decode cX11_findFar 90 = .ok (.invokestatic 309, 3) := by decide +kernel
theorem dX11_findFar_93 : decode cX11_findFar 93 = .ok (.lload_n 2, 1) := by decide +kernel
theorem dX11_findFar_94 : decode cX11_findFar 94 = .ok (.land, 1) := by decide +kernel
theorem dX11_findFar_95 : decode cX11_findFar 95 = .ok (.lload 6, 2) := by decide +kernel
theorem dX11_findFar_97 : decode cX11_findFar 97 = .ok (.ldc2_w 327, 3) := by decide +kernel
theorem dX11_findFar_100 : decode cX11_findFar 100 = .ok (.lxor, 1) := by decide +kernel
theorem dX11_findFar_101 : decode cX11_findFar 101 = .ok (.land, 1) := by decide +kernel
theorem dX11_findFar_102 : decode cX11_findFar 102 = .ok (.lstore 4, 2) := by decide +kernel
theorem dX11_findFar_104 : decode cX11_findFar 104 = .ok (.iinc 8 1, 3) := by decide +kernel
theorem dX11_findFar_107 : decode cX11_findFar 107 = .ok (.goto (-68), 3) := by decide +kernel
theorem dX11_findFar_110 : decode cX11_findFar 110 = .ok (.return_, 1) := by decide +kernel
theorem dX11_cart_0 : decode cX11_cart 0 = .ok (.aload_n 0, 1) := by decide +kernel
theorem dX11_cart_1 : decode cX11_cart 1 = .ok (.iconst 0, 1) := by decide +kernel
theorem dX11_cart_2 : decode cX11_cart 2 = .ok (.putfield 89, 3) := by decide +kernel
theorem dX11_cart_5 : decode cX11_cart 5 = .ok (.aload_n 0, 1) := by decide +kernel
theorem dX11_cart_6 : decode cX11_cart 6 = .ok (.iload_n 1, 1) := by decide +kernel
theorem dX11_cart_7 : decode cX11_cart 7 = .ok (.invokevirtual 157, 3) := by decide +kernel
theorem dX11_cart_10 : decode cX11_cart 10 = .ok (.ifCond .eq 11, 3) := by decide +kernel
theorem dX11_cart_13 : decode cX11_cart 13 = .ok (.aload_n 0, 1) := by decide +kernel
theorem dX11_cart_14 : decode cX11_cart 14 = .ok (.iload_n 2, 1) := by decide +kernel
theorem dX11_cart_15 : decode cX11_cart 15 = .ok (.invokevirtual 157, 3) := by decide +kernel
theorem dX11_cart_18 : decode cX11_cart 18 = .ok (.ifCond .ne 5, 3) := by decide +kernel
theorem dX11_cart_21 : decode cX11_cart 21 = .ok (.iconst (-1), 1) := by decide +kernel
theorem dX11_cart_22 : decode cX11_cart 22 = .ok (.ireturn, 1) := by decide +kernel
theorem dX11_cart_23 : decode cX11_cart 23 = .ok (.aload_n 0, 1) := by decide +kernel
theorem dX11_cart_24 : decode cX11_cart 24 = .ok (.iload_n 2, 1) := by decide +kernel
theorem dX11_cart_25 : decode cX11_cart 25 = .ok (.aload_n 0, 1) := by decide +kernel
theorem dX11_cart_26 : decode cX11_cart 26 = .ok (.aload_n 0, 1) := by decide +kernel
theorem dX11_cart_27 : decode cX11_cart 27 = .ok (.getfield 9, 3) := by decide +kernel
theorem dX11_cart_30 : decode cX11_cart 30 = .ok (.invokevirtual 313, 3) := by decide +kernel
theorem dX11_cart_33 : decode cX11_cart 33 = .ok (.invokevirtual 330, 3) := by decide +kernel
theorem dX11_cart_36 : decode cX11_cart 36 = .ok (.aload_n 0, 1) := by decide +kernel
theorem dX11_cart_37 : decode cX11_cart 37 = .ok (.getfield 64, 3) := by decide +kernel
theorem dX11_cart_40 : decode cX11_cart 40 = .ok (.iload_n 1, 1) := by decide +kernel
theorem dX11_cart_41 : decode cX11_cart 41 = .ok (.iaload, 1) := by decide +kernel
theorem dX11_cart_42 : decode cX11_cart 42 = .ok (.ldc_w 329, 3) := by decide +kernel
theorem dX11_cart_45 : decode cX11_cart 45 = .ok (.if_icmp .ne 6, 3) := by decide +kernel
theorem dX11_cart_48 : decode cX11_cart 48 = .ok (.bipush (-2), 2) := by decide +kernel
theorem dX11_cart_50 : decode cX11_cart 50 = .ok (.ireturn, 1) := by decide +kernel
theorem dX11_cart_51 : decode cX11_cart 51 = .ok (.aload_n 0, 1) := by decide +kernel
theorem dX11_cart_52 : decode cX11_cart 52 = .ok (.iconst 0, 1) := by decide +kernel
theorem dX11_cart_53 : decode cX11_cart 53 = .ok (.putfield 92, 3) := by decide +kernel
theorem dX11_cart_56 : decode cX11_cart 56 = .ok (.iload_n 1, 1) := by decide +kernel
theorem dX11_cart_57 : decode cX11_cart 57 = .ok (.istore_n 3, 1) := by decide +kernel
theorem dX11_cart_58 : decode cX11_cart 58 = .ok (.aload_n 0, 1) := by decide +kernel
theorem dX11_cart_59 : decode cX11_cart 59 = .ok (.iload_n 3, 1) := by decide +kernel
theorem dX11_cart_60 : decode cX11_cart 60 = .ok (.i2l, 1) := by decide +kernel
theorem dX11_cart_61 : decode cX11_cart 61 = .ok (.invokevirtual 278, 3) := by decide +kernel
theorem dX11_cart_64 : decode cX11_cart 64 = .ok (.iconst 1, 1) := by decide +kernel
theorem dX11_cart_65 : decode cX11_cart 65 = .ok (.istore 4, 2) := by decide +kernel
theorem dX11_cart_67 : decode cX11_cart 67 = .ok (.iload 4, 2) := by decide +kernel
theorem dX11_cart_69 : decode cX11_cart 69 = .ok (.aload_n 0, 1) := by decide +kernel
theorem dX11_cart_70 : decode cX11_cart 70 = .ok (.getfield 64, 3) := by decide +kernel
theorem dX11_cart_73 : decode cX11_cart 73 = .ok (.iload_n 1, 1) := by decide +kernel
theorem dX11_cart_74 : decode cX11_cart 74 = .ok (.iaload, 1) := by decide +kernel
theorem dX11_cart_75 : decode cX11_cart 75 = .ok (.if_icmp .gt 70, 3) := by decide +kernel
theorem dX11_cart_78 : decode cX11_cart 78 = .ok (.iload 4, 2) := by decide +kernel
theorem dX11_cart_80 : decode cX11_cart 80 = .ok (.bipush 14, 2) := by decide +kernel
theorem dX11_cart_82 : decode cX11_cart 82 = .ok (.if_icmp .ge 63, 3) := by decide +kernel
theorem dX11_cart_85 : decode cX11_cart 85 = .ok (.lconst 1, 1) := by decide +kernel
theorem dX11_cart_86 : decode cX11_cart 86 = .ok (.iload_n 3, 1) := by decide +kernel
theorem dX11_cart_87 : decode cX11_cart 87 = .ok (.lshl, 1) := by decide +kernel
theorem dX11_cart_88 : decode cX11_cart 88 = .ok (.invokestatic 309, 3) := by decide +kernel
theorem dX11_cart_91 : decode cX11_cart 91 = .ok (.lstore 5, 2) := by decide +kernel
theorem dX11_cart_93 : decode cX11_cart 93 = .ok (.iconst 0, 1) := by decide +kernel
theorem dX11_cart_94 : decode cX11_cart 94 = .ok (.istore 7, 2) := by decide +kernel
theorem dX11_cart_96 : decode cX11_cart 96 = .ok (.lload 5, 2) := by decide +kernel
theorem dX11_cart_98 : decode cX11_cart 98 = .ok (.iload 7, 2) := by decide +kernel
theorem dX11_cart_100 : decode cX11_cart 100 = .ok (.invokestatic 215, 3) := by decide +kernel
theorem dX11_cart_103 : decode cX11_cart 103 = .ok (.ifCond .eq 21, 3) := by decide +kernel
theorem dX11_cart_106 : decode cX11_cart 106 = .ok (.aload_n 0, 1) := by decide +kernel
theorem dX11_cart_107 : decode cX11_cart 107 = .ok (.getfield 64, 3) := by decide +kernel
theorem dX11_cart_110 : decode cX11_cart 110 = .ok (.iload 7, 2) := by decide +kernel
theorem dX11_cart_112 : decode cX11_cart 112 = .ok (.iaload, 1) := by decide +kernel
theorem dX11_cart_113 : decode cX11_cart 113 = .ok (.aload_n 0, 1) := by decide +kernel
theorem dX11_cart_114 : decode cX11_cart 114 = .ok (.getfield 64, 3) := by decide +kernel
theorem dX11_cart_117 : decode cX11_cart 117 = .ok (.iload_n 3, 1) := by decide +kernel
theorem dX11_cart_118 : decode cX11_cart 118 = .ok (.iaload, 1) := by decide +kernel
theorem dX11_cart_119 : decode cX11_cart 119 = .ok (.iconst 1, 1) := by decide +kernel
theorem dX11_cart_120 : decode cX11_cart 120 = .ok (.isub, 1) := by decide +kernel
theorem dX11_cart_121 : decode cX11_cart 121 = .ok (.if_icmp .eq 9, 3) := by decide +kernel
theorem dX11_cart_124 : decode cX11_cart 124 = .ok (.iinc 7 1, 3) := by decide +kernel
theorem dX11_cart_127 : decode cX11_cart 127 = .ok (.goto (-31), 3) := by decide +kernel
theorem dX11_cart_130 : decode cX11_cart 130 = .ok (.iload 7, 2) := by decide +kernel
theorem dX11_cart_132 : decode cX11_cart 132 = .ok (.istore_n 3, 1) := by decide +kernel
theorem dX11_cart_133 : decode cX11_cart 133 = .ok (.aload_n 0, 1) := by decide +kernel
theorem dX11_cart_134 : decode cX11_cart 134 = .ok (.iload_n 3, 1) := by decide +kernel
theorem dX11_cart_135 : decode cX11_cart 135 = .ok (.i2l, 1) := by decide +kernel
theorem dX11_cart_136 : decode cX11_cart 136 = .ok (.invokevirtual 278, 3) := by decide +kernel
theorem dX11_cart_139 : decode cX11_cart 139 = .ok (.iinc 4 1, 3) := by decide +kernel
theorem dX11_cart_142 : decode cX11_cart 142 = .ok (.goto (-75), 3) := by decide +kernel
theorem dX11_cart_145 : decode cX11_cart 145 = .ok (.aload_n 0, 1) := by decide +kernel
theorem dX11_cart_146 : decode cX11_cart 146 = .ok (.getfield 64, 3) := by decide +kernel
theorem dX11_cart_149 : decode cX11_cart 149 = .ok (.iload_n 1, 1) := by decide +kernel
theorem dX11_cart_150 : decode cX11_cart 150 = .ok (.iaload, 1) := by decide +kernel
theorem dX11_cart_151 : decode cX11_cart 151 = .ok (.ireturn, 1) := by decide +kernel
theorem dX11_joined_0 : decode cX11_joined 0 = .ok (.aload_n 0, 1) := by decide +kernel
theorem dX11_joined_1 : decode cX11_joined 1 = .ok (.iconst 0, 1) := by decide +kernel
theorem dX11_joined_2 : decode cX11_joined 2 = .ok (.putfield 89, 3) := by decide +kernel
theorem dX11_joined_5 : decode cX11_joined 5 = .ok (.aload_n 0, 1) := by decide +kernel
theorem dX11_joined_6 : decode cX11_joined 6 = .ok (.iload_n 1, 1) := by decide +kernel
theorem dX11_joined_7 : decode cX11_joined 7 = .ok (.invokevirtual 237, 3) := by decide +kernel
theorem dX11_joined_10 : decode cX11_joined 10 = .ok (.ifCond .ne 5, 3) := by decide +kernel
theorem dX11_joined_13 : decode cX11_joined 13 = .ok (.iconst (-1), 1) := by decide +kernel
theorem dX11_joined_14 : decode cX11_joined 14 = .ok (.ireturn, 1) := by decide +kernel
theorem dX11_joined_15 : decode cX11_joined 15 = .ok (.aload_n 0, 1) := by decide +kernel
theorem dX11_joined_16 : decode cX11_joined 16 = .ok (.aload_n 0, 1) := by decide +kernel
theorem dX11_joined_17 : decode cX11_joined 17 = .ok (.getfield 9, 3) := by decide +kernel
theorem dX11_joined_20 : decode cX11_joined 20 = .ok (.invokevirtual 313, 3) := by decide +kernel
theorem dX11_joined_23 : decode cX11_joined 23 = .ok (.lstore_n 2, 1) := by decide +kernel
theorem dX11_joined_24 : decode cX11_joined 24 = .ok (.lload_n 2, 1) := by decide +kernel
theorem dX11_joined_25 : decode cX11_joined 25 = .ok (.aload_n 0, 1) := by decide +kernel
theorem dX11_joined_26 : decode cX11_joined 26 = .ok (.getfield 9, 3) := by decide +kernel
theorem dX11_joined_29 : decode cX11_joined 29 = .ok (.sipush 320, 3) := by decide +kernel
theorem dX11_joined_32 : decode cX11_joined 32 = .ok (.iload_n 1, 1) := by decide +kernel
theorem dX11_joined_33 : decode cX11_joined 33 = .ok (.iadd, 1) := by decide +kernel
theorem dX11_joined_34 : decode cX11_joined 34 = .ok (.iaload, 1) := by decide +kernel
theorem dX11_joined_35 : decode cX11_joined 35 = .ok (.invokestatic 215, 3) := by decide +kernel
theorem dX11_joined_38 : decode cX11_joined 38 = .ok (.ifCond .ne 6, 3) := by decide +kernel
theorem dX11_joined_41 : decode cX11_joined 41 = .ok (.bipush (-2), 2) := by decide +kernel
theorem dX11_joined_43 : decode cX11_joined 43 = .ok (.ireturn, 1) := by decide +kernel
theorem dX11_joined_44 : decode cX11_joined 44 = .ok (.lconst 1, 1) := by decide +kernel
theorem dX11_joined_45 : decode cX11_joined 45 = .ok (.aload_n 0, 1) := by decide +kernel
theorem dX11_joined_46 : decode cX11_joined 46 = .ok (.getfield 9, 3) := by decide +kernel
theorem dX11_joined_49 : decode cX11_joined 49 = .ok (.sipush 320, 3) := by decide +kernel
theorem dX11_joined_52 : decode cX11_joined 52 = .ok (.iload_n 1, 1) := by decide +kernel
theorem dX11_joined_53 : decode cX11_joined 53 = .ok (.iadd, 1) := by decide +kernel
theorem dX11_joined_54 : decode cX11_joined 54 = .ok (.iaload, 1) := by decide +kernel
theorem dX11_joined_55 : decode cX11_joined 55 = .ok (.lshl, 1) := by decide +kernel
theorem dX11_joined_56 : decode cX11_joined 56 = .ok (.lload_n 2, 1) := by decide +kernel
theorem dX11_joined_57 : decode cX11_joined 57 = .ok (.invokestatic 317, 3) := by decide +kernel
theorem dX11_joined_60 : decode cX11_joined 60 = .ok (.lstore 4, 2) := by decide +kernel
theorem dX11_joined_62 : decode cX11_joined 62 = .ok (.iconst 0, 1) := by decide +kernel
theorem dX11_joined_63 : decode cX11_joined 63 = .ok (.istore 6, 2) := by decide +kernel
theorem dX11_joined_65 : decode cX11_joined 65 = .ok (.iconst 0, 1) := by decide +kernel
theorem dX11_joined_66 : decode cX11_joined 66 = .ok (.istore 7, 2) := by decide +kernel
theorem dX11_joined_68 : decode cX11_joined 68 = .ok (.iload 7, 2) := by decide +kernel
theorem dX11_joined_70 : decode cX11_joined 70 = .ok (.aload_n 0, 1) := by decide +kernel
theorem dX11_joined_71 : decode cX11_joined 71 = .ok (.getfield 105, 3) := by decide +kernel
theorem dX11_joined_74 : decode cX11_joined 74 = .ok (.if_icmp .ge 41, 3) := by decide +kernel
theorem dX11_joined_77 : decode cX11_joined 77 = .ok (.iload 6, 2) := by decide +kernel
theorem dX11_joined_79 : decode cX11_joined 79 = .ok (.lload 4, 2) := by decide +kernel
theorem dX11_joined_81 : decode cX11_joined 81 = .ok (.aload_n 0, 1) := by decide +kernel
theorem dX11_joined_82 : decode cX11_joined 82 = .ok (.getfield 9, 3) := by decide +kernel
theorem dX11_joined_85 : decode cX11_joined 85 = .ok (.sipush 320, 3) := by decide +kernel
theorem dX11_joined_88 : decode cX11_joined 88 = .ok (.iload 7, 2) := by decide +kernel
theorem dX11_joined_90 : decode cX11_joined 90 = .ok (.iadd, 1) := by decide +kernel
theorem dX11_joined_91 : decode cX11_joined 91 = .ok (.iaload, 1) := by decide +kernel
theorem dX11_joined_92 : decode cX11_joined 92 = .ok (.invokestatic 215, 3) := by decide +kernel
theorem dX11_joined_95 : decode cX11_joined 95 = .ok (.ifCond .eq 10, 3) := by decide +kernel
theorem dX11_joined_98 : decode cX11_joined 98 = .ok (.iconst 1, 1) := by decide +kernel
theorem dX11_joined_99 : decode cX11_joined 99 = .ok (.iload 7, 2) := by decide +kernel
theorem dX11_joined_101 : decode cX11_joined 101 = .ok (.ishl, 1) := by decide +kernel
theorem dX11_joined_102 : decode cX11_joined 102 = .ok (.goto 4, 3) := by decide +kernel
theorem dX11_joined_105 : decode cX11_joined 105 = .ok (.iconst 0, 1) := by decide +kernel
theorem dX11_joined_106 : decode cX11_joined 106 = .ok (.ior, 1) := by decide +kernel
theorem dX11_joined_107 : decode cX11_joined 107 = .ok (.istore 6, 2) := by decide +kernel
theorem dX11_joined_109 : decode cX11_joined 109 = .ok (.iinc 7 1, 3) := by decide +kernel
theorem dX11_joined_112 : decode cX11_joined 112 = .ok (.goto (-44), 3) := by decide +kernel
theorem dX11_joined_115 : decode cX11_joined 115 = .ok (.aload_n 0, 1) := by decide +kernel
theorem dX11_joined_116 : decode cX11_joined 116 = .ok (.iconst 0, 1) := by decide +kernel
theorem dX11_joined_117 : decode cX11_joined 117 = .ok (.putfield 92, 3) := by decide +kernel
theorem dX11_joined_120 : decode cX11_joined 120 = .ok (.aload_n 0, 1) := by decide +kernel
theorem dX11_joined_121 : decode cX11_joined 121 = .ok (.lload 4, 2) := by decide +kernel
theorem dX11_joined_123 : decode cX11_joined 123 = .ok (.invokestatic 321, 3) := by decide +kernel
theorem dX11_joined_126 : decode cX11_joined 126 = .ok (.i2l, 1) := by decide +kernel
theorem dX11_joined_127 : decode cX11_joined 127 = .ok (.invokevirtual 278, 3) := by decide +kernel
theorem dX11_joined_130 : decode cX11_joined 130 = .ok (.iload 6, 2) := by decide +kernel
theorem dX11_joined_132 : decode cX11_joined 132 = .ok (.ireturn, 1) := by decide +kernel
theorem dX11_owners_0 : decode cX11_owners 0 = .ok (.aload_n 0, 1) := by decide +kernel
theorem dX11_owners_1 : decode cX11_owners 1 = .ok (.iconst 0, 1) := by decide +kernel
theorem dX11_owners_2 : decode cX11_owners 2 = .ok (.putfield 89, 3) := by decide +kernel
theorem dX11_owners_5 : decode cX11_owners 5 = .ok (.aload_n 0, 1) := by decide +kernel
theorem dX11_owners_6 : decode cX11_owners 6 = .ok (.getfield 105, 3) := by decide +kernel
theorem dX11_owners_9 : decode cX11_owners 9 = .ok (.ifCond .ne 6, 3) := by decide +kernel
theorem dX11_owners_12 : decode cX11_owners 12 = .ok (.bipush (-2), 2) := by decide +kernel
theorem dX11_owners_14 : decode cX11_owners 14 = .ok (.ireturn, 1) := by decide +kernel
theorem dX11_owners_15 : decode cX11_owners 15 = .ok (.iconst 0, 1) := by decide +kernel
theorem dX11_owners_16 : decode cX11_owners 16 = .ok (.istore_n 1, 1) := by decide +kernel
theorem dX11_owners_17 : decode cX11_owners 17 = .ok (.iconst (-1), 1) := by decide +kernel
theorem dX11_owners_18 : decode cX11_owners 18 = .ok (.istore_n 2, 1) := by decide +kernel
theorem dX11_owners_19 : decode cX11_owners 19 = .ok (.aload_n 0, 1) := by decide +kernel
theorem dX11_owners_20 : decode cX11_owners 20 = .ok (.aload_n 0, 1) := by decide +kernel
theorem dX11_owners_21 : decode cX11_owners 21 = .ok (.getfield 9, 3) := by decide +kernel
theorem dX11_owners_24 : decode cX11_owners 24 = .ok (.invokevirtual 313, 3) := by decide +kernel
theorem dX11_owners_27 : decode cX11_owners 27 = .ok (.lstore_n 3, 1) := by decide +kernel
theorem dX11_owners_28 : decode cX11_owners 28 = .ok (.aload_n 0, 1) := by decide +kernel
theorem dX11_owners_29 : decode cX11_owners 29 = .ok (.iconst 0, 1) := by decide +kernel
theorem dX11_owners_30 : decode cX11_owners 30 = .ok (.putfield 92, 3) := by decide +kernel
theorem dX11_owners_33 : decode cX11_owners 33 = .ok (.iconst 0, 1) := by decide +kernel
theorem dX11_owners_34 : decode cX11_owners 34 = .ok (.istore 5, 2) := by decide +kernel
theorem dX11_owners_36 : decode cX11_owners 36 = .ok (.iload 5, 2) := by decide +kernel
theorem dX11_owners_38 : decode cX11_owners 38 = .ok (.aload_n 0, 1) := by decide +kernel
theorem dX11_owners_39 : decode cX11_owners 39 = .ok (.getfield 105, 3) := by decide +kernel
theorem dX11_owners_42 : decode cX11_owners 42 = .ok (.if_icmp .ge 85, 3) := by decide +kernel
theorem dX11_owners_45 : decode cX11_owners 45 = .ok (.iconst 0, 1) := by decide +kernel
theorem dX11_owners_46 : decode cX11_owners 46 = .ok (.istore 6, 2) := by decide +kernel
theorem dX11_owners_48 : decode cX11_owners 48 = .ok (.iconst 0, 1) := by decide +kernel
theorem dX11_owners_49 : decode cX11_owners 49 = .ok (.istore 7, 2) := by decide +kernel
theorem dX11_owners_51 : decode cX11_owners 51 = .ok (.iload 7, 2) := by decide +kernel
theorem dX11_owners_53 : decode cX11_owners 53 = .ok (.bipush 64, 2) := by decide +kernel
theorem dX11_owners_55 : decode cX11_owners 55 = .ok (.if_icmp .ge 44, 3) := by decide +kernel
theorem dX11_owners_58 : decode cX11_owners 58 = .ok (.iload 6, 2) := by decide +kernel
theorem dX11_owners_60 : decode cX11_owners 60 = .ok (.lload_n 3, 1) := by decide +kernel
theorem dX11_owners_61 : decode cX11_owners 61 = .ok (.iload 7, 2) := by decide +kernel
theorem dX11_owners_63 : decode cX11_owners 63 = .ok (.invokestatic 215, 3) := by decide +kernel
theorem dX11_owners_66 : decode cX11_owners 66 = .ok (.ifCond .eq 23, 3) := by decide +kernel
theorem dX11_owners_69 : decode cX11_owners 69 = .ok (.aload_n 0, 1) := by decide +kernel
theorem dX11_owners_70 : decode cX11_owners 70 = .ok (.getfield 9, 3) := by decide +kernel
theorem dX11_owners_73 : decode cX11_owners 73 = .ok (.sipush 256, 3) := by decide +kernel
theorem dX11_owners_76 : decode cX11_owners 76 = .ok (.iload 7, 2) := by decide +kernel
theorem dX11_owners_78 : decode cX11_owners 78 = .ok (.iadd, 1) := by decide +kernel
theorem dX11_owners_79 : decode cX11_owners 79 = .ok (.iaload, 1) := by decide +kernel
theorem dX11_owners_80 : decode cX11_owners 80 = .ok (.iload 5, 2) := by decide +kernel
theorem dX11_owners_82 : decode cX11_owners 82 = .ok (.if_icmp .ne 7, 3) := by decide +kernel
theorem dX11_owners_85 : decode cX11_owners 85 = .ok (.iconst 1, 1) := by decide +kernel
theorem dX11_owners_86 : decode cX11_owners 86 = .ok (.goto 4, 3) := by decide +kernel
theorem dX11_owners_89 : decode cX11_owners 89 = .ok (.iconst 0, 1) := by decide +kernel
theorem dX11_owners_90 : decode cX11_owners 90 = .ok (.iadd, 1) := by decide +kernel
theorem dX11_owners_91 : decode cX11_owners 91 = .ok (.istore 6, 2) := by decide +kernel
theorem dX11_owners_93 : decode cX11_owners 93 = .ok (.iinc 7 1, 3) := by decide +kernel
theorem dX11_owners_96 : decode cX11_owners 96 = .ok (.goto (-45), 3) := by decide +kernel
theorem dX11_owners_99 : decode cX11_owners 99 = .ok (.aload_n 0, 1) := by decide +kernel
theorem dX11_owners_100 : decode cX11_owners 100 = .ok (.iload 6, 2) := by decide +kernel
theorem dX11_owners_102 : decode cX11_owners 102 = .ok (.i2l, 1) := by decide +kernel
theorem dX11_owners_103 : decode cX11_owners 103 = .ok (.invokevirtual 278, 3) := by decide +kernel
theorem dX11_owners_106 : decode cX11_owners 106 = .ok (.iload 6, 2) := by decide +kernel
theorem dX11_owners_108 : decode cX11_owners 108 = .ok (.iload_n 2, 1) := by decide +kernel
theorem dX11_owners_109 : decode cX11_owners 109 = .ok (.if_icmp .gt 6, 3) := by decide +kernel
theorem dX11_owners_112 : decode cX11_owners 112 = .ok (.goto 9, 3) := by decide +kernel
theorem dX11_owners_115 : decode cX11_owners 115 = .ok (.iload 5, 2) := by decide +kernel
theorem dX11_owners_117 : decode cX11_owners 117 = .ok (.istore_n 1, 1) := by decide +kernel
theorem dX11_owners_118 : decode cX11_owners 118 = .ok (.iload 6, 2) := by decide +kernel
theorem dX11_owners_120 : decode cX11_owners 120 = .ok (.istore_n 2, 1) := by decide +kernel
theorem dX11_owners_121 : decode cX11_owners 121 = .ok (.iinc 5 1, 3) := by decide +kernel
theorem dX11_owners_124 : decode cX11_owners 124 = .ok (.goto (-88), 3) := by decide +kernel
theorem dX11_owners_127 : decode cX11_owners 127 = .ok (.iload_n 1, 1) := by decide +kernel
theorem dX11_owners_128 : decode cX11_owners 128 = .ok (.ireturn, 1) := by decide +kernel
theorem dX11_pieceOfAll_0 : decode cX11_pieceOfAll 0 = .ok (.aload_n 0, 1) := by decide +kernel
theorem dX11_pieceOfAll_1 : decode cX11_pieceOfAll 1 = .ok (.getfield 105, 3) := by decide +kernel
theorem dX11_pieceOfAll_4 : decode cX11_pieceOfAll 4 = .ok (.ifCond .ne 5, 3) := by decide +kernel
theorem dX11_pieceOfAll_7 : decode cX11_pieceOfAll 7 = .ok (.lconst 0, 1) := by decide +kernel
theorem dX11_pieceOfAll_8 : decode cX11_pieceOfAll 8 = .ok (.lreturn, 1) := by decide +kernel
theorem dX11_pieceOfAll_9 : decode cX11_pieceOfAll 9 = .ok (.lconst 1, 1) := by decide +kernel
theorem dX11_pieceOfAll_10 : decode cX11_pieceOfAll 10 = .ok (.aload_n 1, 1) := by decide +kernel
theorem dX11_pieceOfAll_11 : decode cX11_pieceOfAll 11 = .ok (.sipush 320, 3) := by decide +kernel
theorem dX11_pieceOfAll_14 : decode cX11_pieceOfAll 14 = .ok (.iaload, 1) := by decide +kernel
theorem dX11_pieceOfAll_15 : decode cX11_pieceOfAll 15 = .ok (.lshl, 1) := by decide +kernel
theorem dX11_pieceOfAll_16 : decode cX11_pieceOfAll 16 = .ok (.aload_n 0, 1) := by decide +kernel
theorem dX11_pieceOfAll_17 : decode cX11_pieceOfAll 17 = .ok (.aload_n 1, 1) := by decide +kernel
theorem dX11_pieceOfAll_18 : decode cX11_pieceOfAll 18 = .ok (.invokevirtual 313, 3) := by decide +kernel
theorem dX11_pieceOfAll_21 : decode cX11_pieceOfAll 21 = .ok (.invokestatic 317, 3) := by decide +kernel
theorem dX11_pieceOfAll_24 : decode cX11_pieceOfAll 24 = .ok (.lstore_n 2, 1) := by decide +kernel
theorem dX11_pieceOfAll_25 : decode cX11_pieceOfAll 25 = .ok (.iconst 0, 1) := by decide +kernel
theorem dX11_pieceOfAll_26 : decode cX11_pieceOfAll 26 = .ok (.istore 4, 2) := by decide +kernel
theorem dX11_pieceOfAll_28 : decode cX11_pieceOfAll 28 = .ok (.iload 4, 2) := by decide +kernel
theorem dX11_pieceOfAll_30 : decode cX11_pieceOfAll 30 = .ok (.aload_n 0, 1) := by decide +kernel
theorem dX11_pieceOfAll_31 : decode cX11_pieceOfAll 31 = .ok (.getfield 105, 3) := by decide +kernel
theorem dX11_pieceOfAll_34 : decode cX11_pieceOfAll 34 = .ok (.if_icmp .ge 26, 3) := by decide +kernel
theorem dX11_pieceOfAll_37 : decode cX11_pieceOfAll 37 = .ok (.lload_n 2, 1) := by decide +kernel
theorem dX11_pieceOfAll_38 : decode cX11_pieceOfAll 38 = .ok (.aload_n 1, 1) := by decide +kernel
theorem dX11_pieceOfAll_39 : decode cX11_pieceOfAll 39 = .ok (.sipush 320, 3) := by decide +kernel
theorem dX11_pieceOfAll_42 : decode cX11_pieceOfAll 42 = .ok (.iload 4, 2) := by decide +kernel
theorem dX11_pieceOfAll_44 : decode cX11_pieceOfAll 44 = .ok (.iadd, 1) := by decide +kernel
theorem dX11_pieceOfAll_45 : decode cX11_pieceOfAll 45 = .ok (.iaload, 1) := by decide +kernel
theorem dX11_pieceOfAll_46 : decode cX11_pieceOfAll 46 = .ok (.invokestatic 215, 3) := by decide +kernel
theorem dX11_pieceOfAll_49 : decode cX11_pieceOfAll 49 = .ok (.ifCond .ne 5, 3) := by decide +kernel
theorem dX11_pieceOfAll_52 : decode cX11_pieceOfAll 52 = .ok (.lconst 0, 1) := by decide +kernel
theorem dX11_pieceOfAll_53 : decode cX11_pieceOfAll 53 = .ok (.lreturn, 1) := by decide +kernel
theorem dX11_pieceOfAll_54 : decode cX11_pieceOfAll 54 = .ok (.iinc 4 1, 3) := by decide +kernel
theorem dX11_pieceOfAll_57 : decode cX11_pieceOfAll 57 = .ok (.goto (-29), 3) := by decide +kernel
theorem dX11_pieceOfAll_60 : decode cX11_pieceOfAll 60 = .ok (.lload_n 2, 1) := by decide +kernel
theorem dX11_pieceOfAll_61 : decode cX11_pieceOfAll 61 = .ok (.lreturn, 1) := by decide +kernel
theorem dX11_least_0 : decode cX11_least 0 = .ok (.aload_n 0, 1) := by decide +kernel
theorem dX11_least_1 : decode cX11_least 1 = .ok (.iconst 0, 1) := by decide +kernel
theorem dX11_least_2 : decode cX11_least 2 = .ok (.putfield 89, 3) := by decide +kernel
theorem dX11_least_5 : decode cX11_least 5 = .ok (.aload_n 0, 1) := by decide +kernel
theorem dX11_least_6 : decode cX11_least 6 = .ok (.getfield 25, 3) := by decide +kernel
theorem dX11_least_9 : decode cX11_least 9 = .ok (.istore_n 1, 1) := by decide +kernel
theorem dX11_least_10 : decode cX11_least 10 = .ok (.bipush (-2), 2) := by decide +kernel
theorem dX11_least_12 : decode cX11_least 12 = .ok (.istore_n 2, 1) := by decide +kernel
theorem dX11_least_13 : decode cX11_least 13 = .ok (.iconst 0, 1) := by decide +kernel
theorem dX11_least_14 : decode cX11_least 14 = .ok (.istore_n 3, 1) := by decide +kernel
theorem dX11_least_15 : decode cX11_least 15 = .ok (.iload_n 3, 1) := by decide +kernel
theorem dX11_least_16 : decode cX11_least 16 = .ok (.bipush 99, 2) := by decide +kernel
theorem dX11_least_18 : decode cX11_least 18 = .ok (.if_icmp .gt 55, 3) := by decide +kernel
theorem dX11_least_21 : decode cX11_least 21 = .ok (.iload_n 2, 1) := by decide +kernel
theorem dX11_least_22 : decode cX11_least 22 = .ok (.ifCond .ge 51, 3) := by decide +kernel
theorem dX11_least_25 : decode cX11_least 25 = .ok (.aload_n 0, 1) := by decide +kernel
theorem dX11_least_26 : decode cX11_least 26 = .ok (.iload_n 3, 1) := by decide +kernel
theorem dX11_least_27 : decode cX11_least 27 = .ok (.putfield 25, 3) := by decide +kernel
theorem dX11_least_30 : decode cX11_least 30 = .ok (.aload_n 0, 1) := by decide +kernel
theorem dX11_least_31 : decode cX11_least 31 = .ok (.aload_n 0, 1) := by decide +kernel
theorem dX11_least_32 : decode cX11_least 32 = .ok (.getfield 9, 3) := by decide +kernel
theorem dX11_least_35 : decode cX11_least 35 = .ok (.invokevirtual 334, 3) := by decide +kernel
theorem dX11_least_38 : decode cX11_least 38 = .ok (.lstore 4, 2) := by decide +kernel
theorem dX11_least_40 : decode cX11_least 40 = .ok (.lload 4, 2) := by decide +kernel
theorem dX11_least_42 : decode cX11_least 42 = .ok (.lconst 0, 1) := by decide +kernel
theorem dX11_least_43 : decode cX11_least 43 = .ok (.lcmp, 1) := by decide +kernel
theorem dX11_least_44 : decode cX11_least 44 = .ok (.ifCond .ne 6, 3) := by decide +kernel
theorem dX11_least_47 : decode cX11_least 47 = .ok (.goto 20, 3) := by decide +kernel
theorem dX11_least_50 : decode cX11_least 50 = .ok (.iload_n 3, 1) := by decide +kernel
theorem dX11_least_51 : decode cX11_least 51 = .ok (.istore_n 2, 1) := by decide +kernel
theorem dX11_least_52 : decode cX11_least 52 = .ok (.aload_n 0, 1) := by decide +kernel
theorem dX11_least_53 : decode cX11_least 53 = .ok (.iconst 0, 1) := by decide +kernel
theorem dX11_least_54 : decode cX11_least 54 = .ok (.putfield 92, 3) := by decide +kernel
theorem dX11_least_57 : decode cX11_least 57 = .ok (.aload_n 0, 1) := by decide +kernel
theorem dX11_least_58 : decode cX11_least 58 = .ok (.lload 4, 2) := by decide +kernel
theorem dX11_least_60 : decode cX11_least 60 = .ok (.invokestatic 321, 3) := by decide +kernel
theorem dX11_least_63 : decode cX11_least 63 = .ok (.i2l, 1) := by decide +kernel
theorem dX11_least_64 : decode cX11_least 64 = .ok (.invokevirtual 278, 3) := by decide +kernel
theorem dX11_least_67 : decode cX11_least 67 = .ok (.iinc 3 1, 3) := by decide +kernel
theorem dX11_least_70 : decode cX11_least 70 = .ok (.goto (-55), 3) := by decide +kernel
theorem dX11_least_73 : decode cX11_least 73 = .ok (.aload_n 0, 1) := by decide +kernel
theorem dX11_least_74 : decode cX11_least 74 = .ok (.iload_n 1, 1) := by decide +kernel
theorem dX11_least_75 : decode cX11_least 75 = .ok (.putfield 25, 3) := by decide +kernel
theorem dX11_least_78 : decode cX11_least 78 = .ok (.iload_n 2, 1) := by decide +kernel
theorem dX11_least_79 : decode cX11_least 79 = .ok (.ireturn, 1) := by decide +kernel
theorem dX11_furthest_0 : decode cX11_furthest 0 = .ok (.aload_n 0, 1) := by decide +kernel
theorem dX11_furthest_1 : decode cX11_furthest 1 = .ok (.iconst 0, 1) := by decide +kernel
theorem dX11_furthest_2 : decode cX11_furthest 2 = .ok (.putfield 89, 3) := by decide +kernel
theorem dX11_furthest_5 : decode cX11_furthest 5 = .ok (.aload_n 0, 1) := by decide +kernel
theorem dX11_furthest_6 : decode cX11_furthest 6 = .ok (.iload_n 1, 1) := by decide +kernel
theorem dX11_furthest_7 : decode cX11_furthest 7 = .ok (.invokevirtual 157, 3) := by decide +kernel
theorem dX11_furthest_10 : decode cX11_furthest 10 = .ok (.ifCond .ne 5, 3) := by decide +kernel
theorem dX11_furthest_13 : decode cX11_furthest 13 = .ok (.iconst (-1), 1) := by decide +kernel
theorem dX11_furthest_14 : decode cX11_furthest 14 = .ok (.ireturn, 1) := by decide +kernel
theorem dX11_furthest_15 : decode cX11_furthest 15 = .ok (.aload_n 0, 1) := by decide +kernel
theorem dX11_furthest_16 : decode cX11_furthest 16 = .ok (.aload_n 0, 1) := by decide +kernel
theorem dX11_furthest_17 : decode cX11_furthest 17 = .ok (.getfield 9, 3) := by decide +kernel
theorem dX11_furthest_20 : decode cX11_furthest 20 = .ok (.invokevirtual 313, 3) := by decide +kernel
theorem dX11_furthest_23 : decode cX11_furthest 23 = .ok (.lstore_n 2, 1) := by decide +kernel
theorem dX11_furthest_24 : decode cX11_furthest 24 = .ok (.lload_n 2, 1) := by decide +kernel
theorem dX11_furthest_25 : decode cX11_furthest 25 = .ok (.iload_n 1, 1) := by decide +kernel
theorem dX11_furthest_26 : decode cX11_furthest 26 = .ok (.invokestatic 215, 3) := by decide +kernel
theorem dX11_furthest_29 : decode cX11_furthest 29 = .ok (.ifCond .ne 6, 3) := by decide +kernel
theorem dX11_furthest_32 : decode cX11_furthest 32 = .ok (.bipush (-2), 2) := by decide +kernel
theorem dX11_furthest_34 : decode cX11_furthest 34 = .ok (.ireturn, 1) := by decide +kernel
theorem dX11_furthest_35 : decode cX11_furthest 35 = .ok (.aload_n 0, 1) := by decide +kernel
theorem dX11_furthest_36 : decode cX11_furthest 36 = .ok (.iload_n 1, 1) := by decide +kernel
theorem dX11_furthest_37 : decode cX11_furthest 37 = .ok (.lload_n 2, 1) := by decide +kernel
theorem dX11_furthest_38 : decode cX11_furthest 38 = .ok (.invokevirtual 330, 3) := by decide +kernel
theorem dX11_furthest_41 : decode cX11_furthest 41 = .ok (.iload_n 1, 1) := by decide +kernel
theorem dX11_furthest_42 : decode cX11_furthest 42 = .ok (.istore 4, 2) := by decide +kernel
theorem dX11_furthest_44 : decode cX11_furthest 44 = .ok (.iconst 0, 1) := by decide +kernel
theorem dX11_furthest_45 : decode cX11_furthest 45 = .ok (.istore 5, 2) := by decide +kernel
theorem dX11_furthest_47 : decode cX11_furthest 47 = .ok (.iload 5, 2) := by decide +kernel
theorem dX11_furthest_49 : decode cX11_furthest 49 = .ok (.bipush 64, 2) := by decide +kernel
theorem dX11_furthest_51 : decode cX11_furthest 51 = .ok (.if_icmp .ge 67, 3) := by decide +kernel
theorem dX11_furthest_54 : decode cX11_furthest 54 = .ok (.aload_n 0, 1) := by decide +kernel
theorem dX11_furthest_55 : decode cX11_furthest 55 = .ok (.getfield 64, 3) := by decide +kernel
theorem dX11_furthest_58 : decode cX11_furthest 58 = .ok (.iload 5, 2) := by decide +kernel
theorem dX11_furthest_60 : decode cX11_furthest 60 = .ok (.iaload, 1) := by decide +kernel
theorem dX11_furthest_61 : decode cX11_furthest 61 = .ok (.ldc_w 329, 3) := by decide +kernel
theorem dX11_furthest_64 : decode cX11_furthest 64 = .ok (.if_icmp .eq 48, 3) := by decide +kernel
theorem dX11_furthest_67 : decode cX11_furthest 67 = .ok (.aload_n 0, 1) := by decide +kernel
theorem dX11_furthest_68 : decode cX11_furthest 68 = .ok (.getfield 64, 3) := by decide +kernel
theorem dX11_furthest_71 : decode cX11_furthest 71 = .ok (.iload 5, 2) := by decide +kernel
theorem dX11_furthest_73 : decode cX11_furthest 73 = .ok (.iaload, 1) := by decide +kernel
theorem dX11_furthest_74 : decode cX11_furthest 74 = .ok (.aload_n 0, 1) := by decide +kernel
theorem dX11_furthest_75 : decode cX11_furthest 75 = .ok (.getfield 64, 3) := by decide +kernel
theorem dX11_furthest_78 : decode cX11_furthest 78 = .ok (.iload 4, 2) := by decide +kernel
theorem dX11_furthest_80 : decode cX11_furthest 80 = .ok (.iaload, 1) := by decide +kernel
theorem dX11_furthest_81 : decode cX11_furthest 81 = .ok (.if_icmp .gt 27, 3) := by decide +kernel
theorem dX11_furthest_84 : decode cX11_furthest 84 = .ok (.aload_n 0, 1) := by decide +kernel
theorem dX11_furthest_85 : decode cX11_furthest 85 = .ok (.getfield 64, 3) := by decide +kernel
theorem dX11_furthest_88 : decode cX11_furthest 88 = .ok (.iload 5, 2) := by decide +kernel
theorem dX11_furthest_90 : decode cX11_furthest 90 = .ok (.iaload, 1) := by decide +kernel
theorem dX11_furthest_91 : decode cX11_furthest 91 = .ok (.aload_n 0, 1) := by decide +kernel
theorem dX11_furthest_92 : decode cX11_furthest 92 = .ok (.getfield 64, 3) := by decide +kernel
theorem dX11_furthest_95 : decode cX11_furthest 95 = .ok (.iload 4, 2) := by decide +kernel
theorem dX11_furthest_97 : decode cX11_furthest 97 = .ok (.iaload, 1) := by decide +kernel
theorem dX11_furthest_98 : decode cX11_furthest 98 = .ok (.if_icmp .ne 14, 3) := by decide +kernel
theorem dX11_furthest_101 : decode cX11_furthest 101 = .ok (.iload 5, 2) := by decide +kernel
theorem dX11_furthest_103 : decode cX11_furthest 103 = .ok (.iload 4, 2) := by decide +kernel
theorem dX11_furthest_105 : decode cX11_furthest 105 = .ok (.if_icmp .ge 7, 3) := by decide +kernel
theorem dX11_furthest_108 : decode cX11_furthest 108 = .ok (.iload 5, 2) := by decide +kernel
theorem dX11_furthest_110 : decode cX11_furthest 110 = .ok (.istore 4, 2) := by decide +kernel
theorem dX11_furthest_112 : decode cX11_furthest 112 = .ok (.iinc 5 1, 3) := by decide +kernel
theorem dX11_furthest_115 : decode cX11_furthest 115 = .ok (.goto (-68), 3) := by decide +kernel
theorem dX11_furthest_118 : decode cX11_furthest 118 = .ok (.aload_n 0, 1) := by decide +kernel
theorem dX11_furthest_119 : decode cX11_furthest 119 = .ok (.iconst 0, 1) := by decide +kernel
theorem dX11_furthest_120 : decode cX11_furthest 120 = .ok (.putfield 92, 3) := by decide +kernel
theorem dX11_furthest_123 : decode cX11_furthest 123 = .ok (.aload_n 0, 1) := by decide +kernel
theorem dX11_furthest_124 : decode cX11_furthest 124 = .ok (.aload_n 0, 1) := by decide +kernel
theorem dX11_furthest_125 : decode cX11_furthest 125 = .ok (.getfield 64, 3) := by decide +kernel
theorem dX11_furthest_128 : decode cX11_furthest 128 = .ok (.iload 4, 2) := by decide +kernel
theorem dX11_furthest_130 : decode cX11_furthest 130 = .ok (.iaload, 1) := by decide +kernel
theorem dX11_furthest_131 : decode cX11_furthest 131 = .ok (.i2l, 1) := by decide +kernel
theorem dX11_furthest_132 : decode cX11_furthest 132 = .ok (.invokevirtual 278, 3) := by decide +kernel
theorem dX11_furthest_135 : decode cX11_furthest 135 = .ok (.iload 4, 2) := by decide +kernel
theorem dX11_furthest_137 : decode cX11_furthest 137 = .ok (.ireturn, 1) := by decide +kernel
theorem dX11_isLook_0 : decode cX11_isLook 0 = .ok (.iload_n 0, 1) := by decide +kernel
theorem dX11_isLook_1 : decode cX11_isLook 1 = .ok (.iconst 0, 1) := by decide +kernel
theorem dX11_isLook_2 : decode cX11_isLook 2 = .ok (.bipush 100, 2) := by decide +kernel
theorem dX11_isLook_4 : decode cX11_isLook 4 = .ok (.invokestatic 95, 3) := by decide +kernel
theorem dX11_isLook_7 : decode cX11_isLook 7 = .ok (.ireturn, 1) := by decide +kernel
theorem dX11_goThen_0 : decode cX11_goThen 0 = .ok (.aload_n 0, 1) := by decide +kernel
theorem dX11_goThen_1 : decode cX11_goThen 1 = .ok (.getfield 9, 3) := by decide +kernel
theorem dX11_goThen_4 : decode cX11_goThen 4 = .ok (.aload_n 0, 1) := by decide +kernel
theorem dX11_goThen_5 : decode cX11_goThen 5 = .ok (.getfield 67, 3) := by decide +kernel
theorem dX11_goThen_8 : decode cX11_goThen 8 = .ok (.iconst 0, 1) := by decide +kernel
theorem dX11_goThen_9 : decode cX11_goThen 9 = .ok (.invokestatic 251, 3) := by decide +kernel
theorem dX11_goThen_12 : decode cX11_goThen 12 = .ok (.iconst 0, 1) := by decide +kernel
theorem dX11_goThen_13 : decode cX11_goThen 13 = .ok (.istore_n 2, 1) := by decide +kernel
theorem dX11_goThen_14 : decode cX11_goThen 14 = .ok (.iload_n 2, 1) := by decide +kernel
theorem dX11_goThen_15 : decode cX11_goThen 15 = .ok (.iload_n 1, 1) := by decide +kernel
theorem dX11_goThen_16 : decode cX11_goThen 16 = .ok (.if_icmp .ge 18, 3) := by decide +kernel
theorem dX11_goThen_19 : decode cX11_goThen 19 = .ok (.aload_n 0, 1) := by decide +kernel
theorem dX11_goThen_20 : decode cX11_goThen 20 = .ok (.aload_n 0, 1) := by decide +kernel
theorem dX11_goThen_21 : decode cX11_goThen 21 = .ok (.getfield 67, 3) := by decide +kernel
theorem dX11_goThen_24 : decode cX11_goThen 24 = .ok (.invokevirtual 285, 3) := by decide +kernel
theorem dX11_goThen_27 : decode cX11_goThen 27 = .ok (.pop, 1) := by decide +kernel
theorem dX11_goThen_28 : decode cX11_goThen 28 = .ok (.iinc 2 1, 3) := by decide +kernel
theorem dX11_goThen_31 : decode cX11_goThen 31 = .ok (.goto (-17), 3) := by decide +kernel
theorem dX11_goThen_34 : decode cX11_goThen 34 = .ok (.return_, 1) := by decide +kernel
theorem dX11_where_0 : decode cX11_where 0 = .ok (.aload_n 0, 1) := by decide +kernel
theorem dX11_where_1 : decode cX11_where 1 = .ok (.iconst 0, 1) := by decide +kernel
theorem dX11_where_2 : decode cX11_where 2 = .ok (.putfield 89, 3) := by decide +kernel
theorem dX11_where_5 : decode cX11_where 5 = .ok (.aload_n 0, 1) := by decide +kernel
theorem dX11_where_6 : decode cX11_where 6 = .ok (.iload_n 1, 1) := by decide +kernel
theorem dX11_where_7 : decode cX11_where 7 = .ok (.invokevirtual 237, 3) := by decide +kernel
theorem dX11_where_10 : decode cX11_where 10 = .ok (.ifCond .eq 10, 3) := by decide +kernel
theorem dX11_where_13 : decode cX11_where 13 = .ok (.iload_n 2, 1) := by decide +kernel
theorem dX11_where_14 : decode cX11_where 14 = .ok (.invokestatic 337, 3) := by decide +kernel
theorem dX11_where_17 : decode cX11_where 17 = .ok (.ifCond .ne 5, 3) := by decide +kernel
theorem dX11_where_20 : decode cX11_where 20 = .ok (.iconst (-1), 1) := by decide +kernel
theorem dX11_where_21 : decode cX11_where 21 = .ok (.ireturn, 1) := by decide +kernel
theorem dX11_where_22 : decode cX11_where 22 = .ok (.aload_n 0, 1) := by decide +kernel
theorem dX11_where_23 : decode cX11_where 23 = .ok (.iload_n 2, 1) := by decide +kernel
theorem dX11_where_24 : decode cX11_where 24 = .ok (.invokevirtual 340, 3) := by decide +kernel
theorem dX11_where_27 : decode cX11_where 27 = .ok (.aload_n 0, 1) := by decide +kernel
theorem dX11_where_28 : decode cX11_where 28 = .ok (.iconst 0, 1) := by decide +kernel
theorem dX11_where_29 : decode cX11_where 29 = .ok (.putfield 92, 3) := by decide +kernel
theorem dX11_where_32 : decode cX11_where 32 = .ok (.aload_n 0, 1) := by decide +kernel
theorem dX11_where_33 : decode cX11_where 33 = .ok (.aload_n 0, 1) := by decide +kernel
theorem dX11_where_34 : decode cX11_where 34 = .ok (.getfield 67, 3) := by decide +kernel
theorem dX11_where_37 : decode cX11_where 37 = .ok (.sipush 326, 3) := by decide +kernel
theorem dX11_where_40 : decode cX11_where 40 = .ok (.iload_n 1, 1) := by decide +kernel
theorem dX11_where_41 : decode cX11_where 41 = .ok (.iadd, 1) := by decide +kernel
theorem dX11_where_42 : decode cX11_where 42 = .ok (.iaload, 1) := by decide +kernel
theorem dX11_where_43 : decode cX11_where 43 = .ok (.i2l, 1) := by decide +kernel
theorem dX11_where_44 : decode cX11_where 44 = .ok (.invokevirtual 278, 3) := by decide +kernel
theorem dX11_where_47 : decode cX11_where 47 = .ok (.aload_n 0, 1) := by decide +kernel
theorem dX11_where_48 : decode cX11_where 48 = .ok (.aload_n 0, 1) := by decide +kernel
theorem dX11_where_49 : decode cX11_where 49 = .ok (.aload_n 0, 1) := by decide +kernel
theorem dX11_where_50 : decode cX11_where 50 = .ok (.getfield 67, 3) := by decide +kernel
theorem dX11_where_53 : decode cX11_where 53 = .ok (.invokevirtual 313, 3) := by decide +kernel
theorem dX11_where_56 : decode cX11_where 56 = .ok (.invokestatic 321, 3) := by decide +kernel
theorem dX11_where_59 : decode cX11_where 59 = .ok (.i2l, 1) := by decide +kernel
theorem dX11_where_60 : decode cX11_where 60 = .ok (.invokevirtual 278, 3) := by decide +kernel
theorem dX11_where_63 : decode cX11_where 63 = .ok (.aload_n 0, 1) := by decide +kernel
theorem dX11_where_64 : decode cX11_where 64 = .ok (.getfield 67, 3) := by decide +kernel
theorem dX11_where_67 : decode cX11_where 67 = .ok (.sipush 320, 3) := by decide +kernel
theorem dX11_where_70 : decode cX11_where 70 = .ok (.iload_n 1, 1) := by decide +kernel
theorem dX11_where_71 : decode cX11_where 71 = .ok (.iadd, 1) := by decide +kernel
theorem dX11_where_72 : decode cX11_where 72 = .ok (.iaload, 1) := by decide +kernel
theorem dX11_where_73 : decode cX11_where 73 = .ok (.ireturn, 1) := by decide +kernel
theorem dX11_roadin_0 : decode cX11_roadin 0 = .ok (.aload_n 0, 1) := by decide +kernel
theorem dX11_roadin_1 : decode cX11_roadin 1 = .ok (.iconst 0, 1) := by decide +kernel
theorem dX11_roadin_2 : decode cX11_roadin 2 = .ok (.putfield 89, 3) := by decide +kernel
theorem dX11_roadin_5 : decode cX11_roadin 5 = .ok (.iload_n 1, 1) := by decide +kernel
theorem dX11_roadin_6 : decode cX11_roadin 6 = .ok (.invokestatic 337, 3) := by decide +kernel
theorem dX11_roadin_9 : decode cX11_roadin 9 = .ok (.ifCond .ne 5, 3) := by decide +kernel
theorem dX11_roadin_12 : decode cX11_roadin 12 = .ok (.iconst (-1), 1) := by decide +kernel
theorem dX11_roadin_13 : decode cX11_roadin 13 = .ok (.ireturn, 1) := by decide +kernel
theorem dX11_roadin_14 : decode cX11_roadin 14 = .ok (.aload_n 0, 1) := by decide +kernel
theorem dX11_roadin_15 : decode cX11_roadin 15 = .ok (.iload_n 1, 1) := by decide +kernel
theorem dX11_roadin_16 : decode cX11_roadin 16 = .ok (.invokevirtual 340, 3) := by decide +kernel
theorem dX11_roadin_19 : decode cX11_roadin 19 = .ok (.aload_n 0, 1) := by decide +kernel
theorem dX11_roadin_20 : decode cX11_roadin 20 = .ok (.aload_n 0, 1) := by decide +kernel
theorem dX11_roadin_21 : decode cX11_roadin 21 = .ok (.getfield 67, 3) := by decide +kernel
theorem dX11_roadin_24 : decode cX11_roadin 24 = .ok (.invokevirtual 313, 3) := by decide +kernel
theorem dX11_roadin_27 : decode cX11_roadin 27 = .ok (.lstore_n 2, 1) := by decide +kernel
theorem dX11_roadin_28 : decode cX11_roadin 28 = .ok (.aload_n 0, 1) := by decide +kernel
theorem dX11_roadin_29 : decode cX11_roadin 29 = .ok (.iconst 0, 1) := by decide +kernel
theorem dX11_roadin_30 : decode cX11_roadin 30 = .ok (.putfield 92, 3) := by decide +kernel
theorem dX11_roadin_33 : decode cX11_roadin 33 = .ok (.aload_n 0, 1) := by decide +kernel
theorem dX11_roadin_34 : decode cX11_roadin 34 = .ok (.lload_n 2, 1) := by decide +kernel
theorem dX11_roadin_35 : decode cX11_roadin 35 = .ok (.invokevirtual 278, 3) := by decide +kernel
theorem dX11_roadin_38 : decode cX11_roadin 38 = .ok (.aload_n 0, 1) := by decide +kernel
theorem dX11_roadin_39 : decode cX11_roadin 39 = .ok (.aload_n 0, 1) := by decide +kernel
theorem dX11_roadin_40 : decode cX11_roadin 40 = .ok (.aload_n 0, 1) := by decide +kernel
theorem dX11_roadin_41 : decode cX11_roadin 41 = .ok (.getfield 9, 3) := by decide +kernel
theorem dX11_roadin_44 : decode cX11_roadin 44 = .ok (.invokevirtual 313, 3) := by decide +kernel
theorem dX11_roadin_47 : decode cX11_roadin 47 = .ok (.lload_n 2, 1) := by decide +kernel
theorem dX11_roadin_48 : decode cX11_roadin 48 = .ok (.ldc2_w 327, 3) := by decide +kernel
theorem dX11_roadin_51 : decode cX11_roadin 51 = .ok (.lxor, 1) := by decide +kernel
theorem dX11_roadin_52 : decode cX11_roadin 52 = .ok (.land, 1) := by decide +kernel
theorem dX11_roadin_53 : decode cX11_roadin 53 = .ok (.invokevirtual 278, 3) := by decide +kernel
theorem dX11_roadin_56 : decode cX11_roadin 56 = .ok (.lload_n 2, 1) := by decide +kernel
theorem dX11_roadin_57 : decode cX11_roadin 57 = .ok (.invokestatic 321, 3) := by decide +kernel
theorem dX11_roadin_60 : decode cX11_roadin 60 = .ok (.ireturn, 1) := by decide +kernel
theorem dX11_market_0 : decode cX11_market 0 = .ok (.aload_n 0, 1) := by decide +kernel
theorem dX11_market_1 : decode cX11_market 1 = .ok (.iconst 0, 1) := by decide +kernel
theorem dX11_market_2 : decode cX11_market 2 = .ok (.putfield 89, 3) := by decide +kernel
theorem dX11_market_5 : decode cX11_market 5 = .ok (.aload_n 0, 1) := by decide +kernel
theorem dX11_market_6 : decode cX11_market 6 = .ok (.iload_n 1, 1) := by decide +kernel
theorem dX11_market_7 : decode cX11_market 7 = .ok (.invokevirtual 157, 3) := by decide +kernel
theorem dX11_market_10 : decode cX11_market 10 = .ok (.ifCond .eq 13, 3) := by decide +kernel
theorem dX11_market_13 : decode cX11_market 13 = .ok (.iload_n 2, 1) := by decide +kernel
theorem dX11_market_14 : decode cX11_market 14 = .ok (.iconst 1, 1) := by decide +kernel
theorem dX11_market_15 : decode cX11_market 15 = .ok (.bipush 100, 2) := by decide +kernel
theorem dX11_market_17 : decode cX11_market 17 = .ok (.invokestatic 95, 3) := by decide +kernel
theorem dX11_market_20 : decode cX11_market 20 = .ok (.ifCond .ne 5, 3) := by decide +kernel
theorem dX11_market_23 : decode cX11_market 23 = .ok (.iconst (-1), 1) := by decide +kernel
theorem dX11_market_24 : decode cX11_market 24 = .ok (.ireturn, 1) := by decide +kernel
theorem dX11_market_25 : decode cX11_market 25 = .ok (.aload_n 0, 1) := by decide +kernel
theorem dX11_market_26 : decode cX11_market 26 = .ok (.getfield 9, 3) := by decide +kernel
theorem dX11_market_29 : decode cX11_market 29 = .ok (.aload_n 0, 1) := by decide +kernel
theorem dX11_market_30 : decode cX11_market 30 = .ok (.getfield 67, 3) := by decide +kernel
theorem dX11_market_33 : decode cX11_market 33 = .ok (.iconst 0, 1) := by decide +kernel
theorem dX11_market_34 : decode cX11_market 34 = .ok (.invokestatic 251, 3) := by decide +kernel
theorem dX11_market_37 : decode cX11_market 37 = .ok (.iconst 0, 1) := by decide +kernel
theorem dX11_market_38 : decode cX11_market 38 = .ok (.istore_n 3, 1) := by decide +kernel
theorem dX11_market_39 : decode cX11_market 39 = .ok (.iconst (-1), 1) := by decide +kernel
theorem dX11_market_40 : decode cX11_market 40 = .ok (.istore 4, 2) := by decide +kernel
theorem dX11_market_42 : decode cX11_market 42 = .ok (.iconst (-1), 1) := by decide +kernel
theorem dX11_market_43 : decode cX11_market 43 = .ok (.istore 5, 2) := by decide +kernel
theorem dX11_market_45 : decode cX11_market 45 = .ok (.iconst 0, 1) := by decide +kernel
theorem dX11_market_46 : decode cX11_market 46 = .ok (.istore 6, 2) := by decide +kernel
theorem dX11_market_48 : decode cX11_market 48 = .ok (.iconst 0, 1) := by decide +kernel
theorem dX11_market_49 : decode cX11_market 49 = .ok (.istore 7, 2) := by decide +kernel
theorem dX11_market_51 : decode cX11_market 51 = .ok (.iconst 1, 1) := by decide +kernel
theorem dX11_market_52 : decode cX11_market 52 = .ok (.istore 8, 2) := by decide +kernel
theorem dX11_market_54 : decode cX11_market 54 = .ok (.iload 8, 2) := by decide +kernel
theorem dX11_market_56 : decode cX11_market 56 = .ok (.iload_n 2, 1) := by decide +kernel
theorem dX11_market_57 : decode cX11_market 57 = .ok (.if_icmp .gt 70, 3) := by decide +kernel
theorem dX11_market_60 : decode cX11_market 60 = .ok (.aload_n 0, 1) := by decide +kernel
theorem dX11_market_61 : decode cX11_market 61 = .ok (.aload_n 0, 1) := by decide +kernel
theorem dX11_market_62 : decode cX11_market 62 = .ok (.getfield 67, 3) := by decide +kernel
theorem dX11_market_65 : decode cX11_market 65 = .ok (.invokevirtual 285, 3) := by decide +kernel
theorem dX11_market_68 : decode cX11_market 68 = .ok (.pop, 1) := by decide +kernel
theorem dX11_market_69 : decode cX11_market 69 = .ok (.aload_n 0, 1) := by decide +kernel
theorem dX11_market_70 : decode cX11_market 70 = .ok (.aload_n 0, 1) := by decide +kernel
theorem dX11_market_71 : decode cX11_market 71 = .ok (.getfield 67, 3) := by decide +kernel
theorem dX11_market_74 : decode cX11_market 74 = .ok (.iload_n 1, 1) := by decide +kernel
theorem dX11_market_75 : decode cX11_market 75 = .ok (.invokevirtual 211, 3) := by decide +kernel
theorem dX11_market_78 : decode cX11_market 78 = .ok (.ifCond .ne 9, 3) := by decide +kernel
theorem dX11_market_81 : decode cX11_market 81 = .ok (.iconst 0, 1) := by decide +kernel
theorem dX11_market_82 : decode cX11_market 82 = .ok (.istore 7, 2) := by decide +kernel
theorem dX11_market_84 : decode cX11_market 84 = .ok (.goto 37, 3) := by decide +kernel
theorem dX11_market_87 : decode cX11_market 87 = .ok (.iinc 3 1, 3) := by decide +kernel
theorem dX11_market_90 : decode cX11_market 90 = .ok (.iinc 7 1, 3) := by decide +kernel
theorem dX11_market_93 : decode cX11_market 93 = .ok (.iload 6, 2) := by decide +kernel
theorem dX11_market_95 : decode cX11_market 95 = .ok (.iload 7, 2) := by decide +kernel
theorem dX11_market_97 : decode cX11_market 97 = .ok (.invokestatic 248, 3) := by decide +kernel
theorem dX11_market_100 : decode cX11_market 100 = .ok (.istore 6, 2) := by decide +kernel
theorem dX11_market_102 : decode cX11_market 102 = .ok (.iload 4, 2) := by decide +kernel
theorem dX11_market_104 : decode cX11_market 104 = .ok (.iconst (-1), 1) := by decide +kernel
theorem dX11_market_105 : decode cX11_market 105 = .ok (.if_icmp .ne 8, 3) := by decide +kernel
theorem dX11_market_108 : decode cX11_market 108 = .ok (.iload 8, 2) := by decide +kernel
theorem dX11_market_110 : decode cX11_market 110 = .ok (.goto 5, 3) := by decide +kernel
theorem dX11_market_113 : decode cX11_market 113 = .ok (.iload 4, 2) := by decide +kernel
theorem dX11_market_115 : decode cX11_market 115 = .ok (.istore 4, 2) := by decide +kernel
theorem dX11_market_117 : decode cX11_market 117 = .ok (.iload 8, 2) := by decide +kernel
theorem dX11_market_119 : decode cX11_market 119 = .ok (.istore 5, 2) := by decide +kernel
theorem dX11_market_121 : decode cX11_market 121 = .ok (.iinc 8 1, 3) := by decide +kernel
theorem dX11_market_124 : decode cX11_market 124 = .ok (.goto (-70), 3) := by decide +kernel
theorem dX11_market_127 : decode cX11_market 127 = .ok (.aload_n 0, 1) := by decide +kernel
theorem dX11_market_128 : decode cX11_market 128 = .ok (.iconst 0, 1) := by decide +kernel
theorem dX11_market_129 : decode cX11_market 129 = .ok (.putfield 92, 3) := by decide +kernel
theorem dX11_market_132 : decode cX11_market 132 = .ok (.aload_n 0, 1) := by decide +kernel
theorem dX11_market_133 : decode cX11_market 133 = .ok (.iload 4, 2) := by decide +kernel
theorem dX11_market_135 : decode cX11_market 135 = .ok (.i2l, 1) := by decide +kernel
theorem dX11_market_136 : decode cX11_market 136 = .ok (.invokevirtual 278, 3) := by decide +kernel
theorem dX11_market_139 : decode cX11_market 139 = .ok (.aload_n 0, 1) := by decide +kernel
theorem dX11_market_140 : decode cX11_market 140 = .ok (.iload 5, 2) := by decide +kernel
theorem dX11_market_142 : decode cX11_market 142 = .ok (.i2l, 1) := by decide +kernel
theorem dX11_market_143 : decode cX11_market 143 = .ok (.invokevirtual 278, 3) := by decide +kernel
theorem dX11_market_146 : decode cX11_market 146 = .ok (.aload_n 0, 1) := by decide +kernel
theorem dX11_market_147 : decode cX11_market 147 = .ok (.iload 6, 2) := by decide +kernel
theorem dX11_market_149 : decode cX11_market 149 = .ok (.i2l, 1) := by decide +kernel
theorem dX11_market_150 : decode cX11_market 150 = .ok (.invokevirtual 278, 3) := by decide +kernel
theorem dX11_market_153 : decode cX11_market 153 = .ok (.iload_n 3, 1) := by decide +kernel
theorem dX11_market_154 : decode cX11_market 154 = .ok (.ireturn, 1) := by decide +kernel
theorem dX11_trodden_0 : decode cX11_trodden 0 = .ok (.aload_n 0, 1) := by decide +kernel
theorem dX11_trodden_1 : decode cX11_trodden 1 = .ok (.iconst 0, 1) := by decide +kernel
theorem dX11_trodden_2 : decode cX11_trodden 2 = .ok (.putfield 89, 3) := by decide +kernel
theorem dX11_trodden_5 : decode cX11_trodden 5 = .ok (.aload_n 0, 1) := by decide +kernel
theorem dX11_trodden_6 : decode cX11_trodden 6 = .ok (.iload_n 1, 1) := by decide +kernel
theorem dX11_trodden_7 : decode cX11_trodden 7 = .ok (.invokevirtual 157, 3) := by decide +kernel
theorem dX11_trodden_10 : decode cX11_trodden 10 = .ok (.ifCond .ne 5, 3) := by decide +kernel
theorem dX11_trodden_13 : decode cX11_trodden 13 = .ok (.iconst (-1), 1) := by decide +kernel
theorem dX11_trodden_14 : decode cX11_trodden 14 = .ok (.ireturn, 1) := by decide +kernel
theorem dX11_trodden_15 : decode cX11_trodden 15 = .ok (.aload_n 0, 1) := by decide +kernel
theorem dX11_trodden_16 : decode cX11_trodden 16 = .ok (.getfield 9, 3) := by decide +kernel
theorem dX11_trodden_19 : decode cX11_trodden 19 = .ok (.aload_n 0, 1) := by decide +kernel
theorem dX11_trodden_20 : decode cX11_trodden 20 = .ok (.getfield 67, 3) := by decide +kernel
theorem dX11_trodden_23 : decode cX11_trodden 23 = .ok (.iconst 0, 1) := by decide +kernel
theorem dX11_trodden_24 : decode cX11_trodden 24 = .ok (.invokestatic 251, 3) := by decide +kernel
theorem dX11_trodden_27 : decode cX11_trodden 27 = .ok (.iconst 0, 1) := by decide +kernel
theorem dX11_trodden_28 : decode cX11_trodden 28 = .ok (.istore_n 2, 1) := by decide +kernel
theorem dX11_trodden_29 : decode cX11_trodden 29 = .ok (.iload_n 2, 1) := by decide +kernel
theorem dX11_trodden_30 : decode cX11_trodden 30 = .ok (.bipush 100, 2) := by decide +kernel
theorem dX11_trodden_32 : decode cX11_trodden 32 = .ok (.if_icmp .gt 55, 3) := by decide +kernel
theorem dX11_trodden_35 : decode cX11_trodden 35 = .ok (.iload_n 2, 1) := by decide +kernel
theorem dX11_trodden_36 : decode cX11_trodden 36 = .ok (.ifCond .le 12, 3) := by decide +kernel
theorem dX11_trodden_39 : decode cX11_trodden 39 = .ok (.aload_n 0, 1) := by decide +kernel
theorem dX11_trodden_40 : decode cX11_trodden 40 = .ok (.aload_n 0, 1) := by decide +kernel
theorem dX11_trodden_41 : decode cX11_trodden 41 = .ok (.getfield 67, 3) := by decide +kernel
theorem dX11_trodden_44 : decode cX11_trodden 44 = .ok (.invokevirtual 285, 3) := by decide +kernel
theorem dX11_trodden_47 : decode cX11_trodden 47 = .ok (.pop, 1) := by decide +kernel
theorem dX11_trodden_48 : decode cX11_trodden 48 = .ok (.aload_n 0, 1) := by decide +kernel
theorem dX11_trodden_49 : decode cX11_trodden 49 = .ok (.aload_n 0, 1) := by decide +kernel
theorem dX11_trodden_50 : decode cX11_trodden 50 = .ok (.getfield 67, 3) := by decide +kernel
theorem dX11_trodden_53 : decode cX11_trodden 53 = .ok (.iload_n 1, 1) := by decide +kernel
theorem dX11_trodden_54 : decode cX11_trodden 54 = .ok (.invokevirtual 233, 3) := by decide +kernel
theorem dX11_trodden_57 : decode cX11_trodden 57 = .ok (.istore_n 3, 1) := by decide +kernel
theorem dX11_trodden_58 : decode cX11_trodden 58 = .ok (.iload_n 3, 1) := by decide +kernel
theorem dX11_trodden_59 : decode cX11_trodden 59 = .ok (.ifCond .ne 6, 3) := by decide +kernel
theorem dX11_trodden_62 : decode cX11_trodden 62 = .ok (.goto 19, 3) := by decide +kernel
theorem dX11_trodden_65 : decode cX11_trodden 65 = .ok (.aload_n 0, 1) := by decide +kernel
theorem dX11_trodden_66 : decode cX11_trodden 66 = .ok (.iconst 0, 1) := by decide +kernel
theorem dX11_trodden_67 : decode cX11_trodden 67 = .ok (.putfield 92, 3) := by decide +kernel
theorem dX11_trodden_70 : decode cX11_trodden 70 = .ok (.aload_n 0, 1) := by decide +kernel
theorem dX11_trodden_71 : decode cX11_trodden 71 = .ok (.iload_n 3, 1) := by decide +kernel
theorem dX11_trodden_72 : decode cX11_trodden 72 = .ok (.invokestatic 343, 3) := by decide +kernel
theorem dX11_trodden_75 : decode cX11_trodden 75 = .ok (.i2l, 1) := by decide +kernel
theorem dX11_trodden_76 : decode cX11_trodden 76 = .ok (.invokevirtual 278, 3) := by decide +kernel
theorem dX11_trodden_79 : decode cX11_trodden 79 = .ok (.iload_n 2, 1) := by decide +kernel
theorem dX11_trodden_80 : decode cX11_trodden 80 = .ok (.ireturn, 1) := by decide +kernel
theorem dX11_trodden_81 : decode cX11_trodden 81 = .ok (.iinc 2 1, 3) := by decide +kernel
theorem dX11_trodden_84 : decode cX11_trodden 84 = .ok (.goto (-55), 3) := by decide +kernel
theorem dX11_trodden_87 : decode cX11_trodden 87 = .ok (.bipush (-2), 2) := by decide +kernel
theorem dX11_trodden_89 : decode cX11_trodden 89 = .ok (.ireturn, 1) := by decide +kernel
theorem dX11_meets_0 : decode cX11_meets 0 = .ok (.aload_n 0, 1) := by decide +kernel
theorem dX11_meets_1 : decode cX11_meets 1 = .ok (.iconst 0, 1) := by decide +kernel
theorem dX11_meets_2 : decode cX11_meets 2 = .ok (.putfield 89, 3) := by decide +kernel
theorem dX11_meets_5 : decode cX11_meets 5 = .ok (.aload_n 0, 1) := by decide +kernel
theorem dX11_meets_6 : decode cX11_meets 6 = .ok (.getfield 9, 3) := by decide +kernel
theorem dX11_meets_9 : decode cX11_meets 9 = .ok (.aload_n 0, 1) := by decide +kernel
theorem dX11_meets_10 : decode cX11_meets 10 = .ok (.getfield 67, 3) := by decide +kernel
theorem dX11_meets_13 : decode cX11_meets 13 = .ok (.iconst 0, 1) := by decide +kernel
theorem dX11_meets_14 : decode cX11_meets 14 = .ok (.invokestatic 251, 3) := by decide +kernel
theorem dX11_meets_17 : decode cX11_meets 17 = .ok (.iconst 0, 1) := by decide +kernel
theorem dX11_meets_18 : decode cX11_meets 18 = .ok (.istore_n 1, 1) := by decide +kernel
theorem dX11_meets_19 : decode cX11_meets 19 = .ok (.iload_n 1, 1) := by decide +kernel
theorem dX11_meets_20 : decode cX11_meets 20 = .ok (.bipush 100, 2) := by decide +kernel
theorem dX11_meets_22 : decode cX11_meets 22 = .ok (.if_icmp .gt 63, 3) := by decide +kernel
theorem dX11_meets_25 : decode cX11_meets 25 = .ok (.aload_n 0, 1) := by decide +kernel
theorem dX11_meets_26 : decode cX11_meets 26 = .ok (.getfield 105, 3) := by decide +kernel
theorem dX11_meets_29 : decode cX11_meets 29 = .ok (.ifCond .le 56, 3) := by decide +kernel
theorem dX11_meets_32 : decode cX11_meets 32 = .ok (.iload_n 1, 1) := by decide +kernel
theorem dX11_meets_33 : decode cX11_meets 33 = .ok (.ifCond .le 12, 3) := by decide +kernel
theorem dX11_meets_36 : decode cX11_meets 36 = .ok (.aload_n 0, 1) := by decide +kernel
theorem dX11_meets_37 : decode cX11_meets 37 = .ok (.aload_n 0, 1) := by decide +kernel
theorem dX11_meets_38 : decode cX11_meets 38 = .ok (.getfield 67, 3) := by decide +kernel
theorem dX11_meets_41 : decode cX11_meets 41 = .ok (.invokevirtual 285, 3) := by decide +kernel
theorem dX11_meets_44 : decode cX11_meets 44 = .ok (.pop, 1) := by decide +kernel
theorem dX11_meets_45 : decode cX11_meets 45 = .ok (.aload_n 0, 1) := by decide +kernel
theorem dX11_meets_46 : decode cX11_meets 46 = .ok (.aload_n 0, 1) := by decide +kernel
theorem dX11_meets_47 : decode cX11_meets 47 = .ok (.getfield 67, 3) := by decide +kernel
theorem dX11_meets_50 : decode cX11_meets 50 = .ok (.invokevirtual 334, 3) := by decide +kernel
theorem dX11_meets_53 : decode cX11_meets 53 = .ok (.lstore_n 2, 1) := by decide +kernel
theorem dX11_meets_54 : decode cX11_meets 54 = .ok (.lload_n 2, 1) := by decide +kernel
theorem dX11_meets_55 : decode cX11_meets 55 = .ok (.lconst 0, 1) := by decide +kernel
theorem dX11_meets_56 : decode cX11_meets 56 = .ok (.lcmp, 1) := by decide +kernel
theorem dX11_meets_57 : decode cX11_meets 57 = .ok (.ifCond .ne 6, 3) := by decide +kernel
theorem dX11_meets_60 : decode cX11_meets 60 = .ok (.goto 19, 3) := by decide +kernel
theorem dX11_meets_63 : decode cX11_meets 63 = .ok (.aload_n 0, 1) := by decide +kernel
theorem dX11_meets_64 : decode cX11_meets 64 = .ok (.iconst 0, 1) := by decide +kernel
theorem dX11_meets_65 : decode cX11_meets 65 = .ok (.putfield 92, 3) := by decide +kernel
theorem dX11_meets_68 : decode cX11_meets 68 = .ok (.aload_n 0, 1) := by decide +kernel
theorem dX11_meets_69 : decode cX11_meets 69 = .ok (.lload_n 2, 1) := by decide +kernel
theorem dX11_meets_70 : decode cX11_meets 70 = .ok (.invokestatic 321, 3) := by decide +kernel
theorem dX11_meets_73 : decode cX11_meets 73 = .ok (.i2l, 1) := by decide +kernel
theorem dX11_meets_74 : decode cX11_meets 74 = .ok (.invokevirtual 278, 3) := by decide +kernel
theorem dX11_meets_77 : decode cX11_meets 77 = .ok (.iload_n 1, 1) := by decide +kernel
theorem dX11_meets_78 : decode cX11_meets 78 = .ok (.ireturn, 1) := by decide +kernel
theorem dX11_meets_79 : decode cX11_meets 79 = .ok (.iinc 1 1, 3) := by decide +kernel
theorem dX11_meets_82 : decode cX11_meets 82 = .ok (.goto (-63), 3) := by decide +kernel
theorem dX11_meets_85 : decode cX11_meets 85 = .ok (.bipush (-2), 2) := by decide +kernel
theorem dX11_meets_87 : decode cX11_meets 87 = .ok (.ireturn, 1) := by decide +kernel
theorem dX11_round_0 : decode cX11_round 0 = .ok (.aload_n 0, 1) := by decide +kernel
theorem dX11_round_1 : decode cX11_round 1 = .ok (.iconst 0, 1) := by decide +kernel
theorem dX11_round_2 : decode cX11_round 2 = .ok (.putfield 89, 3) := by decide +kernel
theorem dX11_round_5 : decode cX11_round 5 = .ok (.aload_n 0, 1) := by decide +kernel
theorem dX11_round_6 : decode cX11_round 6 = .ok (.iload_n 1, 1) := by decide +kernel
theorem dX11_round_7 : decode cX11_round 7 = .ok (.invokevirtual 237, 3) := by decide +kernel
theorem dX11_round_10 : decode cX11_round 10 = .ok (.ifCond .ne 5, 3) := by decide +kernel
theorem dX11_round_13 : decode cX11_round 13 = .ok (.iconst (-1), 1) := by decide +kernel
theorem dX11_round_14 : decode cX11_round 14 = .ok (.ireturn, 1) := by decide +kernel
theorem dX11_round_15 : decode cX11_round 15 = .ok (.aload_n 0, 1) := by decide +kernel
theorem dX11_round_16 : decode cX11_round 16 = .ok (.getfield 9, 3) := by decide +kernel
theorem dX11_round_19 : decode cX11_round 19 = .ok (.aload_n 0, 1) := by decide +kernel
theorem dX11_round_20 : decode cX11_round 20 = .ok (.getfield 67, 3) := by decide +kernel
theorem dX11_round_23 : decode cX11_round 23 = .ok (.iconst 0, 1) := by decide +kernel
theorem dX11_round_24 : decode cX11_round 24 = .ok (.invokestatic 251, 3) := by decide +kernel
theorem dX11_round_27 : decode cX11_round 27 = .ok (.iconst 0, 1) := by decide +kernel
theorem dX11_round_28 : decode cX11_round 28 = .ok (.istore_n 2, 1) := by decide +kernel
theorem dX11_round_29 : decode cX11_round 29 = .ok (.iload_n 2, 1) := by decide +kernel
theorem dX11_round_30 : decode cX11_round 30 = .ok (.bipush 64, 2) := by decide +kernel
theorem dX11_round_32 : decode cX11_round 32 = .ok (.if_icmp .ge 16, 3) := by decide +kernel
theorem dX11_round_35 : decode cX11_round 35 = .ok (.aload_n 0, 1) := by decide +kernel
theorem dX11_round_36 : decode cX11_round 36 = .ok (.getfield 64, 3) := by decide +kernel
theorem dX11_round_39 : decode cX11_round 39 = .ok (.iload_n 2, 1) := by decide +kernel
theorem dX11_round_40 : decode cX11_round 40 = .ok (.iconst (-1), 1) := by decide +kernel
theorem dX11_round_41 : decode cX11_round 41 = .ok (.iastore, 1) := by decide +kernel
theorem dX11_round_42 : decode cX11_round 42 = .ok (.iinc 2 1, 3) := by decide +kernel
theorem dX11_round_45 : decode cX11_round 45 = .ok (.goto (-16), 3) := by decide +kernel
theorem dX11_round_48 : decode cX11_round 48 = .ok (.aload_n 0, 1) := by decide +kernel
theorem dX11_round_49 : decode cX11_round 49 = .ok (.getfield 64, 3) := by decide +kernel
theorem dX11_round_52 : decode cX11_round 52 = .ok (.aload_n 0, 1) := by decide +kernel
theorem dX11_round_53 : decode cX11_round 53 = .ok (.getfield 67, 3) := by decide +kernel
theorem dX11_round_56 : decode cX11_round 56 = .ok (.sipush 320, 3) := by decide +kernel
theorem dX11_round_59 : decode cX11_round 59 = .ok (.iload_n 1, 1) := by decide +kernel
theorem dX11_round_60 : decode cX11_round 60 = .ok (.iadd, 1) := by decide +kernel
theorem dX11_round_61 : decode cX11_round 61 = .ok (.iaload, 1) := by decide +kernel
theorem dX11_round_62 : decode cX11_round 62 = .ok (.iconst 0, 1) := by decide +kernel
theorem dX11_round_63 : decode cX11_round 63 = .ok (.iastore, 1) := by decide +kernel
theorem dX11_round_64 : decode cX11_round 64 = .ok (.iconst 1, 1) := by decide +kernel
theorem dX11_round_65 : decode cX11_round 65 = .ok (.istore_n 2, 1) := by decide +kernel
theorem dX11_round_66 : decode cX11_round 66 = .ok (.iload_n 2, 1) := by decide +kernel
theorem dX11_round_67 : decode cX11_round 67 = .ok (.bipush 100, 2) := by decide +kernel
theorem dX11_round_69 : decode cX11_round 69 = .ok (.if_icmp .gt 75, 3) := by decide +kernel
theorem dX11_round_72 : decode cX11_round 72 = .ok (.aload_n 0, 1) := by decide +kernel
theorem dX11_round_73 : decode cX11_round 73 = .ok (.aload_n 0, 1) := by decide +kernel
theorem dX11_round_74 : decode cX11_round 74 = .ok (.getfield 67, 3) := by decide +kernel
theorem dX11_round_77 : decode cX11_round 77 = .ok (.invokevirtual 285, 3) := by decide +kernel
theorem dX11_round_80 : decode cX11_round 80 = .ok (.pop, 1) := by decide +kernel
theorem dX11_round_81 : decode cX11_round 81 = .ok (.aload_n 0, 1) := by decide +kernel
theorem dX11_round_82 : decode cX11_round 82 = .ok (.getfield 67, 3) := by decide +kernel
theorem dX11_round_85 : decode cX11_round 85 = .ok (.sipush 320, 3) := by decide +kernel
theorem dX11_round_88 : decode cX11_round 88 = .ok (.iload_n 1, 1) := by decide +kernel
theorem dX11_round_89 : decode cX11_round 89 = .ok (.iadd, 1) := by decide +kernel
theorem dX11_round_90 : decode cX11_round 90 = .ok (.iaload, 1) := by decide +kernel
theorem dX11_round_91 : decode cX11_round 91 = .ok (.istore_n 3, 1) := by decide +kernel
theorem dX11_round_92 : decode cX11_round 92 = .ok (.aload_n 0, 1) := by decide +kernel
theorem dX11_round_93 : decode cX11_round 93 = .ok (.getfield 64, 3) := by decide +kernel
theorem dX11_round_96 : decode cX11_round 96 = .ok (.iload_n 3, 1) := by decide +kernel
theorem dX11_round_97 : decode cX11_round 97 = .ok (.iaload, 1) := by decide +kernel
theorem dX11_round_98 : decode cX11_round 98 = .ok (.iconst (-1), 1) := by decide +kernel
theorem dX11_round_99 : decode cX11_round 99 = .ok (.if_icmp .ne 13, 3) := by decide +kernel
theorem dX11_round_102 : decode cX11_round 102 = .ok (.aload_n 0, 1) := by decide +kernel
theorem dX11_round_103 : decode cX11_round 103 = .ok (.getfield 64, 3) := by decide +kernel
theorem dX11_round_106 : decode cX11_round 106 = .ok (.iload_n 3, 1) := by decide +kernel
theorem dX11_round_107 : decode cX11_round 107 = .ok (.iload_n 2, 1) := by decide +kernel
theorem dX11_round_108 : decode cX11_round 108 = .ok (.iastore, 1) := by decide +kernel
theorem dX11_round_109 : decode cX11_round 109 = .ok (.goto 29, 3) := by decide +kernel
theorem dX11_round_112 : decode cX11_round 112 = .ok (.aload_n 0, 1) := by decide +kernel
theorem dX11_round_113 : decode cX11_round 113 = .ok (.iconst 0, 1) := by decide +kernel
theorem dX11_round_114 : decode cX11_round 114 = .ok (.putfield 92, 3) := by decide +kernel
theorem dX11_round_117 : decode cX11_round 117 = .ok (.aload_n 0, 1) := by decide +kernel
theorem dX11_round_118 : decode cX11_round 118 = .ok (.iload_n 3, 1) := by decide +kernel
theorem dX11_round_119 : decode cX11_round 119 = .ok (.i2l, 1) := by decide +kernel
theorem dX11_round_120 : decode cX11_round 120 = .ok (.invokevirtual 278, 3) := by decide +kernel
theorem dX11_round_123 : decode cX11_round 123 = .ok (.aload_n 0, 1) := by decide +kernel
theorem dX11_round_124 : decode cX11_round 124 = .ok (.iload_n 2, 1) := by decide +kernel
theorem dX11_round_125 : decode cX11_round 125 = .ok (.aload_n 0, 1) := by decide +kernel
theorem dX11_round_126 : decode cX11_round 126 = .ok (.getfield 64, 3) := by decide +kernel
theorem dX11_round_129 : decode cX11_round 129 = .ok (.iload_n 3, 1) := by decide +kernel
theorem dX11_round_130 : decode cX11_round 130 = .ok (.iaload, 1) := by decide +kernel
theorem dX11_round_131 : decode cX11_round 131 = .ok (.isub, 1) := by decide +kernel
theorem dX11_round_132 : decode cX11_round 132 = .ok (.i2l, 1) := by decide +kernel
theorem dX11_round_133 : decode cX11_round 133 = .ok (.invokevirtual 278, 3) := by decide +kernel
theorem dX11_round_136 : decode cX11_round 136 = .ok (.iload_n 2, 1) := by decide +kernel
theorem dX11_round_137 : decode cX11_round 137 = .ok (.ireturn, 1) := by decide +kernel
theorem dX11_round_138 : decode cX11_round 138 = .ok (.iinc 2 1, 3) := by decide +kernel
theorem dX11_round_141 : decode cX11_round 141 = .ok (.goto (-75), 3) := by decide +kernel
theorem dX11_round_144 : decode cX11_round 144 = .ok (.iconst (-1), 1) := by decide +kernel
theorem dX11_round_145 : decode cX11_round 145 = .ok (.ireturn, 1) := by decide +kernel
theorem dX11_comesBy_0 : decode cX11_comesBy 0 = .ok (.iconst 0, 1) := by decide +kernel
theorem dX11_comesBy_1 : decode cX11_comesBy 1 = .ok (.istore_n 3, 1) := by decide +kernel
theorem dX11_comesBy_2 : decode cX11_comesBy 2 = .ok (.iload_n 3, 1) := by decide +kernel
theorem dX11_comesBy_3 : decode cX11_comesBy 3 = .ok (.iload_n 2, 1) := by decide +kernel
theorem dX11_comesBy_4 : decode cX11_comesBy 4 = .ok (.if_icmp .ge 32, 3) := by decide +kernel
theorem dX11_comesBy_7 : decode cX11_comesBy 7 = .ok (.aload_n 0, 1) := by decide +kernel
theorem dX11_comesBy_8 : decode cX11_comesBy 8 = .ok (.aload_n 0, 1) := by decide +kernel
theorem dX11_comesBy_9 : decode cX11_comesBy 9 = .ok (.getfield 67, 3) := by decide +kernel
theorem dX11_comesBy_12 : decode cX11_comesBy 12 = .ok (.invokevirtual 285, 3) := by decide +kernel
theorem dX11_comesBy_15 : decode cX11_comesBy 15 = .ok (.pop, 1) := by decide +kernel
theorem dX11_comesBy_16 : decode cX11_comesBy 16 = .ok (.aload_n 0, 1) := by decide +kernel
theorem dX11_comesBy_17 : decode cX11_comesBy 17 = .ok (.aload_n 0, 1) := by decide +kernel
theorem dX11_comesBy_18 : decode cX11_comesBy 18 = .ok (.getfield 67, 3) := by decide +kernel
theorem dX11_comesBy_21 : decode cX11_comesBy 21 = .ok (.iload_n 1, 1) := by decide +kernel
theorem dX11_comesBy_22 : decode cX11_comesBy 22 = .ok (.invokevirtual 233, 3) := by decide +kernel
theorem dX11_comesBy_25 : decode cX11_comesBy 25 = .ok (.ifCond .eq 5, 3) := by decide +kernel
theorem dX11_comesBy_28 : decode cX11_comesBy 28 = .ok (.iconst 1, 1) := by decide +kernel
theorem dX11_comesBy_29 : decode cX11_comesBy 29 = .ok (.ireturn, 1) := by decide +kernel
theorem dX11_comesBy_30 : decode cX11_comesBy 30 = .ok (.iinc 3 1, 3) := by decide +kernel
theorem dX11_comesBy_33 : decode cX11_comesBy 33 = .ok (.goto (-31), 3) := by decide +kernel
theorem dX11_comesBy_36 : decode cX11_comesBy 36 = .ok (.iconst 0, 1) := by decide +kernel
theorem dX11_comesBy_37 : decode cX11_comesBy 37 = .ok (.ireturn, 1) := by decide +kernel
theorem dX11_lure_0 : decode cX11_lure 0 = .ok (.aload_n 0, 1) := by decide +kernel
theorem dX11_lure_1 : decode cX11_lure 1 = .ok (.iconst 0, 1) := by decide +kernel
theorem dX11_lure_2 : decode cX11_lure 2 = .ok (.putfield 89, 3) := by decide +kernel
theorem dX11_lure_5 : decode cX11_lure 5 = .ok (.aload_n 0, 1) := by decide +kernel
theorem dX11_lure_6 : decode cX11_lure 6 = .ok (.iload_n 1, 1) := by decide +kernel
theorem dX11_lure_7 : decode cX11_lure 7 = .ok (.invokevirtual 157, 3) := by decide +kernel
theorem dX11_lure_10 : decode cX11_lure 10 = .ok (.ifCond .eq 13, 3) := by decide +kernel
theorem dX11_lure_13 : decode cX11_lure 13 = .ok (.iload_n 2, 1) := by decide +kernel
theorem dX11_lure_14 : decode cX11_lure 14 = .ok (.iconst 1, 1) := by decide +kernel
theorem dX11_lure_15 : decode cX11_lure 15 = .ok (.bipush 100, 2) := by decide +kernel
theorem dX11_lure_17 : decode cX11_lure 17 = .ok (.invokestatic 95, 3) := by decide +kernel
theorem dX11_lure_20 : decode cX11_lure 20 = .ok (.ifCond .ne 5, 3) := by decide +kernel
theorem dX11_lure_23 : decode cX11_lure 23 = .ok (.iconst (-1), 1) := by decide +kernel
theorem dX11_lure_24 : decode cX11_lure 24 = .ok (.ireturn, 1) := by decide +kernel
theorem dX11_lure_25 : decode cX11_lure 25 = .ok (.aload_n 0, 1) := by decide +kernel
theorem dX11_lure_26 : decode cX11_lure 26 = .ok (.getfield 9, 3) := by decide +kernel
theorem dX11_lure_29 : decode cX11_lure 29 = .ok (.aload_n 0, 1) := by decide +kernel
theorem dX11_lure_30 : decode cX11_lure 30 = .ok (.getfield 67, 3) := by decide +kernel
theorem dX11_lure_33 : decode cX11_lure 33 = .ok (.iconst 0, 1) := by decide +kernel
theorem dX11_lure_34 : decode cX11_lure 34 = .ok (.invokestatic 251, 3) := by decide +kernel
theorem dX11_lure_37 : decode cX11_lure 37 = .ok (.aload_n 0, 1) := by decide +kernel
theorem dX11_lure_38 : decode cX11_lure 38 = .ok (.aload_n 0, 1) := by decide +kernel
theorem dX11_lure_39 : decode cX11_lure 39 = .ok (.getfield 9, 3) := by decide +kernel
theorem dX11_lure_42 : decode cX11_lure 42 = .ok (.iload_n 1, 1) := by decide +kernel
theorem dX11_lure_43 : decode cX11_lure 43 = .ok (.invokevirtual 233, 3) := by decide +kernel
theorem dX11_lure_46 : decode cX11_lure 46 = .ok (.ifCond .ne 12, 3) := by decide +kernel
theorem dX11_lure_49 : decode cX11_lure 49 = .ok (.aload_n 0, 1) := by decide +kernel
theorem dX11_lure_50 : decode cX11_lure 50 = .ok (.iload_n 1, 1) := by decide +kernel
theorem dX11_lure_51 : decode cX11_lure 51 = .ok (.iload_n 2, 1) := by decide +kernel
theorem dX11_lure_52 : decode cX11_lure 52 = .ok (.invokevirtual 348, 3) := by decide +kernel
theorem dX11_lure_55 : decode cX11_lure 55 = .ok (.ifCond .eq 7, 3) := by decide +kernel
theorem dX11_lure_58 : decode cX11_lure 58 = .ok (.iconst 1, 1) := by decide +kernel
theorem dX11_lure_59 : decode cX11_lure 59 = .ok (.goto 4, 3) := by decide +kernel
theorem dX11_lure_62 : decode cX11_lure 62 = .ok (.iconst 0, 1) := by decide +kernel
theorem dX11_lure_63 : decode cX11_lure 63 = .ok (.istore_n 3, 1) := by decide +kernel
theorem dX11_lure_64 : decode cX11_lure 64 = .ok (.iload_n 3, 1) := by decide +kernel
theorem dX11_lure_65 : decode cX11_lure 65 = .ok (.ifCond .eq 17, 3) := by decide +kernel
theorem dX11_lure_68 : decode cX11_lure 68 = .ok (.aload_n 0, 1) := by decide +kernel
theorem dX11_lure_69 : decode cX11_lure 69 = .ok (.iconst 0, 1) := by decide +kernel
theorem dX11_lure_70 : decode cX11_lure 70 = .ok (.putfield 92, 3) := by decide +kernel
theorem dX11_lure_73 : decode cX11_lure 73 = .ok (.aload_n 0, 1) := by decide +kernel
theorem dX11_lure_74 : decode cX11_lure 74 = .ok (.ldc2_w 327, 3) := by decide +kernel
theorem dX11_lure_77 : decode cX11_lure 77 = .ok (.invokevirtual 278, 3) := by decide +kernel
theorem dX11_lure_80 : decode cX11_lure 80 = .ok (.iconst 0, 1) := by decide +kernel
theorem dX11_lure_81 : decode cX11_lure 81 = .ok (.ireturn, 1) := by decide +kernel
theorem dX11_lure_82 : decode cX11_lure 82 = .ok (.iconst 1, 1) := by decide +kernel
theorem dX11_lure_83 : decode cX11_lure 83 = .ok (.istore 4, 2) := by decide +kernel
theorem dX11_lure_85 : decode cX11_lure 85 = .ok (.iload 4, 2) := by decide +kernel
theorem dX11_lure_87 : decode cX11_lure 87 = .ok (.bipush 9, 2) := by decide +kernel
theorem dX11_lure_89 : decode cX11_lure 89 = .ok (.if_icmp .gt 119, 3) := by decide +kernel
theorem dX11_lure_92 : decode cX11_lure 92 = .ok (.iconst 0, 1) := by decide +kernel
theorem dX11_lure_93 : decode cX11_lure 93 = .ok (.istore 5, 2) := by decide +kernel
theorem dX11_lure_95 : decode cX11_lure 95 = .ok (.iload 5, 2) := by decide +kernel
theorem dX11_lure_97 : decode cX11_lure 97 = .ok (.bipush 64, 2) := by decide +kernel
theorem dX11_lure_99 : decode cX11_lure 99 = .ok (.if_icmp .ge 103, 3) := by decide +kernel
theorem dX11_lure_102 : decode cX11_lure 102 = .ok (.aload_n 0, 1) := by decide +kernel
theorem dX11_lure_103 : decode cX11_lure 103 = .ok (.iload 5, 2) := by decide +kernel
theorem dX11_lure_105 : decode cX11_lure 105 = .ok (.invokevirtual 157, 3) := by decide +kernel
theorem dX11_lure_108 : decode cX11_lure 108 = .ok (.ifCond .eq 88, 3) := by decide +kernel
theorem dX11_lure_111 : decode cX11_lure 111 = .ok (.aload_n 0, 1) := by decide +kernel
theorem dX11_lure_112 : decode cX11_lure 112 = .ok (.getfield 13, 3) := by decide +kernel
theorem dX11_lure_115 : decode cX11_lure 115 = .ok (.iload 5, 2) := by decide +kernel
theorem dX11_lure_117 : decode cX11_lure 117 = .ok (.iaload, 1) := by decide +kernel
theorem dX11_lure_118 : decode cX11_lure 118 = .ok (.ifCond .ne 78, 3) := by decide +kernel
theorem dX11_lure_121 : decode cX11_lure 121 = .ok (.aload_n 0, 1) := by decide +kernel
theorem dX11_lure_122 : decode cX11_lure 122 = .ok (.getfield 9, 3) := by decide +kernel
theorem dX11_lure_125 : decode cX11_lure 125 = .ok (.bipush 64, 2) := by decide +kernel
theorem dX11_lure_127 : decode cX11_lure 127 = .ok (.iload 5, 2) := by decide +kernel
