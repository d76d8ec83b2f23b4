theorem dX11_herds_31 : decode cX11_herds 31 = .ok (.iconst 0, 1) := by decide +kernel
theorem dX11_herds_32 : decode cX11_herds 32 = .ok (.ireturn, 1) := by decide +kernel
theorem dX11_herds_33 : decode cX11_herds 33 = .ok (.iconst 0, 1) := by decide +kernel
theorem dX11_herds_34 : decode cX11_herds 34 = .ok (.istore_n 1, 1) := by decide +kernel
theorem dX11_herds_35 : decode cX11_herds 35 = .ok (.iconst 1, 1) := by decide +kernel
theorem dX11_herds_36 : decode cX11_herds 36 = .ok (.istore_n 2, 1) := by decide +kernel
theorem dX11_herds_37 : decode cX11_herds 37 = .ok (.iload_n 2, 1) := by decide +kernel
theorem dX11_herds_38 : decode cX11_herds 38 = .ok (.ifCond .eq 52, 3) := by decide +kernel
theorem dX11_herds_41 : decode cX11_herds 41 = .ok (.aload_n 0, 1) := by decide +kernel
theorem dX11_herds_42 : decode cX11_herds 42 = .ok (.invokevirtual 126, 3) := by decide +kernel
theorem dX11_herds_45 : decode cX11_herds 45 = .ok (.ifCond .eq 45, 3) := by decide +kernel
theorem dX11_herds_48 : decode cX11_herds 48 = .ok (.aload_n 0, 1) := by decide +kernel
theorem dX11_herds_49 : decode cX11_herds 49 = .ok (.getfield 105, 3) := by decide +kernel
theorem dX11_herds_52 : decode cX11_herds 52 = .ok (.iload_n 1, 1) := by decide +kernel
theorem dX11_herds_53 : decode cX11_herds 53 = .ok (.iadd, 1) := by decide +kernel
theorem dX11_herds_54 : decode cX11_herds 54 = .ok (.bipush 6, 2) := by decide +kernel
theorem dX11_herds_56 : decode cX11_herds 56 = .ok (.if_icmp .ne 14, 3) := by decide +kernel
theorem dX11_herds_59 : decode cX11_herds 59 = .ok (.aload_n 0, 1) := by decide +kernel
theorem dX11_herds_60 : decode cX11_herds 60 = .ok (.aload_n 0, 1) := by decide +kernel
theorem dX11_herds_61 : decode cX11_herds 61 = .ok (.getfield 120, 3) := by decide +kernel
theorem dX11_herds_64 : decode cX11_herds 64 = .ok (.invokevirtual 138, 3) := by decide +kernel
theorem dX11_herds_67 : decode cX11_herds 67 = .ok (.goto 10, 3) := by decide +kernel
theorem dX11_herds_70 : decode cX11_herds 70 = .ok (.aload_n 0, 1) := by decide +kernel
theorem dX11_herds_71 : decode cX11_herds 71 = .ok (.iconst 3, 1) := by decide +kernel
theorem dX11_herds_72 : decode cX11_herds 72 = .ok (.iload_n 1, 1) := by decide +kernel
theorem dX11_herds_73 : decode cX11_herds 73 = .ok (.imul, 1) := by decide +kernel
theorem dX11_herds_74 : decode cX11_herds 74 = .ok (.invokevirtual 175, 3) := by decide +kernel
theorem dX11_herds_77 : decode cX11_herds 77 = .ok (.iinc 1 1, 3) := by decide +kernel
theorem dX11_herds_80 : decode cX11_herds 80 = .ok (.aload_n 0, 1) := by decide +kernel
theorem dX11_herds_81 : decode cX11_herds 81 = .ok (.bipush 59, 2) := by decide +kernel
theorem dX11_herds_83 : decode cX11_herds 83 = .ok (.invokevirtual 134, 3) := by decide +kernel
theorem dX11_herds_86 : decode cX11_herds 86 = .ok (.istore_n 2, 1) := by decide +kernel
theorem dX11_herds_87 : decode cX11_herds 87 = .ok (.goto (-50), 3) := by decide +kernel
theorem dX11_herds_90 : decode cX11_herds 90 = .ok (.aload_n 0, 1) := by decide +kernel
theorem dX11_herds_91 : decode cX11_herds 91 = .ok (.getfield 120, 3) := by decide +kernel
theorem dX11_herds_94 : decode cX11_herds 94 = .ok (.aload_n 0, 1) := by decide +kernel
theorem dX11_herds_95 : decode cX11_herds 95 = .ok (.getfield 114, 3) := by decide +kernel
theorem dX11_herds_98 : decode cX11_herds 98 = .ok (.if_icmp .ge 11, 3) := by decide +kernel
theorem dX11_herds_101 : decode cX11_herds 101 = .ok (.aload_n 0, 1) := by decide +kernel
theorem dX11_herds_102 : decode cX11_herds 102 = .ok (.aload_n 0, 1) := by decide +kernel
theorem dX11_herds_103 : decode cX11_herds 103 = .ok (.getfield 120, 3) := by decide +kernel
theorem dX11_herds_106 : decode cX11_herds 106 = .ok (.invokevirtual 138, 3) := by decide +kernel
theorem dX11_herds_109 : decode cX11_herds 109 = .ok (.aload_n 0, 1) := by decide +kernel
theorem dX11_herds_110 : decode cX11_herds 110 = .ok (.invokevirtual 126, 3) := by decide +kernel
theorem dX11_herds_113 : decode cX11_herds 113 = .ok (.ifCond .ne 10, 3) := by decide +kernel
theorem dX11_herds_116 : decode cX11_herds 116 = .ok (.iconst (-1), 1) := by decide +kernel
theorem dX11_herds_117 : decode cX11_herds 117 = .ok (.aload_n 0, 1) := by decide +kernel
theorem dX11_herds_118 : decode cX11_herds 118 = .ok (.getfield 123, 3) := by decide +kernel
theorem dX11_herds_121 : decode cX11_herds 121 = .ok (.isub, 1) := by decide +kernel
theorem dX11_herds_122 : decode cX11_herds 122 = .ok (.ireturn, 1) := by decide +kernel
theorem dX11_herds_123 : decode cX11_herds 123 = .ok (.iconst 0, 1) := by decide +kernel
theorem dX11_herds_124 : decode cX11_herds 124 = .ok (.istore_n 3, 1) := by decide +kernel
theorem dX11_herds_125 : decode cX11_herds 125 = .ok (.iload_n 3, 1) := by decide +kernel
theorem dX11_herds_126 : decode cX11_herds 126 = .ok (.iload_n 1, 1) := by decide +kernel
theorem dX11_herds_127 : decode cX11_herds 127 = .ok (.if_icmp .ge 108, 3) := by decide +kernel
theorem dX11_herds_130 : decode cX11_herds 130 = .ok (.aload_n 0, 1) := by decide +kernel
theorem dX11_herds_131 : decode cX11_herds 131 = .ok (.getfield 22, 3) := by decide +kernel
theorem dX11_herds_134 : decode cX11_herds 134 = .ok (.aload_n 0, 1) := by decide +kernel
theorem dX11_herds_135 : decode cX11_herds 135 = .ok (.getfield 105, 3) := by decide +kernel
theorem dX11_herds_138 : decode cX11_herds 138 = .ok (.aload_n 0, 1) := by decide +kernel
theorem dX11_herds_139 : decode cX11_herds 139 = .ok (.getfield 46, 3) := by decide +kernel
theorem dX11_herds_142 : decode cX11_herds 142 = .ok (.iconst 3, 1) := by decide +kernel
theorem dX11_herds_143 : decode cX11_herds 143 = .ok (.iload_n 3, 1) := by decide +kernel
theorem dX11_herds_144 : decode cX11_herds 144 = .ok (.imul, 1) := by decide +kernel
theorem dX11_herds_145 : decode cX11_herds 145 = .ok (.iconst 1, 1) := by decide +kernel
theorem dX11_herds_146 : decode cX11_herds 146 = .ok (.iadd, 1) := by decide +kernel
theorem dX11_herds_147 : decode cX11_herds 147 = .ok (.iaload, 1) := by decide +kernel
theorem dX11_herds_148 : decode cX11_herds 148 = .ok (.iastore, 1) := by decide +kernel
theorem dX11_herds_149 : decode cX11_herds 149 = .ok (.aload_n 0, 1) := by decide +kernel
theorem dX11_herds_150 : decode cX11_herds 150 = .ok (.dup, 1) := by decide +kernel
theorem dX11_herds_151 : decode cX11_herds 151 = .ok (.getfield 161, 3) := by decide +kernel
theorem dX11_herds_154 : decode cX11_herds 154 = .ok (.aload_n 0, 1) := by decide +kernel
theorem dX11_herds_155 : decode cX11_herds 155 = .ok (.getfield 46, 3) := by decide +kernel
theorem dX11_herds_158 : decode cX11_herds 158 = .ok (.iconst 3, 1) := by decide +kernel
theorem dX11_herds_159 : decode cX11_herds 159 = .ok (.iload_n 3, 1) := by decide +kernel
theorem dX11_herds_160 : decode cX11_herds 160 = .ok (.imul, 1) := by decide +kernel
theorem dX11_herds_161 : decode cX11_herds 161 = .ok (.iconst 2, 1) := by decide +kernel
theorem dX11_herds_162 : decode cX11_herds 162 = .ok (.iadd, 1) := by decide +kernel
theorem dX11_herds_163 : decode cX11_herds 163 = .ok (.iaload, 1) := by decide +kernel
theorem dX11_herds_164 : decode cX11_herds 164 = .ok (.aload_n 0, 1) := by decide +kernel
theorem dX11_herds_165 : decode cX11_herds 165 = .ok (.getfield 105, 3) := by decide +kernel
theorem dX11_herds_168 : decode cX11_herds 168 = .ok (.ishl, 1) := by decide +kernel
theorem dX11_herds_169 : decode cX11_herds 169 = .ok (.ior, 1) := by decide +kernel
theorem dX11_herds_170 : decode cX11_herds 170 = .ok (.putfield 161, 3) := by decide +kernel
theorem dX11_herds_173 : decode cX11_herds 173 = .ok (.aload_n 0, 1) := by decide +kernel
theorem dX11_herds_174 : decode cX11_herds 174 = .ok (.getfield 9, 3) := by decide +kernel
theorem dX11_herds_177 : decode cX11_herds 177 = .ok (.sipush 320, 3) := by decide +kernel
theorem dX11_herds_180 : decode cX11_herds 180 = .ok (.aload_n 0, 1) := by decide +kernel
theorem dX11_herds_181 : decode cX11_herds 181 = .ok (.getfield 105, 3) := by decide +kernel
theorem dX11_herds_184 : decode cX11_herds 184 = .ok (.iadd, 1) := by decide +kernel
theorem dX11_herds_185 : decode cX11_herds 185 = .ok (.aload_n 0, 1) := by decide +kernel
theorem dX11_herds_186 : decode cX11_herds 186 = .ok (.getfield 46, 3) := by decide +kernel
theorem dX11_herds_189 : decode cX11_herds 189 = .ok (.iconst 3, 1) := by decide +kernel
theorem dX11_herds_190 : decode cX11_herds 190 = .ok (.iload_n 3, 1) := by decide +kernel
theorem dX11_herds_191 : decode cX11_herds 191 = .ok (.imul, 1) := by decide +kernel
theorem dX11_herds_192 : decode cX11_herds 192 = .ok (.iaload, 1) := by decide +kernel
theorem dX11_herds_193 : decode cX11_herds 193 = .ok (.iastore, 1) := by decide +kernel
theorem dX11_herds_194 : decode cX11_herds 194 = .ok (.aload_n 0, 1) := by decide +kernel
theorem dX11_herds_195 : decode cX11_herds 195 = .ok (.getfield 9, 3) := by decide +kernel
theorem dX11_herds_198 : decode cX11_herds 198 = .ok (.sipush 326, 3) := by decide +kernel
theorem dX11_herds_201 : decode cX11_herds 201 = .ok (.aload_n 0, 1) := by decide +kernel
theorem dX11_herds_202 : decode cX11_herds 202 = .ok (.getfield 105, 3) := by decide +kernel
theorem dX11_herds_205 : decode cX11_herds 205 = .ok (.iadd, 1) := by decide +kernel
theorem dX11_herds_206 : decode cX11_herds 206 = .ok (.iconst 1, 1) := by decide +kernel
theorem dX11_herds_207 : decode cX11_herds 207 = .ok (.iastore, 1) := by decide +kernel
theorem dX11_herds_208 : decode cX11_herds 208 = .ok (.aload_n 0, 1) := by decide +kernel
theorem dX11_herds_209 : decode cX11_herds 209 = .ok (.getfield 9, 3) := by decide +kernel
theorem dX11_herds_212 : decode cX11_herds 212 = .ok (.aload_n 0, 1) := by decide +kernel
theorem dX11_herds_213 : decode cX11_herds 213 = .ok (.getfield 105, 3) := by decide +kernel
theorem dX11_herds_216 : decode cX11_herds 216 = .ok (.invokestatic 178, 3) := by decide +kernel
theorem dX11_herds_219 : decode cX11_herds 219 = .ok (.aload_n 0, 1) := by decide +kernel
theorem dX11_herds_220 : decode cX11_herds 220 = .ok (.dup, 1) := by decide +kernel
theorem dX11_herds_221 : decode cX11_herds 221 = .ok (.getfield 105, 3) := by decide +kernel
theorem dX11_herds_224 : decode cX11_herds 224 = .ok (.iconst 1, 1) := by decide +kernel
theorem dX11_herds_225 : decode cX11_herds 225 = .ok (.iadd, 1) := by decide +kernel
theorem dX11_herds_226 : decode cX11_herds 226 = .ok (.putfield 105, 3) := by decide +kernel
theorem dX11_herds_229 : decode cX11_herds 229 = .ok (.iinc 3 1, 3) := by decide +kernel
theorem dX11_herds_232 : decode cX11_herds 232 = .ok (.goto (-107), 3) := by decide +kernel
theorem dX11_herds_235 : decode cX11_herds 235 = .ok (.aload_n 0, 1) := by decide +kernel
theorem dX11_herds_236 : decode cX11_herds 236 = .ok (.iconst 0, 1) := by decide +kernel
theorem dX11_herds_237 : decode cX11_herds 237 = .ok (.putfield 168, 3) := by decide +kernel
theorem dX11_herds_240 : decode cX11_herds 240 = .ok (.aload_n 0, 1) := by decide +kernel
theorem dX11_herds_241 : decode cX11_herds 241 = .ok (.dup, 1) := by decide +kernel
theorem dX11_herds_242 : decode cX11_herds 242 = .ok (.getfield 182, 3) := by decide +kernel
theorem dX11_herds_245 : decode cX11_herds 245 = .ok (.iconst 1, 1) := by decide +kernel
theorem dX11_herds_246 : decode cX11_herds 246 = .ok (.iadd, 1) := by decide +kernel
theorem dX11_herds_247 : decode cX11_herds 247 = .ok (.putfield 182, 3) := by decide +kernel
theorem dX11_herds_250 : decode cX11_herds 250 = .ok (.iload_n 1, 1) := by decide +kernel
theorem dX11_herds_251 : decode cX11_herds 251 = .ok (.ireturn, 1) := by decide +kernel
theorem dX11_tread_0 : decode cX11_tread 0 = .ok (.aload_n 0, 1) := by decide +kernel
theorem dX11_tread_1 : decode cX11_tread 1 = .ok (.sipush 192, 3) := by decide +kernel
theorem dX11_tread_4 : decode cX11_tread 4 = .ok (.aload_n 0, 1) := by decide +kernel
theorem dX11_tread_5 : decode cX11_tread 5 = .ok (.sipush 320, 3) := by decide +kernel
theorem dX11_tread_8 : decode cX11_tread 8 = .ok (.iload_n 1, 1) := by decide +kernel
theorem dX11_tread_9 : decode cX11_tread 9 = .ok (.iadd, 1) := by decide +kernel
theorem dX11_tread_10 : decode cX11_tread 10 = .ok (.iaload, 1) := by decide +kernel
theorem dX11_tread_11 : decode cX11_tread 11 = .ok (.iadd, 1) := by decide +kernel
theorem dX11_tread_12 : decode cX11_tread 12 = .ok (.aload_n 0, 1) := by decide +kernel
theorem dX11_tread_13 : decode cX11_tread 13 = .ok (.sipush 333, 3) := by decide +kernel
theorem dX11_tread_16 : decode cX11_tread 16 = .ok (.iaload, 1) := by decide +kernel
theorem dX11_tread_17 : decode cX11_tread 17 = .ok (.iastore, 1) := by decide +kernel
theorem dX11_tread_18 : decode cX11_tread 18 = .ok (.aload_n 0, 1) := by decide +kernel
theorem dX11_tread_19 : decode cX11_tread 19 = .ok (.sipush 256, 3) := by decide +kernel
theorem dX11_tread_22 : decode cX11_tread 22 = .ok (.aload_n 0, 1) := by decide +kernel
theorem dX11_tread_23 : decode cX11_tread 23 = .ok (.sipush 320, 3) := by decide +kernel
theorem dX11_tread_26 : decode cX11_tread 26 = .ok (.iload_n 1, 1) := by decide +kernel
theorem dX11_tread_27 : decode cX11_tread 27 = .ok (.iadd, 1) := by decide +kernel
theorem dX11_tread_28 : decode cX11_tread 28 = .ok (.iaload, 1) := by decide +kernel
theorem dX11_tread_29 : decode cX11_tread 29 = .ok (.iadd, 1) := by decide +kernel
theorem dX11_tread_30 : decode cX11_tread 30 = .ok (.iload_n 1, 1) := by decide +kernel
theorem dX11_tread_31 : decode cX11_tread 31 = .ok (.iastore, 1) := by decide +kernel
theorem dX11_tread_32 : decode cX11_tread 32 = .ok (.return_, 1) := by decide +kernel
theorem dX11_held_0 : decode cX11_held 0 = .ok (.aload_n 0, 1) := by decide +kernel
theorem dX11_held_1 : decode cX11_held 1 = .ok (.iload_n 1, 1) := by decide +kernel
theorem dX11_held_2 : decode cX11_held 2 = .ok (.invokevirtual 185, 3) := by decide +kernel
theorem dX11_held_5 : decode cX11_held 5 = .ok (.istore_n 2, 1) := by decide +kernel
theorem dX11_held_6 : decode cX11_held 6 = .ok (.aload_n 0, 1) := by decide +kernel
theorem dX11_held_7 : decode cX11_held 7 = .ok (.bipush 60, 2) := by decide +kernel
theorem dX11_held_9 : decode cX11_held 9 = .ok (.invokevirtual 134, 3) := by decide +kernel
theorem dX11_held_12 : decode cX11_held 12 = .ok (.ifCond .eq 18, 3) := by decide +kernel
theorem dX11_held_15 : decode cX11_held 15 = .ok (.iload_n 2, 1) := by decide +kernel
theorem dX11_held_16 : decode cX11_held 16 = .ok (.aload_n 0, 1) := by decide +kernel
theorem dX11_held_17 : decode cX11_held 17 = .ok (.iload_n 1, 1) := by decide +kernel
theorem dX11_held_18 : decode cX11_held 18 = .ok (.invokevirtual 185, 3) := by decide +kernel
theorem dX11_held_21 : decode cX11_held 21 = .ok (.if_icmp .ge 7, 3) := by decide +kernel
theorem dX11_held_24 : decode cX11_held 24 = .ok (.iconst 1, 1) := by decide +kernel
theorem dX11_held_25 : decode cX11_held 25 = .ok (.goto 4, 3) := by decide +kernel
theorem dX11_held_28 : decode cX11_held 28 = .ok (.iconst 0, 1) := by decide +kernel
theorem dX11_held_29 : decode cX11_held 29 = .ok (.ireturn, 1) := by decide +kernel
theorem dX11_held_30 : decode cX11_held 30 = .ok (.aload_n 0, 1) := by decide +kernel
theorem dX11_held_31 : decode cX11_held 31 = .ok (.bipush 62, 2) := by decide +kernel
theorem dX11_held_33 : decode cX11_held 33 = .ok (.invokevirtual 134, 3) := by decide +kernel
theorem dX11_held_36 : decode cX11_held 36 = .ok (.ifCond .eq 18, 3) := by decide +kernel
theorem dX11_held_39 : decode cX11_held 39 = .ok (.iload_n 2, 1) := by decide +kernel
theorem dX11_held_40 : decode cX11_held 40 = .ok (.aload_n 0, 1) := by decide +kernel
theorem dX11_held_41 : decode cX11_held 41 = .ok (.iload_n 1, 1) := by decide +kernel
theorem dX11_held_42 : decode cX11_held 42 = .ok (.invokevirtual 185, 3) := by decide +kernel
theorem dX11_held_45 : decode cX11_held 45 = .ok (.if_icmp .le 7, 3) := by decide +kernel
theorem dX11_held_48 : decode cX11_held 48 = .ok (.iconst 1, 1) := by decide +kernel
theorem dX11_held_49 : decode cX11_held 49 = .ok (.goto 4, 3) := by decide +kernel
theorem dX11_held_52 : decode cX11_held 52 = .ok (.iconst 0, 1) := by decide +kernel
theorem dX11_held_53 : decode cX11_held 53 = .ok (.ireturn, 1) := by decide +kernel
theorem dX11_held_54 : decode cX11_held 54 = .ok (.aload_n 0, 1) := by decide +kernel
theorem dX11_held_55 : decode cX11_held 55 = .ok (.bipush 61, 2) := by decide +kernel
theorem dX11_held_57 : decode cX11_held 57 = .ok (.invokevirtual 134, 3) := by decide +kernel
theorem dX11_held_60 : decode cX11_held 60 = .ok (.ifCond .eq 18, 3) := by decide +kernel
theorem dX11_held_63 : decode cX11_held 63 = .ok (.iload_n 2, 1) := by decide +kernel
theorem dX11_held_64 : decode cX11_held 64 = .ok (.aload_n 0, 1) := by decide +kernel
theorem dX11_held_65 : decode cX11_held 65 = .ok (.iload_n 1, 1) := by decide +kernel
theorem dX11_held_66 : decode cX11_held 66 = .ok (.invokevirtual 185, 3) := by decide +kernel
theorem dX11_held_69 : decode cX11_held 69 = .ok (.if_icmp .ne 7, 3) := by decide +kernel
theorem dX11_held_72 : decode cX11_held 72 = .ok (.iconst 1, 1) := by decide +kernel
theorem dX11_held_73 : decode cX11_held 73 = .ok (.goto 4, 3) := by decide +kernel
theorem dX11_held_76 : decode cX11_held 76 = .ok (.iconst 0, 1) := by decide +kernel
theorem dX11_held_77 : decode cX11_held 77 = .ok (.ireturn, 1) := by decide +kernel
theorem dX11_held_78 : decode cX11_held 78 = .ok (.iload_n 2, 1) := by decide +kernel
theorem dX11_held_79 : decode cX11_held 79 = .ok (.ireturn, 1) := by decide +kernel
theorem dX11_sum_0 : decode cX11_sum 0 = .ok (.aload_n 0, 1) := by decide +kernel
theorem dX11_sum_1 : decode cX11_sum 1 = .ok (.iload_n 1, 1) := by decide +kernel
theorem dX11_sum_2 : decode cX11_sum 2 = .ok (.invokevirtual 189, 3) := by decide +kernel
theorem dX11_sum_5 : decode cX11_sum 5 = .ok (.istore_n 2, 1) := by decide +kernel
theorem dX11_sum_6 : decode cX11_sum 6 = .ok (.aload_n 0, 1) := by decide +kernel
theorem dX11_sum_7 : decode cX11_sum 7 = .ok (.invokevirtual 126, 3) := by decide +kernel
theorem dX11_sum_10 : decode cX11_sum 10 = .ok (.ifCond .eq 72, 3) := by decide +kernel
theorem dX11_sum_13 : decode cX11_sum 13 = .ok (.aload_n 0, 1) := by decide +kernel
theorem dX11_sum_14 : decode cX11_sum 14 = .ok (.invokevirtual 130, 3) := by decide +kernel
theorem dX11_sum_17 : decode cX11_sum 17 = .ok (.bipush 43, 2) := by decide +kernel
theorem dX11_sum_19 : decode cX11_sum 19 = .ok (.if_icmp .eq 12, 3) := by decide +kernel
theorem dX11_sum_22 : decode cX11_sum 22 = .ok (.aload_n 0, 1) := by decide +kernel
theorem dX11_sum_23 : decode cX11_sum 23 = .ok (.invokevirtual 130, 3) := by decide +kernel
theorem dX11_sum_26 : decode cX11_sum 26 = .ok (.bipush 45, 2) := by decide +kernel
theorem dX11_sum_28 : decode cX11_sum 28 = .ok (.if_icmp .ne 54, 3) := by decide +kernel
theorem dX11_sum_31 : decode cX11_sum 31 = .ok (.aload_n 0, 1) := by decide +kernel
theorem dX11_sum_32 : decode cX11_sum 32 = .ok (.invokevirtual 130, 3) := by decide +kernel
theorem dX11_sum_35 : decode cX11_sum 35 = .ok (.bipush 43, 2) := by decide +kernel
theorem dX11_sum_37 : decode cX11_sum 37 = .ok (.if_icmp .ne 7, 3) := by decide +kernel
theorem dX11_sum_40 : decode cX11_sum 40 = .ok (.iconst 1, 1) := by decide +kernel
theorem dX11_sum_41 : decode cX11_sum 41 = .ok (.goto 4, 3) := by decide +kernel
theorem dX11_sum_44 : decode cX11_sum 44 = .ok (.iconst 0, 1) := by decide +kernel
theorem dX11_sum_45 : decode cX11_sum 45 = .ok (.istore_n 3, 1) := by decide +kernel
theorem dX11_sum_46 : decode cX11_sum 46 = .ok (.aload_n 0, 1) := by decide +kernel
theorem dX11_sum_47 : decode cX11_sum 47 = .ok (.dup, 1) := by decide +kernel
theorem dX11_sum_48 : decode cX11_sum 48 = .ok (.getfield 120, 3) := by decide +kernel
theorem dX11_sum_51 : decode cX11_sum 51 = .ok (.iconst 1, 1) := by decide +kernel
theorem dX11_sum_52 : decode cX11_sum 52 = .ok (.iadd, 1) := by decide +kernel
theorem dX11_sum_53 : decode cX11_sum 53 = .ok (.putfield 120, 3) := by decide +kernel
theorem dX11_sum_56 : decode cX11_sum 56 = .ok (.aload_n 0, 1) := by decide +kernel
theorem dX11_sum_57 : decode cX11_sum 57 = .ok (.iload_n 1, 1) := by decide +kernel
theorem dX11_sum_58 : decode cX11_sum 58 = .ok (.invokevirtual 189, 3) := by decide +kernel
theorem dX11_sum_61 : decode cX11_sum 61 = .ok (.istore 4, 2) := by decide +kernel
theorem dX11_sum_63 : decode cX11_sum 63 = .ok (.iload_n 3, 1) := by decide +kernel
theorem dX11_sum_64 : decode cX11_sum 64 = .ok (.ifCond .eq 10, 3) := by decide +kernel
theorem dX11_sum_67 : decode cX11_sum 67 = .ok (.iload_n 2, 1) := by decide +kernel
theorem dX11_sum_68 : decode cX11_sum 68 = .ok (.iload 4, 2) := by decide +kernel
theorem dX11_sum_70 : decode cX11_sum 70 = .ok (.iadd, 1) := by decide +kernel
theorem dX11_sum_71 : decode cX11_sum 71 = .ok (.goto 7, 3) := by decide +kernel
theorem dX11_sum_74 : decode cX11_sum 74 = .ok (.iload_n 2, 1) := by decide +kernel
theorem dX11_sum_75 : decode cX11_sum 75 = .ok (.iload 4, 2) := by decide +kernel
theorem dX11_sum_77 : decode cX11_sum 77 = .ok (.isub, 1) := by decide +kernel
theorem dX11_sum_78 : decode cX11_sum 78 = .ok (.istore_n 2, 1) := by decide +kernel
theorem dX11_sum_79 : decode cX11_sum 79 = .ok (.goto (-73), 3) := by decide +kernel
theorem dX11_sum_82 : decode cX11_sum 82 = .ok (.iload_n 2, 1) := by decide +kernel
theorem dX11_sum_83 : decode cX11_sum 83 = .ok (.ireturn, 1) := by decide +kernel
theorem dX11_product_0 : decode cX11_product 0 = .ok (.aload_n 0, 1) := by decide +kernel
theorem dX11_product_1 : decode cX11_product 1 = .ok (.iload_n 1, 1) := by decide +kernel
theorem dX11_product_2 : decode cX11_product 2 = .ok (.invokevirtual 192, 3) := by decide +kernel
theorem dX11_product_5 : decode cX11_product 5 = .ok (.istore_n 2, 1) := by decide +kernel
theorem dX11_product_6 : decode cX11_product 6 = .ok (.aload_n 0, 1) := by decide +kernel
theorem dX11_product_7 : decode cX11_product 7 = .ok (.invokevirtual 126, 3) := by decide +kernel
theorem dX11_product_10 : decode cX11_product 10 = .ok (.ifCond .eq 81, 3) := by decide +kernel
theorem dX11_product_13 : decode cX11_product 13 = .ok (.aload_n 0, 1) := by decide +kernel
theorem dX11_product_14 : decode cX11_product 14 = .ok (.invokevirtual 130, 3) := by decide +kernel
theorem dX11_product_17 : decode cX11_product 17 = .ok (.bipush 42, 2) := by decide +kernel
theorem dX11_product_19 : decode cX11_product 19 = .ok (.if_icmp .eq 12, 3) := by decide +kernel
theorem dX11_product_22 : decode cX11_product 22 = .ok (.aload_n 0, 1) := by decide +kernel
theorem dX11_product_23 : decode cX11_product 23 = .ok (.invokevirtual 130, 3) := by decide +kernel
theorem dX11_product_26 : decode cX11_product 26 = .ok (.bipush 47, 2) := by decide +kernel
theorem dX11_product_28 : decode cX11_product 28 = .ok (.if_icmp .ne 63, 3) := by decide +kernel
theorem dX11_product_31 : decode cX11_product 31 = .ok (.aload_n 0, 1) := by decide +kernel
theorem dX11_product_32 : decode cX11_product 32 = .ok (.invokevirtual 130, 3) := by decide +kernel
theorem dX11_product_35 : decode cX11_product 35 = .ok (.bipush 42, 2) := by decide +kernel
theorem dX11_product_37 : decode cX11_product 37 = .ok (.if_icmp .ne 7, 3) := by decide +kernel
theorem dX11_product_40 : decode cX11_product 40 = .ok (.iconst 1, 1) := by decide +kernel
theorem dX11_product_41 : decode cX11_product 41 = .ok (.goto 4, 3) := by decide +kernel
theorem dX11_product_44 : decode cX11_product 44 = .ok (.iconst 0, 1) := by decide +kernel
theorem dX11_product_45 : decode cX11_product 45 = .ok (.istore_n 3, 1) := by decide +kernel
theorem dX11_product_46 : decode cX11_product 46 = .ok (.aload_n 0, 1) := by decide +kernel
theorem dX11_product_47 : decode cX11_product 47 = .ok (.dup, 1) := by decide +kernel
theorem dX11_product_48 : decode cX11_product 48 = .ok (.getfield 120, 3) := by decide +kernel
theorem dX11_product_51 : decode cX11_product 51 = .ok (.iconst 1, 1) := by decide +kernel
theorem dX11_product_52 : decode cX11_product 52 = .ok (.iadd, 1) := by decide +kernel
theorem dX11_product_53 : decode cX11_product 53 = .ok (.putfield 120, 3) := by decide +kernel
theorem dX11_product_56 : decode cX11_product 56 = .ok (.aload_n 0, 1) := by decide +kernel
theorem dX11_product_57 : decode cX11_product 57 = .ok (.iload_n 1, 1) := by decide +kernel
theorem dX11_product_58 : decode cX11_product 58 = .ok (.invokevirtual 192, 3) := by decide +kernel
theorem dX11_product_61 : decode cX11_product 61 = .ok (.istore 4, 2) := by decide +kernel
theorem dX11_product_63 : decode cX11_product 63 = .ok (.iload_n 3, 1) := by decide +kernel
theorem dX11_product_64 : decode cX11_product 64 = .ok (.ifCond .eq 10, 3) := by decide +kernel
theorem dX11_product_67 : decode cX11_product 67 = .ok (.iload_n 2, 1) := by decide +kernel
theorem dX11_product_68 : decode cX11_product 68 = .ok (.iload 4, 2) := by decide +kernel
theorem dX11_product_70 : decode cX11_product 70 = .ok (.imul, 1) := by decide +kernel
theorem dX11_product_71 : decode cX11_product 71 = .ok (.goto 16, 3) := by decide +kernel
theorem dX11_product_74 : decode cX11_product 74 = .ok (.iload 4, 2) := by decide +kernel
theorem dX11_product_76 : decode cX11_product 76 = .ok (.ifCond .ne 7, 3) := by decide +kernel
theorem dX11_product_79 : decode cX11_product 79 = .ok (.iconst 0, 1) := by decide +kernel
theorem dX11_product_80 : decode cX11_product 80 = .ok (.goto 7, 3) := by decide +kernel
theorem dX11_product_83 : decode cX11_product 83 = .ok (.iload_n 2, 1) := by decide +kernel
theorem dX11_product_84 : decode cX11_product 84 = .ok (.iload 4, 2) := by decide +kernel
theorem dX11_product_86 : decode cX11_product 86 = .ok (.idiv, 1) := by decide +kernel
theorem dX11_product_87 : decode cX11_product 87 = .ok (.istore_n 2, 1) := by decide +kernel
theorem dX11_product_88 : decode cX11_product 88 = .ok (.goto (-82), 3) := by decide +kernel
theorem dX11_product_91 : decode cX11_product 91 = .ok (.iload_n 2, 1) := by decide +kernel
theorem dX11_product_92 : decode cX11_product 92 = .ok (.ireturn, 1) := by decide +kernel
theorem dX11_letterOf_0 : decode cX11_letterOf 0 = .ok (.iload_n 0, 1) := by decide +kernel
theorem dX11_letterOf_1 : decode cX11_letterOf 1 = .ok (.tableswitch 100 101 116 #[91, 100, 79, 100, 94, 100, 97, 100, 87, 100, 89, 100, 100, 85, 81, 83], 79) := by decide +kernel
theorem dX11_letterOf_80 : decode cX11_letterOf 80 = .ok (.iconst 0, 1) := by decide +kernel
theorem dX11_letterOf_81 : decode cX11_letterOf 81 = .ok (.ireturn, 1) := by decide +kernel
theorem dX11_letterOf_82 : decode cX11_letterOf 82 = .ok (.iconst 1, 1) := by decide +kernel
theorem dX11_letterOf_83 : decode cX11_letterOf 83 = .ok (.ireturn, 1) := by decide +kernel
theorem dX11_letterOf_84 : decode cX11_letterOf 84 = .ok (.iconst 2, 1) := by decide +kernel
theorem dX11_letterOf_85 : decode cX11_letterOf 85 = .ok (.ireturn, 1) := by decide +kernel
theorem dX11_letterOf_86 : decode cX11_letterOf 86 = .ok (.iconst 3, 1) := by decide +kernel
theorem dX11_letterOf_87 : decode cX11_letterOf 87 = .ok (.ireturn, 1) := by decide +kernel
theorem dX11_letterOf_88 : decode cX11_letterOf 88 = .ok (.iconst 4, 1) := by decide +kernel
theorem dX11_letterOf_89 : decode cX11_letterOf 89 = .ok (.ireturn, 1) := by decide +kernel
theorem dX11_letterOf_90 : decode cX11_letterOf 90 = .ok (.iconst 5, 1) := by decide +kernel
theorem dX11_letterOf_91 : decode cX11_letterOf 91 = .ok (.ireturn, 1) := by decide +kernel
theorem dX11_letterOf_92 : decode cX11_letterOf 92 = .ok (.bipush 6, 2) := by decide +kernel
theorem dX11_letterOf_94 : decode cX11_letterOf 94 = .ok (.ireturn, 1) := by decide +kernel
theorem dX11_letterOf_95 : decode cX11_letterOf 95 = .ok (.bipush 7, 2) := by decide +kernel
theorem dX11_letterOf_97 : decode cX11_letterOf 97 = .ok (.ireturn, 1) := by decide +kernel
theorem dX11_letterOf_98 : decode cX11_letterOf 98 = .ok (.bipush 8, 2) := by decide +kernel
theorem dX11_letterOf_100 : decode cX11_letterOf 100 = .ok (.ireturn, 1) := by decide +kernel
theorem dX11_letterOf_101 : decode cX11_letterOf 101 = .ok (.iconst (-1), 1) := by decide +kernel
theorem dX11_letterOf_102 : decode cX11_letterOf 102 = .ok (.ireturn, 1) := by decide +kernel
theorem dX11_thing_0 : decode cX11_thing 0 = .ok (.aload_n 0, 1) := by decide +kernel
theorem dX11_thing_1 : decode cX11_thing 1 = .ok (.bipush 45, 2) := by decide +kernel
theorem dX11_thing_3 : decode cX11_thing 3 = .ok (.invokevirtual 134, 3) := by decide +kernel
theorem dX11_thing_6 : decode cX11_thing 6 = .ok (.ifCond .eq 10, 3) := by decide +kernel
theorem dX11_thing_9 : decode cX11_thing 9 = .ok (.aload_n 0, 1) := by decide +kernel
theorem dX11_thing_10 : decode cX11_thing 10 = .ok (.iload_n 1, 1) := by decide +kernel
theorem dX11_thing_11 : decode cX11_thing 11 = .ok (.invokevirtual 192, 3) := by decide +kernel
theorem dX11_thing_14 : decode cX11_thing 14 = .ok (.ineg, 1) := by decide +kernel
theorem dX11_thing_15 : decode cX11_thing 15 = .ok (.ireturn, 1) := by decide +kernel
theorem dX11_thing_16 : decode cX11_thing 16 = .ok (.aload_n 0, 1) := by decide +kernel
theorem dX11_thing_17 : decode cX11_thing 17 = .ok (.invokevirtual 126, 3) := by decide +kernel
theorem dX11_thing_20 : decode cX11_thing 20 = .ok (.ifCond .ne 5, 3) := by decide +kernel
theorem dX11_thing_23 : decode cX11_thing 23 = .ok (.iconst 0, 1) := by decide +kernel
theorem dX11_thing_24 : decode cX11_thing 24 = .ok (.ireturn, 1) := by decide +kernel
theorem dX11_thing_25 : decode cX11_thing 25 = .ok (.aload_n 0, 1) := by decide +kernel
theorem dX11_thing_26 : decode cX11_thing 26 = .ok (.invokevirtual 130, 3) := by decide +kernel
theorem dX11_thing_29 : decode cX11_thing 29 = .ok (.istore_n 2, 1) := by decide +kernel
theorem dX11_thing_30 : decode cX11_thing 30 = .ok (.iload_n 2, 1) := by decide +kernel
theorem dX11_thing_31 : decode cX11_thing 31 = .ok (.bipush 40, 2) := by decide +kernel
theorem dX11_thing_33 : decode cX11_thing 33 = .ok (.if_icmp .ne 34, 3) := by decide +kernel
theorem dX11_thing_36 : decode cX11_thing 36 = .ok (.iload_n 1, 1) := by decide +kernel
theorem dX11_thing_37 : decode cX11_thing 37 = .ok (.iconst 4, 1) := by decide +kernel
theorem dX11_thing_38 : decode cX11_thing 38 = .ok (.if_icmp .ge 29, 3) := by decide +kernel
theorem dX11_thing_41 : decode cX11_thing 41 = .ok (.aload_n 0, 1) := by decide +kernel
theorem dX11_thing_42 : decode cX11_thing 42 = .ok (.dup, 1) := by decide +kernel
theorem dX11_thing_43 : decode cX11_thing 43 = .ok (.getfield 120, 3) := by decide +kernel
theorem dX11_thing_46 : decode cX11_thing 46 = .ok (.iconst 1, 1) := by decide +kernel
theorem dX11_thing_47 : decode cX11_thing 47 = .ok (.iadd, 1) := by decide +kernel
theorem dX11_thing_48 : decode cX11_thing 48 = .ok (.putfield 120, 3) := by decide +kernel
theorem dX11_thing_51 : decode cX11_thing 51 = .ok (.aload_n 0, 1) := by decide +kernel
theorem dX11_thing_52 : decode cX11_thing 52 = .ok (.iload_n 1, 1) := by decide +kernel
theorem dX11_thing_53 : decode cX11_thing 53 = .ok (.iconst 1, 1) := by decide +kernel
theorem dX11_thing_54 : decode cX11_thing 54 = .ok (.iadd, 1) := by decide +kernel
theorem dX11_thing_55 : decode cX11_thing 55 = .ok (.invokevirtual 195, 3) := by decide +kernel
theorem dX11_thing_58 : decode cX11_thing 58 = .ok (.istore_n 3, 1) := by decide +kernel
theorem dX11_thing_59 : decode cX11_thing 59 = .ok (.aload_n 0, 1) := by decide +kernel
theorem dX11_thing_60 : decode cX11_thing 60 = .ok (.bipush 41, 2) := by decide +kernel
theorem dX11_thing_62 : decode cX11_thing 62 = .ok (.invokevirtual 198, 3) := by decide +kernel
theorem dX11_thing_65 : decode cX11_thing 65 = .ok (.iload_n 3, 1) := by decide +kernel
theorem dX11_thing_66 : decode cX11_thing 66 = .ok (.ireturn, 1) := by decide +kernel
theorem dX11_thing_67 : decode cX11_thing 67 = .ok (.iload_n 2, 1) := by decide +kernel
theorem dX11_thing_68 : decode cX11_thing 68 = .ok (.bipush 48, 2) := by decide +kernel
theorem dX11_thing_70 : decode cX11_thing 70 = .ok (.bipush 57, 2) := by decide +kernel
theorem dX11_thing_72 : decode cX11_thing 72 = .ok (.invokestatic 95, 3) := by decide +kernel
theorem dX11_thing_75 : decode cX11_thing 75 = .ok (.ifCond .eq 50, 3) := by decide +kernel
theorem dX11_thing_78 : decode cX11_thing 78 = .ok (.iconst 0, 1) := by decide +kernel
theorem dX11_thing_79 : decode cX11_thing 79 = .ok (.istore_n 3, 1) := by decide +kernel
theorem dX11_thing_80 : decode cX11_thing 80 = .ok (.iconst 0, 1) := by decide +kernel
theorem dX11_thing_81 : decode cX11_thing 81 = .ok (.istore 4, 2) := by decide +kernel
theorem dX11_thing_83 : decode cX11_thing 83 = .ok (.iload 4, 2) := by decide +kernel
theorem dX11_thing_85 : decode cX11_thing 85 = .ok (.iconst 3, 1) := by decide +kernel
theorem dX11_thing_86 : decode cX11_thing 86 = .ok (.if_icmp .ge 37, 3) := by decide +kernel
theorem dX11_thing_89 : decode cX11_thing 89 = .ok (.aload_n 0, 1) := by decide +kernel
theorem dX11_thing_90 : decode cX11_thing 90 = .ok (.invokevirtual 130, 3) := by decide +kernel
theorem dX11_thing_93 : decode cX11_thing 93 = .ok (.bipush 48, 2) := by decide +kernel
theorem dX11_thing_95 : decode cX11_thing 95 = .ok (.bipush 57, 2) := by decide +kernel
theorem dX11_thing_97 : decode cX11_thing 97 = .ok (.invokestatic 95, 3) := by decide +kernel
theorem dX11_thing_100 : decode cX11_thing 100 = .ok (.ifCond .eq 23, 3) := by decide +kernel
theorem dX11_thing_103 : decode cX11_thing 103 = .ok (.bipush 10, 2) := by decide +kernel
theorem dX11_thing_105 : decode cX11_thing 105 = .ok (.iload_n 3, 1) := by decide +kernel
theorem dX11_thing_106 : decode cX11_thing 106 = .ok (.imul, 1) := by decide +kernel
theorem dX11_thing_107 : decode cX11_thing 107 = .ok (.aload_n 0, 1) := by decide +kernel
theorem dX11_thing_108 : decode cX11_thing 108 = .ok (.bipush 48, 2) := by decide +kernel
theorem dX11_thing_110 : decode cX11_thing 110 = .ok (.bipush 10, 2) := by decide +kernel
theorem dX11_thing_112 : decode cX11_thing 112 = .ok (.invokevirtual 171, 3) := by decide +kernel
theorem dX11_thing_115 : decode cX11_thing 115 = .ok (.iadd, 1) := by decide +kernel
theorem dX11_thing_116 : decode cX11_thing 116 = .ok (.istore_n 3, 1) := by decide +kernel
theorem dX11_thing_117 : decode cX11_thing 117 = .ok (.iinc 4 1, 3) := by decide +kernel
theorem dX11_thing_120 : decode cX11_thing 120 = .ok (.goto (-37), 3) := by decide +kernel
theorem dX11_thing_123 : decode cX11_thing 123 = .ok (.iload_n 3, 1) := by decide +kernel
theorem dX11_thing_124 : decode cX11_thing 124 = .ok (.ireturn, 1) := by decide +kernel
theorem dX11_thing_125 : decode cX11_thing 125 = .ok (.iload_n 2, 1) := by decide +kernel
theorem dX11_thing_126 : decode cX11_thing 126 = .ok (.invokestatic 202, 3) := by decide +kernel
theorem dX11_thing_129 : decode cX11_thing 129 = .ok (.iconst (-1), 1) := by decide +kernel
theorem dX11_thing_130 : decode cX11_thing 130 = .ok (.if_icmp .ne 13, 3) := by decide +kernel
theorem dX11_thing_133 : decode cX11_thing 133 = .ok (.aload_n 0, 1) := by decide +kernel
theorem dX11_thing_134 : decode cX11_thing 134 = .ok (.aload_n 0, 1) := by decide +kernel
theorem dX11_thing_135 : decode cX11_thing 135 = .ok (.getfield 120, 3) := by decide +kernel
theorem dX11_thing_138 : decode cX11_thing 138 = .ok (.invokevirtual 138, 3) := by decide +kernel
theorem dX11_thing_141 : decode cX11_thing 141 = .ok (.iconst 0, 1) := by decide +kernel
theorem dX11_thing_142 : decode cX11_thing 142 = .ok (.ireturn, 1) := by decide +kernel
theorem dX11_thing_143 : decode cX11_thing 143 = .ok (.aload_n 0, 1) := by decide +kernel
theorem dX11_thing_144 : decode cX11_thing 144 = .ok (.dup, 1) := by decide +kernel
theorem dX11_thing_145 : decode cX11_thing 145 = .ok (.getfield 120, 3) := by decide +kernel
theorem dX11_thing_148 : decode cX11_thing 148 = .ok (.iconst 1, 1) := by decide +kernel
theorem dX11_thing_149 : decode cX11_thing 149 = .ok (.iadd, 1) := by decide +kernel
theorem dX11_thing_150 : decode cX11_thing 150 = .ok (.putfield 120, 3) := by decide +kernel
theorem dX11_thing_153 : decode cX11_thing 153 = .ok (.aload_n 0, 1) := by decide +kernel
theorem dX11_thing_154 : decode cX11_thing 154 = .ok (.getfield 205, 3) := by decide +kernel
theorem dX11_thing_157 : decode cX11_thing 157 = .ok (.ifCond .eq 15, 3) := by decide +kernel
theorem dX11_thing_160 : decode cX11_thing 160 = .ok (.aload_n 0, 1) := by decide +kernel
theorem dX11_thing_161 : decode cX11_thing 161 = .ok (.getfield 52, 3) := by decide +kernel
theorem dX11_thing_164 : decode cX11_thing 164 = .ok (.iload_n 2, 1) := by decide +kernel
theorem dX11_thing_165 : decode cX11_thing 165 = .ok (.invokestatic 202, 3) := by decide +kernel
theorem dX11_thing_168 : decode cX11_thing 168 = .ok (.iaload, 1) := by decide +kernel
theorem dX11_thing_169 : decode cX11_thing 169 = .ok (.goto 4, 3) := by decide +kernel
theorem dX11_thing_172 : decode cX11_thing 172 = .ok (.iconst 0, 1) := by decide +kernel
theorem dX11_thing_173 : decode cX11_thing 173 = .ok (.ireturn, 1) := by decide +kernel
theorem dX11_rule_0 : decode cX11_rule 0 = .ok (.aload_n 0, 1) := by decide +kernel
theorem dX11_rule_1 : decode cX11_rule 1 = .ok (.iconst 0, 1) := by decide +kernel
theorem dX11_rule_2 : decode cX11_rule 2 = .ok (.putfield 89, 3) := by decide +kernel
theorem dX11_rule_5 : decode cX11_rule 5 = .ok (.aload_n 0, 1) := by decide +kernel
theorem dX11_rule_6 : decode cX11_rule 6 = .ok (.getfield 108, 3) := by decide +kernel
theorem dX11_rule_9 : decode cX11_rule 9 = .ok (.istore_n 1, 1) := by decide +kernel
theorem dX11_rule_10 : decode cX11_rule 10 = .ok (.aload_n 0, 1) := by decide +kernel
theorem dX11_rule_11 : decode cX11_rule 11 = .ok (.aload_n 0, 1) := by decide +kernel
theorem dX11_rule_12 : decode cX11_rule 12 = .ok (.getfield 32, 3) := by decide +kernel
theorem dX11_rule_15 : decode cX11_rule 15 = .ok (.iload_n 1, 1) := by decide +kernel
theorem dX11_rule_16 : decode cX11_rule 16 = .ok (.bipush 40, 2) := by decide +kernel
theorem dX11_rule_18 : decode cX11_rule 18 = .ok (.invokevirtual 142, 3) := by decide +kernel
theorem dX11_rule_21 : decode cX11_rule 21 = .ok (.aload_n 0, 1) := by decide +kernel
theorem dX11_rule_22 : decode cX11_rule 22 = .ok (.iconst 0, 1) := by decide +kernel
theorem dX11_rule_23 : decode cX11_rule 23 = .ok (.putfield 108, 3) := by decide +kernel
theorem dX11_rule_26 : decode cX11_rule 26 = .ok (.aload_n 0, 1) := by decide +kernel
theorem dX11_rule_27 : decode cX11_rule 27 = .ok (.iconst 0, 1) := by decide +kernel
theorem dX11_rule_28 : decode cX11_rule 28 = .ok (.putfield 205, 3) := by decide +kernel
theorem dX11_rule_31 : decode cX11_rule 31 = .ok (.iload_n 1, 1) := by decide +kernel
theorem dX11_rule_32 : decode cX11_rule 32 = .ok (.ifCond .le 39, 3) := by decide +kernel
theorem dX11_rule_35 : decode cX11_rule 35 = .ok (.aload_n 0, 1) := by decide +kernel
theorem dX11_rule_36 : decode cX11_rule 36 = .ok (.iconst 0, 1) := by decide +kernel
theorem dX11_rule_37 : decode cX11_rule 37 = .ok (.invokevirtual 195, 3) := by decide +kernel
theorem dX11_rule_40 : decode cX11_rule 40 = .ok (.pop, 1) := by decide +kernel
theorem dX11_rule_41 : decode cX11_rule 41 = .ok (.aload_n 0, 1) := by decide +kernel
theorem dX11_rule_42 : decode cX11_rule 42 = .ok (.getfield 120, 3) := by decide +kernel
theorem dX11_rule_45 : decode cX11_rule 45 = .ok (.iload_n 1, 1) := by decide +kernel
theorem dX11_rule_46 : decode cX11_rule 46 = .ok (.if_icmp .ge 11, 3) := by decide +kernel
theorem dX11_rule_49 : decode cX11_rule 49 = .ok (.aload_n 0, 1) := by decide +kernel
theorem dX11_rule_50 : decode cX11_rule 50 = .ok (.aload_n 0, 1) := by decide +kernel
theorem dX11_rule_51 : decode cX11_rule 51 = .ok (.getfield 120, 3) := by decide +kernel
theorem dX11_rule_54 : decode cX11_rule 54 = .ok (.invokevirtual 138, 3) := by decide +kernel
theorem dX11_rule_57 : decode cX11_rule 57 = .ok (.aload_n 0, 1) := by decide +kernel
theorem dX11_rule_58 : decode cX11_rule 58 = .ok (.invokevirtual 126, 3) := by decide +kernel
theorem dX11_rule_61 : decode cX11_rule 61 = .ok (.ifCond .ne 10, 3) := by decide +kernel
theorem dX11_rule_64 : decode cX11_rule 64 = .ok (.iconst (-1), 1) := by decide +kernel
theorem dX11_rule_65 : decode cX11_rule 65 = .ok (.aload_n 0, 1) := by decide +kernel
theorem dX11_rule_66 : decode cX11_rule 66 = .ok (.getfield 123, 3) := by decide +kernel
theorem dX11_rule_69 : decode cX11_rule 69 = .ok (.isub, 1) := by decide +kernel
theorem dX11_rule_70 : decode cX11_rule 70 = .ok (.ireturn, 1) := by decide +kernel
theorem dX11_rule_71 : decode cX11_rule 71 = .ok (.iconst 0, 1) := by decide +kernel
theorem dX11_rule_72 : decode cX11_rule 72 = .ok (.istore_n 2, 1) := by decide +kernel
theorem dX11_rule_73 : decode cX11_rule 73 = .ok (.iload_n 2, 1) := by decide +kernel
theorem dX11_rule_74 : decode cX11_rule 74 = .ok (.iload_n 1, 1) := by decide +kernel
theorem dX11_rule_75 : decode cX11_rule 75 = .ok (.if_icmp .ge 21, 3) := by decide +kernel
theorem dX11_rule_78 : decode cX11_rule 78 = .ok (.aload_n 0, 1) := by decide +kernel
theorem dX11_rule_79 : decode cX11_rule 79 = .ok (.getfield 49, 3) := by decide +kernel
theorem dX11_rule_82 : decode cX11_rule 82 = .ok (.iload_n 2, 1) := by decide +kernel
theorem dX11_rule_83 : decode cX11_rule 83 = .ok (.aload_n 0, 1) := by decide +kernel
theorem dX11_rule_84 : decode cX11_rule 84 = .ok (.getfield 32, 3) := by decide +kernel
theorem dX11_rule_87 : decode cX11_rule 87 = .ok (.iload_n 2, 1) := by decide +kernel
theorem dX11_rule_88 : decode cX11_rule 88 = .ok (.baload, 1) := by decide +kernel
theorem dX11_rule_89 : decode cX11_rule 89 = .ok (.bastore, 1) := by decide +kernel
theorem dX11_rule_90 : decode cX11_rule 90 = .ok (.iinc 2 1, 3) := by decide +kernel
theorem dX11_rule_93 : decode cX11_rule 93 = .ok (.goto (-20), 3) := by decide +kernel
theorem dX11_rule_96 : decode cX11_rule 96 = .ok (.aload_n 0, 1) := by decide +kernel
theorem dX11_rule_97 : decode cX11_rule 97 = .ok (.iload_n 1, 1) := by decide +kernel
theorem dX11_rule_98 : decode cX11_rule 98 = .ok (.putfield 208, 3) := by decide +kernel
theorem dX11_rule_101 : decode cX11_rule 101 = .ok (.iconst 0, 1) := by decide +kernel
theorem dX11_rule_102 : decode cX11_rule 102 = .ok (.ireturn, 1) := by decide +kernel
theorem dX11_isRoad_0 : decode cX11_isRoad 0 = .ok (.aload_n 1, 1) := by decide +kernel
theorem dX11_isRoad_1 : decode cX11_isRoad 1 = .ok (.sipush 192, 3) := by decide +kernel
theorem dX11_isRoad_4 : decode cX11_isRoad 4 = .ok (.iload_n 2, 1) := by decide +kernel
theorem dX11_isRoad_5 : decode cX11_isRoad 5 = .ok (.iadd, 1) := by decide +kernel
theorem dX11_isRoad_6 : decode cX11_isRoad 6 = .ok (.iaload, 1) := by decide +kernel
theorem dX11_isRoad_7 : decode cX11_isRoad 7 = .ok (.iconst (-1), 1) := by decide +kernel
theorem dX11_isRoad_8 : decode cX11_isRoad 8 = .ok (.if_icmp .eq 27, 3) := by decide +kernel
theorem dX11_isRoad_11 : decode cX11_isRoad 11 = .ok (.aload_n 1, 1) := by decide +kernel
theorem dX11_isRoad_12 : decode cX11_isRoad 12 = .ok (.sipush 333, 3) := by decide +kernel
theorem dX11_isRoad_15 : decode cX11_isRoad 15 = .ok (.iaload, 1) := by decide +kernel
theorem dX11_isRoad_16 : decode cX11_isRoad 16 = .ok (.aload_n 1, 1) := by decide +kernel
theorem dX11_isRoad_17 : decode cX11_isRoad 17 = .ok (.sipush 192, 3) := by decide +kernel
theorem dX11_isRoad_20 : decode cX11_isRoad 20 = .ok (.iload_n 2, 1) := by decide +kernel
theorem dX11_isRoad_21 : decode cX11_isRoad 21 = .ok (.iadd, 1) := by decide +kernel
theorem dX11_isRoad_22 : decode cX11_isRoad 22 = .ok (.iaload, 1) := by decide +kernel
theorem dX11_isRoad_23 : decode cX11_isRoad 23 = .ok (.isub, 1) := by decide +kernel
theorem dX11_isRoad_24 : decode cX11_isRoad 24 = .ok (.aload_n 0, 1) := by decide +kernel
theorem dX11_isRoad_25 : decode cX11_isRoad 25 = .ok (.getfield 25, 3) := by decide +kernel
theorem dX11_isRoad_28 : decode cX11_isRoad 28 = .ok (.if_icmp .gt 7, 3) := by decide +kernel
theorem dX11_isRoad_31 : decode cX11_isRoad 31 = .ok (.iconst 1, 1) := by decide +kernel
theorem dX11_isRoad_32 : decode cX11_isRoad 32 = .ok (.goto 4, 3) := by decide +kernel
theorem dX11_isRoad_35 : decode cX11_isRoad 35 = .ok (.iconst 0, 1) := by decide +kernel
theorem dX11_isRoad_36 : decode cX11_isRoad 36 = .ok (.ireturn, 1) := by decide +kernel
theorem dX11_pleases_0 : decode cX11_pleases 0 = .ok (.aload_n 0, 1) := by decide +kernel
theorem dX11_pleases_1 : decode cX11_pleases 1 = .ok (.aload_n 1, 1) := by decide +kernel
theorem dX11_pleases_2 : decode cX11_pleases 2 = .ok (.iload_n 3, 1) := by decide +kernel
theorem dX11_pleases_3 : decode cX11_pleases 3 = .ok (.invokevirtual 211, 3) := by decide +kernel
theorem dX11_pleases_6 : decode cX11_pleases 6 = .ok (.ifCond .eq 7, 3) := by decide +kernel
theorem dX11_pleases_9 : decode cX11_pleases 9 = .ok (.iconst 1, 1) := by decide +kernel
theorem dX11_pleases_10 : decode cX11_pleases 10 = .ok (.goto 4, 3) := by decide +kernel
theorem dX11_pleases_13 : decode cX11_pleases 13 = .ok (.iconst 0, 1) := by decide +kernel
theorem dX11_pleases_14 : decode cX11_pleases 14 = .ok (.istore 4, 2) := by decide +kernel
theorem dX11_pleases_16 : decode cX11_pleases 16 = .ok (.aload_n 0, 1) := by decide +kernel
theorem dX11_pleases_17 : decode cX11_pleases 17 = .ok (.getfield 208, 3) := by decide +kernel
theorem dX11_pleases_20 : decode cX11_pleases 20 = .ok (.ifCond .ne 33, 3) := by decide +kernel
theorem dX11_pleases_23 : decode cX11_pleases 23 = .ok (.aload_n 1, 1) := by decide +kernel
theorem dX11_pleases_24 : decode cX11_pleases 24 = .ok (.iconst 0, 1) := by decide +kernel
theorem dX11_pleases_25 : decode cX11_pleases 25 = .ok (.iload_n 3, 1) := by decide +kernel
theorem dX11_pleases_26 : decode cX11_pleases 26 = .ok (.iadd, 1) := by decide +kernel
theorem dX11_pleases_27 : decode cX11_pleases 27 = .ok (.iaload, 1) := by decide +kernel
theorem dX11_pleases_28 : decode cX11_pleases 28 = .ok (.iconst 2, 1) := by decide +kernel
theorem dX11_pleases_29 : decode cX11_pleases 29 = .ok (.imul, 1) := by decide +kernel
theorem dX11_pleases_30 : decode cX11_pleases 30 = .ok (.aload_n 1, 1) := by decide +kernel
theorem dX11_pleases_31 : decode cX11_pleases 31 = .ok (.bipush 64, 2) := by decide +kernel
theorem dX11_pleases_33 : decode cX11_pleases 33 = .ok (.iload_n 3, 1) := by decide +kernel
theorem dX11_pleases_34 : decode cX11_pleases 34 = .ok (.iadd, 1) := by decide +kernel
theorem dX11_pleases_35 : decode cX11_pleases 35 = .ok (.iaload, 1) := by decide +kernel
theorem dX11_pleases_36 : decode cX11_pleases 36 = .ok (.iconst 5, 1) := by decide +kernel
theorem dX11_pleases_37 : decode cX11_pleases 37 = .ok (.imul, 1) := by decide +kernel
theorem dX11_pleases_38 : decode cX11_pleases 38 = .ok (.iadd, 1) := by decide +kernel
theorem dX11_pleases_39 : decode cX11_pleases 39 = .ok (.aload_n 1, 1) := by decide +kernel
theorem dX11_pleases_40 : decode cX11_pleases 40 = .ok (.sipush 128, 3) := by decide +kernel
theorem dX11_pleases_43 : decode cX11_pleases 43 = .ok (.iload_n 3, 1) := by decide +kernel
theorem dX11_pleases_44 : decode cX11_pleases 44 = .ok (.iadd, 1) := by decide +kernel
theorem dX11_pleases_45 : decode cX11_pleases 45 = .ok (.iaload, 1) := by decide +kernel
theorem dX11_pleases_46 : decode cX11_pleases 46 = .ok (.iconst 3, 1) := by decide +kernel
theorem dX11_pleases_47 : decode cX11_pleases 47 = .ok (.imul, 1) := by decide +kernel
theorem dX11_pleases_48 : decode cX11_pleases 48 = .ok (.isub, 1) := by decide +kernel
theorem dX11_pleases_49 : decode cX11_pleases 49 = .ok (.iload 4, 2) := by decide +kernel
theorem dX11_pleases_51 : decode cX11_pleases 51 = .ok (.isub, 1) := by decide +kernel
theorem dX11_pleases_52 : decode cX11_pleases 52 = .ok (.ireturn, 1) := by decide +kernel
theorem dX11_pleases_53 : decode cX11_pleases 53 = .ok (.iconst 0, 1) := by decide +kernel
theorem dX11_pleases_54 : decode cX11_pleases 54 = .ok (.istore 5, 2) := by decide +kernel
theorem dX11_pleases_56 : decode cX11_pleases 56 = .ok (.iconst 0, 1) := by decide +kernel
theorem dX11_pleases_57 : decode cX11_pleases 57 = .ok (.istore 6, 2) := by decide +kernel
theorem dX11_pleases_59 : decode cX11_pleases 59 = .ok (.iload 6, 2) := by decide +kernel
theorem dX11_pleases_61 : decode cX11_pleases 61 = .ok (.aload_n 0, 1) := by decide +kernel
theorem dX11_pleases_62 : decode cX11_pleases 62 = .ok (.getfield 105, 3) := by decide +kernel
theorem dX11_pleases_65 : decode cX11_pleases 65 = .ok (.if_icmp .ge 37, 3) := by decide +kernel
theorem dX11_pleases_68 : decode cX11_pleases 68 = .ok (.iload 5, 2) := by decide +kernel
theorem dX11_pleases_70 : decode cX11_pleases 70 = .ok (.iload 6, 2) := by decide +kernel
theorem dX11_pleases_72 : decode cX11_pleases 72 = .ok (.iload_n 2, 1) := by decide +kernel
theorem dX11_pleases_73 : decode cX11_pleases 73 = .ok (.if_icmp .eq 19, 3) := by decide +kernel
theorem dX11_pleases_76 : decode cX11_pleases 76 = .ok (.aload_n 1, 1) := by decide +kernel
theorem dX11_pleases_77 : decode cX11_pleases 77 = .ok (.sipush 320, 3) := by decide +kernel
theorem dX11_pleases_80 : decode cX11_pleases 80 = .ok (.iload 6, 2) := by decide +kernel
theorem dX11_pleases_82 : decode cX11_pleases 82 = .ok (.iadd, 1) := by decide +kernel
theorem dX11_pleases_83 : decode cX11_pleases 83 = .ok (.iaload, 1) := by decide +kernel
theorem dX11_pleases_84 : decode cX11_pleases 84 = .ok (.iload_n 3, 1) := by decide +kernel
theorem dX11_pleases_85 : decode cX11_pleases 85 = .ok (.if_icmp .ne 7, 3) := by decide +kernel
theorem dX11_pleases_88 : decode cX11_pleases 88 = .ok (.iconst 1, 1) := by decide +kernel
theorem dX11_pleases_89 : decode cX11_pleases 89 = .ok (.goto 4, 3) := by decide +kernel
theorem dX11_pleases_92 : decode cX11_pleases 92 = .ok (.iconst 0, 1) := by decide +kernel
theorem dX11_pleases_93 : decode cX11_pleases 93 = .ok (.iadd, 1) := by decide +kernel
theorem dX11_pleases_94 : decode cX11_pleases 94 = .ok (.istore 5, 2) := by decide +kernel
theorem dX11_pleases_96 : decode cX11_pleases 96 = .ok (.iinc 6 1, 3) := by decide +kernel
theorem dX11_pleases_99 : decode cX11_pleases 99 = .ok (.goto (-40), 3) := by decide +kernel
theorem dX11_pleases_102 : decode cX11_pleases 102 = .ok (.aload_n 0, 1) := by decide +kernel
theorem dX11_pleases_103 : decode cX11_pleases 103 = .ok (.getfield 52, 3) := by decide +kernel
theorem dX11_pleases_106 : decode cX11_pleases 106 = .ok (.iconst 0, 1) := by decide +kernel
theorem dX11_pleases_107 : decode cX11_pleases 107 = .ok (.aload_n 1, 1) := by decide +kernel
theorem dX11_pleases_108 : decode cX11_pleases 108 = .ok (.iconst 0, 1) := by decide +kernel
theorem dX11_pleases_109 : decode cX11_pleases 109 = .ok (.iload_n 3, 1) := by decide +kernel
theorem dX11_pleases_110 : decode cX11_pleases 110 = .ok (.iadd, 1) := by decide +kernel
theorem dX11_pleases_111 : decode cX11_pleases 111 = .ok (.iaload, 1) := by decide +kernel
theorem dX11_pleases_112 : decode cX11_pleases 112 = .ok (.iastore, 1) := by decide +kernel
theorem dX11_pleases_113 : decode cX11_pleases 113 = .ok (.aload_n 0, 1) := by decide +kernel
theorem dX11_pleases_114 : decode cX11_pleases 114 = .ok (.getfield 52, 3) := by decide +kernel
theorem dX11_pleases_117 : decode cX11_pleases 117 = .ok (.iconst 1, 1) := by decide +kernel
theorem dX11_pleases_118 : decode cX11_pleases 118 = .ok (.aload_n 1, 1) := by decide +kernel
theorem dX11_pleases_119 : decode cX11_pleases 119 = .ok (.bipush 64, 2) := by decide +kernel
theorem dX11_pleases_121 : decode cX11_pleases 121 = .ok (.iload_n 3, 1) := by decide +kernel
theorem dX11_pleases_122 : decode cX11_pleases 122 = .ok (.iadd, 1) := by decide +kernel
theorem dX11_pleases_123 : decode cX11_pleases 123 = .ok (.iaload, 1) := by decide +kernel
theorem dX11_pleases_124 : decode cX11_pleases 124 = .ok (.iastore, 1) := by decide +kernel
theorem dX11_pleases_125 : decode cX11_pleases 125 = .ok (.aload_n 0, 1) := by decide +kernel
theorem dX11_pleases_126 : decode cX11_pleases 126 = .ok (.getfield 52, 3) := by decide +kernel
theorem dX11_pleases_129 : decode cX11_pleases 129 = .ok (.iconst 2, 1) := by decide +kernel
theorem dX11_pleases_130 : decode cX11_pleases 130 = .ok (.aload_n 1, 1) := by decide +kernel
theorem dX11_pleases_131 : decode cX11_pleases 131 = .ok (.sipush 128, 3) := by decide +kernel
theorem dX11_pleases_134 : decode cX11_pleases 134 = .ok (.iload_n 3, 1) := by decide +kernel
theorem dX11_pleases_135 : decode cX11_pleases 135 = .ok (.iadd, 1) := by decide +kernel
theorem dX11_pleases_136 : decode cX11_pleases 136 = .ok (.iaload, 1) := by decide +kernel
theorem dX11_pleases_137 : decode cX11_pleases 137 = .ok (.iastore, 1) := by decide +kernel
theorem dX11_pleases_138 : decode cX11_pleases 138 = .ok (.aload_n 0, 1) := by decide +kernel
theorem dX11_pleases_139 : decode cX11_pleases 139 = .ok (.getfield 52, 3) := by decide +kernel
theorem dX11_pleases_142 : decode cX11_pleases 142 = .ok (.iconst 3, 1) := by decide +kernel
theorem dX11_pleases_143 : decode cX11_pleases 143 = .ok (.iload 4, 2) := by decide +kernel
theorem dX11_pleases_145 : decode cX11_pleases 145 = .ok (.iastore, 1) := by decide +kernel
theorem dX11_pleases_146 : decode cX11_pleases 146 = .ok (.aload_n 0, 1) := by decide +kernel
theorem dX11_pleases_147 : decode cX11_pleases 147 = .ok (.getfield 52, 3) := by decide +kernel
theorem dX11_pleases_150 : decode cX11_pleases 150 = .ok (.iconst 4, 1) := by decide +kernel
theorem dX11_pleases_151 : decode cX11_pleases 151 = .ok (.aload_n 1, 1) := by decide +kernel
theorem dX11_pleases_152 : decode cX11_pleases 152 = .ok (.sipush 320, 3) := by decide +kernel
theorem dX11_pleases_155 : decode cX11_pleases 155 = .ok (.iload_n 2, 1) := by decide +kernel
theorem dX11_pleases_156 : decode cX11_pleases 156 = .ok (.iadd, 1) := by decide +kernel
theorem dX11_pleases_157 : decode cX11_pleases 157 = .ok (.iaload, 1) := by decide +kernel
theorem dX11_pleases_158 : decode cX11_pleases 158 = .ok (.iload_n 3, 1) := by decide +kernel
theorem dX11_pleases_159 : decode cX11_pleases 159 = .ok (.if_icmp .ne 7, 3) := by decide +kernel
theorem dX11_pleases_162 : decode cX11_pleases 162 = .ok (.iconst 0, 1) := by decide +kernel
theorem dX11_pleases_163 : decode cX11_pleases 163 = .ok (.goto 4, 3) := by decide +kernel
theorem dX11_pleases_166 : decode cX11_pleases 166 = .ok (.iconst 1, 1) := by decide +kernel
theorem dX11_pleases_167 : decode cX11_pleases 167 = .ok (.iastore, 1) := by decide +kernel
theorem dX11_pleases_168 : decode cX11_pleases 168 = .ok (.aload_n 0, 1) := by decide +kernel
theorem dX11_pleases_169 : decode cX11_pleases 169 = .ok (.getfield 52, 3) := by decide +kernel
theorem dX11_pleases_172 : decode cX11_pleases 172 = .ok (.iconst 5, 1) := by decide +kernel
theorem dX11_pleases_173 : decode cX11_pleases 173 = .ok (.iload 5, 2) := by decide +kernel
theorem dX11_pleases_175 : decode cX11_pleases 175 = .ok (.iastore, 1) := by decide +kernel
theorem dX11_pleases_176 : decode cX11_pleases 176 = .ok (.aload_n 0, 1) := by decide +kernel
theorem dX11_pleases_177 : decode cX11_pleases 177 = .ok (.getfield 52, 3) := by decide +kernel
theorem dX11_pleases_180 : decode cX11_pleases 180 = .ok (.bipush 6, 2) := by decide +kernel
theorem dX11_pleases_182 : decode cX11_pleases 182 = .ok (.aload_n 0, 1) := by decide +kernel
theorem dX11_pleases_183 : decode cX11_pleases 183 = .ok (.getfield 22, 3) := by decide +kernel
theorem dX11_pleases_186 : decode cX11_pleases 186 = .ok (.iload_n 2, 1) := by decide +kernel
theorem dX11_pleases_187 : decode cX11_pleases 187 = .ok (.iaload, 1) := by decide +kernel
theorem dX11_pleases_188 : decode cX11_pleases 188 = .ok (.iastore, 1) := by decide +kernel
theorem dX11_pleases_189 : decode cX11_pleases 189 = .ok (.aload_n 0, 1) := by decide +kernel
theorem dX11_pleases_190 : decode cX11_pleases 190 = .ok (.getfield 52, 3) := by decide +kernel
theorem dX11_pleases_193 : decode cX11_pleases 193 = .ok (.bipush 7, 2) := by decide +kernel
theorem dX11_pleases_195 : decode cX11_pleases 195 = .ok (.iload_n 2, 1) := by decide +kernel
theorem dX11_pleases_196 : decode cX11_pleases 196 = .ok (.iastore, 1) := by decide +kernel
theorem dX11_pleases_197 : decode cX11_pleases 197 = .ok (.aload_n 0, 1) := by decide +kernel
theorem dX11_pleases_198 : decode cX11_pleases 198 = .ok (.getfield 52, 3) := by decide +kernel
theorem dX11_pleases_201 : decode cX11_pleases 201 = .ok (.bipush 8, 2) := by decide +kernel
theorem dX11_pleases_203 : decode cX11_pleases 203 = .ok (.aload_n 1, 1) := by decide +kernel
theorem dX11_pleases_204 : decode cX11_pleases 204 = .ok (.sipush 333, 3) := by decide +kernel
theorem dX11_pleases_207 : decode cX11_pleases 207 = .ok (.iaload, 1) := by decide +kernel
theorem dX11_pleases_208 : decode cX11_pleases 208 = .ok (.iastore, 1) := by decide +kernel
theorem dX11_pleases_209 : decode cX11_pleases 209 = .ok (.aload_n 0, 1) := by decide +kernel
theorem dX11_pleases_210 : decode cX11_pleases 210 = .ok (.aload_n 0, 1) := by decide +kernel
theorem dX11_pleases_211 : decode cX11_pleases 211 = .ok (.getfield 49, 3) := by decide +kernel
theorem dX11_pleases_214 : decode cX11_pleases 214 = .ok (.aload_n 0, 1) := by decide +kernel
theorem dX11_pleases_215 : decode cX11_pleases 215 = .ok (.getfield 208, 3) := by decide +kernel
theorem dX11_pleases_218 : decode cX11_pleases 218 = .ok (.bipush 40, 2) := by decide +kernel
theorem dX11_pleases_220 : decode cX11_pleases 220 = .ok (.invokevirtual 142, 3) := by decide +kernel
theorem dX11_pleases_223 : decode cX11_pleases 223 = .ok (.aload_n 0, 1) := by decide +kernel
theorem dX11_pleases_224 : decode cX11_pleases 224 = .ok (.iconst 1, 1) := by decide +kernel
theorem dX11_pleases_225 : decode cX11_pleases 225 = .ok (.putfield 205, 3) := by decide +kernel
theorem dX11_pleases_228 : decode cX11_pleases 228 = .ok (.aload_n 0, 1) := by decide +kernel
theorem dX11_pleases_229 : decode cX11_pleases 229 = .ok (.iconst 0, 1) := by decide +kernel
theorem dX11_pleases_230 : decode cX11_pleases 230 = .ok (.invokevirtual 195, 3) := by decide +kernel
theorem dX11_pleases_233 : decode cX11_pleases 233 = .ok (.istore 6, 2) := by decide +kernel
theorem dX11_pleases_235 : decode cX11_pleases 235 = .ok (.aload_n 0, 1) := by decide +kernel
theorem dX11_pleases_236 : decode cX11_pleases 236 = .ok (.iconst 0, 1) := by decide +kernel
theorem dX11_pleases_237 : decode cX11_pleases 237 = .ok (.putfield 205, 3) := by decide +kernel
theorem dX11_pleases_240 : decode cX11_pleases 240 = .ok (.iload 6, 2) := by decide +kernel
theorem dX11_pleases_242 : decode cX11_pleases 242 = .ok (.ireturn, 1) := by decide +kernel
theorem dX11_canBe_0 : decode cX11_canBe 0 = .ok (.aload_n 0, 1) := by decide +kernel
theorem dX11_canBe_1 : decode cX11_canBe 1 = .ok (.getfield 13, 3) := by decide +kernel
theorem dX11_canBe_4 : decode cX11_canBe 4 = .ok (.iload_n 2, 1) := by decide +kernel
theorem dX11_canBe_5 : decode cX11_canBe 5 = .ok (.iaload, 1) := by decide +kernel
theorem dX11_canBe_6 : decode cX11_canBe 6 = .ok (.ifCond .eq 31, 3) := by decide +kernel
theorem dX11_canBe_9 : decode cX11_canBe 9 = .ok (.aload_n 0, 1) := by decide +kernel
theorem dX11_canBe_10 : decode cX11_canBe 10 = .ok (.getfield 13, 3) := by decide +kernel
theorem dX11_canBe_13 : decode cX11_canBe 13 = .ok (.iload_n 2, 1) := by decide +kernel
theorem dX11_canBe_14 : decode cX11_canBe 14 = .ok (.iaload, 1) := by decide +kernel
theorem dX11_canBe_15 : decode cX11_canBe 15 = .ok (.iconst 2, 1) := by decide +kernel
theorem dX11_canBe_16 : decode cX11_canBe 16 = .ok (.if_icmp .ne 25, 3) := by decide +kernel
theorem dX11_canBe_19 : decode cX11_canBe 19 = .ok (.aload_n 1, 1) := by decide +kernel
theorem dX11_canBe_20 : decode cX11_canBe 20 = .ok (.sipush 332, 3) := by decide +kernel
theorem dX11_canBe_23 : decode cX11_canBe 23 = .ok (.iaload, 1) := by decide +kernel
theorem dX11_canBe_24 : decode cX11_canBe 24 = .ok (.i2l, 1) := by decide +kernel
theorem dX11_canBe_25 : decode cX11_canBe 25 = .ok (.aload_n 0, 1) := by decide +kernel
theorem dX11_canBe_26 : decode cX11_canBe 26 = .ok (.getfield 16, 3) := by decide +kernel
theorem dX11_canBe_29 : decode cX11_canBe 29 = .ok (.iload_n 2, 1) := by decide +kernel
theorem dX11_canBe_30 : decode cX11_canBe 30 = .ok (.iaload, 1) := by decide +kernel
theorem dX11_canBe_31 : decode cX11_canBe 31 = .ok (.invokestatic 215, 3) := by decide +kernel
theorem dX11_canBe_34 : decode cX11_canBe 34 = .ok (.ifCond .eq 7, 3) := by decide +kernel
theorem dX11_canBe_37 : decode cX11_canBe 37 = .ok (.iconst 1, 1) := by decide +kernel
theorem dX11_canBe_38 : decode cX11_canBe 38 = .ok (.goto 4, 3) := by decide +kernel
theorem dX11_canBe_41 : decode cX11_canBe 41 = .ok (.iconst 0, 1) := by decide +kernel
theorem dX11_canBe_42 : decode cX11_canBe 42 = .ok (.ireturn, 1) := by decide +kernel
theorem dX11_beside_0 : decode cX11_beside 0 = .ok (.iload_n 1, 1) := by decide +kernel
theorem dX11_beside_1 : decode cX11_beside 1 = .ok (.bipush 8, 2) := by decide +kernel
theorem dX11_beside_3 : decode cX11_beside 3 = .ok (.irem, 1) := by decide +kernel
theorem dX11_beside_4 : decode cX11_beside 4 = .ok (.iload_n 2, 1) := by decide +kernel
theorem dX11_beside_5 : decode cX11_beside 5 = .ok (.iconst 1, 1) := by decide +kernel
theorem dX11_beside_6 : decode cX11_beside 6 = .ok (.if_icmp .ne 7, 3) := by decide +kernel
theorem dX11_beside_9 : decode cX11_beside 9 = .ok (.iconst 1, 1) := by decide +kernel
theorem dX11_beside_10 : decode cX11_beside 10 = .ok (.goto 13, 3) := by decide +kernel
theorem dX11_beside_13 : decode cX11_beside 13 = .ok (.iload_n 2, 1) := by decide +kernel
theorem dX11_beside_14 : decode cX11_beside 14 = .ok (.iconst 3, 1) := by decide +kernel
theorem dX11_beside_15 : decode cX11_beside 15 = .ok (.if_icmp .ne 7, 3) := by decide +kernel
theorem dX11_beside_18 : decode cX11_beside 18 = .ok (.iconst (-1), 1) := by decide +kernel
theorem dX11_beside_19 : decode cX11_beside 19 = .ok (.goto 4, 3) := by decide +kernel
theorem dX11_beside_22 : decode cX11_beside 22 = .ok (.iconst 0, 1) := by decide +kernel
theorem dX11_beside_23 : decode cX11_beside 23 = .ok (.iadd, 1) := by decide +kernel
theorem dX11_beside_24 : decode cX11_beside 24 = .ok (.istore_n 3, 1) := by decide +kernel
theorem dX11_beside_25 : decode cX11_beside 25 = .ok (.iload_n 1, 1) := by decide +kernel
theorem dX11_beside_26 : decode cX11_beside 26 = .ok (.bipush 8, 2) := by decide +kernel
theorem dX11_beside_28 : decode cX11_beside 28 = .ok (.idiv, 1) := by decide +kernel
theorem dX11_beside_29 : decode cX11_beside 29 = .ok (.iload_n 2, 1) := by decide +kernel
theorem dX11_beside_30 : decode cX11_beside 30 = .ok (.ifCond .ne 7, 3) := by decide +kernel
theorem dX11_beside_33 : decode cX11_beside 33 = .ok (.iconst (-1), 1) := by decide +kernel
theorem dX11_beside_34 : decode cX11_beside 34 = .ok (.goto 13, 3) := by decide +kernel
theorem dX11_beside_37 : decode cX11_beside 37 = .ok (.iload_n 2, 1) := by decide +kernel
theorem dX11_beside_38 : decode cX11_beside 38 = .ok (.iconst 2, 1) := by decide +kernel
theorem dX11_beside_39 : decode cX11_beside 39 = .ok (.if_icmp .ne 7, 3) := by decide +kernel
theorem dX11_beside_42 : decode cX11_beside 42 = .ok (.iconst 1, 1) := by decide +kernel
theorem dX11_beside_43 : decode cX11_beside 43 = .ok (.goto 4, 3) := by decide +kernel
theorem dX11_beside_46 : decode cX11_beside 46 = .ok (.iconst 0, 1) := by decide +kernel
theorem dX11_beside_47 : decode cX11_beside 47 = .ok (.iadd, 1) := by decide +kernel
theorem dX11_beside_48 : decode cX11_beside 48 = .ok (.istore 4, 2) := by decide +kernel
theorem dX11_beside_50 : decode cX11_beside 50 = .ok (.iload_n 3, 1) := by decide +kernel
theorem dX11_beside_51 : decode cX11_beside 51 = .ok (.iconst 0, 1) := by decide +kernel
theorem dX11_beside_52 : decode cX11_beside 52 = .ok (.aload_n 0, 1) := by decide +kernel
theorem dX11_beside_53 : decode cX11_beside 53 = .ok (.getfield 99, 3) := by decide +kernel
theorem dX11_beside_56 : decode cX11_beside 56 = .ok (.iconst 1, 1) := by decide +kernel
theorem dX11_beside_57 : decode cX11_beside 57 = .ok (.isub, 1) := by decide +kernel
theorem dX11_beside_58 : decode cX11_beside 58 = .ok (.invokestatic 95, 3) := by decide +kernel
theorem dX11_beside_61 : decode cX11_beside 61 = .ok (.ifCond .eq 28, 3) := by decide +kernel
theorem dX11_beside_64 : decode cX11_beside 64 = .ok (.iload 4, 2) := by decide +kernel
theorem dX11_beside_66 : decode cX11_beside 66 = .ok (.iconst 0, 1) := by decide +kernel
theorem dX11_beside_67 : decode cX11_beside 67 = .ok (.aload_n 0, 1) := by decide +kernel
theorem dX11_beside_68 : decode cX11_beside 68 = .ok (.getfield 102, 3) := by decide +kernel
theorem dX11_beside_71 : decode cX11_beside 71 = .ok (.iconst 1, 1) := by decide +kernel
theorem dX11_beside_72 : decode cX11_beside 72 = .ok (.isub, 1) := by decide +kernel
theorem dX11_beside_73 : decode cX11_beside 73 = .ok (.invokestatic 95, 3) := by decide +kernel
theorem dX11_beside_76 : decode cX11_beside 76 = .ok (.ifCond .eq 13, 3) := by decide +kernel
theorem dX11_beside_79 : decode cX11_beside 79 = .ok (.bipush 8, 2) := by decide +kernel
theorem dX11_beside_81 : decode cX11_beside 81 = .ok (.iload 4, 2) := by decide +kernel
theorem dX11_beside_83 : decode cX11_beside 83 = .ok (.imul, 1) := by decide +kernel
theorem dX11_beside_84 : decode cX11_beside 84 = .ok (.iload_n 3, 1) := by decide +kernel
theorem dX11_beside_85 : decode cX11_beside 85 = .ok (.iadd, 1) := by decide +kernel
theorem dX11_beside_86 : decode cX11_beside 86 = .ok (.goto 4, 3) := by decide +kernel
theorem dX11_beside_89 : decode cX11_beside 89 = .ok (.iconst (-1), 1) := by decide +kernel
theorem dX11_beside_90 : decode cX11_beside 90 = .ok (.ireturn, 1) := by decide +kernel
theorem dX11_goesTo_0 : decode cX11_goesTo 0 = .ok (.aload_n 1, 1) := by decide +kernel
theorem dX11_goesTo_1 : decode cX11_goesTo 1 = .ok (.sipush 320, 3) := by decide +kernel
theorem dX11_goesTo_4 : decode cX11_goesTo 4 = .ok (.iload_n 2, 1) := by decide +kernel
theorem dX11_goesTo_5 : decode cX11_goesTo 5 = .ok (.iadd, 1) := by decide +kernel
theorem dX11_goesTo_6 : decode cX11_goesTo 6 = .ok (.iaload, 1) := by decide +kernel
theorem dX11_goesTo_7 : decode cX11_goesTo 7 = .ok (.istore_n 3, 1) := by decide +kernel
theorem dX11_goesTo_8 : decode cX11_goesTo 8 = .ok (.aload_n 0, 1) := by decide +kernel
theorem dX11_goesTo_9 : decode cX11_goesTo 9 = .ok (.getfield 161, 3) := by decide +kernel
theorem dX11_goesTo_12 : decode cX11_goesTo 12 = .ok (.i2l, 1) := by decide +kernel
theorem dX11_goesTo_13 : decode cX11_goesTo 13 = .ok (.iload_n 2, 1) := by decide +kernel
theorem dX11_goesTo_14 : decode cX11_goesTo 14 = .ok (.invokestatic 215, 3) := by decide +kernel
theorem dX11_goesTo_17 : decode cX11_goesTo 17 = .ok (.ifCond .eq 16, 3) := by decide +kernel
theorem dX11_goesTo_20 : decode cX11_goesTo 20 = .ok (.aload_n 1, 1) := by decide +kernel
theorem dX11_goesTo_21 : decode cX11_goesTo 21 = .ok (.sipush 333, 3) := by decide +kernel
theorem dX11_goesTo_24 : decode cX11_goesTo 24 = .ok (.iaload, 1) := by decide +kernel
theorem dX11_goesTo_25 : decode cX11_goesTo 25 = .ok (.iconst 2, 1) := by decide +kernel
theorem dX11_goesTo_26 : decode cX11_goesTo 26 = .ok (.irem, 1) := by decide +kernel
theorem dX11_goesTo_27 : decode cX11_goesTo 27 = .ok (.iconst 1, 1) := by decide +kernel
theorem dX11_goesTo_28 : decode cX11_goesTo 28 = .ok (.if_icmp .ne 5, 3) := by decide +kernel
theorem dX11_goesTo_31 : decode cX11_goesTo 31 = .ok (.iload_n 3, 1) := by decide +kernel
theorem dX11_goesTo_32 : decode cX11_goesTo 32 = .ok (.ireturn, 1) := by decide +kernel
theorem dX11_goesTo_33 : decode cX11_goesTo 33 = .ok (.iload_n 3, 1) := by decide +kernel
theorem dX11_goesTo_34 : decode cX11_goesTo 34 = .ok (.istore 4, 2) := by decide +kernel
theorem dX11_goesTo_36 : decode cX11_goesTo 36 = .ok (.aload_n 0, 1) := by decide +kernel
theorem dX11_goesTo_37 : decode cX11_goesTo 37 = .ok (.aload_n 1, 1) := by decide +kernel
theorem dX11_goesTo_38 : decode cX11_goesTo 38 = .ok (.iload_n 2, 1) := by decide +kernel
theorem dX11_goesTo_39 : decode cX11_goesTo 39 = .ok (.iload_n 3, 1) := by decide +kernel
theorem dX11_goesTo_40 : decode cX11_goesTo 40 = .ok (.invokevirtual 219, 3) := by decide +kernel
theorem dX11_goesTo_43 : decode cX11_goesTo 43 = .ok (.istore 5, 2) := by decide +kernel
theorem dX11_goesTo_45 : decode cX11_goesTo 45 = .ok (.iconst 0, 1) := by decide +kernel
theorem dX11_goesTo_46 : decode cX11_goesTo 46 = .ok (.istore 6, 2) := by decide +kernel
theorem dX11_goesTo_48 : decode cX11_goesTo 48 = .ok (.iload 6, 2) := by decide +kernel
theorem dX11_goesTo_50 : decode cX11_goesTo 50 = .ok (.iconst 4, 1) := by decide +kernel
theorem dX11_goesTo_51 : decode cX11_goesTo 51 = .ok (.if_icmp .ge 65, 3) := by decide +kernel
theorem dX11_goesTo_54 : decode cX11_goesTo 54 = .ok (.aload_n 0, 1) := by decide +kernel
theorem dX11_goesTo_55 : decode cX11_goesTo 55 = .ok (.iload_n 3, 1) := by decide +kernel
theorem dX11_goesTo_56 : decode cX11_goesTo 56 = .ok (.iload 6, 2) := by decide +kernel
theorem dX11_goesTo_58 : decode cX11_goesTo 58 = .ok (.invokevirtual 223, 3) := by decide +kernel
theorem dX11_goesTo_61 : decode cX11_goesTo 61 = .ok (.istore 7, 2) := by decide +kernel
theorem dX11_goesTo_63 : decode cX11_goesTo 63 = .ok (.iload 7, 2) := by decide +kernel
theorem dX11_goesTo_65 : decode cX11_goesTo 65 = .ok (.iconst (-1), 1) := by decide +kernel
theorem dX11_goesTo_66 : decode cX11_goesTo 66 = .ok (.if_icmp .eq 44, 3) := by decide +kernel
theorem dX11_goesTo_69 : decode cX11_goesTo 69 = .ok (.aload_n 0, 1) := by decide +kernel
theorem dX11_goesTo_70 : decode cX11_goesTo 70 = .ok (.aload_n 1, 1) := by decide +kernel
theorem dX11_goesTo_71 : decode cX11_goesTo 71 = .ok (.iload 7, 2) := by decide +kernel
theorem dX11_goesTo_73 : decode cX11_goesTo 73 = .ok (.invokevirtual 227, 3) := by decide +kernel
theorem dX11_goesTo_76 : decode cX11_goesTo 76 = .ok (.ifCond .ne 6, 3) := by decide +kernel
theorem dX11_goesTo_79 : decode cX11_goesTo 79 = .ok (.goto 31, 3) := by decide +kernel
theorem dX11_goesTo_82 : decode cX11_goesTo 82 = .ok (.aload_n 0, 1) := by decide +kernel
theorem dX11_goesTo_83 : decode cX11_goesTo 83 = .ok (.aload_n 1, 1) := by decide +kernel
theorem dX11_goesTo_84 : decode cX11_goesTo 84 = .ok (.iload_n 2, 1) := by decide +kernel
theorem dX11_goesTo_85 : decode cX11_goesTo 85 = .ok (.iload 7, 2) := by decide +kernel
theorem dX11_goesTo_87 : decode cX11_goesTo 87 = .ok (.invokevirtual 219, 3) := by decide +kernel
theorem dX11_goesTo_90 : decode cX11_goesTo 90 = .ok (.istore 8, 2) := by decide +kernel
theorem dX11_goesTo_92 : decode cX11_goesTo 92 = .ok (.iload 8, 2) := by decide +kernel
theorem dX11_goesTo_94 : decode cX11_goesTo 94 = .ok (.iload 5, 2) := by decide +kernel
theorem dX11_goesTo_96 : decode cX11_goesTo 96 = .ok (.if_icmp .gt 6, 3) := by decide +kernel
theorem dX11_goesTo_99 : decode cX11_goesTo 99 = .ok (.goto 11, 3) := by decide +kernel
theorem dX11_goesTo_102 : decode cX11_goesTo 102 = .ok (.iload 7, 2) := by decide +kernel
theorem dX11_goesTo_104 : decode cX11_goesTo 104 = .ok (.istore 4, 2) := by decide +kernel
theorem dX11_goesTo_106 : decode cX11_goesTo 106 = .ok (.iload 8, 2) := by decide +kernel
theorem dX11_goesTo_108 : decode cX11_goesTo 108 = .ok (.istore 5, 2) := by decide +kernel
theorem dX11_goesTo_110 : decode cX11_goesTo 110 = .ok (.iinc 6 1, 3) := by decide +kernel
theorem dX11_goesTo_113 : decode cX11_goesTo 113 = .ok (.goto (-65), 3) := by decide +kernel
theorem dX11_goesTo_116 : decode cX11_goesTo 116 = .ok (.iload 4, 2) := by decide +kernel
theorem dX11_goesTo_118 : decode cX11_goesTo 118 = .ok (.ireturn, 1) := by decide +kernel
theorem dX11_herdsAt_0 : decode cX11_herdsAt 0 = .ok (.iconst 0, 1) := by decide +kernel
theorem dX11_herdsAt_1 : decode cX11_herdsAt 1 = .ok (.istore_n 3, 1) := by decide +kernel
theorem dX11_herdsAt_2 : decode cX11_herdsAt 2 = .ok (.iconst 0, 1) := by decide +kernel
theorem dX11_herdsAt_3 : decode cX11_herdsAt 3 = .ok (.istore 4, 2) := by decide +kernel
theorem dX11_herdsAt_5 : decode cX11_herdsAt 5 = .ok (.iload 4, 2) := by decide +kernel
theorem dX11_herdsAt_7 : decode cX11_herdsAt 7 = .ok (.aload_n 0, 1) := by decide +kernel
theorem dX11_herdsAt_8 : decode cX11_herdsAt 8 = .ok (.getfield 105, 3) := by decide +kernel
theorem dX11_herdsAt_11 : decode cX11_herdsAt 11 = .ok (.if_icmp .ge 32, 3) := by decide +kernel
theorem dX11_herdsAt_14 : decode cX11_herdsAt 14 = .ok (.iload_n 3, 1) := by decide +kernel
theorem dX11_herdsAt_15 : decode cX11_herdsAt 15 = .ok (.aload_n 1, 1) := by decide +kernel
theorem dX11_herdsAt_16 : decode cX11_herdsAt 16 = .ok (.sipush 320, 3) := by decide +kernel
theorem dX11_herdsAt_19 : decode cX11_herdsAt 19 = .ok (.iload 4, 2) := by decide +kernel
theorem dX11_herdsAt_21 : decode cX11_herdsAt 21 = .ok (.iadd, 1) := by decide +kernel
theorem dX11_herdsAt_22 : decode cX11_herdsAt 22 = .ok (.iaload, 1) := by decide +kernel
theorem dX11_herdsAt_23 : decode cX11_herdsAt 23 = .ok (.iload_n 2, 1) := by decide +kernel
theorem dX11_herdsAt_24 : decode cX11_herdsAt 24 = .ok (.if_icmp .ne 10, 3) := by decide +kernel
theorem dX11_herdsAt_27 : decode cX11_herdsAt 27 = .ok (.iconst 1, 1) := by decide +kernel
theorem dX11_herdsAt_28 : decode cX11_herdsAt 28 = .ok (.iload 4, 2) := by decide +kernel
theorem dX11_herdsAt_30 : decode cX11_herdsAt 30 = .ok (.ishl, 1) := by decide +kernel
theorem dX11_herdsAt_31 : decode cX11_herdsAt 31 = .ok (.goto 4, 3) := by decide +kernel
theorem dX11_herdsAt_34 : decode cX11_herdsAt 34 = .ok (.iconst 0, 1) := by decide +kernel
theorem dX11_herdsAt_35 : decode cX11_herdsAt 35 = .ok (.ior, 1) := by decide +kernel
theorem dX11_herdsAt_36 : decode cX11_herdsAt 36 = .ok (.istore_n 3, 1) := by decide +kernel
theorem dX11_herdsAt_37 : decode cX11_herdsAt 37 = .ok (.iinc 4 1, 3) := by decide +kernel
theorem dX11_herdsAt_40 : decode cX11_herdsAt 40 = .ok (.goto (-35), 3) := by decide +kernel
theorem dX11_herdsAt_43 : decode cX11_herdsAt 43 = .ok (.iload_n 3, 1) := by decide +kernel
theorem dX11_herdsAt_44 : decode cX11_herdsAt 44 = .ok (.ireturn, 1) := by decide +kernel
theorem dX11_cell_0 : decode cX11_cell 0 = .ok (.aload_n 0, 1) := by decide +kernel
theorem dX11_cell_1 : decode cX11_cell 1 = .ok (.iconst 0, 1) := by decide +kernel
theorem dX11_cell_2 : decode cX11_cell 2 = .ok (.putfield 89, 3) := by decide +kernel
theorem dX11_cell_5 : decode cX11_cell 5 = .ok (.aload_n 0, 1) := by decide +kernel
theorem dX11_cell_6 : decode cX11_cell 6 = .ok (.iload_n 1, 1) := by decide +kernel
theorem dX11_cell_7 : decode cX11_cell 7 = .ok (.invokevirtual 157, 3) := by decide +kernel
theorem dX11_cell_10 : decode cX11_cell 10 = .ok (.ifCond .eq 13, 3) := by decide +kernel
theorem dX11_cell_13 : decode cX11_cell 13 = .ok (.iload_n 2, 1) := by decide +kernel
theorem dX11_cell_14 : decode cX11_cell 14 = .ok (.iconst 0, 1) := by decide +kernel
theorem dX11_cell_15 : decode cX11_cell 15 = .ok (.bipush 7, 2) := by decide +kernel
theorem dX11_cell_17 : decode cX11_cell 17 = .ok (.invokestatic 95, 3) := by decide +kernel
theorem dX11_cell_20 : decode cX11_cell 20 = .ok (.ifCond .ne 8, 3) := by decide +kernel
theorem dX11_cell_23 : decode cX11_cell 23 = .ok (.aload_n 0, 1) := by decide +kernel
theorem dX11_cell_24 : decode cX11_cell 24 = .ok (.invokevirtual 230, 3) := by decide +kernel
theorem dX11_cell_27 : decode cX11_cell 27 = .ok (.ireturn, 1) := by decide +kernel
theorem dX11_cell_28 : decode cX11_cell 28 = .ok (.iload_n 2, 1) := by decide +kernel
theorem dX11_cell_29 : decode cX11_cell 29 = .ok (.tableswitch 155 0 6 #[43, 52, 62, 73, 115, 126, 137], 43) := by decide +kernel
theorem dX11_cell_72 : decode cX11_cell 72 = .ok (.aload_n 0, 1) := by decide +kernel
theorem dX11_cell_73 : decode cX11_cell 73 = .ok (.getfield 9, 3) := by decide +kernel
theorem dX11_cell_76 : decode cX11_cell 76 = .ok (.iconst 0, 1) := by decide +kernel
theorem dX11_cell_77 : decode cX11_cell 77 = .ok (.iload_n 1, 1) := by decide +kernel
theorem dX11_cell_78 : decode cX11_cell 78 = .ok (.iadd, 1) := by decide +kernel
theorem dX11_cell_79 : decode cX11_cell 79 = .ok (.iaload, 1) := by decide +kernel
theorem dX11_cell_80 : decode cX11_cell 80 = .ok (.ireturn, 1) := by decide +kernel
theorem dX11_cell_81 : decode cX11_cell 81 = .ok (.aload_n 0, 1) := by decide +kernel
theorem dX11_cell_82 : decode cX11_cell 82 = .ok (.getfield 9, 3) := by decide +kernel
theorem dX11_cell_85 : decode cX11_cell 85 = .ok (.bipush 64, 2) := by decide +kernel
theorem dX11_cell_87 : decode cX11_cell 87 = .ok (.iload_n 1, 1) := by decide +kernel
theorem dX11_cell_88 : decode cX11_cell 88 = .ok (.iadd, 1) := by decide +kernel
theorem dX11_cell_89 : decode cX11_cell 89 = .ok (.iaload, 1) := by decide +kernel
theorem dX11_cell_90 : decode cX11_cell 90 = .ok (.ireturn, 1) := by decide +kernel
theorem dX11_cell_91 : decode cX11_cell 91 = .ok (.aload_n 0, 1) := by decide +kernel
theorem dX11_cell_92 : decode cX11_cell 92 = .ok (.getfield 9, 3) := by decide +kernel
theorem dX11_cell_95 : decode cX11_cell 95 = .ok (.sipush 128, 3) := by decide +kernel
theorem dX11_cell_98 : decode cX11_cell 98 = .ok (.iload_n 1, 1) := by decide +kernel
theorem dX11_cell_99 : decode cX11_cell 99 = .ok (.iadd, 1) := by decide +kernel
theorem dX11_cell_100 : decode cX11_cell 100 = .ok (.iaload, 1) := by decide +kernel
theorem dX11_cell_101 : decode cX11_cell 101 = .ok (.ireturn, 1) := by decide +kernel
theorem dX11_cell_102 : decode cX11_cell 102 = .ok (.aload_n 0, 1) := by decide +kernel
theorem dX11_cell_103 : decode cX11_cell 103 = .ok (.getfield 13, 3) := by decide +kernel
theorem dX11_cell_106 : decode cX11_cell 106 = .ok (.iload_n 1, 1) := by decide +kernel
theorem dX11_cell_107 : decode cX11_cell 107 = .ok (.iaload, 1) := by decide +kernel
theorem dX11_cell_108 : decode cX11_cell 108 = .ok (.iconst 2, 1) := by decide +kernel
theorem dX11_cell_109 : decode cX11_cell 109 = .ok (.if_icmp .ne 28, 3) := by decide +kernel
theorem dX11_cell_112 : decode cX11_cell 112 = .ok (.aload_n 0, 1) := by decide +kernel
theorem dX11_cell_113 : decode cX11_cell 113 = .ok (.getfield 9, 3) := by decide +kernel
theorem dX11_cell_116 : decode cX11_cell 116 = .ok (.sipush 332, 3) := by decide +kernel
theorem dX11_cell_119 : decode cX11_cell 119 = .ok (.iaload, 1) := by decide +kernel
theorem dX11_cell_120 : decode cX11_cell 120 = .ok (.i2l, 1) := by decide +kernel
theorem dX11_cell_121 : decode cX11_cell 121 = .ok (.aload_n 0, 1) := by decide +kernel
theorem dX11_cell_122 : decode cX11_cell 122 = .ok (.getfield 16, 3) := by decide +kernel
theorem dX11_cell_125 : decode cX11_cell 125 = .ok (.iload_n 1, 1) := by decide +kernel
theorem dX11_cell_126 : decode cX11_cell 126 = .ok (.iaload, 1) := by decide +kernel
theorem dX11_cell_127 : decode cX11_cell 127 = .ok (.invokestatic 215, 3) := by decide +kernel
theorem dX11_cell_130 : decode cX11_cell 130 = .ok (.ifCond .eq 7, 3) := by decide +kernel
theorem dX11_cell_133 : decode cX11_cell 133 = .ok (.iconst 3, 1) := by decide +kernel
theorem dX11_cell_134 : decode cX11_cell 134 = .ok (.goto 9, 3) := by decide +kernel
theorem dX11_cell_137 : decode cX11_cell 137 = .ok (.aload_n 0, 1) := by decide +kernel
theorem dX11_cell_138 : decode cX11_cell 138 = .ok (.getfield 13, 3) := by decide +kernel
theorem dX11_cell_141 : decode cX11_cell 141 = .ok (.iload_n 1, 1) := by decide +kernel
theorem dX11_cell_142 : decode cX11_cell 142 = .ok (.iaload, 1) := by decide +kernel
theorem dX11_cell_143 : decode cX11_cell 143 = .ok (.ireturn, 1) := by decide +kernel
theorem dX11_cell_144 : decode cX11_cell 144 = .ok (.aload_n 0, 1) := by decide +kernel
theorem dX11_cell_145 : decode cX11_cell 145 = .ok (.getfield 9, 3) := by decide +kernel
theorem dX11_cell_148 : decode cX11_cell 148 = .ok (.sipush 192, 3) := by decide +kernel
theorem dX11_cell_151 : decode cX11_cell 151 = .ok (.iload_n 1, 1) := by decide +kernel
theorem dX11_cell_152 : decode cX11_cell 152 = .ok (.iadd, 1) := by decide +kernel
theorem dX11_cell_153 : decode cX11_cell 153 = .ok (.iaload, 1) := by decide +kernel
theorem dX11_cell_154 : decode cX11_cell 154 = .ok (.ireturn, 1) := by decide +kernel
theorem dX11_cell_155 : decode cX11_cell 155 = .ok (.aload_n 0, 1) := by decide +kernel
theorem dX11_cell_156 : decode cX11_cell 156 = .ok (.getfield 9, 3) := by decide +kernel
theorem dX11_cell_159 : decode cX11_cell 159 = .ok (.sipush 256, 3) := by decide +kernel
theorem dX11_cell_162 : decode cX11_cell 162 = .ok (.iload_n 1, 1) := by decide +kernel
theorem dX11_cell_163 : decode cX11_cell 163 = .ok (.iadd, 1) := by decide +kernel
theorem dX11_cell_164 : decode cX11_cell 164 = .ok (.iaload, 1) := by decide +kernel
theorem dX11_cell_165 : decode cX11_cell 165 = .ok (.ireturn, 1) := by decide +kernel
theorem dX11_cell_166 : decode cX11_cell 166 = .ok (.aload_n 0, 1) := by decide +kernel
theorem dX11_cell_167 : decode cX11_cell 167 = .ok (.aload_n 0, 1) := by decide +kernel
theorem dX11_cell_168 : decode cX11_cell 168 = .ok (.getfield 9, 3) := by decide +kernel
theorem dX11_cell_171 : decode cX11_cell 171 = .ok (.iload_n 1, 1) := by decide +kernel
theorem dX11_cell_172 : decode cX11_cell 172 = .ok (.invokevirtual 211, 3) := by decide +kernel
theorem dX11_cell_175 : decode cX11_cell 175 = .ok (.ifCond .eq 7, 3) := by decide +kernel
theorem dX11_cell_178 : decode cX11_cell 178 = .ok (.iconst 1, 1) := by decide +kernel
theorem dX11_cell_179 : decode cX11_cell 179 = .ok (.goto 4, 3) := by decide +kernel
theorem dX11_cell_182 : decode cX11_cell 182 = .ok (.iconst 0, 1) := by decide +kernel
theorem dX11_cell_183 : decode cX11_cell 183 = .ok (.ireturn, 1) := by decide +kernel
theorem dX11_cell_184 : decode cX11_cell 184 = .ok (.aload_n 0, 1) := by decide +kernel
theorem dX11_cell_185 : decode cX11_cell 185 = .ok (.aload_n 0, 1) := by decide +kernel
theorem dX11_cell_186 : decode cX11_cell 186 = .ok (.getfield 9, 3) := by decide +kernel
theorem dX11_cell_189 : decode cX11_cell 189 = .ok (.iload_n 1, 1) := by decide +kernel
theorem dX11_cell_190 : decode cX11_cell 190 = .ok (.invokevirtual 233, 3) := by decide +kernel
theorem dX11_cell_193 : decode cX11_cell 193 = .ok (.ireturn, 1) := by decide +kernel
theorem dX11_herd_0 : decode cX11_herd 0 = .ok (.aload_n 0, 1) := by decide +kernel
theorem dX11_herd_1 : decode cX11_herd 1 = .ok (.iconst 0, 1) := by decide +kernel
theorem dX11_herd_2 : decode cX11_herd 2 = .ok (.putfield 89, 3) := by decide +kernel
theorem dX11_herd_5 : decode cX11_herd 5 = .ok (.aload_n 0, 1) := by decide +kernel
theorem dX11_herd_6 : decode cX11_herd 6 = .ok (.iload_n 1, 1) := by decide +kernel
theorem dX11_herd_7 : decode cX11_herd 7 = .ok (.invokevirtual 237, 3) := by decide +kernel
theorem dX11_herd_10 : decode cX11_herd 10 = .ok (.ifCond .eq 12, 3) := by decide +kernel
theorem dX11_herd_13 : decode cX11_herd 13 = .ok (.iload_n 2, 1) := by decide +kernel
theorem dX11_herd_14 : decode cX11_herd 14 = .ok (.iconst 0, 1) := by decide +kernel
theorem dX11_herd_15 : decode cX11_herd 15 = .ok (.iconst 4, 1) := by decide +kernel
theorem dX11_herd_16 : decode cX11_herd 16 = .ok (.invokestatic 95, 3) := by decide +kernel
theorem dX11_herd_19 : decode cX11_herd 19 = .ok (.ifCond .ne 8, 3) := by decide +kernel
theorem dX11_herd_22 : decode cX11_herd 22 = .ok (.aload_n 0, 1) := by decide +kernel
theorem dX11_herd_23 : decode cX11_herd 23 = .ok (.invokevirtual 230, 3) := by decide +kernel
theorem dX11_herd_26 : decode cX11_herd 26 = .ok (.ireturn, 1) := by decide +kernel
theorem dX11_herd_27 : decode cX11_herd 27 = .ok (.iload_n 2, 1) := by decide +kernel
theorem dX11_herd_28 : decode cX11_herd 28 = .ok (.tableswitch 70 0 3 #[32, 43, 50, 59], 32) := by decide +kernel
theorem dX11_herd_60 : decode cX11_herd 60 = .ok (.aload_n 0, 1) := by decide +kernel
theorem dX11_herd_61 : decode cX11_herd 61 = .ok (.getfield 9, 3) := by decide +kernel
theorem dX11_herd_64 : decode cX11_herd 64 = .ok (.sipush 320, 3) := by decide +kernel
theorem dX11_herd_67 : decode cX11_herd 67 = .ok (.iload_n 1, 1) := by decide +kernel
theorem dX11_herd_68 : decode cX11_herd 68 = .ok (.iadd, 1) := by decide +kernel
theorem dX11_herd_69 : decode cX11_herd 69 = .ok (.iaload, 1) := by decide +kernel
theorem dX11_herd_70 : decode cX11_herd 70 = .ok (.ireturn, 1) := by decide +kernel
theorem dX11_herd_71 : decode cX11_herd 71 = .ok (.aload_n 0, 1) := by decide +kernel
theorem dX11_herd_72 : decode cX11_herd 72 = .ok (.getfield 22, 3) := by decide +kernel
theorem dX11_herd_75 : decode cX11_herd 75 = .ok (.iload_n 1, 1) := by decide +kernel
theorem dX11_herd_76 : decode cX11_herd 76 = .ok (.iaload, 1) := by decide +kernel
theorem dX11_herd_77 : decode cX11_herd 77 = .ok (.ireturn, 1) := by decide +kernel
theorem dX11_herd_78 : decode cX11_herd 78 = .ok (.aload_n 0, 1) := by decide +kernel
theorem dX11_herd_79 : decode cX11_herd 79 = .ok (.getfield 161, 3) := by decide +kernel
theorem dX11_herd_82 : decode cX11_herd 82 = .ok (.iload_n 1, 1) := by decide +kernel
theorem dX11_herd_83 : decode cX11_herd 83 = .ok (.ishr, 1) := by decide +kernel
theorem dX11_herd_84 : decode cX11_herd 84 = .ok (.iconst 1, 1) := by decide +kernel
theorem dX11_herd_85 : decode cX11_herd 85 = .ok (.iand, 1) := by decide +kernel
theorem dX11_herd_86 : decode cX11_herd 86 = .ok (.ireturn, 1) := by decide +kernel
theorem dX11_herd_87 : decode cX11_herd 87 = .ok (.aload_n 0, 1) := by decide +kernel
theorem dX11_herd_88 : decode cX11_herd 88 = .ok (.getfield 9, 3) := by decide +kernel
theorem dX11_herd_91 : decode cX11_herd 91 = .ok (.sipush 326, 3) := by decide +kernel
theorem dX11_herd_94 : decode cX11_herd 94 = .ok (.iload_n 1, 1) := by decide +kernel
theorem dX11_herd_95 : decode cX11_herd 95 = .ok (.iadd, 1) := by decide +kernel
theorem dX11_herd_96 : decode cX11_herd 96 = .ok (.iaload, 1) := by decide +kernel
theorem dX11_herd_97 : decode cX11_herd 97 = .ok (.ireturn, 1) := by decide +kernel
theorem dX11_herd_98 : decode cX11_herd 98 = .ok (.aload_n 0, 1) := by decide +kernel
theorem dX11_herd_99 : decode cX11_herd 99 = .ok (.aload_n 0, 1) := by decide +kernel
theorem dX11_herd_100 : decode cX11_herd 100 = .ok (.getfield 9, 3) := by decide +kernel
theorem dX11_herd_103 : decode cX11_herd 103 = .ok (.iload_n 1, 1) := by decide +kernel
theorem dX11_herd_104 : decode cX11_herd 104 = .ok (.invokevirtual 240, 3) := by decide +kernel
theorem dX11_herd_107 : decode cX11_herd 107 = .ok (.ireturn, 1) := by decide +kernel
theorem dX11_set_0 : decode cX11_set 0 = .ok (.aload_n 0, 1) := by decide +kernel
theorem dX11_set_1 : decode cX11_set 1 = .ok (.iconst 0, 1) := by decide +kernel
theorem dX11_set_2 : decode cX11_set 2 = .ok (.putfield 89, 3) := by decide +kernel
theorem dX11_set_5 : decode cX11_set 5 = .ok (.iload_n 1, 1) := by decide +kernel
theorem dX11_set_6 : decode cX11_set 6 = .ok (.iconst 0, 1) := by decide +kernel
theorem dX11_set_7 : decode cX11_set 7 = .ok (.iconst 1, 1) := by decide +kernel
theorem dX11_set_8 : decode cX11_set 8 = .ok (.invokestatic 95, 3) := by decide +kernel
theorem dX11_set_11 : decode cX11_set 11 = .ok (.ifCond .eq 13, 3) := by decide +kernel
theorem dX11_set_14 : decode cX11_set 14 = .ok (.iload_n 2, 1) := by decide +kernel
theorem dX11_set_15 : decode cX11_set 15 = .ok (.iload_n 1, 1) := by decide +kernel
theorem dX11_set_16 : decode cX11_set 16 = .ok (.bipush 99, 2) := by decide +kernel
theorem dX11_set_18 : decode cX11_set 18 = .ok (.invokestatic 95, 3) := by decide +kernel
theorem dX11_set_21 : decode cX11_set 21 = .ok (.ifCond .ne 5, 3) := by decide +kernel
theorem dX11_set_24 : decode cX11_set 24 = .ok (.iconst (-1), 1) := by decide +kernel
theorem dX11_set_25 : decode cX11_set 25 = .ok (.ireturn, 1) := by decide +kernel
theorem dX11_set_26 : decode cX11_set 26 = .ok (.iload_n 1, 1) := by decide +kernel
theorem dX11_set_27 : decode cX11_set 27 = .ok (.ifCond .ne 10, 3) := by decide +kernel
theorem dX11_set_30 : decode cX11_set 30 = .ok (.aload_n 0, 1) := by decide +kernel
theorem dX11_set_31 : decode cX11_set 31 = .ok (.getfield 25, 3) := by decide +kernel
theorem dX11_set_34 : decode cX11_set 34 = .ok (.goto 7, 3) := by decide +kernel
theorem dX11_set_37 : decode cX11_set 37 = .ok (.aload_n 0, 1) := by decide +kernel
theorem dX11_set_38 : decode cX11_set 38 = .ok (.getfield 29, 3) := by decide +kernel
theorem dX11_set_41 : decode cX11_set 41 = .ok (.istore_n 3, 1) := by decide +kernel
theorem dX11_set_42 : decode cX11_set 42 = .ok (.iload_n 1, 1) := by decide +kernel
theorem dX11_set_43 : decode cX11_set 43 = .ok (.ifCond .ne 11, 3) := by decide +kernel
theorem dX11_set_46 : decode cX11_set 46 = .ok (.aload_n 0, 1) := by decide +kernel
theorem dX11_set_47 : decode cX11_set 47 = .ok (.iload_n 2, 1) := by decide +kernel
theorem dX11_set_48 : decode cX11_set 48 = .ok (.putfield 25, 3) := by decide +kernel
theorem dX11_set_51 : decode cX11_set 51 = .ok (.goto 8, 3) := by decide +kernel
theorem dX11_set_54 : decode cX11_set 54 = .ok (.aload_n 0, 1) := by decide +kernel
theorem dX11_set_55 : decode cX11_set 55 = .ok (.iload_n 2, 1) := by decide +kernel
theorem dX11_set_56 : decode cX11_set 56 = .ok (.putfield 29, 3) := by decide +kernel
theorem dX11_set_59 : decode cX11_set 59 = .ok (.iload_n 3, 1) := by decide +kernel
theorem dX11_set_60 : decode cX11_set 60 = .ok (.ireturn, 1) := by decide +kernel
theorem dX11_sheet_0 : decode cX11_sheet 0 = .ok (.aload_n 0, 1) := by decide +kernel
theorem dX11_sheet_1 : decode cX11_sheet 1 = .ok (.iconst 0, 1) := by decide +kernel
theorem dX11_sheet_2 : decode cX11_sheet 2 = .ok (.putfield 89, 3) := by decide +kernel
theorem dX11_sheet_5 : decode cX11_sheet 5 = .ok (.iload_n 1, 1) := by decide +kernel
theorem dX11_sheet_6 : decode cX11_sheet 6 = .ok (.iconst 0, 1) := by decide +kernel
theorem dX11_sheet_7 : decode cX11_sheet 7 = .ok (.iconst 3, 1) := by decide +kernel
theorem dX11_sheet_8 : decode cX11_sheet 8 = .ok (.invokestatic 95, 3) := by decide +kernel
theorem dX11_sheet_11 : decode cX11_sheet 11 = .ok (.ifCond .eq 9, 3) := by decide +kernel
theorem dX11_sheet_14 : decode cX11_sheet 14 = .ok (.iload_n 2, 1) := by decide +kernel
theorem dX11_sheet_15 : decode cX11_sheet 15 = .ok (.bipush 6, 2) := by decide +kernel
theorem dX11_sheet_17 : decode cX11_sheet 17 = .ok (.if_icmp .le 5, 3) := by decide +kernel
theorem dX11_sheet_20 : decode cX11_sheet 20 = .ok (.iconst (-1), 1) := by decide +kernel
theorem dX11_sheet_21 : decode cX11_sheet 21 = .ok (.ireturn, 1) := by decide +kernel
theorem dX11_sheet_22 : decode cX11_sheet 22 = .ok (.iload_n 1, 1) := by decide +kernel
theorem dX11_sheet_23 : decode cX11_sheet 23 = .ok (.iconst 3, 1) := by decide +kernel
theorem dX11_sheet_24 : decode cX11_sheet 24 = .ok (.if_icmp .ge 10, 3) := by decide +kernel
theorem dX11_sheet_27 : decode cX11_sheet 27 = .ok (.iload_n 2, 1) := by decide +kernel
theorem dX11_sheet_28 : decode cX11_sheet 28 = .ok (.ifCond .ge 6, 3) := by decide +kernel
theorem dX11_sheet_31 : decode cX11_sheet 31 = .ok (.bipush (-2), 2) := by decide +kernel
theorem dX11_sheet_33 : decode cX11_sheet 33 = .ok (.ireturn, 1) := by decide +kernel
theorem dX11_sheet_34 : decode cX11_sheet 34 = .ok (.iconst 0, 1) := by decide +kernel
theorem dX11_sheet_35 : decode cX11_sheet 35 = .ok (.istore 5, 2) := by decide +kernel
theorem dX11_sheet_37 : decode cX11_sheet 37 = .ok (.iload_n 3, 1) := by decide +kernel
theorem dX11_sheet_38 : decode cX11_sheet 38 = .ok (.istore 6, 2) := by decide +kernel
theorem dX11_sheet_40 : decode cX11_sheet 40 = .ok (.iconst 0, 1) := by decide +kernel
theorem dX11_sheet_41 : decode cX11_sheet 41 = .ok (.istore 7, 2) := by decide +kernel
theorem dX11_sheet_43 : decode cX11_sheet 43 = .ok (.iload 7, 2) := by decide +kernel
theorem dX11_sheet_45 : decode cX11_sheet 45 = .ok (.aload_n 0, 1) := by decide +kernel
theorem dX11_sheet_46 : decode cX11_sheet 46 = .ok (.getfield 105, 3) := by decide +kernel
theorem dX11_sheet_49 : decode cX11_sheet 49 = .ok (.if_icmp .ge 86, 3) := by decide +kernel
theorem dX11_sheet_52 : decode cX11_sheet 52 = .ok (.iload_n 1, 1) := by decide +kernel
theorem dX11_sheet_53 : decode cX11_sheet 53 = .ok (.ifCond .ne 9, 3) := by decide +kernel
theorem dX11_sheet_56 : decode cX11_sheet 56 = .ok (.iload 6, 2) := by decide +kernel
theorem dX11_sheet_58 : decode cX11_sheet 58 = .ok (.i2b, 1) := by decide +kernel
theorem dX11_sheet_59 : decode cX11_sheet 59 = .ok (.goto 16, 3) := by decide +kernel
theorem dX11_sheet_62 : decode cX11_sheet 62 = .ok (.iload_n 1, 1) := by decide +kernel
theorem dX11_sheet_63 : decode cX11_sheet 63 = .ok (.iconst 1, 1) := by decide +kernel
theorem dX11_sheet_64 : decode cX11_sheet 64 = .ok (.if_icmp .ne 9, 3) := by decide +kernel
theorem dX11_sheet_67 : decode cX11_sheet 67 = .ok (.iload 6, 2) := by decide +kernel
theorem dX11_sheet_69 : decode cX11_sheet 69 = .ok (.i2s, 1) := by decide +kernel
theorem dX11_sheet_70 : decode cX11_sheet 70 = .ok (.goto 5, 3) := by decide +kernel
theorem dX11_sheet_73 : decode cX11_sheet 73 = .ok (.iload 6, 2) := by decide +kernel
theorem dX11_sheet_75 : decode cX11_sheet 75 = .ok (.istore 8, 2) := by decide +kernel
theorem dX11_sheet_77 : decode cX11_sheet 77 = .ok (.aload_n 0, 1) := by decide +kernel
theorem dX11_sheet_78 : decode cX11_sheet 78 = .ok (.getfield 22, 3) := by decide +kernel
theorem dX11_sheet_81 : decode cX11_sheet 81 = .ok (.iload 7, 2) := by decide +kernel
theorem dX11_sheet_83 : decode cX11_sheet 83 = .ok (.iload_n 1, 1) := by decide +kernel
theorem dX11_sheet_84 : decode cX11_sheet 84 = .ok (.iconst 3, 1) := by decide +kernel
theorem dX11_sheet_85 : decode cX11_sheet 85 = .ok (.if_icmp .eq 9, 3) := by decide +kernel
theorem dX11_sheet_88 : decode cX11_sheet 88 = .ok (.iload 7, 2) := by decide +kernel
theorem dX11_sheet_90 : decode cX11_sheet 90 = .ok (.iload_n 2, 1) := by decide +kernel
theorem dX11_sheet_91 : decode cX11_sheet 91 = .ok (.if_icmp .lt 7, 3) := by decide +kernel
theorem dX11_sheet_94 : decode cX11_sheet 94 = .ok (.iconst 0, 1) := by decide +kernel
theorem dX11_sheet_95 : decode cX11_sheet 95 = .ok (.goto 14, 3) := by decide +kernel
theorem dX11_sheet_98 : decode cX11_sheet 98 = .ok (.iconst 0, 1) := by decide +kernel
theorem dX11_sheet_99 : decode cX11_sheet 99 = .ok (.bipush 9, 2) := by decide +kernel
theorem dX11_sheet_101 : decode cX11_sheet 101 = .ok (.iload 8, 2) := by decide +kernel
theorem dX11_sheet_103 : decode cX11_sheet 103 = .ok (.invokestatic 243, 3) := by decide +kernel
theorem dX11_sheet_106 : decode cX11_sheet 106 = .ok (.invokestatic 248, 3) := by decide +kernel
theorem dX11_sheet_109 : decode cX11_sheet 109 = .ok (.iastore, 1) := by decide +kernel
theorem dX11_sheet_110 : decode cX11_sheet 110 = .ok (.iload 5, 2) := by decide +kernel
theorem dX11_sheet_112 : decode cX11_sheet 112 = .ok (.aload_n 0, 1) := by decide +kernel
theorem dX11_sheet_113 : decode cX11_sheet 113 = .ok (.getfield 22, 3) := by decide +kernel
theorem dX11_sheet_116 : decode cX11_sheet 116 = .ok (.iload 7, 2) := by decide +kernel
theorem dX11_sheet_118 : decode cX11_sheet 118 = .ok (.iaload, 1) := by decide +kernel
theorem dX11_sheet_119 : decode cX11_sheet 119 = .ok (.iadd, 1) := by decide +kernel
theorem dX11_sheet_120 : decode cX11_sheet 120 = .ok (.istore 5, 2) := by decide +kernel
theorem dX11_sheet_122 : decode cX11_sheet 122 = .ok (.iload 6, 2) := by decide +kernel
theorem dX11_sheet_124 : decode cX11_sheet 124 = .ok (.iload 4, 2) := by decide +kernel
theorem dX11_sheet_126 : decode cX11_sheet 126 = .ok (.iadd, 1) := by decide +kernel
theorem dX11_sheet_127 : decode cX11_sheet 127 = .ok (.istore 6, 2) := by decide +kernel
theorem dX11_sheet_129 : decode cX11_sheet 129 = .ok (.iinc 7 1, 3) := by decide +kernel
theorem dX11_sheet_132 : decode cX11_sheet 132 = .ok (.goto (-89), 3) := by decide +kernel
theorem dX11_sheet_135 : decode cX11_sheet 135 = .ok (.iload_n 1, 1) := by decide +kernel
theorem dX11_sheet_136 : decode cX11_sheet 136 = .ok (.iconst 3, 1) := by decide +kernel
theorem dX11_sheet_137 : decode cX11_sheet 137 = .ok (.if_icmp .ne 8, 3) := by decide +kernel
theorem dX11_sheet_140 : decode cX11_sheet 140 = .ok (.bipush (-3), 2) := by decide +kernel
theorem dX11_sheet_142 : decode cX11_sheet 142 = .ok (.goto 5, 3) := by decide +kernel
theorem dX11_sheet_145 : decode cX11_sheet 145 = .ok (.iload 5, 2) := by decide +kernel
theorem dX11_sheet_147 : decode cX11_sheet 147 = .ok (.ireturn, 1) := by decide +kernel
theorem dX11_lay_0 : decode cX11_lay 0 = .ok (.iconst 0, 1) := by decide +kernel
theorem dX11_lay_1 : decode cX11_lay 1 = .ok (.istore_n 3, 1) := by decide +kernel
theorem dX11_lay_2 : decode cX11_lay 2 = .ok (.iload_n 3, 1) := by decide +kernel
theorem dX11_lay_3 : decode cX11_lay 3 = .ok (.sipush 334, 3) := by decide +kernel
theorem dX11_lay_6 : decode cX11_lay 6 = .ok (.if_icmp .ge 17, 3) := by decide +kernel
theorem dX11_lay_9 : decode cX11_lay 9 = .ok (.aload_n 1, 1) := by decide +kernel
theorem dX11_lay_10 : decode cX11_lay 10 = .ok (.iload_n 2, 1) := by decide +kernel
theorem dX11_lay_11 : decode cX11_lay 11 = .ok (.iload_n 3, 1) := by decide +kernel
theorem dX11_lay_12 : decode cX11_lay 12 = .ok (.iadd, 1) := by decide +kernel
theorem dX11_lay_13 : decode cX11_lay 13 = .ok (.aload_n 0, 1) := by decide +kernel
theorem dX11_lay_14 : decode cX11_lay 14 = .ok (.iload_n 3, 1) := by decide +kernel
theorem dX11_lay_15 : decode cX11_lay 15 = .ok (.iaload, 1) := by decide +kernel
theorem dX11_lay_16 : decode cX11_lay 16 = .ok (.iastore, 1) := by decide +kernel
theorem dX11_lay_17 : decode cX11_lay 17 = .ok (.iinc 3 1, 3) := by decide +kernel
theorem dX11_lay_20 : decode cX11_lay 20 = .ok (.goto (-18), 3) := by decide +kernel
theorem dX11_lay_23 : decode cX11_lay 23 = .ok (.return_, 1) := by decide +kernel
theorem dX11_remember_0 : decode cX11_remember 0 = .ok (.aload_n 0, 1) := by decide +kernel
theorem dX11_remember_1 : decode cX11_remember 1 = .ok (.getfield 168, 3) := by decide +kernel
theorem dX11_remember_4 : decode cX11_remember 4 = .ok (.bipush 10, 2) := by decide +kernel
theorem dX11_remember_6 : decode cX11_remember 6 = .ok (.if_icmp .ne 44, 3) := by decide +kernel
theorem dX11_remember_9 : decode cX11_remember 9 = .ok (.iconst 0, 1) := by decide +kernel
theorem dX11_remember_10 : decode cX11_remember 10 = .ok (.istore_n 2, 1) := by decide +kernel
theorem dX11_remember_11 : decode cX11_remember 11 = .ok (.iload_n 2, 1) := by decide +kernel
theorem dX11_remember_12 : decode cX11_remember 12 = .ok (.sipush 3006, 3) := by decide +kernel
theorem dX11_remember_15 : decode cX11_remember 15 = .ok (.if_icmp .ge 25, 3) := by decide +kernel
theorem dX11_remember_18 : decode cX11_remember 18 = .ok (.aload_n 0, 1) := by decide +kernel
theorem dX11_remember_19 : decode cX11_remember 19 = .ok (.getfield 55, 3) := by decide +kernel
theorem dX11_remember_22 : decode cX11_remember 22 = .ok (.iload_n 2, 1) := by decide +kernel
theorem dX11_remember_23 : decode cX11_remember 23 = .ok (.aload_n 0, 1) := by decide +kernel
theorem dX11_remember_24 : decode cX11_remember 24 = .ok (.getfield 55, 3) := by decide +kernel
theorem dX11_remember_27 : decode cX11_remember 27 = .ok (.iload_n 2, 1) := by decide +kernel
theorem dX11_remember_28 : decode cX11_remember 28 = .ok (.sipush 334, 3) := by decide +kernel
theorem dX11_remember_31 : decode cX11_remember 31 = .ok (.iadd, 1) := by decide +kernel
theorem dX11_remember_32 : decode cX11_remember 32 = .ok (.iaload, 1) := by decide +kernel
theorem dX11_remember_33 : decode cX11_remember 33 = .ok (.iastore, 1) := by decide +kernel
theorem dX11_remember_34 : decode cX11_remember 34 = .ok (.iinc 2 1, 3) := by decide +kernel
theorem dX11_remember_37 : decode cX11_remember 37 = .ok (.goto (-26), 3) := by decide +kernel
theorem dX11_remember_40 : decode cX11_remember 40 = .ok (.aload_n 0, 1) := by decide +kernel
theorem dX11_remember_41 : decode cX11_remember 41 = .ok (.dup, 1) := by decide +kernel
theorem dX11_remember_42 : decode cX11_remember 42 = .ok (.getfield 168, 3) := by decide +kernel
theorem dX11_remember_45 : decode cX11_remember 45 = .ok (.iconst 1, 1) := by decide +kernel
theorem dX11_remember_46 : decode cX11_remember 46 = .ok (.isub, 1) := by decide +kernel
theorem dX11_remember_47 : decode cX11_remember 47 = .ok (.putfield 168, 3) := by decide +kernel
theorem dX11_remember_50 : decode cX11_remember 50 = .ok (.aload_n 1, 1) := by decide +kernel
theorem dX11_remember_51 : decode cX11_remember 51 = .ok (.aload_n 0, 1) := by decide +kernel
theorem dX11_remember_52 : decode cX11_remember 52 = .ok (.getfield 55, 3) := by decide +kernel
theorem dX11_remember_55 : decode cX11_remember 55 = .ok (.sipush 334, 3) := by decide +kernel
theorem dX11_remember_58 : decode cX11_remember 58 = .ok (.aload_n 0, 1) := by decide +kernel
theorem dX11_remember_59 : decode cX11_remember 59 = .ok (.getfield 168, 3) := by decide +kernel
theorem dX11_remember_62 : decode cX11_remember 62 = .ok (.imul, 1) := by decide +kernel
theorem dX11_remember_63 : decode cX11_remember 63 = .ok (.invokestatic 251, 3) := by decide +kernel
theorem dX11_remember_66 : decode cX11_remember 66 = .ok (.aload_n 0, 1) := by decide +kernel
theorem dX11_remember_67 : decode cX11_remember 67 = .ok (.dup, 1) := by decide +kernel
theorem dX11_remember_68 : decode cX11_remember 68 = .ok (.getfield 168, 3) := by decide +kernel
theorem dX11_remember_71 : decode cX11_remember 71 = .ok (.iconst 1, 1) := by decide +kernel
theorem dX11_remember_72 : decode cX11_remember 72 = .ok (.iadd, 1) := by decide +kernel
theorem dX11_remember_73 : decode cX11_remember 73 = .ok (.putfield 168, 3) := by decide +kernel
theorem dX11_remember_76 : decode cX11_remember 76 = .ok (.return_, 1) := by decide +kernel
theorem dX11_refusesLay_0 : decode cX11_refusesLay 0 = .ok (.aload_n 0, 1) := by decide +kernel
theorem dX11_refusesLay_1 : decode cX11_refusesLay 1 = .ok (.iload_n 1, 1) := by decide +kernel
theorem dX11_refusesLay_2 : decode cX11_refusesLay 2 = .ok (.invokevirtual 157, 3) := by decide +kernel
theorem dX11_refusesLay_5 : decode cX11_refusesLay 5 = .ok (.ifCond .eq 13, 3) := by decide +kernel
theorem dX11_refusesLay_8 : decode cX11_refusesLay 8 = .ok (.iload_n 2, 1) := by decide +kernel
theorem dX11_refusesLay_9 : decode cX11_refusesLay 9 = .ok (.iconst 0, 1) := by decide +kernel
theorem dX11_refusesLay_10 : decode cX11_refusesLay 10 = .ok (.bipush 9, 2) := by decide +kernel
theorem dX11_refusesLay_12 : decode cX11_refusesLay 12 = .ok (.invokestatic 95, 3) := by decide +kernel
theorem dX11_refusesLay_15 : decode cX11_refusesLay 15 = .ok (.ifCond .ne 5, 3) := by decide +kernel
theorem dX11_refusesLay_18 : decode cX11_refusesLay 18 = .ok (.iconst (-1), 1) := by decide +kernel
theorem dX11_refusesLay_19 : decode cX11_refusesLay 19 = .ok (.ireturn, 1) := by decide +kernel
theorem dX11_refusesLay_20 : decode cX11_refusesLay 20 = .ok (.aload_n 0, 1) := by decide +kernel
theorem dX11_refusesLay_21 : decode cX11_refusesLay 21 = .ok (.getfield 13, 3) := by decide +kernel
theorem dX11_refusesLay_24 : decode cX11_refusesLay 24 = .ok (.iload_n 1, 1) := by decide +kernel
theorem dX11_refusesLay_25 : decode cX11_refusesLay 25 = .ok (.iaload, 1) := by decide +kernel
theorem dX11_refusesLay_26 : decode cX11_refusesLay 26 = .ok (.ifCond .ne 7, 3) := by decide +kernel
theorem dX11_refusesLay_29 : decode cX11_refusesLay 29 = .ok (.iconst 0, 1) := by decide +kernel
theorem dX11_refusesLay_30 : decode cX11_refusesLay 30 = .ok (.goto 5, 3) := by decide +kernel
theorem dX11_refusesLay_33 : decode cX11_refusesLay 33 = .ok (.bipush (-2), 2) := by decide +kernel
theorem dX11_refusesLay_35 : decode cX11_refusesLay 35 = .ok (.ireturn, 1) := by decide +kernel
theorem dX11_layOn_0 : decode cX11_layOn 0 = .ok (.aload_n 0, 1) := by decide +kernel
theorem dX11_layOn_1 : decode cX11_layOn 1 = .ok (.iload_n 2, 1) := by decide +kernel
theorem dX11_layOn_2 : decode cX11_layOn 2 = .ok (.iload_n 3, 1) := by decide +kernel
theorem dX11_layOn_3 : decode cX11_layOn 3 = .ok (.invokevirtual 255, 3) := by decide +kernel
theorem dX11_layOn_6 : decode cX11_layOn 6 = .ok (.istore 4, 2) := by decide +kernel
theorem dX11_layOn_8 : decode cX11_layOn 8 = .ok (.iload 4, 2) := by decide +kernel
theorem dX11_layOn_10 : decode cX11_layOn 10 = .ok (.ifCond .ge 6, 3) := by decide +kernel
theorem dX11_layOn_13 : decode cX11_layOn 13 = .ok (.iload 4, 2) := by decide +kernel
theorem dX11_layOn_15 : decode cX11_layOn 15 = .ok (.ireturn, 1) := by decide +kernel
theorem dX11_layOn_16 : decode cX11_layOn 16 = .ok (.aload_n 0, 1) := by decide +kernel
theorem dX11_layOn_17 : decode cX11_layOn 17 = .ok (.aload_n 0, 1) := by decide +kernel
theorem dX11_layOn_18 : decode cX11_layOn 18 = .ok (.getfield 9, 3) := by decide +kernel
theorem dX11_layOn_21 : decode cX11_layOn 21 = .ok (.invokevirtual 258, 3) := by decide +kernel
theorem dX11_layOn_24 : decode cX11_layOn 24 = .ok (.aload_n 0, 1) := by decide +kernel
theorem dX11_layOn_25 : decode cX11_layOn 25 = .ok (.getfield 9, 3) := by decide +kernel
theorem dX11_layOn_28 : decode cX11_layOn 28 = .ok (.iload_n 1, 1) := by decide +kernel
theorem dX11_layOn_29 : decode cX11_layOn 29 = .ok (.iload_n 2, 1) := by decide +kernel
theorem dX11_layOn_30 : decode cX11_layOn 30 = .ok (.iadd, 1) := by decide +kernel
theorem dX11_layOn_31 : decode cX11_layOn 31 = .ok (.iaload, 1) := by decide +kernel
theorem dX11_layOn_32 : decode cX11_layOn 32 = .ok (.istore 5, 2) := by decide +kernel
theorem dX11_layOn_34 : decode cX11_layOn 34 = .ok (.aload_n 0, 1) := by decide +kernel
theorem dX11_layOn_35 : decode cX11_layOn 35 = .ok (.getfield 9, 3) := by decide +kernel
theorem dX11_layOn_38 : decode cX11_layOn 38 = .ok (.iload_n 1, 1) := by decide +kernel
theorem dX11_layOn_39 : decode cX11_layOn 39 = .ok (.iload_n 2, 1) := by decide +kernel
theorem dX11_layOn_40 : decode cX11_layOn 40 = .ok (.iadd, 1) := by decide +kernel
theorem dX11_layOn_41 : decode cX11_layOn 41 = .ok (.iload_n 3, 1) := by decide +kernel
theorem dX11_layOn_42 : decode cX11_layOn 42 = .ok (.iastore, 1) := by decide +kernel
theorem dX11_layOn_43 : decode cX11_layOn 43 = .ok (.iload 5, 2) := by decide +kernel
theorem dX11_layOn_45 : decode cX11_layOn 45 = .ok (.ireturn, 1) := by decide +kernel
theorem dX11_salt_0 : decode cX11_salt 0 = .ok (.aload_n 0, 1) := by decide +kernel
theorem dX11_salt_1 : decode cX11_salt 1 = .ok (.iconst 0, 1) := by decide +kernel
theorem dX11_salt_2 : decode cX11_salt 2 = .ok (.putfield 89, 3) := by decide +kernel
theorem dX11_salt_5 : decode cX11_salt 5 = .ok (.aload_n 0, 1) := by decide +kernel
theorem dX11_salt_6 : decode cX11_salt 6 = .ok (.bipush 64, 2) := by decide +kernel
theorem dX11_salt_8 : decode cX11_salt 8 = .ok (.iload_n 1, 1) := by decide +kernel
theorem dX11_salt_9 : decode cX11_salt 9 = .ok (.iload_n 2, 1) := by decide +kernel
theorem dX11_salt_10 : decode cX11_salt 10 = .ok (.invokevirtual 262, 3) := by decide +kernel
theorem dX11_salt_13 : decode cX11_salt 13 = .ok (.ireturn, 1) := by decide +kernel
theorem dX11_thistles_0 : decode cX11_thistles 0 = .ok (.aload_n 0, 1) := by decide +kernel
theorem dX11_thistles_1 : decode cX11_thistles 1 = .ok (.iconst 0, 1) := by decide +kernel
theorem dX11_thistles_2 : decode cX11_thistles 2 = .ok (.putfield 89, 3) := by decide +kernel
theorem dX11_thistles_5 : decode cX11_thistles 5 = .ok (.aload_n 0, 1) := by decide +kernel
theorem dX11_thistles_6 : decode cX11_thistles 6 = .ok (.sipush 128, 3) := by decide +kernel
theorem dX11_thistles_9 : decode cX11_thistles 9 = .ok (.iload_n 1, 1) := by decide +kernel
theorem dX11_thistles_10 : decode cX11_thistles 10 = .ok (.iload_n 2, 1) := by decide +kernel
theorem dX11_thistles_11 : decode cX11_thistles 11 = .ok (.invokevirtual 262, 3) := by decide +kernel
theorem dX11_thistles_14 : decode cX11_thistles 14 = .ok (.ireturn, 1) := by decide +kernel
theorem dX11_refusesGate_0 : decode cX11_refusesGate 0 = .ok (.iload_n 1, 1) := by decide +kernel
theorem dX11_refusesGate_1 : decode cX11_refusesGate 1 = .ok (.iconst 0, 1) := by decide +kernel
theorem dX11_refusesGate_2 : decode cX11_refusesGate 2 = .ok (.aload_n 0, 1) := by decide +kernel
theorem dX11_refusesGate_3 : decode cX11_refusesGate 3 = .ok (.getfield 154, 3) := by decide +kernel
theorem dX11_refusesGate_6 : decode cX11_refusesGate 6 = .ok (.iconst 1, 1) := by decide +kernel
theorem dX11_refusesGate_7 : decode cX11_refusesGate 7 = .ok (.isub, 1) := by decide +kernel
theorem dX11_refusesGate_8 : decode cX11_refusesGate 8 = .ok (.invokestatic 95, 3) := by decide +kernel
theorem dX11_refusesGate_11 : decode cX11_refusesGate 11 = .ok (.ifCond .eq 12, 3) := by decide +kernel
theorem dX11_refusesGate_14 : decode cX11_refusesGate 14 = .ok (.iload_n 2, 1) := by decide +kernel
theorem dX11_refusesGate_15 : decode cX11_refusesGate 15 = .ok (.iconst 0, 1) := by decide +kernel
theorem dX11_refusesGate_16 : decode cX11_refusesGate 16 = .ok (.iconst 1, 1) := by decide +kernel
theorem dX11_refusesGate_17 : decode cX11_refusesGate 17 = .ok (.invokestatic 95, 3) := by decide +kernel
theorem dX11_refusesGate_20 : decode cX11_refusesGate 20 = .ok (.ifCond .ne 5, 3) := by decide +kernel
theorem dX11_refusesGate_23 : decode cX11_refusesGate 23 = .ok (.iconst (-1), 1) := by decide +kernel
theorem dX11_refusesGate_24 : decode cX11_refusesGate 24 = .ok (.ireturn, 1) := by decide +kernel
theorem dX11_refusesGate_25 : decode cX11_refusesGate 25 = .ok (.aload_n 0, 1) := by decide +kernel
theorem dX11_refusesGate_26 : decode cX11_refusesGate 26 = .ok (.aload_n 0, 1) := by decide +kernel
theorem dX11_refusesGate_27 : decode cX11_refusesGate 27 = .ok (.getfield 9, 3) := by decide +kernel
theorem dX11_refusesGate_30 : decode cX11_refusesGate 30 = .ok (.aload_n 0, 1) := by decide +kernel
theorem dX11_refusesGate_31 : decode cX11_refusesGate 31 = .ok (.getfield 19, 3) := by decide +kernel
theorem dX11_refusesGate_34 : decode cX11_refusesGate 34 = .ok (.iload_n 1, 1) := by decide +kernel
theorem dX11_refusesGate_35 : decode cX11_refusesGate 35 = .ok (.iaload, 1) := by decide +kernel
theorem dX11_refusesGate_36 : decode cX11_refusesGate 36 = .ok (.invokevirtual 233, 3) := by decide +kernel
theorem dX11_refusesGate_39 : decode cX11_refusesGate 39 = .ok (.ifCond .ne 7, 3) := by decide +kernel
theorem dX11_refusesGate_42 : decode cX11_refusesGate 42 = .ok (.iconst 0, 1) := by decide +kernel
theorem dX11_refusesGate_43 : decode cX11_refusesGate 43 = .ok (.goto 5, 3) := by decide +kernel
theorem dX11_refusesGate_46 : decode cX11_refusesGate 46 = .ok (.bipush (-2), 2) := by decide +kernel
theorem dX11_refusesGate_48 : decode cX11_refusesGate 48 = .ok (.ireturn, 1) := by decide +kernel
theorem dX11_goGate_0 : decode cX11_goGate 0 = .ok (.aload_n 0, 1) := by decide +kernel
theorem dX11_goGate_1 : decode cX11_goGate 1 = .ok (.getfield 9, 3) := by decide +kernel
theorem dX11_goGate_4 : decode cX11_goGate 4 = .ok (.sipush 332, 3) := by decide +kernel
theorem dX11_goGate_7 : decode cX11_goGate 7 = .ok (.iaload, 1) := by decide +kernel
theorem dX11_goGate_8 : decode cX11_goGate 8 = .ok (.iload_n 1, 1) := by decide +kernel
theorem dX11_goGate_9 : decode cX11_goGate 9 = .ok (.ishr, 1) := by decide +kernel
theorem dX11_goGate_10 : decode cX11_goGate 10 = .ok (.iconst 1, 1) := by decide +kernel
theorem dX11_goGate_11 : decode cX11_goGate 11 = .ok (.iand, 1) := by decide +kernel
theorem dX11_goGate_12 : decode cX11_goGate 12 = .ok (.istore_n 3, 1) := by decide +kernel
theorem dX11_goGate_13 : decode cX11_goGate 13 = .ok (.aload_n 0, 1) := by decide +kernel
theorem dX11_goGate_14 : decode cX11_goGate 14 = .ok (.getfield 9, 3) := by decide +kernel
theorem dX11_goGate_17 : decode cX11_goGate 17 = .ok (.sipush 332, 3) := by decide +kernel
theorem dX11_goGate_20 : decode cX11_goGate 20 = .ok (.aload_n 0, 1) := by decide +kernel
theorem dX11_goGate_21 : decode cX11_goGate 21 = .ok (.getfield 9, 3) := by decide +kernel
theorem dX11_goGate_24 : decode cX11_goGate 24 = .ok (.sipush 332, 3) := by decide +kernel
theorem dX11_goGate_27 : decode cX11_goGate 27 = .ok (.iaload, 1) := by decide +kernel
theorem dX11_goGate_28 : decode cX11_goGate 28 = .ok (.iconst 1, 1) := by decide +kernel
theorem dX11_goGate_29 : decode cX11_goGate 29 = .ok (.iload_n 1, 1) := by decide +kernel
theorem dX11_goGate_30 : decode cX11_goGate 30 = .ok (.ishl, 1) := by decide +kernel
theorem dX11_goGate_31 : decode cX11_goGate 31 = .ok (.iconst (-1), 1) := by decide +kernel
theorem dX11_goGate_32 : decode cX11_goGate 32 = .ok (.ixor, 1) := by decide +kernel
theorem dX11_goGate_33 : decode cX11_goGate 33 = .ok (.iand, 1) := by decide +kernel
theorem dX11_goGate_34 : decode cX11_goGate 34 = .ok (.iload_n 2, 1) := by decide +kernel
theorem dX11_goGate_35 : decode cX11_goGate 35 = .ok (.iload_n 1, 1) := by decide +kernel
theorem dX11_goGate_36 : decode cX11_goGate 36 = .ok (.ishl, 1) := by decide +kernel
theorem dX11_goGate_37 : decode cX11_goGate 37 = .ok (.ior, 1) := by decide +kernel
theorem dX11_goGate_38 : decode cX11_goGate 38 = .ok (.iastore, 1) := by decide +kernel
theorem dX11_goGate_39 : decode cX11_goGate 39 = .ok (.iload_n 3, 1) := by decide +kernel
theorem dX11_goGate_40 : decode cX11_goGate 40 = .ok (.ireturn, 1) := by decide +kernel
theorem dX11_gate_0 : decode cX11_gate 0 = .ok (.aload_n 0, 1) := by decide +kernel
theorem dX11_gate_1 : decode cX11_gate 1 = .ok (.iconst 0, 1) := by decide +kernel
theorem dX11_gate_2 : decode cX11_gate 2 = .ok (.putfield 89, 3) := by decide +kernel
theorem dX11_gate_5 : decode cX11_gate 5 = .ok (.aload_n 0, 1) := by decide +kernel
theorem dX11_gate_6 : decode cX11_gate 6 = .ok (.iload_n 1, 1) := by decide +kernel
theorem dX11_gate_7 : decode cX11_gate 7 = .ok (.iload_n 2, 1) := by decide +kernel
theorem dX11_gate_8 : decode cX11_gate 8 = .ok (.invokevirtual 266, 3) := by decide +kernel
theorem dX11_gate_11 : decode cX11_gate 11 = .ok (.istore_n 3, 1) := by decide +kernel
theorem dX11_gate_12 : decode cX11_gate 12 = .ok (.iload_n 3, 1) := by decide +kernel
theorem dX11_gate_13 : decode cX11_gate 13 = .ok (.ifCond .ge 5, 3) := by decide +kernel
theorem dX11_gate_16 : decode cX11_gate 16 = .ok (.iload_n 3, 1) := by decide +kernel
theorem dX11_gate_17 : decode cX11_gate 17 = .ok (.ireturn, 1) := by decide +kernel
theorem dX11_gate_18 : decode cX11_gate 18 = .ok (.aload_n 0, 1) := by decide +kernel
theorem dX11_gate_19 : decode cX11_gate 19 = .ok (.aload_n 0, 1) := by decide +kernel
theorem dX11_gate_20 : decode cX11_gate 20 = .ok (.getfield 9, 3) := by decide +kernel
theorem dX11_gate_23 : decode cX11_gate 23 = .ok (.invokevirtual 258, 3) := by decide +kernel
theorem dX11_gate_26 : decode cX11_gate 26 = .ok (.aload_n 0, 1) := by decide +kernel
theorem dX11_gate_27 : decode cX11_gate 27 = .ok (.iload_n 1, 1) := by decide +kernel
theorem dX11_gate_28 : decode cX11_gate 28 = .ok (.iload_n 2, 1) := by decide +kernel
theorem dX11_gate_29 : decode cX11_gate 29 = .ok (.invokevirtual 269, 3) := by decide +kernel
theorem dX11_gate_32 : decode cX11_gate 32 = .ok (.ireturn, 1) := by decide +kernel
theorem dX11_refusesDrive_0 : decode cX11_refusesDrive 0 = .ok (.aload_n 0, 1) := by decide +kernel
theorem dX11_refusesDrive_1 : decode cX11_refusesDrive 1 = .ok (.iload_n 1, 1) := by decide +kernel
theorem dX11_refusesDrive_2 : decode cX11_refusesDrive 2 = .ok (.invokevirtual 237, 3) := by decide +kernel
theorem dX11_refusesDrive_5 : decode cX11_refusesDrive 5 = .ok (.ifCond .eq 11, 3) := by decide +kernel
theorem dX11_refusesDrive_8 : decode cX11_refusesDrive 8 = .ok (.aload_n 0, 1) := by decide +kernel
theorem dX11_refusesDrive_9 : decode cX11_refusesDrive 9 = .ok (.iload_n 2, 1) := by decide +kernel
theorem dX11_refusesDrive_10 : decode cX11_refusesDrive 10 = .ok (.invokevirtual 157, 3) := by decide +kernel
theorem dX11_refusesDrive_13 : decode cX11_refusesDrive 13 = .ok (.ifCond .ne 5, 3) := by decide +kernel
theorem dX11_refusesDrive_16 : decode cX11_refusesDrive 16 = .ok (.iconst (-1), 1) := by decide +kernel
theorem dX11_refusesDrive_17 : decode cX11_refusesDrive 17 = .ok (.ireturn, 1) := by decide +kernel
theorem dX11_refusesDrive_18 : decode cX11_refusesDrive 18 = .ok (.iconst 0, 1) := by decide +kernel
theorem dX11_refusesDrive_19 : decode cX11_refusesDrive 19 = .ok (.istore_n 3, 1) := by decide +kernel
theorem dX11_refusesDrive_20 : decode cX11_refusesDrive 20 = .ok (.iload_n 3, 1) := by decide +kernel
theorem dX11_refusesDrive_21 : decode cX11_refusesDrive 21 = .ok (.iconst 4, 1) := by decide +kernel
theorem dX11_refusesDrive_22 : decode cX11_refusesDrive 22 = .ok (.if_icmp .ge 47, 3) := by decide +kernel
theorem dX11_refusesDrive_25 : decode cX11_refusesDrive 25 = .ok (.aload_n 0, 1) := by decide +kernel
theorem dX11_refusesDrive_26 : decode cX11_refusesDrive 26 = .ok (.aload_n 0, 1) := by decide +kernel
theorem dX11_refusesDrive_27 : decode cX11_refusesDrive 27 = .ok (.getfield 9, 3) := by decide +kernel
theorem dX11_refusesDrive_30 : decode cX11_refusesDrive 30 = .ok (.sipush 320, 3) := by decide +kernel
theorem dX11_refusesDrive_33 : decode cX11_refusesDrive 33 = .ok (.iload_n 1, 1) := by decide +kernel
theorem dX11_refusesDrive_34 : decode cX11_refusesDrive 34 = .ok (.iadd, 1) := by decide +kernel
theorem dX11_refusesDrive_35 : decode cX11_refusesDrive 35 = .ok (.iaload, 1) := by decide +kernel
theorem dX11_refusesDrive_36 : decode cX11_refusesDrive 36 = .ok (.iload_n 3, 1) := by decide +kernel
theorem dX11_refusesDrive_37 : decode cX11_refusesDrive 37 = .ok (.invokevirtual 223, 3) := by decide +kernel
theorem dX11_refusesDrive_40 : decode cX11_refusesDrive 40 = .ok (.iload_n 2, 1) := by decide +kernel
theorem dX11_refusesDrive_41 : decode cX11_refusesDrive 41 = .ok (.if_icmp .ne 22, 3) := by decide +kernel
theorem dX11_refusesDrive_44 : decode cX11_refusesDrive 44 = .ok (.aload_n 0, 1) := by decide +kernel
theorem dX11_refusesDrive_45 : decode cX11_refusesDrive 45 = .ok (.aload_n 0, 1) := by decide +kernel
theorem dX11_refusesDrive_46 : decode cX11_refusesDrive 46 = .ok (.getfield 9, 3) := by decide +kernel
theorem dX11_refusesDrive_49 : decode cX11_refusesDrive 49 = .ok (.iload_n 2, 1) := by decide +kernel
theorem dX11_refusesDrive_50 : decode cX11_refusesDrive 50 = .ok (.invokevirtual 227, 3) := by decide +kernel
theorem dX11_refusesDrive_53 : decode cX11_refusesDrive 53 = .ok (.ifCond .eq 7, 3) := by decide +kernel
theorem dX11_refusesDrive_56 : decode cX11_refusesDrive 56 = .ok (.iconst 0, 1) := by decide +kernel
theorem dX11_refusesDrive_57 : decode cX11_refusesDrive 57 = .ok (.goto 5, 3) := by decide +kernel
theorem dX11_refusesDrive_60 : decode cX11_refusesDrive 60 = .ok (.bipush (-2), 2) := by decide +kernel
theorem dX11_refusesDrive_62 : decode cX11_refusesDrive 62 = .ok (.ireturn, 1) := by decide +kernel
theorem dX11_refusesDrive_63 : decode cX11_refusesDrive 63 = .ok (.iinc 3 1, 3) := by decide +kernel
theorem dX11_refusesDrive_66 : decode cX11_refusesDrive 66 = .ok (.goto (-46), 3) := by decide +kernel
theorem dX11_refusesDrive_69 : decode cX11_refusesDrive 69 = .ok (.bipush (-2), 2) := by decide +kernel
theorem dX11_refusesDrive_71 : decode cX11_refusesDrive 71 = .ok (.ireturn, 1) := by decide +kernel
theorem dX11_goDrive_0 : decode cX11_goDrive 0 = .ok (.aload_n 0, 1) := by decide +kernel
theorem dX11_goDrive_1 : decode cX11_goDrive 1 = .ok (.getfield 9, 3) := by decide +kernel
theorem dX11_goDrive_4 : decode cX11_goDrive 4 = .ok (.sipush 320, 3) := by decide +kernel
theorem dX11_goDrive_7 : decode cX11_goDrive 7 = .ok (.iload_n 1, 1) := by decide +kernel
theorem dX11_goDrive_8 : decode cX11_goDrive 8 = .ok (.iadd, 1) := by decide +kernel
theorem dX11_goDrive_9 : decode cX11_goDrive 9 = .ok (.iaload, 1) := by decide +kernel
theorem dX11_goDrive_10 : decode cX11_goDrive 10 = .ok (.istore_n 3, 1) := by decide +kernel
theorem dX11_goDrive_11 : decode cX11_goDrive 11 = .ok (.aload_n 0, 1) := by decide +kernel
theorem dX11_goDrive_12 : decode cX11_goDrive 12 = .ok (.getfield 9, 3) := by decide +kernel
theorem dX11_goDrive_15 : decode cX11_goDrive 15 = .ok (.sipush 320, 3) := by decide +kernel
theorem dX11_goDrive_18 : decode cX11_goDrive 18 = .ok (.iload_n 1, 1) := by decide +kernel
theorem dX11_goDrive_19 : decode cX11_goDrive 19 = .ok (.iadd, 1) := by decide +kernel
theorem dX11_goDrive_20 : decode cX11_goDrive 20 = .ok (.iload_n 2, 1) := by decide +kernel
theorem dX11_goDrive_21 : decode cX11_goDrive 21 = .ok (.iastore, 1) := by decide +kernel
theorem dX11_goDrive_22 : decode cX11_goDrive 22 = .ok (.aload_n 0, 1) := by decide +kernel
theorem dX11_goDrive_23 : decode cX11_goDrive 23 = .ok (.getfield 9, 3) := by decide +kernel
theorem dX11_goDrive_26 : decode cX11_goDrive 26 = .ok (.sipush 326, 3) := by decide +kernel
theorem dX11_goDrive_29 : decode cX11_goDrive 29 = .ok (.iload_n 1, 1) := by decide +kernel
theorem dX11_goDrive_30 : decode cX11_goDrive 30 = .ok (.iadd, 1) := by decide +kernel
theorem dX11_goDrive_31 : decode cX11_goDrive 31 = .ok (.iconst 0, 1) := by decide +kernel
theorem dX11_goDrive_32 : decode cX11_goDrive 32 = .ok (.iastore, 1) := by decide +kernel
theorem dX11_goDrive_33 : decode cX11_goDrive 33 = .ok (.aload_n 0, 1) := by decide +kernel
theorem dX11_goDrive_34 : decode cX11_goDrive 34 = .ok (.getfield 9, 3) := by decide +kernel
theorem dX11_goDrive_37 : decode cX11_goDrive 37 = .ok (.iload_n 1, 1) := by decide +kernel
theorem dX11_goDrive_38 : decode cX11_goDrive 38 = .ok (.invokestatic 178, 3) := by decide +kernel
theorem dX11_goDrive_41 : decode cX11_goDrive 41 = .ok (.iload_n 3, 1) := by decide +kernel
theorem dX11_goDrive_42 : decode cX11_goDrive 42 = .ok (.ireturn, 1) := by decide +kernel
theorem dX11_drive_0 : decode cX11_drive 0 = .ok (.aload_n 0, 1) := by decide +kernel
theorem dX11_drive_1 : decode cX11_drive 1 = .ok (.iconst 0, 1) := by decide +kernel
theorem dX11_drive_2 : decode cX11_drive 2 = .ok (.putfield 89, 3) := by decide +kernel
theorem dX11_drive_5 : decode cX11_drive 5 = .ok (.aload_n 0, 1) := by decide +kernel
theorem dX11_drive_6 : decode cX11_drive 6 = .ok (.iload_n 1, 1) := by decide +kernel
theorem dX11_drive_7 : decode cX11_drive 7 = .ok (.iload_n 2, 1) := by decide +kernel
theorem dX11_drive_8 : decode cX11_drive 8 = .ok (.invokevirtual 272, 3) := by decide +kernel
theorem dX11_drive_11 : decode cX11_drive 11 = .ok (.istore_n 3, 1) := by decide +kernel
theorem dX11_drive_12 : decode cX11_drive 12 = .ok (.iload_n 3, 1) := by decide +kernel
theorem dX11_drive_13 : decode cX11_drive 13 = .ok (.ifCond .ge 5, 3) := by decide +kernel
theorem dX11_drive_16 : decode cX11_drive 16 = .ok (.iload_n 3, 1) := by decide +kernel
theorem dX11_drive_17 : decode cX11_drive 17 = .ok (.ireturn, 1) := by decide +kernel
theorem dX11_drive_18 : decode cX11_drive 18 = .ok (.aload_n 0, 1) := by decide +kernel
theorem dX11_drive_19 : decode cX11_drive 19 = .ok (.aload_n 0, 1) := by decide +kernel
theorem dX11_drive_20 : decode cX11_drive 20 = .ok (.getfield 9, 3) := by decide +kernel
theorem dX11_drive_23 : decode cX11_drive 23 = .ok (.invokevirtual 258, 3) := by decide +kernel
theorem dX11_drive_26 : decode cX11_drive 26 = .ok (.aload_n 0, 1) := by decide +kernel
theorem dX11_drive_27 : decode cX11_drive 27 = .ok (.iload_n 1, 1) := by decide +kernel
theorem dX11_drive_28 : decode cX11_drive 28 = .ok (.iload_n 2, 1) := by decide +kernel
theorem dX11_drive_29 : decode cX11_drive 29 = .ok (.invokevirtual 275, 3) := by decide +kernel
theorem dX11_drive_32 : decode cX11_drive 32 = .ok (.ireturn, 1) := by decide +kernel
theorem dX11_goHour_0 : decode cX11_goHour 0 = .ok (.aload_n 1, 1) := by decide +kernel
theorem dX11_goHour_1 : decode cX11_goHour 1 = .ok (.sipush 333, 3) := by decide +kernel
theorem dX11_goHour_4 : decode cX11_goHour 4 = .ok (.dup2, 1) := by decide +kernel
theorem dX11_goHour_5 : decode cX11_goHour 5 = .ok (.iaload, 1) := by decide +kernel
theorem dX11_goHour_6 : decode cX11_goHour 6 = .ok (.iconst 1, 1) := by decide +kernel
theorem dX11_goHour_7 : decode cX11_goHour 7 = .ok (.iadd, 1) := by decide +kernel
theorem dX11_goHour_8 : decode cX11_goHour 8 = .ok (.iastore, 1) := by decide +kernel
theorem dX11_goHour_9 : decode cX11_goHour 9 = .ok (.iconst 0, 1) := by decide +kernel
theorem dX11_goHour_10 : decode cX11_goHour 10 = .ok (.istore_n 2, 1) := by decide +kernel
theorem dX11_goHour_11 : decode cX11_goHour 11 = .ok (.iconst 0, 1) := by decide +kernel
theorem dX11_goHour_12 : decode cX11_goHour 12 = .ok (.istore_n 3, 1) := by decide +kernel
theorem dX11_goHour_13 : decode cX11_goHour 13 = .ok (.iload_n 3, 1) := by decide +kernel
theorem dX11_goHour_14 : decode cX11_goHour 14 = .ok (.aload_n 0, 1) := by decide +kernel
theorem dX11_goHour_15 : decode cX11_goHour 15 = .ok (.getfield 105, 3) := by decide +kernel
theorem dX11_goHour_18 : decode cX11_goHour 18 = .ok (.if_icmp .ge 123, 3) := by decide +kernel
theorem dX11_goHour_21 : decode cX11_goHour 21 = .ok (.aload_n 0, 1) := by decide +kernel
theorem dX11_goHour_22 : decode cX11_goHour 22 = .ok (.aload_n 1, 1) := by decide +kernel
theorem dX11_goHour_23 : decode cX11_goHour 23 = .ok (.iload_n 3, 1) := by decide +kernel
theorem dX11_goHour_24 : decode cX11_goHour 24 = .ok (.invokevirtual 240, 3) := by decide +kernel
theorem dX11_goHour_27 : decode cX11_goHour 27 = .ok (.istore 4, 2) := by decide +kernel
theorem dX11_goHour_29 : decode cX11_goHour 29 = .ok (.iload 4, 2) := by decide +kernel
theorem dX11_goHour_31 : decode cX11_goHour 31 = .ok (.aload_n 1, 1) := by decide +kernel
theorem dX11_goHour_32 : decode cX11_goHour 32 = .ok (.sipush 320, 3) := by decide +kernel
theorem dX11_goHour_35 : decode cX11_goHour 35 = .ok (.iload_n 3, 1) := by decide +kernel
theorem dX11_goHour_36 : decode cX11_goHour 36 = .ok (.iadd, 1) := by decide +kernel
theorem dX11_goHour_37 : decode cX11_goHour 37 = .ok (.iaload, 1) := by decide +kernel
theorem dX11_goHour_38 : decode cX11_goHour 38 = .ok (.if_icmp .ne 7, 3) := by decide +kernel
theorem dX11_goHour_41 : decode cX11_goHour 41 = .ok (.iconst 1, 1) := by decide +kernel
theorem dX11_goHour_42 : decode cX11_goHour 42 = .ok (.goto 4, 3) := by decide +kernel
theorem dX11_goHour_45 : decode cX11_goHour 45 = .ok (.iconst 0, 1) := by decide +kernel
theorem dX11_goHour_46 : decode cX11_goHour 46 = .ok (.istore 5, 2) := by decide +kernel
theorem dX11_goHour_48 : decode cX11_goHour 48 = .ok (.iload_n 2, 1) := by decide +kernel
theorem dX11_goHour_49 : decode cX11_goHour 49 = .ok (.iload 5, 2) := by decide +kernel
theorem dX11_goHour_51 : decode cX11_goHour 51 = .ok (.ifCond .eq 7, 3) := by decide +kernel
theorem dX11_goHour_54 : decode cX11_goHour 54 = .ok (.iconst 0, 1) := by decide +kernel
theorem dX11_goHour_55 : decode cX11_goHour 55 = .ok (.goto 4, 3) := by decide +kernel
theorem dX11_goHour_58 : decode cX11_goHour 58 = .ok (.iconst 1, 1) := by decide +kernel
theorem dX11_goHour_59 : decode cX11_goHour 59 = .ok (.iadd, 1) := by decide +kernel
theorem dX11_goHour_60 : decode cX11_goHour 60 = .ok (.istore_n 2, 1) := by decide +kernel
theorem dX11_goHour_61 : decode cX11_goHour 61 = .ok (.aload_n 1, 1) := by decide +kernel
theorem dX11_goHour_62 : decode cX11_goHour 62 = .ok (.sipush 320, 3) := by decide +kernel
theorem dX11_goHour_65 : decode cX11_goHour 65 = .ok (.iload_n 3, 1) := by decide +kernel
theorem dX11_goHour_66 : decode cX11_goHour 66 = .ok (.iadd, 1) := by decide +kernel
theorem dX11_goHour_67 : decode cX11_goHour 67 = .ok (.iload 4, 2) := by decide +kernel
theorem dX11_goHour_69 : decode cX11_goHour 69 = .ok (.iastore, 1) := by decide +kernel
theorem dX11_goHour_70 : decode cX11_goHour 70 = .ok (.aload_n 1, 1) := by decide +kernel
theorem dX11_goHour_71 : decode cX11_goHour 71 = .ok (.sipush 326, 3) := by decide +kernel
theorem dX11_goHour_74 : decode cX11_goHour 74 = .ok (.iload_n 3, 1) := by decide +kernel
theorem dX11_goHour_75 : decode cX11_goHour 75 = .ok (.iadd, 1) := by decide +kernel
theorem dX11_goHour_76 : decode cX11_goHour 76 = .ok (.iload 5, 2) := by decide +kernel
theorem dX11_goHour_78 : decode cX11_goHour 78 = .ok (.ifCond .eq 7, 3) := by decide +kernel
theorem dX11_goHour_81 : decode cX11_goHour 81 = .ok (.iconst 1, 1) := by decide +kernel
theorem dX11_goHour_82 : decode cX11_goHour 82 = .ok (.goto 4, 3) := by decide +kernel
theorem dX11_goHour_85 : decode cX11_goHour 85 = .ok (.iconst 0, 1) := by decide +kernel
theorem dX11_goHour_86 : decode cX11_goHour 86 = .ok (.iastore, 1) := by decide +kernel
theorem dX11_goHour_87 : decode cX11_goHour 87 = .ok (.aload_n 1, 1) := by decide +kernel
theorem dX11_goHour_88 : decode cX11_goHour 88 = .ok (.iload_n 3, 1) := by decide +kernel
theorem dX11_goHour_89 : decode cX11_goHour 89 = .ok (.invokestatic 178, 3) := by decide +kernel
theorem dX11_goHour_92 : decode cX11_goHour 92 = .ok (.aload_n 1, 1) := by decide +kernel
theorem dX11_goHour_93 : decode cX11_goHour 93 = .ok (.iconst 0, 1) := by decide +kernel
theorem dX11_goHour_94 : decode cX11_goHour 94 = .ok (.iload 4, 2) := by decide +kernel
theorem dX11_goHour_96 : decode cX11_goHour 96 = .ok (.iadd, 1) := by decide +kernel
theorem dX11_goHour_97 : decode cX11_goHour 97 = .ok (.iaload, 1) := by decide +kernel
theorem dX11_goHour_98 : decode cX11_goHour 98 = .ok (.ifCond .le 16, 3) := by decide +kernel
theorem dX11_goHour_101 : decode cX11_goHour 101 = .ok (.aload_n 1, 1) := by decide +kernel
theorem dX11_goHour_102 : decode cX11_goHour 102 = .ok (.iconst 0, 1) := by decide +kernel
theorem dX11_goHour_103 : decode cX11_goHour 103 = .ok (.iload 4, 2) := by decide +kernel
theorem dX11_goHour_105 : decode cX11_goHour 105 = .ok (.iadd, 1) := by decide +kernel
theorem dX11_goHour_106 : decode cX11_goHour 106 = .ok (.dup2, 1) := by decide +kernel
theorem dX11_goHour_107 : decode cX11_goHour 107 = .ok (.iaload, 1) := by decide +kernel
theorem dX11_goHour_108 : decode cX11_goHour 108 = .ok (.iconst 1, 1) := by decide +kernel
theorem dX11_goHour_109 : decode cX11_goHour 109 = .ok (.isub, 1) := by decide +kernel
theorem dX11_goHour_110 : decode cX11_goHour 110 = .ok (.iastore, 1) := by decide +kernel
theorem dX11_goHour_111 : decode cX11_goHour 111 = .ok (.goto 24, 3) := by decide +kernel
theorem dX11_goHour_114 : decode cX11_goHour 114 = .ok (.aload_n 1, 1) := by decide +kernel
theorem dX11_goHour_115 : decode cX11_goHour 115 = .ok (.bipush 64, 2) := by decide +kernel
theorem dX11_goHour_117 : decode cX11_goHour 117 = .ok (.iload 4, 2) := by decide +kernel
theorem dX11_goHour_119 : decode cX11_goHour 119 = .ok (.iadd, 1) := by decide +kernel
theorem dX11_goHour_120 : decode cX11_goHour 120 = .ok (.iaload, 1) := by decide +kernel
theorem dX11_goHour_121 : decode cX11_goHour 121 = .ok (.ifCond .le 14, 3) := by decide +kernel
theorem dX11_goHour_124 : decode cX11_goHour 124 = .ok (.aload_n 1, 1) := by decide +kernel
theorem dX11_goHour_125 : decode cX11_goHour 125 = .ok (.bipush 64, 2) := by decide +kernel
theorem dX11_goHour_127 : decode cX11_goHour 127 = .ok (.iload 4, 2) := by decide +kernel
theorem dX11_goHour_129 : decode cX11_goHour 129 = .ok (.iadd, 1) := by decide +kernel
theorem dX11_goHour_130 : decode cX11_goHour 130 = .ok (.dup2, 1) := by decide +kernel
theorem dX11_goHour_131 : decode cX11_goHour 131 = .ok (.iaload, 1) := by decide +kernel
theorem dX11_goHour_132 : decode cX11_goHour 132 = .ok (.iconst 1, 1) := by decide +kernel
theorem dX11_goHour_133 : decode cX11_goHour 133 = .ok (.isub, 1) := by decide +kernel
theorem dX11_goHour_134 : decode cX11_goHour 134 = .ok (.iastore, 1) := by decide +kernel
theorem dX11_goHour_135 : decode cX11_goHour 135 = .ok (.iinc 3 1, 3) := by decide +kernel
theorem dX11_goHour_138 : decode cX11_goHour 138 = .ok (.goto (-125), 3) := by decide +kernel
theorem dX11_goHour_141 : decode cX11_goHour 141 = .ok (.aload_n 1, 1) := by decide +kernel
theorem dX11_goHour_142 : decode cX11_goHour 142 = .ok (.sipush 333, 3) := by decide +kernel
theorem dX11_goHour_145 : decode cX11_goHour 145 = .ok (.iaload, 1) := by decide +kernel
theorem dX11_goHour_146 : decode cX11_goHour 146 = .ok (.aload_n 0, 1) := by decide +kernel
theorem dX11_goHour_147 : decode cX11_goHour 147 = .ok (.getfield 29, 3) := by decide +kernel
theorem dX11_goHour_150 : decode cX11_goHour 150 = .ok (.irem, 1) := by decide +kernel
theorem dX11_goHour_151 : decode cX11_goHour 151 = .ok (.ifCond .ne 60, 3) := by decide +kernel
theorem dX11_goHour_154 : decode cX11_goHour 154 = .ok (.iconst 0, 1) := by decide +kernel
theorem dX11_goHour_155 : decode cX11_goHour 155 = .ok (.istore_n 3, 1) := by decide +kernel
theorem dX11_goHour_156 : decode cX11_goHour 156 = .ok (.iload_n 3, 1) := by decide +kernel
theorem dX11_goHour_157 : decode cX11_goHour 157 = .ok (.bipush 64, 2) := by decide +kernel
theorem dX11_goHour_159 : decode cX11_goHour 159 = .ok (.if_icmp .ge 52, 3) := by decide +kernel
theorem dX11_goHour_162 : decode cX11_goHour 162 = .ok (.aload_n 0, 1) := by decide +kernel
theorem dX11_goHour_163 : decode cX11_goHour 163 = .ok (.iload_n 3, 1) := by decide +kernel
theorem dX11_goHour_164 : decode cX11_goHour 164 = .ok (.invokevirtual 157, 3) := by decide +kernel
theorem dX11_goHour_167 : decode cX11_goHour 167 = .ok (.ifCond .eq 38, 3) := by decide +kernel
theorem dX11_goHour_170 : decode cX11_goHour 170 = .ok (.aload_n 0, 1) := by decide +kernel
theorem dX11_goHour_171 : decode cX11_goHour 171 = .ok (.getfield 13, 3) := by decide +kernel
theorem dX11_goHour_174 : decode cX11_goHour 174 = .ok (.iload_n 3, 1) := by decide +kernel
theorem dX11_goHour_175 : decode cX11_goHour 175 = .ok (.iaload, 1) := by decide +kernel
theorem dX11_goHour_176 : decode cX11_goHour 176 = .ok (.ifCond .ne 29, 3) := by decide +kernel
theorem dX11_goHour_179 : decode cX11_goHour 179 = .ok (.aload_n 0, 1) := by decide +kernel
theorem dX11_goHour_180 : decode cX11_goHour 180 = .ok (.aload_n 1, 1) := by decide +kernel
theorem dX11_goHour_181 : decode cX11_goHour 181 = .ok (.iload_n 3, 1) := by decide +kernel
theorem dX11_goHour_182 : decode cX11_goHour 182 = .ok (.invokevirtual 233, 3) := by decide +kernel
theorem dX11_goHour_185 : decode cX11_goHour 185 = .ok (.ifCond .ne 20, 3) := by decide +kernel
theorem dX11_goHour_188 : decode cX11_goHour 188 = .ok (.aload_n 1, 1) := by decide +kernel
theorem dX11_goHour_189 : decode cX11_goHour 189 = .ok (.iconst 0, 1) := by decide +kernel
theorem dX11_goHour_190 : decode cX11_goHour 190 = .ok (.iload_n 3, 1) := by decide +kernel
theorem dX11_goHour_191 : decode cX11_goHour 191 = .ok (.iadd, 1) := by decide +kernel
theorem dX11_goHour_192 : decode cX11_goHour 192 = .ok (.bipush 9, 2) := by decide +kernel
theorem dX11_goHour_194 : decode cX11_goHour 194 = .ok (.aload_n 1, 1) := by decide +kernel
theorem dX11_goHour_195 : decode cX11_goHour 195 = .ok (.iconst 0, 1) := by decide +kernel
theorem dX11_goHour_196 : decode cX11_goHour 196 = .ok (.iload_n 3, 1) := by decide +kernel
theorem dX11_goHour_197 : decode cX11_goHour 197 = .ok (.iadd, 1) := by decide +kernel
theorem dX11_goHour_198 : decode cX11_goHour 198 = .ok (.iaload, 1) := by decide +kernel
theorem dX11_goHour_199 : decode cX11_goHour 199 = .ok (.iconst 1, 1) := by decide +kernel
theorem dX11_goHour_200 : decode cX11_goHour 200 = .ok (.iadd, 1) := by decide +kernel
theorem dX11_goHour_201 : decode cX11_goHour 201 = .ok (.invokestatic 243, 3) := by decide +kernel
theorem dX11_goHour_204 : decode cX11_goHour 204 = .ok (.iastore, 1) := by decide +kernel
