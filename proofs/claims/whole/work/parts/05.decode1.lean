theorem dJ6_bitCount_0f7a4_0 : decode cJ6_bitCount_0f7a4 0 = .ok (.iload_n 0, 1) := by decide +kernel
theorem dJ6_bitCount_0f7a4_1 : decode cJ6_bitCount_0f7a4 1 = .ok (.iload_n 0, 1) := by decide +kernel
theorem dJ6_bitCount_0f7a4_2 : decode cJ6_bitCount_0f7a4 2 = .ok (.iconst 1, 1) := by decide +kernel
theorem dJ6_bitCount_0f7a4_3 : decode cJ6_bitCount_0f7a4 3 = .ok (.iushr, 1) := by decide +kernel
theorem dJ6_bitCount_0f7a4_4 : decode cJ6_bitCount_0f7a4 4 = .ok (.ldc_w 265, 3) := by decide +kernel
theorem dJ6_bitCount_0f7a4_7 : decode cJ6_bitCount_0f7a4 7 = .ok (.iand, 1) := by decide +kernel
theorem dJ6_bitCount_0f7a4_8 : decode cJ6_bitCount_0f7a4 8 = .ok (.isub, 1) := by decide +kernel
theorem dJ6_bitCount_0f7a4_9 : decode cJ6_bitCount_0f7a4 9 = .ok (.istore_n 0, 1) := by decide +kernel
theorem dJ6_bitCount_0f7a4_10 : decode cJ6_bitCount_0f7a4 10 = .ok (.iload_n 0, 1) := by decide +kernel
theorem dJ6_bitCount_0f7a4_11 : decode cJ6_bitCount_0f7a4 11 = .ok (.ldc_w 266, 3) := by decide +kernel
theorem dJ6_bitCount_0f7a4_14 : decode cJ6_bitCount_0f7a4 14 = .ok (.iand, 1) := by decide +kernel
theorem dJ6_bitCount_0f7a4_15 : decode cJ6_bitCount_0f7a4 15 = .ok (.iload_n 0, 1) := by decide +kernel
theorem dJ6_bitCount_0f7a4_16 : decode cJ6_bitCount_0f7a4 16 = .ok (.iconst 2, 1) := by decide +kernel
theorem dJ6_bitCount_0f7a4_17 : decode cJ6_bitCount_0f7a4 17 = .ok (.iushr, 1) := by decide +kernel
theorem dJ6_bitCount_0f7a4_18 : decode cJ6_bitCount_0f7a4 18 = .ok (.ldc_w 266, 3) := by decide +kernel
theorem dJ6_bitCount_0f7a4_21 : decode cJ6_bitCount_0f7a4 21 = .ok (.iand, 1) := by decide +kernel
theorem dJ6_bitCount_0f7a4_22 : decode cJ6_bitCount_0f7a4 22 = .ok (.iadd, 1) := by decide +kernel
theorem dJ6_bitCount_0f7a4_23 : decode cJ6_bitCount_0f7a4 23 = .ok (.istore_n 0, 1) := by decide +kernel
theorem dJ6_bitCount_0f7a4_24 : decode cJ6_bitCount_0f7a4 24 = .ok (.iload_n 0, 1) := by decide +kernel
theorem dJ6_bitCount_0f7a4_25 : decode cJ6_bitCount_0f7a4 25 = .ok (.iload_n 0, 1) := by decide +kernel
theorem dJ6_bitCount_0f7a4_26 : decode cJ6_bitCount_0f7a4 26 = .ok (.iconst 4, 1) := by decide +kernel
theorem dJ6_bitCount_0f7a4_27 : decode cJ6_bitCount_0f7a4 27 = .ok (.iushr, 1) := by decide +kernel
theorem dJ6_bitCount_0f7a4_28 : decode cJ6_bitCount_0f7a4 28 = .ok (.iadd, 1) := by decide +kernel
theorem dJ6_bitCount_0f7a4_29 : decode cJ6_bitCount_0f7a4 29 = .ok (.ldc_w 267, 3) := by decide +kernel
theorem dJ6_bitCount_0f7a4_32 : decode cJ6_bitCount_0f7a4 32 = .ok (.iand, 1) := by decide +kernel
theorem dJ6_bitCount_0f7a4_33 : decode cJ6_bitCount_0f7a4 33 = .ok (.istore_n 0, 1) := by decide +kernel
theorem dJ6_bitCount_0f7a4_34 : decode cJ6_bitCount_0f7a4 34 = .ok (.iload_n 0, 1) := by decide +kernel
theorem dJ6_bitCount_0f7a4_35 : decode cJ6_bitCount_0f7a4 35 = .ok (.iload_n 0, 1) := by decide +kernel
theorem dJ6_bitCount_0f7a4_36 : decode cJ6_bitCount_0f7a4 36 = .ok (.bipush 8, 2) := by decide +kernel
theorem dJ6_bitCount_0f7a4_38 : decode cJ6_bitCount_0f7a4 38 = .ok (.iushr, 1) := by decide +kernel
theorem dJ6_bitCount_0f7a4_39 : decode cJ6_bitCount_0f7a4 39 = .ok (.iadd, 1) := by decide +kernel
theorem dJ6_bitCount_0f7a4_40 : decode cJ6_bitCount_0f7a4 40 = .ok (.istore_n 0, 1) := by decide +kernel
theorem dJ6_bitCount_0f7a4_41 : decode cJ6_bitCount_0f7a4 41 = .ok (.iload_n 0, 1) := by decide +kernel
theorem dJ6_bitCount_0f7a4_42 : decode cJ6_bitCount_0f7a4 42 = .ok (.iload_n 0, 1) := by decide +kernel
theorem dJ6_bitCount_0f7a4_43 : decode cJ6_bitCount_0f7a4 43 = .ok (.bipush 16, 2) := by decide +kernel
theorem dJ6_bitCount_0f7a4_45 : decode cJ6_bitCount_0f7a4 45 = .ok (.iushr, 1) := by decide +kernel
theorem dJ6_bitCount_0f7a4_46 : decode cJ6_bitCount_0f7a4 46 = .ok (.iadd, 1) := by decide +kernel
theorem dJ6_bitCount_0f7a4_47 : decode cJ6_bitCount_0f7a4 47 = .ok (.istore_n 0, 1) := by decide +kernel
theorem dJ6_bitCount_0f7a4_48 : decode cJ6_bitCount_0f7a4 48 = .ok (.iload_n 0, 1) := by decide +kernel
theorem dJ6_bitCount_0f7a4_49 : decode cJ6_bitCount_0f7a4 49 = .ok (.bipush 63, 2) := by decide +kernel
theorem dJ6_bitCount_0f7a4_51 : decode cJ6_bitCount_0f7a4 51 = .ok (.iand, 1) := by decide +kernel
theorem dJ6_bitCount_0f7a4_52 : decode cJ6_bitCount_0f7a4 52 = .ok (.ireturn, 1) := by decide +kernel
theorem dJ7_fill_53178_0 : decode cJ7_fill_53178 0 = .ok (.iconst 0, 1) := by decide +kernel
theorem dJ7_fill_53178_1 : decode cJ7_fill_53178 1 = .ok (.istore_n 2, 1) := by decide +kernel
theorem dJ7_fill_53178_2 : decode cJ7_fill_53178 2 = .ok (.aload_n 0, 1) := by decide +kernel
theorem dJ7_fill_53178_3 : decode cJ7_fill_53178 3 = .ok (.arraylength, 1) := by decide +kernel
theorem dJ7_fill_53178_4 : decode cJ7_fill_53178 4 = .ok (.istore_n 3, 1) := by decide +kernel
theorem dJ7_fill_53178_5 : decode cJ7_fill_53178 5 = .ok (.iload_n 2, 1) := by decide +kernel
theorem dJ7_fill_53178_6 : decode cJ7_fill_53178 6 = .ok (.iload_n 3, 1) := by decide +kernel
theorem dJ7_fill_53178_7 : decode cJ7_fill_53178 7 = .ok (.if_icmp .ge 13, 3) := by decide +kernel
theorem dJ7_fill_53178_10 : decode cJ7_fill_53178 10 = .ok (.aload_n 0, 1) := by decide +kernel
theorem dJ7_fill_53178_11 : decode cJ7_fill_53178 11 = .ok (.iload_n 2, 1) := by decide +kernel
theorem dJ7_fill_53178_12 : decode cJ7_fill_53178 12 = .ok (.iload_n 1, 1) := by decide +kernel
theorem dJ7_fill_53178_13 : decode cJ7_fill_53178 13 = .ok (.iastore, 1) := by decide +kernel
theorem dJ7_fill_53178_14 : decode cJ7_fill_53178 14 = .ok (.iinc 2 1, 3) := by decide +kernel
theorem dJ7_fill_53178_17 : decode cJ7_fill_53178 17 = .ok (.goto (-12), 3) := by decide +kernel
theorem dJ7_fill_53178_20 : decode cJ7_fill_53178 20 = .ok (.return_, 1) := by decide +kernel
theorem dJ9_floorMod_7cf53_0 : decode cJ9_floorMod_7cf53 0 = .ok (.iload_n 0, 1) := by decide +kernel
theorem dJ9_floorMod_7cf53_1 : decode cJ9_floorMod_7cf53 1 = .ok (.iload_n 1, 1) := by decide +kernel
theorem dJ9_floorMod_7cf53_2 : decode cJ9_floorMod_7cf53 2 = .ok (.irem, 1) := by decide +kernel
theorem dJ9_floorMod_7cf53_3 : decode cJ9_floorMod_7cf53 3 = .ok (.istore_n 2, 1) := by decide +kernel
theorem dJ9_floorMod_7cf53_4 : decode cJ9_floorMod_7cf53 4 = .ok (.iload_n 0, 1) := by decide +kernel
theorem dJ9_floorMod_7cf53_5 : decode cJ9_floorMod_7cf53 5 = .ok (.iload_n 1, 1) := by decide +kernel
theorem dJ9_floorMod_7cf53_6 : decode cJ9_floorMod_7cf53 6 = .ok (.ixor, 1) := by decide +kernel
theorem dJ9_floorMod_7cf53_7 : decode cJ9_floorMod_7cf53 7 = .ok (.ifCond .ge 11, 3) := by decide +kernel
theorem dJ9_floorMod_7cf53_10 : decode cJ9_floorMod_7cf53 10 = .ok (.iload_n 2, 1) := by decide +kernel
theorem dJ9_floorMod_7cf53_11 : decode cJ9_floorMod_7cf53 11 = .ok (.ifCond .eq 7, 3) := by decide +kernel
theorem dJ9_floorMod_7cf53_14 : decode cJ9_floorMod_7cf53 14 = .ok (.iload_n 2, 1) := by decide +kernel
theorem dJ9_floorMod_7cf53_15 : decode cJ9_floorMod_7cf53 15 = .ok (.iload_n 1, 1) := by decide +kernel
theorem dJ9_floorMod_7cf53_16 : decode cJ9_floorMod_7cf53 16 = .ok (.iadd, 1) := by decide +kernel
theorem dJ9_floorMod_7cf53_17 : decode cJ9_floorMod_7cf53 17 = .ok (.ireturn, 1) := by decide +kernel
theorem dJ9_floorMod_7cf53_18 : decode cJ9_floorMod_7cf53 18 = .ok (.iload_n 2, 1) := by decide +kernel
theorem dJ9_floorMod_7cf53_19 : decode cJ9_floorMod_7cf53 19 = .ok (.ireturn, 1) := by decide +kernel
theorem dJ9_max_7cf53_0 : decode cJ9_max_7cf53 0 = .ok (.iload_n 0, 1) := by decide +kernel
theorem dJ9_max_7cf53_1 : decode cJ9_max_7cf53 1 = .ok (.iload_n 1, 1) := by decide +kernel
theorem dJ9_max_7cf53_2 : decode cJ9_max_7cf53 2 = .ok (.if_icmp .lt 7, 3) := by decide +kernel
theorem dJ9_max_7cf53_5 : decode cJ9_max_7cf53 5 = .ok (.iload_n 0, 1) := by decide +kernel
theorem dJ9_max_7cf53_6 : decode cJ9_max_7cf53 6 = .ok (.goto 4, 3) := by decide +kernel
theorem dJ9_max_7cf53_9 : decode cJ9_max_7cf53 9 = .ok (.iload_n 1, 1) := by decide +kernel
theorem dJ9_max_7cf53_10 : decode cJ9_max_7cf53 10 = .ok (.ireturn, 1) := by decide +kernel
theorem dJ9_min_7cf53_0 : decode cJ9_min_7cf53 0 = .ok (.iload_n 0, 1) := by decide +kernel
theorem dJ9_min_7cf53_1 : decode cJ9_min_7cf53 1 = .ok (.iload_n 1, 1) := by decide +kernel
theorem dJ9_min_7cf53_2 : decode cJ9_min_7cf53 2 = .ok (.if_icmp .gt 7, 3) := by decide +kernel
theorem dJ9_min_7cf53_5 : decode cJ9_min_7cf53 5 = .ok (.iload_n 0, 1) := by decide +kernel
theorem dJ9_min_7cf53_6 : decode cJ9_min_7cf53 6 = .ok (.goto 4, 3) := by decide +kernel
theorem dJ9_min_7cf53_9 : decode cJ9_min_7cf53 9 = .ok (.iload_n 1, 1) := by decide +kernel
theorem dJ9_min_7cf53_10 : decode cJ9_min_7cf53 10 = .ok (.ireturn, 1) := by decide +kernel
theorem dL_law_0 : decode cL_law 0 = .ok (.new 7, 3) := by decide +kernel
theorem dL_law_3 : decode cL_law 3 = .ok (.dup, 1) := by decide +kernel
theorem dL_law_4 : decode cL_law 4 = .ok (.invokespecial 9, 3) := by decide +kernel
theorem dL_law_7 : decode cL_law 7 = .ok (.astore_n 1, 1) := by decide +kernel
theorem dL_law_8 : decode cL_law 8 = .ok (.new 10, 3) := by decide +kernel
theorem dL_law_11 : decode cL_law 11 = .ok (.dup, 1) := by decide +kernel
theorem dL_law_12 : decode cL_law 12 = .ok (.invokespecial 12, 3) := by decide +kernel
theorem dL_law_15 : decode cL_law 15 = .ok (.astore_n 2, 1) := by decide +kernel
theorem dL_law_16 : decode cL_law 16 = .ok (.iconst 0, 1) := by decide +kernel
theorem dL_law_17 : decode cL_law 17 = .ok (.istore_n 3, 1) := by decide +kernel
theorem dL_law_18 : decode cL_law 18 = .ok (.iload_n 3, 1) := by decide +kernel
theorem dL_law_19 : decode cL_law 19 = .ok (.aload_n 0, 1) := by decide +kernel
theorem dL_law_20 : decode cL_law 20 = .ok (.arraylength, 1) := by decide +kernel
theorem dL_law_21 : decode cL_law 21 = .ok (.iconst 4, 1) := by decide +kernel
theorem dL_law_22 : decode cL_law 22 = .ok (.isub, 1) := by decide +kernel
theorem dL_law_23 : decode cL_law 23 = .ok (.if_icmp .gt 631, 3) := by decide +kernel
theorem dL_law_26 : decode cL_law 26 = .ok (.aload_n 0, 1) := by decide +kernel
theorem dL_law_27 : decode cL_law 27 = .ok (.iload_n 3, 1) := by decide +kernel
theorem dL_law_28 : decode cL_law 28 = .ok (.iaload, 1) := by decide +kernel
theorem dL_law_29 : decode cL_law 29 = .ok (.bipush 31, 2) := by decide +kernel
theorem dL_law_31 : decode cL_law 31 = .ok (.iand, 1) := by decide +kernel
theorem dL_law_32 : decode cL_law 32 = .ok (.tableswitch 616 0 19 #[96, 119, 132, 155, 168, 201, 214, 247, 290, 323, 356, 389, 432, 455, 488, 511, 524, 537, 560, 593], 96) := by decide +kernel
theorem dL_law_128 : decode cL_law 128 = .ok (.aload_n 1, 1) := by decide +kernel
theorem dL_law_129 : decode cL_law 129 = .ok (.aload_n 0, 1) := by decide +kernel
theorem dL_law_130 : decode cL_law 130 = .ok (.iload_n 3, 1) := by decide +kernel
theorem dL_law_131 : decode cL_law 131 = .ok (.iconst 1, 1) := by decide +kernel
theorem dL_law_132 : decode cL_law 132 = .ok (.iadd, 1) := by decide +kernel
theorem dL_law_133 : decode cL_law 133 = .ok (.iaload, 1) := by decide +kernel
theorem dL_law_134 : decode cL_law 134 = .ok (.invokevirtual 13, 3) := by decide +kernel
theorem dL_law_137 : decode cL_law 137 = .ok (.aload_n 2, 1) := by decide +kernel
theorem dL_law_138 : decode cL_law 138 = .ok (.aload_n 0, 1) := by decide +kernel
theorem dL_law_139 : decode cL_law 139 = .ok (.iload_n 3, 1) := by decide +kernel
theorem dL_law_140 : decode cL_law 140 = .ok (.iconst 1, 1) := by decide +kernel
theorem dL_law_141 : decode cL_law 141 = .ok (.iadd, 1) := by decide +kernel
theorem dL_law_142 : decode cL_law 142 = .ok (.iaload, 1) := by decide +kernel
theorem dL_law_143 : decode cL_law 143 = .ok (.invokevirtual 17, 3) := by decide +kernel
theorem dL_law_146 : decode cL_law 146 = .ok (.if_icmp .eq 502, 3) := by decide +kernel
theorem dL_law_149 : decode cL_law 149 = .ok (.iconst 0, 1) := by decide +kernel
theorem dL_law_150 : decode cL_law 150 = .ok (.ireturn, 1) := by decide +kernel
theorem dL_law_151 : decode cL_law 151 = .ok (.aload_n 1, 1) := by decide +kernel
theorem dL_law_152 : decode cL_law 152 = .ok (.invokevirtual 18, 3) := by decide +kernel
theorem dL_law_155 : decode cL_law 155 = .ok (.aload_n 2, 1) := by decide +kernel
theorem dL_law_156 : decode cL_law 156 = .ok (.invokevirtual 22, 3) := by decide +kernel
theorem dL_law_159 : decode cL_law 159 = .ok (.if_icmp .eq 489, 3) := by decide +kernel
theorem dL_law_162 : decode cL_law 162 = .ok (.iconst 0, 1) := by decide +kernel
theorem dL_law_163 : decode cL_law 163 = .ok (.ireturn, 1) := by decide +kernel
theorem dL_law_164 : decode cL_law 164 = .ok (.aload_n 1, 1) := by decide +kernel
theorem dL_law_165 : decode cL_law 165 = .ok (.aload_n 0, 1) := by decide +kernel
theorem dL_law_166 : decode cL_law 166 = .ok (.iload_n 3, 1) := by decide +kernel
theorem dL_law_167 : decode cL_law 167 = .ok (.iconst 1, 1) := by decide +kernel
theorem dL_law_168 : decode cL_law 168 = .ok (.iadd, 1) := by decide +kernel
theorem dL_law_169 : decode cL_law 169 = .ok (.iaload, 1) := by decide +kernel
theorem dL_law_170 : decode cL_law 170 = .ok (.invokevirtual 23, 3) := by decide +kernel
theorem dL_law_173 : decode cL_law 173 = .ok (.aload_n 2, 1) := by decide +kernel
theorem dL_law_174 : decode cL_law 174 = .ok (.aload_n 0, 1) := by decide +kernel
theorem dL_law_175 : decode cL_law 175 = .ok (.iload_n 3, 1) := by decide +kernel
theorem dL_law_176 : decode cL_law 176 = .ok (.iconst 1, 1) := by decide +kernel
theorem dL_law_177 : decode cL_law 177 = .ok (.iadd, 1) := by decide +kernel
theorem dL_law_178 : decode cL_law 178 = .ok (.iaload, 1) := by decide +kernel
theorem dL_law_179 : decode cL_law 179 = .ok (.invokevirtual 26, 3) := by decide +kernel
theorem dL_law_182 : decode cL_law 182 = .ok (.if_icmp .eq 466, 3) := by decide +kernel
theorem dL_law_185 : decode cL_law 185 = .ok (.iconst 0, 1) := by decide +kernel
theorem dL_law_186 : decode cL_law 186 = .ok (.ireturn, 1) := by decide +kernel
theorem dL_law_187 : decode cL_law 187 = .ok (.aload_n 1, 1) := by decide +kernel
theorem dL_law_188 : decode cL_law 188 = .ok (.invokevirtual 27, 3) := by decide +kernel
theorem dL_law_191 : decode cL_law 191 = .ok (.aload_n 2, 1) := by decide +kernel
theorem dL_law_192 : decode cL_law 192 = .ok (.invokevirtual 30, 3) := by decide +kernel
theorem dL_law_195 : decode cL_law 195 = .ok (.if_icmp .eq 453, 3) := by decide +kernel
theorem dL_law_198 : decode cL_law 198 = .ok (.iconst 0, 1) := by decide +kernel
theorem dL_law_199 : decode cL_law 199 = .ok (.ireturn, 1) := by decide +kernel
theorem dL_law_200 : decode cL_law 200 = .ok (.aload_n 1, 1) := by decide +kernel
theorem dL_law_201 : decode cL_law 201 = .ok (.aload_n 0, 1) := by decide +kernel
theorem dL_law_202 : decode cL_law 202 = .ok (.iload_n 3, 1) := by decide +kernel
theorem dL_law_203 : decode cL_law 203 = .ok (.iconst 1, 1) := by decide +kernel
theorem dL_law_204 : decode cL_law 204 = .ok (.iadd, 1) := by decide +kernel
theorem dL_law_205 : decode cL_law 205 = .ok (.iaload, 1) := by decide +kernel
theorem dL_law_206 : decode cL_law 206 = .ok (.aload_n 0, 1) := by decide +kernel
theorem dL_law_207 : decode cL_law 207 = .ok (.iload_n 3, 1) := by decide +kernel
theorem dL_law_208 : decode cL_law 208 = .ok (.iconst 2, 1) := by decide +kernel
theorem dL_law_209 : decode cL_law 209 = .ok (.iadd, 1) := by decide +kernel
theorem dL_law_210 : decode cL_law 210 = .ok (.iaload, 1) := by decide +kernel
theorem dL_law_211 : decode cL_law 211 = .ok (.invokevirtual 31, 3) := by decide +kernel
theorem dL_law_214 : decode cL_law 214 = .ok (.aload_n 2, 1) := by decide +kernel
theorem dL_law_215 : decode cL_law 215 = .ok (.aload_n 0, 1) := by decide +kernel
theorem dL_law_216 : decode cL_law 216 = .ok (.iload_n 3, 1) := by decide +kernel
theorem dL_law_217 : decode cL_law 217 = .ok (.iconst 1, 1) := by decide +kernel
theorem dL_law_218 : decode cL_law 218 = .ok (.iadd, 1) := by decide +kernel
theorem dL_law_219 : decode cL_law 219 = .ok (.iaload, 1) := by decide +kernel
theorem dL_law_220 : decode cL_law 220 = .ok (.aload_n 0, 1) := by decide +kernel
theorem dL_law_221 : decode cL_law 221 = .ok (.iload_n 3, 1) := by decide +kernel
theorem dL_law_222 : decode cL_law 222 = .ok (.iconst 2, 1) := by decide +kernel
theorem dL_law_223 : decode cL_law 223 = .ok (.iadd, 1) := by decide +kernel
theorem dL_law_224 : decode cL_law 224 = .ok (.iaload, 1) := by decide +kernel
theorem dL_law_225 : decode cL_law 225 = .ok (.invokevirtual 35, 3) := by decide +kernel
theorem dL_law_228 : decode cL_law 228 = .ok (.if_icmp .eq 420, 3) := by decide +kernel
theorem dL_law_231 : decode cL_law 231 = .ok (.iconst 0, 1) := by decide +kernel
theorem dL_law_232 : decode cL_law 232 = .ok (.ireturn, 1) := by decide +kernel
theorem dL_law_233 : decode cL_law 233 = .ok (.aload_n 1, 1) := by decide +kernel
theorem dL_law_234 : decode cL_law 234 = .ok (.invokevirtual 36, 3) := by decide +kernel
theorem dL_law_237 : decode cL_law 237 = .ok (.aload_n 2, 1) := by decide +kernel
theorem dL_law_238 : decode cL_law 238 = .ok (.invokevirtual 39, 3) := by decide +kernel
theorem dL_law_241 : decode cL_law 241 = .ok (.if_icmp .eq 407, 3) := by decide +kernel
theorem dL_law_244 : decode cL_law 244 = .ok (.iconst 0, 1) := by decide +kernel
theorem dL_law_245 : decode cL_law 245 = .ok (.ireturn, 1) := by decide +kernel
theorem dL_law_246 : decode cL_law 246 = .ok (.aload_n 1, 1) := by decide +kernel
theorem dL_law_247 : decode cL_law 247 = .ok (.aload_n 0, 1) := by decide +kernel
theorem dL_law_248 : decode cL_law 248 = .ok (.iload_n 3, 1) := by decide +kernel
theorem dL_law_249 : decode cL_law 249 = .ok (.iconst 1, 1) := by decide +kernel
theorem dL_law_250 : decode cL_law 250 = .ok (.iadd, 1) := by decide +kernel
theorem dL_law_251 : decode cL_law 251 = .ok (.iaload, 1) := by decide +kernel
theorem dL_law_252 : decode cL_law 252 = .ok (.aload_n 0, 1) := by decide +kernel
theorem dL_law_253 : decode cL_law 253 = .ok (.iload_n 3, 1) := by decide +kernel
theorem dL_law_254 : decode cL_law 254 = .ok (.iconst 2, 1) := by decide +kernel
theorem dL_law_255 : decode cL_law 255 = .ok (.iadd, 1) := by decide +kernel
theorem dL_law_256 : decode cL_law 256 = .ok (.iaload, 1) := by decide +kernel
theorem dL_law_257 : decode cL_law 257 = .ok (.invokevirtual 40, 3) := by decide +kernel
theorem dL_law_260 : decode cL_law 260 = .ok (.aload_n 2, 1) := by decide +kernel
theorem dL_law_261 : decode cL_law 261 = .ok (.aload_n 0, 1) := by decide +kernel
theorem dL_law_262 : decode cL_law 262 = .ok (.iload_n 3, 1) := by decide +kernel
theorem dL_law_263 : decode cL_law 263 = .ok (.iconst 1, 1) := by decide +kernel
theorem dL_law_264 : decode cL_law 264 = .ok (.iadd, 1) := by decide +kernel
theorem dL_law_265 : decode cL_law 265 = .ok (.iaload, 1) := by decide +kernel
theorem dL_law_266 : decode cL_law 266 = .ok (.aload_n 0, 1) := by decide +kernel
theorem dL_law_267 : decode cL_law 267 = .ok (.iload_n 3, 1) := by decide +kernel
theorem dL_law_268 : decode cL_law 268 = .ok (.iconst 2, 1) := by decide +kernel
theorem dL_law_269 : decode cL_law 269 = .ok (.iadd, 1) := by decide +kernel
theorem dL_law_270 : decode cL_law 270 = .ok (.iaload, 1) := by decide +kernel
theorem dL_law_271 : decode cL_law 271 = .ok (.invokevirtual 43, 3) := by decide +kernel
theorem dL_law_274 : decode cL_law 274 = .ok (.if_icmp .eq 374, 3) := by decide +kernel
theorem dL_law_277 : decode cL_law 277 = .ok (.iconst 0, 1) := by decide +kernel
theorem dL_law_278 : decode cL_law 278 = .ok (.ireturn, 1) := by decide +kernel
theorem dL_law_279 : decode cL_law 279 = .ok (.aload_n 1, 1) := by decide +kernel
theorem dL_law_280 : decode cL_law 280 = .ok (.aload_n 0, 1) := by decide +kernel
theorem dL_law_281 : decode cL_law 281 = .ok (.iload_n 3, 1) := by decide +kernel
theorem dL_law_282 : decode cL_law 282 = .ok (.iconst 1, 1) := by decide +kernel
theorem dL_law_283 : decode cL_law 283 = .ok (.iadd, 1) := by decide +kernel
theorem dL_law_284 : decode cL_law 284 = .ok (.iaload, 1) := by decide +kernel
theorem dL_law_285 : decode cL_law 285 = .ok (.aload_n 0, 1) := by decide +kernel
theorem dL_law_286 : decode cL_law 286 = .ok (.iload_n 3, 1) := by decide +kernel
theorem dL_law_287 : decode cL_law 287 = .ok (.iconst 2, 1) := by decide +kernel
theorem dL_law_288 : decode cL_law 288 = .ok (.iadd, 1) := by decide +kernel
theorem dL_law_289 : decode cL_law 289 = .ok (.iaload, 1) := by decide +kernel
theorem dL_law_290 : decode cL_law 290 = .ok (.aload_n 0, 1) := by decide +kernel
theorem dL_law_291 : decode cL_law 291 = .ok (.iload_n 3, 1) := by decide +kernel
theorem dL_law_292 : decode cL_law 292 = .ok (.iconst 3, 1) := by decide +kernel
theorem dL_law_293 : decode cL_law 293 = .ok (.iadd, 1) := by decide +kernel
theorem dL_law_294 : decode cL_law 294 = .ok (.iaload, 1) := by decide +kernel
theorem dL_law_295 : decode cL_law 295 = .ok (.invokevirtual 44, 3) := by decide +kernel
theorem dL_law_298 : decode cL_law 298 = .ok (.aload_n 2, 1) := by decide +kernel
theorem dL_law_299 : decode cL_law 299 = .ok (.aload_n 0, 1) := by decide +kernel
theorem dL_law_300 : decode cL_law 300 = .ok (.iload_n 3, 1) := by decide +kernel
theorem dL_law_301 : decode cL_law 301 = .ok (.iconst 1, 1) := by decide +kernel
theorem dL_law_302 : decode cL_law 302 = .ok (.iadd, 1) := by decide +kernel
theorem dL_law_303 : decode cL_law 303 = .ok (.iaload, 1) := by decide +kernel
theorem dL_law_304 : decode cL_law 304 = .ok (.aload_n 0, 1) := by decide +kernel
theorem dL_law_305 : decode cL_law 305 = .ok (.iload_n 3, 1) := by decide +kernel
theorem dL_law_306 : decode cL_law 306 = .ok (.iconst 2, 1) := by decide +kernel
theorem dL_law_307 : decode cL_law 307 = .ok (.iadd, 1) := by decide +kernel
theorem dL_law_308 : decode cL_law 308 = .ok (.iaload, 1) := by decide +kernel
theorem dL_law_309 : decode cL_law 309 = .ok (.aload_n 0, 1) := by decide +kernel
theorem dL_law_310 : decode cL_law 310 = .ok (.iload_n 3, 1) := by decide +kernel
theorem dL_law_311 : decode cL_law 311 = .ok (.iconst 3, 1) := by decide +kernel
theorem dL_law_312 : decode cL_law 312 = .ok (.iadd, 1) := by decide +kernel
theorem dL_law_313 : decode cL_law 313 = .ok (.iaload, 1) := by decide +kernel
theorem dL_law_314 : decode cL_law 314 = .ok (.invokevirtual 48, 3) := by decide +kernel
theorem dL_law_317 : decode cL_law 317 = .ok (.if_icmp .eq 331, 3) := by decide +kernel
theorem dL_law_320 : decode cL_law 320 = .ok (.iconst 0, 1) := by decide +kernel
theorem dL_law_321 : decode cL_law 321 = .ok (.ireturn, 1) := by decide +kernel
theorem dL_law_322 : decode cL_law 322 = .ok (.aload_n 1, 1) := by decide +kernel
theorem dL_law_323 : decode cL_law 323 = .ok (.aload_n 0, 1) := by decide +kernel
theorem dL_law_324 : decode cL_law 324 = .ok (.iload_n 3, 1) := by decide +kernel
theorem dL_law_325 : decode cL_law 325 = .ok (.iconst 1, 1) := by decide +kernel
theorem dL_law_326 : decode cL_law 326 = .ok (.iadd, 1) := by decide +kernel
theorem dL_law_327 : decode cL_law 327 = .ok (.iaload, 1) := by decide +kernel
theorem dL_law_328 : decode cL_law 328 = .ok (.aload_n 0, 1) := by decide +kernel
theorem dL_law_329 : decode cL_law 329 = .ok (.iload_n 3, 1) := by decide +kernel
theorem dL_law_330 : decode cL_law 330 = .ok (.iconst 2, 1) := by decide +kernel
theorem dL_law_331 : decode cL_law 331 = .ok (.iadd, 1) := by decide +kernel
theorem dL_law_332 : decode cL_law 332 = .ok (.iaload, 1) := by decide +kernel
theorem dL_law_333 : decode cL_law 333 = .ok (.invokevirtual 49, 3) := by decide +kernel
theorem dL_law_336 : decode cL_law 336 = .ok (.aload_n 2, 1) := by decide +kernel
theorem dL_law_337 : decode cL_law 337 = .ok (.aload_n 0, 1) := by decide +kernel
theorem dL_law_338 : decode cL_law 338 = .ok (.iload_n 3, 1) := by decide +kernel
theorem dL_law_339 : decode cL_law 339 = .ok (.iconst 1, 1) := by decide +kernel
theorem dL_law_340 : decode cL_law 340 = .ok (.iadd, 1) := by decide +kernel
theorem dL_law_341 : decode cL_law 341 = .ok (.iaload, 1) := by decide +kernel
theorem dL_law_342 : decode cL_law 342 = .ok (.aload_n 0, 1) := by decide +kernel
theorem dL_law_343 : decode cL_law 343 = .ok (.iload_n 3, 1) := by decide +kernel
theorem dL_law_344 : decode cL_law 344 = .ok (.iconst 2, 1) := by decide +kernel
theorem dL_law_345 : decode cL_law 345 = .ok (.iadd, 1) := by decide +kernel
theorem dL_law_346 : decode cL_law 346 = .ok (.iaload, 1) := by decide +kernel
theorem dL_law_347 : decode cL_law 347 = .ok (.invokevirtual 52, 3) := by decide +kernel
theorem dL_law_350 : decode cL_law 350 = .ok (.if_icmp .eq 298, 3) := by decide +kernel
theorem dL_law_353 : decode cL_law 353 = .ok (.iconst 0, 1) := by decide +kernel
theorem dL_law_354 : decode cL_law 354 = .ok (.ireturn, 1) := by decide +kernel
theorem dL_law_355 : decode cL_law 355 = .ok (.aload_n 1, 1) := by decide +kernel
theorem dL_law_356 : decode cL_law 356 = .ok (.aload_n 0, 1) := by decide +kernel
theorem dL_law_357 : decode cL_law 357 = .ok (.iload_n 3, 1) := by decide +kernel
theorem dL_law_358 : decode cL_law 358 = .ok (.iconst 1, 1) := by decide +kernel
theorem dL_law_359 : decode cL_law 359 = .ok (.iadd, 1) := by decide +kernel
theorem dL_law_360 : decode cL_law 360 = .ok (.iaload, 1) := by decide +kernel
theorem dL_law_361 : decode cL_law 361 = .ok (.aload_n 0, 1) := by decide +kernel
theorem dL_law_362 : decode cL_law 362 = .ok (.iload_n 3, 1) := by decide +kernel
theorem dL_law_363 : decode cL_law 363 = .ok (.iconst 2, 1) := by decide +kernel
theorem dL_law_364 : decode cL_law 364 = .ok (.iadd, 1) := by decide +kernel
theorem dL_law_365 : decode cL_law 365 = .ok (.iaload, 1) := by decide +kernel
theorem dL_law_366 : decode cL_law 366 = .ok (.invokevirtual 53, 3) := by decide +kernel
theorem dL_law_369 : decode cL_law 369 = .ok (.aload_n 2, 1) := by decide +kernel
theorem dL_law_370 : decode cL_law 370 = .ok (.aload_n 0, 1) := by decide +kernel
theorem dL_law_371 : decode cL_law 371 = .ok (.iload_n 3, 1) := by decide +kernel
theorem dL_law_372 : decode cL_law 372 = .ok (.iconst 1, 1) := by decide +kernel
theorem dL_law_373 : decode cL_law 373 = .ok (.iadd, 1) := by decide +kernel
theorem dL_law_374 : decode cL_law 374 = .ok (.iaload, 1) := by decide +kernel
theorem dL_law_375 : decode cL_law 375 = .ok (.aload_n 0, 1) := by decide +kernel
theorem dL_law_376 : decode cL_law 376 = .ok (.iload_n 3, 1) := by decide +kernel
theorem dL_law_377 : decode cL_law 377 = .ok (.iconst 2, 1) := by decide +kernel
theorem dL_law_378 : decode cL_law 378 = .ok (.iadd, 1) := by decide +kernel
theorem dL_law_379 : decode cL_law 379 = .ok (.iaload, 1) := by decide +kernel
theorem dL_law_380 : decode cL_law 380 = .ok (.invokevirtual 56, 3) := by decide +kernel
theorem dL_law_383 : decode cL_law 383 = .ok (.if_icmp .eq 265, 3) := by decide +kernel
theorem dL_law_386 : decode cL_law 386 = .ok (.iconst 0, 1) := by decide +kernel
theorem dL_law_387 : decode cL_law 387 = .ok (.ireturn, 1) := by decide +kernel
theorem dL_law_388 : decode cL_law 388 = .ok (.aload_n 1, 1) := by decide +kernel
theorem dL_law_389 : decode cL_law 389 = .ok (.aload_n 0, 1) := by decide +kernel
theorem dL_law_390 : decode cL_law 390 = .ok (.iload_n 3, 1) := by decide +kernel
theorem dL_law_391 : decode cL_law 391 = .ok (.iconst 1, 1) := by decide +kernel
theorem dL_law_392 : decode cL_law 392 = .ok (.iadd, 1) := by decide +kernel
theorem dL_law_393 : decode cL_law 393 = .ok (.iaload, 1) := by decide +kernel
theorem dL_law_394 : decode cL_law 394 = .ok (.aload_n 0, 1) := by decide +kernel
theorem dL_law_395 : decode cL_law 395 = .ok (.iload_n 3, 1) := by decide +kernel
theorem dL_law_396 : decode cL_law 396 = .ok (.iconst 2, 1) := by decide +kernel
theorem dL_law_397 : decode cL_law 397 = .ok (.iadd, 1) := by decide +kernel
theorem dL_law_398 : decode cL_law 398 = .ok (.iaload, 1) := by decide +kernel
theorem dL_law_399 : decode cL_law 399 = .ok (.invokevirtual 57, 3) := by decide +kernel
theorem dL_law_402 : decode cL_law 402 = .ok (.aload_n 2, 1) := by decide +kernel
theorem dL_law_403 : decode cL_law 403 = .ok (.aload_n 0, 1) := by decide +kernel
theorem dL_law_404 : decode cL_law 404 = .ok (.iload_n 3, 1) := by decide +kernel
theorem dL_law_405 : decode cL_law 405 = .ok (.iconst 1, 1) := by decide +kernel
theorem dL_law_406 : decode cL_law 406 = .ok (.iadd, 1) := by decide +kernel
theorem dL_law_407 : decode cL_law 407 = .ok (.iaload, 1) := by decide +kernel
theorem dL_law_408 : decode cL_law 408 = .ok (.aload_n 0, 1) := by decide +kernel
theorem dL_law_409 : decode cL_law 409 = .ok (.iload_n 3, 1) := by decide +kernel
theorem dL_law_410 : decode cL_law 410 = .ok (.iconst 2, 1) := by decide +kernel
theorem dL_law_411 : decode cL_law 411 = .ok (.iadd, 1) := by decide +kernel
theorem dL_law_412 : decode cL_law 412 = .ok (.iaload, 1) := by decide +kernel
theorem dL_law_413 : decode cL_law 413 = .ok (.invokevirtual 60, 3) := by decide +kernel
theorem dL_law_416 : decode cL_law 416 = .ok (.if_icmp .eq 232, 3) := by decide +kernel
theorem dL_law_419 : decode cL_law 419 = .ok (.iconst 0, 1) := by decide +kernel
theorem dL_law_420 : decode cL_law 420 = .ok (.ireturn, 1) := by decide +kernel
theorem dL_law_421 : decode cL_law 421 = .ok (.aload_n 1, 1) := by decide +kernel
theorem dL_law_422 : decode cL_law 422 = .ok (.aload_n 0, 1) := by decide +kernel
theorem dL_law_423 : decode cL_law 423 = .ok (.iload_n 3, 1) := by decide +kernel
theorem dL_law_424 : decode cL_law 424 = .ok (.iconst 1, 1) := by decide +kernel
theorem dL_law_425 : decode cL_law 425 = .ok (.iadd, 1) := by decide +kernel
theorem dL_law_426 : decode cL_law 426 = .ok (.iaload, 1) := by decide +kernel
theorem dL_law_427 : decode cL_law 427 = .ok (.aload_n 0, 1) := by decide +kernel
theorem dL_law_428 : decode cL_law 428 = .ok (.iload_n 3, 1) := by decide +kernel
theorem dL_law_429 : decode cL_law 429 = .ok (.iconst 2, 1) := by decide +kernel
theorem dL_law_430 : decode cL_law 430 = .ok (.iadd, 1) := by decide +kernel
theorem dL_law_431 : decode cL_law 431 = .ok (.iaload, 1) := by decide +kernel
theorem dL_law_432 : decode cL_law 432 = .ok (.aload_n 0, 1) := by decide +kernel
theorem dL_law_433 : decode cL_law 433 = .ok (.iload_n 3, 1) := by decide +kernel
theorem dL_law_434 : decode cL_law 434 = .ok (.iconst 3, 1) := by decide +kernel
theorem dL_law_435 : decode cL_law 435 = .ok (.iadd, 1) := by decide +kernel
theorem dL_law_436 : decode cL_law 436 = .ok (.iaload, 1) := by decide +kernel
theorem dL_law_437 : decode cL_law 437 = .ok (.invokevirtual 61, 3) := by decide +kernel
theorem dL_law_440 : decode cL_law 440 = .ok (.aload_n 2, 1) := by decide +kernel
theorem dL_law_441 : decode cL_law 441 = .ok (.aload_n 0, 1) := by decide +kernel
theorem dL_law_442 : decode cL_law 442 = .ok (.iload_n 3, 1) := by decide +kernel
theorem dL_law_443 : decode cL_law 443 = .ok (.iconst 1, 1) := by decide +kernel
theorem dL_law_444 : decode cL_law 444 = .ok (.iadd, 1) := by decide +kernel
theorem dL_law_445 : decode cL_law 445 = .ok (.iaload, 1) := by decide +kernel
theorem dL_law_446 : decode cL_law 446 = .ok (.aload_n 0, 1) := by decide +kernel
theorem dL_law_447 : decode cL_law 447 = .ok (.iload_n 3, 1) := by decide +kernel
theorem dL_law_448 : decode cL_law 448 = .ok (.iconst 2, 1) := by decide +kernel
theorem dL_law_449 : decode cL_law 449 = .ok (.iadd, 1) := by decide +kernel
theorem dL_law_450 : decode cL_law 450 = .ok (.iaload, 1) := by decide +kernel
theorem dL_law_451 : decode cL_law 451 = .ok (.aload_n 0, 1) := by decide +kernel
theorem dL_law_452 : decode cL_law 452 = .ok (.iload_n 3, 1) := by decide +kernel
theorem dL_law_453 : decode cL_law 453 = .ok (.iconst 3, 1) := by decide +kernel
theorem dL_law_454 : decode cL_law 454 = .ok (.iadd, 1) := by decide +kernel
theorem dL_law_455 : decode cL_law 455 = .ok (.iaload, 1) := by decide +kernel
theorem dL_law_456 : decode cL_law 456 = .ok (.invokevirtual 64, 3) := by decide +kernel
theorem dL_law_459 : decode cL_law 459 = .ok (.if_icmp .eq 189, 3) := by decide +kernel
theorem dL_law_462 : decode cL_law 462 = .ok (.iconst 0, 1) := by decide +kernel
theorem dL_law_463 : decode cL_law 463 = .ok (.ireturn, 1) := by decide +kernel
theorem dL_law_464 : decode cL_law 464 = .ok (.aload_n 1, 1) := by decide +kernel
theorem dL_law_465 : decode cL_law 465 = .ok (.aload_n 0, 1) := by decide +kernel
theorem dL_law_466 : decode cL_law 466 = .ok (.iload_n 3, 1) := by decide +kernel
theorem dL_law_467 : decode cL_law 467 = .ok (.iconst 1, 1) := by decide +kernel
theorem dL_law_468 : decode cL_law 468 = .ok (.iadd, 1) := by decide +kernel
theorem dL_law_469 : decode cL_law 469 = .ok (.iaload, 1) := by decide +kernel
theorem dL_law_470 : decode cL_law 470 = .ok (.invokevirtual 65, 3) := by decide +kernel
theorem dL_law_473 : decode cL_law 473 = .ok (.aload_n 2, 1) := by decide +kernel
theorem dL_law_474 : decode cL_law 474 = .ok (.aload_n 0, 1) := by decide +kernel
theorem dL_law_475 : decode cL_law 475 = .ok (.iload_n 3, 1) := by decide +kernel
theorem dL_law_476 : decode cL_law 476 = .ok (.iconst 1, 1) := by decide +kernel
theorem dL_law_477 : decode cL_law 477 = .ok (.iadd, 1) := by decide +kernel
theorem dL_law_478 : decode cL_law 478 = .ok (.iaload, 1) := by decide +kernel
theorem dL_law_479 : decode cL_law 479 = .ok (.invokevirtual 68, 3) := by decide +kernel
theorem dL_law_482 : decode cL_law 482 = .ok (.if_icmp .eq 166, 3) := by decide +kernel
theorem dL_law_485 : decode cL_law 485 = .ok (.iconst 0, 1) := by decide +kernel
theorem dL_law_486 : decode cL_law 486 = .ok (.ireturn, 1) := by decide +kernel
theorem dL_law_487 : decode cL_law 487 = .ok (.aload_n 1, 1) := by decide +kernel
theorem dL_law_488 : decode cL_law 488 = .ok (.aload_n 0, 1) := by decide +kernel
theorem dL_law_489 : decode cL_law 489 = .ok (.iload_n 3, 1) := by decide +kernel
theorem dL_law_490 : decode cL_law 490 = .ok (.iconst 1, 1) := by decide +kernel
theorem dL_law_491 : decode cL_law 491 = .ok (.iadd, 1) := by decide +kernel
theorem dL_law_492 : decode cL_law 492 = .ok (.iaload, 1) := by decide +kernel
theorem dL_law_493 : decode cL_law 493 = .ok (.aload_n 0, 1) := by decide +kernel
theorem dL_law_494 : decode cL_law 494 = .ok (.iload_n 3, 1) := by decide +kernel
theorem dL_law_495 : decode cL_law 495 = .ok (.iconst 2, 1) := by decide +kernel
theorem dL_law_496 : decode cL_law 496 = .ok (.iadd, 1) := by decide +kernel
theorem dL_law_497 : decode cL_law 497 = .ok (.iaload, 1) := by decide +kernel
theorem dL_law_498 : decode cL_law 498 = .ok (.invokevirtual 69, 3) := by decide +kernel
theorem dL_law_501 : decode cL_law 501 = .ok (.aload_n 2, 1) := by decide +kernel
theorem dL_law_502 : decode cL_law 502 = .ok (.aload_n 0, 1) := by decide +kernel
theorem dL_law_503 : decode cL_law 503 = .ok (.iload_n 3, 1) := by decide +kernel
theorem dL_law_504 : decode cL_law 504 = .ok (.iconst 1, 1) := by decide +kernel
theorem dL_law_505 : decode cL_law 505 = .ok (.iadd, 1) := by decide +kernel
theorem dL_law_506 : decode cL_law 506 = .ok (.iaload, 1) := by decide +kernel
theorem dL_law_507 : decode cL_law 507 = .ok (.aload_n 0, 1) := by decide +kernel
theorem dL_law_508 : decode cL_law 508 = .ok (.iload_n 3, 1) := by decide +kernel
theorem dL_law_509 : decode cL_law 509 = .ok (.iconst 2, 1) := by decide +kernel
theorem dL_law_510 : decode cL_law 510 = .ok (.iadd, 1) := by decide +kernel
theorem dL_law_511 : decode cL_law 511 = .ok (.iaload, 1) := by decide +kernel
theorem dL_law_512 : decode cL_law 512 = .ok (.invokevirtual 72, 3) := by decide +kernel
theorem dL_law_515 : decode cL_law 515 = .ok (.if_icmp .eq 133, 3) := by decide +kernel
theorem dL_law_518 : decode cL_law 518 = .ok (.iconst 0, 1) := by decide +kernel
theorem dL_law_519 : decode cL_law 519 = .ok (.ireturn, 1) := by decide +kernel
theorem dL_law_520 : decode cL_law 520 = .ok (.aload_n 1, 1) := by decide +kernel
theorem dL_law_521 : decode cL_law 521 = .ok (.aload_n 0, 1) := by decide +kernel
theorem dL_law_522 : decode cL_law 522 = .ok (.iload_n 3, 1) := by decide +kernel
theorem dL_law_523 : decode cL_law 523 = .ok (.iconst 1, 1) := by decide +kernel
theorem dL_law_524 : decode cL_law 524 = .ok (.iadd, 1) := by decide +kernel
theorem dL_law_525 : decode cL_law 525 = .ok (.iaload, 1) := by decide +kernel
theorem dL_law_526 : decode cL_law 526 = .ok (.invokevirtual 73, 3) := by decide +kernel
theorem dL_law_529 : decode cL_law 529 = .ok (.aload_n 2, 1) := by decide +kernel
theorem dL_law_530 : decode cL_law 530 = .ok (.aload_n 0, 1) := by decide +kernel
theorem dL_law_531 : decode cL_law 531 = .ok (.iload_n 3, 1) := by decide +kernel
theorem dL_law_532 : decode cL_law 532 = .ok (.iconst 1, 1) := by decide +kernel
theorem dL_law_533 : decode cL_law 533 = .ok (.iadd, 1) := by decide +kernel
theorem dL_law_534 : decode cL_law 534 = .ok (.iaload, 1) := by decide +kernel
theorem dL_law_535 : decode cL_law 535 = .ok (.invokevirtual 76, 3) := by decide +kernel
theorem dL_law_538 : decode cL_law 538 = .ok (.if_icmp .eq 110, 3) := by decide +kernel
theorem dL_law_541 : decode cL_law 541 = .ok (.iconst 0, 1) := by decide +kernel
theorem dL_law_542 : decode cL_law 542 = .ok (.ireturn, 1) := by decide +kernel
theorem dL_law_543 : decode cL_law 543 = .ok (.aload_n 1, 1) := by decide +kernel
theorem dL_law_544 : decode cL_law 544 = .ok (.invokevirtual 77, 3) := by decide +kernel
theorem dL_law_547 : decode cL_law 547 = .ok (.aload_n 2, 1) := by decide +kernel
theorem dL_law_548 : decode cL_law 548 = .ok (.invokevirtual 80, 3) := by decide +kernel
theorem dL_law_551 : decode cL_law 551 = .ok (.if_icmp .eq 97, 3) := by decide +kernel
theorem dL_law_554 : decode cL_law 554 = .ok (.iconst 0, 1) := by decide +kernel
theorem dL_law_555 : decode cL_law 555 = .ok (.ireturn, 1) := by decide +kernel
theorem dL_law_556 : decode cL_law 556 = .ok (.aload_n 1, 1) := by decide +kernel
theorem dL_law_557 : decode cL_law 557 = .ok (.invokevirtual 81, 3) := by decide +kernel
theorem dL_law_560 : decode cL_law 560 = .ok (.aload_n 2, 1) := by decide +kernel
theorem dL_law_561 : decode cL_law 561 = .ok (.invokevirtual 84, 3) := by decide +kernel
theorem dL_law_564 : decode cL_law 564 = .ok (.if_icmp .eq 84, 3) := by decide +kernel
theorem dL_law_567 : decode cL_law 567 = .ok (.iconst 0, 1) := by decide +kernel
theorem dL_law_568 : decode cL_law 568 = .ok (.ireturn, 1) := by decide +kernel
theorem dL_law_569 : decode cL_law 569 = .ok (.aload_n 1, 1) := by decide +kernel
theorem dL_law_570 : decode cL_law 570 = .ok (.aload_n 0, 1) := by decide +kernel
theorem dL_law_571 : decode cL_law 571 = .ok (.iload_n 3, 1) := by decide +kernel
theorem dL_law_572 : decode cL_law 572 = .ok (.iconst 1, 1) := by decide +kernel
theorem dL_law_573 : decode cL_law 573 = .ok (.iadd, 1) := by decide +kernel
theorem dL_law_574 : decode cL_law 574 = .ok (.iaload, 1) := by decide +kernel
theorem dL_law_575 : decode cL_law 575 = .ok (.invokevirtual 85, 3) := by decide +kernel
theorem dL_law_578 : decode cL_law 578 = .ok (.aload_n 2, 1) := by decide +kernel
theorem dL_law_579 : decode cL_law 579 = .ok (.aload_n 0, 1) := by decide +kernel
theorem dL_law_580 : decode cL_law 580 = .ok (.iload_n 3, 1) := by decide +kernel
theorem dL_law_581 : decode cL_law 581 = .ok (.iconst 1, 1) := by decide +kernel
theorem dL_law_582 : decode cL_law 582 = .ok (.iadd, 1) := by decide +kernel
theorem dL_law_583 : decode cL_law 583 = .ok (.iaload, 1) := by decide +kernel
theorem dL_law_584 : decode cL_law 584 = .ok (.invokevirtual 88, 3) := by decide +kernel
theorem dL_law_587 : decode cL_law 587 = .ok (.if_icmp .eq 61, 3) := by decide +kernel
theorem dL_law_590 : decode cL_law 590 = .ok (.iconst 0, 1) := by decide +kernel
theorem dL_law_591 : decode cL_law 591 = .ok (.ireturn, 1) := by decide +kernel
theorem dL_law_592 : decode cL_law 592 = .ok (.aload_n 1, 1) := by decide +kernel
theorem dL_law_593 : decode cL_law 593 = .ok (.aload_n 0, 1) := by decide +kernel
theorem dL_law_594 : decode cL_law 594 = .ok (.iload_n 3, 1) := by decide +kernel
theorem dL_law_595 : decode cL_law 595 = .ok (.iconst 1, 1) := by decide +kernel
theorem dL_law_596 : decode cL_law 596 = .ok (.iadd, 1) := by decide +kernel
theorem dL_law_597 : decode cL_law 597 = .ok (.iaload, 1) := by decide +kernel
theorem dL_law_598 : decode cL_law 598 = .ok (.aload_n 0, 1) := by decide +kernel
theorem dL_law_599 : decode cL_law 599 = .ok (.iload_n 3, 1) := by decide +kernel
theorem dL_law_600 : decode cL_law 600 = .ok (.iconst 2, 1) := by decide +kernel
theorem dL_law_601 : decode cL_law 601 = .ok (.iadd, 1) := by decide +kernel
theorem dL_law_602 : decode cL_law 602 = .ok (.iaload, 1) := by decide +kernel
theorem dL_law_603 : decode cL_law 603 = .ok (.invokevirtual 89, 3) := by decide +kernel
theorem dL_law_606 : decode cL_law 606 = .ok (.aload_n 2, 1) := by decide +kernel
theorem dL_law_607 : decode cL_law 607 = .ok (.aload_n 0, 1) := by decide +kernel
theorem dL_law_608 : decode cL_law 608 = .ok (.iload_n 3, 1) := by decide +kernel
theorem dL_law_609 : decode cL_law 609 = .ok (.iconst 1, 1) := by decide +kernel
theorem dL_law_610 : decode cL_law 610 = .ok (.iadd, 1) := by decide +kernel
theorem dL_law_611 : decode cL_law 611 = .ok (.iaload, 1) := by decide +kernel
theorem dL_law_612 : decode cL_law 612 = .ok (.aload_n 0, 1) := by decide +kernel
theorem dL_law_613 : decode cL_law 613 = .ok (.iload_n 3, 1) := by decide +kernel
theorem dL_law_614 : decode cL_law 614 = .ok (.iconst 2, 1) := by decide +kernel
theorem dL_law_615 : decode cL_law 615 = .ok (.iadd, 1) := by decide +kernel
theorem dL_law_616 : decode cL_law 616 = .ok (.iaload, 1) := by decide +kernel
theorem dL_law_617 : decode cL_law 617 = .ok (.invokevirtual 92, 3) := by decide +kernel
theorem dL_law_620 : decode cL_law 620 = .ok (.if_icmp .eq 28, 3) := by decide +kernel
theorem dL_law_623 : decode cL_law 623 = .ok (.iconst 0, 1) := by decide +kernel
theorem dL_law_624 : decode cL_law 624 = .ok (.ireturn, 1) := by decide +kernel
theorem dL_law_625 : decode cL_law 625 = .ok (.aload_n 1, 1) := by decide +kernel
theorem dL_law_626 : decode cL_law 626 = .ok (.aload_n 0, 1) := by decide +kernel
theorem dL_law_627 : decode cL_law 627 = .ok (.iload_n 3, 1) := by decide +kernel
theorem dL_law_628 : decode cL_law 628 = .ok (.iconst 1, 1) := by decide +kernel
theorem dL_law_629 : decode cL_law 629 = .ok (.iadd, 1) := by decide +kernel
theorem dL_law_630 : decode cL_law 630 = .ok (.iaload, 1) := by decide +kernel
theorem dL_law_631 : decode cL_law 631 = .ok (.invokevirtual 93, 3) := by decide +kernel
theorem dL_law_634 : decode cL_law 634 = .ok (.aload_n 2, 1) := by decide +kernel
theorem dL_law_635 : decode cL_law 635 = .ok (.aload_n 0, 1) := by decide +kernel
theorem dL_law_636 : decode cL_law 636 = .ok (.iload_n 3, 1) := by decide +kernel
theorem dL_law_637 : decode cL_law 637 = .ok (.iconst 1, 1) := by decide +kernel
theorem dL_law_638 : decode cL_law 638 = .ok (.iadd, 1) := by decide +kernel
theorem dL_law_639 : decode cL_law 639 = .ok (.iaload, 1) := by decide +kernel
theorem dL_law_640 : decode cL_law 640 = .ok (.invokevirtual 96, 3) := by decide +kernel
theorem dL_law_643 : decode cL_law 643 = .ok (.if_icmp .eq 5, 3) := by decide +kernel
theorem dL_law_646 : decode cL_law 646 = .ok (.iconst 0, 1) := by decide +kernel
theorem dL_law_647 : decode cL_law 647 = .ok (.ireturn, 1) := by decide +kernel
theorem dL_law_648 : decode cL_law 648 = .ok (.iinc 3 4, 3) := by decide +kernel
theorem dL_law_651 : decode cL_law 651 = .ok (.goto (-633), 3) := by decide +kernel
theorem dL_law_654 : decode cL_law 654 = .ok (.iconst 1, 1) := by decide +kernel
theorem dL_law_655 : decode cL_law 655 = .ok (.ireturn, 1) := by decide +kernel
theorem dX0_init_0 : decode cX0_init 0 = .ok (.aload_n 0, 1) := by decide +kernel
theorem dX0_init_1 : decode cX0_init 1 = .ok (.invokespecial 3, 3) := by decide +kernel
theorem dX0_init_4 : decode cX0_init 4 = .ok (.aload_n 0, 1) := by decide +kernel
theorem dX0_init_5 : decode cX0_init 5 = .ok (.sipush 150, 3) := by decide +kernel
theorem dX0_init_8 : decode cX0_init 8 = .ok (.newarray .int, 2) := by decide +kernel
theorem dX0_init_10 : decode cX0_init 10 = .ok (.putfield 9, 3) := by decide +kernel
theorem dX0_init_13 : decode cX0_init 13 = .ok (.aload_n 0, 1) := by decide +kernel
theorem dX0_init_14 : decode cX0_init 14 = .ok (.sipush 150, 3) := by decide +kernel
theorem dX0_init_17 : decode cX0_init 17 = .ok (.newarray .int, 2) := by decide +kernel
theorem dX0_init_19 : decode cX0_init 19 = .ok (.putfield 15, 3) := by decide +kernel
theorem dX0_init_22 : decode cX0_init 22 = .ok (.aload_n 0, 1) := by decide +kernel
theorem dX0_init_23 : decode cX0_init 23 = .ok (.sipush 150, 3) := by decide +kernel
theorem dX0_init_26 : decode cX0_init 26 = .ok (.newarray .int, 2) := by decide +kernel
theorem dX0_init_28 : decode cX0_init 28 = .ok (.putfield 18, 3) := by decide +kernel
theorem dX0_init_31 : decode cX0_init 31 = .ok (.aload_n 0, 1) := by decide +kernel
theorem dX0_init_32 : decode cX0_init 32 = .ok (.sipush 150, 3) := by decide +kernel
theorem dX0_init_35 : decode cX0_init 35 = .ok (.newarray .int, 2) := by decide +kernel
theorem dX0_init_37 : decode cX0_init 37 = .ok (.putfield 21, 3) := by decide +kernel
theorem dX0_init_40 : decode cX0_init 40 = .ok (.aload_n 0, 1) := by decide +kernel
theorem dX0_init_41 : decode cX0_init 41 = .ok (.iconst 0, 1) := by decide +kernel
theorem dX0_init_42 : decode cX0_init 42 = .ok (.putfield 24, 3) := by decide +kernel
theorem dX0_init_45 : decode cX0_init 45 = .ok (.aload_n 0, 1) := by decide +kernel
theorem dX0_init_46 : decode cX0_init 46 = .ok (.iconst 0, 1) := by decide +kernel
theorem dX0_init_47 : decode cX0_init 47 = .ok (.putfield 28, 3) := by decide +kernel
theorem dX0_init_50 : decode cX0_init 50 = .ok (.return_, 1) := by decide +kernel
theorem dX0_spread_0 : decode cX0_spread 0 = .ok (.aload_n 0, 1) := by decide +kernel
theorem dX0_spread_1 : decode cX0_spread 1 = .ok (.getfield 9, 3) := by decide +kernel
theorem dX0_spread_4 : decode cX0_spread 4 = .ok (.bipush (-9), 2) := by decide +kernel
theorem dX0_spread_6 : decode cX0_spread 6 = .ok (.invokestatic 31, 3) := by decide +kernel
theorem dX0_spread_9 : decode cX0_spread 9 = .ok (.aload_n 0, 1) := by decide +kernel
theorem dX0_spread_10 : decode cX0_spread 10 = .ok (.iconst 0, 1) := by decide +kernel
theorem dX0_spread_11 : decode cX0_spread 11 = .ok (.putfield 24, 3) := by decide +kernel
theorem dX0_spread_14 : decode cX0_spread 14 = .ok (.aload_n 0, 1) := by decide +kernel
theorem dX0_spread_15 : decode cX0_spread 15 = .ok (.iconst 0, 1) := by decide +kernel
theorem dX0_spread_16 : decode cX0_spread 16 = .ok (.putfield 28, 3) := by decide +kernel
theorem dX0_spread_19 : decode cX0_spread 19 = .ok (.aload_n 1, 1) := by decide +kernel
theorem dX0_spread_20 : decode cX0_spread 20 = .ok (.iconst 0, 1) := by decide +kernel
theorem dX0_spread_21 : decode cX0_spread 21 = .ok (.invokevirtual 37, 3) := by decide +kernel
theorem dX0_spread_24 : decode cX0_spread 24 = .ok (.ifCond .eq 11, 3) := by decide +kernel
theorem dX0_spread_27 : decode cX0_spread 27 = .ok (.aload_n 2, 1) := by decide +kernel
theorem dX0_spread_28 : decode cX0_spread 28 = .ok (.iconst 0, 1) := by decide +kernel
theorem dX0_spread_29 : decode cX0_spread 29 = .ok (.invokevirtual 43, 3) := by decide +kernel
theorem dX0_spread_32 : decode cX0_spread 32 = .ok (.ifCond .eq 4, 3) := by decide +kernel
theorem dX0_spread_35 : decode cX0_spread 35 = .ok (.return_, 1) := by decide +kernel
theorem dX0_spread_36 : decode cX0_spread 36 = .ok (.aload_n 0, 1) := by decide +kernel
theorem dX0_spread_37 : decode cX0_spread 37 = .ok (.iconst 0, 1) := by decide +kernel
theorem dX0_spread_38 : decode cX0_spread 38 = .ok (.bipush (-9), 2) := by decide +kernel
theorem dX0_spread_40 : decode cX0_spread 40 = .ok (.iconst 0, 1) := by decide +kernel
theorem dX0_spread_41 : decode cX0_spread 41 = .ok (.invokevirtual 48, 3) := by decide +kernel
theorem dX0_spread_44 : decode cX0_spread 44 = .ok (.iconst 0, 1) := by decide +kernel
theorem dX0_spread_45 : decode cX0_spread 45 = .ok (.istore_n 3, 1) := by decide +kernel
theorem dX0_spread_46 : decode cX0_spread 46 = .ok (.iload_n 3, 1) := by decide +kernel
theorem dX0_spread_47 : decode cX0_spread 47 = .ok (.aload_n 0, 1) := by decide +kernel
theorem dX0_spread_48 : decode cX0_spread 48 = .ok (.getfield 24, 3) := by decide +kernel
theorem dX0_spread_51 : decode cX0_spread 51 = .ok (.if_icmp .ge 28, 3) := by decide +kernel
theorem dX0_spread_54 : decode cX0_spread 54 = .ok (.iload_n 3, 1) := by decide +kernel
theorem dX0_spread_55 : decode cX0_spread 55 = .ok (.sipush 150, 3) := by decide +kernel
theorem dX0_spread_58 : decode cX0_spread 58 = .ok (.if_icmp .ge 21, 3) := by decide +kernel
theorem dX0_spread_61 : decode cX0_spread 61 = .ok (.aload_n 0, 1) := by decide +kernel
theorem dX0_spread_62 : decode cX0_spread 62 = .ok (.aload_n 0, 1) := by decide +kernel
theorem dX0_spread_63 : decode cX0_spread 63 = .ok (.getfield 21, 3) := by decide +kernel
theorem dX0_spread_66 : decode cX0_spread 66 = .ok (.iload_n 3, 1) := by decide +kernel
theorem dX0_spread_67 : decode cX0_spread 67 = .ok (.iaload, 1) := by decide +kernel
theorem dX0_spread_68 : decode cX0_spread 68 = .ok (.aload_n 1, 1) := by decide +kernel
theorem dX0_spread_69 : decode cX0_spread 69 = .ok (.aload_n 2, 1) := by decide +kernel
theorem dX0_spread_70 : decode cX0_spread 70 = .ok (.invokevirtual 52, 3) := by decide +kernel
theorem dX0_spread_73 : decode cX0_spread 73 = .ok (.iinc 3 1, 3) := by decide +kernel
theorem dX0_spread_76 : decode cX0_spread 76 = .ok (.goto (-30), 3) := by decide +kernel
theorem dX0_spread_79 : decode cX0_spread 79 = .ok (.return_, 1) := by decide +kernel
theorem dX0_spreadFrom_0 : decode cX0_spreadFrom 0 = .ok (.aload_n 2, 1) := by decide +kernel
theorem dX0_spreadFrom_1 : decode cX0_spreadFrom 1 = .ok (.iload_n 1, 1) := by decide +kernel
theorem dX0_spreadFrom_2 : decode cX0_spreadFrom 2 = .ok (.invokevirtual 56, 3) := by decide +kernel
theorem dX0_spreadFrom_5 : decode cX0_spreadFrom 5 = .ok (.istore 4, 2) := by decide +kernel
theorem dX0_spreadFrom_7 : decode cX0_spreadFrom 7 = .ok (.iconst 0, 1) := by decide +kernel
theorem dX0_spreadFrom_8 : decode cX0_spreadFrom 8 = .ok (.istore 5, 2) := by decide +kernel
theorem dX0_spreadFrom_10 : decode cX0_spreadFrom 10 = .ok (.iconst 0, 1) := by decide +kernel
theorem dX0_spreadFrom_11 : decode cX0_spreadFrom 11 = .ok (.istore 6, 2) := by decide +kernel
theorem dX0_spreadFrom_13 : decode cX0_spreadFrom 13 = .ok (.iload 6, 2) := by decide +kernel
theorem dX0_spreadFrom_15 : decode cX0_spreadFrom 15 = .ok (.bipush 8, 2) := by decide +kernel
theorem dX0_spreadFrom_17 : decode cX0_spreadFrom 17 = .ok (.if_icmp .ge 98, 3) := by decide +kernel
theorem dX0_spreadFrom_20 : decode cX0_spreadFrom 20 = .ok (.iload 4, 2) := by decide +kernel
theorem dX0_spreadFrom_22 : decode cX0_spreadFrom 22 = .ok (.iload 6, 2) := by decide +kernel
theorem dX0_spreadFrom_24 : decode cX0_spreadFrom 24 = .ok (.ishr, 1) := by decide +kernel
theorem dX0_spreadFrom_25 : decode cX0_spreadFrom 25 = .ok (.ifCond .eq 90, 3) := by decide +kernel
theorem dX0_spreadFrom_28 : decode cX0_spreadFrom 28 = .ok (.iload 4, 2) := by decide +kernel
theorem dX0_spreadFrom_30 : decode cX0_spreadFrom 30 = .ok (.iload 6, 2) := by decide +kernel
theorem dX0_spreadFrom_32 : decode cX0_spreadFrom 32 = .ok (.invokestatic 60, 3) := by decide +kernel
theorem dX0_spreadFrom_35 : decode cX0_spreadFrom 35 = .ok (.ifCond .ne 6, 3) := by decide +kernel
theorem dX0_spreadFrom_38 : decode cX0_spreadFrom 38 = .ok (.goto 71, 3) := by decide +kernel
theorem dX0_spreadFrom_41 : decode cX0_spreadFrom 41 = .ok (.aload_n 2, 1) := by decide +kernel
theorem dX0_spreadFrom_42 : decode cX0_spreadFrom 42 = .ok (.iload_n 1, 1) := by decide +kernel
theorem dX0_spreadFrom_43 : decode cX0_spreadFrom 43 = .ok (.iload 6, 2) := by decide +kernel
theorem dX0_spreadFrom_45 : decode cX0_spreadFrom 45 = .ok (.invokevirtual 64, 3) := by decide +kernel
theorem dX0_spreadFrom_48 : decode cX0_spreadFrom 48 = .ok (.istore 7, 2) := by decide +kernel
theorem dX0_spreadFrom_50 : decode cX0_spreadFrom 50 = .ok (.aload_n 3, 1) := by decide +kernel
theorem dX0_spreadFrom_51 : decode cX0_spreadFrom 51 = .ok (.iload 7, 2) := by decide +kernel
theorem dX0_spreadFrom_53 : decode cX0_spreadFrom 53 = .ok (.invokevirtual 43, 3) := by decide +kernel
theorem dX0_spreadFrom_56 : decode cX0_spreadFrom 56 = .ok (.ifCond .eq 15, 3) := by decide +kernel
theorem dX0_spreadFrom_59 : decode cX0_spreadFrom 59 = .ok (.iload 5, 2) := by decide +kernel
theorem dX0_spreadFrom_61 : decode cX0_spreadFrom 61 = .ok (.iconst 1, 1) := by decide +kernel
theorem dX0_spreadFrom_62 : decode cX0_spreadFrom 62 = .ok (.iload 6, 2) := by decide +kernel
theorem dX0_spreadFrom_64 : decode cX0_spreadFrom 64 = .ok (.ishl, 1) := by decide +kernel
theorem dX0_spreadFrom_65 : decode cX0_spreadFrom 65 = .ok (.ior, 1) := by decide +kernel
theorem dX0_spreadFrom_66 : decode cX0_spreadFrom 66 = .ok (.istore 5, 2) := by decide +kernel
theorem dX0_spreadFrom_68 : decode cX0_spreadFrom 68 = .ok (.goto 41, 3) := by decide +kernel
theorem dX0_spreadFrom_71 : decode cX0_spreadFrom 71 = .ok (.iload 7, 2) := by decide +kernel
theorem dX0_spreadFrom_73 : decode cX0_spreadFrom 73 = .ok (.invokestatic 68, 3) := by decide +kernel
theorem dX0_spreadFrom_76 : decode cX0_spreadFrom 76 = .ok (.ifCond .eq 33, 3) := by decide +kernel
theorem dX0_spreadFrom_79 : decode cX0_spreadFrom 79 = .ok (.aload_n 0, 1) := by decide +kernel
theorem dX0_spreadFrom_80 : decode cX0_spreadFrom 80 = .ok (.iload 7, 2) := by decide +kernel
theorem dX0_spreadFrom_82 : decode cX0_spreadFrom 82 = .ok (.invokevirtual 71, 3) := by decide +kernel
theorem dX0_spreadFrom_85 : decode cX0_spreadFrom 85 = .ok (.ifCond .ne 24, 3) := by decide +kernel
theorem dX0_spreadFrom_88 : decode cX0_spreadFrom 88 = .ok (.aload_n 0, 1) := by decide +kernel
theorem dX0_spreadFrom_89 : decode cX0_spreadFrom 89 = .ok (.iload 7, 2) := by decide +kernel
theorem dX0_spreadFrom_91 : decode cX0_spreadFrom 91 = .ok (.iload_n 1, 1) := by decide +kernel
theorem dX0_spreadFrom_92 : decode cX0_spreadFrom 92 = .ok (.bipush 8, 2) := by decide +kernel
theorem dX0_spreadFrom_94 : decode cX0_spreadFrom 94 = .ok (.imul, 1) := by decide +kernel
theorem dX0_spreadFrom_95 : decode cX0_spreadFrom 95 = .ok (.iload 6, 2) := by decide +kernel
theorem dX0_spreadFrom_97 : decode cX0_spreadFrom 97 = .ok (.iadd, 1) := by decide +kernel
theorem dX0_spreadFrom_98 : decode cX0_spreadFrom 98 = .ok (.aload_n 0, 1) := by decide +kernel
theorem dX0_spreadFrom_99 : decode cX0_spreadFrom 99 = .ok (.getfield 9, 3) := by decide +kernel
theorem dX0_spreadFrom_102 : decode cX0_spreadFrom 102 = .ok (.iload_n 1, 1) := by decide +kernel
theorem dX0_spreadFrom_103 : decode cX0_spreadFrom 103 = .ok (.iaload, 1) := by decide +kernel
theorem dX0_spreadFrom_104 : decode cX0_spreadFrom 104 = .ok (.iconst 1, 1) := by decide +kernel
theorem dX0_spreadFrom_105 : decode cX0_spreadFrom 105 = .ok (.iadd, 1) := by decide +kernel
theorem dX0_spreadFrom_106 : decode cX0_spreadFrom 106 = .ok (.invokevirtual 48, 3) := by decide +kernel
theorem dX0_spreadFrom_109 : decode cX0_spreadFrom 109 = .ok (.iinc 6 1, 3) := by decide +kernel
theorem dX0_spreadFrom_112 : decode cX0_spreadFrom 112 = .ok (.goto (-99), 3) := by decide +kernel
theorem dX0_spreadFrom_115 : decode cX0_spreadFrom 115 = .ok (.aload_n 0, 1) := by decide +kernel
theorem dX0_spreadFrom_116 : decode cX0_spreadFrom 116 = .ok (.getfield 18, 3) := by decide +kernel
theorem dX0_spreadFrom_119 : decode cX0_spreadFrom 119 = .ok (.iload_n 1, 1) := by decide +kernel
theorem dX0_spreadFrom_120 : decode cX0_spreadFrom 120 = .ok (.iload 5, 2) := by decide +kernel
theorem dX0_spreadFrom_122 : decode cX0_spreadFrom 122 = .ok (.iastore, 1) := by decide +kernel
theorem dX0_spreadFrom_123 : decode cX0_spreadFrom 123 = .ok (.aload_n 0, 1) := by decide +kernel
theorem dX0_spreadFrom_124 : decode cX0_spreadFrom 124 = .ok (.dup, 1) := by decide +kernel
theorem dX0_spreadFrom_125 : decode cX0_spreadFrom 125 = .ok (.getfield 28, 3) := by decide +kernel
theorem dX0_spreadFrom_128 : decode cX0_spreadFrom 128 = .ok (.iload 5, 2) := by decide +kernel
theorem dX0_spreadFrom_130 : decode cX0_spreadFrom 130 = .ok (.invokestatic 74, 3) := by decide +kernel
theorem dX0_spreadFrom_133 : decode cX0_spreadFrom 133 = .ok (.iadd, 1) := by decide +kernel
theorem dX0_spreadFrom_134 : decode cX0_spreadFrom 134 = .ok (.putfield 28, 3) := by decide +kernel
theorem dX0_spreadFrom_137 : decode cX0_spreadFrom 137 = .ok (.return_, 1) := by decide +kernel
theorem dX0_comeTo_0 : decode cX0_comeTo 0 = .ok (.aload_n 0, 1) := by decide +kernel
theorem dX0_comeTo_1 : decode cX0_comeTo 1 = .ok (.getfield 24, 3) := by decide +kernel
theorem dX0_comeTo_4 : decode cX0_comeTo 4 = .ok (.sipush 150, 3) := by decide +kernel
theorem dX0_comeTo_7 : decode cX0_comeTo 7 = .ok (.if_icmp .ge 37, 3) := by decide +kernel
theorem dX0_comeTo_10 : decode cX0_comeTo 10 = .ok (.aload_n 0, 1) := by decide +kernel
theorem dX0_comeTo_11 : decode cX0_comeTo 11 = .ok (.getfield 9, 3) := by decide +kernel
theorem dX0_comeTo_14 : decode cX0_comeTo 14 = .ok (.iload_n 1, 1) := by decide +kernel
theorem dX0_comeTo_15 : decode cX0_comeTo 15 = .ok (.iload_n 3, 1) := by decide +kernel
theorem dX0_comeTo_16 : decode cX0_comeTo 16 = .ok (.iastore, 1) := by decide +kernel
theorem dX0_comeTo_17 : decode cX0_comeTo 17 = .ok (.aload_n 0, 1) := by decide +kernel
theorem dX0_comeTo_18 : decode cX0_comeTo 18 = .ok (.getfield 15, 3) := by decide +kernel
theorem dX0_comeTo_21 : decode cX0_comeTo 21 = .ok (.iload_n 1, 1) := by decide +kernel
theorem dX0_comeTo_22 : decode cX0_comeTo 22 = .ok (.iload_n 2, 1) := by decide +kernel
theorem dX0_comeTo_23 : decode cX0_comeTo 23 = .ok (.iastore, 1) := by decide +kernel
theorem dX0_comeTo_24 : decode cX0_comeTo 24 = .ok (.aload_n 0, 1) := by decide +kernel
theorem dX0_comeTo_25 : decode cX0_comeTo 25 = .ok (.getfield 21, 3) := by decide +kernel
theorem dX0_comeTo_28 : decode cX0_comeTo 28 = .ok (.aload_n 0, 1) := by decide +kernel
theorem dX0_comeTo_29 : decode cX0_comeTo 29 = .ok (.getfield 24, 3) := by decide +kernel
theorem dX0_comeTo_32 : decode cX0_comeTo 32 = .ok (.iload_n 1, 1) := by decide +kernel
theorem dX0_comeTo_33 : decode cX0_comeTo 33 = .ok (.iastore, 1) := by decide +kernel
theorem dX0_comeTo_34 : decode cX0_comeTo 34 = .ok (.aload_n 0, 1) := by decide +kernel
theorem dX0_comeTo_35 : decode cX0_comeTo 35 = .ok (.dup, 1) := by decide +kernel
theorem dX0_comeTo_36 : decode cX0_comeTo 36 = .ok (.getfield 24, 3) := by decide +kernel
theorem dX0_comeTo_39 : decode cX0_comeTo 39 = .ok (.iconst 1, 1) := by decide +kernel
theorem dX0_comeTo_40 : decode cX0_comeTo 40 = .ok (.iadd, 1) := by decide +kernel
theorem dX0_comeTo_41 : decode cX0_comeTo 41 = .ok (.putfield 24, 3) := by decide +kernel
theorem dX0_comeTo_44 : decode cX0_comeTo 44 = .ok (.return_, 1) := by decide +kernel
theorem dX0_holds_0 : decode cX0_holds 0 = .ok (.aload_n 0, 1) := by decide +kernel
theorem dX0_holds_1 : decode cX0_holds 1 = .ok (.iload_n 1, 1) := by decide +kernel
theorem dX0_holds_2 : decode cX0_holds 2 = .ok (.invokevirtual 79, 3) := by decide +kernel
theorem dX0_holds_5 : decode cX0_holds 5 = .ok (.bipush (-9), 2) := by decide +kernel
theorem dX0_holds_7 : decode cX0_holds 7 = .ok (.if_icmp .eq 7, 3) := by decide +kernel
theorem dX0_holds_10 : decode cX0_holds 10 = .ok (.iconst 1, 1) := by decide +kernel
theorem dX0_holds_11 : decode cX0_holds 11 = .ok (.goto 4, 3) := by decide +kernel
theorem dX0_holds_14 : decode cX0_holds 14 = .ok (.iconst 0, 1) := by decide +kernel
theorem dX0_holds_15 : decode cX0_holds 15 = .ok (.ireturn, 1) := by decide +kernel
theorem dX0_depthOf_0 : decode cX0_depthOf 0 = .ok (.iload_n 1, 1) := by decide +kernel
theorem dX0_depthOf_1 : decode cX0_depthOf 1 = .ok (.invokestatic 68, 3) := by decide +kernel
theorem dX0_depthOf_4 : decode cX0_depthOf 4 = .ok (.ifCond .eq 12, 3) := by decide +kernel
theorem dX0_depthOf_7 : decode cX0_depthOf 7 = .ok (.aload_n 0, 1) := by decide +kernel
theorem dX0_depthOf_8 : decode cX0_depthOf 8 = .ok (.getfield 9, 3) := by decide +kernel
theorem dX0_depthOf_11 : decode cX0_depthOf 11 = .ok (.iload_n 1, 1) := by decide +kernel
theorem dX0_depthOf_12 : decode cX0_depthOf 12 = .ok (.iaload, 1) := by decide +kernel
theorem dX0_depthOf_13 : decode cX0_depthOf 13 = .ok (.goto 5, 3) := by decide +kernel
theorem dX0_depthOf_16 : decode cX0_depthOf 16 = .ok (.bipush (-9), 2) := by decide +kernel
theorem dX0_depthOf_18 : decode cX0_depthOf 18 = .ok (.ireturn, 1) := by decide +kernel
theorem dX0_barredSet_0 : decode cX0_barredSet 0 = .ok (.aload_n 0, 1) := by decide +kernel
theorem dX0_barredSet_1 : decode cX0_barredSet 1 = .ok (.iload_n 1, 1) := by decide +kernel
theorem dX0_barredSet_2 : decode cX0_barredSet 2 = .ok (.invokevirtual 71, 3) := by decide +kernel
theorem dX0_barredSet_5 : decode cX0_barredSet 5 = .ok (.ifCond .eq 12, 3) := by decide +kernel
theorem dX0_barredSet_8 : decode cX0_barredSet 8 = .ok (.aload_n 0, 1) := by decide +kernel
theorem dX0_barredSet_9 : decode cX0_barredSet 9 = .ok (.getfield 18, 3) := by decide +kernel
theorem dX0_barredSet_12 : decode cX0_barredSet 12 = .ok (.iload_n 1, 1) := by decide +kernel
theorem dX0_barredSet_13 : decode cX0_barredSet 13 = .ok (.iaload, 1) := by decide +kernel
theorem dX0_barredSet_14 : decode cX0_barredSet 14 = .ok (.goto 5, 3) := by decide +kernel
theorem dX0_barredSet_17 : decode cX0_barredSet 17 = .ok (.bipush (-9), 2) := by decide +kernel
theorem dX0_barredSet_19 : decode cX0_barredSet 19 = .ok (.ireturn, 1) := by decide +kernel
theorem dX0_eventTo_0 : decode cX0_eventTo 0 = .ok (.iload_n 1, 1) := by decide +kernel
theorem dX0_eventTo_1 : decode cX0_eventTo 1 = .ok (.istore_n 3, 1) := by decide +kernel
theorem dX0_eventTo_2 : decode cX0_eventTo 2 = .ok (.iconst 0, 1) := by decide +kernel
theorem dX0_eventTo_3 : decode cX0_eventTo 3 = .ok (.istore 4, 2) := by decide +kernel
theorem dX0_eventTo_5 : decode cX0_eventTo 5 = .ok (.iload 4, 2) := by decide +kernel
theorem dX0_eventTo_7 : decode cX0_eventTo 7 = .ok (.sipush 150, 3) := by decide +kernel
theorem dX0_eventTo_10 : decode cX0_eventTo 10 = .ok (.if_icmp .ge 30, 3) := by decide +kernel
theorem dX0_eventTo_13 : decode cX0_eventTo 13 = .ok (.aload_n 0, 1) := by decide +kernel
theorem dX0_eventTo_14 : decode cX0_eventTo 14 = .ok (.iload_n 3, 1) := by decide +kernel
theorem dX0_eventTo_15 : decode cX0_eventTo 15 = .ok (.invokevirtual 79, 3) := by decide +kernel
theorem dX0_eventTo_18 : decode cX0_eventTo 18 = .ok (.iload_n 2, 1) := by decide +kernel
theorem dX0_eventTo_19 : decode cX0_eventTo 19 = .ok (.iconst 1, 1) := by decide +kernel
theorem dX0_eventTo_20 : decode cX0_eventTo 20 = .ok (.iadd, 1) := by decide +kernel
theorem dX0_eventTo_21 : decode cX0_eventTo 21 = .ok (.if_icmp .le 19, 3) := by decide +kernel
theorem dX0_eventTo_24 : decode cX0_eventTo 24 = .ok (.aload_n 0, 1) := by decide +kernel
theorem dX0_eventTo_25 : decode cX0_eventTo 25 = .ok (.getfield 15, 3) := by decide +kernel
theorem dX0_eventTo_28 : decode cX0_eventTo 28 = .ok (.iload_n 3, 1) := by decide +kernel
theorem dX0_eventTo_29 : decode cX0_eventTo 29 = .ok (.iaload, 1) := by decide +kernel
theorem dX0_eventTo_30 : decode cX0_eventTo 30 = .ok (.bipush 8, 2) := by decide +kernel
theorem dX0_eventTo_32 : decode cX0_eventTo 32 = .ok (.idiv, 1) := by decide +kernel
theorem dX0_eventTo_33 : decode cX0_eventTo 33 = .ok (.istore_n 3, 1) := by decide +kernel
theorem dX0_eventTo_34 : decode cX0_eventTo 34 = .ok (.iinc 4 1, 3) := by decide +kernel
theorem dX0_eventTo_37 : decode cX0_eventTo 37 = .ok (.goto (-32), 3) := by decide +kernel
theorem dX0_eventTo_40 : decode cX0_eventTo 40 = .ok (.aload_n 0, 1) := by decide +kernel
theorem dX0_eventTo_41 : decode cX0_eventTo 41 = .ok (.iload_n 3, 1) := by decide +kernel
theorem dX0_eventTo_42 : decode cX0_eventTo 42 = .ok (.invokevirtual 79, 3) := by decide +kernel
theorem dX0_eventTo_45 : decode cX0_eventTo 45 = .ok (.iload_n 2, 1) := by decide +kernel
theorem dX0_eventTo_46 : decode cX0_eventTo 46 = .ok (.iconst 1, 1) := by decide +kernel
theorem dX0_eventTo_47 : decode cX0_eventTo 47 = .ok (.iadd, 1) := by decide +kernel
theorem dX0_eventTo_48 : decode cX0_eventTo 48 = .ok (.if_icmp .ne 15, 3) := by decide +kernel
theorem dX0_eventTo_51 : decode cX0_eventTo 51 = .ok (.aload_n 0, 1) := by decide +kernel
theorem dX0_eventTo_52 : decode cX0_eventTo 52 = .ok (.getfield 15, 3) := by decide +kernel
theorem dX0_eventTo_55 : decode cX0_eventTo 55 = .ok (.iload_n 3, 1) := by decide +kernel
theorem dX0_eventTo_56 : decode cX0_eventTo 56 = .ok (.iaload, 1) := by decide +kernel
theorem dX0_eventTo_57 : decode cX0_eventTo 57 = .ok (.bipush 8, 2) := by decide +kernel
theorem dX0_eventTo_59 : decode cX0_eventTo 59 = .ok (.irem, 1) := by decide +kernel
theorem dX0_eventTo_60 : decode cX0_eventTo 60 = .ok (.goto 5, 3) := by decide +kernel
theorem dX0_eventTo_63 : decode cX0_eventTo 63 = .ok (.bipush (-9), 2) := by decide +kernel
theorem dX0_eventTo_65 : decode cX0_eventTo 65 = .ok (.ireturn, 1) := by decide +kernel
theorem dX1_init_0 : decode cX1_init 0 = .ok (.aload_n 0, 1) := by decide +kernel
theorem dX1_init_1 : decode cX1_init 1 = .ok (.invokespecial 3, 3) := by decide +kernel
theorem dX1_init_4 : decode cX1_init 4 = .ok (.aload_n 0, 1) := by decide +kernel
theorem dX1_init_5 : decode cX1_init 5 = .ok (.sipush 150, 3) := by decide +kernel
theorem dX1_init_8 : decode cX1_init 8 = .ok (.newarray .int, 2) := by decide +kernel
theorem dX1_init_10 : decode cX1_init 10 = .ok (.putfield 9, 3) := by decide +kernel
theorem dX1_init_13 : decode cX1_init 13 = .ok (.aload_n 0, 1) := by decide +kernel
theorem dX1_init_14 : decode cX1_init 14 = .ok (.sipush 150, 3) := by decide +kernel
theorem dX1_init_17 : decode cX1_init 17 = .ok (.newarray .int, 2) := by decide +kernel
theorem dX1_init_19 : decode cX1_init 19 = .ok (.putfield 15, 3) := by decide +kernel
theorem dX1_init_22 : decode cX1_init 22 = .ok (.aload_n 0, 1) := by decide +kernel
theorem dX1_init_23 : decode cX1_init 23 = .ok (.sipush 150, 3) := by decide +kernel
theorem dX1_init_26 : decode cX1_init 26 = .ok (.newarray .int, 2) := by decide +kernel
theorem dX1_init_28 : decode cX1_init 28 = .ok (.putfield 18, 3) := by decide +kernel
theorem dX1_init_31 : decode cX1_init 31 = .ok (.aload_n 0, 1) := by decide +kernel
theorem dX1_init_32 : decode cX1_init 32 = .ok (.sipush 150, 3) := by decide +kernel
theorem dX1_init_35 : decode cX1_init 35 = .ok (.newarray .int, 2) := by decide +kernel
theorem dX1_init_37 : decode cX1_init 37 = .ok (.putfield 21, 3) := by decide +kernel
theorem dX1_init_40 : decode cX1_init 40 = .ok (.aload_n 0, 1) := by decide +kernel
theorem dX1_init_41 : decode cX1_init 41 = .ok (.sipush 151, 3) := by decide +kernel
theorem dX1_init_44 : decode cX1_init 44 = .ok (.newarray .int, 2) := by decide +kernel
theorem dX1_init_46 : decode cX1_init 46 = .ok (.putfield 24, 3) := by decide +kernel
theorem dX1_init_49 : decode cX1_init 49 = .ok (.aload_n 0, 1) := by decide +kernel
theorem dX1_init_50 : decode cX1_init 50 = .ok (.iconst 0, 1) := by decide +kernel
theorem dX1_init_51 : decode cX1_init 51 = .ok (.putfield 27, 3) := by decide +kernel
theorem dX1_init_54 : decode cX1_init 54 = .ok (.aload_n 0, 1) := by decide +kernel
theorem dX1_init_55 : decode cX1_init 55 = .ok (.iconst 0, 1) := by decide +kernel
theorem dX1_init_56 : decode cX1_init 56 = .ok (.putfield 31, 3) := by decide +kernel
theorem dX1_init_59 : decode cX1_init 59 = .ok (.return_, 1) := by decide +kernel
theorem dX1_sift_0 : decode cX1_sift 0 = .ok (.aload_n 0, 1) := by decide +kernel
theorem dX1_sift_1 : decode cX1_sift 1 = .ok (.getfield 9, 3) := by decide +kernel
theorem dX1_sift_4 : decode cX1_sift 4 = .ok (.bipush (-9), 2) := by decide +kernel
theorem dX1_sift_6 : decode cX1_sift 6 = .ok (.invokestatic 34, 3) := by decide +kernel
theorem dX1_sift_9 : decode cX1_sift 9 = .ok (.aload_n 0, 1) := by decide +kernel
theorem dX1_sift_10 : decode cX1_sift 10 = .ok (.getfield 24, 3) := by decide +kernel
theorem dX1_sift_13 : decode cX1_sift 13 = .ok (.iconst 0, 1) := by decide +kernel
theorem dX1_sift_14 : decode cX1_sift 14 = .ok (.invokestatic 34, 3) := by decide +kernel
theorem dX1_sift_17 : decode cX1_sift 17 = .ok (.aload_n 0, 1) := by decide +kernel
theorem dX1_sift_18 : decode cX1_sift 18 = .ok (.iconst 0, 1) := by decide +kernel
theorem dX1_sift_19 : decode cX1_sift 19 = .ok (.putfield 27, 3) := by decide +kernel
theorem dX1_sift_22 : decode cX1_sift 22 = .ok (.aload_n 0, 1) := by decide +kernel
theorem dX1_sift_23 : decode cX1_sift 23 = .ok (.iconst 0, 1) := by decide +kernel
theorem dX1_sift_24 : decode cX1_sift 24 = .ok (.putfield 31, 3) := by decide +kernel
theorem dX1_sift_27 : decode cX1_sift 27 = .ok (.aload_n 1, 1) := by decide +kernel
theorem dX1_sift_28 : decode cX1_sift 28 = .ok (.getfield 40, 3) := by decide +kernel
theorem dX1_sift_31 : decode cX1_sift 31 = .ok (.ifCond .eq 4, 3) := by decide +kernel
theorem dX1_sift_34 : decode cX1_sift 34 = .ok (.return_, 1) := by decide +kernel
theorem dX1_sift_35 : decode cX1_sift 35 = .ok (.aload_n 0, 1) := by decide +kernel
theorem dX1_sift_36 : decode cX1_sift 36 = .ok (.aload_n 1, 1) := by decide +kernel
theorem dX1_sift_37 : decode cX1_sift 37 = .ok (.iload_n 2, 1) := by decide +kernel
theorem dX1_sift_38 : decode cX1_sift 38 = .ok (.invokevirtual 46, 3) := by decide +kernel
theorem dX1_sift_41 : decode cX1_sift 41 = .ok (.aload_n 0, 1) := by decide +kernel
theorem dX1_sift_42 : decode cX1_sift 42 = .ok (.iconst 1, 1) := by decide +kernel
theorem dX1_sift_43 : decode cX1_sift 43 = .ok (.putfield 27, 3) := by decide +kernel
theorem dX1_sift_46 : decode cX1_sift 46 = .ok (.iconst 0, 1) := by decide +kernel
theorem dX1_sift_47 : decode cX1_sift 47 = .ok (.istore_n 3, 1) := by decide +kernel
theorem dX1_sift_48 : decode cX1_sift 48 = .ok (.iload_n 3, 1) := by decide +kernel
theorem dX1_sift_49 : decode cX1_sift 49 = .ok (.sipush 151, 3) := by decide +kernel
theorem dX1_sift_52 : decode cX1_sift 52 = .ok (.if_icmp .ge 57, 3) := by decide +kernel
theorem dX1_sift_55 : decode cX1_sift 55 = .ok (.aload_n 0, 1) := by decide +kernel
theorem dX1_sift_56 : decode cX1_sift 56 = .ok (.getfield 31, 3) := by decide +kernel
theorem dX1_sift_59 : decode cX1_sift 59 = .ok (.istore 4, 2) := by decide +kernel
theorem dX1_sift_61 : decode cX1_sift 61 = .ok (.aload_n 0, 1) := by decide +kernel
theorem dX1_sift_62 : decode cX1_sift 62 = .ok (.aload_n 1, 1) := by decide +kernel
theorem dX1_sift_63 : decode cX1_sift 63 = .ok (.iload_n 2, 1) := by decide +kernel
theorem dX1_sift_64 : decode cX1_sift 64 = .ok (.invokevirtual 50, 3) := by decide +kernel
theorem dX1_sift_67 : decode cX1_sift 67 = .ok (.aload_n 0, 1) := by decide +kernel
theorem dX1_sift_68 : decode cX1_sift 68 = .ok (.getfield 31, 3) := by decide +kernel
theorem dX1_sift_71 : decode cX1_sift 71 = .ok (.iload 4, 2) := by decide +kernel
theorem dX1_sift_73 : decode cX1_sift 73 = .ok (.if_icmp .ne 8, 3) := by decide +kernel
theorem dX1_sift_76 : decode cX1_sift 76 = .ok (.aload_n 0, 1) := by decide +kernel
theorem dX1_sift_77 : decode cX1_sift 77 = .ok (.aload_n 1, 1) := by decide +kernel
theorem dX1_sift_78 : decode cX1_sift 78 = .ok (.invokevirtual 53, 3) := by decide +kernel
theorem dX1_sift_81 : decode cX1_sift 81 = .ok (.aload_n 0, 1) := by decide +kernel
theorem dX1_sift_82 : decode cX1_sift 82 = .ok (.getfield 31, 3) := by decide +kernel
theorem dX1_sift_85 : decode cX1_sift 85 = .ok (.iload 4, 2) := by decide +kernel
theorem dX1_sift_87 : decode cX1_sift 87 = .ok (.if_icmp .ne 6, 3) := by decide +kernel
theorem dX1_sift_90 : decode cX1_sift 90 = .ok (.goto 19, 3) := by decide +kernel
theorem dX1_sift_93 : decode cX1_sift 93 = .ok (.aload_n 0, 1) := by decide +kernel
theorem dX1_sift_94 : decode cX1_sift 94 = .ok (.dup, 1) := by decide +kernel
theorem dX1_sift_95 : decode cX1_sift 95 = .ok (.getfield 27, 3) := by decide +kernel
theorem dX1_sift_98 : decode cX1_sift 98 = .ok (.iconst 1, 1) := by decide +kernel
theorem dX1_sift_99 : decode cX1_sift 99 = .ok (.iadd, 1) := by decide +kernel
theorem dX1_sift_100 : decode cX1_sift 100 = .ok (.putfield 27, 3) := by decide +kernel
theorem dX1_sift_103 : decode cX1_sift 103 = .ok (.iinc 3 1, 3) := by decide +kernel
theorem dX1_sift_106 : decode cX1_sift 106 = .ok (.goto (-58), 3) := by decide +kernel
theorem dX1_sift_109 : decode cX1_sift 109 = .ok (.return_, 1) := by decide +kernel
theorem dX1_loseClashing_0 : decode cX1_loseClashing 0 = .ok (.iconst 0, 1) := by decide +kernel
theorem dX1_loseClashing_1 : decode cX1_loseClashing 1 = .ok (.istore_n 3, 1) := by decide +kernel
theorem dX1_loseClashing_2 : decode cX1_loseClashing 2 = .ok (.iload_n 3, 1) := by decide +kernel
theorem dX1_loseClashing_3 : decode cX1_loseClashing 3 = .ok (.aload_n 1, 1) := by decide +kernel
theorem dX1_loseClashing_4 : decode cX1_loseClashing 4 = .ok (.getfield 57, 3) := by decide +kernel
theorem dX1_loseClashing_7 : decode cX1_loseClashing 7 = .ok (.if_icmp .ge 35, 3) := by decide +kernel
theorem dX1_loseClashing_10 : decode cX1_loseClashing 10 = .ok (.aload_n 1, 1) := by decide +kernel
theorem dX1_loseClashing_11 : decode cX1_loseClashing 11 = .ok (.iload_n 3, 1) := by decide +kernel
theorem dX1_loseClashing_12 : decode cX1_loseClashing 12 = .ok (.iload_n 2, 1) := by decide +kernel
theorem dX1_loseClashing_13 : decode cX1_loseClashing 13 = .ok (.invokevirtual 60, 3) := by decide +kernel
theorem dX1_loseClashing_16 : decode cX1_loseClashing 16 = .ok (.istore 4, 2) := by decide +kernel
theorem dX1_loseClashing_18 : decode cX1_loseClashing 18 = .ok (.iload 4, 2) := by decide +kernel
theorem dX1_loseClashing_20 : decode cX1_loseClashing 20 = .ok (.ifCond .eq 16, 3) := by decide +kernel
theorem dX1_loseClashing_23 : decode cX1_loseClashing 23 = .ok (.aload_n 0, 1) := by decide +kernel
theorem dX1_loseClashing_24 : decode cX1_loseClashing 24 = .ok (.iload_n 3, 1) := by decide +kernel
theorem dX1_loseClashing_25 : decode cX1_loseClashing 25 = .ok (.iconst 1, 1) := by decide +kernel
theorem dX1_loseClashing_26 : decode cX1_loseClashing 26 = .ok (.iload 4, 2) := by decide +kernel
theorem dX1_loseClashing_28 : decode cX1_loseClashing 28 = .ok (.invokestatic 64, 3) := by decide +kernel
theorem dX1_loseClashing_31 : decode cX1_loseClashing 31 = .ok (.bipush (-9), 2) := by decide +kernel
theorem dX1_loseClashing_33 : decode cX1_loseClashing 33 = .ok (.invokevirtual 68, 3) := by decide +kernel
theorem dX1_loseClashing_36 : decode cX1_loseClashing 36 = .ok (.iinc 3 1, 3) := by decide +kernel
theorem dX1_loseClashing_39 : decode cX1_loseClashing 39 = .ok (.goto (-37), 3) := by decide +kernel
theorem dX1_loseClashing_42 : decode cX1_loseClashing 42 = .ok (.return_, 1) := by decide +kernel
theorem dX1_losePushed_0 : decode cX1_losePushed 0 = .ok (.iconst 0, 1) := by decide +kernel
theorem dX1_losePushed_1 : decode cX1_losePushed 1 = .ok (.istore_n 3, 1) := by decide +kernel
theorem dX1_losePushed_2 : decode cX1_losePushed 2 = .ok (.iload_n 3, 1) := by decide +kernel
theorem dX1_losePushed_3 : decode cX1_losePushed 3 = .ok (.aload_n 1, 1) := by decide +kernel
theorem dX1_losePushed_4 : decode cX1_losePushed 4 = .ok (.getfield 57, 3) := by decide +kernel
theorem dX1_losePushed_7 : decode cX1_losePushed 7 = .ok (.if_icmp .ge 39, 3) := by decide +kernel
theorem dX1_losePushed_10 : decode cX1_losePushed 10 = .ok (.aload_n 1, 1) := by decide +kernel
theorem dX1_losePushed_11 : decode cX1_losePushed 11 = .ok (.iload_n 3, 1) := by decide +kernel
theorem dX1_losePushed_12 : decode cX1_losePushed 12 = .ok (.invokevirtual 72, 3) := by decide +kernel
theorem dX1_losePushed_15 : decode cX1_losePushed 15 = .ok (.iload_n 2, 1) := by decide +kernel
theorem dX1_losePushed_16 : decode cX1_losePushed 16 = .ok (.iand, 1) := by decide +kernel
theorem dX1_losePushed_17 : decode cX1_losePushed 17 = .ok (.istore 4, 2) := by decide +kernel
theorem dX1_losePushed_19 : decode cX1_losePushed 19 = .ok (.iload 4, 2) := by decide +kernel
theorem dX1_losePushed_21 : decode cX1_losePushed 21 = .ok (.ifCond .eq 19, 3) := by decide +kernel
theorem dX1_losePushed_24 : decode cX1_losePushed 24 = .ok (.aload_n 0, 1) := by decide +kernel
theorem dX1_losePushed_25 : decode cX1_losePushed 25 = .ok (.iload_n 3, 1) := by decide +kernel
theorem dX1_losePushed_26 : decode cX1_losePushed 26 = .ok (.invokevirtual 75, 3) := by decide +kernel
theorem dX1_losePushed_29 : decode cX1_losePushed 29 = .ok (.ifCond .ne 11, 3) := by decide +kernel
theorem dX1_losePushed_32 : decode cX1_losePushed 32 = .ok (.aload_n 0, 1) := by decide +kernel
theorem dX1_losePushed_33 : decode cX1_losePushed 33 = .ok (.aload_n 1, 1) := by decide +kernel
theorem dX1_losePushed_34 : decode cX1_losePushed 34 = .ok (.iload_n 3, 1) := by decide +kernel
theorem dX1_losePushed_35 : decode cX1_losePushed 35 = .ok (.iload 4, 2) := by decide +kernel
theorem dX1_losePushed_37 : decode cX1_losePushed 37 = .ok (.invokevirtual 79, 3) := by decide +kernel
theorem dX1_losePushed_40 : decode cX1_losePushed 40 = .ok (.iinc 3 1, 3) := by decide +kernel
theorem dX1_losePushed_43 : decode cX1_losePushed 43 = .ok (.goto (-41), 3) := by decide +kernel
theorem dX1_losePushed_46 : decode cX1_losePushed 46 = .ok (.return_, 1) := by decide +kernel
theorem dX1_losePushedBy_0 : decode cX1_losePushedBy 0 = .ok (.iconst 0, 1) := by decide +kernel
theorem dX1_losePushedBy_1 : decode cX1_losePushedBy 1 = .ok (.istore 4, 2) := by decide +kernel
theorem dX1_losePushedBy_3 : decode cX1_losePushedBy 3 = .ok (.iload 4, 2) := by decide +kernel
theorem dX1_losePushedBy_5 : decode cX1_losePushedBy 5 = .ok (.bipush 8, 2) := by decide +kernel
theorem dX1_losePushedBy_7 : decode cX1_losePushedBy 7 = .ok (.if_icmp .ge 48, 3) := by decide +kernel
theorem dX1_losePushedBy_10 : decode cX1_losePushedBy 10 = .ok (.iload_n 3, 1) := by decide +kernel
theorem dX1_losePushedBy_11 : decode cX1_losePushedBy 11 = .ok (.iload 4, 2) := by decide +kernel
theorem dX1_losePushedBy_13 : decode cX1_losePushedBy 13 = .ok (.invokestatic 83, 3) := by decide +kernel
theorem dX1_losePushedBy_16 : decode cX1_losePushedBy 16 = .ok (.ifCond .eq 33, 3) := by decide +kernel
theorem dX1_losePushedBy_19 : decode cX1_losePushedBy 19 = .ok (.aload_n 0, 1) := by decide +kernel
theorem dX1_losePushedBy_20 : decode cX1_losePushedBy 20 = .ok (.aload_n 1, 1) := by decide +kernel
theorem dX1_losePushedBy_21 : decode cX1_losePushedBy 21 = .ok (.iload_n 2, 1) := by decide +kernel
theorem dX1_losePushedBy_22 : decode cX1_losePushedBy 22 = .ok (.iload 4, 2) := by decide +kernel
theorem dX1_losePushedBy_24 : decode cX1_losePushedBy 24 = .ok (.invokevirtual 87, 3) := by decide +kernel
theorem dX1_losePushedBy_27 : decode cX1_losePushedBy 27 = .ok (.invokevirtual 90, 3) := by decide +kernel
theorem dX1_losePushedBy_30 : decode cX1_losePushedBy 30 = .ok (.ifCond .eq 19, 3) := by decide +kernel
theorem dX1_losePushedBy_33 : decode cX1_losePushedBy 33 = .ok (.aload_n 0, 1) := by decide +kernel
theorem dX1_losePushedBy_34 : decode cX1_losePushedBy 34 = .ok (.iload_n 2, 1) := by decide +kernel
theorem dX1_losePushedBy_35 : decode cX1_losePushedBy 35 = .ok (.iconst 2, 1) := by decide +kernel
theorem dX1_losePushedBy_36 : decode cX1_losePushedBy 36 = .ok (.iload 4, 2) := by decide +kernel
theorem dX1_losePushedBy_38 : decode cX1_losePushedBy 38 = .ok (.aload_n 1, 1) := by decide +kernel
theorem dX1_losePushedBy_39 : decode cX1_losePushedBy 39 = .ok (.iload_n 2, 1) := by decide +kernel
theorem dX1_losePushedBy_40 : decode cX1_losePushedBy 40 = .ok (.iload 4, 2) := by decide +kernel
theorem dX1_losePushedBy_42 : decode cX1_losePushedBy 42 = .ok (.invokevirtual 87, 3) := by decide +kernel
theorem dX1_losePushedBy_45 : decode cX1_losePushedBy 45 = .ok (.invokevirtual 68, 3) := by decide +kernel
theorem dX1_losePushedBy_48 : decode cX1_losePushedBy 48 = .ok (.return_, 1) := by decide +kernel
theorem dX1_losePushedBy_49 : decode cX1_losePushedBy 49 = .ok (.iinc 4 1, 3) := by decide +kernel
theorem dX1_losePushedBy_52 : decode cX1_losePushedBy 52 = .ok (.goto (-49), 3) := by decide +kernel
theorem dX1_losePushedBy_55 : decode cX1_losePushedBy 55 = .ok (.return_, 1) := by decide +kernel
theorem dX1_loseStuck_0 : decode cX1_loseStuck 0 = .ok (.aload_n 1, 1) := by decide +kernel
theorem dX1_loseStuck_1 : decode cX1_loseStuck 1 = .ok (.aload_n 0, 1) := by decide +kernel
theorem dX1_loseStuck_2 : decode cX1_loseStuck 2 = .ok (.getfield 9, 3) := by decide +kernel
theorem dX1_loseStuck_5 : decode cX1_loseStuck 5 = .ok (.invokevirtual 93, 3) := by decide +kernel
theorem dX1_loseStuck_8 : decode cX1_loseStuck 8 = .ok (.iconst 0, 1) := by decide +kernel
theorem dX1_loseStuck_9 : decode cX1_loseStuck 9 = .ok (.istore_n 2, 1) := by decide +kernel
theorem dX1_loseStuck_10 : decode cX1_loseStuck 10 = .ok (.iload_n 2, 1) := by decide +kernel
theorem dX1_loseStuck_11 : decode cX1_loseStuck 11 = .ok (.aload_n 1, 1) := by decide +kernel
theorem dX1_loseStuck_12 : decode cX1_loseStuck 12 = .ok (.getfield 57, 3) := by decide +kernel
theorem dX1_loseStuck_15 : decode cX1_loseStuck 15 = .ok (.if_icmp .ge 37, 3) := by decide +kernel
theorem dX1_loseStuck_18 : decode cX1_loseStuck 18 = .ok (.aload_n 0, 1) := by decide +kernel
theorem dX1_loseStuck_19 : decode cX1_loseStuck 19 = .ok (.iload_n 2, 1) := by decide +kernel
theorem dX1_loseStuck_20 : decode cX1_loseStuck 20 = .ok (.invokevirtual 75, 3) := by decide +kernel
theorem dX1_loseStuck_23 : decode cX1_loseStuck 23 = .ok (.ifCond .ne 23, 3) := by decide +kernel
theorem dX1_loseStuck_26 : decode cX1_loseStuck 26 = .ok (.aload_n 1, 1) := by decide +kernel
theorem dX1_loseStuck_27 : decode cX1_loseStuck 27 = .ok (.iload_n 2, 1) := by decide +kernel
theorem dX1_loseStuck_28 : decode cX1_loseStuck 28 = .ok (.invokevirtual 97, 3) := by decide +kernel
theorem dX1_loseStuck_31 : decode cX1_loseStuck 31 = .ok (.bipush (-9), 2) := by decide +kernel
theorem dX1_loseStuck_33 : decode cX1_loseStuck 33 = .ok (.if_icmp .ne 13, 3) := by decide +kernel
theorem dX1_loseStuck_36 : decode cX1_loseStuck 36 = .ok (.aload_n 0, 1) := by decide +kernel
theorem dX1_loseStuck_37 : decode cX1_loseStuck 37 = .ok (.iload_n 2, 1) := by decide +kernel
theorem dX1_loseStuck_38 : decode cX1_loseStuck 38 = .ok (.iconst 3, 1) := by decide +kernel
theorem dX1_loseStuck_39 : decode cX1_loseStuck 39 = .ok (.bipush (-9), 2) := by decide +kernel
theorem dX1_loseStuck_41 : decode cX1_loseStuck 41 = .ok (.bipush (-9), 2) := by decide +kernel
theorem dX1_loseStuck_43 : decode cX1_loseStuck 43 = .ok (.invokevirtual 68, 3) := by decide +kernel
theorem dX1_loseStuck_46 : decode cX1_loseStuck 46 = .ok (.iinc 2 1, 3) := by decide +kernel
theorem dX1_loseStuck_49 : decode cX1_loseStuck 49 = .ok (.goto (-39), 3) := by decide +kernel
theorem dX1_loseStuck_52 : decode cX1_loseStuck 52 = .ok (.return_, 1) := by decide +kernel
theorem dX1_lose_0 : decode cX1_lose 0 = .ok (.iload_n 1, 1) := by decide +kernel
theorem dX1_lose_1 : decode cX1_lose 1 = .ok (.invokestatic 100, 3) := by decide +kernel
theorem dX1_lose_4 : decode cX1_lose 4 = .ok (.ifCond .eq 13, 3) := by decide +kernel
theorem dX1_lose_7 : decode cX1_lose 7 = .ok (.aload_n 0, 1) := by decide +kernel
theorem dX1_lose_8 : decode cX1_lose 8 = .ok (.getfield 27, 3) := by decide +kernel
theorem dX1_lose_11 : decode cX1_lose 11 = .ok (.sipush 151, 3) := by decide +kernel
theorem dX1_lose_14 : decode cX1_lose 14 = .ok (.if_icmp .lt 4, 3) := by decide +kernel
theorem dX1_lose_17 : decode cX1_lose 17 = .ok (.return_, 1) := by decide +kernel
theorem dX1_lose_18 : decode cX1_lose 18 = .ok (.aload_n 0, 1) := by decide +kernel
theorem dX1_lose_19 : decode cX1_lose 19 = .ok (.getfield 9, 3) := by decide +kernel
theorem dX1_lose_22 : decode cX1_lose 22 = .ok (.iload_n 1, 1) := by decide +kernel
theorem dX1_lose_23 : decode cX1_lose 23 = .ok (.aload_n 0, 1) := by decide +kernel
theorem dX1_lose_24 : decode cX1_lose 24 = .ok (.getfield 27, 3) := by decide +kernel
theorem dX1_lose_27 : decode cX1_lose 27 = .ok (.iastore, 1) := by decide +kernel
theorem dX1_lose_28 : decode cX1_lose 28 = .ok (.aload_n 0, 1) := by decide +kernel
theorem dX1_lose_29 : decode cX1_lose 29 = .ok (.getfield 15, 3) := by decide +kernel
theorem dX1_lose_32 : decode cX1_lose 32 = .ok (.iload_n 1, 1) := by decide +kernel
theorem dX1_lose_33 : decode cX1_lose 33 = .ok (.iload_n 2, 1) := by decide +kernel
theorem dX1_lose_34 : decode cX1_lose 34 = .ok (.iastore, 1) := by decide +kernel
theorem dX1_lose_35 : decode cX1_lose 35 = .ok (.aload_n 0, 1) := by decide +kernel
theorem dX1_lose_36 : decode cX1_lose 36 = .ok (.getfield 18, 3) := by decide +kernel
theorem dX1_lose_39 : decode cX1_lose 39 = .ok (.iload_n 1, 1) := by decide +kernel
theorem dX1_lose_40 : decode cX1_lose 40 = .ok (.iload_n 3, 1) := by decide +kernel
theorem dX1_lose_41 : decode cX1_lose 41 = .ok (.iastore, 1) := by decide +kernel
theorem dX1_lose_42 : decode cX1_lose 42 = .ok (.aload_n 0, 1) := by decide +kernel
theorem dX1_lose_43 : decode cX1_lose 43 = .ok (.getfield 21, 3) := by decide +kernel
theorem dX1_lose_46 : decode cX1_lose 46 = .ok (.iload_n 1, 1) := by decide +kernel
theorem dX1_lose_47 : decode cX1_lose 47 = .ok (.iload 4, 2) := by decide +kernel
theorem dX1_lose_49 : decode cX1_lose 49 = .ok (.iastore, 1) := by decide +kernel
theorem dX1_lose_50 : decode cX1_lose 50 = .ok (.aload_n 0, 1) := by decide +kernel
theorem dX1_lose_51 : decode cX1_lose 51 = .ok (.getfield 24, 3) := by decide +kernel
theorem dX1_lose_54 : decode cX1_lose 54 = .ok (.aload_n 0, 1) := by decide +kernel
theorem dX1_lose_55 : decode cX1_lose 55 = .ok (.getfield 27, 3) := by decide +kernel
theorem dX1_lose_58 : decode cX1_lose 58 = .ok (.dup2, 1) := by decide +kernel
theorem dX1_lose_59 : decode cX1_lose 59 = .ok (.iaload, 1) := by decide +kernel
theorem dX1_lose_60 : decode cX1_lose 60 = .ok (.iconst 1, 1) := by decide +kernel
theorem dX1_lose_61 : decode cX1_lose 61 = .ok (.iadd, 1) := by decide +kernel
theorem dX1_lose_62 : decode cX1_lose 62 = .ok (.iastore, 1) := by decide +kernel
theorem dX1_lose_63 : decode cX1_lose 63 = .ok (.aload_n 0, 1) := by decide +kernel
theorem dX1_lose_64 : decode cX1_lose 64 = .ok (.dup, 1) := by decide +kernel
theorem dX1_lose_65 : decode cX1_lose 65 = .ok (.getfield 31, 3) := by decide +kernel
theorem dX1_lose_68 : decode cX1_lose 68 = .ok (.iconst 1, 1) := by decide +kernel
theorem dX1_lose_69 : decode cX1_lose 69 = .ok (.iadd, 1) := by decide +kernel
theorem dX1_lose_70 : decode cX1_lose 70 = .ok (.putfield 31, 3) := by decide +kernel
theorem dX1_lose_73 : decode cX1_lose 73 = .ok (.return_, 1) := by decide +kernel
theorem dX1_isLost_0 : decode cX1_isLost 0 = .ok (.aload_n 0, 1) := by decide +kernel
theorem dX1_isLost_1 : decode cX1_isLost 1 = .ok (.iload_n 1, 1) := by decide +kernel
theorem dX1_isLost_2 : decode cX1_isLost 2 = .ok (.invokevirtual 103, 3) := by decide +kernel
theorem dX1_isLost_5 : decode cX1_isLost 5 = .ok (.bipush (-9), 2) := by decide +kernel
theorem dX1_isLost_7 : decode cX1_isLost 7 = .ok (.if_icmp .eq 7, 3) := by decide +kernel
theorem dX1_isLost_10 : decode cX1_isLost 10 = .ok (.iconst 1, 1) := by decide +kernel
theorem dX1_isLost_11 : decode cX1_isLost 11 = .ok (.goto 4, 3) := by decide +kernel
theorem dX1_isLost_14 : decode cX1_isLost 14 = .ok (.iconst 0, 1) := by decide +kernel
theorem dX1_isLost_15 : decode cX1_isLost 15 = .ok (.ireturn, 1) := by decide +kernel
theorem dX1_isLostInEarlierWave_0 : decode cX1_isLostInEarlierWave 0 = .ok (.iload_n 1, 1) := by decide +kernel
theorem dX1_isLostInEarlierWave_1 : decode cX1_isLostInEarlierWave 1 = .ok (.invokestatic 100, 3) := by decide +kernel
theorem dX1_isLostInEarlierWave_4 : decode cX1_isLostInEarlierWave 4 = .ok (.ifCond .eq 31, 3) := by decide +kernel
theorem dX1_isLostInEarlierWave_7 : decode cX1_isLostInEarlierWave 7 = .ok (.aload_n 0, 1) := by decide +kernel
theorem dX1_isLostInEarlierWave_8 : decode cX1_isLostInEarlierWave 8 = .ok (.getfield 9, 3) := by decide +kernel
theorem dX1_isLostInEarlierWave_11 : decode cX1_isLostInEarlierWave 11 = .ok (.iload_n 1, 1) := by decide +kernel
theorem dX1_isLostInEarlierWave_12 : decode cX1_isLostInEarlierWave 12 = .ok (.iaload, 1) := by decide +kernel
theorem dX1_isLostInEarlierWave_13 : decode cX1_isLostInEarlierWave 13 = .ok (.bipush (-9), 2) := by decide +kernel
theorem dX1_isLostInEarlierWave_15 : decode cX1_isLostInEarlierWave 15 = .ok (.if_icmp .eq 20, 3) := by decide +kernel
theorem dX1_isLostInEarlierWave_18 : decode cX1_isLostInEarlierWave 18 = .ok (.aload_n 0, 1) := by decide +kernel
theorem dX1_isLostInEarlierWave_19 : decode cX1_isLostInEarlierWave 19 = .ok (.getfield 9, 3) := by decide +kernel
theorem dX1_isLostInEarlierWave_22 : decode cX1_isLostInEarlierWave 22 = .ok (.iload_n 1, 1) := by decide +kernel
theorem dX1_isLostInEarlierWave_23 : decode cX1_isLostInEarlierWave 23 = .ok (.iaload, 1) := by decide +kernel
theorem dX1_isLostInEarlierWave_24 : decode cX1_isLostInEarlierWave 24 = .ok (.aload_n 0, 1) := by decide +kernel
theorem dX1_isLostInEarlierWave_25 : decode cX1_isLostInEarlierWave 25 = .ok (.getfield 27, 3) := by decide +kernel
theorem dX1_isLostInEarlierWave_28 : decode cX1_isLostInEarlierWave 28 = .ok (.if_icmp .ge 7, 3) := by decide +kernel
theorem dX1_isLostInEarlierWave_31 : decode cX1_isLostInEarlierWave 31 = .ok (.iconst 1, 1) := by decide +kernel
theorem dX1_isLostInEarlierWave_32 : decode cX1_isLostInEarlierWave 32 = .ok (.goto 4, 3) := by decide +kernel
theorem dX1_isLostInEarlierWave_35 : decode cX1_isLostInEarlierWave 35 = .ok (.iconst 0, 1) := by decide +kernel
theorem dX1_isLostInEarlierWave_36 : decode cX1_isLostInEarlierWave 36 = .ok (.ireturn, 1) := by decide +kernel
theorem dX1_waveOf_0 : decode cX1_waveOf 0 = .ok (.iload_n 1, 1) := by decide +kernel
theorem dX1_waveOf_1 : decode cX1_waveOf 1 = .ok (.invokestatic 100, 3) := by decide +kernel
theorem dX1_waveOf_4 : decode cX1_waveOf 4 = .ok (.ifCond .eq 12, 3) := by decide +kernel
theorem dX1_waveOf_7 : decode cX1_waveOf 7 = .ok (.aload_n 0, 1) := by decide +kernel
theorem dX1_waveOf_8 : decode cX1_waveOf 8 = .ok (.getfield 9, 3) := by decide +kernel
theorem dX1_waveOf_11 : decode cX1_waveOf 11 = .ok (.iload_n 1, 1) := by decide +kernel
theorem dX1_waveOf_12 : decode cX1_waveOf 12 = .ok (.iaload, 1) := by decide +kernel
theorem dX1_waveOf_13 : decode cX1_waveOf 13 = .ok (.goto 5, 3) := by decide +kernel
theorem dX1_waveOf_16 : decode cX1_waveOf 16 = .ok (.bipush (-9), 2) := by decide +kernel
theorem dX1_waveOf_18 : decode cX1_waveOf 18 = .ok (.ireturn, 1) := by decide +kernel
theorem dX1_reasonOf_0 : decode cX1_reasonOf 0 = .ok (.aload_n 0, 1) := by decide +kernel
theorem dX1_reasonOf_1 : decode cX1_reasonOf 1 = .ok (.iload_n 1, 1) := by decide +kernel
theorem dX1_reasonOf_2 : decode cX1_reasonOf 2 = .ok (.invokevirtual 75, 3) := by decide +kernel
theorem dX1_reasonOf_5 : decode cX1_reasonOf 5 = .ok (.ifCond .eq 12, 3) := by decide +kernel
theorem dX1_reasonOf_8 : decode cX1_reasonOf 8 = .ok (.aload_n 0, 1) := by decide +kernel
theorem dX1_reasonOf_9 : decode cX1_reasonOf 9 = .ok (.getfield 15, 3) := by decide +kernel
theorem dX1_reasonOf_12 : decode cX1_reasonOf 12 = .ok (.iload_n 1, 1) := by decide +kernel
theorem dX1_reasonOf_13 : decode cX1_reasonOf 13 = .ok (.iaload, 1) := by decide +kernel
theorem dX1_reasonOf_14 : decode cX1_reasonOf 14 = .ok (.goto 5, 3) := by decide +kernel
theorem dX1_reasonOf_17 : decode cX1_reasonOf 17 = .ok (.bipush (-9), 2) := by decide +kernel
theorem dX1_reasonOf_19 : decode cX1_reasonOf 19 = .ok (.ireturn, 1) := by decide +kernel
theorem dX1_eventOf_0 : decode cX1_eventOf 0 = .ok (.aload_n 0, 1) := by decide +kernel
theorem dX1_eventOf_1 : decode cX1_eventOf 1 = .ok (.iload_n 1, 1) := by decide +kernel
theorem dX1_eventOf_2 : decode cX1_eventOf 2 = .ok (.invokevirtual 75, 3) := by decide +kernel
theorem dX1_eventOf_5 : decode cX1_eventOf 5 = .ok (.ifCond .eq 12, 3) := by decide +kernel
theorem dX1_eventOf_8 : decode cX1_eventOf 8 = .ok (.aload_n 0, 1) := by decide +kernel
theorem dX1_eventOf_9 : decode cX1_eventOf 9 = .ok (.getfield 18, 3) := by decide +kernel
theorem dX1_eventOf_12 : decode cX1_eventOf 12 = .ok (.iload_n 1, 1) := by decide +kernel
theorem dX1_eventOf_13 : decode cX1_eventOf 13 = .ok (.iaload, 1) := by decide +kernel
theorem dX1_eventOf_14 : decode cX1_eventOf 14 = .ok (.goto 5, 3) := by decide +kernel
theorem dX1_eventOf_17 : decode cX1_eventOf 17 = .ok (.bipush (-9), 2) := by decide +kernel
theorem dX1_eventOf_19 : decode cX1_eventOf 19 = .ok (.ireturn, 1) := by decide +kernel
theorem dX1_linkBehind_0 : decode cX1_linkBehind 0 = .ok (.aload_n 0, 1) := by decide +kernel
theorem dX1_linkBehind_1 : decode cX1_linkBehind 1 = .ok (.iload_n 1, 1) := by decide +kernel
theorem dX1_linkBehind_2 : decode cX1_linkBehind 2 = .ok (.invokevirtual 75, 3) := by decide +kernel
theorem dX1_linkBehind_5 : decode cX1_linkBehind 5 = .ok (.ifCond .eq 7, 3) := by decide +kernel
theorem dX1_linkBehind_8 : decode cX1_linkBehind 8 = .ok (.iload_n 1, 1) := by decide +kernel
theorem dX1_linkBehind_9 : decode cX1_linkBehind 9 = .ok (.goto 5, 3) := by decide +kernel
theorem dX1_linkBehind_12 : decode cX1_linkBehind 12 = .ok (.bipush (-9), 2) := by decide +kernel
theorem dX1_linkBehind_14 : decode cX1_linkBehind 14 = .ok (.istore_n 3, 1) := by decide +kernel
theorem dX1_linkBehind_15 : decode cX1_linkBehind 15 = .ok (.iconst 0, 1) := by decide +kernel
theorem dX1_linkBehind_16 : decode cX1_linkBehind 16 = .ok (.istore 4, 2) := by decide +kernel
theorem dX1_linkBehind_18 : decode cX1_linkBehind 18 = .ok (.iload 4, 2) := by decide +kernel
theorem dX1_linkBehind_20 : decode cX1_linkBehind 20 = .ok (.iload_n 2, 1) := by decide +kernel
theorem dX1_linkBehind_21 : decode cX1_linkBehind 21 = .ok (.if_icmp .ge 23, 3) := by decide +kernel
theorem dX1_linkBehind_24 : decode cX1_linkBehind 24 = .ok (.iload_n 3, 1) := by decide +kernel
theorem dX1_linkBehind_25 : decode cX1_linkBehind 25 = .ok (.invokestatic 100, 3) := by decide +kernel
theorem dX1_linkBehind_28 : decode cX1_linkBehind 28 = .ok (.ifCond .eq 16, 3) := by decide +kernel
theorem dX1_linkBehind_31 : decode cX1_linkBehind 31 = .ok (.aload_n 0, 1) := by decide +kernel
theorem dX1_linkBehind_32 : decode cX1_linkBehind 32 = .ok (.getfield 21, 3) := by decide +kernel
theorem dX1_linkBehind_35 : decode cX1_linkBehind 35 = .ok (.iload_n 3, 1) := by decide +kernel
theorem dX1_linkBehind_36 : decode cX1_linkBehind 36 = .ok (.iaload, 1) := by decide +kernel
theorem dX1_linkBehind_37 : decode cX1_linkBehind 37 = .ok (.istore_n 3, 1) := by decide +kernel
theorem dX1_linkBehind_38 : decode cX1_linkBehind 38 = .ok (.iinc 4 1, 3) := by decide +kernel
theorem dX1_linkBehind_41 : decode cX1_linkBehind 41 = .ok (.goto (-23), 3) := by decide +kernel
theorem dX1_linkBehind_44 : decode cX1_linkBehind 44 = .ok (.iload_n 3, 1) := by decide +kernel
theorem dX1_linkBehind_45 : decode cX1_linkBehind 45 = .ok (.ireturn, 1) := by decide +kernel
theorem dX1_hasWave_0 : decode cX1_hasWave 0 = .ok (.iload_n 1, 1) := by decide +kernel
theorem dX1_hasWave_1 : decode cX1_hasWave 1 = .ok (.ifCond .lt 15, 3) := by decide +kernel
theorem dX1_hasWave_4 : decode cX1_hasWave 4 = .ok (.iload_n 1, 1) := by decide +kernel
theorem dX1_hasWave_5 : decode cX1_hasWave 5 = .ok (.aload_n 0, 1) := by decide +kernel
theorem dX1_hasWave_6 : decode cX1_hasWave 6 = .ok (.getfield 27, 3) := by decide +kernel
theorem dX1_hasWave_9 : decode cX1_hasWave 9 = .ok (.if_icmp .ge 7, 3) := by decide +kernel
theorem dX1_hasWave_12 : decode cX1_hasWave 12 = .ok (.iconst 1, 1) := by decide +kernel
theorem dX1_hasWave_13 : decode cX1_hasWave 13 = .ok (.goto 4, 3) := by decide +kernel
theorem dX1_hasWave_16 : decode cX1_hasWave 16 = .ok (.iconst 0, 1) := by decide +kernel
theorem dX1_hasWave_17 : decode cX1_hasWave 17 = .ok (.ireturn, 1) := by decide +kernel
theorem dX1_sizeOfWave_0 : decode cX1_sizeOfWave 0 = .ok (.iload_n 1, 1) := by decide +kernel
theorem dX1_sizeOfWave_1 : decode cX1_sizeOfWave 1 = .ok (.ifCond .lt 19, 3) := by decide +kernel
theorem dX1_sizeOfWave_4 : decode cX1_sizeOfWave 4 = .ok (.iload_n 1, 1) := by decide +kernel
theorem dX1_sizeOfWave_5 : decode cX1_sizeOfWave 5 = .ok (.sipush 151, 3) := by decide +kernel
theorem dX1_sizeOfWave_8 : decode cX1_sizeOfWave 8 = .ok (.if_icmp .ge 12, 3) := by decide +kernel
theorem dX1_sizeOfWave_11 : decode cX1_sizeOfWave 11 = .ok (.aload_n 0, 1) := by decide +kernel
theorem dX1_sizeOfWave_12 : decode cX1_sizeOfWave 12 = .ok (.getfield 24, 3) := by decide +kernel
theorem dX1_sizeOfWave_15 : decode cX1_sizeOfWave 15 = .ok (.iload_n 1, 1) := by decide +kernel
theorem dX1_sizeOfWave_16 : decode cX1_sizeOfWave 16 = .ok (.iaload, 1) := by decide +kernel
theorem dX1_sizeOfWave_17 : decode cX1_sizeOfWave 17 = .ok (.goto 4, 3) := by decide +kernel
theorem dX1_sizeOfWave_20 : decode cX1_sizeOfWave 20 = .ok (.iconst 0, 1) := by decide +kernel
theorem dX1_sizeOfWave_21 : decode cX1_sizeOfWave 21 = .ok (.ireturn, 1) := by decide +kernel
theorem dX2_init_0 : decode cX2_init 0 = .ok (.aload_n 0, 1) := by decide +kernel
theorem dX2_init_1 : decode cX2_init 1 = .ok (.invokespecial 3, 3) := by decide +kernel
theorem dX2_init_4 : decode cX2_init 4 = .ok (.aload_n 0, 1) := by decide +kernel
theorem dX2_init_5 : decode cX2_init 5 = .ok (.bipush 48, 2) := by decide +kernel
theorem dX2_init_7 : decode cX2_init 7 = .ok (.newarray .int, 2) := by decide +kernel
theorem dX2_init_9 : decode cX2_init 9 = .ok (.putfield 9, 3) := by decide +kernel
theorem dX2_init_12 : decode cX2_init 12 = .ok (.aload_n 0, 1) := by decide +kernel
theorem dX2_init_13 : decode cX2_init 13 = .ok (.bipush 6, 2) := by decide +kernel
theorem dX2_init_15 : decode cX2_init 15 = .ok (.newarray .int, 2) := by decide +kernel
theorem dX2_init_17 : decode cX2_init 17 = .ok (.putfield 15, 3) := by decide +kernel
theorem dX2_init_20 : decode cX2_init 20 = .ok (.aload_n 0, 1) := by decide +kernel
theorem dX2_init_21 : decode cX2_init 21 = .ok (.iconst 0, 1) := by decide +kernel
theorem dX2_init_22 : decode cX2_init 22 = .ok (.putfield 18, 3) := by decide +kernel
theorem dX2_init_25 : decode cX2_init 25 = .ok (.aload_n 0, 1) := by decide +kernel
theorem dX2_init_26 : decode cX2_init 26 = .ok (.iconst 0, 1) := by decide +kernel
theorem dX2_init_27 : decode cX2_init 27 = .ok (.putfield 22, 3) := by decide +kernel
theorem dX2_init_30 : decode cX2_init 30 = .ok (.aload_n 0, 1) := by decide +kernel
theorem dX2_init_31 : decode cX2_init 31 = .ok (.iconst 0, 1) := by decide +kernel
theorem dX2_init_32 : decode cX2_init 32 = .ok (.putfield 25, 3) := by decide +kernel
theorem dX2_init_35 : decode cX2_init 35 = .ok (.aload_n 0, 1) := by decide +kernel
theorem dX2_init_36 : decode cX2_init 36 = .ok (.iconst 0, 1) := by decide +kernel
theorem dX2_init_37 : decode cX2_init 37 = .ok (.putfield 28, 3) := by decide +kernel
theorem dX2_init_40 : decode cX2_init 40 = .ok (.aload_n 0, 1) := by decide +kernel
theorem dX2_init_41 : decode cX2_init 41 = .ok (.iconst 0, 1) := by decide +kernel
theorem dX2_init_42 : decode cX2_init 42 = .ok (.putfield 31, 3) := by decide +kernel
theorem dX2_init_45 : decode cX2_init 45 = .ok (.return_, 1) := by decide +kernel
theorem dX2_clear_0 : decode cX2_clear 0 = .ok (.aload_n 0, 1) := by decide +kernel
theorem dX2_clear_1 : decode cX2_clear 1 = .ok (.getfield 9, 3) := by decide +kernel
theorem dX2_clear_4 : decode cX2_clear 4 = .ok (.bipush (-9), 2) := by decide +kernel
theorem dX2_clear_6 : decode cX2_clear 6 = .ok (.invokestatic 34, 3) := by decide +kernel
theorem dX2_clear_9 : decode cX2_clear 9 = .ok (.aload_n 0, 1) := by decide +kernel
theorem dX2_clear_10 : decode cX2_clear 10 = .ok (.getfield 15, 3) := by decide +kernel
theorem dX2_clear_13 : decode cX2_clear 13 = .ok (.iconst 0, 1) := by decide +kernel
theorem dX2_clear_14 : decode cX2_clear 14 = .ok (.invokestatic 34, 3) := by decide +kernel
theorem dX2_clear_17 : decode cX2_clear 17 = .ok (.aload_n 0, 1) := by decide +kernel
theorem dX2_clear_18 : decode cX2_clear 18 = .ok (.iload_n 1, 1) := by decide +kernel
theorem dX2_clear_19 : decode cX2_clear 19 = .ok (.putfield 18, 3) := by decide +kernel
theorem dX2_clear_22 : decode cX2_clear 22 = .ok (.aload_n 0, 1) := by decide +kernel
theorem dX2_clear_23 : decode cX2_clear 23 = .ok (.iconst 0, 1) := by decide +kernel
theorem dX2_clear_24 : decode cX2_clear 24 = .ok (.putfield 22, 3) := by decide +kernel
theorem dX2_clear_27 : decode cX2_clear 27 = .ok (.aload_n 0, 1) := by decide +kernel
theorem dX2_clear_28 : decode cX2_clear 28 = .ok (.iconst 0, 1) := by decide +kernel
theorem dX2_clear_29 : decode cX2_clear 29 = .ok (.putfield 25, 3) := by decide +kernel
theorem dX2_clear_32 : decode cX2_clear 32 = .ok (.aload_n 0, 1) := by decide +kernel
theorem dX2_clear_33 : decode cX2_clear 33 = .ok (.iconst 0, 1) := by decide +kernel
theorem dX2_clear_34 : decode cX2_clear 34 = .ok (.putfield 28, 3) := by decide +kernel
theorem dX2_clear_37 : decode cX2_clear 37 = .ok (.aload_n 0, 1) := by decide +kernel
theorem dX2_clear_38 : decode cX2_clear 38 = .ok (.iconst 0, 1) := by decide +kernel
theorem dX2_clear_39 : decode cX2_clear 39 = .ok (.putfield 31, 3) := by decide +kernel
theorem dX2_clear_42 : decode cX2_clear 42 = .ok (.return_, 1) := by decide +kernel
theorem dX2_tellStep_0 : decode cX2_tellStep 0 = .ok (.iload_n 1, 1) := by decide +kernel
theorem dX2_tellStep_1 : decode cX2_tellStep 1 = .ok (.invokestatic 40, 3) := by decide +kernel
theorem dX2_tellStep_4 : decode cX2_tellStep 4 = .ok (.ifCond .eq 17, 3) := by decide +kernel
theorem dX2_tellStep_7 : decode cX2_tellStep 7 = .ok (.iload_n 2, 1) := by decide +kernel
theorem dX2_tellStep_8 : decode cX2_tellStep 8 = .ok (.invokestatic 44, 3) := by decide +kernel
theorem dX2_tellStep_11 : decode cX2_tellStep 11 = .ok (.ifCond .eq 10, 3) := by decide +kernel
theorem dX2_tellStep_14 : decode cX2_tellStep 14 = .ok (.iload_n 3, 1) := by decide +kernel
theorem dX2_tellStep_15 : decode cX2_tellStep 15 = .ok (.invokestatic 40, 3) := by decide +kernel
theorem dX2_tellStep_18 : decode cX2_tellStep 18 = .ok (.ifCond .ne 5, 3) := by decide +kernel
theorem dX2_tellStep_21 : decode cX2_tellStep 21 = .ok (.iconst 0, 1) := by decide +kernel
theorem dX2_tellStep_22 : decode cX2_tellStep 22 = .ok (.ireturn, 1) := by decide +kernel
theorem dX2_tellStep_23 : decode cX2_tellStep 23 = .ok (.aload_n 0, 1) := by decide +kernel
theorem dX2_tellStep_24 : decode cX2_tellStep 24 = .ok (.getfield 9, 3) := by decide +kernel
theorem dX2_tellStep_27 : decode cX2_tellStep 27 = .ok (.iload_n 1, 1) := by decide +kernel
theorem dX2_tellStep_28 : decode cX2_tellStep 28 = .ok (.bipush 8, 2) := by decide +kernel
theorem dX2_tellStep_30 : decode cX2_tellStep 30 = .ok (.imul, 1) := by decide +kernel
theorem dX2_tellStep_31 : decode cX2_tellStep 31 = .ok (.iload_n 2, 1) := by decide +kernel
theorem dX2_tellStep_32 : decode cX2_tellStep 32 = .ok (.iadd, 1) := by decide +kernel
theorem dX2_tellStep_33 : decode cX2_tellStep 33 = .ok (.iaload, 1) := by decide +kernel
theorem dX2_tellStep_34 : decode cX2_tellStep 34 = .ok (.istore 4, 2) := by decide +kernel
theorem dX2_tellStep_36 : decode cX2_tellStep 36 = .ok (.iload 4, 2) := by decide +kernel
theorem dX2_tellStep_38 : decode cX2_tellStep 38 = .ok (.bipush (-9), 2) := by decide +kernel
theorem dX2_tellStep_40 : decode cX2_tellStep 40 = .ok (.if_icmp .eq 15, 3) := by decide +kernel
theorem dX2_tellStep_43 : decode cX2_tellStep 43 = .ok (.iload 4, 2) := by decide +kernel
theorem dX2_tellStep_45 : decode cX2_tellStep 45 = .ok (.iload_n 3, 1) := by decide +kernel
theorem dX2_tellStep_46 : decode cX2_tellStep 46 = .ok (.if_icmp .ne 7, 3) := by decide +kernel
theorem dX2_tellStep_49 : decode cX2_tellStep 49 = .ok (.iconst 1, 1) := by decide +kernel
theorem dX2_tellStep_50 : decode cX2_tellStep 50 = .ok (.goto 4, 3) := by decide +kernel
theorem dX2_tellStep_53 : decode cX2_tellStep 53 = .ok (.iconst 0, 1) := by decide +kernel
theorem dX2_tellStep_54 : decode cX2_tellStep 54 = .ok (.ireturn, 1) := by decide +kernel
theorem dX2_tellStep_55 : decode cX2_tellStep 55 = .ok (.aload_n 0, 1) := by decide +kernel
theorem dX2_tellStep_56 : decode cX2_tellStep 56 = .ok (.getfield 9, 3) := by decide +kernel
theorem dX2_tellStep_59 : decode cX2_tellStep 59 = .ok (.iload_n 1, 1) := by decide +kernel
theorem dX2_tellStep_60 : decode cX2_tellStep 60 = .ok (.bipush 8, 2) := by decide +kernel
theorem dX2_tellStep_62 : decode cX2_tellStep 62 = .ok (.imul, 1) := by decide +kernel
theorem dX2_tellStep_63 : decode cX2_tellStep 63 = .ok (.iload_n 2, 1) := by decide +kernel
theorem dX2_tellStep_64 : decode cX2_tellStep 64 = .ok (.iadd, 1) := by decide +kernel
theorem dX2_tellStep_65 : decode cX2_tellStep 65 = .ok (.iload_n 3, 1) := by decide +kernel
theorem dX2_tellStep_66 : decode cX2_tellStep 66 = .ok (.iastore, 1) := by decide +kernel
theorem dX2_tellStep_67 : decode cX2_tellStep 67 = .ok (.aload_n 0, 1) := by decide +kernel
theorem dX2_tellStep_68 : decode cX2_tellStep 68 = .ok (.getfield 15, 3) := by decide +kernel
theorem dX2_tellStep_71 : decode cX2_tellStep 71 = .ok (.iload_n 1, 1) := by decide +kernel
theorem dX2_tellStep_72 : decode cX2_tellStep 72 = .ok (.dup2, 1) := by decide +kernel
theorem dX2_tellStep_73 : decode cX2_tellStep 73 = .ok (.iaload, 1) := by decide +kernel
theorem dX2_tellStep_74 : decode cX2_tellStep 74 = .ok (.iconst 1, 1) := by decide +kernel
theorem dX2_tellStep_75 : decode cX2_tellStep 75 = .ok (.iload_n 2, 1) := by decide +kernel
theorem dX2_tellStep_76 : decode cX2_tellStep 76 = .ok (.ishl, 1) := by decide +kernel
theorem dX2_tellStep_77 : decode cX2_tellStep 77 = .ok (.ior, 1) := by decide +kernel
theorem dX2_tellStep_78 : decode cX2_tellStep 78 = .ok (.iastore, 1) := by decide +kernel
theorem dX2_tellStep_79 : decode cX2_tellStep 79 = .ok (.aload_n 0, 1) := by decide +kernel
theorem dX2_tellStep_80 : decode cX2_tellStep 80 = .ok (.dup, 1) := by decide +kernel
theorem dX2_tellStep_81 : decode cX2_tellStep 81 = .ok (.getfield 22, 3) := by decide +kernel
theorem dX2_tellStep_84 : decode cX2_tellStep 84 = .ok (.iconst 1, 1) := by decide +kernel
theorem dX2_tellStep_85 : decode cX2_tellStep 85 = .ok (.iload_n 2, 1) := by decide +kernel
theorem dX2_tellStep_86 : decode cX2_tellStep 86 = .ok (.ishl, 1) := by decide +kernel
theorem dX2_tellStep_87 : decode cX2_tellStep 87 = .ok (.ior, 1) := by decide +kernel
theorem dX2_tellStep_88 : decode cX2_tellStep 88 = .ok (.putfield 22, 3) := by decide +kernel
theorem dX2_tellStep_91 : decode cX2_tellStep 91 = .ok (.aload_n 0, 1) := by decide +kernel
theorem dX2_tellStep_92 : decode cX2_tellStep 92 = .ok (.dup, 1) := by decide +kernel
theorem dX2_tellStep_93 : decode cX2_tellStep 93 = .ok (.getfield 28, 3) := by decide +kernel
theorem dX2_tellStep_96 : decode cX2_tellStep 96 = .ok (.iconst 1, 1) := by decide +kernel
theorem dX2_tellStep_97 : decode cX2_tellStep 97 = .ok (.iadd, 1) := by decide +kernel
theorem dX2_tellStep_98 : decode cX2_tellStep 98 = .ok (.putfield 28, 3) := by decide +kernel
theorem dX2_tellStep_101 : decode cX2_tellStep 101 = .ok (.aload_n 0, 1) := by decide +kernel
theorem dX2_tellStep_102 : decode cX2_tellStep 102 = .ok (.aload_n 0, 1) := by decide +kernel
theorem dX2_tellStep_103 : decode cX2_tellStep 103 = .ok (.getfield 31, 3) := by decide +kernel
theorem dX2_tellStep_106 : decode cX2_tellStep 106 = .ok (.iload_n 1, 1) := by decide +kernel
theorem dX2_tellStep_107 : decode cX2_tellStep 107 = .ok (.iload_n 3, 1) := by decide +kernel
theorem dX2_tellStep_108 : decode cX2_tellStep 108 = .ok (.invokestatic 47, 3) := by decide +kernel
theorem dX2_tellStep_111 : decode cX2_tellStep 111 = .ok (.invokestatic 47, 3) := by decide +kernel
theorem dX2_tellStep_114 : decode cX2_tellStep 114 = .ok (.putfield 31, 3) := by decide +kernel
theorem dX2_tellStep_117 : decode cX2_tellStep 117 = .ok (.iconst 1, 1) := by decide +kernel
theorem dX2_tellStep_118 : decode cX2_tellStep 118 = .ok (.ireturn, 1) := by decide +kernel
theorem dX2_tellMarked_0 : decode cX2_tellMarked 0 = .ok (.iload_n 1, 1) := by decide +kernel
theorem dX2_tellMarked_1 : decode cX2_tellMarked 1 = .ok (.invokestatic 40, 3) := by decide +kernel
theorem dX2_tellMarked_4 : decode cX2_tellMarked 4 = .ok (.ifCond .ne 5, 3) := by decide +kernel
theorem dX2_tellMarked_7 : decode cX2_tellMarked 7 = .ok (.iconst 0, 1) := by decide +kernel
theorem dX2_tellMarked_8 : decode cX2_tellMarked 8 = .ok (.ireturn, 1) := by decide +kernel
theorem dX2_tellMarked_9 : decode cX2_tellMarked 9 = .ok (.aload_n 0, 1) := by decide +kernel
theorem dX2_tellMarked_10 : decode cX2_tellMarked 10 = .ok (.dup, 1) := by decide +kernel
theorem dX2_tellMarked_11 : decode cX2_tellMarked 11 = .ok (.getfield 25, 3) := by decide +kernel
theorem dX2_tellMarked_14 : decode cX2_tellMarked 14 = .ok (.iconst 1, 1) := by decide +kernel
theorem dX2_tellMarked_15 : decode cX2_tellMarked 15 = .ok (.iload_n 1, 1) := by decide +kernel
theorem dX2_tellMarked_16 : decode cX2_tellMarked 16 = .ok (.ishl, 1) := by decide +kernel
theorem dX2_tellMarked_17 : decode cX2_tellMarked 17 = .ok (.ior, 1) := by decide +kernel
theorem dX2_tellMarked_18 : decode cX2_tellMarked 18 = .ok (.putfield 25, 3) := by decide +kernel
theorem dX2_tellMarked_21 : decode cX2_tellMarked 21 = .ok (.aload_n 0, 1) := by decide +kernel
theorem dX2_tellMarked_22 : decode cX2_tellMarked 22 = .ok (.aload_n 0, 1) := by decide +kernel
theorem dX2_tellMarked_23 : decode cX2_tellMarked 23 = .ok (.getfield 31, 3) := by decide +kernel
theorem dX2_tellMarked_26 : decode cX2_tellMarked 26 = .ok (.iload_n 1, 1) := by decide +kernel
theorem dX2_tellMarked_27 : decode cX2_tellMarked 27 = .ok (.invokestatic 47, 3) := by decide +kernel
theorem dX2_tellMarked_30 : decode cX2_tellMarked 30 = .ok (.putfield 31, 3) := by decide +kernel
theorem dX2_tellMarked_33 : decode cX2_tellMarked 33 = .ok (.iconst 1, 1) := by decide +kernel
theorem dX2_tellMarked_34 : decode cX2_tellMarked 34 = .ok (.ireturn, 1) := by decide +kernel
theorem dX2_tellEvent_0 : decode cX2_tellEvent 0 = .ok (.iload_n 1, 1) := by decide +kernel
theorem dX2_tellEvent_1 : decode cX2_tellEvent 1 = .ok (.invokestatic 44, 3) := by decide +kernel
theorem dX2_tellEvent_4 : decode cX2_tellEvent 4 = .ok (.ifCond .ne 5, 3) := by decide +kernel
theorem dX2_tellEvent_7 : decode cX2_tellEvent 7 = .ok (.iconst 0, 1) := by decide +kernel
theorem dX2_tellEvent_8 : decode cX2_tellEvent 8 = .ok (.ireturn, 1) := by decide +kernel
theorem dX2_tellEvent_9 : decode cX2_tellEvent 9 = .ok (.aload_n 0, 1) := by decide +kernel
theorem dX2_tellEvent_10 : decode cX2_tellEvent 10 = .ok (.dup, 1) := by decide +kernel
theorem dX2_tellEvent_11 : decode cX2_tellEvent 11 = .ok (.getfield 22, 3) := by decide +kernel
theorem dX2_tellEvent_14 : decode cX2_tellEvent 14 = .ok (.iconst 1, 1) := by decide +kernel
theorem dX2_tellEvent_15 : decode cX2_tellEvent 15 = .ok (.iload_n 1, 1) := by decide +kernel
theorem dX2_tellEvent_16 : decode cX2_tellEvent 16 = .ok (.ishl, 1) := by decide +kernel
theorem dX2_tellEvent_17 : decode cX2_tellEvent 17 = .ok (.ior, 1) := by decide +kernel
theorem dX2_tellEvent_18 : decode cX2_tellEvent 18 = .ok (.putfield 22, 3) := by decide +kernel
theorem dX2_tellEvent_21 : decode cX2_tellEvent 21 = .ok (.iconst 1, 1) := by decide +kernel
theorem dX2_tellEvent_22 : decode cX2_tellEvent 22 = .ok (.ireturn, 1) := by decide +kernel
theorem dX2_target_0 : decode cX2_target 0 = .ok (.iload_n 1, 1) := by decide +kernel
theorem dX2_target_1 : decode cX2_target 1 = .ok (.invokestatic 40, 3) := by decide +kernel
theorem dX2_target_4 : decode cX2_target 4 = .ok (.ifCond .eq 24, 3) := by decide +kernel
theorem dX2_target_7 : decode cX2_target 7 = .ok (.iload_n 2, 1) := by decide +kernel
theorem dX2_target_8 : decode cX2_target 8 = .ok (.invokestatic 44, 3) := by decide +kernel
theorem dX2_target_11 : decode cX2_target 11 = .ok (.ifCond .eq 17, 3) := by decide +kernel
theorem dX2_target_14 : decode cX2_target 14 = .ok (.aload_n 0, 1) := by decide +kernel
theorem dX2_target_15 : decode cX2_target 15 = .ok (.getfield 9, 3) := by decide +kernel
theorem dX2_target_18 : decode cX2_target 18 = .ok (.iload_n 1, 1) := by decide +kernel
theorem dX2_target_19 : decode cX2_target 19 = .ok (.bipush 8, 2) := by decide +kernel
theorem dX2_target_21 : decode cX2_target 21 = .ok (.imul, 1) := by decide +kernel
theorem dX2_target_22 : decode cX2_target 22 = .ok (.iload_n 2, 1) := by decide +kernel
theorem dX2_target_23 : decode cX2_target 23 = .ok (.iadd, 1) := by decide +kernel
theorem dX2_target_24 : decode cX2_target 24 = .ok (.iaload, 1) := by decide +kernel
theorem dX2_target_25 : decode cX2_target 25 = .ok (.goto 5, 3) := by decide +kernel
theorem dX2_target_28 : decode cX2_target 28 = .ok (.bipush (-9), 2) := by decide +kernel
theorem dX2_target_30 : decode cX2_target 30 = .ok (.ireturn, 1) := by decide +kernel
theorem dX2_missingSet_0 : decode cX2_missingSet 0 = .ok (.iload_n 1, 1) := by decide +kernel
theorem dX2_missingSet_1 : decode cX2_missingSet 1 = .ok (.invokestatic 40, 3) := by decide +kernel
theorem dX2_missingSet_4 : decode cX2_missingSet 4 = .ok (.ifCond .eq 19, 3) := by decide +kernel
theorem dX2_missingSet_7 : decode cX2_missingSet 7 = .ok (.aload_n 0, 1) := by decide +kernel
theorem dX2_missingSet_8 : decode cX2_missingSet 8 = .ok (.getfield 22, 3) := by decide +kernel
theorem dX2_missingSet_11 : decode cX2_missingSet 11 = .ok (.aload_n 0, 1) := by decide +kernel
theorem dX2_missingSet_12 : decode cX2_missingSet 12 = .ok (.getfield 15, 3) := by decide +kernel
theorem dX2_missingSet_15 : decode cX2_missingSet 15 = .ok (.iload_n 1, 1) := by decide +kernel
theorem dX2_missingSet_16 : decode cX2_missingSet 16 = .ok (.iaload, 1) := by decide +kernel
theorem dX2_missingSet_17 : decode cX2_missingSet 17 = .ok (.iconst (-1), 1) := by decide +kernel
theorem dX2_missingSet_18 : decode cX2_missingSet 18 = .ok (.ixor, 1) := by decide +kernel
theorem dX2_missingSet_19 : decode cX2_missingSet 19 = .ok (.iand, 1) := by decide +kernel
theorem dX2_missingSet_20 : decode cX2_missingSet 20 = .ok (.goto 4, 3) := by decide +kernel
theorem dX2_missingSet_23 : decode cX2_missingSet 23 = .ok (.iconst 0, 1) := by decide +kernel
theorem dX2_missingSet_24 : decode cX2_missingSet 24 = .ok (.ireturn, 1) := by decide +kernel
theorem dX3_init_0 : decode cX3_init 0 = .ok (.aload_n 0, 1) := by decide +kernel
theorem dX3_init_1 : decode cX3_init 1 = .ok (.invokespecial 3, 3) := by decide +kernel
theorem dX3_init_4 : decode cX3_init 4 = .ok (.aload_n 0, 1) := by decide +kernel
theorem dX3_init_5 : decode cX3_init 5 = .ok (.sipush 150, 3) := by decide +kernel
theorem dX3_init_8 : decode cX3_init 8 = .ok (.newarray .int, 2) := by decide +kernel
theorem dX3_init_10 : decode cX3_init 10 = .ok (.putfield 9, 3) := by decide +kernel
theorem dX3_init_13 : decode cX3_init 13 = .ok (.aload_n 0, 1) := by decide +kernel
theorem dX3_init_14 : decode cX3_init 14 = .ok (.sipush 150, 3) := by decide +kernel
theorem dX3_init_17 : decode cX3_init 17 = .ok (.newarray .int, 2) := by decide +kernel
theorem dX3_init_19 : decode cX3_init 19 = .ok (.putfield 15, 3) := by decide +kernel
theorem dX3_init_22 : decode cX3_init 22 = .ok (.aload_n 0, 1) := by decide +kernel
theorem dX3_init_23 : decode cX3_init 23 = .ok (.sipush 150, 3) := by decide +kernel
theorem dX3_init_26 : decode cX3_init 26 = .ok (.newarray .int, 2) := by decide +kernel
theorem dX3_init_28 : decode cX3_init 28 = .ok (.putfield 18, 3) := by decide +kernel
theorem dX3_init_31 : decode cX3_init 31 = .ok (.aload_n 0, 1) := by decide +kernel
theorem dX3_init_32 : decode cX3_init 32 = .ok (.sipush 150, 3) := by decide +kernel
theorem dX3_init_35 : decode cX3_init 35 = .ok (.newarray .boolean, 2) := by decide +kernel
theorem dX3_init_37 : decode cX3_init 37 = .ok (.putfield 21, 3) := by decide +kernel
theorem dX3_init_40 : decode cX3_init 40 = .ok (.aload_n 0, 1) := by decide +kernel
theorem dX3_init_41 : decode cX3_init 41 = .ok (.sipush 1200, 3) := by decide +kernel
theorem dX3_init_44 : decode cX3_init 44 = .ok (.newarray .int, 2) := by decide +kernel
theorem dX3_init_46 : decode cX3_init 46 = .ok (.putfield 25, 3) := by decide +kernel
theorem dX3_init_49 : decode cX3_init 49 = .ok (.aload_n 0, 1) := by decide +kernel
theorem dX3_init_50 : decode cX3_init 50 = .ok (.sipush 150, 3) := by decide +kernel
theorem dX3_init_53 : decode cX3_init 53 = .ok (.newarray .int, 2) := by decide +kernel
theorem dX3_init_55 : decode cX3_init 55 = .ok (.putfield 28, 3) := by decide +kernel
theorem dX3_init_58 : decode cX3_init 58 = .ok (.aload_n 0, 1) := by decide +kernel
theorem dX3_init_59 : decode cX3_init 59 = .ok (.sipush 1200, 3) := by decide +kernel
theorem dX3_init_62 : decode cX3_init 62 = .ok (.newarray .int, 2) := by decide +kernel
theorem dX3_init_64 : decode cX3_init 64 = .ok (.putfield 31, 3) := by decide +kernel
theorem dX3_init_67 : decode cX3_init 67 = .ok (.aload_n 0, 1) := by decide +kernel
theorem dX3_init_68 : decode cX3_init 68 = .ok (.sipush 256, 3) := by decide +kernel
theorem dX3_init_71 : decode cX3_init 71 = .ok (.newarray .int, 2) := by decide +kernel
theorem dX3_init_73 : decode cX3_init 73 = .ok (.putfield 34, 3) := by decide +kernel
theorem dX3_init_76 : decode cX3_init 76 = .ok (.aload_n 0, 1) := by decide +kernel
theorem dX3_init_77 : decode cX3_init 77 = .ok (.sipush 150, 3) := by decide +kernel
theorem dX3_init_80 : decode cX3_init 80 = .ok (.newarray .int, 2) := by decide +kernel
theorem dX3_init_82 : decode cX3_init 82 = .ok (.putfield 37, 3) := by decide +kernel
theorem dX3_init_85 : decode cX3_init 85 = .ok (.aload_n 0, 1) := by decide +kernel
theorem dX3_init_86 : decode cX3_init 86 = .ok (.sipush 150, 3) := by decide +kernel
theorem dX3_init_89 : decode cX3_init 89 = .ok (.newarray .int, 2) := by decide +kernel
theorem dX3_init_91 : decode cX3_init 91 = .ok (.putfield 40, 3) := by decide +kernel
theorem dX3_init_94 : decode cX3_init 94 = .ok (.aload_n 0, 1) := by decide +kernel
theorem dX3_init_95 : decode cX3_init 95 = .ok (.iconst 0, 1) := by decide +kernel
theorem dX3_init_96 : decode cX3_init 96 = .ok (.putfield 43, 3) := by decide +kernel
theorem dX3_init_99 : decode cX3_init 99 = .ok (.aload_n 0, 1) := by decide +kernel
theorem dX3_init_100 : decode cX3_init 100 = .ok (.iconst 0, 1) := by decide +kernel
theorem dX3_init_101 : decode cX3_init 101 = .ok (.putfield 47, 3) := by decide +kernel
theorem dX3_init_104 : decode cX3_init 104 = .ok (.aload_n 0, 1) := by decide +kernel
theorem dX3_init_105 : decode cX3_init 105 = .ok (.iconst 0, 1) := by decide +kernel
theorem dX3_init_106 : decode cX3_init 106 = .ok (.putfield 50, 3) := by decide +kernel
theorem dX3_init_109 : decode cX3_init 109 = .ok (.aload_n 0, 1) := by decide +kernel
theorem dX3_init_110 : decode cX3_init 110 = .ok (.iconst 0, 1) := by decide +kernel
theorem dX3_init_111 : decode cX3_init 111 = .ok (.putfield 53, 3) := by decide +kernel
theorem dX3_init_114 : decode cX3_init 114 = .ok (.aload_n 0, 1) := by decide +kernel
theorem dX3_init_115 : decode cX3_init 115 = .ok (.iconst 0, 1) := by decide +kernel
theorem dX3_init_116 : decode cX3_init 116 = .ok (.putfield 56, 3) := by decide +kernel
theorem dX3_init_119 : decode cX3_init 119 = .ok (.return_, 1) := by decide +kernel
theorem dX3_join_0 : decode cX3_join 0 = .ok (.aload_n 0, 1) := by decide +kernel
theorem dX3_join_1 : decode cX3_join 1 = .ok (.iconst 0, 1) := by decide +kernel
theorem dX3_join_2 : decode cX3_join 2 = .ok (.putfield 53, 3) := by decide +kernel
theorem dX3_join_5 : decode cX3_join 5 = .ok (.aload_n 0, 1) := by decide +kernel
theorem dX3_join_6 : decode cX3_join 6 = .ok (.iconst 0, 1) := by decide +kernel
theorem dX3_join_7 : decode cX3_join 7 = .ok (.putfield 56, 3) := by decide +kernel
theorem dX3_join_10 : decode cX3_join 10 = .ok (.aload_n 0, 1) := by decide +kernel
theorem dX3_join_11 : decode cX3_join 11 = .ok (.getfield 34, 3) := by decide +kernel
theorem dX3_join_14 : decode cX3_join 14 = .ok (.bipush (-9), 2) := by decide +kernel
theorem dX3_join_16 : decode cX3_join 16 = .ok (.invokestatic 60, 3) := by decide +kernel
theorem dX3_join_19 : decode cX3_join 19 = .ok (.aload_n 0, 1) := by decide +kernel
theorem dX3_join_20 : decode cX3_join 20 = .ok (.aload_n 1, 1) := by decide +kernel
theorem dX3_join_21 : decode cX3_join 21 = .ok (.iload_n 2, 1) := by decide +kernel
theorem dX3_join_22 : decode cX3_join 22 = .ok (.invokevirtual 66, 3) := by decide +kernel
theorem dX3_join_25 : decode cX3_join 25 = .ok (.aload_n 0, 1) := by decide +kernel
theorem dX3_join_26 : decode cX3_join 26 = .ok (.iconst 0, 1) := by decide +kernel
theorem dX3_join_27 : decode cX3_join 27 = .ok (.invokevirtual 70, 3) := by decide +kernel
theorem dX3_join_30 : decode cX3_join 30 = .ok (.pop, 1) := by decide +kernel
theorem dX3_join_31 : decode cX3_join 31 = .ok (.iconst 0, 1) := by decide +kernel
theorem dX3_join_32 : decode cX3_join 32 = .ok (.istore_n 3, 1) := by decide +kernel
theorem dX3_join_33 : decode cX3_join 33 = .ok (.iload_n 3, 1) := by decide +kernel
theorem dX3_join_34 : decode cX3_join 34 = .ok (.aload_n 0, 1) := by decide +kernel
theorem dX3_join_35 : decode cX3_join 35 = .ok (.getfield 53, 3) := by decide +kernel
theorem dX3_join_38 : decode cX3_join 38 = .ok (.if_icmp .ge 30, 3) := by decide +kernel
theorem dX3_join_41 : decode cX3_join 41 = .ok (.iload_n 3, 1) := by decide +kernel
theorem dX3_join_42 : decode cX3_join 42 = .ok (.sipush 150, 3) := by decide +kernel
theorem dX3_join_45 : decode cX3_join 45 = .ok (.if_icmp .ge 23, 3) := by decide +kernel
theorem dX3_join_48 : decode cX3_join 48 = .ok (.aload_n 0, 1) := by decide +kernel
theorem dX3_join_49 : decode cX3_join 49 = .ok (.getfield 56, 3) := by decide +kernel
theorem dX3_join_52 : decode cX3_join 52 = .ok (.ifCond .ne 16, 3) := by decide +kernel
theorem dX3_join_55 : decode cX3_join 55 = .ok (.aload_n 0, 1) := by decide +kernel
theorem dX3_join_56 : decode cX3_join 56 = .ok (.iload_n 3, 1) := by decide +kernel
theorem dX3_join_57 : decode cX3_join 57 = .ok (.aload_n 1, 1) := by decide +kernel
theorem dX3_join_58 : decode cX3_join 58 = .ok (.iload_n 2, 1) := by decide +kernel
theorem dX3_join_59 : decode cX3_join 59 = .ok (.invokevirtual 74, 3) := by decide +kernel
theorem dX3_join_62 : decode cX3_join 62 = .ok (.iinc 3 1, 3) := by decide +kernel
theorem dX3_join_65 : decode cX3_join 65 = .ok (.goto (-32), 3) := by decide +kernel
theorem dX3_join_68 : decode cX3_join 68 = .ok (.aload_n 0, 1) := by decide +kernel
theorem dX3_join_69 : decode cX3_join 69 = .ok (.getfield 56, 3) := by decide +kernel
theorem dX3_join_72 : decode cX3_join 72 = .ok (.ifCond .eq 8, 3) := by decide +kernel
theorem dX3_join_75 : decode cX3_join 75 = .ok (.aload_n 0, 1) := by decide +kernel
theorem dX3_join_76 : decode cX3_join 76 = .ok (.iconst 0, 1) := by decide +kernel
theorem dX3_join_77 : decode cX3_join 77 = .ok (.putfield 53, 3) := by decide +kernel
theorem dX3_join_80 : decode cX3_join 80 = .ok (.return_, 1) := by decide +kernel
theorem dX3_gatherAlphabets_0 : decode cX3_gatherAlphabets 0 = .ok (.aload_n 0, 1) := by decide +kernel
theorem dX3_gatherAlphabets_1 : decode cX3_gatherAlphabets 1 = .ok (.iconst 0, 1) := by decide +kernel
theorem dX3_gatherAlphabets_2 : decode cX3_gatherAlphabets 2 = .ok (.putfield 47, 3) := by decide +kernel
theorem dX3_gatherAlphabets_5 : decode cX3_gatherAlphabets 5 = .ok (.aload_n 0, 1) := by decide +kernel
theorem dX3_gatherAlphabets_6 : decode cX3_gatherAlphabets 6 = .ok (.iconst 0, 1) := by decide +kernel
theorem dX3_gatherAlphabets_7 : decode cX3_gatherAlphabets 7 = .ok (.putfield 50, 3) := by decide +kernel
theorem dX3_gatherAlphabets_10 : decode cX3_gatherAlphabets 10 = .ok (.iconst 0, 1) := by decide +kernel
theorem dX3_gatherAlphabets_11 : decode cX3_gatherAlphabets 11 = .ok (.istore_n 3, 1) := by decide +kernel
theorem dX3_gatherAlphabets_12 : decode cX3_gatherAlphabets 12 = .ok (.iload_n 3, 1) := by decide +kernel
theorem dX3_gatherAlphabets_13 : decode cX3_gatherAlphabets 13 = .ok (.aload_n 1, 1) := by decide +kernel
theorem dX3_gatherAlphabets_14 : decode cX3_gatherAlphabets 14 = .ok (.arraylength, 1) := by decide +kernel
theorem dX3_gatherAlphabets_15 : decode cX3_gatherAlphabets 15 = .ok (.if_icmp .ge 62, 3) := by decide +kernel
theorem dX3_gatherAlphabets_18 : decode cX3_gatherAlphabets 18 = .ok (.iload_n 2, 1) := by decide +kernel
theorem dX3_gatherAlphabets_19 : decode cX3_gatherAlphabets 19 = .ok (.iload_n 3, 1) := by decide +kernel
theorem dX3_gatherAlphabets_20 : decode cX3_gatherAlphabets 20 = .ok (.ishr, 1) := by decide +kernel
theorem dX3_gatherAlphabets_21 : decode cX3_gatherAlphabets 21 = .ok (.ifCond .eq 56, 3) := by decide +kernel
theorem dX3_gatherAlphabets_24 : decode cX3_gatherAlphabets 24 = .ok (.iload_n 2, 1) := by decide +kernel
theorem dX3_gatherAlphabets_25 : decode cX3_gatherAlphabets 25 = .ok (.iload_n 3, 1) := by decide +kernel
theorem dX3_gatherAlphabets_26 : decode cX3_gatherAlphabets 26 = .ok (.invokestatic 78, 3) := by decide +kernel
theorem dX3_gatherAlphabets_29 : decode cX3_gatherAlphabets 29 = .ok (.ifCond .eq 42, 3) := by decide +kernel
theorem dX3_gatherAlphabets_32 : decode cX3_gatherAlphabets 32 = .ok (.aload_n 0, 1) := by decide +kernel
theorem dX3_gatherAlphabets_33 : decode cX3_gatherAlphabets 33 = .ok (.dup, 1) := by decide +kernel
theorem dX3_gatherAlphabets_34 : decode cX3_gatherAlphabets 34 = .ok (.getfield 47, 3) := by decide +kernel
theorem dX3_gatherAlphabets_37 : decode cX3_gatherAlphabets 37 = .ok (.aload_n 1, 1) := by decide +kernel
theorem dX3_gatherAlphabets_38 : decode cX3_gatherAlphabets 38 = .ok (.iload_n 3, 1) := by decide +kernel
theorem dX3_gatherAlphabets_39 : decode cX3_gatherAlphabets 39 = .ok (.aaload, 1) := by decide +kernel
theorem dX3_gatherAlphabets_40 : decode cX3_gatherAlphabets 40 = .ok (.getfield 82, 3) := by decide +kernel
theorem dX3_gatherAlphabets_43 : decode cX3_gatherAlphabets 43 = .ok (.ior, 1) := by decide +kernel
theorem dX3_gatherAlphabets_44 : decode cX3_gatherAlphabets 44 = .ok (.putfield 47, 3) := by decide +kernel
theorem dX3_gatherAlphabets_47 : decode cX3_gatherAlphabets 47 = .ok (.aload_n 1, 1) := by decide +kernel
theorem dX3_gatherAlphabets_48 : decode cX3_gatherAlphabets 48 = .ok (.iload_n 3, 1) := by decide +kernel
theorem dX3_gatherAlphabets_49 : decode cX3_gatherAlphabets 49 = .ok (.aaload, 1) := by decide +kernel
theorem dX3_gatherAlphabets_50 : decode cX3_gatherAlphabets 50 = .ok (.getfield 85, 3) := by decide +kernel
theorem dX3_gatherAlphabets_53 : decode cX3_gatherAlphabets 53 = .ok (.ifCond .ne 18, 3) := by decide +kernel
theorem dX3_gatherAlphabets_56 : decode cX3_gatherAlphabets 56 = .ok (.aload_n 0, 1) := by decide +kernel
theorem dX3_gatherAlphabets_57 : decode cX3_gatherAlphabets 57 = .ok (.dup, 1) := by decide +kernel
theorem dX3_gatherAlphabets_58 : decode cX3_gatherAlphabets 58 = .ok (.getfield 50, 3) := by decide +kernel
theorem dX3_gatherAlphabets_61 : decode cX3_gatherAlphabets 61 = .ok (.aload_n 1, 1) := by decide +kernel
theorem dX3_gatherAlphabets_62 : decode cX3_gatherAlphabets 62 = .ok (.iload_n 3, 1) := by decide +kernel
theorem dX3_gatherAlphabets_63 : decode cX3_gatherAlphabets 63 = .ok (.aaload, 1) := by decide +kernel
theorem dX3_gatherAlphabets_64 : decode cX3_gatherAlphabets 64 = .ok (.getfield 82, 3) := by decide +kernel
theorem dX3_gatherAlphabets_67 : decode cX3_gatherAlphabets 67 = .ok (.ior, 1) := by decide +kernel
theorem dX3_gatherAlphabets_68 : decode cX3_gatherAlphabets 68 = .ok (.putfield 50, 3) := by decide +kernel
theorem dX3_gatherAlphabets_71 : decode cX3_gatherAlphabets 71 = .ok (.iinc 3 1, 3) := by decide +kernel
theorem dX3_gatherAlphabets_74 : decode cX3_gatherAlphabets 74 = .ok (.goto (-62), 3) := by decide +kernel
theorem dX3_gatherAlphabets_77 : decode cX3_gatherAlphabets 77 = .ok (.return_, 1) := by decide +kernel
theorem dX3_spreadFrom_0 : decode cX3_spreadFrom 0 = .ok (.iconst 0, 1) := by decide +kernel
theorem dX3_spreadFrom_1 : decode cX3_spreadFrom 1 = .ok (.istore 4, 2) := by decide +kernel
theorem dX3_spreadFrom_3 : decode cX3_spreadFrom 3 = .ok (.iconst 0, 1) := by decide +kernel
theorem dX3_spreadFrom_4 : decode cX3_spreadFrom 4 = .ok (.istore 5, 2) := by decide +kernel
theorem dX3_spreadFrom_6 : decode cX3_spreadFrom 6 = .ok (.iconst 0, 1) := by decide +kernel
theorem dX3_spreadFrom_7 : decode cX3_spreadFrom 7 = .ok (.istore 6, 2) := by decide +kernel
theorem dX3_spreadFrom_9 : decode cX3_spreadFrom 9 = .ok (.iload 6, 2) := by decide +kernel
theorem dX3_spreadFrom_11 : decode cX3_spreadFrom 11 = .ok (.aload_n 2, 1) := by decide +kernel
theorem dX3_spreadFrom_12 : decode cX3_spreadFrom 12 = .ok (.arraylength, 1) := by decide +kernel
theorem dX3_spreadFrom_13 : decode cX3_spreadFrom 13 = .ok (.if_icmp .ge 68, 3) := by decide +kernel
theorem dX3_spreadFrom_16 : decode cX3_spreadFrom 16 = .ok (.iload_n 3, 1) := by decide +kernel
theorem dX3_spreadFrom_17 : decode cX3_spreadFrom 17 = .ok (.iload 6, 2) := by decide +kernel
theorem dX3_spreadFrom_19 : decode cX3_spreadFrom 19 = .ok (.ishr, 1) := by decide +kernel
theorem dX3_spreadFrom_20 : decode cX3_spreadFrom 20 = .ok (.ifCond .eq 61, 3) := by decide +kernel
theorem dX3_spreadFrom_23 : decode cX3_spreadFrom 23 = .ok (.iload_n 3, 1) := by decide +kernel
theorem dX3_spreadFrom_24 : decode cX3_spreadFrom 24 = .ok (.iload 6, 2) := by decide +kernel
theorem dX3_spreadFrom_26 : decode cX3_spreadFrom 26 = .ok (.invokestatic 78, 3) := by decide +kernel
theorem dX3_spreadFrom_29 : decode cX3_spreadFrom 29 = .ok (.ifCond .eq 46, 3) := by decide +kernel
theorem dX3_spreadFrom_32 : decode cX3_spreadFrom 32 = .ok (.aload_n 2, 1) := by decide +kernel
theorem dX3_spreadFrom_33 : decode cX3_spreadFrom 33 = .ok (.iload 6, 2) := by decide +kernel
theorem dX3_spreadFrom_35 : decode cX3_spreadFrom 35 = .ok (.aaload, 1) := by decide +kernel
theorem dX3_spreadFrom_36 : decode cX3_spreadFrom 36 = .ok (.aload_n 0, 1) := by decide +kernel
theorem dX3_spreadFrom_37 : decode cX3_spreadFrom 37 = .ok (.iload_n 1, 1) := by decide +kernel
theorem dX3_spreadFrom_38 : decode cX3_spreadFrom 38 = .ok (.iload 6, 2) := by decide +kernel
theorem dX3_spreadFrom_40 : decode cX3_spreadFrom 40 = .ok (.invokevirtual 88, 3) := by decide +kernel
theorem dX3_spreadFrom_43 : decode cX3_spreadFrom 43 = .ok (.invokevirtual 92, 3) := by decide +kernel
theorem dX3_spreadFrom_46 : decode cX3_spreadFrom 46 = .ok (.istore 7, 2) := by decide +kernel
theorem dX3_spreadFrom_48 : decode cX3_spreadFrom 48 = .ok (.aload_n 2, 1) := by decide +kernel
theorem dX3_spreadFrom_49 : decode cX3_spreadFrom 49 = .ok (.iload 6, 2) := by decide +kernel
theorem dX3_spreadFrom_51 : decode cX3_spreadFrom 51 = .ok (.aaload, 1) := by decide +kernel
theorem dX3_spreadFrom_52 : decode cX3_spreadFrom 52 = .ok (.getfield 85, 3) := by decide +kernel
theorem dX3_spreadFrom_55 : decode cX3_spreadFrom 55 = .ok (.ifCond .ne 13, 3) := by decide +kernel
theorem dX3_spreadFrom_58 : decode cX3_spreadFrom 58 = .ok (.iload 4, 2) := by decide +kernel
theorem dX3_spreadFrom_60 : decode cX3_spreadFrom 60 = .ok (.iload 7, 2) := by decide +kernel
theorem dX3_spreadFrom_62 : decode cX3_spreadFrom 62 = .ok (.ior, 1) := by decide +kernel
theorem dX3_spreadFrom_63 : decode cX3_spreadFrom 63 = .ok (.istore 4, 2) := by decide +kernel
theorem dX3_spreadFrom_65 : decode cX3_spreadFrom 65 = .ok (.goto 10, 3) := by decide +kernel
theorem dX3_spreadFrom_68 : decode cX3_spreadFrom 68 = .ok (.iload 5, 2) := by decide +kernel
theorem dX3_spreadFrom_70 : decode cX3_spreadFrom 70 = .ok (.iload 7, 2) := by decide +kernel
theorem dX3_spreadFrom_72 : decode cX3_spreadFrom 72 = .ok (.ior, 1) := by decide +kernel
theorem dX3_spreadFrom_73 : decode cX3_spreadFrom 73 = .ok (.istore 5, 2) := by decide +kernel
theorem dX3_spreadFrom_75 : decode cX3_spreadFrom 75 = .ok (.iinc 6 1, 3) := by decide +kernel
theorem dX3_spreadFrom_78 : decode cX3_spreadFrom 78 = .ok (.goto (-69), 3) := by decide +kernel
theorem dX3_spreadFrom_81 : decode cX3_spreadFrom 81 = .ok (.aload_n 0, 1) := by decide +kernel
theorem dX3_spreadFrom_82 : decode cX3_spreadFrom 82 = .ok (.getfield 21, 3) := by decide +kernel
theorem dX3_spreadFrom_85 : decode cX3_spreadFrom 85 = .ok (.iload_n 1, 1) := by decide +kernel
theorem dX3_spreadFrom_86 : decode cX3_spreadFrom 86 = .ok (.aload_n 0, 1) := by decide +kernel
theorem dX3_spreadFrom_87 : decode cX3_spreadFrom 87 = .ok (.aload_n 0, 1) := by decide +kernel
theorem dX3_spreadFrom_88 : decode cX3_spreadFrom 88 = .ok (.getfield 9, 3) := by decide +kernel
theorem dX3_spreadFrom_91 : decode cX3_spreadFrom 91 = .ok (.iload_n 1, 1) := by decide +kernel
theorem dX3_spreadFrom_92 : decode cX3_spreadFrom 92 = .ok (.iaload, 1) := by decide +kernel
theorem dX3_spreadFrom_93 : decode cX3_spreadFrom 93 = .ok (.aload_n 2, 1) := by decide +kernel
theorem dX3_spreadFrom_94 : decode cX3_spreadFrom 94 = .ok (.iload_n 3, 1) := by decide +kernel
theorem dX3_spreadFrom_95 : decode cX3_spreadFrom 95 = .ok (.invokevirtual 95, 3) := by decide +kernel
theorem dX3_spreadFrom_98 : decode cX3_spreadFrom 98 = .ok (.bastore, 1) := by decide +kernel
theorem dX3_spreadFrom_99 : decode cX3_spreadFrom 99 = .ok (.aload_n 0, 1) := by decide +kernel
theorem dX3_spreadFrom_100 : decode cX3_spreadFrom 100 = .ok (.getfield 15, 3) := by decide +kernel
theorem dX3_spreadFrom_103 : decode cX3_spreadFrom 103 = .ok (.iload_n 1, 1) := by decide +kernel
theorem dX3_spreadFrom_104 : decode cX3_spreadFrom 104 = .ok (.aload_n 0, 1) := by decide +kernel
theorem dX3_spreadFrom_105 : decode cX3_spreadFrom 105 = .ok (.getfield 47, 3) := by decide +kernel
theorem dX3_spreadFrom_108 : decode cX3_spreadFrom 108 = .ok (.iload 4, 2) := by decide +kernel
theorem dX3_spreadFrom_110 : decode cX3_spreadFrom 110 = .ok (.iconst (-1), 1) := by decide +kernel
theorem dX3_spreadFrom_111 : decode cX3_spreadFrom 111 = .ok (.ixor, 1) := by decide +kernel
theorem dX3_spreadFrom_112 : decode cX3_spreadFrom 112 = .ok (.iand, 1) := by decide +kernel
theorem dX3_spreadFrom_113 : decode cX3_spreadFrom 113 = .ok (.iload 5, 2) := by decide +kernel
theorem dX3_spreadFrom_115 : decode cX3_spreadFrom 115 = .ok (.iconst (-1), 1) := by decide +kernel
theorem dX3_spreadFrom_116 : decode cX3_spreadFrom 116 = .ok (.ixor, 1) := by decide +kernel
theorem dX3_spreadFrom_117 : decode cX3_spreadFrom 117 = .ok (.iand, 1) := by decide +kernel
theorem dX3_spreadFrom_118 : decode cX3_spreadFrom 118 = .ok (.iastore, 1) := by decide +kernel
theorem dX3_spreadFrom_119 : decode cX3_spreadFrom 119 = .ok (.aload_n 0, 1) := by decide +kernel
theorem dX3_spreadFrom_120 : decode cX3_spreadFrom 120 = .ok (.getfield 18, 3) := by decide +kernel
theorem dX3_spreadFrom_123 : decode cX3_spreadFrom 123 = .ok (.iload_n 1, 1) := by decide +kernel
theorem dX3_spreadFrom_124 : decode cX3_spreadFrom 124 = .ok (.aload_n 0, 1) := by decide +kernel
theorem dX3_spreadFrom_125 : decode cX3_spreadFrom 125 = .ok (.getfield 50, 3) := by decide +kernel
theorem dX3_spreadFrom_128 : decode cX3_spreadFrom 128 = .ok (.iload 4, 2) := by decide +kernel
theorem dX3_spreadFrom_130 : decode cX3_spreadFrom 130 = .ok (.iconst (-1), 1) := by decide +kernel
theorem dX3_spreadFrom_131 : decode cX3_spreadFrom 131 = .ok (.ixor, 1) := by decide +kernel
theorem dX3_spreadFrom_132 : decode cX3_spreadFrom 132 = .ok (.iand, 1) := by decide +kernel
theorem dX3_spreadFrom_133 : decode cX3_spreadFrom 133 = .ok (.iload 5, 2) := by decide +kernel
theorem dX3_spreadFrom_135 : decode cX3_spreadFrom 135 = .ok (.iand, 1) := by decide +kernel
theorem dX3_spreadFrom_136 : decode cX3_spreadFrom 136 = .ok (.iastore, 1) := by decide +kernel
theorem dX3_spreadFrom_137 : decode cX3_spreadFrom 137 = .ok (.iconst 0, 1) := by decide +kernel
theorem dX3_spreadFrom_138 : decode cX3_spreadFrom 138 = .ok (.istore 6, 2) := by decide +kernel
theorem dX3_spreadFrom_140 : decode cX3_spreadFrom 140 = .ok (.iload 6, 2) := by decide +kernel
theorem dX3_spreadFrom_142 : decode cX3_spreadFrom 142 = .ok (.bipush 8, 2) := by decide +kernel
theorem dX3_spreadFrom_144 : decode cX3_spreadFrom 144 = .ok (.if_icmp .ge 62, 3) := by decide +kernel
theorem dX3_spreadFrom_147 : decode cX3_spreadFrom 147 = .ok (.aload_n 0, 1) := by decide +kernel
theorem dX3_spreadFrom_148 : decode cX3_spreadFrom 148 = .ok (.getfield 25, 3) := by decide +kernel
theorem dX3_spreadFrom_151 : decode cX3_spreadFrom 151 = .ok (.iload_n 1, 1) := by decide +kernel
theorem dX3_spreadFrom_152 : decode cX3_spreadFrom 152 = .ok (.bipush 8, 2) := by decide +kernel
theorem dX3_spreadFrom_154 : decode cX3_spreadFrom 154 = .ok (.imul, 1) := by decide +kernel
theorem dX3_spreadFrom_155 : decode cX3_spreadFrom 155 = .ok (.iload 6, 2) := by decide +kernel
theorem dX3_spreadFrom_157 : decode cX3_spreadFrom 157 = .ok (.iadd, 1) := by decide +kernel
theorem dX3_spreadFrom_158 : decode cX3_spreadFrom 158 = .ok (.bipush (-9), 2) := by decide +kernel
theorem dX3_spreadFrom_160 : decode cX3_spreadFrom 160 = .ok (.iastore, 1) := by decide +kernel
theorem dX3_spreadFrom_161 : decode cX3_spreadFrom 161 = .ok (.aload_n 0, 1) := by decide +kernel
theorem dX3_spreadFrom_162 : decode cX3_spreadFrom 162 = .ok (.getfield 15, 3) := by decide +kernel
theorem dX3_spreadFrom_165 : decode cX3_spreadFrom 165 = .ok (.iload_n 1, 1) := by decide +kernel
theorem dX3_spreadFrom_166 : decode cX3_spreadFrom 166 = .ok (.iaload, 1) := by decide +kernel
theorem dX3_spreadFrom_167 : decode cX3_spreadFrom 167 = .ok (.iload 6, 2) := by decide +kernel
theorem dX3_spreadFrom_169 : decode cX3_spreadFrom 169 = .ok (.invokestatic 78, 3) := by decide +kernel
theorem dX3_spreadFrom_172 : decode cX3_spreadFrom 172 = .ok (.ifCond .eq 28, 3) := by decide +kernel
theorem dX3_spreadFrom_175 : decode cX3_spreadFrom 175 = .ok (.aload_n 0, 1) := by decide +kernel
theorem dX3_spreadFrom_176 : decode cX3_spreadFrom 176 = .ok (.iload_n 1, 1) := by decide +kernel
theorem dX3_spreadFrom_177 : decode cX3_spreadFrom 177 = .ok (.iload 6, 2) := by decide +kernel
theorem dX3_spreadFrom_179 : decode cX3_spreadFrom 179 = .ok (.aload_n 0, 1) := by decide +kernel
theorem dX3_spreadFrom_180 : decode cX3_spreadFrom 180 = .ok (.aload_n 0, 1) := by decide +kernel
theorem dX3_spreadFrom_181 : decode cX3_spreadFrom 181 = .ok (.aload_n 0, 1) := by decide +kernel
theorem dX3_spreadFrom_182 : decode cX3_spreadFrom 182 = .ok (.getfield 9, 3) := by decide +kernel
theorem dX3_spreadFrom_185 : decode cX3_spreadFrom 185 = .ok (.iload_n 1, 1) := by decide +kernel
theorem dX3_spreadFrom_186 : decode cX3_spreadFrom 186 = .ok (.iaload, 1) := by decide +kernel
theorem dX3_spreadFrom_187 : decode cX3_spreadFrom 187 = .ok (.iload 6, 2) := by decide +kernel
theorem dX3_spreadFrom_189 : decode cX3_spreadFrom 189 = .ok (.aload_n 2, 1) := by decide +kernel
theorem dX3_spreadFrom_190 : decode cX3_spreadFrom 190 = .ok (.iload_n 3, 1) := by decide +kernel
theorem dX3_spreadFrom_191 : decode cX3_spreadFrom 191 = .ok (.invokevirtual 99, 3) := by decide +kernel
theorem dX3_spreadFrom_194 : decode cX3_spreadFrom 194 = .ok (.invokevirtual 70, 3) := by decide +kernel
theorem dX3_spreadFrom_197 : decode cX3_spreadFrom 197 = .ok (.invokevirtual 103, 3) := by decide +kernel
theorem dX3_spreadFrom_200 : decode cX3_spreadFrom 200 = .ok (.iinc 6 1, 3) := by decide +kernel
theorem dX3_spreadFrom_203 : decode cX3_spreadFrom 203 = .ok (.goto (-63), 3) := by decide +kernel
theorem dX3_spreadFrom_206 : decode cX3_spreadFrom 206 = .ok (.return_, 1) := by decide +kernel
theorem dX3_addEdge_0 : decode cX3_addEdge 0 = .ok (.aload_n 0, 1) := by decide +kernel
theorem dX3_addEdge_1 : decode cX3_addEdge 1 = .ok (.iload_n 3, 1) := by decide +kernel
theorem dX3_addEdge_2 : decode cX3_addEdge 2 = .ok (.invokevirtual 107, 3) := by decide +kernel
theorem dX3_addEdge_5 : decode cX3_addEdge 5 = .ok (.ifCond .ne 9, 3) := by decide +kernel
theorem dX3_addEdge_8 : decode cX3_addEdge 8 = .ok (.aload_n 0, 1) := by decide +kernel
theorem dX3_addEdge_9 : decode cX3_addEdge 9 = .ok (.iconst 1, 1) := by decide +kernel
theorem dX3_addEdge_10 : decode cX3_addEdge 10 = .ok (.putfield 56, 3) := by decide +kernel
theorem dX3_addEdge_13 : decode cX3_addEdge 13 = .ok (.return_, 1) := by decide +kernel
theorem dX3_addEdge_14 : decode cX3_addEdge 14 = .ok (.iload_n 1, 1) := by decide +kernel
theorem dX3_addEdge_15 : decode cX3_addEdge 15 = .ok (.bipush 8, 2) := by decide +kernel
theorem dX3_addEdge_17 : decode cX3_addEdge 17 = .ok (.imul, 1) := by decide +kernel
theorem dX3_addEdge_18 : decode cX3_addEdge 18 = .ok (.iload_n 2, 1) := by decide +kernel
theorem dX3_addEdge_19 : decode cX3_addEdge 19 = .ok (.iadd, 1) := by decide +kernel
theorem dX3_addEdge_20 : decode cX3_addEdge 20 = .ok (.istore 4, 2) := by decide +kernel
theorem dX3_addEdge_22 : decode cX3_addEdge 22 = .ok (.aload_n 0, 1) := by decide +kernel
theorem dX3_addEdge_23 : decode cX3_addEdge 23 = .ok (.getfield 25, 3) := by decide +kernel
theorem dX3_addEdge_26 : decode cX3_addEdge 26 = .ok (.iload 4, 2) := by decide +kernel
theorem dX3_addEdge_28 : decode cX3_addEdge 28 = .ok (.iload_n 3, 1) := by decide +kernel
theorem dX3_addEdge_29 : decode cX3_addEdge 29 = .ok (.iastore, 1) := by decide +kernel
theorem dX3_addEdge_30 : decode cX3_addEdge 30 = .ok (.aload_n 0, 1) := by decide +kernel
theorem dX3_addEdge_31 : decode cX3_addEdge 31 = .ok (.getfield 31, 3) := by decide +kernel
theorem dX3_addEdge_34 : decode cX3_addEdge 34 = .ok (.iload 4, 2) := by decide +kernel
theorem dX3_addEdge_36 : decode cX3_addEdge 36 = .ok (.aload_n 0, 1) := by decide +kernel
theorem dX3_addEdge_37 : decode cX3_addEdge 37 = .ok (.getfield 28, 3) := by decide +kernel
theorem dX3_addEdge_40 : decode cX3_addEdge 40 = .ok (.iload_n 3, 1) := by decide +kernel
theorem dX3_addEdge_41 : decode cX3_addEdge 41 = .ok (.iaload, 1) := by decide +kernel
theorem dX3_addEdge_42 : decode cX3_addEdge 42 = .ok (.iastore, 1) := by decide +kernel
theorem dX3_addEdge_43 : decode cX3_addEdge 43 = .ok (.aload_n 0, 1) := by decide +kernel
theorem dX3_addEdge_44 : decode cX3_addEdge 44 = .ok (.getfield 28, 3) := by decide +kernel
theorem dX3_addEdge_47 : decode cX3_addEdge 47 = .ok (.iload_n 3, 1) := by decide +kernel
theorem dX3_addEdge_48 : decode cX3_addEdge 48 = .ok (.iload 4, 2) := by decide +kernel
theorem dX3_addEdge_50 : decode cX3_addEdge 50 = .ok (.iastore, 1) := by decide +kernel
theorem dX3_addEdge_51 : decode cX3_addEdge 51 = .ok (.return_, 1) := by decide +kernel
theorem dX3_codeBehind_0 : decode cX3_codeBehind 0 = .ok (.iload_n 1, 1) := by decide +kernel
theorem dX3_codeBehind_1 : decode cX3_codeBehind 1 = .ok (.istore 5, 2) := by decide +kernel
theorem dX3_codeBehind_3 : decode cX3_codeBehind 3 = .ok (.iconst 0, 1) := by decide +kernel
theorem dX3_codeBehind_4 : decode cX3_codeBehind 4 = .ok (.istore 6, 2) := by decide +kernel
theorem dX3_codeBehind_6 : decode cX3_codeBehind 6 = .ok (.iload 6, 2) := by decide +kernel
theorem dX3_codeBehind_8 : decode cX3_codeBehind 8 = .ok (.aload_n 3, 1) := by decide +kernel
theorem dX3_codeBehind_9 : decode cX3_codeBehind 9 = .ok (.arraylength, 1) := by decide +kernel
theorem dX3_codeBehind_10 : decode cX3_codeBehind 10 = .ok (.if_icmp .ge 75, 3) := by decide +kernel
theorem dX3_codeBehind_13 : decode cX3_codeBehind 13 = .ok (.iload 4, 2) := by decide +kernel
theorem dX3_codeBehind_15 : decode cX3_codeBehind 15 = .ok (.iload 6, 2) := by decide +kernel
theorem dX3_codeBehind_17 : decode cX3_codeBehind 17 = .ok (.ishr, 1) := by decide +kernel
theorem dX3_codeBehind_18 : decode cX3_codeBehind 18 = .ok (.ifCond .eq 67, 3) := by decide +kernel
theorem dX3_codeBehind_21 : decode cX3_codeBehind 21 = .ok (.iload 4, 2) := by decide +kernel
theorem dX3_codeBehind_23 : decode cX3_codeBehind 23 = .ok (.iload 6, 2) := by decide +kernel
theorem dX3_codeBehind_25 : decode cX3_codeBehind 25 = .ok (.invokestatic 78, 3) := by decide +kernel
theorem dX3_codeBehind_28 : decode cX3_codeBehind 28 = .ok (.ifCond .eq 51, 3) := by decide +kernel
theorem dX3_codeBehind_31 : decode cX3_codeBehind 31 = .ok (.aload_n 3, 1) := by decide +kernel
theorem dX3_codeBehind_32 : decode cX3_codeBehind 32 = .ok (.iload 6, 2) := by decide +kernel
theorem dX3_codeBehind_34 : decode cX3_codeBehind 34 = .ok (.aaload, 1) := by decide +kernel
theorem dX3_codeBehind_35 : decode cX3_codeBehind 35 = .ok (.iload_n 1, 1) := by decide +kernel
theorem dX3_codeBehind_36 : decode cX3_codeBehind 36 = .ok (.iload 6, 2) := by decide +kernel
theorem dX3_codeBehind_38 : decode cX3_codeBehind 38 = .ok (.iconst 3, 1) := by decide +kernel
theorem dX3_codeBehind_39 : decode cX3_codeBehind 39 = .ok (.imul, 1) := by decide +kernel
theorem dX3_codeBehind_40 : decode cX3_codeBehind 40 = .ok (.ishr, 1) := by decide +kernel
theorem dX3_codeBehind_41 : decode cX3_codeBehind 41 = .ok (.bipush 7, 2) := by decide +kernel
theorem dX3_codeBehind_43 : decode cX3_codeBehind 43 = .ok (.iand, 1) := by decide +kernel
theorem dX3_codeBehind_44 : decode cX3_codeBehind 44 = .ok (.iload_n 2, 1) := by decide +kernel
theorem dX3_codeBehind_45 : decode cX3_codeBehind 45 = .ok (.invokevirtual 111, 3) := by decide +kernel
theorem dX3_codeBehind_48 : decode cX3_codeBehind 48 = .ok (.istore 7, 2) := by decide +kernel
theorem dX3_codeBehind_50 : decode cX3_codeBehind 50 = .ok (.iload 7, 2) := by decide +kernel
theorem dX3_codeBehind_52 : decode cX3_codeBehind 52 = .ok (.bipush (-9), 2) := by decide +kernel
theorem dX3_codeBehind_54 : decode cX3_codeBehind 54 = .ok (.if_icmp .eq 25, 3) := by decide +kernel
theorem dX3_codeBehind_57 : decode cX3_codeBehind 57 = .ok (.iload 5, 2) := by decide +kernel
theorem dX3_codeBehind_59 : decode cX3_codeBehind 59 = .ok (.bipush 7, 2) := by decide +kernel
theorem dX3_codeBehind_61 : decode cX3_codeBehind 61 = .ok (.iload 6, 2) := by decide +kernel
theorem dX3_codeBehind_63 : decode cX3_codeBehind 63 = .ok (.iconst 3, 1) := by decide +kernel
theorem dX3_codeBehind_64 : decode cX3_codeBehind 64 = .ok (.imul, 1) := by decide +kernel
theorem dX3_codeBehind_65 : decode cX3_codeBehind 65 = .ok (.ishl, 1) := by decide +kernel
theorem dX3_codeBehind_66 : decode cX3_codeBehind 66 = .ok (.iconst (-1), 1) := by decide +kernel
theorem dX3_codeBehind_67 : decode cX3_codeBehind 67 = .ok (.ixor, 1) := by decide +kernel
theorem dX3_codeBehind_68 : decode cX3_codeBehind 68 = .ok (.iand, 1) := by decide +kernel
theorem dX3_codeBehind_69 : decode cX3_codeBehind 69 = .ok (.iload 7, 2) := by decide +kernel
theorem dX3_codeBehind_71 : decode cX3_codeBehind 71 = .ok (.iload 6, 2) := by decide +kernel
theorem dX3_codeBehind_73 : decode cX3_codeBehind 73 = .ok (.iconst 3, 1) := by decide +kernel
theorem dX3_codeBehind_74 : decode cX3_codeBehind 74 = .ok (.imul, 1) := by decide +kernel
theorem dX3_codeBehind_75 : decode cX3_codeBehind 75 = .ok (.ishl, 1) := by decide +kernel
theorem dX3_codeBehind_76 : decode cX3_codeBehind 76 = .ok (.ior, 1) := by decide +kernel
theorem dX3_codeBehind_77 : decode cX3_codeBehind 77 = .ok (.istore 5, 2) := by decide +kernel
theorem dX3_codeBehind_79 : decode cX3_codeBehind 79 = .ok (.iinc 6 1, 3) := by decide +kernel
theorem dX3_codeBehind_82 : decode cX3_codeBehind 82 = .ok (.goto (-76), 3) := by decide +kernel
theorem dX3_codeBehind_85 : decode cX3_codeBehind 85 = .ok (.iload 5, 2) := by decide +kernel
theorem dX3_codeBehind_87 : decode cX3_codeBehind 87 = .ok (.ireturn, 1) := by decide +kernel
theorem dX3_meet_0 : decode cX3_meet 0 = .ok (.iload_n 1, 1) := by decide +kernel
theorem dX3_meet_1 : decode cX3_meet 1 = .ok (.ldc 114, 2) := by decide +kernel
theorem dX3_meet_3 : decode cX3_meet 3 = .ok (.imul, 1) := by decide +kernel
theorem dX3_meet_4 : decode cX3_meet 4 = .ok (.bipush 24, 2) := by decide +kernel
theorem dX3_meet_6 : decode cX3_meet 6 = .ok (.iushr, 1) := by decide +kernel
theorem dX3_meet_7 : decode cX3_meet 7 = .ok (.istore_n 2, 1) := by decide +kernel
theorem dX3_meet_8 : decode cX3_meet 8 = .ok (.iconst 0, 1) := by decide +kernel
theorem dX3_meet_9 : decode cX3_meet 9 = .ok (.istore_n 3, 1) := by decide +kernel
theorem dX3_meet_10 : decode cX3_meet 10 = .ok (.iload_n 3, 1) := by decide +kernel
theorem dX3_meet_11 : decode cX3_meet 11 = .ok (.sipush 256, 3) := by decide +kernel
theorem dX3_meet_14 : decode cX3_meet 14 = .ok (.if_icmp .ge 72, 3) := by decide +kernel
theorem dX3_meet_17 : decode cX3_meet 17 = .ok (.aload_n 0, 1) := by decide +kernel
theorem dX3_meet_18 : decode cX3_meet 18 = .ok (.getfield 34, 3) := by decide +kernel
theorem dX3_meet_21 : decode cX3_meet 21 = .ok (.iload_n 2, 1) := by decide +kernel
theorem dX3_meet_22 : decode cX3_meet 22 = .ok (.iaload, 1) := by decide +kernel
theorem dX3_meet_23 : decode cX3_meet 23 = .ok (.istore 4, 2) := by decide +kernel
theorem dX3_meet_25 : decode cX3_meet 25 = .ok (.iload 4, 2) := by decide +kernel
theorem dX3_meet_27 : decode cX3_meet 27 = .ok (.bipush (-9), 2) := by decide +kernel
theorem dX3_meet_29 : decode cX3_meet 29 = .ok (.if_icmp .ne 21, 3) := by decide +kernel
theorem dX3_meet_32 : decode cX3_meet 32 = .ok (.aload_n 0, 1) := by decide +kernel
theorem dX3_meet_33 : decode cX3_meet 33 = .ok (.getfield 34, 3) := by decide +kernel
theorem dX3_meet_36 : decode cX3_meet 36 = .ok (.iload_n 2, 1) := by decide +kernel
theorem dX3_meet_37 : decode cX3_meet 37 = .ok (.aload_n 0, 1) := by decide +kernel
theorem dX3_meet_38 : decode cX3_meet 38 = .ok (.iload_n 1, 1) := by decide +kernel
theorem dX3_meet_39 : decode cX3_meet 39 = .ok (.invokevirtual 115, 3) := by decide +kernel
theorem dX3_meet_42 : decode cX3_meet 42 = .ok (.iastore, 1) := by decide +kernel
theorem dX3_meet_43 : decode cX3_meet 43 = .ok (.aload_n 0, 1) := by decide +kernel
theorem dX3_meet_44 : decode cX3_meet 44 = .ok (.getfield 34, 3) := by decide +kernel
theorem dX3_meet_47 : decode cX3_meet 47 = .ok (.iload_n 2, 1) := by decide +kernel
theorem dX3_meet_48 : decode cX3_meet 48 = .ok (.iaload, 1) := by decide +kernel
theorem dX3_meet_49 : decode cX3_meet 49 = .ok (.ireturn, 1) := by decide +kernel
theorem dX3_meet_50 : decode cX3_meet 50 = .ok (.iload 4, 2) := by decide +kernel
theorem dX3_meet_52 : decode cX3_meet 52 = .ok (.invokestatic 118, 3) := by decide +kernel
theorem dX3_meet_55 : decode cX3_meet 55 = .ok (.ifCond .eq 17, 3) := by decide +kernel
theorem dX3_meet_58 : decode cX3_meet 58 = .ok (.aload_n 0, 1) := by decide +kernel
theorem dX3_meet_59 : decode cX3_meet 59 = .ok (.getfield 9, 3) := by decide +kernel
theorem dX3_meet_62 : decode cX3_meet 62 = .ok (.iload 4, 2) := by decide +kernel
theorem dX3_meet_64 : decode cX3_meet 64 = .ok (.iaload, 1) := by decide +kernel
theorem dX3_meet_65 : decode cX3_meet 65 = .ok (.iload_n 1, 1) := by decide +kernel
theorem dX3_meet_66 : decode cX3_meet 66 = .ok (.if_icmp .ne 6, 3) := by decide +kernel
theorem dX3_meet_69 : decode cX3_meet 69 = .ok (.iload 4, 2) := by decide +kernel
theorem dX3_meet_71 : decode cX3_meet 71 = .ok (.ireturn, 1) := by decide +kernel
theorem dX3_meet_72 : decode cX3_meet 72 = .ok (.iload_n 2, 1) := by decide +kernel
theorem dX3_meet_73 : decode cX3_meet 73 = .ok (.iconst 1, 1) := by decide +kernel
theorem dX3_meet_74 : decode cX3_meet 74 = .ok (.iadd, 1) := by decide +kernel
theorem dX3_meet_75 : decode cX3_meet 75 = .ok (.sipush 256, 3) := by decide +kernel
theorem dX3_meet_78 : decode cX3_meet 78 = .ok (.irem, 1) := by decide +kernel
theorem dX3_meet_79 : decode cX3_meet 79 = .ok (.istore_n 2, 1) := by decide +kernel
theorem dX3_meet_80 : decode cX3_meet 80 = .ok (.iinc 3 1, 3) := by decide +kernel
theorem dX3_meet_83 : decode cX3_meet 83 = .ok (.goto (-73), 3) := by decide +kernel
theorem dX3_meet_86 : decode cX3_meet 86 = .ok (.bipush (-9), 2) := by decide +kernel
theorem dX3_meet_88 : decode cX3_meet 88 = .ok (.ireturn, 1) := by decide +kernel
theorem dX3_add_0 : decode cX3_add 0 = .ok (.aload_n 0, 1) := by decide +kernel
theorem dX3_add_1 : decode cX3_add 1 = .ok (.getfield 53, 3) := by decide +kernel
theorem dX3_add_4 : decode cX3_add 4 = .ok (.invokestatic 118, 3) := by decide +kernel
theorem dX3_add_7 : decode cX3_add 7 = .ok (.ifCond .ne 6, 3) := by decide +kernel
theorem dX3_add_10 : decode cX3_add 10 = .ok (.bipush (-9), 2) := by decide +kernel
theorem dX3_add_12 : decode cX3_add 12 = .ok (.ireturn, 1) := by decide +kernel
theorem dX3_add_13 : decode cX3_add 13 = .ok (.aload_n 0, 1) := by decide +kernel
theorem dX3_add_14 : decode cX3_add 14 = .ok (.getfield 9, 3) := by decide +kernel
theorem dX3_add_17 : decode cX3_add 17 = .ok (.aload_n 0, 1) := by decide +kernel
theorem dX3_add_18 : decode cX3_add 18 = .ok (.getfield 53, 3) := by decide +kernel
theorem dX3_add_21 : decode cX3_add 21 = .ok (.iload_n 1, 1) := by decide +kernel
theorem dX3_add_22 : decode cX3_add 22 = .ok (.iastore, 1) := by decide +kernel
theorem dX3_add_23 : decode cX3_add 23 = .ok (.aload_n 0, 1) := by decide +kernel
theorem dX3_add_24 : decode cX3_add 24 = .ok (.getfield 28, 3) := by decide +kernel
theorem dX3_add_27 : decode cX3_add 27 = .ok (.aload_n 0, 1) := by decide +kernel
theorem dX3_add_28 : decode cX3_add 28 = .ok (.getfield 53, 3) := by decide +kernel
theorem dX3_add_31 : decode cX3_add 31 = .ok (.bipush (-9), 2) := by decide +kernel
theorem dX3_add_33 : decode cX3_add 33 = .ok (.iastore, 1) := by decide +kernel
theorem dX3_add_34 : decode cX3_add 34 = .ok (.aload_n 0, 1) := by decide +kernel
theorem dX3_add_35 : decode cX3_add 35 = .ok (.dup, 1) := by decide +kernel
theorem dX3_add_36 : decode cX3_add 36 = .ok (.getfield 53, 3) := by decide +kernel
theorem dX3_add_39 : decode cX3_add 39 = .ok (.iconst 1, 1) := by decide +kernel
theorem dX3_add_40 : decode cX3_add 40 = .ok (.iadd, 1) := by decide +kernel
theorem dX3_add_41 : decode cX3_add 41 = .ok (.putfield 53, 3) := by decide +kernel
theorem dX3_add_44 : decode cX3_add 44 = .ok (.aload_n 0, 1) := by decide +kernel
theorem dX3_add_45 : decode cX3_add 45 = .ok (.getfield 53, 3) := by decide +kernel
theorem dX3_add_48 : decode cX3_add 48 = .ok (.iconst 1, 1) := by decide +kernel
theorem dX3_add_49 : decode cX3_add 49 = .ok (.isub, 1) := by decide +kernel
theorem dX3_add_50 : decode cX3_add 50 = .ok (.ireturn, 1) := by decide +kernel
theorem dX3_allMarked_0 : decode cX3_allMarked 0 = .ok (.iconst 0, 1) := by decide +kernel
theorem dX3_allMarked_1 : decode cX3_allMarked 1 = .ok (.istore 4, 2) := by decide +kernel
theorem dX3_allMarked_3 : decode cX3_allMarked 3 = .ok (.iload 4, 2) := by decide +kernel
theorem dX3_allMarked_5 : decode cX3_allMarked 5 = .ok (.aload_n 2, 1) := by decide +kernel
theorem dX3_allMarked_6 : decode cX3_allMarked 6 = .ok (.arraylength, 1) := by decide +kernel
theorem dX3_allMarked_7 : decode cX3_allMarked 7 = .ok (.if_icmp .ge 49, 3) := by decide +kernel
theorem dX3_allMarked_10 : decode cX3_allMarked 10 = .ok (.iload_n 3, 1) := by decide +kernel
theorem dX3_allMarked_11 : decode cX3_allMarked 11 = .ok (.iload 4, 2) := by decide +kernel
theorem dX3_allMarked_13 : decode cX3_allMarked 13 = .ok (.ishr, 1) := by decide +kernel
theorem dX3_allMarked_14 : decode cX3_allMarked 14 = .ok (.ifCond .eq 42, 3) := by decide +kernel
theorem dX3_allMarked_17 : decode cX3_allMarked 17 = .ok (.iload_n 3, 1) := by decide +kernel
theorem dX3_allMarked_18 : decode cX3_allMarked 18 = .ok (.iload 4, 2) := by decide +kernel
theorem dX3_allMarked_20 : decode cX3_allMarked 20 = .ok (.invokestatic 78, 3) := by decide +kernel
theorem dX3_allMarked_23 : decode cX3_allMarked 23 = .ok (.ifCond .eq 27, 3) := by decide +kernel
theorem dX3_allMarked_26 : decode cX3_allMarked 26 = .ok (.aload_n 2, 1) := by decide +kernel
theorem dX3_allMarked_27 : decode cX3_allMarked 27 = .ok (.iload 4, 2) := by decide +kernel
theorem dX3_allMarked_29 : decode cX3_allMarked 29 = .ok (.aaload, 1) := by decide +kernel
theorem dX3_allMarked_30 : decode cX3_allMarked 30 = .ok (.getfield 121, 3) := by decide +kernel
theorem dX3_allMarked_33 : decode cX3_allMarked 33 = .ok (.iload_n 1, 1) := by decide +kernel
theorem dX3_allMarked_34 : decode cX3_allMarked 34 = .ok (.iload 4, 2) := by decide +kernel
theorem dX3_allMarked_36 : decode cX3_allMarked 36 = .ok (.iconst 3, 1) := by decide +kernel
theorem dX3_allMarked_37 : decode cX3_allMarked 37 = .ok (.imul, 1) := by decide +kernel
theorem dX3_allMarked_38 : decode cX3_allMarked 38 = .ok (.ishr, 1) := by decide +kernel
theorem dX3_allMarked_39 : decode cX3_allMarked 39 = .ok (.bipush 7, 2) := by decide +kernel
theorem dX3_allMarked_41 : decode cX3_allMarked 41 = .ok (.iand, 1) := by decide +kernel
theorem dX3_allMarked_42 : decode cX3_allMarked 42 = .ok (.invokestatic 78, 3) := by decide +kernel
theorem dX3_allMarked_45 : decode cX3_allMarked 45 = .ok (.ifCond .ne 5, 3) := by decide +kernel
theorem dX3_allMarked_48 : decode cX3_allMarked 48 = .ok (.iconst 0, 1) := by decide +kernel
theorem dX3_allMarked_49 : decode cX3_allMarked 49 = .ok (.ireturn, 1) := by decide +kernel
theorem dX3_allMarked_50 : decode cX3_allMarked 50 = .ok (.iinc 4 1, 3) := by decide +kernel
theorem dX3_allMarked_53 : decode cX3_allMarked 53 = .ok (.goto (-50), 3) := by decide +kernel
theorem dX3_allMarked_56 : decode cX3_allMarked 56 = .ok (.iconst 1, 1) := by decide +kernel
theorem dX3_allMarked_57 : decode cX3_allMarked 57 = .ok (.ireturn, 1) := by decide +kernel
theorem dX3_measure_0 : decode cX3_measure 0 = .ok (.aload_n 0, 1) := by decide +kernel
theorem dX3_measure_1 : decode cX3_measure 1 = .ok (.iconst 0, 1) := by decide +kernel
theorem dX3_measure_2 : decode cX3_measure 2 = .ok (.putfield 43, 3) := by decide +kernel
theorem dX3_measure_5 : decode cX3_measure 5 = .ok (.iconst 0, 1) := by decide +kernel
theorem dX3_measure_6 : decode cX3_measure 6 = .ok (.istore_n 2, 1) := by decide +kernel
theorem dX3_measure_7 : decode cX3_measure 7 = .ok (.iload_n 2, 1) := by decide +kernel
theorem dX3_measure_8 : decode cX3_measure 8 = .ok (.aload_n 0, 1) := by decide +kernel
theorem dX3_measure_9 : decode cX3_measure 9 = .ok (.getfield 53, 3) := by decide +kernel
theorem dX3_measure_12 : decode cX3_measure 12 = .ok (.if_icmp .ge 46, 3) := by decide +kernel
theorem dX3_measure_15 : decode cX3_measure 15 = .ok (.iload_n 2, 1) := by decide +kernel
theorem dX3_measure_16 : decode cX3_measure 16 = .ok (.aload_n 1, 1) := by decide +kernel
theorem dX3_measure_17 : decode cX3_measure 17 = .ok (.arraylength, 1) := by decide +kernel
theorem dX3_measure_18 : decode cX3_measure 18 = .ok (.if_icmp .ge 40, 3) := by decide +kernel
theorem dX3_measure_21 : decode cX3_measure 21 = .ok (.aload_n 0, 1) := by decide +kernel
theorem dX3_measure_22 : decode cX3_measure 22 = .ok (.getfield 37, 3) := by decide +kernel
theorem dX3_measure_25 : decode cX3_measure 25 = .ok (.iload_n 2, 1) := by decide +kernel
theorem dX3_measure_26 : decode cX3_measure 26 = .ok (.bipush (-9), 2) := by decide +kernel
theorem dX3_measure_28 : decode cX3_measure 28 = .ok (.iastore, 1) := by decide +kernel
theorem dX3_measure_29 : decode cX3_measure 29 = .ok (.aload_n 0, 1) := by decide +kernel
theorem dX3_measure_30 : decode cX3_measure 30 = .ok (.getfield 21, 3) := by decide +kernel
theorem dX3_measure_33 : decode cX3_measure 33 = .ok (.iload_n 2, 1) := by decide +kernel
theorem dX3_measure_34 : decode cX3_measure 34 = .ok (.baload, 1) := by decide +kernel
theorem dX3_measure_35 : decode cX3_measure 35 = .ok (.ifCond .eq 17, 3) := by decide +kernel
theorem dX3_measure_38 : decode cX3_measure 38 = .ok (.aload_n 1, 1) := by decide +kernel
theorem dX3_measure_39 : decode cX3_measure 39 = .ok (.iload_n 2, 1) := by decide +kernel
theorem dX3_measure_40 : decode cX3_measure 40 = .ok (.iaload, 1) := by decide +kernel
theorem dX3_measure_41 : decode cX3_measure 41 = .ok (.bipush (-9), 2) := by decide +kernel
theorem dX3_measure_43 : decode cX3_measure 43 = .ok (.if_icmp .ne 9, 3) := by decide +kernel
theorem dX3_measure_46 : decode cX3_measure 46 = .ok (.aload_n 0, 1) := by decide +kernel
theorem dX3_measure_47 : decode cX3_measure 47 = .ok (.iload_n 2, 1) := by decide +kernel
theorem dX3_measure_48 : decode cX3_measure 48 = .ok (.iconst 0, 1) := by decide +kernel
theorem dX3_measure_49 : decode cX3_measure 49 = .ok (.invokevirtual 124, 3) := by decide +kernel
theorem dX3_measure_52 : decode cX3_measure 52 = .ok (.iinc 2 1, 3) := by decide +kernel
theorem dX3_measure_55 : decode cX3_measure 55 = .ok (.goto (-48), 3) := by decide +kernel
theorem dX3_measure_58 : decode cX3_measure 58 = .ok (.iconst 0, 1) := by decide +kernel
theorem dX3_measure_59 : decode cX3_measure 59 = .ok (.istore_n 2, 1) := by decide +kernel
theorem dX3_measure_60 : decode cX3_measure 60 = .ok (.iload_n 2, 1) := by decide +kernel
theorem dX3_measure_61 : decode cX3_measure 61 = .ok (.aload_n 0, 1) := by decide +kernel
theorem dX3_measure_62 : decode cX3_measure 62 = .ok (.getfield 43, 3) := by decide +kernel
theorem dX3_measure_65 : decode cX3_measure 65 = .ok (.if_icmp .ge 27, 3) := by decide +kernel
theorem dX3_measure_68 : decode cX3_measure 68 = .ok (.iload_n 2, 1) := by decide +kernel
theorem dX3_measure_69 : decode cX3_measure 69 = .ok (.sipush 150, 3) := by decide +kernel
theorem dX3_measure_72 : decode cX3_measure 72 = .ok (.if_icmp .ge 20, 3) := by decide +kernel
theorem dX3_measure_75 : decode cX3_measure 75 = .ok (.aload_n 0, 1) := by decide +kernel
theorem dX3_measure_76 : decode cX3_measure 76 = .ok (.aload_n 0, 1) := by decide +kernel
theorem dX3_measure_77 : decode cX3_measure 77 = .ok (.getfield 40, 3) := by decide +kernel
