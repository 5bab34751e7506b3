theorem zd_L_count_0 : decode zc_L_count 0 = .ok (.aload_n 2, 1) := by decide +kernel
theorem zd_L_count_1 : decode zc_L_count 1 = .ok (.iconst 0, 1) := by decide +kernel
theorem zd_L_count_2 : decode zc_L_count 2 = .ok (.aload_n 0, 1) := by decide +kernel
theorem zd_L_count_3 : decode zc_L_count 3 = .ok (.iload_n 1, 1) := by decide +kernel
theorem zd_L_count_4 : decode zc_L_count 4 = .ok (.invokevirtual 7, 3) := by decide +kernel
theorem zd_L_count_7 : decode zc_L_count 7 = .ok (.i2l, 1) := by decide +kernel
theorem zd_L_count_8 : decode zc_L_count 8 = .ok (.lastore, 1) := by decide +kernel
theorem zd_L_count_9 : decode zc_L_count 9 = .ok (.goto 9, 3) := by decide +kernel
theorem zd_L_count_12 : decode zc_L_count 12 = .ok (.astore_n 3, 1) := by decide +kernel
theorem zd_L_count_13 : decode zc_L_count 13 = .ok (.iconst 1, 1) := by decide +kernel
theorem zd_L_count_14 : decode zc_L_count 14 = .ok (.ireturn, 1) := by decide +kernel
theorem zd_L_count_15 : decode zc_L_count 15 = .ok (.astore_n 3, 1) := by decide +kernel
theorem zd_L_count_16 : decode zc_L_count 16 = .ok (.iconst 2, 1) := by decide +kernel
theorem zd_L_count_17 : decode zc_L_count 17 = .ok (.ireturn, 1) := by decide +kernel
theorem zd_L_count_18 : decode zc_L_count 18 = .ok (.iconst 0, 1) := by decide +kernel
theorem zd_L_count_19 : decode zc_L_count 19 = .ok (.ireturn, 1) := by decide +kernel
theorem zd_L_order_0 : decode zc_L_order 0 = .ok (.aload_n 2, 1) := by decide +kernel
theorem zd_L_order_1 : decode zc_L_order 1 = .ok (.iconst 0, 1) := by decide +kernel
theorem zd_L_order_2 : decode zc_L_order 2 = .ok (.aload_n 0, 1) := by decide +kernel
theorem zd_L_order_3 : decode zc_L_order 3 = .ok (.iload_n 1, 1) := by decide +kernel
theorem zd_L_order_4 : decode zc_L_order 4 = .ok (.invokevirtual 17, 3) := by decide +kernel
theorem zd_L_order_7 : decode zc_L_order 7 = .ok (.i2l, 1) := by decide +kernel
theorem zd_L_order_8 : decode zc_L_order 8 = .ok (.lastore, 1) := by decide +kernel
theorem zd_L_order_9 : decode zc_L_order 9 = .ok (.goto 6, 3) := by decide +kernel
theorem zd_L_order_12 : decode zc_L_order 12 = .ok (.astore_n 3, 1) := by decide +kernel
theorem zd_L_order_13 : decode zc_L_order 13 = .ok (.iconst 1, 1) := by decide +kernel
theorem zd_L_order_14 : decode zc_L_order 14 = .ok (.ireturn, 1) := by decide +kernel
theorem zd_L_order_15 : decode zc_L_order 15 = .ok (.iconst 0, 1) := by decide +kernel
theorem zd_L_order_16 : decode zc_L_order 16 = .ok (.ireturn, 1) := by decide +kernel
theorem zd_L_pace_0 : decode zc_L_pace 0 = .ok (.aload_n 3, 1) := by decide +kernel
theorem zd_L_pace_1 : decode zc_L_pace 1 = .ok (.iconst 0, 1) := by decide +kernel
theorem zd_L_pace_2 : decode zc_L_pace 2 = .ok (.aload_n 0, 1) := by decide +kernel
theorem zd_L_pace_3 : decode zc_L_pace 3 = .ok (.iload_n 1, 1) := by decide +kernel
theorem zd_L_pace_4 : decode zc_L_pace 4 = .ok (.iload_n 2, 1) := by decide +kernel
theorem zd_L_pace_5 : decode zc_L_pace 5 = .ok (.invokevirtual 22, 3) := by decide +kernel
theorem zd_L_pace_8 : decode zc_L_pace 8 = .ok (.i2l, 1) := by decide +kernel
theorem zd_L_pace_9 : decode zc_L_pace 9 = .ok (.lastore, 1) := by decide +kernel
theorem zd_L_pace_10 : decode zc_L_pace 10 = .ok (.goto 15, 3) := by decide +kernel
theorem zd_L_pace_13 : decode zc_L_pace 13 = .ok (.astore 4, 2) := by decide +kernel
theorem zd_L_pace_15 : decode zc_L_pace 15 = .ok (.iconst 1, 1) := by decide +kernel
theorem zd_L_pace_16 : decode zc_L_pace 16 = .ok (.ireturn, 1) := by decide +kernel
theorem zd_L_pace_17 : decode zc_L_pace 17 = .ok (.astore 4, 2) := by decide +kernel
theorem zd_L_pace_19 : decode zc_L_pace 19 = .ok (.iconst 2, 1) := by decide +kernel
theorem zd_L_pace_20 : decode zc_L_pace 20 = .ok (.ireturn, 1) := by decide +kernel
theorem zd_L_pace_21 : decode zc_L_pace 21 = .ok (.astore 4, 2) := by decide +kernel
theorem zd_L_pace_23 : decode zc_L_pace 23 = .ok (.iconst 3, 1) := by decide +kernel
theorem zd_L_pace_24 : decode zc_L_pace 24 = .ok (.ireturn, 1) := by decide +kernel
theorem zd_L_pace_25 : decode zc_L_pace 25 = .ok (.iconst 0, 1) := by decide +kernel
theorem zd_L_pace_26 : decode zc_L_pace 26 = .ok (.ireturn, 1) := by decide +kernel
theorem zd_L_law_0 : decode zc_L_law 0 = .ok (.new 8, 3) := by decide +kernel
theorem zd_L_law_3 : decode zc_L_law 3 = .ok (.dup, 1) := by decide +kernel
theorem zd_L_law_4 : decode zc_L_law 4 = .ok (.invokespecial 26, 3) := by decide +kernel
theorem zd_L_law_7 : decode zc_L_law 7 = .ok (.astore_n 1, 1) := by decide +kernel
theorem zd_L_law_8 : decode zc_L_law 8 = .ok (.new 27, 3) := by decide +kernel
theorem zd_L_law_11 : decode zc_L_law 11 = .ok (.dup, 1) := by decide +kernel
theorem zd_L_law_12 : decode zc_L_law 12 = .ok (.invokespecial 29, 3) := by decide +kernel
theorem zd_L_law_15 : decode zc_L_law 15 = .ok (.astore_n 2, 1) := by decide +kernel
theorem zd_L_law_16 : decode zc_L_law 16 = .ok (.iconst 1, 1) := by decide +kernel
theorem zd_L_law_17 : decode zc_L_law 17 = .ok (.newarray .long, 2) := by decide +kernel
theorem zd_L_law_19 : decode zc_L_law 19 = .ok (.astore_n 3, 1) := by decide +kernel
theorem zd_L_law_20 : decode zc_L_law 20 = .ok (.iconst 0, 1) := by decide +kernel
theorem zd_L_law_21 : decode zc_L_law 21 = .ok (.istore 4, 2) := by decide +kernel
theorem zd_L_law_23 : decode zc_L_law 23 = .ok (.iload 4, 2) := by decide +kernel
theorem zd_L_law_25 : decode zc_L_law 25 = .ok (.aload_n 0, 1) := by decide +kernel
theorem zd_L_law_26 : decode zc_L_law 26 = .ok (.arraylength, 1) := by decide +kernel
theorem zd_L_law_27 : decode zc_L_law 27 = .ok (.bipush 6, 2) := by decide +kernel
theorem zd_L_law_29 : decode zc_L_law 29 = .ok (.isub, 1) := by decide +kernel
theorem zd_L_law_30 : decode zc_L_law 30 = .ok (.if_icmp .gt 492, 3) := by decide +kernel
theorem zd_L_law_33 : decode zc_L_law 33 = .ok (.aload_n 0, 1) := by decide +kernel
theorem zd_L_law_34 : decode zc_L_law 34 = .ok (.iload 4, 2) := by decide +kernel
theorem zd_L_law_36 : decode zc_L_law 36 = .ok (.iaload, 1) := by decide +kernel
theorem zd_L_law_37 : decode zc_L_law 37 = .ok (.bipush 15, 2) := by decide +kernel
theorem zd_L_law_39 : decode zc_L_law 39 = .ok (.iand, 1) := by decide +kernel
theorem zd_L_law_40 : decode zc_L_law 40 = .ok (.tableswitch 476 0 10 #[60, 85, 122, 195, 208, 264, 320, 345, 370, 438, 451], 60) := by decide +kernel
theorem zd_L_law_100 : decode zc_L_law 100 = .ok (.aload_n 1, 1) := by decide +kernel
theorem zd_L_law_101 : decode zc_L_law 101 = .ok (.aload_n 0, 1) := by decide +kernel
theorem zd_L_law_102 : decode zc_L_law 102 = .ok (.iload 4, 2) := by decide +kernel
theorem zd_L_law_104 : decode zc_L_law 104 = .ok (.iconst 1, 1) := by decide +kernel
theorem zd_L_law_105 : decode zc_L_law 105 = .ok (.iadd, 1) := by decide +kernel
theorem zd_L_law_106 : decode zc_L_law 106 = .ok (.iaload, 1) := by decide +kernel
theorem zd_L_law_107 : decode zc_L_law 107 = .ok (.invokevirtual 30, 3) := by decide +kernel
theorem zd_L_law_110 : decode zc_L_law 110 = .ok (.aload_n 2, 1) := by decide +kernel
theorem zd_L_law_111 : decode zc_L_law 111 = .ok (.aload_n 0, 1) := by decide +kernel
theorem zd_L_law_112 : decode zc_L_law 112 = .ok (.iload 4, 2) := by decide +kernel
theorem zd_L_law_114 : decode zc_L_law 114 = .ok (.iconst 1, 1) := by decide +kernel
theorem zd_L_law_115 : decode zc_L_law 115 = .ok (.iadd, 1) := by decide +kernel
theorem zd_L_law_116 : decode zc_L_law 116 = .ok (.iaload, 1) := by decide +kernel
theorem zd_L_law_117 : decode zc_L_law 117 = .ok (.invokevirtual 34, 3) := by decide +kernel
theorem zd_L_law_120 : decode zc_L_law 120 = .ok (.if_icmp .eq 396, 3) := by decide +kernel
theorem zd_L_law_123 : decode zc_L_law 123 = .ok (.iconst 0, 1) := by decide +kernel
theorem zd_L_law_124 : decode zc_L_law 124 = .ok (.ireturn, 1) := by decide +kernel
theorem zd_L_law_125 : decode zc_L_law 125 = .ok (.aload_n 1, 1) := by decide +kernel
theorem zd_L_law_126 : decode zc_L_law 126 = .ok (.aload_n 0, 1) := by decide +kernel
theorem zd_L_law_127 : decode zc_L_law 127 = .ok (.iload 4, 2) := by decide +kernel
theorem zd_L_law_129 : decode zc_L_law 129 = .ok (.iconst 1, 1) := by decide +kernel
theorem zd_L_law_130 : decode zc_L_law 130 = .ok (.iadd, 1) := by decide +kernel
theorem zd_L_law_131 : decode zc_L_law 131 = .ok (.iaload, 1) := by decide +kernel
theorem zd_L_law_132 : decode zc_L_law 132 = .ok (.aload_n 0, 1) := by decide +kernel
theorem zd_L_law_133 : decode zc_L_law 133 = .ok (.iload 4, 2) := by decide +kernel
theorem zd_L_law_135 : decode zc_L_law 135 = .ok (.iconst 2, 1) := by decide +kernel
theorem zd_L_law_136 : decode zc_L_law 136 = .ok (.iadd, 1) := by decide +kernel
theorem zd_L_law_137 : decode zc_L_law 137 = .ok (.iaload, 1) := by decide +kernel
theorem zd_L_law_138 : decode zc_L_law 138 = .ok (.invokevirtual 35, 3) := by decide +kernel
theorem zd_L_law_141 : decode zc_L_law 141 = .ok (.aload_n 2, 1) := by decide +kernel
theorem zd_L_law_142 : decode zc_L_law 142 = .ok (.aload_n 0, 1) := by decide +kernel
theorem zd_L_law_143 : decode zc_L_law 143 = .ok (.iload 4, 2) := by decide +kernel
theorem zd_L_law_145 : decode zc_L_law 145 = .ok (.iconst 1, 1) := by decide +kernel
theorem zd_L_law_146 : decode zc_L_law 146 = .ok (.iadd, 1) := by decide +kernel
theorem zd_L_law_147 : decode zc_L_law 147 = .ok (.iaload, 1) := by decide +kernel
theorem zd_L_law_148 : decode zc_L_law 148 = .ok (.aload_n 0, 1) := by decide +kernel
theorem zd_L_law_149 : decode zc_L_law 149 = .ok (.iload 4, 2) := by decide +kernel
theorem zd_L_law_151 : decode zc_L_law 151 = .ok (.iconst 2, 1) := by decide +kernel
theorem zd_L_law_152 : decode zc_L_law 152 = .ok (.iadd, 1) := by decide +kernel
theorem zd_L_law_153 : decode zc_L_law 153 = .ok (.iaload, 1) := by decide +kernel
theorem zd_L_law_154 : decode zc_L_law 154 = .ok (.invokevirtual 39, 3) := by decide +kernel
theorem zd_L_law_157 : decode zc_L_law 157 = .ok (.if_icmp .eq 359, 3) := by decide +kernel
theorem zd_L_law_160 : decode zc_L_law 160 = .ok (.iconst 0, 1) := by decide +kernel
theorem zd_L_law_161 : decode zc_L_law 161 = .ok (.ireturn, 1) := by decide +kernel
theorem zd_L_law_162 : decode zc_L_law 162 = .ok (.aload_n 1, 1) := by decide +kernel
theorem zd_L_law_163 : decode zc_L_law 163 = .ok (.aload_n 0, 1) := by decide +kernel
theorem zd_L_law_164 : decode zc_L_law 164 = .ok (.iload 4, 2) := by decide +kernel
theorem zd_L_law_166 : decode zc_L_law 166 = .ok (.iconst 1, 1) := by decide +kernel
theorem zd_L_law_167 : decode zc_L_law 167 = .ok (.iadd, 1) := by decide +kernel
theorem zd_L_law_168 : decode zc_L_law 168 = .ok (.iaload, 1) := by decide +kernel
theorem zd_L_law_169 : decode zc_L_law 169 = .ok (.aload_n 0, 1) := by decide +kernel
theorem zd_L_law_170 : decode zc_L_law 170 = .ok (.iload 4, 2) := by decide +kernel
theorem zd_L_law_172 : decode zc_L_law 172 = .ok (.iconst 2, 1) := by decide +kernel
theorem zd_L_law_173 : decode zc_L_law 173 = .ok (.iadd, 1) := by decide +kernel
theorem zd_L_law_174 : decode zc_L_law 174 = .ok (.iaload, 1) := by decide +kernel
theorem zd_L_law_175 : decode zc_L_law 175 = .ok (.aload_n 0, 1) := by decide +kernel
theorem zd_L_law_176 : decode zc_L_law 176 = .ok (.iload 4, 2) := by decide +kernel
theorem zd_L_law_178 : decode zc_L_law 178 = .ok (.iconst 3, 1) := by decide +kernel
theorem zd_L_law_179 : decode zc_L_law 179 = .ok (.iadd, 1) := by decide +kernel
theorem zd_L_law_180 : decode zc_L_law 180 = .ok (.iaload, 1) := by decide +kernel
theorem zd_L_law_181 : decode zc_L_law 181 = .ok (.aload_n 0, 1) := by decide +kernel
theorem zd_L_law_182 : decode zc_L_law 182 = .ok (.iload 4, 2) := by decide +kernel
theorem zd_L_law_184 : decode zc_L_law 184 = .ok (.iconst 4, 1) := by decide +kernel
theorem zd_L_law_185 : decode zc_L_law 185 = .ok (.iadd, 1) := by decide +kernel
theorem zd_L_law_186 : decode zc_L_law 186 = .ok (.iaload, 1) := by decide +kernel
theorem zd_L_law_187 : decode zc_L_law 187 = .ok (.aload_n 0, 1) := by decide +kernel
theorem zd_L_law_188 : decode zc_L_law 188 = .ok (.iload 4, 2) := by decide +kernel
theorem zd_L_law_190 : decode zc_L_law 190 = .ok (.iconst 5, 1) := by decide +kernel
theorem zd_L_law_191 : decode zc_L_law 191 = .ok (.iadd, 1) := by decide +kernel
theorem zd_L_law_192 : decode zc_L_law 192 = .ok (.iaload, 1) := by decide +kernel
theorem zd_L_law_193 : decode zc_L_law 193 = .ok (.invokevirtual 40, 3) := by decide +kernel
theorem zd_L_law_196 : decode zc_L_law 196 = .ok (.aload_n 2, 1) := by decide +kernel
theorem zd_L_law_197 : decode zc_L_law 197 = .ok (.aload_n 0, 1) := by decide +kernel
theorem zd_L_law_198 : decode zc_L_law 198 = .ok (.iload 4, 2) := by decide +kernel
theorem zd_L_law_200 : decode zc_L_law 200 = .ok (.iconst 1, 1) := by decide +kernel
theorem zd_L_law_201 : decode zc_L_law 201 = .ok (.iadd, 1) := by decide +kernel
theorem zd_L_law_202 : decode zc_L_law 202 = .ok (.iaload, 1) := by decide +kernel
theorem zd_L_law_203 : decode zc_L_law 203 = .ok (.aload_n 0, 1) := by decide +kernel
theorem zd_L_law_204 : decode zc_L_law 204 = .ok (.iload 4, 2) := by decide +kernel
theorem zd_L_law_206 : decode zc_L_law 206 = .ok (.iconst 2, 1) := by decide +kernel
theorem zd_L_law_207 : decode zc_L_law 207 = .ok (.iadd, 1) := by decide +kernel
theorem zd_L_law_208 : decode zc_L_law 208 = .ok (.iaload, 1) := by decide +kernel
theorem zd_L_law_209 : decode zc_L_law 209 = .ok (.aload_n 0, 1) := by decide +kernel
theorem zd_L_law_210 : decode zc_L_law 210 = .ok (.iload 4, 2) := by decide +kernel
theorem zd_L_law_212 : decode zc_L_law 212 = .ok (.iconst 3, 1) := by decide +kernel
theorem zd_L_law_213 : decode zc_L_law 213 = .ok (.iadd, 1) := by decide +kernel
theorem zd_L_law_214 : decode zc_L_law 214 = .ok (.iaload, 1) := by decide +kernel
theorem zd_L_law_215 : decode zc_L_law 215 = .ok (.aload_n 0, 1) := by decide +kernel
theorem zd_L_law_216 : decode zc_L_law 216 = .ok (.iload 4, 2) := by decide +kernel
theorem zd_L_law_218 : decode zc_L_law 218 = .ok (.iconst 4, 1) := by decide +kernel
theorem zd_L_law_219 : decode zc_L_law 219 = .ok (.iadd, 1) := by decide +kernel
theorem zd_L_law_220 : decode zc_L_law 220 = .ok (.iaload, 1) := by decide +kernel
theorem zd_L_law_221 : decode zc_L_law 221 = .ok (.aload_n 0, 1) := by decide +kernel
theorem zd_L_law_222 : decode zc_L_law 222 = .ok (.iload 4, 2) := by decide +kernel
theorem zd_L_law_224 : decode zc_L_law 224 = .ok (.iconst 5, 1) := by decide +kernel
theorem zd_L_law_225 : decode zc_L_law 225 = .ok (.iadd, 1) := by decide +kernel
theorem zd_L_law_226 : decode zc_L_law 226 = .ok (.iaload, 1) := by decide +kernel
theorem zd_L_law_227 : decode zc_L_law 227 = .ok (.invokevirtual 44, 3) := by decide +kernel
theorem zd_L_law_230 : decode zc_L_law 230 = .ok (.if_icmp .eq 286, 3) := by decide +kernel
theorem zd_L_law_233 : decode zc_L_law 233 = .ok (.iconst 0, 1) := by decide +kernel
theorem zd_L_law_234 : decode zc_L_law 234 = .ok (.ireturn, 1) := by decide +kernel
theorem zd_L_law_235 : decode zc_L_law 235 = .ok (.aload_n 1, 1) := by decide +kernel
theorem zd_L_law_236 : decode zc_L_law 236 = .ok (.invokevirtual 45, 3) := by decide +kernel
theorem zd_L_law_239 : decode zc_L_law 239 = .ok (.aload_n 2, 1) := by decide +kernel
theorem zd_L_law_240 : decode zc_L_law 240 = .ok (.invokevirtual 49, 3) := by decide +kernel
theorem zd_L_law_243 : decode zc_L_law 243 = .ok (.if_icmp .eq 273, 3) := by decide +kernel
theorem zd_L_law_246 : decode zc_L_law 246 = .ok (.iconst 0, 1) := by decide +kernel
theorem zd_L_law_247 : decode zc_L_law 247 = .ok (.ireturn, 1) := by decide +kernel
theorem zd_L_law_248 : decode zc_L_law 248 = .ok (.aload_n 1, 1) := by decide +kernel
theorem zd_L_law_249 : decode zc_L_law 249 = .ok (.aload_n 0, 1) := by decide +kernel
theorem zd_L_law_250 : decode zc_L_law 250 = .ok (.iload 4, 2) := by decide +kernel
theorem zd_L_law_252 : decode zc_L_law 252 = .ok (.iconst 1, 1) := by decide +kernel
theorem zd_L_law_253 : decode zc_L_law 253 = .ok (.iadd, 1) := by decide +kernel
theorem zd_L_law_254 : decode zc_L_law 254 = .ok (.iaload, 1) := by decide +kernel
theorem zd_L_law_255 : decode zc_L_law 255 = .ok (.aload_n 3, 1) := by decide +kernel
theorem zd_L_law_256 : decode zc_L_law 256 = .ok (.invokestatic 50, 3) := by decide +kernel
theorem zd_L_law_259 : decode zc_L_law 259 = .ok (.istore 5, 2) := by decide +kernel
theorem zd_L_law_261 : decode zc_L_law 261 = .ok (.aload_n 2, 1) := by decide +kernel
theorem zd_L_law_262 : decode zc_L_law 262 = .ok (.aload_n 0, 1) := by decide +kernel
theorem zd_L_law_263 : decode zc_L_law 263 = .ok (.iload 4, 2) := by decide +kernel
theorem zd_L_law_265 : decode zc_L_law 265 = .ok (.iconst 1, 1) := by decide +kernel
theorem zd_L_law_266 : decode zc_L_law 266 = .ok (.iadd, 1) := by decide +kernel
theorem zd_L_law_267 : decode zc_L_law 267 = .ok (.iaload, 1) := by decide +kernel
theorem zd_L_law_268 : decode zc_L_law 268 = .ok (.invokevirtual 55, 3) := by decide +kernel
theorem zd_L_law_271 : decode zc_L_law 271 = .ok (.istore 6, 2) := by decide +kernel
theorem zd_L_law_273 : decode zc_L_law 273 = .ok (.aload_n 2, 1) := by decide +kernel
theorem zd_L_law_274 : decode zc_L_law 274 = .ok (.invokevirtual 56, 3) := by decide +kernel
theorem zd_L_law_277 : decode zc_L_law 277 = .ok (.iload 5, 2) := by decide +kernel
theorem zd_L_law_279 : decode zc_L_law 279 = .ok (.if_icmp .eq 5, 3) := by decide +kernel
theorem zd_L_law_282 : decode zc_L_law 282 = .ok (.iconst 0, 1) := by decide +kernel
theorem zd_L_law_283 : decode zc_L_law 283 = .ok (.ireturn, 1) := by decide +kernel
theorem zd_L_law_284 : decode zc_L_law 284 = .ok (.iload 5, 2) := by decide +kernel
theorem zd_L_law_286 : decode zc_L_law 286 = .ok (.ifCond .ne 15, 3) := by decide +kernel
theorem zd_L_law_289 : decode zc_L_law 289 = .ok (.aload_n 3, 1) := by decide +kernel
theorem zd_L_law_290 : decode zc_L_law 290 = .ok (.iconst 0, 1) := by decide +kernel
theorem zd_L_law_291 : decode zc_L_law 291 = .ok (.laload, 1) := by decide +kernel
theorem zd_L_law_292 : decode zc_L_law 292 = .ok (.iload 6, 2) := by decide +kernel
theorem zd_L_law_294 : decode zc_L_law 294 = .ok (.i2l, 1) := by decide +kernel
theorem zd_L_law_295 : decode zc_L_law 295 = .ok (.lcmp, 1) := by decide +kernel
theorem zd_L_law_296 : decode zc_L_law 296 = .ok (.ifCond .eq 5, 3) := by decide +kernel
theorem zd_L_law_299 : decode zc_L_law 299 = .ok (.iconst 0, 1) := by decide +kernel
theorem zd_L_law_300 : decode zc_L_law 300 = .ok (.ireturn, 1) := by decide +kernel
theorem zd_L_law_301 : decode zc_L_law 301 = .ok (.goto 215, 3) := by decide +kernel
theorem zd_L_law_304 : decode zc_L_law 304 = .ok (.aload_n 1, 1) := by decide +kernel
theorem zd_L_law_305 : decode zc_L_law 305 = .ok (.aload_n 0, 1) := by decide +kernel
theorem zd_L_law_306 : decode zc_L_law 306 = .ok (.iload 4, 2) := by decide +kernel
theorem zd_L_law_308 : decode zc_L_law 308 = .ok (.iconst 1, 1) := by decide +kernel
theorem zd_L_law_309 : decode zc_L_law 309 = .ok (.iadd, 1) := by decide +kernel
theorem zd_L_law_310 : decode zc_L_law 310 = .ok (.iaload, 1) := by decide +kernel
theorem zd_L_law_311 : decode zc_L_law 311 = .ok (.aload_n 3, 1) := by decide +kernel
theorem zd_L_law_312 : decode zc_L_law 312 = .ok (.invokestatic 59, 3) := by decide +kernel
theorem zd_L_law_315 : decode zc_L_law 315 = .ok (.istore 5, 2) := by decide +kernel
theorem zd_L_law_317 : decode zc_L_law 317 = .ok (.aload_n 2, 1) := by decide +kernel
theorem zd_L_law_318 : decode zc_L_law 318 = .ok (.aload_n 0, 1) := by decide +kernel
theorem zd_L_law_319 : decode zc_L_law 319 = .ok (.iload 4, 2) := by decide +kernel
theorem zd_L_law_321 : decode zc_L_law 321 = .ok (.iconst 1, 1) := by decide +kernel
theorem zd_L_law_322 : decode zc_L_law 322 = .ok (.iadd, 1) := by decide +kernel
theorem zd_L_law_323 : decode zc_L_law 323 = .ok (.iaload, 1) := by decide +kernel
theorem zd_L_law_324 : decode zc_L_law 324 = .ok (.invokevirtual 61, 3) := by decide +kernel
theorem zd_L_law_327 : decode zc_L_law 327 = .ok (.istore 6, 2) := by decide +kernel
theorem zd_L_law_329 : decode zc_L_law 329 = .ok (.aload_n 2, 1) := by decide +kernel
theorem zd_L_law_330 : decode zc_L_law 330 = .ok (.invokevirtual 56, 3) := by decide +kernel
theorem zd_L_law_333 : decode zc_L_law 333 = .ok (.iload 5, 2) := by decide +kernel
theorem zd_L_law_335 : decode zc_L_law 335 = .ok (.if_icmp .eq 5, 3) := by decide +kernel
theorem zd_L_law_338 : decode zc_L_law 338 = .ok (.iconst 0, 1) := by decide +kernel
theorem zd_L_law_339 : decode zc_L_law 339 = .ok (.ireturn, 1) := by decide +kernel
theorem zd_L_law_340 : decode zc_L_law 340 = .ok (.iload 5, 2) := by decide +kernel
theorem zd_L_law_342 : decode zc_L_law 342 = .ok (.ifCond .ne 15, 3) := by decide +kernel
theorem zd_L_law_345 : decode zc_L_law 345 = .ok (.aload_n 3, 1) := by decide +kernel
theorem zd_L_law_346 : decode zc_L_law 346 = .ok (.iconst 0, 1) := by decide +kernel
theorem zd_L_law_347 : decode zc_L_law 347 = .ok (.laload, 1) := by decide +kernel
theorem zd_L_law_348 : decode zc_L_law 348 = .ok (.iload 6, 2) := by decide +kernel
theorem zd_L_law_350 : decode zc_L_law 350 = .ok (.i2l, 1) := by decide +kernel
theorem zd_L_law_351 : decode zc_L_law 351 = .ok (.lcmp, 1) := by decide +kernel
theorem zd_L_law_352 : decode zc_L_law 352 = .ok (.ifCond .eq 5, 3) := by decide +kernel
theorem zd_L_law_355 : decode zc_L_law 355 = .ok (.iconst 0, 1) := by decide +kernel
theorem zd_L_law_356 : decode zc_L_law 356 = .ok (.ireturn, 1) := by decide +kernel
theorem zd_L_law_357 : decode zc_L_law 357 = .ok (.goto 159, 3) := by decide +kernel
theorem zd_L_law_360 : decode zc_L_law 360 = .ok (.aload_n 1, 1) := by decide +kernel
theorem zd_L_law_361 : decode zc_L_law 361 = .ok (.aload_n 0, 1) := by decide +kernel
theorem zd_L_law_362 : decode zc_L_law 362 = .ok (.iload 4, 2) := by decide +kernel
theorem zd_L_law_364 : decode zc_L_law 364 = .ok (.iconst 1, 1) := by decide +kernel
theorem zd_L_law_365 : decode zc_L_law 365 = .ok (.iadd, 1) := by decide +kernel
theorem zd_L_law_366 : decode zc_L_law 366 = .ok (.iaload, 1) := by decide +kernel
theorem zd_L_law_367 : decode zc_L_law 367 = .ok (.invokevirtual 62, 3) := by decide +kernel
theorem zd_L_law_370 : decode zc_L_law 370 = .ok (.aload_n 2, 1) := by decide +kernel
theorem zd_L_law_371 : decode zc_L_law 371 = .ok (.aload_n 0, 1) := by decide +kernel
theorem zd_L_law_372 : decode zc_L_law 372 = .ok (.iload 4, 2) := by decide +kernel
theorem zd_L_law_374 : decode zc_L_law 374 = .ok (.iconst 1, 1) := by decide +kernel
theorem zd_L_law_375 : decode zc_L_law 375 = .ok (.iadd, 1) := by decide +kernel
theorem zd_L_law_376 : decode zc_L_law 376 = .ok (.iaload, 1) := by decide +kernel
theorem zd_L_law_377 : decode zc_L_law 377 = .ok (.invokevirtual 65, 3) := by decide +kernel
theorem zd_L_law_380 : decode zc_L_law 380 = .ok (.if_icmp .eq 136, 3) := by decide +kernel
theorem zd_L_law_383 : decode zc_L_law 383 = .ok (.iconst 0, 1) := by decide +kernel
theorem zd_L_law_384 : decode zc_L_law 384 = .ok (.ireturn, 1) := by decide +kernel
theorem zd_L_law_385 : decode zc_L_law 385 = .ok (.aload_n 1, 1) := by decide +kernel
theorem zd_L_law_386 : decode zc_L_law 386 = .ok (.aload_n 0, 1) := by decide +kernel
theorem zd_L_law_387 : decode zc_L_law 387 = .ok (.iload 4, 2) := by decide +kernel
theorem zd_L_law_389 : decode zc_L_law 389 = .ok (.iconst 1, 1) := by decide +kernel
theorem zd_L_law_390 : decode zc_L_law 390 = .ok (.iadd, 1) := by decide +kernel
theorem zd_L_law_391 : decode zc_L_law 391 = .ok (.iaload, 1) := by decide +kernel
theorem zd_L_law_392 : decode zc_L_law 392 = .ok (.invokevirtual 66, 3) := by decide +kernel
theorem zd_L_law_395 : decode zc_L_law 395 = .ok (.aload_n 2, 1) := by decide +kernel
theorem zd_L_law_396 : decode zc_L_law 396 = .ok (.aload_n 0, 1) := by decide +kernel
theorem zd_L_law_397 : decode zc_L_law 397 = .ok (.iload 4, 2) := by decide +kernel
theorem zd_L_law_399 : decode zc_L_law 399 = .ok (.iconst 1, 1) := by decide +kernel
theorem zd_L_law_400 : decode zc_L_law 400 = .ok (.iadd, 1) := by decide +kernel
theorem zd_L_law_401 : decode zc_L_law 401 = .ok (.iaload, 1) := by decide +kernel
theorem zd_L_law_402 : decode zc_L_law 402 = .ok (.invokevirtual 69, 3) := by decide +kernel
theorem zd_L_law_405 : decode zc_L_law 405 = .ok (.if_icmp .eq 111, 3) := by decide +kernel
theorem zd_L_law_408 : decode zc_L_law 408 = .ok (.iconst 0, 1) := by decide +kernel
theorem zd_L_law_409 : decode zc_L_law 409 = .ok (.ireturn, 1) := by decide +kernel
theorem zd_L_law_410 : decode zc_L_law 410 = .ok (.aload_n 1, 1) := by decide +kernel
theorem zd_L_law_411 : decode zc_L_law 411 = .ok (.aload_n 0, 1) := by decide +kernel
theorem zd_L_law_412 : decode zc_L_law 412 = .ok (.iload 4, 2) := by decide +kernel
theorem zd_L_law_414 : decode zc_L_law 414 = .ok (.iconst 1, 1) := by decide +kernel
theorem zd_L_law_415 : decode zc_L_law 415 = .ok (.iadd, 1) := by decide +kernel
theorem zd_L_law_416 : decode zc_L_law 416 = .ok (.iaload, 1) := by decide +kernel
theorem zd_L_law_417 : decode zc_L_law 417 = .ok (.aload_n 0, 1) := by decide +kernel
theorem zd_L_law_418 : decode zc_L_law 418 = .ok (.iload 4, 2) := by decide +kernel
theorem zd_L_law_420 : decode zc_L_law 420 = .ok (.iconst 2, 1) := by decide +kernel
theorem zd_L_law_421 : decode zc_L_law 421 = .ok (.iadd, 1) := by decide +kernel
theorem zd_L_law_422 : decode zc_L_law 422 = .ok (.iaload, 1) := by decide +kernel
theorem zd_L_law_423 : decode zc_L_law 423 = .ok (.aload_n 3, 1) := by decide +kernel
theorem zd_L_law_424 : decode zc_L_law 424 = .ok (.invokestatic 70, 3) := by decide +kernel
theorem zd_L_law_427 : decode zc_L_law 427 = .ok (.istore 5, 2) := by decide +kernel
theorem zd_L_law_429 : decode zc_L_law 429 = .ok (.aload_n 2, 1) := by decide +kernel
theorem zd_L_law_430 : decode zc_L_law 430 = .ok (.aload_n 0, 1) := by decide +kernel
theorem zd_L_law_431 : decode zc_L_law 431 = .ok (.iload 4, 2) := by decide +kernel
theorem zd_L_law_433 : decode zc_L_law 433 = .ok (.iconst 1, 1) := by decide +kernel
theorem zd_L_law_434 : decode zc_L_law 434 = .ok (.iadd, 1) := by decide +kernel
theorem zd_L_law_435 : decode zc_L_law 435 = .ok (.iaload, 1) := by decide +kernel
theorem zd_L_law_436 : decode zc_L_law 436 = .ok (.aload_n 0, 1) := by decide +kernel
theorem zd_L_law_437 : decode zc_L_law 437 = .ok (.iload 4, 2) := by decide +kernel
theorem zd_L_law_439 : decode zc_L_law 439 = .ok (.iconst 2, 1) := by decide +kernel
theorem zd_L_law_440 : decode zc_L_law 440 = .ok (.iadd, 1) := by decide +kernel
theorem zd_L_law_441 : decode zc_L_law 441 = .ok (.iaload, 1) := by decide +kernel
theorem zd_L_law_442 : decode zc_L_law 442 = .ok (.invokevirtual 73, 3) := by decide +kernel
theorem zd_L_law_445 : decode zc_L_law 445 = .ok (.istore 6, 2) := by decide +kernel
theorem zd_L_law_447 : decode zc_L_law 447 = .ok (.aload_n 2, 1) := by decide +kernel
theorem zd_L_law_448 : decode zc_L_law 448 = .ok (.invokevirtual 56, 3) := by decide +kernel
theorem zd_L_law_451 : decode zc_L_law 451 = .ok (.iload 5, 2) := by decide +kernel
theorem zd_L_law_453 : decode zc_L_law 453 = .ok (.if_icmp .eq 5, 3) := by decide +kernel
theorem zd_L_law_456 : decode zc_L_law 456 = .ok (.iconst 0, 1) := by decide +kernel
theorem zd_L_law_457 : decode zc_L_law 457 = .ok (.ireturn, 1) := by decide +kernel
theorem zd_L_law_458 : decode zc_L_law 458 = .ok (.iload 5, 2) := by decide +kernel
theorem zd_L_law_460 : decode zc_L_law 460 = .ok (.ifCond .ne 15, 3) := by decide +kernel
theorem zd_L_law_463 : decode zc_L_law 463 = .ok (.aload_n 3, 1) := by decide +kernel
theorem zd_L_law_464 : decode zc_L_law 464 = .ok (.iconst 0, 1) := by decide +kernel
theorem zd_L_law_465 : decode zc_L_law 465 = .ok (.laload, 1) := by decide +kernel
theorem zd_L_law_466 : decode zc_L_law 466 = .ok (.iload 6, 2) := by decide +kernel
theorem zd_L_law_468 : decode zc_L_law 468 = .ok (.i2l, 1) := by decide +kernel
theorem zd_L_law_469 : decode zc_L_law 469 = .ok (.lcmp, 1) := by decide +kernel
theorem zd_L_law_470 : decode zc_L_law 470 = .ok (.ifCond .eq 5, 3) := by decide +kernel
theorem zd_L_law_473 : decode zc_L_law 473 = .ok (.iconst 0, 1) := by decide +kernel
theorem zd_L_law_474 : decode zc_L_law 474 = .ok (.ireturn, 1) := by decide +kernel
theorem zd_L_law_475 : decode zc_L_law 475 = .ok (.goto 41, 3) := by decide +kernel
theorem zd_L_law_478 : decode zc_L_law 478 = .ok (.aload_n 1, 1) := by decide +kernel
theorem zd_L_law_479 : decode zc_L_law 479 = .ok (.invokevirtual 74, 3) := by decide +kernel
theorem zd_L_law_482 : decode zc_L_law 482 = .ok (.aload_n 2, 1) := by decide +kernel
theorem zd_L_law_483 : decode zc_L_law 483 = .ok (.invokevirtual 77, 3) := by decide +kernel
theorem zd_L_law_486 : decode zc_L_law 486 = .ok (.if_icmp .eq 30, 3) := by decide +kernel
theorem zd_L_law_489 : decode zc_L_law 489 = .ok (.iconst 0, 1) := by decide +kernel
theorem zd_L_law_490 : decode zc_L_law 490 = .ok (.ireturn, 1) := by decide +kernel
theorem zd_L_law_491 : decode zc_L_law 491 = .ok (.aload_n 1, 1) := by decide +kernel
theorem zd_L_law_492 : decode zc_L_law 492 = .ok (.aload_n 0, 1) := by decide +kernel
theorem zd_L_law_493 : decode zc_L_law 493 = .ok (.iload 4, 2) := by decide +kernel
theorem zd_L_law_495 : decode zc_L_law 495 = .ok (.iconst 1, 1) := by decide +kernel
theorem zd_L_law_496 : decode zc_L_law 496 = .ok (.iadd, 1) := by decide +kernel
theorem zd_L_law_497 : decode zc_L_law 497 = .ok (.iaload, 1) := by decide +kernel
theorem zd_L_law_498 : decode zc_L_law 498 = .ok (.invokevirtual 78, 3) := by decide +kernel
theorem zd_L_law_501 : decode zc_L_law 501 = .ok (.aload_n 2, 1) := by decide +kernel
theorem zd_L_law_502 : decode zc_L_law 502 = .ok (.aload_n 0, 1) := by decide +kernel
theorem zd_L_law_503 : decode zc_L_law 503 = .ok (.iload 4, 2) := by decide +kernel
theorem zd_L_law_505 : decode zc_L_law 505 = .ok (.iconst 1, 1) := by decide +kernel
theorem zd_L_law_506 : decode zc_L_law 506 = .ok (.iadd, 1) := by decide +kernel
theorem zd_L_law_507 : decode zc_L_law 507 = .ok (.iaload, 1) := by decide +kernel
theorem zd_L_law_508 : decode zc_L_law 508 = .ok (.invokevirtual 81, 3) := by decide +kernel
theorem zd_L_law_511 : decode zc_L_law 511 = .ok (.if_icmp .eq 5, 3) := by decide +kernel
theorem zd_L_law_514 : decode zc_L_law 514 = .ok (.iconst 0, 1) := by decide +kernel
theorem zd_L_law_515 : decode zc_L_law 515 = .ok (.ireturn, 1) := by decide +kernel
theorem zd_L_law_516 : decode zc_L_law 516 = .ok (.iinc 4 6, 3) := by decide +kernel
theorem zd_L_law_519 : decode zc_L_law 519 = .ok (.goto (-496), 3) := by decide +kernel
theorem zd_L_law_522 : decode zc_L_law 522 = .ok (.iconst 1, 1) := by decide +kernel
theorem zd_L_law_523 : decode zc_L_law 523 = .ok (.ireturn, 1) := by decide +kernel
