theorem dX12_init_0 : decode cX12_init 0 = .ok (.aload_n 0, 1) := by decide +kernel
theorem dX12_init_1 : decode cX12_init 1 = .ok (.invokespecial 1, 3) := by decide +kernel
theorem dX12_init_4 : decode cX12_init 4 = .ok (.aload_n 0, 1) := by decide +kernel
theorem dX12_init_5 : decode cX12_init 5 = .ok (.iconst 1, 1) := by decide +kernel
theorem dX12_init_6 : decode cX12_init 6 = .ok (.putfield 7, 3) := by decide +kernel
theorem dX12_init_9 : decode cX12_init 9 = .ok (.aload_n 0, 1) := by decide +kernel
theorem dX12_init_10 : decode cX12_init 10 = .ok (.bipush 12, 2) := by decide +kernel
theorem dX12_init_12 : decode cX12_init 12 = .ok (.newarray .int, 2) := by decide +kernel
theorem dX12_init_14 : decode cX12_init 14 = .ok (.putfield 13, 3) := by decide +kernel
theorem dX12_init_17 : decode cX12_init 17 = .ok (.aload_n 0, 1) := by decide +kernel
theorem dX12_init_18 : decode cX12_init 18 = .ok (.bipush 12, 2) := by decide +kernel
theorem dX12_init_20 : decode cX12_init 20 = .ok (.newarray .int, 2) := by decide +kernel
theorem dX12_init_22 : decode cX12_init 22 = .ok (.putfield 17, 3) := by decide +kernel
theorem dX12_init_25 : decode cX12_init 25 = .ok (.aload_n 0, 1) := by decide +kernel
theorem dX12_init_26 : decode cX12_init 26 = .ok (.bipush 12, 2) := by decide +kernel
theorem dX12_init_28 : decode cX12_init 28 = .ok (.newarray .int, 2) := by decide +kernel
theorem dX12_init_30 : decode cX12_init 30 = .ok (.putfield 20, 3) := by decide +kernel
theorem dX12_init_33 : decode cX12_init 33 = .ok (.aload_n 0, 1) := by decide +kernel
theorem dX12_init_34 : decode cX12_init 34 = .ok (.bipush 12, 2) := by decide +kernel
theorem dX12_init_36 : decode cX12_init 36 = .ok (.newarray .int, 2) := by decide +kernel
theorem dX12_init_38 : decode cX12_init 38 = .ok (.putfield 23, 3) := by decide +kernel
theorem dX12_init_41 : decode cX12_init 41 = .ok (.aload_n 0, 1) := by decide +kernel
theorem dX12_init_42 : decode cX12_init 42 = .ok (.bipush 12, 2) := by decide +kernel
theorem dX12_init_44 : decode cX12_init 44 = .ok (.newarray .int, 2) := by decide +kernel
theorem dX12_init_46 : decode cX12_init 46 = .ok (.putfield 26, 3) := by decide +kernel
theorem dX12_init_49 : decode cX12_init 49 = .ok (.aload_n 0, 1) := by decide +kernel
theorem dX12_init_50 : decode cX12_init 50 = .ok (.bipush 12, 2) := by decide +kernel
theorem dX12_init_52 : decode cX12_init 52 = .ok (.newarray .int, 2) := by decide +kernel
theorem dX12_init_54 : decode cX12_init 54 = .ok (.putfield 29, 3) := by decide +kernel
theorem dX12_init_57 : decode cX12_init 57 = .ok (.aload_n 0, 1) := by decide +kernel
theorem dX12_init_58 : decode cX12_init 58 = .ok (.iconst 3, 1) := by decide +kernel
theorem dX12_init_59 : decode cX12_init 59 = .ok (.newarray .int, 2) := by decide +kernel
theorem dX12_init_61 : decode cX12_init 61 = .ok (.putfield 32, 3) := by decide +kernel
theorem dX12_init_64 : decode cX12_init 64 = .ok (.aload_n 0, 1) := by decide +kernel
theorem dX12_init_65 : decode cX12_init 65 = .ok (.sipush 4096, 3) := by decide +kernel
theorem dX12_init_68 : decode cX12_init 68 = .ok (.newarray .int, 2) := by decide +kernel
theorem dX12_init_70 : decode cX12_init 70 = .ok (.putfield 35, 3) := by decide +kernel
theorem dX12_init_73 : decode cX12_init 73 = .ok (.aload_n 0, 1) := by decide +kernel
theorem dX12_init_74 : decode cX12_init 74 = .ok (.sipush 4096, 3) := by decide +kernel
theorem dX12_init_77 : decode cX12_init 77 = .ok (.newarray .int, 2) := by decide +kernel
theorem dX12_init_79 : decode cX12_init 79 = .ok (.putfield 38, 3) := by decide +kernel
theorem dX12_init_82 : decode cX12_init 82 = .ok (.aload_n 0, 1) := by decide +kernel
theorem dX12_init_83 : decode cX12_init 83 = .ok (.iconst 5, 1) := by decide +kernel
theorem dX12_init_84 : decode cX12_init 84 = .ok (.newarray .int, 2) := by decide +kernel
theorem dX12_init_86 : decode cX12_init 86 = .ok (.putfield 41, 3) := by decide +kernel
theorem dX12_init_89 : decode cX12_init 89 = .ok (.aload_n 0, 1) := by decide +kernel
theorem dX12_init_90 : decode cX12_init 90 = .ok (.bipush 60, 2) := by decide +kernel
theorem dX12_init_92 : decode cX12_init 92 = .ok (.newarray .int, 2) := by decide +kernel
theorem dX12_init_94 : decode cX12_init 94 = .ok (.putfield 44, 3) := by decide +kernel
theorem dX12_init_97 : decode cX12_init 97 = .ok (.aload_n 0, 1) := by decide +kernel
theorem dX12_init_98 : decode cX12_init 98 = .ok (.bipush 12, 2) := by decide +kernel
theorem dX12_init_100 : decode cX12_init 100 = .ok (.newarray .int, 2) := by decide +kernel
theorem dX12_init_102 : decode cX12_init 102 = .ok (.putfield 47, 3) := by decide +kernel
theorem dX12_init_105 : decode cX12_init 105 = .ok (.aload_n 0, 1) := by decide +kernel
theorem dX12_init_106 : decode cX12_init 106 = .ok (.sipush 200, 3) := by decide +kernel
theorem dX12_init_109 : decode cX12_init 109 = .ok (.newarray .int, 2) := by decide +kernel
theorem dX12_init_111 : decode cX12_init 111 = .ok (.putfield 50, 3) := by decide +kernel
theorem dX12_init_114 : decode cX12_init 114 = .ok (.aload_n 0, 1) := by decide +kernel
theorem dX12_init_115 : decode cX12_init 115 = .ok (.bipush 60, 2) := by decide +kernel
theorem dX12_init_117 : decode cX12_init 117 = .ok (.newarray .int, 2) := by decide +kernel
theorem dX12_init_119 : decode cX12_init 119 = .ok (.putfield 53, 3) := by decide +kernel
theorem dX12_init_122 : decode cX12_init 122 = .ok (.aload_n 0, 1) := by decide +kernel
theorem dX12_init_123 : decode cX12_init 123 = .ok (.bipush 60, 2) := by decide +kernel
theorem dX12_init_125 : decode cX12_init 125 = .ok (.newarray .int, 2) := by decide +kernel
theorem dX12_init_127 : decode cX12_init 127 = .ok (.putfield 56, 3) := by decide +kernel
theorem dX12_init_130 : decode cX12_init 130 = .ok (.aload_n 0, 1) := by decide +kernel
theorem dX12_init_131 : decode cX12_init 131 = .ok (.bipush 60, 2) := by decide +kernel
theorem dX12_init_133 : decode cX12_init 133 = .ok (.newarray .int, 2) := by decide +kernel
theorem dX12_init_135 : decode cX12_init 135 = .ok (.putfield 59, 3) := by decide +kernel
theorem dX12_init_138 : decode cX12_init 138 = .ok (.aload_n 0, 1) := by decide +kernel
theorem dX12_init_139 : decode cX12_init 139 = .ok (.bipush 60, 2) := by decide +kernel
theorem dX12_init_141 : decode cX12_init 141 = .ok (.newarray .int, 2) := by decide +kernel
theorem dX12_init_143 : decode cX12_init 143 = .ok (.putfield 62, 3) := by decide +kernel
theorem dX12_init_146 : decode cX12_init 146 = .ok (.aload_n 0, 1) := by decide +kernel
theorem dX12_init_147 : decode cX12_init 147 = .ok (.bipush 60, 2) := by decide +kernel
theorem dX12_init_149 : decode cX12_init 149 = .ok (.newarray .int, 2) := by decide +kernel
theorem dX12_init_151 : decode cX12_init 151 = .ok (.putfield 65, 3) := by decide +kernel
theorem dX12_init_154 : decode cX12_init 154 = .ok (.aload_n 0, 1) := by decide +kernel
theorem dX12_init_155 : decode cX12_init 155 = .ok (.bipush 60, 2) := by decide +kernel
theorem dX12_init_157 : decode cX12_init 157 = .ok (.newarray .int, 2) := by decide +kernel
theorem dX12_init_159 : decode cX12_init 159 = .ok (.putfield 68, 3) := by decide +kernel
theorem dX12_init_162 : decode cX12_init 162 = .ok (.aload_n 0, 1) := by decide +kernel
theorem dX12_init_163 : decode cX12_init 163 = .ok (.bipush 60, 2) := by decide +kernel
theorem dX12_init_165 : decode cX12_init 165 = .ok (.newarray .long, 2) := by decide +kernel
theorem dX12_init_167 : decode cX12_init 167 = .ok (.putfield 71, 3) := by decide +kernel
theorem dX12_init_170 : decode cX12_init 170 = .ok (.aload_n 0, 1) := by decide +kernel
theorem dX12_init_171 : decode cX12_init 171 = .ok (.bipush 60, 2) := by decide +kernel
theorem dX12_init_173 : decode cX12_init 173 = .ok (.newarray .long, 2) := by decide +kernel
theorem dX12_init_175 : decode cX12_init 175 = .ok (.putfield 75, 3) := by decide +kernel
theorem dX12_init_178 : decode cX12_init 178 = .ok (.aload_n 0, 1) := by decide +kernel
theorem dX12_init_179 : decode cX12_init 179 = .ok (.bipush 60, 2) := by decide +kernel
theorem dX12_init_181 : decode cX12_init 181 = .ok (.newarray .long, 2) := by decide +kernel
theorem dX12_init_183 : decode cX12_init 183 = .ok (.putfield 78, 3) := by decide +kernel
theorem dX12_init_186 : decode cX12_init 186 = .ok (.aload_n 0, 1) := by decide +kernel
theorem dX12_init_187 : decode cX12_init 187 = .ok (.bipush 60, 2) := by decide +kernel
theorem dX12_init_189 : decode cX12_init 189 = .ok (.newarray .long, 2) := by decide +kernel
theorem dX12_init_191 : decode cX12_init 191 = .ok (.putfield 81, 3) := by decide +kernel
theorem dX12_init_194 : decode cX12_init 194 = .ok (.aload_n 0, 1) := by decide +kernel
theorem dX12_init_195 : decode cX12_init 195 = .ok (.bipush 60, 2) := by decide +kernel
theorem dX12_init_197 : decode cX12_init 197 = .ok (.newarray .long, 2) := by decide +kernel
theorem dX12_init_199 : decode cX12_init 199 = .ok (.putfield 84, 3) := by decide +kernel
theorem dX12_init_202 : decode cX12_init 202 = .ok (.aload_n 0, 1) := by decide +kernel
theorem dX12_init_203 : decode cX12_init 203 = .ok (.bipush 60, 2) := by decide +kernel
theorem dX12_init_205 : decode cX12_init 205 = .ok (.newarray .boolean, 2) := by decide +kernel
theorem dX12_init_207 : decode cX12_init 207 = .ok (.putfield 87, 3) := by decide +kernel
theorem dX12_init_210 : decode cX12_init 210 = .ok (.aload_n 0, 1) := by decide +kernel
theorem dX12_init_211 : decode cX12_init 211 = .ok (.bipush 38, 2) := by decide +kernel
theorem dX12_init_213 : decode cX12_init 213 = .ok (.newarray .int, 2) := by decide +kernel
theorem dX12_init_215 : decode cX12_init 215 = .ok (.putfield 91, 3) := by decide +kernel
theorem dX12_init_218 : decode cX12_init 218 = .ok (.aload_n 0, 1) := by decide +kernel
theorem dX12_init_219 : decode cX12_init 219 = .ok (.bipush 38, 2) := by decide +kernel
theorem dX12_init_221 : decode cX12_init 221 = .ok (.newarray .int, 2) := by decide +kernel
theorem dX12_init_223 : decode cX12_init 223 = .ok (.putfield 94, 3) := by decide +kernel
theorem dX12_init_226 : decode cX12_init 226 = .ok (.aload_n 0, 1) := by decide +kernel
theorem dX12_init_227 : decode cX12_init 227 = .ok (.iconst 4, 1) := by decide +kernel
theorem dX12_init_228 : decode cX12_init 228 = .ok (.newarray .int, 2) := by decide +kernel
theorem dX12_init_230 : decode cX12_init 230 = .ok (.dup, 1) := by decide +kernel
theorem dX12_init_231 : decode cX12_init 231 = .ok (.iconst 0, 1) := by decide +kernel
theorem dX12_init_232 : decode cX12_init 232 = .ok (.iconst (-1), 1) := by decide +kernel
theorem dX12_init_233 : decode cX12_init 233 = .ok (.iastore, 1) := by decide +kernel
theorem dX12_init_234 : decode cX12_init 234 = .ok (.dup, 1) := by decide +kernel
theorem dX12_init_235 : decode cX12_init 235 = .ok (.iconst 1, 1) := by decide +kernel
theorem dX12_init_236 : decode cX12_init 236 = .ok (.iconst (-1), 1) := by decide +kernel
theorem dX12_init_237 : decode cX12_init 237 = .ok (.iastore, 1) := by decide +kernel
theorem dX12_init_238 : decode cX12_init 238 = .ok (.dup, 1) := by decide +kernel
theorem dX12_init_239 : decode cX12_init 239 = .ok (.iconst 2, 1) := by decide +kernel
theorem dX12_init_240 : decode cX12_init 240 = .ok (.iconst (-1), 1) := by decide +kernel
theorem dX12_init_241 : decode cX12_init 241 = .ok (.iastore, 1) := by decide +kernel
theorem dX12_init_242 : decode cX12_init 242 = .ok (.dup, 1) := by decide +kernel
theorem dX12_init_243 : decode cX12_init 243 = .ok (.iconst 3, 1) := by decide +kernel
theorem dX12_init_244 : decode cX12_init 244 = .ok (.iconst (-1), 1) := by decide +kernel
theorem dX12_init_245 : decode cX12_init 245 = .ok (.iastore, 1) := by decide +kernel
theorem dX12_init_246 : decode cX12_init 246 = .ok (.putfield 97, 3) := by decide +kernel
theorem dX12_init_249 : decode cX12_init 249 = .ok (.aload_n 0, 1) := by decide +kernel
theorem dX12_init_250 : decode cX12_init 250 = .ok (.iconst 4, 1) := by decide +kernel
theorem dX12_init_251 : decode cX12_init 251 = .ok (.newarray .int, 2) := by decide +kernel
theorem dX12_init_253 : decode cX12_init 253 = .ok (.putfield 100, 3) := by decide +kernel
theorem dX12_init_256 : decode cX12_init 256 = .ok (.aload_n 0, 1) := by decide +kernel
theorem dX12_init_257 : decode cX12_init 257 = .ok (.sipush 240, 3) := by decide +kernel
theorem dX12_init_260 : decode cX12_init 260 = .ok (.newarray .int, 2) := by decide +kernel
theorem dX12_init_262 : decode cX12_init 262 = .ok (.putfield 103, 3) := by decide +kernel
theorem dX12_init_265 : decode cX12_init 265 = .ok (.aload_n 0, 1) := by decide +kernel
theorem dX12_init_266 : decode cX12_init 266 = .ok (.iconst 4, 1) := by decide +kernel
theorem dX12_init_267 : decode cX12_init 267 = .ok (.newarray .int, 2) := by decide +kernel
theorem dX12_init_269 : decode cX12_init 269 = .ok (.dup, 1) := by decide +kernel
theorem dX12_init_270 : decode cX12_init 270 = .ok (.iconst 0, 1) := by decide +kernel
theorem dX12_init_271 : decode cX12_init 271 = .ok (.iconst 2, 1) := by decide +kernel
theorem dX12_init_272 : decode cX12_init 272 = .ok (.iastore, 1) := by decide +kernel
theorem dX12_init_273 : decode cX12_init 273 = .ok (.dup, 1) := by decide +kernel
theorem dX12_init_274 : decode cX12_init 274 = .ok (.iconst 1, 1) := by decide +kernel
theorem dX12_init_275 : decode cX12_init 275 = .ok (.iconst 2, 1) := by decide +kernel
theorem dX12_init_276 : decode cX12_init 276 = .ok (.iastore, 1) := by decide +kernel
theorem dX12_init_277 : decode cX12_init 277 = .ok (.dup, 1) := by decide +kernel
theorem dX12_init_278 : decode cX12_init 278 = .ok (.iconst 2, 1) := by decide +kernel
theorem dX12_init_279 : decode cX12_init 279 = .ok (.iconst 2, 1) := by decide +kernel
theorem dX12_init_280 : decode cX12_init 280 = .ok (.iastore, 1) := by decide +kernel
theorem dX12_init_281 : decode cX12_init 281 = .ok (.dup, 1) := by decide +kernel
theorem dX12_init_282 : decode cX12_init 282 = .ok (.iconst 3, 1) := by decide +kernel
theorem dX12_init_283 : decode cX12_init 283 = .ok (.iconst 2, 1) := by decide +kernel
theorem dX12_init_284 : decode cX12_init 284 = .ok (.iastore, 1) := by decide +kernel
theorem dX12_init_285 : decode cX12_init 285 = .ok (.putfield 106, 3) := by decide +kernel
theorem dX12_init_288 : decode cX12_init 288 = .ok (.aload_n 0, 1) := by decide +kernel
theorem dX12_init_289 : decode cX12_init 289 = .ok (.iconst 4, 1) := by decide +kernel
theorem dX12_init_290 : decode cX12_init 290 = .ok (.newarray .int, 2) := by decide +kernel
theorem dX12_init_292 : decode cX12_init 292 = .ok (.putfield 109, 3) := by decide +kernel
theorem dX12_init_295 : decode cX12_init 295 = .ok (.aload_n 0, 1) := by decide +kernel
theorem dX12_init_296 : decode cX12_init 296 = .ok (.iconst 4, 1) := by decide +kernel
theorem dX12_init_297 : decode cX12_init 297 = .ok (.newarray .int, 2) := by decide +kernel
theorem dX12_init_299 : decode cX12_init 299 = .ok (.putfield 112, 3) := by decide +kernel
theorem dX12_init_302 : decode cX12_init 302 = .ok (.aload_n 0, 1) := by decide +kernel
theorem dX12_init_303 : decode cX12_init 303 = .ok (.iconst 4, 1) := by decide +kernel
theorem dX12_init_304 : decode cX12_init 304 = .ok (.newarray .int, 2) := by decide +kernel
theorem dX12_init_306 : decode cX12_init 306 = .ok (.putfield 115, 3) := by decide +kernel
theorem dX12_init_309 : decode cX12_init 309 = .ok (.return_, 1) := by decide +kernel
theorem dX12_in_0 : decode cX12_in 0 = .ok (.iload_n 0, 1) := by decide +kernel
theorem dX12_in_1 : decode cX12_in 1 = .ok (.iload_n 1, 1) := by decide +kernel
theorem dX12_in_2 : decode cX12_in 2 = .ok (.if_icmp .lt 12, 3) := by decide +kernel
theorem dX12_in_5 : decode cX12_in 5 = .ok (.iload_n 0, 1) := by decide +kernel
theorem dX12_in_6 : decode cX12_in 6 = .ok (.iload_n 2, 1) := by decide +kernel
theorem dX12_in_7 : decode cX12_in 7 = .ok (.if_icmp .gt 7, 3) := by decide +kernel
theorem dX12_in_10 : decode cX12_in 10 = .ok (.iconst 1, 1) := by decide +kernel
theorem dX12_in_11 : decode cX12_in 11 = .ok (.goto 4, 3) := by decide +kernel
theorem dX12_in_14 : decode cX12_in 14 = .ok (.iconst 0, 1) := by decide +kernel
theorem dX12_in_15 : decode cX12_in 15 = .ok (.ireturn, 1) := by decide +kernel
theorem dX12_has_0 : decode cX12_has 0 = .ok (.iload_n 0, 1) := by decide +kernel
theorem dX12_has_1 : decode cX12_has 1 = .ok (.iload_n 1, 1) := by decide +kernel
theorem dX12_has_2 : decode cX12_has 2 = .ok (.ishr, 1) := by decide +kernel
theorem dX12_has_3 : decode cX12_has 3 = .ok (.iconst 1, 1) := by decide +kernel
theorem dX12_has_4 : decode cX12_has 4 = .ok (.iand, 1) := by decide +kernel
theorem dX12_has_5 : decode cX12_has 5 = .ok (.iconst 1, 1) := by decide +kernel
theorem dX12_has_6 : decode cX12_has 6 = .ok (.if_icmp .ne 7, 3) := by decide +kernel
theorem dX12_has_9 : decode cX12_has 9 = .ok (.iconst 1, 1) := by decide +kernel
theorem dX12_has_10 : decode cX12_has 10 = .ok (.goto 4, 3) := by decide +kernel
theorem dX12_has_13 : decode cX12_has 13 = .ok (.iconst 0, 1) := by decide +kernel
theorem dX12_has_14 : decode cX12_has 14 = .ok (.ireturn, 1) := by decide +kernel
theorem dX12_bits_0 : decode cX12_bits 0 = .ok (.iconst 0, 1) := by decide +kernel
theorem dX12_bits_1 : decode cX12_bits 1 = .ok (.istore_n 1, 1) := by decide +kernel
theorem dX12_bits_2 : decode cX12_bits 2 = .ok (.iload_n 0, 1) := by decide +kernel
theorem dX12_bits_3 : decode cX12_bits 3 = .ok (.istore_n 2, 1) := by decide +kernel
theorem dX12_bits_4 : decode cX12_bits 4 = .ok (.iload_n 2, 1) := by decide +kernel
theorem dX12_bits_5 : decode cX12_bits 5 = .ok (.ifCond .eq 15, 3) := by decide +kernel
theorem dX12_bits_8 : decode cX12_bits 8 = .ok (.iinc 1 1, 3) := by decide +kernel
theorem dX12_bits_11 : decode cX12_bits 11 = .ok (.iload_n 2, 1) := by decide +kernel
theorem dX12_bits_12 : decode cX12_bits 12 = .ok (.iload_n 2, 1) := by decide +kernel
theorem dX12_bits_13 : decode cX12_bits 13 = .ok (.iconst 1, 1) := by decide +kernel
theorem dX12_bits_14 : decode cX12_bits 14 = .ok (.isub, 1) := by decide +kernel
theorem dX12_bits_15 : decode cX12_bits 15 = .ok (.iand, 1) := by decide +kernel
theorem dX12_bits_16 : decode cX12_bits 16 = .ok (.istore_n 2, 1) := by decide +kernel
theorem dX12_bits_17 : decode cX12_bits 17 = .ok (.goto (-13), 3) := by decide +kernel
theorem dX12_bits_20 : decode cX12_bits 20 = .ok (.iload_n 1, 1) := by decide +kernel
theorem dX12_bits_21 : decode cX12_bits 21 = .ok (.ireturn, 1) := by decide +kernel
theorem dX12_first_0 : decode cX12_first 0 = .ok (.iconst 0, 1) := by decide +kernel
theorem dX12_first_1 : decode cX12_first 1 = .ok (.istore_n 1, 1) := by decide +kernel
theorem dX12_first_2 : decode cX12_first 2 = .ok (.iload_n 0, 1) := by decide +kernel
theorem dX12_first_3 : decode cX12_first 3 = .ok (.iload_n 1, 1) := by decide +kernel
theorem dX12_first_4 : decode cX12_first 4 = .ok (.invokestatic 118, 3) := by decide +kernel
theorem dX12_first_7 : decode cX12_first 7 = .ok (.ifCond .ne 9, 3) := by decide +kernel
theorem dX12_first_10 : decode cX12_first 10 = .ok (.iinc 1 1, 3) := by decide +kernel
theorem dX12_first_13 : decode cX12_first 13 = .ok (.goto (-11), 3) := by decide +kernel
theorem dX12_first_16 : decode cX12_first 16 = .ok (.iload_n 1, 1) := by decide +kernel
theorem dX12_first_17 : decode cX12_first 17 = .ok (.ireturn, 1) := by decide +kernel
theorem dX12_all_0 : decode cX12_all 0 = .ok (.iconst 1, 1) := by decide +kernel
theorem dX12_all_1 : decode cX12_all 1 = .ok (.aload_n 0, 1) := by decide +kernel
theorem dX12_all_2 : decode cX12_all 2 = .ok (.getfield 122, 3) := by decide +kernel
theorem dX12_all_5 : decode cX12_all 5 = .ok (.ishl, 1) := by decide +kernel
theorem dX12_all_6 : decode cX12_all 6 = .ok (.iconst 1, 1) := by decide +kernel
theorem dX12_all_7 : decode cX12_all 7 = .ok (.isub, 1) := by decide +kernel
theorem dX12_all_8 : decode cX12_all 8 = .ok (.ireturn, 1) := by decide +kernel
theorem dX12_isPoint_0 : decode cX12_isPoint 0 = .ok (.iload_n 1, 1) := by decide +kernel
theorem dX12_isPoint_1 : decode cX12_isPoint 1 = .ok (.iconst 0, 1) := by decide +kernel
theorem dX12_isPoint_2 : decode cX12_isPoint 2 = .ok (.aload_n 0, 1) := by decide +kernel
theorem dX12_isPoint_3 : decode cX12_isPoint 3 = .ok (.getfield 122, 3) := by decide +kernel
theorem dX12_isPoint_6 : decode cX12_isPoint 6 = .ok (.iconst 1, 1) := by decide +kernel
theorem dX12_isPoint_7 : decode cX12_isPoint 7 = .ok (.isub, 1) := by decide +kernel
theorem dX12_isPoint_8 : decode cX12_isPoint 8 = .ok (.invokestatic 125, 3) := by decide +kernel
theorem dX12_isPoint_11 : decode cX12_isPoint 11 = .ok (.ireturn, 1) := by decide +kernel
theorem dX12_isSet_0 : decode cX12_isSet 0 = .ok (.iload_n 1, 1) := by decide +kernel
theorem dX12_isSet_1 : decode cX12_isSet 1 = .ok (.aload_n 0, 1) := by decide +kernel
theorem dX12_isSet_2 : decode cX12_isSet 2 = .ok (.invokevirtual 129, 3) := by decide +kernel
theorem dX12_isSet_5 : decode cX12_isSet 5 = .ok (.iconst (-1), 1) := by decide +kernel
theorem dX12_isSet_6 : decode cX12_isSet 6 = .ok (.ixor, 1) := by decide +kernel
theorem dX12_isSet_7 : decode cX12_isSet 7 = .ok (.iand, 1) := by decide +kernel
theorem dX12_isSet_8 : decode cX12_isSet 8 = .ok (.ifCond .ne 7, 3) := by decide +kernel
theorem dX12_isSet_11 : decode cX12_isSet 11 = .ok (.iconst 1, 1) := by decide +kernel
theorem dX12_isSet_12 : decode cX12_isSet 12 = .ok (.goto 4, 3) := by decide +kernel
theorem dX12_isSet_15 : decode cX12_isSet 15 = .ok (.iconst 0, 1) := by decide +kernel
theorem dX12_isSet_16 : decode cX12_isSet 16 = .ok (.ireturn, 1) := by decide +kernel
theorem dX12_cost_0 : decode cX12_cost 0 = .ok (.iload_n 1, 1) := by decide +kernel
theorem dX12_cost_1 : decode cX12_cost 1 = .ok (.iload_n 2, 1) := by decide +kernel
theorem dX12_cost_2 : decode cX12_cost 2 = .ok (.iadd, 1) := by decide +kernel
theorem dX12_cost_3 : decode cX12_cost 3 = .ok (.iconst 2, 1) := by decide +kernel
theorem dX12_cost_4 : decode cX12_cost 4 = .ok (.isub, 1) := by decide +kernel
theorem dX12_cost_5 : decode cX12_cost 5 = .ok (.iconst 1, 1) := by decide +kernel
theorem dX12_cost_6 : decode cX12_cost 6 = .ok (.if_icmp .ge 7, 3) := by decide +kernel
theorem dX12_cost_9 : decode cX12_cost 9 = .ok (.iconst 1, 1) := by decide +kernel
theorem dX12_cost_10 : decode cX12_cost 10 = .ok (.goto 8, 3) := by decide +kernel
theorem dX12_cost_13 : decode cX12_cost 13 = .ok (.iload_n 1, 1) := by decide +kernel
theorem dX12_cost_14 : decode cX12_cost 14 = .ok (.iload_n 2, 1) := by decide +kernel
theorem dX12_cost_15 : decode cX12_cost 15 = .ok (.iadd, 1) := by decide +kernel
theorem dX12_cost_16 : decode cX12_cost 16 = .ok (.iconst 2, 1) := by decide +kernel
theorem dX12_cost_17 : decode cX12_cost 17 = .ok (.isub, 1) := by decide +kernel
theorem dX12_cost_18 : decode cX12_cost 18 = .ok (.istore 4, 2) := by decide +kernel
theorem dX12_cost_20 : decode cX12_cost 20 = .ok (.iload_n 0, 1) := by decide +kernel
theorem dX12_cost_21 : decode cX12_cost 21 = .ok (.tableswitch 59 1 5 #[35, 39, 43, 46, 52], 35) := by decide +kernel
theorem dX12_cost_56 : decode cX12_cost 56 = .ok (.iload_n 1, 1) := by decide +kernel
theorem dX12_cost_57 : decode cX12_cost 57 = .ok (.iload_n 2, 1) := by decide +kernel
theorem dX12_cost_58 : decode cX12_cost 58 = .ok (.iadd, 1) := by decide +kernel
theorem dX12_cost_59 : decode cX12_cost 59 = .ok (.ireturn, 1) := by decide +kernel
theorem dX12_cost_60 : decode cX12_cost 60 = .ok (.iconst 2, 1) := by decide +kernel
theorem dX12_cost_61 : decode cX12_cost 61 = .ok (.iload_n 1, 1) := by decide +kernel
theorem dX12_cost_62 : decode cX12_cost 62 = .ok (.imul, 1) := by decide +kernel
theorem dX12_cost_63 : decode cX12_cost 63 = .ok (.ireturn, 1) := by decide +kernel
theorem dX12_cost_64 : decode cX12_cost 64 = .ok (.iload 4, 2) := by decide +kernel
theorem dX12_cost_66 : decode cX12_cost 66 = .ok (.ireturn, 1) := by decide +kernel
theorem dX12_cost_67 : decode cX12_cost 67 = .ok (.iconst 2, 1) := by decide +kernel
theorem dX12_cost_68 : decode cX12_cost 68 = .ok (.iload_n 1, 1) := by decide +kernel
theorem dX12_cost_69 : decode cX12_cost 69 = .ok (.imul, 1) := by decide +kernel
theorem dX12_cost_70 : decode cX12_cost 70 = .ok (.iload_n 3, 1) := by decide +kernel
theorem dX12_cost_71 : decode cX12_cost 71 = .ok (.iadd, 1) := by decide +kernel
theorem dX12_cost_72 : decode cX12_cost 72 = .ok (.ireturn, 1) := by decide +kernel
theorem dX12_cost_73 : decode cX12_cost 73 = .ok (.iload 4, 2) := by decide +kernel
theorem dX12_cost_75 : decode cX12_cost 75 = .ok (.iconst 2, 1) := by decide +kernel
theorem dX12_cost_76 : decode cX12_cost 76 = .ok (.idiv, 1) := by decide +kernel
theorem dX12_cost_77 : decode cX12_cost 77 = .ok (.iconst 1, 1) := by decide +kernel
theorem dX12_cost_78 : decode cX12_cost 78 = .ok (.iadd, 1) := by decide +kernel
theorem dX12_cost_79 : decode cX12_cost 79 = .ok (.ireturn, 1) := by decide +kernel
theorem dX12_cost_80 : decode cX12_cost 80 = .ok (.iload_n 1, 1) := by decide +kernel
theorem dX12_cost_81 : decode cX12_cost 81 = .ok (.ireturn, 1) := by decide +kernel
theorem dX12_costAt_0 : decode cX12_costAt 0 = .ok (.aload_n 0, 1) := by decide +kernel
theorem dX12_costAt_1 : decode cX12_costAt 1 = .ok (.getfield 13, 3) := by decide +kernel
theorem dX12_costAt_4 : decode cX12_costAt 4 = .ok (.iload_n 1, 1) := by decide +kernel
theorem dX12_costAt_5 : decode cX12_costAt 5 = .ok (.iaload, 1) := by decide +kernel
theorem dX12_costAt_6 : decode cX12_costAt 6 = .ok (.aload_n 0, 1) := by decide +kernel
theorem dX12_costAt_7 : decode cX12_costAt 7 = .ok (.getfield 17, 3) := by decide +kernel
theorem dX12_costAt_10 : decode cX12_costAt 10 = .ok (.iload_n 1, 1) := by decide +kernel
theorem dX12_costAt_11 : decode cX12_costAt 11 = .ok (.iaload, 1) := by decide +kernel
theorem dX12_costAt_12 : decode cX12_costAt 12 = .ok (.aload_n 0, 1) := by decide +kernel
theorem dX12_costAt_13 : decode cX12_costAt 13 = .ok (.getfield 20, 3) := by decide +kernel
theorem dX12_costAt_16 : decode cX12_costAt 16 = .ok (.iload_n 1, 1) := by decide +kernel
theorem dX12_costAt_17 : decode cX12_costAt 17 = .ok (.iaload, 1) := by decide +kernel
theorem dX12_costAt_18 : decode cX12_costAt 18 = .ok (.invokestatic 133, 3) := by decide +kernel
theorem dX12_costAt_21 : decode cX12_costAt 21 = .ok (.iload_n 1, 1) := by decide +kernel
theorem dX12_costAt_22 : decode cX12_costAt 22 = .ok (.invokestatic 137, 3) := by decide +kernel
theorem dX12_costAt_25 : decode cX12_costAt 25 = .ok (.ireturn, 1) := by decide +kernel
theorem dX12_comes_0 : decode cX12_comes 0 = .ok (.aload_n 0, 1) := by decide +kernel
theorem dX12_comes_1 : decode cX12_comes 1 = .ok (.getfield 13, 3) := by decide +kernel
theorem dX12_comes_4 : decode cX12_comes 4 = .ok (.aload_n 0, 1) := by decide +kernel
theorem dX12_comes_5 : decode cX12_comes 5 = .ok (.getfield 122, 3) := by decide +kernel
theorem dX12_comes_8 : decode cX12_comes 8 = .ok (.iload_n 1, 1) := by decide +kernel
theorem dX12_comes_9 : decode cX12_comes 9 = .ok (.iastore, 1) := by decide +kernel
theorem dX12_comes_10 : decode cX12_comes 10 = .ok (.aload_n 0, 1) := by decide +kernel
theorem dX12_comes_11 : decode cX12_comes 11 = .ok (.getfield 17, 3) := by decide +kernel
theorem dX12_comes_14 : decode cX12_comes 14 = .ok (.aload_n 0, 1) := by decide +kernel
theorem dX12_comes_15 : decode cX12_comes 15 = .ok (.getfield 122, 3) := by decide +kernel
theorem dX12_comes_18 : decode cX12_comes 18 = .ok (.iload_n 2, 1) := by decide +kernel
theorem dX12_comes_19 : decode cX12_comes 19 = .ok (.iastore, 1) := by decide +kernel
theorem dX12_comes_20 : decode cX12_comes 20 = .ok (.aload_n 0, 1) := by decide +kernel
theorem dX12_comes_21 : decode cX12_comes 21 = .ok (.getfield 20, 3) := by decide +kernel
theorem dX12_comes_24 : decode cX12_comes 24 = .ok (.aload_n 0, 1) := by decide +kernel
theorem dX12_comes_25 : decode cX12_comes 25 = .ok (.getfield 122, 3) := by decide +kernel
theorem dX12_comes_28 : decode cX12_comes 28 = .ok (.iconst 0, 1) := by decide +kernel
theorem dX12_comes_29 : decode cX12_comes 29 = .ok (.iastore, 1) := by decide +kernel
theorem dX12_comes_30 : decode cX12_comes 30 = .ok (.aload_n 0, 1) := by decide +kernel
theorem dX12_comes_31 : decode cX12_comes 31 = .ok (.dup, 1) := by decide +kernel
theorem dX12_comes_32 : decode cX12_comes 32 = .ok (.getfield 122, 3) := by decide +kernel
theorem dX12_comes_35 : decode cX12_comes 35 = .ok (.iconst 1, 1) := by decide +kernel
theorem dX12_comes_36 : decode cX12_comes 36 = .ok (.iadd, 1) := by decide +kernel
theorem dX12_comes_37 : decode cX12_comes 37 = .ok (.putfield 122, 3) := by decide +kernel
theorem dX12_comes_40 : decode cX12_comes 40 = .ok (.return_, 1) := by decide +kernel
theorem dX12_point_0 : decode cX12_point 0 = .ok (.iload_n 1, 1) := by decide +kernel
theorem dX12_point_1 : decode cX12_point 1 = .ok (.iconst 0, 1) := by decide +kernel
theorem dX12_point_2 : decode cX12_point 2 = .ok (.iconst 5, 1) := by decide +kernel
theorem dX12_point_3 : decode cX12_point 3 = .ok (.invokestatic 125, 3) := by decide +kernel
theorem dX12_point_6 : decode cX12_point 6 = .ok (.ifCond .eq 13, 3) := by decide +kernel
theorem dX12_point_9 : decode cX12_point 9 = .ok (.iload_n 2, 1) := by decide +kernel
theorem dX12_point_10 : decode cX12_point 10 = .ok (.iconst 1, 1) := by decide +kernel
theorem dX12_point_11 : decode cX12_point 11 = .ok (.bipush 9, 2) := by decide +kernel
theorem dX12_point_13 : decode cX12_point 13 = .ok (.invokestatic 125, 3) := by decide +kernel
theorem dX12_point_16 : decode cX12_point 16 = .ok (.ifCond .ne 6, 3) := by decide +kernel
theorem dX12_point_19 : decode cX12_point 19 = .ok (.bipush (-2), 2) := by decide +kernel
theorem dX12_point_21 : decode cX12_point 21 = .ok (.ireturn, 1) := by decide +kernel
theorem dX12_point_22 : decode cX12_point 22 = .ok (.aload_n 0, 1) := by decide +kernel
theorem dX12_point_23 : decode cX12_point 23 = .ok (.getfield 122, 3) := by decide +kernel
theorem dX12_point_26 : decode cX12_point 26 = .ok (.bipush 12, 2) := by decide +kernel
theorem dX12_point_28 : decode cX12_point 28 = .ok (.if_icmp .ne 6, 3) := by decide +kernel
theorem dX12_point_31 : decode cX12_point 31 = .ok (.bipush (-4), 2) := by decide +kernel
theorem dX12_point_33 : decode cX12_point 33 = .ok (.ireturn, 1) := by decide +kernel
theorem dX12_point_34 : decode cX12_point 34 = .ok (.aload_n 0, 1) := by decide +kernel
theorem dX12_point_35 : decode cX12_point 35 = .ok (.iload_n 1, 1) := by decide +kernel
theorem dX12_point_36 : decode cX12_point 36 = .ok (.iload_n 2, 1) := by decide +kernel
theorem dX12_point_37 : decode cX12_point 37 = .ok (.invokevirtual 141, 3) := by decide +kernel
theorem dX12_point_40 : decode cX12_point 40 = .ok (.aload_n 0, 1) := by decide +kernel
theorem dX12_point_41 : decode cX12_point 41 = .ok (.getfield 122, 3) := by decide +kernel
theorem dX12_point_44 : decode cX12_point 44 = .ok (.iconst 1, 1) := by decide +kernel
theorem dX12_point_45 : decode cX12_point 45 = .ok (.isub, 1) := by decide +kernel
theorem dX12_point_46 : decode cX12_point 46 = .ok (.ireturn, 1) := by decide +kernel
theorem dX12_lays_0 : decode cX12_lays 0 = .ok (.aload_n 0, 1) := by decide +kernel
theorem dX12_lays_1 : decode cX12_lays 1 = .ok (.getfield 20, 3) := by decide +kernel
theorem dX12_lays_4 : decode cX12_lays 4 = .ok (.iload_n 1, 1) := by decide +kernel
theorem dX12_lays_5 : decode cX12_lays 5 = .ok (.aload_n 0, 1) := by decide +kernel
theorem dX12_lays_6 : decode cX12_lays 6 = .ok (.getfield 20, 3) := by decide +kernel
theorem dX12_lays_9 : decode cX12_lays 9 = .ok (.iload_n 1, 1) := by decide +kernel
theorem dX12_lays_10 : decode cX12_lays 10 = .ok (.iaload, 1) := by decide +kernel
theorem dX12_lays_11 : decode cX12_lays 11 = .ok (.iconst 1, 1) := by decide +kernel
theorem dX12_lays_12 : decode cX12_lays 12 = .ok (.iload_n 2, 1) := by decide +kernel
theorem dX12_lays_13 : decode cX12_lays 13 = .ok (.ishl, 1) := by decide +kernel
theorem dX12_lays_14 : decode cX12_lays 14 = .ok (.iconst (-1), 1) := by decide +kernel
theorem dX12_lays_15 : decode cX12_lays 15 = .ok (.ixor, 1) := by decide +kernel
theorem dX12_lays_16 : decode cX12_lays 16 = .ok (.iand, 1) := by decide +kernel
theorem dX12_lays_17 : decode cX12_lays 17 = .ok (.iload_n 3, 1) := by decide +kernel
theorem dX12_lays_18 : decode cX12_lays 18 = .ok (.iload_n 2, 1) := by decide +kernel
theorem dX12_lays_19 : decode cX12_lays 19 = .ok (.ishl, 1) := by decide +kernel
theorem dX12_lays_20 : decode cX12_lays 20 = .ok (.ior, 1) := by decide +kernel
theorem dX12_lays_21 : decode cX12_lays 21 = .ok (.iastore, 1) := by decide +kernel
theorem dX12_lays_22 : decode cX12_lays 22 = .ok (.aload_n 0, 1) := by decide +kernel
theorem dX12_lays_23 : decode cX12_lays 23 = .ok (.getfield 20, 3) := by decide +kernel
theorem dX12_lays_26 : decode cX12_lays 26 = .ok (.iload_n 2, 1) := by decide +kernel
theorem dX12_lays_27 : decode cX12_lays 27 = .ok (.aload_n 0, 1) := by decide +kernel
theorem dX12_lays_28 : decode cX12_lays 28 = .ok (.getfield 20, 3) := by decide +kernel
theorem dX12_lays_31 : decode cX12_lays 31 = .ok (.iload_n 2, 1) := by decide +kernel
theorem dX12_lays_32 : decode cX12_lays 32 = .ok (.iaload, 1) := by decide +kernel
theorem dX12_lays_33 : decode cX12_lays 33 = .ok (.iconst 1, 1) := by decide +kernel
theorem dX12_lays_34 : decode cX12_lays 34 = .ok (.iload_n 1, 1) := by decide +kernel
theorem dX12_lays_35 : decode cX12_lays 35 = .ok (.ishl, 1) := by decide +kernel
theorem dX12_lays_36 : decode cX12_lays 36 = .ok (.iconst (-1), 1) := by decide +kernel
theorem dX12_lays_37 : decode cX12_lays 37 = .ok (.ixor, 1) := by decide +kernel
theorem dX12_lays_38 : decode cX12_lays 38 = .ok (.iand, 1) := by decide +kernel
theorem dX12_lays_39 : decode cX12_lays 39 = .ok (.iload_n 3, 1) := by decide +kernel
theorem dX12_lays_40 : decode cX12_lays 40 = .ok (.iload_n 1, 1) := by decide +kernel
theorem dX12_lays_41 : decode cX12_lays 41 = .ok (.ishl, 1) := by decide +kernel
theorem dX12_lays_42 : decode cX12_lays 42 = .ok (.ior, 1) := by decide +kernel
theorem dX12_lays_43 : decode cX12_lays 43 = .ok (.iastore, 1) := by decide +kernel
theorem dX12_lays_44 : decode cX12_lays 44 = .ok (.return_, 1) := by decide +kernel
theorem dX12_areTwo_0 : decode cX12_areTwo 0 = .ok (.aload_n 0, 1) := by decide +kernel
theorem dX12_areTwo_1 : decode cX12_areTwo 1 = .ok (.iload_n 1, 1) := by decide +kernel
theorem dX12_areTwo_2 : decode cX12_areTwo 2 = .ok (.invokevirtual 145, 3) := by decide +kernel
theorem dX12_areTwo_5 : decode cX12_areTwo 5 = .ok (.ifCond .eq 20, 3) := by decide +kernel
theorem dX12_areTwo_8 : decode cX12_areTwo 8 = .ok (.aload_n 0, 1) := by decide +kernel
theorem dX12_areTwo_9 : decode cX12_areTwo 9 = .ok (.iload_n 2, 1) := by decide +kernel
theorem dX12_areTwo_10 : decode cX12_areTwo 10 = .ok (.invokevirtual 145, 3) := by decide +kernel
theorem dX12_areTwo_13 : decode cX12_areTwo 13 = .ok (.ifCond .eq 12, 3) := by decide +kernel
theorem dX12_areTwo_16 : decode cX12_areTwo 16 = .ok (.iload_n 1, 1) := by decide +kernel
theorem dX12_areTwo_17 : decode cX12_areTwo 17 = .ok (.iload_n 2, 1) := by decide +kernel
theorem dX12_areTwo_18 : decode cX12_areTwo 18 = .ok (.if_icmp .eq 7, 3) := by decide +kernel
theorem dX12_areTwo_21 : decode cX12_areTwo 21 = .ok (.iconst 1, 1) := by decide +kernel
theorem dX12_areTwo_22 : decode cX12_areTwo 22 = .ok (.goto 4, 3) := by decide +kernel
theorem dX12_areTwo_25 : decode cX12_areTwo 25 = .ok (.iconst 0, 1) := by decide +kernel
theorem dX12_areTwo_26 : decode cX12_areTwo 26 = .ok (.ireturn, 1) := by decide +kernel
theorem dX12_line_0 : decode cX12_line 0 = .ok (.aload_n 0, 1) := by decide +kernel
theorem dX12_line_1 : decode cX12_line 1 = .ok (.iload_n 1, 1) := by decide +kernel
theorem dX12_line_2 : decode cX12_line 2 = .ok (.iload_n 2, 1) := by decide +kernel
theorem dX12_line_3 : decode cX12_line 3 = .ok (.invokevirtual 149, 3) := by decide +kernel
theorem dX12_line_6 : decode cX12_line 6 = .ok (.ifCond .eq 12, 3) := by decide +kernel
theorem dX12_line_9 : decode cX12_line 9 = .ok (.iload_n 3, 1) := by decide +kernel
theorem dX12_line_10 : decode cX12_line 10 = .ok (.iconst 0, 1) := by decide +kernel
theorem dX12_line_11 : decode cX12_line 11 = .ok (.iconst 1, 1) := by decide +kernel
theorem dX12_line_12 : decode cX12_line 12 = .ok (.invokestatic 125, 3) := by decide +kernel
theorem dX12_line_15 : decode cX12_line 15 = .ok (.ifCond .ne 6, 3) := by decide +kernel
theorem dX12_line_18 : decode cX12_line 18 = .ok (.bipush (-2), 2) := by decide +kernel
theorem dX12_line_20 : decode cX12_line 20 = .ok (.ireturn, 1) := by decide +kernel
theorem dX12_line_21 : decode cX12_line 21 = .ok (.aload_n 0, 1) := by decide +kernel
theorem dX12_line_22 : decode cX12_line 22 = .ok (.getfield 20, 3) := by decide +kernel
theorem dX12_line_25 : decode cX12_line 25 = .ok (.iload_n 1, 1) := by decide +kernel
theorem dX12_line_26 : decode cX12_line 26 = .ok (.iaload, 1) := by decide +kernel
theorem dX12_line_27 : decode cX12_line 27 = .ok (.iload_n 2, 1) := by decide +kernel
theorem dX12_line_28 : decode cX12_line 28 = .ok (.ishr, 1) := by decide +kernel
theorem dX12_line_29 : decode cX12_line 29 = .ok (.iconst 1, 1) := by decide +kernel
theorem dX12_line_30 : decode cX12_line 30 = .ok (.iand, 1) := by decide +kernel
theorem dX12_line_31 : decode cX12_line 31 = .ok (.istore 4, 2) := by decide +kernel
theorem dX12_line_33 : decode cX12_line 33 = .ok (.aload_n 0, 1) := by decide +kernel
theorem dX12_line_34 : decode cX12_line 34 = .ok (.iload_n 1, 1) := by decide +kernel
theorem dX12_line_35 : decode cX12_line 35 = .ok (.iload_n 2, 1) := by decide +kernel
theorem dX12_line_36 : decode cX12_line 36 = .ok (.iload_n 3, 1) := by decide +kernel
theorem dX12_line_37 : decode cX12_line 37 = .ok (.invokevirtual 152, 3) := by decide +kernel
theorem dX12_line_40 : decode cX12_line 40 = .ok (.iload 4, 2) := by decide +kernel
theorem dX12_line_42 : decode cX12_line 42 = .ok (.ireturn, 1) := by decide +kernel
theorem dX12_pointOf_0 : decode cX12_pointOf 0 = .ok (.aload_n 0, 1) := by decide +kernel
theorem dX12_pointOf_1 : decode cX12_pointOf 1 = .ok (.iload_n 1, 1) := by decide +kernel
theorem dX12_pointOf_2 : decode cX12_pointOf 2 = .ok (.invokevirtual 145, 3) := by decide +kernel
theorem dX12_pointOf_5 : decode cX12_pointOf 5 = .ok (.ifCond .ne 6, 3) := by decide +kernel
theorem dX12_pointOf_8 : decode cX12_pointOf 8 = .ok (.bipush (-2), 2) := by decide +kernel
theorem dX12_pointOf_10 : decode cX12_pointOf 10 = .ok (.ireturn, 1) := by decide +kernel
theorem dX12_pointOf_11 : decode cX12_pointOf 11 = .ok (.iload_n 2, 1) := by decide +kernel
theorem dX12_pointOf_12 : decode cX12_pointOf 12 = .ok (.tableswitch 73 0 4 #[36, 43, 50, 56, 63], 36) := by decide +kernel
theorem dX12_pointOf_48 : decode cX12_pointOf 48 = .ok (.aload_n 0, 1) := by decide +kernel
theorem dX12_pointOf_49 : decode cX12_pointOf 49 = .ok (.getfield 13, 3) := by decide +kernel
theorem dX12_pointOf_52 : decode cX12_pointOf 52 = .ok (.iload_n 1, 1) := by decide +kernel
theorem dX12_pointOf_53 : decode cX12_pointOf 53 = .ok (.iaload, 1) := by decide +kernel
theorem dX12_pointOf_54 : decode cX12_pointOf 54 = .ok (.ireturn, 1) := by decide +kernel
theorem dX12_pointOf_55 : decode cX12_pointOf 55 = .ok (.aload_n 0, 1) := by decide +kernel
theorem dX12_pointOf_56 : decode cX12_pointOf 56 = .ok (.getfield 17, 3) := by decide +kernel
theorem dX12_pointOf_59 : decode cX12_pointOf 59 = .ok (.iload_n 1, 1) := by decide +kernel
theorem dX12_pointOf_60 : decode cX12_pointOf 60 = .ok (.iaload, 1) := by decide +kernel
theorem dX12_pointOf_61 : decode cX12_pointOf 61 = .ok (.ireturn, 1) := by decide +kernel
theorem dX12_pointOf_62 : decode cX12_pointOf 62 = .ok (.aload_n 0, 1) := by decide +kernel
theorem dX12_pointOf_63 : decode cX12_pointOf 63 = .ok (.iload_n 1, 1) := by decide +kernel
theorem dX12_pointOf_64 : decode cX12_pointOf 64 = .ok (.invokevirtual 156, 3) := by decide +kernel
theorem dX12_pointOf_67 : decode cX12_pointOf 67 = .ok (.ireturn, 1) := by decide +kernel
theorem dX12_pointOf_68 : decode cX12_pointOf 68 = .ok (.aload_n 0, 1) := by decide +kernel
theorem dX12_pointOf_69 : decode cX12_pointOf 69 = .ok (.getfield 20, 3) := by decide +kernel
theorem dX12_pointOf_72 : decode cX12_pointOf 72 = .ok (.iload_n 1, 1) := by decide +kernel
theorem dX12_pointOf_73 : decode cX12_pointOf 73 = .ok (.iaload, 1) := by decide +kernel
theorem dX12_pointOf_74 : decode cX12_pointOf 74 = .ok (.ireturn, 1) := by decide +kernel
theorem dX12_pointOf_75 : decode cX12_pointOf 75 = .ok (.aload_n 0, 1) := by decide +kernel
theorem dX12_pointOf_76 : decode cX12_pointOf 76 = .ok (.getfield 20, 3) := by decide +kernel
theorem dX12_pointOf_79 : decode cX12_pointOf 79 = .ok (.iload_n 1, 1) := by decide +kernel
theorem dX12_pointOf_80 : decode cX12_pointOf 80 = .ok (.iaload, 1) := by decide +kernel
theorem dX12_pointOf_81 : decode cX12_pointOf 81 = .ok (.invokestatic 133, 3) := by decide +kernel
theorem dX12_pointOf_84 : decode cX12_pointOf 84 = .ok (.ireturn, 1) := by decide +kernel
theorem dX12_pointOf_85 : decode cX12_pointOf 85 = .ok (.bipush (-2), 2) := by decide +kernel
theorem dX12_pointOf_87 : decode cX12_pointOf 87 = .ok (.ireturn, 1) := by decide +kernel
theorem dX12_change_0 : decode cX12_change 0 = .ok (.aload_n 0, 1) := by decide +kernel
theorem dX12_change_1 : decode cX12_change 1 = .ok (.iload_n 1, 1) := by decide +kernel
theorem dX12_change_2 : decode cX12_change 2 = .ok (.invokevirtual 145, 3) := by decide +kernel
theorem dX12_change_5 : decode cX12_change 5 = .ok (.ifCond .eq 30, 3) := by decide +kernel
theorem dX12_change_8 : decode cX12_change 8 = .ok (.iload_n 2, 1) := by decide +kernel
theorem dX12_change_9 : decode cX12_change 9 = .ok (.iconst 0, 1) := by decide +kernel
theorem dX12_change_10 : decode cX12_change 10 = .ok (.iconst 1, 1) := by decide +kernel
theorem dX12_change_11 : decode cX12_change 11 = .ok (.invokestatic 125, 3) := by decide +kernel
theorem dX12_change_14 : decode cX12_change 14 = .ok (.ifCond .eq 21, 3) := by decide +kernel
theorem dX12_change_17 : decode cX12_change 17 = .ok (.iload_n 3, 1) := by decide +kernel
theorem dX12_change_18 : decode cX12_change 18 = .ok (.iload_n 2, 1) := by decide +kernel
theorem dX12_change_19 : decode cX12_change 19 = .ok (.iload_n 2, 1) := by decide +kernel
theorem dX12_change_20 : decode cX12_change 20 = .ok (.ifCond .ne 7, 3) := by decide +kernel
theorem dX12_change_23 : decode cX12_change 23 = .ok (.iconst 5, 1) := by decide +kernel
theorem dX12_change_24 : decode cX12_change 24 = .ok (.goto 5, 3) := by decide +kernel
theorem dX12_change_27 : decode cX12_change 27 = .ok (.bipush 9, 2) := by decide +kernel
theorem dX12_change_29 : decode cX12_change 29 = .ok (.invokestatic 125, 3) := by decide +kernel
theorem dX12_change_32 : decode cX12_change 32 = .ok (.ifCond .ne 6, 3) := by decide +kernel
theorem dX12_change_35 : decode cX12_change 35 = .ok (.bipush (-2), 2) := by decide +kernel
theorem dX12_change_37 : decode cX12_change 37 = .ok (.ireturn, 1) := by decide +kernel
theorem dX12_change_38 : decode cX12_change 38 = .ok (.iload_n 2, 1) := by decide +kernel
theorem dX12_change_39 : decode cX12_change 39 = .ok (.ifCond .ne 12, 3) := by decide +kernel
theorem dX12_change_42 : decode cX12_change 42 = .ok (.aload_n 0, 1) := by decide +kernel
theorem dX12_change_43 : decode cX12_change 43 = .ok (.getfield 13, 3) := by decide +kernel
theorem dX12_change_46 : decode cX12_change 46 = .ok (.iload_n 1, 1) := by decide +kernel
theorem dX12_change_47 : decode cX12_change 47 = .ok (.iaload, 1) := by decide +kernel
theorem dX12_change_48 : decode cX12_change 48 = .ok (.goto 9, 3) := by decide +kernel
theorem dX12_change_51 : decode cX12_change 51 = .ok (.aload_n 0, 1) := by decide +kernel
theorem dX12_change_52 : decode cX12_change 52 = .ok (.getfield 17, 3) := by decide +kernel
theorem dX12_change_55 : decode cX12_change 55 = .ok (.iload_n 1, 1) := by decide +kernel
theorem dX12_change_56 : decode cX12_change 56 = .ok (.iaload, 1) := by decide +kernel
theorem dX12_change_57 : decode cX12_change 57 = .ok (.istore 4, 2) := by decide +kernel
theorem dX12_change_59 : decode cX12_change 59 = .ok (.iload_n 2, 1) := by decide +kernel
theorem dX12_change_60 : decode cX12_change 60 = .ok (.ifCond .ne 13, 3) := by decide +kernel
theorem dX12_change_63 : decode cX12_change 63 = .ok (.aload_n 0, 1) := by decide +kernel
theorem dX12_change_64 : decode cX12_change 64 = .ok (.getfield 13, 3) := by decide +kernel
theorem dX12_change_67 : decode cX12_change 67 = .ok (.iload_n 1, 1) := by decide +kernel
theorem dX12_change_68 : decode cX12_change 68 = .ok (.iload_n 3, 1) := by decide +kernel
theorem dX12_change_69 : decode cX12_change 69 = .ok (.iastore, 1) := by decide +kernel
theorem dX12_change_70 : decode cX12_change 70 = .ok (.goto 10, 3) := by decide +kernel
theorem dX12_change_73 : decode cX12_change 73 = .ok (.aload_n 0, 1) := by decide +kernel
theorem dX12_change_74 : decode cX12_change 74 = .ok (.getfield 17, 3) := by decide +kernel
theorem dX12_change_77 : decode cX12_change 77 = .ok (.iload_n 1, 1) := by decide +kernel
theorem dX12_change_78 : decode cX12_change 78 = .ok (.iload_n 3, 1) := by decide +kernel
theorem dX12_change_79 : decode cX12_change 79 = .ok (.iastore, 1) := by decide +kernel
theorem dX12_change_80 : decode cX12_change 80 = .ok (.iload 4, 2) := by decide +kernel
theorem dX12_change_82 : decode cX12_change 82 = .ok (.ireturn, 1) := by decide +kernel
theorem dX12_lineMany_0 : decode cX12_lineMany 0 = .ok (.iconst 0, 1) := by decide +kernel
theorem dX12_lineMany_1 : decode cX12_lineMany 1 = .ok (.istore_n 1, 1) := by decide +kernel
theorem dX12_lineMany_2 : decode cX12_lineMany 2 = .ok (.iconst 0, 1) := by decide +kernel
theorem dX12_lineMany_3 : decode cX12_lineMany 3 = .ok (.istore_n 2, 1) := by decide +kernel
theorem dX12_lineMany_4 : decode cX12_lineMany 4 = .ok (.iload_n 2, 1) := by decide +kernel
theorem dX12_lineMany_5 : decode cX12_lineMany 5 = .ok (.aload_n 0, 1) := by decide +kernel
theorem dX12_lineMany_6 : decode cX12_lineMany 6 = .ok (.getfield 122, 3) := by decide +kernel
theorem dX12_lineMany_9 : decode cX12_lineMany 9 = .ok (.if_icmp .ge 21, 3) := by decide +kernel
theorem dX12_lineMany_12 : decode cX12_lineMany 12 = .ok (.iload_n 1, 1) := by decide +kernel
theorem dX12_lineMany_13 : decode cX12_lineMany 13 = .ok (.aload_n 0, 1) := by decide +kernel
theorem dX12_lineMany_14 : decode cX12_lineMany 14 = .ok (.getfield 20, 3) := by decide +kernel
theorem dX12_lineMany_17 : decode cX12_lineMany 17 = .ok (.iload_n 2, 1) := by decide +kernel
theorem dX12_lineMany_18 : decode cX12_lineMany 18 = .ok (.iaload, 1) := by decide +kernel
theorem dX12_lineMany_19 : decode cX12_lineMany 19 = .ok (.invokestatic 133, 3) := by decide +kernel
theorem dX12_lineMany_22 : decode cX12_lineMany 22 = .ok (.iadd, 1) := by decide +kernel
theorem dX12_lineMany_23 : decode cX12_lineMany 23 = .ok (.istore_n 1, 1) := by decide +kernel
theorem dX12_lineMany_24 : decode cX12_lineMany 24 = .ok (.iinc 2 1, 3) := by decide +kernel
theorem dX12_lineMany_27 : decode cX12_lineMany 27 = .ok (.goto (-23), 3) := by decide +kernel
theorem dX12_lineMany_30 : decode cX12_lineMany 30 = .ok (.iload_n 1, 1) := by decide +kernel
theorem dX12_lineMany_31 : decode cX12_lineMany 31 = .ok (.iconst 2, 1) := by decide +kernel
theorem dX12_lineMany_32 : decode cX12_lineMany 32 = .ok (.idiv, 1) := by decide +kernel
theorem dX12_lineMany_33 : decode cX12_lineMany 33 = .ok (.ireturn, 1) := by decide +kernel
theorem dX12_count_0 : decode cX12_count 0 = .ok (.iconst 0, 1) := by decide +kernel
theorem dX12_count_1 : decode cX12_count 1 = .ok (.istore_n 2, 1) := by decide +kernel
theorem dX12_count_2 : decode cX12_count 2 = .ok (.iconst 0, 1) := by decide +kernel
theorem dX12_count_3 : decode cX12_count 3 = .ok (.istore_n 3, 1) := by decide +kernel
theorem dX12_count_4 : decode cX12_count 4 = .ok (.iload_n 3, 1) := by decide +kernel
theorem dX12_count_5 : decode cX12_count 5 = .ok (.aload_n 0, 1) := by decide +kernel
theorem dX12_count_6 : decode cX12_count 6 = .ok (.getfield 122, 3) := by decide +kernel
theorem dX12_count_9 : decode cX12_count 9 = .ok (.if_icmp .ge 26, 3) := by decide +kernel
theorem dX12_count_12 : decode cX12_count 12 = .ok (.iload_n 2, 1) := by decide +kernel
theorem dX12_count_13 : decode cX12_count 13 = .ok (.aload_n 0, 1) := by decide +kernel
theorem dX12_count_14 : decode cX12_count 14 = .ok (.getfield 20, 3) := by decide +kernel
theorem dX12_count_17 : decode cX12_count 17 = .ok (.iload_n 3, 1) := by decide +kernel
theorem dX12_count_18 : decode cX12_count 18 = .ok (.iaload, 1) := by decide +kernel
theorem dX12_count_19 : decode cX12_count 19 = .ok (.ifCond .ne 7, 3) := by decide +kernel
theorem dX12_count_22 : decode cX12_count 22 = .ok (.iconst 1, 1) := by decide +kernel
theorem dX12_count_23 : decode cX12_count 23 = .ok (.goto 4, 3) := by decide +kernel
theorem dX12_count_26 : decode cX12_count 26 = .ok (.iconst 0, 1) := by decide +kernel
theorem dX12_count_27 : decode cX12_count 27 = .ok (.iadd, 1) := by decide +kernel
theorem dX12_count_28 : decode cX12_count 28 = .ok (.istore_n 2, 1) := by decide +kernel
theorem dX12_count_29 : decode cX12_count 29 = .ok (.iinc 3 1, 3) := by decide +kernel
theorem dX12_count_32 : decode cX12_count 32 = .ok (.goto (-28), 3) := by decide +kernel
theorem dX12_count_35 : decode cX12_count 35 = .ok (.iload_n 1, 1) := by decide +kernel
theorem dX12_count_36 : decode cX12_count 36 = .ok (.tableswitch 67 0 5 #[40, 45, 50, 52, 57, 62], 40) := by decide +kernel
theorem dX12_count_76 : decode cX12_count 76 = .ok (.aload_n 0, 1) := by decide +kernel
theorem dX12_count_77 : decode cX12_count 77 = .ok (.getfield 122, 3) := by decide +kernel
theorem dX12_count_80 : decode cX12_count 80 = .ok (.ireturn, 1) := by decide +kernel
theorem dX12_count_81 : decode cX12_count 81 = .ok (.aload_n 0, 1) := by decide +kernel
theorem dX12_count_82 : decode cX12_count 82 = .ok (.invokevirtual 159, 3) := by decide +kernel
theorem dX12_count_85 : decode cX12_count 85 = .ok (.ireturn, 1) := by decide +kernel
theorem dX12_count_86 : decode cX12_count 86 = .ok (.iload_n 2, 1) := by decide +kernel
theorem dX12_count_87 : decode cX12_count 87 = .ok (.ireturn, 1) := by decide +kernel
theorem dX12_count_88 : decode cX12_count 88 = .ok (.aload_n 0, 1) := by decide +kernel
theorem dX12_count_89 : decode cX12_count 89 = .ok (.getfield 162, 3) := by decide +kernel
theorem dX12_count_92 : decode cX12_count 92 = .ok (.ireturn, 1) := by decide +kernel
theorem dX12_count_93 : decode cX12_count 93 = .ok (.aload_n 0, 1) := by decide +kernel
theorem dX12_count_94 : decode cX12_count 94 = .ok (.getfield 7, 3) := by decide +kernel
theorem dX12_count_97 : decode cX12_count 97 = .ok (.ireturn, 1) := by decide +kernel
theorem dX12_count_98 : decode cX12_count 98 = .ok (.aload_n 0, 1) := by decide +kernel
theorem dX12_count_99 : decode cX12_count 99 = .ok (.getfield 165, 3) := by decide +kernel
theorem dX12_count_102 : decode cX12_count 102 = .ok (.ireturn, 1) := by decide +kernel
theorem dX12_count_103 : decode cX12_count 103 = .ok (.bipush (-2), 2) := by decide +kernel
theorem dX12_count_105 : decode cX12_count 105 = .ok (.ireturn, 1) := by decide +kernel
theorem dX12_covers_0 : decode cX12_covers 0 = .ok (.iconst 1, 1) := by decide +kernel
theorem dX12_covers_1 : decode cX12_covers 1 = .ok (.istore_n 2, 1) := by decide +kernel
theorem dX12_covers_2 : decode cX12_covers 2 = .ok (.iconst 0, 1) := by decide +kernel
theorem dX12_covers_3 : decode cX12_covers 3 = .ok (.istore_n 3, 1) := by decide +kernel
theorem dX12_covers_4 : decode cX12_covers 4 = .ok (.iload_n 3, 1) := by decide +kernel
theorem dX12_covers_5 : decode cX12_covers 5 = .ok (.aload_n 0, 1) := by decide +kernel
theorem dX12_covers_6 : decode cX12_covers 6 = .ok (.getfield 122, 3) := by decide +kernel
theorem dX12_covers_9 : decode cX12_covers 9 = .ok (.if_icmp .ge 40, 3) := by decide +kernel
theorem dX12_covers_12 : decode cX12_covers 12 = .ok (.iload_n 2, 1) := by decide +kernel
theorem dX12_covers_13 : decode cX12_covers 13 = .ok (.ifCond .eq 28, 3) := by decide +kernel
theorem dX12_covers_16 : decode cX12_covers 16 = .ok (.iload_n 1, 1) := by decide +kernel
theorem dX12_covers_17 : decode cX12_covers 17 = .ok (.iload_n 3, 1) := by decide +kernel
theorem dX12_covers_18 : decode cX12_covers 18 = .ok (.invokestatic 118, 3) := by decide +kernel
theorem dX12_covers_21 : decode cX12_covers 21 = .ok (.ifCond .ne 16, 3) := by decide +kernel
theorem dX12_covers_24 : decode cX12_covers 24 = .ok (.aload_n 0, 1) := by decide +kernel
theorem dX12_covers_25 : decode cX12_covers 25 = .ok (.getfield 20, 3) := by decide +kernel
theorem dX12_covers_28 : decode cX12_covers 28 = .ok (.iload_n 3, 1) := by decide +kernel
theorem dX12_covers_29 : decode cX12_covers 29 = .ok (.iaload, 1) := by decide +kernel
theorem dX12_covers_30 : decode cX12_covers 30 = .ok (.iload_n 1, 1) := by decide +kernel
theorem dX12_covers_31 : decode cX12_covers 31 = .ok (.iconst (-1), 1) := by decide +kernel
theorem dX12_covers_32 : decode cX12_covers 32 = .ok (.ixor, 1) := by decide +kernel
theorem dX12_covers_33 : decode cX12_covers 33 = .ok (.iand, 1) := by decide +kernel
theorem dX12_covers_34 : decode cX12_covers 34 = .ok (.ifCond .ne 7, 3) := by decide +kernel
theorem dX12_covers_37 : decode cX12_covers 37 = .ok (.iconst 1, 1) := by decide +kernel
theorem dX12_covers_38 : decode cX12_covers 38 = .ok (.goto 4, 3) := by decide +kernel
theorem dX12_covers_41 : decode cX12_covers 41 = .ok (.iconst 0, 1) := by decide +kernel
theorem dX12_covers_42 : decode cX12_covers 42 = .ok (.istore_n 2, 1) := by decide +kernel
theorem dX12_covers_43 : decode cX12_covers 43 = .ok (.iinc 3 1, 3) := by decide +kernel
theorem dX12_covers_46 : decode cX12_covers 46 = .ok (.goto (-42), 3) := by decide +kernel
theorem dX12_covers_49 : decode cX12_covers 49 = .ok (.iload_n 2, 1) := by decide +kernel
theorem dX12_covers_50 : decode cX12_covers 50 = .ok (.ireturn, 1) := by decide +kernel
theorem dX12_isBare_0 : decode cX12_isBare 0 = .ok (.aload_n 0, 1) := by decide +kernel
theorem dX12_isBare_1 : decode cX12_isBare 1 = .ok (.iload_n 1, 1) := by decide +kernel
theorem dX12_isBare_2 : decode cX12_isBare 2 = .ok (.invokevirtual 168, 3) := by decide +kernel
theorem dX12_isBare_5 : decode cX12_isBare 5 = .ok (.istore_n 2, 1) := by decide +kernel
theorem dX12_isBare_6 : decode cX12_isBare 6 = .ok (.iconst 0, 1) := by decide +kernel
theorem dX12_isBare_7 : decode cX12_isBare 7 = .ok (.istore_n 3, 1) := by decide +kernel
theorem dX12_isBare_8 : decode cX12_isBare 8 = .ok (.iload_n 3, 1) := by decide +kernel
theorem dX12_isBare_9 : decode cX12_isBare 9 = .ok (.aload_n 0, 1) := by decide +kernel
theorem dX12_isBare_10 : decode cX12_isBare 10 = .ok (.getfield 122, 3) := by decide +kernel
theorem dX12_isBare_13 : decode cX12_isBare 13 = .ok (.if_icmp .ge 40, 3) := by decide +kernel
theorem dX12_isBare_16 : decode cX12_isBare 16 = .ok (.iload_n 2, 1) := by decide +kernel
theorem dX12_isBare_17 : decode cX12_isBare 17 = .ok (.ifCond .eq 28, 3) := by decide +kernel
theorem dX12_isBare_20 : decode cX12_isBare 20 = .ok (.iload_n 1, 1) := by decide +kernel
theorem dX12_isBare_21 : decode cX12_isBare 21 = .ok (.iload_n 3, 1) := by decide +kernel
theorem dX12_isBare_22 : decode cX12_isBare 22 = .ok (.invokestatic 118, 3) := by decide +kernel
theorem dX12_isBare_25 : decode cX12_isBare 25 = .ok (.ifCond .eq 16, 3) := by decide +kernel
theorem dX12_isBare_28 : decode cX12_isBare 28 = .ok (.aload_n 0, 1) := by decide +kernel
theorem dX12_isBare_29 : decode cX12_isBare 29 = .ok (.getfield 20, 3) := by decide +kernel
theorem dX12_isBare_32 : decode cX12_isBare 32 = .ok (.iload_n 3, 1) := by decide +kernel
theorem dX12_isBare_33 : decode cX12_isBare 33 = .ok (.iaload, 1) := by decide +kernel
theorem dX12_isBare_34 : decode cX12_isBare 34 = .ok (.iload_n 1, 1) := by decide +kernel
theorem dX12_isBare_35 : decode cX12_isBare 35 = .ok (.iconst (-1), 1) := by decide +kernel
theorem dX12_isBare_36 : decode cX12_isBare 36 = .ok (.ixor, 1) := by decide +kernel
theorem dX12_isBare_37 : decode cX12_isBare 37 = .ok (.iand, 1) := by decide +kernel
theorem dX12_isBare_38 : decode cX12_isBare 38 = .ok (.ifCond .eq 7, 3) := by decide +kernel
theorem dX12_isBare_41 : decode cX12_isBare 41 = .ok (.iconst 1, 1) := by decide +kernel
theorem dX12_isBare_42 : decode cX12_isBare 42 = .ok (.goto 4, 3) := by decide +kernel
theorem dX12_isBare_45 : decode cX12_isBare 45 = .ok (.iconst 0, 1) := by decide +kernel
theorem dX12_isBare_46 : decode cX12_isBare 46 = .ok (.istore_n 2, 1) := by decide +kernel
theorem dX12_isBare_47 : decode cX12_isBare 47 = .ok (.iinc 3 1, 3) := by decide +kernel
theorem dX12_isBare_50 : decode cX12_isBare 50 = .ok (.goto (-42), 3) := by decide +kernel
theorem dX12_isBare_53 : decode cX12_isBare 53 = .ok (.iload_n 2, 1) := by decide +kernel
theorem dX12_isBare_54 : decode cX12_isBare 54 = .ok (.ireturn, 1) := by decide +kernel
theorem dX12_isCover_0 : decode cX12_isCover 0 = .ok (.aload_n 0, 1) := by decide +kernel
theorem dX12_isCover_1 : decode cX12_isCover 1 = .ok (.iload_n 1, 1) := by decide +kernel
theorem dX12_isCover_2 : decode cX12_isCover 2 = .ok (.invokevirtual 171, 3) := by decide +kernel
theorem dX12_isCover_5 : decode cX12_isCover 5 = .ok (.ifCond .ne 8, 3) := by decide +kernel
theorem dX12_isCover_8 : decode cX12_isCover 8 = .ok (.bipush (-2), 2) := by decide +kernel
theorem dX12_isCover_10 : decode cX12_isCover 10 = .ok (.goto 28, 3) := by decide +kernel
theorem dX12_isCover_13 : decode cX12_isCover 13 = .ok (.aload_n 0, 1) := by decide +kernel
theorem dX12_isCover_14 : decode cX12_isCover 14 = .ok (.iload_n 1, 1) := by decide +kernel
theorem dX12_isCover_15 : decode cX12_isCover 15 = .ok (.invokevirtual 174, 3) := by decide +kernel
theorem dX12_isCover_18 : decode cX12_isCover 18 = .ok (.ifCond .eq 7, 3) := by decide +kernel
theorem dX12_isCover_21 : decode cX12_isCover 21 = .ok (.iconst 2, 1) := by decide +kernel
theorem dX12_isCover_22 : decode cX12_isCover 22 = .ok (.goto 16, 3) := by decide +kernel
theorem dX12_isCover_25 : decode cX12_isCover 25 = .ok (.aload_n 0, 1) := by decide +kernel
theorem dX12_isCover_26 : decode cX12_isCover 26 = .ok (.iload_n 1, 1) := by decide +kernel
theorem dX12_isCover_27 : decode cX12_isCover 27 = .ok (.invokevirtual 168, 3) := by decide +kernel
theorem dX12_isCover_30 : decode cX12_isCover 30 = .ok (.ifCond .eq 7, 3) := by decide +kernel
theorem dX12_isCover_33 : decode cX12_isCover 33 = .ok (.iconst 1, 1) := by decide +kernel
theorem dX12_isCover_34 : decode cX12_isCover 34 = .ok (.goto 4, 3) := by decide +kernel
theorem dX12_isCover_37 : decode cX12_isCover 37 = .ok (.iconst 0, 1) := by decide +kernel
theorem dX12_isCover_38 : decode cX12_isCover 38 = .ok (.ireturn, 1) := by decide +kernel
theorem dX12_costs_0 : decode cX12_costs 0 = .ok (.iconst 0, 1) := by decide +kernel
theorem dX12_costs_1 : decode cX12_costs 1 = .ok (.istore_n 2, 1) := by decide +kernel
theorem dX12_costs_2 : decode cX12_costs 2 = .ok (.iconst 0, 1) := by decide +kernel
theorem dX12_costs_3 : decode cX12_costs 3 = .ok (.istore_n 3, 1) := by decide +kernel
theorem dX12_costs_4 : decode cX12_costs 4 = .ok (.iload_n 3, 1) := by decide +kernel
theorem dX12_costs_5 : decode cX12_costs 5 = .ok (.aload_n 0, 1) := by decide +kernel
theorem dX12_costs_6 : decode cX12_costs 6 = .ok (.getfield 122, 3) := by decide +kernel
theorem dX12_costs_9 : decode cX12_costs 9 = .ok (.if_icmp .ge 29, 3) := by decide +kernel
theorem dX12_costs_12 : decode cX12_costs 12 = .ok (.iload_n 2, 1) := by decide +kernel
theorem dX12_costs_13 : decode cX12_costs 13 = .ok (.iload_n 1, 1) := by decide +kernel
theorem dX12_costs_14 : decode cX12_costs 14 = .ok (.iload_n 3, 1) := by decide +kernel
theorem dX12_costs_15 : decode cX12_costs 15 = .ok (.invokestatic 118, 3) := by decide +kernel
theorem dX12_costs_18 : decode cX12_costs 18 = .ok (.ifCond .eq 11, 3) := by decide +kernel
theorem dX12_costs_21 : decode cX12_costs 21 = .ok (.aload_n 0, 1) := by decide +kernel
theorem dX12_costs_22 : decode cX12_costs 22 = .ok (.iload_n 3, 1) := by decide +kernel
theorem dX12_costs_23 : decode cX12_costs 23 = .ok (.invokevirtual 156, 3) := by decide +kernel
theorem dX12_costs_26 : decode cX12_costs 26 = .ok (.goto 4, 3) := by decide +kernel
theorem dX12_costs_29 : decode cX12_costs 29 = .ok (.iconst 0, 1) := by decide +kernel
theorem dX12_costs_30 : decode cX12_costs 30 = .ok (.iadd, 1) := by decide +kernel
theorem dX12_costs_31 : decode cX12_costs 31 = .ok (.istore_n 2, 1) := by decide +kernel
theorem dX12_costs_32 : decode cX12_costs 32 = .ok (.iinc 3 1, 3) := by decide +kernel
theorem dX12_costs_35 : decode cX12_costs 35 = .ok (.goto (-31), 3) := by decide +kernel
theorem dX12_costs_38 : decode cX12_costs 38 = .ok (.iload_n 2, 1) := by decide +kernel
theorem dX12_costs_39 : decode cX12_costs 39 = .ok (.ireturn, 1) := by decide +kernel
theorem dX12_costOf_0 : decode cX12_costOf 0 = .ok (.aload_n 0, 1) := by decide +kernel
theorem dX12_costOf_1 : decode cX12_costOf 1 = .ok (.iload_n 1, 1) := by decide +kernel
theorem dX12_costOf_2 : decode cX12_costOf 2 = .ok (.invokevirtual 171, 3) := by decide +kernel
theorem dX12_costOf_5 : decode cX12_costOf 5 = .ok (.ifCond .eq 11, 3) := by decide +kernel
theorem dX12_costOf_8 : decode cX12_costOf 8 = .ok (.aload_n 0, 1) := by decide +kernel
theorem dX12_costOf_9 : decode cX12_costOf 9 = .ok (.iload_n 1, 1) := by decide +kernel
theorem dX12_costOf_10 : decode cX12_costOf 10 = .ok (.invokevirtual 177, 3) := by decide +kernel
theorem dX12_costOf_13 : decode cX12_costOf 13 = .ok (.goto 5, 3) := by decide +kernel
theorem dX12_costOf_16 : decode cX12_costOf 16 = .ok (.bipush (-2), 2) := by decide +kernel
theorem dX12_costOf_18 : decode cX12_costOf 18 = .ok (.ireturn, 1) := by decide +kernel
theorem dX12_least_0 : decode cX12_least 0 = .ok (.aload_n 0, 1) := by decide +kernel
theorem dX12_least_1 : decode cX12_least 1 = .ok (.getfield 122, 3) := by decide +kernel
theorem dX12_least_4 : decode cX12_least 4 = .ok (.istore_n 1, 1) := by decide +kernel
theorem dX12_least_5 : decode cX12_least 5 = .ok (.iconst 0, 1) := by decide +kernel
theorem dX12_least_6 : decode cX12_least 6 = .ok (.istore_n 2, 1) := by decide +kernel
theorem dX12_least_7 : decode cX12_least 7 = .ok (.iload_n 2, 1) := by decide +kernel
theorem dX12_least_8 : decode cX12_least 8 = .ok (.aload_n 0, 1) := by decide +kernel
theorem dX12_least_9 : decode cX12_least 9 = .ok (.invokevirtual 129, 3) := by decide +kernel
theorem dX12_least_12 : decode cX12_least 12 = .ok (.if_icmp .gt 34, 3) := by decide +kernel
theorem dX12_least_15 : decode cX12_least 15 = .ok (.iload_n 2, 1) := by decide +kernel
theorem dX12_least_16 : decode cX12_least 16 = .ok (.invokestatic 133, 3) := by decide +kernel
theorem dX12_least_19 : decode cX12_least 19 = .ok (.iload_n 1, 1) := by decide +kernel
theorem dX12_least_20 : decode cX12_least 20 = .ok (.if_icmp .ge 18, 3) := by decide +kernel
theorem dX12_least_23 : decode cX12_least 23 = .ok (.aload_n 0, 1) := by decide +kernel
theorem dX12_least_24 : decode cX12_least 24 = .ok (.iload_n 2, 1) := by decide +kernel
theorem dX12_least_25 : decode cX12_least 25 = .ok (.invokevirtual 168, 3) := by decide +kernel
theorem dX12_least_28 : decode cX12_least 28 = .ok (.ifCond .eq 10, 3) := by decide +kernel
theorem dX12_least_31 : decode cX12_least 31 = .ok (.iload_n 2, 1) := by decide +kernel
theorem dX12_least_32 : decode cX12_least 32 = .ok (.invokestatic 133, 3) := by decide +kernel
theorem dX12_least_35 : decode cX12_least 35 = .ok (.goto 4, 3) := by decide +kernel
theorem dX12_least_38 : decode cX12_least 38 = .ok (.iload_n 1, 1) := by decide +kernel
theorem dX12_least_39 : decode cX12_least 39 = .ok (.istore_n 1, 1) := by decide +kernel
theorem dX12_least_40 : decode cX12_least 40 = .ok (.iinc 2 1, 3) := by decide +kernel
theorem dX12_least_43 : decode cX12_least 43 = .ok (.goto (-36), 3) := by decide +kernel
theorem dX12_least_46 : decode cX12_least 46 = .ok (.iload_n 1, 1) := by decide +kernel
theorem dX12_least_47 : decode cX12_least 47 = .ok (.ireturn, 1) := by decide +kernel
theorem dX12_fewest_0 : decode cX12_fewest 0 = .ok (.iload_n 1, 1) := by decide +kernel
theorem dX12_fewest_1 : decode cX12_fewest 1 = .ok (.iconst 0, 1) := by decide +kernel
theorem dX12_fewest_2 : decode cX12_fewest 2 = .ok (.iconst 4, 1) := by decide +kernel
theorem dX12_fewest_3 : decode cX12_fewest 3 = .ok (.invokestatic 125, 3) := by decide +kernel
theorem dX12_fewest_6 : decode cX12_fewest 6 = .ok (.ifCond .ne 6, 3) := by decide +kernel
theorem dX12_fewest_9 : decode cX12_fewest 9 = .ok (.bipush (-2), 2) := by decide +kernel
theorem dX12_fewest_11 : decode cX12_fewest 11 = .ok (.ireturn, 1) := by decide +kernel
theorem dX12_fewest_12 : decode cX12_fewest 12 = .ok (.aload_n 0, 1) := by decide +kernel
theorem dX12_fewest_13 : decode cX12_fewest 13 = .ok (.invokevirtual 180, 3) := by decide +kernel
theorem dX12_fewest_16 : decode cX12_fewest 16 = .ok (.istore_n 2, 1) := by decide +kernel
theorem dX12_fewest_17 : decode cX12_fewest 17 = .ok (.iconst (-1), 1) := by decide +kernel
theorem dX12_fewest_18 : decode cX12_fewest 18 = .ok (.istore_n 3, 1) := by decide +kernel
theorem dX12_fewest_19 : decode cX12_fewest 19 = .ok (.iconst 0, 1) := by decide +kernel
theorem dX12_fewest_20 : decode cX12_fewest 20 = .ok (.istore 4, 2) := by decide +kernel
theorem dX12_fewest_22 : decode cX12_fewest 22 = .ok (.aload_n 0, 1) := by decide +kernel
theorem dX12_fewest_23 : decode cX12_fewest 23 = .ok (.invokevirtual 129, 3) := by decide +kernel
theorem dX12_fewest_26 : decode cX12_fewest 26 = .ok (.istore 5, 2) := by decide +kernel
theorem dX12_fewest_28 : decode cX12_fewest 28 = .ok (.iconst 0, 1) := by decide +kernel
theorem dX12_fewest_29 : decode cX12_fewest 29 = .ok (.istore 6, 2) := by decide +kernel
theorem dX12_fewest_31 : decode cX12_fewest 31 = .ok (.iconst 0, 1) := by decide +kernel
theorem dX12_fewest_32 : decode cX12_fewest 32 = .ok (.istore 7, 2) := by decide +kernel
theorem dX12_fewest_34 : decode cX12_fewest 34 = .ok (.iload 7, 2) := by decide +kernel
theorem dX12_fewest_36 : decode cX12_fewest 36 = .ok (.aload_n 0, 1) := by decide +kernel
theorem dX12_fewest_37 : decode cX12_fewest 37 = .ok (.invokevirtual 129, 3) := by decide +kernel
theorem dX12_fewest_40 : decode cX12_fewest 40 = .ok (.if_icmp .gt 59, 3) := by decide +kernel
theorem dX12_fewest_43 : decode cX12_fewest 43 = .ok (.iload 7, 2) := by decide +kernel
theorem dX12_fewest_45 : decode cX12_fewest 45 = .ok (.invokestatic 133, 3) := by decide +kernel
theorem dX12_fewest_48 : decode cX12_fewest 48 = .ok (.iload_n 2, 1) := by decide +kernel
theorem dX12_fewest_49 : decode cX12_fewest 49 = .ok (.if_icmp .ne 44, 3) := by decide +kernel
theorem dX12_fewest_52 : decode cX12_fewest 52 = .ok (.aload_n 0, 1) := by decide +kernel
theorem dX12_fewest_53 : decode cX12_fewest 53 = .ok (.iload 7, 2) := by decide +kernel
theorem dX12_fewest_55 : decode cX12_fewest 55 = .ok (.invokevirtual 168, 3) := by decide +kernel
theorem dX12_fewest_58 : decode cX12_fewest 58 = .ok (.ifCond .ne 6, 3) := by decide +kernel
theorem dX12_fewest_61 : decode cX12_fewest 61 = .ok (.goto 32, 3) := by decide +kernel
theorem dX12_fewest_64 : decode cX12_fewest 64 = .ok (.iload_n 3, 1) := by decide +kernel
theorem dX12_fewest_65 : decode cX12_fewest 65 = .ok (.iconst (-1), 1) := by decide +kernel
theorem dX12_fewest_66 : decode cX12_fewest 66 = .ok (.if_icmp .ne 8, 3) := by decide +kernel
theorem dX12_fewest_69 : decode cX12_fewest 69 = .ok (.iload 7, 2) := by decide +kernel
theorem dX12_fewest_71 : decode cX12_fewest 71 = .ok (.goto 4, 3) := by decide +kernel
theorem dX12_fewest_74 : decode cX12_fewest 74 = .ok (.iload_n 3, 1) := by decide +kernel
theorem dX12_fewest_75 : decode cX12_fewest 75 = .ok (.istore_n 3, 1) := by decide +kernel
theorem dX12_fewest_76 : decode cX12_fewest 76 = .ok (.iinc 4 1, 3) := by decide +kernel
theorem dX12_fewest_79 : decode cX12_fewest 79 = .ok (.iload 5, 2) := by decide +kernel
theorem dX12_fewest_81 : decode cX12_fewest 81 = .ok (.iload 7, 2) := by decide +kernel
theorem dX12_fewest_83 : decode cX12_fewest 83 = .ok (.iand, 1) := by decide +kernel
theorem dX12_fewest_84 : decode cX12_fewest 84 = .ok (.istore 5, 2) := by decide +kernel
theorem dX12_fewest_86 : decode cX12_fewest 86 = .ok (.iload 6, 2) := by decide +kernel
theorem dX12_fewest_88 : decode cX12_fewest 88 = .ok (.iload 7, 2) := by decide +kernel
theorem dX12_fewest_90 : decode cX12_fewest 90 = .ok (.ior, 1) := by decide +kernel
theorem dX12_fewest_91 : decode cX12_fewest 91 = .ok (.istore 6, 2) := by decide +kernel
theorem dX12_fewest_93 : decode cX12_fewest 93 = .ok (.iinc 7 1, 3) := by decide +kernel
theorem dX12_fewest_96 : decode cX12_fewest 96 = .ok (.goto (-62), 3) := by decide +kernel
theorem dX12_fewest_99 : decode cX12_fewest 99 = .ok (.iload_n 1, 1) := by decide +kernel
theorem dX12_fewest_100 : decode cX12_fewest 100 = .ok (.tableswitch 42 0 3 #[32, 34, 36, 39], 32) := by decide +kernel
theorem dX12_fewest_132 : decode cX12_fewest 132 = .ok (.iload_n 2, 1) := by decide +kernel
theorem dX12_fewest_133 : decode cX12_fewest 133 = .ok (.ireturn, 1) := by decide +kernel
theorem dX12_fewest_134 : decode cX12_fewest 134 = .ok (.iload_n 3, 1) := by decide +kernel
theorem dX12_fewest_135 : decode cX12_fewest 135 = .ok (.ireturn, 1) := by decide +kernel
theorem dX12_fewest_136 : decode cX12_fewest 136 = .ok (.iload 4, 2) := by decide +kernel
theorem dX12_fewest_138 : decode cX12_fewest 138 = .ok (.ireturn, 1) := by decide +kernel
theorem dX12_fewest_139 : decode cX12_fewest 139 = .ok (.iload 5, 2) := by decide +kernel
theorem dX12_fewest_141 : decode cX12_fewest 141 = .ok (.ireturn, 1) := by decide +kernel
theorem dX12_fewest_142 : decode cX12_fewest 142 = .ok (.aload_n 0, 1) := by decide +kernel
theorem dX12_fewest_143 : decode cX12_fewest 143 = .ok (.invokevirtual 129, 3) := by decide +kernel
theorem dX12_fewest_146 : decode cX12_fewest 146 = .ok (.iload 6, 2) := by decide +kernel
theorem dX12_fewest_148 : decode cX12_fewest 148 = .ok (.iconst (-1), 1) := by decide +kernel
theorem dX12_fewest_149 : decode cX12_fewest 149 = .ok (.ixor, 1) := by decide +kernel
theorem dX12_fewest_150 : decode cX12_fewest 150 = .ok (.iand, 1) := by decide +kernel
theorem dX12_fewest_151 : decode cX12_fewest 151 = .ok (.ireturn, 1) := by decide +kernel
theorem dX12_dear_0 : decode cX12_dear 0 = .ok (.iload_n 1, 1) := by decide +kernel
theorem dX12_dear_1 : decode cX12_dear 1 = .ok (.iconst 0, 1) := by decide +kernel
theorem dX12_dear_2 : decode cX12_dear 2 = .ok (.iconst 2, 1) := by decide +kernel
theorem dX12_dear_3 : decode cX12_dear 3 = .ok (.invokestatic 125, 3) := by decide +kernel
theorem dX12_dear_6 : decode cX12_dear 6 = .ok (.ifCond .ne 6, 3) := by decide +kernel
theorem dX12_dear_9 : decode cX12_dear 9 = .ok (.bipush (-2), 2) := by decide +kernel
theorem dX12_dear_11 : decode cX12_dear 11 = .ok (.ireturn, 1) := by decide +kernel
theorem dX12_dear_12 : decode cX12_dear 12 = .ok (.ldc 183, 2) := by decide +kernel
theorem dX12_dear_14 : decode cX12_dear 14 = .ok (.istore_n 2, 1) := by decide +kernel
theorem dX12_dear_15 : decode cX12_dear 15 = .ok (.iconst (-1), 1) := by decide +kernel
theorem dX12_dear_16 : decode cX12_dear 16 = .ok (.istore_n 3, 1) := by decide +kernel
theorem dX12_dear_17 : decode cX12_dear 17 = .ok (.iconst 0, 1) := by decide +kernel
theorem dX12_dear_18 : decode cX12_dear 18 = .ok (.istore 4, 2) := by decide +kernel
theorem dX12_dear_20 : decode cX12_dear 20 = .ok (.iconst 0, 1) := by decide +kernel
theorem dX12_dear_21 : decode cX12_dear 21 = .ok (.istore 5, 2) := by decide +kernel
theorem dX12_dear_23 : decode cX12_dear 23 = .ok (.iload 5, 2) := by decide +kernel
theorem dX12_dear_25 : decode cX12_dear 25 = .ok (.aload_n 0, 1) := by decide +kernel
theorem dX12_dear_26 : decode cX12_dear 26 = .ok (.invokevirtual 129, 3) := by decide +kernel
theorem dX12_dear_29 : decode cX12_dear 29 = .ok (.if_icmp .gt 75, 3) := by decide +kernel
theorem dX12_dear_32 : decode cX12_dear 32 = .ok (.aload_n 0, 1) := by decide +kernel
theorem dX12_dear_33 : decode cX12_dear 33 = .ok (.iload 5, 2) := by decide +kernel
theorem dX12_dear_35 : decode cX12_dear 35 = .ok (.invokevirtual 168, 3) := by decide +kernel
theorem dX12_dear_38 : decode cX12_dear 38 = .ok (.ifCond .eq 60, 3) := by decide +kernel
theorem dX12_dear_41 : decode cX12_dear 41 = .ok (.aload_n 0, 1) := by decide +kernel
theorem dX12_dear_42 : decode cX12_dear 42 = .ok (.iload 5, 2) := by decide +kernel
theorem dX12_dear_44 : decode cX12_dear 44 = .ok (.invokevirtual 177, 3) := by decide +kernel
theorem dX12_dear_47 : decode cX12_dear 47 = .ok (.iload_n 2, 1) := by decide +kernel
theorem dX12_dear_48 : decode cX12_dear 48 = .ok (.if_icmp .le 6, 3) := by decide +kernel
theorem dX12_dear_51 : decode cX12_dear 51 = .ok (.goto 47, 3) := by decide +kernel
theorem dX12_dear_54 : decode cX12_dear 54 = .ok (.aload_n 0, 1) := by decide +kernel
theorem dX12_dear_55 : decode cX12_dear 55 = .ok (.iload 5, 2) := by decide +kernel
theorem dX12_dear_57 : decode cX12_dear 57 = .ok (.invokevirtual 177, 3) := by decide +kernel
theorem dX12_dear_60 : decode cX12_dear 60 = .ok (.iload_n 2, 1) := by decide +kernel
theorem dX12_dear_61 : decode cX12_dear 61 = .ok (.if_icmp .ge 7, 3) := by decide +kernel
theorem dX12_dear_64 : decode cX12_dear 64 = .ok (.iconst 1, 1) := by decide +kernel
theorem dX12_dear_65 : decode cX12_dear 65 = .ok (.goto 7, 3) := by decide +kernel
theorem dX12_dear_68 : decode cX12_dear 68 = .ok (.iload 4, 2) := by decide +kernel
theorem dX12_dear_70 : decode cX12_dear 70 = .ok (.iconst 1, 1) := by decide +kernel
theorem dX12_dear_71 : decode cX12_dear 71 = .ok (.iadd, 1) := by decide +kernel
theorem dX12_dear_72 : decode cX12_dear 72 = .ok (.istore 4, 2) := by decide +kernel
theorem dX12_dear_74 : decode cX12_dear 74 = .ok (.aload_n 0, 1) := by decide +kernel
theorem dX12_dear_75 : decode cX12_dear 75 = .ok (.iload 5, 2) := by decide +kernel
theorem dX12_dear_77 : decode cX12_dear 77 = .ok (.invokevirtual 177, 3) := by decide +kernel
theorem dX12_dear_80 : decode cX12_dear 80 = .ok (.iload_n 2, 1) := by decide +kernel
theorem dX12_dear_81 : decode cX12_dear 81 = .ok (.if_icmp .ge 8, 3) := by decide +kernel
theorem dX12_dear_84 : decode cX12_dear 84 = .ok (.iload 5, 2) := by decide +kernel
theorem dX12_dear_86 : decode cX12_dear 86 = .ok (.goto 4, 3) := by decide +kernel
theorem dX12_dear_89 : decode cX12_dear 89 = .ok (.iload_n 3, 1) := by decide +kernel
theorem dX12_dear_90 : decode cX12_dear 90 = .ok (.istore_n 3, 1) := by decide +kernel
theorem dX12_dear_91 : decode cX12_dear 91 = .ok (.aload_n 0, 1) := by decide +kernel
theorem dX12_dear_92 : decode cX12_dear 92 = .ok (.iload 5, 2) := by decide +kernel
theorem dX12_dear_94 : decode cX12_dear 94 = .ok (.invokevirtual 177, 3) := by decide +kernel
theorem dX12_dear_97 : decode cX12_dear 97 = .ok (.istore_n 2, 1) := by decide +kernel
theorem dX12_dear_98 : decode cX12_dear 98 = .ok (.iinc 5 1, 3) := by decide +kernel
theorem dX12_dear_101 : decode cX12_dear 101 = .ok (.goto (-78), 3) := by decide +kernel
theorem dX12_dear_104 : decode cX12_dear 104 = .ok (.iload_n 1, 1) := by decide +kernel
theorem dX12_dear_105 : decode cX12_dear 105 = .ok (.ifCond .ne 7, 3) := by decide +kernel
theorem dX12_dear_108 : decode cX12_dear 108 = .ok (.iload_n 2, 1) := by decide +kernel
theorem dX12_dear_109 : decode cX12_dear 109 = .ok (.goto 14, 3) := by decide +kernel
theorem dX12_dear_112 : decode cX12_dear 112 = .ok (.iload_n 1, 1) := by decide +kernel
theorem dX12_dear_113 : decode cX12_dear 113 = .ok (.iconst 1, 1) := by decide +kernel
theorem dX12_dear_114 : decode cX12_dear 114 = .ok (.if_icmp .ne 7, 3) := by decide +kernel
theorem dX12_dear_117 : decode cX12_dear 117 = .ok (.iload_n 3, 1) := by decide +kernel
theorem dX12_dear_118 : decode cX12_dear 118 = .ok (.goto 5, 3) := by decide +kernel
theorem dX12_dear_121 : decode cX12_dear 121 = .ok (.iload 4, 2) := by decide +kernel
theorem dX12_dear_123 : decode cX12_dear 123 = .ok (.ireturn, 1) := by decide +kernel
theorem dX12_sized_0 : decode cX12_sized 0 = .ok (.iload_n 1, 1) := by decide +kernel
theorem dX12_sized_1 : decode cX12_sized 1 = .ok (.iconst 0, 1) := by decide +kernel
theorem dX12_sized_2 : decode cX12_sized 2 = .ok (.bipush 12, 2) := by decide +kernel
theorem dX12_sized_4 : decode cX12_sized 4 = .ok (.invokestatic 125, 3) := by decide +kernel
theorem dX12_sized_7 : decode cX12_sized 7 = .ok (.ifCond .ne 6, 3) := by decide +kernel
theorem dX12_sized_10 : decode cX12_sized 10 = .ok (.bipush (-2), 2) := by decide +kernel
theorem dX12_sized_12 : decode cX12_sized 12 = .ok (.ireturn, 1) := by decide +kernel
theorem dX12_sized_13 : decode cX12_sized 13 = .ok (.iconst 0, 1) := by decide +kernel
theorem dX12_sized_14 : decode cX12_sized 14 = .ok (.istore_n 2, 1) := by decide +kernel
theorem dX12_sized_15 : decode cX12_sized 15 = .ok (.iconst 0, 1) := by decide +kernel
theorem dX12_sized_16 : decode cX12_sized 16 = .ok (.istore_n 3, 1) := by decide +kernel
theorem dX12_sized_17 : decode cX12_sized 17 = .ok (.iload_n 3, 1) := by decide +kernel
theorem dX12_sized_18 : decode cX12_sized 18 = .ok (.aload_n 0, 1) := by decide +kernel
theorem dX12_sized_19 : decode cX12_sized 19 = .ok (.invokevirtual 129, 3) := by decide +kernel
theorem dX12_sized_22 : decode cX12_sized 22 = .ok (.if_icmp .gt 33, 3) := by decide +kernel
theorem dX12_sized_25 : decode cX12_sized 25 = .ok (.iload_n 2, 1) := by decide +kernel
theorem dX12_sized_26 : decode cX12_sized 26 = .ok (.iload_n 3, 1) := by decide +kernel
theorem dX12_sized_27 : decode cX12_sized 27 = .ok (.invokestatic 133, 3) := by decide +kernel
theorem dX12_sized_30 : decode cX12_sized 30 = .ok (.iload_n 1, 1) := by decide +kernel
theorem dX12_sized_31 : decode cX12_sized 31 = .ok (.if_icmp .ne 15, 3) := by decide +kernel
theorem dX12_sized_34 : decode cX12_sized 34 = .ok (.aload_n 0, 1) := by decide +kernel
theorem dX12_sized_35 : decode cX12_sized 35 = .ok (.iload_n 3, 1) := by decide +kernel
theorem dX12_sized_36 : decode cX12_sized 36 = .ok (.invokevirtual 168, 3) := by decide +kernel
theorem dX12_sized_39 : decode cX12_sized 39 = .ok (.ifCond .eq 7, 3) := by decide +kernel
theorem dX12_sized_42 : decode cX12_sized 42 = .ok (.iconst 1, 1) := by decide +kernel
theorem dX12_sized_43 : decode cX12_sized 43 = .ok (.goto 4, 3) := by decide +kernel
theorem dX12_sized_46 : decode cX12_sized 46 = .ok (.iconst 0, 1) := by decide +kernel
theorem dX12_sized_47 : decode cX12_sized 47 = .ok (.iadd, 1) := by decide +kernel
theorem dX12_sized_48 : decode cX12_sized 48 = .ok (.istore_n 2, 1) := by decide +kernel
theorem dX12_sized_49 : decode cX12_sized 49 = .ok (.iinc 3 1, 3) := by decide +kernel
theorem dX12_sized_52 : decode cX12_sized 52 = .ok (.goto (-35), 3) := by decide +kernel
theorem dX12_sized_55 : decode cX12_sized 55 = .ok (.iload_n 2, 1) := by decide +kernel
theorem dX12_sized_56 : decode cX12_sized 56 = .ok (.ireturn, 1) := by decide +kernel
theorem dX12_bare_0 : decode cX12_bare 0 = .ok (.iload_n 1, 1) := by decide +kernel
theorem dX12_bare_1 : decode cX12_bare 1 = .ok (.iconst 0, 1) := by decide +kernel
theorem dX12_bare_2 : decode cX12_bare 2 = .ok (.iconst 2, 1) := by decide +kernel
theorem dX12_bare_3 : decode cX12_bare 3 = .ok (.invokestatic 125, 3) := by decide +kernel
theorem dX12_bare_6 : decode cX12_bare 6 = .ok (.ifCond .ne 6, 3) := by decide +kernel
theorem dX12_bare_9 : decode cX12_bare 9 = .ok (.bipush (-2), 2) := by decide +kernel
theorem dX12_bare_11 : decode cX12_bare 11 = .ok (.ireturn, 1) := by decide +kernel
theorem dX12_bare_12 : decode cX12_bare 12 = .ok (.iconst 0, 1) := by decide +kernel
theorem dX12_bare_13 : decode cX12_bare 13 = .ok (.istore_n 2, 1) := by decide +kernel
theorem dX12_bare_14 : decode cX12_bare 14 = .ok (.iconst (-1), 1) := by decide +kernel
theorem dX12_bare_15 : decode cX12_bare 15 = .ok (.istore_n 3, 1) := by decide +kernel
theorem dX12_bare_16 : decode cX12_bare 16 = .ok (.iconst (-1), 1) := by decide +kernel
theorem dX12_bare_17 : decode cX12_bare 17 = .ok (.istore 4, 2) := by decide +kernel
theorem dX12_bare_19 : decode cX12_bare 19 = .ok (.iconst 0, 1) := by decide +kernel
theorem dX12_bare_20 : decode cX12_bare 20 = .ok (.istore 5, 2) := by decide +kernel
theorem dX12_bare_22 : decode cX12_bare 22 = .ok (.iload 5, 2) := by decide +kernel
theorem dX12_bare_24 : decode cX12_bare 24 = .ok (.aload_n 0, 1) := by decide +kernel
theorem dX12_bare_25 : decode cX12_bare 25 = .ok (.invokevirtual 129, 3) := by decide +kernel
theorem dX12_bare_28 : decode cX12_bare 28 = .ok (.if_icmp .gt 61, 3) := by decide +kernel
theorem dX12_bare_31 : decode cX12_bare 31 = .ok (.aload_n 0, 1) := by decide +kernel
theorem dX12_bare_32 : decode cX12_bare 32 = .ok (.iload 5, 2) := by decide +kernel
theorem dX12_bare_34 : decode cX12_bare 34 = .ok (.invokevirtual 174, 3) := by decide +kernel
theorem dX12_bare_37 : decode cX12_bare 37 = .ok (.ifCond .ne 6, 3) := by decide +kernel
theorem dX12_bare_40 : decode cX12_bare 40 = .ok (.goto 43, 3) := by decide +kernel
theorem dX12_bare_43 : decode cX12_bare 43 = .ok (.iinc 2 1, 3) := by decide +kernel
theorem dX12_bare_46 : decode cX12_bare 46 = .ok (.iload 5, 2) := by decide +kernel
theorem dX12_bare_48 : decode cX12_bare 48 = .ok (.invokestatic 133, 3) := by decide +kernel
theorem dX12_bare_51 : decode cX12_bare 51 = .ok (.iload_n 3, 1) := by decide +kernel
theorem dX12_bare_52 : decode cX12_bare 52 = .ok (.if_icmp .le 8, 3) := by decide +kernel
theorem dX12_bare_55 : decode cX12_bare 55 = .ok (.iload 5, 2) := by decide +kernel
theorem dX12_bare_57 : decode cX12_bare 57 = .ok (.goto 5, 3) := by decide +kernel
theorem dX12_bare_60 : decode cX12_bare 60 = .ok (.iload 4, 2) := by decide +kernel
theorem dX12_bare_62 : decode cX12_bare 62 = .ok (.istore 4, 2) := by decide +kernel
theorem dX12_bare_64 : decode cX12_bare 64 = .ok (.iload 5, 2) := by decide +kernel
theorem dX12_bare_66 : decode cX12_bare 66 = .ok (.invokestatic 133, 3) := by decide +kernel
theorem dX12_bare_69 : decode cX12_bare 69 = .ok (.iload_n 3, 1) := by decide +kernel
theorem dX12_bare_70 : decode cX12_bare 70 = .ok (.if_icmp .le 11, 3) := by decide +kernel
theorem dX12_bare_73 : decode cX12_bare 73 = .ok (.iload 5, 2) := by decide +kernel
theorem dX12_bare_75 : decode cX12_bare 75 = .ok (.invokestatic 133, 3) := by decide +kernel
theorem dX12_bare_78 : decode cX12_bare 78 = .ok (.goto 4, 3) := by decide +kernel
theorem dX12_bare_81 : decode cX12_bare 81 = .ok (.iload_n 3, 1) := by decide +kernel
theorem dX12_bare_82 : decode cX12_bare 82 = .ok (.istore_n 3, 1) := by decide +kernel
theorem dX12_bare_83 : decode cX12_bare 83 = .ok (.iinc 5 1, 3) := by decide +kernel
theorem dX12_bare_86 : decode cX12_bare 86 = .ok (.goto (-64), 3) := by decide +kernel
theorem dX12_bare_89 : decode cX12_bare 89 = .ok (.iload_n 1, 1) := by decide +kernel
theorem dX12_bare_90 : decode cX12_bare 90 = .ok (.ifCond .ne 7, 3) := by decide +kernel
theorem dX12_bare_93 : decode cX12_bare 93 = .ok (.iload_n 2, 1) := by decide +kernel
theorem dX12_bare_94 : decode cX12_bare 94 = .ok (.goto 14, 3) := by decide +kernel
theorem dX12_bare_97 : decode cX12_bare 97 = .ok (.iload_n 1, 1) := by decide +kernel
theorem dX12_bare_98 : decode cX12_bare 98 = .ok (.iconst 1, 1) := by decide +kernel
theorem dX12_bare_99 : decode cX12_bare 99 = .ok (.if_icmp .ne 7, 3) := by decide +kernel
theorem dX12_bare_102 : decode cX12_bare 102 = .ok (.iload_n 3, 1) := by decide +kernel
theorem dX12_bare_103 : decode cX12_bare 103 = .ok (.goto 5, 3) := by decide +kernel
theorem dX12_bare_106 : decode cX12_bare 106 = .ok (.iload 4, 2) := by decide +kernel
theorem dX12_bare_108 : decode cX12_bare 108 = .ok (.ireturn, 1) := by decide +kernel
theorem dX12_gcd_0 : decode cX12_gcd 0 = .ok (.lload_n 0, 1) := by decide +kernel
theorem dX12_gcd_1 : decode cX12_gcd 1 = .ok (.lstore 4, 2) := by decide +kernel
theorem dX12_gcd_3 : decode cX12_gcd 3 = .ok (.lload_n 2, 1) := by decide +kernel
theorem dX12_gcd_4 : decode cX12_gcd 4 = .ok (.lstore 6, 2) := by decide +kernel
theorem dX12_gcd_6 : decode cX12_gcd 6 = .ok (.lload 6, 2) := by decide +kernel
theorem dX12_gcd_8 : decode cX12_gcd 8 = .ok (.lconst 0, 1) := by decide +kernel
theorem dX12_gcd_9 : decode cX12_gcd 9 = .ok (.lcmp, 1) := by decide +kernel
theorem dX12_gcd_10 : decode cX12_gcd 10 = .ok (.ifCond .eq 21, 3) := by decide +kernel
theorem dX12_gcd_13 : decode cX12_gcd 13 = .ok (.lload 4, 2) := by decide +kernel
theorem dX12_gcd_15 : decode cX12_gcd 15 = .ok (.lload 6, 2) := by decide +kernel
theorem dX12_gcd_17 : decode cX12_gcd 17 = .ok (.lrem, 1) := by decide +kernel
theorem dX12_gcd_18 : decode cX12_gcd 18 = .ok (.lstore 8, 2) := by decide +kernel
theorem dX12_gcd_20 : decode cX12_gcd 20 = .ok (.lload 6, 2) := by decide +kernel
theorem dX12_gcd_22 : decode cX12_gcd 22 = .ok (.lstore 4, 2) := by decide +kernel
theorem dX12_gcd_24 : decode cX12_gcd 24 = .ok (.lload 8, 2) := by decide +kernel
theorem dX12_gcd_26 : decode cX12_gcd 26 = .ok (.lstore 6, 2) := by decide +kernel
theorem dX12_gcd_28 : decode cX12_gcd 28 = .ok (.goto (-22), 3) := by decide +kernel
theorem dX12_gcd_31 : decode cX12_gcd 31 = .ok (.lload 4, 2) := by decide +kernel
theorem dX12_gcd_33 : decode cX12_gcd 33 = .ok (.lreturn, 1) := by decide +kernel
theorem dX12_share_0 : decode cX12_share 0 = .ok (.iload_n 1, 1) := by decide +kernel
theorem dX12_share_1 : decode cX12_share 1 = .ok (.iconst 0, 1) := by decide +kernel
theorem dX12_share_2 : decode cX12_share 2 = .ok (.iconst 1, 1) := by decide +kernel
theorem dX12_share_3 : decode cX12_share 3 = .ok (.invokestatic 125, 3) := by decide +kernel
theorem dX12_share_6 : decode cX12_share 6 = .ok (.ifCond .ne 7, 3) := by decide +kernel
theorem dX12_share_9 : decode cX12_share 9 = .ok (.ldc2_w 184, 3) := by decide +kernel
theorem dX12_share_12 : decode cX12_share 12 = .ok (.lreturn, 1) := by decide +kernel
theorem dX12_share_13 : decode cX12_share 13 = .ok (.lconst 0, 1) := by decide +kernel
theorem dX12_share_14 : decode cX12_share 14 = .ok (.lstore_n 2, 1) := by decide +kernel
theorem dX12_share_15 : decode cX12_share 15 = .ok (.aload_n 0, 1) := by decide +kernel
theorem dX12_share_16 : decode cX12_share 16 = .ok (.invokevirtual 129, 3) := by decide +kernel
theorem dX12_share_19 : decode cX12_share 19 = .ok (.i2l, 1) := by decide +kernel
theorem dX12_share_20 : decode cX12_share 20 = .ok (.lconst 1, 1) := by decide +kernel
theorem dX12_share_21 : decode cX12_share 21 = .ok (.ladd, 1) := by decide +kernel
theorem dX12_share_22 : decode cX12_share 22 = .ok (.lstore 4, 2) := by decide +kernel
theorem dX12_share_24 : decode cX12_share 24 = .ok (.iconst 0, 1) := by decide +kernel
theorem dX12_share_25 : decode cX12_share 25 = .ok (.istore 6, 2) := by decide +kernel
theorem dX12_share_27 : decode cX12_share 27 = .ok (.iload 6, 2) := by decide +kernel
theorem dX12_share_29 : decode cX12_share 29 = .ok (.aload_n 0, 1) := by decide +kernel
theorem dX12_share_30 : decode cX12_share 30 = .ok (.invokevirtual 129, 3) := by decide +kernel
theorem dX12_share_33 : decode cX12_share 33 = .ok (.if_icmp .gt 26, 3) := by decide +kernel
theorem dX12_share_36 : decode cX12_share 36 = .ok (.lload_n 2, 1) := by decide +kernel
theorem dX12_share_37 : decode cX12_share 37 = .ok (.aload_n 0, 1) := by decide +kernel
theorem dX12_share_38 : decode cX12_share 38 = .ok (.iload 6, 2) := by decide +kernel
theorem dX12_share_40 : decode cX12_share 40 = .ok (.invokevirtual 168, 3) := by decide +kernel
theorem dX12_share_43 : decode cX12_share 43 = .ok (.ifCond .eq 7, 3) := by decide +kernel
theorem dX12_share_46 : decode cX12_share 46 = .ok (.lconst 1, 1) := by decide +kernel
theorem dX12_share_47 : decode cX12_share 47 = .ok (.goto 4, 3) := by decide +kernel
theorem dX12_share_50 : decode cX12_share 50 = .ok (.lconst 0, 1) := by decide +kernel
theorem dX12_share_51 : decode cX12_share 51 = .ok (.ladd, 1) := by decide +kernel
theorem dX12_share_52 : decode cX12_share 52 = .ok (.lstore_n 2, 1) := by decide +kernel
theorem dX12_share_53 : decode cX12_share 53 = .ok (.iinc 6 1, 3) := by decide +kernel
theorem dX12_share_56 : decode cX12_share 56 = .ok (.goto (-29), 3) := by decide +kernel
theorem dX12_share_59 : decode cX12_share 59 = .ok (.iload_n 1, 1) := by decide +kernel
theorem dX12_share_60 : decode cX12_share 60 = .ok (.ifCond .ne 7, 3) := by decide +kernel
theorem dX12_share_63 : decode cX12_share 63 = .ok (.lload_n 2, 1) := by decide +kernel
theorem dX12_share_64 : decode cX12_share 64 = .ok (.goto 5, 3) := by decide +kernel
theorem dX12_share_67 : decode cX12_share 67 = .ok (.lload 4, 2) := by decide +kernel
theorem dX12_share_69 : decode cX12_share 69 = .ok (.lload_n 2, 1) := by decide +kernel
theorem dX12_share_70 : decode cX12_share 70 = .ok (.lload 4, 2) := by decide +kernel
theorem dX12_share_72 : decode cX12_share 72 = .ok (.invokestatic 186, 3) := by decide +kernel
theorem dX12_share_75 : decode cX12_share 75 = .ok (.ldiv, 1) := by decide +kernel
theorem dX12_share_76 : decode cX12_share 76 = .ok (.lreturn, 1) := by decide +kernel
theorem dX12_pairs_0 : decode cX12_pairs 0 = .ok (.iconst 0, 1) := by decide +kernel
theorem dX12_pairs_1 : decode cX12_pairs 1 = .ok (.istore_n 3, 1) := by decide +kernel
theorem dX12_pairs_2 : decode cX12_pairs 2 = .ok (.iload_n 3, 1) := by decide +kernel
theorem dX12_pairs_3 : decode cX12_pairs 3 = .ok (.aload_n 0, 1) := by decide +kernel
theorem dX12_pairs_4 : decode cX12_pairs 4 = .ok (.getfield 122, 3) := by decide +kernel
theorem dX12_pairs_7 : decode cX12_pairs 7 = .ok (.if_icmp .ge 79, 3) := by decide +kernel
theorem dX12_pairs_10 : decode cX12_pairs 10 = .ok (.aload_n 0, 1) := by decide +kernel
theorem dX12_pairs_11 : decode cX12_pairs 11 = .ok (.getfield 20, 3) := by decide +kernel
theorem dX12_pairs_14 : decode cX12_pairs 14 = .ok (.iload_n 1, 1) := by decide +kernel
theorem dX12_pairs_15 : decode cX12_pairs 15 = .ok (.iaload, 1) := by decide +kernel
theorem dX12_pairs_16 : decode cX12_pairs 16 = .ok (.iload_n 2, 1) := by decide +kernel
theorem dX12_pairs_17 : decode cX12_pairs 17 = .ok (.iand, 1) := by decide +kernel
theorem dX12_pairs_18 : decode cX12_pairs 18 = .ok (.aload_n 0, 1) := by decide +kernel
theorem dX12_pairs_19 : decode cX12_pairs 19 = .ok (.getfield 190, 3) := by decide +kernel
theorem dX12_pairs_22 : decode cX12_pairs 22 = .ok (.iconst (-1), 1) := by decide +kernel
theorem dX12_pairs_23 : decode cX12_pairs 23 = .ok (.ixor, 1) := by decide +kernel
theorem dX12_pairs_24 : decode cX12_pairs 24 = .ok (.iand, 1) := by decide +kernel
theorem dX12_pairs_25 : decode cX12_pairs 25 = .ok (.iload_n 3, 1) := by decide +kernel
theorem dX12_pairs_26 : decode cX12_pairs 26 = .ok (.invokestatic 118, 3) := by decide +kernel
theorem dX12_pairs_29 : decode cX12_pairs 29 = .ok (.ifCond .ne 6, 3) := by decide +kernel
theorem dX12_pairs_32 : decode cX12_pairs 32 = .ok (.goto 48, 3) := by decide +kernel
theorem dX12_pairs_35 : decode cX12_pairs 35 = .ok (.aload_n 0, 1) := by decide +kernel
theorem dX12_pairs_36 : decode cX12_pairs 36 = .ok (.dup, 1) := by decide +kernel
theorem dX12_pairs_37 : decode cX12_pairs 37 = .ok (.getfield 190, 3) := by decide +kernel
theorem dX12_pairs_40 : decode cX12_pairs 40 = .ok (.iconst 1, 1) := by decide +kernel
theorem dX12_pairs_41 : decode cX12_pairs 41 = .ok (.iload_n 3, 1) := by decide +kernel
theorem dX12_pairs_42 : decode cX12_pairs 42 = .ok (.ishl, 1) := by decide +kernel
theorem dX12_pairs_43 : decode cX12_pairs 43 = .ok (.ior, 1) := by decide +kernel
theorem dX12_pairs_44 : decode cX12_pairs 44 = .ok (.putfield 190, 3) := by decide +kernel
theorem dX12_pairs_47 : decode cX12_pairs 47 = .ok (.aload_n 0, 1) := by decide +kernel
theorem dX12_pairs_48 : decode cX12_pairs 48 = .ok (.getfield 23, 3) := by decide +kernel
theorem dX12_pairs_51 : decode cX12_pairs 51 = .ok (.iload_n 3, 1) := by decide +kernel
theorem dX12_pairs_52 : decode cX12_pairs 52 = .ok (.iaload, 1) := by decide +kernel
theorem dX12_pairs_53 : decode cX12_pairs 53 = .ok (.iconst (-1), 1) := by decide +kernel
theorem dX12_pairs_54 : decode cX12_pairs 54 = .ok (.if_icmp .eq 17, 3) := by decide +kernel
theorem dX12_pairs_57 : decode cX12_pairs 57 = .ok (.aload_n 0, 1) := by decide +kernel
theorem dX12_pairs_58 : decode cX12_pairs 58 = .ok (.aload_n 0, 1) := by decide +kernel
theorem dX12_pairs_59 : decode cX12_pairs 59 = .ok (.getfield 23, 3) := by decide +kernel
theorem dX12_pairs_62 : decode cX12_pairs 62 = .ok (.iload_n 3, 1) := by decide +kernel
theorem dX12_pairs_63 : decode cX12_pairs 63 = .ok (.iaload, 1) := by decide +kernel
theorem dX12_pairs_64 : decode cX12_pairs 64 = .ok (.iload_n 2, 1) := by decide +kernel
theorem dX12_pairs_65 : decode cX12_pairs 65 = .ok (.invokevirtual 193, 3) := by decide +kernel
theorem dX12_pairs_68 : decode cX12_pairs 68 = .ok (.ifCond .eq 12, 3) := by decide +kernel
theorem dX12_pairs_71 : decode cX12_pairs 71 = .ok (.aload_n 0, 1) := by decide +kernel
theorem dX12_pairs_72 : decode cX12_pairs 72 = .ok (.getfield 23, 3) := by decide +kernel
theorem dX12_pairs_75 : decode cX12_pairs 75 = .ok (.iload_n 3, 1) := by decide +kernel
theorem dX12_pairs_76 : decode cX12_pairs 76 = .ok (.iload_n 1, 1) := by decide +kernel
theorem dX12_pairs_77 : decode cX12_pairs 77 = .ok (.iastore, 1) := by decide +kernel
theorem dX12_pairs_78 : decode cX12_pairs 78 = .ok (.iconst 1, 1) := by decide +kernel
theorem dX12_pairs_79 : decode cX12_pairs 79 = .ok (.ireturn, 1) := by decide +kernel
theorem dX12_pairs_80 : decode cX12_pairs 80 = .ok (.iinc 3 1, 3) := by decide +kernel
theorem dX12_pairs_83 : decode cX12_pairs 83 = .ok (.goto (-81), 3) := by decide +kernel
theorem dX12_pairs_86 : decode cX12_pairs 86 = .ok (.iconst 0, 1) := by decide +kernel
theorem dX12_pairs_87 : decode cX12_pairs 87 = .ok (.ireturn, 1) := by decide +kernel
theorem dX12_leastHalves_0 : decode cX12_leastHalves 0 = .ok (.iconst 0, 1) := by decide +kernel
theorem dX12_leastHalves_1 : decode cX12_leastHalves 1 = .ok (.istore_n 2, 1) := by decide +kernel
theorem dX12_leastHalves_2 : decode cX12_leastHalves 2 = .ok (.iload_n 2, 1) := by decide +kernel
theorem dX12_leastHalves_3 : decode cX12_leastHalves 3 = .ok (.bipush 12, 2) := by decide +kernel
theorem dX12_leastHalves_5 : decode cX12_leastHalves 5 = .ok (.if_icmp .ge 16, 3) := by decide +kernel
theorem dX12_leastHalves_8 : decode cX12_leastHalves 8 = .ok (.aload_n 0, 1) := by decide +kernel
theorem dX12_leastHalves_9 : decode cX12_leastHalves 9 = .ok (.getfield 23, 3) := by decide +kernel
theorem dX12_leastHalves_12 : decode cX12_leastHalves 12 = .ok (.iload_n 2, 1) := by decide +kernel
theorem dX12_leastHalves_13 : decode cX12_leastHalves 13 = .ok (.iconst (-1), 1) := by decide +kernel
theorem dX12_leastHalves_14 : decode cX12_leastHalves 14 = .ok (.iastore, 1) := by decide +kernel
theorem dX12_leastHalves_15 : decode cX12_leastHalves 15 = .ok (.iinc 2 1, 3) := by decide +kernel
theorem dX12_leastHalves_18 : decode cX12_leastHalves 18 = .ok (.goto (-16), 3) := by decide +kernel
theorem dX12_leastHalves_21 : decode cX12_leastHalves 21 = .ok (.iconst 0, 1) := by decide +kernel
theorem dX12_leastHalves_22 : decode cX12_leastHalves 22 = .ok (.istore_n 2, 1) := by decide +kernel
theorem dX12_leastHalves_23 : decode cX12_leastHalves 23 = .ok (.iconst 0, 1) := by decide +kernel
theorem dX12_leastHalves_24 : decode cX12_leastHalves 24 = .ok (.istore_n 3, 1) := by decide +kernel
theorem dX12_leastHalves_25 : decode cX12_leastHalves 25 = .ok (.iload_n 3, 1) := by decide +kernel
theorem dX12_leastHalves_26 : decode cX12_leastHalves 26 = .ok (.aload_n 0, 1) := by decide +kernel
theorem dX12_leastHalves_27 : decode cX12_leastHalves 27 = .ok (.getfield 122, 3) := by decide +kernel
theorem dX12_leastHalves_30 : decode cX12_leastHalves 30 = .ok (.if_icmp .ge 39, 3) := by decide +kernel
theorem dX12_leastHalves_33 : decode cX12_leastHalves 33 = .ok (.aload_n 0, 1) := by decide +kernel
theorem dX12_leastHalves_34 : decode cX12_leastHalves 34 = .ok (.iconst 0, 1) := by decide +kernel
theorem dX12_leastHalves_35 : decode cX12_leastHalves 35 = .ok (.putfield 190, 3) := by decide +kernel
theorem dX12_leastHalves_38 : decode cX12_leastHalves 38 = .ok (.iload_n 2, 1) := by decide +kernel
theorem dX12_leastHalves_39 : decode cX12_leastHalves 39 = .ok (.iload_n 1, 1) := by decide +kernel
theorem dX12_leastHalves_40 : decode cX12_leastHalves 40 = .ok (.iload_n 3, 1) := by decide +kernel
theorem dX12_leastHalves_41 : decode cX12_leastHalves 41 = .ok (.invokestatic 118, 3) := by decide +kernel
theorem dX12_leastHalves_44 : decode cX12_leastHalves 44 = .ok (.ifCond .eq 16, 3) := by decide +kernel
theorem dX12_leastHalves_47 : decode cX12_leastHalves 47 = .ok (.aload_n 0, 1) := by decide +kernel
theorem dX12_leastHalves_48 : decode cX12_leastHalves 48 = .ok (.iload_n 3, 1) := by decide +kernel
theorem dX12_leastHalves_49 : decode cX12_leastHalves 49 = .ok (.iload_n 1, 1) := by decide +kernel
theorem dX12_leastHalves_50 : decode cX12_leastHalves 50 = .ok (.invokevirtual 193, 3) := by decide +kernel
theorem dX12_leastHalves_53 : decode cX12_leastHalves 53 = .ok (.ifCond .eq 7, 3) := by decide +kernel
theorem dX12_leastHalves_56 : decode cX12_leastHalves 56 = .ok (.iconst 1, 1) := by decide +kernel
theorem dX12_leastHalves_57 : decode cX12_leastHalves 57 = .ok (.goto 4, 3) := by decide +kernel
theorem dX12_leastHalves_60 : decode cX12_leastHalves 60 = .ok (.iconst 0, 1) := by decide +kernel
theorem dX12_leastHalves_61 : decode cX12_leastHalves 61 = .ok (.iadd, 1) := by decide +kernel
theorem dX12_leastHalves_62 : decode cX12_leastHalves 62 = .ok (.istore_n 2, 1) := by decide +kernel
theorem dX12_leastHalves_63 : decode cX12_leastHalves 63 = .ok (.iinc 3 1, 3) := by decide +kernel
theorem dX12_leastHalves_66 : decode cX12_leastHalves 66 = .ok (.goto (-41), 3) := by decide +kernel
theorem dX12_leastHalves_69 : decode cX12_leastHalves 69 = .ok (.iload_n 2, 1) := by decide +kernel
theorem dX12_leastHalves_70 : decode cX12_leastHalves 70 = .ok (.ireturn, 1) := by decide +kernel
theorem dX12_mayGet_0 : decode cX12_mayGet 0 = .ok (.iconst 1, 1) := by decide +kernel
theorem dX12_mayGet_1 : decode cX12_mayGet 1 = .ok (.istore 4, 2) := by decide +kernel
theorem dX12_mayGet_3 : decode cX12_mayGet 3 = .ok (.iconst 0, 1) := by decide +kernel
theorem dX12_mayGet_4 : decode cX12_mayGet 4 = .ok (.istore 5, 2) := by decide +kernel
theorem dX12_mayGet_6 : decode cX12_mayGet 6 = .ok (.iload 5, 2) := by decide +kernel
theorem dX12_mayGet_8 : decode cX12_mayGet 8 = .ok (.iload_n 1, 1) := by decide +kernel
theorem dX12_mayGet_9 : decode cX12_mayGet 9 = .ok (.if_icmp .ge 50, 3) := by decide +kernel
theorem dX12_mayGet_12 : decode cX12_mayGet 12 = .ok (.iload 4, 2) := by decide +kernel
theorem dX12_mayGet_14 : decode cX12_mayGet 14 = .ok (.ifCond .eq 36, 3) := by decide +kernel
theorem dX12_mayGet_17 : decode cX12_mayGet 17 = .ok (.aload_n 0, 1) := by decide +kernel
theorem dX12_mayGet_18 : decode cX12_mayGet 18 = .ok (.getfield 20, 3) := by decide +kernel
theorem dX12_mayGet_21 : decode cX12_mayGet 21 = .ok (.iload_n 1, 1) := by decide +kernel
theorem dX12_mayGet_22 : decode cX12_mayGet 22 = .ok (.iaload, 1) := by decide +kernel
theorem dX12_mayGet_23 : decode cX12_mayGet 23 = .ok (.iload_n 3, 1) := by decide +kernel
theorem dX12_mayGet_24 : decode cX12_mayGet 24 = .ok (.iand, 1) := by decide +kernel
theorem dX12_mayGet_25 : decode cX12_mayGet 25 = .ok (.iload 5, 2) := by decide +kernel
theorem dX12_mayGet_27 : decode cX12_mayGet 27 = .ok (.invokestatic 118, 3) := by decide +kernel
theorem dX12_mayGet_30 : decode cX12_mayGet 30 = .ok (.ifCond .eq 16, 3) := by decide +kernel
theorem dX12_mayGet_33 : decode cX12_mayGet 33 = .ok (.aload_n 0, 1) := by decide +kernel
theorem dX12_mayGet_34 : decode cX12_mayGet 34 = .ok (.getfield 26, 3) := by decide +kernel
theorem dX12_mayGet_37 : decode cX12_mayGet 37 = .ok (.iload 5, 2) := by decide +kernel
theorem dX12_mayGet_39 : decode cX12_mayGet 39 = .ok (.iaload, 1) := by decide +kernel
theorem dX12_mayGet_40 : decode cX12_mayGet 40 = .ok (.iload_n 2, 1) := by decide +kernel
theorem dX12_mayGet_41 : decode cX12_mayGet 41 = .ok (.iadd, 1) := by decide +kernel
theorem dX12_mayGet_42 : decode cX12_mayGet 42 = .ok (.iconst 2, 1) := by decide +kernel
theorem dX12_mayGet_43 : decode cX12_mayGet 43 = .ok (.if_icmp .lt 7, 3) := by decide +kernel
theorem dX12_mayGet_46 : decode cX12_mayGet 46 = .ok (.iconst 1, 1) := by decide +kernel
theorem dX12_mayGet_47 : decode cX12_mayGet 47 = .ok (.goto 4, 3) := by decide +kernel
theorem dX12_mayGet_50 : decode cX12_mayGet 50 = .ok (.iconst 0, 1) := by decide +kernel
theorem dX12_mayGet_51 : decode cX12_mayGet 51 = .ok (.istore 4, 2) := by decide +kernel
theorem dX12_mayGet_53 : decode cX12_mayGet 53 = .ok (.iinc 5 1, 3) := by decide +kernel
theorem dX12_mayGet_56 : decode cX12_mayGet 56 = .ok (.goto (-50), 3) := by decide +kernel
theorem dX12_mayGet_59 : decode cX12_mayGet 59 = .ok (.iload 4, 2) := by decide +kernel
theorem dX12_mayGet_61 : decode cX12_mayGet 61 = .ok (.ireturn, 1) := by decide +kernel
theorem dX12_gives_0 : decode cX12_gives 0 = .ok (.iload_n 1, 1) := by decide +kernel
theorem dX12_gives_1 : decode cX12_gives 1 = .ok (.aload_n 0, 1) := by decide +kernel
theorem dX12_gives_2 : decode cX12_gives 2 = .ok (.getfield 122, 3) := by decide +kernel
theorem dX12_gives_5 : decode cX12_gives 5 = .ok (.if_icmp .ne 5, 3) := by decide +kernel
theorem dX12_gives_8 : decode cX12_gives 8 = .ok (.iconst 1, 1) := by decide +kernel
theorem dX12_gives_9 : decode cX12_gives 9 = .ok (.ireturn, 1) := by decide +kernel
theorem dX12_gives_10 : decode cX12_gives 10 = .ok (.iload_n 3, 1) := by decide +kernel
theorem dX12_gives_11 : decode cX12_gives 11 = .ok (.iconst 2, 1) := by decide +kernel
theorem dX12_gives_12 : decode cX12_gives 12 = .ok (.iload_n 1, 1) := by decide +kernel
theorem dX12_gives_13 : decode cX12_gives 13 = .ok (.ishl, 1) := by decide +kernel
theorem dX12_gives_14 : decode cX12_gives 14 = .ok (.iconst 1, 1) := by decide +kernel
theorem dX12_gives_15 : decode cX12_gives 15 = .ok (.isub, 1) := by decide +kernel
theorem dX12_gives_16 : decode cX12_gives 16 = .ok (.iconst (-1), 1) := by decide +kernel
theorem dX12_gives_17 : decode cX12_gives 17 = .ok (.ixor, 1) := by decide +kernel
theorem dX12_gives_18 : decode cX12_gives 18 = .ok (.iand, 1) := by decide +kernel
theorem dX12_gives_19 : decode cX12_gives 19 = .ok (.istore 6, 2) := by decide +kernel
theorem dX12_gives_21 : decode cX12_gives 21 = .ok (.iload_n 3, 1) := by decide +kernel
theorem dX12_gives_22 : decode cX12_gives 22 = .ok (.iload_n 1, 1) := by decide +kernel
theorem dX12_gives_23 : decode cX12_gives 23 = .ok (.invokestatic 118, 3) := by decide +kernel
theorem dX12_gives_26 : decode cX12_gives 26 = .ok (.ifCond .ne 24, 3) := by decide +kernel
theorem dX12_gives_29 : decode cX12_gives 29 = .ok (.aload_n 0, 1) := by decide +kernel
theorem dX12_gives_30 : decode cX12_gives 30 = .ok (.getfield 26, 3) := by decide +kernel
theorem dX12_gives_33 : decode cX12_gives 33 = .ok (.iload_n 1, 1) := by decide +kernel
theorem dX12_gives_34 : decode cX12_gives 34 = .ok (.iconst (-1), 1) := by decide +kernel
theorem dX12_gives_35 : decode cX12_gives 35 = .ok (.iastore, 1) := by decide +kernel
theorem dX12_gives_36 : decode cX12_gives 36 = .ok (.aload_n 0, 1) := by decide +kernel
theorem dX12_gives_37 : decode cX12_gives 37 = .ok (.iload_n 1, 1) := by decide +kernel
theorem dX12_gives_38 : decode cX12_gives 38 = .ok (.iconst 1, 1) := by decide +kernel
theorem dX12_gives_39 : decode cX12_gives 39 = .ok (.iadd, 1) := by decide +kernel
theorem dX12_gives_40 : decode cX12_gives 40 = .ok (.iload_n 2, 1) := by decide +kernel
theorem dX12_gives_41 : decode cX12_gives 41 = .ok (.iload_n 3, 1) := by decide +kernel
theorem dX12_gives_42 : decode cX12_gives 42 = .ok (.iload 4, 2) := by decide +kernel
theorem dX12_gives_44 : decode cX12_gives 44 = .ok (.iload 5, 2) := by decide +kernel
theorem dX12_gives_46 : decode cX12_gives 46 = .ok (.invokevirtual 196, 3) := by decide +kernel
theorem dX12_gives_49 : decode cX12_gives 49 = .ok (.ireturn, 1) := by decide +kernel
theorem dX12_gives_50 : decode cX12_gives 50 = .ok (.iconst 0, 1) := by decide +kernel
theorem dX12_gives_51 : decode cX12_gives 51 = .ok (.istore 7, 2) := by decide +kernel
theorem dX12_gives_53 : decode cX12_gives 53 = .ok (.iload 7, 2) := by decide +kernel
theorem dX12_gives_55 : decode cX12_gives 55 = .ok (.iconst 3, 1) := by decide +kernel
theorem dX12_gives_56 : decode cX12_gives 56 = .ok (.if_icmp .ge 99, 3) := by decide +kernel
theorem dX12_gives_59 : decode cX12_gives 59 = .ok (.iload 7, 2) := by decide +kernel
theorem dX12_gives_61 : decode cX12_gives 61 = .ok (.ifCond .ne 7, 3) := by decide +kernel
theorem dX12_gives_64 : decode cX12_gives 64 = .ok (.iconst 0, 1) := by decide +kernel
theorem dX12_gives_65 : decode cX12_gives 65 = .ok (.goto 7, 3) := by decide +kernel
theorem dX12_gives_68 : decode cX12_gives 68 = .ok (.iconst 3, 1) := by decide +kernel
theorem dX12_gives_69 : decode cX12_gives 69 = .ok (.iload 7, 2) := by decide +kernel
theorem dX12_gives_71 : decode cX12_gives 71 = .ok (.isub, 1) := by decide +kernel
theorem dX12_gives_72 : decode cX12_gives 72 = .ok (.istore 8, 2) := by decide +kernel
theorem dX12_gives_74 : decode cX12_gives 74 = .ok (.iload_n 1, 1) := by decide +kernel
theorem dX12_gives_75 : decode cX12_gives 75 = .ok (.iload 4, 2) := by decide +kernel
theorem dX12_gives_77 : decode cX12_gives 77 = .ok (.if_icmp .ne 10, 3) := by decide +kernel
theorem dX12_gives_80 : decode cX12_gives 80 = .ok (.iload 8, 2) := by decide +kernel
theorem dX12_gives_82 : decode cX12_gives 82 = .ok (.iload 5, 2) := by decide +kernel
theorem dX12_gives_84 : decode cX12_gives 84 = .ok (.if_icmp .ne 65, 3) := by decide +kernel
theorem dX12_gives_87 : decode cX12_gives 87 = .ok (.iload 8, 2) := by decide +kernel
theorem dX12_gives_89 : decode cX12_gives 89 = .ok (.iload_n 2, 1) := by decide +kernel
theorem dX12_gives_90 : decode cX12_gives 90 = .ok (.if_icmp .gt 59, 3) := by decide +kernel
theorem dX12_gives_93 : decode cX12_gives 93 = .ok (.aload_n 0, 1) := by decide +kernel
theorem dX12_gives_94 : decode cX12_gives 94 = .ok (.iload_n 1, 1) := by decide +kernel
theorem dX12_gives_95 : decode cX12_gives 95 = .ok (.iload 8, 2) := by decide +kernel
theorem dX12_gives_97 : decode cX12_gives 97 = .ok (.iload_n 3, 1) := by decide +kernel
theorem dX12_gives_98 : decode cX12_gives 98 = .ok (.invokevirtual 200, 3) := by decide +kernel
theorem dX12_gives_101 : decode cX12_gives 101 = .ok (.ifCond .eq 48, 3) := by decide +kernel
theorem dX12_gives_104 : decode cX12_gives 104 = .ok (.aload_n 0, 1) := by decide +kernel
theorem dX12_gives_105 : decode cX12_gives 105 = .ok (.iload 6, 2) := by decide +kernel
theorem dX12_gives_107 : decode cX12_gives 107 = .ok (.invokevirtual 203, 3) := by decide +kernel
theorem dX12_gives_110 : decode cX12_gives 110 = .ok (.iload_n 2, 1) := by decide +kernel
theorem dX12_gives_111 : decode cX12_gives 111 = .ok (.iload 8, 2) := by decide +kernel
theorem dX12_gives_113 : decode cX12_gives 113 = .ok (.isub, 1) := by decide +kernel
theorem dX12_gives_114 : decode cX12_gives 114 = .ok (.if_icmp .le 6, 3) := by decide +kernel
theorem dX12_gives_117 : decode cX12_gives 117 = .ok (.goto 32, 3) := by decide +kernel
theorem dX12_gives_120 : decode cX12_gives 120 = .ok (.aload_n 0, 1) := by decide +kernel
theorem dX12_gives_121 : decode cX12_gives 121 = .ok (.getfield 26, 3) := by decide +kernel
theorem dX12_gives_124 : decode cX12_gives 124 = .ok (.iload_n 1, 1) := by decide +kernel
theorem dX12_gives_125 : decode cX12_gives 125 = .ok (.iload 8, 2) := by decide +kernel
theorem dX12_gives_127 : decode cX12_gives 127 = .ok (.iastore, 1) := by decide +kernel
theorem dX12_gives_128 : decode cX12_gives 128 = .ok (.aload_n 0, 1) := by decide +kernel
theorem dX12_gives_129 : decode cX12_gives 129 = .ok (.iload_n 1, 1) := by decide +kernel
theorem dX12_gives_130 : decode cX12_gives 130 = .ok (.iconst 1, 1) := by decide +kernel
theorem dX12_gives_131 : decode cX12_gives 131 = .ok (.iadd, 1) := by decide +kernel
theorem dX12_gives_132 : decode cX12_gives 132 = .ok (.iload_n 2, 1) := by decide +kernel
theorem dX12_gives_133 : decode cX12_gives 133 = .ok (.iload 8, 2) := by decide +kernel
theorem dX12_gives_135 : decode cX12_gives 135 = .ok (.isub, 1) := by decide +kernel
theorem dX12_gives_136 : decode cX12_gives 136 = .ok (.iload_n 3, 1) := by decide +kernel
theorem dX12_gives_137 : decode cX12_gives 137 = .ok (.iload 4, 2) := by decide +kernel
theorem dX12_gives_139 : decode cX12_gives 139 = .ok (.iload 5, 2) := by decide +kernel
theorem dX12_gives_141 : decode cX12_gives 141 = .ok (.invokevirtual 196, 3) := by decide +kernel
theorem dX12_gives_144 : decode cX12_gives 144 = .ok (.ifCond .eq 5, 3) := by decide +kernel
theorem dX12_gives_147 : decode cX12_gives 147 = .ok (.iconst 1, 1) := by decide +kernel
theorem dX12_gives_148 : decode cX12_gives 148 = .ok (.ireturn, 1) := by decide +kernel
theorem dX12_gives_149 : decode cX12_gives 149 = .ok (.iinc 7 1, 3) := by decide +kernel
theorem dX12_gives_152 : decode cX12_gives 152 = .ok (.goto (-99), 3) := by decide +kernel
theorem dX12_gives_155 : decode cX12_gives 155 = .ok (.iconst 0, 1) := by decide +kernel
theorem dX12_gives_156 : decode cX12_gives 156 = .ok (.ireturn, 1) := by decide +kernel
theorem dX12_laysHalves_0 : decode cX12_laysHalves 0 = .ok (.aload_n 0, 1) := by decide +kernel
theorem dX12_laysHalves_1 : decode cX12_laysHalves 1 = .ok (.iload_n 1, 1) := by decide +kernel
theorem dX12_laysHalves_2 : decode cX12_laysHalves 2 = .ok (.invokevirtual 203, 3) := by decide +kernel
theorem dX12_laysHalves_5 : decode cX12_laysHalves 5 = .ok (.istore_n 2, 1) := by decide +kernel
theorem dX12_laysHalves_6 : decode cX12_laysHalves 6 = .ok (.aload_n 0, 1) := by decide +kernel
theorem dX12_laysHalves_7 : decode cX12_laysHalves 7 = .ok (.iconst 0, 1) := by decide +kernel
theorem dX12_laysHalves_8 : decode cX12_laysHalves 8 = .ok (.iload_n 2, 1) := by decide +kernel
theorem dX12_laysHalves_9 : decode cX12_laysHalves 9 = .ok (.iload_n 1, 1) := by decide +kernel
theorem dX12_laysHalves_10 : decode cX12_laysHalves 10 = .ok (.iconst (-1), 1) := by decide +kernel
theorem dX12_laysHalves_11 : decode cX12_laysHalves 11 = .ok (.iconst 0, 1) := by decide +kernel
theorem dX12_laysHalves_12 : decode cX12_laysHalves 12 = .ok (.invokevirtual 196, 3) := by decide +kernel
theorem dX12_laysHalves_15 : decode cX12_laysHalves 15 = .ok (.istore_n 3, 1) := by decide +kernel
theorem dX12_laysHalves_16 : decode cX12_laysHalves 16 = .ok (.iload_n 2, 1) := by decide +kernel
theorem dX12_laysHalves_17 : decode cX12_laysHalves 17 = .ok (.ireturn, 1) := by decide +kernel
theorem dX12_halvesWith_0 : decode cX12_halvesWith 0 = .ok (.iconst 0, 1) := by decide +kernel
theorem dX12_halvesWith_1 : decode cX12_halvesWith 1 = .ok (.istore_n 3, 1) := by decide +kernel
theorem dX12_halvesWith_2 : decode cX12_halvesWith 2 = .ok (.iconst 0, 1) := by decide +kernel
theorem dX12_halvesWith_3 : decode cX12_halvesWith 3 = .ok (.istore 4, 2) := by decide +kernel
theorem dX12_halvesWith_5 : decode cX12_halvesWith 5 = .ok (.iload 4, 2) := by decide +kernel
theorem dX12_halvesWith_7 : decode cX12_halvesWith 7 = .ok (.aload_n 0, 1) := by decide +kernel
theorem dX12_halvesWith_8 : decode cX12_halvesWith 8 = .ok (.getfield 122, 3) := by decide +kernel
theorem dX12_halvesWith_11 : decode cX12_halvesWith 11 = .ok (.if_icmp .ge 40, 3) := by decide +kernel
theorem dX12_halvesWith_14 : decode cX12_halvesWith 14 = .ok (.iload_n 3, 1) := by decide +kernel
theorem dX12_halvesWith_15 : decode cX12_halvesWith 15 = .ok (.iload_n 2, 1) := by decide +kernel
theorem dX12_halvesWith_16 : decode cX12_halvesWith 16 = .ok (.iload 4, 2) := by decide +kernel
theorem dX12_halvesWith_18 : decode cX12_halvesWith 18 = .ok (.invokestatic 118, 3) := by decide +kernel
theorem dX12_halvesWith_21 : decode cX12_halvesWith 21 = .ok (.ifCond .eq 21, 3) := by decide +kernel
theorem dX12_halvesWith_24 : decode cX12_halvesWith 24 = .ok (.aload_n 0, 1) := by decide +kernel
theorem dX12_halvesWith_25 : decode cX12_halvesWith 25 = .ok (.getfield 26, 3) := by decide +kernel
theorem dX12_halvesWith_28 : decode cX12_halvesWith 28 = .ok (.iload 4, 2) := by decide +kernel
theorem dX12_halvesWith_30 : decode cX12_halvesWith 30 = .ok (.iaload, 1) := by decide +kernel
theorem dX12_halvesWith_31 : decode cX12_halvesWith 31 = .ok (.iload_n 1, 1) := by decide +kernel
theorem dX12_halvesWith_32 : decode cX12_halvesWith 32 = .ok (.if_icmp .ne 10, 3) := by decide +kernel
theorem dX12_halvesWith_35 : decode cX12_halvesWith 35 = .ok (.iconst 1, 1) := by decide +kernel
theorem dX12_halvesWith_36 : decode cX12_halvesWith 36 = .ok (.iload 4, 2) := by decide +kernel
theorem dX12_halvesWith_38 : decode cX12_halvesWith 38 = .ok (.ishl, 1) := by decide +kernel
theorem dX12_halvesWith_39 : decode cX12_halvesWith 39 = .ok (.goto 4, 3) := by decide +kernel
theorem dX12_halvesWith_42 : decode cX12_halvesWith 42 = .ok (.iconst 0, 1) := by decide +kernel
theorem dX12_halvesWith_43 : decode cX12_halvesWith 43 = .ok (.ior, 1) := by decide +kernel
theorem dX12_halvesWith_44 : decode cX12_halvesWith 44 = .ok (.istore_n 3, 1) := by decide +kernel
theorem dX12_halvesWith_45 : decode cX12_halvesWith 45 = .ok (.iinc 4 1, 3) := by decide +kernel
theorem dX12_halvesWith_48 : decode cX12_halvesWith 48 = .ok (.goto (-43), 3) := by decide +kernel
theorem dX12_halvesWith_51 : decode cX12_halvesWith 51 = .ok (.iload_n 3, 1) := by decide +kernel
theorem dX12_halvesWith_52 : decode cX12_halvesWith 52 = .ok (.ireturn, 1) := by decide +kernel
theorem dX12_halves_0 : decode cX12_halves 0 = .ok (.iload_n 1, 1) := by decide +kernel
theorem dX12_halves_1 : decode cX12_halves 1 = .ok (.iconst 0, 1) := by decide +kernel
theorem dX12_halves_2 : decode cX12_halves 2 = .ok (.iconst 3, 1) := by decide +kernel
theorem dX12_halves_3 : decode cX12_halves 3 = .ok (.invokestatic 125, 3) := by decide +kernel
theorem dX12_halves_6 : decode cX12_halves 6 = .ok (.ifCond .ne 6, 3) := by decide +kernel
theorem dX12_halves_9 : decode cX12_halves 9 = .ok (.bipush (-2), 2) := by decide +kernel
theorem dX12_halves_11 : decode cX12_halves 11 = .ok (.ireturn, 1) := by decide +kernel
theorem dX12_halves_12 : decode cX12_halves 12 = .ok (.aload_n 0, 1) := by decide +kernel
theorem dX12_halves_13 : decode cX12_halves 13 = .ok (.aload_n 0, 1) := by decide +kernel
theorem dX12_halves_14 : decode cX12_halves 14 = .ok (.invokevirtual 129, 3) := by decide +kernel
theorem dX12_halves_17 : decode cX12_halves 17 = .ok (.invokevirtual 206, 3) := by decide +kernel
theorem dX12_halves_20 : decode cX12_halves 20 = .ok (.istore_n 2, 1) := by decide +kernel
theorem dX12_halves_21 : decode cX12_halves 21 = .ok (.iload_n 1, 1) := by decide +kernel
theorem dX12_halves_22 : decode cX12_halves 22 = .ok (.ifCond .ne 7, 3) := by decide +kernel
theorem dX12_halves_25 : decode cX12_halves 25 = .ok (.iload_n 2, 1) := by decide +kernel
theorem dX12_halves_26 : decode cX12_halves 26 = .ok (.goto 14, 3) := by decide +kernel
theorem dX12_halves_29 : decode cX12_halves 29 = .ok (.aload_n 0, 1) := by decide +kernel
theorem dX12_halves_30 : decode cX12_halves 30 = .ok (.iload_n 1, 1) := by decide +kernel
theorem dX12_halves_31 : decode cX12_halves 31 = .ok (.iconst 1, 1) := by decide +kernel
theorem dX12_halves_32 : decode cX12_halves 32 = .ok (.isub, 1) := by decide +kernel
theorem dX12_halves_33 : decode cX12_halves 33 = .ok (.aload_n 0, 1) := by decide +kernel
theorem dX12_halves_34 : decode cX12_halves 34 = .ok (.invokevirtual 129, 3) := by decide +kernel
theorem dX12_halves_37 : decode cX12_halves 37 = .ok (.invokevirtual 209, 3) := by decide +kernel
theorem dX12_halves_40 : decode cX12_halves 40 = .ok (.ireturn, 1) := by decide +kernel
theorem dX12_half_0 : decode cX12_half 0 = .ok (.aload_n 0, 1) := by decide +kernel
theorem dX12_half_1 : decode cX12_half 1 = .ok (.iload_n 1, 1) := by decide +kernel
theorem dX12_half_2 : decode cX12_half 2 = .ok (.invokevirtual 145, 3) := by decide +kernel
theorem dX12_half_5 : decode cX12_half 5 = .ok (.ifCond .ne 6, 3) := by decide +kernel
theorem dX12_half_8 : decode cX12_half 8 = .ok (.bipush (-2), 2) := by decide +kernel
theorem dX12_half_10 : decode cX12_half 10 = .ok (.ireturn, 1) := by decide +kernel
theorem dX12_half_11 : decode cX12_half 11 = .ok (.aload_n 0, 1) := by decide +kernel
theorem dX12_half_12 : decode cX12_half 12 = .ok (.aload_n 0, 1) := by decide +kernel
theorem dX12_half_13 : decode cX12_half 13 = .ok (.invokevirtual 129, 3) := by decide +kernel
theorem dX12_half_16 : decode cX12_half 16 = .ok (.invokevirtual 206, 3) := by decide +kernel
theorem dX12_half_19 : decode cX12_half 19 = .ok (.istore_n 2, 1) := by decide +kernel
theorem dX12_half_20 : decode cX12_half 20 = .ok (.aload_n 0, 1) := by decide +kernel
theorem dX12_half_21 : decode cX12_half 21 = .ok (.getfield 26, 3) := by decide +kernel
theorem dX12_half_24 : decode cX12_half 24 = .ok (.iload_n 1, 1) := by decide +kernel
theorem dX12_half_25 : decode cX12_half 25 = .ok (.iaload, 1) := by decide +kernel
theorem dX12_half_26 : decode cX12_half 26 = .ok (.ireturn, 1) := by decide +kernel
theorem dX12_mayHave_0 : decode cX12_mayHave 0 = .ok (.aload_n 0, 1) := by decide +kernel
theorem dX12_mayHave_1 : decode cX12_mayHave 1 = .ok (.iload_n 1, 1) := by decide +kernel
theorem dX12_mayHave_2 : decode cX12_mayHave 2 = .ok (.invokevirtual 145, 3) := by decide +kernel
theorem dX12_mayHave_5 : decode cX12_mayHave 5 = .ok (.ifCond .ne 6, 3) := by decide +kernel
theorem dX12_mayHave_8 : decode cX12_mayHave 8 = .ok (.bipush (-2), 2) := by decide +kernel
theorem dX12_mayHave_10 : decode cX12_mayHave 10 = .ok (.ireturn, 1) := by decide +kernel
theorem dX12_mayHave_11 : decode cX12_mayHave 11 = .ok (.aload_n 0, 1) := by decide +kernel
theorem dX12_mayHave_12 : decode cX12_mayHave 12 = .ok (.aload_n 0, 1) := by decide +kernel
theorem dX12_mayHave_13 : decode cX12_mayHave 13 = .ok (.invokevirtual 129, 3) := by decide +kernel
theorem dX12_mayHave_16 : decode cX12_mayHave 16 = .ok (.invokevirtual 203, 3) := by decide +kernel
theorem dX12_mayHave_19 : decode cX12_mayHave 19 = .ok (.istore_n 2, 1) := by decide +kernel
theorem dX12_mayHave_20 : decode cX12_mayHave 20 = .ok (.iconst 0, 1) := by decide +kernel
theorem dX12_mayHave_21 : decode cX12_mayHave 21 = .ok (.istore_n 3, 1) := by decide +kernel
theorem dX12_mayHave_22 : decode cX12_mayHave 22 = .ok (.iconst 0, 1) := by decide +kernel
theorem dX12_mayHave_23 : decode cX12_mayHave 23 = .ok (.istore 4, 2) := by decide +kernel
theorem dX12_mayHave_25 : decode cX12_mayHave 25 = .ok (.iload 4, 2) := by decide +kernel
theorem dX12_mayHave_27 : decode cX12_mayHave 27 = .ok (.iconst 3, 1) := by decide +kernel
theorem dX12_mayHave_28 : decode cX12_mayHave 28 = .ok (.if_icmp .ge 36, 3) := by decide +kernel
theorem dX12_mayHave_31 : decode cX12_mayHave 31 = .ok (.iload_n 3, 1) := by decide +kernel
theorem dX12_mayHave_32 : decode cX12_mayHave 32 = .ok (.aload_n 0, 1) := by decide +kernel
theorem dX12_mayHave_33 : decode cX12_mayHave 33 = .ok (.iconst 0, 1) := by decide +kernel
theorem dX12_mayHave_34 : decode cX12_mayHave 34 = .ok (.iload_n 2, 1) := by decide +kernel
theorem dX12_mayHave_35 : decode cX12_mayHave 35 = .ok (.aload_n 0, 1) := by decide +kernel
theorem dX12_mayHave_36 : decode cX12_mayHave 36 = .ok (.invokevirtual 129, 3) := by decide +kernel
theorem dX12_mayHave_39 : decode cX12_mayHave 39 = .ok (.iload_n 1, 1) := by decide +kernel
theorem dX12_mayHave_40 : decode cX12_mayHave 40 = .ok (.iload 4, 2) := by decide +kernel
theorem dX12_mayHave_42 : decode cX12_mayHave 42 = .ok (.invokevirtual 196, 3) := by decide +kernel
theorem dX12_mayHave_45 : decode cX12_mayHave 45 = .ok (.ifCond .eq 10, 3) := by decide +kernel
theorem dX12_mayHave_48 : decode cX12_mayHave 48 = .ok (.iconst 1, 1) := by decide +kernel
theorem dX12_mayHave_49 : decode cX12_mayHave 49 = .ok (.iload 4, 2) := by decide +kernel
theorem dX12_mayHave_51 : decode cX12_mayHave 51 = .ok (.ishl, 1) := by decide +kernel
theorem dX12_mayHave_52 : decode cX12_mayHave 52 = .ok (.goto 4, 3) := by decide +kernel
theorem dX12_mayHave_55 : decode cX12_mayHave 55 = .ok (.iconst 0, 1) := by decide +kernel
theorem dX12_mayHave_56 : decode cX12_mayHave 56 = .ok (.ior, 1) := by decide +kernel
theorem dX12_mayHave_57 : decode cX12_mayHave 57 = .ok (.istore_n 3, 1) := by decide +kernel
theorem dX12_mayHave_58 : decode cX12_mayHave 58 = .ok (.iinc 4 1, 3) := by decide +kernel
theorem dX12_mayHave_61 : decode cX12_mayHave 61 = .ok (.goto (-36), 3) := by decide +kernel
theorem dX12_mayHave_64 : decode cX12_mayHave 64 = .ok (.iload_n 3, 1) := by decide +kernel
theorem dX12_mayHave_65 : decode cX12_mayHave 65 = .ok (.ireturn, 1) := by decide +kernel
theorem dX12_pairsAll_0 : decode cX12_pairsAll 0 = .ok (.iload_n 1, 1) := by decide +kernel
theorem dX12_pairsAll_1 : decode cX12_pairsAll 1 = .ok (.ifCond .ne 5, 3) := by decide +kernel
theorem dX12_pairsAll_4 : decode cX12_pairsAll 4 = .ok (.iconst 1, 1) := by decide +kernel
theorem dX12_pairsAll_5 : decode cX12_pairsAll 5 = .ok (.ireturn, 1) := by decide +kernel
theorem dX12_pairsAll_6 : decode cX12_pairsAll 6 = .ok (.iload_n 1, 1) := by decide +kernel
theorem dX12_pairsAll_7 : decode cX12_pairsAll 7 = .ok (.invokestatic 213, 3) := by decide +kernel
theorem dX12_pairsAll_10 : decode cX12_pairsAll 10 = .ok (.istore_n 3, 1) := by decide +kernel
theorem dX12_pairsAll_11 : decode cX12_pairsAll 11 = .ok (.iconst 0, 1) := by decide +kernel
theorem dX12_pairsAll_12 : decode cX12_pairsAll 12 = .ok (.istore 4, 2) := by decide +kernel
theorem dX12_pairsAll_14 : decode cX12_pairsAll 14 = .ok (.iload 4, 2) := by decide +kernel
theorem dX12_pairsAll_16 : decode cX12_pairsAll 16 = .ok (.aload_n 0, 1) := by decide +kernel
theorem dX12_pairsAll_17 : decode cX12_pairsAll 17 = .ok (.getfield 122, 3) := by decide +kernel
theorem dX12_pairsAll_20 : decode cX12_pairsAll 20 = .ok (.if_icmp .ge 74, 3) := by decide +kernel
theorem dX12_pairsAll_23 : decode cX12_pairsAll 23 = .ok (.iload_n 2, 1) := by decide +kernel
theorem dX12_pairsAll_24 : decode cX12_pairsAll 24 = .ok (.aload_n 0, 1) := by decide +kernel
theorem dX12_pairsAll_25 : decode cX12_pairsAll 25 = .ok (.getfield 20, 3) := by decide +kernel
theorem dX12_pairsAll_28 : decode cX12_pairsAll 28 = .ok (.iload_n 3, 1) := by decide +kernel
theorem dX12_pairsAll_29 : decode cX12_pairsAll 29 = .ok (.iaload, 1) := by decide +kernel
theorem dX12_pairsAll_30 : decode cX12_pairsAll 30 = .ok (.iand, 1) := by decide +kernel
theorem dX12_pairsAll_31 : decode cX12_pairsAll 31 = .ok (.iload 4, 2) := by decide +kernel
theorem dX12_pairsAll_33 : decode cX12_pairsAll 33 = .ok (.invokestatic 118, 3) := by decide +kernel
theorem dX12_pairsAll_36 : decode cX12_pairsAll 36 = .ok (.ifCond .ne 6, 3) := by decide +kernel
theorem dX12_pairsAll_39 : decode cX12_pairsAll 39 = .ok (.goto 49, 3) := by decide +kernel
theorem dX12_pairsAll_42 : decode cX12_pairsAll 42 = .ok (.aload_n 0, 1) := by decide +kernel
theorem dX12_pairsAll_43 : decode cX12_pairsAll 43 = .ok (.getfield 29, 3) := by decide +kernel
theorem dX12_pairsAll_46 : decode cX12_pairsAll 46 = .ok (.iload_n 3, 1) := by decide +kernel
theorem dX12_pairsAll_47 : decode cX12_pairsAll 47 = .ok (.iload 4, 2) := by decide +kernel
theorem dX12_pairsAll_49 : decode cX12_pairsAll 49 = .ok (.iastore, 1) := by decide +kernel
theorem dX12_pairsAll_50 : decode cX12_pairsAll 50 = .ok (.aload_n 0, 1) := by decide +kernel
theorem dX12_pairsAll_51 : decode cX12_pairsAll 51 = .ok (.getfield 29, 3) := by decide +kernel
theorem dX12_pairsAll_54 : decode cX12_pairsAll 54 = .ok (.iload 4, 2) := by decide +kernel
theorem dX12_pairsAll_56 : decode cX12_pairsAll 56 = .ok (.iload_n 3, 1) := by decide +kernel
theorem dX12_pairsAll_57 : decode cX12_pairsAll 57 = .ok (.iastore, 1) := by decide +kernel
theorem dX12_pairsAll_58 : decode cX12_pairsAll 58 = .ok (.aload_n 0, 1) := by decide +kernel
theorem dX12_pairsAll_59 : decode cX12_pairsAll 59 = .ok (.iload_n 1, 1) := by decide +kernel
theorem dX12_pairsAll_60 : decode cX12_pairsAll 60 = .ok (.iload_n 1, 1) := by decide +kernel
theorem dX12_pairsAll_61 : decode cX12_pairsAll 61 = .ok (.iconst 1, 1) := by decide +kernel
theorem dX12_pairsAll_62 : decode cX12_pairsAll 62 = .ok (.isub, 1) := by decide +kernel
theorem dX12_pairsAll_63 : decode cX12_pairsAll 63 = .ok (.iand, 1) := by decide +kernel
theorem dX12_pairsAll_64 : decode cX12_pairsAll 64 = .ok (.iload_n 2, 1) := by decide +kernel
theorem dX12_pairsAll_65 : decode cX12_pairsAll 65 = .ok (.iconst 1, 1) := by decide +kernel
theorem dX12_pairsAll_66 : decode cX12_pairsAll 66 = .ok (.iload 4, 2) := by decide +kernel
theorem dX12_pairsAll_68 : decode cX12_pairsAll 68 = .ok (.ishl, 1) := by decide +kernel
theorem dX12_pairsAll_69 : decode cX12_pairsAll 69 = .ok (.iconst (-1), 1) := by decide +kernel
theorem dX12_pairsAll_70 : decode cX12_pairsAll 70 = .ok (.ixor, 1) := by decide +kernel
theorem dX12_pairsAll_71 : decode cX12_pairsAll 71 = .ok (.iand, 1) := by decide +kernel
theorem dX12_pairsAll_72 : decode cX12_pairsAll 72 = .ok (.invokevirtual 216, 3) := by decide +kernel
theorem dX12_pairsAll_75 : decode cX12_pairsAll 75 = .ok (.ifCond .eq 5, 3) := by decide +kernel
theorem dX12_pairsAll_78 : decode cX12_pairsAll 78 = .ok (.iconst 1, 1) := by decide +kernel
theorem dX12_pairsAll_79 : decode cX12_pairsAll 79 = .ok (.ireturn, 1) := by decide +kernel
theorem dX12_pairsAll_80 : decode cX12_pairsAll 80 = .ok (.aload_n 0, 1) := by decide +kernel
theorem dX12_pairsAll_81 : decode cX12_pairsAll 81 = .ok (.getfield 29, 3) := by decide +kernel
theorem dX12_pairsAll_84 : decode cX12_pairsAll 84 = .ok (.iload 4, 2) := by decide +kernel
theorem dX12_pairsAll_86 : decode cX12_pairsAll 86 = .ok (.iconst (-1), 1) := by decide +kernel
theorem dX12_pairsAll_87 : decode cX12_pairsAll 87 = .ok (.iastore, 1) := by decide +kernel
theorem dX12_pairsAll_88 : decode cX12_pairsAll 88 = .ok (.iinc 4 1, 3) := by decide +kernel
theorem dX12_pairsAll_91 : decode cX12_pairsAll 91 = .ok (.goto (-77), 3) := by decide +kernel
theorem dX12_pairsAll_94 : decode cX12_pairsAll 94 = .ok (.aload_n 0, 1) := by decide +kernel
theorem dX12_pairsAll_95 : decode cX12_pairsAll 95 = .ok (.getfield 29, 3) := by decide +kernel
theorem dX12_pairsAll_98 : decode cX12_pairsAll 98 = .ok (.iload_n 3, 1) := by decide +kernel
theorem dX12_pairsAll_99 : decode cX12_pairsAll 99 = .ok (.iconst (-1), 1) := by decide +kernel
theorem dX12_pairsAll_100 : decode cX12_pairsAll 100 = .ok (.iastore, 1) := by decide +kernel
theorem dX12_pairsAll_101 : decode cX12_pairsAll 101 = .ok (.iconst 0, 1) := by decide +kernel
theorem dX12_pairsAll_102 : decode cX12_pairsAll 102 = .ok (.ireturn, 1) := by decide +kernel
theorem dX12_mate_0 : decode cX12_mate 0 = .ok (.aload_n 0, 1) := by decide +kernel
theorem dX12_mate_1 : decode cX12_mate 1 = .ok (.iload_n 1, 1) := by decide +kernel
theorem dX12_mate_2 : decode cX12_mate 2 = .ok (.invokevirtual 145, 3) := by decide +kernel
theorem dX12_mate_5 : decode cX12_mate 5 = .ok (.ifCond .ne 6, 3) := by decide +kernel
theorem dX12_mate_8 : decode cX12_mate 8 = .ok (.bipush (-2), 2) := by decide +kernel
theorem dX12_mate_10 : decode cX12_mate 10 = .ok (.ireturn, 1) := by decide +kernel
theorem dX12_mate_11 : decode cX12_mate 11 = .ok (.aload_n 0, 1) := by decide +kernel
theorem dX12_mate_12 : decode cX12_mate 12 = .ok (.aload_n 0, 1) := by decide +kernel
theorem dX12_mate_13 : decode cX12_mate 13 = .ok (.invokevirtual 129, 3) := by decide +kernel
theorem dX12_mate_16 : decode cX12_mate 16 = .ok (.invokevirtual 206, 3) := by decide +kernel
theorem dX12_mate_19 : decode cX12_mate 19 = .ok (.istore_n 2, 1) := by decide +kernel
theorem dX12_mate_20 : decode cX12_mate 20 = .ok (.iconst 0, 1) := by decide +kernel
theorem dX12_mate_21 : decode cX12_mate 21 = .ok (.istore_n 3, 1) := by decide +kernel
theorem dX12_mate_22 : decode cX12_mate 22 = .ok (.iload_n 3, 1) := by decide +kernel
theorem dX12_mate_23 : decode cX12_mate 23 = .ok (.bipush 12, 2) := by decide +kernel
theorem dX12_mate_25 : decode cX12_mate 25 = .ok (.if_icmp .ge 16, 3) := by decide +kernel
theorem dX12_mate_28 : decode cX12_mate 28 = .ok (.aload_n 0, 1) := by decide +kernel
theorem dX12_mate_29 : decode cX12_mate 29 = .ok (.getfield 29, 3) := by decide +kernel
theorem dX12_mate_32 : decode cX12_mate 32 = .ok (.iload_n 3, 1) := by decide +kernel
theorem dX12_mate_33 : decode cX12_mate 33 = .ok (.iconst (-1), 1) := by decide +kernel
theorem dX12_mate_34 : decode cX12_mate 34 = .ok (.iastore, 1) := by decide +kernel
theorem dX12_mate_35 : decode cX12_mate 35 = .ok (.iinc 3 1, 3) := by decide +kernel
theorem dX12_mate_38 : decode cX12_mate 38 = .ok (.goto (-16), 3) := by decide +kernel
theorem dX12_mate_41 : decode cX12_mate 41 = .ok (.aload_n 0, 1) := by decide +kernel
theorem dX12_mate_42 : decode cX12_mate 42 = .ok (.aload_n 0, 1) := by decide +kernel
theorem dX12_mate_43 : decode cX12_mate 43 = .ok (.iconst 2, 1) := by decide +kernel
theorem dX12_mate_44 : decode cX12_mate 44 = .ok (.aload_n 0, 1) := by decide +kernel
theorem dX12_mate_45 : decode cX12_mate 45 = .ok (.invokevirtual 129, 3) := by decide +kernel
theorem dX12_mate_48 : decode cX12_mate 48 = .ok (.invokevirtual 209, 3) := by decide +kernel
theorem dX12_mate_51 : decode cX12_mate 51 = .ok (.aload_n 0, 1) := by decide +kernel
theorem dX12_mate_52 : decode cX12_mate 52 = .ok (.iconst 0, 1) := by decide +kernel
theorem dX12_mate_53 : decode cX12_mate 53 = .ok (.aload_n 0, 1) := by decide +kernel
theorem dX12_mate_54 : decode cX12_mate 54 = .ok (.invokevirtual 129, 3) := by decide +kernel
theorem dX12_mate_57 : decode cX12_mate 57 = .ok (.invokevirtual 209, 3) := by decide +kernel
theorem dX12_mate_60 : decode cX12_mate 60 = .ok (.invokevirtual 216, 3) := by decide +kernel
theorem dX12_mate_63 : decode cX12_mate 63 = .ok (.istore_n 3, 1) := by decide +kernel
theorem dX12_mate_64 : decode cX12_mate 64 = .ok (.aload_n 0, 1) := by decide +kernel
theorem dX12_mate_65 : decode cX12_mate 65 = .ok (.getfield 29, 3) := by decide +kernel
theorem dX12_mate_68 : decode cX12_mate 68 = .ok (.iload_n 1, 1) := by decide +kernel
theorem dX12_mate_69 : decode cX12_mate 69 = .ok (.iaload, 1) := by decide +kernel
theorem dX12_mate_70 : decode cX12_mate 70 = .ok (.ireturn, 1) := by decide +kernel
theorem dX12_persists_0 : decode cX12_persists 0 = .ok (.aload_n 0, 1) := by decide +kernel
theorem dX12_persists_1 : decode cX12_persists 1 = .ok (.aload_n 0, 1) := by decide +kernel
theorem dX12_persists_2 : decode cX12_persists 2 = .ok (.invokevirtual 129, 3) := by decide +kernel
theorem dX12_persists_5 : decode cX12_persists 5 = .ok (.invokevirtual 206, 3) := by decide +kernel
theorem dX12_persists_8 : decode cX12_persists 8 = .ok (.istore_n 1, 1) := by decide +kernel
theorem dX12_persists_9 : decode cX12_persists 9 = .ok (.aload_n 0, 1) := by decide +kernel
theorem dX12_persists_10 : decode cX12_persists 10 = .ok (.iconst 0, 1) := by decide +kernel
theorem dX12_persists_11 : decode cX12_persists 11 = .ok (.aload_n 0, 1) := by decide +kernel
theorem dX12_persists_12 : decode cX12_persists 12 = .ok (.invokevirtual 129, 3) := by decide +kernel
theorem dX12_persists_15 : decode cX12_persists 15 = .ok (.invokevirtual 209, 3) := by decide +kernel
theorem dX12_persists_18 : decode cX12_persists 18 = .ok (.istore_n 2, 1) := by decide +kernel
theorem dX12_persists_19 : decode cX12_persists 19 = .ok (.aload_n 0, 1) := by decide +kernel
theorem dX12_persists_20 : decode cX12_persists 20 = .ok (.iconst 2, 1) := by decide +kernel
theorem dX12_persists_21 : decode cX12_persists 21 = .ok (.aload_n 0, 1) := by decide +kernel
theorem dX12_persists_22 : decode cX12_persists 22 = .ok (.invokevirtual 129, 3) := by decide +kernel
theorem dX12_persists_25 : decode cX12_persists 25 = .ok (.invokevirtual 209, 3) := by decide +kernel
theorem dX12_persists_28 : decode cX12_persists 28 = .ok (.istore_n 3, 1) := by decide +kernel
theorem dX12_persists_29 : decode cX12_persists 29 = .ok (.aload_n 0, 1) := by decide +kernel
theorem dX12_persists_30 : decode cX12_persists 30 = .ok (.invokevirtual 180, 3) := by decide +kernel
theorem dX12_persists_33 : decode cX12_persists 33 = .ok (.istore 4, 2) := by decide +kernel
theorem dX12_persists_35 : decode cX12_persists 35 = .ok (.iconst 0, 1) := by decide +kernel
theorem dX12_persists_36 : decode cX12_persists 36 = .ok (.istore 5, 2) := by decide +kernel
theorem dX12_persists_38 : decode cX12_persists 38 = .ok (.iconst 0, 1) := by decide +kernel
theorem dX12_persists_39 : decode cX12_persists 39 = .ok (.istore 6, 2) := by decide +kernel
theorem dX12_persists_41 : decode cX12_persists 41 = .ok (.iload 6, 2) := by decide +kernel
theorem dX12_persists_43 : decode cX12_persists 43 = .ok (.aload_n 0, 1) := by decide +kernel
theorem dX12_persists_44 : decode cX12_persists 44 = .ok (.invokevirtual 129, 3) := by decide +kernel
theorem dX12_persists_47 : decode cX12_persists 47 = .ok (.if_icmp .gt 54, 3) := by decide +kernel
theorem dX12_persists_50 : decode cX12_persists 50 = .ok (.iload 5, 2) := by decide +kernel
theorem dX12_persists_52 : decode cX12_persists 52 = .ok (.iload 6, 2) := by decide +kernel
theorem dX12_persists_54 : decode cX12_persists 54 = .ok (.invokestatic 133, 3) := by decide +kernel
theorem dX12_persists_57 : decode cX12_persists 57 = .ok (.iload 4, 2) := by decide +kernel
theorem dX12_persists_59 : decode cX12_persists 59 = .ok (.if_icmp .ne 32, 3) := by decide +kernel
theorem dX12_persists_62 : decode cX12_persists 62 = .ok (.iload 6, 2) := by decide +kernel
theorem dX12_persists_64 : decode cX12_persists 64 = .ok (.iload_n 2, 1) := by decide +kernel
theorem dX12_persists_65 : decode cX12_persists 65 = .ok (.iand, 1) := by decide +kernel
theorem dX12_persists_66 : decode cX12_persists 66 = .ok (.ifCond .ne 25, 3) := by decide +kernel
theorem dX12_persists_69 : decode cX12_persists 69 = .ok (.iload_n 3, 1) := by decide +kernel
theorem dX12_persists_70 : decode cX12_persists 70 = .ok (.iload 6, 2) := by decide +kernel
theorem dX12_persists_72 : decode cX12_persists 72 = .ok (.iconst (-1), 1) := by decide +kernel
theorem dX12_persists_73 : decode cX12_persists 73 = .ok (.ixor, 1) := by decide +kernel
theorem dX12_persists_74 : decode cX12_persists 74 = .ok (.iand, 1) := by decide +kernel
theorem dX12_persists_75 : decode cX12_persists 75 = .ok (.ifCond .ne 16, 3) := by decide +kernel
theorem dX12_persists_78 : decode cX12_persists 78 = .ok (.aload_n 0, 1) := by decide +kernel
theorem dX12_persists_79 : decode cX12_persists 79 = .ok (.iload 6, 2) := by decide +kernel
theorem dX12_persists_81 : decode cX12_persists 81 = .ok (.invokevirtual 168, 3) := by decide +kernel
theorem dX12_persists_84 : decode cX12_persists 84 = .ok (.ifCond .eq 7, 3) := by decide +kernel
theorem dX12_persists_87 : decode cX12_persists 87 = .ok (.iconst 1, 1) := by decide +kernel
theorem dX12_persists_88 : decode cX12_persists 88 = .ok (.goto 4, 3) := by decide +kernel
theorem dX12_persists_91 : decode cX12_persists 91 = .ok (.iconst 0, 1) := by decide +kernel
theorem dX12_persists_92 : decode cX12_persists 92 = .ok (.iadd, 1) := by decide +kernel
theorem dX12_persists_93 : decode cX12_persists 93 = .ok (.istore 5, 2) := by decide +kernel
theorem dX12_persists_95 : decode cX12_persists 95 = .ok (.iinc 6 1, 3) := by decide +kernel
theorem dX12_persists_98 : decode cX12_persists 98 = .ok (.goto (-57), 3) := by decide +kernel
theorem dX12_persists_101 : decode cX12_persists 101 = .ok (.iload 5, 2) := by decide +kernel
theorem dX12_persists_103 : decode cX12_persists 103 = .ok (.ireturn, 1) := by decide +kernel
theorem dX12_nextTo_0 : decode cX12_nextTo 0 = .ok (.iconst 0, 1) := by decide +kernel
theorem dX12_nextTo_1 : decode cX12_nextTo 1 = .ok (.istore_n 2, 1) := by decide +kernel
theorem dX12_nextTo_2 : decode cX12_nextTo 2 = .ok (.iconst 0, 1) := by decide +kernel
theorem dX12_nextTo_3 : decode cX12_nextTo 3 = .ok (.istore_n 3, 1) := by decide +kernel
theorem dX12_nextTo_4 : decode cX12_nextTo 4 = .ok (.iload_n 3, 1) := by decide +kernel
theorem dX12_nextTo_5 : decode cX12_nextTo 5 = .ok (.aload_n 0, 1) := by decide +kernel
theorem dX12_nextTo_6 : decode cX12_nextTo 6 = .ok (.getfield 122, 3) := by decide +kernel
theorem dX12_nextTo_9 : decode cX12_nextTo 9 = .ok (.if_icmp .ge 30, 3) := by decide +kernel
theorem dX12_nextTo_12 : decode cX12_nextTo 12 = .ok (.iload_n 2, 1) := by decide +kernel
theorem dX12_nextTo_13 : decode cX12_nextTo 13 = .ok (.iload_n 1, 1) := by decide +kernel
theorem dX12_nextTo_14 : decode cX12_nextTo 14 = .ok (.iload_n 3, 1) := by decide +kernel
theorem dX12_nextTo_15 : decode cX12_nextTo 15 = .ok (.invokestatic 118, 3) := by decide +kernel
theorem dX12_nextTo_18 : decode cX12_nextTo 18 = .ok (.ifCond .eq 12, 3) := by decide +kernel
theorem dX12_nextTo_21 : decode cX12_nextTo 21 = .ok (.aload_n 0, 1) := by decide +kernel
theorem dX12_nextTo_22 : decode cX12_nextTo 22 = .ok (.getfield 20, 3) := by decide +kernel
theorem dX12_nextTo_25 : decode cX12_nextTo 25 = .ok (.iload_n 3, 1) := by decide +kernel
theorem dX12_nextTo_26 : decode cX12_nextTo 26 = .ok (.iaload, 1) := by decide +kernel
theorem dX12_nextTo_27 : decode cX12_nextTo 27 = .ok (.goto 4, 3) := by decide +kernel
theorem dX12_nextTo_30 : decode cX12_nextTo 30 = .ok (.iconst 0, 1) := by decide +kernel
theorem dX12_nextTo_31 : decode cX12_nextTo 31 = .ok (.ior, 1) := by decide +kernel
theorem dX12_nextTo_32 : decode cX12_nextTo 32 = .ok (.istore_n 2, 1) := by decide +kernel
theorem dX12_nextTo_33 : decode cX12_nextTo 33 = .ok (.iinc 3 1, 3) := by decide +kernel
theorem dX12_nextTo_36 : decode cX12_nextTo 36 = .ok (.goto (-32), 3) := by decide +kernel
theorem dX12_nextTo_39 : decode cX12_nextTo 39 = .ok (.iload_n 2, 1) := by decide +kernel
theorem dX12_nextTo_40 : decode cX12_nextTo 40 = .ok (.ireturn, 1) := by decide +kernel
theorem dX12_isHeaded_0 : decode cX12_isHeaded 0 = .ok (.iload_n 1, 1) := by decide +kernel
theorem dX12_isHeaded_1 : decode cX12_isHeaded 1 = .ok (.ifCond .eq 22, 3) := by decide +kernel
theorem dX12_isHeaded_4 : decode cX12_isHeaded 4 = .ok (.iload_n 1, 1) := by decide +kernel
theorem dX12_isHeaded_5 : decode cX12_isHeaded 5 = .ok (.iload_n 2, 1) := by decide +kernel
theorem dX12_isHeaded_6 : decode cX12_isHeaded 6 = .ok (.iand, 1) := by decide +kernel
theorem dX12_isHeaded_7 : decode cX12_isHeaded 7 = .ok (.ifCond .ne 16, 3) := by decide +kernel
theorem dX12_isHeaded_10 : decode cX12_isHeaded 10 = .ok (.aload_n 0, 1) := by decide +kernel
theorem dX12_isHeaded_11 : decode cX12_isHeaded 11 = .ok (.iload_n 2, 1) := by decide +kernel
theorem dX12_isHeaded_12 : decode cX12_isHeaded 12 = .ok (.iload_n 1, 1) := by decide +kernel
theorem dX12_isHeaded_13 : decode cX12_isHeaded 13 = .ok (.invokevirtual 216, 3) := by decide +kernel
theorem dX12_isHeaded_16 : decode cX12_isHeaded 16 = .ok (.ifCond .eq 7, 3) := by decide +kernel
theorem dX12_isHeaded_19 : decode cX12_isHeaded 19 = .ok (.iconst 1, 1) := by decide +kernel
theorem dX12_isHeaded_20 : decode cX12_isHeaded 20 = .ok (.goto 4, 3) := by decide +kernel
theorem dX12_isHeaded_23 : decode cX12_isHeaded 23 = .ok (.iconst 0, 1) := by decide +kernel
theorem dX12_isHeaded_24 : decode cX12_isHeaded 24 = .ok (.ireturn, 1) := by decide +kernel
theorem dX12_isCrown_0 : decode cX12_isCrown 0 = .ok (.aload_n 0, 1) := by decide +kernel
theorem dX12_isCrown_1 : decode cX12_isCrown 1 = .ok (.iload_n 1, 1) := by decide +kernel
theorem dX12_isCrown_2 : decode cX12_isCrown 2 = .ok (.invokevirtual 171, 3) := by decide +kernel
theorem dX12_isCrown_5 : decode cX12_isCrown 5 = .ok (.ifCond .ne 8, 3) := by decide +kernel
theorem dX12_isCrown_8 : decode cX12_isCrown 8 = .ok (.bipush (-2), 2) := by decide +kernel
theorem dX12_isCrown_10 : decode cX12_isCrown 10 = .ok (.goto 21, 3) := by decide +kernel
theorem dX12_isCrown_13 : decode cX12_isCrown 13 = .ok (.aload_n 0, 1) := by decide +kernel
theorem dX12_isCrown_14 : decode cX12_isCrown 14 = .ok (.iload_n 1, 1) := by decide +kernel
theorem dX12_isCrown_15 : decode cX12_isCrown 15 = .ok (.aload_n 0, 1) := by decide +kernel
theorem dX12_isCrown_16 : decode cX12_isCrown 16 = .ok (.iload_n 1, 1) := by decide +kernel
theorem dX12_isCrown_17 : decode cX12_isCrown 17 = .ok (.invokevirtual 219, 3) := by decide +kernel
theorem dX12_isCrown_20 : decode cX12_isCrown 20 = .ok (.invokevirtual 222, 3) := by decide +kernel
theorem dX12_isCrown_23 : decode cX12_isCrown 23 = .ok (.ifCond .eq 7, 3) := by decide +kernel
theorem dX12_isCrown_26 : decode cX12_isCrown 26 = .ok (.iconst 1, 1) := by decide +kernel
theorem dX12_isCrown_27 : decode cX12_isCrown 27 = .ok (.goto 4, 3) := by decide +kernel
theorem dX12_isCrown_30 : decode cX12_isCrown 30 = .ok (.iconst 0, 1) := by decide +kernel
theorem dX12_isCrown_31 : decode cX12_isCrown 31 = .ok (.ireturn, 1) := by decide +kernel
theorem dX12_crowns_0 : decode cX12_crowns 0 = .ok (.iload_n 1, 1) := by decide +kernel
theorem dX12_crowns_1 : decode cX12_crowns 1 = .ok (.iconst 0, 1) := by decide +kernel
theorem dX12_crowns_2 : decode cX12_crowns 2 = .ok (.iconst 2, 1) := by decide +kernel
theorem dX12_crowns_3 : decode cX12_crowns 3 = .ok (.invokestatic 125, 3) := by decide +kernel
theorem dX12_crowns_6 : decode cX12_crowns 6 = .ok (.ifCond .ne 6, 3) := by decide +kernel
theorem dX12_crowns_9 : decode cX12_crowns 9 = .ok (.bipush (-2), 2) := by decide +kernel
theorem dX12_crowns_11 : decode cX12_crowns 11 = .ok (.ireturn, 1) := by decide +kernel
theorem dX12_crowns_12 : decode cX12_crowns 12 = .ok (.iconst 0, 1) := by decide +kernel
theorem dX12_crowns_13 : decode cX12_crowns 13 = .ok (.istore_n 2, 1) := by decide +kernel
theorem dX12_crowns_14 : decode cX12_crowns 14 = .ok (.iconst 0, 1) := by decide +kernel
theorem dX12_crowns_15 : decode cX12_crowns 15 = .ok (.istore_n 3, 1) := by decide +kernel
theorem dX12_crowns_16 : decode cX12_crowns 16 = .ok (.iconst 1, 1) := by decide +kernel
theorem dX12_crowns_17 : decode cX12_crowns 17 = .ok (.istore 4, 2) := by decide +kernel
theorem dX12_crowns_19 : decode cX12_crowns 19 = .ok (.iload 4, 2) := by decide +kernel
theorem dX12_crowns_21 : decode cX12_crowns 21 = .ok (.aload_n 0, 1) := by decide +kernel
theorem dX12_crowns_22 : decode cX12_crowns 22 = .ok (.invokevirtual 129, 3) := by decide +kernel
theorem dX12_crowns_25 : decode cX12_crowns 25 = .ok (.if_icmp .gt 49, 3) := by decide +kernel
theorem dX12_crowns_28 : decode cX12_crowns 28 = .ok (.aload_n 0, 1) := by decide +kernel
theorem dX12_crowns_29 : decode cX12_crowns 29 = .ok (.iload 4, 2) := by decide +kernel
theorem dX12_crowns_31 : decode cX12_crowns 31 = .ok (.aload_n 0, 1) := by decide +kernel
theorem dX12_crowns_32 : decode cX12_crowns 32 = .ok (.iload 4, 2) := by decide +kernel
theorem dX12_crowns_34 : decode cX12_crowns 34 = .ok (.invokevirtual 219, 3) := by decide +kernel
theorem dX12_crowns_37 : decode cX12_crowns 37 = .ok (.invokevirtual 222, 3) := by decide +kernel
theorem dX12_crowns_40 : decode cX12_crowns 40 = .ok (.ifCond .ne 6, 3) := by decide +kernel
theorem dX12_crowns_43 : decode cX12_crowns 43 = .ok (.goto 25, 3) := by decide +kernel
theorem dX12_crowns_46 : decode cX12_crowns 46 = .ok (.iinc 2 1, 3) := by decide +kernel
theorem dX12_crowns_49 : decode cX12_crowns 49 = .ok (.iload 4, 2) := by decide +kernel
theorem dX12_crowns_51 : decode cX12_crowns 51 = .ok (.invokestatic 133, 3) := by decide +kernel
theorem dX12_crowns_54 : decode cX12_crowns 54 = .ok (.iload_n 3, 1) := by decide +kernel
theorem dX12_crowns_55 : decode cX12_crowns 55 = .ok (.invokestatic 133, 3) := by decide +kernel
theorem dX12_crowns_58 : decode cX12_crowns 58 = .ok (.if_icmp .le 8, 3) := by decide +kernel
theorem dX12_crowns_61 : decode cX12_crowns 61 = .ok (.iload 4, 2) := by decide +kernel
theorem dX12_crowns_63 : decode cX12_crowns 63 = .ok (.goto 4, 3) := by decide +kernel
theorem dX12_crowns_66 : decode cX12_crowns 66 = .ok (.iload_n 3, 1) := by decide +kernel
theorem dX12_crowns_67 : decode cX12_crowns 67 = .ok (.istore_n 3, 1) := by decide +kernel
theorem dX12_crowns_68 : decode cX12_crowns 68 = .ok (.iinc 4 1, 3) := by decide +kernel
theorem dX12_crowns_71 : decode cX12_crowns 71 = .ok (.goto (-52), 3) := by decide +kernel
theorem dX12_crowns_74 : decode cX12_crowns 74 = .ok (.iload_n 1, 1) := by decide +kernel
theorem dX12_crowns_75 : decode cX12_crowns 75 = .ok (.ifCond .ne 7, 3) := by decide +kernel
theorem dX12_crowns_78 : decode cX12_crowns 78 = .ok (.iload_n 2, 1) := by decide +kernel
theorem dX12_crowns_79 : decode cX12_crowns 79 = .ok (.goto 25, 3) := by decide +kernel
theorem dX12_crowns_82 : decode cX12_crowns 82 = .ok (.iload_n 2, 1) := by decide +kernel
theorem dX12_crowns_83 : decode cX12_crowns 83 = .ok (.ifCond .ne 7, 3) := by decide +kernel
theorem dX12_crowns_86 : decode cX12_crowns 86 = .ok (.iconst (-1), 1) := by decide +kernel
theorem dX12_crowns_87 : decode cX12_crowns 87 = .ok (.goto 17, 3) := by decide +kernel
theorem dX12_crowns_90 : decode cX12_crowns 90 = .ok (.iload_n 1, 1) := by decide +kernel
theorem dX12_crowns_91 : decode cX12_crowns 91 = .ok (.iconst 1, 1) := by decide +kernel
theorem dX12_crowns_92 : decode cX12_crowns 92 = .ok (.if_icmp .ne 7, 3) := by decide +kernel
theorem dX12_crowns_95 : decode cX12_crowns 95 = .ok (.iload_n 3, 1) := by decide +kernel
theorem dX12_crowns_96 : decode cX12_crowns 96 = .ok (.goto 8, 3) := by decide +kernel
theorem dX12_crowns_99 : decode cX12_crowns 99 = .ok (.aload_n 0, 1) := by decide +kernel
theorem dX12_crowns_100 : decode cX12_crowns 100 = .ok (.iload_n 3, 1) := by decide +kernel
theorem dX12_crowns_101 : decode cX12_crowns 101 = .ok (.invokevirtual 219, 3) := by decide +kernel
theorem dX12_crowns_104 : decode cX12_crowns 104 = .ok (.ireturn, 1) := by decide +kernel
theorem dX12_degree_0 : decode cX12_degree 0 = .ok (.aload_n 0, 1) := by decide +kernel
theorem dX12_degree_1 : decode cX12_degree 1 = .ok (.getfield 20, 3) := by decide +kernel
theorem dX12_degree_4 : decode cX12_degree 4 = .ok (.iload_n 1, 1) := by decide +kernel
theorem dX12_degree_5 : decode cX12_degree 5 = .ok (.iaload, 1) := by decide +kernel
theorem dX12_degree_6 : decode cX12_degree 6 = .ok (.iload_n 2, 1) := by decide +kernel
theorem dX12_degree_7 : decode cX12_degree 7 = .ok (.iand, 1) := by decide +kernel
theorem dX12_degree_8 : decode cX12_degree 8 = .ok (.invokestatic 133, 3) := by decide +kernel
theorem dX12_degree_11 : decode cX12_degree 11 = .ok (.ireturn, 1) := by decide +kernel
theorem dX12_rules_0 : decode cX12_rules 0 = .ok (.iconst (-1), 1) := by decide +kernel
theorem dX12_rules_1 : decode cX12_rules 1 = .ok (.istore_n 1, 1) := by decide +kernel
theorem dX12_rules_2 : decode cX12_rules 2 = .ok (.iconst (-1), 1) := by decide +kernel
theorem dX12_rules_3 : decode cX12_rules 3 = .ok (.istore_n 2, 1) := by decide +kernel
theorem dX12_rules_4 : decode cX12_rules 4 = .ok (.iconst (-1), 1) := by decide +kernel
theorem dX12_rules_5 : decode cX12_rules 5 = .ok (.istore_n 3, 1) := by decide +kernel
theorem dX12_rules_6 : decode cX12_rules 6 = .ok (.aload_n 0, 1) := by decide +kernel
theorem dX12_rules_7 : decode cX12_rules 7 = .ok (.getfield 122, 3) := by decide +kernel
theorem dX12_rules_10 : decode cX12_rules 10 = .ok (.iconst 1, 1) := by decide +kernel
theorem dX12_rules_11 : decode cX12_rules 11 = .ok (.isub, 1) := by decide +kernel
theorem dX12_rules_12 : decode cX12_rules 12 = .ok (.istore 4, 2) := by decide +kernel
theorem dX12_rules_14 : decode cX12_rules 14 = .ok (.iload 4, 2) := by decide +kernel
theorem dX12_rules_16 : decode cX12_rules 16 = .ok (.ifCond .lt 77, 3) := by decide +kernel
theorem dX12_rules_19 : decode cX12_rules 19 = .ok (.aload_n 0, 1) := by decide +kernel
theorem dX12_rules_20 : decode cX12_rules 20 = .ok (.getfield 225, 3) := by decide +kernel
theorem dX12_rules_23 : decode cX12_rules 23 = .ok (.iload 4, 2) := by decide +kernel
theorem dX12_rules_25 : decode cX12_rules 25 = .ok (.invokestatic 118, 3) := by decide +kernel
theorem dX12_rules_28 : decode cX12_rules 28 = .ok (.ifCond .ne 6, 3) := by decide +kernel
theorem dX12_rules_31 : decode cX12_rules 31 = .ok (.goto 56, 3) := by decide +kernel
theorem dX12_rules_34 : decode cX12_rules 34 = .ok (.aload_n 0, 1) := by decide +kernel
theorem dX12_rules_35 : decode cX12_rules 35 = .ok (.iload 4, 2) := by decide +kernel
theorem dX12_rules_37 : decode cX12_rules 37 = .ok (.aload_n 0, 1) := by decide +kernel
theorem dX12_rules_38 : decode cX12_rules 38 = .ok (.getfield 225, 3) := by decide +kernel
theorem dX12_rules_41 : decode cX12_rules 41 = .ok (.invokevirtual 228, 3) := by decide +kernel
theorem dX12_rules_44 : decode cX12_rules 44 = .ok (.istore 5, 2) := by decide +kernel
theorem dX12_rules_46 : decode cX12_rules 46 = .ok (.iload 5, 2) := by decide +kernel
theorem dX12_rules_48 : decode cX12_rules 48 = .ok (.ifCond .ne 8, 3) := by decide +kernel
theorem dX12_rules_51 : decode cX12_rules 51 = .ok (.iload 4, 2) := by decide +kernel
theorem dX12_rules_53 : decode cX12_rules 53 = .ok (.goto 4, 3) := by decide +kernel
theorem dX12_rules_56 : decode cX12_rules 56 = .ok (.iload_n 1, 1) := by decide +kernel
theorem dX12_rules_57 : decode cX12_rules 57 = .ok (.istore_n 1, 1) := by decide +kernel
theorem dX12_rules_58 : decode cX12_rules 58 = .ok (.iload 5, 2) := by decide +kernel
theorem dX12_rules_60 : decode cX12_rules 60 = .ok (.aload_n 0, 1) := by decide +kernel
theorem dX12_rules_61 : decode cX12_rules 61 = .ok (.getfield 231, 3) := by decide +kernel
theorem dX12_rules_64 : decode cX12_rules 64 = .ok (.if_icmp .le 8, 3) := by decide +kernel
theorem dX12_rules_67 : decode cX12_rules 67 = .ok (.iload 4, 2) := by decide +kernel
theorem dX12_rules_69 : decode cX12_rules 69 = .ok (.goto 4, 3) := by decide +kernel
theorem dX12_rules_72 : decode cX12_rules 72 = .ok (.iload_n 2, 1) := by decide +kernel
theorem dX12_rules_73 : decode cX12_rules 73 = .ok (.istore_n 2, 1) := by decide +kernel
theorem dX12_rules_74 : decode cX12_rules 74 = .ok (.iload 5, 2) := by decide +kernel
theorem dX12_rules_76 : decode cX12_rules 76 = .ok (.iconst 1, 1) := by decide +kernel
theorem dX12_rules_77 : decode cX12_rules 77 = .ok (.if_icmp .ne 8, 3) := by decide +kernel
theorem dX12_rules_80 : decode cX12_rules 80 = .ok (.iload 4, 2) := by decide +kernel
theorem dX12_rules_82 : decode cX12_rules 82 = .ok (.goto 4, 3) := by decide +kernel
theorem dX12_rules_85 : decode cX12_rules 85 = .ok (.iload_n 3, 1) := by decide +kernel
theorem dX12_rules_86 : decode cX12_rules 86 = .ok (.istore_n 3, 1) := by decide +kernel
theorem dX12_rules_87 : decode cX12_rules 87 = .ok (.iinc 4 (-1), 3) := by decide +kernel
theorem dX12_rules_90 : decode cX12_rules 90 = .ok (.goto (-76), 3) := by decide +kernel
theorem dX12_rules_93 : decode cX12_rules 93 = .ok (.iload_n 1, 1) := by decide +kernel
theorem dX12_rules_94 : decode cX12_rules 94 = .ok (.iconst (-1), 1) := by decide +kernel
theorem dX12_rules_95 : decode cX12_rules 95 = .ok (.if_icmp .eq 13, 3) := by decide +kernel
theorem dX12_rules_98 : decode cX12_rules 98 = .ok (.aload_n 0, 1) := by decide +kernel
theorem dX12_rules_99 : decode cX12_rules 99 = .ok (.iconst 0, 1) := by decide +kernel
theorem dX12_rules_100 : decode cX12_rules 100 = .ok (.iconst 1, 1) := by decide +kernel
theorem dX12_rules_101 : decode cX12_rules 101 = .ok (.iload_n 1, 1) := by decide +kernel
theorem dX12_rules_102 : decode cX12_rules 102 = .ok (.ishl, 1) := by decide +kernel
theorem dX12_rules_103 : decode cX12_rules 103 = .ok (.iconst 0, 1) := by decide +kernel
theorem dX12_rules_104 : decode cX12_rules 104 = .ok (.invokevirtual 234, 3) := by decide +kernel
theorem dX12_rules_107 : decode cX12_rules 107 = .ok (.ireturn, 1) := by decide +kernel
theorem dX12_rules_108 : decode cX12_rules 108 = .ok (.iload_n 2, 1) := by decide +kernel
theorem dX12_rules_109 : decode cX12_rules 109 = .ok (.iconst (-1), 1) := by decide +kernel
theorem dX12_rules_110 : decode cX12_rules 110 = .ok (.if_icmp .eq 15, 3) := by decide +kernel
theorem dX12_rules_113 : decode cX12_rules 113 = .ok (.aload_n 0, 1) := by decide +kernel
theorem dX12_rules_114 : decode cX12_rules 114 = .ok (.iconst 1, 1) := by decide +kernel
theorem dX12_rules_115 : decode cX12_rules 115 = .ok (.iconst 1, 1) := by decide +kernel
theorem dX12_rules_116 : decode cX12_rules 116 = .ok (.iload_n 2, 1) := by decide +kernel
theorem dX12_rules_117 : decode cX12_rules 117 = .ok (.ishl, 1) := by decide +kernel
theorem dX12_rules_118 : decode cX12_rules 118 = .ok (.iconst 1, 1) := by decide +kernel
theorem dX12_rules_119 : decode cX12_rules 119 = .ok (.iload_n 2, 1) := by decide +kernel
theorem dX12_rules_120 : decode cX12_rules 120 = .ok (.ishl, 1) := by decide +kernel
theorem dX12_rules_121 : decode cX12_rules 121 = .ok (.invokevirtual 234, 3) := by decide +kernel
theorem dX12_rules_124 : decode cX12_rules 124 = .ok (.ireturn, 1) := by decide +kernel
theorem dX12_rules_125 : decode cX12_rules 125 = .ok (.iload_n 3, 1) := by decide +kernel
theorem dX12_rules_126 : decode cX12_rules 126 = .ok (.iconst (-1), 1) := by decide +kernel
theorem dX12_rules_127 : decode cX12_rules 127 = .ok (.if_icmp .eq 35, 3) := by decide +kernel
theorem dX12_rules_130 : decode cX12_rules 130 = .ok (.aload_n 0, 1) := by decide +kernel
theorem dX12_rules_131 : decode cX12_rules 131 = .ok (.iconst 2, 1) := by decide +kernel
theorem dX12_rules_132 : decode cX12_rules 132 = .ok (.iconst 1, 1) := by decide +kernel
theorem dX12_rules_133 : decode cX12_rules 133 = .ok (.iload_n 3, 1) := by decide +kernel
theorem dX12_rules_134 : decode cX12_rules 134 = .ok (.ishl, 1) := by decide +kernel
theorem dX12_rules_135 : decode cX12_rules 135 = .ok (.aload_n 0, 1) := by decide +kernel
theorem dX12_rules_136 : decode cX12_rules 136 = .ok (.getfield 20, 3) := by decide +kernel
theorem dX12_rules_139 : decode cX12_rules 139 = .ok (.iload_n 3, 1) := by decide +kernel
theorem dX12_rules_140 : decode cX12_rules 140 = .ok (.iaload, 1) := by decide +kernel
theorem dX12_rules_141 : decode cX12_rules 141 = .ok (.aload_n 0, 1) := by decide +kernel
theorem dX12_rules_142 : decode cX12_rules 142 = .ok (.getfield 225, 3) := by decide +kernel
theorem dX12_rules_145 : decode cX12_rules 145 = .ok (.iand, 1) := by decide +kernel
theorem dX12_rules_146 : decode cX12_rules 146 = .ok (.ior, 1) := by decide +kernel
theorem dX12_rules_147 : decode cX12_rules 147 = .ok (.aload_n 0, 1) := by decide +kernel
theorem dX12_rules_148 : decode cX12_rules 148 = .ok (.getfield 20, 3) := by decide +kernel
theorem dX12_rules_151 : decode cX12_rules 151 = .ok (.iload_n 3, 1) := by decide +kernel
theorem dX12_rules_152 : decode cX12_rules 152 = .ok (.iaload, 1) := by decide +kernel
theorem dX12_rules_153 : decode cX12_rules 153 = .ok (.aload_n 0, 1) := by decide +kernel
theorem dX12_rules_154 : decode cX12_rules 154 = .ok (.getfield 225, 3) := by decide +kernel
theorem dX12_rules_157 : decode cX12_rules 157 = .ok (.iand, 1) := by decide +kernel
theorem dX12_rules_158 : decode cX12_rules 158 = .ok (.invokevirtual 234, 3) := by decide +kernel
theorem dX12_rules_161 : decode cX12_rules 161 = .ok (.ireturn, 1) := by decide +kernel
theorem dX12_rules_162 : decode cX12_rules 162 = .ok (.aload_n 0, 1) := by decide +kernel
theorem dX12_rules_163 : decode cX12_rules 163 = .ok (.aload_n 0, 1) := by decide +kernel
theorem dX12_rules_164 : decode cX12_rules 164 = .ok (.getfield 225, 3) := by decide +kernel
theorem dX12_rules_167 : decode cX12_rules 167 = .ok (.invokevirtual 206, 3) := by decide +kernel
theorem dX12_rules_170 : decode cX12_rules 170 = .ok (.istore 4, 2) := by decide +kernel
theorem dX12_rules_172 : decode cX12_rules 172 = .ok (.aload_n 0, 1) := by decide +kernel
theorem dX12_rules_173 : decode cX12_rules 173 = .ok (.iconst 0, 1) := by decide +kernel
theorem dX12_rules_174 : decode cX12_rules 174 = .ok (.aload_n 0, 1) := by decide +kernel
theorem dX12_rules_175 : decode cX12_rules 175 = .ok (.getfield 225, 3) := by decide +kernel
theorem dX12_rules_178 : decode cX12_rules 178 = .ok (.invokevirtual 209, 3) := by decide +kernel
theorem dX12_rules_181 : decode cX12_rules 181 = .ok (.istore 5, 2) := by decide +kernel
theorem dX12_rules_183 : decode cX12_rules 183 = .ok (.aload_n 0, 1) := by decide +kernel
theorem dX12_rules_184 : decode cX12_rules 184 = .ok (.iconst 2, 1) := by decide +kernel
theorem dX12_rules_185 : decode cX12_rules 185 = .ok (.aload_n 0, 1) := by decide +kernel
theorem dX12_rules_186 : decode cX12_rules 186 = .ok (.getfield 225, 3) := by decide +kernel
theorem dX12_rules_189 : decode cX12_rules 189 = .ok (.invokevirtual 209, 3) := by decide +kernel
theorem dX12_rules_192 : decode cX12_rules 192 = .ok (.istore 6, 2) := by decide +kernel
theorem dX12_rules_194 : decode cX12_rules 194 = .ok (.iload 5, 2) := by decide +kernel
theorem dX12_rules_196 : decode cX12_rules 196 = .ok (.ifCond .eq 22, 3) := by decide +kernel
theorem dX12_rules_199 : decode cX12_rules 199 = .ok (.aload_n 0, 1) := by decide +kernel
theorem dX12_rules_200 : decode cX12_rules 200 = .ok (.iconst 3, 1) := by decide +kernel
theorem dX12_rules_201 : decode cX12_rules 201 = .ok (.iload 5, 2) := by decide +kernel
theorem dX12_rules_203 : decode cX12_rules 203 = .ok (.iload 6, 2) := by decide +kernel
theorem dX12_rules_205 : decode cX12_rules 205 = .ok (.ior, 1) := by decide +kernel
theorem dX12_rules_206 : decode cX12_rules 206 = .ok (.iload 6, 2) := by decide +kernel
theorem dX12_rules_208 : decode cX12_rules 208 = .ok (.invokevirtual 234, 3) := by decide +kernel
theorem dX12_rules_211 : decode cX12_rules 211 = .ok (.ifCond .eq 7, 3) := by decide +kernel
theorem dX12_rules_214 : decode cX12_rules 214 = .ok (.iconst 1, 1) := by decide +kernel
theorem dX12_rules_215 : decode cX12_rules 215 = .ok (.goto 4, 3) := by decide +kernel
theorem dX12_rules_218 : decode cX12_rules 218 = .ok (.iconst 0, 1) := by decide +kernel
theorem dX12_rules_219 : decode cX12_rules 219 = .ok (.ireturn, 1) := by decide +kernel
theorem dX12_rule_0 : decode cX12_rule 0 = .ok (.aload_n 0, 1) := by decide +kernel
theorem dX12_rule_1 : decode cX12_rule 1 = .ok (.getfield 32, 3) := by decide +kernel
theorem dX12_rule_4 : decode cX12_rule 4 = .ok (.iconst 0, 1) := by decide +kernel
theorem dX12_rule_5 : decode cX12_rule 5 = .ok (.iload_n 1, 1) := by decide +kernel
theorem dX12_rule_6 : decode cX12_rule 6 = .ok (.iastore, 1) := by decide +kernel
theorem dX12_rule_7 : decode cX12_rule 7 = .ok (.aload_n 0, 1) := by decide +kernel
theorem dX12_rule_8 : decode cX12_rule 8 = .ok (.getfield 32, 3) := by decide +kernel
theorem dX12_rule_11 : decode cX12_rule 11 = .ok (.iconst 1, 1) := by decide +kernel
theorem dX12_rule_12 : decode cX12_rule 12 = .ok (.iload_n 2, 1) := by decide +kernel
theorem dX12_rule_13 : decode cX12_rule 13 = .ok (.iastore, 1) := by decide +kernel
theorem dX12_rule_14 : decode cX12_rule 14 = .ok (.aload_n 0, 1) := by decide +kernel
theorem dX12_rule_15 : decode cX12_rule 15 = .ok (.getfield 32, 3) := by decide +kernel
theorem dX12_rule_18 : decode cX12_rule 18 = .ok (.iconst 2, 1) := by decide +kernel
theorem dX12_rule_19 : decode cX12_rule 19 = .ok (.iload_n 3, 1) := by decide +kernel
theorem dX12_rule_20 : decode cX12_rule 20 = .ok (.iastore, 1) := by decide +kernel
theorem dX12_rule_21 : decode cX12_rule 21 = .ok (.iconst 1, 1) := by decide +kernel
theorem dX12_rule_22 : decode cX12_rule 22 = .ok (.ireturn, 1) := by decide +kernel
theorem dX12_kernels_0 : decode cX12_kernels 0 = .ok (.aload_n 0, 1) := by decide +kernel
theorem dX12_kernels_1 : decode cX12_kernels 1 = .ok (.aload_n 0, 1) := by decide +kernel
theorem dX12_kernels_2 : decode cX12_kernels 2 = .ok (.invokevirtual 129, 3) := by decide +kernel
theorem dX12_kernels_5 : decode cX12_kernels 5 = .ok (.putfield 225, 3) := by decide +kernel
theorem dX12_kernels_8 : decode cX12_kernels 8 = .ok (.aload_n 0, 1) := by decide +kernel
theorem dX12_kernels_9 : decode cX12_kernels 9 = .ok (.iconst 0, 1) := by decide +kernel
theorem dX12_kernels_10 : decode cX12_kernels 10 = .ok (.putfield 237, 3) := by decide +kernel
theorem dX12_kernels_13 : decode cX12_kernels 13 = .ok (.aload_n 0, 1) := by decide +kernel
theorem dX12_kernels_14 : decode cX12_kernels 14 = .ok (.iload_n 1, 1) := by decide +kernel
theorem dX12_kernels_15 : decode cX12_kernels 15 = .ok (.putfield 231, 3) := by decide +kernel
theorem dX12_kernels_18 : decode cX12_kernels 18 = .ok (.aload_n 0, 1) := by decide +kernel
theorem dX12_kernels_19 : decode cX12_kernels 19 = .ok (.iconst 0, 1) := by decide +kernel
theorem dX12_kernels_20 : decode cX12_kernels 20 = .ok (.putfield 240, 3) := by decide +kernel
theorem dX12_kernels_23 : decode cX12_kernels 23 = .ok (.aload_n 0, 1) := by decide +kernel
theorem dX12_kernels_24 : decode cX12_kernels 24 = .ok (.getfield 231, 3) := by decide +kernel
theorem dX12_kernels_27 : decode cX12_kernels 27 = .ok (.ifCond .lt 81, 3) := by decide +kernel
theorem dX12_kernels_30 : decode cX12_kernels 30 = .ok (.aload_n 0, 1) := by decide +kernel
theorem dX12_kernels_31 : decode cX12_kernels 31 = .ok (.getfield 240, 3) := by decide +kernel
theorem dX12_kernels_34 : decode cX12_kernels 34 = .ok (.iload_n 2, 1) := by decide +kernel
theorem dX12_kernels_35 : decode cX12_kernels 35 = .ok (.if_icmp .ge 73, 3) := by decide +kernel
theorem dX12_kernels_38 : decode cX12_kernels 38 = .ok (.aload_n 0, 1) := by decide +kernel
theorem dX12_kernels_39 : decode cX12_kernels 39 = .ok (.invokevirtual 243, 3) := by decide +kernel
theorem dX12_kernels_42 : decode cX12_kernels 42 = .ok (.ifCond .eq 66, 3) := by decide +kernel
theorem dX12_kernels_45 : decode cX12_kernels 45 = .ok (.aload_n 0, 1) := by decide +kernel
theorem dX12_kernels_46 : decode cX12_kernels 46 = .ok (.dup, 1) := by decide +kernel
theorem dX12_kernels_47 : decode cX12_kernels 47 = .ok (.getfield 225, 3) := by decide +kernel
theorem dX12_kernels_50 : decode cX12_kernels 50 = .ok (.aload_n 0, 1) := by decide +kernel
theorem dX12_kernels_51 : decode cX12_kernels 51 = .ok (.getfield 32, 3) := by decide +kernel
theorem dX12_kernels_54 : decode cX12_kernels 54 = .ok (.iconst 1, 1) := by decide +kernel
theorem dX12_kernels_55 : decode cX12_kernels 55 = .ok (.iaload, 1) := by decide +kernel
theorem dX12_kernels_56 : decode cX12_kernels 56 = .ok (.iconst (-1), 1) := by decide +kernel
theorem dX12_kernels_57 : decode cX12_kernels 57 = .ok (.ixor, 1) := by decide +kernel
theorem dX12_kernels_58 : decode cX12_kernels 58 = .ok (.iand, 1) := by decide +kernel
theorem dX12_kernels_59 : decode cX12_kernels 59 = .ok (.putfield 225, 3) := by decide +kernel
theorem dX12_kernels_62 : decode cX12_kernels 62 = .ok (.aload_n 0, 1) := by decide +kernel
theorem dX12_kernels_63 : decode cX12_kernels 63 = .ok (.dup, 1) := by decide +kernel
theorem dX12_kernels_64 : decode cX12_kernels 64 = .ok (.getfield 237, 3) := by decide +kernel
theorem dX12_kernels_67 : decode cX12_kernels 67 = .ok (.aload_n 0, 1) := by decide +kernel
theorem dX12_kernels_68 : decode cX12_kernels 68 = .ok (.getfield 32, 3) := by decide +kernel
theorem dX12_kernels_71 : decode cX12_kernels 71 = .ok (.iconst 2, 1) := by decide +kernel
theorem dX12_kernels_72 : decode cX12_kernels 72 = .ok (.iaload, 1) := by decide +kernel
theorem dX12_kernels_73 : decode cX12_kernels 73 = .ok (.ior, 1) := by decide +kernel
theorem dX12_kernels_74 : decode cX12_kernels 74 = .ok (.putfield 237, 3) := by decide +kernel
theorem dX12_kernels_77 : decode cX12_kernels 77 = .ok (.aload_n 0, 1) := by decide +kernel
theorem dX12_kernels_78 : decode cX12_kernels 78 = .ok (.dup, 1) := by decide +kernel
theorem dX12_kernels_79 : decode cX12_kernels 79 = .ok (.getfield 231, 3) := by decide +kernel
theorem dX12_kernels_82 : decode cX12_kernels 82 = .ok (.aload_n 0, 1) := by decide +kernel
theorem dX12_kernels_83 : decode cX12_kernels 83 = .ok (.getfield 32, 3) := by decide +kernel
theorem dX12_kernels_86 : decode cX12_kernels 86 = .ok (.iconst 2, 1) := by decide +kernel
theorem dX12_kernels_87 : decode cX12_kernels 87 = .ok (.iaload, 1) := by decide +kernel
theorem dX12_kernels_88 : decode cX12_kernels 88 = .ok (.invokestatic 133, 3) := by decide +kernel
theorem dX12_kernels_91 : decode cX12_kernels 91 = .ok (.isub, 1) := by decide +kernel
theorem dX12_kernels_92 : decode cX12_kernels 92 = .ok (.putfield 231, 3) := by decide +kernel
theorem dX12_kernels_95 : decode cX12_kernels 95 = .ok (.aload_n 0, 1) := by decide +kernel
theorem dX12_kernels_96 : decode cX12_kernels 96 = .ok (.dup, 1) := by decide +kernel
theorem dX12_kernels_97 : decode cX12_kernels 97 = .ok (.getfield 240, 3) := by decide +kernel
theorem dX12_kernels_100 : decode cX12_kernels 100 = .ok (.iconst 1, 1) := by decide +kernel
theorem dX12_kernels_101 : decode cX12_kernels 101 = .ok (.iadd, 1) := by decide +kernel
theorem dX12_kernels_102 : decode cX12_kernels 102 = .ok (.putfield 240, 3) := by decide +kernel
theorem dX12_kernels_105 : decode cX12_kernels 105 = .ok (.goto (-82), 3) := by decide +kernel
theorem dX12_kernels_108 : decode cX12_kernels 108 = .ok (.return_, 1) := by decide +kernel
theorem dX12_kernel_0 : decode cX12_kernel 0 = .ok (.iload_n 1, 1) := by decide +kernel
theorem dX12_kernel_1 : decode cX12_kernel 1 = .ok (.iconst 0, 1) := by decide +kernel
theorem dX12_kernel_2 : decode cX12_kernel 2 = .ok (.bipush 12, 2) := by decide +kernel
theorem dX12_kernel_4 : decode cX12_kernel 4 = .ok (.invokestatic 125, 3) := by decide +kernel
theorem dX12_kernel_7 : decode cX12_kernel 7 = .ok (.ifCond .eq 12, 3) := by decide +kernel
theorem dX12_kernel_10 : decode cX12_kernel 10 = .ok (.iload_n 2, 1) := by decide +kernel
theorem dX12_kernel_11 : decode cX12_kernel 11 = .ok (.iconst 0, 1) := by decide +kernel
theorem dX12_kernel_12 : decode cX12_kernel 12 = .ok (.iconst 4, 1) := by decide +kernel
theorem dX12_kernel_13 : decode cX12_kernel 13 = .ok (.invokestatic 125, 3) := by decide +kernel
theorem dX12_kernel_16 : decode cX12_kernel 16 = .ok (.ifCond .ne 6, 3) := by decide +kernel
theorem dX12_kernel_19 : decode cX12_kernel 19 = .ok (.bipush (-2), 2) := by decide +kernel
theorem dX12_kernel_21 : decode cX12_kernel 21 = .ok (.ireturn, 1) := by decide +kernel
theorem dX12_kernel_22 : decode cX12_kernel 22 = .ok (.aload_n 0, 1) := by decide +kernel
theorem dX12_kernel_23 : decode cX12_kernel 23 = .ok (.iload_n 1, 1) := by decide +kernel
theorem dX12_kernel_24 : decode cX12_kernel 24 = .ok (.ldc 183, 2) := by decide +kernel
theorem dX12_kernel_26 : decode cX12_kernel 26 = .ok (.invokevirtual 247, 3) := by decide +kernel
theorem dX12_kernel_29 : decode cX12_kernel 29 = .ok (.iload_n 2, 1) := by decide +kernel
theorem dX12_kernel_30 : decode cX12_kernel 30 = .ok (.tableswitch 53 0 3 #[30, 35, 40, 48], 30) := by decide +kernel
theorem dX12_kernel_60 : decode cX12_kernel 60 = .ok (.aload_n 0, 1) := by decide +kernel
theorem dX12_kernel_61 : decode cX12_kernel 61 = .ok (.getfield 225, 3) := by decide +kernel
theorem dX12_kernel_64 : decode cX12_kernel 64 = .ok (.ireturn, 1) := by decide +kernel
theorem dX12_kernel_65 : decode cX12_kernel 65 = .ok (.aload_n 0, 1) := by decide +kernel
theorem dX12_kernel_66 : decode cX12_kernel 66 = .ok (.getfield 237, 3) := by decide +kernel
theorem dX12_kernel_69 : decode cX12_kernel 69 = .ok (.ireturn, 1) := by decide +kernel
theorem dX12_kernel_70 : decode cX12_kernel 70 = .ok (.aload_n 0, 1) := by decide +kernel
theorem dX12_kernel_71 : decode cX12_kernel 71 = .ok (.getfield 231, 3) := by decide +kernel
theorem dX12_kernel_74 : decode cX12_kernel 74 = .ok (.bipush 20, 2) := by decide +kernel
theorem dX12_kernel_76 : decode cX12_kernel 76 = .ok (.iadd, 1) := by decide +kernel
theorem dX12_kernel_77 : decode cX12_kernel 77 = .ok (.ireturn, 1) := by decide +kernel
theorem dX12_kernel_78 : decode cX12_kernel 78 = .ok (.aload_n 0, 1) := by decide +kernel
theorem dX12_kernel_79 : decode cX12_kernel 79 = .ok (.getfield 240, 3) := by decide +kernel
theorem dX12_kernel_82 : decode cX12_kernel 82 = .ok (.ireturn, 1) := by decide +kernel
theorem dX12_kernel_83 : decode cX12_kernel 83 = .ok (.aload_n 0, 1) := by decide +kernel
theorem dX12_kernel_84 : decode cX12_kernel 84 = .ok (.getfield 231, 3) := by decide +kernel
theorem dX12_kernel_87 : decode cX12_kernel 87 = .ok (.ifCond .lt 19, 3) := by decide +kernel
theorem dX12_kernel_90 : decode cX12_kernel 90 = .ok (.aload_n 0, 1) := by decide +kernel
theorem dX12_kernel_91 : decode cX12_kernel 91 = .ok (.getfield 225, 3) := by decide +kernel
theorem dX12_kernel_94 : decode cX12_kernel 94 = .ok (.invokestatic 133, 3) := by decide +kernel
theorem dX12_kernel_97 : decode cX12_kernel 97 = .ok (.iconst 2, 1) := by decide +kernel
theorem dX12_kernel_98 : decode cX12_kernel 98 = .ok (.aload_n 0, 1) := by decide +kernel
theorem dX12_kernel_99 : decode cX12_kernel 99 = .ok (.getfield 231, 3) := by decide +kernel
theorem dX12_kernel_102 : decode cX12_kernel 102 = .ok (.imul, 1) := by decide +kernel
theorem dX12_kernel_103 : decode cX12_kernel 103 = .ok (.if_icmp .le 7, 3) := by decide +kernel
theorem dX12_kernel_106 : decode cX12_kernel 106 = .ok (.iconst 1, 1) := by decide +kernel
theorem dX12_kernel_107 : decode cX12_kernel 107 = .ok (.goto 4, 3) := by decide +kernel
theorem dX12_kernel_110 : decode cX12_kernel 110 = .ok (.iconst 0, 1) := by decide +kernel
theorem dX12_kernel_111 : decode cX12_kernel 111 = .ok (.ireturn, 1) := by decide +kernel
theorem dX12_round_0 : decode cX12_round 0 = .ok (.iload_n 1, 1) := by decide +kernel
theorem dX12_round_1 : decode cX12_round 1 = .ok (.iconst 0, 1) := by decide +kernel
theorem dX12_round_2 : decode cX12_round 2 = .ok (.bipush 12, 2) := by decide +kernel
theorem dX12_round_4 : decode cX12_round 4 = .ok (.invokestatic 125, 3) := by decide +kernel
theorem dX12_round_7 : decode cX12_round 7 = .ok (.ifCond .eq 16, 3) := by decide +kernel
theorem dX12_round_10 : decode cX12_round 10 = .ok (.iload_n 2, 1) := by decide +kernel
theorem dX12_round_11 : decode cX12_round 11 = .ok (.ifCond .lt 12, 3) := by decide +kernel
theorem dX12_round_14 : decode cX12_round 14 = .ok (.iload_n 3, 1) := by decide +kernel
theorem dX12_round_15 : decode cX12_round 15 = .ok (.iconst 0, 1) := by decide +kernel
theorem dX12_round_16 : decode cX12_round 16 = .ok (.iconst 2, 1) := by decide +kernel
theorem dX12_round_17 : decode cX12_round 17 = .ok (.invokestatic 125, 3) := by decide +kernel
theorem dX12_round_20 : decode cX12_round 20 = .ok (.ifCond .ne 6, 3) := by decide +kernel
theorem dX12_round_23 : decode cX12_round 23 = .ok (.bipush (-2), 2) := by decide +kernel
theorem dX12_round_25 : decode cX12_round 25 = .ok (.ireturn, 1) := by decide +kernel
theorem dX12_round_26 : decode cX12_round 26 = .ok (.aload_n 0, 1) := by decide +kernel
theorem dX12_round_27 : decode cX12_round 27 = .ok (.iload_n 1, 1) := by decide +kernel
theorem dX12_round_28 : decode cX12_round 28 = .ok (.iload_n 2, 1) := by decide +kernel
theorem dX12_round_29 : decode cX12_round 29 = .ok (.bipush 12, 2) := by decide +kernel
theorem dX12_round_31 : decode cX12_round 31 = .ok (.if_icmp .le 8, 3) := by decide +kernel
theorem dX12_round_34 : decode cX12_round 34 = .ok (.ldc 183, 2) := by decide +kernel
theorem dX12_round_36 : decode cX12_round 36 = .ok (.goto 6, 3) := by decide +kernel
theorem dX12_round_39 : decode cX12_round 39 = .ok (.iload_n 2, 1) := by decide +kernel
theorem dX12_round_40 : decode cX12_round 40 = .ok (.iconst 1, 1) := by decide +kernel
theorem dX12_round_41 : decode cX12_round 41 = .ok (.iadd, 1) := by decide +kernel
theorem dX12_round_42 : decode cX12_round 42 = .ok (.invokevirtual 247, 3) := by decide +kernel
theorem dX12_round_45 : decode cX12_round 45 = .ok (.aload_n 0, 1) := by decide +kernel
theorem dX12_round_46 : decode cX12_round 46 = .ok (.getfield 240, 3) := by decide +kernel
theorem dX12_round_49 : decode cX12_round 49 = .ok (.iload_n 2, 1) := by decide +kernel
theorem dX12_round_50 : decode cX12_round 50 = .ok (.iconst 1, 1) := by decide +kernel
theorem dX12_round_51 : decode cX12_round 51 = .ok (.iadd, 1) := by decide +kernel
theorem dX12_round_52 : decode cX12_round 52 = .ok (.if_icmp .ne 12, 3) := by decide +kernel
theorem dX12_round_55 : decode cX12_round 55 = .ok (.aload_n 0, 1) := by decide +kernel
theorem dX12_round_56 : decode cX12_round 56 = .ok (.getfield 32, 3) := by decide +kernel
theorem dX12_round_59 : decode cX12_round 59 = .ok (.iload_n 3, 1) := by decide +kernel
theorem dX12_round_60 : decode cX12_round 60 = .ok (.iaload, 1) := by decide +kernel
theorem dX12_round_61 : decode cX12_round 61 = .ok (.goto 5, 3) := by decide +kernel
theorem dX12_round_64 : decode cX12_round 64 = .ok (.bipush (-2), 2) := by decide +kernel
theorem dX12_round_66 : decode cX12_round 66 = .ok (.ireturn, 1) := by decide +kernel
theorem dX12_packsTo_0 : decode cX12_packsTo 0 = .ok (.aload_n 0, 1) := by decide +kernel
theorem dX12_packsTo_1 : decode cX12_packsTo 1 = .ok (.getfield 35, 3) := by decide +kernel
theorem dX12_packsTo_4 : decode cX12_packsTo 4 = .ok (.iload_n 2, 1) := by decide +kernel
theorem dX12_packsTo_5 : decode cX12_packsTo 5 = .ok (.iaload, 1) := by decide +kernel
theorem dX12_packsTo_6 : decode cX12_packsTo 6 = .ok (.iload_n 3, 1) := by decide +kernel
theorem dX12_packsTo_7 : decode cX12_packsTo 7 = .ok (.iadd, 1) := by decide +kernel
theorem dX12_packsTo_8 : decode cX12_packsTo 8 = .ok (.istore 4, 2) := by decide +kernel
theorem dX12_packsTo_10 : decode cX12_packsTo 10 = .ok (.aload_n 0, 1) := by decide +kernel
theorem dX12_packsTo_11 : decode cX12_packsTo 11 = .ok (.getfield 38, 3) := by decide +kernel
theorem dX12_packsTo_14 : decode cX12_packsTo 14 = .ok (.iload_n 2, 1) := by decide +kernel
theorem dX12_packsTo_15 : decode cX12_packsTo 15 = .ok (.iaload, 1) := by decide +kernel
theorem dX12_packsTo_16 : decode cX12_packsTo 16 = .ok (.iload_n 3, 1) := by decide +kernel
theorem dX12_packsTo_17 : decode cX12_packsTo 17 = .ok (.ifCond .ne 7, 3) := by decide +kernel
theorem dX12_packsTo_20 : decode cX12_packsTo 20 = .ok (.iconst 0, 1) := by decide +kernel
theorem dX12_packsTo_21 : decode cX12_packsTo 21 = .ok (.goto 4, 3) := by decide +kernel
theorem dX12_packsTo_24 : decode cX12_packsTo 24 = .ok (.iconst 1, 1) := by decide +kernel
theorem dX12_packsTo_25 : decode cX12_packsTo 25 = .ok (.iadd, 1) := by decide +kernel
theorem dX12_packsTo_26 : decode cX12_packsTo 26 = .ok (.istore 5, 2) := by decide +kernel
theorem dX12_packsTo_28 : decode cX12_packsTo 28 = .ok (.iload 4, 2) := by decide +kernel
theorem dX12_packsTo_30 : decode cX12_packsTo 30 = .ok (.aload_n 0, 1) := by decide +kernel
theorem dX12_packsTo_31 : decode cX12_packsTo 31 = .ok (.getfield 35, 3) := by decide +kernel
theorem dX12_packsTo_34 : decode cX12_packsTo 34 = .ok (.iload_n 1, 1) := by decide +kernel
theorem dX12_packsTo_35 : decode cX12_packsTo 35 = .ok (.iaload, 1) := by decide +kernel
theorem dX12_packsTo_36 : decode cX12_packsTo 36 = .ok (.if_icmp .lt 25, 3) := by decide +kernel
theorem dX12_packsTo_39 : decode cX12_packsTo 39 = .ok (.iload 4, 2) := by decide +kernel
theorem dX12_packsTo_41 : decode cX12_packsTo 41 = .ok (.aload_n 0, 1) := by decide +kernel
theorem dX12_packsTo_42 : decode cX12_packsTo 42 = .ok (.getfield 35, 3) := by decide +kernel
theorem dX12_packsTo_45 : decode cX12_packsTo 45 = .ok (.iload_n 1, 1) := by decide +kernel
theorem dX12_packsTo_46 : decode cX12_packsTo 46 = .ok (.iaload, 1) := by decide +kernel
theorem dX12_packsTo_47 : decode cX12_packsTo 47 = .ok (.if_icmp .ne 15, 3) := by decide +kernel
theorem dX12_packsTo_50 : decode cX12_packsTo 50 = .ok (.iload 5, 2) := by decide +kernel
theorem dX12_packsTo_52 : decode cX12_packsTo 52 = .ok (.aload_n 0, 1) := by decide +kernel
theorem dX12_packsTo_53 : decode cX12_packsTo 53 = .ok (.getfield 38, 3) := by decide +kernel
theorem dX12_packsTo_56 : decode cX12_packsTo 56 = .ok (.iload_n 1, 1) := by decide +kernel
theorem dX12_packsTo_57 : decode cX12_packsTo 57 = .ok (.iaload, 1) := by decide +kernel
theorem dX12_packsTo_58 : decode cX12_packsTo 58 = .ok (.if_icmp .lt 4, 3) := by decide +kernel
theorem dX12_packsTo_61 : decode cX12_packsTo 61 = .ok (.return_, 1) := by decide +kernel
theorem dX12_packsTo_62 : decode cX12_packsTo 62 = .ok (.aload_n 0, 1) := by decide +kernel
theorem dX12_packsTo_63 : decode cX12_packsTo 63 = .ok (.getfield 35, 3) := by decide +kernel
theorem dX12_packsTo_66 : decode cX12_packsTo 66 = .ok (.iload_n 1, 1) := by decide +kernel
theorem dX12_packsTo_67 : decode cX12_packsTo 67 = .ok (.iload 4, 2) := by decide +kernel
theorem dX12_packsTo_69 : decode cX12_packsTo 69 = .ok (.iastore, 1) := by decide +kernel
theorem dX12_packsTo_70 : decode cX12_packsTo 70 = .ok (.aload_n 0, 1) := by decide +kernel
theorem dX12_packsTo_71 : decode cX12_packsTo 71 = .ok (.getfield 38, 3) := by decide +kernel
theorem dX12_packsTo_74 : decode cX12_packsTo 74 = .ok (.iload_n 1, 1) := by decide +kernel
theorem dX12_packsTo_75 : decode cX12_packsTo 75 = .ok (.iload 5, 2) := by decide +kernel
theorem dX12_packsTo_77 : decode cX12_packsTo 77 = .ok (.iastore, 1) := by decide +kernel
theorem dX12_packsTo_78 : decode cX12_packsTo 78 = .ok (.return_, 1) := by decide +kernel
theorem dX12_pack_0 : decode cX12_pack 0 = .ok (.iload_n 1, 1) := by decide +kernel
theorem dX12_pack_1 : decode cX12_pack 1 = .ok (.iconst 0, 1) := by decide +kernel
theorem dX12_pack_2 : decode cX12_pack 2 = .ok (.iconst 1, 1) := by decide +kernel
theorem dX12_pack_3 : decode cX12_pack 3 = .ok (.invokestatic 125, 3) := by decide +kernel
theorem dX12_pack_6 : decode cX12_pack 6 = .ok (.ifCond .ne 6, 3) := by decide +kernel
theorem dX12_pack_9 : decode cX12_pack 9 = .ok (.bipush (-2), 2) := by decide +kernel
theorem dX12_pack_11 : decode cX12_pack 11 = .ok (.ireturn, 1) := by decide +kernel
theorem dX12_pack_12 : decode cX12_pack 12 = .ok (.aload_n 0, 1) := by decide +kernel
theorem dX12_pack_13 : decode cX12_pack 13 = .ok (.getfield 35, 3) := by decide +kernel
theorem dX12_pack_16 : decode cX12_pack 16 = .ok (.iconst 0, 1) := by decide +kernel
theorem dX12_pack_17 : decode cX12_pack 17 = .ok (.iconst 0, 1) := by decide +kernel
theorem dX12_pack_18 : decode cX12_pack 18 = .ok (.iastore, 1) := by decide +kernel
theorem dX12_pack_19 : decode cX12_pack 19 = .ok (.aload_n 0, 1) := by decide +kernel
theorem dX12_pack_20 : decode cX12_pack 20 = .ok (.getfield 38, 3) := by decide +kernel
theorem dX12_pack_23 : decode cX12_pack 23 = .ok (.iconst 0, 1) := by decide +kernel
theorem dX12_pack_24 : decode cX12_pack 24 = .ok (.iconst 0, 1) := by decide +kernel
theorem dX12_pack_25 : decode cX12_pack 25 = .ok (.iastore, 1) := by decide +kernel
theorem dX12_pack_26 : decode cX12_pack 26 = .ok (.iconst 1, 1) := by decide +kernel
theorem dX12_pack_27 : decode cX12_pack 27 = .ok (.istore_n 2, 1) := by decide +kernel
theorem dX12_pack_28 : decode cX12_pack 28 = .ok (.iload_n 2, 1) := by decide +kernel
theorem dX12_pack_29 : decode cX12_pack 29 = .ok (.aload_n 0, 1) := by decide +kernel
theorem dX12_pack_30 : decode cX12_pack 30 = .ok (.invokevirtual 129, 3) := by decide +kernel
theorem dX12_pack_33 : decode cX12_pack 33 = .ok (.if_icmp .gt 157, 3) := by decide +kernel
theorem dX12_pack_36 : decode cX12_pack 36 = .ok (.iload_n 2, 1) := by decide +kernel
theorem dX12_pack_37 : decode cX12_pack 37 = .ok (.invokestatic 213, 3) := by decide +kernel
theorem dX12_pack_40 : decode cX12_pack 40 = .ok (.istore_n 3, 1) := by decide +kernel
theorem dX12_pack_41 : decode cX12_pack 41 = .ok (.iload_n 2, 1) := by decide +kernel
theorem dX12_pack_42 : decode cX12_pack 42 = .ok (.iload_n 2, 1) := by decide +kernel
theorem dX12_pack_43 : decode cX12_pack 43 = .ok (.iconst 1, 1) := by decide +kernel
theorem dX12_pack_44 : decode cX12_pack 44 = .ok (.isub, 1) := by decide +kernel
theorem dX12_pack_45 : decode cX12_pack 45 = .ok (.iand, 1) := by decide +kernel
theorem dX12_pack_46 : decode cX12_pack 46 = .ok (.istore 4, 2) := by decide +kernel
theorem dX12_pack_48 : decode cX12_pack 48 = .ok (.aload_n 0, 1) := by decide +kernel
theorem dX12_pack_49 : decode cX12_pack 49 = .ok (.getfield 35, 3) := by decide +kernel
theorem dX12_pack_52 : decode cX12_pack 52 = .ok (.iload_n 2, 1) := by decide +kernel
theorem dX12_pack_53 : decode cX12_pack 53 = .ok (.iconst (-1), 1) := by decide +kernel
theorem dX12_pack_54 : decode cX12_pack 54 = .ok (.iastore, 1) := by decide +kernel
theorem dX12_pack_55 : decode cX12_pack 55 = .ok (.aload_n 0, 1) := by decide +kernel
theorem dX12_pack_56 : decode cX12_pack 56 = .ok (.iload_n 2, 1) := by decide +kernel
theorem dX12_pack_57 : decode cX12_pack 57 = .ok (.iload 4, 2) := by decide +kernel
theorem dX12_pack_59 : decode cX12_pack 59 = .ok (.iconst 0, 1) := by decide +kernel
theorem dX12_pack_60 : decode cX12_pack 60 = .ok (.invokevirtual 250, 3) := by decide +kernel
theorem dX12_pack_63 : decode cX12_pack 63 = .ok (.iload_n 3, 1) := by decide +kernel
theorem dX12_pack_64 : decode cX12_pack 64 = .ok (.iconst 1, 1) := by decide +kernel
theorem dX12_pack_65 : decode cX12_pack 65 = .ok (.iadd, 1) := by decide +kernel
theorem dX12_pack_66 : decode cX12_pack 66 = .ok (.istore 5, 2) := by decide +kernel
theorem dX12_pack_68 : decode cX12_pack 68 = .ok (.iload 5, 2) := by decide +kernel
theorem dX12_pack_70 : decode cX12_pack 70 = .ok (.aload_n 0, 1) := by decide +kernel
theorem dX12_pack_71 : decode cX12_pack 71 = .ok (.getfield 122, 3) := by decide +kernel
theorem dX12_pack_74 : decode cX12_pack 74 = .ok (.if_icmp .ge 110, 3) := by decide +kernel
theorem dX12_pack_77 : decode cX12_pack 77 = .ok (.iload 4, 2) := by decide +kernel
theorem dX12_pack_79 : decode cX12_pack 79 = .ok (.aload_n 0, 1) := by decide +kernel
theorem dX12_pack_80 : decode cX12_pack 80 = .ok (.getfield 20, 3) := by decide +kernel
theorem dX12_pack_83 : decode cX12_pack 83 = .ok (.iload_n 3, 1) := by decide +kernel
theorem dX12_pack_84 : decode cX12_pack 84 = .ok (.iaload, 1) := by decide +kernel
theorem dX12_pack_85 : decode cX12_pack 85 = .ok (.iand, 1) := by decide +kernel
theorem dX12_pack_86 : decode cX12_pack 86 = .ok (.iload 5, 2) := by decide +kernel
theorem dX12_pack_88 : decode cX12_pack 88 = .ok (.invokestatic 118, 3) := by decide +kernel
theorem dX12_pack_91 : decode cX12_pack 91 = .ok (.ifCond .ne 6, 3) := by decide +kernel
theorem dX12_pack_94 : decode cX12_pack 94 = .ok (.goto 84, 3) := by decide +kernel
theorem dX12_pack_97 : decode cX12_pack 97 = .ok (.aload_n 0, 1) := by decide +kernel
theorem dX12_pack_98 : decode cX12_pack 98 = .ok (.iload_n 2, 1) := by decide +kernel
theorem dX12_pack_99 : decode cX12_pack 99 = .ok (.iload 4, 2) := by decide +kernel
theorem dX12_pack_101 : decode cX12_pack 101 = .ok (.iconst 1, 1) := by decide +kernel
theorem dX12_pack_102 : decode cX12_pack 102 = .ok (.iload 5, 2) := by decide +kernel
theorem dX12_pack_104 : decode cX12_pack 104 = .ok (.ishl, 1) := by decide +kernel
theorem dX12_pack_105 : decode cX12_pack 105 = .ok (.iconst (-1), 1) := by decide +kernel
theorem dX12_pack_106 : decode cX12_pack 106 = .ok (.ixor, 1) := by decide +kernel
theorem dX12_pack_107 : decode cX12_pack 107 = .ok (.iand, 1) := by decide +kernel
theorem dX12_pack_108 : decode cX12_pack 108 = .ok (.iconst 1, 1) := by decide +kernel
theorem dX12_pack_109 : decode cX12_pack 109 = .ok (.invokevirtual 250, 3) := by decide +kernel
theorem dX12_pack_112 : decode cX12_pack 112 = .ok (.iload 5, 2) := by decide +kernel
theorem dX12_pack_114 : decode cX12_pack 114 = .ok (.iconst 1, 1) := by decide +kernel
theorem dX12_pack_115 : decode cX12_pack 115 = .ok (.iadd, 1) := by decide +kernel
theorem dX12_pack_116 : decode cX12_pack 116 = .ok (.istore 6, 2) := by decide +kernel
theorem dX12_pack_118 : decode cX12_pack 118 = .ok (.iload 6, 2) := by decide +kernel
theorem dX12_pack_120 : decode cX12_pack 120 = .ok (.aload_n 0, 1) := by decide +kernel
theorem dX12_pack_121 : decode cX12_pack 121 = .ok (.getfield 122, 3) := by decide +kernel
theorem dX12_pack_124 : decode cX12_pack 124 = .ok (.if_icmp .ge 54, 3) := by decide +kernel
theorem dX12_pack_127 : decode cX12_pack 127 = .ok (.iload 4, 2) := by decide +kernel
theorem dX12_pack_129 : decode cX12_pack 129 = .ok (.aload_n 0, 1) := by decide +kernel
theorem dX12_pack_130 : decode cX12_pack 130 = .ok (.getfield 20, 3) := by decide +kernel
theorem dX12_pack_133 : decode cX12_pack 133 = .ok (.iload_n 3, 1) := by decide +kernel
theorem dX12_pack_134 : decode cX12_pack 134 = .ok (.iaload, 1) := by decide +kernel
theorem dX12_pack_135 : decode cX12_pack 135 = .ok (.iand, 1) := by decide +kernel
theorem dX12_pack_136 : decode cX12_pack 136 = .ok (.aload_n 0, 1) := by decide +kernel
theorem dX12_pack_137 : decode cX12_pack 137 = .ok (.getfield 20, 3) := by decide +kernel
theorem dX12_pack_140 : decode cX12_pack 140 = .ok (.iload 5, 2) := by decide +kernel
theorem dX12_pack_142 : decode cX12_pack 142 = .ok (.iaload, 1) := by decide +kernel
theorem dX12_pack_143 : decode cX12_pack 143 = .ok (.iand, 1) := by decide +kernel
theorem dX12_pack_144 : decode cX12_pack 144 = .ok (.iload 6, 2) := by decide +kernel
theorem dX12_pack_146 : decode cX12_pack 146 = .ok (.invokestatic 118, 3) := by decide +kernel
theorem dX12_pack_149 : decode cX12_pack 149 = .ok (.ifCond .eq 23, 3) := by decide +kernel
theorem dX12_pack_152 : decode cX12_pack 152 = .ok (.aload_n 0, 1) := by decide +kernel
theorem dX12_pack_153 : decode cX12_pack 153 = .ok (.iload_n 2, 1) := by decide +kernel
theorem dX12_pack_154 : decode cX12_pack 154 = .ok (.iload 4, 2) := by decide +kernel
theorem dX12_pack_156 : decode cX12_pack 156 = .ok (.iconst 1, 1) := by decide +kernel
theorem dX12_pack_157 : decode cX12_pack 157 = .ok (.iload 5, 2) := by decide +kernel
theorem dX12_pack_159 : decode cX12_pack 159 = .ok (.ishl, 1) := by decide +kernel
theorem dX12_pack_160 : decode cX12_pack 160 = .ok (.iconst 1, 1) := by decide +kernel
theorem dX12_pack_161 : decode cX12_pack 161 = .ok (.iload 6, 2) := by decide +kernel
theorem dX12_pack_163 : decode cX12_pack 163 = .ok (.ishl, 1) := by decide +kernel
theorem dX12_pack_164 : decode cX12_pack 164 = .ok (.ior, 1) := by decide +kernel
theorem dX12_pack_165 : decode cX12_pack 165 = .ok (.iconst (-1), 1) := by decide +kernel
theorem dX12_pack_166 : decode cX12_pack 166 = .ok (.ixor, 1) := by decide +kernel
theorem dX12_pack_167 : decode cX12_pack 167 = .ok (.iand, 1) := by decide +kernel
theorem dX12_pack_168 : decode cX12_pack 168 = .ok (.iconst 2, 1) := by decide +kernel
theorem dX12_pack_169 : decode cX12_pack 169 = .ok (.invokevirtual 250, 3) := by decide +kernel
theorem dX12_pack_172 : decode cX12_pack 172 = .ok (.iinc 6 1, 3) := by decide +kernel
theorem dX12_pack_175 : decode cX12_pack 175 = .ok (.goto (-57), 3) := by decide +kernel
theorem dX12_pack_178 : decode cX12_pack 178 = .ok (.iinc 5 1, 3) := by decide +kernel
theorem dX12_pack_181 : decode cX12_pack 181 = .ok (.goto (-113), 3) := by decide +kernel
theorem dX12_pack_184 : decode cX12_pack 184 = .ok (.iinc 2 1, 3) := by decide +kernel
theorem dX12_pack_187 : decode cX12_pack 187 = .ok (.goto (-159), 3) := by decide +kernel
theorem dX12_pack_190 : decode cX12_pack 190 = .ok (.iload_n 1, 1) := by decide +kernel
theorem dX12_pack_191 : decode cX12_pack 191 = .ok (.ifCond .ne 15, 3) := by decide +kernel
theorem dX12_pack_194 : decode cX12_pack 194 = .ok (.aload_n 0, 1) := by decide +kernel
theorem dX12_pack_195 : decode cX12_pack 195 = .ok (.getfield 35, 3) := by decide +kernel
theorem dX12_pack_198 : decode cX12_pack 198 = .ok (.aload_n 0, 1) := by decide +kernel
theorem dX12_pack_199 : decode cX12_pack 199 = .ok (.invokevirtual 129, 3) := by decide +kernel
theorem dX12_pack_202 : decode cX12_pack 202 = .ok (.iaload, 1) := by decide +kernel
theorem dX12_pack_203 : decode cX12_pack 203 = .ok (.goto 12, 3) := by decide +kernel
theorem dX12_pack_206 : decode cX12_pack 206 = .ok (.aload_n 0, 1) := by decide +kernel
theorem dX12_pack_207 : decode cX12_pack 207 = .ok (.getfield 38, 3) := by decide +kernel
theorem dX12_pack_210 : decode cX12_pack 210 = .ok (.aload_n 0, 1) := by decide +kernel
theorem dX12_pack_211 : decode cX12_pack 211 = .ok (.invokevirtual 129, 3) := by decide +kernel
theorem dX12_pack_214 : decode cX12_pack 214 = .ok (.iaload, 1) := by decide +kernel
theorem dX12_pack_215 : decode cX12_pack 215 = .ok (.ireturn, 1) := by decide +kernel
theorem dX12_isPacked_0 : decode cX12_isPacked 0 = .ok (.aload_n 0, 1) := by decide +kernel
theorem dX12_isPacked_1 : decode cX12_isPacked 1 = .ok (.iload_n 1, 1) := by decide +kernel
theorem dX12_isPacked_2 : decode cX12_isPacked 2 = .ok (.invokevirtual 171, 3) := by decide +kernel
theorem dX12_isPacked_5 : decode cX12_isPacked 5 = .ok (.ifCond .eq 19, 3) := by decide +kernel
theorem dX12_isPacked_8 : decode cX12_isPacked 8 = .ok (.iload_n 1, 1) := by decide +kernel
theorem dX12_isPacked_9 : decode cX12_isPacked 9 = .ok (.invokestatic 133, 3) := by decide +kernel
theorem dX12_isPacked_12 : decode cX12_isPacked 12 = .ok (.iconst 2, 1) := by decide +kernel
theorem dX12_isPacked_13 : decode cX12_isPacked 13 = .ok (.iconst 3, 1) := by decide +kernel
theorem dX12_isPacked_14 : decode cX12_isPacked 14 = .ok (.invokestatic 125, 3) := by decide +kernel
theorem dX12_isPacked_17 : decode cX12_isPacked 17 = .ok (.ifCond .eq 7, 3) := by decide +kernel
theorem dX12_isPacked_20 : decode cX12_isPacked 20 = .ok (.iconst 1, 1) := by decide +kernel
theorem dX12_isPacked_21 : decode cX12_isPacked 21 = .ok (.goto 4, 3) := by decide +kernel
theorem dX12_isPacked_24 : decode cX12_isPacked 24 = .ok (.iconst 0, 1) := by decide +kernel
theorem dX12_isPacked_25 : decode cX12_isPacked 25 = .ok (.istore_n 2, 1) := by decide +kernel
theorem dX12_isPacked_26 : decode cX12_isPacked 26 = .ok (.iconst 0, 1) := by decide +kernel
theorem dX12_isPacked_27 : decode cX12_isPacked 27 = .ok (.istore_n 3, 1) := by decide +kernel
theorem dX12_isPacked_28 : decode cX12_isPacked 28 = .ok (.iload_n 3, 1) := by decide +kernel
theorem dX12_isPacked_29 : decode cX12_isPacked 29 = .ok (.aload_n 0, 1) := by decide +kernel
theorem dX12_isPacked_30 : decode cX12_isPacked 30 = .ok (.getfield 122, 3) := by decide +kernel
theorem dX12_isPacked_33 : decode cX12_isPacked 33 = .ok (.if_icmp .ge 43, 3) := by decide +kernel
theorem dX12_isPacked_36 : decode cX12_isPacked 36 = .ok (.iload_n 2, 1) := by decide +kernel
theorem dX12_isPacked_37 : decode cX12_isPacked 37 = .ok (.ifCond .eq 39, 3) := by decide +kernel
theorem dX12_isPacked_40 : decode cX12_isPacked 40 = .ok (.iload_n 1, 1) := by decide +kernel
theorem dX12_isPacked_41 : decode cX12_isPacked 41 = .ok (.iload_n 3, 1) := by decide +kernel
theorem dX12_isPacked_42 : decode cX12_isPacked 42 = .ok (.invokestatic 118, 3) := by decide +kernel
theorem dX12_isPacked_45 : decode cX12_isPacked 45 = .ok (.ifCond .eq 19, 3) := by decide +kernel
theorem dX12_isPacked_48 : decode cX12_isPacked 48 = .ok (.iload_n 1, 1) := by decide +kernel
theorem dX12_isPacked_49 : decode cX12_isPacked 49 = .ok (.aload_n 0, 1) := by decide +kernel
theorem dX12_isPacked_50 : decode cX12_isPacked 50 = .ok (.getfield 20, 3) := by decide +kernel
theorem dX12_isPacked_53 : decode cX12_isPacked 53 = .ok (.iload_n 3, 1) := by decide +kernel
theorem dX12_isPacked_54 : decode cX12_isPacked 54 = .ok (.iaload, 1) := by decide +kernel
theorem dX12_isPacked_55 : decode cX12_isPacked 55 = .ok (.iconst (-1), 1) := by decide +kernel
theorem dX12_isPacked_56 : decode cX12_isPacked 56 = .ok (.ixor, 1) := by decide +kernel
theorem dX12_isPacked_57 : decode cX12_isPacked 57 = .ok (.iand, 1) := by decide +kernel
theorem dX12_isPacked_58 : decode cX12_isPacked 58 = .ok (.iconst 1, 1) := by decide +kernel
theorem dX12_isPacked_59 : decode cX12_isPacked 59 = .ok (.iload_n 3, 1) := by decide +kernel
theorem dX12_isPacked_60 : decode cX12_isPacked 60 = .ok (.ishl, 1) := by decide +kernel
theorem dX12_isPacked_61 : decode cX12_isPacked 61 = .ok (.if_icmp .ne 7, 3) := by decide +kernel
theorem dX12_isPacked_64 : decode cX12_isPacked 64 = .ok (.iconst 1, 1) := by decide +kernel
theorem dX12_isPacked_65 : decode cX12_isPacked 65 = .ok (.goto 4, 3) := by decide +kernel
theorem dX12_isPacked_68 : decode cX12_isPacked 68 = .ok (.iconst 0, 1) := by decide +kernel
theorem dX12_isPacked_69 : decode cX12_isPacked 69 = .ok (.istore_n 2, 1) := by decide +kernel
theorem dX12_isPacked_70 : decode cX12_isPacked 70 = .ok (.iinc 3 1, 3) := by decide +kernel
theorem dX12_isPacked_73 : decode cX12_isPacked 73 = .ok (.goto (-45), 3) := by decide +kernel
theorem dX12_isPacked_76 : decode cX12_isPacked 76 = .ok (.iload_n 2, 1) := by decide +kernel
theorem dX12_isPacked_77 : decode cX12_isPacked 77 = .ok (.ireturn, 1) := by decide +kernel
theorem dX12_packs_0 : decode cX12_packs 0 = .ok (.iload_n 1, 1) := by decide +kernel
theorem dX12_packs_1 : decode cX12_packs 1 = .ok (.invokestatic 253, 3) := by decide +kernel
theorem dX12_packs_4 : decode cX12_packs 4 = .ok (.ifCond .ne 6, 3) := by decide +kernel
theorem dX12_packs_7 : decode cX12_packs 7 = .ok (.bipush (-2), 2) := by decide +kernel
theorem dX12_packs_9 : decode cX12_packs 9 = .ok (.ireturn, 1) := by decide +kernel
theorem dX12_packs_10 : decode cX12_packs 10 = .ok (.aload_n 0, 1) := by decide +kernel
theorem dX12_packs_11 : decode cX12_packs 11 = .ok (.getfield 97, 3) := by decide +kernel
theorem dX12_packs_14 : decode cX12_packs 14 = .ok (.iload_n 1, 1) := by decide +kernel
theorem dX12_packs_15 : decode cX12_packs 15 = .ok (.iaload, 1) := by decide +kernel
theorem dX12_packs_16 : decode cX12_packs 16 = .ok (.iconst (-1), 1) := by decide +kernel
theorem dX12_packs_17 : decode cX12_packs 17 = .ok (.if_icmp .ne 6, 3) := by decide +kernel
theorem dX12_packs_20 : decode cX12_packs 20 = .ok (.bipush (-11), 2) := by decide +kernel
theorem dX12_packs_22 : decode cX12_packs 22 = .ok (.ireturn, 1) := by decide +kernel
theorem dX12_packs_23 : decode cX12_packs 23 = .ok (.iconst 0, 1) := by decide +kernel
theorem dX12_packs_24 : decode cX12_packs 24 = .ok (.istore_n 2, 1) := by decide +kernel
theorem dX12_packs_25 : decode cX12_packs 25 = .ok (.iconst 0, 1) := by decide +kernel
theorem dX12_packs_26 : decode cX12_packs 26 = .ok (.istore_n 3, 1) := by decide +kernel
theorem dX12_packs_27 : decode cX12_packs 27 = .ok (.iconst 0, 1) := by decide +kernel
theorem dX12_packs_28 : decode cX12_packs 28 = .ok (.istore 4, 2) := by decide +kernel
theorem dX12_packs_30 : decode cX12_packs 30 = .ok (.iload 4, 2) := by decide +kernel
theorem dX12_packs_32 : decode cX12_packs 32 = .ok (.aload_n 0, 1) := by decide +kernel
theorem dX12_packs_33 : decode cX12_packs 33 = .ok (.getfield 100, 3) := by decide +kernel
theorem dX12_packs_36 : decode cX12_packs 36 = .ok (.iload_n 1, 1) := by decide +kernel
theorem dX12_packs_37 : decode cX12_packs 37 = .ok (.iaload, 1) := by decide +kernel
theorem dX12_packs_38 : decode cX12_packs 38 = .ok (.if_icmp .ge 60, 3) := by decide +kernel
theorem dX12_packs_41 : decode cX12_packs 41 = .ok (.aload_n 0, 1) := by decide +kernel
theorem dX12_packs_42 : decode cX12_packs 42 = .ok (.getfield 103, 3) := by decide +kernel
theorem dX12_packs_45 : decode cX12_packs 45 = .ok (.bipush 60, 2) := by decide +kernel
theorem dX12_packs_47 : decode cX12_packs 47 = .ok (.iload_n 1, 1) := by decide +kernel
theorem dX12_packs_48 : decode cX12_packs 48 = .ok (.imul, 1) := by decide +kernel
theorem dX12_packs_49 : decode cX12_packs 49 = .ok (.iload 4, 2) := by decide +kernel
theorem dX12_packs_51 : decode cX12_packs 51 = .ok (.iadd, 1) := by decide +kernel
theorem dX12_packs_52 : decode cX12_packs 52 = .ok (.iaload, 1) := by decide +kernel
theorem dX12_packs_53 : decode cX12_packs 53 = .ok (.istore 5, 2) := by decide +kernel
theorem dX12_packs_55 : decode cX12_packs 55 = .ok (.aload_n 0, 1) := by decide +kernel
theorem dX12_packs_56 : decode cX12_packs 56 = .ok (.iload 5, 2) := by decide +kernel
theorem dX12_packs_58 : decode cX12_packs 58 = .ok (.invokevirtual 256, 3) := by decide +kernel
theorem dX12_packs_61 : decode cX12_packs 61 = .ok (.ifCond .eq 10, 3) := by decide +kernel
theorem dX12_packs_64 : decode cX12_packs 64 = .ok (.iload 5, 2) := by decide +kernel
theorem dX12_packs_66 : decode cX12_packs 66 = .ok (.iload_n 2, 1) := by decide +kernel
theorem dX12_packs_67 : decode cX12_packs 67 = .ok (.iand, 1) := by decide +kernel
theorem dX12_packs_68 : decode cX12_packs 68 = .ok (.ifCond .eq 9, 3) := by decide +kernel
theorem dX12_packs_71 : decode cX12_packs 71 = .ok (.bipush (-100), 2) := by decide +kernel
theorem dX12_packs_73 : decode cX12_packs 73 = .ok (.iload 4, 2) := by decide +kernel
theorem dX12_packs_75 : decode cX12_packs 75 = .ok (.isub, 1) := by decide +kernel
theorem dX12_packs_76 : decode cX12_packs 76 = .ok (.ireturn, 1) := by decide +kernel
theorem dX12_packs_77 : decode cX12_packs 77 = .ok (.iload_n 2, 1) := by decide +kernel
theorem dX12_packs_78 : decode cX12_packs 78 = .ok (.iload 5, 2) := by decide +kernel
theorem dX12_packs_80 : decode cX12_packs 80 = .ok (.ior, 1) := by decide +kernel
theorem dX12_packs_81 : decode cX12_packs 81 = .ok (.istore_n 2, 1) := by decide +kernel
theorem dX12_packs_82 : decode cX12_packs 82 = .ok (.iload_n 3, 1) := by decide +kernel
theorem dX12_packs_83 : decode cX12_packs 83 = .ok (.iload 5, 2) := by decide +kernel
theorem dX12_packs_85 : decode cX12_packs 85 = .ok (.invokestatic 133, 3) := by decide +kernel
theorem dX12_packs_88 : decode cX12_packs 88 = .ok (.iconst 1, 1) := by decide +kernel
theorem dX12_packs_89 : decode cX12_packs 89 = .ok (.isub, 1) := by decide +kernel
theorem dX12_packs_90 : decode cX12_packs 90 = .ok (.iadd, 1) := by decide +kernel
theorem dX12_packs_91 : decode cX12_packs 91 = .ok (.istore_n 3, 1) := by decide +kernel
theorem dX12_packs_92 : decode cX12_packs 92 = .ok (.iinc 4 1, 3) := by decide +kernel
theorem dX12_packs_95 : decode cX12_packs 95 = .ok (.goto (-65), 3) := by decide +kernel
theorem dX12_packs_98 : decode cX12_packs 98 = .ok (.iload_n 3, 1) := by decide +kernel
theorem dX12_packs_99 : decode cX12_packs 99 = .ok (.ireturn, 1) := by decide +kernel
theorem dX12_branch_0 : decode cX12_branch 0 = .ok (.iconst (-1), 1) := by decide +kernel
theorem dX12_branch_1 : decode cX12_branch 1 = .ok (.istore_n 2, 1) := by decide +kernel
theorem dX12_branch_2 : decode cX12_branch 2 = .ok (.iconst 0, 1) := by decide +kernel
theorem dX12_branch_3 : decode cX12_branch 3 = .ok (.istore_n 3, 1) := by decide +kernel
theorem dX12_branch_4 : decode cX12_branch 4 = .ok (.iload_n 3, 1) := by decide +kernel
theorem dX12_branch_5 : decode cX12_branch 5 = .ok (.aload_n 0, 1) := by decide +kernel
theorem dX12_branch_6 : decode cX12_branch 6 = .ok (.getfield 122, 3) := by decide +kernel
theorem dX12_branch_9 : decode cX12_branch 9 = .ok (.if_icmp .ge 43, 3) := by decide +kernel
theorem dX12_branch_12 : decode cX12_branch 12 = .ok (.iload_n 1, 1) := by decide +kernel
theorem dX12_branch_13 : decode cX12_branch 13 = .ok (.iload_n 3, 1) := by decide +kernel
theorem dX12_branch_14 : decode cX12_branch 14 = .ok (.invokestatic 118, 3) := by decide +kernel
theorem dX12_branch_17 : decode cX12_branch 17 = .ok (.ifCond .eq 29, 3) := by decide +kernel
theorem dX12_branch_20 : decode cX12_branch 20 = .ok (.aload_n 0, 1) := by decide +kernel
theorem dX12_branch_21 : decode cX12_branch 21 = .ok (.iload_n 3, 1) := by decide +kernel
theorem dX12_branch_22 : decode cX12_branch 22 = .ok (.iload_n 1, 1) := by decide +kernel
theorem dX12_branch_23 : decode cX12_branch 23 = .ok (.invokevirtual 228, 3) := by decide +kernel
theorem dX12_branch_26 : decode cX12_branch 26 = .ok (.iload_n 2, 1) := by decide +kernel
theorem dX12_branch_27 : decode cX12_branch 27 = .ok (.iconst (-1), 1) := by decide +kernel
theorem dX12_branch_28 : decode cX12_branch 28 = .ok (.if_icmp .ne 7, 3) := by decide +kernel
theorem dX12_branch_31 : decode cX12_branch 31 = .ok (.iconst 0, 1) := by decide +kernel
theorem dX12_branch_32 : decode cX12_branch 32 = .ok (.goto 9, 3) := by decide +kernel
theorem dX12_branch_35 : decode cX12_branch 35 = .ok (.aload_n 0, 1) := by decide +kernel
theorem dX12_branch_36 : decode cX12_branch 36 = .ok (.iload_n 2, 1) := by decide +kernel
theorem dX12_branch_37 : decode cX12_branch 37 = .ok (.iload_n 1, 1) := by decide +kernel
theorem dX12_branch_38 : decode cX12_branch 38 = .ok (.invokevirtual 228, 3) := by decide +kernel
theorem dX12_branch_41 : decode cX12_branch 41 = .ok (.if_icmp .le 5, 3) := by decide +kernel
theorem dX12_branch_44 : decode cX12_branch 44 = .ok (.iload_n 3, 1) := by decide +kernel
theorem dX12_branch_45 : decode cX12_branch 45 = .ok (.istore_n 2, 1) := by decide +kernel
theorem dX12_branch_46 : decode cX12_branch 46 = .ok (.iinc 3 1, 3) := by decide +kernel
theorem dX12_branch_49 : decode cX12_branch 49 = .ok (.goto (-45), 3) := by decide +kernel
theorem dX12_branch_52 : decode cX12_branch 52 = .ok (.iload_n 2, 1) := by decide +kernel
theorem dX12_branch_53 : decode cX12_branch 53 = .ok (.ireturn, 1) := by decide +kernel
theorem dX12_searches_0 : decode cX12_searches 0 = .ok (.aload_n 0, 1) := by decide +kernel
theorem dX12_searches_1 : decode cX12_searches 1 = .ok (.getfield 259, 3) := by decide +kernel
theorem dX12_searches_4 : decode cX12_searches 4 = .ok (.istore 5, 2) := by decide +kernel
theorem dX12_searches_6 : decode cX12_searches 6 = .ok (.aload_n 0, 1) := by decide +kernel
theorem dX12_searches_7 : decode cX12_searches 7 = .ok (.dup, 1) := by decide +kernel
theorem dX12_searches_8 : decode cX12_searches 8 = .ok (.getfield 259, 3) := by decide +kernel
theorem dX12_searches_11 : decode cX12_searches 11 = .ok (.iconst 1, 1) := by decide +kernel
theorem dX12_searches_12 : decode cX12_searches 12 = .ok (.iadd, 1) := by decide +kernel
theorem dX12_searches_13 : decode cX12_searches 13 = .ok (.putfield 259, 3) := by decide +kernel
theorem dX12_searches_16 : decode cX12_searches 16 = .ok (.aload_n 0, 1) := by decide +kernel
theorem dX12_searches_17 : decode cX12_searches 17 = .ok (.iload 4, 2) := by decide +kernel
theorem dX12_searches_19 : decode cX12_searches 19 = .ok (.aload_n 0, 1) := by decide +kernel
theorem dX12_searches_20 : decode cX12_searches 20 = .ok (.getfield 262, 3) := by decide +kernel
theorem dX12_searches_23 : decode cX12_searches 23 = .ok (.if_icmp .le 8, 3) := by decide +kernel
theorem dX12_searches_26 : decode cX12_searches 26 = .ok (.iload 4, 2) := by decide +kernel
theorem dX12_searches_28 : decode cX12_searches 28 = .ok (.goto 7, 3) := by decide +kernel
theorem dX12_searches_31 : decode cX12_searches 31 = .ok (.aload_n 0, 1) := by decide +kernel
theorem dX12_searches_32 : decode cX12_searches 32 = .ok (.getfield 262, 3) := by decide +kernel
theorem dX12_searches_35 : decode cX12_searches 35 = .ok (.putfield 262, 3) := by decide +kernel
theorem dX12_searches_38 : decode cX12_searches 38 = .ok (.aload_n 0, 1) := by decide +kernel
theorem dX12_searches_39 : decode cX12_searches 39 = .ok (.iload_n 1, 1) := by decide +kernel
theorem dX12_searches_40 : decode cX12_searches 40 = .ok (.invokevirtual 203, 3) := by decide +kernel
theorem dX12_searches_43 : decode cX12_searches 43 = .ok (.iconst 2, 1) := by decide +kernel
theorem dX12_searches_44 : decode cX12_searches 44 = .ok (.iload_n 3, 1) := by decide +kernel
theorem dX12_searches_45 : decode cX12_searches 45 = .ok (.imul, 1) := by decide +kernel
theorem dX12_searches_46 : decode cX12_searches 46 = .ok (.if_icmp .le 7, 3) := by decide +kernel
theorem dX12_searches_49 : decode cX12_searches 49 = .ok (.iconst 1, 1) := by decide +kernel
theorem dX12_searches_50 : decode cX12_searches 50 = .ok (.goto 4, 3) := by decide +kernel
theorem dX12_searches_53 : decode cX12_searches 53 = .ok (.iconst 0, 1) := by decide +kernel
theorem dX12_searches_54 : decode cX12_searches 54 = .ok (.istore 6, 2) := by decide +kernel
theorem dX12_searches_56 : decode cX12_searches 56 = .ok (.iload 6, 2) := by decide +kernel
theorem dX12_searches_58 : decode cX12_searches 58 = .ok (.ifCond .eq 7, 3) := by decide +kernel
theorem dX12_searches_61 : decode cX12_searches 61 = .ok (.iconst (-1), 1) := by decide +kernel
theorem dX12_searches_62 : decode cX12_searches 62 = .ok (.goto 8, 3) := by decide +kernel
theorem dX12_searches_65 : decode cX12_searches 65 = .ok (.aload_n 0, 1) := by decide +kernel
theorem dX12_searches_66 : decode cX12_searches 66 = .ok (.iload_n 1, 1) := by decide +kernel
theorem dX12_searches_67 : decode cX12_searches 67 = .ok (.invokevirtual 265, 3) := by decide +kernel
theorem dX12_searches_70 : decode cX12_searches 70 = .ok (.istore 7, 2) := by decide +kernel
theorem dX12_searches_72 : decode cX12_searches 72 = .ok (.iload 5, 2) := by decide +kernel
theorem dX12_searches_74 : decode cX12_searches 74 = .ok (.bipush 60, 2) := by decide +kernel
theorem dX12_searches_76 : decode cX12_searches 76 = .ok (.if_icmp .ge 12, 3) := by decide +kernel
theorem dX12_searches_79 : decode cX12_searches 79 = .ok (.aload_n 0, 1) := by decide +kernel
theorem dX12_searches_80 : decode cX12_searches 80 = .ok (.getfield 44, 3) := by decide +kernel
theorem dX12_searches_83 : decode cX12_searches 83 = .ok (.iload 5, 2) := by decide +kernel
theorem dX12_searches_85 : decode cX12_searches 85 = .ok (.iload 7, 2) := by decide +kernel
theorem dX12_searches_87 : decode cX12_searches 87 = .ok (.iastore, 1) := by decide +kernel
theorem dX12_searches_88 : decode cX12_searches 88 = .ok (.iload 5, 2) := by decide +kernel
theorem dX12_searches_90 : decode cX12_searches 90 = .ok (.aload_n 0, 1) := by decide +kernel
theorem dX12_searches_91 : decode cX12_searches 91 = .ok (.getfield 268, 3) := by decide +kernel
theorem dX12_searches_94 : decode cX12_searches 94 = .ok (.if_icmp .ne 43, 3) := by decide +kernel
theorem dX12_searches_97 : decode cX12_searches 97 = .ok (.aload_n 0, 1) := by decide +kernel
theorem dX12_searches_98 : decode cX12_searches 98 = .ok (.getfield 41, 3) := by decide +kernel
theorem dX12_searches_101 : decode cX12_searches 101 = .ok (.iconst 0, 1) := by decide +kernel
theorem dX12_searches_102 : decode cX12_searches 102 = .ok (.iload 7, 2) := by decide +kernel
theorem dX12_searches_104 : decode cX12_searches 104 = .ok (.iastore, 1) := by decide +kernel
theorem dX12_searches_105 : decode cX12_searches 105 = .ok (.aload_n 0, 1) := by decide +kernel
theorem dX12_searches_106 : decode cX12_searches 106 = .ok (.getfield 41, 3) := by decide +kernel
theorem dX12_searches_109 : decode cX12_searches 109 = .ok (.iconst 1, 1) := by decide +kernel
theorem dX12_searches_110 : decode cX12_searches 110 = .ok (.iload_n 1, 1) := by decide +kernel
theorem dX12_searches_111 : decode cX12_searches 111 = .ok (.iastore, 1) := by decide +kernel
theorem dX12_searches_112 : decode cX12_searches 112 = .ok (.aload_n 0, 1) := by decide +kernel
theorem dX12_searches_113 : decode cX12_searches 113 = .ok (.getfield 41, 3) := by decide +kernel
theorem dX12_searches_116 : decode cX12_searches 116 = .ok (.iconst 2, 1) := by decide +kernel
theorem dX12_searches_117 : decode cX12_searches 117 = .ok (.iload_n 2, 1) := by decide +kernel
theorem dX12_searches_118 : decode cX12_searches 118 = .ok (.iastore, 1) := by decide +kernel
theorem dX12_searches_119 : decode cX12_searches 119 = .ok (.aload_n 0, 1) := by decide +kernel
theorem dX12_searches_120 : decode cX12_searches 120 = .ok (.getfield 41, 3) := by decide +kernel
theorem dX12_searches_123 : decode cX12_searches 123 = .ok (.iconst 3, 1) := by decide +kernel
theorem dX12_searches_124 : decode cX12_searches 124 = .ok (.iload_n 3, 1) := by decide +kernel
theorem dX12_searches_125 : decode cX12_searches 125 = .ok (.bipush 20, 2) := by decide +kernel
theorem dX12_searches_127 : decode cX12_searches 127 = .ok (.iadd, 1) := by decide +kernel
theorem dX12_searches_128 : decode cX12_searches 128 = .ok (.iastore, 1) := by decide +kernel
theorem dX12_searches_129 : decode cX12_searches 129 = .ok (.aload_n 0, 1) := by decide +kernel
theorem dX12_searches_130 : decode cX12_searches 130 = .ok (.getfield 41, 3) := by decide +kernel
theorem dX12_searches_133 : decode cX12_searches 133 = .ok (.iconst 4, 1) := by decide +kernel
theorem dX12_searches_134 : decode cX12_searches 134 = .ok (.iload 4, 2) := by decide +kernel
theorem dX12_searches_136 : decode cX12_searches 136 = .ok (.iastore, 1) := by decide +kernel
theorem dX12_searches_137 : decode cX12_searches 137 = .ok (.iload 6, 2) := by decide +kernel
theorem dX12_searches_139 : decode cX12_searches 139 = .ok (.ifCond .eq 13, 3) := by decide +kernel
theorem dX12_searches_142 : decode cX12_searches 142 = .ok (.aload_n 0, 1) := by decide +kernel
theorem dX12_searches_143 : decode cX12_searches 143 = .ok (.dup, 1) := by decide +kernel
theorem dX12_searches_144 : decode cX12_searches 144 = .ok (.getfield 271, 3) := by decide +kernel
theorem dX12_searches_147 : decode cX12_searches 147 = .ok (.iconst 1, 1) := by decide +kernel
theorem dX12_searches_148 : decode cX12_searches 148 = .ok (.iadd, 1) := by decide +kernel
theorem dX12_searches_149 : decode cX12_searches 149 = .ok (.putfield 271, 3) := by decide +kernel
theorem dX12_searches_152 : decode cX12_searches 152 = .ok (.iload 7, 2) := by decide +kernel
theorem dX12_searches_154 : decode cX12_searches 154 = .ok (.iconst (-1), 1) := by decide +kernel
theorem dX12_searches_155 : decode cX12_searches 155 = .ok (.if_icmp .ne 14, 3) := by decide +kernel
theorem dX12_searches_158 : decode cX12_searches 158 = .ok (.iload 6, 2) := by decide +kernel
theorem dX12_searches_160 : decode cX12_searches 160 = .ok (.ifCond .eq 7, 3) := by decide +kernel
theorem dX12_searches_163 : decode cX12_searches 163 = .ok (.iconst (-1), 1) := by decide +kernel
theorem dX12_searches_164 : decode cX12_searches 164 = .ok (.goto 4, 3) := by decide +kernel
theorem dX12_searches_167 : decode cX12_searches 167 = .ok (.iload_n 2, 1) := by decide +kernel
theorem dX12_searches_168 : decode cX12_searches 168 = .ok (.ireturn, 1) := by decide +kernel
theorem dX12_searches_169 : decode cX12_searches 169 = .ok (.iconst 0, 1) := by decide +kernel
theorem dX12_searches_170 : decode cX12_searches 170 = .ok (.istore 8, 2) := by decide +kernel
theorem dX12_searches_172 : decode cX12_searches 172 = .ok (.iload 8, 2) := by decide +kernel
theorem dX12_searches_174 : decode cX12_searches 174 = .ok (.iconst 2, 1) := by decide +kernel
theorem dX12_searches_175 : decode cX12_searches 175 = .ok (.if_icmp .ge 77, 3) := by decide +kernel
theorem dX12_searches_178 : decode cX12_searches 178 = .ok (.iload 8, 2) := by decide +kernel
theorem dX12_searches_180 : decode cX12_searches 180 = .ok (.iload 4, 2) := by decide +kernel
theorem dX12_searches_182 : decode cX12_searches 182 = .ok (.iconst 2, 1) := by decide +kernel
theorem dX12_searches_183 : decode cX12_searches 183 = .ok (.irem, 1) := by decide +kernel
theorem dX12_searches_184 : decode cX12_searches 184 = .ok (.if_icmp .ne 10, 3) := by decide +kernel
theorem dX12_searches_187 : decode cX12_searches 187 = .ok (.iconst 1, 1) := by decide +kernel
theorem dX12_searches_188 : decode cX12_searches 188 = .ok (.iload 7, 2) := by decide +kernel
theorem dX12_searches_190 : decode cX12_searches 190 = .ok (.ishl, 1) := by decide +kernel
theorem dX12_searches_191 : decode cX12_searches 191 = .ok (.goto 12, 3) := by decide +kernel
theorem dX12_searches_194 : decode cX12_searches 194 = .ok (.aload_n 0, 1) := by decide +kernel
theorem dX12_searches_195 : decode cX12_searches 195 = .ok (.getfield 20, 3) := by decide +kernel
theorem dX12_searches_198 : decode cX12_searches 198 = .ok (.iload 7, 2) := by decide +kernel
theorem dX12_searches_200 : decode cX12_searches 200 = .ok (.iaload, 1) := by decide +kernel
theorem dX12_searches_201 : decode cX12_searches 201 = .ok (.iload_n 1, 1) := by decide +kernel
theorem dX12_searches_202 : decode cX12_searches 202 = .ok (.iand, 1) := by decide +kernel
theorem dX12_searches_203 : decode cX12_searches 203 = .ok (.istore 9, 2) := by decide +kernel
theorem dX12_searches_205 : decode cX12_searches 205 = .ok (.aload_n 0, 1) := by decide +kernel
theorem dX12_searches_206 : decode cX12_searches 206 = .ok (.iload_n 1, 1) := by decide +kernel
theorem dX12_searches_207 : decode cX12_searches 207 = .ok (.iload 9, 2) := by decide +kernel
theorem dX12_searches_209 : decode cX12_searches 209 = .ok (.iconst 1, 1) := by decide +kernel
theorem dX12_searches_210 : decode cX12_searches 210 = .ok (.iload 7, 2) := by decide +kernel
theorem dX12_searches_212 : decode cX12_searches 212 = .ok (.ishl, 1) := by decide +kernel
theorem dX12_searches_213 : decode cX12_searches 213 = .ok (.ior, 1) := by decide +kernel
theorem dX12_searches_214 : decode cX12_searches 214 = .ok (.iconst (-1), 1) := by decide +kernel
theorem dX12_searches_215 : decode cX12_searches 215 = .ok (.ixor, 1) := by decide +kernel
theorem dX12_searches_216 : decode cX12_searches 216 = .ok (.iand, 1) := by decide +kernel
theorem dX12_searches_217 : decode cX12_searches 217 = .ok (.iload_n 2, 1) := by decide +kernel
theorem dX12_searches_218 : decode cX12_searches 218 = .ok (.iload 9, 2) := by decide +kernel
theorem dX12_searches_220 : decode cX12_searches 220 = .ok (.ior, 1) := by decide +kernel
theorem dX12_searches_221 : decode cX12_searches 221 = .ok (.iload_n 3, 1) := by decide +kernel
theorem dX12_searches_222 : decode cX12_searches 222 = .ok (.iload 9, 2) := by decide +kernel
theorem dX12_searches_224 : decode cX12_searches 224 = .ok (.invokestatic 133, 3) := by decide +kernel
theorem dX12_searches_227 : decode cX12_searches 227 = .ok (.isub, 1) := by decide +kernel
theorem dX12_searches_228 : decode cX12_searches 228 = .ok (.iload 4, 2) := by decide +kernel
theorem dX12_searches_230 : decode cX12_searches 230 = .ok (.iconst 1, 1) := by decide +kernel
theorem dX12_searches_231 : decode cX12_searches 231 = .ok (.iadd, 1) := by decide +kernel
theorem dX12_searches_232 : decode cX12_searches 232 = .ok (.invokevirtual 274, 3) := by decide +kernel
theorem dX12_searches_235 : decode cX12_searches 235 = .ok (.istore 10, 2) := by decide +kernel
theorem dX12_searches_237 : decode cX12_searches 237 = .ok (.iload 10, 2) := by decide +kernel
theorem dX12_searches_239 : decode cX12_searches 239 = .ok (.iconst (-1), 1) := by decide +kernel
theorem dX12_searches_240 : decode cX12_searches 240 = .ok (.if_icmp .eq 6, 3) := by decide +kernel
theorem dX12_searches_243 : decode cX12_searches 243 = .ok (.iload 10, 2) := by decide +kernel
theorem dX12_searches_245 : decode cX12_searches 245 = .ok (.ireturn, 1) := by decide +kernel
theorem dX12_searches_246 : decode cX12_searches 246 = .ok (.iinc 8 1, 3) := by decide +kernel
theorem dX12_searches_249 : decode cX12_searches 249 = .ok (.goto (-77), 3) := by decide +kernel
theorem dX12_searches_252 : decode cX12_searches 252 = .ok (.iconst (-1), 1) := by decide +kernel
theorem dX12_searches_253 : decode cX12_searches 253 = .ok (.ireturn, 1) := by decide +kernel
theorem dX12_searchFor_0 : decode cX12_searchFor 0 = .ok (.aload_n 0, 1) := by decide +kernel
theorem dX12_searchFor_1 : decode cX12_searchFor 1 = .ok (.iconst 0, 1) := by decide +kernel
theorem dX12_searchFor_2 : decode cX12_searchFor 2 = .ok (.putfield 259, 3) := by decide +kernel
theorem dX12_searchFor_5 : decode cX12_searchFor 5 = .ok (.aload_n 0, 1) := by decide +kernel
theorem dX12_searchFor_6 : decode cX12_searchFor 6 = .ok (.iconst 0, 1) := by decide +kernel
theorem dX12_searchFor_7 : decode cX12_searchFor 7 = .ok (.putfield 271, 3) := by decide +kernel
theorem dX12_searchFor_10 : decode cX12_searchFor 10 = .ok (.aload_n 0, 1) := by decide +kernel
theorem dX12_searchFor_11 : decode cX12_searchFor 11 = .ok (.iconst 0, 1) := by decide +kernel
theorem dX12_searchFor_12 : decode cX12_searchFor 12 = .ok (.putfield 262, 3) := by decide +kernel
theorem dX12_searchFor_15 : decode cX12_searchFor 15 = .ok (.aload_n 0, 1) := by decide +kernel
theorem dX12_searchFor_16 : decode cX12_searchFor 16 = .ok (.iload_n 2, 1) := by decide +kernel
theorem dX12_searchFor_17 : decode cX12_searchFor 17 = .ok (.putfield 268, 3) := by decide +kernel
theorem dX12_searchFor_20 : decode cX12_searchFor 20 = .ok (.aload_n 0, 1) := by decide +kernel
theorem dX12_searchFor_21 : decode cX12_searchFor 21 = .ok (.aload_n 0, 1) := by decide +kernel
theorem dX12_searchFor_22 : decode cX12_searchFor 22 = .ok (.invokevirtual 129, 3) := by decide +kernel
theorem dX12_searchFor_25 : decode cX12_searchFor 25 = .ok (.iconst 0, 1) := by decide +kernel
theorem dX12_searchFor_26 : decode cX12_searchFor 26 = .ok (.iload_n 1, 1) := by decide +kernel
theorem dX12_searchFor_27 : decode cX12_searchFor 27 = .ok (.iconst 0, 1) := by decide +kernel
theorem dX12_searchFor_28 : decode cX12_searchFor 28 = .ok (.invokevirtual 274, 3) := by decide +kernel
theorem dX12_searchFor_31 : decode cX12_searchFor 31 = .ok (.ireturn, 1) := by decide +kernel
theorem dX12_search_0 : decode cX12_search 0 = .ok (.iload_n 1, 1) := by decide +kernel
theorem dX12_search_1 : decode cX12_search 1 = .ok (.iconst 0, 1) := by decide +kernel
theorem dX12_search_2 : decode cX12_search 2 = .ok (.bipush 12, 2) := by decide +kernel
theorem dX12_search_4 : decode cX12_search 4 = .ok (.invokestatic 125, 3) := by decide +kernel
theorem dX12_search_7 : decode cX12_search 7 = .ok (.ifCond .eq 12, 3) := by decide +kernel
theorem dX12_search_10 : decode cX12_search 10 = .ok (.iload_n 2, 1) := by decide +kernel
theorem dX12_search_11 : decode cX12_search 11 = .ok (.iconst 0, 1) := by decide +kernel
theorem dX12_search_12 : decode cX12_search 12 = .ok (.iconst 4, 1) := by decide +kernel
theorem dX12_search_13 : decode cX12_search 13 = .ok (.invokestatic 125, 3) := by decide +kernel
theorem dX12_search_16 : decode cX12_search 16 = .ok (.ifCond .ne 6, 3) := by decide +kernel
theorem dX12_search_19 : decode cX12_search 19 = .ok (.bipush (-2), 2) := by decide +kernel
theorem dX12_search_21 : decode cX12_search 21 = .ok (.ireturn, 1) := by decide +kernel
theorem dX12_search_22 : decode cX12_search 22 = .ok (.aload_n 0, 1) := by decide +kernel
theorem dX12_search_23 : decode cX12_search 23 = .ok (.iload_n 1, 1) := by decide +kernel
theorem dX12_search_24 : decode cX12_search 24 = .ok (.iconst (-1), 1) := by decide +kernel
theorem dX12_search_25 : decode cX12_search 25 = .ok (.invokevirtual 277, 3) := by decide +kernel
theorem dX12_search_28 : decode cX12_search 28 = .ok (.istore_n 3, 1) := by decide +kernel
theorem dX12_search_29 : decode cX12_search 29 = .ok (.iload_n 2, 1) := by decide +kernel
theorem dX12_search_30 : decode cX12_search 30 = .ok (.tableswitch 53 0 3 #[30, 41, 46, 48], 30) := by decide +kernel
theorem dX12_search_60 : decode cX12_search 60 = .ok (.iload_n 3, 1) := by decide +kernel
theorem dX12_search_61 : decode cX12_search 61 = .ok (.iconst (-1), 1) := by decide +kernel
theorem dX12_search_62 : decode cX12_search 62 = .ok (.if_icmp .ne 7, 3) := by decide +kernel
theorem dX12_search_65 : decode cX12_search 65 = .ok (.iconst 0, 1) := by decide +kernel
theorem dX12_search_66 : decode cX12_search 66 = .ok (.goto 4, 3) := by decide +kernel
theorem dX12_search_69 : decode cX12_search 69 = .ok (.iconst 1, 1) := by decide +kernel
theorem dX12_search_70 : decode cX12_search 70 = .ok (.ireturn, 1) := by decide +kernel
theorem dX12_search_71 : decode cX12_search 71 = .ok (.aload_n 0, 1) := by decide +kernel
theorem dX12_search_72 : decode cX12_search 72 = .ok (.getfield 259, 3) := by decide +kernel
theorem dX12_search_75 : decode cX12_search 75 = .ok (.ireturn, 1) := by decide +kernel
theorem dX12_search_76 : decode cX12_search 76 = .ok (.iload_n 3, 1) := by decide +kernel
theorem dX12_search_77 : decode cX12_search 77 = .ok (.ireturn, 1) := by decide +kernel
theorem dX12_search_78 : decode cX12_search 78 = .ok (.aload_n 0, 1) := by decide +kernel
theorem dX12_search_79 : decode cX12_search 79 = .ok (.getfield 271, 3) := by decide +kernel
theorem dX12_search_82 : decode cX12_search 82 = .ok (.ireturn, 1) := by decide +kernel
theorem dX12_search_83 : decode cX12_search 83 = .ok (.aload_n 0, 1) := by decide +kernel
theorem dX12_search_84 : decode cX12_search 84 = .ok (.getfield 262, 3) := by decide +kernel
theorem dX12_search_87 : decode cX12_search 87 = .ok (.ireturn, 1) := by decide +kernel
theorem dX12_node_0 : decode cX12_node 0 = .ok (.iload_n 1, 1) := by decide +kernel
theorem dX12_node_1 : decode cX12_node 1 = .ok (.iconst 0, 1) := by decide +kernel
theorem dX12_node_2 : decode cX12_node 2 = .ok (.bipush 12, 2) := by decide +kernel
theorem dX12_node_4 : decode cX12_node 4 = .ok (.invokestatic 125, 3) := by decide +kernel
theorem dX12_node_7 : decode cX12_node 7 = .ok (.ifCond .eq 16, 3) := by decide +kernel
theorem dX12_node_10 : decode cX12_node 10 = .ok (.iload_n 2, 1) := by decide +kernel
theorem dX12_node_11 : decode cX12_node 11 = .ok (.ifCond .lt 12, 3) := by decide +kernel
theorem dX12_node_14 : decode cX12_node 14 = .ok (.iload_n 3, 1) := by decide +kernel
theorem dX12_node_15 : decode cX12_node 15 = .ok (.iconst 0, 1) := by decide +kernel
theorem dX12_node_16 : decode cX12_node 16 = .ok (.iconst 4, 1) := by decide +kernel
theorem dX12_node_17 : decode cX12_node 17 = .ok (.invokestatic 125, 3) := by decide +kernel
theorem dX12_node_20 : decode cX12_node 20 = .ok (.ifCond .ne 6, 3) := by decide +kernel
theorem dX12_node_23 : decode cX12_node 23 = .ok (.bipush (-2), 2) := by decide +kernel
theorem dX12_node_25 : decode cX12_node 25 = .ok (.ireturn, 1) := by decide +kernel
theorem dX12_node_26 : decode cX12_node 26 = .ok (.aload_n 0, 1) := by decide +kernel
theorem dX12_node_27 : decode cX12_node 27 = .ok (.iload_n 1, 1) := by decide +kernel
theorem dX12_node_28 : decode cX12_node 28 = .ok (.iload_n 2, 1) := by decide +kernel
theorem dX12_node_29 : decode cX12_node 29 = .ok (.invokevirtual 277, 3) := by decide +kernel
theorem dX12_node_32 : decode cX12_node 32 = .ok (.istore 4, 2) := by decide +kernel
theorem dX12_node_34 : decode cX12_node 34 = .ok (.iload_n 2, 1) := by decide +kernel
theorem dX12_node_35 : decode cX12_node 35 = .ok (.aload_n 0, 1) := by decide +kernel
theorem dX12_node_36 : decode cX12_node 36 = .ok (.getfield 259, 3) := by decide +kernel
theorem dX12_node_39 : decode cX12_node 39 = .ok (.if_icmp .ge 12, 3) := by decide +kernel
theorem dX12_node_42 : decode cX12_node 42 = .ok (.aload_n 0, 1) := by decide +kernel
theorem dX12_node_43 : decode cX12_node 43 = .ok (.getfield 41, 3) := by decide +kernel
theorem dX12_node_46 : decode cX12_node 46 = .ok (.iload_n 3, 1) := by decide +kernel
theorem dX12_node_47 : decode cX12_node 47 = .ok (.iaload, 1) := by decide +kernel
theorem dX12_node_48 : decode cX12_node 48 = .ok (.goto 5, 3) := by decide +kernel
theorem dX12_node_51 : decode cX12_node 51 = .ok (.bipush (-2), 2) := by decide +kernel
theorem dX12_node_53 : decode cX12_node 53 = .ok (.ireturn, 1) := by decide +kernel
theorem dX12_prove_0 : decode cX12_prove 0 = .ok (.iload_n 1, 1) := by decide +kernel
theorem dX12_prove_1 : decode cX12_prove 1 = .ok (.invokestatic 253, 3) := by decide +kernel
theorem dX12_prove_4 : decode cX12_prove 4 = .ok (.ifCond .eq 13, 3) := by decide +kernel
theorem dX12_prove_7 : decode cX12_prove 7 = .ok (.iload_n 2, 1) := by decide +kernel
theorem dX12_prove_8 : decode cX12_prove 8 = .ok (.iconst 0, 1) := by decide +kernel
theorem dX12_prove_9 : decode cX12_prove 9 = .ok (.bipush 12, 2) := by decide +kernel
theorem dX12_prove_11 : decode cX12_prove 11 = .ok (.invokestatic 125, 3) := by decide +kernel
theorem dX12_prove_14 : decode cX12_prove 14 = .ok (.ifCond .ne 6, 3) := by decide +kernel
theorem dX12_prove_17 : decode cX12_prove 17 = .ok (.bipush (-2), 2) := by decide +kernel
theorem dX12_prove_19 : decode cX12_prove 19 = .ok (.ireturn, 1) := by decide +kernel
theorem dX12_prove_20 : decode cX12_prove 20 = .ok (.aload_n 0, 1) := by decide +kernel
theorem dX12_prove_21 : decode cX12_prove 21 = .ok (.iload_n 2, 1) := by decide +kernel
theorem dX12_prove_22 : decode cX12_prove 22 = .ok (.iconst (-1), 1) := by decide +kernel
theorem dX12_prove_23 : decode cX12_prove 23 = .ok (.invokevirtual 277, 3) := by decide +kernel
theorem dX12_prove_26 : decode cX12_prove 26 = .ok (.iconst (-1), 1) := by decide +kernel
theorem dX12_prove_27 : decode cX12_prove 27 = .ok (.if_icmp .eq 5, 3) := by decide +kernel
theorem dX12_prove_30 : decode cX12_prove 30 = .ok (.iconst (-1), 1) := by decide +kernel
theorem dX12_prove_31 : decode cX12_prove 31 = .ok (.ireturn, 1) := by decide +kernel
theorem dX12_prove_32 : decode cX12_prove 32 = .ok (.aload_n 0, 1) := by decide +kernel
theorem dX12_prove_33 : decode cX12_prove 33 = .ok (.getfield 259, 3) := by decide +kernel
theorem dX12_prove_36 : decode cX12_prove 36 = .ok (.bipush 60, 2) := by decide +kernel
theorem dX12_prove_38 : decode cX12_prove 38 = .ok (.if_icmp .le 6, 3) := by decide +kernel
theorem dX12_prove_41 : decode cX12_prove 41 = .ok (.bipush (-4), 2) := by decide +kernel
