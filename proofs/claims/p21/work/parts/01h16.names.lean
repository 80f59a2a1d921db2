set_option maxRecDepth 20000 in
theorem gL_law_L_isSo : GoodIn wsL_law (va_wsS RL 122 yL_isSo wsL_isSo) := goodIn_app (goodIn_of _ (by decide +kernel)) ggL_law_L_isSo
theorem dL_law_0 : decode cL_law 0 = .ok (.new 11, 3) := by decide +kernel
theorem dL_law_3 : decode cL_law 3 = .ok (.dup, 1) := by decide +kernel
theorem dL_law_4 : decode cL_law 4 = .ok (.invokespecial 91, 3) := by decide +kernel
theorem dL_law_7 : decode cL_law 7 = .ok (.astore_n 1, 1) := by decide +kernel
theorem dL_law_8 : decode cL_law 8 = .ok (.bipush 6, 2) := by decide +kernel
theorem dL_law_10 : decode cL_law 10 = .ok (.newarray .int, 2) := by decide +kernel
theorem dL_law_12 : decode cL_law 12 = .ok (.astore_n 2, 1) := by decide +kernel
theorem dL_law_13 : decode cL_law 13 = .ok (.bipush 8, 2) := by decide +kernel
theorem dL_law_15 : decode cL_law 15 = .ok (.newarray .int, 2) := by decide +kernel
theorem dL_law_17 : decode cL_law 17 = .ok (.astore_n 3, 1) := by decide +kernel
theorem dL_law_18 : decode cL_law 18 = .ok (.bipush 12, 2) := by decide +kernel
theorem dL_law_20 : decode cL_law 20 = .ok (.newarray .int, 2) := by decide +kernel
theorem dL_law_22 : decode cL_law 22 = .ok (.astore 4, 2) := by decide +kernel
theorem dL_law_24 : decode cL_law 24 = .ok (.iconst 5, 1) := by decide +kernel
theorem dL_law_25 : decode cL_law 25 = .ok (.newarray .int, 2) := by decide +kernel
theorem dL_law_27 : decode cL_law 27 = .ok (.astore 5, 2) := by decide +kernel
theorem dL_law_29 : decode cL_law 29 = .ok (.bipush 15, 2) := by decide +kernel
theorem dL_law_31 : decode cL_law 31 = .ok (.newarray .int, 2) := by decide +kernel
theorem dL_law_33 : decode cL_law 33 = .ok (.astore 6, 2) := by decide +kernel
theorem dL_law_35 : decode cL_law 35 = .ok (.bipush 60, 2) := by decide +kernel
theorem dL_law_37 : decode cL_law 37 = .ok (.newarray .int, 2) := by decide +kernel
theorem dL_law_39 : decode cL_law 39 = .ok (.astore 7, 2) := by decide +kernel
theorem dL_law_41 : decode cL_law 41 = .ok (.bipush 30, 2) := by decide +kernel
theorem dL_law_43 : decode cL_law 43 = .ok (.newarray .int, 2) := by decide +kernel
theorem dL_law_45 : decode cL_law 45 = .ok (.astore 8, 2) := by decide +kernel
theorem dL_law_47 : decode cL_law 47 = .ok (.bipush 30, 2) := by decide +kernel
theorem dL_law_49 : decode cL_law 49 = .ok (.newarray .int, 2) := by decide +kernel
theorem dL_law_51 : decode cL_law 51 = .ok (.astore 9, 2) := by decide +kernel
theorem dL_law_53 : decode cL_law 53 = .ok (.aload_n 2, 1) := by decide +kernel
theorem dL_law_54 : decode cL_law 54 = .ok (.iconst 4, 1) := by decide +kernel
theorem dL_law_55 : decode cL_law 55 = .ok (.bipush 10, 2) := by decide +kernel
theorem dL_law_57 : decode cL_law 57 = .ok (.iastore, 1) := by decide +kernel
theorem dL_law_58 : decode cL_law 58 = .ok (.aload_n 2, 1) := by decide +kernel
theorem dL_law_59 : decode cL_law 59 = .ok (.iconst 5, 1) := by decide +kernel
theorem dL_law_60 : decode cL_law 60 = .ok (.bipush 10, 2) := by decide +kernel
theorem dL_law_62 : decode cL_law 62 = .ok (.iastore, 1) := by decide +kernel
theorem dL_law_63 : decode cL_law 63 = .ok (.iconst 0, 1) := by decide +kernel
theorem dL_law_64 : decode cL_law 64 = .ok (.istore 10, 2) := by decide +kernel
theorem dL_law_66 : decode cL_law 66 = .ok (.iload 10, 2) := by decide +kernel
theorem dL_law_68 : decode cL_law 68 = .ok (.bipush 110, 2) := by decide +kernel
theorem dL_law_70 : decode cL_law 70 = .ok (.if_icmp .ge 756, 3) := by decide +kernel
theorem dL_law_73 : decode cL_law 73 = .ok (.aload_n 0, 1) := by decide +kernel
theorem dL_law_74 : decode cL_law 74 = .ok (.iload 10, 2) := by decide +kernel
theorem dL_law_76 : decode cL_law 76 = .ok (.invokestatic 92, 3) := by decide +kernel
theorem dL_law_79 : decode cL_law 79 = .ok (.istore 11, 2) := by decide +kernel
theorem dL_law_81 : decode cL_law 81 = .ok (.iload 11, 2) := by decide +kernel
theorem dL_law_83 : decode cL_law 83 = .ok (.bipush 22, 2) := by decide +kernel
theorem dL_law_85 : decode cL_law 85 = .ok (.invokestatic 64, 3) := by decide +kernel
theorem dL_law_88 : decode cL_law 88 = .ok (.istore 12, 2) := by decide +kernel
theorem dL_law_90 : decode cL_law 90 = .ok (.iconst 1, 1) := by decide +kernel
theorem dL_law_91 : decode cL_law 91 = .ok (.istore 13, 2) := by decide +kernel
theorem dL_law_93 : decode cL_law 93 = .ok (.iload 12, 2) := by decide +kernel
theorem dL_law_95 : decode cL_law 95 = .ok (.bipush 8, 2) := by decide +kernel
theorem dL_law_97 : decode cL_law 97 = .ok (.if_icmp .ge 26, 3) := by decide +kernel
theorem dL_law_100 : decode cL_law 100 = .ok (.aload_n 1, 1) := by decide +kernel
theorem dL_law_101 : decode cL_law 101 = .ok (.iload 12, 2) := by decide +kernel
theorem dL_law_103 : decode cL_law 103 = .ok (.iload 11, 2) := by decide +kernel
theorem dL_law_105 : decode cL_law 105 = .ok (.iconst 5, 1) := by decide +kernel
theorem dL_law_106 : decode cL_law 106 = .ok (.ishr, 1) := by decide +kernel
theorem dL_law_107 : decode cL_law 107 = .ok (.aload_n 3, 1) := by decide +kernel
theorem dL_law_108 : decode cL_law 108 = .ok (.aload 4, 2) := by decide +kernel
theorem dL_law_110 : decode cL_law 110 = .ok (.aload 5, 2) := by decide +kernel
theorem dL_law_112 : decode cL_law 112 = .ok (.aload 7, 2) := by decide +kernel
theorem dL_law_114 : decode cL_law 114 = .ok (.aload_n 2, 1) := by decide +kernel
theorem dL_law_115 : decode cL_law 115 = .ok (.invokestatic 96, 3) := by decide +kernel
theorem dL_law_118 : decode cL_law 118 = .ok (.istore 13, 2) := by decide +kernel
theorem dL_law_120 : decode cL_law 120 = .ok (.goto 672, 3) := by decide +kernel
theorem dL_law_123 : decode cL_law 123 = .ok (.iload 12, 2) := by decide +kernel
theorem dL_law_125 : decode cL_law 125 = .ok (.bipush 10, 2) := by decide +kernel
theorem dL_law_127 : decode cL_law 127 = .ok (.if_icmp .ge 122, 3) := by decide +kernel
theorem dL_law_130 : decode cL_law 130 = .ok (.aload_n 2, 1) := by decide +kernel
theorem dL_law_131 : decode cL_law 131 = .ok (.iconst 1, 1) := by decide +kernel
theorem dL_law_132 : decode cL_law 132 = .ok (.iaload, 1) := by decide +kernel
theorem dL_law_133 : decode cL_law 133 = .ok (.bipush 12, 2) := by decide +kernel
theorem dL_law_135 : decode cL_law 135 = .ok (.if_icmp .ge 114, 3) := by decide +kernel
theorem dL_law_138 : decode cL_law 138 = .ok (.iload 11, 2) := by decide +kernel
theorem dL_law_140 : decode cL_law 140 = .ok (.iconst 5, 1) := by decide +kernel
theorem dL_law_141 : decode cL_law 141 = .ok (.ishr, 1) := by decide +kernel
theorem dL_law_142 : decode cL_law 142 = .ok (.iconst 5, 1) := by decide +kernel
theorem dL_law_143 : decode cL_law 143 = .ok (.invokestatic 64, 3) := by decide +kernel
theorem dL_law_146 : decode cL_law 146 = .ok (.istore 14, 2) := by decide +kernel
theorem dL_law_148 : decode cL_law 148 = .ok (.aload 5, 2) := by decide +kernel
theorem dL_law_150 : decode cL_law 150 = .ok (.iload 14, 2) := by decide +kernel
theorem dL_law_152 : decode cL_law 152 = .ok (.iaload, 1) := by decide +kernel
theorem dL_law_153 : decode cL_law 153 = .ok (.iconst 3, 1) := by decide +kernel
theorem dL_law_154 : decode cL_law 154 = .ok (.if_icmp .ne 8, 3) := by decide +kernel
theorem dL_law_157 : decode cL_law 157 = .ok (.bipush (-3), 2) := by decide +kernel
theorem dL_law_159 : decode cL_law 159 = .ok (.goto 6, 3) := by decide +kernel
theorem dL_law_162 : decode cL_law 162 = .ok (.aload_n 2, 1) := by decide +kernel
theorem dL_law_163 : decode cL_law 163 = .ok (.iconst 1, 1) := by decide +kernel
theorem dL_law_164 : decode cL_law 164 = .ok (.iaload, 1) := by decide +kernel
theorem dL_law_165 : decode cL_law 165 = .ok (.istore 15, 2) := by decide +kernel
theorem dL_law_167 : decode cL_law 167 = .ok (.iload 15, 2) := by decide +kernel
theorem dL_law_169 : decode cL_law 169 = .ok (.ifCond .lt 55, 3) := by decide +kernel
theorem dL_law_172 : decode cL_law 172 = .ok (.aload 7, 2) := by decide +kernel
theorem dL_law_174 : decode cL_law 174 = .ok (.iconst 5, 1) := by decide +kernel
theorem dL_law_175 : decode cL_law 175 = .ok (.iload 15, 2) := by decide +kernel
theorem dL_law_177 : decode cL_law 177 = .ok (.imul, 1) := by decide +kernel
theorem dL_law_178 : decode cL_law 178 = .ok (.iload 14, 2) := by decide +kernel
theorem dL_law_180 : decode cL_law 180 = .ok (.iastore, 1) := by decide +kernel
theorem dL_law_181 : decode cL_law 181 = .ok (.aload 7, 2) := by decide +kernel
theorem dL_law_183 : decode cL_law 183 = .ok (.iconst 5, 1) := by decide +kernel
theorem dL_law_184 : decode cL_law 184 = .ok (.iload 15, 2) := by decide +kernel
theorem dL_law_186 : decode cL_law 186 = .ok (.imul, 1) := by decide +kernel
theorem dL_law_187 : decode cL_law 187 = .ok (.iconst 1, 1) := by decide +kernel
theorem dL_law_188 : decode cL_law 188 = .ok (.iadd, 1) := by decide +kernel
theorem dL_law_189 : decode cL_law 189 = .ok (.aload_n 2, 1) := by decide +kernel
theorem dL_law_190 : decode cL_law 190 = .ok (.iconst 2, 1) := by decide +kernel
theorem dL_law_191 : decode cL_law 191 = .ok (.iaload, 1) := by decide +kernel
theorem dL_law_192 : decode cL_law 192 = .ok (.iastore, 1) := by decide +kernel
theorem dL_law_193 : decode cL_law 193 = .ok (.aload 7, 2) := by decide +kernel
theorem dL_law_195 : decode cL_law 195 = .ok (.iconst 5, 1) := by decide +kernel
theorem dL_law_196 : decode cL_law 196 = .ok (.iload 15, 2) := by decide +kernel
theorem dL_law_198 : decode cL_law 198 = .ok (.imul, 1) := by decide +kernel
theorem dL_law_199 : decode cL_law 199 = .ok (.iconst 2, 1) := by decide +kernel
theorem dL_law_200 : decode cL_law 200 = .ok (.iadd, 1) := by decide +kernel
theorem dL_law_201 : decode cL_law 201 = .ok (.aload_n 2, 1) := by decide +kernel
theorem dL_law_202 : decode cL_law 202 = .ok (.iconst 0, 1) := by decide +kernel
theorem dL_law_203 : decode cL_law 203 = .ok (.iaload, 1) := by decide +kernel
theorem dL_law_204 : decode cL_law 204 = .ok (.iastore, 1) := by decide +kernel
theorem dL_law_205 : decode cL_law 205 = .ok (.aload 7, 2) := by decide +kernel
theorem dL_law_207 : decode cL_law 207 = .ok (.iconst 5, 1) := by decide +kernel
theorem dL_law_208 : decode cL_law 208 = .ok (.iload 15, 2) := by decide +kernel
theorem dL_law_210 : decode cL_law 210 = .ok (.imul, 1) := by decide +kernel
theorem dL_law_211 : decode cL_law 211 = .ok (.iconst 3, 1) := by decide +kernel
theorem dL_law_212 : decode cL_law 212 = .ok (.iadd, 1) := by decide +kernel
theorem dL_law_213 : decode cL_law 213 = .ok (.aload_n 2, 1) := by decide +kernel
theorem dL_law_214 : decode cL_law 214 = .ok (.iconst 0, 1) := by decide +kernel
theorem dL_law_215 : decode cL_law 215 = .ok (.iaload, 1) := by decide +kernel
theorem dL_law_216 : decode cL_law 216 = .ok (.iastore, 1) := by decide +kernel
theorem dL_law_217 : decode cL_law 217 = .ok (.aload_n 2, 1) := by decide +kernel
theorem dL_law_218 : decode cL_law 218 = .ok (.iconst 1, 1) := by decide +kernel
theorem dL_law_219 : decode cL_law 219 = .ok (.dup2, 1) := by decide +kernel
theorem dL_law_220 : decode cL_law 220 = .ok (.iaload, 1) := by decide +kernel
theorem dL_law_221 : decode cL_law 221 = .ok (.iconst 1, 1) := by decide +kernel
theorem dL_law_222 : decode cL_law 222 = .ok (.iadd, 1) := by decide +kernel
theorem dL_law_223 : decode cL_law 223 = .ok (.iastore, 1) := by decide +kernel
theorem dL_law_224 : decode cL_law 224 = .ok (.aload_n 1, 1) := by decide +kernel
theorem dL_law_225 : decode cL_law 225 = .ok (.iconst 1, 1) := by decide +kernel
theorem dL_law_226 : decode cL_law 226 = .ok (.iload 14, 2) := by decide +kernel
theorem dL_law_228 : decode cL_law 228 = .ok (.iconst 0, 1) := by decide +kernel
theorem dL_law_229 : decode cL_law 229 = .ok (.iconst 0, 1) := by decide +kernel
theorem dL_law_230 : decode cL_law 230 = .ok (.iconst 0, 1) := by decide +kernel
theorem dL_law_231 : decode cL_law 231 = .ok (.invokestatic 71, 3) := by decide +kernel
theorem dL_law_234 : decode cL_law 234 = .ok (.iload 15, 2) := by decide +kernel
theorem dL_law_236 : decode cL_law 236 = .ok (.if_icmp .ne 7, 3) := by decide +kernel
theorem dL_law_239 : decode cL_law 239 = .ok (.iconst 1, 1) := by decide +kernel
theorem dL_law_240 : decode cL_law 240 = .ok (.goto 4, 3) := by decide +kernel
theorem dL_law_243 : decode cL_law 243 = .ok (.iconst 0, 1) := by decide +kernel
theorem dL_law_244 : decode cL_law 244 = .ok (.istore 13, 2) := by decide +kernel
theorem dL_law_246 : decode cL_law 246 = .ok (.goto 546, 3) := by decide +kernel
theorem dL_law_249 : decode cL_law 249 = .ok (.iload 12, 2) := by decide +kernel
theorem dL_law_251 : decode cL_law 251 = .ok (.bipush 14, 2) := by decide +kernel
theorem dL_law_253 : decode cL_law 253 = .ok (.if_icmp .ge 36, 3) := by decide +kernel
theorem dL_law_256 : decode cL_law 256 = .ok (.aload_n 2, 1) := by decide +kernel
theorem dL_law_257 : decode cL_law 257 = .ok (.iconst 1, 1) := by decide +kernel
theorem dL_law_258 : decode cL_law 258 = .ok (.iaload, 1) := by decide +kernel
theorem dL_law_259 : decode cL_law 259 = .ok (.ifCond .le 30, 3) := by decide +kernel
theorem dL_law_262 : decode cL_law 262 = .ok (.aload_n 1, 1) := by decide +kernel
theorem dL_law_263 : decode cL_law 263 = .ok (.iload 11, 2) := by decide +kernel
theorem dL_law_265 : decode cL_law 265 = .ok (.iconst 5, 1) := by decide +kernel
theorem dL_law_266 : decode cL_law 266 = .ok (.ishr, 1) := by decide +kernel
theorem dL_law_267 : decode cL_law 267 = .ok (.aload_n 3, 1) := by decide +kernel
theorem dL_law_268 : decode cL_law 268 = .ok (.aload 4, 2) := by decide +kernel
theorem dL_law_270 : decode cL_law 270 = .ok (.aload 5, 2) := by decide +kernel
theorem dL_law_272 : decode cL_law 272 = .ok (.aload 6, 2) := by decide +kernel
theorem dL_law_274 : decode cL_law 274 = .ok (.aload 7, 2) := by decide +kernel
theorem dL_law_276 : decode cL_law 276 = .ok (.aload 8, 2) := by decide +kernel
theorem dL_law_278 : decode cL_law 278 = .ok (.aload 9, 2) := by decide +kernel
theorem dL_law_280 : decode cL_law 280 = .ok (.aload_n 2, 1) := by decide +kernel
theorem dL_law_281 : decode cL_law 281 = .ok (.invokestatic 100, 3) := by decide +kernel
theorem dL_law_284 : decode cL_law 284 = .ok (.istore 13, 2) := by decide +kernel
theorem dL_law_286 : decode cL_law 286 = .ok (.goto 506, 3) := by decide +kernel
theorem dL_law_289 : decode cL_law 289 = .ok (.iload 12, 2) := by decide +kernel
theorem dL_law_291 : decode cL_law 291 = .ok (.bipush 14, 2) := by decide +kernel
theorem dL_law_293 : decode cL_law 293 = .ok (.if_icmp .ne 89, 3) := by decide +kernel
theorem dL_law_296 : decode cL_law 296 = .ok (.aload_n 2, 1) := by decide +kernel
theorem dL_law_297 : decode cL_law 297 = .ok (.iconst 1, 1) := by decide +kernel
theorem dL_law_298 : decode cL_law 298 = .ok (.iaload, 1) := by decide +kernel
theorem dL_law_299 : decode cL_law 299 = .ok (.ifCond .le 83, 3) := by decide +kernel
theorem dL_law_302 : decode cL_law 302 = .ok (.iload 11, 2) := by decide +kernel
theorem dL_law_304 : decode cL_law 304 = .ok (.iconst 5, 1) := by decide +kernel
theorem dL_law_305 : decode cL_law 305 = .ok (.ishr, 1) := by decide +kernel
theorem dL_law_306 : decode cL_law 306 = .ok (.aload_n 2, 1) := by decide +kernel
theorem dL_law_307 : decode cL_law 307 = .ok (.iconst 1, 1) := by decide +kernel
theorem dL_law_308 : decode cL_law 308 = .ok (.iaload, 1) := by decide +kernel
theorem dL_law_309 : decode cL_law 309 = .ok (.invokestatic 64, 3) := by decide +kernel
theorem dL_law_312 : decode cL_law 312 = .ok (.istore 14, 2) := by decide +kernel
theorem dL_law_314 : decode cL_law 314 = .ok (.aload 7, 2) := by decide +kernel
theorem dL_law_316 : decode cL_law 316 = .ok (.iconst 5, 1) := by decide +kernel
theorem dL_law_317 : decode cL_law 317 = .ok (.iload 14, 2) := by decide +kernel
theorem dL_law_319 : decode cL_law 319 = .ok (.imul, 1) := by decide +kernel
theorem dL_law_320 : decode cL_law 320 = .ok (.iconst 4, 1) := by decide +kernel
theorem dL_law_321 : decode cL_law 321 = .ok (.iadd, 1) := by decide +kernel
theorem dL_law_322 : decode cL_law 322 = .ok (.iaload, 1) := by decide +kernel
theorem dL_law_323 : decode cL_law 323 = .ok (.iconst 1, 1) := by decide +kernel
theorem dL_law_324 : decode cL_law 324 = .ok (.if_icmp .ne 8, 3) := by decide +kernel
theorem dL_law_327 : decode cL_law 327 = .ok (.bipush (-3), 2) := by decide +kernel
theorem dL_law_329 : decode cL_law 329 = .ok (.goto 16, 3) := by decide +kernel
theorem dL_law_332 : decode cL_law 332 = .ok (.aload_n 2, 1) := by decide +kernel
theorem dL_law_333 : decode cL_law 333 = .ok (.iconst 0, 1) := by decide +kernel
theorem dL_law_334 : decode cL_law 334 = .ok (.iaload, 1) := by decide +kernel
theorem dL_law_335 : decode cL_law 335 = .ok (.aload 7, 2) := by decide +kernel
theorem dL_law_337 : decode cL_law 337 = .ok (.iconst 5, 1) := by decide +kernel
theorem dL_law_338 : decode cL_law 338 = .ok (.iload 14, 2) := by decide +kernel
theorem dL_law_340 : decode cL_law 340 = .ok (.imul, 1) := by decide +kernel
theorem dL_law_341 : decode cL_law 341 = .ok (.iconst 2, 1) := by decide +kernel
theorem dL_law_342 : decode cL_law 342 = .ok (.iadd, 1) := by decide +kernel
theorem dL_law_343 : decode cL_law 343 = .ok (.iaload, 1) := by decide +kernel
theorem dL_law_344 : decode cL_law 344 = .ok (.isub, 1) := by decide +kernel
theorem dL_law_345 : decode cL_law 345 = .ok (.istore 15, 2) := by decide +kernel
theorem dL_law_347 : decode cL_law 347 = .ok (.aload 7, 2) := by decide +kernel
theorem dL_law_349 : decode cL_law 349 = .ok (.iconst 5, 1) := by decide +kernel
theorem dL_law_350 : decode cL_law 350 = .ok (.iload 14, 2) := by decide +kernel
theorem dL_law_352 : decode cL_law 352 = .ok (.imul, 1) := by decide +kernel
theorem dL_law_353 : decode cL_law 353 = .ok (.iconst 4, 1) := by decide +kernel
theorem dL_law_354 : decode cL_law 354 = .ok (.iadd, 1) := by decide +kernel
theorem dL_law_355 : decode cL_law 355 = .ok (.iconst 1, 1) := by decide +kernel
theorem dL_law_356 : decode cL_law 356 = .ok (.iastore, 1) := by decide +kernel
theorem dL_law_357 : decode cL_law 357 = .ok (.aload_n 1, 1) := by decide +kernel
theorem dL_law_358 : decode cL_law 358 = .ok (.iconst 2, 1) := by decide +kernel
theorem dL_law_359 : decode cL_law 359 = .ok (.iload 14, 2) := by decide +kernel
theorem dL_law_361 : decode cL_law 361 = .ok (.iconst 0, 1) := by decide +kernel
theorem dL_law_362 : decode cL_law 362 = .ok (.iconst 0, 1) := by decide +kernel
theorem dL_law_363 : decode cL_law 363 = .ok (.iconst 0, 1) := by decide +kernel
theorem dL_law_364 : decode cL_law 364 = .ok (.invokestatic 71, 3) := by decide +kernel
theorem dL_law_367 : decode cL_law 367 = .ok (.iload 15, 2) := by decide +kernel
theorem dL_law_369 : decode cL_law 369 = .ok (.if_icmp .ne 7, 3) := by decide +kernel
theorem dL_law_372 : decode cL_law 372 = .ok (.iconst 1, 1) := by decide +kernel
theorem dL_law_373 : decode cL_law 373 = .ok (.goto 4, 3) := by decide +kernel
theorem dL_law_376 : decode cL_law 376 = .ok (.iconst 0, 1) := by decide +kernel
theorem dL_law_377 : decode cL_law 377 = .ok (.istore 13, 2) := by decide +kernel
theorem dL_law_379 : decode cL_law 379 = .ok (.goto 413, 3) := by decide +kernel
theorem dL_law_382 : decode cL_law 382 = .ok (.iload 12, 2) := by decide +kernel
theorem dL_law_384 : decode cL_law 384 = .ok (.bipush 15, 2) := by decide +kernel
theorem dL_law_386 : decode cL_law 386 = .ok (.if_icmp .ne 202, 3) := by decide +kernel
theorem dL_law_389 : decode cL_law 389 = .ok (.iload 11, 2) := by decide +kernel
theorem dL_law_391 : decode cL_law 391 = .ok (.iconst 5, 1) := by decide +kernel
theorem dL_law_392 : decode cL_law 392 = .ok (.ishr, 1) := by decide +kernel
theorem dL_law_393 : decode cL_law 393 = .ok (.iconst 5, 1) := by decide +kernel
theorem dL_law_394 : decode cL_law 394 = .ok (.invokestatic 64, 3) := by decide +kernel
theorem dL_law_397 : decode cL_law 397 = .ok (.istore 14, 2) := by decide +kernel
theorem dL_law_399 : decode cL_law 399 = .ok (.iload 11, 2) := by decide +kernel
theorem dL_law_401 : decode cL_law 401 = .ok (.bipush 8, 2) := by decide +kernel
theorem dL_law_403 : decode cL_law 403 = .ok (.ishr, 1) := by decide +kernel
theorem dL_law_404 : decode cL_law 404 = .ok (.iconst 3, 1) := by decide +kernel
theorem dL_law_405 : decode cL_law 405 = .ok (.invokestatic 64, 3) := by decide +kernel
theorem dL_law_408 : decode cL_law 408 = .ok (.istore 15, 2) := by decide +kernel
theorem dL_law_410 : decode cL_law 410 = .ok (.iload 11, 2) := by decide +kernel
theorem dL_law_412 : decode cL_law 412 = .ok (.bipush 10, 2) := by decide +kernel
theorem dL_law_414 : decode cL_law 414 = .ok (.ishr, 1) := by decide +kernel
theorem dL_law_415 : decode cL_law 415 = .ok (.iconst 5, 1) := by decide +kernel
theorem dL_law_416 : decode cL_law 416 = .ok (.invokestatic 64, 3) := by decide +kernel
theorem dL_law_419 : decode cL_law 419 = .ok (.istore 16, 2) := by decide +kernel
theorem dL_law_421 : decode cL_law 421 = .ok (.iload 11, 2) := by decide +kernel
theorem dL_law_423 : decode cL_law 423 = .ok (.bipush 13, 2) := by decide +kernel
theorem dL_law_425 : decode cL_law 425 = .ok (.ishr, 1) := by decide +kernel
theorem dL_law_426 : decode cL_law 426 = .ok (.iconst 5, 1) := by decide +kernel
theorem dL_law_427 : decode cL_law 427 = .ok (.invokestatic 64, 3) := by decide +kernel
theorem dL_law_430 : decode cL_law 430 = .ok (.istore 17, 2) := by decide +kernel
theorem dL_law_432 : decode cL_law 432 = .ok (.iload 14, 2) := by decide +kernel
theorem dL_law_434 : decode cL_law 434 = .ok (.iload 16, 2) := by decide +kernel
theorem dL_law_436 : decode cL_law 436 = .ok (.if_icmp .eq 21, 3) := by decide +kernel
theorem dL_law_439 : decode cL_law 439 = .ok (.iload 14, 2) := by decide +kernel
theorem dL_law_441 : decode cL_law 441 = .ok (.iload 17, 2) := by decide +kernel
theorem dL_law_443 : decode cL_law 443 = .ok (.if_icmp .eq 14, 3) := by decide +kernel
theorem dL_law_446 : decode cL_law 446 = .ok (.iload 16, 2) := by decide +kernel
theorem dL_law_448 : decode cL_law 448 = .ok (.iload 17, 2) := by decide +kernel
theorem dL_law_450 : decode cL_law 450 = .ok (.if_icmp .eq 7, 3) := by decide +kernel
theorem dL_law_453 : decode cL_law 453 = .ok (.iconst 1, 1) := by decide +kernel
theorem dL_law_454 : decode cL_law 454 = .ok (.goto 4, 3) := by decide +kernel
theorem dL_law_457 : decode cL_law 457 = .ok (.iconst 0, 1) := by decide +kernel
theorem dL_law_458 : decode cL_law 458 = .ok (.istore 18, 2) := by decide +kernel
theorem dL_law_460 : decode cL_law 460 = .ok (.iload 18, 2) := by decide +kernel
theorem dL_law_462 : decode cL_law 462 = .ok (.ifCond .eq 37, 3) := by decide +kernel
theorem dL_law_465 : decode cL_law 465 = .ok (.iload 16, 2) := by decide +kernel
theorem dL_law_467 : decode cL_law 467 = .ok (.iload 15, 2) := by decide +kernel
theorem dL_law_469 : decode cL_law 469 = .ok (.aload_n 3, 1) := by decide +kernel
theorem dL_law_470 : decode cL_law 470 = .ok (.aload 4, 2) := by decide +kernel
theorem dL_law_472 : decode cL_law 472 = .ok (.aload 5, 2) := by decide +kernel
theorem dL_law_474 : decode cL_law 474 = .ok (.invokestatic 104, 3) := by decide +kernel
theorem dL_law_477 : decode cL_law 477 = .ok (.ifCond .eq 22, 3) := by decide +kernel
theorem dL_law_480 : decode cL_law 480 = .ok (.iload 17, 2) := by decide +kernel
theorem dL_law_482 : decode cL_law 482 = .ok (.iload 15, 2) := by decide +kernel
theorem dL_law_484 : decode cL_law 484 = .ok (.aload_n 3, 1) := by decide +kernel
theorem dL_law_485 : decode cL_law 485 = .ok (.aload 4, 2) := by decide +kernel
theorem dL_law_487 : decode cL_law 487 = .ok (.aload 5, 2) := by decide +kernel
theorem dL_law_489 : decode cL_law 489 = .ok (.invokestatic 104, 3) := by decide +kernel
theorem dL_law_492 : decode cL_law 492 = .ok (.ifCond .eq 7, 3) := by decide +kernel
theorem dL_law_495 : decode cL_law 495 = .ok (.iconst 1, 1) := by decide +kernel
theorem dL_law_496 : decode cL_law 496 = .ok (.goto 4, 3) := by decide +kernel
theorem dL_law_499 : decode cL_law 499 = .ok (.iconst 0, 1) := by decide +kernel
theorem dL_law_500 : decode cL_law 500 = .ok (.istore 19, 2) := by decide +kernel
theorem dL_law_502 : decode cL_law 502 = .ok (.aload 6, 2) := by decide +kernel
theorem dL_law_504 : decode cL_law 504 = .ok (.iconst 3, 1) := by decide +kernel
theorem dL_law_505 : decode cL_law 505 = .ok (.iload 14, 2) := by decide +kernel
theorem dL_law_507 : decode cL_law 507 = .ok (.imul, 1) := by decide +kernel
theorem dL_law_508 : decode cL_law 508 = .ok (.iload 15, 2) := by decide +kernel
theorem dL_law_510 : decode cL_law 510 = .ok (.iadd, 1) := by decide +kernel
theorem dL_law_511 : decode cL_law 511 = .ok (.iload 19, 2) := by decide +kernel
theorem dL_law_513 : decode cL_law 513 = .ok (.ifCond .eq 12, 3) := by decide +kernel
theorem dL_law_516 : decode cL_law 516 = .ok (.aload_n 2, 1) := by decide +kernel
theorem dL_law_517 : decode cL_law 517 = .ok (.iconst 0, 1) := by decide +kernel
theorem dL_law_518 : decode cL_law 518 = .ok (.iaload, 1) := by decide +kernel
theorem dL_law_519 : decode cL_law 519 = .ok (.bipush 60, 2) := by decide +kernel
theorem dL_law_521 : decode cL_law 521 = .ok (.iadd, 1) := by decide +kernel
theorem dL_law_522 : decode cL_law 522 = .ok (.goto 13, 3) := by decide +kernel
theorem dL_law_525 : decode cL_law 525 = .ok (.aload 6, 2) := by decide +kernel
theorem dL_law_527 : decode cL_law 527 = .ok (.iconst 3, 1) := by decide +kernel
theorem dL_law_528 : decode cL_law 528 = .ok (.iload 14, 2) := by decide +kernel
theorem dL_law_530 : decode cL_law 530 = .ok (.imul, 1) := by decide +kernel
theorem dL_law_531 : decode cL_law 531 = .ok (.iload 15, 2) := by decide +kernel
theorem dL_law_533 : decode cL_law 533 = .ok (.iadd, 1) := by decide +kernel
theorem dL_law_534 : decode cL_law 534 = .ok (.iaload, 1) := by decide +kernel
theorem dL_law_535 : decode cL_law 535 = .ok (.iastore, 1) := by decide +kernel
theorem dL_law_536 : decode cL_law 536 = .ok (.aload_n 1, 1) := by decide +kernel
theorem dL_law_537 : decode cL_law 537 = .ok (.iconst 3, 1) := by decide +kernel
theorem dL_law_538 : decode cL_law 538 = .ok (.iload 14, 2) := by decide +kernel
theorem dL_law_540 : decode cL_law 540 = .ok (.iload 15, 2) := by decide +kernel
theorem dL_law_542 : decode cL_law 542 = .ok (.iload 16, 2) := by decide +kernel
theorem dL_law_544 : decode cL_law 544 = .ok (.iload 17, 2) := by decide +kernel
theorem dL_law_546 : decode cL_law 546 = .ok (.invokestatic 71, 3) := by decide +kernel
theorem dL_law_549 : decode cL_law 549 = .ok (.iload 19, 2) := by decide +kernel
theorem dL_law_551 : decode cL_law 551 = .ok (.ifCond .eq 12, 3) := by decide +kernel
theorem dL_law_554 : decode cL_law 554 = .ok (.aload_n 2, 1) := by decide +kernel
theorem dL_law_555 : decode cL_law 555 = .ok (.iconst 0, 1) := by decide +kernel
theorem dL_law_556 : decode cL_law 556 = .ok (.iaload, 1) := by decide +kernel
theorem dL_law_557 : decode cL_law 557 = .ok (.bipush 60, 2) := by decide +kernel
theorem dL_law_559 : decode cL_law 559 = .ok (.iadd, 1) := by decide +kernel
theorem dL_law_560 : decode cL_law 560 = .ok (.goto 15, 3) := by decide +kernel
theorem dL_law_563 : decode cL_law 563 = .ok (.iload 18, 2) := by decide +kernel
theorem dL_law_565 : decode cL_law 565 = .ok (.ifCond .eq 8, 3) := by decide +kernel
theorem dL_law_568 : decode cL_law 568 = .ok (.bipush (-3), 2) := by decide +kernel
theorem dL_law_570 : decode cL_law 570 = .ok (.goto 5, 3) := by decide +kernel
theorem dL_law_573 : decode cL_law 573 = .ok (.bipush (-2), 2) := by decide +kernel
theorem dL_law_575 : decode cL_law 575 = .ok (.if_icmp .ne 7, 3) := by decide +kernel
theorem dL_law_578 : decode cL_law 578 = .ok (.iconst 1, 1) := by decide +kernel
theorem dL_law_579 : decode cL_law 579 = .ok (.goto 4, 3) := by decide +kernel
theorem dL_law_582 : decode cL_law 582 = .ok (.iconst 0, 1) := by decide +kernel
theorem dL_law_583 : decode cL_law 583 = .ok (.istore 13, 2) := by decide +kernel
theorem dL_law_585 : decode cL_law 585 = .ok (.goto 207, 3) := by decide +kernel
theorem dL_law_588 : decode cL_law 588 = .ok (.iload 12, 2) := by decide +kernel
theorem dL_law_590 : decode cL_law 590 = .ok (.bipush 18, 2) := by decide +kernel
theorem dL_law_592 : decode cL_law 592 = .ok (.if_icmp .ge 36, 3) := by decide +kernel
theorem dL_law_595 : decode cL_law 595 = .ok (.aload_n 1, 1) := by decide +kernel
theorem dL_law_596 : decode cL_law 596 = .ok (.iload 12, 2) := by decide +kernel
theorem dL_law_598 : decode cL_law 598 = .ok (.bipush 16, 2) := by decide +kernel
theorem dL_law_600 : decode cL_law 600 = .ok (.isub, 1) := by decide +kernel
theorem dL_law_601 : decode cL_law 601 = .ok (.ifCond .ge 7, 3) := by decide +kernel
theorem dL_law_604 : decode cL_law 604 = .ok (.iconst 0, 1) := by decide +kernel
theorem dL_law_605 : decode cL_law 605 = .ok (.goto 8, 3) := by decide +kernel
theorem dL_law_608 : decode cL_law 608 = .ok (.iload 12, 2) := by decide +kernel
theorem dL_law_610 : decode cL_law 610 = .ok (.bipush 16, 2) := by decide +kernel
theorem dL_law_612 : decode cL_law 612 = .ok (.isub, 1) := by decide +kernel
theorem dL_law_613 : decode cL_law 613 = .ok (.iload 11, 2) := by decide +kernel
theorem dL_law_615 : decode cL_law 615 = .ok (.iconst 5, 1) := by decide +kernel
theorem dL_law_616 : decode cL_law 616 = .ok (.ishr, 1) := by decide +kernel
theorem dL_law_617 : decode cL_law 617 = .ok (.aload 8, 2) := by decide +kernel
theorem dL_law_619 : decode cL_law 619 = .ok (.aload_n 2, 1) := by decide +kernel
theorem dL_law_620 : decode cL_law 620 = .ok (.invokestatic 108, 3) := by decide +kernel
theorem dL_law_623 : decode cL_law 623 = .ok (.istore 13, 2) := by decide +kernel
theorem dL_law_625 : decode cL_law 625 = .ok (.goto 167, 3) := by decide +kernel
theorem dL_law_628 : decode cL_law 628 = .ok (.iload 12, 2) := by decide +kernel
theorem dL_law_630 : decode cL_law 630 = .ok (.bipush 18, 2) := by decide +kernel
theorem dL_law_632 : decode cL_law 632 = .ok (.if_icmp .ne 97, 3) := by decide +kernel
theorem dL_law_635 : decode cL_law 635 = .ok (.iload 11, 2) := by decide +kernel
theorem dL_law_637 : decode cL_law 637 = .ok (.bipush 9, 2) := by decide +kernel
theorem dL_law_639 : decode cL_law 639 = .ok (.ishr, 1) := by decide +kernel
theorem dL_law_640 : decode cL_law 640 = .ok (.iconst 3, 1) := by decide +kernel
theorem dL_law_641 : decode cL_law 641 = .ok (.invokestatic 64, 3) := by decide +kernel
theorem dL_law_644 : decode cL_law 644 = .ok (.ifCond .ne 85, 3) := by decide +kernel
theorem dL_law_647 : decode cL_law 647 = .ok (.iload 11, 2) := by decide +kernel
theorem dL_law_649 : decode cL_law 649 = .ok (.iconst 5, 1) := by decide +kernel
theorem dL_law_650 : decode cL_law 650 = .ok (.ishr, 1) := by decide +kernel
theorem dL_law_651 : decode cL_law 651 = .ok (.iload 11, 2) := by decide +kernel
theorem dL_law_653 : decode cL_law 653 = .ok (.bipush 13, 2) := by decide +kernel
theorem dL_law_655 : decode cL_law 655 = .ok (.ishr, 1) := by decide +kernel
theorem dL_law_656 : decode cL_law 656 = .ok (.iconst 2, 1) := by decide +kernel
theorem dL_law_657 : decode cL_law 657 = .ok (.invokestatic 64, 3) := by decide +kernel
theorem dL_law_660 : decode cL_law 660 = .ok (.ifCond .ne 8, 3) := by decide +kernel
theorem dL_law_663 : decode cL_law 663 = .ok (.bipush 40, 2) := by decide +kernel
theorem dL_law_665 : decode cL_law 665 = .ok (.goto 6, 3) := by decide +kernel
theorem dL_law_668 : decode cL_law 668 = .ok (.sipush 301, 3) := by decide +kernel
theorem dL_law_671 : decode cL_law 671 = .ok (.invokestatic 64, 3) := by decide +kernel
theorem dL_law_674 : decode cL_law 674 = .ok (.istore 14, 2) := by decide +kernel
theorem dL_law_676 : decode cL_law 676 = .ok (.aload_n 2, 1) := by decide +kernel
theorem dL_law_677 : decode cL_law 677 = .ok (.iconst 2, 1) := by decide +kernel
theorem dL_law_678 : decode cL_law 678 = .ok (.dup2, 1) := by decide +kernel
theorem dL_law_679 : decode cL_law 679 = .ok (.iaload, 1) := by decide +kernel
theorem dL_law_680 : decode cL_law 680 = .ok (.iconst 1, 1) := by decide +kernel
theorem dL_law_681 : decode cL_law 681 = .ok (.iadd, 1) := by decide +kernel
theorem dL_law_682 : decode cL_law 682 = .ok (.iastore, 1) := by decide +kernel
theorem dL_law_683 : decode cL_law 683 = .ok (.aload_n 2, 1) := by decide +kernel
theorem dL_law_684 : decode cL_law 684 = .ok (.iconst 3, 1) := by decide +kernel
theorem dL_law_685 : decode cL_law 685 = .ok (.aload_n 2, 1) := by decide +kernel
theorem dL_law_686 : decode cL_law 686 = .ok (.iconst 0, 1) := by decide +kernel
theorem dL_law_687 : decode cL_law 687 = .ok (.iaload, 1) := by decide +kernel
theorem dL_law_688 : decode cL_law 688 = .ok (.iload 14, 2) := by decide +kernel
theorem dL_law_690 : decode cL_law 690 = .ok (.iadd, 1) := by decide +kernel
theorem dL_law_691 : decode cL_law 691 = .ok (.iastore, 1) := by decide +kernel
theorem dL_law_692 : decode cL_law 692 = .ok (.aload 7, 2) := by decide +kernel
theorem dL_law_694 : decode cL_law 694 = .ok (.aload 5, 2) := by decide +kernel
theorem dL_law_696 : decode cL_law 696 = .ok (.aload_n 2, 1) := by decide +kernel
theorem dL_law_697 : decode cL_law 697 = .ok (.invokestatic 112, 3) := by decide +kernel
theorem dL_law_700 : decode cL_law 700 = .ok (.istore 15, 2) := by decide +kernel
theorem dL_law_702 : decode cL_law 702 = .ok (.iload 15, 2) := by decide +kernel
theorem dL_law_704 : decode cL_law 704 = .ok (.ifCond .lt 19, 3) := by decide +kernel
theorem dL_law_707 : decode cL_law 707 = .ok (.aload_n 1, 1) := by decide +kernel
theorem dL_law_708 : decode cL_law 708 = .ok (.iload 14, 2) := by decide +kernel
theorem dL_law_710 : decode cL_law 710 = .ok (.invokevirtual 116, 3) := by decide +kernel
theorem dL_law_713 : decode cL_law 713 = .ok (.aload_n 2, 1) := by decide +kernel
theorem dL_law_714 : decode cL_law 714 = .ok (.iconst 2, 1) := by decide +kernel
theorem dL_law_715 : decode cL_law 715 = .ok (.iaload, 1) := by decide +kernel
theorem dL_law_716 : decode cL_law 716 = .ok (.if_icmp .ne 7, 3) := by decide +kernel
theorem dL_law_719 : decode cL_law 719 = .ok (.iconst 1, 1) := by decide +kernel
theorem dL_law_720 : decode cL_law 720 = .ok (.goto 4, 3) := by decide +kernel
theorem dL_law_723 : decode cL_law 723 = .ok (.iconst 0, 1) := by decide +kernel
theorem dL_law_724 : decode cL_law 724 = .ok (.istore 13, 2) := by decide +kernel
theorem dL_law_726 : decode cL_law 726 = .ok (.goto 66, 3) := by decide +kernel
theorem dL_law_729 : decode cL_law 729 = .ok (.iconst 1, 1) := by decide +kernel
theorem dL_law_730 : decode cL_law 730 = .ok (.iload 11, 2) := by decide +kernel
theorem dL_law_732 : decode cL_law 732 = .ok (.iconst 5, 1) := by decide +kernel
theorem dL_law_733 : decode cL_law 733 = .ok (.ishr, 1) := by decide +kernel
theorem dL_law_734 : decode cL_law 734 = .ok (.iload 11, 2) := by decide +kernel
theorem dL_law_736 : decode cL_law 736 = .ok (.bipush 14, 2) := by decide +kernel
theorem dL_law_738 : decode cL_law 738 = .ok (.ishr, 1) := by decide +kernel
theorem dL_law_739 : decode cL_law 739 = .ok (.iconst 5, 1) := by decide +kernel
theorem dL_law_740 : decode cL_law 740 = .ok (.invokestatic 64, 3) := by decide +kernel
theorem dL_law_743 : decode cL_law 743 = .ok (.ifCond .ne 9, 3) := by decide +kernel
theorem dL_law_746 : decode cL_law 746 = .ok (.sipush 300, 3) := by decide +kernel
theorem dL_law_749 : decode cL_law 749 = .ok (.goto 5, 3) := by decide +kernel
theorem dL_law_752 : decode cL_law 752 = .ok (.bipush 12, 2) := by decide +kernel
theorem dL_law_754 : decode cL_law 754 = .ok (.invokestatic 64, 3) := by decide +kernel
theorem dL_law_757 : decode cL_law 757 = .ok (.iadd, 1) := by decide +kernel
theorem dL_law_758 : decode cL_law 758 = .ok (.istore 14, 2) := by decide +kernel
theorem dL_law_760 : decode cL_law 760 = .ok (.aload_n 2, 1) := by decide +kernel
theorem dL_law_761 : decode cL_law 761 = .ok (.iconst 0, 1) := by decide +kernel
theorem dL_law_762 : decode cL_law 762 = .ok (.dup2, 1) := by decide +kernel
theorem dL_law_763 : decode cL_law 763 = .ok (.iaload, 1) := by decide +kernel
theorem dL_law_764 : decode cL_law 764 = .ok (.iload 14, 2) := by decide +kernel
theorem dL_law_766 : decode cL_law 766 = .ok (.iadd, 1) := by decide +kernel
theorem dL_law_767 : decode cL_law 767 = .ok (.iastore, 1) := by decide +kernel
theorem dL_law_768 : decode cL_law 768 = .ok (.aload_n 1, 1) := by decide +kernel
theorem dL_law_769 : decode cL_law 769 = .ok (.iload 14, 2) := by decide +kernel
theorem dL_law_771 : decode cL_law 771 = .ok (.invokevirtual 119, 3) := by decide +kernel
theorem dL_law_774 : decode cL_law 774 = .ok (.aload 7, 2) := by decide +kernel
theorem dL_law_776 : decode cL_law 776 = .ok (.aload 5, 2) := by decide +kernel
theorem dL_law_778 : decode cL_law 778 = .ok (.aload_n 2, 1) := by decide +kernel
theorem dL_law_779 : decode cL_law 779 = .ok (.invokestatic 112, 3) := by decide +kernel
theorem dL_law_782 : decode cL_law 782 = .ok (.if_icmp .ne 7, 3) := by decide +kernel
theorem dL_law_785 : decode cL_law 785 = .ok (.iconst 1, 1) := by decide +kernel
theorem dL_law_786 : decode cL_law 786 = .ok (.goto 4, 3) := by decide +kernel
theorem dL_law_789 : decode cL_law 789 = .ok (.iconst 0, 1) := by decide +kernel
theorem dL_law_790 : decode cL_law 790 = .ok (.istore 13, 2) := by decide +kernel
theorem dL_law_792 : decode cL_law 792 = .ok (.iload 13, 2) := by decide +kernel
theorem dL_law_794 : decode cL_law 794 = .ok (.ifCond .eq 24, 3) := by decide +kernel
theorem dL_law_797 : decode cL_law 797 = .ok (.aload_n 1, 1) := by decide +kernel
theorem dL_law_798 : decode cL_law 798 = .ok (.aload_n 3, 1) := by decide +kernel
theorem dL_law_799 : decode cL_law 799 = .ok (.aload 4, 2) := by decide +kernel
theorem dL_law_801 : decode cL_law 801 = .ok (.aload 5, 2) := by decide +kernel
theorem dL_law_803 : decode cL_law 803 = .ok (.aload 6, 2) := by decide +kernel
theorem dL_law_805 : decode cL_law 805 = .ok (.aload 7, 2) := by decide +kernel
theorem dL_law_807 : decode cL_law 807 = .ok (.aload 8, 2) := by decide +kernel
theorem dL_law_809 : decode cL_law 809 = .ok (.aload 9, 2) := by decide +kernel
theorem dL_law_811 : decode cL_law 811 = .ok (.aload_n 2, 1) := by decide +kernel
theorem dL_law_812 : decode cL_law 812 = .ok (.invokestatic 122, 3) := by decide +kernel
theorem dL_law_815 : decode cL_law 815 = .ok (.ifCond .ne 5, 3) := by decide +kernel
theorem dL_law_818 : decode cL_law 818 = .ok (.iconst 0, 1) := by decide +kernel
theorem dL_law_819 : decode cL_law 819 = .ok (.ireturn, 1) := by decide +kernel
theorem dL_law_820 : decode cL_law 820 = .ok (.iinc 10 1, 3) := by decide +kernel
theorem dL_law_823 : decode cL_law 823 = .ok (.goto (-757), 3) := by decide +kernel
theorem dL_law_826 : decode cL_law 826 = .ok (.iconst 1, 1) := by decide +kernel
theorem dL_law_827 : decode cL_law 827 = .ok (.ireturn, 1) := by decide +kernel
abbrev vwCl : List vw_C := [(RX0, TX0, 3), (RX1, TX1, 4), (RX2, TX2, 2), (RX3, TX3, 6), (RX4, TX4, 7)]

