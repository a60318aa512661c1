theorem dc_L_law_0 : decode code 0 = .ok (.new 8, 3) := by decide +kernel
theorem dc_L_law_3 : decode code 3 = .ok (.dup, 1) := by decide +kernel
theorem dc_L_law_4 : decode code 4 = .ok (.invokespecial 46, 3) := by decide +kernel
theorem dc_L_law_7 : decode code 7 = .ok (.astore_n 1, 1) := by decide +kernel
theorem dc_L_law_8 : decode code 8 = .ok (.new 47, 3) := by decide +kernel
theorem dc_L_law_11 : decode code 11 = .ok (.dup, 1) := by decide +kernel
theorem dc_L_law_12 : decode code 12 = .ok (.invokespecial 49, 3) := by decide +kernel
theorem dc_L_law_15 : decode code 15 = .ok (.astore_n 2, 1) := by decide +kernel
theorem dc_L_law_16 : decode code 16 = .ok (.iconst 1, 1) := by decide +kernel
theorem dc_L_law_17 : decode code 17 = .ok (.newarray .long, 2) := by decide +kernel
theorem dc_L_law_19 : decode code 19 = .ok (.astore_n 3, 1) := by decide +kernel
theorem dc_L_law_20 : decode code 20 = .ok (.iconst 0, 1) := by decide +kernel
theorem dc_L_law_21 : decode code 21 = .ok (.istore 4, 2) := by decide +kernel
theorem dc_L_law_23 : decode code 23 = .ok (.iload 4, 2) := by decide +kernel
theorem dc_L_law_25 : decode code 25 = .ok (.aload_n 0, 1) := by decide +kernel
theorem dc_L_law_26 : decode code 26 = .ok (.arraylength, 1) := by decide +kernel
theorem dc_L_law_27 : decode code 27 = .ok (.bipush 6, 2) := by decide +kernel
theorem dc_L_law_29 : decode code 29 = .ok (.isub, 1) := by decide +kernel
theorem dc_L_law_30 : decode code 30 = .ok (.if_icmp .gt 644, 3) := by decide +kernel
theorem dc_L_law_33 : decode code 33 = .ok (.aload_n 0, 1) := by decide +kernel
theorem dc_L_law_34 : decode code 34 = .ok (.iload 4, 2) := by decide +kernel
theorem dc_L_law_36 : decode code 36 = .ok (.iaload, 1) := by decide +kernel
theorem dc_L_law_37 : decode code 37 = .ok (.bipush 15, 2) := by decide +kernel
theorem dc_L_law_39 : decode code 39 = .ok (.iand, 1) := by decide +kernel
theorem dc_L_law_40 : decode code 40 = .ok (.tableswitch 628 0 8 #[52, 156, 224, 292, 348, 404, 479, 559, 615], 52) := by decide +kernel
theorem dc_L_law_92 : decode code 92 = .ok (.aload_n 1, 1) := by decide +kernel
theorem dc_L_law_93 : decode code 93 = .ok (.aload_n 0, 1) := by decide +kernel
theorem dc_L_law_94 : decode code 94 = .ok (.iload 4, 2) := by decide +kernel
theorem dc_L_law_96 : decode code 96 = .ok (.iconst 1, 1) := by decide +kernel
theorem dc_L_law_97 : decode code 97 = .ok (.iadd, 1) := by decide +kernel
theorem dc_L_law_98 : decode code 98 = .ok (.iaload, 1) := by decide +kernel
theorem dc_L_law_99 : decode code 99 = .ok (.aload_n 0, 1) := by decide +kernel
theorem dc_L_law_100 : decode code 100 = .ok (.iload 4, 2) := by decide +kernel
theorem dc_L_law_102 : decode code 102 = .ok (.iconst 2, 1) := by decide +kernel
theorem dc_L_law_103 : decode code 103 = .ok (.iadd, 1) := by decide +kernel
theorem dc_L_law_104 : decode code 104 = .ok (.iaload, 1) := by decide +kernel
theorem dc_L_law_105 : decode code 105 = .ok (.aload_n 0, 1) := by decide +kernel
theorem dc_L_law_106 : decode code 106 = .ok (.iload 4, 2) := by decide +kernel
theorem dc_L_law_108 : decode code 108 = .ok (.iconst 3, 1) := by decide +kernel
theorem dc_L_law_109 : decode code 109 = .ok (.iadd, 1) := by decide +kernel
theorem dc_L_law_110 : decode code 110 = .ok (.iaload, 1) := by decide +kernel
theorem dc_L_law_111 : decode code 111 = .ok (.aload_n 0, 1) := by decide +kernel
theorem dc_L_law_112 : decode code 112 = .ok (.iload 4, 2) := by decide +kernel
theorem dc_L_law_114 : decode code 114 = .ok (.iconst 4, 1) := by decide +kernel
theorem dc_L_law_115 : decode code 115 = .ok (.iadd, 1) := by decide +kernel
theorem dc_L_law_116 : decode code 116 = .ok (.iaload, 1) := by decide +kernel
theorem dc_L_law_117 : decode code 117 = .ok (.aload_n 0, 1) := by decide +kernel
theorem dc_L_law_118 : decode code 118 = .ok (.iload 4, 2) := by decide +kernel
theorem dc_L_law_120 : decode code 120 = .ok (.iconst 5, 1) := by decide +kernel
theorem dc_L_law_121 : decode code 121 = .ok (.iadd, 1) := by decide +kernel
theorem dc_L_law_122 : decode code 122 = .ok (.iaload, 1) := by decide +kernel
theorem dc_L_law_123 : decode code 123 = .ok (.aload_n 3, 1) := by decide +kernel
theorem dc_L_law_124 : decode code 124 = .ok (.invokestatic 50, 3) := by decide +kernel
theorem dc_L_law_127 : decode code 127 = .ok (.istore 5, 2) := by decide +kernel
theorem dc_L_law_129 : decode code 129 = .ok (.aload_n 2, 1) := by decide +kernel
theorem dc_L_law_130 : decode code 130 = .ok (.aload_n 0, 1) := by decide +kernel
theorem dc_L_law_131 : decode code 131 = .ok (.iload 4, 2) := by decide +kernel
theorem dc_L_law_133 : decode code 133 = .ok (.iconst 1, 1) := by decide +kernel
theorem dc_L_law_134 : decode code 134 = .ok (.iadd, 1) := by decide +kernel
theorem dc_L_law_135 : decode code 135 = .ok (.iaload, 1) := by decide +kernel
theorem dc_L_law_136 : decode code 136 = .ok (.aload_n 0, 1) := by decide +kernel
theorem dc_L_law_137 : decode code 137 = .ok (.iload 4, 2) := by decide +kernel
theorem dc_L_law_139 : decode code 139 = .ok (.iconst 2, 1) := by decide +kernel
theorem dc_L_law_140 : decode code 140 = .ok (.iadd, 1) := by decide +kernel
theorem dc_L_law_141 : decode code 141 = .ok (.iaload, 1) := by decide +kernel
theorem dc_L_law_142 : decode code 142 = .ok (.aload_n 0, 1) := by decide +kernel
theorem dc_L_law_143 : decode code 143 = .ok (.iload 4, 2) := by decide +kernel
theorem dc_L_law_145 : decode code 145 = .ok (.iconst 3, 1) := by decide +kernel
theorem dc_L_law_146 : decode code 146 = .ok (.iadd, 1) := by decide +kernel
theorem dc_L_law_147 : decode code 147 = .ok (.iaload, 1) := by decide +kernel
theorem dc_L_law_148 : decode code 148 = .ok (.aload_n 0, 1) := by decide +kernel
theorem dc_L_law_149 : decode code 149 = .ok (.iload 4, 2) := by decide +kernel
theorem dc_L_law_151 : decode code 151 = .ok (.iconst 4, 1) := by decide +kernel
theorem dc_L_law_152 : decode code 152 = .ok (.iadd, 1) := by decide +kernel
theorem dc_L_law_153 : decode code 153 = .ok (.iaload, 1) := by decide +kernel
theorem dc_L_law_154 : decode code 154 = .ok (.aload_n 0, 1) := by decide +kernel
theorem dc_L_law_155 : decode code 155 = .ok (.iload 4, 2) := by decide +kernel
theorem dc_L_law_157 : decode code 157 = .ok (.iconst 5, 1) := by decide +kernel
theorem dc_L_law_158 : decode code 158 = .ok (.iadd, 1) := by decide +kernel
theorem dc_L_law_159 : decode code 159 = .ok (.iaload, 1) := by decide +kernel
theorem dc_L_law_160 : decode code 160 = .ok (.invokevirtual 55, 3) := by decide +kernel
theorem dc_L_law_163 : decode code 163 = .ok (.istore 6, 2) := by decide +kernel
theorem dc_L_law_165 : decode code 165 = .ok (.aload_n 2, 1) := by decide +kernel
theorem dc_L_law_166 : decode code 166 = .ok (.invokevirtual 56, 3) := by decide +kernel
theorem dc_L_law_169 : decode code 169 = .ok (.iload 5, 2) := by decide +kernel
theorem dc_L_law_171 : decode code 171 = .ok (.if_icmp .eq 5, 3) := by decide +kernel
theorem dc_L_law_174 : decode code 174 = .ok (.iconst 0, 1) := by decide +kernel
theorem dc_L_law_175 : decode code 175 = .ok (.ireturn, 1) := by decide +kernel
theorem dc_L_law_176 : decode code 176 = .ok (.iload 5, 2) := by decide +kernel
theorem dc_L_law_178 : decode code 178 = .ok (.ifCond .ne 15, 3) := by decide +kernel
theorem dc_L_law_181 : decode code 181 = .ok (.aload_n 3, 1) := by decide +kernel
theorem dc_L_law_182 : decode code 182 = .ok (.iconst 0, 1) := by decide +kernel
theorem dc_L_law_183 : decode code 183 = .ok (.laload, 1) := by decide +kernel
theorem dc_L_law_184 : decode code 184 = .ok (.iload 6, 2) := by decide +kernel
theorem dc_L_law_186 : decode code 186 = .ok (.i2l, 1) := by decide +kernel
theorem dc_L_law_187 : decode code 187 = .ok (.lcmp, 1) := by decide +kernel
theorem dc_L_law_188 : decode code 188 = .ok (.ifCond .eq 5, 3) := by decide +kernel
theorem dc_L_law_191 : decode code 191 = .ok (.iconst 0, 1) := by decide +kernel
theorem dc_L_law_192 : decode code 192 = .ok (.ireturn, 1) := by decide +kernel
theorem dc_L_law_193 : decode code 193 = .ok (.goto 475, 3) := by decide +kernel
theorem dc_L_law_196 : decode code 196 = .ok (.aload_n 1, 1) := by decide +kernel
theorem dc_L_law_197 : decode code 197 = .ok (.aload_n 0, 1) := by decide +kernel
theorem dc_L_law_198 : decode code 198 = .ok (.iload 4, 2) := by decide +kernel
theorem dc_L_law_200 : decode code 200 = .ok (.iconst 1, 1) := by decide +kernel
theorem dc_L_law_201 : decode code 201 = .ok (.iadd, 1) := by decide +kernel
theorem dc_L_law_202 : decode code 202 = .ok (.iaload, 1) := by decide +kernel
theorem dc_L_law_203 : decode code 203 = .ok (.aload_n 0, 1) := by decide +kernel
theorem dc_L_law_204 : decode code 204 = .ok (.iload 4, 2) := by decide +kernel
theorem dc_L_law_206 : decode code 206 = .ok (.iconst 2, 1) := by decide +kernel
theorem dc_L_law_207 : decode code 207 = .ok (.iadd, 1) := by decide +kernel
theorem dc_L_law_208 : decode code 208 = .ok (.iaload, 1) := by decide +kernel
theorem dc_L_law_209 : decode code 209 = .ok (.aload_n 3, 1) := by decide +kernel
theorem dc_L_law_210 : decode code 210 = .ok (.invokestatic 60, 3) := by decide +kernel
theorem dc_L_law_213 : decode code 213 = .ok (.istore 5, 2) := by decide +kernel
theorem dc_L_law_215 : decode code 215 = .ok (.aload_n 2, 1) := by decide +kernel
theorem dc_L_law_216 : decode code 216 = .ok (.aload_n 0, 1) := by decide +kernel
theorem dc_L_law_217 : decode code 217 = .ok (.iload 4, 2) := by decide +kernel
theorem dc_L_law_219 : decode code 219 = .ok (.iconst 1, 1) := by decide +kernel
theorem dc_L_law_220 : decode code 220 = .ok (.iadd, 1) := by decide +kernel
theorem dc_L_law_221 : decode code 221 = .ok (.iaload, 1) := by decide +kernel
theorem dc_L_law_222 : decode code 222 = .ok (.aload_n 0, 1) := by decide +kernel
theorem dc_L_law_223 : decode code 223 = .ok (.iload 4, 2) := by decide +kernel
theorem dc_L_law_225 : decode code 225 = .ok (.iconst 2, 1) := by decide +kernel
theorem dc_L_law_226 : decode code 226 = .ok (.iadd, 1) := by decide +kernel
theorem dc_L_law_227 : decode code 227 = .ok (.iaload, 1) := by decide +kernel
theorem dc_L_law_228 : decode code 228 = .ok (.invokevirtual 63, 3) := by decide +kernel
theorem dc_L_law_231 : decode code 231 = .ok (.istore 6, 2) := by decide +kernel
theorem dc_L_law_233 : decode code 233 = .ok (.aload_n 2, 1) := by decide +kernel
theorem dc_L_law_234 : decode code 234 = .ok (.invokevirtual 56, 3) := by decide +kernel
theorem dc_L_law_237 : decode code 237 = .ok (.iload 5, 2) := by decide +kernel
theorem dc_L_law_239 : decode code 239 = .ok (.if_icmp .eq 5, 3) := by decide +kernel
theorem dc_L_law_242 : decode code 242 = .ok (.iconst 0, 1) := by decide +kernel
theorem dc_L_law_243 : decode code 243 = .ok (.ireturn, 1) := by decide +kernel
theorem dc_L_law_244 : decode code 244 = .ok (.iload 5, 2) := by decide +kernel
theorem dc_L_law_246 : decode code 246 = .ok (.ifCond .ne 15, 3) := by decide +kernel
theorem dc_L_law_249 : decode code 249 = .ok (.aload_n 3, 1) := by decide +kernel
theorem dc_L_law_250 : decode code 250 = .ok (.iconst 0, 1) := by decide +kernel
theorem dc_L_law_251 : decode code 251 = .ok (.laload, 1) := by decide +kernel
theorem dc_L_law_252 : decode code 252 = .ok (.iload 6, 2) := by decide +kernel
theorem dc_L_law_254 : decode code 254 = .ok (.i2l, 1) := by decide +kernel
theorem dc_L_law_255 : decode code 255 = .ok (.lcmp, 1) := by decide +kernel
theorem dc_L_law_256 : decode code 256 = .ok (.ifCond .eq 5, 3) := by decide +kernel
theorem dc_L_law_259 : decode code 259 = .ok (.iconst 0, 1) := by decide +kernel
theorem dc_L_law_260 : decode code 260 = .ok (.ireturn, 1) := by decide +kernel
theorem dc_L_law_261 : decode code 261 = .ok (.goto 407, 3) := by decide +kernel
theorem dc_L_law_264 : decode code 264 = .ok (.aload_n 1, 1) := by decide +kernel
theorem dc_L_law_265 : decode code 265 = .ok (.aload_n 0, 1) := by decide +kernel
theorem dc_L_law_266 : decode code 266 = .ok (.iload 4, 2) := by decide +kernel
theorem dc_L_law_268 : decode code 268 = .ok (.iconst 1, 1) := by decide +kernel
theorem dc_L_law_269 : decode code 269 = .ok (.iadd, 1) := by decide +kernel
theorem dc_L_law_270 : decode code 270 = .ok (.iaload, 1) := by decide +kernel
theorem dc_L_law_271 : decode code 271 = .ok (.aload_n 0, 1) := by decide +kernel
theorem dc_L_law_272 : decode code 272 = .ok (.iload 4, 2) := by decide +kernel
theorem dc_L_law_274 : decode code 274 = .ok (.iconst 2, 1) := by decide +kernel
theorem dc_L_law_275 : decode code 275 = .ok (.iadd, 1) := by decide +kernel
theorem dc_L_law_276 : decode code 276 = .ok (.iaload, 1) := by decide +kernel
theorem dc_L_law_277 : decode code 277 = .ok (.aload_n 3, 1) := by decide +kernel
theorem dc_L_law_278 : decode code 278 = .ok (.invokestatic 64, 3) := by decide +kernel
theorem dc_L_law_281 : decode code 281 = .ok (.istore 5, 2) := by decide +kernel
theorem dc_L_law_283 : decode code 283 = .ok (.aload_n 2, 1) := by decide +kernel
theorem dc_L_law_284 : decode code 284 = .ok (.aload_n 0, 1) := by decide +kernel
theorem dc_L_law_285 : decode code 285 = .ok (.iload 4, 2) := by decide +kernel
theorem dc_L_law_287 : decode code 287 = .ok (.iconst 1, 1) := by decide +kernel
theorem dc_L_law_288 : decode code 288 = .ok (.iadd, 1) := by decide +kernel
theorem dc_L_law_289 : decode code 289 = .ok (.iaload, 1) := by decide +kernel
theorem dc_L_law_290 : decode code 290 = .ok (.aload_n 0, 1) := by decide +kernel
theorem dc_L_law_291 : decode code 291 = .ok (.iload 4, 2) := by decide +kernel
theorem dc_L_law_293 : decode code 293 = .ok (.iconst 2, 1) := by decide +kernel
theorem dc_L_law_294 : decode code 294 = .ok (.iadd, 1) := by decide +kernel
theorem dc_L_law_295 : decode code 295 = .ok (.iaload, 1) := by decide +kernel
theorem dc_L_law_296 : decode code 296 = .ok (.invokevirtual 66, 3) := by decide +kernel
theorem dc_L_law_299 : decode code 299 = .ok (.istore 6, 2) := by decide +kernel
theorem dc_L_law_301 : decode code 301 = .ok (.aload_n 2, 1) := by decide +kernel
theorem dc_L_law_302 : decode code 302 = .ok (.invokevirtual 56, 3) := by decide +kernel
theorem dc_L_law_305 : decode code 305 = .ok (.iload 5, 2) := by decide +kernel
theorem dc_L_law_307 : decode code 307 = .ok (.if_icmp .eq 5, 3) := by decide +kernel
theorem dc_L_law_310 : decode code 310 = .ok (.iconst 0, 1) := by decide +kernel
theorem dc_L_law_311 : decode code 311 = .ok (.ireturn, 1) := by decide +kernel
theorem dc_L_law_312 : decode code 312 = .ok (.iload 5, 2) := by decide +kernel
theorem dc_L_law_314 : decode code 314 = .ok (.ifCond .ne 15, 3) := by decide +kernel
theorem dc_L_law_317 : decode code 317 = .ok (.aload_n 3, 1) := by decide +kernel
theorem dc_L_law_318 : decode code 318 = .ok (.iconst 0, 1) := by decide +kernel
theorem dc_L_law_319 : decode code 319 = .ok (.laload, 1) := by decide +kernel
theorem dc_L_law_320 : decode code 320 = .ok (.iload 6, 2) := by decide +kernel
theorem dc_L_law_322 : decode code 322 = .ok (.i2l, 1) := by decide +kernel
theorem dc_L_law_323 : decode code 323 = .ok (.lcmp, 1) := by decide +kernel
theorem dc_L_law_324 : decode code 324 = .ok (.ifCond .eq 5, 3) := by decide +kernel
theorem dc_L_law_327 : decode code 327 = .ok (.iconst 0, 1) := by decide +kernel
theorem dc_L_law_328 : decode code 328 = .ok (.ireturn, 1) := by decide +kernel
theorem dc_L_law_329 : decode code 329 = .ok (.goto 339, 3) := by decide +kernel
theorem dc_L_law_332 : decode code 332 = .ok (.aload_n 1, 1) := by decide +kernel
theorem dc_L_law_333 : decode code 333 = .ok (.aload_n 0, 1) := by decide +kernel
theorem dc_L_law_334 : decode code 334 = .ok (.iload 4, 2) := by decide +kernel
theorem dc_L_law_336 : decode code 336 = .ok (.iconst 1, 1) := by decide +kernel
theorem dc_L_law_337 : decode code 337 = .ok (.iadd, 1) := by decide +kernel
theorem dc_L_law_338 : decode code 338 = .ok (.iaload, 1) := by decide +kernel
theorem dc_L_law_339 : decode code 339 = .ok (.aload_n 3, 1) := by decide +kernel
theorem dc_L_law_340 : decode code 340 = .ok (.invokestatic 67, 3) := by decide +kernel
theorem dc_L_law_343 : decode code 343 = .ok (.istore 5, 2) := by decide +kernel
theorem dc_L_law_345 : decode code 345 = .ok (.aload_n 2, 1) := by decide +kernel
theorem dc_L_law_346 : decode code 346 = .ok (.aload_n 0, 1) := by decide +kernel
theorem dc_L_law_347 : decode code 347 = .ok (.iload 4, 2) := by decide +kernel
theorem dc_L_law_349 : decode code 349 = .ok (.iconst 1, 1) := by decide +kernel
theorem dc_L_law_350 : decode code 350 = .ok (.iadd, 1) := by decide +kernel
theorem dc_L_law_351 : decode code 351 = .ok (.iaload, 1) := by decide +kernel
theorem dc_L_law_352 : decode code 352 = .ok (.invokevirtual 70, 3) := by decide +kernel
theorem dc_L_law_355 : decode code 355 = .ok (.istore 6, 2) := by decide +kernel
theorem dc_L_law_357 : decode code 357 = .ok (.aload_n 2, 1) := by decide +kernel
theorem dc_L_law_358 : decode code 358 = .ok (.invokevirtual 56, 3) := by decide +kernel
theorem dc_L_law_361 : decode code 361 = .ok (.iload 5, 2) := by decide +kernel
theorem dc_L_law_363 : decode code 363 = .ok (.if_icmp .eq 5, 3) := by decide +kernel
theorem dc_L_law_366 : decode code 366 = .ok (.iconst 0, 1) := by decide +kernel
theorem dc_L_law_367 : decode code 367 = .ok (.ireturn, 1) := by decide +kernel
theorem dc_L_law_368 : decode code 368 = .ok (.iload 5, 2) := by decide +kernel
theorem dc_L_law_370 : decode code 370 = .ok (.ifCond .ne 15, 3) := by decide +kernel
theorem dc_L_law_373 : decode code 373 = .ok (.aload_n 3, 1) := by decide +kernel
theorem dc_L_law_374 : decode code 374 = .ok (.iconst 0, 1) := by decide +kernel
theorem dc_L_law_375 : decode code 375 = .ok (.laload, 1) := by decide +kernel
theorem dc_L_law_376 : decode code 376 = .ok (.iload 6, 2) := by decide +kernel
theorem dc_L_law_378 : decode code 378 = .ok (.i2l, 1) := by decide +kernel
theorem dc_L_law_379 : decode code 379 = .ok (.lcmp, 1) := by decide +kernel
theorem dc_L_law_380 : decode code 380 = .ok (.ifCond .eq 5, 3) := by decide +kernel
theorem dc_L_law_383 : decode code 383 = .ok (.iconst 0, 1) := by decide +kernel
theorem dc_L_law_384 : decode code 384 = .ok (.ireturn, 1) := by decide +kernel
theorem dc_L_law_385 : decode code 385 = .ok (.goto 283, 3) := by decide +kernel
theorem dc_L_law_388 : decode code 388 = .ok (.aload_n 1, 1) := by decide +kernel
theorem dc_L_law_389 : decode code 389 = .ok (.aload_n 0, 1) := by decide +kernel
theorem dc_L_law_390 : decode code 390 = .ok (.iload 4, 2) := by decide +kernel
theorem dc_L_law_392 : decode code 392 = .ok (.iconst 1, 1) := by decide +kernel
theorem dc_L_law_393 : decode code 393 = .ok (.iadd, 1) := by decide +kernel
theorem dc_L_law_394 : decode code 394 = .ok (.iaload, 1) := by decide +kernel
theorem dc_L_law_395 : decode code 395 = .ok (.aload_n 3, 1) := by decide +kernel
theorem dc_L_law_396 : decode code 396 = .ok (.invokestatic 71, 3) := by decide +kernel
theorem dc_L_law_399 : decode code 399 = .ok (.istore 5, 2) := by decide +kernel
theorem dc_L_law_401 : decode code 401 = .ok (.aload_n 2, 1) := by decide +kernel
theorem dc_L_law_402 : decode code 402 = .ok (.aload_n 0, 1) := by decide +kernel
theorem dc_L_law_403 : decode code 403 = .ok (.iload 4, 2) := by decide +kernel
theorem dc_L_law_405 : decode code 405 = .ok (.iconst 1, 1) := by decide +kernel
theorem dc_L_law_406 : decode code 406 = .ok (.iadd, 1) := by decide +kernel
theorem dc_L_law_407 : decode code 407 = .ok (.iaload, 1) := by decide +kernel
theorem dc_L_law_408 : decode code 408 = .ok (.invokevirtual 73, 3) := by decide +kernel
theorem dc_L_law_411 : decode code 411 = .ok (.istore 6, 2) := by decide +kernel
theorem dc_L_law_413 : decode code 413 = .ok (.aload_n 2, 1) := by decide +kernel
theorem dc_L_law_414 : decode code 414 = .ok (.invokevirtual 56, 3) := by decide +kernel
theorem dc_L_law_417 : decode code 417 = .ok (.iload 5, 2) := by decide +kernel
theorem dc_L_law_419 : decode code 419 = .ok (.if_icmp .eq 5, 3) := by decide +kernel
theorem dc_L_law_422 : decode code 422 = .ok (.iconst 0, 1) := by decide +kernel
theorem dc_L_law_423 : decode code 423 = .ok (.ireturn, 1) := by decide +kernel
theorem dc_L_law_424 : decode code 424 = .ok (.iload 5, 2) := by decide +kernel
theorem dc_L_law_426 : decode code 426 = .ok (.ifCond .ne 15, 3) := by decide +kernel
theorem dc_L_law_429 : decode code 429 = .ok (.aload_n 3, 1) := by decide +kernel
theorem dc_L_law_430 : decode code 430 = .ok (.iconst 0, 1) := by decide +kernel
theorem dc_L_law_431 : decode code 431 = .ok (.laload, 1) := by decide +kernel
theorem dc_L_law_432 : decode code 432 = .ok (.iload 6, 2) := by decide +kernel
theorem dc_L_law_434 : decode code 434 = .ok (.i2l, 1) := by decide +kernel
theorem dc_L_law_435 : decode code 435 = .ok (.lcmp, 1) := by decide +kernel
theorem dc_L_law_436 : decode code 436 = .ok (.ifCond .eq 5, 3) := by decide +kernel
theorem dc_L_law_439 : decode code 439 = .ok (.iconst 0, 1) := by decide +kernel
theorem dc_L_law_440 : decode code 440 = .ok (.ireturn, 1) := by decide +kernel
theorem dc_L_law_441 : decode code 441 = .ok (.goto 227, 3) := by decide +kernel
theorem dc_L_law_444 : decode code 444 = .ok (.aload_n 1, 1) := by decide +kernel
theorem dc_L_law_445 : decode code 445 = .ok (.aload_n 0, 1) := by decide +kernel
theorem dc_L_law_446 : decode code 446 = .ok (.iload 4, 2) := by decide +kernel
theorem dc_L_law_448 : decode code 448 = .ok (.iconst 1, 1) := by decide +kernel
theorem dc_L_law_449 : decode code 449 = .ok (.iadd, 1) := by decide +kernel
theorem dc_L_law_450 : decode code 450 = .ok (.iaload, 1) := by decide +kernel
theorem dc_L_law_451 : decode code 451 = .ok (.aload_n 0, 1) := by decide +kernel
theorem dc_L_law_452 : decode code 452 = .ok (.iload 4, 2) := by decide +kernel
theorem dc_L_law_454 : decode code 454 = .ok (.iconst 2, 1) := by decide +kernel
theorem dc_L_law_455 : decode code 455 = .ok (.iadd, 1) := by decide +kernel
theorem dc_L_law_456 : decode code 456 = .ok (.iaload, 1) := by decide +kernel
theorem dc_L_law_457 : decode code 457 = .ok (.aload_n 3, 1) := by decide +kernel
theorem dc_L_law_458 : decode code 458 = .ok (.invokestatic 74, 3) := by decide +kernel
theorem dc_L_law_461 : decode code 461 = .ok (.istore 5, 2) := by decide +kernel
theorem dc_L_law_463 : decode code 463 = .ok (.aload_n 2, 1) := by decide +kernel
theorem dc_L_law_464 : decode code 464 = .ok (.aload_n 0, 1) := by decide +kernel
theorem dc_L_law_465 : decode code 465 = .ok (.iload 4, 2) := by decide +kernel
theorem dc_L_law_467 : decode code 467 = .ok (.iconst 1, 1) := by decide +kernel
theorem dc_L_law_468 : decode code 468 = .ok (.iadd, 1) := by decide +kernel
theorem dc_L_law_469 : decode code 469 = .ok (.iaload, 1) := by decide +kernel
theorem dc_L_law_470 : decode code 470 = .ok (.aload_n 0, 1) := by decide +kernel
theorem dc_L_law_471 : decode code 471 = .ok (.iload 4, 2) := by decide +kernel
theorem dc_L_law_473 : decode code 473 = .ok (.iconst 2, 1) := by decide +kernel
theorem dc_L_law_474 : decode code 474 = .ok (.iadd, 1) := by decide +kernel
theorem dc_L_law_475 : decode code 475 = .ok (.iaload, 1) := by decide +kernel
theorem dc_L_law_476 : decode code 476 = .ok (.invokevirtual 76, 3) := by decide +kernel
theorem dc_L_law_479 : decode code 479 = .ok (.istore 6, 2) := by decide +kernel
theorem dc_L_law_481 : decode code 481 = .ok (.aload_n 2, 1) := by decide +kernel
theorem dc_L_law_482 : decode code 482 = .ok (.invokevirtual 56, 3) := by decide +kernel
theorem dc_L_law_485 : decode code 485 = .ok (.iload 5, 2) := by decide +kernel
theorem dc_L_law_487 : decode code 487 = .ok (.if_icmp .eq 5, 3) := by decide +kernel
theorem dc_L_law_490 : decode code 490 = .ok (.iconst 0, 1) := by decide +kernel
theorem dc_L_law_491 : decode code 491 = .ok (.ireturn, 1) := by decide +kernel
theorem dc_L_law_492 : decode code 492 = .ok (.iload 5, 2) := by decide +kernel
theorem dc_L_law_494 : decode code 494 = .ok (.ifCond .ne 22, 3) := by decide +kernel
theorem dc_L_law_497 : decode code 497 = .ok (.aload_n 3, 1) := by decide +kernel
theorem dc_L_law_498 : decode code 498 = .ok (.iconst 0, 1) := by decide +kernel
theorem dc_L_law_499 : decode code 499 = .ok (.laload, 1) := by decide +kernel
theorem dc_L_law_500 : decode code 500 = .ok (.iload 6, 2) := by decide +kernel
theorem dc_L_law_502 : decode code 502 = .ok (.ifCond .eq 7, 3) := by decide +kernel
theorem dc_L_law_505 : decode code 505 = .ok (.lconst 1, 1) := by decide +kernel
theorem dc_L_law_506 : decode code 506 = .ok (.goto 4, 3) := by decide +kernel
theorem dc_L_law_509 : decode code 509 = .ok (.lconst 0, 1) := by decide +kernel
theorem dc_L_law_510 : decode code 510 = .ok (.lcmp, 1) := by decide +kernel
theorem dc_L_law_511 : decode code 511 = .ok (.ifCond .eq 5, 3) := by decide +kernel
theorem dc_L_law_514 : decode code 514 = .ok (.iconst 0, 1) := by decide +kernel
theorem dc_L_law_515 : decode code 515 = .ok (.ireturn, 1) := by decide +kernel
theorem dc_L_law_516 : decode code 516 = .ok (.goto 152, 3) := by decide +kernel
theorem dc_L_law_519 : decode code 519 = .ok (.aload_n 1, 1) := by decide +kernel
theorem dc_L_law_520 : decode code 520 = .ok (.aload_n 0, 1) := by decide +kernel
theorem dc_L_law_521 : decode code 521 = .ok (.iload 4, 2) := by decide +kernel
theorem dc_L_law_523 : decode code 523 = .ok (.iconst 1, 1) := by decide +kernel
theorem dc_L_law_524 : decode code 524 = .ok (.iadd, 1) := by decide +kernel
theorem dc_L_law_525 : decode code 525 = .ok (.iaload, 1) := by decide +kernel
theorem dc_L_law_526 : decode code 526 = .ok (.aload_n 0, 1) := by decide +kernel
theorem dc_L_law_527 : decode code 527 = .ok (.iload 4, 2) := by decide +kernel
theorem dc_L_law_529 : decode code 529 = .ok (.iconst 2, 1) := by decide +kernel
theorem dc_L_law_530 : decode code 530 = .ok (.iadd, 1) := by decide +kernel
theorem dc_L_law_531 : decode code 531 = .ok (.iaload, 1) := by decide +kernel
theorem dc_L_law_532 : decode code 532 = .ok (.aload_n 0, 1) := by decide +kernel
theorem dc_L_law_533 : decode code 533 = .ok (.iload 4, 2) := by decide +kernel
theorem dc_L_law_535 : decode code 535 = .ok (.iconst 3, 1) := by decide +kernel
theorem dc_L_law_536 : decode code 536 = .ok (.iadd, 1) := by decide +kernel
theorem dc_L_law_537 : decode code 537 = .ok (.iaload, 1) := by decide +kernel
theorem dc_L_law_538 : decode code 538 = .ok (.aload_n 3, 1) := by decide +kernel
theorem dc_L_law_539 : decode code 539 = .ok (.invokestatic 77, 3) := by decide +kernel
theorem dc_L_law_542 : decode code 542 = .ok (.istore 5, 2) := by decide +kernel
theorem dc_L_law_544 : decode code 544 = .ok (.aload_n 2, 1) := by decide +kernel
theorem dc_L_law_545 : decode code 545 = .ok (.aload_n 0, 1) := by decide +kernel
theorem dc_L_law_546 : decode code 546 = .ok (.iload 4, 2) := by decide +kernel
theorem dc_L_law_548 : decode code 548 = .ok (.iconst 1, 1) := by decide +kernel
theorem dc_L_law_549 : decode code 549 = .ok (.iadd, 1) := by decide +kernel
theorem dc_L_law_550 : decode code 550 = .ok (.iaload, 1) := by decide +kernel
theorem dc_L_law_551 : decode code 551 = .ok (.aload_n 0, 1) := by decide +kernel
theorem dc_L_law_552 : decode code 552 = .ok (.iload 4, 2) := by decide +kernel
theorem dc_L_law_554 : decode code 554 = .ok (.iconst 2, 1) := by decide +kernel
theorem dc_L_law_555 : decode code 555 = .ok (.iadd, 1) := by decide +kernel
theorem dc_L_law_556 : decode code 556 = .ok (.iaload, 1) := by decide +kernel
theorem dc_L_law_557 : decode code 557 = .ok (.aload_n 0, 1) := by decide +kernel
theorem dc_L_law_558 : decode code 558 = .ok (.iload 4, 2) := by decide +kernel
theorem dc_L_law_560 : decode code 560 = .ok (.iconst 3, 1) := by decide +kernel
theorem dc_L_law_561 : decode code 561 = .ok (.iadd, 1) := by decide +kernel
theorem dc_L_law_562 : decode code 562 = .ok (.iaload, 1) := by decide +kernel
theorem dc_L_law_563 : decode code 563 = .ok (.invokevirtual 80, 3) := by decide +kernel
theorem dc_L_law_566 : decode code 566 = .ok (.istore 6, 2) := by decide +kernel
theorem dc_L_law_568 : decode code 568 = .ok (.aload_n 2, 1) := by decide +kernel
theorem dc_L_law_569 : decode code 569 = .ok (.invokevirtual 56, 3) := by decide +kernel
theorem dc_L_law_572 : decode code 572 = .ok (.iload 5, 2) := by decide +kernel
theorem dc_L_law_574 : decode code 574 = .ok (.if_icmp .eq 5, 3) := by decide +kernel
theorem dc_L_law_577 : decode code 577 = .ok (.iconst 0, 1) := by decide +kernel
theorem dc_L_law_578 : decode code 578 = .ok (.ireturn, 1) := by decide +kernel
theorem dc_L_law_579 : decode code 579 = .ok (.iload 5, 2) := by decide +kernel
theorem dc_L_law_581 : decode code 581 = .ok (.ifCond .ne 15, 3) := by decide +kernel
theorem dc_L_law_584 : decode code 584 = .ok (.aload_n 3, 1) := by decide +kernel
theorem dc_L_law_585 : decode code 585 = .ok (.iconst 0, 1) := by decide +kernel
theorem dc_L_law_586 : decode code 586 = .ok (.laload, 1) := by decide +kernel
theorem dc_L_law_587 : decode code 587 = .ok (.iload 6, 2) := by decide +kernel
theorem dc_L_law_589 : decode code 589 = .ok (.i2l, 1) := by decide +kernel
theorem dc_L_law_590 : decode code 590 = .ok (.lcmp, 1) := by decide +kernel
theorem dc_L_law_591 : decode code 591 = .ok (.ifCond .eq 5, 3) := by decide +kernel
theorem dc_L_law_594 : decode code 594 = .ok (.iconst 0, 1) := by decide +kernel
theorem dc_L_law_595 : decode code 595 = .ok (.ireturn, 1) := by decide +kernel
theorem dc_L_law_596 : decode code 596 = .ok (.goto 72, 3) := by decide +kernel
theorem dc_L_law_599 : decode code 599 = .ok (.aload_n 1, 1) := by decide +kernel
theorem dc_L_law_600 : decode code 600 = .ok (.aload_n 0, 1) := by decide +kernel
theorem dc_L_law_601 : decode code 601 = .ok (.iload 4, 2) := by decide +kernel
theorem dc_L_law_603 : decode code 603 = .ok (.iconst 1, 1) := by decide +kernel
theorem dc_L_law_604 : decode code 604 = .ok (.iadd, 1) := by decide +kernel
theorem dc_L_law_605 : decode code 605 = .ok (.iaload, 1) := by decide +kernel
theorem dc_L_law_606 : decode code 606 = .ok (.aload_n 3, 1) := by decide +kernel
theorem dc_L_law_607 : decode code 607 = .ok (.invokestatic 81, 3) := by decide +kernel
theorem dc_L_law_610 : decode code 610 = .ok (.istore 5, 2) := by decide +kernel
theorem dc_L_law_612 : decode code 612 = .ok (.aload_n 2, 1) := by decide +kernel
theorem dc_L_law_613 : decode code 613 = .ok (.aload_n 0, 1) := by decide +kernel
theorem dc_L_law_614 : decode code 614 = .ok (.iload 4, 2) := by decide +kernel
theorem dc_L_law_616 : decode code 616 = .ok (.iconst 1, 1) := by decide +kernel
theorem dc_L_law_617 : decode code 617 = .ok (.iadd, 1) := by decide +kernel
theorem dc_L_law_618 : decode code 618 = .ok (.iaload, 1) := by decide +kernel
theorem dc_L_law_619 : decode code 619 = .ok (.invokevirtual 83, 3) := by decide +kernel
theorem dc_L_law_622 : decode code 622 = .ok (.istore 6, 2) := by decide +kernel
theorem dc_L_law_624 : decode code 624 = .ok (.aload_n 2, 1) := by decide +kernel
theorem dc_L_law_625 : decode code 625 = .ok (.invokevirtual 56, 3) := by decide +kernel
theorem dc_L_law_628 : decode code 628 = .ok (.iload 5, 2) := by decide +kernel
theorem dc_L_law_630 : decode code 630 = .ok (.if_icmp .eq 5, 3) := by decide +kernel
theorem dc_L_law_633 : decode code 633 = .ok (.iconst 0, 1) := by decide +kernel
theorem dc_L_law_634 : decode code 634 = .ok (.ireturn, 1) := by decide +kernel
theorem dc_L_law_635 : decode code 635 = .ok (.iload 5, 2) := by decide +kernel
theorem dc_L_law_637 : decode code 637 = .ok (.ifCond .ne 15, 3) := by decide +kernel
theorem dc_L_law_640 : decode code 640 = .ok (.aload_n 3, 1) := by decide +kernel
theorem dc_L_law_641 : decode code 641 = .ok (.iconst 0, 1) := by decide +kernel
theorem dc_L_law_642 : decode code 642 = .ok (.laload, 1) := by decide +kernel
theorem dc_L_law_643 : decode code 643 = .ok (.iload 6, 2) := by decide +kernel
theorem dc_L_law_645 : decode code 645 = .ok (.i2l, 1) := by decide +kernel
theorem dc_L_law_646 : decode code 646 = .ok (.lcmp, 1) := by decide +kernel
theorem dc_L_law_647 : decode code 647 = .ok (.ifCond .eq 5, 3) := by decide +kernel
theorem dc_L_law_650 : decode code 650 = .ok (.iconst 0, 1) := by decide +kernel
theorem dc_L_law_651 : decode code 651 = .ok (.ireturn, 1) := by decide +kernel
theorem dc_L_law_652 : decode code 652 = .ok (.goto 16, 3) := by decide +kernel
theorem dc_L_law_655 : decode code 655 = .ok (.aload_n 1, 1) := by decide +kernel
theorem dc_L_law_656 : decode code 656 = .ok (.invokevirtual 84, 3) := by decide +kernel
theorem dc_L_law_659 : decode code 659 = .ok (.aload_n 2, 1) := by decide +kernel
theorem dc_L_law_660 : decode code 660 = .ok (.invokevirtual 87, 3) := by decide +kernel
theorem dc_L_law_663 : decode code 663 = .ok (.if_icmp .eq 5, 3) := by decide +kernel
theorem dc_L_law_666 : decode code 666 = .ok (.iconst 0, 1) := by decide +kernel
theorem dc_L_law_667 : decode code 667 = .ok (.ireturn, 1) := by decide +kernel
theorem dc_L_law_668 : decode code 668 = .ok (.iinc 4 6, 3) := by decide +kernel
theorem dc_L_law_671 : decode code 671 = .ok (.goto (-648), 3) := by decide +kernel
theorem dc_L_law_674 : decode code 674 = .ok (.iconst 1, 1) := by decide +kernel
theorem dc_L_law_675 : decode code 675 = .ok (.ireturn, 1) := by decide +kernel
