abbrev b_L_law : ByteArray := code
theorem d_L_law_0 : decode b_L_law 0 = .ok (.new 8, 3) := by decide +kernel
theorem d_L_law_3 : decode b_L_law 3 = .ok (.dup, 1) := by decide +kernel
theorem d_L_law_4 : decode b_L_law 4 = .ok (.invokespecial 56, 3) := by decide +kernel
theorem d_L_law_7 : decode b_L_law 7 = .ok (.astore_n 1, 1) := by decide +kernel
theorem d_L_law_8 : decode b_L_law 8 = .ok (.new 57, 3) := by decide +kernel
theorem d_L_law_11 : decode b_L_law 11 = .ok (.dup, 1) := by decide +kernel
theorem d_L_law_12 : decode b_L_law 12 = .ok (.invokespecial 59, 3) := by decide +kernel
theorem d_L_law_15 : decode b_L_law 15 = .ok (.astore_n 2, 1) := by decide +kernel
theorem d_L_law_16 : decode b_L_law 16 = .ok (.iconst 1, 1) := by decide +kernel
theorem d_L_law_17 : decode b_L_law 17 = .ok (.newarray .long, 2) := by decide +kernel
theorem d_L_law_19 : decode b_L_law 19 = .ok (.astore_n 3, 1) := by decide +kernel
theorem d_L_law_20 : decode b_L_law 20 = .ok (.iconst 0, 1) := by decide +kernel
theorem d_L_law_21 : decode b_L_law 21 = .ok (.istore 4, 2) := by decide +kernel
theorem d_L_law_23 : decode b_L_law 23 = .ok (.iload 4, 2) := by decide +kernel
theorem d_L_law_25 : decode b_L_law 25 = .ok (.aload_n 0, 1) := by decide +kernel
theorem d_L_law_26 : decode b_L_law 26 = .ok (.arraylength, 1) := by decide +kernel
theorem d_L_law_27 : decode b_L_law 27 = .ok (.iconst 5, 1) := by decide +kernel
theorem d_L_law_28 : decode b_L_law 28 = .ok (.isub, 1) := by decide +kernel
theorem d_L_law_29 : decode b_L_law 29 = .ok (.if_icmp .gt 810, 3) := by decide +kernel
theorem d_L_law_32 : decode b_L_law 32 = .ok (.aload_n 0, 1) := by decide +kernel
theorem d_L_law_33 : decode b_L_law 33 = .ok (.iload 4, 2) := by decide +kernel
theorem d_L_law_35 : decode b_L_law 35 = .ok (.iaload, 1) := by decide +kernel
theorem d_L_law_36 : decode b_L_law 36 = .ok (.bipush 15, 2) := by decide +kernel
theorem d_L_law_38 : decode b_L_law 38 = .ok (.iand, 1) := by decide +kernel
theorem d_L_law_39 : decode b_L_law 39 = .ok (.tableswitch 794 0 13 #[69, 125, 181, 194, 274, 329, 392, 464, 544, 557, 601, 657, 725, 781], 69) := by decide +kernel
theorem d_L_law_108 : decode b_L_law 108 = .ok (.aload_n 1, 1) := by decide +kernel
theorem d_L_law_109 : decode b_L_law 109 = .ok (.aload_n 0, 1) := by decide +kernel
theorem d_L_law_110 : decode b_L_law 110 = .ok (.iload 4, 2) := by decide +kernel
theorem d_L_law_112 : decode b_L_law 112 = .ok (.iconst 1, 1) := by decide +kernel
theorem d_L_law_113 : decode b_L_law 113 = .ok (.iadd, 1) := by decide +kernel
theorem d_L_law_114 : decode b_L_law 114 = .ok (.iaload, 1) := by decide +kernel
theorem d_L_law_115 : decode b_L_law 115 = .ok (.aload_n 3, 1) := by decide +kernel
theorem d_L_law_116 : decode b_L_law 116 = .ok (.invokestatic 60, 3) := by decide +kernel
theorem d_L_law_119 : decode b_L_law 119 = .ok (.istore 5, 2) := by decide +kernel
theorem d_L_law_121 : decode b_L_law 121 = .ok (.aload_n 2, 1) := by decide +kernel
theorem d_L_law_122 : decode b_L_law 122 = .ok (.aload_n 0, 1) := by decide +kernel
theorem d_L_law_123 : decode b_L_law 123 = .ok (.iload 4, 2) := by decide +kernel
theorem d_L_law_125 : decode b_L_law 125 = .ok (.iconst 1, 1) := by decide +kernel
theorem d_L_law_126 : decode b_L_law 126 = .ok (.iadd, 1) := by decide +kernel
theorem d_L_law_127 : decode b_L_law 127 = .ok (.iaload, 1) := by decide +kernel
theorem d_L_law_128 : decode b_L_law 128 = .ok (.invokevirtual 65, 3) := by decide +kernel
theorem d_L_law_131 : decode b_L_law 131 = .ok (.istore 6, 2) := by decide +kernel
theorem d_L_law_133 : decode b_L_law 133 = .ok (.aload_n 2, 1) := by decide +kernel
theorem d_L_law_134 : decode b_L_law 134 = .ok (.invokevirtual 66, 3) := by decide +kernel
theorem d_L_law_137 : decode b_L_law 137 = .ok (.iload 5, 2) := by decide +kernel
theorem d_L_law_139 : decode b_L_law 139 = .ok (.if_icmp .eq 5, 3) := by decide +kernel
theorem d_L_law_142 : decode b_L_law 142 = .ok (.iconst 0, 1) := by decide +kernel
theorem d_L_law_143 : decode b_L_law 143 = .ok (.ireturn, 1) := by decide +kernel
theorem d_L_law_144 : decode b_L_law 144 = .ok (.iload 5, 2) := by decide +kernel
theorem d_L_law_146 : decode b_L_law 146 = .ok (.ifCond .ne 15, 3) := by decide +kernel
theorem d_L_law_149 : decode b_L_law 149 = .ok (.aload_n 3, 1) := by decide +kernel
theorem d_L_law_150 : decode b_L_law 150 = .ok (.iconst 0, 1) := by decide +kernel
theorem d_L_law_151 : decode b_L_law 151 = .ok (.laload, 1) := by decide +kernel
theorem d_L_law_152 : decode b_L_law 152 = .ok (.iload 6, 2) := by decide +kernel
theorem d_L_law_154 : decode b_L_law 154 = .ok (.i2l, 1) := by decide +kernel
theorem d_L_law_155 : decode b_L_law 155 = .ok (.lcmp, 1) := by decide +kernel
theorem d_L_law_156 : decode b_L_law 156 = .ok (.ifCond .eq 5, 3) := by decide +kernel
theorem d_L_law_159 : decode b_L_law 159 = .ok (.iconst 0, 1) := by decide +kernel
theorem d_L_law_160 : decode b_L_law 160 = .ok (.ireturn, 1) := by decide +kernel
theorem d_L_law_161 : decode b_L_law 161 = .ok (.goto 672, 3) := by decide +kernel
theorem d_L_law_164 : decode b_L_law 164 = .ok (.aload_n 1, 1) := by decide +kernel
theorem d_L_law_165 : decode b_L_law 165 = .ok (.aload_n 0, 1) := by decide +kernel
theorem d_L_law_166 : decode b_L_law 166 = .ok (.iload 4, 2) := by decide +kernel
theorem d_L_law_168 : decode b_L_law 168 = .ok (.iconst 1, 1) := by decide +kernel
theorem d_L_law_169 : decode b_L_law 169 = .ok (.iadd, 1) := by decide +kernel
theorem d_L_law_170 : decode b_L_law 170 = .ok (.iaload, 1) := by decide +kernel
theorem d_L_law_171 : decode b_L_law 171 = .ok (.aload_n 3, 1) := by decide +kernel
theorem d_L_law_172 : decode b_L_law 172 = .ok (.invokestatic 69, 3) := by decide +kernel
theorem d_L_law_175 : decode b_L_law 175 = .ok (.istore 5, 2) := by decide +kernel
theorem d_L_law_177 : decode b_L_law 177 = .ok (.aload_n 2, 1) := by decide +kernel
theorem d_L_law_178 : decode b_L_law 178 = .ok (.aload_n 0, 1) := by decide +kernel
theorem d_L_law_179 : decode b_L_law 179 = .ok (.iload 4, 2) := by decide +kernel
theorem d_L_law_181 : decode b_L_law 181 = .ok (.iconst 1, 1) := by decide +kernel
theorem d_L_law_182 : decode b_L_law 182 = .ok (.iadd, 1) := by decide +kernel
theorem d_L_law_183 : decode b_L_law 183 = .ok (.iaload, 1) := by decide +kernel
theorem d_L_law_184 : decode b_L_law 184 = .ok (.invokevirtual 71, 3) := by decide +kernel
theorem d_L_law_187 : decode b_L_law 187 = .ok (.istore 6, 2) := by decide +kernel
theorem d_L_law_189 : decode b_L_law 189 = .ok (.aload_n 2, 1) := by decide +kernel
theorem d_L_law_190 : decode b_L_law 190 = .ok (.invokevirtual 66, 3) := by decide +kernel
theorem d_L_law_193 : decode b_L_law 193 = .ok (.iload 5, 2) := by decide +kernel
theorem d_L_law_195 : decode b_L_law 195 = .ok (.if_icmp .eq 5, 3) := by decide +kernel
theorem d_L_law_198 : decode b_L_law 198 = .ok (.iconst 0, 1) := by decide +kernel
theorem d_L_law_199 : decode b_L_law 199 = .ok (.ireturn, 1) := by decide +kernel
theorem d_L_law_200 : decode b_L_law 200 = .ok (.iload 5, 2) := by decide +kernel
theorem d_L_law_202 : decode b_L_law 202 = .ok (.ifCond .ne 15, 3) := by decide +kernel
theorem d_L_law_205 : decode b_L_law 205 = .ok (.aload_n 3, 1) := by decide +kernel
theorem d_L_law_206 : decode b_L_law 206 = .ok (.iconst 0, 1) := by decide +kernel
theorem d_L_law_207 : decode b_L_law 207 = .ok (.laload, 1) := by decide +kernel
theorem d_L_law_208 : decode b_L_law 208 = .ok (.iload 6, 2) := by decide +kernel
theorem d_L_law_210 : decode b_L_law 210 = .ok (.i2l, 1) := by decide +kernel
theorem d_L_law_211 : decode b_L_law 211 = .ok (.lcmp, 1) := by decide +kernel
theorem d_L_law_212 : decode b_L_law 212 = .ok (.ifCond .eq 5, 3) := by decide +kernel
theorem d_L_law_215 : decode b_L_law 215 = .ok (.iconst 0, 1) := by decide +kernel
theorem d_L_law_216 : decode b_L_law 216 = .ok (.ireturn, 1) := by decide +kernel
theorem d_L_law_217 : decode b_L_law 217 = .ok (.goto 616, 3) := by decide +kernel
theorem d_L_law_220 : decode b_L_law 220 = .ok (.aload_n 1, 1) := by decide +kernel
theorem d_L_law_221 : decode b_L_law 221 = .ok (.invokevirtual 72, 3) := by decide +kernel
theorem d_L_law_224 : decode b_L_law 224 = .ok (.aload_n 2, 1) := by decide +kernel
theorem d_L_law_225 : decode b_L_law 225 = .ok (.invokevirtual 75, 3) := by decide +kernel
theorem d_L_law_228 : decode b_L_law 228 = .ok (.if_icmp .eq 605, 3) := by decide +kernel
theorem d_L_law_231 : decode b_L_law 231 = .ok (.iconst 0, 1) := by decide +kernel
theorem d_L_law_232 : decode b_L_law 232 = .ok (.ireturn, 1) := by decide +kernel
theorem d_L_law_233 : decode b_L_law 233 = .ok (.aload_n 1, 1) := by decide +kernel
theorem d_L_law_234 : decode b_L_law 234 = .ok (.aload_n 0, 1) := by decide +kernel
theorem d_L_law_235 : decode b_L_law 235 = .ok (.iload 4, 2) := by decide +kernel
theorem d_L_law_237 : decode b_L_law 237 = .ok (.iconst 1, 1) := by decide +kernel
theorem d_L_law_238 : decode b_L_law 238 = .ok (.iadd, 1) := by decide +kernel
theorem d_L_law_239 : decode b_L_law 239 = .ok (.iaload, 1) := by decide +kernel
theorem d_L_law_240 : decode b_L_law 240 = .ok (.aload_n 0, 1) := by decide +kernel
theorem d_L_law_241 : decode b_L_law 241 = .ok (.iload 4, 2) := by decide +kernel
theorem d_L_law_243 : decode b_L_law 243 = .ok (.iconst 2, 1) := by decide +kernel
theorem d_L_law_244 : decode b_L_law 244 = .ok (.iadd, 1) := by decide +kernel
theorem d_L_law_245 : decode b_L_law 245 = .ok (.iaload, 1) := by decide +kernel
theorem d_L_law_246 : decode b_L_law 246 = .ok (.i2l, 1) := by decide +kernel
theorem d_L_law_247 : decode b_L_law 247 = .ok (.bipush 32, 2) := by decide +kernel
theorem d_L_law_249 : decode b_L_law 249 = .ok (.lshl, 1) := by decide +kernel
theorem d_L_law_250 : decode b_L_law 250 = .ok (.aload_n 0, 1) := by decide +kernel
theorem d_L_law_251 : decode b_L_law 251 = .ok (.iload 4, 2) := by decide +kernel
theorem d_L_law_253 : decode b_L_law 253 = .ok (.iconst 3, 1) := by decide +kernel
theorem d_L_law_254 : decode b_L_law 254 = .ok (.iadd, 1) := by decide +kernel
theorem d_L_law_255 : decode b_L_law 255 = .ok (.iaload, 1) := by decide +kernel
theorem d_L_law_256 : decode b_L_law 256 = .ok (.i2l, 1) := by decide +kernel
theorem d_L_law_257 : decode b_L_law 257 = .ok (.ldc2_w 76, 3) := by decide +kernel
theorem d_L_law_260 : decode b_L_law 260 = .ok (.land, 1) := by decide +kernel
theorem d_L_law_261 : decode b_L_law 261 = .ok (.lor, 1) := by decide +kernel
theorem d_L_law_262 : decode b_L_law 262 = .ok (.invokestatic 78, 3) := by decide +kernel
theorem d_L_law_265 : decode b_L_law 265 = .ok (.istore 5, 2) := by decide +kernel
theorem d_L_law_267 : decode b_L_law 267 = .ok (.aload_n 2, 1) := by decide +kernel
theorem d_L_law_268 : decode b_L_law 268 = .ok (.aload_n 0, 1) := by decide +kernel
theorem d_L_law_269 : decode b_L_law 269 = .ok (.iload 4, 2) := by decide +kernel
theorem d_L_law_271 : decode b_L_law 271 = .ok (.iconst 1, 1) := by decide +kernel
theorem d_L_law_272 : decode b_L_law 272 = .ok (.iadd, 1) := by decide +kernel
theorem d_L_law_273 : decode b_L_law 273 = .ok (.iaload, 1) := by decide +kernel
theorem d_L_law_274 : decode b_L_law 274 = .ok (.aload_n 0, 1) := by decide +kernel
theorem d_L_law_275 : decode b_L_law 275 = .ok (.iload 4, 2) := by decide +kernel
theorem d_L_law_277 : decode b_L_law 277 = .ok (.iconst 2, 1) := by decide +kernel
theorem d_L_law_278 : decode b_L_law 278 = .ok (.iadd, 1) := by decide +kernel
theorem d_L_law_279 : decode b_L_law 279 = .ok (.iaload, 1) := by decide +kernel
theorem d_L_law_280 : decode b_L_law 280 = .ok (.i2l, 1) := by decide +kernel
theorem d_L_law_281 : decode b_L_law 281 = .ok (.bipush 32, 2) := by decide +kernel
theorem d_L_law_283 : decode b_L_law 283 = .ok (.lshl, 1) := by decide +kernel
theorem d_L_law_284 : decode b_L_law 284 = .ok (.aload_n 0, 1) := by decide +kernel
theorem d_L_law_285 : decode b_L_law 285 = .ok (.iload 4, 2) := by decide +kernel
theorem d_L_law_287 : decode b_L_law 287 = .ok (.iconst 3, 1) := by decide +kernel
theorem d_L_law_288 : decode b_L_law 288 = .ok (.iadd, 1) := by decide +kernel
theorem d_L_law_289 : decode b_L_law 289 = .ok (.iaload, 1) := by decide +kernel
theorem d_L_law_290 : decode b_L_law 290 = .ok (.i2l, 1) := by decide +kernel
theorem d_L_law_291 : decode b_L_law 291 = .ok (.ldc2_w 76, 3) := by decide +kernel
theorem d_L_law_294 : decode b_L_law 294 = .ok (.land, 1) := by decide +kernel
theorem d_L_law_295 : decode b_L_law 295 = .ok (.lor, 1) := by decide +kernel
theorem d_L_law_296 : decode b_L_law 296 = .ok (.invokevirtual 81, 3) := by decide +kernel
theorem d_L_law_299 : decode b_L_law 299 = .ok (.aload_n 2, 1) := by decide +kernel
theorem d_L_law_300 : decode b_L_law 300 = .ok (.invokevirtual 66, 3) := by decide +kernel
theorem d_L_law_303 : decode b_L_law 303 = .ok (.iload 5, 2) := by decide +kernel
theorem d_L_law_305 : decode b_L_law 305 = .ok (.if_icmp .eq 5, 3) := by decide +kernel
theorem d_L_law_308 : decode b_L_law 308 = .ok (.iconst 0, 1) := by decide +kernel
theorem d_L_law_309 : decode b_L_law 309 = .ok (.ireturn, 1) := by decide +kernel
theorem d_L_law_310 : decode b_L_law 310 = .ok (.goto 523, 3) := by decide +kernel
theorem d_L_law_313 : decode b_L_law 313 = .ok (.aload_n 1, 1) := by decide +kernel
theorem d_L_law_314 : decode b_L_law 314 = .ok (.aload_n 0, 1) := by decide +kernel
theorem d_L_law_315 : decode b_L_law 315 = .ok (.iload 4, 2) := by decide +kernel
theorem d_L_law_317 : decode b_L_law 317 = .ok (.iconst 1, 1) := by decide +kernel
theorem d_L_law_318 : decode b_L_law 318 = .ok (.iadd, 1) := by decide +kernel
theorem d_L_law_319 : decode b_L_law 319 = .ok (.iaload, 1) := by decide +kernel
theorem d_L_law_320 : decode b_L_law 320 = .ok (.aload_n 3, 1) := by decide +kernel
theorem d_L_law_321 : decode b_L_law 321 = .ok (.invokestatic 82, 3) := by decide +kernel
theorem d_L_law_324 : decode b_L_law 324 = .ok (.istore 5, 2) := by decide +kernel
theorem d_L_law_326 : decode b_L_law 326 = .ok (.aload_n 2, 1) := by decide +kernel
theorem d_L_law_327 : decode b_L_law 327 = .ok (.aload_n 0, 1) := by decide +kernel
theorem d_L_law_328 : decode b_L_law 328 = .ok (.iload 4, 2) := by decide +kernel
theorem d_L_law_330 : decode b_L_law 330 = .ok (.iconst 1, 1) := by decide +kernel
theorem d_L_law_331 : decode b_L_law 331 = .ok (.iadd, 1) := by decide +kernel
theorem d_L_law_332 : decode b_L_law 332 = .ok (.iaload, 1) := by decide +kernel
theorem d_L_law_333 : decode b_L_law 333 = .ok (.invokevirtual 84, 3) := by decide +kernel
theorem d_L_law_336 : decode b_L_law 336 = .ok (.lstore 6, 2) := by decide +kernel
theorem d_L_law_338 : decode b_L_law 338 = .ok (.aload_n 2, 1) := by decide +kernel
theorem d_L_law_339 : decode b_L_law 339 = .ok (.invokevirtual 66, 3) := by decide +kernel
theorem d_L_law_342 : decode b_L_law 342 = .ok (.iload 5, 2) := by decide +kernel
theorem d_L_law_344 : decode b_L_law 344 = .ok (.if_icmp .eq 5, 3) := by decide +kernel
theorem d_L_law_347 : decode b_L_law 347 = .ok (.iconst 0, 1) := by decide +kernel
theorem d_L_law_348 : decode b_L_law 348 = .ok (.ireturn, 1) := by decide +kernel
theorem d_L_law_349 : decode b_L_law 349 = .ok (.iload 5, 2) := by decide +kernel
theorem d_L_law_351 : decode b_L_law 351 = .ok (.ifCond .ne 14, 3) := by decide +kernel
theorem d_L_law_354 : decode b_L_law 354 = .ok (.aload_n 3, 1) := by decide +kernel
theorem d_L_law_355 : decode b_L_law 355 = .ok (.iconst 0, 1) := by decide +kernel
theorem d_L_law_356 : decode b_L_law 356 = .ok (.laload, 1) := by decide +kernel
theorem d_L_law_357 : decode b_L_law 357 = .ok (.lload 6, 2) := by decide +kernel
theorem d_L_law_359 : decode b_L_law 359 = .ok (.lcmp, 1) := by decide +kernel
theorem d_L_law_360 : decode b_L_law 360 = .ok (.ifCond .eq 5, 3) := by decide +kernel
theorem d_L_law_363 : decode b_L_law 363 = .ok (.iconst 0, 1) := by decide +kernel
theorem d_L_law_364 : decode b_L_law 364 = .ok (.ireturn, 1) := by decide +kernel
theorem d_L_law_365 : decode b_L_law 365 = .ok (.goto 468, 3) := by decide +kernel
theorem d_L_law_368 : decode b_L_law 368 = .ok (.aload_n 1, 1) := by decide +kernel
theorem d_L_law_369 : decode b_L_law 369 = .ok (.aload_n 0, 1) := by decide +kernel
theorem d_L_law_370 : decode b_L_law 370 = .ok (.iload 4, 2) := by decide +kernel
theorem d_L_law_372 : decode b_L_law 372 = .ok (.iconst 1, 1) := by decide +kernel
theorem d_L_law_373 : decode b_L_law 373 = .ok (.iadd, 1) := by decide +kernel
theorem d_L_law_374 : decode b_L_law 374 = .ok (.iaload, 1) := by decide +kernel
theorem d_L_law_375 : decode b_L_law 375 = .ok (.aload_n 3, 1) := by decide +kernel
theorem d_L_law_376 : decode b_L_law 376 = .ok (.invokestatic 85, 3) := by decide +kernel
theorem d_L_law_379 : decode b_L_law 379 = .ok (.istore 5, 2) := by decide +kernel
theorem d_L_law_381 : decode b_L_law 381 = .ok (.aload_n 2, 1) := by decide +kernel
theorem d_L_law_382 : decode b_L_law 382 = .ok (.aload_n 0, 1) := by decide +kernel
theorem d_L_law_383 : decode b_L_law 383 = .ok (.iload 4, 2) := by decide +kernel
theorem d_L_law_385 : decode b_L_law 385 = .ok (.iconst 1, 1) := by decide +kernel
theorem d_L_law_386 : decode b_L_law 386 = .ok (.iadd, 1) := by decide +kernel
theorem d_L_law_387 : decode b_L_law 387 = .ok (.iaload, 1) := by decide +kernel
theorem d_L_law_388 : decode b_L_law 388 = .ok (.invokevirtual 87, 3) := by decide +kernel
theorem d_L_law_391 : decode b_L_law 391 = .ok (.istore 6, 2) := by decide +kernel
theorem d_L_law_393 : decode b_L_law 393 = .ok (.aload_n 2, 1) := by decide +kernel
theorem d_L_law_394 : decode b_L_law 394 = .ok (.invokevirtual 66, 3) := by decide +kernel
theorem d_L_law_397 : decode b_L_law 397 = .ok (.iload 5, 2) := by decide +kernel
theorem d_L_law_399 : decode b_L_law 399 = .ok (.if_icmp .eq 5, 3) := by decide +kernel
theorem d_L_law_402 : decode b_L_law 402 = .ok (.iconst 0, 1) := by decide +kernel
theorem d_L_law_403 : decode b_L_law 403 = .ok (.ireturn, 1) := by decide +kernel
theorem d_L_law_404 : decode b_L_law 404 = .ok (.iload 5, 2) := by decide +kernel
theorem d_L_law_406 : decode b_L_law 406 = .ok (.ifCond .ne 22, 3) := by decide +kernel
theorem d_L_law_409 : decode b_L_law 409 = .ok (.aload_n 3, 1) := by decide +kernel
theorem d_L_law_410 : decode b_L_law 410 = .ok (.iconst 0, 1) := by decide +kernel
theorem d_L_law_411 : decode b_L_law 411 = .ok (.laload, 1) := by decide +kernel
theorem d_L_law_412 : decode b_L_law 412 = .ok (.iload 6, 2) := by decide +kernel
theorem d_L_law_414 : decode b_L_law 414 = .ok (.ifCond .eq 7, 3) := by decide +kernel
theorem d_L_law_417 : decode b_L_law 417 = .ok (.lconst 1, 1) := by decide +kernel
theorem d_L_law_418 : decode b_L_law 418 = .ok (.goto 4, 3) := by decide +kernel
theorem d_L_law_421 : decode b_L_law 421 = .ok (.lconst 0, 1) := by decide +kernel
theorem d_L_law_422 : decode b_L_law 422 = .ok (.lcmp, 1) := by decide +kernel
theorem d_L_law_423 : decode b_L_law 423 = .ok (.ifCond .eq 5, 3) := by decide +kernel
theorem d_L_law_426 : decode b_L_law 426 = .ok (.iconst 0, 1) := by decide +kernel
theorem d_L_law_427 : decode b_L_law 427 = .ok (.ireturn, 1) := by decide +kernel
theorem d_L_law_428 : decode b_L_law 428 = .ok (.goto 405, 3) := by decide +kernel
theorem d_L_law_431 : decode b_L_law 431 = .ok (.aload_n 1, 1) := by decide +kernel
theorem d_L_law_432 : decode b_L_law 432 = .ok (.aload_n 0, 1) := by decide +kernel
theorem d_L_law_433 : decode b_L_law 433 = .ok (.iload 4, 2) := by decide +kernel
theorem d_L_law_435 : decode b_L_law 435 = .ok (.iconst 1, 1) := by decide +kernel
theorem d_L_law_436 : decode b_L_law 436 = .ok (.iadd, 1) := by decide +kernel
theorem d_L_law_437 : decode b_L_law 437 = .ok (.iaload, 1) := by decide +kernel
theorem d_L_law_438 : decode b_L_law 438 = .ok (.aload_n 0, 1) := by decide +kernel
theorem d_L_law_439 : decode b_L_law 439 = .ok (.iload 4, 2) := by decide +kernel
theorem d_L_law_441 : decode b_L_law 441 = .ok (.iconst 2, 1) := by decide +kernel
theorem d_L_law_442 : decode b_L_law 442 = .ok (.iadd, 1) := by decide +kernel
theorem d_L_law_443 : decode b_L_law 443 = .ok (.iaload, 1) := by decide +kernel
theorem d_L_law_444 : decode b_L_law 444 = .ok (.aload_n 0, 1) := by decide +kernel
theorem d_L_law_445 : decode b_L_law 445 = .ok (.iload 4, 2) := by decide +kernel
theorem d_L_law_447 : decode b_L_law 447 = .ok (.iconst 3, 1) := by decide +kernel
theorem d_L_law_448 : decode b_L_law 448 = .ok (.iadd, 1) := by decide +kernel
theorem d_L_law_449 : decode b_L_law 449 = .ok (.iaload, 1) := by decide +kernel
theorem d_L_law_450 : decode b_L_law 450 = .ok (.aload_n 0, 1) := by decide +kernel
theorem d_L_law_451 : decode b_L_law 451 = .ok (.iload 4, 2) := by decide +kernel
theorem d_L_law_453 : decode b_L_law 453 = .ok (.iconst 4, 1) := by decide +kernel
theorem d_L_law_454 : decode b_L_law 454 = .ok (.iadd, 1) := by decide +kernel
theorem d_L_law_455 : decode b_L_law 455 = .ok (.iaload, 1) := by decide +kernel
theorem d_L_law_456 : decode b_L_law 456 = .ok (.invokestatic 88, 3) := by decide +kernel
theorem d_L_law_459 : decode b_L_law 459 = .ok (.istore 5, 2) := by decide +kernel
theorem d_L_law_461 : decode b_L_law 461 = .ok (.aload_n 2, 1) := by decide +kernel
theorem d_L_law_462 : decode b_L_law 462 = .ok (.aload_n 0, 1) := by decide +kernel
theorem d_L_law_463 : decode b_L_law 463 = .ok (.iload 4, 2) := by decide +kernel
theorem d_L_law_465 : decode b_L_law 465 = .ok (.iconst 1, 1) := by decide +kernel
theorem d_L_law_466 : decode b_L_law 466 = .ok (.iadd, 1) := by decide +kernel
theorem d_L_law_467 : decode b_L_law 467 = .ok (.iaload, 1) := by decide +kernel
theorem d_L_law_468 : decode b_L_law 468 = .ok (.aload_n 0, 1) := by decide +kernel
theorem d_L_law_469 : decode b_L_law 469 = .ok (.iload 4, 2) := by decide +kernel
theorem d_L_law_471 : decode b_L_law 471 = .ok (.iconst 2, 1) := by decide +kernel
theorem d_L_law_472 : decode b_L_law 472 = .ok (.iadd, 1) := by decide +kernel
theorem d_L_law_473 : decode b_L_law 473 = .ok (.iaload, 1) := by decide +kernel
theorem d_L_law_474 : decode b_L_law 474 = .ok (.aload_n 0, 1) := by decide +kernel
theorem d_L_law_475 : decode b_L_law 475 = .ok (.iload 4, 2) := by decide +kernel
theorem d_L_law_477 : decode b_L_law 477 = .ok (.iconst 3, 1) := by decide +kernel
theorem d_L_law_478 : decode b_L_law 478 = .ok (.iadd, 1) := by decide +kernel
theorem d_L_law_479 : decode b_L_law 479 = .ok (.iaload, 1) := by decide +kernel
theorem d_L_law_480 : decode b_L_law 480 = .ok (.aload_n 0, 1) := by decide +kernel
theorem d_L_law_481 : decode b_L_law 481 = .ok (.iload 4, 2) := by decide +kernel
theorem d_L_law_483 : decode b_L_law 483 = .ok (.iconst 4, 1) := by decide +kernel
theorem d_L_law_484 : decode b_L_law 484 = .ok (.iadd, 1) := by decide +kernel
theorem d_L_law_485 : decode b_L_law 485 = .ok (.iaload, 1) := by decide +kernel
theorem d_L_law_486 : decode b_L_law 486 = .ok (.invokevirtual 91, 3) := by decide +kernel
theorem d_L_law_489 : decode b_L_law 489 = .ok (.aload_n 2, 1) := by decide +kernel
theorem d_L_law_490 : decode b_L_law 490 = .ok (.invokevirtual 66, 3) := by decide +kernel
theorem d_L_law_493 : decode b_L_law 493 = .ok (.iload 5, 2) := by decide +kernel
theorem d_L_law_495 : decode b_L_law 495 = .ok (.if_icmp .eq 5, 3) := by decide +kernel
theorem d_L_law_498 : decode b_L_law 498 = .ok (.iconst 0, 1) := by decide +kernel
theorem d_L_law_499 : decode b_L_law 499 = .ok (.ireturn, 1) := by decide +kernel
theorem d_L_law_500 : decode b_L_law 500 = .ok (.goto 333, 3) := by decide +kernel
theorem d_L_law_503 : decode b_L_law 503 = .ok (.aload_n 1, 1) := by decide +kernel
theorem d_L_law_504 : decode b_L_law 504 = .ok (.aload_n 0, 1) := by decide +kernel
theorem d_L_law_505 : decode b_L_law 505 = .ok (.iload 4, 2) := by decide +kernel
theorem d_L_law_507 : decode b_L_law 507 = .ok (.iconst 1, 1) := by decide +kernel
theorem d_L_law_508 : decode b_L_law 508 = .ok (.iadd, 1) := by decide +kernel
theorem d_L_law_509 : decode b_L_law 509 = .ok (.iaload, 1) := by decide +kernel
theorem d_L_law_510 : decode b_L_law 510 = .ok (.aload_n 0, 1) := by decide +kernel
theorem d_L_law_511 : decode b_L_law 511 = .ok (.iload 4, 2) := by decide +kernel
theorem d_L_law_513 : decode b_L_law 513 = .ok (.iconst 2, 1) := by decide +kernel
theorem d_L_law_514 : decode b_L_law 514 = .ok (.iadd, 1) := by decide +kernel
theorem d_L_law_515 : decode b_L_law 515 = .ok (.iaload, 1) := by decide +kernel
theorem d_L_law_516 : decode b_L_law 516 = .ok (.aload_n 0, 1) := by decide +kernel
theorem d_L_law_517 : decode b_L_law 517 = .ok (.iload 4, 2) := by decide +kernel
theorem d_L_law_519 : decode b_L_law 519 = .ok (.iconst 3, 1) := by decide +kernel
theorem d_L_law_520 : decode b_L_law 520 = .ok (.iadd, 1) := by decide +kernel
theorem d_L_law_521 : decode b_L_law 521 = .ok (.iaload, 1) := by decide +kernel
theorem d_L_law_522 : decode b_L_law 522 = .ok (.aload_n 3, 1) := by decide +kernel
theorem d_L_law_523 : decode b_L_law 523 = .ok (.invokestatic 92, 3) := by decide +kernel
theorem d_L_law_526 : decode b_L_law 526 = .ok (.istore 5, 2) := by decide +kernel
theorem d_L_law_528 : decode b_L_law 528 = .ok (.aload_n 2, 1) := by decide +kernel
theorem d_L_law_529 : decode b_L_law 529 = .ok (.aload_n 0, 1) := by decide +kernel
theorem d_L_law_530 : decode b_L_law 530 = .ok (.iload 4, 2) := by decide +kernel
theorem d_L_law_532 : decode b_L_law 532 = .ok (.iconst 1, 1) := by decide +kernel
theorem d_L_law_533 : decode b_L_law 533 = .ok (.iadd, 1) := by decide +kernel
theorem d_L_law_534 : decode b_L_law 534 = .ok (.iaload, 1) := by decide +kernel
theorem d_L_law_535 : decode b_L_law 535 = .ok (.aload_n 0, 1) := by decide +kernel
theorem d_L_law_536 : decode b_L_law 536 = .ok (.iload 4, 2) := by decide +kernel
theorem d_L_law_538 : decode b_L_law 538 = .ok (.iconst 2, 1) := by decide +kernel
theorem d_L_law_539 : decode b_L_law 539 = .ok (.iadd, 1) := by decide +kernel
theorem d_L_law_540 : decode b_L_law 540 = .ok (.iaload, 1) := by decide +kernel
theorem d_L_law_541 : decode b_L_law 541 = .ok (.aload_n 0, 1) := by decide +kernel
theorem d_L_law_542 : decode b_L_law 542 = .ok (.iload 4, 2) := by decide +kernel
theorem d_L_law_544 : decode b_L_law 544 = .ok (.iconst 3, 1) := by decide +kernel
theorem d_L_law_545 : decode b_L_law 545 = .ok (.iadd, 1) := by decide +kernel
theorem d_L_law_546 : decode b_L_law 546 = .ok (.iaload, 1) := by decide +kernel
theorem d_L_law_547 : decode b_L_law 547 = .ok (.invokevirtual 95, 3) := by decide +kernel
theorem d_L_law_550 : decode b_L_law 550 = .ok (.istore 6, 2) := by decide +kernel
theorem d_L_law_552 : decode b_L_law 552 = .ok (.aload_n 2, 1) := by decide +kernel
theorem d_L_law_553 : decode b_L_law 553 = .ok (.invokevirtual 66, 3) := by decide +kernel
theorem d_L_law_556 : decode b_L_law 556 = .ok (.iload 5, 2) := by decide +kernel
theorem d_L_law_558 : decode b_L_law 558 = .ok (.if_icmp .eq 5, 3) := by decide +kernel
theorem d_L_law_561 : decode b_L_law 561 = .ok (.iconst 0, 1) := by decide +kernel
theorem d_L_law_562 : decode b_L_law 562 = .ok (.ireturn, 1) := by decide +kernel
theorem d_L_law_563 : decode b_L_law 563 = .ok (.iload 5, 2) := by decide +kernel
theorem d_L_law_565 : decode b_L_law 565 = .ok (.ifCond .ne 15, 3) := by decide +kernel
theorem d_L_law_568 : decode b_L_law 568 = .ok (.aload_n 3, 1) := by decide +kernel
theorem d_L_law_569 : decode b_L_law 569 = .ok (.iconst 0, 1) := by decide +kernel
theorem d_L_law_570 : decode b_L_law 570 = .ok (.laload, 1) := by decide +kernel
theorem d_L_law_571 : decode b_L_law 571 = .ok (.iload 6, 2) := by decide +kernel
theorem d_L_law_573 : decode b_L_law 573 = .ok (.i2l, 1) := by decide +kernel
theorem d_L_law_574 : decode b_L_law 574 = .ok (.lcmp, 1) := by decide +kernel
theorem d_L_law_575 : decode b_L_law 575 = .ok (.ifCond .eq 5, 3) := by decide +kernel
theorem d_L_law_578 : decode b_L_law 578 = .ok (.iconst 0, 1) := by decide +kernel
theorem d_L_law_579 : decode b_L_law 579 = .ok (.ireturn, 1) := by decide +kernel
theorem d_L_law_580 : decode b_L_law 580 = .ok (.goto 253, 3) := by decide +kernel
theorem d_L_law_583 : decode b_L_law 583 = .ok (.aload_n 1, 1) := by decide +kernel
theorem d_L_law_584 : decode b_L_law 584 = .ok (.invokevirtual 96, 3) := by decide +kernel
theorem d_L_law_587 : decode b_L_law 587 = .ok (.aload_n 2, 1) := by decide +kernel
theorem d_L_law_588 : decode b_L_law 588 = .ok (.invokevirtual 99, 3) := by decide +kernel
theorem d_L_law_591 : decode b_L_law 591 = .ok (.if_icmp .eq 242, 3) := by decide +kernel
theorem d_L_law_594 : decode b_L_law 594 = .ok (.iconst 0, 1) := by decide +kernel
theorem d_L_law_595 : decode b_L_law 595 = .ok (.ireturn, 1) := by decide +kernel
theorem d_L_law_596 : decode b_L_law 596 = .ok (.aload_n 1, 1) := by decide +kernel
theorem d_L_law_597 : decode b_L_law 597 = .ok (.aload_n 3, 1) := by decide +kernel
theorem d_L_law_598 : decode b_L_law 598 = .ok (.invokestatic 100, 3) := by decide +kernel
theorem d_L_law_601 : decode b_L_law 601 = .ok (.istore 5, 2) := by decide +kernel
theorem d_L_law_603 : decode b_L_law 603 = .ok (.aload_n 2, 1) := by decide +kernel
theorem d_L_law_604 : decode b_L_law 604 = .ok (.invokevirtual 103, 3) := by decide +kernel
theorem d_L_law_607 : decode b_L_law 607 = .ok (.istore 6, 2) := by decide +kernel
theorem d_L_law_609 : decode b_L_law 609 = .ok (.aload_n 2, 1) := by decide +kernel
theorem d_L_law_610 : decode b_L_law 610 = .ok (.invokevirtual 66, 3) := by decide +kernel
theorem d_L_law_613 : decode b_L_law 613 = .ok (.iload 5, 2) := by decide +kernel
theorem d_L_law_615 : decode b_L_law 615 = .ok (.if_icmp .eq 5, 3) := by decide +kernel
theorem d_L_law_618 : decode b_L_law 618 = .ok (.iconst 0, 1) := by decide +kernel
theorem d_L_law_619 : decode b_L_law 619 = .ok (.ireturn, 1) := by decide +kernel
theorem d_L_law_620 : decode b_L_law 620 = .ok (.iload 5, 2) := by decide +kernel
theorem d_L_law_622 : decode b_L_law 622 = .ok (.ifCond .ne 15, 3) := by decide +kernel
theorem d_L_law_625 : decode b_L_law 625 = .ok (.aload_n 3, 1) := by decide +kernel
theorem d_L_law_626 : decode b_L_law 626 = .ok (.iconst 0, 1) := by decide +kernel
theorem d_L_law_627 : decode b_L_law 627 = .ok (.laload, 1) := by decide +kernel
theorem d_L_law_628 : decode b_L_law 628 = .ok (.iload 6, 2) := by decide +kernel
theorem d_L_law_630 : decode b_L_law 630 = .ok (.i2l, 1) := by decide +kernel
theorem d_L_law_631 : decode b_L_law 631 = .ok (.lcmp, 1) := by decide +kernel
theorem d_L_law_632 : decode b_L_law 632 = .ok (.ifCond .eq 5, 3) := by decide +kernel
theorem d_L_law_635 : decode b_L_law 635 = .ok (.iconst 0, 1) := by decide +kernel
theorem d_L_law_636 : decode b_L_law 636 = .ok (.ireturn, 1) := by decide +kernel
theorem d_L_law_637 : decode b_L_law 637 = .ok (.goto 196, 3) := by decide +kernel
theorem d_L_law_640 : decode b_L_law 640 = .ok (.aload_n 1, 1) := by decide +kernel
theorem d_L_law_641 : decode b_L_law 641 = .ok (.aload_n 0, 1) := by decide +kernel
theorem d_L_law_642 : decode b_L_law 642 = .ok (.iload 4, 2) := by decide +kernel
theorem d_L_law_644 : decode b_L_law 644 = .ok (.iconst 1, 1) := by decide +kernel
theorem d_L_law_645 : decode b_L_law 645 = .ok (.iadd, 1) := by decide +kernel
theorem d_L_law_646 : decode b_L_law 646 = .ok (.iaload, 1) := by decide +kernel
theorem d_L_law_647 : decode b_L_law 647 = .ok (.aload_n 3, 1) := by decide +kernel
theorem d_L_law_648 : decode b_L_law 648 = .ok (.invokestatic 104, 3) := by decide +kernel
theorem d_L_law_651 : decode b_L_law 651 = .ok (.istore 5, 2) := by decide +kernel
theorem d_L_law_653 : decode b_L_law 653 = .ok (.aload_n 2, 1) := by decide +kernel
theorem d_L_law_654 : decode b_L_law 654 = .ok (.aload_n 0, 1) := by decide +kernel
theorem d_L_law_655 : decode b_L_law 655 = .ok (.iload 4, 2) := by decide +kernel
theorem d_L_law_657 : decode b_L_law 657 = .ok (.iconst 1, 1) := by decide +kernel
theorem d_L_law_658 : decode b_L_law 658 = .ok (.iadd, 1) := by decide +kernel
theorem d_L_law_659 : decode b_L_law 659 = .ok (.iaload, 1) := by decide +kernel
theorem d_L_law_660 : decode b_L_law 660 = .ok (.invokevirtual 106, 3) := by decide +kernel
theorem d_L_law_663 : decode b_L_law 663 = .ok (.istore 6, 2) := by decide +kernel
theorem d_L_law_665 : decode b_L_law 665 = .ok (.aload_n 2, 1) := by decide +kernel
theorem d_L_law_666 : decode b_L_law 666 = .ok (.invokevirtual 66, 3) := by decide +kernel
theorem d_L_law_669 : decode b_L_law 669 = .ok (.iload 5, 2) := by decide +kernel
theorem d_L_law_671 : decode b_L_law 671 = .ok (.if_icmp .eq 5, 3) := by decide +kernel
theorem d_L_law_674 : decode b_L_law 674 = .ok (.iconst 0, 1) := by decide +kernel
theorem d_L_law_675 : decode b_L_law 675 = .ok (.ireturn, 1) := by decide +kernel
theorem d_L_law_676 : decode b_L_law 676 = .ok (.iload 5, 2) := by decide +kernel
theorem d_L_law_678 : decode b_L_law 678 = .ok (.ifCond .ne 15, 3) := by decide +kernel
theorem d_L_law_681 : decode b_L_law 681 = .ok (.aload_n 3, 1) := by decide +kernel
theorem d_L_law_682 : decode b_L_law 682 = .ok (.iconst 0, 1) := by decide +kernel
theorem d_L_law_683 : decode b_L_law 683 = .ok (.laload, 1) := by decide +kernel
theorem d_L_law_684 : decode b_L_law 684 = .ok (.iload 6, 2) := by decide +kernel
theorem d_L_law_686 : decode b_L_law 686 = .ok (.i2l, 1) := by decide +kernel
theorem d_L_law_687 : decode b_L_law 687 = .ok (.lcmp, 1) := by decide +kernel
theorem d_L_law_688 : decode b_L_law 688 = .ok (.ifCond .eq 5, 3) := by decide +kernel
theorem d_L_law_691 : decode b_L_law 691 = .ok (.iconst 0, 1) := by decide +kernel
theorem d_L_law_692 : decode b_L_law 692 = .ok (.ireturn, 1) := by decide +kernel
theorem d_L_law_693 : decode b_L_law 693 = .ok (.goto 140, 3) := by decide +kernel
theorem d_L_law_696 : decode b_L_law 696 = .ok (.aload_n 1, 1) := by decide +kernel
theorem d_L_law_697 : decode b_L_law 697 = .ok (.aload_n 0, 1) := by decide +kernel
theorem d_L_law_698 : decode b_L_law 698 = .ok (.iload 4, 2) := by decide +kernel
theorem d_L_law_700 : decode b_L_law 700 = .ok (.iconst 1, 1) := by decide +kernel
theorem d_L_law_701 : decode b_L_law 701 = .ok (.iadd, 1) := by decide +kernel
theorem d_L_law_702 : decode b_L_law 702 = .ok (.iaload, 1) := by decide +kernel
theorem d_L_law_703 : decode b_L_law 703 = .ok (.aload_n 0, 1) := by decide +kernel
theorem d_L_law_704 : decode b_L_law 704 = .ok (.iload 4, 2) := by decide +kernel
theorem d_L_law_706 : decode b_L_law 706 = .ok (.iconst 2, 1) := by decide +kernel
theorem d_L_law_707 : decode b_L_law 707 = .ok (.iadd, 1) := by decide +kernel
theorem d_L_law_708 : decode b_L_law 708 = .ok (.iaload, 1) := by decide +kernel
theorem d_L_law_709 : decode b_L_law 709 = .ok (.aload_n 3, 1) := by decide +kernel
theorem d_L_law_710 : decode b_L_law 710 = .ok (.invokestatic 107, 3) := by decide +kernel
theorem d_L_law_713 : decode b_L_law 713 = .ok (.istore 5, 2) := by decide +kernel
theorem d_L_law_715 : decode b_L_law 715 = .ok (.aload_n 2, 1) := by decide +kernel
theorem d_L_law_716 : decode b_L_law 716 = .ok (.aload_n 0, 1) := by decide +kernel
theorem d_L_law_717 : decode b_L_law 717 = .ok (.iload 4, 2) := by decide +kernel
theorem d_L_law_719 : decode b_L_law 719 = .ok (.iconst 1, 1) := by decide +kernel
theorem d_L_law_720 : decode b_L_law 720 = .ok (.iadd, 1) := by decide +kernel
theorem d_L_law_721 : decode b_L_law 721 = .ok (.iaload, 1) := by decide +kernel
theorem d_L_law_722 : decode b_L_law 722 = .ok (.aload_n 0, 1) := by decide +kernel
theorem d_L_law_723 : decode b_L_law 723 = .ok (.iload 4, 2) := by decide +kernel
theorem d_L_law_725 : decode b_L_law 725 = .ok (.iconst 2, 1) := by decide +kernel
theorem d_L_law_726 : decode b_L_law 726 = .ok (.iadd, 1) := by decide +kernel
theorem d_L_law_727 : decode b_L_law 727 = .ok (.iaload, 1) := by decide +kernel
theorem d_L_law_728 : decode b_L_law 728 = .ok (.invokevirtual 110, 3) := by decide +kernel
theorem d_L_law_731 : decode b_L_law 731 = .ok (.istore 6, 2) := by decide +kernel
theorem d_L_law_733 : decode b_L_law 733 = .ok (.aload_n 2, 1) := by decide +kernel
theorem d_L_law_734 : decode b_L_law 734 = .ok (.invokevirtual 66, 3) := by decide +kernel
theorem d_L_law_737 : decode b_L_law 737 = .ok (.iload 5, 2) := by decide +kernel
theorem d_L_law_739 : decode b_L_law 739 = .ok (.if_icmp .eq 5, 3) := by decide +kernel
theorem d_L_law_742 : decode b_L_law 742 = .ok (.iconst 0, 1) := by decide +kernel
theorem d_L_law_743 : decode b_L_law 743 = .ok (.ireturn, 1) := by decide +kernel
theorem d_L_law_744 : decode b_L_law 744 = .ok (.iload 5, 2) := by decide +kernel
theorem d_L_law_746 : decode b_L_law 746 = .ok (.ifCond .ne 15, 3) := by decide +kernel
theorem d_L_law_749 : decode b_L_law 749 = .ok (.aload_n 3, 1) := by decide +kernel
theorem d_L_law_750 : decode b_L_law 750 = .ok (.iconst 0, 1) := by decide +kernel
theorem d_L_law_751 : decode b_L_law 751 = .ok (.laload, 1) := by decide +kernel
theorem d_L_law_752 : decode b_L_law 752 = .ok (.iload 6, 2) := by decide +kernel
theorem d_L_law_754 : decode b_L_law 754 = .ok (.i2l, 1) := by decide +kernel
theorem d_L_law_755 : decode b_L_law 755 = .ok (.lcmp, 1) := by decide +kernel
theorem d_L_law_756 : decode b_L_law 756 = .ok (.ifCond .eq 5, 3) := by decide +kernel
theorem d_L_law_759 : decode b_L_law 759 = .ok (.iconst 0, 1) := by decide +kernel
theorem d_L_law_760 : decode b_L_law 760 = .ok (.ireturn, 1) := by decide +kernel
theorem d_L_law_761 : decode b_L_law 761 = .ok (.goto 72, 3) := by decide +kernel
theorem d_L_law_764 : decode b_L_law 764 = .ok (.aload_n 1, 1) := by decide +kernel
theorem d_L_law_765 : decode b_L_law 765 = .ok (.aload_n 0, 1) := by decide +kernel
theorem d_L_law_766 : decode b_L_law 766 = .ok (.iload 4, 2) := by decide +kernel
theorem d_L_law_768 : decode b_L_law 768 = .ok (.iconst 1, 1) := by decide +kernel
theorem d_L_law_769 : decode b_L_law 769 = .ok (.iadd, 1) := by decide +kernel
theorem d_L_law_770 : decode b_L_law 770 = .ok (.iaload, 1) := by decide +kernel
theorem d_L_law_771 : decode b_L_law 771 = .ok (.aload_n 3, 1) := by decide +kernel
theorem d_L_law_772 : decode b_L_law 772 = .ok (.invokestatic 111, 3) := by decide +kernel
theorem d_L_law_775 : decode b_L_law 775 = .ok (.istore 5, 2) := by decide +kernel
theorem d_L_law_777 : decode b_L_law 777 = .ok (.aload_n 2, 1) := by decide +kernel
theorem d_L_law_778 : decode b_L_law 778 = .ok (.aload_n 0, 1) := by decide +kernel
theorem d_L_law_779 : decode b_L_law 779 = .ok (.iload 4, 2) := by decide +kernel
theorem d_L_law_781 : decode b_L_law 781 = .ok (.iconst 1, 1) := by decide +kernel
theorem d_L_law_782 : decode b_L_law 782 = .ok (.iadd, 1) := by decide +kernel
theorem d_L_law_783 : decode b_L_law 783 = .ok (.iaload, 1) := by decide +kernel
theorem d_L_law_784 : decode b_L_law 784 = .ok (.invokevirtual 113, 3) := by decide +kernel
theorem d_L_law_787 : decode b_L_law 787 = .ok (.istore 6, 2) := by decide +kernel
theorem d_L_law_789 : decode b_L_law 789 = .ok (.aload_n 2, 1) := by decide +kernel
theorem d_L_law_790 : decode b_L_law 790 = .ok (.invokevirtual 66, 3) := by decide +kernel
theorem d_L_law_793 : decode b_L_law 793 = .ok (.iload 5, 2) := by decide +kernel
theorem d_L_law_795 : decode b_L_law 795 = .ok (.if_icmp .eq 5, 3) := by decide +kernel
theorem d_L_law_798 : decode b_L_law 798 = .ok (.iconst 0, 1) := by decide +kernel
theorem d_L_law_799 : decode b_L_law 799 = .ok (.ireturn, 1) := by decide +kernel
theorem d_L_law_800 : decode b_L_law 800 = .ok (.iload 5, 2) := by decide +kernel
theorem d_L_law_802 : decode b_L_law 802 = .ok (.ifCond .ne 15, 3) := by decide +kernel
theorem d_L_law_805 : decode b_L_law 805 = .ok (.aload_n 3, 1) := by decide +kernel
theorem d_L_law_806 : decode b_L_law 806 = .ok (.iconst 0, 1) := by decide +kernel
theorem d_L_law_807 : decode b_L_law 807 = .ok (.laload, 1) := by decide +kernel
theorem d_L_law_808 : decode b_L_law 808 = .ok (.iload 6, 2) := by decide +kernel
theorem d_L_law_810 : decode b_L_law 810 = .ok (.i2l, 1) := by decide +kernel
theorem d_L_law_811 : decode b_L_law 811 = .ok (.lcmp, 1) := by decide +kernel
theorem d_L_law_812 : decode b_L_law 812 = .ok (.ifCond .eq 5, 3) := by decide +kernel
theorem d_L_law_815 : decode b_L_law 815 = .ok (.iconst 0, 1) := by decide +kernel
theorem d_L_law_816 : decode b_L_law 816 = .ok (.ireturn, 1) := by decide +kernel
theorem d_L_law_817 : decode b_L_law 817 = .ok (.goto 16, 3) := by decide +kernel
theorem d_L_law_820 : decode b_L_law 820 = .ok (.aload_n 1, 1) := by decide +kernel
theorem d_L_law_821 : decode b_L_law 821 = .ok (.invokevirtual 114, 3) := by decide +kernel
theorem d_L_law_824 : decode b_L_law 824 = .ok (.aload_n 2, 1) := by decide +kernel
theorem d_L_law_825 : decode b_L_law 825 = .ok (.invokevirtual 117, 3) := by decide +kernel
theorem d_L_law_828 : decode b_L_law 828 = .ok (.if_icmp .eq 5, 3) := by decide +kernel
theorem d_L_law_831 : decode b_L_law 831 = .ok (.iconst 0, 1) := by decide +kernel
theorem d_L_law_832 : decode b_L_law 832 = .ok (.ireturn, 1) := by decide +kernel
theorem d_L_law_833 : decode b_L_law 833 = .ok (.iinc 4 5, 3) := by decide +kernel
theorem d_L_law_836 : decode b_L_law 836 = .ok (.goto (-813), 3) := by decide +kernel
theorem d_L_law_839 : decode b_L_law 839 = .ok (.iconst 1, 1) := by decide +kernel
theorem d_L_law_840 : decode b_L_law 840 = .ok (.ireturn, 1) := by decide +kernel
theorem bq_2_229 : (Jvm.Cond.code ({ cls := "FlashStoreModel", name := "thrown", desc := "()I" } : Jvm.MethodName) prog_5_method_2_code (1 : Nat) (Option.some Jvm.ClassFile.FieldType.int)) ∈ bw := bw_in (List.mem_append_right _ (List.mem_append_right _ (List.mem_append_left _ (List.mem_of_getElem? (i := 229) rfl)))) rfl
theorem bq_2_226 : (Jvm.Cond.methodLink "FlashStoreLaw" (66 : Nat) ({ cls := "FlashStoreModel", name := "thrown", desc := "()I" } : Jvm.MethodName)) ∈ bw := bw_in (List.mem_append_right _ (List.mem_append_right _ (List.mem_append_left _ (List.mem_of_getElem? (i := 226) rfl)))) rfl
theorem bq_2_227 : (Jvm.Cond.instanceMethod ({ cls := "FlashStoreModel", name := "thrown", desc := "()I" } : Jvm.MethodName)) ∈ bw := bw_in (List.mem_append_right _ (List.mem_append_right _ (List.mem_append_left _ (List.mem_of_getElem? (i := 227) rfl)))) rfl
theorem bq_2_228 : (Jvm.Cond.selects "FlashStoreModel" ({ cls := "FlashStoreModel", name := "thrown", desc := "()I" } : Jvm.MethodName) ({ cls := "FlashStoreModel", name := "thrown", desc := "()I" } : Jvm.MethodName)) ∈ bw := bw_in (List.mem_append_right _ (List.mem_append_right _ (List.mem_append_left _ (List.mem_of_getElem? (i := 228) rfl)))) rfl
theorem bq_2_233 : (Jvm.Cond.code ({ cls := "FlashStoreModel", name := "encode", desc := "(I)I" } : Jvm.MethodName) prog_5_method_8_code (2 : Nat) (Option.some Jvm.ClassFile.FieldType.int)) ∈ bw := bw_in (List.mem_append_right _ (List.mem_append_right _ (List.mem_append_left _ (List.mem_of_getElem? (i := 233) rfl)))) rfl
theorem bq_2_230 : (Jvm.Cond.methodLink "FlashStoreLaw" (65 : Nat) ({ cls := "FlashStoreModel", name := "encode", desc := "(I)I" } : Jvm.MethodName)) ∈ bw := bw_in (List.mem_append_right _ (List.mem_append_right _ (List.mem_append_left _ (List.mem_of_getElem? (i := 230) rfl)))) rfl
theorem bq_2_231 : (Jvm.Cond.instanceMethod ({ cls := "FlashStoreModel", name := "encode", desc := "(I)I" } : Jvm.MethodName)) ∈ bw := bw_in (List.mem_append_right _ (List.mem_append_right _ (List.mem_append_left _ (List.mem_of_getElem? (i := 231) rfl)))) rfl
theorem bq_2_232 : (Jvm.Cond.selects "FlashStoreModel" ({ cls := "FlashStoreModel", name := "encode", desc := "(I)I" } : Jvm.MethodName) ({ cls := "FlashStoreModel", name := "encode", desc := "(I)I" } : Jvm.MethodName)) ∈ bw := bw_in (List.mem_append_right _ (List.mem_append_right _ (List.mem_append_left _ (List.mem_of_getElem? (i := 232) rfl)))) rfl
theorem bq_1_138 : (Jvm.Cond.codeWith ({ cls := "FlashStoreLaw", name := "encode", desc := "(LFlashStore;I[J)I" } : Jvm.MethodName) method_3_code (4 : Nat) (Option.some Jvm.ClassFile.FieldType.int) [((0 : Nat), (9 : Nat), (12 : Nat), (13 : Nat))]) ∈ bw := bw_in (List.mem_append_right _ (List.mem_append_left _ (List.mem_of_getElem? (i := 138) rfl))) rfl
theorem bq_1_136 : (Jvm.Cond.methodLink "FlashStoreLaw" (60 : Nat) ({ cls := "FlashStoreLaw", name := "encode", desc := "(LFlashStore;I[J)I" } : Jvm.MethodName)) ∈ bw := bw_in (List.mem_append_right _ (List.mem_append_left _ (List.mem_of_getElem? (i := 136) rfl))) rfl
theorem bq_1_137 : (Jvm.Cond.static ({ cls := "FlashStoreLaw", name := "encode", desc := "(LFlashStore;I[J)I" } : Jvm.MethodName)) ∈ bw := bw_in (List.mem_append_right _ (List.mem_append_left _ (List.mem_of_getElem? (i := 137) rfl))) rfl
theorem bq_1_0 : (Jvm.Cond.initialized "FlashStoreLaw") ∈ bw := bw_in (List.mem_append_right _ (List.mem_append_left _ (List.mem_of_getElem? (i := 0) rfl))) rfl
theorem bq_3_14 : (Jvm.Cond.code ({ cls := "FlashStoreModel", name := "decode", desc := "(I)I" } : Jvm.MethodName) prog_5_method_9_code (3 : Nat) (Option.some Jvm.ClassFile.FieldType.int)) ∈ bw := bw_in (List.mem_append_right _ (List.mem_append_right _ (List.mem_append_right _ (List.mem_of_getElem? (i := 14) rfl)))) rfl
theorem bq_3_11 : (Jvm.Cond.methodLink "FlashStoreLaw" (71 : Nat) ({ cls := "FlashStoreModel", name := "decode", desc := "(I)I" } : Jvm.MethodName)) ∈ bw := bw_in (List.mem_append_right _ (List.mem_append_right _ (List.mem_append_right _ (List.mem_of_getElem? (i := 11) rfl)))) rfl
theorem bq_3_12 : (Jvm.Cond.instanceMethod ({ cls := "FlashStoreModel", name := "decode", desc := "(I)I" } : Jvm.MethodName)) ∈ bw := bw_in (List.mem_append_right _ (List.mem_append_right _ (List.mem_append_right _ (List.mem_of_getElem? (i := 12) rfl)))) rfl
theorem bq_3_13 : (Jvm.Cond.selects "FlashStoreModel" ({ cls := "FlashStoreModel", name := "decode", desc := "(I)I" } : Jvm.MethodName) ({ cls := "FlashStoreModel", name := "decode", desc := "(I)I" } : Jvm.MethodName)) ∈ bw := bw_in (List.mem_append_right _ (List.mem_append_right _ (List.mem_append_right _ (List.mem_of_getElem? (i := 13) rfl)))) rfl
theorem bq_1_217 : (Jvm.Cond.codeWith ({ cls := "FlashStoreLaw", name := "decode", desc := "(LFlashStore;I[J)I" } : Jvm.MethodName) method_4_code (4 : Nat) (Option.some Jvm.ClassFile.FieldType.int) [((0 : Nat), (9 : Nat), (12 : Nat), (13 : Nat)), ((0 : Nat), (9 : Nat), (15 : Nat), (18 : Nat))]) ∈ bw := bw_in (List.mem_append_right _ (List.mem_append_left _ (List.mem_of_getElem? (i := 217) rfl))) rfl
theorem bq_1_215 : (Jvm.Cond.methodLink "FlashStoreLaw" (69 : Nat) ({ cls := "FlashStoreLaw", name := "decode", desc := "(LFlashStore;I[J)I" } : Jvm.MethodName)) ∈ bw := bw_in (List.mem_append_right _ (List.mem_append_left _ (List.mem_of_getElem? (i := 215) rfl))) rfl
theorem bq_1_216 : (Jvm.Cond.static ({ cls := "FlashStoreLaw", name := "decode", desc := "(LFlashStore;I[J)I" } : Jvm.MethodName)) ∈ bw := bw_in (List.mem_append_right _ (List.mem_append_left _ (List.mem_of_getElem? (i := 216) rfl))) rfl
theorem bq_3_22 : (Jvm.Cond.code ({ cls := "FlashStoreModel", name := "mended", desc := "()I" } : Jvm.MethodName) prog_5_method_10_code (1 : Nat) (Option.some Jvm.ClassFile.FieldType.int)) ∈ bw := bw_in (List.mem_append_right _ (List.mem_append_right _ (List.mem_append_right _ (List.mem_of_getElem? (i := 22) rfl)))) rfl
theorem bq_3_19 : (Jvm.Cond.methodLink "FlashStoreLaw" (75 : Nat) ({ cls := "FlashStoreModel", name := "mended", desc := "()I" } : Jvm.MethodName)) ∈ bw := bw_in (List.mem_append_right _ (List.mem_append_right _ (List.mem_append_right _ (List.mem_of_getElem? (i := 19) rfl)))) rfl
theorem bq_3_20 : (Jvm.Cond.instanceMethod ({ cls := "FlashStoreModel", name := "mended", desc := "()I" } : Jvm.MethodName)) ∈ bw := bw_in (List.mem_append_right _ (List.mem_append_right _ (List.mem_append_right _ (List.mem_of_getElem? (i := 20) rfl)))) rfl
theorem bq_3_21 : (Jvm.Cond.selects "FlashStoreModel" ({ cls := "FlashStoreModel", name := "mended", desc := "()I" } : Jvm.MethodName) ({ cls := "FlashStoreModel", name := "mended", desc := "()I" } : Jvm.MethodName)) ∈ bw := bw_in (List.mem_append_right _ (List.mem_append_right _ (List.mem_append_right _ (List.mem_of_getElem? (i := 21) rfl)))) rfl
theorem bq_1_63 : (Jvm.Cond.code ({ cls := "FlashStore", name := "mended", desc := "()I" } : Jvm.MethodName) prog_1_method_4_code (1 : Nat) (Option.some Jvm.ClassFile.FieldType.int)) ∈ bw := bw_in (List.mem_append_right _ (List.mem_append_left _ (List.mem_of_getElem? (i := 63) rfl))) rfl
theorem bq_1_60 : (Jvm.Cond.methodLink "FlashStoreLaw" (72 : Nat) ({ cls := "FlashStore", name := "mended", desc := "()I" } : Jvm.MethodName)) ∈ bw := bw_in (List.mem_append_right _ (List.mem_append_left _ (List.mem_of_getElem? (i := 60) rfl))) rfl
theorem bq_1_61 : (Jvm.Cond.instanceMethod ({ cls := "FlashStore", name := "mended", desc := "()I" } : Jvm.MethodName)) ∈ bw := bw_in (List.mem_append_right _ (List.mem_append_left _ (List.mem_of_getElem? (i := 61) rfl))) rfl
theorem bq_1_62 : (Jvm.Cond.selects "FlashStore" ({ cls := "FlashStore", name := "mended", desc := "()I" } : Jvm.MethodName) ({ cls := "FlashStore", name := "mended", desc := "()I" } : Jvm.MethodName)) ∈ bw := bw_in (List.mem_append_right _ (List.mem_append_left _ (List.mem_of_getElem? (i := 62) rfl))) rfl
theorem bq_3_115 : (Jvm.Cond.constantLong "FlashStoreLaw" (76 : Nat) (4294967295 : Int64)) ∈ bw := bw_in (List.mem_append_right _ (List.mem_append_right _ (List.mem_append_right _ (List.mem_of_getElem? (i := 115) rfl)))) rfl
theorem bq_3_67 : (Jvm.Cond.code ({ cls := "FlashStoreModel", name := "write", desc := "(IJ)V" } : Jvm.MethodName) prog_5_method_22_code (5 : Nat) (Option.none : Option Jvm.ClassFile.FieldType)) ∈ bw := bw_in (List.mem_append_right _ (List.mem_append_right _ (List.mem_append_right _ (List.mem_of_getElem? (i := 67) rfl)))) rfl
theorem bq_3_64 : (Jvm.Cond.methodLink "FlashStoreLaw" (81 : Nat) ({ cls := "FlashStoreModel", name := "write", desc := "(IJ)V" } : Jvm.MethodName)) ∈ bw := bw_in (List.mem_append_right _ (List.mem_append_right _ (List.mem_append_right _ (List.mem_of_getElem? (i := 64) rfl)))) rfl
theorem bq_3_65 : (Jvm.Cond.instanceMethod ({ cls := "FlashStoreModel", name := "write", desc := "(IJ)V" } : Jvm.MethodName)) ∈ bw := bw_in (List.mem_append_right _ (List.mem_append_right _ (List.mem_append_right _ (List.mem_of_getElem? (i := 65) rfl)))) rfl
theorem bq_3_66 : (Jvm.Cond.selects "FlashStoreModel" ({ cls := "FlashStoreModel", name := "write", desc := "(IJ)V" } : Jvm.MethodName) ({ cls := "FlashStoreModel", name := "write", desc := "(IJ)V" } : Jvm.MethodName)) ∈ bw := bw_in (List.mem_append_right _ (List.mem_append_right _ (List.mem_append_right _ (List.mem_of_getElem? (i := 66) rfl)))) rfl
theorem bq_2_5 : (Jvm.Cond.codeWith ({ cls := "FlashStoreLaw", name := "write", desc := "(LFlashStore;IJ)I" } : Jvm.MethodName) method_5_code (5 : Nat) (Option.some Jvm.ClassFile.FieldType.int) [((0 : Nat), (6 : Nat), (9 : Nat), (13 : Nat)), ((0 : Nat), (6 : Nat), (13 : Nat), (24 : Nat))]) ∈ bw := bw_in (List.mem_append_right _ (List.mem_append_right _ (List.mem_append_left _ (List.mem_of_getElem? (i := 5) rfl)))) rfl
theorem bq_2_3 : (Jvm.Cond.methodLink "FlashStoreLaw" (78 : Nat) ({ cls := "FlashStoreLaw", name := "write", desc := "(LFlashStore;IJ)I" } : Jvm.MethodName)) ∈ bw := bw_in (List.mem_append_right _ (List.mem_append_right _ (List.mem_append_left _ (List.mem_of_getElem? (i := 3) rfl)))) rfl
theorem bq_2_4 : (Jvm.Cond.static ({ cls := "FlashStoreLaw", name := "write", desc := "(LFlashStore;IJ)I" } : Jvm.MethodName)) ∈ bw := bw_in (List.mem_append_right _ (List.mem_append_right _ (List.mem_append_left _ (List.mem_of_getElem? (i := 4) rfl)))) rfl
theorem bq_3_75 : (Jvm.Cond.code ({ cls := "FlashStoreModel", name := "read", desc := "(I)J" } : Jvm.MethodName) prog_5_method_23_code (3 : Nat) (Option.some Jvm.ClassFile.FieldType.long)) ∈ bw := bw_in (List.mem_append_right _ (List.mem_append_right _ (List.mem_append_right _ (List.mem_of_getElem? (i := 75) rfl)))) rfl
theorem bq_3_72 : (Jvm.Cond.methodLink "FlashStoreLaw" (84 : Nat) ({ cls := "FlashStoreModel", name := "read", desc := "(I)J" } : Jvm.MethodName)) ∈ bw := bw_in (List.mem_append_right _ (List.mem_append_right _ (List.mem_append_right _ (List.mem_of_getElem? (i := 72) rfl)))) rfl
theorem bq_3_73 : (Jvm.Cond.instanceMethod ({ cls := "FlashStoreModel", name := "read", desc := "(I)J" } : Jvm.MethodName)) ∈ bw := bw_in (List.mem_append_right _ (List.mem_append_right _ (List.mem_append_right _ (List.mem_of_getElem? (i := 73) rfl)))) rfl
theorem bq_3_74 : (Jvm.Cond.selects "FlashStoreModel" ({ cls := "FlashStoreModel", name := "read", desc := "(I)J" } : Jvm.MethodName) ({ cls := "FlashStoreModel", name := "read", desc := "(I)J" } : Jvm.MethodName)) ∈ bw := bw_in (List.mem_append_right _ (List.mem_append_right _ (List.mem_append_right _ (List.mem_of_getElem? (i := 74) rfl)))) rfl
theorem bq_2_110 : (Jvm.Cond.codeWith ({ cls := "FlashStoreLaw", name := "read", desc := "(LFlashStore;I[J)I" } : Jvm.MethodName) method_6_code (4 : Nat) (Option.some Jvm.ClassFile.FieldType.int) [((0 : Nat), (8 : Nat), (11 : Nat), (13 : Nat)), ((0 : Nat), (8 : Nat), (14 : Nat), (24 : Nat)), ((0 : Nat), (8 : Nat), (17 : Nat), (18 : Nat))]) ∈ bw := bw_in (List.mem_append_right _ (List.mem_append_right _ (List.mem_append_left _ (List.mem_of_getElem? (i := 110) rfl)))) rfl
theorem bq_2_108 : (Jvm.Cond.methodLink "FlashStoreLaw" (82 : Nat) ({ cls := "FlashStoreLaw", name := "read", desc := "(LFlashStore;I[J)I" } : Jvm.MethodName)) ∈ bw := bw_in (List.mem_append_right _ (List.mem_append_right _ (List.mem_append_left _ (List.mem_of_getElem? (i := 108) rfl)))) rfl
theorem bq_2_109 : (Jvm.Cond.static ({ cls := "FlashStoreLaw", name := "read", desc := "(LFlashStore;I[J)I" } : Jvm.MethodName)) ∈ bw := bw_in (List.mem_append_right _ (List.mem_append_right _ (List.mem_append_left _ (List.mem_of_getElem? (i := 109) rfl)))) rfl
theorem bq_3_79 : (Jvm.Cond.code ({ cls := "FlashStoreModel", name := "trim", desc := "(I)Z" } : Jvm.MethodName) prog_5_method_24_code (2 : Nat) (Option.some Jvm.ClassFile.FieldType.boolean)) ∈ bw := bw_in (List.mem_append_right _ (List.mem_append_right _ (List.mem_append_right _ (List.mem_of_getElem? (i := 79) rfl)))) rfl
theorem bq_3_76 : (Jvm.Cond.methodLink "FlashStoreLaw" (87 : Nat) ({ cls := "FlashStoreModel", name := "trim", desc := "(I)Z" } : Jvm.MethodName)) ∈ bw := bw_in (List.mem_append_right _ (List.mem_append_right _ (List.mem_append_right _ (List.mem_of_getElem? (i := 76) rfl)))) rfl
theorem bq_3_77 : (Jvm.Cond.instanceMethod ({ cls := "FlashStoreModel", name := "trim", desc := "(I)Z" } : Jvm.MethodName)) ∈ bw := bw_in (List.mem_append_right _ (List.mem_append_right _ (List.mem_append_right _ (List.mem_of_getElem? (i := 77) rfl)))) rfl
theorem bq_3_78 : (Jvm.Cond.selects "FlashStoreModel" ({ cls := "FlashStoreModel", name := "trim", desc := "(I)Z" } : Jvm.MethodName) ({ cls := "FlashStoreModel", name := "trim", desc := "(I)Z" } : Jvm.MethodName)) ∈ bw := bw_in (List.mem_append_right _ (List.mem_append_right _ (List.mem_append_right _ (List.mem_of_getElem? (i := 78) rfl)))) rfl
theorem bq_2_119 : (Jvm.Cond.codeWith ({ cls := "FlashStoreLaw", name := "trim", desc := "(LFlashStore;I[J)I" } : Jvm.MethodName) method_7_code (4 : Nat) (Option.some Jvm.ClassFile.FieldType.int) [((0 : Nat), (16 : Nat), (19 : Nat), (13 : Nat))]) ∈ bw := bw_in (List.mem_append_right _ (List.mem_append_right _ (List.mem_append_left _ (List.mem_of_getElem? (i := 119) rfl)))) rfl
theorem bq_2_117 : (Jvm.Cond.methodLink "FlashStoreLaw" (85 : Nat) ({ cls := "FlashStoreLaw", name := "trim", desc := "(LFlashStore;I[J)I" } : Jvm.MethodName)) ∈ bw := bw_in (List.mem_append_right _ (List.mem_append_right _ (List.mem_append_left _ (List.mem_of_getElem? (i := 117) rfl)))) rfl
theorem bq_2_118 : (Jvm.Cond.static ({ cls := "FlashStoreLaw", name := "trim", desc := "(LFlashStore;I[J)I" } : Jvm.MethodName)) ∈ bw := bw_in (List.mem_append_right _ (List.mem_append_right _ (List.mem_append_left _ (List.mem_of_getElem? (i := 118) rfl)))) rfl
theorem bq_3_91 : (Jvm.Cond.code ({ cls := "FlashStoreModel", name := "spoil", desc := "(IIII)V" } : Jvm.MethodName) prog_5_method_28_code (6 : Nat) (Option.none : Option Jvm.ClassFile.FieldType)) ∈ bw := bw_in (List.mem_append_right _ (List.mem_append_right _ (List.mem_append_right _ (List.mem_of_getElem? (i := 91) rfl)))) rfl
theorem bq_3_88 : (Jvm.Cond.methodLink "FlashStoreLaw" (91 : Nat) ({ cls := "FlashStoreModel", name := "spoil", desc := "(IIII)V" } : Jvm.MethodName)) ∈ bw := bw_in (List.mem_append_right _ (List.mem_append_right _ (List.mem_append_right _ (List.mem_of_getElem? (i := 88) rfl)))) rfl
theorem bq_3_89 : (Jvm.Cond.instanceMethod ({ cls := "FlashStoreModel", name := "spoil", desc := "(IIII)V" } : Jvm.MethodName)) ∈ bw := bw_in (List.mem_append_right _ (List.mem_append_right _ (List.mem_append_right _ (List.mem_of_getElem? (i := 89) rfl)))) rfl
theorem bq_3_90 : (Jvm.Cond.selects "FlashStoreModel" ({ cls := "FlashStoreModel", name := "spoil", desc := "(IIII)V" } : Jvm.MethodName) ({ cls := "FlashStoreModel", name := "spoil", desc := "(IIII)V" } : Jvm.MethodName)) ∈ bw := bw_in (List.mem_append_right _ (List.mem_append_right _ (List.mem_append_right _ (List.mem_of_getElem? (i := 90) rfl)))) rfl
theorem bq_2_126 : (Jvm.Cond.codeWith ({ cls := "FlashStoreLaw", name := "spoil", desc := "(LFlashStore;IIII)I" } : Jvm.MethodName) method_8_code (6 : Nat) (Option.some Jvm.ClassFile.FieldType.int) [((0 : Nat), (9 : Nat), (12 : Nat), (13 : Nat))]) ∈ bw := bw_in (List.mem_append_right _ (List.mem_append_right _ (List.mem_append_left _ (List.mem_of_getElem? (i := 126) rfl)))) rfl
theorem bq_2_124 : (Jvm.Cond.methodLink "FlashStoreLaw" (88 : Nat) ({ cls := "FlashStoreLaw", name := "spoil", desc := "(LFlashStore;IIII)I" } : Jvm.MethodName)) ∈ bw := bw_in (List.mem_append_right _ (List.mem_append_right _ (List.mem_append_left _ (List.mem_of_getElem? (i := 124) rfl)))) rfl
theorem bq_2_125 : (Jvm.Cond.static ({ cls := "FlashStoreLaw", name := "spoil", desc := "(LFlashStore;IIII)I" } : Jvm.MethodName)) ∈ bw := bw_in (List.mem_append_right _ (List.mem_append_right _ (List.mem_append_left _ (List.mem_of_getElem? (i := 125) rfl)))) rfl
theorem bq_3_98 : (Jvm.Cond.code ({ cls := "FlashStoreModel", name := "flash", desc := "(III)I" } : Jvm.MethodName) prog_5_method_29_code (4 : Nat) (Option.some Jvm.ClassFile.FieldType.int)) ∈ bw := bw_in (List.mem_append_right _ (List.mem_append_right _ (List.mem_append_right _ (List.mem_of_getElem? (i := 98) rfl)))) rfl
theorem bq_3_95 : (Jvm.Cond.methodLink "FlashStoreLaw" (95 : Nat) ({ cls := "FlashStoreModel", name := "flash", desc := "(III)I" } : Jvm.MethodName)) ∈ bw := bw_in (List.mem_append_right _ (List.mem_append_right _ (List.mem_append_right _ (List.mem_of_getElem? (i := 95) rfl)))) rfl
theorem bq_3_96 : (Jvm.Cond.instanceMethod ({ cls := "FlashStoreModel", name := "flash", desc := "(III)I" } : Jvm.MethodName)) ∈ bw := bw_in (List.mem_append_right _ (List.mem_append_right _ (List.mem_append_right _ (List.mem_of_getElem? (i := 96) rfl)))) rfl
theorem bq_3_97 : (Jvm.Cond.selects "FlashStoreModel" ({ cls := "FlashStoreModel", name := "flash", desc := "(III)I" } : Jvm.MethodName) ({ cls := "FlashStoreModel", name := "flash", desc := "(III)I" } : Jvm.MethodName)) ∈ bw := bw_in (List.mem_append_right _ (List.mem_append_right _ (List.mem_append_right _ (List.mem_of_getElem? (i := 97) rfl)))) rfl
theorem bq_2_149 : (Jvm.Cond.codeWith ({ cls := "FlashStoreLaw", name := "flash", desc := "(LFlashStore;III[J)I" } : Jvm.MethodName) method_9_code (6 : Nat) (Option.some Jvm.ClassFile.FieldType.int) [((0 : Nat), (12 : Nat), (15 : Nat), (13 : Nat))]) ∈ bw := bw_in (List.mem_append_right _ (List.mem_append_right _ (List.mem_append_left _ (List.mem_of_getElem? (i := 149) rfl)))) rfl
theorem bq_2_147 : (Jvm.Cond.methodLink "FlashStoreLaw" (92 : Nat) ({ cls := "FlashStoreLaw", name := "flash", desc := "(LFlashStore;III[J)I" } : Jvm.MethodName)) ∈ bw := bw_in (List.mem_append_right _ (List.mem_append_right _ (List.mem_append_left _ (List.mem_of_getElem? (i := 147) rfl)))) rfl
theorem bq_2_148 : (Jvm.Cond.static ({ cls := "FlashStoreLaw", name := "flash", desc := "(LFlashStore;III[J)I" } : Jvm.MethodName)) ∈ bw := bw_in (List.mem_append_right _ (List.mem_append_right _ (List.mem_append_left _ (List.mem_of_getElem? (i := 148) rfl)))) rfl
theorem bq_3_83 : (Jvm.Cond.code ({ cls := "FlashStoreModel", name := "mount", desc := "()I" } : Jvm.MethodName) prog_5_method_26_code (7 : Nat) (Option.some Jvm.ClassFile.FieldType.int)) ∈ bw := bw_in (List.mem_append_right _ (List.mem_append_right _ (List.mem_append_right _ (List.mem_of_getElem? (i := 83) rfl)))) rfl
theorem bq_3_80 : (Jvm.Cond.methodLink "FlashStoreLaw" (99 : Nat) ({ cls := "FlashStoreModel", name := "mount", desc := "()I" } : Jvm.MethodName)) ∈ bw := bw_in (List.mem_append_right _ (List.mem_append_right _ (List.mem_append_right _ (List.mem_of_getElem? (i := 80) rfl)))) rfl
theorem bq_3_81 : (Jvm.Cond.instanceMethod ({ cls := "FlashStoreModel", name := "mount", desc := "()I" } : Jvm.MethodName)) ∈ bw := bw_in (List.mem_append_right _ (List.mem_append_right _ (List.mem_append_right _ (List.mem_of_getElem? (i := 81) rfl)))) rfl
theorem bq_3_82 : (Jvm.Cond.selects "FlashStoreModel" ({ cls := "FlashStoreModel", name := "mount", desc := "()I" } : Jvm.MethodName) ({ cls := "FlashStoreModel", name := "mount", desc := "()I" } : Jvm.MethodName)) ∈ bw := bw_in (List.mem_append_right _ (List.mem_append_right _ (List.mem_append_right _ (List.mem_of_getElem? (i := 82) rfl)))) rfl
theorem bq_1_67 : (Jvm.Cond.code ({ cls := "FlashStore", name := "mount", desc := "()I" } : Jvm.MethodName) prog_1_method_10_code (5 : Nat) (Option.some Jvm.ClassFile.FieldType.int)) ∈ bw := bw_in (List.mem_append_right _ (List.mem_append_left _ (List.mem_of_getElem? (i := 67) rfl))) rfl
theorem bq_1_64 : (Jvm.Cond.methodLink "FlashStoreLaw" (96 : Nat) ({ cls := "FlashStore", name := "mount", desc := "()I" } : Jvm.MethodName)) ∈ bw := bw_in (List.mem_append_right _ (List.mem_append_left _ (List.mem_of_getElem? (i := 64) rfl))) rfl
theorem bq_1_65 : (Jvm.Cond.instanceMethod ({ cls := "FlashStore", name := "mount", desc := "()I" } : Jvm.MethodName)) ∈ bw := bw_in (List.mem_append_right _ (List.mem_append_left _ (List.mem_of_getElem? (i := 65) rfl))) rfl
theorem bq_1_66 : (Jvm.Cond.selects "FlashStore" ({ cls := "FlashStore", name := "mount", desc := "()I" } : Jvm.MethodName) ({ cls := "FlashStore", name := "mount", desc := "()I" } : Jvm.MethodName)) ∈ bw := bw_in (List.mem_append_right _ (List.mem_append_left _ (List.mem_of_getElem? (i := 66) rfl))) rfl
theorem bq_3_26 : (Jvm.Cond.code ({ cls := "FlashStoreModel", name := "clean", desc := "()I" } : Jvm.MethodName) prog_5_method_21_code (2 : Nat) (Option.some Jvm.ClassFile.FieldType.int)) ∈ bw := bw_in (List.mem_append_right _ (List.mem_append_right _ (List.mem_append_right _ (List.mem_of_getElem? (i := 26) rfl)))) rfl
theorem bq_3_23 : (Jvm.Cond.methodLink "FlashStoreLaw" (103 : Nat) ({ cls := "FlashStoreModel", name := "clean", desc := "()I" } : Jvm.MethodName)) ∈ bw := bw_in (List.mem_append_right _ (List.mem_append_right _ (List.mem_append_right _ (List.mem_of_getElem? (i := 23) rfl)))) rfl
theorem bq_3_24 : (Jvm.Cond.instanceMethod ({ cls := "FlashStoreModel", name := "clean", desc := "()I" } : Jvm.MethodName)) ∈ bw := bw_in (List.mem_append_right _ (List.mem_append_right _ (List.mem_append_right _ (List.mem_of_getElem? (i := 24) rfl)))) rfl
theorem bq_3_25 : (Jvm.Cond.selects "FlashStoreModel" ({ cls := "FlashStoreModel", name := "clean", desc := "()I" } : Jvm.MethodName) ({ cls := "FlashStoreModel", name := "clean", desc := "()I" } : Jvm.MethodName)) ∈ bw := bw_in (List.mem_append_right _ (List.mem_append_right _ (List.mem_append_right _ (List.mem_of_getElem? (i := 25) rfl)))) rfl
theorem bq_2_157 : (Jvm.Cond.codeWith ({ cls := "FlashStoreLaw", name := "clean", desc := "(LFlashStore;[J)I" } : Jvm.MethodName) method_10_code (3 : Nat) (Option.some Jvm.ClassFile.FieldType.int) [((0 : Nat), (8 : Nat), (11 : Nat), (24 : Nat))]) ∈ bw := bw_in (List.mem_append_right _ (List.mem_append_right _ (List.mem_append_left _ (List.mem_of_getElem? (i := 157) rfl)))) rfl
theorem bq_2_155 : (Jvm.Cond.methodLink "FlashStoreLaw" (100 : Nat) ({ cls := "FlashStoreLaw", name := "clean", desc := "(LFlashStore;[J)I" } : Jvm.MethodName)) ∈ bw := bw_in (List.mem_append_right _ (List.mem_append_right _ (List.mem_append_left _ (List.mem_of_getElem? (i := 155) rfl)))) rfl
theorem bq_2_156 : (Jvm.Cond.static ({ cls := "FlashStoreLaw", name := "clean", desc := "(LFlashStore;[J)I" } : Jvm.MethodName)) ∈ bw := bw_in (List.mem_append_right _ (List.mem_append_right _ (List.mem_append_left _ (List.mem_of_getElem? (i := 156) rfl)))) rfl
theorem bq_3_102 : (Jvm.Cond.code ({ cls := "FlashStoreModel", name := "place", desc := "(I)I" } : Jvm.MethodName) prog_5_method_30_code (2 : Nat) (Option.some Jvm.ClassFile.FieldType.int)) ∈ bw := bw_in (List.mem_append_right _ (List.mem_append_right _ (List.mem_append_right _ (List.mem_of_getElem? (i := 102) rfl)))) rfl
theorem bq_3_99 : (Jvm.Cond.methodLink "FlashStoreLaw" (106 : Nat) ({ cls := "FlashStoreModel", name := "place", desc := "(I)I" } : Jvm.MethodName)) ∈ bw := bw_in (List.mem_append_right _ (List.mem_append_right _ (List.mem_append_right _ (List.mem_of_getElem? (i := 99) rfl)))) rfl
theorem bq_3_100 : (Jvm.Cond.instanceMethod ({ cls := "FlashStoreModel", name := "place", desc := "(I)I" } : Jvm.MethodName)) ∈ bw := bw_in (List.mem_append_right _ (List.mem_append_right _ (List.mem_append_right _ (List.mem_of_getElem? (i := 100) rfl)))) rfl
theorem bq_3_101 : (Jvm.Cond.selects "FlashStoreModel" ({ cls := "FlashStoreModel", name := "place", desc := "(I)I" } : Jvm.MethodName) ({ cls := "FlashStoreModel", name := "place", desc := "(I)I" } : Jvm.MethodName)) ∈ bw := bw_in (List.mem_append_right _ (List.mem_append_right _ (List.mem_append_right _ (List.mem_of_getElem? (i := 101) rfl)))) rfl
theorem bq_2_165 : (Jvm.Cond.codeWith ({ cls := "FlashStoreLaw", name := "place", desc := "(LFlashStore;I[J)I" } : Jvm.MethodName) method_11_code (4 : Nat) (Option.some Jvm.ClassFile.FieldType.int) [((0 : Nat), (9 : Nat), (12 : Nat), (13 : Nat))]) ∈ bw := bw_in (List.mem_append_right _ (List.mem_append_right _ (List.mem_append_left _ (List.mem_of_getElem? (i := 165) rfl)))) rfl
theorem bq_2_163 : (Jvm.Cond.methodLink "FlashStoreLaw" (104 : Nat) ({ cls := "FlashStoreLaw", name := "place", desc := "(LFlashStore;I[J)I" } : Jvm.MethodName)) ∈ bw := bw_in (List.mem_append_right _ (List.mem_append_right _ (List.mem_append_left _ (List.mem_of_getElem? (i := 163) rfl)))) rfl
theorem bq_2_164 : (Jvm.Cond.static ({ cls := "FlashStoreLaw", name := "place", desc := "(LFlashStore;I[J)I" } : Jvm.MethodName)) ∈ bw := bw_in (List.mem_append_right _ (List.mem_append_right _ (List.mem_append_left _ (List.mem_of_getElem? (i := 164) rfl)))) rfl
theorem bq_3_106 : (Jvm.Cond.code ({ cls := "FlashStoreModel", name := "state", desc := "(II)I" } : Jvm.MethodName) prog_5_method_31_code (3 : Nat) (Option.some Jvm.ClassFile.FieldType.int)) ∈ bw := bw_in (List.mem_append_right _ (List.mem_append_right _ (List.mem_append_right _ (List.mem_of_getElem? (i := 106) rfl)))) rfl
theorem bq_3_103 : (Jvm.Cond.methodLink "FlashStoreLaw" (110 : Nat) ({ cls := "FlashStoreModel", name := "state", desc := "(II)I" } : Jvm.MethodName)) ∈ bw := bw_in (List.mem_append_right _ (List.mem_append_right _ (List.mem_append_right _ (List.mem_of_getElem? (i := 103) rfl)))) rfl
theorem bq_3_104 : (Jvm.Cond.instanceMethod ({ cls := "FlashStoreModel", name := "state", desc := "(II)I" } : Jvm.MethodName)) ∈ bw := bw_in (List.mem_append_right _ (List.mem_append_right _ (List.mem_append_right _ (List.mem_of_getElem? (i := 104) rfl)))) rfl
theorem bq_3_105 : (Jvm.Cond.selects "FlashStoreModel" ({ cls := "FlashStoreModel", name := "state", desc := "(II)I" } : Jvm.MethodName) ({ cls := "FlashStoreModel", name := "state", desc := "(II)I" } : Jvm.MethodName)) ∈ bw := bw_in (List.mem_append_right _ (List.mem_append_right _ (List.mem_append_right _ (List.mem_of_getElem? (i := 105) rfl)))) rfl
theorem bq_2_172 : (Jvm.Cond.codeWith ({ cls := "FlashStoreLaw", name := "state", desc := "(LFlashStore;II[J)I" } : Jvm.MethodName) method_12_code (5 : Nat) (Option.some Jvm.ClassFile.FieldType.int) [((0 : Nat), (10 : Nat), (13 : Nat), (13 : Nat))]) ∈ bw := bw_in (List.mem_append_right _ (List.mem_append_right _ (List.mem_append_left _ (List.mem_of_getElem? (i := 172) rfl)))) rfl
theorem bq_2_170 : (Jvm.Cond.methodLink "FlashStoreLaw" (107 : Nat) ({ cls := "FlashStoreLaw", name := "state", desc := "(LFlashStore;II[J)I" } : Jvm.MethodName)) ∈ bw := bw_in (List.mem_append_right _ (List.mem_append_right _ (List.mem_append_left _ (List.mem_of_getElem? (i := 170) rfl)))) rfl
theorem bq_2_171 : (Jvm.Cond.static ({ cls := "FlashStoreLaw", name := "state", desc := "(LFlashStore;II[J)I" } : Jvm.MethodName)) ∈ bw := bw_in (List.mem_append_right _ (List.mem_append_right _ (List.mem_append_left _ (List.mem_of_getElem? (i := 171) rfl)))) rfl
theorem bq_3_110 : (Jvm.Cond.code ({ cls := "FlashStoreModel", name := "wear", desc := "(I)I" } : Jvm.MethodName) prog_5_method_32_code (2 : Nat) (Option.some Jvm.ClassFile.FieldType.int)) ∈ bw := bw_in (List.mem_append_right _ (List.mem_append_right _ (List.mem_append_right _ (List.mem_of_getElem? (i := 110) rfl)))) rfl
theorem bq_3_107 : (Jvm.Cond.methodLink "FlashStoreLaw" (113 : Nat) ({ cls := "FlashStoreModel", name := "wear", desc := "(I)I" } : Jvm.MethodName)) ∈ bw := bw_in (List.mem_append_right _ (List.mem_append_right _ (List.mem_append_right _ (List.mem_of_getElem? (i := 107) rfl)))) rfl
theorem bq_3_108 : (Jvm.Cond.instanceMethod ({ cls := "FlashStoreModel", name := "wear", desc := "(I)I" } : Jvm.MethodName)) ∈ bw := bw_in (List.mem_append_right _ (List.mem_append_right _ (List.mem_append_right _ (List.mem_of_getElem? (i := 108) rfl)))) rfl
theorem bq_3_109 : (Jvm.Cond.selects "FlashStoreModel" ({ cls := "FlashStoreModel", name := "wear", desc := "(I)I" } : Jvm.MethodName) ({ cls := "FlashStoreModel", name := "wear", desc := "(I)I" } : Jvm.MethodName)) ∈ bw := bw_in (List.mem_append_right _ (List.mem_append_right _ (List.mem_append_right _ (List.mem_of_getElem? (i := 109) rfl)))) rfl
theorem bq_2_179 : (Jvm.Cond.codeWith ({ cls := "FlashStoreLaw", name := "wear", desc := "(LFlashStore;I[J)I" } : Jvm.MethodName) method_13_code (4 : Nat) (Option.some Jvm.ClassFile.FieldType.int) [((0 : Nat), (9 : Nat), (12 : Nat), (13 : Nat))]) ∈ bw := bw_in (List.mem_append_right _ (List.mem_append_right _ (List.mem_append_left _ (List.mem_of_getElem? (i := 179) rfl)))) rfl
theorem bq_2_177 : (Jvm.Cond.methodLink "FlashStoreLaw" (111 : Nat) ({ cls := "FlashStoreLaw", name := "wear", desc := "(LFlashStore;I[J)I" } : Jvm.MethodName)) ∈ bw := bw_in (List.mem_append_right _ (List.mem_append_right _ (List.mem_append_left _ (List.mem_of_getElem? (i := 177) rfl)))) rfl
theorem bq_2_178 : (Jvm.Cond.static ({ cls := "FlashStoreLaw", name := "wear", desc := "(LFlashStore;I[J)I" } : Jvm.MethodName)) ∈ bw := bw_in (List.mem_append_right _ (List.mem_append_right _ (List.mem_append_left _ (List.mem_of_getElem? (i := 178) rfl)))) rfl
theorem bq_3_114 : (Jvm.Cond.code ({ cls := "FlashStoreModel", name := "serial", desc := "()I" } : Jvm.MethodName) prog_5_method_33_code (1 : Nat) (Option.some Jvm.ClassFile.FieldType.int)) ∈ bw := bw_in (List.mem_append_right _ (List.mem_append_right _ (List.mem_append_right _ (List.mem_of_getElem? (i := 114) rfl)))) rfl
theorem bq_3_111 : (Jvm.Cond.methodLink "FlashStoreLaw" (117 : Nat) ({ cls := "FlashStoreModel", name := "serial", desc := "()I" } : Jvm.MethodName)) ∈ bw := bw_in (List.mem_append_right _ (List.mem_append_right _ (List.mem_append_right _ (List.mem_of_getElem? (i := 111) rfl)))) rfl
theorem bq_3_112 : (Jvm.Cond.instanceMethod ({ cls := "FlashStoreModel", name := "serial", desc := "()I" } : Jvm.MethodName)) ∈ bw := bw_in (List.mem_append_right _ (List.mem_append_right _ (List.mem_append_right _ (List.mem_of_getElem? (i := 112) rfl)))) rfl
theorem bq_3_113 : (Jvm.Cond.selects "FlashStoreModel" ({ cls := "FlashStoreModel", name := "serial", desc := "()I" } : Jvm.MethodName) ({ cls := "FlashStoreModel", name := "serial", desc := "()I" } : Jvm.MethodName)) ∈ bw := bw_in (List.mem_append_right _ (List.mem_append_right _ (List.mem_append_right _ (List.mem_of_getElem? (i := 113) rfl)))) rfl
theorem bq_1_135 : (Jvm.Cond.code ({ cls := "FlashStore", name := "serial", desc := "()I" } : Jvm.MethodName) prog_1_method_15_code (1 : Nat) (Option.some Jvm.ClassFile.FieldType.int)) ∈ bw := bw_in (List.mem_append_right _ (List.mem_append_left _ (List.mem_of_getElem? (i := 135) rfl))) rfl
theorem bq_1_132 : (Jvm.Cond.methodLink "FlashStoreLaw" (114 : Nat) ({ cls := "FlashStore", name := "serial", desc := "()I" } : Jvm.MethodName)) ∈ bw := bw_in (List.mem_append_right _ (List.mem_append_left _ (List.mem_of_getElem? (i := 132) rfl))) rfl
theorem bq_1_133 : (Jvm.Cond.instanceMethod ({ cls := "FlashStore", name := "serial", desc := "()I" } : Jvm.MethodName)) ∈ bw := bw_in (List.mem_append_right _ (List.mem_append_left _ (List.mem_of_getElem? (i := 133) rfl))) rfl
theorem bq_1_134 : (Jvm.Cond.selects "FlashStore" ({ cls := "FlashStore", name := "serial", desc := "()I" } : Jvm.MethodName) ({ cls := "FlashStore", name := "serial", desc := "()I" } : Jvm.MethodName)) ∈ bw := bw_in (List.mem_append_right _ (List.mem_append_left _ (List.mem_of_getElem? (i := 134) rfl))) rfl
