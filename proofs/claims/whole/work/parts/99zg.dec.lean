theorem dd_Law_law_0 : decode code 0 = .ok (.new 8, 3) := by decide +kernel
theorem dd_Law_law_3 : decode code 3 = .ok (.dup, 1) := by decide +kernel
theorem dd_Law_law_4 : decode code 4 = .ok (.invokespecial 65, 3) := by decide +kernel
theorem dd_Law_law_7 : decode code 7 = .ok (.astore_n 1, 1) := by decide +kernel
theorem dd_Law_law_8 : decode code 8 = .ok (.new 66, 3) := by decide +kernel
theorem dd_Law_law_11 : decode code 11 = .ok (.dup, 1) := by decide +kernel
theorem dd_Law_law_12 : decode code 12 = .ok (.invokespecial 68, 3) := by decide +kernel
theorem dd_Law_law_15 : decode code 15 = .ok (.astore_n 2, 1) := by decide +kernel
theorem dd_Law_law_16 : decode code 16 = .ok (.iconst 1, 1) := by decide +kernel
theorem dd_Law_law_17 : decode code 17 = .ok (.newarray .long, 2) := by decide +kernel
theorem dd_Law_law_19 : decode code 19 = .ok (.astore_n 3, 1) := by decide +kernel
theorem dd_Law_law_20 : decode code 20 = .ok (.iconst 0, 1) := by decide +kernel
theorem dd_Law_law_21 : decode code 21 = .ok (.istore 4, 2) := by decide +kernel
theorem dd_Law_law_23 : decode code 23 = .ok (.iload 4, 2) := by decide +kernel
theorem dd_Law_law_25 : decode code 25 = .ok (.aload_n 0, 1) := by decide +kernel
theorem dd_Law_law_26 : decode code 26 = .ok (.arraylength, 1) := by decide +kernel
theorem dd_Law_law_27 : decode code 27 = .ok (.bipush 9, 2) := by decide +kernel
theorem dd_Law_law_29 : decode code 29 = .ok (.isub, 1) := by decide +kernel
theorem dd_Law_law_30 : decode code 30 = .ok (.if_icmp .gt 1068, 3) := by decide +kernel
theorem dd_Law_law_33 : decode code 33 = .ok (.aload_n 0, 1) := by decide +kernel
theorem dd_Law_law_34 : decode code 34 = .ok (.iload 4, 2) := by decide +kernel
theorem dd_Law_law_36 : decode code 36 = .ok (.iaload, 1) := by decide +kernel
theorem dd_Law_law_37 : decode code 37 = .ok (.bipush 15, 2) := by decide +kernel
theorem dd_Law_law_39 : decode code 39 = .ok (.iand, 1) := by decide +kernel
theorem dd_Law_law_40 : decode code 40 = .ok (.tableswitch 1052 0 13 #[72, 108, 196, 244, 348, 404, 445, 501, 569, 680, 764, 890, 926, 1001], 72) := by decide +kernel
theorem dd_Law_law_112 : decode code 112 = .ok (.aload_n 1, 1) := by decide +kernel
theorem dd_Law_law_113 : decode code 113 = .ok (.aload_n 0, 1) := by decide +kernel
theorem dd_Law_law_114 : decode code 114 = .ok (.iload 4, 2) := by decide +kernel
theorem dd_Law_law_116 : decode code 116 = .ok (.iconst 1, 1) := by decide +kernel
theorem dd_Law_law_117 : decode code 117 = .ok (.iadd, 1) := by decide +kernel
theorem dd_Law_law_118 : decode code 118 = .ok (.iaload, 1) := by decide +kernel
theorem dd_Law_law_119 : decode code 119 = .ok (.invokestatic 69, 3) := by decide +kernel
theorem dd_Law_law_122 : decode code 122 = .ok (.istore 5, 2) := by decide +kernel
theorem dd_Law_law_124 : decode code 124 = .ok (.aload_n 2, 1) := by decide +kernel
theorem dd_Law_law_125 : decode code 125 = .ok (.aload_n 0, 1) := by decide +kernel
theorem dd_Law_law_126 : decode code 126 = .ok (.iload 4, 2) := by decide +kernel
theorem dd_Law_law_128 : decode code 128 = .ok (.iconst 1, 1) := by decide +kernel
theorem dd_Law_law_129 : decode code 129 = .ok (.iadd, 1) := by decide +kernel
theorem dd_Law_law_130 : decode code 130 = .ok (.iaload, 1) := by decide +kernel
theorem dd_Law_law_131 : decode code 131 = .ok (.invokevirtual 74, 3) := by decide +kernel
theorem dd_Law_law_134 : decode code 134 = .ok (.aload_n 2, 1) := by decide +kernel
theorem dd_Law_law_135 : decode code 135 = .ok (.invokevirtual 75, 3) := by decide +kernel
theorem dd_Law_law_138 : decode code 138 = .ok (.iload 5, 2) := by decide +kernel
theorem dd_Law_law_140 : decode code 140 = .ok (.if_icmp .eq 5, 3) := by decide +kernel
theorem dd_Law_law_143 : decode code 143 = .ok (.iconst 0, 1) := by decide +kernel
theorem dd_Law_law_144 : decode code 144 = .ok (.ireturn, 1) := by decide +kernel
theorem dd_Law_law_145 : decode code 145 = .ok (.goto 947, 3) := by decide +kernel
theorem dd_Law_law_148 : decode code 148 = .ok (.aload_n 1, 1) := by decide +kernel
theorem dd_Law_law_149 : decode code 149 = .ok (.aload_n 0, 1) := by decide +kernel
theorem dd_Law_law_150 : decode code 150 = .ok (.iload 4, 2) := by decide +kernel
theorem dd_Law_law_152 : decode code 152 = .ok (.iconst 1, 1) := by decide +kernel
theorem dd_Law_law_153 : decode code 153 = .ok (.iadd, 1) := by decide +kernel
theorem dd_Law_law_154 : decode code 154 = .ok (.iaload, 1) := by decide +kernel
theorem dd_Law_law_155 : decode code 155 = .ok (.aload_n 0, 1) := by decide +kernel
theorem dd_Law_law_156 : decode code 156 = .ok (.iload 4, 2) := by decide +kernel
theorem dd_Law_law_158 : decode code 158 = .ok (.iconst 2, 1) := by decide +kernel
theorem dd_Law_law_159 : decode code 159 = .ok (.iadd, 1) := by decide +kernel
theorem dd_Law_law_160 : decode code 160 = .ok (.iaload, 1) := by decide +kernel
theorem dd_Law_law_161 : decode code 161 = .ok (.aload_n 0, 1) := by decide +kernel
theorem dd_Law_law_162 : decode code 162 = .ok (.iload 4, 2) := by decide +kernel
theorem dd_Law_law_164 : decode code 164 = .ok (.iconst 3, 1) := by decide +kernel
theorem dd_Law_law_165 : decode code 165 = .ok (.iadd, 1) := by decide +kernel
theorem dd_Law_law_166 : decode code 166 = .ok (.iaload, 1) := by decide +kernel
theorem dd_Law_law_167 : decode code 167 = .ok (.aload_n 0, 1) := by decide +kernel
theorem dd_Law_law_168 : decode code 168 = .ok (.iload 4, 2) := by decide +kernel
theorem dd_Law_law_170 : decode code 170 = .ok (.iconst 4, 1) := by decide +kernel
theorem dd_Law_law_171 : decode code 171 = .ok (.iadd, 1) := by decide +kernel
theorem dd_Law_law_172 : decode code 172 = .ok (.iaload, 1) := by decide +kernel
theorem dd_Law_law_173 : decode code 173 = .ok (.ifCond .eq 7, 3) := by decide +kernel
theorem dd_Law_law_176 : decode code 176 = .ok (.iconst 1, 1) := by decide +kernel
theorem dd_Law_law_177 : decode code 177 = .ok (.goto 4, 3) := by decide +kernel
theorem dd_Law_law_180 : decode code 180 = .ok (.iconst 0, 1) := by decide +kernel
theorem dd_Law_law_181 : decode code 181 = .ok (.invokestatic 79, 3) := by decide +kernel
theorem dd_Law_law_184 : decode code 184 = .ok (.istore 5, 2) := by decide +kernel
theorem dd_Law_law_186 : decode code 186 = .ok (.aload_n 2, 1) := by decide +kernel
theorem dd_Law_law_187 : decode code 187 = .ok (.aload_n 0, 1) := by decide +kernel
theorem dd_Law_law_188 : decode code 188 = .ok (.iload 4, 2) := by decide +kernel
theorem dd_Law_law_190 : decode code 190 = .ok (.iconst 1, 1) := by decide +kernel
theorem dd_Law_law_191 : decode code 191 = .ok (.iadd, 1) := by decide +kernel
theorem dd_Law_law_192 : decode code 192 = .ok (.iaload, 1) := by decide +kernel
theorem dd_Law_law_193 : decode code 193 = .ok (.aload_n 0, 1) := by decide +kernel
theorem dd_Law_law_194 : decode code 194 = .ok (.iload 4, 2) := by decide +kernel
theorem dd_Law_law_196 : decode code 196 = .ok (.iconst 2, 1) := by decide +kernel
theorem dd_Law_law_197 : decode code 197 = .ok (.iadd, 1) := by decide +kernel
theorem dd_Law_law_198 : decode code 198 = .ok (.iaload, 1) := by decide +kernel
theorem dd_Law_law_199 : decode code 199 = .ok (.aload_n 0, 1) := by decide +kernel
theorem dd_Law_law_200 : decode code 200 = .ok (.iload 4, 2) := by decide +kernel
theorem dd_Law_law_202 : decode code 202 = .ok (.iconst 3, 1) := by decide +kernel
theorem dd_Law_law_203 : decode code 203 = .ok (.iadd, 1) := by decide +kernel
theorem dd_Law_law_204 : decode code 204 = .ok (.iaload, 1) := by decide +kernel
theorem dd_Law_law_205 : decode code 205 = .ok (.aload_n 0, 1) := by decide +kernel
theorem dd_Law_law_206 : decode code 206 = .ok (.iload 4, 2) := by decide +kernel
theorem dd_Law_law_208 : decode code 208 = .ok (.iconst 4, 1) := by decide +kernel
theorem dd_Law_law_209 : decode code 209 = .ok (.iadd, 1) := by decide +kernel
theorem dd_Law_law_210 : decode code 210 = .ok (.iaload, 1) := by decide +kernel
theorem dd_Law_law_211 : decode code 211 = .ok (.ifCond .eq 7, 3) := by decide +kernel
theorem dd_Law_law_214 : decode code 214 = .ok (.iconst 1, 1) := by decide +kernel
theorem dd_Law_law_215 : decode code 215 = .ok (.goto 4, 3) := by decide +kernel
theorem dd_Law_law_218 : decode code 218 = .ok (.iconst 0, 1) := by decide +kernel
theorem dd_Law_law_219 : decode code 219 = .ok (.invokevirtual 82, 3) := by decide +kernel
theorem dd_Law_law_222 : decode code 222 = .ok (.aload_n 2, 1) := by decide +kernel
theorem dd_Law_law_223 : decode code 223 = .ok (.invokevirtual 75, 3) := by decide +kernel
theorem dd_Law_law_226 : decode code 226 = .ok (.iload 5, 2) := by decide +kernel
theorem dd_Law_law_228 : decode code 228 = .ok (.if_icmp .eq 5, 3) := by decide +kernel
theorem dd_Law_law_231 : decode code 231 = .ok (.iconst 0, 1) := by decide +kernel
theorem dd_Law_law_232 : decode code 232 = .ok (.ireturn, 1) := by decide +kernel
theorem dd_Law_law_233 : decode code 233 = .ok (.goto 859, 3) := by decide +kernel
theorem dd_Law_law_236 : decode code 236 = .ok (.aload_n 1, 1) := by decide +kernel
theorem dd_Law_law_237 : decode code 237 = .ok (.aload_n 0, 1) := by decide +kernel
theorem dd_Law_law_238 : decode code 238 = .ok (.iload 4, 2) := by decide +kernel
theorem dd_Law_law_240 : decode code 240 = .ok (.iconst 1, 1) := by decide +kernel
theorem dd_Law_law_241 : decode code 241 = .ok (.iadd, 1) := by decide +kernel
theorem dd_Law_law_242 : decode code 242 = .ok (.iaload, 1) := by decide +kernel
theorem dd_Law_law_243 : decode code 243 = .ok (.aload_n 0, 1) := by decide +kernel
theorem dd_Law_law_244 : decode code 244 = .ok (.iload 4, 2) := by decide +kernel
theorem dd_Law_law_246 : decode code 246 = .ok (.iconst 2, 1) := by decide +kernel
theorem dd_Law_law_247 : decode code 247 = .ok (.iadd, 1) := by decide +kernel
theorem dd_Law_law_248 : decode code 248 = .ok (.iaload, 1) := by decide +kernel
theorem dd_Law_law_249 : decode code 249 = .ok (.invokestatic 83, 3) := by decide +kernel
theorem dd_Law_law_252 : decode code 252 = .ok (.istore 5, 2) := by decide +kernel
theorem dd_Law_law_254 : decode code 254 = .ok (.aload_n 2, 1) := by decide +kernel
theorem dd_Law_law_255 : decode code 255 = .ok (.aload_n 0, 1) := by decide +kernel
theorem dd_Law_law_256 : decode code 256 = .ok (.iload 4, 2) := by decide +kernel
theorem dd_Law_law_258 : decode code 258 = .ok (.iconst 1, 1) := by decide +kernel
theorem dd_Law_law_259 : decode code 259 = .ok (.iadd, 1) := by decide +kernel
theorem dd_Law_law_260 : decode code 260 = .ok (.iaload, 1) := by decide +kernel
theorem dd_Law_law_261 : decode code 261 = .ok (.aload_n 0, 1) := by decide +kernel
theorem dd_Law_law_262 : decode code 262 = .ok (.iload 4, 2) := by decide +kernel
theorem dd_Law_law_264 : decode code 264 = .ok (.iconst 2, 1) := by decide +kernel
theorem dd_Law_law_265 : decode code 265 = .ok (.iadd, 1) := by decide +kernel
theorem dd_Law_law_266 : decode code 266 = .ok (.iaload, 1) := by decide +kernel
theorem dd_Law_law_267 : decode code 267 = .ok (.invokevirtual 86, 3) := by decide +kernel
theorem dd_Law_law_270 : decode code 270 = .ok (.aload_n 2, 1) := by decide +kernel
theorem dd_Law_law_271 : decode code 271 = .ok (.invokevirtual 75, 3) := by decide +kernel
theorem dd_Law_law_274 : decode code 274 = .ok (.iload 5, 2) := by decide +kernel
theorem dd_Law_law_276 : decode code 276 = .ok (.if_icmp .eq 5, 3) := by decide +kernel
theorem dd_Law_law_279 : decode code 279 = .ok (.iconst 0, 1) := by decide +kernel
theorem dd_Law_law_280 : decode code 280 = .ok (.ireturn, 1) := by decide +kernel
theorem dd_Law_law_281 : decode code 281 = .ok (.goto 811, 3) := by decide +kernel
theorem dd_Law_law_284 : decode code 284 = .ok (.aload_n 1, 1) := by decide +kernel
theorem dd_Law_law_285 : decode code 285 = .ok (.aload_n 0, 1) := by decide +kernel
theorem dd_Law_law_286 : decode code 286 = .ok (.iload 4, 2) := by decide +kernel
theorem dd_Law_law_288 : decode code 288 = .ok (.iconst 1, 1) := by decide +kernel
theorem dd_Law_law_289 : decode code 289 = .ok (.iadd, 1) := by decide +kernel
theorem dd_Law_law_290 : decode code 290 = .ok (.iaload, 1) := by decide +kernel
theorem dd_Law_law_291 : decode code 291 = .ok (.aload_n 0, 1) := by decide +kernel
theorem dd_Law_law_292 : decode code 292 = .ok (.iload 4, 2) := by decide +kernel
theorem dd_Law_law_294 : decode code 294 = .ok (.iconst 2, 1) := by decide +kernel
theorem dd_Law_law_295 : decode code 295 = .ok (.iadd, 1) := by decide +kernel
theorem dd_Law_law_296 : decode code 296 = .ok (.iaload, 1) := by decide +kernel
theorem dd_Law_law_297 : decode code 297 = .ok (.aload_n 0, 1) := by decide +kernel
theorem dd_Law_law_298 : decode code 298 = .ok (.iload 4, 2) := by decide +kernel
theorem dd_Law_law_300 : decode code 300 = .ok (.iconst 3, 1) := by decide +kernel
theorem dd_Law_law_301 : decode code 301 = .ok (.iadd, 1) := by decide +kernel
theorem dd_Law_law_302 : decode code 302 = .ok (.iaload, 1) := by decide +kernel
theorem dd_Law_law_303 : decode code 303 = .ok (.aload_n 0, 1) := by decide +kernel
theorem dd_Law_law_304 : decode code 304 = .ok (.iload 4, 2) := by decide +kernel
theorem dd_Law_law_306 : decode code 306 = .ok (.iconst 4, 1) := by decide +kernel
theorem dd_Law_law_307 : decode code 307 = .ok (.iadd, 1) := by decide +kernel
theorem dd_Law_law_308 : decode code 308 = .ok (.iaload, 1) := by decide +kernel
theorem dd_Law_law_309 : decode code 309 = .ok (.aload_n 0, 1) := by decide +kernel
theorem dd_Law_law_310 : decode code 310 = .ok (.iload 4, 2) := by decide +kernel
theorem dd_Law_law_312 : decode code 312 = .ok (.iconst 5, 1) := by decide +kernel
theorem dd_Law_law_313 : decode code 313 = .ok (.iadd, 1) := by decide +kernel
theorem dd_Law_law_314 : decode code 314 = .ok (.iaload, 1) := by decide +kernel
theorem dd_Law_law_315 : decode code 315 = .ok (.aload_n 3, 1) := by decide +kernel
theorem dd_Law_law_316 : decode code 316 = .ok (.invokestatic 87, 3) := by decide +kernel
theorem dd_Law_law_319 : decode code 319 = .ok (.istore 5, 2) := by decide +kernel
theorem dd_Law_law_321 : decode code 321 = .ok (.aload_n 2, 1) := by decide +kernel
theorem dd_Law_law_322 : decode code 322 = .ok (.aload_n 0, 1) := by decide +kernel
theorem dd_Law_law_323 : decode code 323 = .ok (.iload 4, 2) := by decide +kernel
theorem dd_Law_law_325 : decode code 325 = .ok (.iconst 1, 1) := by decide +kernel
theorem dd_Law_law_326 : decode code 326 = .ok (.iadd, 1) := by decide +kernel
theorem dd_Law_law_327 : decode code 327 = .ok (.iaload, 1) := by decide +kernel
theorem dd_Law_law_328 : decode code 328 = .ok (.aload_n 0, 1) := by decide +kernel
theorem dd_Law_law_329 : decode code 329 = .ok (.iload 4, 2) := by decide +kernel
theorem dd_Law_law_331 : decode code 331 = .ok (.iconst 2, 1) := by decide +kernel
theorem dd_Law_law_332 : decode code 332 = .ok (.iadd, 1) := by decide +kernel
theorem dd_Law_law_333 : decode code 333 = .ok (.iaload, 1) := by decide +kernel
theorem dd_Law_law_334 : decode code 334 = .ok (.aload_n 0, 1) := by decide +kernel
theorem dd_Law_law_335 : decode code 335 = .ok (.iload 4, 2) := by decide +kernel
theorem dd_Law_law_337 : decode code 337 = .ok (.iconst 3, 1) := by decide +kernel
theorem dd_Law_law_338 : decode code 338 = .ok (.iadd, 1) := by decide +kernel
theorem dd_Law_law_339 : decode code 339 = .ok (.iaload, 1) := by decide +kernel
theorem dd_Law_law_340 : decode code 340 = .ok (.aload_n 0, 1) := by decide +kernel
theorem dd_Law_law_341 : decode code 341 = .ok (.iload 4, 2) := by decide +kernel
theorem dd_Law_law_343 : decode code 343 = .ok (.iconst 4, 1) := by decide +kernel
theorem dd_Law_law_344 : decode code 344 = .ok (.iadd, 1) := by decide +kernel
theorem dd_Law_law_345 : decode code 345 = .ok (.iaload, 1) := by decide +kernel
theorem dd_Law_law_346 : decode code 346 = .ok (.aload_n 0, 1) := by decide +kernel
theorem dd_Law_law_347 : decode code 347 = .ok (.iload 4, 2) := by decide +kernel
theorem dd_Law_law_349 : decode code 349 = .ok (.iconst 5, 1) := by decide +kernel
theorem dd_Law_law_350 : decode code 350 = .ok (.iadd, 1) := by decide +kernel
theorem dd_Law_law_351 : decode code 351 = .ok (.iaload, 1) := by decide +kernel
theorem dd_Law_law_352 : decode code 352 = .ok (.invokevirtual 90, 3) := by decide +kernel
theorem dd_Law_law_355 : decode code 355 = .ok (.istore 6, 2) := by decide +kernel
theorem dd_Law_law_357 : decode code 357 = .ok (.aload_n 2, 1) := by decide +kernel
theorem dd_Law_law_358 : decode code 358 = .ok (.invokevirtual 75, 3) := by decide +kernel
theorem dd_Law_law_361 : decode code 361 = .ok (.iload 5, 2) := by decide +kernel
theorem dd_Law_law_363 : decode code 363 = .ok (.if_icmp .eq 5, 3) := by decide +kernel
theorem dd_Law_law_366 : decode code 366 = .ok (.iconst 0, 1) := by decide +kernel
theorem dd_Law_law_367 : decode code 367 = .ok (.ireturn, 1) := by decide +kernel
theorem dd_Law_law_368 : decode code 368 = .ok (.iload 5, 2) := by decide +kernel
theorem dd_Law_law_370 : decode code 370 = .ok (.ifCond .ne 15, 3) := by decide +kernel
theorem dd_Law_law_373 : decode code 373 = .ok (.aload_n 3, 1) := by decide +kernel
theorem dd_Law_law_374 : decode code 374 = .ok (.iconst 0, 1) := by decide +kernel
theorem dd_Law_law_375 : decode code 375 = .ok (.laload, 1) := by decide +kernel
theorem dd_Law_law_376 : decode code 376 = .ok (.iload 6, 2) := by decide +kernel
theorem dd_Law_law_378 : decode code 378 = .ok (.i2l, 1) := by decide +kernel
theorem dd_Law_law_379 : decode code 379 = .ok (.lcmp, 1) := by decide +kernel
theorem dd_Law_law_380 : decode code 380 = .ok (.ifCond .eq 5, 3) := by decide +kernel
theorem dd_Law_law_383 : decode code 383 = .ok (.iconst 0, 1) := by decide +kernel
theorem dd_Law_law_384 : decode code 384 = .ok (.ireturn, 1) := by decide +kernel
theorem dd_Law_law_385 : decode code 385 = .ok (.goto 707, 3) := by decide +kernel
theorem dd_Law_law_388 : decode code 388 = .ok (.aload_n 1, 1) := by decide +kernel
theorem dd_Law_law_389 : decode code 389 = .ok (.aload_n 0, 1) := by decide +kernel
theorem dd_Law_law_390 : decode code 390 = .ok (.iload 4, 2) := by decide +kernel
theorem dd_Law_law_392 : decode code 392 = .ok (.iconst 1, 1) := by decide +kernel
theorem dd_Law_law_393 : decode code 393 = .ok (.iadd, 1) := by decide +kernel
theorem dd_Law_law_394 : decode code 394 = .ok (.iaload, 1) := by decide +kernel
theorem dd_Law_law_395 : decode code 395 = .ok (.aload_n 3, 1) := by decide +kernel
theorem dd_Law_law_396 : decode code 396 = .ok (.invokestatic 91, 3) := by decide +kernel
theorem dd_Law_law_399 : decode code 399 = .ok (.istore 5, 2) := by decide +kernel
theorem dd_Law_law_401 : decode code 401 = .ok (.aload_n 2, 1) := by decide +kernel
theorem dd_Law_law_402 : decode code 402 = .ok (.aload_n 0, 1) := by decide +kernel
theorem dd_Law_law_403 : decode code 403 = .ok (.iload 4, 2) := by decide +kernel
theorem dd_Law_law_405 : decode code 405 = .ok (.iconst 1, 1) := by decide +kernel
theorem dd_Law_law_406 : decode code 406 = .ok (.iadd, 1) := by decide +kernel
theorem dd_Law_law_407 : decode code 407 = .ok (.iaload, 1) := by decide +kernel
theorem dd_Law_law_408 : decode code 408 = .ok (.invokevirtual 94, 3) := by decide +kernel
theorem dd_Law_law_411 : decode code 411 = .ok (.istore 6, 2) := by decide +kernel
theorem dd_Law_law_413 : decode code 413 = .ok (.aload_n 2, 1) := by decide +kernel
theorem dd_Law_law_414 : decode code 414 = .ok (.invokevirtual 75, 3) := by decide +kernel
theorem dd_Law_law_417 : decode code 417 = .ok (.iload 5, 2) := by decide +kernel
theorem dd_Law_law_419 : decode code 419 = .ok (.if_icmp .eq 5, 3) := by decide +kernel
theorem dd_Law_law_422 : decode code 422 = .ok (.iconst 0, 1) := by decide +kernel
theorem dd_Law_law_423 : decode code 423 = .ok (.ireturn, 1) := by decide +kernel
theorem dd_Law_law_424 : decode code 424 = .ok (.iload 5, 2) := by decide +kernel
theorem dd_Law_law_426 : decode code 426 = .ok (.ifCond .ne 15, 3) := by decide +kernel
theorem dd_Law_law_429 : decode code 429 = .ok (.aload_n 3, 1) := by decide +kernel
theorem dd_Law_law_430 : decode code 430 = .ok (.iconst 0, 1) := by decide +kernel
theorem dd_Law_law_431 : decode code 431 = .ok (.laload, 1) := by decide +kernel
theorem dd_Law_law_432 : decode code 432 = .ok (.iload 6, 2) := by decide +kernel
theorem dd_Law_law_434 : decode code 434 = .ok (.i2l, 1) := by decide +kernel
theorem dd_Law_law_435 : decode code 435 = .ok (.lcmp, 1) := by decide +kernel
theorem dd_Law_law_436 : decode code 436 = .ok (.ifCond .eq 5, 3) := by decide +kernel
theorem dd_Law_law_439 : decode code 439 = .ok (.iconst 0, 1) := by decide +kernel
theorem dd_Law_law_440 : decode code 440 = .ok (.ireturn, 1) := by decide +kernel
theorem dd_Law_law_441 : decode code 441 = .ok (.goto 651, 3) := by decide +kernel
theorem dd_Law_law_444 : decode code 444 = .ok (.aload_n 1, 1) := by decide +kernel
theorem dd_Law_law_445 : decode code 445 = .ok (.aload_n 0, 1) := by decide +kernel
theorem dd_Law_law_446 : decode code 446 = .ok (.iload 4, 2) := by decide +kernel
theorem dd_Law_law_448 : decode code 448 = .ok (.iconst 1, 1) := by decide +kernel
theorem dd_Law_law_449 : decode code 449 = .ok (.iadd, 1) := by decide +kernel
theorem dd_Law_law_450 : decode code 450 = .ok (.iaload, 1) := by decide +kernel
theorem dd_Law_law_451 : decode code 451 = .ok (.ifCond .eq 7, 3) := by decide +kernel
theorem dd_Law_law_454 : decode code 454 = .ok (.iconst 1, 1) := by decide +kernel
theorem dd_Law_law_455 : decode code 455 = .ok (.goto 4, 3) := by decide +kernel
theorem dd_Law_law_458 : decode code 458 = .ok (.iconst 0, 1) := by decide +kernel
theorem dd_Law_law_459 : decode code 459 = .ok (.invokevirtual 95, 3) := by decide +kernel
theorem dd_Law_law_462 : decode code 462 = .ok (.aload_n 2, 1) := by decide +kernel
theorem dd_Law_law_463 : decode code 463 = .ok (.aload_n 0, 1) := by decide +kernel
theorem dd_Law_law_464 : decode code 464 = .ok (.iload 4, 2) := by decide +kernel
theorem dd_Law_law_466 : decode code 466 = .ok (.iconst 1, 1) := by decide +kernel
theorem dd_Law_law_467 : decode code 467 = .ok (.iadd, 1) := by decide +kernel
theorem dd_Law_law_468 : decode code 468 = .ok (.iaload, 1) := by decide +kernel
theorem dd_Law_law_469 : decode code 469 = .ok (.ifCond .eq 7, 3) := by decide +kernel
theorem dd_Law_law_472 : decode code 472 = .ok (.iconst 1, 1) := by decide +kernel
theorem dd_Law_law_473 : decode code 473 = .ok (.goto 4, 3) := by decide +kernel
theorem dd_Law_law_476 : decode code 476 = .ok (.iconst 0, 1) := by decide +kernel
theorem dd_Law_law_477 : decode code 477 = .ok (.invokevirtual 99, 3) := by decide +kernel
theorem dd_Law_law_480 : decode code 480 = .ok (.if_icmp .eq 612, 3) := by decide +kernel
theorem dd_Law_law_483 : decode code 483 = .ok (.iconst 0, 1) := by decide +kernel
theorem dd_Law_law_484 : decode code 484 = .ok (.ireturn, 1) := by decide +kernel
theorem dd_Law_law_485 : decode code 485 = .ok (.aload_n 1, 1) := by decide +kernel
theorem dd_Law_law_486 : decode code 486 = .ok (.aload_n 0, 1) := by decide +kernel
theorem dd_Law_law_487 : decode code 487 = .ok (.iload 4, 2) := by decide +kernel
theorem dd_Law_law_489 : decode code 489 = .ok (.iconst 1, 1) := by decide +kernel
theorem dd_Law_law_490 : decode code 490 = .ok (.iadd, 1) := by decide +kernel
theorem dd_Law_law_491 : decode code 491 = .ok (.iaload, 1) := by decide +kernel
theorem dd_Law_law_492 : decode code 492 = .ok (.aload_n 3, 1) := by decide +kernel
theorem dd_Law_law_493 : decode code 493 = .ok (.invokestatic 100, 3) := by decide +kernel
theorem dd_Law_law_496 : decode code 496 = .ok (.istore 5, 2) := by decide +kernel
theorem dd_Law_law_498 : decode code 498 = .ok (.aload_n 2, 1) := by decide +kernel
theorem dd_Law_law_499 : decode code 499 = .ok (.aload_n 0, 1) := by decide +kernel
theorem dd_Law_law_500 : decode code 500 = .ok (.iload 4, 2) := by decide +kernel
theorem dd_Law_law_502 : decode code 502 = .ok (.iconst 1, 1) := by decide +kernel
theorem dd_Law_law_503 : decode code 503 = .ok (.iadd, 1) := by decide +kernel
theorem dd_Law_law_504 : decode code 504 = .ok (.iaload, 1) := by decide +kernel
theorem dd_Law_law_505 : decode code 505 = .ok (.invokevirtual 102, 3) := by decide +kernel
theorem dd_Law_law_508 : decode code 508 = .ok (.istore 6, 2) := by decide +kernel
theorem dd_Law_law_510 : decode code 510 = .ok (.aload_n 2, 1) := by decide +kernel
theorem dd_Law_law_511 : decode code 511 = .ok (.invokevirtual 75, 3) := by decide +kernel
theorem dd_Law_law_514 : decode code 514 = .ok (.iload 5, 2) := by decide +kernel
theorem dd_Law_law_516 : decode code 516 = .ok (.if_icmp .eq 5, 3) := by decide +kernel
theorem dd_Law_law_519 : decode code 519 = .ok (.iconst 0, 1) := by decide +kernel
theorem dd_Law_law_520 : decode code 520 = .ok (.ireturn, 1) := by decide +kernel
theorem dd_Law_law_521 : decode code 521 = .ok (.iload 5, 2) := by decide +kernel
theorem dd_Law_law_523 : decode code 523 = .ok (.ifCond .ne 15, 3) := by decide +kernel
theorem dd_Law_law_526 : decode code 526 = .ok (.aload_n 3, 1) := by decide +kernel
theorem dd_Law_law_527 : decode code 527 = .ok (.iconst 0, 1) := by decide +kernel
theorem dd_Law_law_528 : decode code 528 = .ok (.laload, 1) := by decide +kernel
theorem dd_Law_law_529 : decode code 529 = .ok (.iload 6, 2) := by decide +kernel
theorem dd_Law_law_531 : decode code 531 = .ok (.i2l, 1) := by decide +kernel
theorem dd_Law_law_532 : decode code 532 = .ok (.lcmp, 1) := by decide +kernel
theorem dd_Law_law_533 : decode code 533 = .ok (.ifCond .eq 5, 3) := by decide +kernel
theorem dd_Law_law_536 : decode code 536 = .ok (.iconst 0, 1) := by decide +kernel
theorem dd_Law_law_537 : decode code 537 = .ok (.ireturn, 1) := by decide +kernel
theorem dd_Law_law_538 : decode code 538 = .ok (.goto 554, 3) := by decide +kernel
theorem dd_Law_law_541 : decode code 541 = .ok (.aload_n 1, 1) := by decide +kernel
theorem dd_Law_law_542 : decode code 542 = .ok (.aload_n 0, 1) := by decide +kernel
theorem dd_Law_law_543 : decode code 543 = .ok (.iload 4, 2) := by decide +kernel
theorem dd_Law_law_545 : decode code 545 = .ok (.iconst 1, 1) := by decide +kernel
theorem dd_Law_law_546 : decode code 546 = .ok (.iadd, 1) := by decide +kernel
theorem dd_Law_law_547 : decode code 547 = .ok (.iaload, 1) := by decide +kernel
theorem dd_Law_law_548 : decode code 548 = .ok (.aload_n 0, 1) := by decide +kernel
theorem dd_Law_law_549 : decode code 549 = .ok (.iload 4, 2) := by decide +kernel
theorem dd_Law_law_551 : decode code 551 = .ok (.iconst 2, 1) := by decide +kernel
theorem dd_Law_law_552 : decode code 552 = .ok (.iadd, 1) := by decide +kernel
theorem dd_Law_law_553 : decode code 553 = .ok (.iaload, 1) := by decide +kernel
theorem dd_Law_law_554 : decode code 554 = .ok (.aload_n 3, 1) := by decide +kernel
theorem dd_Law_law_555 : decode code 555 = .ok (.invokestatic 103, 3) := by decide +kernel
theorem dd_Law_law_558 : decode code 558 = .ok (.istore 5, 2) := by decide +kernel
theorem dd_Law_law_560 : decode code 560 = .ok (.aload_n 2, 1) := by decide +kernel
theorem dd_Law_law_561 : decode code 561 = .ok (.aload_n 0, 1) := by decide +kernel
theorem dd_Law_law_562 : decode code 562 = .ok (.iload 4, 2) := by decide +kernel
theorem dd_Law_law_564 : decode code 564 = .ok (.iconst 1, 1) := by decide +kernel
theorem dd_Law_law_565 : decode code 565 = .ok (.iadd, 1) := by decide +kernel
theorem dd_Law_law_566 : decode code 566 = .ok (.iaload, 1) := by decide +kernel
theorem dd_Law_law_567 : decode code 567 = .ok (.aload_n 0, 1) := by decide +kernel
theorem dd_Law_law_568 : decode code 568 = .ok (.iload 4, 2) := by decide +kernel
theorem dd_Law_law_570 : decode code 570 = .ok (.iconst 2, 1) := by decide +kernel
theorem dd_Law_law_571 : decode code 571 = .ok (.iadd, 1) := by decide +kernel
theorem dd_Law_law_572 : decode code 572 = .ok (.iaload, 1) := by decide +kernel
theorem dd_Law_law_573 : decode code 573 = .ok (.invokevirtual 106, 3) := by decide +kernel
theorem dd_Law_law_576 : decode code 576 = .ok (.istore 6, 2) := by decide +kernel
theorem dd_Law_law_578 : decode code 578 = .ok (.aload_n 2, 1) := by decide +kernel
theorem dd_Law_law_579 : decode code 579 = .ok (.invokevirtual 75, 3) := by decide +kernel
theorem dd_Law_law_582 : decode code 582 = .ok (.iload 5, 2) := by decide +kernel
theorem dd_Law_law_584 : decode code 584 = .ok (.if_icmp .eq 5, 3) := by decide +kernel
theorem dd_Law_law_587 : decode code 587 = .ok (.iconst 0, 1) := by decide +kernel
theorem dd_Law_law_588 : decode code 588 = .ok (.ireturn, 1) := by decide +kernel
theorem dd_Law_law_589 : decode code 589 = .ok (.iload 5, 2) := by decide +kernel
theorem dd_Law_law_591 : decode code 591 = .ok (.ifCond .ne 15, 3) := by decide +kernel
theorem dd_Law_law_594 : decode code 594 = .ok (.aload_n 3, 1) := by decide +kernel
theorem dd_Law_law_595 : decode code 595 = .ok (.iconst 0, 1) := by decide +kernel
theorem dd_Law_law_596 : decode code 596 = .ok (.laload, 1) := by decide +kernel
theorem dd_Law_law_597 : decode code 597 = .ok (.iload 6, 2) := by decide +kernel
theorem dd_Law_law_599 : decode code 599 = .ok (.i2l, 1) := by decide +kernel
theorem dd_Law_law_600 : decode code 600 = .ok (.lcmp, 1) := by decide +kernel
theorem dd_Law_law_601 : decode code 601 = .ok (.ifCond .eq 5, 3) := by decide +kernel
theorem dd_Law_law_604 : decode code 604 = .ok (.iconst 0, 1) := by decide +kernel
theorem dd_Law_law_605 : decode code 605 = .ok (.ireturn, 1) := by decide +kernel
theorem dd_Law_law_606 : decode code 606 = .ok (.goto 486, 3) := by decide +kernel
theorem dd_Law_law_609 : decode code 609 = .ok (.aload_n 1, 1) := by decide +kernel
theorem dd_Law_law_610 : decode code 610 = .ok (.aload_n 0, 1) := by decide +kernel
theorem dd_Law_law_611 : decode code 611 = .ok (.iload 4, 2) := by decide +kernel
theorem dd_Law_law_613 : decode code 613 = .ok (.iconst 1, 1) := by decide +kernel
theorem dd_Law_law_614 : decode code 614 = .ok (.iadd, 1) := by decide +kernel
theorem dd_Law_law_615 : decode code 615 = .ok (.iaload, 1) := by decide +kernel
theorem dd_Law_law_616 : decode code 616 = .ok (.aload_n 0, 1) := by decide +kernel
theorem dd_Law_law_617 : decode code 617 = .ok (.iload 4, 2) := by decide +kernel
theorem dd_Law_law_619 : decode code 619 = .ok (.iconst 2, 1) := by decide +kernel
theorem dd_Law_law_620 : decode code 620 = .ok (.iadd, 1) := by decide +kernel
theorem dd_Law_law_621 : decode code 621 = .ok (.iaload, 1) := by decide +kernel
theorem dd_Law_law_622 : decode code 622 = .ok (.aload_n 0, 1) := by decide +kernel
theorem dd_Law_law_623 : decode code 623 = .ok (.iload 4, 2) := by decide +kernel
theorem dd_Law_law_625 : decode code 625 = .ok (.iconst 3, 1) := by decide +kernel
theorem dd_Law_law_626 : decode code 626 = .ok (.iadd, 1) := by decide +kernel
theorem dd_Law_law_627 : decode code 627 = .ok (.iaload, 1) := by decide +kernel
theorem dd_Law_law_628 : decode code 628 = .ok (.aload_n 0, 1) := by decide +kernel
theorem dd_Law_law_629 : decode code 629 = .ok (.iload 4, 2) := by decide +kernel
theorem dd_Law_law_631 : decode code 631 = .ok (.iconst 4, 1) := by decide +kernel
theorem dd_Law_law_632 : decode code 632 = .ok (.iadd, 1) := by decide +kernel
theorem dd_Law_law_633 : decode code 633 = .ok (.iaload, 1) := by decide +kernel
theorem dd_Law_law_634 : decode code 634 = .ok (.aload_n 0, 1) := by decide +kernel
theorem dd_Law_law_635 : decode code 635 = .ok (.iload 4, 2) := by decide +kernel
theorem dd_Law_law_637 : decode code 637 = .ok (.iconst 5, 1) := by decide +kernel
theorem dd_Law_law_638 : decode code 638 = .ok (.iadd, 1) := by decide +kernel
theorem dd_Law_law_639 : decode code 639 = .ok (.iaload, 1) := by decide +kernel
theorem dd_Law_law_640 : decode code 640 = .ok (.aload_n 3, 1) := by decide +kernel
theorem dd_Law_law_641 : decode code 641 = .ok (.invokestatic 107, 3) := by decide +kernel
theorem dd_Law_law_644 : decode code 644 = .ok (.istore 5, 2) := by decide +kernel
theorem dd_Law_law_646 : decode code 646 = .ok (.aload_n 2, 1) := by decide +kernel
theorem dd_Law_law_647 : decode code 647 = .ok (.aload_n 0, 1) := by decide +kernel
theorem dd_Law_law_648 : decode code 648 = .ok (.iload 4, 2) := by decide +kernel
theorem dd_Law_law_650 : decode code 650 = .ok (.iconst 1, 1) := by decide +kernel
theorem dd_Law_law_651 : decode code 651 = .ok (.iadd, 1) := by decide +kernel
theorem dd_Law_law_652 : decode code 652 = .ok (.iaload, 1) := by decide +kernel
theorem dd_Law_law_653 : decode code 653 = .ok (.aload_n 0, 1) := by decide +kernel
theorem dd_Law_law_654 : decode code 654 = .ok (.iload 4, 2) := by decide +kernel
theorem dd_Law_law_656 : decode code 656 = .ok (.iconst 2, 1) := by decide +kernel
theorem dd_Law_law_657 : decode code 657 = .ok (.iadd, 1) := by decide +kernel
theorem dd_Law_law_658 : decode code 658 = .ok (.iaload, 1) := by decide +kernel
theorem dd_Law_law_659 : decode code 659 = .ok (.aload_n 0, 1) := by decide +kernel
theorem dd_Law_law_660 : decode code 660 = .ok (.iload 4, 2) := by decide +kernel
theorem dd_Law_law_662 : decode code 662 = .ok (.iconst 3, 1) := by decide +kernel
theorem dd_Law_law_663 : decode code 663 = .ok (.iadd, 1) := by decide +kernel
theorem dd_Law_law_664 : decode code 664 = .ok (.iaload, 1) := by decide +kernel
theorem dd_Law_law_665 : decode code 665 = .ok (.aload_n 0, 1) := by decide +kernel
theorem dd_Law_law_666 : decode code 666 = .ok (.iload 4, 2) := by decide +kernel
theorem dd_Law_law_668 : decode code 668 = .ok (.iconst 4, 1) := by decide +kernel
theorem dd_Law_law_669 : decode code 669 = .ok (.iadd, 1) := by decide +kernel
theorem dd_Law_law_670 : decode code 670 = .ok (.iaload, 1) := by decide +kernel
theorem dd_Law_law_671 : decode code 671 = .ok (.aload_n 0, 1) := by decide +kernel
theorem dd_Law_law_672 : decode code 672 = .ok (.iload 4, 2) := by decide +kernel
theorem dd_Law_law_674 : decode code 674 = .ok (.iconst 5, 1) := by decide +kernel
theorem dd_Law_law_675 : decode code 675 = .ok (.iadd, 1) := by decide +kernel
theorem dd_Law_law_676 : decode code 676 = .ok (.iaload, 1) := by decide +kernel
theorem dd_Law_law_677 : decode code 677 = .ok (.invokevirtual 109, 3) := by decide +kernel
theorem dd_Law_law_680 : decode code 680 = .ok (.istore 6, 2) := by decide +kernel
theorem dd_Law_law_682 : decode code 682 = .ok (.aload_n 2, 1) := by decide +kernel
theorem dd_Law_law_683 : decode code 683 = .ok (.invokevirtual 75, 3) := by decide +kernel
theorem dd_Law_law_686 : decode code 686 = .ok (.iload 5, 2) := by decide +kernel
theorem dd_Law_law_688 : decode code 688 = .ok (.if_icmp .eq 5, 3) := by decide +kernel
theorem dd_Law_law_691 : decode code 691 = .ok (.iconst 0, 1) := by decide +kernel
theorem dd_Law_law_692 : decode code 692 = .ok (.ireturn, 1) := by decide +kernel
theorem dd_Law_law_693 : decode code 693 = .ok (.iload 5, 2) := by decide +kernel
theorem dd_Law_law_695 : decode code 695 = .ok (.ifCond .ne 22, 3) := by decide +kernel
theorem dd_Law_law_698 : decode code 698 = .ok (.aload_n 3, 1) := by decide +kernel
theorem dd_Law_law_699 : decode code 699 = .ok (.iconst 0, 1) := by decide +kernel
theorem dd_Law_law_700 : decode code 700 = .ok (.laload, 1) := by decide +kernel
theorem dd_Law_law_701 : decode code 701 = .ok (.iload 6, 2) := by decide +kernel
theorem dd_Law_law_703 : decode code 703 = .ok (.ifCond .eq 7, 3) := by decide +kernel
theorem dd_Law_law_706 : decode code 706 = .ok (.lconst 1, 1) := by decide +kernel
theorem dd_Law_law_707 : decode code 707 = .ok (.goto 4, 3) := by decide +kernel
theorem dd_Law_law_710 : decode code 710 = .ok (.lconst 0, 1) := by decide +kernel
theorem dd_Law_law_711 : decode code 711 = .ok (.lcmp, 1) := by decide +kernel
theorem dd_Law_law_712 : decode code 712 = .ok (.ifCond .eq 5, 3) := by decide +kernel
theorem dd_Law_law_715 : decode code 715 = .ok (.iconst 0, 1) := by decide +kernel
theorem dd_Law_law_716 : decode code 716 = .ok (.ireturn, 1) := by decide +kernel
theorem dd_Law_law_717 : decode code 717 = .ok (.goto 375, 3) := by decide +kernel
theorem dd_Law_law_720 : decode code 720 = .ok (.aload_n 1, 1) := by decide +kernel
theorem dd_Law_law_721 : decode code 721 = .ok (.aload_n 0, 1) := by decide +kernel
theorem dd_Law_law_722 : decode code 722 = .ok (.iload 4, 2) := by decide +kernel
theorem dd_Law_law_724 : decode code 724 = .ok (.iconst 1, 1) := by decide +kernel
theorem dd_Law_law_725 : decode code 725 = .ok (.iadd, 1) := by decide +kernel
theorem dd_Law_law_726 : decode code 726 = .ok (.iaload, 1) := by decide +kernel
theorem dd_Law_law_727 : decode code 727 = .ok (.aload_n 0, 1) := by decide +kernel
theorem dd_Law_law_728 : decode code 728 = .ok (.iload 4, 2) := by decide +kernel
theorem dd_Law_law_730 : decode code 730 = .ok (.iconst 2, 1) := by decide +kernel
theorem dd_Law_law_731 : decode code 731 = .ok (.iadd, 1) := by decide +kernel
theorem dd_Law_law_732 : decode code 732 = .ok (.iaload, 1) := by decide +kernel
theorem dd_Law_law_733 : decode code 733 = .ok (.aload_n 0, 1) := by decide +kernel
theorem dd_Law_law_734 : decode code 734 = .ok (.iload 4, 2) := by decide +kernel
theorem dd_Law_law_736 : decode code 736 = .ok (.iconst 3, 1) := by decide +kernel
theorem dd_Law_law_737 : decode code 737 = .ok (.iadd, 1) := by decide +kernel
theorem dd_Law_law_738 : decode code 738 = .ok (.iaload, 1) := by decide +kernel
theorem dd_Law_law_739 : decode code 739 = .ok (.aload_n 0, 1) := by decide +kernel
theorem dd_Law_law_740 : decode code 740 = .ok (.iload 4, 2) := by decide +kernel
theorem dd_Law_law_742 : decode code 742 = .ok (.iconst 4, 1) := by decide +kernel
theorem dd_Law_law_743 : decode code 743 = .ok (.iadd, 1) := by decide +kernel
theorem dd_Law_law_744 : decode code 744 = .ok (.iaload, 1) := by decide +kernel
theorem dd_Law_law_745 : decode code 745 = .ok (.aload_n 0, 1) := by decide +kernel
theorem dd_Law_law_746 : decode code 746 = .ok (.iload 4, 2) := by decide +kernel
theorem dd_Law_law_748 : decode code 748 = .ok (.iconst 5, 1) := by decide +kernel
theorem dd_Law_law_749 : decode code 749 = .ok (.iadd, 1) := by decide +kernel
theorem dd_Law_law_750 : decode code 750 = .ok (.iaload, 1) := by decide +kernel
theorem dd_Law_law_751 : decode code 751 = .ok (.invokestatic 110, 3) := by decide +kernel
theorem dd_Law_law_754 : decode code 754 = .ok (.istore 5, 2) := by decide +kernel
theorem dd_Law_law_756 : decode code 756 = .ok (.aload_n 2, 1) := by decide +kernel
theorem dd_Law_law_757 : decode code 757 = .ok (.aload_n 0, 1) := by decide +kernel
theorem dd_Law_law_758 : decode code 758 = .ok (.iload 4, 2) := by decide +kernel
theorem dd_Law_law_760 : decode code 760 = .ok (.iconst 1, 1) := by decide +kernel
theorem dd_Law_law_761 : decode code 761 = .ok (.iadd, 1) := by decide +kernel
theorem dd_Law_law_762 : decode code 762 = .ok (.iaload, 1) := by decide +kernel
theorem dd_Law_law_763 : decode code 763 = .ok (.aload_n 0, 1) := by decide +kernel
theorem dd_Law_law_764 : decode code 764 = .ok (.iload 4, 2) := by decide +kernel
theorem dd_Law_law_766 : decode code 766 = .ok (.iconst 2, 1) := by decide +kernel
theorem dd_Law_law_767 : decode code 767 = .ok (.iadd, 1) := by decide +kernel
theorem dd_Law_law_768 : decode code 768 = .ok (.iaload, 1) := by decide +kernel
theorem dd_Law_law_769 : decode code 769 = .ok (.aload_n 0, 1) := by decide +kernel
theorem dd_Law_law_770 : decode code 770 = .ok (.iload 4, 2) := by decide +kernel
theorem dd_Law_law_772 : decode code 772 = .ok (.iconst 3, 1) := by decide +kernel
theorem dd_Law_law_773 : decode code 773 = .ok (.iadd, 1) := by decide +kernel
theorem dd_Law_law_774 : decode code 774 = .ok (.iaload, 1) := by decide +kernel
theorem dd_Law_law_775 : decode code 775 = .ok (.aload_n 0, 1) := by decide +kernel
theorem dd_Law_law_776 : decode code 776 = .ok (.iload 4, 2) := by decide +kernel
theorem dd_Law_law_778 : decode code 778 = .ok (.iconst 4, 1) := by decide +kernel
theorem dd_Law_law_779 : decode code 779 = .ok (.iadd, 1) := by decide +kernel
theorem dd_Law_law_780 : decode code 780 = .ok (.iaload, 1) := by decide +kernel
theorem dd_Law_law_781 : decode code 781 = .ok (.aload_n 0, 1) := by decide +kernel
theorem dd_Law_law_782 : decode code 782 = .ok (.iload 4, 2) := by decide +kernel
theorem dd_Law_law_784 : decode code 784 = .ok (.iconst 5, 1) := by decide +kernel
theorem dd_Law_law_785 : decode code 785 = .ok (.iadd, 1) := by decide +kernel
theorem dd_Law_law_786 : decode code 786 = .ok (.iaload, 1) := by decide +kernel
theorem dd_Law_law_787 : decode code 787 = .ok (.invokevirtual 113, 3) := by decide +kernel
theorem dd_Law_law_790 : decode code 790 = .ok (.aload_n 2, 1) := by decide +kernel
theorem dd_Law_law_791 : decode code 791 = .ok (.invokevirtual 75, 3) := by decide +kernel
theorem dd_Law_law_794 : decode code 794 = .ok (.iload 5, 2) := by decide +kernel
theorem dd_Law_law_796 : decode code 796 = .ok (.if_icmp .eq 5, 3) := by decide +kernel
theorem dd_Law_law_799 : decode code 799 = .ok (.iconst 0, 1) := by decide +kernel
theorem dd_Law_law_800 : decode code 800 = .ok (.ireturn, 1) := by decide +kernel
theorem dd_Law_law_801 : decode code 801 = .ok (.goto 291, 3) := by decide +kernel
theorem dd_Law_law_804 : decode code 804 = .ok (.aload_n 1, 1) := by decide +kernel
theorem dd_Law_law_805 : decode code 805 = .ok (.aload_n 0, 1) := by decide +kernel
theorem dd_Law_law_806 : decode code 806 = .ok (.iload 4, 2) := by decide +kernel
theorem dd_Law_law_808 : decode code 808 = .ok (.iconst 1, 1) := by decide +kernel
theorem dd_Law_law_809 : decode code 809 = .ok (.iadd, 1) := by decide +kernel
theorem dd_Law_law_810 : decode code 810 = .ok (.iaload, 1) := by decide +kernel
theorem dd_Law_law_811 : decode code 811 = .ok (.aload_n 0, 1) := by decide +kernel
theorem dd_Law_law_812 : decode code 812 = .ok (.iload 4, 2) := by decide +kernel
theorem dd_Law_law_814 : decode code 814 = .ok (.iconst 2, 1) := by decide +kernel
theorem dd_Law_law_815 : decode code 815 = .ok (.iadd, 1) := by decide +kernel
theorem dd_Law_law_816 : decode code 816 = .ok (.iaload, 1) := by decide +kernel
theorem dd_Law_law_817 : decode code 817 = .ok (.aload_n 0, 1) := by decide +kernel
theorem dd_Law_law_818 : decode code 818 = .ok (.iload 4, 2) := by decide +kernel
theorem dd_Law_law_820 : decode code 820 = .ok (.iconst 3, 1) := by decide +kernel
theorem dd_Law_law_821 : decode code 821 = .ok (.iadd, 1) := by decide +kernel
theorem dd_Law_law_822 : decode code 822 = .ok (.iaload, 1) := by decide +kernel
theorem dd_Law_law_823 : decode code 823 = .ok (.aload_n 0, 1) := by decide +kernel
theorem dd_Law_law_824 : decode code 824 = .ok (.iload 4, 2) := by decide +kernel
theorem dd_Law_law_826 : decode code 826 = .ok (.iconst 4, 1) := by decide +kernel
theorem dd_Law_law_827 : decode code 827 = .ok (.iadd, 1) := by decide +kernel
theorem dd_Law_law_828 : decode code 828 = .ok (.iaload, 1) := by decide +kernel
theorem dd_Law_law_829 : decode code 829 = .ok (.aload_n 0, 1) := by decide +kernel
theorem dd_Law_law_830 : decode code 830 = .ok (.iload 4, 2) := by decide +kernel
theorem dd_Law_law_832 : decode code 832 = .ok (.iconst 5, 1) := by decide +kernel
theorem dd_Law_law_833 : decode code 833 = .ok (.iadd, 1) := by decide +kernel
theorem dd_Law_law_834 : decode code 834 = .ok (.iaload, 1) := by decide +kernel
theorem dd_Law_law_835 : decode code 835 = .ok (.aload_n 0, 1) := by decide +kernel
theorem dd_Law_law_836 : decode code 836 = .ok (.iload 4, 2) := by decide +kernel
theorem dd_Law_law_838 : decode code 838 = .ok (.bipush 6, 2) := by decide +kernel
theorem dd_Law_law_840 : decode code 840 = .ok (.iadd, 1) := by decide +kernel
theorem dd_Law_law_841 : decode code 841 = .ok (.iaload, 1) := by decide +kernel
theorem dd_Law_law_842 : decode code 842 = .ok (.aload_n 0, 1) := by decide +kernel
theorem dd_Law_law_843 : decode code 843 = .ok (.iload 4, 2) := by decide +kernel
theorem dd_Law_law_845 : decode code 845 = .ok (.bipush 7, 2) := by decide +kernel
theorem dd_Law_law_847 : decode code 847 = .ok (.iadd, 1) := by decide +kernel
theorem dd_Law_law_848 : decode code 848 = .ok (.iaload, 1) := by decide +kernel
theorem dd_Law_law_849 : decode code 849 = .ok (.aload_n 0, 1) := by decide +kernel
theorem dd_Law_law_850 : decode code 850 = .ok (.iload 4, 2) := by decide +kernel
theorem dd_Law_law_852 : decode code 852 = .ok (.bipush 8, 2) := by decide +kernel
theorem dd_Law_law_854 : decode code 854 = .ok (.iadd, 1) := by decide +kernel
theorem dd_Law_law_855 : decode code 855 = .ok (.iaload, 1) := by decide +kernel
theorem dd_Law_law_856 : decode code 856 = .ok (.invokestatic 114, 3) := by decide +kernel
theorem dd_Law_law_859 : decode code 859 = .ok (.istore 5, 2) := by decide +kernel
theorem dd_Law_law_861 : decode code 861 = .ok (.aload_n 2, 1) := by decide +kernel
theorem dd_Law_law_862 : decode code 862 = .ok (.aload_n 0, 1) := by decide +kernel
theorem dd_Law_law_863 : decode code 863 = .ok (.iload 4, 2) := by decide +kernel
theorem dd_Law_law_865 : decode code 865 = .ok (.iconst 1, 1) := by decide +kernel
theorem dd_Law_law_866 : decode code 866 = .ok (.iadd, 1) := by decide +kernel
theorem dd_Law_law_867 : decode code 867 = .ok (.iaload, 1) := by decide +kernel
theorem dd_Law_law_868 : decode code 868 = .ok (.aload_n 0, 1) := by decide +kernel
theorem dd_Law_law_869 : decode code 869 = .ok (.iload 4, 2) := by decide +kernel
theorem dd_Law_law_871 : decode code 871 = .ok (.iconst 2, 1) := by decide +kernel
theorem dd_Law_law_872 : decode code 872 = .ok (.iadd, 1) := by decide +kernel
theorem dd_Law_law_873 : decode code 873 = .ok (.iaload, 1) := by decide +kernel
theorem dd_Law_law_874 : decode code 874 = .ok (.aload_n 0, 1) := by decide +kernel
theorem dd_Law_law_875 : decode code 875 = .ok (.iload 4, 2) := by decide +kernel
theorem dd_Law_law_877 : decode code 877 = .ok (.iconst 3, 1) := by decide +kernel
theorem dd_Law_law_878 : decode code 878 = .ok (.iadd, 1) := by decide +kernel
theorem dd_Law_law_879 : decode code 879 = .ok (.iaload, 1) := by decide +kernel
theorem dd_Law_law_880 : decode code 880 = .ok (.aload_n 0, 1) := by decide +kernel
theorem dd_Law_law_881 : decode code 881 = .ok (.iload 4, 2) := by decide +kernel
theorem dd_Law_law_883 : decode code 883 = .ok (.iconst 4, 1) := by decide +kernel
theorem dd_Law_law_884 : decode code 884 = .ok (.iadd, 1) := by decide +kernel
theorem dd_Law_law_885 : decode code 885 = .ok (.iaload, 1) := by decide +kernel
theorem dd_Law_law_886 : decode code 886 = .ok (.aload_n 0, 1) := by decide +kernel
theorem dd_Law_law_887 : decode code 887 = .ok (.iload 4, 2) := by decide +kernel
theorem dd_Law_law_889 : decode code 889 = .ok (.iconst 5, 1) := by decide +kernel
theorem dd_Law_law_890 : decode code 890 = .ok (.iadd, 1) := by decide +kernel
theorem dd_Law_law_891 : decode code 891 = .ok (.iaload, 1) := by decide +kernel
theorem dd_Law_law_892 : decode code 892 = .ok (.aload_n 0, 1) := by decide +kernel
theorem dd_Law_law_893 : decode code 893 = .ok (.iload 4, 2) := by decide +kernel
theorem dd_Law_law_895 : decode code 895 = .ok (.bipush 6, 2) := by decide +kernel
theorem dd_Law_law_897 : decode code 897 = .ok (.iadd, 1) := by decide +kernel
theorem dd_Law_law_898 : decode code 898 = .ok (.iaload, 1) := by decide +kernel
theorem dd_Law_law_899 : decode code 899 = .ok (.aload_n 0, 1) := by decide +kernel
theorem dd_Law_law_900 : decode code 900 = .ok (.iload 4, 2) := by decide +kernel
theorem dd_Law_law_902 : decode code 902 = .ok (.bipush 7, 2) := by decide +kernel
theorem dd_Law_law_904 : decode code 904 = .ok (.iadd, 1) := by decide +kernel
theorem dd_Law_law_905 : decode code 905 = .ok (.iaload, 1) := by decide +kernel
theorem dd_Law_law_906 : decode code 906 = .ok (.aload_n 0, 1) := by decide +kernel
theorem dd_Law_law_907 : decode code 907 = .ok (.iload 4, 2) := by decide +kernel
theorem dd_Law_law_909 : decode code 909 = .ok (.bipush 8, 2) := by decide +kernel
theorem dd_Law_law_911 : decode code 911 = .ok (.iadd, 1) := by decide +kernel
theorem dd_Law_law_912 : decode code 912 = .ok (.iaload, 1) := by decide +kernel
theorem dd_Law_law_913 : decode code 913 = .ok (.invokevirtual 117, 3) := by decide +kernel
theorem dd_Law_law_916 : decode code 916 = .ok (.aload_n 2, 1) := by decide +kernel
theorem dd_Law_law_917 : decode code 917 = .ok (.invokevirtual 75, 3) := by decide +kernel
theorem dd_Law_law_920 : decode code 920 = .ok (.iload 5, 2) := by decide +kernel
theorem dd_Law_law_922 : decode code 922 = .ok (.if_icmp .eq 5, 3) := by decide +kernel
theorem dd_Law_law_925 : decode code 925 = .ok (.iconst 0, 1) := by decide +kernel
theorem dd_Law_law_926 : decode code 926 = .ok (.ireturn, 1) := by decide +kernel
theorem dd_Law_law_927 : decode code 927 = .ok (.goto 165, 3) := by decide +kernel
theorem dd_Law_law_930 : decode code 930 = .ok (.aload_n 1, 1) := by decide +kernel
theorem dd_Law_law_931 : decode code 931 = .ok (.aload_n 0, 1) := by decide +kernel
theorem dd_Law_law_932 : decode code 932 = .ok (.iload 4, 2) := by decide +kernel
theorem dd_Law_law_934 : decode code 934 = .ok (.iconst 1, 1) := by decide +kernel
theorem dd_Law_law_935 : decode code 935 = .ok (.iadd, 1) := by decide +kernel
theorem dd_Law_law_936 : decode code 936 = .ok (.iaload, 1) := by decide +kernel
theorem dd_Law_law_937 : decode code 937 = .ok (.invokestatic 118, 3) := by decide +kernel
theorem dd_Law_law_940 : decode code 940 = .ok (.istore 5, 2) := by decide +kernel
theorem dd_Law_law_942 : decode code 942 = .ok (.aload_n 2, 1) := by decide +kernel
theorem dd_Law_law_943 : decode code 943 = .ok (.aload_n 0, 1) := by decide +kernel
theorem dd_Law_law_944 : decode code 944 = .ok (.iload 4, 2) := by decide +kernel
theorem dd_Law_law_946 : decode code 946 = .ok (.iconst 1, 1) := by decide +kernel
theorem dd_Law_law_947 : decode code 947 = .ok (.iadd, 1) := by decide +kernel
theorem dd_Law_law_948 : decode code 948 = .ok (.iaload, 1) := by decide +kernel
theorem dd_Law_law_949 : decode code 949 = .ok (.invokevirtual 120, 3) := by decide +kernel
theorem dd_Law_law_952 : decode code 952 = .ok (.aload_n 2, 1) := by decide +kernel
theorem dd_Law_law_953 : decode code 953 = .ok (.invokevirtual 75, 3) := by decide +kernel
theorem dd_Law_law_956 : decode code 956 = .ok (.iload 5, 2) := by decide +kernel
theorem dd_Law_law_958 : decode code 958 = .ok (.if_icmp .eq 5, 3) := by decide +kernel
theorem dd_Law_law_961 : decode code 961 = .ok (.iconst 0, 1) := by decide +kernel
theorem dd_Law_law_962 : decode code 962 = .ok (.ireturn, 1) := by decide +kernel
theorem dd_Law_law_963 : decode code 963 = .ok (.goto 129, 3) := by decide +kernel
theorem dd_Law_law_966 : decode code 966 = .ok (.aload_n 1, 1) := by decide +kernel
theorem dd_Law_law_967 : decode code 967 = .ok (.aload_n 0, 1) := by decide +kernel
theorem dd_Law_law_968 : decode code 968 = .ok (.iload 4, 2) := by decide +kernel
theorem dd_Law_law_970 : decode code 970 = .ok (.iconst 1, 1) := by decide +kernel
theorem dd_Law_law_971 : decode code 971 = .ok (.iadd, 1) := by decide +kernel
theorem dd_Law_law_972 : decode code 972 = .ok (.iaload, 1) := by decide +kernel
theorem dd_Law_law_973 : decode code 973 = .ok (.aload_n 0, 1) := by decide +kernel
theorem dd_Law_law_974 : decode code 974 = .ok (.iload 4, 2) := by decide +kernel
theorem dd_Law_law_976 : decode code 976 = .ok (.iconst 2, 1) := by decide +kernel
theorem dd_Law_law_977 : decode code 977 = .ok (.iadd, 1) := by decide +kernel
theorem dd_Law_law_978 : decode code 978 = .ok (.iaload, 1) := by decide +kernel
theorem dd_Law_law_979 : decode code 979 = .ok (.aload_n 3, 1) := by decide +kernel
theorem dd_Law_law_980 : decode code 980 = .ok (.invokestatic 121, 3) := by decide +kernel
theorem dd_Law_law_983 : decode code 983 = .ok (.istore 5, 2) := by decide +kernel
theorem dd_Law_law_985 : decode code 985 = .ok (.aload_n 2, 1) := by decide +kernel
theorem dd_Law_law_986 : decode code 986 = .ok (.aload_n 0, 1) := by decide +kernel
theorem dd_Law_law_987 : decode code 987 = .ok (.iload 4, 2) := by decide +kernel
theorem dd_Law_law_989 : decode code 989 = .ok (.iconst 1, 1) := by decide +kernel
theorem dd_Law_law_990 : decode code 990 = .ok (.iadd, 1) := by decide +kernel
theorem dd_Law_law_991 : decode code 991 = .ok (.iaload, 1) := by decide +kernel
theorem dd_Law_law_992 : decode code 992 = .ok (.aload_n 0, 1) := by decide +kernel
theorem dd_Law_law_993 : decode code 993 = .ok (.iload 4, 2) := by decide +kernel
theorem dd_Law_law_995 : decode code 995 = .ok (.iconst 2, 1) := by decide +kernel
theorem dd_Law_law_996 : decode code 996 = .ok (.iadd, 1) := by decide +kernel
theorem dd_Law_law_997 : decode code 997 = .ok (.iaload, 1) := by decide +kernel
theorem dd_Law_law_998 : decode code 998 = .ok (.invokevirtual 123, 3) := by decide +kernel
theorem dd_Law_law_1001 : decode code 1001 = .ok (.istore 6, 2) := by decide +kernel
theorem dd_Law_law_1003 : decode code 1003 = .ok (.aload_n 2, 1) := by decide +kernel
theorem dd_Law_law_1004 : decode code 1004 = .ok (.invokevirtual 75, 3) := by decide +kernel
theorem dd_Law_law_1007 : decode code 1007 = .ok (.iload 5, 2) := by decide +kernel
theorem dd_Law_law_1009 : decode code 1009 = .ok (.if_icmp .eq 5, 3) := by decide +kernel
theorem dd_Law_law_1012 : decode code 1012 = .ok (.iconst 0, 1) := by decide +kernel
theorem dd_Law_law_1013 : decode code 1013 = .ok (.ireturn, 1) := by decide +kernel
theorem dd_Law_law_1014 : decode code 1014 = .ok (.iload 5, 2) := by decide +kernel
theorem dd_Law_law_1016 : decode code 1016 = .ok (.ifCond .ne 22, 3) := by decide +kernel
theorem dd_Law_law_1019 : decode code 1019 = .ok (.aload_n 3, 1) := by decide +kernel
theorem dd_Law_law_1020 : decode code 1020 = .ok (.iconst 0, 1) := by decide +kernel
theorem dd_Law_law_1021 : decode code 1021 = .ok (.laload, 1) := by decide +kernel
theorem dd_Law_law_1022 : decode code 1022 = .ok (.iload 6, 2) := by decide +kernel
theorem dd_Law_law_1024 : decode code 1024 = .ok (.ifCond .eq 7, 3) := by decide +kernel
theorem dd_Law_law_1027 : decode code 1027 = .ok (.lconst 1, 1) := by decide +kernel
theorem dd_Law_law_1028 : decode code 1028 = .ok (.goto 4, 3) := by decide +kernel
theorem dd_Law_law_1031 : decode code 1031 = .ok (.lconst 0, 1) := by decide +kernel
theorem dd_Law_law_1032 : decode code 1032 = .ok (.lcmp, 1) := by decide +kernel
theorem dd_Law_law_1033 : decode code 1033 = .ok (.ifCond .eq 5, 3) := by decide +kernel
theorem dd_Law_law_1036 : decode code 1036 = .ok (.iconst 0, 1) := by decide +kernel
theorem dd_Law_law_1037 : decode code 1037 = .ok (.ireturn, 1) := by decide +kernel
theorem dd_Law_law_1038 : decode code 1038 = .ok (.goto 54, 3) := by decide +kernel
theorem dd_Law_law_1041 : decode code 1041 = .ok (.aload_n 1, 1) := by decide +kernel
theorem dd_Law_law_1042 : decode code 1042 = .ok (.aload_n 3, 1) := by decide +kernel
theorem dd_Law_law_1043 : decode code 1043 = .ok (.invokestatic 124, 3) := by decide +kernel
theorem dd_Law_law_1046 : decode code 1046 = .ok (.istore 5, 2) := by decide +kernel
theorem dd_Law_law_1048 : decode code 1048 = .ok (.aload_n 2, 1) := by decide +kernel
theorem dd_Law_law_1049 : decode code 1049 = .ok (.invokevirtual 127, 3) := by decide +kernel
theorem dd_Law_law_1052 : decode code 1052 = .ok (.istore 6, 2) := by decide +kernel
theorem dd_Law_law_1054 : decode code 1054 = .ok (.aload_n 2, 1) := by decide +kernel
theorem dd_Law_law_1055 : decode code 1055 = .ok (.invokevirtual 75, 3) := by decide +kernel
theorem dd_Law_law_1058 : decode code 1058 = .ok (.iload 5, 2) := by decide +kernel
theorem dd_Law_law_1060 : decode code 1060 = .ok (.if_icmp .eq 5, 3) := by decide +kernel
theorem dd_Law_law_1063 : decode code 1063 = .ok (.iconst 0, 1) := by decide +kernel
theorem dd_Law_law_1064 : decode code 1064 = .ok (.ireturn, 1) := by decide +kernel
theorem dd_Law_law_1065 : decode code 1065 = .ok (.iload 5, 2) := by decide +kernel
theorem dd_Law_law_1067 : decode code 1067 = .ok (.ifCond .ne 22, 3) := by decide +kernel
theorem dd_Law_law_1070 : decode code 1070 = .ok (.aload_n 3, 1) := by decide +kernel
theorem dd_Law_law_1071 : decode code 1071 = .ok (.iconst 0, 1) := by decide +kernel
theorem dd_Law_law_1072 : decode code 1072 = .ok (.laload, 1) := by decide +kernel
theorem dd_Law_law_1073 : decode code 1073 = .ok (.iload 6, 2) := by decide +kernel
theorem dd_Law_law_1075 : decode code 1075 = .ok (.ifCond .eq 7, 3) := by decide +kernel
theorem dd_Law_law_1078 : decode code 1078 = .ok (.lconst 1, 1) := by decide +kernel
theorem dd_Law_law_1079 : decode code 1079 = .ok (.goto 4, 3) := by decide +kernel
theorem dd_Law_law_1082 : decode code 1082 = .ok (.lconst 0, 1) := by decide +kernel
theorem dd_Law_law_1083 : decode code 1083 = .ok (.lcmp, 1) := by decide +kernel
theorem dd_Law_law_1084 : decode code 1084 = .ok (.ifCond .eq 5, 3) := by decide +kernel
theorem dd_Law_law_1087 : decode code 1087 = .ok (.iconst 0, 1) := by decide +kernel
theorem dd_Law_law_1088 : decode code 1088 = .ok (.ireturn, 1) := by decide +kernel
theorem dd_Law_law_1089 : decode code 1089 = .ok (.goto 3, 3) := by decide +kernel
theorem dd_Law_law_1092 : decode code 1092 = .ok (.iinc 4 9, 3) := by decide +kernel
theorem dd_Law_law_1095 : decode code 1095 = .ok (.goto (-1072), 3) := by decide +kernel
theorem dd_Law_law_1098 : decode code 1098 = .ok (.iconst 1, 1) := by decide +kernel
theorem dd_Law_law_1099 : decode code 1099 = .ok (.ireturn, 1) := by decide +kernel
