theorem dd_Model_sound_137 : decode bb_Model_sound 137 = .ok (.iload_n 1, 1) := by decide +kernel
theorem dd_Model_sound_138 : decode bb_Model_sound 138 = .ok (.i2l, 1) := by decide +kernel
theorem dd_Model_sound_139 : decode bb_Model_sound 139 = .ok (.iload_n 2, 1) := by decide +kernel
theorem dd_Model_sound_140 : decode bb_Model_sound 140 = .ok (.i2l, 1) := by decide +kernel
theorem dd_Model_sound_141 : decode bb_Model_sound 141 = .ok (.invokevirtual 154, 3) := by decide +kernel
theorem dd_Model_sound_144 : decode bb_Model_sound 144 = .ok (.ifCond .ne 5, 3) := by decide +kernel
theorem dd_Model_sound_147 : decode bb_Model_sound 147 = .ok (.iconst 0, 1) := by decide +kernel
theorem dd_Model_sound_148 : decode bb_Model_sound 148 = .ok (.ireturn, 1) := by decide +kernel
theorem dd_Model_sound_149 : decode bb_Model_sound 149 = .ok (.aload_n 0, 1) := by decide +kernel
theorem dd_Model_sound_150 : decode bb_Model_sound 150 = .ok (.getfield 52, 3) := by decide +kernel
theorem dd_Model_sound_153 : decode bb_Model_sound 153 = .ok (.iload 5, 2) := by decide +kernel
theorem dd_Model_sound_155 : decode bb_Model_sound 155 = .ok (.iaload, 1) := by decide +kernel
theorem dd_Model_sound_156 : decode bb_Model_sound 156 = .ok (.iconst 1, 1) := by decide +kernel
theorem dd_Model_sound_157 : decode bb_Model_sound 157 = .ok (.if_icmp .ne 182, 3) := by decide +kernel
theorem dd_Model_sound_160 : decode bb_Model_sound 160 = .ok (.aload_n 0, 1) := by decide +kernel
theorem dd_Model_sound_161 : decode bb_Model_sound 161 = .ok (.getfield 55, 3) := by decide +kernel
theorem dd_Model_sound_164 : decode bb_Model_sound 164 = .ok (.iload 5, 2) := by decide +kernel
theorem dd_Model_sound_166 : decode bb_Model_sound 166 = .ok (.iaload, 1) := by decide +kernel
theorem dd_Model_sound_167 : decode bb_Model_sound 167 = .ok (.istore 6, 2) := by decide +kernel
theorem dd_Model_sound_169 : decode bb_Model_sound 169 = .ok (.aload_n 0, 1) := by decide +kernel
theorem dd_Model_sound_170 : decode bb_Model_sound 170 = .ok (.getfield 58, 3) := by decide +kernel
theorem dd_Model_sound_173 : decode bb_Model_sound 173 = .ok (.iload 5, 2) := by decide +kernel
theorem dd_Model_sound_175 : decode bb_Model_sound 175 = .ok (.iaload, 1) := by decide +kernel
theorem dd_Model_sound_176 : decode bb_Model_sound 176 = .ok (.istore 7, 2) := by decide +kernel
theorem dd_Model_sound_178 : decode bb_Model_sound 178 = .ok (.iload 6, 2) := by decide +kernel
theorem dd_Model_sound_180 : decode bb_Model_sound 180 = .ok (.aload_n 0, 1) := by decide +kernel
theorem dd_Model_sound_181 : decode bb_Model_sound 181 = .ok (.getfield 7, 3) := by decide +kernel
theorem dd_Model_sound_184 : decode bb_Model_sound 184 = .ok (.if_icmp .ge 47, 3) := by decide +kernel
theorem dd_Model_sound_187 : decode bb_Model_sound 187 = .ok (.aload_n 0, 1) := by decide +kernel
theorem dd_Model_sound_188 : decode bb_Model_sound 188 = .ok (.getfield 20, 3) := by decide +kernel
theorem dd_Model_sound_191 : decode bb_Model_sound 191 = .ok (.iload 6, 2) := by decide +kernel
theorem dd_Model_sound_193 : decode bb_Model_sound 193 = .ok (.baload, 1) := by decide +kernel
theorem dd_Model_sound_194 : decode bb_Model_sound 194 = .ok (.ifCond .eq 37, 3) := by decide +kernel
theorem dd_Model_sound_197 : decode bb_Model_sound 197 = .ok (.iload 7, 2) := by decide +kernel
theorem dd_Model_sound_199 : decode bb_Model_sound 199 = .ok (.aload_n 0, 1) := by decide +kernel
theorem dd_Model_sound_200 : decode bb_Model_sound 200 = .ok (.getfield 70, 3) := by decide +kernel
theorem dd_Model_sound_203 : decode bb_Model_sound 203 = .ok (.iload 4, 2) := by decide +kernel
theorem dd_Model_sound_205 : decode bb_Model_sound 205 = .ok (.iconst 1, 1) := by decide +kernel
theorem dd_Model_sound_206 : decode bb_Model_sound 206 = .ok (.iadd, 1) := by decide +kernel
theorem dd_Model_sound_207 : decode bb_Model_sound 207 = .ok (.iload 6, 2) := by decide +kernel
theorem dd_Model_sound_209 : decode bb_Model_sound 209 = .ok (.iadd, 1) := by decide +kernel
theorem dd_Model_sound_210 : decode bb_Model_sound 210 = .ok (.iaload, 1) := by decide +kernel
theorem dd_Model_sound_211 : decode bb_Model_sound 211 = .ok (.if_icmp .lt 20, 3) := by decide +kernel
theorem dd_Model_sound_214 : decode bb_Model_sound 214 = .ok (.iload 7, 2) := by decide +kernel
theorem dd_Model_sound_216 : decode bb_Model_sound 216 = .ok (.aload_n 0, 1) := by decide +kernel
theorem dd_Model_sound_217 : decode bb_Model_sound 217 = .ok (.getfield 70, 3) := by decide +kernel
theorem dd_Model_sound_220 : decode bb_Model_sound 220 = .ok (.iload 4, 2) := by decide +kernel
theorem dd_Model_sound_222 : decode bb_Model_sound 222 = .ok (.iconst 5, 1) := by decide +kernel
theorem dd_Model_sound_223 : decode bb_Model_sound 223 = .ok (.iadd, 1) := by decide +kernel
theorem dd_Model_sound_224 : decode bb_Model_sound 224 = .ok (.iload 6, 2) := by decide +kernel
theorem dd_Model_sound_226 : decode bb_Model_sound 226 = .ok (.iadd, 1) := by decide +kernel
theorem dd_Model_sound_227 : decode bb_Model_sound 227 = .ok (.iaload, 1) := by decide +kernel
theorem dd_Model_sound_228 : decode bb_Model_sound 228 = .ok (.if_icmp .lt 5, 3) := by decide +kernel
theorem dd_Model_sound_231 : decode bb_Model_sound 231 = .ok (.iconst 0, 1) := by decide +kernel
theorem dd_Model_sound_232 : decode bb_Model_sound 232 = .ok (.ireturn, 1) := by decide +kernel
theorem dd_Model_sound_233 : decode bb_Model_sound 233 = .ok (.iconst 0, 1) := by decide +kernel
theorem dd_Model_sound_234 : decode bb_Model_sound 234 = .ok (.istore 8, 2) := by decide +kernel
theorem dd_Model_sound_236 : decode bb_Model_sound 236 = .ok (.iload 8, 2) := by decide +kernel
theorem dd_Model_sound_238 : decode bb_Model_sound 238 = .ok (.bipush 9, 2) := by decide +kernel
theorem dd_Model_sound_240 : decode bb_Model_sound 240 = .ok (.if_icmp .ge 32, 3) := by decide +kernel
theorem dd_Model_sound_243 : decode bb_Model_sound 243 = .ok (.aload_n 0, 1) := by decide +kernel
theorem dd_Model_sound_244 : decode bb_Model_sound 244 = .ok (.getfield 70, 3) := by decide +kernel
theorem dd_Model_sound_247 : decode bb_Model_sound 247 = .ok (.iload 4, 2) := by decide +kernel
theorem dd_Model_sound_249 : decode bb_Model_sound 249 = .ok (.bipush 9, 2) := by decide +kernel
theorem dd_Model_sound_251 : decode bb_Model_sound 251 = .ok (.iadd, 1) := by decide +kernel
theorem dd_Model_sound_252 : decode bb_Model_sound 252 = .ok (.iload 8, 2) := by decide +kernel
theorem dd_Model_sound_254 : decode bb_Model_sound 254 = .ok (.iadd, 1) := by decide +kernel
theorem dd_Model_sound_255 : decode bb_Model_sound 255 = .ok (.aload_n 0, 1) := by decide +kernel
theorem dd_Model_sound_256 : decode bb_Model_sound 256 = .ok (.getfield 70, 3) := by decide +kernel
theorem dd_Model_sound_259 : decode bb_Model_sound 259 = .ok (.iload 4, 2) := by decide +kernel
theorem dd_Model_sound_261 : decode bb_Model_sound 261 = .ok (.iload 8, 2) := by decide +kernel
theorem dd_Model_sound_263 : decode bb_Model_sound 263 = .ok (.iadd, 1) := by decide +kernel
theorem dd_Model_sound_264 : decode bb_Model_sound 264 = .ok (.iaload, 1) := by decide +kernel
theorem dd_Model_sound_265 : decode bb_Model_sound 265 = .ok (.iastore, 1) := by decide +kernel
theorem dd_Model_sound_266 : decode bb_Model_sound 266 = .ok (.iinc 8 1, 3) := by decide +kernel
theorem dd_Model_sound_269 : decode bb_Model_sound 269 = .ok (.goto (-33), 3) := by decide +kernel
theorem dd_Model_sound_272 : decode bb_Model_sound 272 = .ok (.aload_n 0, 1) := by decide +kernel
theorem dd_Model_sound_273 : decode bb_Model_sound 273 = .ok (.getfield 70, 3) := by decide +kernel
theorem dd_Model_sound_276 : decode bb_Model_sound 276 = .ok (.iload 4, 2) := by decide +kernel
theorem dd_Model_sound_278 : decode bb_Model_sound 278 = .ok (.aload_n 0, 1) := by decide +kernel
theorem dd_Model_sound_279 : decode bb_Model_sound 279 = .ok (.getfield 61, 3) := by decide +kernel
theorem dd_Model_sound_282 : decode bb_Model_sound 282 = .ok (.iload 5, 2) := by decide +kernel
theorem dd_Model_sound_284 : decode bb_Model_sound 284 = .ok (.iaload, 1) := by decide +kernel
theorem dd_Model_sound_285 : decode bb_Model_sound 285 = .ok (.iastore, 1) := by decide +kernel
theorem dd_Model_sound_286 : decode bb_Model_sound 286 = .ok (.aload_n 0, 1) := by decide +kernel
theorem dd_Model_sound_287 : decode bb_Model_sound 287 = .ok (.getfield 70, 3) := by decide +kernel
theorem dd_Model_sound_290 : decode bb_Model_sound 290 = .ok (.iload 4, 2) := by decide +kernel
theorem dd_Model_sound_292 : decode bb_Model_sound 292 = .ok (.iconst 5, 1) := by decide +kernel
theorem dd_Model_sound_293 : decode bb_Model_sound 293 = .ok (.iadd, 1) := by decide +kernel
theorem dd_Model_sound_294 : decode bb_Model_sound 294 = .ok (.iload 6, 2) := by decide +kernel
theorem dd_Model_sound_296 : decode bb_Model_sound 296 = .ok (.iadd, 1) := by decide +kernel
theorem dd_Model_sound_297 : decode bb_Model_sound 297 = .ok (.iload 7, 2) := by decide +kernel
theorem dd_Model_sound_299 : decode bb_Model_sound 299 = .ok (.iastore, 1) := by decide +kernel
theorem dd_Model_sound_300 : decode bb_Model_sound 300 = .ok (.aload_n 0, 1) := by decide +kernel
theorem dd_Model_sound_301 : decode bb_Model_sound 301 = .ok (.getfield 70, 3) := by decide +kernel
theorem dd_Model_sound_304 : decode bb_Model_sound 304 = .ok (.iload 4, 2) := by decide +kernel
theorem dd_Model_sound_306 : decode bb_Model_sound 306 = .ok (.bipush 9, 2) := by decide +kernel
theorem dd_Model_sound_308 : decode bb_Model_sound 308 = .ok (.iadd, 1) := by decide +kernel
theorem dd_Model_sound_309 : decode bb_Model_sound 309 = .ok (.aload_n 0, 1) := by decide +kernel
theorem dd_Model_sound_310 : decode bb_Model_sound 310 = .ok (.getfield 64, 3) := by decide +kernel
theorem dd_Model_sound_313 : decode bb_Model_sound 313 = .ok (.iload 5, 2) := by decide +kernel
theorem dd_Model_sound_315 : decode bb_Model_sound 315 = .ok (.iaload, 1) := by decide +kernel
theorem dd_Model_sound_316 : decode bb_Model_sound 316 = .ok (.iastore, 1) := by decide +kernel
theorem dd_Model_sound_317 : decode bb_Model_sound 317 = .ok (.aload_n 0, 1) := by decide +kernel
theorem dd_Model_sound_318 : decode bb_Model_sound 318 = .ok (.getfield 70, 3) := by decide +kernel
theorem dd_Model_sound_321 : decode bb_Model_sound 321 = .ok (.iload 4, 2) := by decide +kernel
theorem dd_Model_sound_323 : decode bb_Model_sound 323 = .ok (.bipush 9, 2) := by decide +kernel
theorem dd_Model_sound_325 : decode bb_Model_sound 325 = .ok (.iadd, 1) := by decide +kernel
theorem dd_Model_sound_326 : decode bb_Model_sound 326 = .ok (.iconst 1, 1) := by decide +kernel
theorem dd_Model_sound_327 : decode bb_Model_sound 327 = .ok (.iadd, 1) := by decide +kernel
theorem dd_Model_sound_328 : decode bb_Model_sound 328 = .ok (.iload 6, 2) := by decide +kernel
theorem dd_Model_sound_330 : decode bb_Model_sound 330 = .ok (.iadd, 1) := by decide +kernel
theorem dd_Model_sound_331 : decode bb_Model_sound 331 = .ok (.iload 7, 2) := by decide +kernel
theorem dd_Model_sound_333 : decode bb_Model_sound 333 = .ok (.iconst 1, 1) := by decide +kernel
theorem dd_Model_sound_334 : decode bb_Model_sound 334 = .ok (.iadd, 1) := by decide +kernel
theorem dd_Model_sound_335 : decode bb_Model_sound 335 = .ok (.iastore, 1) := by decide +kernel
theorem dd_Model_sound_336 : decode bb_Model_sound 336 = .ok (.iinc 3 2, 3) := by decide +kernel
theorem dd_Model_sound_339 : decode bb_Model_sound 339 = .ok (.goto (-250), 3) := by decide +kernel
theorem dd_Model_sound_342 : decode bb_Model_sound 342 = .ok (.iconst 1, 1) := by decide +kernel
theorem dd_Model_sound_343 : decode bb_Model_sound 343 = .ok (.ireturn, 1) := by decide +kernel
theorem dd_Model_prove_0 : decode bb_Model_prove 0 = .ok (.aload_n 0, 1) := by decide +kernel
theorem dd_Model_prove_1 : decode bb_Model_prove 1 = .ok (.aload_n 0, 1) := by decide +kernel
theorem dd_Model_prove_2 : decode bb_Model_prove 2 = .ok (.getfield 86, 3) := by decide +kernel
theorem dd_Model_prove_5 : decode bb_Model_prove 5 = .ok (.iconst 1, 1) := by decide +kernel
theorem dd_Model_prove_6 : decode bb_Model_prove 6 = .ok (.if_icmp .ne 7, 3) := by decide +kernel
theorem dd_Model_prove_9 : decode bb_Model_prove 9 = .ok (.iconst 0, 1) := by decide +kernel
theorem dd_Model_prove_10 : decode bb_Model_prove 10 = .ok (.goto 4, 3) := by decide +kernel
theorem dd_Model_prove_13 : decode bb_Model_prove 13 = .ok (.iconst 1, 1) := by decide +kernel
theorem dd_Model_prove_14 : decode bb_Model_prove 14 = .ok (.putfield 76, 3) := by decide +kernel
theorem dd_Model_prove_17 : decode bb_Model_prove 17 = .ok (.aload_n 0, 1) := by decide +kernel
theorem dd_Model_prove_18 : decode bb_Model_prove 18 = .ok (.getfield 76, 3) := by decide +kernel
theorem dd_Model_prove_21 : decode bb_Model_prove 21 = .ok (.ifCond .ne 7, 3) := by decide +kernel
theorem dd_Model_prove_24 : decode bb_Model_prove 24 = .ok (.iconst 1, 1) := by decide +kernel
theorem dd_Model_prove_25 : decode bb_Model_prove 25 = .ok (.goto 4, 3) := by decide +kernel
theorem dd_Model_prove_28 : decode bb_Model_prove 28 = .ok (.iconst 0, 1) := by decide +kernel
theorem dd_Model_prove_29 : decode bb_Model_prove 29 = .ok (.ireturn, 1) := by decide +kernel
