theorem d_law_law_0 : decode code 0 = .ok (.new 8, 3) := by decide +kernel
theorem d_law_law_3 : decode code 3 = .ok (.dup, 1) := by decide +kernel
theorem d_law_law_4 : decode code 4 = .ok (.invokespecial 38, 3) := by decide +kernel
theorem d_law_law_7 : decode code 7 = .ok (.astore_n 1, 1) := by decide +kernel
theorem d_law_law_8 : decode code 8 = .ok (.new 39, 3) := by decide +kernel
theorem d_law_law_11 : decode code 11 = .ok (.dup, 1) := by decide +kernel
theorem d_law_law_12 : decode code 12 = .ok (.invokespecial 41, 3) := by decide +kernel
theorem d_law_law_15 : decode code 15 = .ok (.astore_n 2, 1) := by decide +kernel
theorem d_law_law_16 : decode code 16 = .ok (.iconst 1, 1) := by decide +kernel
theorem d_law_law_17 : decode code 17 = .ok (.newarray .long, 2) := by decide +kernel
theorem d_law_law_19 : decode code 19 = .ok (.astore_n 3, 1) := by decide +kernel
theorem d_law_law_20 : decode code 20 = .ok (.iconst 0, 1) := by decide +kernel
theorem d_law_law_21 : decode code 21 = .ok (.istore 4, 2) := by decide +kernel
theorem d_law_law_23 : decode code 23 = .ok (.iload 4, 2) := by decide +kernel
theorem d_law_law_25 : decode code 25 = .ok (.aload_n 0, 1) := by decide +kernel
theorem d_law_law_26 : decode code 26 = .ok (.arraylength, 1) := by decide +kernel
theorem d_law_law_27 : decode code 27 = .ok (.iconst 5, 1) := by decide +kernel
theorem d_law_law_28 : decode code 28 = .ok (.isub, 1) := by decide +kernel
theorem d_law_law_29 : decode code 29 = .ok (.if_icmp .gt 538, 3) := by decide +kernel
theorem d_law_law_32 : decode code 32 = .ok (.aload_n 0, 1) := by decide +kernel
theorem d_law_law_33 : decode code 33 = .ok (.iload 4, 2) := by decide +kernel
theorem d_law_law_35 : decode code 35 = .ok (.iaload, 1) := by decide +kernel
theorem d_law_law_36 : decode code 36 = .ok (.bipush 7, 2) := by decide +kernel
theorem d_law_law_38 : decode code 38 = .ok (.iand, 1) := by decide +kernel
theorem d_law_law_39 : decode code 39 = .ok (.tableswitch 522 0 7 #[45, 125, 217, 273, 286, 354, 410, 466], 45) := by decide +kernel
theorem d_law_law_84 : decode code 84 = .ok (.aload_n 1, 1) := by decide +kernel
theorem d_law_law_85 : decode code 85 = .ok (.aload_n 0, 1) := by decide +kernel
theorem d_law_law_86 : decode code 86 = .ok (.iload 4, 2) := by decide +kernel
theorem d_law_law_88 : decode code 88 = .ok (.iconst 1, 1) := by decide +kernel
theorem d_law_law_89 : decode code 89 = .ok (.iadd, 1) := by decide +kernel
theorem d_law_law_90 : decode code 90 = .ok (.iaload, 1) := by decide +kernel
theorem d_law_law_91 : decode code 91 = .ok (.aload_n 0, 1) := by decide +kernel
theorem d_law_law_92 : decode code 92 = .ok (.iload 4, 2) := by decide +kernel
theorem d_law_law_94 : decode code 94 = .ok (.iconst 2, 1) := by decide +kernel
theorem d_law_law_95 : decode code 95 = .ok (.iadd, 1) := by decide +kernel
theorem d_law_law_96 : decode code 96 = .ok (.iaload, 1) := by decide +kernel
theorem d_law_law_97 : decode code 97 = .ok (.aload_n 0, 1) := by decide +kernel
theorem d_law_law_98 : decode code 98 = .ok (.iload 4, 2) := by decide +kernel
theorem d_law_law_100 : decode code 100 = .ok (.iconst 3, 1) := by decide +kernel
theorem d_law_law_101 : decode code 101 = .ok (.iadd, 1) := by decide +kernel
theorem d_law_law_102 : decode code 102 = .ok (.iaload, 1) := by decide +kernel
theorem d_law_law_103 : decode code 103 = .ok (.aload_n 3, 1) := by decide +kernel
theorem d_law_law_104 : decode code 104 = .ok (.invokestatic 42, 3) := by decide +kernel
theorem d_law_law_107 : decode code 107 = .ok (.istore 5, 2) := by decide +kernel
theorem d_law_law_109 : decode code 109 = .ok (.aload_n 2, 1) := by decide +kernel
theorem d_law_law_110 : decode code 110 = .ok (.aload_n 0, 1) := by decide +kernel
theorem d_law_law_111 : decode code 111 = .ok (.iload 4, 2) := by decide +kernel
theorem d_law_law_113 : decode code 113 = .ok (.iconst 1, 1) := by decide +kernel
theorem d_law_law_114 : decode code 114 = .ok (.iadd, 1) := by decide +kernel
theorem d_law_law_115 : decode code 115 = .ok (.iaload, 1) := by decide +kernel
theorem d_law_law_116 : decode code 116 = .ok (.aload_n 0, 1) := by decide +kernel
theorem d_law_law_117 : decode code 117 = .ok (.iload 4, 2) := by decide +kernel
theorem d_law_law_119 : decode code 119 = .ok (.iconst 2, 1) := by decide +kernel
theorem d_law_law_120 : decode code 120 = .ok (.iadd, 1) := by decide +kernel
theorem d_law_law_121 : decode code 121 = .ok (.iaload, 1) := by decide +kernel
theorem d_law_law_122 : decode code 122 = .ok (.aload_n 0, 1) := by decide +kernel
theorem d_law_law_123 : decode code 123 = .ok (.iload 4, 2) := by decide +kernel
theorem d_law_law_125 : decode code 125 = .ok (.iconst 3, 1) := by decide +kernel
theorem d_law_law_126 : decode code 126 = .ok (.iadd, 1) := by decide +kernel
theorem d_law_law_127 : decode code 127 = .ok (.iaload, 1) := by decide +kernel
theorem d_law_law_128 : decode code 128 = .ok (.invokevirtual 47, 3) := by decide +kernel
theorem d_law_law_131 : decode code 131 = .ok (.istore 6, 2) := by decide +kernel
theorem d_law_law_133 : decode code 133 = .ok (.aload_n 2, 1) := by decide +kernel
theorem d_law_law_134 : decode code 134 = .ok (.invokevirtual 48, 3) := by decide +kernel
theorem d_law_law_137 : decode code 137 = .ok (.iload 5, 2) := by decide +kernel
theorem d_law_law_139 : decode code 139 = .ok (.if_icmp .eq 5, 3) := by decide +kernel
theorem d_law_law_142 : decode code 142 = .ok (.iconst 0, 1) := by decide +kernel
theorem d_law_law_143 : decode code 143 = .ok (.ireturn, 1) := by decide +kernel
theorem d_law_law_144 : decode code 144 = .ok (.iload 5, 2) := by decide +kernel
theorem d_law_law_146 : decode code 146 = .ok (.ifCond .ne 15, 3) := by decide +kernel
theorem d_law_law_149 : decode code 149 = .ok (.aload_n 3, 1) := by decide +kernel
theorem d_law_law_150 : decode code 150 = .ok (.iconst 0, 1) := by decide +kernel
theorem d_law_law_151 : decode code 151 = .ok (.laload, 1) := by decide +kernel
theorem d_law_law_152 : decode code 152 = .ok (.iload 6, 2) := by decide +kernel
theorem d_law_law_154 : decode code 154 = .ok (.i2l, 1) := by decide +kernel
theorem d_law_law_155 : decode code 155 = .ok (.lcmp, 1) := by decide +kernel
theorem d_law_law_156 : decode code 156 = .ok (.ifCond .eq 5, 3) := by decide +kernel
theorem d_law_law_159 : decode code 159 = .ok (.iconst 0, 1) := by decide +kernel
theorem d_law_law_160 : decode code 160 = .ok (.ireturn, 1) := by decide +kernel
theorem d_law_law_161 : decode code 161 = .ok (.goto 400, 3) := by decide +kernel
theorem d_law_law_164 : decode code 164 = .ok (.aload_n 1, 1) := by decide +kernel
theorem d_law_law_165 : decode code 165 = .ok (.aload_n 0, 1) := by decide +kernel
theorem d_law_law_166 : decode code 166 = .ok (.iload 4, 2) := by decide +kernel
theorem d_law_law_168 : decode code 168 = .ok (.iconst 1, 1) := by decide +kernel
theorem d_law_law_169 : decode code 169 = .ok (.iadd, 1) := by decide +kernel
theorem d_law_law_170 : decode code 170 = .ok (.iaload, 1) := by decide +kernel
theorem d_law_law_171 : decode code 171 = .ok (.aload_n 0, 1) := by decide +kernel
theorem d_law_law_172 : decode code 172 = .ok (.iload 4, 2) := by decide +kernel
theorem d_law_law_174 : decode code 174 = .ok (.iconst 2, 1) := by decide +kernel
theorem d_law_law_175 : decode code 175 = .ok (.iadd, 1) := by decide +kernel
theorem d_law_law_176 : decode code 176 = .ok (.iaload, 1) := by decide +kernel
theorem d_law_law_177 : decode code 177 = .ok (.aload_n 0, 1) := by decide +kernel
theorem d_law_law_178 : decode code 178 = .ok (.iload 4, 2) := by decide +kernel
theorem d_law_law_180 : decode code 180 = .ok (.iconst 3, 1) := by decide +kernel
theorem d_law_law_181 : decode code 181 = .ok (.iadd, 1) := by decide +kernel
theorem d_law_law_182 : decode code 182 = .ok (.iaload, 1) := by decide +kernel
theorem d_law_law_183 : decode code 183 = .ok (.aload_n 0, 1) := by decide +kernel
theorem d_law_law_184 : decode code 184 = .ok (.iload 4, 2) := by decide +kernel
theorem d_law_law_186 : decode code 186 = .ok (.iconst 4, 1) := by decide +kernel
theorem d_law_law_187 : decode code 187 = .ok (.iadd, 1) := by decide +kernel
theorem d_law_law_188 : decode code 188 = .ok (.iaload, 1) := by decide +kernel
theorem d_law_law_189 : decode code 189 = .ok (.aload_n 3, 1) := by decide +kernel
theorem d_law_law_190 : decode code 190 = .ok (.invokestatic 52, 3) := by decide +kernel
theorem d_law_law_193 : decode code 193 = .ok (.istore 5, 2) := by decide +kernel
theorem d_law_law_195 : decode code 195 = .ok (.aload_n 2, 1) := by decide +kernel
theorem d_law_law_196 : decode code 196 = .ok (.aload_n 0, 1) := by decide +kernel
theorem d_law_law_197 : decode code 197 = .ok (.iload 4, 2) := by decide +kernel
theorem d_law_law_199 : decode code 199 = .ok (.iconst 1, 1) := by decide +kernel
theorem d_law_law_200 : decode code 200 = .ok (.iadd, 1) := by decide +kernel
theorem d_law_law_201 : decode code 201 = .ok (.iaload, 1) := by decide +kernel
theorem d_law_law_202 : decode code 202 = .ok (.aload_n 0, 1) := by decide +kernel
theorem d_law_law_203 : decode code 203 = .ok (.iload 4, 2) := by decide +kernel
theorem d_law_law_205 : decode code 205 = .ok (.iconst 2, 1) := by decide +kernel
theorem d_law_law_206 : decode code 206 = .ok (.iadd, 1) := by decide +kernel
theorem d_law_law_207 : decode code 207 = .ok (.iaload, 1) := by decide +kernel
theorem d_law_law_208 : decode code 208 = .ok (.aload_n 0, 1) := by decide +kernel
theorem d_law_law_209 : decode code 209 = .ok (.iload 4, 2) := by decide +kernel
theorem d_law_law_211 : decode code 211 = .ok (.iconst 3, 1) := by decide +kernel
theorem d_law_law_212 : decode code 212 = .ok (.iadd, 1) := by decide +kernel
theorem d_law_law_213 : decode code 213 = .ok (.iaload, 1) := by decide +kernel
theorem d_law_law_214 : decode code 214 = .ok (.aload_n 0, 1) := by decide +kernel
theorem d_law_law_215 : decode code 215 = .ok (.iload 4, 2) := by decide +kernel
theorem d_law_law_217 : decode code 217 = .ok (.iconst 4, 1) := by decide +kernel
theorem d_law_law_218 : decode code 218 = .ok (.iadd, 1) := by decide +kernel
theorem d_law_law_219 : decode code 219 = .ok (.iaload, 1) := by decide +kernel
theorem d_law_law_220 : decode code 220 = .ok (.invokevirtual 55, 3) := by decide +kernel
theorem d_law_law_223 : decode code 223 = .ok (.istore 6, 2) := by decide +kernel
theorem d_law_law_225 : decode code 225 = .ok (.aload_n 2, 1) := by decide +kernel
theorem d_law_law_226 : decode code 226 = .ok (.invokevirtual 48, 3) := by decide +kernel
theorem d_law_law_229 : decode code 229 = .ok (.iload 5, 2) := by decide +kernel
theorem d_law_law_231 : decode code 231 = .ok (.if_icmp .eq 5, 3) := by decide +kernel
theorem d_law_law_234 : decode code 234 = .ok (.iconst 0, 1) := by decide +kernel
theorem d_law_law_235 : decode code 235 = .ok (.ireturn, 1) := by decide +kernel
theorem d_law_law_236 : decode code 236 = .ok (.iload 5, 2) := by decide +kernel
theorem d_law_law_238 : decode code 238 = .ok (.ifCond .ne 15, 3) := by decide +kernel
theorem d_law_law_241 : decode code 241 = .ok (.aload_n 3, 1) := by decide +kernel
theorem d_law_law_242 : decode code 242 = .ok (.iconst 0, 1) := by decide +kernel
theorem d_law_law_243 : decode code 243 = .ok (.laload, 1) := by decide +kernel
theorem d_law_law_244 : decode code 244 = .ok (.iload 6, 2) := by decide +kernel
theorem d_law_law_246 : decode code 246 = .ok (.i2l, 1) := by decide +kernel
theorem d_law_law_247 : decode code 247 = .ok (.lcmp, 1) := by decide +kernel
theorem d_law_law_248 : decode code 248 = .ok (.ifCond .eq 5, 3) := by decide +kernel
theorem d_law_law_251 : decode code 251 = .ok (.iconst 0, 1) := by decide +kernel
theorem d_law_law_252 : decode code 252 = .ok (.ireturn, 1) := by decide +kernel
theorem d_law_law_253 : decode code 253 = .ok (.goto 308, 3) := by decide +kernel
theorem d_law_law_256 : decode code 256 = .ok (.aload_n 1, 1) := by decide +kernel
theorem d_law_law_257 : decode code 257 = .ok (.aload_n 0, 1) := by decide +kernel
theorem d_law_law_258 : decode code 258 = .ok (.iload 4, 2) := by decide +kernel
theorem d_law_law_260 : decode code 260 = .ok (.iconst 1, 1) := by decide +kernel
theorem d_law_law_261 : decode code 261 = .ok (.iadd, 1) := by decide +kernel
theorem d_law_law_262 : decode code 262 = .ok (.iaload, 1) := by decide +kernel
theorem d_law_law_263 : decode code 263 = .ok (.aload_n 3, 1) := by decide +kernel
theorem d_law_law_264 : decode code 264 = .ok (.invokestatic 56, 3) := by decide +kernel
theorem d_law_law_267 : decode code 267 = .ok (.istore 5, 2) := by decide +kernel
theorem d_law_law_269 : decode code 269 = .ok (.aload_n 2, 1) := by decide +kernel
theorem d_law_law_270 : decode code 270 = .ok (.aload_n 0, 1) := by decide +kernel
theorem d_law_law_271 : decode code 271 = .ok (.iload 4, 2) := by decide +kernel
theorem d_law_law_273 : decode code 273 = .ok (.iconst 1, 1) := by decide +kernel
theorem d_law_law_274 : decode code 274 = .ok (.iadd, 1) := by decide +kernel
theorem d_law_law_275 : decode code 275 = .ok (.iaload, 1) := by decide +kernel
theorem d_law_law_276 : decode code 276 = .ok (.invokevirtual 59, 3) := by decide +kernel
theorem d_law_law_279 : decode code 279 = .ok (.istore 6, 2) := by decide +kernel
theorem d_law_law_281 : decode code 281 = .ok (.aload_n 2, 1) := by decide +kernel
theorem d_law_law_282 : decode code 282 = .ok (.invokevirtual 48, 3) := by decide +kernel
theorem d_law_law_285 : decode code 285 = .ok (.iload 5, 2) := by decide +kernel
theorem d_law_law_287 : decode code 287 = .ok (.if_icmp .eq 5, 3) := by decide +kernel
theorem d_law_law_290 : decode code 290 = .ok (.iconst 0, 1) := by decide +kernel
theorem d_law_law_291 : decode code 291 = .ok (.ireturn, 1) := by decide +kernel
theorem d_law_law_292 : decode code 292 = .ok (.iload 5, 2) := by decide +kernel
theorem d_law_law_294 : decode code 294 = .ok (.ifCond .ne 15, 3) := by decide +kernel
theorem d_law_law_297 : decode code 297 = .ok (.aload_n 3, 1) := by decide +kernel
theorem d_law_law_298 : decode code 298 = .ok (.iconst 0, 1) := by decide +kernel
theorem d_law_law_299 : decode code 299 = .ok (.laload, 1) := by decide +kernel
theorem d_law_law_300 : decode code 300 = .ok (.iload 6, 2) := by decide +kernel
theorem d_law_law_302 : decode code 302 = .ok (.i2l, 1) := by decide +kernel
theorem d_law_law_303 : decode code 303 = .ok (.lcmp, 1) := by decide +kernel
theorem d_law_law_304 : decode code 304 = .ok (.ifCond .eq 5, 3) := by decide +kernel
theorem d_law_law_307 : decode code 307 = .ok (.iconst 0, 1) := by decide +kernel
theorem d_law_law_308 : decode code 308 = .ok (.ireturn, 1) := by decide +kernel
theorem d_law_law_309 : decode code 309 = .ok (.goto 252, 3) := by decide +kernel
theorem d_law_law_312 : decode code 312 = .ok (.aload_n 1, 1) := by decide +kernel
theorem d_law_law_313 : decode code 313 = .ok (.invokevirtual 60, 3) := by decide +kernel
theorem d_law_law_316 : decode code 316 = .ok (.aload_n 2, 1) := by decide +kernel
theorem d_law_law_317 : decode code 317 = .ok (.invokevirtual 63, 3) := by decide +kernel
theorem d_law_law_320 : decode code 320 = .ok (.if_icmp .eq 241, 3) := by decide +kernel
theorem d_law_law_323 : decode code 323 = .ok (.iconst 0, 1) := by decide +kernel
theorem d_law_law_324 : decode code 324 = .ok (.ireturn, 1) := by decide +kernel
theorem d_law_law_325 : decode code 325 = .ok (.aload_n 1, 1) := by decide +kernel
theorem d_law_law_326 : decode code 326 = .ok (.aload_n 0, 1) := by decide +kernel
theorem d_law_law_327 : decode code 327 = .ok (.iload 4, 2) := by decide +kernel
theorem d_law_law_329 : decode code 329 = .ok (.iconst 1, 1) := by decide +kernel
theorem d_law_law_330 : decode code 330 = .ok (.iadd, 1) := by decide +kernel
theorem d_law_law_331 : decode code 331 = .ok (.iaload, 1) := by decide +kernel
theorem d_law_law_332 : decode code 332 = .ok (.aload_n 0, 1) := by decide +kernel
theorem d_law_law_333 : decode code 333 = .ok (.iload 4, 2) := by decide +kernel
theorem d_law_law_335 : decode code 335 = .ok (.iconst 2, 1) := by decide +kernel
theorem d_law_law_336 : decode code 336 = .ok (.iadd, 1) := by decide +kernel
theorem d_law_law_337 : decode code 337 = .ok (.iaload, 1) := by decide +kernel
theorem d_law_law_338 : decode code 338 = .ok (.aload_n 3, 1) := by decide +kernel
theorem d_law_law_339 : decode code 339 = .ok (.invokestatic 64, 3) := by decide +kernel
theorem d_law_law_342 : decode code 342 = .ok (.istore 5, 2) := by decide +kernel
theorem d_law_law_344 : decode code 344 = .ok (.aload_n 2, 1) := by decide +kernel
theorem d_law_law_345 : decode code 345 = .ok (.aload_n 0, 1) := by decide +kernel
theorem d_law_law_346 : decode code 346 = .ok (.iload 4, 2) := by decide +kernel
theorem d_law_law_348 : decode code 348 = .ok (.iconst 1, 1) := by decide +kernel
theorem d_law_law_349 : decode code 349 = .ok (.iadd, 1) := by decide +kernel
theorem d_law_law_350 : decode code 350 = .ok (.iaload, 1) := by decide +kernel
theorem d_law_law_351 : decode code 351 = .ok (.aload_n 0, 1) := by decide +kernel
theorem d_law_law_352 : decode code 352 = .ok (.iload 4, 2) := by decide +kernel
theorem d_law_law_354 : decode code 354 = .ok (.iconst 2, 1) := by decide +kernel
theorem d_law_law_355 : decode code 355 = .ok (.iadd, 1) := by decide +kernel
theorem d_law_law_356 : decode code 356 = .ok (.iaload, 1) := by decide +kernel
theorem d_law_law_357 : decode code 357 = .ok (.invokevirtual 67, 3) := by decide +kernel
theorem d_law_law_360 : decode code 360 = .ok (.istore 6, 2) := by decide +kernel
theorem d_law_law_362 : decode code 362 = .ok (.aload_n 2, 1) := by decide +kernel
theorem d_law_law_363 : decode code 363 = .ok (.invokevirtual 48, 3) := by decide +kernel
theorem d_law_law_366 : decode code 366 = .ok (.iload 5, 2) := by decide +kernel
theorem d_law_law_368 : decode code 368 = .ok (.if_icmp .eq 5, 3) := by decide +kernel
theorem d_law_law_371 : decode code 371 = .ok (.iconst 0, 1) := by decide +kernel
theorem d_law_law_372 : decode code 372 = .ok (.ireturn, 1) := by decide +kernel
theorem d_law_law_373 : decode code 373 = .ok (.iload 5, 2) := by decide +kernel
theorem d_law_law_375 : decode code 375 = .ok (.ifCond .ne 15, 3) := by decide +kernel
theorem d_law_law_378 : decode code 378 = .ok (.aload_n 3, 1) := by decide +kernel
theorem d_law_law_379 : decode code 379 = .ok (.iconst 0, 1) := by decide +kernel
theorem d_law_law_380 : decode code 380 = .ok (.laload, 1) := by decide +kernel
theorem d_law_law_381 : decode code 381 = .ok (.iload 6, 2) := by decide +kernel
theorem d_law_law_383 : decode code 383 = .ok (.i2l, 1) := by decide +kernel
theorem d_law_law_384 : decode code 384 = .ok (.lcmp, 1) := by decide +kernel
theorem d_law_law_385 : decode code 385 = .ok (.ifCond .eq 5, 3) := by decide +kernel
theorem d_law_law_388 : decode code 388 = .ok (.iconst 0, 1) := by decide +kernel
theorem d_law_law_389 : decode code 389 = .ok (.ireturn, 1) := by decide +kernel
theorem d_law_law_390 : decode code 390 = .ok (.goto 171, 3) := by decide +kernel
theorem d_law_law_393 : decode code 393 = .ok (.aload_n 1, 1) := by decide +kernel
theorem d_law_law_394 : decode code 394 = .ok (.aload_n 0, 1) := by decide +kernel
theorem d_law_law_395 : decode code 395 = .ok (.iload 4, 2) := by decide +kernel
theorem d_law_law_397 : decode code 397 = .ok (.iconst 1, 1) := by decide +kernel
theorem d_law_law_398 : decode code 398 = .ok (.iadd, 1) := by decide +kernel
theorem d_law_law_399 : decode code 399 = .ok (.iaload, 1) := by decide +kernel
theorem d_law_law_400 : decode code 400 = .ok (.aload_n 3, 1) := by decide +kernel
theorem d_law_law_401 : decode code 401 = .ok (.invokestatic 68, 3) := by decide +kernel
theorem d_law_law_404 : decode code 404 = .ok (.istore 5, 2) := by decide +kernel
theorem d_law_law_406 : decode code 406 = .ok (.aload_n 2, 1) := by decide +kernel
theorem d_law_law_407 : decode code 407 = .ok (.aload_n 0, 1) := by decide +kernel
theorem d_law_law_408 : decode code 408 = .ok (.iload 4, 2) := by decide +kernel
theorem d_law_law_410 : decode code 410 = .ok (.iconst 1, 1) := by decide +kernel
theorem d_law_law_411 : decode code 411 = .ok (.iadd, 1) := by decide +kernel
theorem d_law_law_412 : decode code 412 = .ok (.iaload, 1) := by decide +kernel
theorem d_law_law_413 : decode code 413 = .ok (.invokevirtual 70, 3) := by decide +kernel
theorem d_law_law_416 : decode code 416 = .ok (.istore 6, 2) := by decide +kernel
theorem d_law_law_418 : decode code 418 = .ok (.aload_n 2, 1) := by decide +kernel
theorem d_law_law_419 : decode code 419 = .ok (.invokevirtual 48, 3) := by decide +kernel
theorem d_law_law_422 : decode code 422 = .ok (.iload 5, 2) := by decide +kernel
theorem d_law_law_424 : decode code 424 = .ok (.if_icmp .eq 5, 3) := by decide +kernel
theorem d_law_law_427 : decode code 427 = .ok (.iconst 0, 1) := by decide +kernel
theorem d_law_law_428 : decode code 428 = .ok (.ireturn, 1) := by decide +kernel
theorem d_law_law_429 : decode code 429 = .ok (.iload 5, 2) := by decide +kernel
theorem d_law_law_431 : decode code 431 = .ok (.ifCond .ne 15, 3) := by decide +kernel
theorem d_law_law_434 : decode code 434 = .ok (.aload_n 3, 1) := by decide +kernel
theorem d_law_law_435 : decode code 435 = .ok (.iconst 0, 1) := by decide +kernel
theorem d_law_law_436 : decode code 436 = .ok (.laload, 1) := by decide +kernel
theorem d_law_law_437 : decode code 437 = .ok (.iload 6, 2) := by decide +kernel
theorem d_law_law_439 : decode code 439 = .ok (.i2l, 1) := by decide +kernel
theorem d_law_law_440 : decode code 440 = .ok (.lcmp, 1) := by decide +kernel
theorem d_law_law_441 : decode code 441 = .ok (.ifCond .eq 5, 3) := by decide +kernel
theorem d_law_law_444 : decode code 444 = .ok (.iconst 0, 1) := by decide +kernel
theorem d_law_law_445 : decode code 445 = .ok (.ireturn, 1) := by decide +kernel
theorem d_law_law_446 : decode code 446 = .ok (.goto 115, 3) := by decide +kernel
theorem d_law_law_449 : decode code 449 = .ok (.aload_n 1, 1) := by decide +kernel
theorem d_law_law_450 : decode code 450 = .ok (.aload_n 0, 1) := by decide +kernel
theorem d_law_law_451 : decode code 451 = .ok (.iload 4, 2) := by decide +kernel
theorem d_law_law_453 : decode code 453 = .ok (.iconst 1, 1) := by decide +kernel
theorem d_law_law_454 : decode code 454 = .ok (.iadd, 1) := by decide +kernel
theorem d_law_law_455 : decode code 455 = .ok (.iaload, 1) := by decide +kernel
theorem d_law_law_456 : decode code 456 = .ok (.aload_n 3, 1) := by decide +kernel
theorem d_law_law_457 : decode code 457 = .ok (.invokestatic 71, 3) := by decide +kernel
theorem d_law_law_460 : decode code 460 = .ok (.istore 5, 2) := by decide +kernel
theorem d_law_law_462 : decode code 462 = .ok (.aload_n 2, 1) := by decide +kernel
theorem d_law_law_463 : decode code 463 = .ok (.aload_n 0, 1) := by decide +kernel
theorem d_law_law_464 : decode code 464 = .ok (.iload 4, 2) := by decide +kernel
theorem d_law_law_466 : decode code 466 = .ok (.iconst 1, 1) := by decide +kernel
theorem d_law_law_467 : decode code 467 = .ok (.iadd, 1) := by decide +kernel
theorem d_law_law_468 : decode code 468 = .ok (.iaload, 1) := by decide +kernel
theorem d_law_law_469 : decode code 469 = .ok (.invokevirtual 73, 3) := by decide +kernel
theorem d_law_law_472 : decode code 472 = .ok (.istore 6, 2) := by decide +kernel
theorem d_law_law_474 : decode code 474 = .ok (.aload_n 2, 1) := by decide +kernel
theorem d_law_law_475 : decode code 475 = .ok (.invokevirtual 48, 3) := by decide +kernel
theorem d_law_law_478 : decode code 478 = .ok (.iload 5, 2) := by decide +kernel
theorem d_law_law_480 : decode code 480 = .ok (.if_icmp .eq 5, 3) := by decide +kernel
theorem d_law_law_483 : decode code 483 = .ok (.iconst 0, 1) := by decide +kernel
theorem d_law_law_484 : decode code 484 = .ok (.ireturn, 1) := by decide +kernel
theorem d_law_law_485 : decode code 485 = .ok (.iload 5, 2) := by decide +kernel
theorem d_law_law_487 : decode code 487 = .ok (.ifCond .ne 15, 3) := by decide +kernel
theorem d_law_law_490 : decode code 490 = .ok (.aload_n 3, 1) := by decide +kernel
theorem d_law_law_491 : decode code 491 = .ok (.iconst 0, 1) := by decide +kernel
theorem d_law_law_492 : decode code 492 = .ok (.laload, 1) := by decide +kernel
theorem d_law_law_493 : decode code 493 = .ok (.iload 6, 2) := by decide +kernel
theorem d_law_law_495 : decode code 495 = .ok (.i2l, 1) := by decide +kernel
theorem d_law_law_496 : decode code 496 = .ok (.lcmp, 1) := by decide +kernel
theorem d_law_law_497 : decode code 497 = .ok (.ifCond .eq 5, 3) := by decide +kernel
theorem d_law_law_500 : decode code 500 = .ok (.iconst 0, 1) := by decide +kernel
theorem d_law_law_501 : decode code 501 = .ok (.ireturn, 1) := by decide +kernel
theorem d_law_law_502 : decode code 502 = .ok (.goto 59, 3) := by decide +kernel
theorem d_law_law_505 : decode code 505 = .ok (.aload_n 1, 1) := by decide +kernel
theorem d_law_law_506 : decode code 506 = .ok (.aload_n 0, 1) := by decide +kernel
theorem d_law_law_507 : decode code 507 = .ok (.iload 4, 2) := by decide +kernel
theorem d_law_law_509 : decode code 509 = .ok (.iconst 1, 1) := by decide +kernel
theorem d_law_law_510 : decode code 510 = .ok (.iadd, 1) := by decide +kernel
theorem d_law_law_511 : decode code 511 = .ok (.iaload, 1) := by decide +kernel
theorem d_law_law_512 : decode code 512 = .ok (.aload_n 3, 1) := by decide +kernel
theorem d_law_law_513 : decode code 513 = .ok (.invokestatic 74, 3) := by decide +kernel
theorem d_law_law_516 : decode code 516 = .ok (.istore 5, 2) := by decide +kernel
theorem d_law_law_518 : decode code 518 = .ok (.aload_n 2, 1) := by decide +kernel
theorem d_law_law_519 : decode code 519 = .ok (.aload_n 0, 1) := by decide +kernel
theorem d_law_law_520 : decode code 520 = .ok (.iload 4, 2) := by decide +kernel
theorem d_law_law_522 : decode code 522 = .ok (.iconst 1, 1) := by decide +kernel
theorem d_law_law_523 : decode code 523 = .ok (.iadd, 1) := by decide +kernel
theorem d_law_law_524 : decode code 524 = .ok (.iaload, 1) := by decide +kernel
theorem d_law_law_525 : decode code 525 = .ok (.invokevirtual 76, 3) := by decide +kernel
theorem d_law_law_528 : decode code 528 = .ok (.istore 6, 2) := by decide +kernel
theorem d_law_law_530 : decode code 530 = .ok (.aload_n 2, 1) := by decide +kernel
theorem d_law_law_531 : decode code 531 = .ok (.invokevirtual 48, 3) := by decide +kernel
theorem d_law_law_534 : decode code 534 = .ok (.iload 5, 2) := by decide +kernel
theorem d_law_law_536 : decode code 536 = .ok (.if_icmp .eq 5, 3) := by decide +kernel
theorem d_law_law_539 : decode code 539 = .ok (.iconst 0, 1) := by decide +kernel
theorem d_law_law_540 : decode code 540 = .ok (.ireturn, 1) := by decide +kernel
theorem d_law_law_541 : decode code 541 = .ok (.iload 5, 2) := by decide +kernel
theorem d_law_law_543 : decode code 543 = .ok (.ifCond .ne 15, 3) := by decide +kernel
theorem d_law_law_546 : decode code 546 = .ok (.aload_n 3, 1) := by decide +kernel
theorem d_law_law_547 : decode code 547 = .ok (.iconst 0, 1) := by decide +kernel
theorem d_law_law_548 : decode code 548 = .ok (.laload, 1) := by decide +kernel
theorem d_law_law_549 : decode code 549 = .ok (.iload 6, 2) := by decide +kernel
theorem d_law_law_551 : decode code 551 = .ok (.i2l, 1) := by decide +kernel
theorem d_law_law_552 : decode code 552 = .ok (.lcmp, 1) := by decide +kernel
theorem d_law_law_553 : decode code 553 = .ok (.ifCond .eq 5, 3) := by decide +kernel
theorem d_law_law_556 : decode code 556 = .ok (.iconst 0, 1) := by decide +kernel
theorem d_law_law_557 : decode code 557 = .ok (.ireturn, 1) := by decide +kernel
theorem d_law_law_558 : decode code 558 = .ok (.goto 3, 3) := by decide +kernel
theorem d_law_law_561 : decode code 561 = .ok (.iinc 4 5, 3) := by decide +kernel
theorem d_law_law_564 : decode code 564 = .ok (.goto (-541), 3) := by decide +kernel
theorem d_law_law_567 : decode code 567 = .ok (.iconst 1, 1) := by decide +kernel
theorem d_law_law_568 : decode code 568 = .ok (.ireturn, 1) := by decide +kernel
