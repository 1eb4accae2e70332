/-! the law's cases (mod_l.py) -/
theorem dl_0 : decode code 0 = .ok (.new 8, 3) := by decide +kernel
theorem dl_3 : decode code 3 = .ok (.dup, 1) := by decide +kernel
theorem dl_4 : decode code 4 = .ok (.invokespecial 21, 3) := by decide +kernel
theorem dl_7 : decode code 7 = .ok (.astore_n 1, 1) := by decide +kernel
theorem dl_8 : decode code 8 = .ok (.new 22, 3) := by decide +kernel
theorem dl_11 : decode code 11 = .ok (.dup, 1) := by decide +kernel
theorem dl_12 : decode code 12 = .ok (.invokespecial 24, 3) := by decide +kernel
theorem dl_15 : decode code 15 = .ok (.astore_n 2, 1) := by decide +kernel
theorem dl_16 : decode code 16 = .ok (.iconst 1, 1) := by decide +kernel
theorem dl_17 : decode code 17 = .ok (.newarray .long, 2) := by decide +kernel
theorem dl_19 : decode code 19 = .ok (.astore_n 3, 1) := by decide +kernel
theorem dl_20 : decode code 20 = .ok (.iconst 0, 1) := by decide +kernel
theorem dl_21 : decode code 21 = .ok (.istore 4, 2) := by decide +kernel
theorem dl_23 : decode code 23 = .ok (.iload 4, 2) := by decide +kernel
theorem dl_25 : decode code 25 = .ok (.aload_n 0, 1) := by decide +kernel
theorem dl_26 : decode code 26 = .ok (.arraylength, 1) := by decide +kernel
theorem dl_27 : decode code 27 = .ok (.iconst 4, 1) := by decide +kernel
theorem dl_28 : decode code 28 = .ok (.isub, 1) := by decide +kernel
theorem dl_29 : decode code 29 = .ok (.if_icmp .gt 414, 3) := by decide +kernel
theorem dl_32 : decode code 32 = .ok (.aload_n 0, 1) := by decide +kernel
theorem dl_33 : decode code 33 = .ok (.iload 4, 2) := by decide +kernel
theorem dl_35 : decode code 35 = .ok (.iaload, 1) := by decide +kernel
theorem dl_36 : decode code 36 = .ok (.bipush 15, 2) := by decide +kernel
theorem dl_38 : decode code 38 = .ok (.iand, 1) := by decide +kernel
theorem dl_39 : decode code 39 = .ok (.tableswitch 398 0 8 #[49, 118, 129, 173, 186, 211, 299, 336, 373], 49) := by decide +kernel
theorem dl_88 : decode code 88 = .ok (.aload_n 1, 1) := by decide +kernel
theorem dl_89 : decode code 89 = .ok (.aload_n 0, 1) := by decide +kernel
theorem dl_90 : decode code 90 = .ok (.iload 4, 2) := by decide +kernel
theorem dl_92 : decode code 92 = .ok (.iconst 1, 1) := by decide +kernel
theorem dl_93 : decode code 93 = .ok (.iadd, 1) := by decide +kernel
theorem dl_94 : decode code 94 = .ok (.iaload, 1) := by decide +kernel
theorem dl_95 : decode code 95 = .ok (.aload_n 0, 1) := by decide +kernel
theorem dl_96 : decode code 96 = .ok (.iload 4, 2) := by decide +kernel
theorem dl_98 : decode code 98 = .ok (.iconst 2, 1) := by decide +kernel
theorem dl_99 : decode code 99 = .ok (.iadd, 1) := by decide +kernel
theorem dl_100 : decode code 100 = .ok (.iaload, 1) := by decide +kernel
theorem dl_101 : decode code 101 = .ok (.i2l, 1) := by decide +kernel
theorem dl_102 : decode code 102 = .ok (.bipush 32, 2) := by decide +kernel
theorem dl_104 : decode code 104 = .ok (.lshl, 1) := by decide +kernel
theorem dl_105 : decode code 105 = .ok (.aload_n 0, 1) := by decide +kernel
theorem dl_106 : decode code 106 = .ok (.iload 4, 2) := by decide +kernel
theorem dl_108 : decode code 108 = .ok (.iconst 3, 1) := by decide +kernel
theorem dl_109 : decode code 109 = .ok (.iadd, 1) := by decide +kernel
theorem dl_110 : decode code 110 = .ok (.iaload, 1) := by decide +kernel
theorem dl_111 : decode code 111 = .ok (.i2l, 1) := by decide +kernel
theorem dl_112 : decode code 112 = .ok (.ldc2_w 25, 3) := by decide +kernel
theorem dl_115 : decode code 115 = .ok (.land, 1) := by decide +kernel
theorem dl_116 : decode code 116 = .ok (.lor, 1) := by decide +kernel
theorem dl_117 : decode code 117 = .ok (.invokevirtual 27, 3) := by decide +kernel
theorem dl_120 : decode code 120 = .ok (.aload_n 2, 1) := by decide +kernel
theorem dl_121 : decode code 121 = .ok (.aload_n 0, 1) := by decide +kernel
theorem dl_122 : decode code 122 = .ok (.iload 4, 2) := by decide +kernel
theorem dl_124 : decode code 124 = .ok (.iconst 1, 1) := by decide +kernel
theorem dl_125 : decode code 125 = .ok (.iadd, 1) := by decide +kernel
theorem dl_126 : decode code 126 = .ok (.iaload, 1) := by decide +kernel
theorem dl_127 : decode code 127 = .ok (.aload_n 0, 1) := by decide +kernel
theorem dl_128 : decode code 128 = .ok (.iload 4, 2) := by decide +kernel
theorem dl_130 : decode code 130 = .ok (.iconst 2, 1) := by decide +kernel
theorem dl_131 : decode code 131 = .ok (.iadd, 1) := by decide +kernel
theorem dl_132 : decode code 132 = .ok (.iaload, 1) := by decide +kernel
theorem dl_133 : decode code 133 = .ok (.i2l, 1) := by decide +kernel
theorem dl_134 : decode code 134 = .ok (.bipush 32, 2) := by decide +kernel
theorem dl_136 : decode code 136 = .ok (.lshl, 1) := by decide +kernel
theorem dl_137 : decode code 137 = .ok (.aload_n 0, 1) := by decide +kernel
theorem dl_138 : decode code 138 = .ok (.iload 4, 2) := by decide +kernel
theorem dl_140 : decode code 140 = .ok (.iconst 3, 1) := by decide +kernel
theorem dl_141 : decode code 141 = .ok (.iadd, 1) := by decide +kernel
theorem dl_142 : decode code 142 = .ok (.iaload, 1) := by decide +kernel
theorem dl_143 : decode code 143 = .ok (.i2l, 1) := by decide +kernel
theorem dl_144 : decode code 144 = .ok (.ldc2_w 25, 3) := by decide +kernel
theorem dl_147 : decode code 147 = .ok (.land, 1) := by decide +kernel
theorem dl_148 : decode code 148 = .ok (.lor, 1) := by decide +kernel
theorem dl_149 : decode code 149 = .ok (.invokevirtual 31, 3) := by decide +kernel
theorem dl_152 : decode code 152 = .ok (.if_icmp .eq 285, 3) := by decide +kernel
theorem dl_157 : decode code 157 = .ok (.aload_n 1, 1) := by decide +kernel
theorem dl_158 : decode code 158 = .ok (.invokevirtual 32, 3) := by decide +kernel
theorem dl_161 : decode code 161 = .ok (.aload_n 2, 1) := by decide +kernel
theorem dl_162 : decode code 162 = .ok (.invokevirtual 35, 3) := by decide +kernel
theorem dl_165 : decode code 165 = .ok (.goto 272, 3) := by decide +kernel
theorem dl_168 : decode code 168 = .ok (.aload_n 1, 1) := by decide +kernel
theorem dl_169 : decode code 169 = .ok (.aload_n 3, 1) := by decide +kernel
theorem dl_170 : decode code 170 = .ok (.invokestatic 36, 3) := by decide +kernel
theorem dl_173 : decode code 173 = .ok (.istore 5, 2) := by decide +kernel
theorem dl_175 : decode code 175 = .ok (.aload_n 2, 1) := by decide +kernel
theorem dl_176 : decode code 176 = .ok (.invokevirtual 41, 3) := by decide +kernel
theorem dl_179 : decode code 179 = .ok (.istore 6, 2) := by decide +kernel
theorem dl_181 : decode code 181 = .ok (.aload_n 2, 1) := by decide +kernel
theorem dl_182 : decode code 182 = .ok (.invokevirtual 42, 3) := by decide +kernel
theorem dl_185 : decode code 185 = .ok (.iload 5, 2) := by decide +kernel
theorem dl_187 : decode code 187 = .ok (.if_icmp .eq 5, 3) := by decide +kernel
theorem dl_192 : decode code 192 = .ok (.iload 5, 2) := by decide +kernel
theorem dl_194 : decode code 194 = .ok (.ifCond .ne 15, 3) := by decide +kernel
theorem dl_197 : decode code 197 = .ok (.aload_n 3, 1) := by decide +kernel
theorem dl_198 : decode code 198 = .ok (.iconst 0, 1) := by decide +kernel
theorem dl_199 : decode code 199 = .ok (.laload, 1) := by decide +kernel
theorem dl_200 : decode code 200 = .ok (.iload 6, 2) := by decide +kernel
theorem dl_202 : decode code 202 = .ok (.i2l, 1) := by decide +kernel
theorem dl_203 : decode code 203 = .ok (.lcmp, 1) := by decide +kernel
theorem dl_204 : decode code 204 = .ok (.ifCond .eq 5, 3) := by decide +kernel
theorem dl_209 : decode code 209 = .ok (.goto 228, 3) := by decide +kernel
theorem dl_212 : decode code 212 = .ok (.aload_n 1, 1) := by decide +kernel
theorem dl_213 : decode code 213 = .ok (.invokevirtual 45, 3) := by decide +kernel
theorem dl_216 : decode code 216 = .ok (.aload_n 2, 1) := by decide +kernel
theorem dl_217 : decode code 217 = .ok (.invokevirtual 48, 3) := by decide +kernel
theorem dl_220 : decode code 220 = .ok (.if_icmp .eq 217, 3) := by decide +kernel
theorem dl_225 : decode code 225 = .ok (.aload_n 1, 1) := by decide +kernel
theorem dl_226 : decode code 226 = .ok (.aload_n 0, 1) := by decide +kernel
theorem dl_227 : decode code 227 = .ok (.iload 4, 2) := by decide +kernel
theorem dl_229 : decode code 229 = .ok (.iconst 1, 1) := by decide +kernel
theorem dl_230 : decode code 230 = .ok (.iadd, 1) := by decide +kernel
theorem dl_231 : decode code 231 = .ok (.iaload, 1) := by decide +kernel
theorem dl_232 : decode code 232 = .ok (.invokevirtual 49, 3) := by decide +kernel
theorem dl_235 : decode code 235 = .ok (.aload_n 2, 1) := by decide +kernel
theorem dl_236 : decode code 236 = .ok (.aload_n 0, 1) := by decide +kernel
theorem dl_237 : decode code 237 = .ok (.iload 4, 2) := by decide +kernel
theorem dl_239 : decode code 239 = .ok (.iconst 1, 1) := by decide +kernel
theorem dl_240 : decode code 240 = .ok (.iadd, 1) := by decide +kernel
theorem dl_241 : decode code 241 = .ok (.iaload, 1) := by decide +kernel
theorem dl_242 : decode code 242 = .ok (.invokevirtual 53, 3) := by decide +kernel
theorem dl_245 : decode code 245 = .ok (.if_icmp .eq 192, 3) := by decide +kernel
theorem dl_250 : decode code 250 = .ok (.aload_n 1, 1) := by decide +kernel
theorem dl_251 : decode code 251 = .ok (.aload_n 0, 1) := by decide +kernel
theorem dl_252 : decode code 252 = .ok (.iload 4, 2) := by decide +kernel
theorem dl_254 : decode code 254 = .ok (.iconst 1, 1) := by decide +kernel
theorem dl_255 : decode code 255 = .ok (.iadd, 1) := by decide +kernel
theorem dl_256 : decode code 256 = .ok (.iaload, 1) := by decide +kernel
theorem dl_257 : decode code 257 = .ok (.i2l, 1) := by decide +kernel
theorem dl_258 : decode code 258 = .ok (.bipush 32, 2) := by decide +kernel
theorem dl_260 : decode code 260 = .ok (.lshl, 1) := by decide +kernel
theorem dl_261 : decode code 261 = .ok (.aload_n 0, 1) := by decide +kernel
theorem dl_262 : decode code 262 = .ok (.iload 4, 2) := by decide +kernel
theorem dl_264 : decode code 264 = .ok (.iconst 2, 1) := by decide +kernel
theorem dl_265 : decode code 265 = .ok (.iadd, 1) := by decide +kernel
theorem dl_266 : decode code 266 = .ok (.iaload, 1) := by decide +kernel
theorem dl_267 : decode code 267 = .ok (.i2l, 1) := by decide +kernel
theorem dl_268 : decode code 268 = .ok (.ldc2_w 25, 3) := by decide +kernel
theorem dl_271 : decode code 271 = .ok (.land, 1) := by decide +kernel
theorem dl_272 : decode code 272 = .ok (.lor, 1) := by decide +kernel
theorem dl_273 : decode code 273 = .ok (.aload_n 3, 1) := by decide +kernel
theorem dl_274 : decode code 274 = .ok (.invokestatic 54, 3) := by decide +kernel
theorem dl_277 : decode code 277 = .ok (.istore 5, 2) := by decide +kernel
theorem dl_279 : decode code 279 = .ok (.aload_n 2, 1) := by decide +kernel
theorem dl_280 : decode code 280 = .ok (.aload_n 0, 1) := by decide +kernel
theorem dl_281 : decode code 281 = .ok (.iload 4, 2) := by decide +kernel
theorem dl_283 : decode code 283 = .ok (.iconst 1, 1) := by decide +kernel
theorem dl_284 : decode code 284 = .ok (.iadd, 1) := by decide +kernel
theorem dl_285 : decode code 285 = .ok (.iaload, 1) := by decide +kernel
theorem dl_286 : decode code 286 = .ok (.i2l, 1) := by decide +kernel
theorem dl_287 : decode code 287 = .ok (.bipush 32, 2) := by decide +kernel
theorem dl_289 : decode code 289 = .ok (.lshl, 1) := by decide +kernel
theorem dl_290 : decode code 290 = .ok (.aload_n 0, 1) := by decide +kernel
theorem dl_291 : decode code 291 = .ok (.iload 4, 2) := by decide +kernel
theorem dl_293 : decode code 293 = .ok (.iconst 2, 1) := by decide +kernel
theorem dl_294 : decode code 294 = .ok (.iadd, 1) := by decide +kernel
theorem dl_295 : decode code 295 = .ok (.iaload, 1) := by decide +kernel
theorem dl_296 : decode code 296 = .ok (.i2l, 1) := by decide +kernel
theorem dl_297 : decode code 297 = .ok (.ldc2_w 25, 3) := by decide +kernel
theorem dl_300 : decode code 300 = .ok (.land, 1) := by decide +kernel
theorem dl_301 : decode code 301 = .ok (.lor, 1) := by decide +kernel
theorem dl_302 : decode code 302 = .ok (.invokevirtual 57, 3) := by decide +kernel
theorem dl_305 : decode code 305 = .ok (.istore 6, 2) := by decide +kernel
theorem dl_307 : decode code 307 = .ok (.aload_n 2, 1) := by decide +kernel
theorem dl_308 : decode code 308 = .ok (.invokevirtual 42, 3) := by decide +kernel
theorem dl_311 : decode code 311 = .ok (.iload 5, 2) := by decide +kernel
theorem dl_313 : decode code 313 = .ok (.if_icmp .eq 5, 3) := by decide +kernel
theorem dl_318 : decode code 318 = .ok (.iload 5, 2) := by decide +kernel
theorem dl_320 : decode code 320 = .ok (.ifCond .ne 15, 3) := by decide +kernel
theorem dl_323 : decode code 323 = .ok (.aload_n 3, 1) := by decide +kernel
theorem dl_324 : decode code 324 = .ok (.iconst 0, 1) := by decide +kernel
theorem dl_325 : decode code 325 = .ok (.laload, 1) := by decide +kernel
theorem dl_326 : decode code 326 = .ok (.iload 6, 2) := by decide +kernel
theorem dl_328 : decode code 328 = .ok (.i2l, 1) := by decide +kernel
theorem dl_329 : decode code 329 = .ok (.lcmp, 1) := by decide +kernel
theorem dl_330 : decode code 330 = .ok (.ifCond .eq 5, 3) := by decide +kernel
theorem dl_335 : decode code 335 = .ok (.goto 102, 3) := by decide +kernel
theorem dl_338 : decode code 338 = .ok (.aload_n 1, 1) := by decide +kernel
theorem dl_339 : decode code 339 = .ok (.aload_n 0, 1) := by decide +kernel
theorem dl_340 : decode code 340 = .ok (.iload 4, 2) := by decide +kernel
theorem dl_342 : decode code 342 = .ok (.iconst 1, 1) := by decide +kernel
theorem dl_343 : decode code 343 = .ok (.iadd, 1) := by decide +kernel
theorem dl_344 : decode code 344 = .ok (.iaload, 1) := by decide +kernel
theorem dl_345 : decode code 345 = .ok (.aload_n 0, 1) := by decide +kernel
theorem dl_346 : decode code 346 = .ok (.iload 4, 2) := by decide +kernel
theorem dl_348 : decode code 348 = .ok (.iconst 2, 1) := by decide +kernel
theorem dl_349 : decode code 349 = .ok (.iadd, 1) := by decide +kernel
theorem dl_350 : decode code 350 = .ok (.iaload, 1) := by decide +kernel
theorem dl_351 : decode code 351 = .ok (.invokevirtual 58, 3) := by decide +kernel
theorem dl_354 : decode code 354 = .ok (.aload_n 2, 1) := by decide +kernel
theorem dl_355 : decode code 355 = .ok (.aload_n 0, 1) := by decide +kernel
theorem dl_356 : decode code 356 = .ok (.iload 4, 2) := by decide +kernel
theorem dl_358 : decode code 358 = .ok (.iconst 1, 1) := by decide +kernel
theorem dl_359 : decode code 359 = .ok (.iadd, 1) := by decide +kernel
theorem dl_360 : decode code 360 = .ok (.iaload, 1) := by decide +kernel
theorem dl_361 : decode code 361 = .ok (.aload_n 0, 1) := by decide +kernel
theorem dl_362 : decode code 362 = .ok (.iload 4, 2) := by decide +kernel
theorem dl_364 : decode code 364 = .ok (.iconst 2, 1) := by decide +kernel
theorem dl_365 : decode code 365 = .ok (.iadd, 1) := by decide +kernel
theorem dl_366 : decode code 366 = .ok (.iaload, 1) := by decide +kernel
theorem dl_367 : decode code 367 = .ok (.invokevirtual 62, 3) := by decide +kernel
theorem dl_370 : decode code 370 = .ok (.if_icmp .eq 67, 3) := by decide +kernel
theorem dl_375 : decode code 375 = .ok (.aload_n 1, 1) := by decide +kernel
theorem dl_376 : decode code 376 = .ok (.aload_n 0, 1) := by decide +kernel
theorem dl_377 : decode code 377 = .ok (.iload 4, 2) := by decide +kernel
theorem dl_379 : decode code 379 = .ok (.iconst 1, 1) := by decide +kernel
theorem dl_380 : decode code 380 = .ok (.iadd, 1) := by decide +kernel
theorem dl_381 : decode code 381 = .ok (.iaload, 1) := by decide +kernel
theorem dl_382 : decode code 382 = .ok (.aload_n 0, 1) := by decide +kernel
theorem dl_383 : decode code 383 = .ok (.iload 4, 2) := by decide +kernel
theorem dl_385 : decode code 385 = .ok (.iconst 2, 1) := by decide +kernel
theorem dl_386 : decode code 386 = .ok (.iadd, 1) := by decide +kernel
theorem dl_387 : decode code 387 = .ok (.iaload, 1) := by decide +kernel
theorem dl_388 : decode code 388 = .ok (.invokevirtual 63, 3) := by decide +kernel
theorem dl_391 : decode code 391 = .ok (.aload_n 2, 1) := by decide +kernel
theorem dl_392 : decode code 392 = .ok (.aload_n 0, 1) := by decide +kernel
theorem dl_393 : decode code 393 = .ok (.iload 4, 2) := by decide +kernel
theorem dl_395 : decode code 395 = .ok (.iconst 1, 1) := by decide +kernel
theorem dl_396 : decode code 396 = .ok (.iadd, 1) := by decide +kernel
theorem dl_397 : decode code 397 = .ok (.iaload, 1) := by decide +kernel
theorem dl_398 : decode code 398 = .ok (.aload_n 0, 1) := by decide +kernel
theorem dl_399 : decode code 399 = .ok (.iload 4, 2) := by decide +kernel
theorem dl_401 : decode code 401 = .ok (.iconst 2, 1) := by decide +kernel
theorem dl_402 : decode code 402 = .ok (.iadd, 1) := by decide +kernel
theorem dl_403 : decode code 403 = .ok (.iaload, 1) := by decide +kernel
theorem dl_404 : decode code 404 = .ok (.invokevirtual 66, 3) := by decide +kernel
theorem dl_407 : decode code 407 = .ok (.if_icmp .eq 30, 3) := by decide +kernel
theorem dl_412 : decode code 412 = .ok (.aload_n 1, 1) := by decide +kernel
theorem dl_413 : decode code 413 = .ok (.aload_n 0, 1) := by decide +kernel
theorem dl_414 : decode code 414 = .ok (.iload 4, 2) := by decide +kernel
theorem dl_416 : decode code 416 = .ok (.iconst 1, 1) := by decide +kernel
theorem dl_417 : decode code 417 = .ok (.iadd, 1) := by decide +kernel
theorem dl_418 : decode code 418 = .ok (.iaload, 1) := by decide +kernel
theorem dl_419 : decode code 419 = .ok (.invokevirtual 67, 3) := by decide +kernel
theorem dl_422 : decode code 422 = .ok (.aload_n 2, 1) := by decide +kernel
theorem dl_423 : decode code 423 = .ok (.aload_n 0, 1) := by decide +kernel
theorem dl_424 : decode code 424 = .ok (.iload 4, 2) := by decide +kernel
theorem dl_426 : decode code 426 = .ok (.iconst 1, 1) := by decide +kernel
theorem dl_427 : decode code 427 = .ok (.iadd, 1) := by decide +kernel
theorem dl_428 : decode code 428 = .ok (.iaload, 1) := by decide +kernel
theorem dl_429 : decode code 429 = .ok (.invokevirtual 70, 3) := by decide +kernel
theorem dl_432 : decode code 432 = .ok (.if_icmp .eq 5, 3) := by decide +kernel
theorem dl_437 : decode code 437 = .ok (.iinc 4 4, 3) := by decide +kernel
theorem dl_440 : decode code 440 = .ok (.goto (-417), 3) := by decide +kernel
theorem dl_443 : decode code 443 = .ok (.iconst 1, 1) := by decide +kernel
theorem dl_444 : decode code 444 = .ok (.ireturn, 1) := by decide +kernel
