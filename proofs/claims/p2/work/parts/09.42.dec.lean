theorem d_W_law_0 : decode code 0 = .ok (.new 8, 3) := by decide +kernel
theorem d_W_law_3 : decode code 3 = .ok (.dup, 1) := by decide +kernel
theorem d_W_law_4 : decode code 4 = .ok (.aload_n 0, 1) := by decide +kernel
theorem d_W_law_5 : decode code 5 = .ok (.iconst 0, 1) := by decide +kernel
theorem d_W_law_6 : decode code 6 = .ok (.invokestatic 68, 3) := by decide +kernel
theorem d_W_law_9 : decode code 9 = .ok (.invokespecial 74, 3) := by decide +kernel
theorem d_W_law_12 : decode code 12 = .ok (.astore_n 1, 1) := by decide +kernel
theorem d_W_law_13 : decode code 13 = .ok (.new 77, 3) := by decide +kernel
theorem d_W_law_16 : decode code 16 = .ok (.dup, 1) := by decide +kernel
theorem d_W_law_17 : decode code 17 = .ok (.aload_n 0, 1) := by decide +kernel
theorem d_W_law_18 : decode code 18 = .ok (.iconst 0, 1) := by decide +kernel
theorem d_W_law_19 : decode code 19 = .ok (.invokestatic 68, 3) := by decide +kernel
theorem d_W_law_22 : decode code 22 = .ok (.invokespecial 79, 3) := by decide +kernel
theorem d_W_law_25 : decode code 25 = .ok (.astore_n 2, 1) := by decide +kernel
theorem d_W_law_26 : decode code 26 = .ok (.iconst 1, 1) := by decide +kernel
theorem d_W_law_27 : decode code 27 = .ok (.newarray .long, 2) := by decide +kernel
theorem d_W_law_29 : decode code 29 = .ok (.astore_n 3, 1) := by decide +kernel
theorem d_W_law_30 : decode code 30 = .ok (.iconst 1, 1) := by decide +kernel
theorem d_W_law_31 : decode code 31 = .ok (.istore 4, 2) := by decide +kernel
theorem d_W_law_33 : decode code 33 = .ok (.iload 4, 2) := by decide +kernel
theorem d_W_law_35 : decode code 35 = .ok (.aload_n 0, 1) := by decide +kernel
theorem d_W_law_36 : decode code 36 = .ok (.arraylength, 1) := by decide +kernel
theorem d_W_law_37 : decode code 37 = .ok (.iconst 4, 1) := by decide +kernel
theorem d_W_law_38 : decode code 38 = .ok (.isub, 1) := by decide +kernel
theorem d_W_law_39 : decode code 39 = .ok (.if_icmp .gt 795, 3) := by decide +kernel
theorem d_W_law_42 : decode code 42 = .ok (.aload_n 0, 1) := by decide +kernel
theorem d_W_law_43 : decode code 43 = .ok (.iload 4, 2) := by decide +kernel
theorem d_W_law_45 : decode code 45 = .ok (.iaload, 1) := by decide +kernel
theorem d_W_law_46 : decode code 46 = .ok (.bipush 15, 2) := by decide +kernel
theorem d_W_law_48 : decode code 48 = .ok (.iand, 1) := by decide +kernel
theorem d_W_law_49 : decode code 49 = .ok (.tableswitch 779 0 15 #[79, 179, 219, 271, 299, 339, 379, 419, 459, 487, 527, 567, 619, 659, 699, 751], 79) := by decide +kernel
theorem d_W_law_128 : decode code 128 = .ok (.aload_n 1, 1) := by decide +kernel
theorem d_W_law_129 : decode code 129 = .ok (.aload_n 0, 1) := by decide +kernel
theorem d_W_law_130 : decode code 130 = .ok (.iload 4, 2) := by decide +kernel
theorem d_W_law_132 : decode code 132 = .ok (.iconst 1, 1) := by decide +kernel
theorem d_W_law_133 : decode code 133 = .ok (.iadd, 1) := by decide +kernel
theorem d_W_law_134 : decode code 134 = .ok (.iaload, 1) := by decide +kernel
theorem d_W_law_135 : decode code 135 = .ok (.ifCond .eq 7, 3) := by decide +kernel
theorem d_W_law_138 : decode code 138 = .ok (.iconst 1, 1) := by decide +kernel
theorem d_W_law_139 : decode code 139 = .ok (.goto 4, 3) := by decide +kernel
theorem d_W_law_142 : decode code 142 = .ok (.iconst 0, 1) := by decide +kernel
theorem d_W_law_143 : decode code 143 = .ok (.aload_n 0, 1) := by decide +kernel
theorem d_W_law_144 : decode code 144 = .ok (.iload 4, 2) := by decide +kernel
theorem d_W_law_146 : decode code 146 = .ok (.iconst 2, 1) := by decide +kernel
theorem d_W_law_147 : decode code 147 = .ok (.iadd, 1) := by decide +kernel
theorem d_W_law_148 : decode code 148 = .ok (.iaload, 1) := by decide +kernel
theorem d_W_law_149 : decode code 149 = .ok (.ifCond .eq 7, 3) := by decide +kernel
theorem d_W_law_152 : decode code 152 = .ok (.iconst 1, 1) := by decide +kernel
theorem d_W_law_153 : decode code 153 = .ok (.goto 4, 3) := by decide +kernel
theorem d_W_law_156 : decode code 156 = .ok (.iconst 0, 1) := by decide +kernel
theorem d_W_law_157 : decode code 157 = .ok (.aload_n 3, 1) := by decide +kernel
theorem d_W_law_158 : decode code 158 = .ok (.invokestatic 80, 3) := by decide +kernel
theorem d_W_law_161 : decode code 161 = .ok (.istore 5, 2) := by decide +kernel
theorem d_W_law_163 : decode code 163 = .ok (.aload_n 2, 1) := by decide +kernel
theorem d_W_law_164 : decode code 164 = .ok (.aload_n 0, 1) := by decide +kernel
theorem d_W_law_165 : decode code 165 = .ok (.iload 4, 2) := by decide +kernel
theorem d_W_law_167 : decode code 167 = .ok (.iconst 1, 1) := by decide +kernel
theorem d_W_law_168 : decode code 168 = .ok (.iadd, 1) := by decide +kernel
theorem d_W_law_169 : decode code 169 = .ok (.iaload, 1) := by decide +kernel
theorem d_W_law_170 : decode code 170 = .ok (.ifCond .eq 7, 3) := by decide +kernel
theorem d_W_law_173 : decode code 173 = .ok (.iconst 1, 1) := by decide +kernel
theorem d_W_law_174 : decode code 174 = .ok (.goto 4, 3) := by decide +kernel
theorem d_W_law_177 : decode code 177 = .ok (.iconst 0, 1) := by decide +kernel
theorem d_W_law_178 : decode code 178 = .ok (.aload_n 0, 1) := by decide +kernel
theorem d_W_law_179 : decode code 179 = .ok (.iload 4, 2) := by decide +kernel
theorem d_W_law_181 : decode code 181 = .ok (.iconst 2, 1) := by decide +kernel
theorem d_W_law_182 : decode code 182 = .ok (.iadd, 1) := by decide +kernel
theorem d_W_law_183 : decode code 183 = .ok (.iaload, 1) := by decide +kernel
theorem d_W_law_184 : decode code 184 = .ok (.ifCond .eq 7, 3) := by decide +kernel
theorem d_W_law_187 : decode code 187 = .ok (.iconst 1, 1) := by decide +kernel
theorem d_W_law_188 : decode code 188 = .ok (.goto 4, 3) := by decide +kernel
theorem d_W_law_191 : decode code 191 = .ok (.iconst 0, 1) := by decide +kernel
theorem d_W_law_192 : decode code 192 = .ok (.invokevirtual 83, 3) := by decide +kernel
theorem d_W_law_195 : decode code 195 = .ok (.istore 6, 2) := by decide +kernel
theorem d_W_law_197 : decode code 197 = .ok (.aload_n 2, 1) := by decide +kernel
theorem d_W_law_198 : decode code 198 = .ok (.invokevirtual 84, 3) := by decide +kernel
theorem d_W_law_201 : decode code 201 = .ok (.iload 5, 2) := by decide +kernel
theorem d_W_law_203 : decode code 203 = .ok (.if_icmp .eq 5, 3) := by decide +kernel
theorem d_W_law_206 : decode code 206 = .ok (.iconst 0, 1) := by decide +kernel
theorem d_W_law_207 : decode code 207 = .ok (.ireturn, 1) := by decide +kernel
theorem d_W_law_208 : decode code 208 = .ok (.iload 5, 2) := by decide +kernel
theorem d_W_law_210 : decode code 210 = .ok (.ifCond .ne 15, 3) := by decide +kernel
theorem d_W_law_213 : decode code 213 = .ok (.aload_n 3, 1) := by decide +kernel
theorem d_W_law_214 : decode code 214 = .ok (.iconst 0, 1) := by decide +kernel
theorem d_W_law_215 : decode code 215 = .ok (.laload, 1) := by decide +kernel
theorem d_W_law_216 : decode code 216 = .ok (.iload 6, 2) := by decide +kernel
theorem d_W_law_218 : decode code 218 = .ok (.i2l, 1) := by decide +kernel
theorem d_W_law_219 : decode code 219 = .ok (.lcmp, 1) := by decide +kernel
theorem d_W_law_220 : decode code 220 = .ok (.ifCond .eq 5, 3) := by decide +kernel
theorem d_W_law_223 : decode code 223 = .ok (.iconst 0, 1) := by decide +kernel
theorem d_W_law_224 : decode code 224 = .ok (.ireturn, 1) := by decide +kernel
theorem d_W_law_225 : decode code 225 = .ok (.goto 603, 3) := by decide +kernel
theorem d_W_law_228 : decode code 228 = .ok (.aload_n 1, 1) := by decide +kernel
theorem d_W_law_229 : decode code 229 = .ok (.aload_n 0, 1) := by decide +kernel
theorem d_W_law_230 : decode code 230 = .ok (.iload 4, 2) := by decide +kernel
theorem d_W_law_232 : decode code 232 = .ok (.iconst 1, 1) := by decide +kernel
theorem d_W_law_233 : decode code 233 = .ok (.iadd, 1) := by decide +kernel
theorem d_W_law_234 : decode code 234 = .ok (.iaload, 1) := by decide +kernel
theorem d_W_law_235 : decode code 235 = .ok (.aload_n 0, 1) := by decide +kernel
theorem d_W_law_236 : decode code 236 = .ok (.iload 4, 2) := by decide +kernel
theorem d_W_law_238 : decode code 238 = .ok (.iconst 2, 1) := by decide +kernel
theorem d_W_law_239 : decode code 239 = .ok (.iadd, 1) := by decide +kernel
theorem d_W_law_240 : decode code 240 = .ok (.iaload, 1) := by decide +kernel
theorem d_W_law_241 : decode code 241 = .ok (.aload_n 3, 1) := by decide +kernel
theorem d_W_law_242 : decode code 242 = .ok (.invokestatic 88, 3) := by decide +kernel
theorem d_W_law_245 : decode code 245 = .ok (.istore 5, 2) := by decide +kernel
theorem d_W_law_247 : decode code 247 = .ok (.aload_n 2, 1) := by decide +kernel
theorem d_W_law_248 : decode code 248 = .ok (.aload_n 0, 1) := by decide +kernel
theorem d_W_law_249 : decode code 249 = .ok (.iload 4, 2) := by decide +kernel
theorem d_W_law_251 : decode code 251 = .ok (.iconst 1, 1) := by decide +kernel
theorem d_W_law_252 : decode code 252 = .ok (.iadd, 1) := by decide +kernel
theorem d_W_law_253 : decode code 253 = .ok (.iaload, 1) := by decide +kernel
theorem d_W_law_254 : decode code 254 = .ok (.aload_n 0, 1) := by decide +kernel
theorem d_W_law_255 : decode code 255 = .ok (.iload 4, 2) := by decide +kernel
theorem d_W_law_257 : decode code 257 = .ok (.iconst 2, 1) := by decide +kernel
theorem d_W_law_258 : decode code 258 = .ok (.iadd, 1) := by decide +kernel
theorem d_W_law_259 : decode code 259 = .ok (.iaload, 1) := by decide +kernel
theorem d_W_law_260 : decode code 260 = .ok (.invokevirtual 91, 3) := by decide +kernel
theorem d_W_law_263 : decode code 263 = .ok (.istore 6, 2) := by decide +kernel
theorem d_W_law_265 : decode code 265 = .ok (.goto 563, 3) := by decide +kernel
theorem d_W_law_268 : decode code 268 = .ok (.aload_n 1, 1) := by decide +kernel
theorem d_W_law_269 : decode code 269 = .ok (.aload_n 0, 1) := by decide +kernel
theorem d_W_law_270 : decode code 270 = .ok (.iload 4, 2) := by decide +kernel
theorem d_W_law_272 : decode code 272 = .ok (.iconst 1, 1) := by decide +kernel
theorem d_W_law_273 : decode code 273 = .ok (.iadd, 1) := by decide +kernel
theorem d_W_law_274 : decode code 274 = .ok (.iaload, 1) := by decide +kernel
theorem d_W_law_275 : decode code 275 = .ok (.aload_n 0, 1) := by decide +kernel
theorem d_W_law_276 : decode code 276 = .ok (.iload 4, 2) := by decide +kernel
theorem d_W_law_278 : decode code 278 = .ok (.iconst 2, 1) := by decide +kernel
theorem d_W_law_279 : decode code 279 = .ok (.iadd, 1) := by decide +kernel
theorem d_W_law_280 : decode code 280 = .ok (.iaload, 1) := by decide +kernel
theorem d_W_law_281 : decode code 281 = .ok (.aload_n 0, 1) := by decide +kernel
theorem d_W_law_282 : decode code 282 = .ok (.iload 4, 2) := by decide +kernel
theorem d_W_law_284 : decode code 284 = .ok (.iconst 3, 1) := by decide +kernel
theorem d_W_law_285 : decode code 285 = .ok (.iadd, 1) := by decide +kernel
theorem d_W_law_286 : decode code 286 = .ok (.iaload, 1) := by decide +kernel
theorem d_W_law_287 : decode code 287 = .ok (.aload_n 3, 1) := by decide +kernel
theorem d_W_law_288 : decode code 288 = .ok (.invokestatic 92, 3) := by decide +kernel
theorem d_W_law_291 : decode code 291 = .ok (.istore 5, 2) := by decide +kernel
theorem d_W_law_293 : decode code 293 = .ok (.aload_n 2, 1) := by decide +kernel
theorem d_W_law_294 : decode code 294 = .ok (.aload_n 0, 1) := by decide +kernel
theorem d_W_law_295 : decode code 295 = .ok (.iload 4, 2) := by decide +kernel
theorem d_W_law_297 : decode code 297 = .ok (.iconst 1, 1) := by decide +kernel
theorem d_W_law_298 : decode code 298 = .ok (.iadd, 1) := by decide +kernel
theorem d_W_law_299 : decode code 299 = .ok (.iaload, 1) := by decide +kernel
theorem d_W_law_300 : decode code 300 = .ok (.aload_n 0, 1) := by decide +kernel
theorem d_W_law_301 : decode code 301 = .ok (.iload 4, 2) := by decide +kernel
theorem d_W_law_303 : decode code 303 = .ok (.iconst 2, 1) := by decide +kernel
theorem d_W_law_304 : decode code 304 = .ok (.iadd, 1) := by decide +kernel
theorem d_W_law_305 : decode code 305 = .ok (.iaload, 1) := by decide +kernel
theorem d_W_law_306 : decode code 306 = .ok (.aload_n 0, 1) := by decide +kernel
theorem d_W_law_307 : decode code 307 = .ok (.iload 4, 2) := by decide +kernel
theorem d_W_law_309 : decode code 309 = .ok (.iconst 3, 1) := by decide +kernel
theorem d_W_law_310 : decode code 310 = .ok (.iadd, 1) := by decide +kernel
theorem d_W_law_311 : decode code 311 = .ok (.iaload, 1) := by decide +kernel
theorem d_W_law_312 : decode code 312 = .ok (.invokevirtual 95, 3) := by decide +kernel
theorem d_W_law_315 : decode code 315 = .ok (.istore 6, 2) := by decide +kernel
theorem d_W_law_317 : decode code 317 = .ok (.goto 511, 3) := by decide +kernel
theorem d_W_law_320 : decode code 320 = .ok (.aload_n 1, 1) := by decide +kernel
theorem d_W_law_321 : decode code 321 = .ok (.aload_n 0, 1) := by decide +kernel
theorem d_W_law_322 : decode code 322 = .ok (.iload 4, 2) := by decide +kernel
theorem d_W_law_324 : decode code 324 = .ok (.iconst 1, 1) := by decide +kernel
theorem d_W_law_325 : decode code 325 = .ok (.iadd, 1) := by decide +kernel
theorem d_W_law_326 : decode code 326 = .ok (.iaload, 1) := by decide +kernel
theorem d_W_law_327 : decode code 327 = .ok (.aload_n 3, 1) := by decide +kernel
theorem d_W_law_328 : decode code 328 = .ok (.invokestatic 96, 3) := by decide +kernel
theorem d_W_law_331 : decode code 331 = .ok (.istore 5, 2) := by decide +kernel
theorem d_W_law_333 : decode code 333 = .ok (.aload_n 2, 1) := by decide +kernel
theorem d_W_law_334 : decode code 334 = .ok (.aload_n 0, 1) := by decide +kernel
theorem d_W_law_335 : decode code 335 = .ok (.iload 4, 2) := by decide +kernel
theorem d_W_law_337 : decode code 337 = .ok (.iconst 1, 1) := by decide +kernel
theorem d_W_law_338 : decode code 338 = .ok (.iadd, 1) := by decide +kernel
theorem d_W_law_339 : decode code 339 = .ok (.iaload, 1) := by decide +kernel
theorem d_W_law_340 : decode code 340 = .ok (.invokevirtual 99, 3) := by decide +kernel
theorem d_W_law_343 : decode code 343 = .ok (.istore 6, 2) := by decide +kernel
theorem d_W_law_345 : decode code 345 = .ok (.goto 483, 3) := by decide +kernel
theorem d_W_law_348 : decode code 348 = .ok (.aload_n 1, 1) := by decide +kernel
theorem d_W_law_349 : decode code 349 = .ok (.aload_n 0, 1) := by decide +kernel
theorem d_W_law_350 : decode code 350 = .ok (.iload 4, 2) := by decide +kernel
theorem d_W_law_352 : decode code 352 = .ok (.iconst 1, 1) := by decide +kernel
theorem d_W_law_353 : decode code 353 = .ok (.iadd, 1) := by decide +kernel
theorem d_W_law_354 : decode code 354 = .ok (.iaload, 1) := by decide +kernel
theorem d_W_law_355 : decode code 355 = .ok (.aload_n 0, 1) := by decide +kernel
theorem d_W_law_356 : decode code 356 = .ok (.iload 4, 2) := by decide +kernel
theorem d_W_law_358 : decode code 358 = .ok (.iconst 2, 1) := by decide +kernel
theorem d_W_law_359 : decode code 359 = .ok (.iadd, 1) := by decide +kernel
theorem d_W_law_360 : decode code 360 = .ok (.iaload, 1) := by decide +kernel
theorem d_W_law_361 : decode code 361 = .ok (.aload_n 3, 1) := by decide +kernel
theorem d_W_law_362 : decode code 362 = .ok (.invokestatic 100, 3) := by decide +kernel
theorem d_W_law_365 : decode code 365 = .ok (.istore 5, 2) := by decide +kernel
theorem d_W_law_367 : decode code 367 = .ok (.aload_n 2, 1) := by decide +kernel
theorem d_W_law_368 : decode code 368 = .ok (.aload_n 0, 1) := by decide +kernel
theorem d_W_law_369 : decode code 369 = .ok (.iload 4, 2) := by decide +kernel
theorem d_W_law_371 : decode code 371 = .ok (.iconst 1, 1) := by decide +kernel
theorem d_W_law_372 : decode code 372 = .ok (.iadd, 1) := by decide +kernel
theorem d_W_law_373 : decode code 373 = .ok (.iaload, 1) := by decide +kernel
theorem d_W_law_374 : decode code 374 = .ok (.aload_n 0, 1) := by decide +kernel
theorem d_W_law_375 : decode code 375 = .ok (.iload 4, 2) := by decide +kernel
theorem d_W_law_377 : decode code 377 = .ok (.iconst 2, 1) := by decide +kernel
theorem d_W_law_378 : decode code 378 = .ok (.iadd, 1) := by decide +kernel
theorem d_W_law_379 : decode code 379 = .ok (.iaload, 1) := by decide +kernel
theorem d_W_law_380 : decode code 380 = .ok (.invokevirtual 102, 3) := by decide +kernel
theorem d_W_law_383 : decode code 383 = .ok (.istore 6, 2) := by decide +kernel
theorem d_W_law_385 : decode code 385 = .ok (.goto 443, 3) := by decide +kernel
theorem d_W_law_388 : decode code 388 = .ok (.aload_n 1, 1) := by decide +kernel
theorem d_W_law_389 : decode code 389 = .ok (.aload_n 0, 1) := by decide +kernel
theorem d_W_law_390 : decode code 390 = .ok (.iload 4, 2) := by decide +kernel
theorem d_W_law_392 : decode code 392 = .ok (.iconst 1, 1) := by decide +kernel
theorem d_W_law_393 : decode code 393 = .ok (.iadd, 1) := by decide +kernel
theorem d_W_law_394 : decode code 394 = .ok (.iaload, 1) := by decide +kernel
theorem d_W_law_395 : decode code 395 = .ok (.aload_n 0, 1) := by decide +kernel
theorem d_W_law_396 : decode code 396 = .ok (.iload 4, 2) := by decide +kernel
theorem d_W_law_398 : decode code 398 = .ok (.iconst 2, 1) := by decide +kernel
theorem d_W_law_399 : decode code 399 = .ok (.iadd, 1) := by decide +kernel
theorem d_W_law_400 : decode code 400 = .ok (.iaload, 1) := by decide +kernel
theorem d_W_law_401 : decode code 401 = .ok (.aload_n 3, 1) := by decide +kernel
theorem d_W_law_402 : decode code 402 = .ok (.invokestatic 103, 3) := by decide +kernel
theorem d_W_law_405 : decode code 405 = .ok (.istore 5, 2) := by decide +kernel
theorem d_W_law_407 : decode code 407 = .ok (.aload_n 2, 1) := by decide +kernel
theorem d_W_law_408 : decode code 408 = .ok (.aload_n 0, 1) := by decide +kernel
theorem d_W_law_409 : decode code 409 = .ok (.iload 4, 2) := by decide +kernel
theorem d_W_law_411 : decode code 411 = .ok (.iconst 1, 1) := by decide +kernel
theorem d_W_law_412 : decode code 412 = .ok (.iadd, 1) := by decide +kernel
theorem d_W_law_413 : decode code 413 = .ok (.iaload, 1) := by decide +kernel
theorem d_W_law_414 : decode code 414 = .ok (.aload_n 0, 1) := by decide +kernel
theorem d_W_law_415 : decode code 415 = .ok (.iload 4, 2) := by decide +kernel
theorem d_W_law_417 : decode code 417 = .ok (.iconst 2, 1) := by decide +kernel
theorem d_W_law_418 : decode code 418 = .ok (.iadd, 1) := by decide +kernel
theorem d_W_law_419 : decode code 419 = .ok (.iaload, 1) := by decide +kernel
theorem d_W_law_420 : decode code 420 = .ok (.invokevirtual 105, 3) := by decide +kernel
theorem d_W_law_423 : decode code 423 = .ok (.istore 6, 2) := by decide +kernel
theorem d_W_law_425 : decode code 425 = .ok (.goto 403, 3) := by decide +kernel
theorem d_W_law_428 : decode code 428 = .ok (.aload_n 1, 1) := by decide +kernel
theorem d_W_law_429 : decode code 429 = .ok (.aload_n 0, 1) := by decide +kernel
theorem d_W_law_430 : decode code 430 = .ok (.iload 4, 2) := by decide +kernel
theorem d_W_law_432 : decode code 432 = .ok (.iconst 1, 1) := by decide +kernel
theorem d_W_law_433 : decode code 433 = .ok (.iadd, 1) := by decide +kernel
theorem d_W_law_434 : decode code 434 = .ok (.iaload, 1) := by decide +kernel
theorem d_W_law_435 : decode code 435 = .ok (.aload_n 0, 1) := by decide +kernel
theorem d_W_law_436 : decode code 436 = .ok (.iload 4, 2) := by decide +kernel
theorem d_W_law_438 : decode code 438 = .ok (.iconst 2, 1) := by decide +kernel
theorem d_W_law_439 : decode code 439 = .ok (.iadd, 1) := by decide +kernel
theorem d_W_law_440 : decode code 440 = .ok (.iaload, 1) := by decide +kernel
theorem d_W_law_441 : decode code 441 = .ok (.aload_n 3, 1) := by decide +kernel
theorem d_W_law_442 : decode code 442 = .ok (.invokestatic 106, 3) := by decide +kernel
theorem d_W_law_445 : decode code 445 = .ok (.istore 5, 2) := by decide +kernel
theorem d_W_law_447 : decode code 447 = .ok (.aload_n 2, 1) := by decide +kernel
theorem d_W_law_448 : decode code 448 = .ok (.aload_n 0, 1) := by decide +kernel
theorem d_W_law_449 : decode code 449 = .ok (.iload 4, 2) := by decide +kernel
theorem d_W_law_451 : decode code 451 = .ok (.iconst 1, 1) := by decide +kernel
theorem d_W_law_452 : decode code 452 = .ok (.iadd, 1) := by decide +kernel
theorem d_W_law_453 : decode code 453 = .ok (.iaload, 1) := by decide +kernel
theorem d_W_law_454 : decode code 454 = .ok (.aload_n 0, 1) := by decide +kernel
theorem d_W_law_455 : decode code 455 = .ok (.iload 4, 2) := by decide +kernel
theorem d_W_law_457 : decode code 457 = .ok (.iconst 2, 1) := by decide +kernel
theorem d_W_law_458 : decode code 458 = .ok (.iadd, 1) := by decide +kernel
theorem d_W_law_459 : decode code 459 = .ok (.iaload, 1) := by decide +kernel
theorem d_W_law_460 : decode code 460 = .ok (.invokevirtual 108, 3) := by decide +kernel
theorem d_W_law_463 : decode code 463 = .ok (.istore 6, 2) := by decide +kernel
theorem d_W_law_465 : decode code 465 = .ok (.goto 363, 3) := by decide +kernel
theorem d_W_law_468 : decode code 468 = .ok (.aload_n 1, 1) := by decide +kernel
theorem d_W_law_469 : decode code 469 = .ok (.aload_n 0, 1) := by decide +kernel
theorem d_W_law_470 : decode code 470 = .ok (.iload 4, 2) := by decide +kernel
theorem d_W_law_472 : decode code 472 = .ok (.iconst 1, 1) := by decide +kernel
theorem d_W_law_473 : decode code 473 = .ok (.iadd, 1) := by decide +kernel
theorem d_W_law_474 : decode code 474 = .ok (.iaload, 1) := by decide +kernel
theorem d_W_law_475 : decode code 475 = .ok (.aload_n 0, 1) := by decide +kernel
theorem d_W_law_476 : decode code 476 = .ok (.iload 4, 2) := by decide +kernel
theorem d_W_law_478 : decode code 478 = .ok (.iconst 2, 1) := by decide +kernel
theorem d_W_law_479 : decode code 479 = .ok (.iadd, 1) := by decide +kernel
theorem d_W_law_480 : decode code 480 = .ok (.iaload, 1) := by decide +kernel
theorem d_W_law_481 : decode code 481 = .ok (.aload_n 3, 1) := by decide +kernel
theorem d_W_law_482 : decode code 482 = .ok (.invokestatic 109, 3) := by decide +kernel
theorem d_W_law_485 : decode code 485 = .ok (.istore 5, 2) := by decide +kernel
theorem d_W_law_487 : decode code 487 = .ok (.aload_n 2, 1) := by decide +kernel
theorem d_W_law_488 : decode code 488 = .ok (.aload_n 0, 1) := by decide +kernel
theorem d_W_law_489 : decode code 489 = .ok (.iload 4, 2) := by decide +kernel
theorem d_W_law_491 : decode code 491 = .ok (.iconst 1, 1) := by decide +kernel
theorem d_W_law_492 : decode code 492 = .ok (.iadd, 1) := by decide +kernel
theorem d_W_law_493 : decode code 493 = .ok (.iaload, 1) := by decide +kernel
theorem d_W_law_494 : decode code 494 = .ok (.aload_n 0, 1) := by decide +kernel
theorem d_W_law_495 : decode code 495 = .ok (.iload 4, 2) := by decide +kernel
theorem d_W_law_497 : decode code 497 = .ok (.iconst 2, 1) := by decide +kernel
theorem d_W_law_498 : decode code 498 = .ok (.iadd, 1) := by decide +kernel
theorem d_W_law_499 : decode code 499 = .ok (.iaload, 1) := by decide +kernel
theorem d_W_law_500 : decode code 500 = .ok (.invokevirtual 111, 3) := by decide +kernel
theorem d_W_law_503 : decode code 503 = .ok (.istore 6, 2) := by decide +kernel
theorem d_W_law_505 : decode code 505 = .ok (.goto 323, 3) := by decide +kernel
theorem d_W_law_508 : decode code 508 = .ok (.aload_n 1, 1) := by decide +kernel
theorem d_W_law_509 : decode code 509 = .ok (.aload_n 0, 1) := by decide +kernel
theorem d_W_law_510 : decode code 510 = .ok (.iload 4, 2) := by decide +kernel
theorem d_W_law_512 : decode code 512 = .ok (.iconst 1, 1) := by decide +kernel
theorem d_W_law_513 : decode code 513 = .ok (.iadd, 1) := by decide +kernel
theorem d_W_law_514 : decode code 514 = .ok (.iaload, 1) := by decide +kernel
theorem d_W_law_515 : decode code 515 = .ok (.aload_n 3, 1) := by decide +kernel
theorem d_W_law_516 : decode code 516 = .ok (.invokestatic 112, 3) := by decide +kernel
theorem d_W_law_519 : decode code 519 = .ok (.istore 5, 2) := by decide +kernel
theorem d_W_law_521 : decode code 521 = .ok (.aload_n 2, 1) := by decide +kernel
theorem d_W_law_522 : decode code 522 = .ok (.aload_n 0, 1) := by decide +kernel
theorem d_W_law_523 : decode code 523 = .ok (.iload 4, 2) := by decide +kernel
theorem d_W_law_525 : decode code 525 = .ok (.iconst 1, 1) := by decide +kernel
theorem d_W_law_526 : decode code 526 = .ok (.iadd, 1) := by decide +kernel
theorem d_W_law_527 : decode code 527 = .ok (.iaload, 1) := by decide +kernel
theorem d_W_law_528 : decode code 528 = .ok (.invokevirtual 114, 3) := by decide +kernel
theorem d_W_law_531 : decode code 531 = .ok (.istore 6, 2) := by decide +kernel
theorem d_W_law_533 : decode code 533 = .ok (.goto 295, 3) := by decide +kernel
theorem d_W_law_536 : decode code 536 = .ok (.aload_n 1, 1) := by decide +kernel
theorem d_W_law_537 : decode code 537 = .ok (.aload_n 0, 1) := by decide +kernel
theorem d_W_law_538 : decode code 538 = .ok (.iload 4, 2) := by decide +kernel
theorem d_W_law_540 : decode code 540 = .ok (.iconst 1, 1) := by decide +kernel
theorem d_W_law_541 : decode code 541 = .ok (.iadd, 1) := by decide +kernel
theorem d_W_law_542 : decode code 542 = .ok (.iaload, 1) := by decide +kernel
theorem d_W_law_543 : decode code 543 = .ok (.aload_n 0, 1) := by decide +kernel
theorem d_W_law_544 : decode code 544 = .ok (.iload 4, 2) := by decide +kernel
theorem d_W_law_546 : decode code 546 = .ok (.iconst 2, 1) := by decide +kernel
theorem d_W_law_547 : decode code 547 = .ok (.iadd, 1) := by decide +kernel
theorem d_W_law_548 : decode code 548 = .ok (.iaload, 1) := by decide +kernel
theorem d_W_law_549 : decode code 549 = .ok (.aload_n 3, 1) := by decide +kernel
theorem d_W_law_550 : decode code 550 = .ok (.invokestatic 115, 3) := by decide +kernel
theorem d_W_law_553 : decode code 553 = .ok (.istore 5, 2) := by decide +kernel
theorem d_W_law_555 : decode code 555 = .ok (.aload_n 2, 1) := by decide +kernel
theorem d_W_law_556 : decode code 556 = .ok (.aload_n 0, 1) := by decide +kernel
theorem d_W_law_557 : decode code 557 = .ok (.iload 4, 2) := by decide +kernel
theorem d_W_law_559 : decode code 559 = .ok (.iconst 1, 1) := by decide +kernel
theorem d_W_law_560 : decode code 560 = .ok (.iadd, 1) := by decide +kernel
theorem d_W_law_561 : decode code 561 = .ok (.iaload, 1) := by decide +kernel
theorem d_W_law_562 : decode code 562 = .ok (.aload_n 0, 1) := by decide +kernel
theorem d_W_law_563 : decode code 563 = .ok (.iload 4, 2) := by decide +kernel
theorem d_W_law_565 : decode code 565 = .ok (.iconst 2, 1) := by decide +kernel
theorem d_W_law_566 : decode code 566 = .ok (.iadd, 1) := by decide +kernel
theorem d_W_law_567 : decode code 567 = .ok (.iaload, 1) := by decide +kernel
theorem d_W_law_568 : decode code 568 = .ok (.invokevirtual 117, 3) := by decide +kernel
theorem d_W_law_571 : decode code 571 = .ok (.istore 6, 2) := by decide +kernel
theorem d_W_law_573 : decode code 573 = .ok (.goto 255, 3) := by decide +kernel
theorem d_W_law_576 : decode code 576 = .ok (.aload_n 1, 1) := by decide +kernel
theorem d_W_law_577 : decode code 577 = .ok (.aload_n 0, 1) := by decide +kernel
theorem d_W_law_578 : decode code 578 = .ok (.iload 4, 2) := by decide +kernel
theorem d_W_law_580 : decode code 580 = .ok (.iconst 1, 1) := by decide +kernel
theorem d_W_law_581 : decode code 581 = .ok (.iadd, 1) := by decide +kernel
theorem d_W_law_582 : decode code 582 = .ok (.iaload, 1) := by decide +kernel
theorem d_W_law_583 : decode code 583 = .ok (.aload_n 0, 1) := by decide +kernel
theorem d_W_law_584 : decode code 584 = .ok (.iload 4, 2) := by decide +kernel
theorem d_W_law_586 : decode code 586 = .ok (.iconst 2, 1) := by decide +kernel
theorem d_W_law_587 : decode code 587 = .ok (.iadd, 1) := by decide +kernel
theorem d_W_law_588 : decode code 588 = .ok (.iaload, 1) := by decide +kernel
theorem d_W_law_589 : decode code 589 = .ok (.aload_n 3, 1) := by decide +kernel
theorem d_W_law_590 : decode code 590 = .ok (.invokestatic 118, 3) := by decide +kernel
theorem d_W_law_593 : decode code 593 = .ok (.istore 5, 2) := by decide +kernel
theorem d_W_law_595 : decode code 595 = .ok (.aload_n 2, 1) := by decide +kernel
theorem d_W_law_596 : decode code 596 = .ok (.aload_n 0, 1) := by decide +kernel
theorem d_W_law_597 : decode code 597 = .ok (.iload 4, 2) := by decide +kernel
theorem d_W_law_599 : decode code 599 = .ok (.iconst 1, 1) := by decide +kernel
theorem d_W_law_600 : decode code 600 = .ok (.iadd, 1) := by decide +kernel
theorem d_W_law_601 : decode code 601 = .ok (.iaload, 1) := by decide +kernel
theorem d_W_law_602 : decode code 602 = .ok (.aload_n 0, 1) := by decide +kernel
theorem d_W_law_603 : decode code 603 = .ok (.iload 4, 2) := by decide +kernel
theorem d_W_law_605 : decode code 605 = .ok (.iconst 2, 1) := by decide +kernel
theorem d_W_law_606 : decode code 606 = .ok (.iadd, 1) := by decide +kernel
theorem d_W_law_607 : decode code 607 = .ok (.iaload, 1) := by decide +kernel
theorem d_W_law_608 : decode code 608 = .ok (.invokevirtual 120, 3) := by decide +kernel
theorem d_W_law_611 : decode code 611 = .ok (.istore 6, 2) := by decide +kernel
theorem d_W_law_613 : decode code 613 = .ok (.goto 215, 3) := by decide +kernel
theorem d_W_law_616 : decode code 616 = .ok (.aload_n 1, 1) := by decide +kernel
theorem d_W_law_617 : decode code 617 = .ok (.aload_n 0, 1) := by decide +kernel
theorem d_W_law_618 : decode code 618 = .ok (.iload 4, 2) := by decide +kernel
theorem d_W_law_620 : decode code 620 = .ok (.iconst 1, 1) := by decide +kernel
theorem d_W_law_621 : decode code 621 = .ok (.iadd, 1) := by decide +kernel
theorem d_W_law_622 : decode code 622 = .ok (.iaload, 1) := by decide +kernel
theorem d_W_law_623 : decode code 623 = .ok (.aload_n 0, 1) := by decide +kernel
theorem d_W_law_624 : decode code 624 = .ok (.iload 4, 2) := by decide +kernel
theorem d_W_law_626 : decode code 626 = .ok (.iconst 2, 1) := by decide +kernel
theorem d_W_law_627 : decode code 627 = .ok (.iadd, 1) := by decide +kernel
theorem d_W_law_628 : decode code 628 = .ok (.iaload, 1) := by decide +kernel
theorem d_W_law_629 : decode code 629 = .ok (.aload_n 0, 1) := by decide +kernel
theorem d_W_law_630 : decode code 630 = .ok (.iload 4, 2) := by decide +kernel
theorem d_W_law_632 : decode code 632 = .ok (.iconst 3, 1) := by decide +kernel
theorem d_W_law_633 : decode code 633 = .ok (.iadd, 1) := by decide +kernel
theorem d_W_law_634 : decode code 634 = .ok (.iaload, 1) := by decide +kernel
theorem d_W_law_635 : decode code 635 = .ok (.aload_n 3, 1) := by decide +kernel
theorem d_W_law_636 : decode code 636 = .ok (.invokestatic 121, 3) := by decide +kernel
theorem d_W_law_639 : decode code 639 = .ok (.istore 5, 2) := by decide +kernel
theorem d_W_law_641 : decode code 641 = .ok (.aload_n 2, 1) := by decide +kernel
theorem d_W_law_642 : decode code 642 = .ok (.aload_n 0, 1) := by decide +kernel
theorem d_W_law_643 : decode code 643 = .ok (.iload 4, 2) := by decide +kernel
theorem d_W_law_645 : decode code 645 = .ok (.iconst 1, 1) := by decide +kernel
theorem d_W_law_646 : decode code 646 = .ok (.iadd, 1) := by decide +kernel
theorem d_W_law_647 : decode code 647 = .ok (.iaload, 1) := by decide +kernel
theorem d_W_law_648 : decode code 648 = .ok (.aload_n 0, 1) := by decide +kernel
theorem d_W_law_649 : decode code 649 = .ok (.iload 4, 2) := by decide +kernel
theorem d_W_law_651 : decode code 651 = .ok (.iconst 2, 1) := by decide +kernel
theorem d_W_law_652 : decode code 652 = .ok (.iadd, 1) := by decide +kernel
theorem d_W_law_653 : decode code 653 = .ok (.iaload, 1) := by decide +kernel
theorem d_W_law_654 : decode code 654 = .ok (.aload_n 0, 1) := by decide +kernel
theorem d_W_law_655 : decode code 655 = .ok (.iload 4, 2) := by decide +kernel
theorem d_W_law_657 : decode code 657 = .ok (.iconst 3, 1) := by decide +kernel
theorem d_W_law_658 : decode code 658 = .ok (.iadd, 1) := by decide +kernel
theorem d_W_law_659 : decode code 659 = .ok (.iaload, 1) := by decide +kernel
theorem d_W_law_660 : decode code 660 = .ok (.invokevirtual 123, 3) := by decide +kernel
theorem d_W_law_663 : decode code 663 = .ok (.istore 6, 2) := by decide +kernel
theorem d_W_law_665 : decode code 665 = .ok (.goto 163, 3) := by decide +kernel
theorem d_W_law_668 : decode code 668 = .ok (.aload_n 1, 1) := by decide +kernel
theorem d_W_law_669 : decode code 669 = .ok (.aload_n 0, 1) := by decide +kernel
theorem d_W_law_670 : decode code 670 = .ok (.iload 4, 2) := by decide +kernel
theorem d_W_law_672 : decode code 672 = .ok (.iconst 1, 1) := by decide +kernel
theorem d_W_law_673 : decode code 673 = .ok (.iadd, 1) := by decide +kernel
theorem d_W_law_674 : decode code 674 = .ok (.iaload, 1) := by decide +kernel
theorem d_W_law_675 : decode code 675 = .ok (.aload_n 0, 1) := by decide +kernel
theorem d_W_law_676 : decode code 676 = .ok (.iload 4, 2) := by decide +kernel
theorem d_W_law_678 : decode code 678 = .ok (.iconst 2, 1) := by decide +kernel
theorem d_W_law_679 : decode code 679 = .ok (.iadd, 1) := by decide +kernel
theorem d_W_law_680 : decode code 680 = .ok (.iaload, 1) := by decide +kernel
theorem d_W_law_681 : decode code 681 = .ok (.aload_n 3, 1) := by decide +kernel
theorem d_W_law_682 : decode code 682 = .ok (.invokestatic 124, 3) := by decide +kernel
theorem d_W_law_685 : decode code 685 = .ok (.istore 5, 2) := by decide +kernel
theorem d_W_law_687 : decode code 687 = .ok (.aload_n 2, 1) := by decide +kernel
theorem d_W_law_688 : decode code 688 = .ok (.aload_n 0, 1) := by decide +kernel
theorem d_W_law_689 : decode code 689 = .ok (.iload 4, 2) := by decide +kernel
theorem d_W_law_691 : decode code 691 = .ok (.iconst 1, 1) := by decide +kernel
theorem d_W_law_692 : decode code 692 = .ok (.iadd, 1) := by decide +kernel
theorem d_W_law_693 : decode code 693 = .ok (.iaload, 1) := by decide +kernel
theorem d_W_law_694 : decode code 694 = .ok (.aload_n 0, 1) := by decide +kernel
theorem d_W_law_695 : decode code 695 = .ok (.iload 4, 2) := by decide +kernel
theorem d_W_law_697 : decode code 697 = .ok (.iconst 2, 1) := by decide +kernel
theorem d_W_law_698 : decode code 698 = .ok (.iadd, 1) := by decide +kernel
theorem d_W_law_699 : decode code 699 = .ok (.iaload, 1) := by decide +kernel
theorem d_W_law_700 : decode code 700 = .ok (.invokevirtual 126, 3) := by decide +kernel
theorem d_W_law_703 : decode code 703 = .ok (.istore 6, 2) := by decide +kernel
theorem d_W_law_705 : decode code 705 = .ok (.goto 123, 3) := by decide +kernel
theorem d_W_law_708 : decode code 708 = .ok (.aload_n 1, 1) := by decide +kernel
theorem d_W_law_709 : decode code 709 = .ok (.aload_n 0, 1) := by decide +kernel
theorem d_W_law_710 : decode code 710 = .ok (.iload 4, 2) := by decide +kernel
theorem d_W_law_712 : decode code 712 = .ok (.iconst 1, 1) := by decide +kernel
theorem d_W_law_713 : decode code 713 = .ok (.iadd, 1) := by decide +kernel
theorem d_W_law_714 : decode code 714 = .ok (.iaload, 1) := by decide +kernel
theorem d_W_law_715 : decode code 715 = .ok (.aload_n 0, 1) := by decide +kernel
theorem d_W_law_716 : decode code 716 = .ok (.iload 4, 2) := by decide +kernel
theorem d_W_law_718 : decode code 718 = .ok (.iconst 2, 1) := by decide +kernel
theorem d_W_law_719 : decode code 719 = .ok (.iadd, 1) := by decide +kernel
theorem d_W_law_720 : decode code 720 = .ok (.iaload, 1) := by decide +kernel
theorem d_W_law_721 : decode code 721 = .ok (.aload_n 3, 1) := by decide +kernel
theorem d_W_law_722 : decode code 722 = .ok (.invokestatic 127, 3) := by decide +kernel
theorem d_W_law_725 : decode code 725 = .ok (.istore 5, 2) := by decide +kernel
theorem d_W_law_727 : decode code 727 = .ok (.aload_n 2, 1) := by decide +kernel
theorem d_W_law_728 : decode code 728 = .ok (.aload_n 0, 1) := by decide +kernel
theorem d_W_law_729 : decode code 729 = .ok (.iload 4, 2) := by decide +kernel
theorem d_W_law_731 : decode code 731 = .ok (.iconst 1, 1) := by decide +kernel
theorem d_W_law_732 : decode code 732 = .ok (.iadd, 1) := by decide +kernel
theorem d_W_law_733 : decode code 733 = .ok (.iaload, 1) := by decide +kernel
theorem d_W_law_734 : decode code 734 = .ok (.aload_n 0, 1) := by decide +kernel
theorem d_W_law_735 : decode code 735 = .ok (.iload 4, 2) := by decide +kernel
theorem d_W_law_737 : decode code 737 = .ok (.iconst 2, 1) := by decide +kernel
theorem d_W_law_738 : decode code 738 = .ok (.iadd, 1) := by decide +kernel
theorem d_W_law_739 : decode code 739 = .ok (.iaload, 1) := by decide +kernel
theorem d_W_law_740 : decode code 740 = .ok (.invokevirtual 129, 3) := by decide +kernel
theorem d_W_law_743 : decode code 743 = .ok (.istore 6, 2) := by decide +kernel
theorem d_W_law_745 : decode code 745 = .ok (.goto 83, 3) := by decide +kernel
theorem d_W_law_748 : decode code 748 = .ok (.aload_n 1, 1) := by decide +kernel
theorem d_W_law_749 : decode code 749 = .ok (.aload_n 0, 1) := by decide +kernel
theorem d_W_law_750 : decode code 750 = .ok (.iload 4, 2) := by decide +kernel
theorem d_W_law_752 : decode code 752 = .ok (.iconst 1, 1) := by decide +kernel
theorem d_W_law_753 : decode code 753 = .ok (.iadd, 1) := by decide +kernel
theorem d_W_law_754 : decode code 754 = .ok (.iaload, 1) := by decide +kernel
theorem d_W_law_755 : decode code 755 = .ok (.aload_n 0, 1) := by decide +kernel
theorem d_W_law_756 : decode code 756 = .ok (.iload 4, 2) := by decide +kernel
theorem d_W_law_758 : decode code 758 = .ok (.iconst 2, 1) := by decide +kernel
theorem d_W_law_759 : decode code 759 = .ok (.iadd, 1) := by decide +kernel
theorem d_W_law_760 : decode code 760 = .ok (.iaload, 1) := by decide +kernel
theorem d_W_law_761 : decode code 761 = .ok (.aload_n 0, 1) := by decide +kernel
theorem d_W_law_762 : decode code 762 = .ok (.iload 4, 2) := by decide +kernel
theorem d_W_law_764 : decode code 764 = .ok (.iconst 3, 1) := by decide +kernel
theorem d_W_law_765 : decode code 765 = .ok (.iadd, 1) := by decide +kernel
theorem d_W_law_766 : decode code 766 = .ok (.iaload, 1) := by decide +kernel
theorem d_W_law_767 : decode code 767 = .ok (.aload_n 3, 1) := by decide +kernel
theorem d_W_law_768 : decode code 768 = .ok (.invokestatic 130, 3) := by decide +kernel
theorem d_W_law_771 : decode code 771 = .ok (.istore 5, 2) := by decide +kernel
theorem d_W_law_773 : decode code 773 = .ok (.aload_n 2, 1) := by decide +kernel
theorem d_W_law_774 : decode code 774 = .ok (.aload_n 0, 1) := by decide +kernel
theorem d_W_law_775 : decode code 775 = .ok (.iload 4, 2) := by decide +kernel
theorem d_W_law_777 : decode code 777 = .ok (.iconst 1, 1) := by decide +kernel
theorem d_W_law_778 : decode code 778 = .ok (.iadd, 1) := by decide +kernel
theorem d_W_law_779 : decode code 779 = .ok (.iaload, 1) := by decide +kernel
theorem d_W_law_780 : decode code 780 = .ok (.aload_n 0, 1) := by decide +kernel
theorem d_W_law_781 : decode code 781 = .ok (.iload 4, 2) := by decide +kernel
theorem d_W_law_783 : decode code 783 = .ok (.iconst 2, 1) := by decide +kernel
theorem d_W_law_784 : decode code 784 = .ok (.iadd, 1) := by decide +kernel
theorem d_W_law_785 : decode code 785 = .ok (.iaload, 1) := by decide +kernel
theorem d_W_law_786 : decode code 786 = .ok (.aload_n 0, 1) := by decide +kernel
theorem d_W_law_787 : decode code 787 = .ok (.iload 4, 2) := by decide +kernel
theorem d_W_law_789 : decode code 789 = .ok (.iconst 3, 1) := by decide +kernel
theorem d_W_law_790 : decode code 790 = .ok (.iadd, 1) := by decide +kernel
theorem d_W_law_791 : decode code 791 = .ok (.iaload, 1) := by decide +kernel
theorem d_W_law_792 : decode code 792 = .ok (.invokevirtual 132, 3) := by decide +kernel
theorem d_W_law_795 : decode code 795 = .ok (.istore 6, 2) := by decide +kernel
theorem d_W_law_797 : decode code 797 = .ok (.goto 31, 3) := by decide +kernel
theorem d_W_law_800 : decode code 800 = .ok (.aload_n 1, 1) := by decide +kernel
theorem d_W_law_801 : decode code 801 = .ok (.aload_n 0, 1) := by decide +kernel
theorem d_W_law_802 : decode code 802 = .ok (.iload 4, 2) := by decide +kernel
theorem d_W_law_804 : decode code 804 = .ok (.iconst 1, 1) := by decide +kernel
theorem d_W_law_805 : decode code 805 = .ok (.iadd, 1) := by decide +kernel
theorem d_W_law_806 : decode code 806 = .ok (.iaload, 1) := by decide +kernel
theorem d_W_law_807 : decode code 807 = .ok (.aload_n 3, 1) := by decide +kernel
theorem d_W_law_808 : decode code 808 = .ok (.invokestatic 133, 3) := by decide +kernel
theorem d_W_law_811 : decode code 811 = .ok (.istore 5, 2) := by decide +kernel
theorem d_W_law_813 : decode code 813 = .ok (.aload_n 2, 1) := by decide +kernel
theorem d_W_law_814 : decode code 814 = .ok (.aload_n 0, 1) := by decide +kernel
theorem d_W_law_815 : decode code 815 = .ok (.iload 4, 2) := by decide +kernel
theorem d_W_law_817 : decode code 817 = .ok (.iconst 1, 1) := by decide +kernel
theorem d_W_law_818 : decode code 818 = .ok (.iadd, 1) := by decide +kernel
theorem d_W_law_819 : decode code 819 = .ok (.iaload, 1) := by decide +kernel
theorem d_W_law_820 : decode code 820 = .ok (.invokevirtual 135, 3) := by decide +kernel
theorem d_W_law_823 : decode code 823 = .ok (.istore 6, 2) := by decide +kernel
theorem d_W_law_825 : decode code 825 = .ok (.goto 3, 3) := by decide +kernel
theorem d_W_law_828 : decode code 828 = .ok (.iinc 4 4, 3) := by decide +kernel
theorem d_W_law_831 : decode code 831 = .ok (.goto (-798), 3) := by decide +kernel
theorem d_W_law_834 : decode code 834 = .ok (.iconst 1, 1) := by decide +kernel
theorem d_W_law_835 : decode code 835 = .ok (.ireturn, 1) := by decide +kernel
theorem d_W_cell_0 : decode b_W_cell 0 = .ok (.iload_n 1, 1) := by decide +kernel
theorem d_W_cell_1 : decode b_W_cell 1 = .ok (.aload_n 0, 1) := by decide +kernel
theorem d_W_cell_2 : decode b_W_cell 2 = .ok (.arraylength, 1) := by decide +kernel
theorem d_W_cell_3 : decode b_W_cell 3 = .ok (.if_icmp .ge 9, 3) := by decide +kernel
theorem d_W_cell_6 : decode b_W_cell 6 = .ok (.aload_n 0, 1) := by decide +kernel
theorem d_W_cell_7 : decode b_W_cell 7 = .ok (.iload_n 1, 1) := by decide +kernel
theorem d_W_cell_8 : decode b_W_cell 8 = .ok (.iaload, 1) := by decide +kernel
theorem d_W_cell_9 : decode b_W_cell 9 = .ok (.goto 4, 3) := by decide +kernel
theorem d_W_cell_12 : decode b_W_cell 12 = .ok (.iconst 0, 1) := by decide +kernel
theorem d_W_cell_13 : decode b_W_cell 13 = .ok (.ireturn, 1) := by decide +kernel
