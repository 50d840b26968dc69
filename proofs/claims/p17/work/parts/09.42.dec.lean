theorem d_W_law_0 : decode code 0 = .ok (.new 8, 3) := by decide +kernel
theorem d_W_law_3 : decode code 3 = .ok (.dup, 1) := by decide +kernel
theorem d_W_law_4 : decode code 4 = .ok (.aload_n 0, 1) := by decide +kernel
theorem d_W_law_5 : decode code 5 = .ok (.iconst 0, 1) := by decide +kernel
theorem d_W_law_6 : decode code 6 = .ok (.invokestatic 68, 3) := by decide +kernel
theorem d_W_law_9 : decode code 9 = .ok (.invokespecial 74, 3) := by decide +kernel
theorem d_W_law_12 : decode code 12 = .ok (.astore_n 1, 1) := by decide +kernel
theorem d_W_law_13 : decode code 13 = .ok (.new 77, 3) := by decide +kernel
theorem d_W_law_16 : decode code 16 = .ok (.dup, 1) := by decide +kernel
theorem d_W_law_17 : decode code 17 = .ok (.aload_n 0, 1) := by decide +kernel
theorem d_W_law_18 : decode code 18 = .ok (.iconst 0, 1) := by decide +kernel
theorem d_W_law_19 : decode code 19 = .ok (.invokestatic 68, 3) := by decide +kernel
theorem d_W_law_22 : decode code 22 = .ok (.invokespecial 79, 3) := by decide +kernel
theorem d_W_law_25 : decode code 25 = .ok (.astore_n 2, 1) := by decide +kernel
theorem d_W_law_26 : decode code 26 = .ok (.iconst 1, 1) := by decide +kernel
theorem d_W_law_27 : decode code 27 = .ok (.newarray .long, 2) := by decide +kernel
theorem d_W_law_29 : decode code 29 = .ok (.astore_n 3, 1) := by decide +kernel
theorem d_W_law_30 : decode code 30 = .ok (.iconst 1, 1) := by decide +kernel
theorem d_W_law_31 : decode code 31 = .ok (.istore 4, 2) := by decide +kernel
theorem d_W_law_33 : decode code 33 = .ok (.iload 4, 2) := by decide +kernel
theorem d_W_law_35 : decode code 35 = .ok (.aload_n 0, 1) := by decide +kernel
theorem d_W_law_36 : decode code 36 = .ok (.arraylength, 1) := by decide +kernel
theorem d_W_law_37 : decode code 37 = .ok (.iconst 4, 1) := by decide +kernel
theorem d_W_law_38 : decode code 38 = .ok (.isub, 1) := by decide +kernel
theorem d_W_law_39 : decode code 39 = .ok (.if_icmp .gt 795, 3) := by decide +kernel
theorem d_W_law_42 : decode code 42 = .ok (.aload_n 0, 1) := by decide +kernel
theorem d_W_law_43 : decode code 43 = .ok (.iload 4, 2) := by decide +kernel
theorem d_W_law_45 : decode code 45 = .ok (.iaload, 1) := by decide +kernel
theorem d_W_law_46 : decode code 46 = .ok (.bipush 15, 2) := by decide +kernel
theorem d_W_law_48 : decode code 48 = .ok (.iand, 1) := by decide +kernel
theorem d_W_law_49 : decode code 49 = .ok (.tableswitch 779 0 15 #[79, 151, 191, 243, 271, 311, 351, 391, 431, 459, 499, 539, 591, 631, 671, 723], 79) := by decide +kernel
theorem d_W_law_128 : decode code 128 = .ok (.aload_n 1, 1) := by decide +kernel
theorem d_W_law_129 : decode code 129 = .ok (.aload_n 0, 1) := by decide +kernel
theorem d_W_law_130 : decode code 130 = .ok (.iload 4, 2) := by decide +kernel
theorem d_W_law_132 : decode code 132 = .ok (.iconst 1, 1) := by decide +kernel
theorem d_W_law_133 : decode code 133 = .ok (.iadd, 1) := by decide +kernel
theorem d_W_law_134 : decode code 134 = .ok (.iaload, 1) := by decide +kernel
theorem d_W_law_135 : decode code 135 = .ok (.ifCond .eq 7, 3) := by decide +kernel
theorem d_W_law_138 : decode code 138 = .ok (.iconst 1, 1) := by decide +kernel
theorem d_W_law_139 : decode code 139 = .ok (.goto 4, 3) := by decide +kernel
theorem d_W_law_142 : decode code 142 = .ok (.iconst 0, 1) := by decide +kernel
theorem d_W_law_143 : decode code 143 = .ok (.aload_n 0, 1) := by decide +kernel
theorem d_W_law_144 : decode code 144 = .ok (.iload 4, 2) := by decide +kernel
theorem d_W_law_146 : decode code 146 = .ok (.iconst 2, 1) := by decide +kernel
theorem d_W_law_147 : decode code 147 = .ok (.iadd, 1) := by decide +kernel
theorem d_W_law_148 : decode code 148 = .ok (.iaload, 1) := by decide +kernel
theorem d_W_law_149 : decode code 149 = .ok (.ifCond .eq 7, 3) := by decide +kernel
theorem d_W_law_152 : decode code 152 = .ok (.iconst 1, 1) := by decide +kernel
theorem d_W_law_153 : decode code 153 = .ok (.goto 4, 3) := by decide +kernel
theorem d_W_law_156 : decode code 156 = .ok (.iconst 0, 1) := by decide +kernel
theorem d_W_law_157 : decode code 157 = .ok (.aload_n 3, 1) := by decide +kernel
theorem d_W_law_158 : decode code 158 = .ok (.invokestatic 80, 3) := by decide +kernel
theorem d_W_law_161 : decode code 161 = .ok (.istore 5, 2) := by decide +kernel
theorem d_W_law_163 : decode code 163 = .ok (.aload_n 2, 1) := by decide +kernel
theorem d_W_law_164 : decode code 164 = .ok (.aload_n 0, 1) := by decide +kernel
theorem d_W_law_165 : decode code 165 = .ok (.iload 4, 2) := by decide +kernel
theorem d_W_law_167 : decode code 167 = .ok (.iconst 1, 1) := by decide +kernel
theorem d_W_law_168 : decode code 168 = .ok (.iadd, 1) := by decide +kernel
theorem d_W_law_169 : decode code 169 = .ok (.iaload, 1) := by decide +kernel
theorem d_W_law_170 : decode code 170 = .ok (.ifCond .eq 7, 3) := by decide +kernel
theorem d_W_law_173 : decode code 173 = .ok (.iconst 1, 1) := by decide +kernel
theorem d_W_law_174 : decode code 174 = .ok (.goto 4, 3) := by decide +kernel
theorem d_W_law_177 : decode code 177 = .ok (.iconst 0, 1) := by decide +kernel
theorem d_W_law_178 : decode code 178 = .ok (.aload_n 0, 1) := by decide +kernel
theorem d_W_law_179 : decode code 179 = .ok (.iload 4, 2) := by decide +kernel
theorem d_W_law_181 : decode code 181 = .ok (.iconst 2, 1) := by decide +kernel
theorem d_W_law_182 : decode code 182 = .ok (.iadd, 1) := by decide +kernel
theorem d_W_law_183 : decode code 183 = .ok (.iaload, 1) := by decide +kernel
theorem d_W_law_184 : decode code 184 = .ok (.ifCond .eq 7, 3) := by decide +kernel
theorem d_W_law_187 : decode code 187 = .ok (.iconst 1, 1) := by decide +kernel
theorem d_W_law_188 : decode code 188 = .ok (.goto 4, 3) := by decide +kernel
theorem d_W_law_191 : decode code 191 = .ok (.iconst 0, 1) := by decide +kernel
theorem d_W_law_192 : decode code 192 = .ok (.invokevirtual 83, 3) := by decide +kernel
theorem d_W_law_195 : decode code 195 = .ok (.istore 6, 2) := by decide +kernel
theorem d_W_law_197 : decode code 197 = .ok (.goto 631, 3) := by decide +kernel
theorem d_W_law_200 : decode code 200 = .ok (.aload_n 1, 1) := by decide +kernel
theorem d_W_law_201 : decode code 201 = .ok (.aload_n 0, 1) := by decide +kernel
theorem d_W_law_202 : decode code 202 = .ok (.iload 4, 2) := by decide +kernel
theorem d_W_law_204 : decode code 204 = .ok (.iconst 1, 1) := by decide +kernel
theorem d_W_law_205 : decode code 205 = .ok (.iadd, 1) := by decide +kernel
theorem d_W_law_206 : decode code 206 = .ok (.iaload, 1) := by decide +kernel
theorem d_W_law_207 : decode code 207 = .ok (.aload_n 0, 1) := by decide +kernel
theorem d_W_law_208 : decode code 208 = .ok (.iload 4, 2) := by decide +kernel
theorem d_W_law_210 : decode code 210 = .ok (.iconst 2, 1) := by decide +kernel
theorem d_W_law_211 : decode code 211 = .ok (.iadd, 1) := by decide +kernel
theorem d_W_law_212 : decode code 212 = .ok (.iaload, 1) := by decide +kernel
theorem d_W_law_213 : decode code 213 = .ok (.aload_n 3, 1) := by decide +kernel
theorem d_W_law_214 : decode code 214 = .ok (.invokestatic 84, 3) := by decide +kernel
theorem d_W_law_217 : decode code 217 = .ok (.istore 5, 2) := by decide +kernel
theorem d_W_law_219 : decode code 219 = .ok (.aload_n 2, 1) := by decide +kernel
theorem d_W_law_220 : decode code 220 = .ok (.aload_n 0, 1) := by decide +kernel
theorem d_W_law_221 : decode code 221 = .ok (.iload 4, 2) := by decide +kernel
theorem d_W_law_223 : decode code 223 = .ok (.iconst 1, 1) := by decide +kernel
theorem d_W_law_224 : decode code 224 = .ok (.iadd, 1) := by decide +kernel
theorem d_W_law_225 : decode code 225 = .ok (.iaload, 1) := by decide +kernel
theorem d_W_law_226 : decode code 226 = .ok (.aload_n 0, 1) := by decide +kernel
theorem d_W_law_227 : decode code 227 = .ok (.iload 4, 2) := by decide +kernel
theorem d_W_law_229 : decode code 229 = .ok (.iconst 2, 1) := by decide +kernel
theorem d_W_law_230 : decode code 230 = .ok (.iadd, 1) := by decide +kernel
theorem d_W_law_231 : decode code 231 = .ok (.iaload, 1) := by decide +kernel
theorem d_W_law_232 : decode code 232 = .ok (.invokevirtual 87, 3) := by decide +kernel
theorem d_W_law_235 : decode code 235 = .ok (.istore 6, 2) := by decide +kernel
theorem d_W_law_237 : decode code 237 = .ok (.goto 591, 3) := by decide +kernel
theorem d_W_law_240 : decode code 240 = .ok (.aload_n 1, 1) := by decide +kernel
theorem d_W_law_241 : decode code 241 = .ok (.aload_n 0, 1) := by decide +kernel
theorem d_W_law_242 : decode code 242 = .ok (.iload 4, 2) := by decide +kernel
theorem d_W_law_244 : decode code 244 = .ok (.iconst 1, 1) := by decide +kernel
theorem d_W_law_245 : decode code 245 = .ok (.iadd, 1) := by decide +kernel
theorem d_W_law_246 : decode code 246 = .ok (.iaload, 1) := by decide +kernel
theorem d_W_law_247 : decode code 247 = .ok (.aload_n 0, 1) := by decide +kernel
theorem d_W_law_248 : decode code 248 = .ok (.iload 4, 2) := by decide +kernel
theorem d_W_law_250 : decode code 250 = .ok (.iconst 2, 1) := by decide +kernel
theorem d_W_law_251 : decode code 251 = .ok (.iadd, 1) := by decide +kernel
theorem d_W_law_252 : decode code 252 = .ok (.iaload, 1) := by decide +kernel
theorem d_W_law_253 : decode code 253 = .ok (.aload_n 0, 1) := by decide +kernel
theorem d_W_law_254 : decode code 254 = .ok (.iload 4, 2) := by decide +kernel
theorem d_W_law_256 : decode code 256 = .ok (.iconst 3, 1) := by decide +kernel
theorem d_W_law_257 : decode code 257 = .ok (.iadd, 1) := by decide +kernel
theorem d_W_law_258 : decode code 258 = .ok (.iaload, 1) := by decide +kernel
theorem d_W_law_259 : decode code 259 = .ok (.aload_n 3, 1) := by decide +kernel
theorem d_W_law_260 : decode code 260 = .ok (.invokestatic 88, 3) := by decide +kernel
theorem d_W_law_263 : decode code 263 = .ok (.istore 5, 2) := by decide +kernel
theorem d_W_law_265 : decode code 265 = .ok (.aload_n 2, 1) := by decide +kernel
theorem d_W_law_266 : decode code 266 = .ok (.aload_n 0, 1) := by decide +kernel
theorem d_W_law_267 : decode code 267 = .ok (.iload 4, 2) := by decide +kernel
theorem d_W_law_269 : decode code 269 = .ok (.iconst 1, 1) := by decide +kernel
theorem d_W_law_270 : decode code 270 = .ok (.iadd, 1) := by decide +kernel
theorem d_W_law_271 : decode code 271 = .ok (.iaload, 1) := by decide +kernel
theorem d_W_law_272 : decode code 272 = .ok (.aload_n 0, 1) := by decide +kernel
theorem d_W_law_273 : decode code 273 = .ok (.iload 4, 2) := by decide +kernel
theorem d_W_law_275 : decode code 275 = .ok (.iconst 2, 1) := by decide +kernel
theorem d_W_law_276 : decode code 276 = .ok (.iadd, 1) := by decide +kernel
theorem d_W_law_277 : decode code 277 = .ok (.iaload, 1) := by decide +kernel
theorem d_W_law_278 : decode code 278 = .ok (.aload_n 0, 1) := by decide +kernel
theorem d_W_law_279 : decode code 279 = .ok (.iload 4, 2) := by decide +kernel
theorem d_W_law_281 : decode code 281 = .ok (.iconst 3, 1) := by decide +kernel
theorem d_W_law_282 : decode code 282 = .ok (.iadd, 1) := by decide +kernel
theorem d_W_law_283 : decode code 283 = .ok (.iaload, 1) := by decide +kernel
theorem d_W_law_284 : decode code 284 = .ok (.invokevirtual 91, 3) := by decide +kernel
theorem d_W_law_287 : decode code 287 = .ok (.istore 6, 2) := by decide +kernel
theorem d_W_law_289 : decode code 289 = .ok (.goto 539, 3) := by decide +kernel
theorem d_W_law_292 : decode code 292 = .ok (.aload_n 1, 1) := by decide +kernel
theorem d_W_law_293 : decode code 293 = .ok (.aload_n 0, 1) := by decide +kernel
theorem d_W_law_294 : decode code 294 = .ok (.iload 4, 2) := by decide +kernel
theorem d_W_law_296 : decode code 296 = .ok (.iconst 1, 1) := by decide +kernel
theorem d_W_law_297 : decode code 297 = .ok (.iadd, 1) := by decide +kernel
theorem d_W_law_298 : decode code 298 = .ok (.iaload, 1) := by decide +kernel
theorem d_W_law_299 : decode code 299 = .ok (.aload_n 3, 1) := by decide +kernel
theorem d_W_law_300 : decode code 300 = .ok (.invokestatic 92, 3) := by decide +kernel
theorem d_W_law_303 : decode code 303 = .ok (.istore 5, 2) := by decide +kernel
theorem d_W_law_305 : decode code 305 = .ok (.aload_n 2, 1) := by decide +kernel
theorem d_W_law_306 : decode code 306 = .ok (.aload_n 0, 1) := by decide +kernel
theorem d_W_law_307 : decode code 307 = .ok (.iload 4, 2) := by decide +kernel
theorem d_W_law_309 : decode code 309 = .ok (.iconst 1, 1) := by decide +kernel
theorem d_W_law_310 : decode code 310 = .ok (.iadd, 1) := by decide +kernel
theorem d_W_law_311 : decode code 311 = .ok (.iaload, 1) := by decide +kernel
theorem d_W_law_312 : decode code 312 = .ok (.invokevirtual 95, 3) := by decide +kernel
theorem d_W_law_315 : decode code 315 = .ok (.istore 6, 2) := by decide +kernel
theorem d_W_law_317 : decode code 317 = .ok (.goto 511, 3) := by decide +kernel
theorem d_W_law_320 : decode code 320 = .ok (.aload_n 1, 1) := by decide +kernel
theorem d_W_law_321 : decode code 321 = .ok (.aload_n 0, 1) := by decide +kernel
theorem d_W_law_322 : decode code 322 = .ok (.iload 4, 2) := by decide +kernel
theorem d_W_law_324 : decode code 324 = .ok (.iconst 1, 1) := by decide +kernel
theorem d_W_law_325 : decode code 325 = .ok (.iadd, 1) := by decide +kernel
theorem d_W_law_326 : decode code 326 = .ok (.iaload, 1) := by decide +kernel
theorem d_W_law_327 : decode code 327 = .ok (.aload_n 0, 1) := by decide +kernel
theorem d_W_law_328 : decode code 328 = .ok (.iload 4, 2) := by decide +kernel
theorem d_W_law_330 : decode code 330 = .ok (.iconst 2, 1) := by decide +kernel
theorem d_W_law_331 : decode code 331 = .ok (.iadd, 1) := by decide +kernel
theorem d_W_law_332 : decode code 332 = .ok (.iaload, 1) := by decide +kernel
theorem d_W_law_333 : decode code 333 = .ok (.aload_n 3, 1) := by decide +kernel
theorem d_W_law_334 : decode code 334 = .ok (.invokestatic 96, 3) := by decide +kernel
theorem d_W_law_337 : decode code 337 = .ok (.istore 5, 2) := by decide +kernel
theorem d_W_law_339 : decode code 339 = .ok (.aload_n 2, 1) := by decide +kernel
theorem d_W_law_340 : decode code 340 = .ok (.aload_n 0, 1) := by decide +kernel
theorem d_W_law_341 : decode code 341 = .ok (.iload 4, 2) := by decide +kernel
theorem d_W_law_343 : decode code 343 = .ok (.iconst 1, 1) := by decide +kernel
theorem d_W_law_344 : decode code 344 = .ok (.iadd, 1) := by decide +kernel
theorem d_W_law_345 : decode code 345 = .ok (.iaload, 1) := by decide +kernel
theorem d_W_law_346 : decode code 346 = .ok (.aload_n 0, 1) := by decide +kernel
theorem d_W_law_347 : decode code 347 = .ok (.iload 4, 2) := by decide +kernel
theorem d_W_law_349 : decode code 349 = .ok (.iconst 2, 1) := by decide +kernel
theorem d_W_law_350 : decode code 350 = .ok (.iadd, 1) := by decide +kernel
theorem d_W_law_351 : decode code 351 = .ok (.iaload, 1) := by decide +kernel
theorem d_W_law_352 : decode code 352 = .ok (.invokevirtual 98, 3) := by decide +kernel
theorem d_W_law_355 : decode code 355 = .ok (.istore 6, 2) := by decide +kernel
theorem d_W_law_357 : decode code 357 = .ok (.goto 471, 3) := by decide +kernel
theorem d_W_law_360 : decode code 360 = .ok (.aload_n 1, 1) := by decide +kernel
theorem d_W_law_361 : decode code 361 = .ok (.aload_n 0, 1) := by decide +kernel
theorem d_W_law_362 : decode code 362 = .ok (.iload 4, 2) := by decide +kernel
theorem d_W_law_364 : decode code 364 = .ok (.iconst 1, 1) := by decide +kernel
theorem d_W_law_365 : decode code 365 = .ok (.iadd, 1) := by decide +kernel
theorem d_W_law_366 : decode code 366 = .ok (.iaload, 1) := by decide +kernel
theorem d_W_law_367 : decode code 367 = .ok (.aload_n 0, 1) := by decide +kernel
theorem d_W_law_368 : decode code 368 = .ok (.iload 4, 2) := by decide +kernel
theorem d_W_law_370 : decode code 370 = .ok (.iconst 2, 1) := by decide +kernel
theorem d_W_law_371 : decode code 371 = .ok (.iadd, 1) := by decide +kernel
theorem d_W_law_372 : decode code 372 = .ok (.iaload, 1) := by decide +kernel
theorem d_W_law_373 : decode code 373 = .ok (.aload_n 3, 1) := by decide +kernel
theorem d_W_law_374 : decode code 374 = .ok (.invokestatic 99, 3) := by decide +kernel
theorem d_W_law_377 : decode code 377 = .ok (.istore 5, 2) := by decide +kernel
theorem d_W_law_379 : decode code 379 = .ok (.aload_n 2, 1) := by decide +kernel
theorem d_W_law_380 : decode code 380 = .ok (.aload_n 0, 1) := by decide +kernel
theorem d_W_law_381 : decode code 381 = .ok (.iload 4, 2) := by decide +kernel
theorem d_W_law_383 : decode code 383 = .ok (.iconst 1, 1) := by decide +kernel
theorem d_W_law_384 : decode code 384 = .ok (.iadd, 1) := by decide +kernel
theorem d_W_law_385 : decode code 385 = .ok (.iaload, 1) := by decide +kernel
theorem d_W_law_386 : decode code 386 = .ok (.aload_n 0, 1) := by decide +kernel
theorem d_W_law_387 : decode code 387 = .ok (.iload 4, 2) := by decide +kernel
theorem d_W_law_389 : decode code 389 = .ok (.iconst 2, 1) := by decide +kernel
theorem d_W_law_390 : decode code 390 = .ok (.iadd, 1) := by decide +kernel
theorem d_W_law_391 : decode code 391 = .ok (.iaload, 1) := by decide +kernel
theorem d_W_law_392 : decode code 392 = .ok (.invokevirtual 101, 3) := by decide +kernel
theorem d_W_law_395 : decode code 395 = .ok (.istore 6, 2) := by decide +kernel
theorem d_W_law_397 : decode code 397 = .ok (.goto 431, 3) := by decide +kernel
theorem d_W_law_400 : decode code 400 = .ok (.aload_n 1, 1) := by decide +kernel
theorem d_W_law_401 : decode code 401 = .ok (.aload_n 0, 1) := by decide +kernel
theorem d_W_law_402 : decode code 402 = .ok (.iload 4, 2) := by decide +kernel
theorem d_W_law_404 : decode code 404 = .ok (.iconst 1, 1) := by decide +kernel
theorem d_W_law_405 : decode code 405 = .ok (.iadd, 1) := by decide +kernel
theorem d_W_law_406 : decode code 406 = .ok (.iaload, 1) := by decide +kernel
theorem d_W_law_407 : decode code 407 = .ok (.aload_n 0, 1) := by decide +kernel
theorem d_W_law_408 : decode code 408 = .ok (.iload 4, 2) := by decide +kernel
theorem d_W_law_410 : decode code 410 = .ok (.iconst 2, 1) := by decide +kernel
theorem d_W_law_411 : decode code 411 = .ok (.iadd, 1) := by decide +kernel
theorem d_W_law_412 : decode code 412 = .ok (.iaload, 1) := by decide +kernel
theorem d_W_law_413 : decode code 413 = .ok (.aload_n 3, 1) := by decide +kernel
theorem d_W_law_414 : decode code 414 = .ok (.invokestatic 102, 3) := by decide +kernel
theorem d_W_law_417 : decode code 417 = .ok (.istore 5, 2) := by decide +kernel
theorem d_W_law_419 : decode code 419 = .ok (.aload_n 2, 1) := by decide +kernel
theorem d_W_law_420 : decode code 420 = .ok (.aload_n 0, 1) := by decide +kernel
theorem d_W_law_421 : decode code 421 = .ok (.iload 4, 2) := by decide +kernel
theorem d_W_law_423 : decode code 423 = .ok (.iconst 1, 1) := by decide +kernel
theorem d_W_law_424 : decode code 424 = .ok (.iadd, 1) := by decide +kernel
theorem d_W_law_425 : decode code 425 = .ok (.iaload, 1) := by decide +kernel
theorem d_W_law_426 : decode code 426 = .ok (.aload_n 0, 1) := by decide +kernel
theorem d_W_law_427 : decode code 427 = .ok (.iload 4, 2) := by decide +kernel
theorem d_W_law_429 : decode code 429 = .ok (.iconst 2, 1) := by decide +kernel
theorem d_W_law_430 : decode code 430 = .ok (.iadd, 1) := by decide +kernel
theorem d_W_law_431 : decode code 431 = .ok (.iaload, 1) := by decide +kernel
theorem d_W_law_432 : decode code 432 = .ok (.invokevirtual 104, 3) := by decide +kernel
theorem d_W_law_435 : decode code 435 = .ok (.istore 6, 2) := by decide +kernel
theorem d_W_law_437 : decode code 437 = .ok (.goto 391, 3) := by decide +kernel
theorem d_W_law_440 : decode code 440 = .ok (.aload_n 1, 1) := by decide +kernel
theorem d_W_law_441 : decode code 441 = .ok (.aload_n 0, 1) := by decide +kernel
theorem d_W_law_442 : decode code 442 = .ok (.iload 4, 2) := by decide +kernel
theorem d_W_law_444 : decode code 444 = .ok (.iconst 1, 1) := by decide +kernel
theorem d_W_law_445 : decode code 445 = .ok (.iadd, 1) := by decide +kernel
theorem d_W_law_446 : decode code 446 = .ok (.iaload, 1) := by decide +kernel
theorem d_W_law_447 : decode code 447 = .ok (.aload_n 0, 1) := by decide +kernel
theorem d_W_law_448 : decode code 448 = .ok (.iload 4, 2) := by decide +kernel
theorem d_W_law_450 : decode code 450 = .ok (.iconst 2, 1) := by decide +kernel
theorem d_W_law_451 : decode code 451 = .ok (.iadd, 1) := by decide +kernel
theorem d_W_law_452 : decode code 452 = .ok (.iaload, 1) := by decide +kernel
theorem d_W_law_453 : decode code 453 = .ok (.aload_n 3, 1) := by decide +kernel
theorem d_W_law_454 : decode code 454 = .ok (.invokestatic 105, 3) := by decide +kernel
theorem d_W_law_457 : decode code 457 = .ok (.istore 5, 2) := by decide +kernel
theorem d_W_law_459 : decode code 459 = .ok (.aload_n 2, 1) := by decide +kernel
theorem d_W_law_460 : decode code 460 = .ok (.aload_n 0, 1) := by decide +kernel
theorem d_W_law_461 : decode code 461 = .ok (.iload 4, 2) := by decide +kernel
theorem d_W_law_463 : decode code 463 = .ok (.iconst 1, 1) := by decide +kernel
theorem d_W_law_464 : decode code 464 = .ok (.iadd, 1) := by decide +kernel
theorem d_W_law_465 : decode code 465 = .ok (.iaload, 1) := by decide +kernel
theorem d_W_law_466 : decode code 466 = .ok (.aload_n 0, 1) := by decide +kernel
theorem d_W_law_467 : decode code 467 = .ok (.iload 4, 2) := by decide +kernel
theorem d_W_law_469 : decode code 469 = .ok (.iconst 2, 1) := by decide +kernel
theorem d_W_law_470 : decode code 470 = .ok (.iadd, 1) := by decide +kernel
theorem d_W_law_471 : decode code 471 = .ok (.iaload, 1) := by decide +kernel
theorem d_W_law_472 : decode code 472 = .ok (.invokevirtual 107, 3) := by decide +kernel
theorem d_W_law_475 : decode code 475 = .ok (.istore 6, 2) := by decide +kernel
theorem d_W_law_477 : decode code 477 = .ok (.goto 351, 3) := by decide +kernel
theorem d_W_law_480 : decode code 480 = .ok (.aload_n 1, 1) := by decide +kernel
theorem d_W_law_481 : decode code 481 = .ok (.aload_n 0, 1) := by decide +kernel
theorem d_W_law_482 : decode code 482 = .ok (.iload 4, 2) := by decide +kernel
theorem d_W_law_484 : decode code 484 = .ok (.iconst 1, 1) := by decide +kernel
theorem d_W_law_485 : decode code 485 = .ok (.iadd, 1) := by decide +kernel
theorem d_W_law_486 : decode code 486 = .ok (.iaload, 1) := by decide +kernel
theorem d_W_law_487 : decode code 487 = .ok (.aload_n 3, 1) := by decide +kernel
theorem d_W_law_488 : decode code 488 = .ok (.invokestatic 108, 3) := by decide +kernel
theorem d_W_law_491 : decode code 491 = .ok (.istore 5, 2) := by decide +kernel
theorem d_W_law_493 : decode code 493 = .ok (.aload_n 2, 1) := by decide +kernel
theorem d_W_law_494 : decode code 494 = .ok (.aload_n 0, 1) := by decide +kernel
theorem d_W_law_495 : decode code 495 = .ok (.iload 4, 2) := by decide +kernel
theorem d_W_law_497 : decode code 497 = .ok (.iconst 1, 1) := by decide +kernel
theorem d_W_law_498 : decode code 498 = .ok (.iadd, 1) := by decide +kernel
theorem d_W_law_499 : decode code 499 = .ok (.iaload, 1) := by decide +kernel
theorem d_W_law_500 : decode code 500 = .ok (.invokevirtual 110, 3) := by decide +kernel
theorem d_W_law_503 : decode code 503 = .ok (.istore 6, 2) := by decide +kernel
theorem d_W_law_505 : decode code 505 = .ok (.goto 323, 3) := by decide +kernel
theorem d_W_law_508 : decode code 508 = .ok (.aload_n 1, 1) := by decide +kernel
theorem d_W_law_509 : decode code 509 = .ok (.aload_n 0, 1) := by decide +kernel
theorem d_W_law_510 : decode code 510 = .ok (.iload 4, 2) := by decide +kernel
theorem d_W_law_512 : decode code 512 = .ok (.iconst 1, 1) := by decide +kernel
theorem d_W_law_513 : decode code 513 = .ok (.iadd, 1) := by decide +kernel
theorem d_W_law_514 : decode code 514 = .ok (.iaload, 1) := by decide +kernel
theorem d_W_law_515 : decode code 515 = .ok (.aload_n 0, 1) := by decide +kernel
theorem d_W_law_516 : decode code 516 = .ok (.iload 4, 2) := by decide +kernel
theorem d_W_law_518 : decode code 518 = .ok (.iconst 2, 1) := by decide +kernel
theorem d_W_law_519 : decode code 519 = .ok (.iadd, 1) := by decide +kernel
theorem d_W_law_520 : decode code 520 = .ok (.iaload, 1) := by decide +kernel
theorem d_W_law_521 : decode code 521 = .ok (.aload_n 3, 1) := by decide +kernel
theorem d_W_law_522 : decode code 522 = .ok (.invokestatic 111, 3) := by decide +kernel
theorem d_W_law_525 : decode code 525 = .ok (.istore 5, 2) := by decide +kernel
theorem d_W_law_527 : decode code 527 = .ok (.aload_n 2, 1) := by decide +kernel
theorem d_W_law_528 : decode code 528 = .ok (.aload_n 0, 1) := by decide +kernel
theorem d_W_law_529 : decode code 529 = .ok (.iload 4, 2) := by decide +kernel
theorem d_W_law_531 : decode code 531 = .ok (.iconst 1, 1) := by decide +kernel
theorem d_W_law_532 : decode code 532 = .ok (.iadd, 1) := by decide +kernel
theorem d_W_law_533 : decode code 533 = .ok (.iaload, 1) := by decide +kernel
theorem d_W_law_534 : decode code 534 = .ok (.aload_n 0, 1) := by decide +kernel
theorem d_W_law_535 : decode code 535 = .ok (.iload 4, 2) := by decide +kernel
theorem d_W_law_537 : decode code 537 = .ok (.iconst 2, 1) := by decide +kernel
theorem d_W_law_538 : decode code 538 = .ok (.iadd, 1) := by decide +kernel
theorem d_W_law_539 : decode code 539 = .ok (.iaload, 1) := by decide +kernel
theorem d_W_law_540 : decode code 540 = .ok (.invokevirtual 113, 3) := by decide +kernel
theorem d_W_law_543 : decode code 543 = .ok (.istore 6, 2) := by decide +kernel
theorem d_W_law_545 : decode code 545 = .ok (.goto 283, 3) := by decide +kernel
theorem d_W_law_548 : decode code 548 = .ok (.aload_n 1, 1) := by decide +kernel
theorem d_W_law_549 : decode code 549 = .ok (.aload_n 0, 1) := by decide +kernel
theorem d_W_law_550 : decode code 550 = .ok (.iload 4, 2) := by decide +kernel
theorem d_W_law_552 : decode code 552 = .ok (.iconst 1, 1) := by decide +kernel
theorem d_W_law_553 : decode code 553 = .ok (.iadd, 1) := by decide +kernel
theorem d_W_law_554 : decode code 554 = .ok (.iaload, 1) := by decide +kernel
theorem d_W_law_555 : decode code 555 = .ok (.aload_n 0, 1) := by decide +kernel
theorem d_W_law_556 : decode code 556 = .ok (.iload 4, 2) := by decide +kernel
theorem d_W_law_558 : decode code 558 = .ok (.iconst 2, 1) := by decide +kernel
theorem d_W_law_559 : decode code 559 = .ok (.iadd, 1) := by decide +kernel
theorem d_W_law_560 : decode code 560 = .ok (.iaload, 1) := by decide +kernel
theorem d_W_law_561 : decode code 561 = .ok (.aload_n 3, 1) := by decide +kernel
theorem d_W_law_562 : decode code 562 = .ok (.invokestatic 114, 3) := by decide +kernel
theorem d_W_law_565 : decode code 565 = .ok (.istore 5, 2) := by decide +kernel
theorem d_W_law_567 : decode code 567 = .ok (.aload_n 2, 1) := by decide +kernel
theorem d_W_law_568 : decode code 568 = .ok (.aload_n 0, 1) := by decide +kernel
theorem d_W_law_569 : decode code 569 = .ok (.iload 4, 2) := by decide +kernel
theorem d_W_law_571 : decode code 571 = .ok (.iconst 1, 1) := by decide +kernel
theorem d_W_law_572 : decode code 572 = .ok (.iadd, 1) := by decide +kernel
theorem d_W_law_573 : decode code 573 = .ok (.iaload, 1) := by decide +kernel
theorem d_W_law_574 : decode code 574 = .ok (.aload_n 0, 1) := by decide +kernel
theorem d_W_law_575 : decode code 575 = .ok (.iload 4, 2) := by decide +kernel
theorem d_W_law_577 : decode code 577 = .ok (.iconst 2, 1) := by decide +kernel
theorem d_W_law_578 : decode code 578 = .ok (.iadd, 1) := by decide +kernel
theorem d_W_law_579 : decode code 579 = .ok (.iaload, 1) := by decide +kernel
theorem d_W_law_580 : decode code 580 = .ok (.invokevirtual 116, 3) := by decide +kernel
theorem d_W_law_583 : decode code 583 = .ok (.istore 6, 2) := by decide +kernel
theorem d_W_law_585 : decode code 585 = .ok (.goto 243, 3) := by decide +kernel
theorem d_W_law_588 : decode code 588 = .ok (.aload_n 1, 1) := by decide +kernel
theorem d_W_law_589 : decode code 589 = .ok (.aload_n 0, 1) := by decide +kernel
theorem d_W_law_590 : decode code 590 = .ok (.iload 4, 2) := by decide +kernel
theorem d_W_law_592 : decode code 592 = .ok (.iconst 1, 1) := by decide +kernel
theorem d_W_law_593 : decode code 593 = .ok (.iadd, 1) := by decide +kernel
theorem d_W_law_594 : decode code 594 = .ok (.iaload, 1) := by decide +kernel
theorem d_W_law_595 : decode code 595 = .ok (.aload_n 0, 1) := by decide +kernel
theorem d_W_law_596 : decode code 596 = .ok (.iload 4, 2) := by decide +kernel
theorem d_W_law_598 : decode code 598 = .ok (.iconst 2, 1) := by decide +kernel
theorem d_W_law_599 : decode code 599 = .ok (.iadd, 1) := by decide +kernel
theorem d_W_law_600 : decode code 600 = .ok (.iaload, 1) := by decide +kernel
theorem d_W_law_601 : decode code 601 = .ok (.aload_n 0, 1) := by decide +kernel
theorem d_W_law_602 : decode code 602 = .ok (.iload 4, 2) := by decide +kernel
theorem d_W_law_604 : decode code 604 = .ok (.iconst 3, 1) := by decide +kernel
theorem d_W_law_605 : decode code 605 = .ok (.iadd, 1) := by decide +kernel
theorem d_W_law_606 : decode code 606 = .ok (.iaload, 1) := by decide +kernel
theorem d_W_law_607 : decode code 607 = .ok (.aload_n 3, 1) := by decide +kernel
theorem d_W_law_608 : decode code 608 = .ok (.invokestatic 117, 3) := by decide +kernel
theorem d_W_law_611 : decode code 611 = .ok (.istore 5, 2) := by decide +kernel
theorem d_W_law_613 : decode code 613 = .ok (.aload_n 2, 1) := by decide +kernel
theorem d_W_law_614 : decode code 614 = .ok (.aload_n 0, 1) := by decide +kernel
theorem d_W_law_615 : decode code 615 = .ok (.iload 4, 2) := by decide +kernel
theorem d_W_law_617 : decode code 617 = .ok (.iconst 1, 1) := by decide +kernel
theorem d_W_law_618 : decode code 618 = .ok (.iadd, 1) := by decide +kernel
theorem d_W_law_619 : decode code 619 = .ok (.iaload, 1) := by decide +kernel
theorem d_W_law_620 : decode code 620 = .ok (.aload_n 0, 1) := by decide +kernel
theorem d_W_law_621 : decode code 621 = .ok (.iload 4, 2) := by decide +kernel
theorem d_W_law_623 : decode code 623 = .ok (.iconst 2, 1) := by decide +kernel
theorem d_W_law_624 : decode code 624 = .ok (.iadd, 1) := by decide +kernel
theorem d_W_law_625 : decode code 625 = .ok (.iaload, 1) := by decide +kernel
theorem d_W_law_626 : decode code 626 = .ok (.aload_n 0, 1) := by decide +kernel
theorem d_W_law_627 : decode code 627 = .ok (.iload 4, 2) := by decide +kernel
theorem d_W_law_629 : decode code 629 = .ok (.iconst 3, 1) := by decide +kernel
theorem d_W_law_630 : decode code 630 = .ok (.iadd, 1) := by decide +kernel
theorem d_W_law_631 : decode code 631 = .ok (.iaload, 1) := by decide +kernel
theorem d_W_law_632 : decode code 632 = .ok (.invokevirtual 119, 3) := by decide +kernel
theorem d_W_law_635 : decode code 635 = .ok (.istore 6, 2) := by decide +kernel
theorem d_W_law_637 : decode code 637 = .ok (.goto 191, 3) := by decide +kernel
theorem d_W_law_640 : decode code 640 = .ok (.aload_n 1, 1) := by decide +kernel
theorem d_W_law_641 : decode code 641 = .ok (.aload_n 0, 1) := by decide +kernel
theorem d_W_law_642 : decode code 642 = .ok (.iload 4, 2) := by decide +kernel
theorem d_W_law_644 : decode code 644 = .ok (.iconst 1, 1) := by decide +kernel
theorem d_W_law_645 : decode code 645 = .ok (.iadd, 1) := by decide +kernel
theorem d_W_law_646 : decode code 646 = .ok (.iaload, 1) := by decide +kernel
theorem d_W_law_647 : decode code 647 = .ok (.aload_n 0, 1) := by decide +kernel
theorem d_W_law_648 : decode code 648 = .ok (.iload 4, 2) := by decide +kernel
theorem d_W_law_650 : decode code 650 = .ok (.iconst 2, 1) := by decide +kernel
theorem d_W_law_651 : decode code 651 = .ok (.iadd, 1) := by decide +kernel
theorem d_W_law_652 : decode code 652 = .ok (.iaload, 1) := by decide +kernel
theorem d_W_law_653 : decode code 653 = .ok (.aload_n 3, 1) := by decide +kernel
theorem d_W_law_654 : decode code 654 = .ok (.invokestatic 120, 3) := by decide +kernel
theorem d_W_law_657 : decode code 657 = .ok (.istore 5, 2) := by decide +kernel
theorem d_W_law_659 : decode code 659 = .ok (.aload_n 2, 1) := by decide +kernel
theorem d_W_law_660 : decode code 660 = .ok (.aload_n 0, 1) := by decide +kernel
theorem d_W_law_661 : decode code 661 = .ok (.iload 4, 2) := by decide +kernel
theorem d_W_law_663 : decode code 663 = .ok (.iconst 1, 1) := by decide +kernel
theorem d_W_law_664 : decode code 664 = .ok (.iadd, 1) := by decide +kernel
theorem d_W_law_665 : decode code 665 = .ok (.iaload, 1) := by decide +kernel
theorem d_W_law_666 : decode code 666 = .ok (.aload_n 0, 1) := by decide +kernel
theorem d_W_law_667 : decode code 667 = .ok (.iload 4, 2) := by decide +kernel
theorem d_W_law_669 : decode code 669 = .ok (.iconst 2, 1) := by decide +kernel
theorem d_W_law_670 : decode code 670 = .ok (.iadd, 1) := by decide +kernel
theorem d_W_law_671 : decode code 671 = .ok (.iaload, 1) := by decide +kernel
theorem d_W_law_672 : decode code 672 = .ok (.invokevirtual 122, 3) := by decide +kernel
theorem d_W_law_675 : decode code 675 = .ok (.istore 6, 2) := by decide +kernel
theorem d_W_law_677 : decode code 677 = .ok (.goto 151, 3) := by decide +kernel
theorem d_W_law_680 : decode code 680 = .ok (.aload_n 1, 1) := by decide +kernel
theorem d_W_law_681 : decode code 681 = .ok (.aload_n 0, 1) := by decide +kernel
theorem d_W_law_682 : decode code 682 = .ok (.iload 4, 2) := by decide +kernel
theorem d_W_law_684 : decode code 684 = .ok (.iconst 1, 1) := by decide +kernel
theorem d_W_law_685 : decode code 685 = .ok (.iadd, 1) := by decide +kernel
theorem d_W_law_686 : decode code 686 = .ok (.iaload, 1) := by decide +kernel
theorem d_W_law_687 : decode code 687 = .ok (.aload_n 0, 1) := by decide +kernel
theorem d_W_law_688 : decode code 688 = .ok (.iload 4, 2) := by decide +kernel
theorem d_W_law_690 : decode code 690 = .ok (.iconst 2, 1) := by decide +kernel
theorem d_W_law_691 : decode code 691 = .ok (.iadd, 1) := by decide +kernel
theorem d_W_law_692 : decode code 692 = .ok (.iaload, 1) := by decide +kernel
theorem d_W_law_693 : decode code 693 = .ok (.aload_n 3, 1) := by decide +kernel
theorem d_W_law_694 : decode code 694 = .ok (.invokestatic 123, 3) := by decide +kernel
theorem d_W_law_697 : decode code 697 = .ok (.istore 5, 2) := by decide +kernel
theorem d_W_law_699 : decode code 699 = .ok (.aload_n 2, 1) := by decide +kernel
theorem d_W_law_700 : decode code 700 = .ok (.aload_n 0, 1) := by decide +kernel
theorem d_W_law_701 : decode code 701 = .ok (.iload 4, 2) := by decide +kernel
theorem d_W_law_703 : decode code 703 = .ok (.iconst 1, 1) := by decide +kernel
theorem d_W_law_704 : decode code 704 = .ok (.iadd, 1) := by decide +kernel
theorem d_W_law_705 : decode code 705 = .ok (.iaload, 1) := by decide +kernel
theorem d_W_law_706 : decode code 706 = .ok (.aload_n 0, 1) := by decide +kernel
theorem d_W_law_707 : decode code 707 = .ok (.iload 4, 2) := by decide +kernel
theorem d_W_law_709 : decode code 709 = .ok (.iconst 2, 1) := by decide +kernel
theorem d_W_law_710 : decode code 710 = .ok (.iadd, 1) := by decide +kernel
theorem d_W_law_711 : decode code 711 = .ok (.iaload, 1) := by decide +kernel
theorem d_W_law_712 : decode code 712 = .ok (.invokevirtual 125, 3) := by decide +kernel
theorem d_W_law_715 : decode code 715 = .ok (.istore 6, 2) := by decide +kernel
theorem d_W_law_717 : decode code 717 = .ok (.goto 111, 3) := by decide +kernel
theorem d_W_law_720 : decode code 720 = .ok (.aload_n 1, 1) := by decide +kernel
theorem d_W_law_721 : decode code 721 = .ok (.aload_n 0, 1) := by decide +kernel
theorem d_W_law_722 : decode code 722 = .ok (.iload 4, 2) := by decide +kernel
theorem d_W_law_724 : decode code 724 = .ok (.iconst 1, 1) := by decide +kernel
theorem d_W_law_725 : decode code 725 = .ok (.iadd, 1) := by decide +kernel
theorem d_W_law_726 : decode code 726 = .ok (.iaload, 1) := by decide +kernel
theorem d_W_law_727 : decode code 727 = .ok (.aload_n 0, 1) := by decide +kernel
theorem d_W_law_728 : decode code 728 = .ok (.iload 4, 2) := by decide +kernel
theorem d_W_law_730 : decode code 730 = .ok (.iconst 2, 1) := by decide +kernel
theorem d_W_law_731 : decode code 731 = .ok (.iadd, 1) := by decide +kernel
theorem d_W_law_732 : decode code 732 = .ok (.iaload, 1) := by decide +kernel
theorem d_W_law_733 : decode code 733 = .ok (.aload_n 0, 1) := by decide +kernel
theorem d_W_law_734 : decode code 734 = .ok (.iload 4, 2) := by decide +kernel
theorem d_W_law_736 : decode code 736 = .ok (.iconst 3, 1) := by decide +kernel
theorem d_W_law_737 : decode code 737 = .ok (.iadd, 1) := by decide +kernel
theorem d_W_law_738 : decode code 738 = .ok (.iaload, 1) := by decide +kernel
theorem d_W_law_739 : decode code 739 = .ok (.aload_n 3, 1) := by decide +kernel
theorem d_W_law_740 : decode code 740 = .ok (.invokestatic 126, 3) := by decide +kernel
theorem d_W_law_743 : decode code 743 = .ok (.istore 5, 2) := by decide +kernel
theorem d_W_law_745 : decode code 745 = .ok (.aload_n 2, 1) := by decide +kernel
theorem d_W_law_746 : decode code 746 = .ok (.aload_n 0, 1) := by decide +kernel
theorem d_W_law_747 : decode code 747 = .ok (.iload 4, 2) := by decide +kernel
theorem d_W_law_749 : decode code 749 = .ok (.iconst 1, 1) := by decide +kernel
theorem d_W_law_750 : decode code 750 = .ok (.iadd, 1) := by decide +kernel
theorem d_W_law_751 : decode code 751 = .ok (.iaload, 1) := by decide +kernel
theorem d_W_law_752 : decode code 752 = .ok (.aload_n 0, 1) := by decide +kernel
theorem d_W_law_753 : decode code 753 = .ok (.iload 4, 2) := by decide +kernel
theorem d_W_law_755 : decode code 755 = .ok (.iconst 2, 1) := by decide +kernel
theorem d_W_law_756 : decode code 756 = .ok (.iadd, 1) := by decide +kernel
theorem d_W_law_757 : decode code 757 = .ok (.iaload, 1) := by decide +kernel
theorem d_W_law_758 : decode code 758 = .ok (.aload_n 0, 1) := by decide +kernel
theorem d_W_law_759 : decode code 759 = .ok (.iload 4, 2) := by decide +kernel
theorem d_W_law_761 : decode code 761 = .ok (.iconst 3, 1) := by decide +kernel
theorem d_W_law_762 : decode code 762 = .ok (.iadd, 1) := by decide +kernel
theorem d_W_law_763 : decode code 763 = .ok (.iaload, 1) := by decide +kernel
theorem d_W_law_764 : decode code 764 = .ok (.invokevirtual 128, 3) := by decide +kernel
theorem d_W_law_767 : decode code 767 = .ok (.istore 6, 2) := by decide +kernel
theorem d_W_law_769 : decode code 769 = .ok (.goto 59, 3) := by decide +kernel
theorem d_W_law_772 : decode code 772 = .ok (.aload_n 1, 1) := by decide +kernel
theorem d_W_law_773 : decode code 773 = .ok (.aload_n 0, 1) := by decide +kernel
theorem d_W_law_774 : decode code 774 = .ok (.iload 4, 2) := by decide +kernel
theorem d_W_law_776 : decode code 776 = .ok (.iconst 1, 1) := by decide +kernel
theorem d_W_law_777 : decode code 777 = .ok (.iadd, 1) := by decide +kernel
theorem d_W_law_778 : decode code 778 = .ok (.iaload, 1) := by decide +kernel
theorem d_W_law_779 : decode code 779 = .ok (.aload_n 3, 1) := by decide +kernel
theorem d_W_law_780 : decode code 780 = .ok (.invokestatic 129, 3) := by decide +kernel
theorem d_W_law_783 : decode code 783 = .ok (.istore 5, 2) := by decide +kernel
theorem d_W_law_785 : decode code 785 = .ok (.aload_n 2, 1) := by decide +kernel
theorem d_W_law_786 : decode code 786 = .ok (.aload_n 0, 1) := by decide +kernel
theorem d_W_law_787 : decode code 787 = .ok (.iload 4, 2) := by decide +kernel
theorem d_W_law_789 : decode code 789 = .ok (.iconst 1, 1) := by decide +kernel
theorem d_W_law_790 : decode code 790 = .ok (.iadd, 1) := by decide +kernel
theorem d_W_law_791 : decode code 791 = .ok (.iaload, 1) := by decide +kernel
theorem d_W_law_792 : decode code 792 = .ok (.invokevirtual 131, 3) := by decide +kernel
theorem d_W_law_795 : decode code 795 = .ok (.istore 6, 2) := by decide +kernel
theorem d_W_law_797 : decode code 797 = .ok (.aload_n 2, 1) := by decide +kernel
theorem d_W_law_798 : decode code 798 = .ok (.invokevirtual 132, 3) := by decide +kernel
theorem d_W_law_801 : decode code 801 = .ok (.iload 5, 2) := by decide +kernel
theorem d_W_law_803 : decode code 803 = .ok (.if_icmp .eq 5, 3) := by decide +kernel
theorem d_W_law_806 : decode code 806 = .ok (.iconst 0, 1) := by decide +kernel
theorem d_W_law_807 : decode code 807 = .ok (.ireturn, 1) := by decide +kernel
theorem d_W_law_808 : decode code 808 = .ok (.iload 5, 2) := by decide +kernel
theorem d_W_law_810 : decode code 810 = .ok (.ifCond .ne 15, 3) := by decide +kernel
theorem d_W_law_813 : decode code 813 = .ok (.aload_n 3, 1) := by decide +kernel
theorem d_W_law_814 : decode code 814 = .ok (.iconst 0, 1) := by decide +kernel
theorem d_W_law_815 : decode code 815 = .ok (.laload, 1) := by decide +kernel
theorem d_W_law_816 : decode code 816 = .ok (.iload 6, 2) := by decide +kernel
theorem d_W_law_818 : decode code 818 = .ok (.i2l, 1) := by decide +kernel
theorem d_W_law_819 : decode code 819 = .ok (.lcmp, 1) := by decide +kernel
theorem d_W_law_820 : decode code 820 = .ok (.ifCond .eq 5, 3) := by decide +kernel
theorem d_W_law_823 : decode code 823 = .ok (.iconst 0, 1) := by decide +kernel
theorem d_W_law_824 : decode code 824 = .ok (.ireturn, 1) := by decide +kernel
theorem d_W_law_825 : decode code 825 = .ok (.goto 3, 3) := by decide +kernel
theorem d_W_law_828 : decode code 828 = .ok (.iinc 4 4, 3) := by decide +kernel
theorem d_W_law_831 : decode code 831 = .ok (.goto (-798), 3) := by decide +kernel
theorem d_W_law_834 : decode code 834 = .ok (.iconst 1, 1) := by decide +kernel
theorem d_W_law_835 : decode code 835 = .ok (.ireturn, 1) := by decide +kernel
theorem d_W_cell_0 : decode b_W_cell 0 = .ok (.iload_n 1, 1) := by decide +kernel
theorem d_W_cell_1 : decode b_W_cell 1 = .ok (.aload_n 0, 1) := by decide +kernel
theorem d_W_cell_2 : decode b_W_cell 2 = .ok (.arraylength, 1) := by decide +kernel
theorem d_W_cell_3 : decode b_W_cell 3 = .ok (.if_icmp .ge 9, 3) := by decide +kernel
theorem d_W_cell_6 : decode b_W_cell 6 = .ok (.aload_n 0, 1) := by decide +kernel
theorem d_W_cell_7 : decode b_W_cell 7 = .ok (.iload_n 1, 1) := by decide +kernel
theorem d_W_cell_8 : decode b_W_cell 8 = .ok (.iaload, 1) := by decide +kernel
theorem d_W_cell_9 : decode b_W_cell 9 = .ok (.goto 4, 3) := by decide +kernel
theorem d_W_cell_12 : decode b_W_cell 12 = .ok (.iconst 0, 1) := by decide +kernel
theorem d_W_cell_13 : decode b_W_cell 13 = .ok (.ireturn, 1) := by decide +kernel
