theorem d_L_law_0 : decode code 0 = .ok (.new 8, 3) := by decide +kernel
theorem d_L_law_3 : decode code 3 = .ok (.dup, 1) := by decide +kernel
theorem d_L_law_4 : decode code 4 = .ok (.invokespecial 80, 3) := by decide +kernel
theorem d_L_law_7 : decode code 7 = .ok (.astore_n 1, 1) := by decide +kernel
theorem d_L_law_8 : decode code 8 = .ok (.new 81, 3) := by decide +kernel
theorem d_L_law_11 : decode code 11 = .ok (.dup, 1) := by decide +kernel
theorem d_L_law_12 : decode code 12 = .ok (.invokespecial 83, 3) := by decide +kernel
theorem d_L_law_15 : decode code 15 = .ok (.astore_n 2, 1) := by decide +kernel
theorem d_L_law_16 : decode code 16 = .ok (.iconst 1, 1) := by decide +kernel
theorem d_L_law_17 : decode code 17 = .ok (.newarray .long, 2) := by decide +kernel
theorem d_L_law_19 : decode code 19 = .ok (.astore_n 3, 1) := by decide +kernel
theorem d_L_law_20 : decode code 20 = .ok (.iconst 0, 1) := by decide +kernel
theorem d_L_law_21 : decode code 21 = .ok (.istore 4, 2) := by decide +kernel
theorem d_L_law_23 : decode code 23 = .ok (.iload 4, 2) := by decide +kernel
theorem d_L_law_25 : decode code 25 = .ok (.aload_n 0, 1) := by decide +kernel
theorem d_L_law_26 : decode code 26 = .ok (.arraylength, 1) := by decide +kernel
theorem d_L_law_27 : decode code 27 = .ok (.bipush 6, 2) := by decide +kernel
theorem d_L_law_29 : decode code 29 = .ok (.isub, 1) := by decide +kernel
theorem d_L_law_30 : decode code 30 = .ok (.if_icmp .gt 1347, 3) := by decide +kernel
theorem d_L_law_33 : decode code 33 = .ok (.aload_n 0, 1) := by decide +kernel
theorem d_L_law_34 : decode code 34 = .ok (.iload 4, 2) := by decide +kernel
theorem d_L_law_36 : decode code 36 = .ok (.iaload, 1) := by decide +kernel
theorem d_L_law_37 : decode code 37 = .ok (.bipush 31, 2) := by decide +kernel
theorem d_L_law_39 : decode code 39 = .ok (.iand, 1) := by decide +kernel
theorem d_L_law_40 : decode code 40 = .ok (.tableswitch 1331 0 19 #[96, 164, 268, 324, 416, 429, 497, 553, 609, 672, 728, 784, 852, 908, 944, 1000, 1055, 1139, 1207, 1275], 96) := by decide +kernel
theorem d_L_law_136 : decode code 136 = .ok (.aload_n 1, 1) := by decide +kernel
theorem d_L_law_137 : decode code 137 = .ok (.aload_n 0, 1) := by decide +kernel
theorem d_L_law_138 : decode code 138 = .ok (.iload 4, 2) := by decide +kernel
theorem d_L_law_140 : decode code 140 = .ok (.iconst 1, 1) := by decide +kernel
theorem d_L_law_141 : decode code 141 = .ok (.iadd, 1) := by decide +kernel
theorem d_L_law_142 : decode code 142 = .ok (.iaload, 1) := by decide +kernel
theorem d_L_law_143 : decode code 143 = .ok (.aload_n 0, 1) := by decide +kernel
theorem d_L_law_144 : decode code 144 = .ok (.iload 4, 2) := by decide +kernel
theorem d_L_law_146 : decode code 146 = .ok (.iconst 2, 1) := by decide +kernel
theorem d_L_law_147 : decode code 147 = .ok (.iadd, 1) := by decide +kernel
theorem d_L_law_148 : decode code 148 = .ok (.iaload, 1) := by decide +kernel
theorem d_L_law_149 : decode code 149 = .ok (.aload_n 3, 1) := by decide +kernel
theorem d_L_law_150 : decode code 150 = .ok (.invokestatic 84, 3) := by decide +kernel
theorem d_L_law_153 : decode code 153 = .ok (.istore 5, 2) := by decide +kernel
theorem d_L_law_155 : decode code 155 = .ok (.aload_n 2, 1) := by decide +kernel
theorem d_L_law_156 : decode code 156 = .ok (.aload_n 0, 1) := by decide +kernel
theorem d_L_law_157 : decode code 157 = .ok (.iload 4, 2) := by decide +kernel
theorem d_L_law_159 : decode code 159 = .ok (.iconst 1, 1) := by decide +kernel
theorem d_L_law_160 : decode code 160 = .ok (.iadd, 1) := by decide +kernel
theorem d_L_law_161 : decode code 161 = .ok (.iaload, 1) := by decide +kernel
theorem d_L_law_162 : decode code 162 = .ok (.aload_n 0, 1) := by decide +kernel
theorem d_L_law_163 : decode code 163 = .ok (.iload 4, 2) := by decide +kernel
theorem d_L_law_165 : decode code 165 = .ok (.iconst 2, 1) := by decide +kernel
theorem d_L_law_166 : decode code 166 = .ok (.iadd, 1) := by decide +kernel
theorem d_L_law_167 : decode code 167 = .ok (.iaload, 1) := by decide +kernel
theorem d_L_law_168 : decode code 168 = .ok (.invokevirtual 89, 3) := by decide +kernel
theorem d_L_law_171 : decode code 171 = .ok (.istore 6, 2) := by decide +kernel
theorem d_L_law_173 : decode code 173 = .ok (.aload_n 2, 1) := by decide +kernel
theorem d_L_law_174 : decode code 174 = .ok (.invokevirtual 90, 3) := by decide +kernel
theorem d_L_law_177 : decode code 177 = .ok (.iload 5, 2) := by decide +kernel
theorem d_L_law_179 : decode code 179 = .ok (.if_icmp .eq 5, 3) := by decide +kernel
theorem d_L_law_182 : decode code 182 = .ok (.iconst 0, 1) := by decide +kernel
theorem d_L_law_183 : decode code 183 = .ok (.ireturn, 1) := by decide +kernel
theorem d_L_law_184 : decode code 184 = .ok (.iload 5, 2) := by decide +kernel
theorem d_L_law_186 : decode code 186 = .ok (.ifCond .ne 15, 3) := by decide +kernel
theorem d_L_law_189 : decode code 189 = .ok (.aload_n 3, 1) := by decide +kernel
theorem d_L_law_190 : decode code 190 = .ok (.iconst 0, 1) := by decide +kernel
theorem d_L_law_191 : decode code 191 = .ok (.laload, 1) := by decide +kernel
theorem d_L_law_192 : decode code 192 = .ok (.iload 6, 2) := by decide +kernel
theorem d_L_law_194 : decode code 194 = .ok (.i2l, 1) := by decide +kernel
theorem d_L_law_195 : decode code 195 = .ok (.lcmp, 1) := by decide +kernel
theorem d_L_law_196 : decode code 196 = .ok (.ifCond .eq 5, 3) := by decide +kernel
theorem d_L_law_199 : decode code 199 = .ok (.iconst 0, 1) := by decide +kernel
theorem d_L_law_200 : decode code 200 = .ok (.ireturn, 1) := by decide +kernel
theorem d_L_law_201 : decode code 201 = .ok (.goto 1170, 3) := by decide +kernel
theorem d_L_law_204 : decode code 204 = .ok (.aload_n 1, 1) := by decide +kernel
theorem d_L_law_205 : decode code 205 = .ok (.aload_n 0, 1) := by decide +kernel
theorem d_L_law_206 : decode code 206 = .ok (.iload 4, 2) := by decide +kernel
theorem d_L_law_208 : decode code 208 = .ok (.iconst 1, 1) := by decide +kernel
theorem d_L_law_209 : decode code 209 = .ok (.iadd, 1) := by decide +kernel
theorem d_L_law_210 : decode code 210 = .ok (.iaload, 1) := by decide +kernel
theorem d_L_law_211 : decode code 211 = .ok (.aload_n 0, 1) := by decide +kernel
theorem d_L_law_212 : decode code 212 = .ok (.iload 4, 2) := by decide +kernel
theorem d_L_law_214 : decode code 214 = .ok (.iconst 2, 1) := by decide +kernel
theorem d_L_law_215 : decode code 215 = .ok (.iadd, 1) := by decide +kernel
theorem d_L_law_216 : decode code 216 = .ok (.iaload, 1) := by decide +kernel
theorem d_L_law_217 : decode code 217 = .ok (.aload_n 0, 1) := by decide +kernel
theorem d_L_law_218 : decode code 218 = .ok (.iload 4, 2) := by decide +kernel
theorem d_L_law_220 : decode code 220 = .ok (.iconst 3, 1) := by decide +kernel
theorem d_L_law_221 : decode code 221 = .ok (.iadd, 1) := by decide +kernel
theorem d_L_law_222 : decode code 222 = .ok (.iaload, 1) := by decide +kernel
theorem d_L_law_223 : decode code 223 = .ok (.aload_n 0, 1) := by decide +kernel
theorem d_L_law_224 : decode code 224 = .ok (.iload 4, 2) := by decide +kernel
theorem d_L_law_226 : decode code 226 = .ok (.iconst 4, 1) := by decide +kernel
theorem d_L_law_227 : decode code 227 = .ok (.iadd, 1) := by decide +kernel
theorem d_L_law_228 : decode code 228 = .ok (.iaload, 1) := by decide +kernel
theorem d_L_law_229 : decode code 229 = .ok (.aload_n 0, 1) := by decide +kernel
theorem d_L_law_230 : decode code 230 = .ok (.iload 4, 2) := by decide +kernel
theorem d_L_law_232 : decode code 232 = .ok (.iconst 5, 1) := by decide +kernel
theorem d_L_law_233 : decode code 233 = .ok (.iadd, 1) := by decide +kernel
theorem d_L_law_234 : decode code 234 = .ok (.iaload, 1) := by decide +kernel
theorem d_L_law_235 : decode code 235 = .ok (.aload_n 3, 1) := by decide +kernel
theorem d_L_law_236 : decode code 236 = .ok (.invokestatic 94, 3) := by decide +kernel
theorem d_L_law_239 : decode code 239 = .ok (.istore 5, 2) := by decide +kernel
theorem d_L_law_241 : decode code 241 = .ok (.aload_n 2, 1) := by decide +kernel
theorem d_L_law_242 : decode code 242 = .ok (.aload_n 0, 1) := by decide +kernel
theorem d_L_law_243 : decode code 243 = .ok (.iload 4, 2) := by decide +kernel
theorem d_L_law_245 : decode code 245 = .ok (.iconst 1, 1) := by decide +kernel
theorem d_L_law_246 : decode code 246 = .ok (.iadd, 1) := by decide +kernel
theorem d_L_law_247 : decode code 247 = .ok (.iaload, 1) := by decide +kernel
theorem d_L_law_248 : decode code 248 = .ok (.aload_n 0, 1) := by decide +kernel
theorem d_L_law_249 : decode code 249 = .ok (.iload 4, 2) := by decide +kernel
theorem d_L_law_251 : decode code 251 = .ok (.iconst 2, 1) := by decide +kernel
theorem d_L_law_252 : decode code 252 = .ok (.iadd, 1) := by decide +kernel
theorem d_L_law_253 : decode code 253 = .ok (.iaload, 1) := by decide +kernel
theorem d_L_law_254 : decode code 254 = .ok (.aload_n 0, 1) := by decide +kernel
theorem d_L_law_255 : decode code 255 = .ok (.iload 4, 2) := by decide +kernel
theorem d_L_law_257 : decode code 257 = .ok (.iconst 3, 1) := by decide +kernel
theorem d_L_law_258 : decode code 258 = .ok (.iadd, 1) := by decide +kernel
theorem d_L_law_259 : decode code 259 = .ok (.iaload, 1) := by decide +kernel
theorem d_L_law_260 : decode code 260 = .ok (.aload_n 0, 1) := by decide +kernel
theorem d_L_law_261 : decode code 261 = .ok (.iload 4, 2) := by decide +kernel
theorem d_L_law_263 : decode code 263 = .ok (.iconst 4, 1) := by decide +kernel
theorem d_L_law_264 : decode code 264 = .ok (.iadd, 1) := by decide +kernel
theorem d_L_law_265 : decode code 265 = .ok (.iaload, 1) := by decide +kernel
theorem d_L_law_266 : decode code 266 = .ok (.aload_n 0, 1) := by decide +kernel
theorem d_L_law_267 : decode code 267 = .ok (.iload 4, 2) := by decide +kernel
theorem d_L_law_269 : decode code 269 = .ok (.iconst 5, 1) := by decide +kernel
theorem d_L_law_270 : decode code 270 = .ok (.iadd, 1) := by decide +kernel
theorem d_L_law_271 : decode code 271 = .ok (.iaload, 1) := by decide +kernel
theorem d_L_law_272 : decode code 272 = .ok (.invokevirtual 97, 3) := by decide +kernel
theorem d_L_law_275 : decode code 275 = .ok (.istore 6, 2) := by decide +kernel
theorem d_L_law_277 : decode code 277 = .ok (.aload_n 2, 1) := by decide +kernel
theorem d_L_law_278 : decode code 278 = .ok (.invokevirtual 90, 3) := by decide +kernel
theorem d_L_law_281 : decode code 281 = .ok (.iload 5, 2) := by decide +kernel
theorem d_L_law_283 : decode code 283 = .ok (.if_icmp .eq 5, 3) := by decide +kernel
theorem d_L_law_286 : decode code 286 = .ok (.iconst 0, 1) := by decide +kernel
theorem d_L_law_287 : decode code 287 = .ok (.ireturn, 1) := by decide +kernel
theorem d_L_law_288 : decode code 288 = .ok (.iload 5, 2) := by decide +kernel
theorem d_L_law_290 : decode code 290 = .ok (.ifCond .ne 15, 3) := by decide +kernel
theorem d_L_law_293 : decode code 293 = .ok (.aload_n 3, 1) := by decide +kernel
theorem d_L_law_294 : decode code 294 = .ok (.iconst 0, 1) := by decide +kernel
theorem d_L_law_295 : decode code 295 = .ok (.laload, 1) := by decide +kernel
theorem d_L_law_296 : decode code 296 = .ok (.iload 6, 2) := by decide +kernel
theorem d_L_law_298 : decode code 298 = .ok (.i2l, 1) := by decide +kernel
theorem d_L_law_299 : decode code 299 = .ok (.lcmp, 1) := by decide +kernel
theorem d_L_law_300 : decode code 300 = .ok (.ifCond .eq 5, 3) := by decide +kernel
theorem d_L_law_303 : decode code 303 = .ok (.iconst 0, 1) := by decide +kernel
theorem d_L_law_304 : decode code 304 = .ok (.ireturn, 1) := by decide +kernel
theorem d_L_law_305 : decode code 305 = .ok (.goto 1066, 3) := by decide +kernel
theorem d_L_law_308 : decode code 308 = .ok (.aload_n 1, 1) := by decide +kernel
theorem d_L_law_309 : decode code 309 = .ok (.aload_n 0, 1) := by decide +kernel
theorem d_L_law_310 : decode code 310 = .ok (.iload 4, 2) := by decide +kernel
theorem d_L_law_312 : decode code 312 = .ok (.iconst 1, 1) := by decide +kernel
theorem d_L_law_313 : decode code 313 = .ok (.iadd, 1) := by decide +kernel
theorem d_L_law_314 : decode code 314 = .ok (.iaload, 1) := by decide +kernel
theorem d_L_law_315 : decode code 315 = .ok (.aload_n 3, 1) := by decide +kernel
theorem d_L_law_316 : decode code 316 = .ok (.invokestatic 98, 3) := by decide +kernel
theorem d_L_law_319 : decode code 319 = .ok (.istore 5, 2) := by decide +kernel
theorem d_L_law_321 : decode code 321 = .ok (.aload_n 2, 1) := by decide +kernel
theorem d_L_law_322 : decode code 322 = .ok (.aload_n 0, 1) := by decide +kernel
theorem d_L_law_323 : decode code 323 = .ok (.iload 4, 2) := by decide +kernel
theorem d_L_law_325 : decode code 325 = .ok (.iconst 1, 1) := by decide +kernel
theorem d_L_law_326 : decode code 326 = .ok (.iadd, 1) := by decide +kernel
theorem d_L_law_327 : decode code 327 = .ok (.iaload, 1) := by decide +kernel
theorem d_L_law_328 : decode code 328 = .ok (.invokevirtual 101, 3) := by decide +kernel
theorem d_L_law_331 : decode code 331 = .ok (.istore 6, 2) := by decide +kernel
theorem d_L_law_333 : decode code 333 = .ok (.aload_n 2, 1) := by decide +kernel
theorem d_L_law_334 : decode code 334 = .ok (.invokevirtual 90, 3) := by decide +kernel
theorem d_L_law_337 : decode code 337 = .ok (.iload 5, 2) := by decide +kernel
theorem d_L_law_339 : decode code 339 = .ok (.if_icmp .eq 5, 3) := by decide +kernel
theorem d_L_law_342 : decode code 342 = .ok (.iconst 0, 1) := by decide +kernel
theorem d_L_law_343 : decode code 343 = .ok (.ireturn, 1) := by decide +kernel
theorem d_L_law_344 : decode code 344 = .ok (.iload 5, 2) := by decide +kernel
theorem d_L_law_346 : decode code 346 = .ok (.ifCond .ne 15, 3) := by decide +kernel
theorem d_L_law_349 : decode code 349 = .ok (.aload_n 3, 1) := by decide +kernel
theorem d_L_law_350 : decode code 350 = .ok (.iconst 0, 1) := by decide +kernel
theorem d_L_law_351 : decode code 351 = .ok (.laload, 1) := by decide +kernel
theorem d_L_law_352 : decode code 352 = .ok (.iload 6, 2) := by decide +kernel
theorem d_L_law_354 : decode code 354 = .ok (.i2l, 1) := by decide +kernel
theorem d_L_law_355 : decode code 355 = .ok (.lcmp, 1) := by decide +kernel
theorem d_L_law_356 : decode code 356 = .ok (.ifCond .eq 5, 3) := by decide +kernel
theorem d_L_law_359 : decode code 359 = .ok (.iconst 0, 1) := by decide +kernel
theorem d_L_law_360 : decode code 360 = .ok (.ireturn, 1) := by decide +kernel
theorem d_L_law_361 : decode code 361 = .ok (.goto 1010, 3) := by decide +kernel
theorem d_L_law_364 : decode code 364 = .ok (.aload_n 1, 1) := by decide +kernel
theorem d_L_law_365 : decode code 365 = .ok (.aload_n 0, 1) := by decide +kernel
theorem d_L_law_366 : decode code 366 = .ok (.iload 4, 2) := by decide +kernel
theorem d_L_law_368 : decode code 368 = .ok (.iconst 1, 1) := by decide +kernel
theorem d_L_law_369 : decode code 369 = .ok (.iadd, 1) := by decide +kernel
theorem d_L_law_370 : decode code 370 = .ok (.iaload, 1) := by decide +kernel
theorem d_L_law_371 : decode code 371 = .ok (.aload_n 0, 1) := by decide +kernel
theorem d_L_law_372 : decode code 372 = .ok (.iload 4, 2) := by decide +kernel
theorem d_L_law_374 : decode code 374 = .ok (.iconst 2, 1) := by decide +kernel
theorem d_L_law_375 : decode code 375 = .ok (.iadd, 1) := by decide +kernel
theorem d_L_law_376 : decode code 376 = .ok (.iaload, 1) := by decide +kernel
theorem d_L_law_377 : decode code 377 = .ok (.aload_n 0, 1) := by decide +kernel
theorem d_L_law_378 : decode code 378 = .ok (.iload 4, 2) := by decide +kernel
theorem d_L_law_380 : decode code 380 = .ok (.iconst 3, 1) := by decide +kernel
theorem d_L_law_381 : decode code 381 = .ok (.iadd, 1) := by decide +kernel
theorem d_L_law_382 : decode code 382 = .ok (.iaload, 1) := by decide +kernel
theorem d_L_law_383 : decode code 383 = .ok (.aload_n 0, 1) := by decide +kernel
theorem d_L_law_384 : decode code 384 = .ok (.iload 4, 2) := by decide +kernel
theorem d_L_law_386 : decode code 386 = .ok (.iconst 4, 1) := by decide +kernel
theorem d_L_law_387 : decode code 387 = .ok (.iadd, 1) := by decide +kernel
theorem d_L_law_388 : decode code 388 = .ok (.iaload, 1) := by decide +kernel
theorem d_L_law_389 : decode code 389 = .ok (.aload_n 3, 1) := by decide +kernel
theorem d_L_law_390 : decode code 390 = .ok (.invokestatic 102, 3) := by decide +kernel
theorem d_L_law_393 : decode code 393 = .ok (.istore 5, 2) := by decide +kernel
theorem d_L_law_395 : decode code 395 = .ok (.aload_n 2, 1) := by decide +kernel
theorem d_L_law_396 : decode code 396 = .ok (.aload_n 0, 1) := by decide +kernel
theorem d_L_law_397 : decode code 397 = .ok (.iload 4, 2) := by decide +kernel
theorem d_L_law_399 : decode code 399 = .ok (.iconst 1, 1) := by decide +kernel
theorem d_L_law_400 : decode code 400 = .ok (.iadd, 1) := by decide +kernel
theorem d_L_law_401 : decode code 401 = .ok (.iaload, 1) := by decide +kernel
theorem d_L_law_402 : decode code 402 = .ok (.aload_n 0, 1) := by decide +kernel
theorem d_L_law_403 : decode code 403 = .ok (.iload 4, 2) := by decide +kernel
theorem d_L_law_405 : decode code 405 = .ok (.iconst 2, 1) := by decide +kernel
theorem d_L_law_406 : decode code 406 = .ok (.iadd, 1) := by decide +kernel
theorem d_L_law_407 : decode code 407 = .ok (.iaload, 1) := by decide +kernel
theorem d_L_law_408 : decode code 408 = .ok (.aload_n 0, 1) := by decide +kernel
theorem d_L_law_409 : decode code 409 = .ok (.iload 4, 2) := by decide +kernel
theorem d_L_law_411 : decode code 411 = .ok (.iconst 3, 1) := by decide +kernel
theorem d_L_law_412 : decode code 412 = .ok (.iadd, 1) := by decide +kernel
theorem d_L_law_413 : decode code 413 = .ok (.iaload, 1) := by decide +kernel
theorem d_L_law_414 : decode code 414 = .ok (.aload_n 0, 1) := by decide +kernel
theorem d_L_law_415 : decode code 415 = .ok (.iload 4, 2) := by decide +kernel
theorem d_L_law_417 : decode code 417 = .ok (.iconst 4, 1) := by decide +kernel
theorem d_L_law_418 : decode code 418 = .ok (.iadd, 1) := by decide +kernel
theorem d_L_law_419 : decode code 419 = .ok (.iaload, 1) := by decide +kernel
theorem d_L_law_420 : decode code 420 = .ok (.invokevirtual 105, 3) := by decide +kernel
theorem d_L_law_423 : decode code 423 = .ok (.istore 6, 2) := by decide +kernel
theorem d_L_law_425 : decode code 425 = .ok (.aload_n 2, 1) := by decide +kernel
theorem d_L_law_426 : decode code 426 = .ok (.invokevirtual 90, 3) := by decide +kernel
theorem d_L_law_429 : decode code 429 = .ok (.iload 5, 2) := by decide +kernel
theorem d_L_law_431 : decode code 431 = .ok (.if_icmp .eq 5, 3) := by decide +kernel
theorem d_L_law_434 : decode code 434 = .ok (.iconst 0, 1) := by decide +kernel
theorem d_L_law_435 : decode code 435 = .ok (.ireturn, 1) := by decide +kernel
theorem d_L_law_436 : decode code 436 = .ok (.iload 5, 2) := by decide +kernel
theorem d_L_law_438 : decode code 438 = .ok (.ifCond .ne 15, 3) := by decide +kernel
theorem d_L_law_441 : decode code 441 = .ok (.aload_n 3, 1) := by decide +kernel
theorem d_L_law_442 : decode code 442 = .ok (.iconst 0, 1) := by decide +kernel
theorem d_L_law_443 : decode code 443 = .ok (.laload, 1) := by decide +kernel
theorem d_L_law_444 : decode code 444 = .ok (.iload 6, 2) := by decide +kernel
theorem d_L_law_446 : decode code 446 = .ok (.i2l, 1) := by decide +kernel
theorem d_L_law_447 : decode code 447 = .ok (.lcmp, 1) := by decide +kernel
theorem d_L_law_448 : decode code 448 = .ok (.ifCond .eq 5, 3) := by decide +kernel
theorem d_L_law_451 : decode code 451 = .ok (.iconst 0, 1) := by decide +kernel
theorem d_L_law_452 : decode code 452 = .ok (.ireturn, 1) := by decide +kernel
theorem d_L_law_453 : decode code 453 = .ok (.goto 918, 3) := by decide +kernel
theorem d_L_law_456 : decode code 456 = .ok (.aload_n 1, 1) := by decide +kernel
theorem d_L_law_457 : decode code 457 = .ok (.invokevirtual 106, 3) := by decide +kernel
theorem d_L_law_460 : decode code 460 = .ok (.aload_n 2, 1) := by decide +kernel
theorem d_L_law_461 : decode code 461 = .ok (.invokevirtual 109, 3) := by decide +kernel
theorem d_L_law_464 : decode code 464 = .ok (.if_icmp .eq 907, 3) := by decide +kernel
theorem d_L_law_467 : decode code 467 = .ok (.iconst 0, 1) := by decide +kernel
theorem d_L_law_468 : decode code 468 = .ok (.ireturn, 1) := by decide +kernel
theorem d_L_law_469 : decode code 469 = .ok (.aload_n 1, 1) := by decide +kernel
theorem d_L_law_470 : decode code 470 = .ok (.aload_n 0, 1) := by decide +kernel
theorem d_L_law_471 : decode code 471 = .ok (.iload 4, 2) := by decide +kernel
theorem d_L_law_473 : decode code 473 = .ok (.iconst 1, 1) := by decide +kernel
theorem d_L_law_474 : decode code 474 = .ok (.iadd, 1) := by decide +kernel
theorem d_L_law_475 : decode code 475 = .ok (.iaload, 1) := by decide +kernel
theorem d_L_law_476 : decode code 476 = .ok (.aload_n 0, 1) := by decide +kernel
theorem d_L_law_477 : decode code 477 = .ok (.iload 4, 2) := by decide +kernel
theorem d_L_law_479 : decode code 479 = .ok (.iconst 2, 1) := by decide +kernel
theorem d_L_law_480 : decode code 480 = .ok (.iadd, 1) := by decide +kernel
theorem d_L_law_481 : decode code 481 = .ok (.iaload, 1) := by decide +kernel
theorem d_L_law_482 : decode code 482 = .ok (.aload_n 3, 1) := by decide +kernel
theorem d_L_law_483 : decode code 483 = .ok (.invokestatic 110, 3) := by decide +kernel
theorem d_L_law_486 : decode code 486 = .ok (.istore 5, 2) := by decide +kernel
theorem d_L_law_488 : decode code 488 = .ok (.aload_n 2, 1) := by decide +kernel
theorem d_L_law_489 : decode code 489 = .ok (.aload_n 0, 1) := by decide +kernel
theorem d_L_law_490 : decode code 490 = .ok (.iload 4, 2) := by decide +kernel
theorem d_L_law_492 : decode code 492 = .ok (.iconst 1, 1) := by decide +kernel
theorem d_L_law_493 : decode code 493 = .ok (.iadd, 1) := by decide +kernel
theorem d_L_law_494 : decode code 494 = .ok (.iaload, 1) := by decide +kernel
theorem d_L_law_495 : decode code 495 = .ok (.aload_n 0, 1) := by decide +kernel
theorem d_L_law_496 : decode code 496 = .ok (.iload 4, 2) := by decide +kernel
theorem d_L_law_498 : decode code 498 = .ok (.iconst 2, 1) := by decide +kernel
theorem d_L_law_499 : decode code 499 = .ok (.iadd, 1) := by decide +kernel
theorem d_L_law_500 : decode code 500 = .ok (.iaload, 1) := by decide +kernel
theorem d_L_law_501 : decode code 501 = .ok (.invokevirtual 112, 3) := by decide +kernel
theorem d_L_law_504 : decode code 504 = .ok (.istore 6, 2) := by decide +kernel
theorem d_L_law_506 : decode code 506 = .ok (.aload_n 2, 1) := by decide +kernel
theorem d_L_law_507 : decode code 507 = .ok (.invokevirtual 90, 3) := by decide +kernel
theorem d_L_law_510 : decode code 510 = .ok (.iload 5, 2) := by decide +kernel
theorem d_L_law_512 : decode code 512 = .ok (.if_icmp .eq 5, 3) := by decide +kernel
theorem d_L_law_515 : decode code 515 = .ok (.iconst 0, 1) := by decide +kernel
theorem d_L_law_516 : decode code 516 = .ok (.ireturn, 1) := by decide +kernel
theorem d_L_law_517 : decode code 517 = .ok (.iload 5, 2) := by decide +kernel
theorem d_L_law_519 : decode code 519 = .ok (.ifCond .ne 15, 3) := by decide +kernel
theorem d_L_law_522 : decode code 522 = .ok (.aload_n 3, 1) := by decide +kernel
theorem d_L_law_523 : decode code 523 = .ok (.iconst 0, 1) := by decide +kernel
theorem d_L_law_524 : decode code 524 = .ok (.laload, 1) := by decide +kernel
theorem d_L_law_525 : decode code 525 = .ok (.iload 6, 2) := by decide +kernel
theorem d_L_law_527 : decode code 527 = .ok (.i2l, 1) := by decide +kernel
theorem d_L_law_528 : decode code 528 = .ok (.lcmp, 1) := by decide +kernel
theorem d_L_law_529 : decode code 529 = .ok (.ifCond .eq 5, 3) := by decide +kernel
theorem d_L_law_532 : decode code 532 = .ok (.iconst 0, 1) := by decide +kernel
theorem d_L_law_533 : decode code 533 = .ok (.ireturn, 1) := by decide +kernel
theorem d_L_law_534 : decode code 534 = .ok (.goto 837, 3) := by decide +kernel
theorem d_L_law_537 : decode code 537 = .ok (.aload_n 1, 1) := by decide +kernel
theorem d_L_law_538 : decode code 538 = .ok (.aload_n 0, 1) := by decide +kernel
theorem d_L_law_539 : decode code 539 = .ok (.iload 4, 2) := by decide +kernel
theorem d_L_law_541 : decode code 541 = .ok (.iconst 1, 1) := by decide +kernel
theorem d_L_law_542 : decode code 542 = .ok (.iadd, 1) := by decide +kernel
theorem d_L_law_543 : decode code 543 = .ok (.iaload, 1) := by decide +kernel
theorem d_L_law_544 : decode code 544 = .ok (.aload_n 3, 1) := by decide +kernel
theorem d_L_law_545 : decode code 545 = .ok (.invokestatic 113, 3) := by decide +kernel
theorem d_L_law_548 : decode code 548 = .ok (.istore 5, 2) := by decide +kernel
theorem d_L_law_550 : decode code 550 = .ok (.aload_n 2, 1) := by decide +kernel
theorem d_L_law_551 : decode code 551 = .ok (.aload_n 0, 1) := by decide +kernel
theorem d_L_law_552 : decode code 552 = .ok (.iload 4, 2) := by decide +kernel
theorem d_L_law_554 : decode code 554 = .ok (.iconst 1, 1) := by decide +kernel
theorem d_L_law_555 : decode code 555 = .ok (.iadd, 1) := by decide +kernel
theorem d_L_law_556 : decode code 556 = .ok (.iaload, 1) := by decide +kernel
theorem d_L_law_557 : decode code 557 = .ok (.invokevirtual 115, 3) := by decide +kernel
theorem d_L_law_560 : decode code 560 = .ok (.istore 6, 2) := by decide +kernel
theorem d_L_law_562 : decode code 562 = .ok (.aload_n 2, 1) := by decide +kernel
theorem d_L_law_563 : decode code 563 = .ok (.invokevirtual 90, 3) := by decide +kernel
theorem d_L_law_566 : decode code 566 = .ok (.iload 5, 2) := by decide +kernel
theorem d_L_law_568 : decode code 568 = .ok (.if_icmp .eq 5, 3) := by decide +kernel
theorem d_L_law_571 : decode code 571 = .ok (.iconst 0, 1) := by decide +kernel
theorem d_L_law_572 : decode code 572 = .ok (.ireturn, 1) := by decide +kernel
theorem d_L_law_573 : decode code 573 = .ok (.iload 5, 2) := by decide +kernel
theorem d_L_law_575 : decode code 575 = .ok (.ifCond .ne 15, 3) := by decide +kernel
theorem d_L_law_578 : decode code 578 = .ok (.aload_n 3, 1) := by decide +kernel
theorem d_L_law_579 : decode code 579 = .ok (.iconst 0, 1) := by decide +kernel
theorem d_L_law_580 : decode code 580 = .ok (.laload, 1) := by decide +kernel
theorem d_L_law_581 : decode code 581 = .ok (.iload 6, 2) := by decide +kernel
theorem d_L_law_583 : decode code 583 = .ok (.i2l, 1) := by decide +kernel
theorem d_L_law_584 : decode code 584 = .ok (.lcmp, 1) := by decide +kernel
theorem d_L_law_585 : decode code 585 = .ok (.ifCond .eq 5, 3) := by decide +kernel
theorem d_L_law_588 : decode code 588 = .ok (.iconst 0, 1) := by decide +kernel
theorem d_L_law_589 : decode code 589 = .ok (.ireturn, 1) := by decide +kernel
theorem d_L_law_590 : decode code 590 = .ok (.goto 781, 3) := by decide +kernel
theorem d_L_law_593 : decode code 593 = .ok (.aload_n 1, 1) := by decide +kernel
theorem d_L_law_594 : decode code 594 = .ok (.aload_n 0, 1) := by decide +kernel
theorem d_L_law_595 : decode code 595 = .ok (.iload 4, 2) := by decide +kernel
theorem d_L_law_597 : decode code 597 = .ok (.iconst 1, 1) := by decide +kernel
theorem d_L_law_598 : decode code 598 = .ok (.iadd, 1) := by decide +kernel
theorem d_L_law_599 : decode code 599 = .ok (.iaload, 1) := by decide +kernel
theorem d_L_law_600 : decode code 600 = .ok (.aload_n 3, 1) := by decide +kernel
theorem d_L_law_601 : decode code 601 = .ok (.invokestatic 116, 3) := by decide +kernel
theorem d_L_law_604 : decode code 604 = .ok (.istore 5, 2) := by decide +kernel
theorem d_L_law_606 : decode code 606 = .ok (.aload_n 2, 1) := by decide +kernel
theorem d_L_law_607 : decode code 607 = .ok (.aload_n 0, 1) := by decide +kernel
theorem d_L_law_608 : decode code 608 = .ok (.iload 4, 2) := by decide +kernel
theorem d_L_law_610 : decode code 610 = .ok (.iconst 1, 1) := by decide +kernel
theorem d_L_law_611 : decode code 611 = .ok (.iadd, 1) := by decide +kernel
theorem d_L_law_612 : decode code 612 = .ok (.iaload, 1) := by decide +kernel
theorem d_L_law_613 : decode code 613 = .ok (.invokevirtual 118, 3) := by decide +kernel
theorem d_L_law_616 : decode code 616 = .ok (.istore 6, 2) := by decide +kernel
theorem d_L_law_618 : decode code 618 = .ok (.aload_n 2, 1) := by decide +kernel
theorem d_L_law_619 : decode code 619 = .ok (.invokevirtual 90, 3) := by decide +kernel
theorem d_L_law_622 : decode code 622 = .ok (.iload 5, 2) := by decide +kernel
theorem d_L_law_624 : decode code 624 = .ok (.if_icmp .eq 5, 3) := by decide +kernel
theorem d_L_law_627 : decode code 627 = .ok (.iconst 0, 1) := by decide +kernel
theorem d_L_law_628 : decode code 628 = .ok (.ireturn, 1) := by decide +kernel
theorem d_L_law_629 : decode code 629 = .ok (.iload 5, 2) := by decide +kernel
theorem d_L_law_631 : decode code 631 = .ok (.ifCond .ne 15, 3) := by decide +kernel
theorem d_L_law_634 : decode code 634 = .ok (.aload_n 3, 1) := by decide +kernel
theorem d_L_law_635 : decode code 635 = .ok (.iconst 0, 1) := by decide +kernel
theorem d_L_law_636 : decode code 636 = .ok (.laload, 1) := by decide +kernel
theorem d_L_law_637 : decode code 637 = .ok (.iload 6, 2) := by decide +kernel
theorem d_L_law_639 : decode code 639 = .ok (.i2l, 1) := by decide +kernel
theorem d_L_law_640 : decode code 640 = .ok (.lcmp, 1) := by decide +kernel
theorem d_L_law_641 : decode code 641 = .ok (.ifCond .eq 5, 3) := by decide +kernel
theorem d_L_law_644 : decode code 644 = .ok (.iconst 0, 1) := by decide +kernel
theorem d_L_law_645 : decode code 645 = .ok (.ireturn, 1) := by decide +kernel
theorem d_L_law_646 : decode code 646 = .ok (.goto 725, 3) := by decide +kernel
theorem d_L_law_649 : decode code 649 = .ok (.aload_n 1, 1) := by decide +kernel
theorem d_L_law_650 : decode code 650 = .ok (.aload_n 0, 1) := by decide +kernel
theorem d_L_law_651 : decode code 651 = .ok (.iload 4, 2) := by decide +kernel
theorem d_L_law_653 : decode code 653 = .ok (.iconst 1, 1) := by decide +kernel
theorem d_L_law_654 : decode code 654 = .ok (.iadd, 1) := by decide +kernel
theorem d_L_law_655 : decode code 655 = .ok (.iaload, 1) := by decide +kernel
theorem d_L_law_656 : decode code 656 = .ok (.aload_n 3, 1) := by decide +kernel
theorem d_L_law_657 : decode code 657 = .ok (.invokestatic 119, 3) := by decide +kernel
theorem d_L_law_660 : decode code 660 = .ok (.istore 5, 2) := by decide +kernel
theorem d_L_law_662 : decode code 662 = .ok (.aload_n 2, 1) := by decide +kernel
theorem d_L_law_663 : decode code 663 = .ok (.aload_n 0, 1) := by decide +kernel
theorem d_L_law_664 : decode code 664 = .ok (.iload 4, 2) := by decide +kernel
theorem d_L_law_666 : decode code 666 = .ok (.iconst 1, 1) := by decide +kernel
theorem d_L_law_667 : decode code 667 = .ok (.iadd, 1) := by decide +kernel
theorem d_L_law_668 : decode code 668 = .ok (.iaload, 1) := by decide +kernel
theorem d_L_law_669 : decode code 669 = .ok (.invokevirtual 121, 3) := by decide +kernel
theorem d_L_law_672 : decode code 672 = .ok (.istore 6, 2) := by decide +kernel
theorem d_L_law_674 : decode code 674 = .ok (.aload_n 2, 1) := by decide +kernel
theorem d_L_law_675 : decode code 675 = .ok (.invokevirtual 90, 3) := by decide +kernel
theorem d_L_law_678 : decode code 678 = .ok (.iload 5, 2) := by decide +kernel
theorem d_L_law_680 : decode code 680 = .ok (.if_icmp .eq 5, 3) := by decide +kernel
theorem d_L_law_683 : decode code 683 = .ok (.iconst 0, 1) := by decide +kernel
theorem d_L_law_684 : decode code 684 = .ok (.ireturn, 1) := by decide +kernel
theorem d_L_law_685 : decode code 685 = .ok (.iload 5, 2) := by decide +kernel
theorem d_L_law_687 : decode code 687 = .ok (.ifCond .ne 22, 3) := by decide +kernel
theorem d_L_law_690 : decode code 690 = .ok (.aload_n 3, 1) := by decide +kernel
theorem d_L_law_691 : decode code 691 = .ok (.iconst 0, 1) := by decide +kernel
theorem d_L_law_692 : decode code 692 = .ok (.laload, 1) := by decide +kernel
theorem d_L_law_693 : decode code 693 = .ok (.iload 6, 2) := by decide +kernel
theorem d_L_law_695 : decode code 695 = .ok (.ifCond .eq 7, 3) := by decide +kernel
theorem d_L_law_698 : decode code 698 = .ok (.lconst 1, 1) := by decide +kernel
theorem d_L_law_699 : decode code 699 = .ok (.goto 4, 3) := by decide +kernel
theorem d_L_law_702 : decode code 702 = .ok (.lconst 0, 1) := by decide +kernel
theorem d_L_law_703 : decode code 703 = .ok (.lcmp, 1) := by decide +kernel
theorem d_L_law_704 : decode code 704 = .ok (.ifCond .eq 5, 3) := by decide +kernel
theorem d_L_law_707 : decode code 707 = .ok (.iconst 0, 1) := by decide +kernel
theorem d_L_law_708 : decode code 708 = .ok (.ireturn, 1) := by decide +kernel
theorem d_L_law_709 : decode code 709 = .ok (.goto 662, 3) := by decide +kernel
theorem d_L_law_712 : decode code 712 = .ok (.aload_n 1, 1) := by decide +kernel
theorem d_L_law_713 : decode code 713 = .ok (.aload_n 0, 1) := by decide +kernel
theorem d_L_law_714 : decode code 714 = .ok (.iload 4, 2) := by decide +kernel
theorem d_L_law_716 : decode code 716 = .ok (.iconst 1, 1) := by decide +kernel
theorem d_L_law_717 : decode code 717 = .ok (.iadd, 1) := by decide +kernel
theorem d_L_law_718 : decode code 718 = .ok (.iaload, 1) := by decide +kernel
theorem d_L_law_719 : decode code 719 = .ok (.aload_n 3, 1) := by decide +kernel
theorem d_L_law_720 : decode code 720 = .ok (.invokestatic 122, 3) := by decide +kernel
theorem d_L_law_723 : decode code 723 = .ok (.istore 5, 2) := by decide +kernel
theorem d_L_law_725 : decode code 725 = .ok (.aload_n 2, 1) := by decide +kernel
theorem d_L_law_726 : decode code 726 = .ok (.aload_n 0, 1) := by decide +kernel
theorem d_L_law_727 : decode code 727 = .ok (.iload 4, 2) := by decide +kernel
theorem d_L_law_729 : decode code 729 = .ok (.iconst 1, 1) := by decide +kernel
theorem d_L_law_730 : decode code 730 = .ok (.iadd, 1) := by decide +kernel
theorem d_L_law_731 : decode code 731 = .ok (.iaload, 1) := by decide +kernel
theorem d_L_law_732 : decode code 732 = .ok (.invokevirtual 124, 3) := by decide +kernel
theorem d_L_law_735 : decode code 735 = .ok (.istore 6, 2) := by decide +kernel
theorem d_L_law_737 : decode code 737 = .ok (.aload_n 2, 1) := by decide +kernel
theorem d_L_law_738 : decode code 738 = .ok (.invokevirtual 90, 3) := by decide +kernel
theorem d_L_law_741 : decode code 741 = .ok (.iload 5, 2) := by decide +kernel
theorem d_L_law_743 : decode code 743 = .ok (.if_icmp .eq 5, 3) := by decide +kernel
theorem d_L_law_746 : decode code 746 = .ok (.iconst 0, 1) := by decide +kernel
theorem d_L_law_747 : decode code 747 = .ok (.ireturn, 1) := by decide +kernel
theorem d_L_law_748 : decode code 748 = .ok (.iload 5, 2) := by decide +kernel
theorem d_L_law_750 : decode code 750 = .ok (.ifCond .ne 15, 3) := by decide +kernel
theorem d_L_law_753 : decode code 753 = .ok (.aload_n 3, 1) := by decide +kernel
theorem d_L_law_754 : decode code 754 = .ok (.iconst 0, 1) := by decide +kernel
theorem d_L_law_755 : decode code 755 = .ok (.laload, 1) := by decide +kernel
theorem d_L_law_756 : decode code 756 = .ok (.iload 6, 2) := by decide +kernel
theorem d_L_law_758 : decode code 758 = .ok (.i2l, 1) := by decide +kernel
theorem d_L_law_759 : decode code 759 = .ok (.lcmp, 1) := by decide +kernel
theorem d_L_law_760 : decode code 760 = .ok (.ifCond .eq 5, 3) := by decide +kernel
theorem d_L_law_763 : decode code 763 = .ok (.iconst 0, 1) := by decide +kernel
theorem d_L_law_764 : decode code 764 = .ok (.ireturn, 1) := by decide +kernel
theorem d_L_law_765 : decode code 765 = .ok (.goto 606, 3) := by decide +kernel
theorem d_L_law_768 : decode code 768 = .ok (.aload_n 1, 1) := by decide +kernel
theorem d_L_law_769 : decode code 769 = .ok (.aload_n 0, 1) := by decide +kernel
theorem d_L_law_770 : decode code 770 = .ok (.iload 4, 2) := by decide +kernel
theorem d_L_law_772 : decode code 772 = .ok (.iconst 1, 1) := by decide +kernel
theorem d_L_law_773 : decode code 773 = .ok (.iadd, 1) := by decide +kernel
theorem d_L_law_774 : decode code 774 = .ok (.iaload, 1) := by decide +kernel
theorem d_L_law_775 : decode code 775 = .ok (.aload_n 3, 1) := by decide +kernel
theorem d_L_law_776 : decode code 776 = .ok (.invokestatic 125, 3) := by decide +kernel
theorem d_L_law_779 : decode code 779 = .ok (.istore 5, 2) := by decide +kernel
theorem d_L_law_781 : decode code 781 = .ok (.aload_n 2, 1) := by decide +kernel
theorem d_L_law_782 : decode code 782 = .ok (.aload_n 0, 1) := by decide +kernel
theorem d_L_law_783 : decode code 783 = .ok (.iload 4, 2) := by decide +kernel
theorem d_L_law_785 : decode code 785 = .ok (.iconst 1, 1) := by decide +kernel
theorem d_L_law_786 : decode code 786 = .ok (.iadd, 1) := by decide +kernel
theorem d_L_law_787 : decode code 787 = .ok (.iaload, 1) := by decide +kernel
theorem d_L_law_788 : decode code 788 = .ok (.invokevirtual 127, 3) := by decide +kernel
theorem d_L_law_791 : decode code 791 = .ok (.istore 6, 2) := by decide +kernel
theorem d_L_law_793 : decode code 793 = .ok (.aload_n 2, 1) := by decide +kernel
theorem d_L_law_794 : decode code 794 = .ok (.invokevirtual 90, 3) := by decide +kernel
theorem d_L_law_797 : decode code 797 = .ok (.iload 5, 2) := by decide +kernel
theorem d_L_law_799 : decode code 799 = .ok (.if_icmp .eq 5, 3) := by decide +kernel
theorem d_L_law_802 : decode code 802 = .ok (.iconst 0, 1) := by decide +kernel
theorem d_L_law_803 : decode code 803 = .ok (.ireturn, 1) := by decide +kernel
theorem d_L_law_804 : decode code 804 = .ok (.iload 5, 2) := by decide +kernel
theorem d_L_law_806 : decode code 806 = .ok (.ifCond .ne 15, 3) := by decide +kernel
theorem d_L_law_809 : decode code 809 = .ok (.aload_n 3, 1) := by decide +kernel
theorem d_L_law_810 : decode code 810 = .ok (.iconst 0, 1) := by decide +kernel
theorem d_L_law_811 : decode code 811 = .ok (.laload, 1) := by decide +kernel
theorem d_L_law_812 : decode code 812 = .ok (.iload 6, 2) := by decide +kernel
theorem d_L_law_814 : decode code 814 = .ok (.i2l, 1) := by decide +kernel
theorem d_L_law_815 : decode code 815 = .ok (.lcmp, 1) := by decide +kernel
theorem d_L_law_816 : decode code 816 = .ok (.ifCond .eq 5, 3) := by decide +kernel
theorem d_L_law_819 : decode code 819 = .ok (.iconst 0, 1) := by decide +kernel
theorem d_L_law_820 : decode code 820 = .ok (.ireturn, 1) := by decide +kernel
theorem d_L_law_821 : decode code 821 = .ok (.goto 550, 3) := by decide +kernel
theorem d_L_law_824 : decode code 824 = .ok (.aload_n 1, 1) := by decide +kernel
theorem d_L_law_825 : decode code 825 = .ok (.aload_n 0, 1) := by decide +kernel
theorem d_L_law_826 : decode code 826 = .ok (.iload 4, 2) := by decide +kernel
theorem d_L_law_828 : decode code 828 = .ok (.iconst 1, 1) := by decide +kernel
theorem d_L_law_829 : decode code 829 = .ok (.iadd, 1) := by decide +kernel
theorem d_L_law_830 : decode code 830 = .ok (.iaload, 1) := by decide +kernel
theorem d_L_law_831 : decode code 831 = .ok (.aload_n 0, 1) := by decide +kernel
theorem d_L_law_832 : decode code 832 = .ok (.iload 4, 2) := by decide +kernel
theorem d_L_law_834 : decode code 834 = .ok (.iconst 2, 1) := by decide +kernel
theorem d_L_law_835 : decode code 835 = .ok (.iadd, 1) := by decide +kernel
theorem d_L_law_836 : decode code 836 = .ok (.iaload, 1) := by decide +kernel
theorem d_L_law_837 : decode code 837 = .ok (.aload_n 3, 1) := by decide +kernel
theorem d_L_law_838 : decode code 838 = .ok (.invokestatic 128, 3) := by decide +kernel
theorem d_L_law_841 : decode code 841 = .ok (.istore 5, 2) := by decide +kernel
theorem d_L_law_843 : decode code 843 = .ok (.aload_n 2, 1) := by decide +kernel
theorem d_L_law_844 : decode code 844 = .ok (.aload_n 0, 1) := by decide +kernel
theorem d_L_law_845 : decode code 845 = .ok (.iload 4, 2) := by decide +kernel
theorem d_L_law_847 : decode code 847 = .ok (.iconst 1, 1) := by decide +kernel
theorem d_L_law_848 : decode code 848 = .ok (.iadd, 1) := by decide +kernel
theorem d_L_law_849 : decode code 849 = .ok (.iaload, 1) := by decide +kernel
theorem d_L_law_850 : decode code 850 = .ok (.aload_n 0, 1) := by decide +kernel
theorem d_L_law_851 : decode code 851 = .ok (.iload 4, 2) := by decide +kernel
theorem d_L_law_853 : decode code 853 = .ok (.iconst 2, 1) := by decide +kernel
theorem d_L_law_854 : decode code 854 = .ok (.iadd, 1) := by decide +kernel
theorem d_L_law_855 : decode code 855 = .ok (.iaload, 1) := by decide +kernel
theorem d_L_law_856 : decode code 856 = .ok (.invokevirtual 130, 3) := by decide +kernel
theorem d_L_law_859 : decode code 859 = .ok (.istore 6, 2) := by decide +kernel
theorem d_L_law_861 : decode code 861 = .ok (.aload_n 2, 1) := by decide +kernel
theorem d_L_law_862 : decode code 862 = .ok (.invokevirtual 90, 3) := by decide +kernel
theorem d_L_law_865 : decode code 865 = .ok (.iload 5, 2) := by decide +kernel
theorem d_L_law_867 : decode code 867 = .ok (.if_icmp .eq 5, 3) := by decide +kernel
theorem d_L_law_870 : decode code 870 = .ok (.iconst 0, 1) := by decide +kernel
theorem d_L_law_871 : decode code 871 = .ok (.ireturn, 1) := by decide +kernel
theorem d_L_law_872 : decode code 872 = .ok (.iload 5, 2) := by decide +kernel
theorem d_L_law_874 : decode code 874 = .ok (.ifCond .ne 15, 3) := by decide +kernel
theorem d_L_law_877 : decode code 877 = .ok (.aload_n 3, 1) := by decide +kernel
theorem d_L_law_878 : decode code 878 = .ok (.iconst 0, 1) := by decide +kernel
theorem d_L_law_879 : decode code 879 = .ok (.laload, 1) := by decide +kernel
theorem d_L_law_880 : decode code 880 = .ok (.iload 6, 2) := by decide +kernel
theorem d_L_law_882 : decode code 882 = .ok (.i2l, 1) := by decide +kernel
theorem d_L_law_883 : decode code 883 = .ok (.lcmp, 1) := by decide +kernel
theorem d_L_law_884 : decode code 884 = .ok (.ifCond .eq 5, 3) := by decide +kernel
theorem d_L_law_887 : decode code 887 = .ok (.iconst 0, 1) := by decide +kernel
theorem d_L_law_888 : decode code 888 = .ok (.ireturn, 1) := by decide +kernel
theorem d_L_law_889 : decode code 889 = .ok (.goto 482, 3) := by decide +kernel
theorem d_L_law_892 : decode code 892 = .ok (.aload_n 1, 1) := by decide +kernel
theorem d_L_law_893 : decode code 893 = .ok (.aload_n 0, 1) := by decide +kernel
theorem d_L_law_894 : decode code 894 = .ok (.iload 4, 2) := by decide +kernel
theorem d_L_law_896 : decode code 896 = .ok (.iconst 1, 1) := by decide +kernel
theorem d_L_law_897 : decode code 897 = .ok (.iadd, 1) := by decide +kernel
theorem d_L_law_898 : decode code 898 = .ok (.iaload, 1) := by decide +kernel
theorem d_L_law_899 : decode code 899 = .ok (.aload_n 3, 1) := by decide +kernel
theorem d_L_law_900 : decode code 900 = .ok (.invokestatic 131, 3) := by decide +kernel
theorem d_L_law_903 : decode code 903 = .ok (.istore 5, 2) := by decide +kernel
theorem d_L_law_905 : decode code 905 = .ok (.aload_n 2, 1) := by decide +kernel
theorem d_L_law_906 : decode code 906 = .ok (.aload_n 0, 1) := by decide +kernel
theorem d_L_law_907 : decode code 907 = .ok (.iload 4, 2) := by decide +kernel
theorem d_L_law_909 : decode code 909 = .ok (.iconst 1, 1) := by decide +kernel
theorem d_L_law_910 : decode code 910 = .ok (.iadd, 1) := by decide +kernel
theorem d_L_law_911 : decode code 911 = .ok (.iaload, 1) := by decide +kernel
theorem d_L_law_912 : decode code 912 = .ok (.invokevirtual 133, 3) := by decide +kernel
theorem d_L_law_915 : decode code 915 = .ok (.istore 6, 2) := by decide +kernel
theorem d_L_law_917 : decode code 917 = .ok (.aload_n 2, 1) := by decide +kernel
theorem d_L_law_918 : decode code 918 = .ok (.invokevirtual 90, 3) := by decide +kernel
theorem d_L_law_921 : decode code 921 = .ok (.iload 5, 2) := by decide +kernel
theorem d_L_law_923 : decode code 923 = .ok (.if_icmp .eq 5, 3) := by decide +kernel
theorem d_L_law_926 : decode code 926 = .ok (.iconst 0, 1) := by decide +kernel
theorem d_L_law_927 : decode code 927 = .ok (.ireturn, 1) := by decide +kernel
theorem d_L_law_928 : decode code 928 = .ok (.iload 5, 2) := by decide +kernel
theorem d_L_law_930 : decode code 930 = .ok (.ifCond .ne 15, 3) := by decide +kernel
theorem d_L_law_933 : decode code 933 = .ok (.aload_n 3, 1) := by decide +kernel
theorem d_L_law_934 : decode code 934 = .ok (.iconst 0, 1) := by decide +kernel
theorem d_L_law_935 : decode code 935 = .ok (.laload, 1) := by decide +kernel
theorem d_L_law_936 : decode code 936 = .ok (.iload 6, 2) := by decide +kernel
theorem d_L_law_938 : decode code 938 = .ok (.i2l, 1) := by decide +kernel
theorem d_L_law_939 : decode code 939 = .ok (.lcmp, 1) := by decide +kernel
theorem d_L_law_940 : decode code 940 = .ok (.ifCond .eq 5, 3) := by decide +kernel
theorem d_L_law_943 : decode code 943 = .ok (.iconst 0, 1) := by decide +kernel
theorem d_L_law_944 : decode code 944 = .ok (.ireturn, 1) := by decide +kernel
theorem d_L_law_945 : decode code 945 = .ok (.goto 426, 3) := by decide +kernel
theorem d_L_law_948 : decode code 948 = .ok (.aload_n 1, 1) := by decide +kernel
theorem d_L_law_949 : decode code 949 = .ok (.aload_n 0, 1) := by decide +kernel
theorem d_L_law_950 : decode code 950 = .ok (.iload 4, 2) := by decide +kernel
theorem d_L_law_952 : decode code 952 = .ok (.iconst 1, 1) := by decide +kernel
theorem d_L_law_953 : decode code 953 = .ok (.iadd, 1) := by decide +kernel
theorem d_L_law_954 : decode code 954 = .ok (.iaload, 1) := by decide +kernel
theorem d_L_law_955 : decode code 955 = .ok (.invokestatic 134, 3) := by decide +kernel
theorem d_L_law_958 : decode code 958 = .ok (.istore 5, 2) := by decide +kernel
theorem d_L_law_960 : decode code 960 = .ok (.aload_n 2, 1) := by decide +kernel
theorem d_L_law_961 : decode code 961 = .ok (.aload_n 0, 1) := by decide +kernel
theorem d_L_law_962 : decode code 962 = .ok (.iload 4, 2) := by decide +kernel
theorem d_L_law_964 : decode code 964 = .ok (.iconst 1, 1) := by decide +kernel
theorem d_L_law_965 : decode code 965 = .ok (.iadd, 1) := by decide +kernel
theorem d_L_law_966 : decode code 966 = .ok (.iaload, 1) := by decide +kernel
theorem d_L_law_967 : decode code 967 = .ok (.invokevirtual 137, 3) := by decide +kernel
theorem d_L_law_970 : decode code 970 = .ok (.aload_n 2, 1) := by decide +kernel
theorem d_L_law_971 : decode code 971 = .ok (.invokevirtual 90, 3) := by decide +kernel
theorem d_L_law_974 : decode code 974 = .ok (.iload 5, 2) := by decide +kernel
theorem d_L_law_976 : decode code 976 = .ok (.if_icmp .eq 5, 3) := by decide +kernel
theorem d_L_law_979 : decode code 979 = .ok (.iconst 0, 1) := by decide +kernel
theorem d_L_law_980 : decode code 980 = .ok (.ireturn, 1) := by decide +kernel
theorem d_L_law_981 : decode code 981 = .ok (.goto 390, 3) := by decide +kernel
theorem d_L_law_984 : decode code 984 = .ok (.aload_n 1, 1) := by decide +kernel
theorem d_L_law_985 : decode code 985 = .ok (.aload_n 0, 1) := by decide +kernel
theorem d_L_law_986 : decode code 986 = .ok (.iload 4, 2) := by decide +kernel
theorem d_L_law_988 : decode code 988 = .ok (.iconst 1, 1) := by decide +kernel
theorem d_L_law_989 : decode code 989 = .ok (.iadd, 1) := by decide +kernel
theorem d_L_law_990 : decode code 990 = .ok (.iaload, 1) := by decide +kernel
theorem d_L_law_991 : decode code 991 = .ok (.aload_n 3, 1) := by decide +kernel
theorem d_L_law_992 : decode code 992 = .ok (.invokestatic 138, 3) := by decide +kernel
theorem d_L_law_995 : decode code 995 = .ok (.istore 5, 2) := by decide +kernel
theorem d_L_law_997 : decode code 997 = .ok (.aload_n 2, 1) := by decide +kernel
theorem d_L_law_998 : decode code 998 = .ok (.aload_n 0, 1) := by decide +kernel
theorem d_L_law_999 : decode code 999 = .ok (.iload 4, 2) := by decide +kernel
theorem d_L_law_1001 : decode code 1001 = .ok (.iconst 1, 1) := by decide +kernel
theorem d_L_law_1002 : decode code 1002 = .ok (.iadd, 1) := by decide +kernel
theorem d_L_law_1003 : decode code 1003 = .ok (.iaload, 1) := by decide +kernel
theorem d_L_law_1004 : decode code 1004 = .ok (.invokevirtual 140, 3) := by decide +kernel
theorem d_L_law_1007 : decode code 1007 = .ok (.istore 6, 2) := by decide +kernel
theorem d_L_law_1009 : decode code 1009 = .ok (.aload_n 2, 1) := by decide +kernel
theorem d_L_law_1010 : decode code 1010 = .ok (.invokevirtual 90, 3) := by decide +kernel
theorem d_L_law_1013 : decode code 1013 = .ok (.iload 5, 2) := by decide +kernel
theorem d_L_law_1015 : decode code 1015 = .ok (.if_icmp .eq 5, 3) := by decide +kernel
theorem d_L_law_1018 : decode code 1018 = .ok (.iconst 0, 1) := by decide +kernel
theorem d_L_law_1019 : decode code 1019 = .ok (.ireturn, 1) := by decide +kernel
theorem d_L_law_1020 : decode code 1020 = .ok (.iload 5, 2) := by decide +kernel
theorem d_L_law_1022 : decode code 1022 = .ok (.ifCond .ne 15, 3) := by decide +kernel
theorem d_L_law_1025 : decode code 1025 = .ok (.aload_n 3, 1) := by decide +kernel
theorem d_L_law_1026 : decode code 1026 = .ok (.iconst 0, 1) := by decide +kernel
theorem d_L_law_1027 : decode code 1027 = .ok (.laload, 1) := by decide +kernel
theorem d_L_law_1028 : decode code 1028 = .ok (.iload 6, 2) := by decide +kernel
theorem d_L_law_1030 : decode code 1030 = .ok (.i2l, 1) := by decide +kernel
theorem d_L_law_1031 : decode code 1031 = .ok (.lcmp, 1) := by decide +kernel
theorem d_L_law_1032 : decode code 1032 = .ok (.ifCond .eq 5, 3) := by decide +kernel
theorem d_L_law_1035 : decode code 1035 = .ok (.iconst 0, 1) := by decide +kernel
theorem d_L_law_1036 : decode code 1036 = .ok (.ireturn, 1) := by decide +kernel
theorem d_L_law_1037 : decode code 1037 = .ok (.goto 334, 3) := by decide +kernel
theorem d_L_law_1040 : decode code 1040 = .ok (.aload_n 1, 1) := by decide +kernel
theorem d_L_law_1041 : decode code 1041 = .ok (.aload_n 0, 1) := by decide +kernel
theorem d_L_law_1042 : decode code 1042 = .ok (.iload 4, 2) := by decide +kernel
theorem d_L_law_1044 : decode code 1044 = .ok (.iconst 1, 1) := by decide +kernel
theorem d_L_law_1045 : decode code 1045 = .ok (.iadd, 1) := by decide +kernel
theorem d_L_law_1046 : decode code 1046 = .ok (.iaload, 1) := by decide +kernel
theorem d_L_law_1047 : decode code 1047 = .ok (.aload_n 3, 1) := by decide +kernel
theorem d_L_law_1048 : decode code 1048 = .ok (.invokestatic 141, 3) := by decide +kernel
theorem d_L_law_1051 : decode code 1051 = .ok (.istore 5, 2) := by decide +kernel
theorem d_L_law_1053 : decode code 1053 = .ok (.aload_n 2, 1) := by decide +kernel
theorem d_L_law_1054 : decode code 1054 = .ok (.aload_n 0, 1) := by decide +kernel
theorem d_L_law_1055 : decode code 1055 = .ok (.iload 4, 2) := by decide +kernel
theorem d_L_law_1057 : decode code 1057 = .ok (.iconst 1, 1) := by decide +kernel
theorem d_L_law_1058 : decode code 1058 = .ok (.iadd, 1) := by decide +kernel
theorem d_L_law_1059 : decode code 1059 = .ok (.iaload, 1) := by decide +kernel
theorem d_L_law_1060 : decode code 1060 = .ok (.invokevirtual 143, 3) := by decide +kernel
theorem d_L_law_1063 : decode code 1063 = .ok (.lstore 6, 2) := by decide +kernel
theorem d_L_law_1065 : decode code 1065 = .ok (.aload_n 2, 1) := by decide +kernel
theorem d_L_law_1066 : decode code 1066 = .ok (.invokevirtual 90, 3) := by decide +kernel
theorem d_L_law_1069 : decode code 1069 = .ok (.iload 5, 2) := by decide +kernel
theorem d_L_law_1071 : decode code 1071 = .ok (.if_icmp .eq 5, 3) := by decide +kernel
theorem d_L_law_1074 : decode code 1074 = .ok (.iconst 0, 1) := by decide +kernel
theorem d_L_law_1075 : decode code 1075 = .ok (.ireturn, 1) := by decide +kernel
theorem d_L_law_1076 : decode code 1076 = .ok (.iload 5, 2) := by decide +kernel
theorem d_L_law_1078 : decode code 1078 = .ok (.ifCond .ne 14, 3) := by decide +kernel
theorem d_L_law_1081 : decode code 1081 = .ok (.aload_n 3, 1) := by decide +kernel
theorem d_L_law_1082 : decode code 1082 = .ok (.iconst 0, 1) := by decide +kernel
theorem d_L_law_1083 : decode code 1083 = .ok (.laload, 1) := by decide +kernel
theorem d_L_law_1084 : decode code 1084 = .ok (.lload 6, 2) := by decide +kernel
theorem d_L_law_1086 : decode code 1086 = .ok (.lcmp, 1) := by decide +kernel
theorem d_L_law_1087 : decode code 1087 = .ok (.ifCond .eq 5, 3) := by decide +kernel
theorem d_L_law_1090 : decode code 1090 = .ok (.iconst 0, 1) := by decide +kernel
theorem d_L_law_1091 : decode code 1091 = .ok (.ireturn, 1) := by decide +kernel
theorem d_L_law_1092 : decode code 1092 = .ok (.goto 279, 3) := by decide +kernel
theorem d_L_law_1095 : decode code 1095 = .ok (.aload_n 1, 1) := by decide +kernel
theorem d_L_law_1096 : decode code 1096 = .ok (.aload_n 0, 1) := by decide +kernel
theorem d_L_law_1097 : decode code 1097 = .ok (.iload 4, 2) := by decide +kernel
theorem d_L_law_1099 : decode code 1099 = .ok (.iconst 1, 1) := by decide +kernel
theorem d_L_law_1100 : decode code 1100 = .ok (.iadd, 1) := by decide +kernel
theorem d_L_law_1101 : decode code 1101 = .ok (.iaload, 1) := by decide +kernel
theorem d_L_law_1102 : decode code 1102 = .ok (.aload_n 0, 1) := by decide +kernel
theorem d_L_law_1103 : decode code 1103 = .ok (.iload 4, 2) := by decide +kernel
theorem d_L_law_1105 : decode code 1105 = .ok (.iconst 2, 1) := by decide +kernel
theorem d_L_law_1106 : decode code 1106 = .ok (.iadd, 1) := by decide +kernel
theorem d_L_law_1107 : decode code 1107 = .ok (.iaload, 1) := by decide +kernel
theorem d_L_law_1108 : decode code 1108 = .ok (.ifCond .eq 7, 3) := by decide +kernel
theorem d_L_law_1111 : decode code 1111 = .ok (.iconst 1, 1) := by decide +kernel
theorem d_L_law_1112 : decode code 1112 = .ok (.goto 4, 3) := by decide +kernel
theorem d_L_law_1115 : decode code 1115 = .ok (.iconst 0, 1) := by decide +kernel
theorem d_L_law_1116 : decode code 1116 = .ok (.aload_n 3, 1) := by decide +kernel
theorem d_L_law_1117 : decode code 1117 = .ok (.invokestatic 144, 3) := by decide +kernel
theorem d_L_law_1120 : decode code 1120 = .ok (.istore 5, 2) := by decide +kernel
theorem d_L_law_1122 : decode code 1122 = .ok (.aload_n 2, 1) := by decide +kernel
theorem d_L_law_1123 : decode code 1123 = .ok (.aload_n 0, 1) := by decide +kernel
theorem d_L_law_1124 : decode code 1124 = .ok (.iload 4, 2) := by decide +kernel
theorem d_L_law_1126 : decode code 1126 = .ok (.iconst 1, 1) := by decide +kernel
theorem d_L_law_1127 : decode code 1127 = .ok (.iadd, 1) := by decide +kernel
theorem d_L_law_1128 : decode code 1128 = .ok (.iaload, 1) := by decide +kernel
theorem d_L_law_1129 : decode code 1129 = .ok (.aload_n 0, 1) := by decide +kernel
theorem d_L_law_1130 : decode code 1130 = .ok (.iload 4, 2) := by decide +kernel
theorem d_L_law_1132 : decode code 1132 = .ok (.iconst 2, 1) := by decide +kernel
theorem d_L_law_1133 : decode code 1133 = .ok (.iadd, 1) := by decide +kernel
theorem d_L_law_1134 : decode code 1134 = .ok (.iaload, 1) := by decide +kernel
theorem d_L_law_1135 : decode code 1135 = .ok (.ifCond .eq 7, 3) := by decide +kernel
theorem d_L_law_1138 : decode code 1138 = .ok (.iconst 1, 1) := by decide +kernel
theorem d_L_law_1139 : decode code 1139 = .ok (.goto 4, 3) := by decide +kernel
theorem d_L_law_1142 : decode code 1142 = .ok (.iconst 0, 1) := by decide +kernel
theorem d_L_law_1143 : decode code 1143 = .ok (.invokevirtual 147, 3) := by decide +kernel
theorem d_L_law_1146 : decode code 1146 = .ok (.istore 6, 2) := by decide +kernel
theorem d_L_law_1148 : decode code 1148 = .ok (.aload_n 2, 1) := by decide +kernel
theorem d_L_law_1149 : decode code 1149 = .ok (.invokevirtual 90, 3) := by decide +kernel
theorem d_L_law_1152 : decode code 1152 = .ok (.iload 5, 2) := by decide +kernel
theorem d_L_law_1154 : decode code 1154 = .ok (.if_icmp .eq 5, 3) := by decide +kernel
theorem d_L_law_1157 : decode code 1157 = .ok (.iconst 0, 1) := by decide +kernel
theorem d_L_law_1158 : decode code 1158 = .ok (.ireturn, 1) := by decide +kernel
theorem d_L_law_1159 : decode code 1159 = .ok (.iload 5, 2) := by decide +kernel
theorem d_L_law_1161 : decode code 1161 = .ok (.ifCond .ne 15, 3) := by decide +kernel
theorem d_L_law_1164 : decode code 1164 = .ok (.aload_n 3, 1) := by decide +kernel
theorem d_L_law_1165 : decode code 1165 = .ok (.iconst 0, 1) := by decide +kernel
theorem d_L_law_1166 : decode code 1166 = .ok (.laload, 1) := by decide +kernel
theorem d_L_law_1167 : decode code 1167 = .ok (.iload 6, 2) := by decide +kernel
theorem d_L_law_1169 : decode code 1169 = .ok (.i2l, 1) := by decide +kernel
theorem d_L_law_1170 : decode code 1170 = .ok (.lcmp, 1) := by decide +kernel
theorem d_L_law_1171 : decode code 1171 = .ok (.ifCond .eq 5, 3) := by decide +kernel
theorem d_L_law_1174 : decode code 1174 = .ok (.iconst 0, 1) := by decide +kernel
theorem d_L_law_1175 : decode code 1175 = .ok (.ireturn, 1) := by decide +kernel
theorem d_L_law_1176 : decode code 1176 = .ok (.goto 195, 3) := by decide +kernel
theorem d_L_law_1179 : decode code 1179 = .ok (.aload_n 1, 1) := by decide +kernel
theorem d_L_law_1180 : decode code 1180 = .ok (.aload_n 0, 1) := by decide +kernel
theorem d_L_law_1181 : decode code 1181 = .ok (.iload 4, 2) := by decide +kernel
theorem d_L_law_1183 : decode code 1183 = .ok (.iconst 1, 1) := by decide +kernel
theorem d_L_law_1184 : decode code 1184 = .ok (.iadd, 1) := by decide +kernel
theorem d_L_law_1185 : decode code 1185 = .ok (.iaload, 1) := by decide +kernel
theorem d_L_law_1186 : decode code 1186 = .ok (.aload_n 0, 1) := by decide +kernel
theorem d_L_law_1187 : decode code 1187 = .ok (.iload 4, 2) := by decide +kernel
theorem d_L_law_1189 : decode code 1189 = .ok (.iconst 2, 1) := by decide +kernel
theorem d_L_law_1190 : decode code 1190 = .ok (.iadd, 1) := by decide +kernel
theorem d_L_law_1191 : decode code 1191 = .ok (.iaload, 1) := by decide +kernel
theorem d_L_law_1192 : decode code 1192 = .ok (.aload_n 3, 1) := by decide +kernel
theorem d_L_law_1193 : decode code 1193 = .ok (.invokestatic 148, 3) := by decide +kernel
theorem d_L_law_1196 : decode code 1196 = .ok (.istore 5, 2) := by decide +kernel
theorem d_L_law_1198 : decode code 1198 = .ok (.aload_n 2, 1) := by decide +kernel
theorem d_L_law_1199 : decode code 1199 = .ok (.aload_n 0, 1) := by decide +kernel
theorem d_L_law_1200 : decode code 1200 = .ok (.iload 4, 2) := by decide +kernel
theorem d_L_law_1202 : decode code 1202 = .ok (.iconst 1, 1) := by decide +kernel
theorem d_L_law_1203 : decode code 1203 = .ok (.iadd, 1) := by decide +kernel
theorem d_L_law_1204 : decode code 1204 = .ok (.iaload, 1) := by decide +kernel
theorem d_L_law_1205 : decode code 1205 = .ok (.aload_n 0, 1) := by decide +kernel
theorem d_L_law_1206 : decode code 1206 = .ok (.iload 4, 2) := by decide +kernel
theorem d_L_law_1208 : decode code 1208 = .ok (.iconst 2, 1) := by decide +kernel
theorem d_L_law_1209 : decode code 1209 = .ok (.iadd, 1) := by decide +kernel
theorem d_L_law_1210 : decode code 1210 = .ok (.iaload, 1) := by decide +kernel
theorem d_L_law_1211 : decode code 1211 = .ok (.invokevirtual 150, 3) := by decide +kernel
theorem d_L_law_1214 : decode code 1214 = .ok (.istore 6, 2) := by decide +kernel
theorem d_L_law_1216 : decode code 1216 = .ok (.aload_n 2, 1) := by decide +kernel
theorem d_L_law_1217 : decode code 1217 = .ok (.invokevirtual 90, 3) := by decide +kernel
theorem d_L_law_1220 : decode code 1220 = .ok (.iload 5, 2) := by decide +kernel
theorem d_L_law_1222 : decode code 1222 = .ok (.if_icmp .eq 5, 3) := by decide +kernel
theorem d_L_law_1225 : decode code 1225 = .ok (.iconst 0, 1) := by decide +kernel
theorem d_L_law_1226 : decode code 1226 = .ok (.ireturn, 1) := by decide +kernel
theorem d_L_law_1227 : decode code 1227 = .ok (.iload 5, 2) := by decide +kernel
theorem d_L_law_1229 : decode code 1229 = .ok (.ifCond .ne 15, 3) := by decide +kernel
theorem d_L_law_1232 : decode code 1232 = .ok (.aload_n 3, 1) := by decide +kernel
theorem d_L_law_1233 : decode code 1233 = .ok (.iconst 0, 1) := by decide +kernel
theorem d_L_law_1234 : decode code 1234 = .ok (.laload, 1) := by decide +kernel
theorem d_L_law_1235 : decode code 1235 = .ok (.iload 6, 2) := by decide +kernel
theorem d_L_law_1237 : decode code 1237 = .ok (.i2l, 1) := by decide +kernel
theorem d_L_law_1238 : decode code 1238 = .ok (.lcmp, 1) := by decide +kernel
theorem d_L_law_1239 : decode code 1239 = .ok (.ifCond .eq 5, 3) := by decide +kernel
theorem d_L_law_1242 : decode code 1242 = .ok (.iconst 0, 1) := by decide +kernel
theorem d_L_law_1243 : decode code 1243 = .ok (.ireturn, 1) := by decide +kernel
theorem d_L_law_1244 : decode code 1244 = .ok (.goto 127, 3) := by decide +kernel
theorem d_L_law_1247 : decode code 1247 = .ok (.aload_n 1, 1) := by decide +kernel
theorem d_L_law_1248 : decode code 1248 = .ok (.aload_n 0, 1) := by decide +kernel
theorem d_L_law_1249 : decode code 1249 = .ok (.iload 4, 2) := by decide +kernel
theorem d_L_law_1251 : decode code 1251 = .ok (.iconst 1, 1) := by decide +kernel
theorem d_L_law_1252 : decode code 1252 = .ok (.iadd, 1) := by decide +kernel
theorem d_L_law_1253 : decode code 1253 = .ok (.iaload, 1) := by decide +kernel
theorem d_L_law_1254 : decode code 1254 = .ok (.aload_n 0, 1) := by decide +kernel
theorem d_L_law_1255 : decode code 1255 = .ok (.iload 4, 2) := by decide +kernel
theorem d_L_law_1257 : decode code 1257 = .ok (.iconst 2, 1) := by decide +kernel
theorem d_L_law_1258 : decode code 1258 = .ok (.iadd, 1) := by decide +kernel
theorem d_L_law_1259 : decode code 1259 = .ok (.iaload, 1) := by decide +kernel
theorem d_L_law_1260 : decode code 1260 = .ok (.aload_n 3, 1) := by decide +kernel
theorem d_L_law_1261 : decode code 1261 = .ok (.invokestatic 151, 3) := by decide +kernel
theorem d_L_law_1264 : decode code 1264 = .ok (.istore 5, 2) := by decide +kernel
theorem d_L_law_1266 : decode code 1266 = .ok (.aload_n 2, 1) := by decide +kernel
theorem d_L_law_1267 : decode code 1267 = .ok (.aload_n 0, 1) := by decide +kernel
theorem d_L_law_1268 : decode code 1268 = .ok (.iload 4, 2) := by decide +kernel
theorem d_L_law_1270 : decode code 1270 = .ok (.iconst 1, 1) := by decide +kernel
theorem d_L_law_1271 : decode code 1271 = .ok (.iadd, 1) := by decide +kernel
theorem d_L_law_1272 : decode code 1272 = .ok (.iaload, 1) := by decide +kernel
theorem d_L_law_1273 : decode code 1273 = .ok (.aload_n 0, 1) := by decide +kernel
theorem d_L_law_1274 : decode code 1274 = .ok (.iload 4, 2) := by decide +kernel
theorem d_L_law_1276 : decode code 1276 = .ok (.iconst 2, 1) := by decide +kernel
theorem d_L_law_1277 : decode code 1277 = .ok (.iadd, 1) := by decide +kernel
theorem d_L_law_1278 : decode code 1278 = .ok (.iaload, 1) := by decide +kernel
theorem d_L_law_1279 : decode code 1279 = .ok (.invokevirtual 153, 3) := by decide +kernel
theorem d_L_law_1282 : decode code 1282 = .ok (.istore 6, 2) := by decide +kernel
theorem d_L_law_1284 : decode code 1284 = .ok (.aload_n 2, 1) := by decide +kernel
theorem d_L_law_1285 : decode code 1285 = .ok (.invokevirtual 90, 3) := by decide +kernel
theorem d_L_law_1288 : decode code 1288 = .ok (.iload 5, 2) := by decide +kernel
theorem d_L_law_1290 : decode code 1290 = .ok (.if_icmp .eq 5, 3) := by decide +kernel
theorem d_L_law_1293 : decode code 1293 = .ok (.iconst 0, 1) := by decide +kernel
theorem d_L_law_1294 : decode code 1294 = .ok (.ireturn, 1) := by decide +kernel
theorem d_L_law_1295 : decode code 1295 = .ok (.iload 5, 2) := by decide +kernel
theorem d_L_law_1297 : decode code 1297 = .ok (.ifCond .ne 15, 3) := by decide +kernel
theorem d_L_law_1300 : decode code 1300 = .ok (.aload_n 3, 1) := by decide +kernel
theorem d_L_law_1301 : decode code 1301 = .ok (.iconst 0, 1) := by decide +kernel
theorem d_L_law_1302 : decode code 1302 = .ok (.laload, 1) := by decide +kernel
theorem d_L_law_1303 : decode code 1303 = .ok (.iload 6, 2) := by decide +kernel
theorem d_L_law_1305 : decode code 1305 = .ok (.i2l, 1) := by decide +kernel
theorem d_L_law_1306 : decode code 1306 = .ok (.lcmp, 1) := by decide +kernel
theorem d_L_law_1307 : decode code 1307 = .ok (.ifCond .eq 5, 3) := by decide +kernel
theorem d_L_law_1310 : decode code 1310 = .ok (.iconst 0, 1) := by decide +kernel
theorem d_L_law_1311 : decode code 1311 = .ok (.ireturn, 1) := by decide +kernel
theorem d_L_law_1312 : decode code 1312 = .ok (.goto 59, 3) := by decide +kernel
theorem d_L_law_1315 : decode code 1315 = .ok (.aload_n 1, 1) := by decide +kernel
theorem d_L_law_1316 : decode code 1316 = .ok (.aload_n 0, 1) := by decide +kernel
theorem d_L_law_1317 : decode code 1317 = .ok (.iload 4, 2) := by decide +kernel
theorem d_L_law_1319 : decode code 1319 = .ok (.iconst 1, 1) := by decide +kernel
theorem d_L_law_1320 : decode code 1320 = .ok (.iadd, 1) := by decide +kernel
theorem d_L_law_1321 : decode code 1321 = .ok (.iaload, 1) := by decide +kernel
theorem d_L_law_1322 : decode code 1322 = .ok (.aload_n 3, 1) := by decide +kernel
theorem d_L_law_1323 : decode code 1323 = .ok (.invokestatic 154, 3) := by decide +kernel
theorem d_L_law_1326 : decode code 1326 = .ok (.istore 5, 2) := by decide +kernel
theorem d_L_law_1328 : decode code 1328 = .ok (.aload_n 2, 1) := by decide +kernel
theorem d_L_law_1329 : decode code 1329 = .ok (.aload_n 0, 1) := by decide +kernel
theorem d_L_law_1330 : decode code 1330 = .ok (.iload 4, 2) := by decide +kernel
theorem d_L_law_1332 : decode code 1332 = .ok (.iconst 1, 1) := by decide +kernel
theorem d_L_law_1333 : decode code 1333 = .ok (.iadd, 1) := by decide +kernel
theorem d_L_law_1334 : decode code 1334 = .ok (.iaload, 1) := by decide +kernel
theorem d_L_law_1335 : decode code 1335 = .ok (.invokevirtual 156, 3) := by decide +kernel
theorem d_L_law_1338 : decode code 1338 = .ok (.istore 6, 2) := by decide +kernel
theorem d_L_law_1340 : decode code 1340 = .ok (.aload_n 2, 1) := by decide +kernel
theorem d_L_law_1341 : decode code 1341 = .ok (.invokevirtual 90, 3) := by decide +kernel
theorem d_L_law_1344 : decode code 1344 = .ok (.iload 5, 2) := by decide +kernel
theorem d_L_law_1346 : decode code 1346 = .ok (.if_icmp .eq 5, 3) := by decide +kernel
theorem d_L_law_1349 : decode code 1349 = .ok (.iconst 0, 1) := by decide +kernel
theorem d_L_law_1350 : decode code 1350 = .ok (.ireturn, 1) := by decide +kernel
theorem d_L_law_1351 : decode code 1351 = .ok (.iload 5, 2) := by decide +kernel
theorem d_L_law_1353 : decode code 1353 = .ok (.ifCond .ne 15, 3) := by decide +kernel
theorem d_L_law_1356 : decode code 1356 = .ok (.aload_n 3, 1) := by decide +kernel
theorem d_L_law_1357 : decode code 1357 = .ok (.iconst 0, 1) := by decide +kernel
theorem d_L_law_1358 : decode code 1358 = .ok (.laload, 1) := by decide +kernel
theorem d_L_law_1359 : decode code 1359 = .ok (.iload 6, 2) := by decide +kernel
theorem d_L_law_1361 : decode code 1361 = .ok (.i2l, 1) := by decide +kernel
theorem d_L_law_1362 : decode code 1362 = .ok (.lcmp, 1) := by decide +kernel
theorem d_L_law_1363 : decode code 1363 = .ok (.ifCond .eq 5, 3) := by decide +kernel
theorem d_L_law_1366 : decode code 1366 = .ok (.iconst 0, 1) := by decide +kernel
theorem d_L_law_1367 : decode code 1367 = .ok (.ireturn, 1) := by decide +kernel
theorem d_L_law_1368 : decode code 1368 = .ok (.goto 3, 3) := by decide +kernel
theorem d_L_law_1371 : decode code 1371 = .ok (.iinc 4 6, 3) := by decide +kernel
theorem d_L_law_1374 : decode code 1374 = .ok (.goto (-1351), 3) := by decide +kernel
theorem d_L_law_1377 : decode code 1377 = .ok (.iconst 1, 1) := by decide +kernel
theorem d_L_law_1378 : decode code 1378 = .ok (.ireturn, 1) := by decide +kernel
