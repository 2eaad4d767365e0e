theorem d_La_law_0 : decode code 0 = .ok (.new 8, 3) := by decide +kernel
theorem d_La_law_3 : decode code 3 = .ok (.dup, 1) := by decide +kernel
theorem d_La_law_4 : decode code 4 = .ok (.aload_n 0, 1) := by decide +kernel
theorem d_La_law_5 : decode code 5 = .ok (.iconst (0), 1) := by decide +kernel
theorem d_La_law_6 : decode code 6 = .ok (.invokestatic 60, 3) := by decide +kernel
theorem d_La_law_9 : decode code 9 = .ok (.invokespecial 66, 3) := by decide +kernel
theorem d_La_law_12 : decode code 12 = .ok (.astore_n 1, 1) := by decide +kernel
theorem d_La_law_13 : decode code 13 = .ok (.new 69, 3) := by decide +kernel
theorem d_La_law_16 : decode code 16 = .ok (.dup, 1) := by decide +kernel
theorem d_La_law_17 : decode code 17 = .ok (.aload_n 0, 1) := by decide +kernel
theorem d_La_law_18 : decode code 18 = .ok (.iconst (0), 1) := by decide +kernel
theorem d_La_law_19 : decode code 19 = .ok (.invokestatic 60, 3) := by decide +kernel
theorem d_La_law_22 : decode code 22 = .ok (.invokespecial 71, 3) := by decide +kernel
theorem d_La_law_25 : decode code 25 = .ok (.astore_n 2, 1) := by decide +kernel
theorem d_La_law_26 : decode code 26 = .ok (.iconst (1), 1) := by decide +kernel
theorem d_La_law_27 : decode code 27 = .ok (.newarray .long, 2) := by decide +kernel
theorem d_La_law_29 : decode code 29 = .ok (.astore_n 3, 1) := by decide +kernel
theorem d_La_law_30 : decode code 30 = .ok (.iconst (1), 1) := by decide +kernel
theorem d_La_law_31 : decode code 31 = .ok (.istore 4, 2) := by decide +kernel
theorem d_La_law_33 : decode code 33 = .ok (.iload 4, 2) := by decide +kernel
theorem d_La_law_35 : decode code 35 = .ok (.aload_n 0, 1) := by decide +kernel
theorem d_La_law_36 : decode code 36 = .ok (.arraylength, 1) := by decide +kernel
theorem d_La_law_37 : decode code 37 = .ok (.bipush (8), 2) := by decide +kernel
theorem d_La_law_39 : decode code 39 = .ok (.isub, 1) := by decide +kernel
theorem d_La_law_40 : decode code 40 = .ok (.if_icmp .gt (1158), 3) := by decide +kernel
theorem d_La_law_43 : decode code 43 = .ok (.aload_n 0, 1) := by decide +kernel
theorem d_La_law_44 : decode code 44 = .ok (.iload 4, 2) := by decide +kernel
theorem d_La_law_46 : decode code 46 = .ok (.iaload, 1) := by decide +kernel
theorem d_La_law_47 : decode code 47 = .ok (.bipush (31), 2) := by decide +kernel
theorem d_La_law_49 : decode code 49 = .ok (.iand, 1) := by decide +kernel
theorem d_La_law_50 : decode code 50 = .ok (.tableswitch (1142) (0) (18) #[90, 170, 226, 239, 295, 320, 376, 444, 457, 513, 526, 674, 754, 822, 902, 982, 1050, 1106, 1131], 90) := by decide +kernel
theorem d_La_law_140 : decode code 140 = .ok (.aload_n 1, 1) := by decide +kernel
theorem d_La_law_141 : decode code 141 = .ok (.aload_n 0, 1) := by decide +kernel
theorem d_La_law_142 : decode code 142 = .ok (.iload 4, 2) := by decide +kernel
theorem d_La_law_144 : decode code 144 = .ok (.iconst (1), 1) := by decide +kernel
theorem d_La_law_145 : decode code 145 = .ok (.iadd, 1) := by decide +kernel
theorem d_La_law_146 : decode code 146 = .ok (.iaload, 1) := by decide +kernel
theorem d_La_law_147 : decode code 147 = .ok (.aload_n 0, 1) := by decide +kernel
theorem d_La_law_148 : decode code 148 = .ok (.iload 4, 2) := by decide +kernel
theorem d_La_law_150 : decode code 150 = .ok (.iconst (2), 1) := by decide +kernel
theorem d_La_law_151 : decode code 151 = .ok (.iadd, 1) := by decide +kernel
theorem d_La_law_152 : decode code 152 = .ok (.iaload, 1) := by decide +kernel
theorem d_La_law_153 : decode code 153 = .ok (.aload_n 0, 1) := by decide +kernel
theorem d_La_law_154 : decode code 154 = .ok (.iload 4, 2) := by decide +kernel
theorem d_La_law_156 : decode code 156 = .ok (.iconst (3), 1) := by decide +kernel
theorem d_La_law_157 : decode code 157 = .ok (.iadd, 1) := by decide +kernel
theorem d_La_law_158 : decode code 158 = .ok (.iaload, 1) := by decide +kernel
theorem d_La_law_159 : decode code 159 = .ok (.aload_n 3, 1) := by decide +kernel
theorem d_La_law_160 : decode code 160 = .ok (.invokestatic 72, 3) := by decide +kernel
theorem d_La_law_163 : decode code 163 = .ok (.istore 5, 2) := by decide +kernel
theorem d_La_law_165 : decode code 165 = .ok (.aload_n 2, 1) := by decide +kernel
theorem d_La_law_166 : decode code 166 = .ok (.aload_n 0, 1) := by decide +kernel
theorem d_La_law_167 : decode code 167 = .ok (.iload 4, 2) := by decide +kernel
theorem d_La_law_169 : decode code 169 = .ok (.iconst (1), 1) := by decide +kernel
theorem d_La_law_170 : decode code 170 = .ok (.iadd, 1) := by decide +kernel
theorem d_La_law_171 : decode code 171 = .ok (.iaload, 1) := by decide +kernel
theorem d_La_law_172 : decode code 172 = .ok (.aload_n 0, 1) := by decide +kernel
theorem d_La_law_173 : decode code 173 = .ok (.iload 4, 2) := by decide +kernel
theorem d_La_law_175 : decode code 175 = .ok (.iconst (2), 1) := by decide +kernel
theorem d_La_law_176 : decode code 176 = .ok (.iadd, 1) := by decide +kernel
theorem d_La_law_177 : decode code 177 = .ok (.iaload, 1) := by decide +kernel
theorem d_La_law_178 : decode code 178 = .ok (.aload_n 0, 1) := by decide +kernel
theorem d_La_law_179 : decode code 179 = .ok (.iload 4, 2) := by decide +kernel
theorem d_La_law_181 : decode code 181 = .ok (.iconst (3), 1) := by decide +kernel
theorem d_La_law_182 : decode code 182 = .ok (.iadd, 1) := by decide +kernel
theorem d_La_law_183 : decode code 183 = .ok (.iaload, 1) := by decide +kernel
theorem d_La_law_184 : decode code 184 = .ok (.invokevirtual 75, 3) := by decide +kernel
theorem d_La_law_187 : decode code 187 = .ok (.istore 6, 2) := by decide +kernel
theorem d_La_law_189 : decode code 189 = .ok (.aload_n 2, 1) := by decide +kernel
theorem d_La_law_190 : decode code 190 = .ok (.invokevirtual 76, 3) := by decide +kernel
theorem d_La_law_193 : decode code 193 = .ok (.iload 5, 2) := by decide +kernel
theorem d_La_law_195 : decode code 195 = .ok (.if_icmp .eq (5), 3) := by decide +kernel
theorem d_La_law_198 : decode code 198 = .ok (.iconst (0), 1) := by decide +kernel
theorem d_La_law_199 : decode code 199 = .ok (.ireturn, 1) := by decide +kernel
theorem d_La_law_200 : decode code 200 = .ok (.iload 5, 2) := by decide +kernel
theorem d_La_law_202 : decode code 202 = .ok (.ifCond .ne (15), 3) := by decide +kernel
theorem d_La_law_205 : decode code 205 = .ok (.aload_n 3, 1) := by decide +kernel
theorem d_La_law_206 : decode code 206 = .ok (.iconst (0), 1) := by decide +kernel
theorem d_La_law_207 : decode code 207 = .ok (.laload, 1) := by decide +kernel
theorem d_La_law_208 : decode code 208 = .ok (.iload 6, 2) := by decide +kernel
theorem d_La_law_210 : decode code 210 = .ok (.i2l, 1) := by decide +kernel
theorem d_La_law_211 : decode code 211 = .ok (.lcmp, 1) := by decide +kernel
theorem d_La_law_212 : decode code 212 = .ok (.ifCond .eq (5), 3) := by decide +kernel
theorem d_La_law_215 : decode code 215 = .ok (.iconst (0), 1) := by decide +kernel
theorem d_La_law_216 : decode code 216 = .ok (.ireturn, 1) := by decide +kernel
theorem d_La_law_217 : decode code 217 = .ok (.goto (975), 3) := by decide +kernel
theorem d_La_law_220 : decode code 220 = .ok (.aload_n 1, 1) := by decide +kernel
theorem d_La_law_221 : decode code 221 = .ok (.aload_n 0, 1) := by decide +kernel
theorem d_La_law_222 : decode code 222 = .ok (.iload 4, 2) := by decide +kernel
theorem d_La_law_224 : decode code 224 = .ok (.iconst (1), 1) := by decide +kernel
theorem d_La_law_225 : decode code 225 = .ok (.iadd, 1) := by decide +kernel
theorem d_La_law_226 : decode code 226 = .ok (.iaload, 1) := by decide +kernel
theorem d_La_law_227 : decode code 227 = .ok (.aload_n 3, 1) := by decide +kernel
theorem d_La_law_228 : decode code 228 = .ok (.invokestatic 80, 3) := by decide +kernel
theorem d_La_law_231 : decode code 231 = .ok (.istore 5, 2) := by decide +kernel
theorem d_La_law_233 : decode code 233 = .ok (.aload_n 2, 1) := by decide +kernel
theorem d_La_law_234 : decode code 234 = .ok (.aload_n 0, 1) := by decide +kernel
theorem d_La_law_235 : decode code 235 = .ok (.iload 4, 2) := by decide +kernel
theorem d_La_law_237 : decode code 237 = .ok (.iconst (1), 1) := by decide +kernel
theorem d_La_law_238 : decode code 238 = .ok (.iadd, 1) := by decide +kernel
theorem d_La_law_239 : decode code 239 = .ok (.iaload, 1) := by decide +kernel
theorem d_La_law_240 : decode code 240 = .ok (.invokevirtual 83, 3) := by decide +kernel
theorem d_La_law_243 : decode code 243 = .ok (.istore 6, 2) := by decide +kernel
theorem d_La_law_245 : decode code 245 = .ok (.aload_n 2, 1) := by decide +kernel
theorem d_La_law_246 : decode code 246 = .ok (.invokevirtual 76, 3) := by decide +kernel
theorem d_La_law_249 : decode code 249 = .ok (.iload 5, 2) := by decide +kernel
theorem d_La_law_251 : decode code 251 = .ok (.if_icmp .eq (5), 3) := by decide +kernel
theorem d_La_law_254 : decode code 254 = .ok (.iconst (0), 1) := by decide +kernel
theorem d_La_law_255 : decode code 255 = .ok (.ireturn, 1) := by decide +kernel
theorem d_La_law_256 : decode code 256 = .ok (.iload 5, 2) := by decide +kernel
theorem d_La_law_258 : decode code 258 = .ok (.ifCond .ne (15), 3) := by decide +kernel
theorem d_La_law_261 : decode code 261 = .ok (.aload_n 3, 1) := by decide +kernel
theorem d_La_law_262 : decode code 262 = .ok (.iconst (0), 1) := by decide +kernel
theorem d_La_law_263 : decode code 263 = .ok (.laload, 1) := by decide +kernel
theorem d_La_law_264 : decode code 264 = .ok (.iload 6, 2) := by decide +kernel
theorem d_La_law_266 : decode code 266 = .ok (.i2l, 1) := by decide +kernel
theorem d_La_law_267 : decode code 267 = .ok (.lcmp, 1) := by decide +kernel
theorem d_La_law_268 : decode code 268 = .ok (.ifCond .eq (5), 3) := by decide +kernel
theorem d_La_law_271 : decode code 271 = .ok (.iconst (0), 1) := by decide +kernel
theorem d_La_law_272 : decode code 272 = .ok (.ireturn, 1) := by decide +kernel
theorem d_La_law_273 : decode code 273 = .ok (.goto (919), 3) := by decide +kernel
theorem d_La_law_276 : decode code 276 = .ok (.aload_n 1, 1) := by decide +kernel
theorem d_La_law_277 : decode code 277 = .ok (.invokevirtual 84, 3) := by decide +kernel
theorem d_La_law_280 : decode code 280 = .ok (.aload_n 2, 1) := by decide +kernel
theorem d_La_law_281 : decode code 281 = .ok (.invokevirtual 87, 3) := by decide +kernel
theorem d_La_law_284 : decode code 284 = .ok (.if_icmp .eq (908), 3) := by decide +kernel
theorem d_La_law_287 : decode code 287 = .ok (.iconst (0), 1) := by decide +kernel
theorem d_La_law_288 : decode code 288 = .ok (.ireturn, 1) := by decide +kernel
theorem d_La_law_289 : decode code 289 = .ok (.aload_n 1, 1) := by decide +kernel
theorem d_La_law_290 : decode code 290 = .ok (.aload_n 0, 1) := by decide +kernel
theorem d_La_law_291 : decode code 291 = .ok (.iload 4, 2) := by decide +kernel
theorem d_La_law_293 : decode code 293 = .ok (.iconst (1), 1) := by decide +kernel
theorem d_La_law_294 : decode code 294 = .ok (.iadd, 1) := by decide +kernel
theorem d_La_law_295 : decode code 295 = .ok (.iaload, 1) := by decide +kernel
theorem d_La_law_296 : decode code 296 = .ok (.aload_n 3, 1) := by decide +kernel
theorem d_La_law_297 : decode code 297 = .ok (.invokestatic 88, 3) := by decide +kernel
theorem d_La_law_300 : decode code 300 = .ok (.istore 5, 2) := by decide +kernel
theorem d_La_law_302 : decode code 302 = .ok (.aload_n 2, 1) := by decide +kernel
theorem d_La_law_303 : decode code 303 = .ok (.aload_n 0, 1) := by decide +kernel
theorem d_La_law_304 : decode code 304 = .ok (.iload 4, 2) := by decide +kernel
theorem d_La_law_306 : decode code 306 = .ok (.iconst (1), 1) := by decide +kernel
theorem d_La_law_307 : decode code 307 = .ok (.iadd, 1) := by decide +kernel
theorem d_La_law_308 : decode code 308 = .ok (.iaload, 1) := by decide +kernel
theorem d_La_law_309 : decode code 309 = .ok (.invokevirtual 90, 3) := by decide +kernel
theorem d_La_law_312 : decode code 312 = .ok (.istore 6, 2) := by decide +kernel
theorem d_La_law_314 : decode code 314 = .ok (.aload_n 2, 1) := by decide +kernel
theorem d_La_law_315 : decode code 315 = .ok (.invokevirtual 76, 3) := by decide +kernel
theorem d_La_law_318 : decode code 318 = .ok (.iload 5, 2) := by decide +kernel
theorem d_La_law_320 : decode code 320 = .ok (.if_icmp .eq (5), 3) := by decide +kernel
theorem d_La_law_323 : decode code 323 = .ok (.iconst (0), 1) := by decide +kernel
theorem d_La_law_324 : decode code 324 = .ok (.ireturn, 1) := by decide +kernel
theorem d_La_law_325 : decode code 325 = .ok (.iload 5, 2) := by decide +kernel
theorem d_La_law_327 : decode code 327 = .ok (.ifCond .ne (15), 3) := by decide +kernel
theorem d_La_law_330 : decode code 330 = .ok (.aload_n 3, 1) := by decide +kernel
theorem d_La_law_331 : decode code 331 = .ok (.iconst (0), 1) := by decide +kernel
theorem d_La_law_332 : decode code 332 = .ok (.laload, 1) := by decide +kernel
theorem d_La_law_333 : decode code 333 = .ok (.iload 6, 2) := by decide +kernel
theorem d_La_law_335 : decode code 335 = .ok (.i2l, 1) := by decide +kernel
theorem d_La_law_336 : decode code 336 = .ok (.lcmp, 1) := by decide +kernel
theorem d_La_law_337 : decode code 337 = .ok (.ifCond .eq (5), 3) := by decide +kernel
theorem d_La_law_340 : decode code 340 = .ok (.iconst (0), 1) := by decide +kernel
theorem d_La_law_341 : decode code 341 = .ok (.ireturn, 1) := by decide +kernel
theorem d_La_law_342 : decode code 342 = .ok (.goto (850), 3) := by decide +kernel
theorem d_La_law_345 : decode code 345 = .ok (.aload_n 1, 1) := by decide +kernel
theorem d_La_law_346 : decode code 346 = .ok (.aload_n 0, 1) := by decide +kernel
theorem d_La_law_347 : decode code 347 = .ok (.iload 4, 2) := by decide +kernel
theorem d_La_law_349 : decode code 349 = .ok (.iconst (1), 1) := by decide +kernel
theorem d_La_law_350 : decode code 350 = .ok (.iadd, 1) := by decide +kernel
theorem d_La_law_351 : decode code 351 = .ok (.iaload, 1) := by decide +kernel
theorem d_La_law_352 : decode code 352 = .ok (.invokevirtual 91, 3) := by decide +kernel
theorem d_La_law_355 : decode code 355 = .ok (.aload_n 2, 1) := by decide +kernel
theorem d_La_law_356 : decode code 356 = .ok (.aload_n 0, 1) := by decide +kernel
theorem d_La_law_357 : decode code 357 = .ok (.iload 4, 2) := by decide +kernel
theorem d_La_law_359 : decode code 359 = .ok (.iconst (1), 1) := by decide +kernel
theorem d_La_law_360 : decode code 360 = .ok (.iadd, 1) := by decide +kernel
theorem d_La_law_361 : decode code 361 = .ok (.iaload, 1) := by decide +kernel
theorem d_La_law_362 : decode code 362 = .ok (.invokevirtual 94, 3) := by decide +kernel
theorem d_La_law_365 : decode code 365 = .ok (.if_icmp .eq (827), 3) := by decide +kernel
theorem d_La_law_368 : decode code 368 = .ok (.iconst (0), 1) := by decide +kernel
theorem d_La_law_369 : decode code 369 = .ok (.ireturn, 1) := by decide +kernel
theorem d_La_law_370 : decode code 370 = .ok (.aload_n 1, 1) := by decide +kernel
theorem d_La_law_371 : decode code 371 = .ok (.aload_n 0, 1) := by decide +kernel
theorem d_La_law_372 : decode code 372 = .ok (.iload 4, 2) := by decide +kernel
theorem d_La_law_374 : decode code 374 = .ok (.iconst (1), 1) := by decide +kernel
theorem d_La_law_375 : decode code 375 = .ok (.iadd, 1) := by decide +kernel
theorem d_La_law_376 : decode code 376 = .ok (.iaload, 1) := by decide +kernel
theorem d_La_law_377 : decode code 377 = .ok (.aload_n 3, 1) := by decide +kernel
theorem d_La_law_378 : decode code 378 = .ok (.invokestatic 95, 3) := by decide +kernel
theorem d_La_law_381 : decode code 381 = .ok (.istore 5, 2) := by decide +kernel
theorem d_La_law_383 : decode code 383 = .ok (.aload_n 2, 1) := by decide +kernel
theorem d_La_law_384 : decode code 384 = .ok (.aload_n 0, 1) := by decide +kernel
theorem d_La_law_385 : decode code 385 = .ok (.iload 4, 2) := by decide +kernel
theorem d_La_law_387 : decode code 387 = .ok (.iconst (1), 1) := by decide +kernel
theorem d_La_law_388 : decode code 388 = .ok (.iadd, 1) := by decide +kernel
theorem d_La_law_389 : decode code 389 = .ok (.iaload, 1) := by decide +kernel
theorem d_La_law_390 : decode code 390 = .ok (.invokevirtual 97, 3) := by decide +kernel
theorem d_La_law_393 : decode code 393 = .ok (.istore 6, 2) := by decide +kernel
theorem d_La_law_395 : decode code 395 = .ok (.aload_n 2, 1) := by decide +kernel
theorem d_La_law_396 : decode code 396 = .ok (.invokevirtual 76, 3) := by decide +kernel
theorem d_La_law_399 : decode code 399 = .ok (.iload 5, 2) := by decide +kernel
theorem d_La_law_401 : decode code 401 = .ok (.if_icmp .eq (5), 3) := by decide +kernel
theorem d_La_law_404 : decode code 404 = .ok (.iconst (0), 1) := by decide +kernel
theorem d_La_law_405 : decode code 405 = .ok (.ireturn, 1) := by decide +kernel
theorem d_La_law_406 : decode code 406 = .ok (.iload 5, 2) := by decide +kernel
theorem d_La_law_408 : decode code 408 = .ok (.ifCond .ne (15), 3) := by decide +kernel
theorem d_La_law_411 : decode code 411 = .ok (.aload_n 3, 1) := by decide +kernel
theorem d_La_law_412 : decode code 412 = .ok (.iconst (0), 1) := by decide +kernel
theorem d_La_law_413 : decode code 413 = .ok (.laload, 1) := by decide +kernel
theorem d_La_law_414 : decode code 414 = .ok (.iload 6, 2) := by decide +kernel
theorem d_La_law_416 : decode code 416 = .ok (.i2l, 1) := by decide +kernel
theorem d_La_law_417 : decode code 417 = .ok (.lcmp, 1) := by decide +kernel
theorem d_La_law_418 : decode code 418 = .ok (.ifCond .eq (5), 3) := by decide +kernel
theorem d_La_law_421 : decode code 421 = .ok (.iconst (0), 1) := by decide +kernel
theorem d_La_law_422 : decode code 422 = .ok (.ireturn, 1) := by decide +kernel
theorem d_La_law_423 : decode code 423 = .ok (.goto (769), 3) := by decide +kernel
theorem d_La_law_426 : decode code 426 = .ok (.aload_n 1, 1) := by decide +kernel
theorem d_La_law_427 : decode code 427 = .ok (.aload_n 0, 1) := by decide +kernel
theorem d_La_law_428 : decode code 428 = .ok (.iload 4, 2) := by decide +kernel
theorem d_La_law_430 : decode code 430 = .ok (.iconst (1), 1) := by decide +kernel
theorem d_La_law_431 : decode code 431 = .ok (.iadd, 1) := by decide +kernel
theorem d_La_law_432 : decode code 432 = .ok (.iaload, 1) := by decide +kernel
theorem d_La_law_433 : decode code 433 = .ok (.aload_n 0, 1) := by decide +kernel
theorem d_La_law_434 : decode code 434 = .ok (.iload 4, 2) := by decide +kernel
theorem d_La_law_436 : decode code 436 = .ok (.iconst (2), 1) := by decide +kernel
theorem d_La_law_437 : decode code 437 = .ok (.iadd, 1) := by decide +kernel
theorem d_La_law_438 : decode code 438 = .ok (.iaload, 1) := by decide +kernel
theorem d_La_law_439 : decode code 439 = .ok (.aload_n 3, 1) := by decide +kernel
theorem d_La_law_440 : decode code 440 = .ok (.invokestatic 98, 3) := by decide +kernel
theorem d_La_law_443 : decode code 443 = .ok (.istore 5, 2) := by decide +kernel
theorem d_La_law_445 : decode code 445 = .ok (.aload_n 2, 1) := by decide +kernel
theorem d_La_law_446 : decode code 446 = .ok (.aload_n 0, 1) := by decide +kernel
theorem d_La_law_447 : decode code 447 = .ok (.iload 4, 2) := by decide +kernel
theorem d_La_law_449 : decode code 449 = .ok (.iconst (1), 1) := by decide +kernel
theorem d_La_law_450 : decode code 450 = .ok (.iadd, 1) := by decide +kernel
theorem d_La_law_451 : decode code 451 = .ok (.iaload, 1) := by decide +kernel
theorem d_La_law_452 : decode code 452 = .ok (.aload_n 0, 1) := by decide +kernel
theorem d_La_law_453 : decode code 453 = .ok (.iload 4, 2) := by decide +kernel
theorem d_La_law_455 : decode code 455 = .ok (.iconst (2), 1) := by decide +kernel
theorem d_La_law_456 : decode code 456 = .ok (.iadd, 1) := by decide +kernel
theorem d_La_law_457 : decode code 457 = .ok (.iaload, 1) := by decide +kernel
theorem d_La_law_458 : decode code 458 = .ok (.invokevirtual 101, 3) := by decide +kernel
theorem d_La_law_461 : decode code 461 = .ok (.istore 6, 2) := by decide +kernel
theorem d_La_law_463 : decode code 463 = .ok (.aload_n 2, 1) := by decide +kernel
theorem d_La_law_464 : decode code 464 = .ok (.invokevirtual 76, 3) := by decide +kernel
theorem d_La_law_467 : decode code 467 = .ok (.iload 5, 2) := by decide +kernel
theorem d_La_law_469 : decode code 469 = .ok (.if_icmp .eq (5), 3) := by decide +kernel
theorem d_La_law_472 : decode code 472 = .ok (.iconst (0), 1) := by decide +kernel
theorem d_La_law_473 : decode code 473 = .ok (.ireturn, 1) := by decide +kernel
theorem d_La_law_474 : decode code 474 = .ok (.iload 5, 2) := by decide +kernel
theorem d_La_law_476 : decode code 476 = .ok (.ifCond .ne (15), 3) := by decide +kernel
theorem d_La_law_479 : decode code 479 = .ok (.aload_n 3, 1) := by decide +kernel
theorem d_La_law_480 : decode code 480 = .ok (.iconst (0), 1) := by decide +kernel
theorem d_La_law_481 : decode code 481 = .ok (.laload, 1) := by decide +kernel
theorem d_La_law_482 : decode code 482 = .ok (.iload 6, 2) := by decide +kernel
theorem d_La_law_484 : decode code 484 = .ok (.i2l, 1) := by decide +kernel
theorem d_La_law_485 : decode code 485 = .ok (.lcmp, 1) := by decide +kernel
theorem d_La_law_486 : decode code 486 = .ok (.ifCond .eq (5), 3) := by decide +kernel
theorem d_La_law_489 : decode code 489 = .ok (.iconst (0), 1) := by decide +kernel
theorem d_La_law_490 : decode code 490 = .ok (.ireturn, 1) := by decide +kernel
theorem d_La_law_491 : decode code 491 = .ok (.goto (701), 3) := by decide +kernel
theorem d_La_law_494 : decode code 494 = .ok (.aload_n 1, 1) := by decide +kernel
theorem d_La_law_495 : decode code 495 = .ok (.invokevirtual 102, 3) := by decide +kernel
theorem d_La_law_498 : decode code 498 = .ok (.aload_n 2, 1) := by decide +kernel
theorem d_La_law_499 : decode code 499 = .ok (.invokevirtual 105, 3) := by decide +kernel
theorem d_La_law_502 : decode code 502 = .ok (.if_icmp .eq (690), 3) := by decide +kernel
theorem d_La_law_505 : decode code 505 = .ok (.iconst (0), 1) := by decide +kernel
theorem d_La_law_506 : decode code 506 = .ok (.ireturn, 1) := by decide +kernel
theorem d_La_law_507 : decode code 507 = .ok (.aload_n 1, 1) := by decide +kernel
theorem d_La_law_508 : decode code 508 = .ok (.aload_n 0, 1) := by decide +kernel
theorem d_La_law_509 : decode code 509 = .ok (.iload 4, 2) := by decide +kernel
theorem d_La_law_511 : decode code 511 = .ok (.iconst (1), 1) := by decide +kernel
theorem d_La_law_512 : decode code 512 = .ok (.iadd, 1) := by decide +kernel
theorem d_La_law_513 : decode code 513 = .ok (.iaload, 1) := by decide +kernel
theorem d_La_law_514 : decode code 514 = .ok (.aload_n 3, 1) := by decide +kernel
theorem d_La_law_515 : decode code 515 = .ok (.invokestatic 106, 3) := by decide +kernel
theorem d_La_law_518 : decode code 518 = .ok (.istore 5, 2) := by decide +kernel
theorem d_La_law_520 : decode code 520 = .ok (.aload_n 2, 1) := by decide +kernel
theorem d_La_law_521 : decode code 521 = .ok (.aload_n 0, 1) := by decide +kernel
theorem d_La_law_522 : decode code 522 = .ok (.iload 4, 2) := by decide +kernel
theorem d_La_law_524 : decode code 524 = .ok (.iconst (1), 1) := by decide +kernel
theorem d_La_law_525 : decode code 525 = .ok (.iadd, 1) := by decide +kernel
theorem d_La_law_526 : decode code 526 = .ok (.iaload, 1) := by decide +kernel
theorem d_La_law_527 : decode code 527 = .ok (.invokevirtual 108, 3) := by decide +kernel
theorem d_La_law_530 : decode code 530 = .ok (.istore 6, 2) := by decide +kernel
theorem d_La_law_532 : decode code 532 = .ok (.aload_n 2, 1) := by decide +kernel
theorem d_La_law_533 : decode code 533 = .ok (.invokevirtual 76, 3) := by decide +kernel
theorem d_La_law_536 : decode code 536 = .ok (.iload 5, 2) := by decide +kernel
theorem d_La_law_538 : decode code 538 = .ok (.if_icmp .eq (5), 3) := by decide +kernel
theorem d_La_law_541 : decode code 541 = .ok (.iconst (0), 1) := by decide +kernel
theorem d_La_law_542 : decode code 542 = .ok (.ireturn, 1) := by decide +kernel
theorem d_La_law_543 : decode code 543 = .ok (.iload 5, 2) := by decide +kernel
theorem d_La_law_545 : decode code 545 = .ok (.ifCond .ne (15), 3) := by decide +kernel
theorem d_La_law_548 : decode code 548 = .ok (.aload_n 3, 1) := by decide +kernel
theorem d_La_law_549 : decode code 549 = .ok (.iconst (0), 1) := by decide +kernel
theorem d_La_law_550 : decode code 550 = .ok (.laload, 1) := by decide +kernel
theorem d_La_law_551 : decode code 551 = .ok (.iload 6, 2) := by decide +kernel
theorem d_La_law_553 : decode code 553 = .ok (.i2l, 1) := by decide +kernel
theorem d_La_law_554 : decode code 554 = .ok (.lcmp, 1) := by decide +kernel
theorem d_La_law_555 : decode code 555 = .ok (.ifCond .eq (5), 3) := by decide +kernel
theorem d_La_law_558 : decode code 558 = .ok (.iconst (0), 1) := by decide +kernel
theorem d_La_law_559 : decode code 559 = .ok (.ireturn, 1) := by decide +kernel
theorem d_La_law_560 : decode code 560 = .ok (.goto (632), 3) := by decide +kernel
theorem d_La_law_563 : decode code 563 = .ok (.aload_n 1, 1) := by decide +kernel
theorem d_La_law_564 : decode code 564 = .ok (.invokevirtual 109, 3) := by decide +kernel
theorem d_La_law_567 : decode code 567 = .ok (.aload_n 2, 1) := by decide +kernel
theorem d_La_law_568 : decode code 568 = .ok (.invokevirtual 112, 3) := by decide +kernel
theorem d_La_law_571 : decode code 571 = .ok (.if_icmp .eq (621), 3) := by decide +kernel
theorem d_La_law_574 : decode code 574 = .ok (.iconst (0), 1) := by decide +kernel
theorem d_La_law_575 : decode code 575 = .ok (.ireturn, 1) := by decide +kernel
theorem d_La_law_576 : decode code 576 = .ok (.aload_n 1, 1) := by decide +kernel
theorem d_La_law_577 : decode code 577 = .ok (.aload_n 0, 1) := by decide +kernel
theorem d_La_law_578 : decode code 578 = .ok (.iload 4, 2) := by decide +kernel
theorem d_La_law_580 : decode code 580 = .ok (.iconst (1), 1) := by decide +kernel
theorem d_La_law_581 : decode code 581 = .ok (.iadd, 1) := by decide +kernel
theorem d_La_law_582 : decode code 582 = .ok (.iaload, 1) := by decide +kernel
theorem d_La_law_583 : decode code 583 = .ok (.aload_n 0, 1) := by decide +kernel
theorem d_La_law_584 : decode code 584 = .ok (.iload 4, 2) := by decide +kernel
theorem d_La_law_586 : decode code 586 = .ok (.iconst (2), 1) := by decide +kernel
theorem d_La_law_587 : decode code 587 = .ok (.iadd, 1) := by decide +kernel
theorem d_La_law_588 : decode code 588 = .ok (.iaload, 1) := by decide +kernel
theorem d_La_law_589 : decode code 589 = .ok (.aload_n 0, 1) := by decide +kernel
theorem d_La_law_590 : decode code 590 = .ok (.iload 4, 2) := by decide +kernel
theorem d_La_law_592 : decode code 592 = .ok (.iconst (3), 1) := by decide +kernel
theorem d_La_law_593 : decode code 593 = .ok (.iadd, 1) := by decide +kernel
theorem d_La_law_594 : decode code 594 = .ok (.iaload, 1) := by decide +kernel
theorem d_La_law_595 : decode code 595 = .ok (.aload_n 0, 1) := by decide +kernel
theorem d_La_law_596 : decode code 596 = .ok (.iload 4, 2) := by decide +kernel
theorem d_La_law_598 : decode code 598 = .ok (.iconst (4), 1) := by decide +kernel
theorem d_La_law_599 : decode code 599 = .ok (.iadd, 1) := by decide +kernel
theorem d_La_law_600 : decode code 600 = .ok (.iaload, 1) := by decide +kernel
theorem d_La_law_601 : decode code 601 = .ok (.aload_n 0, 1) := by decide +kernel
theorem d_La_law_602 : decode code 602 = .ok (.iload 4, 2) := by decide +kernel
theorem d_La_law_604 : decode code 604 = .ok (.iconst (5), 1) := by decide +kernel
theorem d_La_law_605 : decode code 605 = .ok (.iadd, 1) := by decide +kernel
theorem d_La_law_606 : decode code 606 = .ok (.iaload, 1) := by decide +kernel
theorem d_La_law_607 : decode code 607 = .ok (.ifCond .eq (7), 3) := by decide +kernel
theorem d_La_law_610 : decode code 610 = .ok (.iconst (1), 1) := by decide +kernel
theorem d_La_law_611 : decode code 611 = .ok (.goto (4), 3) := by decide +kernel
theorem d_La_law_614 : decode code 614 = .ok (.iconst (0), 1) := by decide +kernel
theorem d_La_law_615 : decode code 615 = .ok (.aload_n 0, 1) := by decide +kernel
theorem d_La_law_616 : decode code 616 = .ok (.iload 4, 2) := by decide +kernel
theorem d_La_law_618 : decode code 618 = .ok (.bipush (6), 2) := by decide +kernel
theorem d_La_law_620 : decode code 620 = .ok (.iadd, 1) := by decide +kernel
theorem d_La_law_621 : decode code 621 = .ok (.iaload, 1) := by decide +kernel
theorem d_La_law_622 : decode code 622 = .ok (.aload_n 0, 1) := by decide +kernel
theorem d_La_law_623 : decode code 623 = .ok (.iload 4, 2) := by decide +kernel
theorem d_La_law_625 : decode code 625 = .ok (.bipush (7), 2) := by decide +kernel
theorem d_La_law_627 : decode code 627 = .ok (.iadd, 1) := by decide +kernel
theorem d_La_law_628 : decode code 628 = .ok (.iaload, 1) := by decide +kernel
theorem d_La_law_629 : decode code 629 = .ok (.aload_n 3, 1) := by decide +kernel
theorem d_La_law_630 : decode code 630 = .ok (.invokestatic 113, 3) := by decide +kernel
theorem d_La_law_633 : decode code 633 = .ok (.istore 5, 2) := by decide +kernel
theorem d_La_law_635 : decode code 635 = .ok (.aload_n 2, 1) := by decide +kernel
theorem d_La_law_636 : decode code 636 = .ok (.aload_n 0, 1) := by decide +kernel
theorem d_La_law_637 : decode code 637 = .ok (.iload 4, 2) := by decide +kernel
theorem d_La_law_639 : decode code 639 = .ok (.iconst (1), 1) := by decide +kernel
theorem d_La_law_640 : decode code 640 = .ok (.iadd, 1) := by decide +kernel
theorem d_La_law_641 : decode code 641 = .ok (.iaload, 1) := by decide +kernel
theorem d_La_law_642 : decode code 642 = .ok (.aload_n 0, 1) := by decide +kernel
theorem d_La_law_643 : decode code 643 = .ok (.iload 4, 2) := by decide +kernel
theorem d_La_law_645 : decode code 645 = .ok (.iconst (2), 1) := by decide +kernel
theorem d_La_law_646 : decode code 646 = .ok (.iadd, 1) := by decide +kernel
theorem d_La_law_647 : decode code 647 = .ok (.iaload, 1) := by decide +kernel
theorem d_La_law_648 : decode code 648 = .ok (.aload_n 0, 1) := by decide +kernel
theorem d_La_law_649 : decode code 649 = .ok (.iload 4, 2) := by decide +kernel
theorem d_La_law_651 : decode code 651 = .ok (.iconst (3), 1) := by decide +kernel
theorem d_La_law_652 : decode code 652 = .ok (.iadd, 1) := by decide +kernel
theorem d_La_law_653 : decode code 653 = .ok (.iaload, 1) := by decide +kernel
theorem d_La_law_654 : decode code 654 = .ok (.aload_n 0, 1) := by decide +kernel
theorem d_La_law_655 : decode code 655 = .ok (.iload 4, 2) := by decide +kernel
theorem d_La_law_657 : decode code 657 = .ok (.iconst (4), 1) := by decide +kernel
theorem d_La_law_658 : decode code 658 = .ok (.iadd, 1) := by decide +kernel
theorem d_La_law_659 : decode code 659 = .ok (.iaload, 1) := by decide +kernel
theorem d_La_law_660 : decode code 660 = .ok (.aload_n 0, 1) := by decide +kernel
theorem d_La_law_661 : decode code 661 = .ok (.iload 4, 2) := by decide +kernel
theorem d_La_law_663 : decode code 663 = .ok (.iconst (5), 1) := by decide +kernel
theorem d_La_law_664 : decode code 664 = .ok (.iadd, 1) := by decide +kernel
theorem d_La_law_665 : decode code 665 = .ok (.iaload, 1) := by decide +kernel
theorem d_La_law_666 : decode code 666 = .ok (.ifCond .eq (7), 3) := by decide +kernel
theorem d_La_law_669 : decode code 669 = .ok (.iconst (1), 1) := by decide +kernel
theorem d_La_law_670 : decode code 670 = .ok (.goto (4), 3) := by decide +kernel
theorem d_La_law_673 : decode code 673 = .ok (.iconst (0), 1) := by decide +kernel
theorem d_La_law_674 : decode code 674 = .ok (.aload_n 0, 1) := by decide +kernel
theorem d_La_law_675 : decode code 675 = .ok (.iload 4, 2) := by decide +kernel
theorem d_La_law_677 : decode code 677 = .ok (.bipush (6), 2) := by decide +kernel
theorem d_La_law_679 : decode code 679 = .ok (.iadd, 1) := by decide +kernel
theorem d_La_law_680 : decode code 680 = .ok (.iaload, 1) := by decide +kernel
theorem d_La_law_681 : decode code 681 = .ok (.aload_n 0, 1) := by decide +kernel
theorem d_La_law_682 : decode code 682 = .ok (.iload 4, 2) := by decide +kernel
theorem d_La_law_684 : decode code 684 = .ok (.bipush (7), 2) := by decide +kernel
theorem d_La_law_686 : decode code 686 = .ok (.iadd, 1) := by decide +kernel
theorem d_La_law_687 : decode code 687 = .ok (.iaload, 1) := by decide +kernel
theorem d_La_law_688 : decode code 688 = .ok (.invokevirtual 116, 3) := by decide +kernel
theorem d_La_law_691 : decode code 691 = .ok (.istore 6, 2) := by decide +kernel
theorem d_La_law_693 : decode code 693 = .ok (.aload_n 2, 1) := by decide +kernel
theorem d_La_law_694 : decode code 694 = .ok (.invokevirtual 76, 3) := by decide +kernel
theorem d_La_law_697 : decode code 697 = .ok (.iload 5, 2) := by decide +kernel
theorem d_La_law_699 : decode code 699 = .ok (.if_icmp .eq (5), 3) := by decide +kernel
theorem d_La_law_702 : decode code 702 = .ok (.iconst (0), 1) := by decide +kernel
theorem d_La_law_703 : decode code 703 = .ok (.ireturn, 1) := by decide +kernel
theorem d_La_law_704 : decode code 704 = .ok (.iload 5, 2) := by decide +kernel
theorem d_La_law_706 : decode code 706 = .ok (.ifCond .ne (15), 3) := by decide +kernel
theorem d_La_law_709 : decode code 709 = .ok (.aload_n 3, 1) := by decide +kernel
theorem d_La_law_710 : decode code 710 = .ok (.iconst (0), 1) := by decide +kernel
theorem d_La_law_711 : decode code 711 = .ok (.laload, 1) := by decide +kernel
theorem d_La_law_712 : decode code 712 = .ok (.iload 6, 2) := by decide +kernel
theorem d_La_law_714 : decode code 714 = .ok (.i2l, 1) := by decide +kernel
theorem d_La_law_715 : decode code 715 = .ok (.lcmp, 1) := by decide +kernel
theorem d_La_law_716 : decode code 716 = .ok (.ifCond .eq (5), 3) := by decide +kernel
theorem d_La_law_719 : decode code 719 = .ok (.iconst (0), 1) := by decide +kernel
theorem d_La_law_720 : decode code 720 = .ok (.ireturn, 1) := by decide +kernel
theorem d_La_law_721 : decode code 721 = .ok (.goto (471), 3) := by decide +kernel
theorem d_La_law_724 : decode code 724 = .ok (.aload_n 1, 1) := by decide +kernel
theorem d_La_law_725 : decode code 725 = .ok (.aload_n 0, 1) := by decide +kernel
theorem d_La_law_726 : decode code 726 = .ok (.iload 4, 2) := by decide +kernel
theorem d_La_law_728 : decode code 728 = .ok (.iconst (1), 1) := by decide +kernel
theorem d_La_law_729 : decode code 729 = .ok (.iadd, 1) := by decide +kernel
theorem d_La_law_730 : decode code 730 = .ok (.iaload, 1) := by decide +kernel
theorem d_La_law_731 : decode code 731 = .ok (.aload_n 0, 1) := by decide +kernel
theorem d_La_law_732 : decode code 732 = .ok (.iload 4, 2) := by decide +kernel
theorem d_La_law_734 : decode code 734 = .ok (.iconst (2), 1) := by decide +kernel
theorem d_La_law_735 : decode code 735 = .ok (.iadd, 1) := by decide +kernel
theorem d_La_law_736 : decode code 736 = .ok (.iaload, 1) := by decide +kernel
theorem d_La_law_737 : decode code 737 = .ok (.aload_n 0, 1) := by decide +kernel
theorem d_La_law_738 : decode code 738 = .ok (.iload 4, 2) := by decide +kernel
theorem d_La_law_740 : decode code 740 = .ok (.iconst (3), 1) := by decide +kernel
theorem d_La_law_741 : decode code 741 = .ok (.iadd, 1) := by decide +kernel
theorem d_La_law_742 : decode code 742 = .ok (.iaload, 1) := by decide +kernel
theorem d_La_law_743 : decode code 743 = .ok (.aload_n 3, 1) := by decide +kernel
theorem d_La_law_744 : decode code 744 = .ok (.invokestatic 117, 3) := by decide +kernel
theorem d_La_law_747 : decode code 747 = .ok (.istore 5, 2) := by decide +kernel
theorem d_La_law_749 : decode code 749 = .ok (.aload_n 2, 1) := by decide +kernel
theorem d_La_law_750 : decode code 750 = .ok (.aload_n 0, 1) := by decide +kernel
theorem d_La_law_751 : decode code 751 = .ok (.iload 4, 2) := by decide +kernel
theorem d_La_law_753 : decode code 753 = .ok (.iconst (1), 1) := by decide +kernel
theorem d_La_law_754 : decode code 754 = .ok (.iadd, 1) := by decide +kernel
theorem d_La_law_755 : decode code 755 = .ok (.iaload, 1) := by decide +kernel
theorem d_La_law_756 : decode code 756 = .ok (.aload_n 0, 1) := by decide +kernel
theorem d_La_law_757 : decode code 757 = .ok (.iload 4, 2) := by decide +kernel
theorem d_La_law_759 : decode code 759 = .ok (.iconst (2), 1) := by decide +kernel
theorem d_La_law_760 : decode code 760 = .ok (.iadd, 1) := by decide +kernel
theorem d_La_law_761 : decode code 761 = .ok (.iaload, 1) := by decide +kernel
theorem d_La_law_762 : decode code 762 = .ok (.aload_n 0, 1) := by decide +kernel
theorem d_La_law_763 : decode code 763 = .ok (.iload 4, 2) := by decide +kernel
theorem d_La_law_765 : decode code 765 = .ok (.iconst (3), 1) := by decide +kernel
theorem d_La_law_766 : decode code 766 = .ok (.iadd, 1) := by decide +kernel
theorem d_La_law_767 : decode code 767 = .ok (.iaload, 1) := by decide +kernel
theorem d_La_law_768 : decode code 768 = .ok (.invokevirtual 119, 3) := by decide +kernel
theorem d_La_law_771 : decode code 771 = .ok (.istore 6, 2) := by decide +kernel
theorem d_La_law_773 : decode code 773 = .ok (.aload_n 2, 1) := by decide +kernel
theorem d_La_law_774 : decode code 774 = .ok (.invokevirtual 76, 3) := by decide +kernel
theorem d_La_law_777 : decode code 777 = .ok (.iload 5, 2) := by decide +kernel
theorem d_La_law_779 : decode code 779 = .ok (.if_icmp .eq (5), 3) := by decide +kernel
theorem d_La_law_782 : decode code 782 = .ok (.iconst (0), 1) := by decide +kernel
theorem d_La_law_783 : decode code 783 = .ok (.ireturn, 1) := by decide +kernel
theorem d_La_law_784 : decode code 784 = .ok (.iload 5, 2) := by decide +kernel
theorem d_La_law_786 : decode code 786 = .ok (.ifCond .ne (15), 3) := by decide +kernel
theorem d_La_law_789 : decode code 789 = .ok (.aload_n 3, 1) := by decide +kernel
theorem d_La_law_790 : decode code 790 = .ok (.iconst (0), 1) := by decide +kernel
theorem d_La_law_791 : decode code 791 = .ok (.laload, 1) := by decide +kernel
theorem d_La_law_792 : decode code 792 = .ok (.iload 6, 2) := by decide +kernel
theorem d_La_law_794 : decode code 794 = .ok (.i2l, 1) := by decide +kernel
theorem d_La_law_795 : decode code 795 = .ok (.lcmp, 1) := by decide +kernel
theorem d_La_law_796 : decode code 796 = .ok (.ifCond .eq (5), 3) := by decide +kernel
theorem d_La_law_799 : decode code 799 = .ok (.iconst (0), 1) := by decide +kernel
theorem d_La_law_800 : decode code 800 = .ok (.ireturn, 1) := by decide +kernel
theorem d_La_law_801 : decode code 801 = .ok (.goto (391), 3) := by decide +kernel
theorem d_La_law_804 : decode code 804 = .ok (.aload_n 1, 1) := by decide +kernel
theorem d_La_law_805 : decode code 805 = .ok (.aload_n 0, 1) := by decide +kernel
theorem d_La_law_806 : decode code 806 = .ok (.iload 4, 2) := by decide +kernel
theorem d_La_law_808 : decode code 808 = .ok (.iconst (1), 1) := by decide +kernel
theorem d_La_law_809 : decode code 809 = .ok (.iadd, 1) := by decide +kernel
theorem d_La_law_810 : decode code 810 = .ok (.iaload, 1) := by decide +kernel
theorem d_La_law_811 : decode code 811 = .ok (.aload_n 0, 1) := by decide +kernel
theorem d_La_law_812 : decode code 812 = .ok (.iload 4, 2) := by decide +kernel
theorem d_La_law_814 : decode code 814 = .ok (.iconst (2), 1) := by decide +kernel
theorem d_La_law_815 : decode code 815 = .ok (.iadd, 1) := by decide +kernel
theorem d_La_law_816 : decode code 816 = .ok (.iaload, 1) := by decide +kernel
theorem d_La_law_817 : decode code 817 = .ok (.aload_n 3, 1) := by decide +kernel
theorem d_La_law_818 : decode code 818 = .ok (.invokestatic 120, 3) := by decide +kernel
theorem d_La_law_821 : decode code 821 = .ok (.istore 5, 2) := by decide +kernel
theorem d_La_law_823 : decode code 823 = .ok (.aload_n 2, 1) := by decide +kernel
theorem d_La_law_824 : decode code 824 = .ok (.aload_n 0, 1) := by decide +kernel
theorem d_La_law_825 : decode code 825 = .ok (.iload 4, 2) := by decide +kernel
theorem d_La_law_827 : decode code 827 = .ok (.iconst (1), 1) := by decide +kernel
theorem d_La_law_828 : decode code 828 = .ok (.iadd, 1) := by decide +kernel
theorem d_La_law_829 : decode code 829 = .ok (.iaload, 1) := by decide +kernel
theorem d_La_law_830 : decode code 830 = .ok (.aload_n 0, 1) := by decide +kernel
theorem d_La_law_831 : decode code 831 = .ok (.iload 4, 2) := by decide +kernel
theorem d_La_law_833 : decode code 833 = .ok (.iconst (2), 1) := by decide +kernel
theorem d_La_law_834 : decode code 834 = .ok (.iadd, 1) := by decide +kernel
theorem d_La_law_835 : decode code 835 = .ok (.iaload, 1) := by decide +kernel
theorem d_La_law_836 : decode code 836 = .ok (.invokevirtual 122, 3) := by decide +kernel
theorem d_La_law_839 : decode code 839 = .ok (.istore 6, 2) := by decide +kernel
theorem d_La_law_841 : decode code 841 = .ok (.aload_n 2, 1) := by decide +kernel
theorem d_La_law_842 : decode code 842 = .ok (.invokevirtual 76, 3) := by decide +kernel
theorem d_La_law_845 : decode code 845 = .ok (.iload 5, 2) := by decide +kernel
theorem d_La_law_847 : decode code 847 = .ok (.if_icmp .eq (5), 3) := by decide +kernel
theorem d_La_law_850 : decode code 850 = .ok (.iconst (0), 1) := by decide +kernel
theorem d_La_law_851 : decode code 851 = .ok (.ireturn, 1) := by decide +kernel
theorem d_La_law_852 : decode code 852 = .ok (.iload 5, 2) := by decide +kernel
theorem d_La_law_854 : decode code 854 = .ok (.ifCond .ne (15), 3) := by decide +kernel
theorem d_La_law_857 : decode code 857 = .ok (.aload_n 3, 1) := by decide +kernel
theorem d_La_law_858 : decode code 858 = .ok (.iconst (0), 1) := by decide +kernel
theorem d_La_law_859 : decode code 859 = .ok (.laload, 1) := by decide +kernel
theorem d_La_law_860 : decode code 860 = .ok (.iload 6, 2) := by decide +kernel
theorem d_La_law_862 : decode code 862 = .ok (.i2l, 1) := by decide +kernel
theorem d_La_law_863 : decode code 863 = .ok (.lcmp, 1) := by decide +kernel
theorem d_La_law_864 : decode code 864 = .ok (.ifCond .eq (5), 3) := by decide +kernel
theorem d_La_law_867 : decode code 867 = .ok (.iconst (0), 1) := by decide +kernel
theorem d_La_law_868 : decode code 868 = .ok (.ireturn, 1) := by decide +kernel
theorem d_La_law_869 : decode code 869 = .ok (.goto (323), 3) := by decide +kernel
theorem d_La_law_872 : decode code 872 = .ok (.aload_n 1, 1) := by decide +kernel
theorem d_La_law_873 : decode code 873 = .ok (.aload_n 0, 1) := by decide +kernel
theorem d_La_law_874 : decode code 874 = .ok (.iload 4, 2) := by decide +kernel
theorem d_La_law_876 : decode code 876 = .ok (.iconst (1), 1) := by decide +kernel
theorem d_La_law_877 : decode code 877 = .ok (.iadd, 1) := by decide +kernel
theorem d_La_law_878 : decode code 878 = .ok (.iaload, 1) := by decide +kernel
theorem d_La_law_879 : decode code 879 = .ok (.aload_n 0, 1) := by decide +kernel
theorem d_La_law_880 : decode code 880 = .ok (.iload 4, 2) := by decide +kernel
theorem d_La_law_882 : decode code 882 = .ok (.iconst (2), 1) := by decide +kernel
theorem d_La_law_883 : decode code 883 = .ok (.iadd, 1) := by decide +kernel
theorem d_La_law_884 : decode code 884 = .ok (.iaload, 1) := by decide +kernel
theorem d_La_law_885 : decode code 885 = .ok (.aload_n 0, 1) := by decide +kernel
theorem d_La_law_886 : decode code 886 = .ok (.iload 4, 2) := by decide +kernel
theorem d_La_law_888 : decode code 888 = .ok (.iconst (3), 1) := by decide +kernel
theorem d_La_law_889 : decode code 889 = .ok (.iadd, 1) := by decide +kernel
theorem d_La_law_890 : decode code 890 = .ok (.iaload, 1) := by decide +kernel
theorem d_La_law_891 : decode code 891 = .ok (.aload_n 3, 1) := by decide +kernel
theorem d_La_law_892 : decode code 892 = .ok (.invokestatic 123, 3) := by decide +kernel
theorem d_La_law_895 : decode code 895 = .ok (.istore 5, 2) := by decide +kernel
theorem d_La_law_897 : decode code 897 = .ok (.aload_n 2, 1) := by decide +kernel
theorem d_La_law_898 : decode code 898 = .ok (.aload_n 0, 1) := by decide +kernel
theorem d_La_law_899 : decode code 899 = .ok (.iload 4, 2) := by decide +kernel
theorem d_La_law_901 : decode code 901 = .ok (.iconst (1), 1) := by decide +kernel
theorem d_La_law_902 : decode code 902 = .ok (.iadd, 1) := by decide +kernel
theorem d_La_law_903 : decode code 903 = .ok (.iaload, 1) := by decide +kernel
theorem d_La_law_904 : decode code 904 = .ok (.aload_n 0, 1) := by decide +kernel
theorem d_La_law_905 : decode code 905 = .ok (.iload 4, 2) := by decide +kernel
theorem d_La_law_907 : decode code 907 = .ok (.iconst (2), 1) := by decide +kernel
theorem d_La_law_908 : decode code 908 = .ok (.iadd, 1) := by decide +kernel
theorem d_La_law_909 : decode code 909 = .ok (.iaload, 1) := by decide +kernel
theorem d_La_law_910 : decode code 910 = .ok (.aload_n 0, 1) := by decide +kernel
theorem d_La_law_911 : decode code 911 = .ok (.iload 4, 2) := by decide +kernel
theorem d_La_law_913 : decode code 913 = .ok (.iconst (3), 1) := by decide +kernel
theorem d_La_law_914 : decode code 914 = .ok (.iadd, 1) := by decide +kernel
theorem d_La_law_915 : decode code 915 = .ok (.iaload, 1) := by decide +kernel
theorem d_La_law_916 : decode code 916 = .ok (.invokevirtual 125, 3) := by decide +kernel
theorem d_La_law_919 : decode code 919 = .ok (.istore 6, 2) := by decide +kernel
theorem d_La_law_921 : decode code 921 = .ok (.aload_n 2, 1) := by decide +kernel
theorem d_La_law_922 : decode code 922 = .ok (.invokevirtual 76, 3) := by decide +kernel
theorem d_La_law_925 : decode code 925 = .ok (.iload 5, 2) := by decide +kernel
theorem d_La_law_927 : decode code 927 = .ok (.if_icmp .eq (5), 3) := by decide +kernel
theorem d_La_law_930 : decode code 930 = .ok (.iconst (0), 1) := by decide +kernel
theorem d_La_law_931 : decode code 931 = .ok (.ireturn, 1) := by decide +kernel
theorem d_La_law_932 : decode code 932 = .ok (.iload 5, 2) := by decide +kernel
theorem d_La_law_934 : decode code 934 = .ok (.ifCond .ne (15), 3) := by decide +kernel
theorem d_La_law_937 : decode code 937 = .ok (.aload_n 3, 1) := by decide +kernel
theorem d_La_law_938 : decode code 938 = .ok (.iconst (0), 1) := by decide +kernel
theorem d_La_law_939 : decode code 939 = .ok (.laload, 1) := by decide +kernel
theorem d_La_law_940 : decode code 940 = .ok (.iload 6, 2) := by decide +kernel
theorem d_La_law_942 : decode code 942 = .ok (.i2l, 1) := by decide +kernel
theorem d_La_law_943 : decode code 943 = .ok (.lcmp, 1) := by decide +kernel
theorem d_La_law_944 : decode code 944 = .ok (.ifCond .eq (5), 3) := by decide +kernel
theorem d_La_law_947 : decode code 947 = .ok (.iconst (0), 1) := by decide +kernel
theorem d_La_law_948 : decode code 948 = .ok (.ireturn, 1) := by decide +kernel
theorem d_La_law_949 : decode code 949 = .ok (.goto (243), 3) := by decide +kernel
theorem d_La_law_952 : decode code 952 = .ok (.aload_n 1, 1) := by decide +kernel
theorem d_La_law_953 : decode code 953 = .ok (.aload_n 0, 1) := by decide +kernel
theorem d_La_law_954 : decode code 954 = .ok (.iload 4, 2) := by decide +kernel
theorem d_La_law_956 : decode code 956 = .ok (.iconst (1), 1) := by decide +kernel
theorem d_La_law_957 : decode code 957 = .ok (.iadd, 1) := by decide +kernel
theorem d_La_law_958 : decode code 958 = .ok (.iaload, 1) := by decide +kernel
theorem d_La_law_959 : decode code 959 = .ok (.aload_n 0, 1) := by decide +kernel
theorem d_La_law_960 : decode code 960 = .ok (.iload 4, 2) := by decide +kernel
theorem d_La_law_962 : decode code 962 = .ok (.iconst (2), 1) := by decide +kernel
theorem d_La_law_963 : decode code 963 = .ok (.iadd, 1) := by decide +kernel
theorem d_La_law_964 : decode code 964 = .ok (.iaload, 1) := by decide +kernel
theorem d_La_law_965 : decode code 965 = .ok (.aload_n 0, 1) := by decide +kernel
theorem d_La_law_966 : decode code 966 = .ok (.iload 4, 2) := by decide +kernel
theorem d_La_law_968 : decode code 968 = .ok (.iconst (3), 1) := by decide +kernel
theorem d_La_law_969 : decode code 969 = .ok (.iadd, 1) := by decide +kernel
theorem d_La_law_970 : decode code 970 = .ok (.iaload, 1) := by decide +kernel
theorem d_La_law_971 : decode code 971 = .ok (.aload_n 3, 1) := by decide +kernel
theorem d_La_law_972 : decode code 972 = .ok (.invokestatic 126, 3) := by decide +kernel
theorem d_La_law_975 : decode code 975 = .ok (.istore 5, 2) := by decide +kernel
theorem d_La_law_977 : decode code 977 = .ok (.aload_n 2, 1) := by decide +kernel
theorem d_La_law_978 : decode code 978 = .ok (.aload_n 0, 1) := by decide +kernel
theorem d_La_law_979 : decode code 979 = .ok (.iload 4, 2) := by decide +kernel
theorem d_La_law_981 : decode code 981 = .ok (.iconst (1), 1) := by decide +kernel
theorem d_La_law_982 : decode code 982 = .ok (.iadd, 1) := by decide +kernel
theorem d_La_law_983 : decode code 983 = .ok (.iaload, 1) := by decide +kernel
theorem d_La_law_984 : decode code 984 = .ok (.aload_n 0, 1) := by decide +kernel
theorem d_La_law_985 : decode code 985 = .ok (.iload 4, 2) := by decide +kernel
theorem d_La_law_987 : decode code 987 = .ok (.iconst (2), 1) := by decide +kernel
theorem d_La_law_988 : decode code 988 = .ok (.iadd, 1) := by decide +kernel
theorem d_La_law_989 : decode code 989 = .ok (.iaload, 1) := by decide +kernel
theorem d_La_law_990 : decode code 990 = .ok (.aload_n 0, 1) := by decide +kernel
theorem d_La_law_991 : decode code 991 = .ok (.iload 4, 2) := by decide +kernel
theorem d_La_law_993 : decode code 993 = .ok (.iconst (3), 1) := by decide +kernel
theorem d_La_law_994 : decode code 994 = .ok (.iadd, 1) := by decide +kernel
theorem d_La_law_995 : decode code 995 = .ok (.iaload, 1) := by decide +kernel
theorem d_La_law_996 : decode code 996 = .ok (.invokevirtual 128, 3) := by decide +kernel
theorem d_La_law_999 : decode code 999 = .ok (.istore 6, 2) := by decide +kernel
theorem d_La_law_1001 : decode code 1001 = .ok (.aload_n 2, 1) := by decide +kernel
theorem d_La_law_1002 : decode code 1002 = .ok (.invokevirtual 76, 3) := by decide +kernel
theorem d_La_law_1005 : decode code 1005 = .ok (.iload 5, 2) := by decide +kernel
theorem d_La_law_1007 : decode code 1007 = .ok (.if_icmp .eq (5), 3) := by decide +kernel
theorem d_La_law_1010 : decode code 1010 = .ok (.iconst (0), 1) := by decide +kernel
theorem d_La_law_1011 : decode code 1011 = .ok (.ireturn, 1) := by decide +kernel
theorem d_La_law_1012 : decode code 1012 = .ok (.iload 5, 2) := by decide +kernel
theorem d_La_law_1014 : decode code 1014 = .ok (.ifCond .ne (15), 3) := by decide +kernel
theorem d_La_law_1017 : decode code 1017 = .ok (.aload_n 3, 1) := by decide +kernel
theorem d_La_law_1018 : decode code 1018 = .ok (.iconst (0), 1) := by decide +kernel
theorem d_La_law_1019 : decode code 1019 = .ok (.laload, 1) := by decide +kernel
theorem d_La_law_1020 : decode code 1020 = .ok (.iload 6, 2) := by decide +kernel
theorem d_La_law_1022 : decode code 1022 = .ok (.i2l, 1) := by decide +kernel
theorem d_La_law_1023 : decode code 1023 = .ok (.lcmp, 1) := by decide +kernel
theorem d_La_law_1024 : decode code 1024 = .ok (.ifCond .eq (5), 3) := by decide +kernel
theorem d_La_law_1027 : decode code 1027 = .ok (.iconst (0), 1) := by decide +kernel
theorem d_La_law_1028 : decode code 1028 = .ok (.ireturn, 1) := by decide +kernel
theorem d_La_law_1029 : decode code 1029 = .ok (.goto (163), 3) := by decide +kernel
theorem d_La_law_1032 : decode code 1032 = .ok (.aload_n 1, 1) := by decide +kernel
theorem d_La_law_1033 : decode code 1033 = .ok (.aload_n 0, 1) := by decide +kernel
theorem d_La_law_1034 : decode code 1034 = .ok (.iload 4, 2) := by decide +kernel
theorem d_La_law_1036 : decode code 1036 = .ok (.iconst (1), 1) := by decide +kernel
theorem d_La_law_1037 : decode code 1037 = .ok (.iadd, 1) := by decide +kernel
theorem d_La_law_1038 : decode code 1038 = .ok (.iaload, 1) := by decide +kernel
theorem d_La_law_1039 : decode code 1039 = .ok (.aload_n 0, 1) := by decide +kernel
theorem d_La_law_1040 : decode code 1040 = .ok (.iload 4, 2) := by decide +kernel
theorem d_La_law_1042 : decode code 1042 = .ok (.iconst (2), 1) := by decide +kernel
theorem d_La_law_1043 : decode code 1043 = .ok (.iadd, 1) := by decide +kernel
theorem d_La_law_1044 : decode code 1044 = .ok (.iaload, 1) := by decide +kernel
theorem d_La_law_1045 : decode code 1045 = .ok (.aload_n 3, 1) := by decide +kernel
theorem d_La_law_1046 : decode code 1046 = .ok (.invokestatic 129, 3) := by decide +kernel
theorem d_La_law_1049 : decode code 1049 = .ok (.istore 5, 2) := by decide +kernel
theorem d_La_law_1051 : decode code 1051 = .ok (.aload_n 2, 1) := by decide +kernel
theorem d_La_law_1052 : decode code 1052 = .ok (.aload_n 0, 1) := by decide +kernel
theorem d_La_law_1053 : decode code 1053 = .ok (.iload 4, 2) := by decide +kernel
theorem d_La_law_1055 : decode code 1055 = .ok (.iconst (1), 1) := by decide +kernel
theorem d_La_law_1056 : decode code 1056 = .ok (.iadd, 1) := by decide +kernel
theorem d_La_law_1057 : decode code 1057 = .ok (.iaload, 1) := by decide +kernel
theorem d_La_law_1058 : decode code 1058 = .ok (.aload_n 0, 1) := by decide +kernel
theorem d_La_law_1059 : decode code 1059 = .ok (.iload 4, 2) := by decide +kernel
theorem d_La_law_1061 : decode code 1061 = .ok (.iconst (2), 1) := by decide +kernel
theorem d_La_law_1062 : decode code 1062 = .ok (.iadd, 1) := by decide +kernel
theorem d_La_law_1063 : decode code 1063 = .ok (.iaload, 1) := by decide +kernel
theorem d_La_law_1064 : decode code 1064 = .ok (.invokevirtual 131, 3) := by decide +kernel
theorem d_La_law_1067 : decode code 1067 = .ok (.istore 6, 2) := by decide +kernel
theorem d_La_law_1069 : decode code 1069 = .ok (.aload_n 2, 1) := by decide +kernel
theorem d_La_law_1070 : decode code 1070 = .ok (.invokevirtual 76, 3) := by decide +kernel
theorem d_La_law_1073 : decode code 1073 = .ok (.iload 5, 2) := by decide +kernel
theorem d_La_law_1075 : decode code 1075 = .ok (.if_icmp .eq (5), 3) := by decide +kernel
theorem d_La_law_1078 : decode code 1078 = .ok (.iconst (0), 1) := by decide +kernel
theorem d_La_law_1079 : decode code 1079 = .ok (.ireturn, 1) := by decide +kernel
theorem d_La_law_1080 : decode code 1080 = .ok (.iload 5, 2) := by decide +kernel
theorem d_La_law_1082 : decode code 1082 = .ok (.ifCond .ne (15), 3) := by decide +kernel
theorem d_La_law_1085 : decode code 1085 = .ok (.aload_n 3, 1) := by decide +kernel
theorem d_La_law_1086 : decode code 1086 = .ok (.iconst (0), 1) := by decide +kernel
theorem d_La_law_1087 : decode code 1087 = .ok (.laload, 1) := by decide +kernel
theorem d_La_law_1088 : decode code 1088 = .ok (.iload 6, 2) := by decide +kernel
theorem d_La_law_1090 : decode code 1090 = .ok (.i2l, 1) := by decide +kernel
theorem d_La_law_1091 : decode code 1091 = .ok (.lcmp, 1) := by decide +kernel
theorem d_La_law_1092 : decode code 1092 = .ok (.ifCond .eq (5), 3) := by decide +kernel
theorem d_La_law_1095 : decode code 1095 = .ok (.iconst (0), 1) := by decide +kernel
theorem d_La_law_1096 : decode code 1096 = .ok (.ireturn, 1) := by decide +kernel
theorem d_La_law_1097 : decode code 1097 = .ok (.goto (95), 3) := by decide +kernel
theorem d_La_law_1100 : decode code 1100 = .ok (.aload_n 1, 1) := by decide +kernel
theorem d_La_law_1101 : decode code 1101 = .ok (.aload_n 0, 1) := by decide +kernel
theorem d_La_law_1102 : decode code 1102 = .ok (.iload 4, 2) := by decide +kernel
theorem d_La_law_1104 : decode code 1104 = .ok (.iconst (1), 1) := by decide +kernel
theorem d_La_law_1105 : decode code 1105 = .ok (.iadd, 1) := by decide +kernel
theorem d_La_law_1106 : decode code 1106 = .ok (.iaload, 1) := by decide +kernel
theorem d_La_law_1107 : decode code 1107 = .ok (.aload_n 3, 1) := by decide +kernel
theorem d_La_law_1108 : decode code 1108 = .ok (.invokestatic 132, 3) := by decide +kernel
theorem d_La_law_1111 : decode code 1111 = .ok (.istore 5, 2) := by decide +kernel
theorem d_La_law_1113 : decode code 1113 = .ok (.aload_n 2, 1) := by decide +kernel
theorem d_La_law_1114 : decode code 1114 = .ok (.aload_n 0, 1) := by decide +kernel
theorem d_La_law_1115 : decode code 1115 = .ok (.iload 4, 2) := by decide +kernel
theorem d_La_law_1117 : decode code 1117 = .ok (.iconst (1), 1) := by decide +kernel
theorem d_La_law_1118 : decode code 1118 = .ok (.iadd, 1) := by decide +kernel
theorem d_La_law_1119 : decode code 1119 = .ok (.iaload, 1) := by decide +kernel
theorem d_La_law_1120 : decode code 1120 = .ok (.invokevirtual 134, 3) := by decide +kernel
theorem d_La_law_1123 : decode code 1123 = .ok (.istore 6, 2) := by decide +kernel
theorem d_La_law_1125 : decode code 1125 = .ok (.aload_n 2, 1) := by decide +kernel
theorem d_La_law_1126 : decode code 1126 = .ok (.invokevirtual 76, 3) := by decide +kernel
theorem d_La_law_1129 : decode code 1129 = .ok (.iload 5, 2) := by decide +kernel
theorem d_La_law_1131 : decode code 1131 = .ok (.if_icmp .eq (5), 3) := by decide +kernel
theorem d_La_law_1134 : decode code 1134 = .ok (.iconst (0), 1) := by decide +kernel
theorem d_La_law_1135 : decode code 1135 = .ok (.ireturn, 1) := by decide +kernel
theorem d_La_law_1136 : decode code 1136 = .ok (.iload 5, 2) := by decide +kernel
theorem d_La_law_1138 : decode code 1138 = .ok (.ifCond .ne (15), 3) := by decide +kernel
theorem d_La_law_1141 : decode code 1141 = .ok (.aload_n 3, 1) := by decide +kernel
theorem d_La_law_1142 : decode code 1142 = .ok (.iconst (0), 1) := by decide +kernel
theorem d_La_law_1143 : decode code 1143 = .ok (.laload, 1) := by decide +kernel
theorem d_La_law_1144 : decode code 1144 = .ok (.iload 6, 2) := by decide +kernel
theorem d_La_law_1146 : decode code 1146 = .ok (.i2l, 1) := by decide +kernel
theorem d_La_law_1147 : decode code 1147 = .ok (.lcmp, 1) := by decide +kernel
theorem d_La_law_1148 : decode code 1148 = .ok (.ifCond .eq (5), 3) := by decide +kernel
theorem d_La_law_1151 : decode code 1151 = .ok (.iconst (0), 1) := by decide +kernel
theorem d_La_law_1152 : decode code 1152 = .ok (.ireturn, 1) := by decide +kernel
theorem d_La_law_1153 : decode code 1153 = .ok (.goto (39), 3) := by decide +kernel
theorem d_La_law_1156 : decode code 1156 = .ok (.aload_n 1, 1) := by decide +kernel
theorem d_La_law_1157 : decode code 1157 = .ok (.aload_n 0, 1) := by decide +kernel
theorem d_La_law_1158 : decode code 1158 = .ok (.iload 4, 2) := by decide +kernel
theorem d_La_law_1160 : decode code 1160 = .ok (.iconst (1), 1) := by decide +kernel
theorem d_La_law_1161 : decode code 1161 = .ok (.iadd, 1) := by decide +kernel
theorem d_La_law_1162 : decode code 1162 = .ok (.iaload, 1) := by decide +kernel
theorem d_La_law_1163 : decode code 1163 = .ok (.invokevirtual 135, 3) := by decide +kernel
theorem d_La_law_1166 : decode code 1166 = .ok (.aload_n 2, 1) := by decide +kernel
theorem d_La_law_1167 : decode code 1167 = .ok (.aload_n 0, 1) := by decide +kernel
theorem d_La_law_1168 : decode code 1168 = .ok (.iload 4, 2) := by decide +kernel
theorem d_La_law_1170 : decode code 1170 = .ok (.iconst (1), 1) := by decide +kernel
theorem d_La_law_1171 : decode code 1171 = .ok (.iadd, 1) := by decide +kernel
theorem d_La_law_1172 : decode code 1172 = .ok (.iaload, 1) := by decide +kernel
theorem d_La_law_1173 : decode code 1173 = .ok (.invokevirtual 138, 3) := by decide +kernel
theorem d_La_law_1176 : decode code 1176 = .ok (.if_icmp .eq (16), 3) := by decide +kernel
theorem d_La_law_1179 : decode code 1179 = .ok (.iconst (0), 1) := by decide +kernel
theorem d_La_law_1180 : decode code 1180 = .ok (.ireturn, 1) := by decide +kernel
theorem d_La_law_1181 : decode code 1181 = .ok (.aload_n 1, 1) := by decide +kernel
theorem d_La_law_1182 : decode code 1182 = .ok (.invokevirtual 139, 3) := by decide +kernel
theorem d_La_law_1185 : decode code 1185 = .ok (.aload_n 2, 1) := by decide +kernel
theorem d_La_law_1186 : decode code 1186 = .ok (.invokevirtual 142, 3) := by decide +kernel
theorem d_La_law_1189 : decode code 1189 = .ok (.goto (3), 3) := by decide +kernel
theorem d_La_law_1192 : decode code 1192 = .ok (.iinc 4 (8), 3) := by decide +kernel
theorem d_La_law_1195 : decode code 1195 = .ok (.goto (-1162), 3) := by decide +kernel
theorem d_La_law_1198 : decode code 1198 = .ok (.iconst (1), 1) := by decide +kernel
theorem d_La_law_1199 : decode code 1199 = .ok (.ireturn, 1) := by decide +kernel
