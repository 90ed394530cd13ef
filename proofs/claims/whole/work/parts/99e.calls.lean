/-! the law: its 29 calls -/
section LLC
variable {X : ux_X} {KC : ux_G} {ad : Nat → Nat} {b L : Nat} {ss : Nat → Int32} {i : Nat} {Nc Nm : ux_N} {Lc Lm : ux_L}
theorem dL_law_0 : decode cL_law 0 = .ok (.new 7, 3) := by decide +kernel
theorem dL_law_3 : decode cL_law 3 = .ok (.dup, 1) := by decide +kernel
theorem dL_law_4 : decode cL_law 4 = .ok (.invokespecial 9, 3) := by decide +kernel
theorem dL_law_7 : decode cL_law 7 = .ok (.astore_n 1, 1) := by decide +kernel
theorem dL_law_8 : decode cL_law 8 = .ok (.new 10, 3) := by decide +kernel
theorem dL_law_11 : decode cL_law 11 = .ok (.dup, 1) := by decide +kernel
theorem dL_law_12 : decode cL_law 12 = .ok (.invokespecial 12, 3) := by decide +kernel
theorem dL_law_15 : decode cL_law 15 = .ok (.astore_n 2, 1) := by decide +kernel
theorem dL_law_16 : decode cL_law 16 = .ok (.iconst 0, 1) := by decide +kernel
theorem dL_law_17 : decode cL_law 17 = .ok (.istore_n 3, 1) := by decide +kernel
theorem dL_law_18 : decode cL_law 18 = .ok (.iload_n 3, 1) := by decide +kernel
theorem dL_law_19 : decode cL_law 19 = .ok (.aload_n 0, 1) := by decide +kernel
theorem dL_law_20 : decode cL_law 20 = .ok (.arraylength, 1) := by decide +kernel
theorem dL_law_21 : decode cL_law 21 = .ok (.iconst 4, 1) := by decide +kernel
theorem dL_law_22 : decode cL_law 22 = .ok (.isub, 1) := by decide +kernel
theorem dL_law_23 : decode cL_law 23 = .ok (.if_icmp .gt 844, 3) := by decide +kernel
theorem dL_law_26 : decode cL_law 26 = .ok (.aload_n 0, 1) := by decide +kernel
theorem dL_law_27 : decode cL_law 27 = .ok (.iload_n 3, 1) := by decide +kernel
theorem dL_law_28 : decode cL_law 28 = .ok (.iaload, 1) := by decide +kernel
theorem dL_law_29 : decode cL_law 29 = .ok (.bipush 31, 2) := by decide +kernel
theorem dL_law_31 : decode cL_law 31 = .ok (.iand, 1) := by decide +kernel
theorem dL_law_32 : decode cL_law 32 = .ok (.tableswitch 829 0 28 #[132, 155, 168, 181, 194, 227, 260, 293, 326, 349, 372, 395, 408, 431, 454, 477, 500, 523, 546, 579, 612, 625, 638, 651, 674, 717, 750, 783, 806], 132) := by decide +kernel
theorem dL_law_164 : decode cL_law 164 = .ok (.aload_n 1, 1) := by decide +kernel
theorem dL_law_165 : decode cL_law 165 = .ok (.aload_n 0, 1) := by decide +kernel
theorem dL_law_166 : decode cL_law 166 = .ok (.iload_n 3, 1) := by decide +kernel
theorem dL_law_167 : decode cL_law 167 = .ok (.iconst 1, 1) := by decide +kernel
theorem dL_law_168 : decode cL_law 168 = .ok (.iadd, 1) := by decide +kernel
theorem dL_law_169 : decode cL_law 169 = .ok (.iaload, 1) := by decide +kernel
theorem dL_law_170 : decode cL_law 170 = .ok (.invokevirtual 13, 3) := by decide +kernel
theorem dL_law_173 : decode cL_law 173 = .ok (.aload_n 2, 1) := by decide +kernel
theorem dL_law_174 : decode cL_law 174 = .ok (.aload_n 0, 1) := by decide +kernel
theorem dL_law_175 : decode cL_law 175 = .ok (.iload_n 3, 1) := by decide +kernel
theorem dL_law_176 : decode cL_law 176 = .ok (.iconst 1, 1) := by decide +kernel
theorem dL_law_177 : decode cL_law 177 = .ok (.iadd, 1) := by decide +kernel
theorem dL_law_178 : decode cL_law 178 = .ok (.iaload, 1) := by decide +kernel
theorem dL_law_179 : decode cL_law 179 = .ok (.invokevirtual 17, 3) := by decide +kernel
theorem dL_law_182 : decode cL_law 182 = .ok (.if_icmp .eq 679, 3) := by decide +kernel
theorem dL_law_185 : decode cL_law 185 = .ok (.iconst 0, 1) := by decide +kernel
theorem dL_law_186 : decode cL_law 186 = .ok (.ireturn, 1) := by decide +kernel
theorem dL_law_187 : decode cL_law 187 = .ok (.aload_n 1, 1) := by decide +kernel
theorem dL_law_188 : decode cL_law 188 = .ok (.invokevirtual 18, 3) := by decide +kernel
theorem dL_law_191 : decode cL_law 191 = .ok (.aload_n 2, 1) := by decide +kernel
theorem dL_law_192 : decode cL_law 192 = .ok (.invokevirtual 22, 3) := by decide +kernel
theorem dL_law_195 : decode cL_law 195 = .ok (.if_icmp .eq 666, 3) := by decide +kernel
theorem dL_law_198 : decode cL_law 198 = .ok (.iconst 0, 1) := by decide +kernel
theorem dL_law_199 : decode cL_law 199 = .ok (.ireturn, 1) := by decide +kernel
theorem dL_law_200 : decode cL_law 200 = .ok (.aload_n 1, 1) := by decide +kernel
theorem dL_law_201 : decode cL_law 201 = .ok (.invokevirtual 23, 3) := by decide +kernel
theorem dL_law_204 : decode cL_law 204 = .ok (.aload_n 2, 1) := by decide +kernel
theorem dL_law_205 : decode cL_law 205 = .ok (.invokevirtual 26, 3) := by decide +kernel
theorem dL_law_208 : decode cL_law 208 = .ok (.if_icmp .eq 653, 3) := by decide +kernel
theorem dL_law_211 : decode cL_law 211 = .ok (.iconst 0, 1) := by decide +kernel
theorem dL_law_212 : decode cL_law 212 = .ok (.ireturn, 1) := by decide +kernel
theorem dL_law_213 : decode cL_law 213 = .ok (.aload_n 1, 1) := by decide +kernel
theorem dL_law_214 : decode cL_law 214 = .ok (.invokevirtual 27, 3) := by decide +kernel
theorem dL_law_217 : decode cL_law 217 = .ok (.aload_n 2, 1) := by decide +kernel
theorem dL_law_218 : decode cL_law 218 = .ok (.invokevirtual 30, 3) := by decide +kernel
theorem dL_law_221 : decode cL_law 221 = .ok (.if_icmp .eq 640, 3) := by decide +kernel
theorem dL_law_224 : decode cL_law 224 = .ok (.iconst 0, 1) := by decide +kernel
theorem dL_law_225 : decode cL_law 225 = .ok (.ireturn, 1) := by decide +kernel
theorem dL_law_226 : decode cL_law 226 = .ok (.aload_n 1, 1) := by decide +kernel
theorem dL_law_227 : decode cL_law 227 = .ok (.aload_n 0, 1) := by decide +kernel
theorem dL_law_228 : decode cL_law 228 = .ok (.iload_n 3, 1) := by decide +kernel
theorem dL_law_229 : decode cL_law 229 = .ok (.iconst 1, 1) := by decide +kernel
theorem dL_law_230 : decode cL_law 230 = .ok (.iadd, 1) := by decide +kernel
theorem dL_law_231 : decode cL_law 231 = .ok (.iaload, 1) := by decide +kernel
theorem dL_law_232 : decode cL_law 232 = .ok (.aload_n 0, 1) := by decide +kernel
theorem dL_law_233 : decode cL_law 233 = .ok (.iload_n 3, 1) := by decide +kernel
theorem dL_law_234 : decode cL_law 234 = .ok (.iconst 2, 1) := by decide +kernel
theorem dL_law_235 : decode cL_law 235 = .ok (.iadd, 1) := by decide +kernel
theorem dL_law_236 : decode cL_law 236 = .ok (.iaload, 1) := by decide +kernel
theorem dL_law_237 : decode cL_law 237 = .ok (.invokevirtual 31, 3) := by decide +kernel
theorem dL_law_240 : decode cL_law 240 = .ok (.aload_n 2, 1) := by decide +kernel
theorem dL_law_241 : decode cL_law 241 = .ok (.aload_n 0, 1) := by decide +kernel
theorem dL_law_242 : decode cL_law 242 = .ok (.iload_n 3, 1) := by decide +kernel
theorem dL_law_243 : decode cL_law 243 = .ok (.iconst 1, 1) := by decide +kernel
theorem dL_law_244 : decode cL_law 244 = .ok (.iadd, 1) := by decide +kernel
theorem dL_law_245 : decode cL_law 245 = .ok (.iaload, 1) := by decide +kernel
theorem dL_law_246 : decode cL_law 246 = .ok (.aload_n 0, 1) := by decide +kernel
theorem dL_law_247 : decode cL_law 247 = .ok (.iload_n 3, 1) := by decide +kernel
theorem dL_law_248 : decode cL_law 248 = .ok (.iconst 2, 1) := by decide +kernel
theorem dL_law_249 : decode cL_law 249 = .ok (.iadd, 1) := by decide +kernel
theorem dL_law_250 : decode cL_law 250 = .ok (.iaload, 1) := by decide +kernel
theorem dL_law_251 : decode cL_law 251 = .ok (.invokevirtual 35, 3) := by decide +kernel
theorem dL_law_254 : decode cL_law 254 = .ok (.if_icmp .eq 607, 3) := by decide +kernel
theorem dL_law_257 : decode cL_law 257 = .ok (.iconst 0, 1) := by decide +kernel
theorem dL_law_258 : decode cL_law 258 = .ok (.ireturn, 1) := by decide +kernel
theorem dL_law_259 : decode cL_law 259 = .ok (.aload_n 1, 1) := by decide +kernel
theorem dL_law_260 : decode cL_law 260 = .ok (.aload_n 0, 1) := by decide +kernel
theorem dL_law_261 : decode cL_law 261 = .ok (.iload_n 3, 1) := by decide +kernel
theorem dL_law_262 : decode cL_law 262 = .ok (.iconst 1, 1) := by decide +kernel
theorem dL_law_263 : decode cL_law 263 = .ok (.iadd, 1) := by decide +kernel
theorem dL_law_264 : decode cL_law 264 = .ok (.iaload, 1) := by decide +kernel
theorem dL_law_265 : decode cL_law 265 = .ok (.aload_n 0, 1) := by decide +kernel
theorem dL_law_266 : decode cL_law 266 = .ok (.iload_n 3, 1) := by decide +kernel
theorem dL_law_267 : decode cL_law 267 = .ok (.iconst 2, 1) := by decide +kernel
theorem dL_law_268 : decode cL_law 268 = .ok (.iadd, 1) := by decide +kernel
theorem dL_law_269 : decode cL_law 269 = .ok (.iaload, 1) := by decide +kernel
theorem dL_law_270 : decode cL_law 270 = .ok (.invokevirtual 36, 3) := by decide +kernel
theorem dL_law_273 : decode cL_law 273 = .ok (.aload_n 2, 1) := by decide +kernel
theorem dL_law_274 : decode cL_law 274 = .ok (.aload_n 0, 1) := by decide +kernel
theorem dL_law_275 : decode cL_law 275 = .ok (.iload_n 3, 1) := by decide +kernel
theorem dL_law_276 : decode cL_law 276 = .ok (.iconst 1, 1) := by decide +kernel
theorem dL_law_277 : decode cL_law 277 = .ok (.iadd, 1) := by decide +kernel
theorem dL_law_278 : decode cL_law 278 = .ok (.iaload, 1) := by decide +kernel
theorem dL_law_279 : decode cL_law 279 = .ok (.aload_n 0, 1) := by decide +kernel
theorem dL_law_280 : decode cL_law 280 = .ok (.iload_n 3, 1) := by decide +kernel
theorem dL_law_281 : decode cL_law 281 = .ok (.iconst 2, 1) := by decide +kernel
theorem dL_law_282 : decode cL_law 282 = .ok (.iadd, 1) := by decide +kernel
theorem dL_law_283 : decode cL_law 283 = .ok (.iaload, 1) := by decide +kernel
theorem dL_law_284 : decode cL_law 284 = .ok (.invokevirtual 39, 3) := by decide +kernel
theorem dL_law_287 : decode cL_law 287 = .ok (.if_icmp .eq 574, 3) := by decide +kernel
theorem dL_law_290 : decode cL_law 290 = .ok (.iconst 0, 1) := by decide +kernel
theorem dL_law_291 : decode cL_law 291 = .ok (.ireturn, 1) := by decide +kernel
theorem dL_law_292 : decode cL_law 292 = .ok (.aload_n 1, 1) := by decide +kernel
theorem dL_law_293 : decode cL_law 293 = .ok (.aload_n 0, 1) := by decide +kernel
theorem dL_law_294 : decode cL_law 294 = .ok (.iload_n 3, 1) := by decide +kernel
theorem dL_law_295 : decode cL_law 295 = .ok (.iconst 1, 1) := by decide +kernel
theorem dL_law_296 : decode cL_law 296 = .ok (.iadd, 1) := by decide +kernel
theorem dL_law_297 : decode cL_law 297 = .ok (.iaload, 1) := by decide +kernel
theorem dL_law_298 : decode cL_law 298 = .ok (.aload_n 0, 1) := by decide +kernel
theorem dL_law_299 : decode cL_law 299 = .ok (.iload_n 3, 1) := by decide +kernel
theorem dL_law_300 : decode cL_law 300 = .ok (.iconst 2, 1) := by decide +kernel
theorem dL_law_301 : decode cL_law 301 = .ok (.iadd, 1) := by decide +kernel
theorem dL_law_302 : decode cL_law 302 = .ok (.iaload, 1) := by decide +kernel
theorem dL_law_303 : decode cL_law 303 = .ok (.invokevirtual 40, 3) := by decide +kernel
theorem dL_law_306 : decode cL_law 306 = .ok (.aload_n 2, 1) := by decide +kernel
theorem dL_law_307 : decode cL_law 307 = .ok (.aload_n 0, 1) := by decide +kernel
theorem dL_law_308 : decode cL_law 308 = .ok (.iload_n 3, 1) := by decide +kernel
theorem dL_law_309 : decode cL_law 309 = .ok (.iconst 1, 1) := by decide +kernel
theorem dL_law_310 : decode cL_law 310 = .ok (.iadd, 1) := by decide +kernel
theorem dL_law_311 : decode cL_law 311 = .ok (.iaload, 1) := by decide +kernel
theorem dL_law_312 : decode cL_law 312 = .ok (.aload_n 0, 1) := by decide +kernel
theorem dL_law_313 : decode cL_law 313 = .ok (.iload_n 3, 1) := by decide +kernel
theorem dL_law_314 : decode cL_law 314 = .ok (.iconst 2, 1) := by decide +kernel
theorem dL_law_315 : decode cL_law 315 = .ok (.iadd, 1) := by decide +kernel
theorem dL_law_316 : decode cL_law 316 = .ok (.iaload, 1) := by decide +kernel
theorem dL_law_317 : decode cL_law 317 = .ok (.invokevirtual 43, 3) := by decide +kernel
theorem dL_law_320 : decode cL_law 320 = .ok (.if_icmp .eq 541, 3) := by decide +kernel
theorem dL_law_323 : decode cL_law 323 = .ok (.iconst 0, 1) := by decide +kernel
theorem dL_law_324 : decode cL_law 324 = .ok (.ireturn, 1) := by decide +kernel
theorem dL_law_325 : decode cL_law 325 = .ok (.aload_n 1, 1) := by decide +kernel
theorem dL_law_326 : decode cL_law 326 = .ok (.aload_n 0, 1) := by decide +kernel
theorem dL_law_327 : decode cL_law 327 = .ok (.iload_n 3, 1) := by decide +kernel
theorem dL_law_328 : decode cL_law 328 = .ok (.iconst 1, 1) := by decide +kernel
theorem dL_law_329 : decode cL_law 329 = .ok (.iadd, 1) := by decide +kernel
theorem dL_law_330 : decode cL_law 330 = .ok (.iaload, 1) := by decide +kernel
theorem dL_law_331 : decode cL_law 331 = .ok (.aload_n 0, 1) := by decide +kernel
theorem dL_law_332 : decode cL_law 332 = .ok (.iload_n 3, 1) := by decide +kernel
theorem dL_law_333 : decode cL_law 333 = .ok (.iconst 2, 1) := by decide +kernel
theorem dL_law_334 : decode cL_law 334 = .ok (.iadd, 1) := by decide +kernel
theorem dL_law_335 : decode cL_law 335 = .ok (.iaload, 1) := by decide +kernel
theorem dL_law_336 : decode cL_law 336 = .ok (.invokevirtual 44, 3) := by decide +kernel
theorem dL_law_339 : decode cL_law 339 = .ok (.aload_n 2, 1) := by decide +kernel
theorem dL_law_340 : decode cL_law 340 = .ok (.aload_n 0, 1) := by decide +kernel
theorem dL_law_341 : decode cL_law 341 = .ok (.iload_n 3, 1) := by decide +kernel
theorem dL_law_342 : decode cL_law 342 = .ok (.iconst 1, 1) := by decide +kernel
theorem dL_law_343 : decode cL_law 343 = .ok (.iadd, 1) := by decide +kernel
theorem dL_law_344 : decode cL_law 344 = .ok (.iaload, 1) := by decide +kernel
theorem dL_law_345 : decode cL_law 345 = .ok (.aload_n 0, 1) := by decide +kernel
theorem dL_law_346 : decode cL_law 346 = .ok (.iload_n 3, 1) := by decide +kernel
theorem dL_law_347 : decode cL_law 347 = .ok (.iconst 2, 1) := by decide +kernel
theorem dL_law_348 : decode cL_law 348 = .ok (.iadd, 1) := by decide +kernel
theorem dL_law_349 : decode cL_law 349 = .ok (.iaload, 1) := by decide +kernel
theorem dL_law_350 : decode cL_law 350 = .ok (.invokevirtual 47, 3) := by decide +kernel
theorem dL_law_353 : decode cL_law 353 = .ok (.if_icmp .eq 508, 3) := by decide +kernel
theorem dL_law_356 : decode cL_law 356 = .ok (.iconst 0, 1) := by decide +kernel
theorem dL_law_357 : decode cL_law 357 = .ok (.ireturn, 1) := by decide +kernel
theorem dL_law_358 : decode cL_law 358 = .ok (.aload_n 1, 1) := by decide +kernel
theorem dL_law_359 : decode cL_law 359 = .ok (.aload_n 0, 1) := by decide +kernel
theorem dL_law_360 : decode cL_law 360 = .ok (.iload_n 3, 1) := by decide +kernel
theorem dL_law_361 : decode cL_law 361 = .ok (.iconst 1, 1) := by decide +kernel
theorem dL_law_362 : decode cL_law 362 = .ok (.iadd, 1) := by decide +kernel
theorem dL_law_363 : decode cL_law 363 = .ok (.iaload, 1) := by decide +kernel
theorem dL_law_364 : decode cL_law 364 = .ok (.invokevirtual 48, 3) := by decide +kernel
theorem dL_law_367 : decode cL_law 367 = .ok (.aload_n 2, 1) := by decide +kernel
theorem dL_law_368 : decode cL_law 368 = .ok (.aload_n 0, 1) := by decide +kernel
theorem dL_law_369 : decode cL_law 369 = .ok (.iload_n 3, 1) := by decide +kernel
theorem dL_law_370 : decode cL_law 370 = .ok (.iconst 1, 1) := by decide +kernel
theorem dL_law_371 : decode cL_law 371 = .ok (.iadd, 1) := by decide +kernel
theorem dL_law_372 : decode cL_law 372 = .ok (.iaload, 1) := by decide +kernel
theorem dL_law_373 : decode cL_law 373 = .ok (.invokevirtual 51, 3) := by decide +kernel
theorem dL_law_376 : decode cL_law 376 = .ok (.if_icmp .eq 485, 3) := by decide +kernel
theorem dL_law_379 : decode cL_law 379 = .ok (.iconst 0, 1) := by decide +kernel
theorem dL_law_380 : decode cL_law 380 = .ok (.ireturn, 1) := by decide +kernel
theorem dL_law_381 : decode cL_law 381 = .ok (.aload_n 1, 1) := by decide +kernel
theorem dL_law_382 : decode cL_law 382 = .ok (.aload_n 0, 1) := by decide +kernel
theorem dL_law_383 : decode cL_law 383 = .ok (.iload_n 3, 1) := by decide +kernel
theorem dL_law_384 : decode cL_law 384 = .ok (.iconst 1, 1) := by decide +kernel
theorem dL_law_385 : decode cL_law 385 = .ok (.iadd, 1) := by decide +kernel
theorem dL_law_386 : decode cL_law 386 = .ok (.iaload, 1) := by decide +kernel
theorem dL_law_387 : decode cL_law 387 = .ok (.invokevirtual 52, 3) := by decide +kernel
theorem dL_law_390 : decode cL_law 390 = .ok (.aload_n 2, 1) := by decide +kernel
theorem dL_law_391 : decode cL_law 391 = .ok (.aload_n 0, 1) := by decide +kernel
theorem dL_law_392 : decode cL_law 392 = .ok (.iload_n 3, 1) := by decide +kernel
theorem dL_law_393 : decode cL_law 393 = .ok (.iconst 1, 1) := by decide +kernel
theorem dL_law_394 : decode cL_law 394 = .ok (.iadd, 1) := by decide +kernel
theorem dL_law_395 : decode cL_law 395 = .ok (.iaload, 1) := by decide +kernel
theorem dL_law_396 : decode cL_law 396 = .ok (.invokevirtual 55, 3) := by decide +kernel
theorem dL_law_399 : decode cL_law 399 = .ok (.if_icmp .eq 462, 3) := by decide +kernel
theorem dL_law_402 : decode cL_law 402 = .ok (.iconst 0, 1) := by decide +kernel
theorem dL_law_403 : decode cL_law 403 = .ok (.ireturn, 1) := by decide +kernel
theorem dL_law_404 : decode cL_law 404 = .ok (.aload_n 1, 1) := by decide +kernel
theorem dL_law_405 : decode cL_law 405 = .ok (.aload_n 0, 1) := by decide +kernel
theorem dL_law_406 : decode cL_law 406 = .ok (.iload_n 3, 1) := by decide +kernel
theorem dL_law_407 : decode cL_law 407 = .ok (.iconst 1, 1) := by decide +kernel
theorem dL_law_408 : decode cL_law 408 = .ok (.iadd, 1) := by decide +kernel
theorem dL_law_409 : decode cL_law 409 = .ok (.iaload, 1) := by decide +kernel
theorem dL_law_410 : decode cL_law 410 = .ok (.invokevirtual 56, 3) := by decide +kernel
theorem dL_law_413 : decode cL_law 413 = .ok (.aload_n 2, 1) := by decide +kernel
theorem dL_law_414 : decode cL_law 414 = .ok (.aload_n 0, 1) := by decide +kernel
theorem dL_law_415 : decode cL_law 415 = .ok (.iload_n 3, 1) := by decide +kernel
theorem dL_law_416 : decode cL_law 416 = .ok (.iconst 1, 1) := by decide +kernel
theorem dL_law_417 : decode cL_law 417 = .ok (.iadd, 1) := by decide +kernel
theorem dL_law_418 : decode cL_law 418 = .ok (.iaload, 1) := by decide +kernel
theorem dL_law_419 : decode cL_law 419 = .ok (.invokevirtual 59, 3) := by decide +kernel
theorem dL_law_422 : decode cL_law 422 = .ok (.if_icmp .eq 439, 3) := by decide +kernel
theorem dL_law_425 : decode cL_law 425 = .ok (.iconst 0, 1) := by decide +kernel
theorem dL_law_426 : decode cL_law 426 = .ok (.ireturn, 1) := by decide +kernel
theorem dL_law_427 : decode cL_law 427 = .ok (.aload_n 1, 1) := by decide +kernel
theorem dL_law_428 : decode cL_law 428 = .ok (.invokevirtual 60, 3) := by decide +kernel
theorem dL_law_431 : decode cL_law 431 = .ok (.aload_n 2, 1) := by decide +kernel
theorem dL_law_432 : decode cL_law 432 = .ok (.invokevirtual 63, 3) := by decide +kernel
theorem dL_law_435 : decode cL_law 435 = .ok (.if_icmp .eq 426, 3) := by decide +kernel
theorem dL_law_438 : decode cL_law 438 = .ok (.iconst 0, 1) := by decide +kernel
theorem dL_law_439 : decode cL_law 439 = .ok (.ireturn, 1) := by decide +kernel
theorem dL_law_440 : decode cL_law 440 = .ok (.aload_n 1, 1) := by decide +kernel
theorem dL_law_441 : decode cL_law 441 = .ok (.aload_n 0, 1) := by decide +kernel
theorem dL_law_442 : decode cL_law 442 = .ok (.iload_n 3, 1) := by decide +kernel
theorem dL_law_443 : decode cL_law 443 = .ok (.iconst 1, 1) := by decide +kernel
theorem dL_law_444 : decode cL_law 444 = .ok (.iadd, 1) := by decide +kernel
theorem dL_law_445 : decode cL_law 445 = .ok (.iaload, 1) := by decide +kernel
theorem dL_law_446 : decode cL_law 446 = .ok (.invokevirtual 64, 3) := by decide +kernel
theorem dL_law_449 : decode cL_law 449 = .ok (.aload_n 2, 1) := by decide +kernel
theorem dL_law_450 : decode cL_law 450 = .ok (.aload_n 0, 1) := by decide +kernel
theorem dL_law_451 : decode cL_law 451 = .ok (.iload_n 3, 1) := by decide +kernel
theorem dL_law_452 : decode cL_law 452 = .ok (.iconst 1, 1) := by decide +kernel
theorem dL_law_453 : decode cL_law 453 = .ok (.iadd, 1) := by decide +kernel
theorem dL_law_454 : decode cL_law 454 = .ok (.iaload, 1) := by decide +kernel
theorem dL_law_455 : decode cL_law 455 = .ok (.invokevirtual 67, 3) := by decide +kernel
theorem dL_law_458 : decode cL_law 458 = .ok (.if_icmp .eq 403, 3) := by decide +kernel
theorem dL_law_461 : decode cL_law 461 = .ok (.iconst 0, 1) := by decide +kernel
theorem dL_law_462 : decode cL_law 462 = .ok (.ireturn, 1) := by decide +kernel
theorem dL_law_463 : decode cL_law 463 = .ok (.aload_n 1, 1) := by decide +kernel
theorem dL_law_464 : decode cL_law 464 = .ok (.aload_n 0, 1) := by decide +kernel
theorem dL_law_465 : decode cL_law 465 = .ok (.iload_n 3, 1) := by decide +kernel
theorem dL_law_466 : decode cL_law 466 = .ok (.iconst 1, 1) := by decide +kernel
theorem dL_law_467 : decode cL_law 467 = .ok (.iadd, 1) := by decide +kernel
theorem dL_law_468 : decode cL_law 468 = .ok (.iaload, 1) := by decide +kernel
theorem dL_law_469 : decode cL_law 469 = .ok (.invokevirtual 68, 3) := by decide +kernel
theorem dL_law_472 : decode cL_law 472 = .ok (.aload_n 2, 1) := by decide +kernel
theorem dL_law_473 : decode cL_law 473 = .ok (.aload_n 0, 1) := by decide +kernel
theorem dL_law_474 : decode cL_law 474 = .ok (.iload_n 3, 1) := by decide +kernel
theorem dL_law_475 : decode cL_law 475 = .ok (.iconst 1, 1) := by decide +kernel
theorem dL_law_476 : decode cL_law 476 = .ok (.iadd, 1) := by decide +kernel
theorem dL_law_477 : decode cL_law 477 = .ok (.iaload, 1) := by decide +kernel
theorem dL_law_478 : decode cL_law 478 = .ok (.invokevirtual 71, 3) := by decide +kernel
theorem dL_law_481 : decode cL_law 481 = .ok (.if_icmp .eq 380, 3) := by decide +kernel
theorem dL_law_484 : decode cL_law 484 = .ok (.iconst 0, 1) := by decide +kernel
theorem dL_law_485 : decode cL_law 485 = .ok (.ireturn, 1) := by decide +kernel
theorem dL_law_486 : decode cL_law 486 = .ok (.aload_n 1, 1) := by decide +kernel
theorem dL_law_487 : decode cL_law 487 = .ok (.aload_n 0, 1) := by decide +kernel
theorem dL_law_488 : decode cL_law 488 = .ok (.iload_n 3, 1) := by decide +kernel
theorem dL_law_489 : decode cL_law 489 = .ok (.iconst 1, 1) := by decide +kernel
theorem dL_law_490 : decode cL_law 490 = .ok (.iadd, 1) := by decide +kernel
theorem dL_law_491 : decode cL_law 491 = .ok (.iaload, 1) := by decide +kernel
theorem dL_law_492 : decode cL_law 492 = .ok (.invokevirtual 72, 3) := by decide +kernel
theorem dL_law_495 : decode cL_law 495 = .ok (.aload_n 2, 1) := by decide +kernel
theorem dL_law_496 : decode cL_law 496 = .ok (.aload_n 0, 1) := by decide +kernel
theorem dL_law_497 : decode cL_law 497 = .ok (.iload_n 3, 1) := by decide +kernel
theorem dL_law_498 : decode cL_law 498 = .ok (.iconst 1, 1) := by decide +kernel
theorem dL_law_499 : decode cL_law 499 = .ok (.iadd, 1) := by decide +kernel
theorem dL_law_500 : decode cL_law 500 = .ok (.iaload, 1) := by decide +kernel
theorem dL_law_501 : decode cL_law 501 = .ok (.invokevirtual 75, 3) := by decide +kernel
theorem dL_law_504 : decode cL_law 504 = .ok (.if_icmp .eq 357, 3) := by decide +kernel
theorem dL_law_507 : decode cL_law 507 = .ok (.iconst 0, 1) := by decide +kernel
theorem dL_law_508 : decode cL_law 508 = .ok (.ireturn, 1) := by decide +kernel
theorem dL_law_509 : decode cL_law 509 = .ok (.aload_n 1, 1) := by decide +kernel
theorem dL_law_510 : decode cL_law 510 = .ok (.aload_n 0, 1) := by decide +kernel
theorem dL_law_511 : decode cL_law 511 = .ok (.iload_n 3, 1) := by decide +kernel
theorem dL_law_512 : decode cL_law 512 = .ok (.iconst 1, 1) := by decide +kernel
theorem dL_law_513 : decode cL_law 513 = .ok (.iadd, 1) := by decide +kernel
theorem dL_law_514 : decode cL_law 514 = .ok (.iaload, 1) := by decide +kernel
theorem dL_law_515 : decode cL_law 515 = .ok (.invokevirtual 76, 3) := by decide +kernel
theorem dL_law_518 : decode cL_law 518 = .ok (.aload_n 2, 1) := by decide +kernel
theorem dL_law_519 : decode cL_law 519 = .ok (.aload_n 0, 1) := by decide +kernel
theorem dL_law_520 : decode cL_law 520 = .ok (.iload_n 3, 1) := by decide +kernel
theorem dL_law_521 : decode cL_law 521 = .ok (.iconst 1, 1) := by decide +kernel
theorem dL_law_522 : decode cL_law 522 = .ok (.iadd, 1) := by decide +kernel
theorem dL_law_523 : decode cL_law 523 = .ok (.iaload, 1) := by decide +kernel
theorem dL_law_524 : decode cL_law 524 = .ok (.invokevirtual 79, 3) := by decide +kernel
theorem dL_law_527 : decode cL_law 527 = .ok (.if_icmp .eq 334, 3) := by decide +kernel
theorem dL_law_530 : decode cL_law 530 = .ok (.iconst 0, 1) := by decide +kernel
theorem dL_law_531 : decode cL_law 531 = .ok (.ireturn, 1) := by decide +kernel
theorem dL_law_532 : decode cL_law 532 = .ok (.aload_n 1, 1) := by decide +kernel
theorem dL_law_533 : decode cL_law 533 = .ok (.aload_n 0, 1) := by decide +kernel
theorem dL_law_534 : decode cL_law 534 = .ok (.iload_n 3, 1) := by decide +kernel
theorem dL_law_535 : decode cL_law 535 = .ok (.iconst 1, 1) := by decide +kernel
theorem dL_law_536 : decode cL_law 536 = .ok (.iadd, 1) := by decide +kernel
theorem dL_law_537 : decode cL_law 537 = .ok (.iaload, 1) := by decide +kernel
theorem dL_law_538 : decode cL_law 538 = .ok (.invokevirtual 80, 3) := by decide +kernel
theorem dL_law_541 : decode cL_law 541 = .ok (.aload_n 2, 1) := by decide +kernel
theorem dL_law_542 : decode cL_law 542 = .ok (.aload_n 0, 1) := by decide +kernel
theorem dL_law_543 : decode cL_law 543 = .ok (.iload_n 3, 1) := by decide +kernel
theorem dL_law_544 : decode cL_law 544 = .ok (.iconst 1, 1) := by decide +kernel
theorem dL_law_545 : decode cL_law 545 = .ok (.iadd, 1) := by decide +kernel
theorem dL_law_546 : decode cL_law 546 = .ok (.iaload, 1) := by decide +kernel
theorem dL_law_547 : decode cL_law 547 = .ok (.invokevirtual 83, 3) := by decide +kernel
theorem dL_law_550 : decode cL_law 550 = .ok (.if_icmp .eq 311, 3) := by decide +kernel
theorem dL_law_553 : decode cL_law 553 = .ok (.iconst 0, 1) := by decide +kernel
theorem dL_law_554 : decode cL_law 554 = .ok (.ireturn, 1) := by decide +kernel
theorem dL_law_555 : decode cL_law 555 = .ok (.aload_n 1, 1) := by decide +kernel
theorem dL_law_556 : decode cL_law 556 = .ok (.aload_n 0, 1) := by decide +kernel
theorem dL_law_557 : decode cL_law 557 = .ok (.iload_n 3, 1) := by decide +kernel
theorem dL_law_558 : decode cL_law 558 = .ok (.iconst 1, 1) := by decide +kernel
theorem dL_law_559 : decode cL_law 559 = .ok (.iadd, 1) := by decide +kernel
theorem dL_law_560 : decode cL_law 560 = .ok (.iaload, 1) := by decide +kernel
theorem dL_law_561 : decode cL_law 561 = .ok (.invokevirtual 84, 3) := by decide +kernel
theorem dL_law_564 : decode cL_law 564 = .ok (.aload_n 2, 1) := by decide +kernel
theorem dL_law_565 : decode cL_law 565 = .ok (.aload_n 0, 1) := by decide +kernel
theorem dL_law_566 : decode cL_law 566 = .ok (.iload_n 3, 1) := by decide +kernel
theorem dL_law_567 : decode cL_law 567 = .ok (.iconst 1, 1) := by decide +kernel
theorem dL_law_568 : decode cL_law 568 = .ok (.iadd, 1) := by decide +kernel
theorem dL_law_569 : decode cL_law 569 = .ok (.iaload, 1) := by decide +kernel
theorem dL_law_570 : decode cL_law 570 = .ok (.invokevirtual 87, 3) := by decide +kernel
theorem dL_law_573 : decode cL_law 573 = .ok (.if_icmp .eq 288, 3) := by decide +kernel
theorem dL_law_576 : decode cL_law 576 = .ok (.iconst 0, 1) := by decide +kernel
theorem dL_law_577 : decode cL_law 577 = .ok (.ireturn, 1) := by decide +kernel
theorem dL_law_578 : decode cL_law 578 = .ok (.aload_n 1, 1) := by decide +kernel
theorem dL_law_579 : decode cL_law 579 = .ok (.aload_n 0, 1) := by decide +kernel
theorem dL_law_580 : decode cL_law 580 = .ok (.iload_n 3, 1) := by decide +kernel
theorem dL_law_581 : decode cL_law 581 = .ok (.iconst 1, 1) := by decide +kernel
theorem dL_law_582 : decode cL_law 582 = .ok (.iadd, 1) := by decide +kernel
theorem dL_law_583 : decode cL_law 583 = .ok (.iaload, 1) := by decide +kernel
theorem dL_law_584 : decode cL_law 584 = .ok (.aload_n 0, 1) := by decide +kernel
theorem dL_law_585 : decode cL_law 585 = .ok (.iload_n 3, 1) := by decide +kernel
theorem dL_law_586 : decode cL_law 586 = .ok (.iconst 2, 1) := by decide +kernel
theorem dL_law_587 : decode cL_law 587 = .ok (.iadd, 1) := by decide +kernel
theorem dL_law_588 : decode cL_law 588 = .ok (.iaload, 1) := by decide +kernel
theorem dL_law_589 : decode cL_law 589 = .ok (.invokevirtual 88, 3) := by decide +kernel
theorem dL_law_592 : decode cL_law 592 = .ok (.aload_n 2, 1) := by decide +kernel
theorem dL_law_593 : decode cL_law 593 = .ok (.aload_n 0, 1) := by decide +kernel
theorem dL_law_594 : decode cL_law 594 = .ok (.iload_n 3, 1) := by decide +kernel
theorem dL_law_595 : decode cL_law 595 = .ok (.iconst 1, 1) := by decide +kernel
theorem dL_law_596 : decode cL_law 596 = .ok (.iadd, 1) := by decide +kernel
theorem dL_law_597 : decode cL_law 597 = .ok (.iaload, 1) := by decide +kernel
theorem dL_law_598 : decode cL_law 598 = .ok (.aload_n 0, 1) := by decide +kernel
theorem dL_law_599 : decode cL_law 599 = .ok (.iload_n 3, 1) := by decide +kernel
theorem dL_law_600 : decode cL_law 600 = .ok (.iconst 2, 1) := by decide +kernel
theorem dL_law_601 : decode cL_law 601 = .ok (.iadd, 1) := by decide +kernel
theorem dL_law_602 : decode cL_law 602 = .ok (.iaload, 1) := by decide +kernel
theorem dL_law_603 : decode cL_law 603 = .ok (.invokevirtual 91, 3) := by decide +kernel
theorem dL_law_606 : decode cL_law 606 = .ok (.if_icmp .eq 255, 3) := by decide +kernel
theorem dL_law_609 : decode cL_law 609 = .ok (.iconst 0, 1) := by decide +kernel
theorem dL_law_610 : decode cL_law 610 = .ok (.ireturn, 1) := by decide +kernel
theorem dL_law_611 : decode cL_law 611 = .ok (.aload_n 1, 1) := by decide +kernel
theorem dL_law_612 : decode cL_law 612 = .ok (.aload_n 0, 1) := by decide +kernel
theorem dL_law_613 : decode cL_law 613 = .ok (.iload_n 3, 1) := by decide +kernel
theorem dL_law_614 : decode cL_law 614 = .ok (.iconst 1, 1) := by decide +kernel
theorem dL_law_615 : decode cL_law 615 = .ok (.iadd, 1) := by decide +kernel
theorem dL_law_616 : decode cL_law 616 = .ok (.iaload, 1) := by decide +kernel
theorem dL_law_617 : decode cL_law 617 = .ok (.aload_n 0, 1) := by decide +kernel
theorem dL_law_618 : decode cL_law 618 = .ok (.iload_n 3, 1) := by decide +kernel
theorem dL_law_619 : decode cL_law 619 = .ok (.iconst 2, 1) := by decide +kernel
theorem dL_law_620 : decode cL_law 620 = .ok (.iadd, 1) := by decide +kernel
theorem dL_law_621 : decode cL_law 621 = .ok (.iaload, 1) := by decide +kernel
theorem dL_law_622 : decode cL_law 622 = .ok (.invokevirtual 92, 3) := by decide +kernel
theorem dL_law_625 : decode cL_law 625 = .ok (.aload_n 2, 1) := by decide +kernel
theorem dL_law_626 : decode cL_law 626 = .ok (.aload_n 0, 1) := by decide +kernel
theorem dL_law_627 : decode cL_law 627 = .ok (.iload_n 3, 1) := by decide +kernel
theorem dL_law_628 : decode cL_law 628 = .ok (.iconst 1, 1) := by decide +kernel
theorem dL_law_629 : decode cL_law 629 = .ok (.iadd, 1) := by decide +kernel
theorem dL_law_630 : decode cL_law 630 = .ok (.iaload, 1) := by decide +kernel
theorem dL_law_631 : decode cL_law 631 = .ok (.aload_n 0, 1) := by decide +kernel
theorem dL_law_632 : decode cL_law 632 = .ok (.iload_n 3, 1) := by decide +kernel
theorem dL_law_633 : decode cL_law 633 = .ok (.iconst 2, 1) := by decide +kernel
theorem dL_law_634 : decode cL_law 634 = .ok (.iadd, 1) := by decide +kernel
theorem dL_law_635 : decode cL_law 635 = .ok (.iaload, 1) := by decide +kernel
theorem dL_law_636 : decode cL_law 636 = .ok (.invokevirtual 95, 3) := by decide +kernel
theorem dL_law_639 : decode cL_law 639 = .ok (.if_icmp .eq 222, 3) := by decide +kernel
theorem dL_law_642 : decode cL_law 642 = .ok (.iconst 0, 1) := by decide +kernel
theorem dL_law_643 : decode cL_law 643 = .ok (.ireturn, 1) := by decide +kernel
theorem dL_law_644 : decode cL_law 644 = .ok (.aload_n 1, 1) := by decide +kernel
theorem dL_law_645 : decode cL_law 645 = .ok (.invokevirtual 96, 3) := by decide +kernel
theorem dL_law_648 : decode cL_law 648 = .ok (.aload_n 2, 1) := by decide +kernel
theorem dL_law_649 : decode cL_law 649 = .ok (.invokevirtual 99, 3) := by decide +kernel
theorem dL_law_652 : decode cL_law 652 = .ok (.if_icmp .eq 209, 3) := by decide +kernel
theorem dL_law_655 : decode cL_law 655 = .ok (.iconst 0, 1) := by decide +kernel
theorem dL_law_656 : decode cL_law 656 = .ok (.ireturn, 1) := by decide +kernel
theorem dL_law_657 : decode cL_law 657 = .ok (.aload_n 1, 1) := by decide +kernel
theorem dL_law_658 : decode cL_law 658 = .ok (.invokevirtual 100, 3) := by decide +kernel
theorem dL_law_661 : decode cL_law 661 = .ok (.aload_n 2, 1) := by decide +kernel
theorem dL_law_662 : decode cL_law 662 = .ok (.invokevirtual 103, 3) := by decide +kernel
theorem dL_law_665 : decode cL_law 665 = .ok (.if_icmp .eq 196, 3) := by decide +kernel
theorem dL_law_668 : decode cL_law 668 = .ok (.iconst 0, 1) := by decide +kernel
theorem dL_law_669 : decode cL_law 669 = .ok (.ireturn, 1) := by decide +kernel
theorem dL_law_670 : decode cL_law 670 = .ok (.aload_n 1, 1) := by decide +kernel
theorem dL_law_671 : decode cL_law 671 = .ok (.invokevirtual 104, 3) := by decide +kernel
theorem dL_law_674 : decode cL_law 674 = .ok (.aload_n 2, 1) := by decide +kernel
theorem dL_law_675 : decode cL_law 675 = .ok (.invokevirtual 107, 3) := by decide +kernel
theorem dL_law_678 : decode cL_law 678 = .ok (.if_icmp .eq 183, 3) := by decide +kernel
theorem dL_law_681 : decode cL_law 681 = .ok (.iconst 0, 1) := by decide +kernel
theorem dL_law_682 : decode cL_law 682 = .ok (.ireturn, 1) := by decide +kernel
theorem dL_law_683 : decode cL_law 683 = .ok (.aload_n 1, 1) := by decide +kernel
theorem dL_law_684 : decode cL_law 684 = .ok (.aload_n 0, 1) := by decide +kernel
theorem dL_law_685 : decode cL_law 685 = .ok (.iload_n 3, 1) := by decide +kernel
theorem dL_law_686 : decode cL_law 686 = .ok (.iconst 1, 1) := by decide +kernel
theorem dL_law_687 : decode cL_law 687 = .ok (.iadd, 1) := by decide +kernel
theorem dL_law_688 : decode cL_law 688 = .ok (.iaload, 1) := by decide +kernel
theorem dL_law_689 : decode cL_law 689 = .ok (.invokevirtual 108, 3) := by decide +kernel
theorem dL_law_692 : decode cL_law 692 = .ok (.aload_n 2, 1) := by decide +kernel
theorem dL_law_693 : decode cL_law 693 = .ok (.aload_n 0, 1) := by decide +kernel
theorem dL_law_694 : decode cL_law 694 = .ok (.iload_n 3, 1) := by decide +kernel
theorem dL_law_695 : decode cL_law 695 = .ok (.iconst 1, 1) := by decide +kernel
theorem dL_law_696 : decode cL_law 696 = .ok (.iadd, 1) := by decide +kernel
theorem dL_law_697 : decode cL_law 697 = .ok (.iaload, 1) := by decide +kernel
theorem dL_law_698 : decode cL_law 698 = .ok (.invokevirtual 111, 3) := by decide +kernel
theorem dL_law_701 : decode cL_law 701 = .ok (.if_icmp .eq 160, 3) := by decide +kernel
theorem dL_law_704 : decode cL_law 704 = .ok (.iconst 0, 1) := by decide +kernel
theorem dL_law_705 : decode cL_law 705 = .ok (.ireturn, 1) := by decide +kernel
theorem dL_law_706 : decode cL_law 706 = .ok (.aload_n 1, 1) := by decide +kernel
theorem dL_law_707 : decode cL_law 707 = .ok (.aload_n 0, 1) := by decide +kernel
theorem dL_law_708 : decode cL_law 708 = .ok (.iload_n 3, 1) := by decide +kernel
theorem dL_law_709 : decode cL_law 709 = .ok (.iconst 1, 1) := by decide +kernel
theorem dL_law_710 : decode cL_law 710 = .ok (.iadd, 1) := by decide +kernel
theorem dL_law_711 : decode cL_law 711 = .ok (.iaload, 1) := by decide +kernel
theorem dL_law_712 : decode cL_law 712 = .ok (.aload_n 0, 1) := by decide +kernel
theorem dL_law_713 : decode cL_law 713 = .ok (.iload_n 3, 1) := by decide +kernel
theorem dL_law_714 : decode cL_law 714 = .ok (.iconst 2, 1) := by decide +kernel
theorem dL_law_715 : decode cL_law 715 = .ok (.iadd, 1) := by decide +kernel
theorem dL_law_716 : decode cL_law 716 = .ok (.iaload, 1) := by decide +kernel
theorem dL_law_717 : decode cL_law 717 = .ok (.aload_n 0, 1) := by decide +kernel
theorem dL_law_718 : decode cL_law 718 = .ok (.iload_n 3, 1) := by decide +kernel
theorem dL_law_719 : decode cL_law 719 = .ok (.iconst 3, 1) := by decide +kernel
theorem dL_law_720 : decode cL_law 720 = .ok (.iadd, 1) := by decide +kernel
theorem dL_law_721 : decode cL_law 721 = .ok (.iaload, 1) := by decide +kernel
theorem dL_law_722 : decode cL_law 722 = .ok (.invokevirtual 112, 3) := by decide +kernel
theorem dL_law_725 : decode cL_law 725 = .ok (.aload_n 2, 1) := by decide +kernel
theorem dL_law_726 : decode cL_law 726 = .ok (.aload_n 0, 1) := by decide +kernel
theorem dL_law_727 : decode cL_law 727 = .ok (.iload_n 3, 1) := by decide +kernel
theorem dL_law_728 : decode cL_law 728 = .ok (.iconst 1, 1) := by decide +kernel
theorem dL_law_729 : decode cL_law 729 = .ok (.iadd, 1) := by decide +kernel
theorem dL_law_730 : decode cL_law 730 = .ok (.iaload, 1) := by decide +kernel
theorem dL_law_731 : decode cL_law 731 = .ok (.aload_n 0, 1) := by decide +kernel
theorem dL_law_732 : decode cL_law 732 = .ok (.iload_n 3, 1) := by decide +kernel
theorem dL_law_733 : decode cL_law 733 = .ok (.iconst 2, 1) := by decide +kernel
theorem dL_law_734 : decode cL_law 734 = .ok (.iadd, 1) := by decide +kernel
theorem dL_law_735 : decode cL_law 735 = .ok (.iaload, 1) := by decide +kernel
theorem dL_law_736 : decode cL_law 736 = .ok (.aload_n 0, 1) := by decide +kernel
theorem dL_law_737 : decode cL_law 737 = .ok (.iload_n 3, 1) := by decide +kernel
theorem dL_law_738 : decode cL_law 738 = .ok (.iconst 3, 1) := by decide +kernel
theorem dL_law_739 : decode cL_law 739 = .ok (.iadd, 1) := by decide +kernel
theorem dL_law_740 : decode cL_law 740 = .ok (.iaload, 1) := by decide +kernel
theorem dL_law_741 : decode cL_law 741 = .ok (.invokevirtual 116, 3) := by decide +kernel
theorem dL_law_744 : decode cL_law 744 = .ok (.if_icmp .eq 117, 3) := by decide +kernel
theorem dL_law_747 : decode cL_law 747 = .ok (.iconst 0, 1) := by decide +kernel
theorem dL_law_748 : decode cL_law 748 = .ok (.ireturn, 1) := by decide +kernel
theorem dL_law_749 : decode cL_law 749 = .ok (.aload_n 1, 1) := by decide +kernel
theorem dL_law_750 : decode cL_law 750 = .ok (.aload_n 0, 1) := by decide +kernel
theorem dL_law_751 : decode cL_law 751 = .ok (.iload_n 3, 1) := by decide +kernel
theorem dL_law_752 : decode cL_law 752 = .ok (.iconst 1, 1) := by decide +kernel
theorem dL_law_753 : decode cL_law 753 = .ok (.iadd, 1) := by decide +kernel
theorem dL_law_754 : decode cL_law 754 = .ok (.iaload, 1) := by decide +kernel
theorem dL_law_755 : decode cL_law 755 = .ok (.aload_n 0, 1) := by decide +kernel
theorem dL_law_756 : decode cL_law 756 = .ok (.iload_n 3, 1) := by decide +kernel
theorem dL_law_757 : decode cL_law 757 = .ok (.iconst 2, 1) := by decide +kernel
theorem dL_law_758 : decode cL_law 758 = .ok (.iadd, 1) := by decide +kernel
theorem dL_law_759 : decode cL_law 759 = .ok (.iaload, 1) := by decide +kernel
theorem dL_law_760 : decode cL_law 760 = .ok (.invokevirtual 117, 3) := by decide +kernel
theorem dL_law_763 : decode cL_law 763 = .ok (.aload_n 2, 1) := by decide +kernel
theorem dL_law_764 : decode cL_law 764 = .ok (.aload_n 0, 1) := by decide +kernel
theorem dL_law_765 : decode cL_law 765 = .ok (.iload_n 3, 1) := by decide +kernel
theorem dL_law_766 : decode cL_law 766 = .ok (.iconst 1, 1) := by decide +kernel
theorem dL_law_767 : decode cL_law 767 = .ok (.iadd, 1) := by decide +kernel
theorem dL_law_768 : decode cL_law 768 = .ok (.iaload, 1) := by decide +kernel
theorem dL_law_769 : decode cL_law 769 = .ok (.aload_n 0, 1) := by decide +kernel
theorem dL_law_770 : decode cL_law 770 = .ok (.iload_n 3, 1) := by decide +kernel
theorem dL_law_771 : decode cL_law 771 = .ok (.iconst 2, 1) := by decide +kernel
theorem dL_law_772 : decode cL_law 772 = .ok (.iadd, 1) := by decide +kernel
theorem dL_law_773 : decode cL_law 773 = .ok (.iaload, 1) := by decide +kernel
theorem dL_law_774 : decode cL_law 774 = .ok (.invokevirtual 120, 3) := by decide +kernel
theorem dL_law_777 : decode cL_law 777 = .ok (.if_icmp .eq 84, 3) := by decide +kernel
theorem dL_law_780 : decode cL_law 780 = .ok (.iconst 0, 1) := by decide +kernel
theorem dL_law_781 : decode cL_law 781 = .ok (.ireturn, 1) := by decide +kernel
theorem dL_law_782 : decode cL_law 782 = .ok (.aload_n 1, 1) := by decide +kernel
theorem dL_law_783 : decode cL_law 783 = .ok (.aload_n 0, 1) := by decide +kernel
theorem dL_law_784 : decode cL_law 784 = .ok (.iload_n 3, 1) := by decide +kernel
theorem dL_law_785 : decode cL_law 785 = .ok (.iconst 1, 1) := by decide +kernel
theorem dL_law_786 : decode cL_law 786 = .ok (.iadd, 1) := by decide +kernel
theorem dL_law_787 : decode cL_law 787 = .ok (.iaload, 1) := by decide +kernel
theorem dL_law_788 : decode cL_law 788 = .ok (.aload_n 0, 1) := by decide +kernel
theorem dL_law_789 : decode cL_law 789 = .ok (.iload_n 3, 1) := by decide +kernel
theorem dL_law_790 : decode cL_law 790 = .ok (.iconst 2, 1) := by decide +kernel
theorem dL_law_791 : decode cL_law 791 = .ok (.iadd, 1) := by decide +kernel
theorem dL_law_792 : decode cL_law 792 = .ok (.iaload, 1) := by decide +kernel
theorem dL_law_793 : decode cL_law 793 = .ok (.invokevirtual 121, 3) := by decide +kernel
theorem dL_law_796 : decode cL_law 796 = .ok (.aload_n 2, 1) := by decide +kernel
theorem dL_law_797 : decode cL_law 797 = .ok (.aload_n 0, 1) := by decide +kernel
theorem dL_law_798 : decode cL_law 798 = .ok (.iload_n 3, 1) := by decide +kernel
theorem dL_law_799 : decode cL_law 799 = .ok (.iconst 1, 1) := by decide +kernel
theorem dL_law_800 : decode cL_law 800 = .ok (.iadd, 1) := by decide +kernel
theorem dL_law_801 : decode cL_law 801 = .ok (.iaload, 1) := by decide +kernel
theorem dL_law_802 : decode cL_law 802 = .ok (.aload_n 0, 1) := by decide +kernel
theorem dL_law_803 : decode cL_law 803 = .ok (.iload_n 3, 1) := by decide +kernel
theorem dL_law_804 : decode cL_law 804 = .ok (.iconst 2, 1) := by decide +kernel
theorem dL_law_805 : decode cL_law 805 = .ok (.iadd, 1) := by decide +kernel
theorem dL_law_806 : decode cL_law 806 = .ok (.iaload, 1) := by decide +kernel
theorem dL_law_807 : decode cL_law 807 = .ok (.invokevirtual 124, 3) := by decide +kernel
theorem dL_law_810 : decode cL_law 810 = .ok (.if_icmp .eq 51, 3) := by decide +kernel
theorem dL_law_813 : decode cL_law 813 = .ok (.iconst 0, 1) := by decide +kernel
theorem dL_law_814 : decode cL_law 814 = .ok (.ireturn, 1) := by decide +kernel
theorem dL_law_815 : decode cL_law 815 = .ok (.aload_n 1, 1) := by decide +kernel
theorem dL_law_816 : decode cL_law 816 = .ok (.aload_n 0, 1) := by decide +kernel
theorem dL_law_817 : decode cL_law 817 = .ok (.iload_n 3, 1) := by decide +kernel
theorem dL_law_818 : decode cL_law 818 = .ok (.iconst 1, 1) := by decide +kernel
theorem dL_law_819 : decode cL_law 819 = .ok (.iadd, 1) := by decide +kernel
theorem dL_law_820 : decode cL_law 820 = .ok (.iaload, 1) := by decide +kernel
theorem dL_law_821 : decode cL_law 821 = .ok (.invokevirtual 125, 3) := by decide +kernel
theorem dL_law_824 : decode cL_law 824 = .ok (.aload_n 2, 1) := by decide +kernel
theorem dL_law_825 : decode cL_law 825 = .ok (.aload_n 0, 1) := by decide +kernel
theorem dL_law_826 : decode cL_law 826 = .ok (.iload_n 3, 1) := by decide +kernel
theorem dL_law_827 : decode cL_law 827 = .ok (.iconst 1, 1) := by decide +kernel
theorem dL_law_828 : decode cL_law 828 = .ok (.iadd, 1) := by decide +kernel
theorem dL_law_829 : decode cL_law 829 = .ok (.iaload, 1) := by decide +kernel
theorem dL_law_830 : decode cL_law 830 = .ok (.invokevirtual 128, 3) := by decide +kernel
theorem dL_law_833 : decode cL_law 833 = .ok (.if_icmp .eq 28, 3) := by decide +kernel
theorem dL_law_836 : decode cL_law 836 = .ok (.iconst 0, 1) := by decide +kernel
theorem dL_law_837 : decode cL_law 837 = .ok (.ireturn, 1) := by decide +kernel
theorem dL_law_838 : decode cL_law 838 = .ok (.aload_n 1, 1) := by decide +kernel
theorem dL_law_839 : decode cL_law 839 = .ok (.aload_n 0, 1) := by decide +kernel
theorem dL_law_840 : decode cL_law 840 = .ok (.iload_n 3, 1) := by decide +kernel
theorem dL_law_841 : decode cL_law 841 = .ok (.iconst 1, 1) := by decide +kernel
theorem dL_law_842 : decode cL_law 842 = .ok (.iadd, 1) := by decide +kernel
theorem dL_law_843 : decode cL_law 843 = .ok (.iaload, 1) := by decide +kernel
theorem dL_law_844 : decode cL_law 844 = .ok (.invokevirtual 129, 3) := by decide +kernel
theorem dL_law_847 : decode cL_law 847 = .ok (.aload_n 2, 1) := by decide +kernel
theorem dL_law_848 : decode cL_law 848 = .ok (.aload_n 0, 1) := by decide +kernel
theorem dL_law_849 : decode cL_law 849 = .ok (.iload_n 3, 1) := by decide +kernel
theorem dL_law_850 : decode cL_law 850 = .ok (.iconst 1, 1) := by decide +kernel
theorem dL_law_851 : decode cL_law 851 = .ok (.iadd, 1) := by decide +kernel
theorem dL_law_852 : decode cL_law 852 = .ok (.iaload, 1) := by decide +kernel
theorem dL_law_853 : decode cL_law 853 = .ok (.invokevirtual 132, 3) := by decide +kernel
theorem dL_law_856 : decode cL_law 856 = .ok (.if_icmp .eq 5, 3) := by decide +kernel
theorem dL_law_859 : decode cL_law 859 = .ok (.iconst 0, 1) := by decide +kernel
theorem dL_law_860 : decode cL_law 860 = .ok (.ireturn, 1) := by decide +kernel
theorem dL_law_861 : decode cL_law 861 = .ok (.iinc 3 4, 3) := by decide +kernel
theorem dL_law_864 : decode cL_law 864 = .ok (.goto (-846), 3) := by decide +kernel
theorem dL_law_867 : decode cL_law 867 = .ok (.iconst 1, 1) := by decide +kernel
theorem dL_law_868 : decode cL_law 868 = .ok (.ireturn, 1) := by decide +kernel
theorem tw_568 : ((Jvm.Cond.methodLink "MeterDeskLaw" (13 : Nat) ({ cls := "MeterDesk", name := "write", desc := "(I)I" } : Jvm.MethodName))) ∈ lw_gt := gt_of 568 (by decide +kernel) (by decide +kernel)
theorem tw_569 : ((Jvm.Cond.instanceMethod ({ cls := "MeterDesk", name := "write", desc := "(I)I" } : Jvm.MethodName))) ∈ lw_gt := gt_of 569 (by decide +kernel) (by decide +kernel)
theorem tw_570 : ((Jvm.Cond.selects "MeterDesk" ({ cls := "MeterDesk", name := "write", desc := "(I)I" } : Jvm.MethodName) ({ cls := "MeterDesk", name := "write", desc := "(I)I" } : Jvm.MethodName))) ∈ lw_gt := gt_of 570 (by decide +kernel) (by decide +kernel)
theorem tw_571 : ((Jvm.Cond.code ({ cls := "MeterDesk", name := "write", desc := "(I)I" } : Jvm.MethodName) prog_1_method_2_code (2 : Nat) (Option.some Jvm.ClassFile.FieldType.int))) ∈ lw_gt := gt_of 571 (by decide +kernel) (by decide +kernel)
theorem kvL_13 : ux_LV "MeterDeskLaw" 13 11 yX11_write cX11_write 2 (some .int) 1 := ⟨⟨TX11, 9, rfl⟩, tw_568, tw_569, tw_570, tw_72, tw_571, ⟨by decide, by decide, by decide +kernel⟩⟩
theorem tw_1150 : ((Jvm.Cond.methodLink "MeterDeskLaw" (17 : Nat) ({ cls := "MeterDeskModel", name := "write", desc := "(I)I" } : Jvm.MethodName))) ∈ lw_gt := gt_of 1150 (by decide +kernel) (by decide +kernel)
theorem tw_1151 : ((Jvm.Cond.instanceMethod ({ cls := "MeterDeskModel", name := "write", desc := "(I)I" } : Jvm.MethodName))) ∈ lw_gt := gt_of 1151 (by decide +kernel) (by decide +kernel)
theorem tw_1152 : ((Jvm.Cond.selects "MeterDeskModel" ({ cls := "MeterDeskModel", name := "write", desc := "(I)I" } : Jvm.MethodName) ({ cls := "MeterDeskModel", name := "write", desc := "(I)I" } : Jvm.MethodName))) ∈ lw_gt := gt_of 1152 (by decide +kernel) (by decide +kernel)
theorem tw_1153 : ((Jvm.Cond.code ({ cls := "MeterDeskModel", name := "write", desc := "(I)I" } : Jvm.MethodName) prog_14_method_7_code (2 : Nat) (Option.some Jvm.ClassFile.FieldType.int))) ∈ lw_gt := gt_of 1153 (by decide +kernel) (by decide +kernel)
theorem kvL_17 : ux_LV "MeterDeskLaw" 17 12 yX12_write cX12_write 2 (some .int) 1 := ⟨⟨TX12, 31, rfl⟩, tw_1150, tw_1151, tw_1152, tw_87, tw_1153, ⟨by decide, by decide, by decide +kernel⟩⟩
theorem tw_576 : ((Jvm.Cond.methodLink "MeterDeskLaw" (18 : Nat) ({ cls := "MeterDesk", name := "erase", desc := "()I" } : Jvm.MethodName))) ∈ lw_gt := gt_of 576 (by decide +kernel) (by decide +kernel)
theorem tw_577 : ((Jvm.Cond.instanceMethod ({ cls := "MeterDesk", name := "erase", desc := "()I" } : Jvm.MethodName))) ∈ lw_gt := gt_of 577 (by decide +kernel) (by decide +kernel)
theorem tw_578 : ((Jvm.Cond.selects "MeterDesk" ({ cls := "MeterDesk", name := "erase", desc := "()I" } : Jvm.MethodName) ({ cls := "MeterDesk", name := "erase", desc := "()I" } : Jvm.MethodName))) ∈ lw_gt := gt_of 578 (by decide +kernel) (by decide +kernel)
theorem tw_579 : ((Jvm.Cond.code ({ cls := "MeterDesk", name := "erase", desc := "()I" } : Jvm.MethodName) prog_1_method_3_code (1 : Nat) (Option.some Jvm.ClassFile.FieldType.int))) ∈ lw_gt := gt_of 579 (by decide +kernel) (by decide +kernel)
theorem kvL_18 : ux_LV "MeterDeskLaw" 18 11 yX11_erase cX11_erase 1 (some .int) 0 := ⟨⟨TX11, 9, rfl⟩, tw_576, tw_577, tw_578, tw_72, tw_579, ⟨by decide, by decide, by decide +kernel⟩⟩
theorem tw_1158 : ((Jvm.Cond.methodLink "MeterDeskLaw" (22 : Nat) ({ cls := "MeterDeskModel", name := "erase", desc := "()I" } : Jvm.MethodName))) ∈ lw_gt := gt_of 1158 (by decide +kernel) (by decide +kernel)
theorem tw_1159 : ((Jvm.Cond.instanceMethod ({ cls := "MeterDeskModel", name := "erase", desc := "()I" } : Jvm.MethodName))) ∈ lw_gt := gt_of 1159 (by decide +kernel) (by decide +kernel)
theorem tw_1160 : ((Jvm.Cond.selects "MeterDeskModel" ({ cls := "MeterDeskModel", name := "erase", desc := "()I" } : Jvm.MethodName) ({ cls := "MeterDeskModel", name := "erase", desc := "()I" } : Jvm.MethodName))) ∈ lw_gt := gt_of 1160 (by decide +kernel) (by decide +kernel)
theorem tw_1161 : ((Jvm.Cond.code ({ cls := "MeterDeskModel", name := "erase", desc := "()I" } : Jvm.MethodName) prog_14_method_8_code (2 : Nat) (Option.some Jvm.ClassFile.FieldType.int))) ∈ lw_gt := gt_of 1161 (by decide +kernel) (by decide +kernel)
theorem kvL_22 : ux_LV "MeterDeskLaw" 22 12 yX12_erase cX12_erase 2 (some .int) 0 := ⟨⟨TX12, 31, rfl⟩, tw_1158, tw_1159, tw_1160, tw_87, tw_1161, ⟨by decide, by decide, by decide +kernel⟩⟩
theorem tw_584 : ((Jvm.Cond.methodLink "MeterDeskLaw" (23 : Nat) ({ cls := "MeterDesk", name := "fault", desc := "()I" } : Jvm.MethodName))) ∈ lw_gt := gt_of 584 (by decide +kernel) (by decide +kernel)
theorem tw_585 : ((Jvm.Cond.instanceMethod ({ cls := "MeterDesk", name := "fault", desc := "()I" } : Jvm.MethodName))) ∈ lw_gt := gt_of 585 (by decide +kernel) (by decide +kernel)
theorem tw_586 : ((Jvm.Cond.selects "MeterDesk" ({ cls := "MeterDesk", name := "fault", desc := "()I" } : Jvm.MethodName) ({ cls := "MeterDesk", name := "fault", desc := "()I" } : Jvm.MethodName))) ∈ lw_gt := gt_of 586 (by decide +kernel) (by decide +kernel)
theorem tw_587 : ((Jvm.Cond.code ({ cls := "MeterDesk", name := "fault", desc := "()I" } : Jvm.MethodName) prog_1_method_4_code (1 : Nat) (Option.some Jvm.ClassFile.FieldType.int))) ∈ lw_gt := gt_of 587 (by decide +kernel) (by decide +kernel)
theorem kvL_23 : ux_LV "MeterDeskLaw" 23 11 yX11_fault cX11_fault 1 (some .int) 0 := ⟨⟨TX11, 9, rfl⟩, tw_584, tw_585, tw_586, tw_72, tw_587, ⟨by decide, by decide, by decide +kernel⟩⟩
theorem tw_1162 : ((Jvm.Cond.methodLink "MeterDeskLaw" (26 : Nat) ({ cls := "MeterDeskModel", name := "fault", desc := "()I" } : Jvm.MethodName))) ∈ lw_gt := gt_of 1162 (by decide +kernel) (by decide +kernel)
theorem tw_1163 : ((Jvm.Cond.instanceMethod ({ cls := "MeterDeskModel", name := "fault", desc := "()I" } : Jvm.MethodName))) ∈ lw_gt := gt_of 1163 (by decide +kernel) (by decide +kernel)
theorem tw_1164 : ((Jvm.Cond.selects "MeterDeskModel" ({ cls := "MeterDeskModel", name := "fault", desc := "()I" } : Jvm.MethodName) ({ cls := "MeterDeskModel", name := "fault", desc := "()I" } : Jvm.MethodName))) ∈ lw_gt := gt_of 1164 (by decide +kernel) (by decide +kernel)
theorem tw_1165 : ((Jvm.Cond.code ({ cls := "MeterDeskModel", name := "fault", desc := "()I" } : Jvm.MethodName) prog_14_method_20_code (1 : Nat) (Option.some Jvm.ClassFile.FieldType.int))) ∈ lw_gt := gt_of 1165 (by decide +kernel) (by decide +kernel)
theorem kvL_26 : ux_LV "MeterDeskLaw" 26 12 yX12_fault cX12_fault 1 (some .int) 0 := ⟨⟨TX12, 31, rfl⟩, tw_1162, tw_1163, tw_1164, tw_87, tw_1165, ⟨by decide, by decide, by decide +kernel⟩⟩
theorem tw_716 : ((Jvm.Cond.methodLink "MeterDeskLaw" (27 : Nat) ({ cls := "MeterDesk", name := "grid", desc := "()I" } : Jvm.MethodName))) ∈ lw_gt := gt_of 716 (by decide +kernel) (by decide +kernel)
theorem tw_717 : ((Jvm.Cond.instanceMethod ({ cls := "MeterDesk", name := "grid", desc := "()I" } : Jvm.MethodName))) ∈ lw_gt := gt_of 717 (by decide +kernel) (by decide +kernel)
theorem tw_718 : ((Jvm.Cond.selects "MeterDesk" ({ cls := "MeterDesk", name := "grid", desc := "()I" } : Jvm.MethodName) ({ cls := "MeterDesk", name := "grid", desc := "()I" } : Jvm.MethodName))) ∈ lw_gt := gt_of 718 (by decide +kernel) (by decide +kernel)
theorem tw_719 : ((Jvm.Cond.code ({ cls := "MeterDesk", name := "grid", desc := "()I" } : Jvm.MethodName) prog_1_method_5_code (2 : Nat) (Option.some Jvm.ClassFile.FieldType.int))) ∈ lw_gt := gt_of 719 (by decide +kernel) (by decide +kernel)
theorem kvL_27 : ux_LV "MeterDeskLaw" 27 11 yX11_grid cX11_grid 2 (some .int) 0 := ⟨⟨TX11, 9, rfl⟩, tw_716, tw_717, tw_718, tw_72, tw_719, ⟨by decide, by decide, by decide +kernel⟩⟩
theorem tw_1211 : ((Jvm.Cond.methodLink "MeterDeskLaw" (30 : Nat) ({ cls := "MeterDeskModel", name := "grid", desc := "()I" } : Jvm.MethodName))) ∈ lw_gt := gt_of 1211 (by decide +kernel) (by decide +kernel)
theorem tw_1212 : ((Jvm.Cond.instanceMethod ({ cls := "MeterDeskModel", name := "grid", desc := "()I" } : Jvm.MethodName))) ∈ lw_gt := gt_of 1212 (by decide +kernel) (by decide +kernel)
theorem tw_1213 : ((Jvm.Cond.selects "MeterDeskModel" ({ cls := "MeterDeskModel", name := "grid", desc := "()I" } : Jvm.MethodName) ({ cls := "MeterDeskModel", name := "grid", desc := "()I" } : Jvm.MethodName))) ∈ lw_gt := gt_of 1213 (by decide +kernel) (by decide +kernel)
theorem tw_1214 : ((Jvm.Cond.code ({ cls := "MeterDeskModel", name := "grid", desc := "()I" } : Jvm.MethodName) prog_14_method_21_code (2 : Nat) (Option.some Jvm.ClassFile.FieldType.int))) ∈ lw_gt := gt_of 1214 (by decide +kernel) (by decide +kernel)
theorem kvL_30 : ux_LV "MeterDeskLaw" 30 12 yX12_grid cX12_grid 2 (some .int) 0 := ⟨⟨TX12, 31, rfl⟩, tw_1211, tw_1212, tw_1213, tw_87, tw_1214, ⟨by decide, by decide, by decide +kernel⟩⟩
theorem tw_730 : ((Jvm.Cond.methodLink "MeterDeskLaw" (31 : Nat) ({ cls := "MeterDesk", name := "line", desc := "(II)I" } : Jvm.MethodName))) ∈ lw_gt := gt_of 730 (by decide +kernel) (by decide +kernel)
theorem tw_731 : ((Jvm.Cond.instanceMethod ({ cls := "MeterDesk", name := "line", desc := "(II)I" } : Jvm.MethodName))) ∈ lw_gt := gt_of 731 (by decide +kernel) (by decide +kernel)
theorem tw_732 : ((Jvm.Cond.selects "MeterDesk" ({ cls := "MeterDesk", name := "line", desc := "(II)I" } : Jvm.MethodName) ({ cls := "MeterDesk", name := "line", desc := "(II)I" } : Jvm.MethodName))) ∈ lw_gt := gt_of 732 (by decide +kernel) (by decide +kernel)
theorem tw_733 : ((Jvm.Cond.code ({ cls := "MeterDesk", name := "line", desc := "(II)I" } : Jvm.MethodName) prog_1_method_6_code (3 : Nat) (Option.some Jvm.ClassFile.FieldType.int))) ∈ lw_gt := gt_of 733 (by decide +kernel) (by decide +kernel)
theorem kvL_31 : ux_LV "MeterDeskLaw" 31 11 yX11_line cX11_line 3 (some .int) 2 := ⟨⟨TX11, 9, rfl⟩, tw_730, tw_731, tw_732, tw_72, tw_733, ⟨by decide, by decide, by decide +kernel⟩⟩
theorem tw_1219 : ((Jvm.Cond.methodLink "MeterDeskLaw" (35 : Nat) ({ cls := "MeterDeskModel", name := "line", desc := "(II)I" } : Jvm.MethodName))) ∈ lw_gt := gt_of 1219 (by decide +kernel) (by decide +kernel)
theorem tw_1220 : ((Jvm.Cond.instanceMethod ({ cls := "MeterDeskModel", name := "line", desc := "(II)I" } : Jvm.MethodName))) ∈ lw_gt := gt_of 1220 (by decide +kernel) (by decide +kernel)
theorem tw_1221 : ((Jvm.Cond.selects "MeterDeskModel" ({ cls := "MeterDeskModel", name := "line", desc := "(II)I" } : Jvm.MethodName) ({ cls := "MeterDeskModel", name := "line", desc := "(II)I" } : Jvm.MethodName))) ∈ lw_gt := gt_of 1221 (by decide +kernel) (by decide +kernel)
theorem tw_1222 : ((Jvm.Cond.code ({ cls := "MeterDeskModel", name := "line", desc := "(II)I" } : Jvm.MethodName) prog_14_method_43_code (3 : Nat) (Option.some Jvm.ClassFile.FieldType.int))) ∈ lw_gt := gt_of 1222 (by decide +kernel) (by decide +kernel)
theorem kvL_35 : ux_LV "MeterDeskLaw" 35 12 yX12_line cX12_line 3 (some .int) 2 := ⟨⟨TX12, 31, rfl⟩, tw_1219, tw_1220, tw_1221, tw_87, tw_1222, ⟨by decide, by decide, by decide +kernel⟩⟩
theorem tw_771 : ((Jvm.Cond.methodLink "MeterDeskLaw" (36 : Nat) ({ cls := "MeterDesk", name := "meter", desc := "(II)I" } : Jvm.MethodName))) ∈ lw_gt := gt_of 771 (by decide +kernel) (by decide +kernel)
theorem tw_772 : ((Jvm.Cond.instanceMethod ({ cls := "MeterDesk", name := "meter", desc := "(II)I" } : Jvm.MethodName))) ∈ lw_gt := gt_of 772 (by decide +kernel) (by decide +kernel)
theorem tw_773 : ((Jvm.Cond.selects "MeterDesk" ({ cls := "MeterDesk", name := "meter", desc := "(II)I" } : Jvm.MethodName) ({ cls := "MeterDesk", name := "meter", desc := "(II)I" } : Jvm.MethodName))) ∈ lw_gt := gt_of 773 (by decide +kernel) (by decide +kernel)
theorem tw_774 : ((Jvm.Cond.code ({ cls := "MeterDesk", name := "meter", desc := "(II)I" } : Jvm.MethodName) prog_1_method_7_code (3 : Nat) (Option.some Jvm.ClassFile.FieldType.int))) ∈ lw_gt := gt_of 774 (by decide +kernel) (by decide +kernel)
theorem kvL_36 : ux_LV "MeterDeskLaw" 36 11 yX11_meter cX11_meter 3 (some .int) 2 := ⟨⟨TX11, 9, rfl⟩, tw_771, tw_772, tw_773, tw_72, tw_774, ⟨by decide, by decide, by decide +kernel⟩⟩
theorem tw_1287 : ((Jvm.Cond.methodLink "MeterDeskLaw" (39 : Nat) ({ cls := "MeterDeskModel", name := "meter", desc := "(II)I" } : Jvm.MethodName))) ∈ lw_gt := gt_of 1287 (by decide +kernel) (by decide +kernel)
theorem tw_1288 : ((Jvm.Cond.instanceMethod ({ cls := "MeterDeskModel", name := "meter", desc := "(II)I" } : Jvm.MethodName))) ∈ lw_gt := gt_of 1288 (by decide +kernel) (by decide +kernel)
theorem tw_1289 : ((Jvm.Cond.selects "MeterDeskModel" ({ cls := "MeterDeskModel", name := "meter", desc := "(II)I" } : Jvm.MethodName) ({ cls := "MeterDeskModel", name := "meter", desc := "(II)I" } : Jvm.MethodName))) ∈ lw_gt := gt_of 1289 (by decide +kernel) (by decide +kernel)
theorem tw_1290 : ((Jvm.Cond.code ({ cls := "MeterDeskModel", name := "meter", desc := "(II)I" } : Jvm.MethodName) prog_14_method_46_code (3 : Nat) (Option.some Jvm.ClassFile.FieldType.int))) ∈ lw_gt := gt_of 1290 (by decide +kernel) (by decide +kernel)
theorem kvL_39 : ux_LV "MeterDeskLaw" 39 12 yX12_meter cX12_meter 3 (some .int) 2 := ⟨⟨TX12, 31, rfl⟩, tw_1287, tw_1288, tw_1289, tw_87, tw_1290, ⟨by decide, by decide, by decide +kernel⟩⟩
theorem tw_787 : ((Jvm.Cond.methodLink "MeterDeskLaw" (40 : Nat) ({ cls := "MeterDesk", name := "offer", desc := "(II)I" } : Jvm.MethodName))) ∈ lw_gt := gt_of 787 (by decide +kernel) (by decide +kernel)
theorem tw_788 : ((Jvm.Cond.instanceMethod ({ cls := "MeterDesk", name := "offer", desc := "(II)I" } : Jvm.MethodName))) ∈ lw_gt := gt_of 788 (by decide +kernel) (by decide +kernel)
theorem tw_789 : ((Jvm.Cond.selects "MeterDesk" ({ cls := "MeterDesk", name := "offer", desc := "(II)I" } : Jvm.MethodName) ({ cls := "MeterDesk", name := "offer", desc := "(II)I" } : Jvm.MethodName))) ∈ lw_gt := gt_of 789 (by decide +kernel) (by decide +kernel)
theorem tw_790 : ((Jvm.Cond.code ({ cls := "MeterDesk", name := "offer", desc := "(II)I" } : Jvm.MethodName) prog_1_method_8_code (3 : Nat) (Option.some Jvm.ClassFile.FieldType.int))) ∈ lw_gt := gt_of 790 (by decide +kernel) (by decide +kernel)
theorem kvL_40 : ux_LV "MeterDeskLaw" 40 11 yX11_offer cX11_offer 3 (some .int) 2 := ⟨⟨TX11, 9, rfl⟩, tw_787, tw_788, tw_789, tw_72, tw_790, ⟨by decide, by decide, by decide +kernel⟩⟩
theorem tw_1303 : ((Jvm.Cond.methodLink "MeterDeskLaw" (43 : Nat) ({ cls := "MeterDeskModel", name := "offer", desc := "(II)I" } : Jvm.MethodName))) ∈ lw_gt := gt_of 1303 (by decide +kernel) (by decide +kernel)
theorem tw_1304 : ((Jvm.Cond.instanceMethod ({ cls := "MeterDeskModel", name := "offer", desc := "(II)I" } : Jvm.MethodName))) ∈ lw_gt := gt_of 1304 (by decide +kernel) (by decide +kernel)
theorem tw_1305 : ((Jvm.Cond.selects "MeterDeskModel" ({ cls := "MeterDeskModel", name := "offer", desc := "(II)I" } : Jvm.MethodName) ({ cls := "MeterDeskModel", name := "offer", desc := "(II)I" } : Jvm.MethodName))) ∈ lw_gt := gt_of 1305 (by decide +kernel) (by decide +kernel)
theorem tw_1306 : ((Jvm.Cond.code ({ cls := "MeterDeskModel", name := "offer", desc := "(II)I" } : Jvm.MethodName) prog_14_method_48_code (3 : Nat) (Option.some Jvm.ClassFile.FieldType.int))) ∈ lw_gt := gt_of 1306 (by decide +kernel) (by decide +kernel)
theorem kvL_43 : ux_LV "MeterDeskLaw" 43 12 yX12_offer cX12_offer 3 (some .int) 2 := ⟨⟨TX12, 31, rfl⟩, tw_1303, tw_1304, tw_1305, tw_87, tw_1306, ⟨by decide, by decide, by decide +kernel⟩⟩
theorem tw_799 : ((Jvm.Cond.methodLink "MeterDeskLaw" (44 : Nat) ({ cls := "MeterDesk", name := "put", desc := "(II)I" } : Jvm.MethodName))) ∈ lw_gt := gt_of 799 (by decide +kernel) (by decide +kernel)
theorem tw_800 : ((Jvm.Cond.instanceMethod ({ cls := "MeterDesk", name := "put", desc := "(II)I" } : Jvm.MethodName))) ∈ lw_gt := gt_of 800 (by decide +kernel) (by decide +kernel)
theorem tw_801 : ((Jvm.Cond.selects "MeterDesk" ({ cls := "MeterDesk", name := "put", desc := "(II)I" } : Jvm.MethodName) ({ cls := "MeterDesk", name := "put", desc := "(II)I" } : Jvm.MethodName))) ∈ lw_gt := gt_of 801 (by decide +kernel) (by decide +kernel)
theorem tw_802 : ((Jvm.Cond.code ({ cls := "MeterDesk", name := "put", desc := "(II)I" } : Jvm.MethodName) prog_1_method_9_code (5 : Nat) (Option.some Jvm.ClassFile.FieldType.int))) ∈ lw_gt := gt_of 802 (by decide +kernel) (by decide +kernel)
theorem kvL_44 : ux_LV "MeterDeskLaw" 44 11 yX11_put cX11_put 5 (some .int) 2 := ⟨⟨TX11, 9, rfl⟩, tw_799, tw_800, tw_801, tw_72, tw_802, ⟨by decide, by decide, by decide +kernel⟩⟩
theorem tw_1312 : ((Jvm.Cond.methodLink "MeterDeskLaw" (47 : Nat) ({ cls := "MeterDeskModel", name := "put", desc := "(II)I" } : Jvm.MethodName))) ∈ lw_gt := gt_of 1312 (by decide +kernel) (by decide +kernel)
theorem tw_1313 : ((Jvm.Cond.instanceMethod ({ cls := "MeterDeskModel", name := "put", desc := "(II)I" } : Jvm.MethodName))) ∈ lw_gt := gt_of 1313 (by decide +kernel) (by decide +kernel)
theorem tw_1314 : ((Jvm.Cond.selects "MeterDeskModel" ({ cls := "MeterDeskModel", name := "put", desc := "(II)I" } : Jvm.MethodName) ({ cls := "MeterDeskModel", name := "put", desc := "(II)I" } : Jvm.MethodName))) ∈ lw_gt := gt_of 1314 (by decide +kernel) (by decide +kernel)
theorem tw_1315 : ((Jvm.Cond.code ({ cls := "MeterDeskModel", name := "put", desc := "(II)I" } : Jvm.MethodName) prog_14_method_50_code (3 : Nat) (Option.some Jvm.ClassFile.FieldType.int))) ∈ lw_gt := gt_of 1315 (by decide +kernel) (by decide +kernel)
theorem kvL_47 : ux_LV "MeterDeskLaw" 47 12 yX12_put cX12_put 3 (some .int) 2 := ⟨⟨TX12, 31, rfl⟩, tw_1312, tw_1313, tw_1314, tw_87, tw_1315, ⟨by decide, by decide, by decide +kernel⟩⟩
theorem tw_817 : ((Jvm.Cond.methodLink "MeterDeskLaw" (48 : Nat) ({ cls := "MeterDesk", name := "spoil", desc := "(I)I" } : Jvm.MethodName))) ∈ lw_gt := gt_of 817 (by decide +kernel) (by decide +kernel)
theorem tw_818 : ((Jvm.Cond.instanceMethod ({ cls := "MeterDesk", name := "spoil", desc := "(I)I" } : Jvm.MethodName))) ∈ lw_gt := gt_of 818 (by decide +kernel) (by decide +kernel)
theorem tw_819 : ((Jvm.Cond.selects "MeterDesk" ({ cls := "MeterDesk", name := "spoil", desc := "(I)I" } : Jvm.MethodName) ({ cls := "MeterDesk", name := "spoil", desc := "(I)I" } : Jvm.MethodName))) ∈ lw_gt := gt_of 819 (by decide +kernel) (by decide +kernel)
theorem tw_820 : ((Jvm.Cond.code ({ cls := "MeterDesk", name := "spoil", desc := "(I)I" } : Jvm.MethodName) prog_1_method_10_code (2 : Nat) (Option.some Jvm.ClassFile.FieldType.int))) ∈ lw_gt := gt_of 820 (by decide +kernel) (by decide +kernel)
theorem kvL_48 : ux_LV "MeterDeskLaw" 48 11 yX11_spoil cX11_spoil 2 (some .int) 1 := ⟨⟨TX11, 9, rfl⟩, tw_817, tw_818, tw_819, tw_72, tw_820, ⟨by decide, by decide, by decide +kernel⟩⟩
theorem tw_1329 : ((Jvm.Cond.methodLink "MeterDeskLaw" (51 : Nat) ({ cls := "MeterDeskModel", name := "spoil", desc := "(I)I" } : Jvm.MethodName))) ∈ lw_gt := gt_of 1329 (by decide +kernel) (by decide +kernel)
theorem tw_1330 : ((Jvm.Cond.instanceMethod ({ cls := "MeterDeskModel", name := "spoil", desc := "(I)I" } : Jvm.MethodName))) ∈ lw_gt := gt_of 1330 (by decide +kernel) (by decide +kernel)
theorem tw_1331 : ((Jvm.Cond.selects "MeterDeskModel" ({ cls := "MeterDeskModel", name := "spoil", desc := "(I)I" } : Jvm.MethodName) ({ cls := "MeterDeskModel", name := "spoil", desc := "(I)I" } : Jvm.MethodName))) ∈ lw_gt := gt_of 1331 (by decide +kernel) (by decide +kernel)
theorem tw_1332 : ((Jvm.Cond.code ({ cls := "MeterDeskModel", name := "spoil", desc := "(I)I" } : Jvm.MethodName) prog_14_method_52_code (2 : Nat) (Option.some Jvm.ClassFile.FieldType.int))) ∈ lw_gt := gt_of 1332 (by decide +kernel) (by decide +kernel)
theorem kvL_51 : ux_LV "MeterDeskLaw" 51 12 yX12_spoil cX12_spoil 2 (some .int) 1 := ⟨⟨TX12, 31, rfl⟩, tw_1329, tw_1330, tw_1331, tw_87, tw_1332, ⟨by decide, by decide, by decide +kernel⟩⟩
theorem tw_821 : ((Jvm.Cond.methodLink "MeterDeskLaw" (52 : Nat) ({ cls := "MeterDesk", name := "mend", desc := "(I)I" } : Jvm.MethodName))) ∈ lw_gt := gt_of 821 (by decide +kernel) (by decide +kernel)
theorem tw_822 : ((Jvm.Cond.instanceMethod ({ cls := "MeterDesk", name := "mend", desc := "(I)I" } : Jvm.MethodName))) ∈ lw_gt := gt_of 822 (by decide +kernel) (by decide +kernel)
theorem tw_823 : ((Jvm.Cond.selects "MeterDesk" ({ cls := "MeterDesk", name := "mend", desc := "(I)I" } : Jvm.MethodName) ({ cls := "MeterDesk", name := "mend", desc := "(I)I" } : Jvm.MethodName))) ∈ lw_gt := gt_of 823 (by decide +kernel) (by decide +kernel)
theorem tw_824 : ((Jvm.Cond.code ({ cls := "MeterDesk", name := "mend", desc := "(I)I" } : Jvm.MethodName) prog_1_method_11_code (2 : Nat) (Option.some Jvm.ClassFile.FieldType.int))) ∈ lw_gt := gt_of 824 (by decide +kernel) (by decide +kernel)
theorem kvL_52 : ux_LV "MeterDeskLaw" 52 11 yX11_mend cX11_mend 2 (some .int) 1 := ⟨⟨TX11, 9, rfl⟩, tw_821, tw_822, tw_823, tw_72, tw_824, ⟨by decide, by decide, by decide +kernel⟩⟩
theorem tw_1337 : ((Jvm.Cond.methodLink "MeterDeskLaw" (55 : Nat) ({ cls := "MeterDeskModel", name := "mend", desc := "(I)I" } : Jvm.MethodName))) ∈ lw_gt := gt_of 1337 (by decide +kernel) (by decide +kernel)
theorem tw_1338 : ((Jvm.Cond.instanceMethod ({ cls := "MeterDeskModel", name := "mend", desc := "(I)I" } : Jvm.MethodName))) ∈ lw_gt := gt_of 1338 (by decide +kernel) (by decide +kernel)
theorem tw_1339 : ((Jvm.Cond.selects "MeterDeskModel" ({ cls := "MeterDeskModel", name := "mend", desc := "(I)I" } : Jvm.MethodName) ({ cls := "MeterDeskModel", name := "mend", desc := "(I)I" } : Jvm.MethodName))) ∈ lw_gt := gt_of 1339 (by decide +kernel) (by decide +kernel)
theorem tw_1340 : ((Jvm.Cond.code ({ cls := "MeterDeskModel", name := "mend", desc := "(I)I" } : Jvm.MethodName) prog_14_method_53_code (2 : Nat) (Option.some Jvm.ClassFile.FieldType.int))) ∈ lw_gt := gt_of 1340 (by decide +kernel) (by decide +kernel)
theorem kvL_55 : ux_LV "MeterDeskLaw" 55 12 yX12_mend cX12_mend 2 (some .int) 1 := ⟨⟨TX12, 31, rfl⟩, tw_1337, tw_1338, tw_1339, tw_87, tw_1340, ⟨by decide, by decide, by decide +kernel⟩⟩
theorem tw_825 : ((Jvm.Cond.methodLink "MeterDeskLaw" (56 : Nat) ({ cls := "MeterDesk", name := "cut", desc := "(I)I" } : Jvm.MethodName))) ∈ lw_gt := gt_of 825 (by decide +kernel) (by decide +kernel)
theorem tw_826 : ((Jvm.Cond.instanceMethod ({ cls := "MeterDesk", name := "cut", desc := "(I)I" } : Jvm.MethodName))) ∈ lw_gt := gt_of 826 (by decide +kernel) (by decide +kernel)
theorem tw_827 : ((Jvm.Cond.selects "MeterDesk" ({ cls := "MeterDesk", name := "cut", desc := "(I)I" } : Jvm.MethodName) ({ cls := "MeterDesk", name := "cut", desc := "(I)I" } : Jvm.MethodName))) ∈ lw_gt := gt_of 827 (by decide +kernel) (by decide +kernel)
theorem tw_828 : ((Jvm.Cond.code ({ cls := "MeterDesk", name := "cut", desc := "(I)I" } : Jvm.MethodName) prog_1_method_12_code (2 : Nat) (Option.some Jvm.ClassFile.FieldType.int))) ∈ lw_gt := gt_of 828 (by decide +kernel) (by decide +kernel)
theorem kvL_56 : ux_LV "MeterDeskLaw" 56 11 yX11_cut cX11_cut 2 (some .int) 1 := ⟨⟨TX11, 9, rfl⟩, tw_825, tw_826, tw_827, tw_72, tw_828, ⟨by decide, by decide, by decide +kernel⟩⟩
theorem tw_1341 : ((Jvm.Cond.methodLink "MeterDeskLaw" (59 : Nat) ({ cls := "MeterDeskModel", name := "cut", desc := "(I)I" } : Jvm.MethodName))) ∈ lw_gt := gt_of 1341 (by decide +kernel) (by decide +kernel)
theorem tw_1342 : ((Jvm.Cond.instanceMethod ({ cls := "MeterDeskModel", name := "cut", desc := "(I)I" } : Jvm.MethodName))) ∈ lw_gt := gt_of 1342 (by decide +kernel) (by decide +kernel)
theorem tw_1343 : ((Jvm.Cond.selects "MeterDeskModel" ({ cls := "MeterDeskModel", name := "cut", desc := "(I)I" } : Jvm.MethodName) ({ cls := "MeterDeskModel", name := "cut", desc := "(I)I" } : Jvm.MethodName))) ∈ lw_gt := gt_of 1343 (by decide +kernel) (by decide +kernel)
theorem tw_1344 : ((Jvm.Cond.code ({ cls := "MeterDeskModel", name := "cut", desc := "(I)I" } : Jvm.MethodName) prog_14_method_54_code (2 : Nat) (Option.some Jvm.ClassFile.FieldType.int))) ∈ lw_gt := gt_of 1344 (by decide +kernel) (by decide +kernel)
theorem kvL_59 : ux_LV "MeterDeskLaw" 59 12 yX12_cut cX12_cut 2 (some .int) 1 := ⟨⟨TX12, 31, rfl⟩, tw_1341, tw_1342, tw_1343, tw_87, tw_1344, ⟨by decide, by decide, by decide +kernel⟩⟩
theorem tw_829 : ((Jvm.Cond.methodLink "MeterDeskLaw" (60 : Nat) ({ cls := "MeterDesk", name := "undo", desc := "()I" } : Jvm.MethodName))) ∈ lw_gt := gt_of 829 (by decide +kernel) (by decide +kernel)
theorem tw_830 : ((Jvm.Cond.instanceMethod ({ cls := "MeterDesk", name := "undo", desc := "()I" } : Jvm.MethodName))) ∈ lw_gt := gt_of 830 (by decide +kernel) (by decide +kernel)
theorem tw_831 : ((Jvm.Cond.selects "MeterDesk" ({ cls := "MeterDesk", name := "undo", desc := "()I" } : Jvm.MethodName) ({ cls := "MeterDesk", name := "undo", desc := "()I" } : Jvm.MethodName))) ∈ lw_gt := gt_of 831 (by decide +kernel) (by decide +kernel)
theorem tw_832 : ((Jvm.Cond.code ({ cls := "MeterDesk", name := "undo", desc := "()I" } : Jvm.MethodName) prog_1_method_13_code (1 : Nat) (Option.some Jvm.ClassFile.FieldType.int))) ∈ lw_gt := gt_of 832 (by decide +kernel) (by decide +kernel)
theorem kvL_60 : ux_LV "MeterDeskLaw" 60 11 yX11_undo cX11_undo 1 (some .int) 0 := ⟨⟨TX11, 9, rfl⟩, tw_829, tw_830, tw_831, tw_72, tw_832, ⟨by decide, by decide, by decide +kernel⟩⟩
theorem tw_1345 : ((Jvm.Cond.methodLink "MeterDeskLaw" (63 : Nat) ({ cls := "MeterDeskModel", name := "undo", desc := "()I" } : Jvm.MethodName))) ∈ lw_gt := gt_of 1345 (by decide +kernel) (by decide +kernel)
theorem tw_1346 : ((Jvm.Cond.instanceMethod ({ cls := "MeterDeskModel", name := "undo", desc := "()I" } : Jvm.MethodName))) ∈ lw_gt := gt_of 1346 (by decide +kernel) (by decide +kernel)
theorem tw_1347 : ((Jvm.Cond.selects "MeterDeskModel" ({ cls := "MeterDeskModel", name := "undo", desc := "()I" } : Jvm.MethodName) ({ cls := "MeterDeskModel", name := "undo", desc := "()I" } : Jvm.MethodName))) ∈ lw_gt := gt_of 1347 (by decide +kernel) (by decide +kernel)
theorem tw_1348 : ((Jvm.Cond.code ({ cls := "MeterDeskModel", name := "undo", desc := "()I" } : Jvm.MethodName) prog_14_method_55_code (1 : Nat) (Option.some Jvm.ClassFile.FieldType.int))) ∈ lw_gt := gt_of 1348 (by decide +kernel) (by decide +kernel)
theorem kvL_63 : ux_LV "MeterDeskLaw" 63 12 yX12_undo cX12_undo 1 (some .int) 0 := ⟨⟨TX12, 31, rfl⟩, tw_1345, tw_1346, tw_1347, tw_87, tw_1348, ⟨by decide, by decide, by decide +kernel⟩⟩
theorem tw_837 : ((Jvm.Cond.methodLink "MeterDeskLaw" (64 : Nat) ({ cls := "MeterDesk", name := "keep", desc := "(I)I" } : Jvm.MethodName))) ∈ lw_gt := gt_of 837 (by decide +kernel) (by decide +kernel)
theorem tw_838 : ((Jvm.Cond.instanceMethod ({ cls := "MeterDesk", name := "keep", desc := "(I)I" } : Jvm.MethodName))) ∈ lw_gt := gt_of 838 (by decide +kernel) (by decide +kernel)
theorem tw_839 : ((Jvm.Cond.selects "MeterDesk" ({ cls := "MeterDesk", name := "keep", desc := "(I)I" } : Jvm.MethodName) ({ cls := "MeterDesk", name := "keep", desc := "(I)I" } : Jvm.MethodName))) ∈ lw_gt := gt_of 839 (by decide +kernel) (by decide +kernel)
theorem tw_840 : ((Jvm.Cond.code ({ cls := "MeterDesk", name := "keep", desc := "(I)I" } : Jvm.MethodName) prog_1_method_14_code (2 : Nat) (Option.some Jvm.ClassFile.FieldType.int))) ∈ lw_gt := gt_of 840 (by decide +kernel) (by decide +kernel)
theorem kvL_64 : ux_LV "MeterDeskLaw" 64 11 yX11_keep cX11_keep 2 (some .int) 1 := ⟨⟨TX11, 9, rfl⟩, tw_837, tw_838, tw_839, tw_72, tw_840, ⟨by decide, by decide, by decide +kernel⟩⟩
theorem tw_1349 : ((Jvm.Cond.methodLink "MeterDeskLaw" (67 : Nat) ({ cls := "MeterDeskModel", name := "keep", desc := "(I)I" } : Jvm.MethodName))) ∈ lw_gt := gt_of 1349 (by decide +kernel) (by decide +kernel)
theorem tw_1350 : ((Jvm.Cond.instanceMethod ({ cls := "MeterDeskModel", name := "keep", desc := "(I)I" } : Jvm.MethodName))) ∈ lw_gt := gt_of 1350 (by decide +kernel) (by decide +kernel)
theorem tw_1351 : ((Jvm.Cond.selects "MeterDeskModel" ({ cls := "MeterDeskModel", name := "keep", desc := "(I)I" } : Jvm.MethodName) ({ cls := "MeterDeskModel", name := "keep", desc := "(I)I" } : Jvm.MethodName))) ∈ lw_gt := gt_of 1351 (by decide +kernel) (by decide +kernel)
theorem tw_1352 : ((Jvm.Cond.code ({ cls := "MeterDeskModel", name := "keep", desc := "(I)I" } : Jvm.MethodName) prog_14_method_56_code (2 : Nat) (Option.some Jvm.ClassFile.FieldType.int))) ∈ lw_gt := gt_of 1352 (by decide +kernel) (by decide +kernel)
theorem kvL_67 : ux_LV "MeterDeskLaw" 67 12 yX12_keep cX12_keep 2 (some .int) 1 := ⟨⟨TX12, 31, rfl⟩, tw_1349, tw_1350, tw_1351, tw_87, tw_1352, ⟨by decide, by decide, by decide +kernel⟩⟩
theorem tw_845 : ((Jvm.Cond.methodLink "MeterDeskLaw" (68 : Nat) ({ cls := "MeterDesk", name := "back", desc := "(I)I" } : Jvm.MethodName))) ∈ lw_gt := gt_of 845 (by decide +kernel) (by decide +kernel)
theorem tw_846 : ((Jvm.Cond.instanceMethod ({ cls := "MeterDesk", name := "back", desc := "(I)I" } : Jvm.MethodName))) ∈ lw_gt := gt_of 846 (by decide +kernel) (by decide +kernel)
theorem tw_847 : ((Jvm.Cond.selects "MeterDesk" ({ cls := "MeterDesk", name := "back", desc := "(I)I" } : Jvm.MethodName) ({ cls := "MeterDesk", name := "back", desc := "(I)I" } : Jvm.MethodName))) ∈ lw_gt := gt_of 847 (by decide +kernel) (by decide +kernel)
theorem tw_848 : ((Jvm.Cond.code ({ cls := "MeterDesk", name := "back", desc := "(I)I" } : Jvm.MethodName) prog_1_method_15_code (2 : Nat) (Option.some Jvm.ClassFile.FieldType.int))) ∈ lw_gt := gt_of 848 (by decide +kernel) (by decide +kernel)
theorem kvL_68 : ux_LV "MeterDeskLaw" 68 11 yX11_back cX11_back 2 (some .int) 1 := ⟨⟨TX11, 9, rfl⟩, tw_845, tw_846, tw_847, tw_72, tw_848, ⟨by decide, by decide, by decide +kernel⟩⟩
theorem tw_1353 : ((Jvm.Cond.methodLink "MeterDeskLaw" (71 : Nat) ({ cls := "MeterDeskModel", name := "back", desc := "(I)I" } : Jvm.MethodName))) ∈ lw_gt := gt_of 1353 (by decide +kernel) (by decide +kernel)
theorem tw_1354 : ((Jvm.Cond.instanceMethod ({ cls := "MeterDeskModel", name := "back", desc := "(I)I" } : Jvm.MethodName))) ∈ lw_gt := gt_of 1354 (by decide +kernel) (by decide +kernel)
theorem tw_1355 : ((Jvm.Cond.selects "MeterDeskModel" ({ cls := "MeterDeskModel", name := "back", desc := "(I)I" } : Jvm.MethodName) ({ cls := "MeterDeskModel", name := "back", desc := "(I)I" } : Jvm.MethodName))) ∈ lw_gt := gt_of 1355 (by decide +kernel) (by decide +kernel)
theorem tw_1356 : ((Jvm.Cond.code ({ cls := "MeterDeskModel", name := "back", desc := "(I)I" } : Jvm.MethodName) prog_14_method_57_code (2 : Nat) (Option.some Jvm.ClassFile.FieldType.int))) ∈ lw_gt := gt_of 1356 (by decide +kernel) (by decide +kernel)
theorem kvL_71 : ux_LV "MeterDeskLaw" 71 12 yX12_back cX12_back 2 (some .int) 1 := ⟨⟨TX12, 31, rfl⟩, tw_1353, tw_1354, tw_1355, tw_87, tw_1356, ⟨by decide, by decide, by decide +kernel⟩⟩
theorem tw_849 : ((Jvm.Cond.methodLink "MeterDeskLaw" (72 : Nat) ({ cls := "MeterDesk", name := "island", desc := "(I)I" } : Jvm.MethodName))) ∈ lw_gt := gt_of 849 (by decide +kernel) (by decide +kernel)
theorem tw_850 : ((Jvm.Cond.instanceMethod ({ cls := "MeterDesk", name := "island", desc := "(I)I" } : Jvm.MethodName))) ∈ lw_gt := gt_of 850 (by decide +kernel) (by decide +kernel)
theorem tw_851 : ((Jvm.Cond.selects "MeterDesk" ({ cls := "MeterDesk", name := "island", desc := "(I)I" } : Jvm.MethodName) ({ cls := "MeterDesk", name := "island", desc := "(I)I" } : Jvm.MethodName))) ∈ lw_gt := gt_of 851 (by decide +kernel) (by decide +kernel)
theorem tw_852 : ((Jvm.Cond.code ({ cls := "MeterDesk", name := "island", desc := "(I)I" } : Jvm.MethodName) prog_1_method_16_code (2 : Nat) (Option.some Jvm.ClassFile.FieldType.int))) ∈ lw_gt := gt_of 852 (by decide +kernel) (by decide +kernel)
theorem kvL_72 : ux_LV "MeterDeskLaw" 72 11 yX11_island cX11_island 2 (some .int) 1 := ⟨⟨TX11, 9, rfl⟩, tw_849, tw_850, tw_851, tw_72, tw_852, ⟨by decide, by decide, by decide +kernel⟩⟩
theorem tw_1357 : ((Jvm.Cond.methodLink "MeterDeskLaw" (75 : Nat) ({ cls := "MeterDeskModel", name := "island", desc := "(I)I" } : Jvm.MethodName))) ∈ lw_gt := gt_of 1357 (by decide +kernel) (by decide +kernel)
theorem tw_1358 : ((Jvm.Cond.instanceMethod ({ cls := "MeterDeskModel", name := "island", desc := "(I)I" } : Jvm.MethodName))) ∈ lw_gt := gt_of 1358 (by decide +kernel) (by decide +kernel)
theorem tw_1359 : ((Jvm.Cond.selects "MeterDeskModel" ({ cls := "MeterDeskModel", name := "island", desc := "(I)I" } : Jvm.MethodName) ({ cls := "MeterDeskModel", name := "island", desc := "(I)I" } : Jvm.MethodName))) ∈ lw_gt := gt_of 1359 (by decide +kernel) (by decide +kernel)
theorem tw_1360 : ((Jvm.Cond.code ({ cls := "MeterDeskModel", name := "island", desc := "(I)I" } : Jvm.MethodName) prog_14_method_58_code (4 : Nat) (Option.some Jvm.ClassFile.FieldType.int))) ∈ lw_gt := gt_of 1360 (by decide +kernel) (by decide +kernel)
theorem kvL_75 : ux_LV "MeterDeskLaw" 75 12 yX12_island cX12_island 4 (some .int) 1 := ⟨⟨TX12, 31, rfl⟩, tw_1357, tw_1358, tw_1359, tw_87, tw_1360, ⟨by decide, by decide, by decide +kernel⟩⟩
theorem tw_857 : ((Jvm.Cond.methodLink "MeterDeskLaw" (76 : Nat) ({ cls := "MeterDesk", name := "weak", desc := "(I)I" } : Jvm.MethodName))) ∈ lw_gt := gt_of 857 (by decide +kernel) (by decide +kernel)
theorem tw_858 : ((Jvm.Cond.instanceMethod ({ cls := "MeterDesk", name := "weak", desc := "(I)I" } : Jvm.MethodName))) ∈ lw_gt := gt_of 858 (by decide +kernel) (by decide +kernel)
theorem tw_859 : ((Jvm.Cond.selects "MeterDesk" ({ cls := "MeterDesk", name := "weak", desc := "(I)I" } : Jvm.MethodName) ({ cls := "MeterDesk", name := "weak", desc := "(I)I" } : Jvm.MethodName))) ∈ lw_gt := gt_of 859 (by decide +kernel) (by decide +kernel)
theorem tw_860 : ((Jvm.Cond.code ({ cls := "MeterDesk", name := "weak", desc := "(I)I" } : Jvm.MethodName) prog_1_method_17_code (3 : Nat) (Option.some Jvm.ClassFile.FieldType.int))) ∈ lw_gt := gt_of 860 (by decide +kernel) (by decide +kernel)
theorem kvL_76 : ux_LV "MeterDeskLaw" 76 11 yX11_weak cX11_weak 3 (some .int) 1 := ⟨⟨TX11, 9, rfl⟩, tw_857, tw_858, tw_859, tw_72, tw_860, ⟨by decide, by decide, by decide +kernel⟩⟩
theorem tw_1361 : ((Jvm.Cond.methodLink "MeterDeskLaw" (79 : Nat) ({ cls := "MeterDeskModel", name := "weak", desc := "(I)I" } : Jvm.MethodName))) ∈ lw_gt := gt_of 1361 (by decide +kernel) (by decide +kernel)
theorem tw_1362 : ((Jvm.Cond.instanceMethod ({ cls := "MeterDeskModel", name := "weak", desc := "(I)I" } : Jvm.MethodName))) ∈ lw_gt := gt_of 1362 (by decide +kernel) (by decide +kernel)
theorem tw_1363 : ((Jvm.Cond.selects "MeterDeskModel" ({ cls := "MeterDeskModel", name := "weak", desc := "(I)I" } : Jvm.MethodName) ({ cls := "MeterDeskModel", name := "weak", desc := "(I)I" } : Jvm.MethodName))) ∈ lw_gt := gt_of 1363 (by decide +kernel) (by decide +kernel)
theorem tw_1364 : ((Jvm.Cond.code ({ cls := "MeterDeskModel", name := "weak", desc := "(I)I" } : Jvm.MethodName) prog_14_method_59_code (7 : Nat) (Option.some Jvm.ClassFile.FieldType.int))) ∈ lw_gt := gt_of 1364 (by decide +kernel) (by decide +kernel)
theorem kvL_79 : ux_LV "MeterDeskLaw" 79 12 yX12_weak cX12_weak 7 (some .int) 1 := ⟨⟨TX12, 31, rfl⟩, tw_1361, tw_1362, tw_1363, tw_87, tw_1364, ⟨by decide, by decide, by decide +kernel⟩⟩
theorem tw_878 : ((Jvm.Cond.methodLink "MeterDeskLaw" (80 : Nat) ({ cls := "MeterDesk", name := "deal", desc := "(I)I" } : Jvm.MethodName))) ∈ lw_gt := gt_of 878 (by decide +kernel) (by decide +kernel)
theorem tw_879 : ((Jvm.Cond.instanceMethod ({ cls := "MeterDesk", name := "deal", desc := "(I)I" } : Jvm.MethodName))) ∈ lw_gt := gt_of 879 (by decide +kernel) (by decide +kernel)
theorem tw_880 : ((Jvm.Cond.selects "MeterDesk" ({ cls := "MeterDesk", name := "deal", desc := "(I)I" } : Jvm.MethodName) ({ cls := "MeterDesk", name := "deal", desc := "(I)I" } : Jvm.MethodName))) ∈ lw_gt := gt_of 880 (by decide +kernel) (by decide +kernel)
theorem tw_881 : ((Jvm.Cond.code ({ cls := "MeterDesk", name := "deal", desc := "(I)I" } : Jvm.MethodName) prog_1_method_18_code (3 : Nat) (Option.some Jvm.ClassFile.FieldType.int))) ∈ lw_gt := gt_of 881 (by decide +kernel) (by decide +kernel)
theorem kvL_80 : ux_LV "MeterDeskLaw" 80 11 yX11_deal cX11_deal 3 (some .int) 1 := ⟨⟨TX11, 9, rfl⟩, tw_878, tw_879, tw_880, tw_72, tw_881, ⟨by decide, by decide, by decide +kernel⟩⟩
theorem tw_1365 : ((Jvm.Cond.methodLink "MeterDeskLaw" (83 : Nat) ({ cls := "MeterDeskModel", name := "deal", desc := "(I)I" } : Jvm.MethodName))) ∈ lw_gt := gt_of 1365 (by decide +kernel) (by decide +kernel)
theorem tw_1366 : ((Jvm.Cond.instanceMethod ({ cls := "MeterDeskModel", name := "deal", desc := "(I)I" } : Jvm.MethodName))) ∈ lw_gt := gt_of 1366 (by decide +kernel) (by decide +kernel)
theorem tw_1367 : ((Jvm.Cond.selects "MeterDeskModel" ({ cls := "MeterDeskModel", name := "deal", desc := "(I)I" } : Jvm.MethodName) ({ cls := "MeterDeskModel", name := "deal", desc := "(I)I" } : Jvm.MethodName))) ∈ lw_gt := gt_of 1367 (by decide +kernel) (by decide +kernel)
theorem tw_1368 : ((Jvm.Cond.code ({ cls := "MeterDeskModel", name := "deal", desc := "(I)I" } : Jvm.MethodName) prog_14_method_63_code (7 : Nat) (Option.some Jvm.ClassFile.FieldType.int))) ∈ lw_gt := gt_of 1368 (by decide +kernel) (by decide +kernel)
theorem kvL_83 : ux_LV "MeterDeskLaw" 83 12 yX12_deal cX12_deal 7 (some .int) 1 := ⟨⟨TX12, 31, rfl⟩, tw_1365, tw_1366, tw_1367, tw_87, tw_1368, ⟨by decide, by decide, by decide +kernel⟩⟩
theorem tw_899 : ((Jvm.Cond.methodLink "MeterDeskLaw" (84 : Nat) ({ cls := "MeterDesk", name := "lost", desc := "(I)I" } : Jvm.MethodName))) ∈ lw_gt := gt_of 899 (by decide +kernel) (by decide +kernel)
theorem tw_900 : ((Jvm.Cond.instanceMethod ({ cls := "MeterDesk", name := "lost", desc := "(I)I" } : Jvm.MethodName))) ∈ lw_gt := gt_of 900 (by decide +kernel) (by decide +kernel)
theorem tw_901 : ((Jvm.Cond.selects "MeterDesk" ({ cls := "MeterDesk", name := "lost", desc := "(I)I" } : Jvm.MethodName) ({ cls := "MeterDesk", name := "lost", desc := "(I)I" } : Jvm.MethodName))) ∈ lw_gt := gt_of 901 (by decide +kernel) (by decide +kernel)
theorem tw_902 : ((Jvm.Cond.code ({ cls := "MeterDesk", name := "lost", desc := "(I)I" } : Jvm.MethodName) prog_1_method_19_code (2 : Nat) (Option.some Jvm.ClassFile.FieldType.int))) ∈ lw_gt := gt_of 902 (by decide +kernel) (by decide +kernel)
theorem kvL_84 : ux_LV "MeterDeskLaw" 84 11 yX11_lost cX11_lost 2 (some .int) 1 := ⟨⟨TX11, 9, rfl⟩, tw_899, tw_900, tw_901, tw_72, tw_902, ⟨by decide, by decide, by decide +kernel⟩⟩
theorem tw_1381 : ((Jvm.Cond.methodLink "MeterDeskLaw" (87 : Nat) ({ cls := "MeterDeskModel", name := "lost", desc := "(I)I" } : Jvm.MethodName))) ∈ lw_gt := gt_of 1381 (by decide +kernel) (by decide +kernel)
theorem tw_1382 : ((Jvm.Cond.instanceMethod ({ cls := "MeterDeskModel", name := "lost", desc := "(I)I" } : Jvm.MethodName))) ∈ lw_gt := gt_of 1382 (by decide +kernel) (by decide +kernel)
theorem tw_1383 : ((Jvm.Cond.selects "MeterDeskModel" ({ cls := "MeterDeskModel", name := "lost", desc := "(I)I" } : Jvm.MethodName) ({ cls := "MeterDeskModel", name := "lost", desc := "(I)I" } : Jvm.MethodName))) ∈ lw_gt := gt_of 1383 (by decide +kernel) (by decide +kernel)
theorem tw_1384 : ((Jvm.Cond.code ({ cls := "MeterDeskModel", name := "lost", desc := "(I)I" } : Jvm.MethodName) prog_14_method_64_code (2 : Nat) (Option.some Jvm.ClassFile.FieldType.int))) ∈ lw_gt := gt_of 1384 (by decide +kernel) (by decide +kernel)
theorem kvL_87 : ux_LV "MeterDeskLaw" 87 12 yX12_lost cX12_lost 2 (some .int) 1 := ⟨⟨TX12, 31, rfl⟩, tw_1381, tw_1382, tw_1383, tw_87, tw_1384, ⟨by decide, by decide, by decide +kernel⟩⟩
theorem tw_907 : ((Jvm.Cond.methodLink "MeterDeskLaw" (88 : Nat) ({ cls := "MeterDesk", name := "brings", desc := "(II)I" } : Jvm.MethodName))) ∈ lw_gt := gt_of 907 (by decide +kernel) (by decide +kernel)
theorem tw_908 : ((Jvm.Cond.instanceMethod ({ cls := "MeterDesk", name := "brings", desc := "(II)I" } : Jvm.MethodName))) ∈ lw_gt := gt_of 908 (by decide +kernel) (by decide +kernel)
theorem tw_909 : ((Jvm.Cond.selects "MeterDesk" ({ cls := "MeterDesk", name := "brings", desc := "(II)I" } : Jvm.MethodName) ({ cls := "MeterDesk", name := "brings", desc := "(II)I" } : Jvm.MethodName))) ∈ lw_gt := gt_of 909 (by decide +kernel) (by decide +kernel)
theorem tw_910 : ((Jvm.Cond.code ({ cls := "MeterDesk", name := "brings", desc := "(II)I" } : Jvm.MethodName) prog_1_method_20_code (4 : Nat) (Option.some Jvm.ClassFile.FieldType.int))) ∈ lw_gt := gt_of 910 (by decide +kernel) (by decide +kernel)
theorem kvL_88 : ux_LV "MeterDeskLaw" 88 11 yX11_brings cX11_brings 4 (some .int) 2 := ⟨⟨TX11, 9, rfl⟩, tw_907, tw_908, tw_909, tw_72, tw_910, ⟨by decide, by decide, by decide +kernel⟩⟩
theorem tw_1385 : ((Jvm.Cond.methodLink "MeterDeskLaw" (91 : Nat) ({ cls := "MeterDeskModel", name := "brings", desc := "(II)I" } : Jvm.MethodName))) ∈ lw_gt := gt_of 1385 (by decide +kernel) (by decide +kernel)
theorem tw_1386 : ((Jvm.Cond.instanceMethod ({ cls := "MeterDeskModel", name := "brings", desc := "(II)I" } : Jvm.MethodName))) ∈ lw_gt := gt_of 1386 (by decide +kernel) (by decide +kernel)
theorem tw_1387 : ((Jvm.Cond.selects "MeterDeskModel" ({ cls := "MeterDeskModel", name := "brings", desc := "(II)I" } : Jvm.MethodName) ({ cls := "MeterDeskModel", name := "brings", desc := "(II)I" } : Jvm.MethodName))) ∈ lw_gt := gt_of 1387 (by decide +kernel) (by decide +kernel)
theorem tw_1388 : ((Jvm.Cond.code ({ cls := "MeterDeskModel", name := "brings", desc := "(II)I" } : Jvm.MethodName) prog_14_method_65_code (3 : Nat) (Option.some Jvm.ClassFile.FieldType.int))) ∈ lw_gt := gt_of 1388 (by decide +kernel) (by decide +kernel)
theorem kvL_91 : ux_LV "MeterDeskLaw" 91 12 yX12_brings cX12_brings 3 (some .int) 2 := ⟨⟨TX12, 31, rfl⟩, tw_1385, tw_1386, tw_1387, tw_87, tw_1388, ⟨by decide, by decide, by decide +kernel⟩⟩
theorem tw_911 : ((Jvm.Cond.methodLink "MeterDeskLaw" (92 : Nat) ({ cls := "MeterDesk", name := "seen", desc := "(II)I" } : Jvm.MethodName))) ∈ lw_gt := gt_of 911 (by decide +kernel) (by decide +kernel)
theorem tw_912 : ((Jvm.Cond.instanceMethod ({ cls := "MeterDesk", name := "seen", desc := "(II)I" } : Jvm.MethodName))) ∈ lw_gt := gt_of 912 (by decide +kernel) (by decide +kernel)
theorem tw_913 : ((Jvm.Cond.selects "MeterDesk" ({ cls := "MeterDesk", name := "seen", desc := "(II)I" } : Jvm.MethodName) ({ cls := "MeterDesk", name := "seen", desc := "(II)I" } : Jvm.MethodName))) ∈ lw_gt := gt_of 913 (by decide +kernel) (by decide +kernel)
theorem tw_914 : ((Jvm.Cond.code ({ cls := "MeterDesk", name := "seen", desc := "(II)I" } : Jvm.MethodName) prog_1_method_21_code (3 : Nat) (Option.some Jvm.ClassFile.FieldType.int))) ∈ lw_gt := gt_of 914 (by decide +kernel) (by decide +kernel)
theorem kvL_92 : ux_LV "MeterDeskLaw" 92 11 yX11_seen cX11_seen 3 (some .int) 2 := ⟨⟨TX11, 9, rfl⟩, tw_911, tw_912, tw_913, tw_72, tw_914, ⟨by decide, by decide, by decide +kernel⟩⟩
theorem tw_1389 : ((Jvm.Cond.methodLink "MeterDeskLaw" (95 : Nat) ({ cls := "MeterDeskModel", name := "seen", desc := "(II)I" } : Jvm.MethodName))) ∈ lw_gt := gt_of 1389 (by decide +kernel) (by decide +kernel)
theorem tw_1390 : ((Jvm.Cond.instanceMethod ({ cls := "MeterDeskModel", name := "seen", desc := "(II)I" } : Jvm.MethodName))) ∈ lw_gt := gt_of 1390 (by decide +kernel) (by decide +kernel)
theorem tw_1391 : ((Jvm.Cond.selects "MeterDeskModel" ({ cls := "MeterDeskModel", name := "seen", desc := "(II)I" } : Jvm.MethodName) ({ cls := "MeterDeskModel", name := "seen", desc := "(II)I" } : Jvm.MethodName))) ∈ lw_gt := gt_of 1391 (by decide +kernel) (by decide +kernel)
theorem tw_1392 : ((Jvm.Cond.code ({ cls := "MeterDeskModel", name := "seen", desc := "(II)I" } : Jvm.MethodName) prog_14_method_66_code (3 : Nat) (Option.some Jvm.ClassFile.FieldType.int))) ∈ lw_gt := gt_of 1392 (by decide +kernel) (by decide +kernel)
theorem kvL_95 : ux_LV "MeterDeskLaw" 95 12 yX12_seen cX12_seen 3 (some .int) 2 := ⟨⟨TX12, 31, rfl⟩, tw_1389, tw_1390, tw_1391, tw_87, tw_1392, ⟨by decide, by decide, by decide +kernel⟩⟩
theorem tw_919 : ((Jvm.Cond.methodLink "MeterDeskLaw" (96 : Nat) ({ cls := "MeterDesk", name := "forget", desc := "()I" } : Jvm.MethodName))) ∈ lw_gt := gt_of 919 (by decide +kernel) (by decide +kernel)
theorem tw_920 : ((Jvm.Cond.instanceMethod ({ cls := "MeterDesk", name := "forget", desc := "()I" } : Jvm.MethodName))) ∈ lw_gt := gt_of 920 (by decide +kernel) (by decide +kernel)
theorem tw_921 : ((Jvm.Cond.selects "MeterDesk" ({ cls := "MeterDesk", name := "forget", desc := "()I" } : Jvm.MethodName) ({ cls := "MeterDesk", name := "forget", desc := "()I" } : Jvm.MethodName))) ∈ lw_gt := gt_of 921 (by decide +kernel) (by decide +kernel)
theorem tw_922 : ((Jvm.Cond.code ({ cls := "MeterDesk", name := "forget", desc := "()I" } : Jvm.MethodName) prog_1_method_22_code (2 : Nat) (Option.some Jvm.ClassFile.FieldType.int))) ∈ lw_gt := gt_of 922 (by decide +kernel) (by decide +kernel)
theorem kvL_96 : ux_LV "MeterDeskLaw" 96 11 yX11_forget cX11_forget 2 (some .int) 0 := ⟨⟨TX11, 9, rfl⟩, tw_919, tw_920, tw_921, tw_72, tw_922, ⟨by decide, by decide, by decide +kernel⟩⟩
theorem tw_1395 : ((Jvm.Cond.methodLink "MeterDeskLaw" (99 : Nat) ({ cls := "MeterDeskModel", name := "forget", desc := "()I" } : Jvm.MethodName))) ∈ lw_gt := gt_of 1395 (by decide +kernel) (by decide +kernel)
theorem tw_1396 : ((Jvm.Cond.instanceMethod ({ cls := "MeterDeskModel", name := "forget", desc := "()I" } : Jvm.MethodName))) ∈ lw_gt := gt_of 1396 (by decide +kernel) (by decide +kernel)
theorem tw_1397 : ((Jvm.Cond.selects "MeterDeskModel" ({ cls := "MeterDeskModel", name := "forget", desc := "()I" } : Jvm.MethodName) ({ cls := "MeterDeskModel", name := "forget", desc := "()I" } : Jvm.MethodName))) ∈ lw_gt := gt_of 1397 (by decide +kernel) (by decide +kernel)
theorem tw_1398 : ((Jvm.Cond.code ({ cls := "MeterDeskModel", name := "forget", desc := "()I" } : Jvm.MethodName) prog_14_method_67_code (2 : Nat) (Option.some Jvm.ClassFile.FieldType.int))) ∈ lw_gt := gt_of 1398 (by decide +kernel) (by decide +kernel)
theorem kvL_99 : ux_LV "MeterDeskLaw" 99 12 yX12_forget cX12_forget 2 (some .int) 0 := ⟨⟨TX12, 31, rfl⟩, tw_1395, tw_1396, tw_1397, tw_87, tw_1398, ⟨by decide, by decide, by decide +kernel⟩⟩
theorem tw_923 : ((Jvm.Cond.methodLink "MeterDeskLaw" (100 : Nat) ({ cls := "MeterDesk", name := "fit", desc := "()I" } : Jvm.MethodName))) ∈ lw_gt := gt_of 923 (by decide +kernel) (by decide +kernel)
theorem tw_924 : ((Jvm.Cond.instanceMethod ({ cls := "MeterDesk", name := "fit", desc := "()I" } : Jvm.MethodName))) ∈ lw_gt := gt_of 924 (by decide +kernel) (by decide +kernel)
theorem tw_925 : ((Jvm.Cond.selects "MeterDesk" ({ cls := "MeterDesk", name := "fit", desc := "()I" } : Jvm.MethodName) ({ cls := "MeterDesk", name := "fit", desc := "()I" } : Jvm.MethodName))) ∈ lw_gt := gt_of 925 (by decide +kernel) (by decide +kernel)
theorem tw_926 : ((Jvm.Cond.code ({ cls := "MeterDesk", name := "fit", desc := "()I" } : Jvm.MethodName) prog_1_method_23_code (1 : Nat) (Option.some Jvm.ClassFile.FieldType.int))) ∈ lw_gt := gt_of 926 (by decide +kernel) (by decide +kernel)
theorem kvL_100 : ux_LV "MeterDeskLaw" 100 11 yX11_fit cX11_fit 1 (some .int) 0 := ⟨⟨TX11, 9, rfl⟩, tw_923, tw_924, tw_925, tw_72, tw_926, ⟨by decide, by decide, by decide +kernel⟩⟩
theorem tw_1399 : ((Jvm.Cond.methodLink "MeterDeskLaw" (103 : Nat) ({ cls := "MeterDeskModel", name := "fit", desc := "()I" } : Jvm.MethodName))) ∈ lw_gt := gt_of 1399 (by decide +kernel) (by decide +kernel)
theorem kvL_103 : ux_LV "MeterDeskLaw" 103 12 yX12_fit cX12_fit 5 (some .int) 0 := ⟨⟨TX12, 31, rfl⟩, tw_1399, tw_1400, tw_1401, tw_87, tw_1402, ⟨by decide, by decide, by decide +kernel⟩⟩
theorem tw_942 : ((Jvm.Cond.methodLink "MeterDeskLaw" (104 : Nat) ({ cls := "MeterDesk", name := "ask", desc := "()I" } : Jvm.MethodName))) ∈ lw_gt := gt_of 942 (by decide +kernel) (by decide +kernel)
theorem tw_943 : ((Jvm.Cond.instanceMethod ({ cls := "MeterDesk", name := "ask", desc := "()I" } : Jvm.MethodName))) ∈ lw_gt := gt_of 943 (by decide +kernel) (by decide +kernel)
theorem tw_944 : ((Jvm.Cond.selects "MeterDesk" ({ cls := "MeterDesk", name := "ask", desc := "()I" } : Jvm.MethodName) ({ cls := "MeterDesk", name := "ask", desc := "()I" } : Jvm.MethodName))) ∈ lw_gt := gt_of 944 (by decide +kernel) (by decide +kernel)
theorem tw_945 : ((Jvm.Cond.code ({ cls := "MeterDesk", name := "ask", desc := "()I" } : Jvm.MethodName) prog_1_method_24_code (1 : Nat) (Option.some Jvm.ClassFile.FieldType.int))) ∈ lw_gt := gt_of 945 (by decide +kernel) (by decide +kernel)
theorem kvL_104 : ux_LV "MeterDeskLaw" 104 11 yX11_ask cX11_ask 1 (some .int) 0 := ⟨⟨TX11, 9, rfl⟩, tw_942, tw_943, tw_944, tw_72, tw_945, ⟨by decide, by decide, by decide +kernel⟩⟩
theorem tw_1403 : ((Jvm.Cond.methodLink "MeterDeskLaw" (107 : Nat) ({ cls := "MeterDeskModel", name := "ask", desc := "()I" } : Jvm.MethodName))) ∈ lw_gt := gt_of 1403 (by decide +kernel) (by decide +kernel)
theorem tw_1404 : ((Jvm.Cond.instanceMethod ({ cls := "MeterDeskModel", name := "ask", desc := "()I" } : Jvm.MethodName))) ∈ lw_gt := gt_of 1404 (by decide +kernel) (by decide +kernel)
theorem tw_1405 : ((Jvm.Cond.selects "MeterDeskModel" ({ cls := "MeterDeskModel", name := "ask", desc := "()I" } : Jvm.MethodName) ({ cls := "MeterDeskModel", name := "ask", desc := "()I" } : Jvm.MethodName))) ∈ lw_gt := gt_of 1405 (by decide +kernel) (by decide +kernel)
theorem tw_1406 : ((Jvm.Cond.code ({ cls := "MeterDeskModel", name := "ask", desc := "()I" } : Jvm.MethodName) prog_14_method_70_code (9 : Nat) (Option.some Jvm.ClassFile.FieldType.int))) ∈ lw_gt := gt_of 1406 (by decide +kernel) (by decide +kernel)
theorem kvL_107 : ux_LV "MeterDeskLaw" 107 12 yX12_ask cX12_ask 9 (some .int) 0 := ⟨⟨TX12, 31, rfl⟩, tw_1403, tw_1404, tw_1405, tw_87, tw_1406, ⟨by decide, by decide, by decide +kernel⟩⟩
theorem tw_959 : ((Jvm.Cond.methodLink "MeterDeskLaw" (108 : Nat) ({ cls := "MeterDesk", name := "tray", desc := "(I)I" } : Jvm.MethodName))) ∈ lw_gt := gt_of 959 (by decide +kernel) (by decide +kernel)
theorem tw_960 : ((Jvm.Cond.instanceMethod ({ cls := "MeterDesk", name := "tray", desc := "(I)I" } : Jvm.MethodName))) ∈ lw_gt := gt_of 960 (by decide +kernel) (by decide +kernel)
theorem tw_961 : ((Jvm.Cond.selects "MeterDesk" ({ cls := "MeterDesk", name := "tray", desc := "(I)I" } : Jvm.MethodName) ({ cls := "MeterDesk", name := "tray", desc := "(I)I" } : Jvm.MethodName))) ∈ lw_gt := gt_of 961 (by decide +kernel) (by decide +kernel)
theorem tw_962 : ((Jvm.Cond.code ({ cls := "MeterDesk", name := "tray", desc := "(I)I" } : Jvm.MethodName) prog_1_method_25_code (2 : Nat) (Option.some Jvm.ClassFile.FieldType.int))) ∈ lw_gt := gt_of 962 (by decide +kernel) (by decide +kernel)
theorem kvL_108 : ux_LV "MeterDeskLaw" 108 11 yX11_tray cX11_tray 2 (some .int) 1 := ⟨⟨TX11, 9, rfl⟩, tw_959, tw_960, tw_961, tw_72, tw_962, ⟨by decide, by decide, by decide +kernel⟩⟩
theorem tw_1412 : ((Jvm.Cond.methodLink "MeterDeskLaw" (111 : Nat) ({ cls := "MeterDeskModel", name := "tray", desc := "(I)I" } : Jvm.MethodName))) ∈ lw_gt := gt_of 1412 (by decide +kernel) (by decide +kernel)
theorem tw_1413 : ((Jvm.Cond.instanceMethod ({ cls := "MeterDeskModel", name := "tray", desc := "(I)I" } : Jvm.MethodName))) ∈ lw_gt := gt_of 1413 (by decide +kernel) (by decide +kernel)
theorem tw_1414 : ((Jvm.Cond.selects "MeterDeskModel" ({ cls := "MeterDeskModel", name := "tray", desc := "(I)I" } : Jvm.MethodName) ({ cls := "MeterDeskModel", name := "tray", desc := "(I)I" } : Jvm.MethodName))) ∈ lw_gt := gt_of 1414 (by decide +kernel) (by decide +kernel)
theorem tw_1415 : ((Jvm.Cond.code ({ cls := "MeterDeskModel", name := "tray", desc := "(I)I" } : Jvm.MethodName) prog_14_method_72_code (2 : Nat) (Option.some Jvm.ClassFile.FieldType.int))) ∈ lw_gt := gt_of 1415 (by decide +kernel) (by decide +kernel)
theorem kvL_111 : ux_LV "MeterDeskLaw" 111 12 yX12_tray cX12_tray 2 (some .int) 1 := ⟨⟨TX12, 31, rfl⟩, tw_1412, tw_1413, tw_1414, tw_87, tw_1415, ⟨by decide, by decide, by decide +kernel⟩⟩
theorem tw_970 : ((Jvm.Cond.methodLink "MeterDeskLaw" (112 : Nat) ({ cls := "MeterDesk", name := "lay", desc := "(III)I" } : Jvm.MethodName))) ∈ lw_gt := gt_of 970 (by decide +kernel) (by decide +kernel)
theorem tw_971 : ((Jvm.Cond.instanceMethod ({ cls := "MeterDesk", name := "lay", desc := "(III)I" } : Jvm.MethodName))) ∈ lw_gt := gt_of 971 (by decide +kernel) (by decide +kernel)
theorem tw_972 : ((Jvm.Cond.selects "MeterDesk" ({ cls := "MeterDesk", name := "lay", desc := "(III)I" } : Jvm.MethodName) ({ cls := "MeterDesk", name := "lay", desc := "(III)I" } : Jvm.MethodName))) ∈ lw_gt := gt_of 972 (by decide +kernel) (by decide +kernel)
theorem tw_973 : ((Jvm.Cond.code ({ cls := "MeterDesk", name := "lay", desc := "(III)I" } : Jvm.MethodName) prog_1_method_26_code (4 : Nat) (Option.some Jvm.ClassFile.FieldType.int))) ∈ lw_gt := gt_of 973 (by decide +kernel) (by decide +kernel)
theorem kvL_112 : ux_LV "MeterDeskLaw" 112 11 yX11_lay cX11_lay 4 (some .int) 3 := ⟨⟨TX11, 9, rfl⟩, tw_970, tw_971, tw_972, tw_72, tw_973, ⟨by decide, by decide, by decide +kernel⟩⟩
theorem tw_1419 : ((Jvm.Cond.methodLink "MeterDeskLaw" (116 : Nat) ({ cls := "MeterDeskModel", name := "lay", desc := "(III)I" } : Jvm.MethodName))) ∈ lw_gt := gt_of 1419 (by decide +kernel) (by decide +kernel)
theorem tw_1420 : ((Jvm.Cond.instanceMethod ({ cls := "MeterDeskModel", name := "lay", desc := "(III)I" } : Jvm.MethodName))) ∈ lw_gt := gt_of 1420 (by decide +kernel) (by decide +kernel)
theorem tw_1421 : ((Jvm.Cond.selects "MeterDeskModel" ({ cls := "MeterDeskModel", name := "lay", desc := "(III)I" } : Jvm.MethodName) ({ cls := "MeterDeskModel", name := "lay", desc := "(III)I" } : Jvm.MethodName))) ∈ lw_gt := gt_of 1421 (by decide +kernel) (by decide +kernel)
theorem tw_1422 : ((Jvm.Cond.code ({ cls := "MeterDeskModel", name := "lay", desc := "(III)I" } : Jvm.MethodName) prog_14_method_73_code (4 : Nat) (Option.some Jvm.ClassFile.FieldType.int))) ∈ lw_gt := gt_of 1422 (by decide +kernel) (by decide +kernel)
theorem kvL_116 : ux_LV "MeterDeskLaw" 116 12 yX12_lay cX12_lay 4 (some .int) 3 := ⟨⟨TX12, 31, rfl⟩, tw_1419, tw_1420, tw_1421, tw_87, tw_1422, ⟨by decide, by decide, by decide +kernel⟩⟩
theorem tw_981 : ((Jvm.Cond.methodLink "MeterDeskLaw" (117 : Nat) ({ cls := "MeterDesk", name := "take", desc := "(II)I" } : Jvm.MethodName))) ∈ lw_gt := gt_of 981 (by decide +kernel) (by decide +kernel)
theorem tw_982 : ((Jvm.Cond.instanceMethod ({ cls := "MeterDesk", name := "take", desc := "(II)I" } : Jvm.MethodName))) ∈ lw_gt := gt_of 982 (by decide +kernel) (by decide +kernel)
theorem tw_983 : ((Jvm.Cond.selects "MeterDesk" ({ cls := "MeterDesk", name := "take", desc := "(II)I" } : Jvm.MethodName) ({ cls := "MeterDesk", name := "take", desc := "(II)I" } : Jvm.MethodName))) ∈ lw_gt := gt_of 983 (by decide +kernel) (by decide +kernel)
theorem tw_984 : ((Jvm.Cond.code ({ cls := "MeterDesk", name := "take", desc := "(II)I" } : Jvm.MethodName) prog_1_method_27_code (3 : Nat) (Option.some Jvm.ClassFile.FieldType.int))) ∈ lw_gt := gt_of 984 (by decide +kernel) (by decide +kernel)
theorem kvL_117 : ux_LV "MeterDeskLaw" 117 11 yX11_take cX11_take 3 (some .int) 2 := ⟨⟨TX11, 9, rfl⟩, tw_981, tw_982, tw_983, tw_72, tw_984, ⟨by decide, by decide, by decide +kernel⟩⟩
theorem tw_1426 : ((Jvm.Cond.methodLink "MeterDeskLaw" (120 : Nat) ({ cls := "MeterDeskModel", name := "take", desc := "(II)I" } : Jvm.MethodName))) ∈ lw_gt := gt_of 1426 (by decide +kernel) (by decide +kernel)
theorem tw_1427 : ((Jvm.Cond.instanceMethod ({ cls := "MeterDeskModel", name := "take", desc := "(II)I" } : Jvm.MethodName))) ∈ lw_gt := gt_of 1427 (by decide +kernel) (by decide +kernel)
theorem tw_1428 : ((Jvm.Cond.selects "MeterDeskModel" ({ cls := "MeterDeskModel", name := "take", desc := "(II)I" } : Jvm.MethodName) ({ cls := "MeterDeskModel", name := "take", desc := "(II)I" } : Jvm.MethodName))) ∈ lw_gt := gt_of 1428 (by decide +kernel) (by decide +kernel)
theorem tw_1429 : ((Jvm.Cond.code ({ cls := "MeterDeskModel", name := "take", desc := "(II)I" } : Jvm.MethodName) prog_14_method_74_code (4 : Nat) (Option.some Jvm.ClassFile.FieldType.int))) ∈ lw_gt := gt_of 1429 (by decide +kernel) (by decide +kernel)
theorem kvL_120 : ux_LV "MeterDeskLaw" 120 12 yX12_take cX12_take 4 (some .int) 2 := ⟨⟨TX12, 31, rfl⟩, tw_1426, tw_1427, tw_1428, tw_87, tw_1429, ⟨by decide, by decide, by decide +kernel⟩⟩
theorem tw_993 : ((Jvm.Cond.methodLink "MeterDeskLaw" (121 : Nat) ({ cls := "MeterDesk", name := "all", desc := "(II)I" } : Jvm.MethodName))) ∈ lw_gt := gt_of 993 (by decide +kernel) (by decide +kernel)
theorem tw_994 : ((Jvm.Cond.instanceMethod ({ cls := "MeterDesk", name := "all", desc := "(II)I" } : Jvm.MethodName))) ∈ lw_gt := gt_of 994 (by decide +kernel) (by decide +kernel)
theorem tw_995 : ((Jvm.Cond.selects "MeterDesk" ({ cls := "MeterDesk", name := "all", desc := "(II)I" } : Jvm.MethodName) ({ cls := "MeterDesk", name := "all", desc := "(II)I" } : Jvm.MethodName))) ∈ lw_gt := gt_of 995 (by decide +kernel) (by decide +kernel)
theorem tw_996 : ((Jvm.Cond.code ({ cls := "MeterDesk", name := "all", desc := "(II)I" } : Jvm.MethodName) prog_1_method_28_code (3 : Nat) (Option.some Jvm.ClassFile.FieldType.int))) ∈ lw_gt := gt_of 996 (by decide +kernel) (by decide +kernel)
theorem kvL_121 : ux_LV "MeterDeskLaw" 121 11 yX11_all cX11_all 3 (some .int) 2 := ⟨⟨TX11, 9, rfl⟩, tw_993, tw_994, tw_995, tw_72, tw_996, ⟨by decide, by decide, by decide +kernel⟩⟩
theorem tw_1431 : ((Jvm.Cond.methodLink "MeterDeskLaw" (124 : Nat) ({ cls := "MeterDeskModel", name := "all", desc := "(II)I" } : Jvm.MethodName))) ∈ lw_gt := gt_of 1431 (by decide +kernel) (by decide +kernel)
theorem tw_1432 : ((Jvm.Cond.instanceMethod ({ cls := "MeterDeskModel", name := "all", desc := "(II)I" } : Jvm.MethodName))) ∈ lw_gt := gt_of 1432 (by decide +kernel) (by decide +kernel)
theorem tw_1433 : ((Jvm.Cond.selects "MeterDeskModel" ({ cls := "MeterDeskModel", name := "all", desc := "(II)I" } : Jvm.MethodName) ({ cls := "MeterDeskModel", name := "all", desc := "(II)I" } : Jvm.MethodName))) ∈ lw_gt := gt_of 1433 (by decide +kernel) (by decide +kernel)
theorem tw_1434 : ((Jvm.Cond.code ({ cls := "MeterDeskModel", name := "all", desc := "(II)I" } : Jvm.MethodName) prog_14_method_75_code (7 : Nat) (Option.some Jvm.ClassFile.FieldType.int))) ∈ lw_gt := gt_of 1434 (by decide +kernel) (by decide +kernel)
theorem kvL_124 : ux_LV "MeterDeskLaw" 124 12 yX12_all cX12_all 7 (some .int) 2 := ⟨⟨TX12, 31, rfl⟩, tw_1431, tw_1432, tw_1433, tw_87, tw_1434, ⟨by decide, by decide, by decide +kernel⟩⟩
theorem tw_1002 : ((Jvm.Cond.methodLink "MeterDeskLaw" (125 : Nat) ({ cls := "MeterDesk", name := "drop", desc := "(I)I" } : Jvm.MethodName))) ∈ lw_gt := gt_of 1002 (by decide +kernel) (by decide +kernel)
theorem tw_1003 : ((Jvm.Cond.instanceMethod ({ cls := "MeterDesk", name := "drop", desc := "(I)I" } : Jvm.MethodName))) ∈ lw_gt := gt_of 1003 (by decide +kernel) (by decide +kernel)
theorem tw_1004 : ((Jvm.Cond.selects "MeterDesk" ({ cls := "MeterDesk", name := "drop", desc := "(I)I" } : Jvm.MethodName) ({ cls := "MeterDesk", name := "drop", desc := "(I)I" } : Jvm.MethodName))) ∈ lw_gt := gt_of 1004 (by decide +kernel) (by decide +kernel)
theorem tw_1005 : ((Jvm.Cond.code ({ cls := "MeterDesk", name := "drop", desc := "(I)I" } : Jvm.MethodName) prog_1_method_29_code (3 : Nat) (Option.some Jvm.ClassFile.FieldType.int))) ∈ lw_gt := gt_of 1005 (by decide +kernel) (by decide +kernel)
theorem kvL_125 : ux_LV "MeterDeskLaw" 125 11 yX11_drop cX11_drop 3 (some .int) 1 := ⟨⟨TX11, 9, rfl⟩, tw_1002, tw_1003, tw_1004, tw_72, tw_1005, ⟨by decide, by decide, by decide +kernel⟩⟩
theorem tw_1436 : ((Jvm.Cond.methodLink "MeterDeskLaw" (128 : Nat) ({ cls := "MeterDeskModel", name := "drop", desc := "(I)I" } : Jvm.MethodName))) ∈ lw_gt := gt_of 1436 (by decide +kernel) (by decide +kernel)
theorem tw_1437 : ((Jvm.Cond.instanceMethod ({ cls := "MeterDeskModel", name := "drop", desc := "(I)I" } : Jvm.MethodName))) ∈ lw_gt := gt_of 1437 (by decide +kernel) (by decide +kernel)
theorem tw_1438 : ((Jvm.Cond.selects "MeterDeskModel" ({ cls := "MeterDeskModel", name := "drop", desc := "(I)I" } : Jvm.MethodName) ({ cls := "MeterDeskModel", name := "drop", desc := "(I)I" } : Jvm.MethodName))) ∈ lw_gt := gt_of 1438 (by decide +kernel) (by decide +kernel)
theorem tw_1439 : ((Jvm.Cond.code ({ cls := "MeterDeskModel", name := "drop", desc := "(I)I" } : Jvm.MethodName) prog_14_method_76_code (3 : Nat) (Option.some Jvm.ClassFile.FieldType.int))) ∈ lw_gt := gt_of 1439 (by decide +kernel) (by decide +kernel)
theorem kvL_128 : ux_LV "MeterDeskLaw" 128 12 yX12_drop cX12_drop 3 (some .int) 1 := ⟨⟨TX12, 31, rfl⟩, tw_1436, tw_1437, tw_1438, tw_87, tw_1439, ⟨by decide, by decide, by decide +kernel⟩⟩
theorem tw_1014 : ((Jvm.Cond.methodLink "MeterDeskLaw" (129 : Nat) ({ cls := "MeterDesk", name := "count", desc := "(I)I" } : Jvm.MethodName))) ∈ lw_gt := gt_of 1014 (by decide +kernel) (by decide +kernel)
theorem tw_1015 : ((Jvm.Cond.instanceMethod ({ cls := "MeterDesk", name := "count", desc := "(I)I" } : Jvm.MethodName))) ∈ lw_gt := gt_of 1015 (by decide +kernel) (by decide +kernel)
theorem tw_1016 : ((Jvm.Cond.selects "MeterDesk" ({ cls := "MeterDesk", name := "count", desc := "(I)I" } : Jvm.MethodName) ({ cls := "MeterDesk", name := "count", desc := "(I)I" } : Jvm.MethodName))) ∈ lw_gt := gt_of 1016 (by decide +kernel) (by decide +kernel)
theorem tw_1017 : ((Jvm.Cond.code ({ cls := "MeterDesk", name := "count", desc := "(I)I" } : Jvm.MethodName) prog_1_method_30_code (2 : Nat) (Option.some Jvm.ClassFile.FieldType.int))) ∈ lw_gt := gt_of 1017 (by decide +kernel) (by decide +kernel)
theorem kvL_129 : ux_LV "MeterDeskLaw" 129 11 yX11_count cX11_count 2 (some .int) 1 := ⟨⟨TX11, 9, rfl⟩, tw_1014, tw_1015, tw_1016, tw_72, tw_1017, ⟨by decide, by decide, by decide +kernel⟩⟩
theorem tw_1440 : ((Jvm.Cond.methodLink "MeterDeskLaw" (132 : Nat) ({ cls := "MeterDeskModel", name := "count", desc := "(I)I" } : Jvm.MethodName))) ∈ lw_gt := gt_of 1440 (by decide +kernel) (by decide +kernel)
theorem tw_1441 : ((Jvm.Cond.instanceMethod ({ cls := "MeterDeskModel", name := "count", desc := "(I)I" } : Jvm.MethodName))) ∈ lw_gt := gt_of 1441 (by decide +kernel) (by decide +kernel)
theorem tw_1442 : ((Jvm.Cond.selects "MeterDeskModel" ({ cls := "MeterDeskModel", name := "count", desc := "(I)I" } : Jvm.MethodName) ({ cls := "MeterDeskModel", name := "count", desc := "(I)I" } : Jvm.MethodName))) ∈ lw_gt := gt_of 1442 (by decide +kernel) (by decide +kernel)
theorem tw_1443 : ((Jvm.Cond.code ({ cls := "MeterDeskModel", name := "count", desc := "(I)I" } : Jvm.MethodName) prog_14_method_79_code (2 : Nat) (Option.some Jvm.ClassFile.FieldType.int))) ∈ lw_gt := gt_of 1443 (by decide +kernel) (by decide +kernel)
theorem kvL_132 : ux_LV "MeterDeskLaw" 132 12 yX12_count cX12_count 2 (some .int) 1 := ⟨⟨TX12, 31, rfl⟩, tw_1440, tw_1441, tw_1442, tw_87, tw_1443, ⟨by decide, by decide, by decide +kernel⟩⟩
theorem ll_c0 (C : ll_C X KC ad b L ss) (hi : i + 4 ≤ L) (h : ivA Nc Lc Nm Lm) (k : ∀ Nc Lc Nm Lm, ivA Nc Lc Nm Lm → ll_Wt X KC ad 861 (ll_lv b KC ad i) [] Nc Lc Nm Lm) : ll_Wt X KC ad 164 (ll_lv b KC ad i) [] Nc Lc Nm Lm := by
  obtain ⟨r, Nc', Nm', e1, e2, e3⟩ := iv_write h (ss (i + 1))
  refine l_aload 165 2 C dL_law_164 rfl rfl ?_
  refine l_arg 170 1 C hi (by decide) dL_law_165 dL_law_166 dL_law_167 dL_law_168 dL_law_169 (by decide) rfl ?_
  refine l_callC 173 [] [.int (ss (i + 1))] C kvL_13 (mX11_write (lc_ok C).1 e1) rfl rfl ⟨by decide, by decide⟩ (show (0 : Nat) ≤ 8 by decide) dL_law_170 rfl ?_
  refine l_aload 174 1 C dL_law_173 rfl rfl ?_
  refine l_arg 179 1 C hi (by decide) dL_law_174 dL_law_175 dL_law_176 dL_law_177 dL_law_178 (by decide) rfl ?_
  refine l_callM 182 [.int r] [.int (ss (i + 1))] C kvL_17 (mX12_write (lc_ok C).2 e2) rfl rfl ⟨by decide, by decide⟩ (show (1 : Nat) ≤ 8 by decide) dL_law_179 rfl ?_
  exact l_eq C dL_law_182 rfl (k _ _ _ _ e3)
theorem ll_c1 (C : ll_C X KC ad b L ss) (hi : i + 4 ≤ L) (h : ivA Nc Lc Nm Lm) (k : ∀ Nc Lc Nm Lm, ivA Nc Lc Nm Lm → ll_Wt X KC ad 861 (ll_lv b KC ad i) [] Nc Lc Nm Lm) : ll_Wt X KC ad 187 (ll_lv b KC ad i) [] Nc Lc Nm Lm := by
  obtain ⟨r, Nc', Nm', e1, e2, e3⟩ := iv_erase h
  refine l_aload 188 2 C dL_law_187 rfl rfl ?_
  refine l_callC 191 [] [] C kvL_18 (mX11_erase (lc_ok C).1 e1) rfl rfl ⟨by decide, by decide⟩ (show (0 : Nat) ≤ 8 by decide) dL_law_188 rfl ?_
  refine l_aload 192 1 C dL_law_191 rfl rfl ?_
  refine l_callM 195 [.int r] [] C kvL_22 (mX12_erase (lc_ok C).2 e2) rfl rfl ⟨by decide, by decide⟩ (show (1 : Nat) ≤ 8 by decide) dL_law_192 rfl ?_
  exact l_eq C dL_law_195 rfl (k _ _ _ _ e3)
theorem ll_c2 (C : ll_C X KC ad b L ss) (hi : i + 4 ≤ L) (h : ivA Nc Lc Nm Lm) (k : ∀ Nc Lc Nm Lm, ivA Nc Lc Nm Lm → ll_Wt X KC ad 861 (ll_lv b KC ad i) [] Nc Lc Nm Lm) : ll_Wt X KC ad 200 (ll_lv b KC ad i) [] Nc Lc Nm Lm := by
  obtain ⟨r, Nc', Nm', e1, e2, e3⟩ := iv_fault h
  refine l_aload 201 2 C dL_law_200 rfl rfl ?_
  refine l_callC 204 [] [] C kvL_23 (mX11_fault (lc_ok C).1 e1) rfl rfl ⟨by decide, by decide⟩ (show (0 : Nat) ≤ 8 by decide) dL_law_201 rfl ?_
  refine l_aload 205 1 C dL_law_204 rfl rfl ?_
  refine l_callM 208 [.int r] [] C kvL_26 (mX12_fault (lc_ok C).2 e2) rfl rfl ⟨by decide, by decide⟩ (show (1 : Nat) ≤ 8 by decide) dL_law_205 rfl ?_
  exact l_eq C dL_law_208 rfl (k _ _ _ _ e3)
theorem ll_c3 (C : ll_C X KC ad b L ss) (hi : i + 4 ≤ L) (h : ivA Nc Lc Nm Lm) (k : ∀ Nc Lc Nm Lm, ivA Nc Lc Nm Lm → ll_Wt X KC ad 861 (ll_lv b KC ad i) [] Nc Lc Nm Lm) : ll_Wt X KC ad 213 (ll_lv b KC ad i) [] Nc Lc Nm Lm := by
  obtain ⟨r, Nc', Lc', Nm', Lm', e1, e2, e3⟩ := iv_grid h
  refine l_aload 214 2 C dL_law_213 rfl rfl ?_
  refine l_callC 217 [] [] C kvL_27 (mX11_grid (lc_ok C).1 e1) rfl rfl ⟨by decide, by decide⟩ (show (0 : Nat) ≤ 8 by decide) dL_law_214 rfl ?_
  refine l_aload 218 1 C dL_law_217 rfl rfl ?_
  refine l_callM 221 [.int r] [] C kvL_30 (mX12_grid (lc_ok C).2 e2) rfl rfl ⟨by decide, by decide⟩ (show (1 : Nat) ≤ 8 by decide) dL_law_218 rfl ?_
  exact l_eq C dL_law_221 rfl (k _ _ _ _ e3)
theorem ll_c4 (C : ll_C X KC ad b L ss) (hi : i + 4 ≤ L) (h : ivA Nc Lc Nm Lm) (k : ∀ Nc Lc Nm Lm, ivA Nc Lc Nm Lm → ll_Wt X KC ad 861 (ll_lv b KC ad i) [] Nc Lc Nm Lm) : ll_Wt X KC ad 226 (ll_lv b KC ad i) [] Nc Lc Nm Lm := by
  obtain ⟨r, Nc', Nm', Lm', e1, e2, e3⟩ := iv_line h (ss (i + 1)) (ss (i + 2))
  refine l_aload 227 2 C dL_law_226 rfl rfl ?_
  refine l_arg 232 1 C hi (by decide) dL_law_227 dL_law_228 dL_law_229 dL_law_230 dL_law_231 (by decide) rfl ?_
  refine l_arg 237 2 C hi (by decide) dL_law_232 dL_law_233 dL_law_234 dL_law_235 dL_law_236 (by decide) rfl ?_
  refine l_callC 240 [] [.int (ss (i + 1)), .int (ss (i + 2))] C kvL_31 (mX11_line (lc_ok C).1 e1) rfl rfl ⟨by decide, by decide⟩ (show (0 : Nat) ≤ 8 by decide) dL_law_237 rfl ?_
  refine l_aload 241 1 C dL_law_240 rfl rfl ?_
  refine l_arg 246 1 C hi (by decide) dL_law_241 dL_law_242 dL_law_243 dL_law_244 dL_law_245 (by decide) rfl ?_
  refine l_arg 251 2 C hi (by decide) dL_law_246 dL_law_247 dL_law_248 dL_law_249 dL_law_250 (by decide) rfl ?_
  refine l_callM 254 [.int r] [.int (ss (i + 1)), .int (ss (i + 2))] C kvL_35 (mX12_line (lc_ok C).2 e2) rfl rfl ⟨by decide, by decide⟩ (show (1 : Nat) ≤ 8 by decide) dL_law_251 rfl ?_
  exact l_eq C dL_law_254 rfl (k _ _ _ _ e3)
theorem ll_c5 (C : ll_C X KC ad b L ss) (hi : i + 4 ≤ L) (h : ivA Nc Lc Nm Lm) (k : ∀ Nc Lc Nm Lm, ivA Nc Lc Nm Lm → ll_Wt X KC ad 861 (ll_lv b KC ad i) [] Nc Lc Nm Lm) : ll_Wt X KC ad 259 (ll_lv b KC ad i) [] Nc Lc Nm Lm := by
  obtain ⟨r, Nc', Lc', Nm', Lm', e1, e2, e3⟩ := iv_meter h (ss (i + 1)) (ss (i + 2))
  refine l_aload 260 2 C dL_law_259 rfl rfl ?_
  refine l_arg 265 1 C hi (by decide) dL_law_260 dL_law_261 dL_law_262 dL_law_263 dL_law_264 (by decide) rfl ?_
  refine l_arg 270 2 C hi (by decide) dL_law_265 dL_law_266 dL_law_267 dL_law_268 dL_law_269 (by decide) rfl ?_
  refine l_callC 273 [] [.int (ss (i + 1)), .int (ss (i + 2))] C kvL_36 (mX11_meter (lc_ok C).1 e1) rfl rfl ⟨by decide, by decide⟩ (show (0 : Nat) ≤ 8 by decide) dL_law_270 rfl ?_
  refine l_aload 274 1 C dL_law_273 rfl rfl ?_
  refine l_arg 279 1 C hi (by decide) dL_law_274 dL_law_275 dL_law_276 dL_law_277 dL_law_278 (by decide) rfl ?_
  refine l_arg 284 2 C hi (by decide) dL_law_279 dL_law_280 dL_law_281 dL_law_282 dL_law_283 (by decide) rfl ?_
  refine l_callM 287 [.int r] [.int (ss (i + 1)), .int (ss (i + 2))] C kvL_39 (mX12_meter (lc_ok C).2 e2) rfl rfl ⟨by decide, by decide⟩ (show (1 : Nat) ≤ 8 by decide) dL_law_284 rfl ?_
  exact l_eq C dL_law_287 rfl (k _ _ _ _ e3)
theorem ll_c6 (C : ll_C X KC ad b L ss) (hi : i + 4 ≤ L) (h : ivA Nc Lc Nm Lm) (k : ∀ Nc Lc Nm Lm, ivA Nc Lc Nm Lm → ll_Wt X KC ad 861 (ll_lv b KC ad i) [] Nc Lc Nm Lm) : ll_Wt X KC ad 292 (ll_lv b KC ad i) [] Nc Lc Nm Lm := by
  obtain ⟨r, Lc', Lm', e1, e2, e3⟩ := iv_offer h (ss (i + 1)) (ss (i + 2))
  refine l_aload 293 2 C dL_law_292 rfl rfl ?_
  refine l_arg 298 1 C hi (by decide) dL_law_293 dL_law_294 dL_law_295 dL_law_296 dL_law_297 (by decide) rfl ?_
  refine l_arg 303 2 C hi (by decide) dL_law_298 dL_law_299 dL_law_300 dL_law_301 dL_law_302 (by decide) rfl ?_
  refine l_callC 306 [] [.int (ss (i + 1)), .int (ss (i + 2))] C kvL_40 (mX11_offer (lc_ok C).1 e1) rfl rfl ⟨by decide, by decide⟩ (show (0 : Nat) ≤ 8 by decide) dL_law_303 rfl ?_
  refine l_aload 307 1 C dL_law_306 rfl rfl ?_
  refine l_arg 312 1 C hi (by decide) dL_law_307 dL_law_308 dL_law_309 dL_law_310 dL_law_311 (by decide) rfl ?_
  refine l_arg 317 2 C hi (by decide) dL_law_312 dL_law_313 dL_law_314 dL_law_315 dL_law_316 (by decide) rfl ?_
  refine l_callM 320 [.int r] [.int (ss (i + 1)), .int (ss (i + 2))] C kvL_43 (mX12_offer (lc_ok C).2 e2) rfl rfl ⟨by decide, by decide⟩ (show (1 : Nat) ≤ 8 by decide) dL_law_317 rfl ?_
  exact l_eq C dL_law_320 rfl (k _ _ _ _ e3)
theorem ll_c7 (C : ll_C X KC ad b L ss) (hi : i + 4 ≤ L) (h : ivA Nc Lc Nm Lm) (k : ∀ Nc Lc Nm Lm, ivA Nc Lc Nm Lm → ll_Wt X KC ad 861 (ll_lv b KC ad i) [] Nc Lc Nm Lm) : ll_Wt X KC ad 325 (ll_lv b KC ad i) [] Nc Lc Nm Lm := by
  obtain ⟨r, Nc', Lc', Nm', e1, e2, e3⟩ := iv_put h (ss (i + 1)) (ss (i + 2))
  refine l_aload 326 2 C dL_law_325 rfl rfl ?_
  refine l_arg 331 1 C hi (by decide) dL_law_326 dL_law_327 dL_law_328 dL_law_329 dL_law_330 (by decide) rfl ?_
  refine l_arg 336 2 C hi (by decide) dL_law_331 dL_law_332 dL_law_333 dL_law_334 dL_law_335 (by decide) rfl ?_
  refine l_callC 339 [] [.int (ss (i + 1)), .int (ss (i + 2))] C kvL_44 (mX11_put (lc_ok C).1 e1) rfl rfl ⟨by decide, by decide⟩ (show (0 : Nat) ≤ 8 by decide) dL_law_336 rfl ?_
  refine l_aload 340 1 C dL_law_339 rfl rfl ?_
  refine l_arg 345 1 C hi (by decide) dL_law_340 dL_law_341 dL_law_342 dL_law_343 dL_law_344 (by decide) rfl ?_
  refine l_arg 350 2 C hi (by decide) dL_law_345 dL_law_346 dL_law_347 dL_law_348 dL_law_349 (by decide) rfl ?_
  refine l_callM 353 [.int r] [.int (ss (i + 1)), .int (ss (i + 2))] C kvL_47 (mX12_put (lc_ok C).2 e2) rfl rfl ⟨by decide, by decide⟩ (show (1 : Nat) ≤ 8 by decide) dL_law_350 rfl ?_
  exact l_eq C dL_law_353 rfl (k _ _ _ _ e3)
theorem ll_c8 (C : ll_C X KC ad b L ss) (hi : i + 4 ≤ L) (h : ivA Nc Lc Nm Lm) (k : ∀ Nc Lc Nm Lm, ivA Nc Lc Nm Lm → ll_Wt X KC ad 861 (ll_lv b KC ad i) [] Nc Lc Nm Lm) : ll_Wt X KC ad 358 (ll_lv b KC ad i) [] Nc Lc Nm Lm := by
  obtain ⟨r, Nc', Lc', Nm', Lm', e1, e2, e3⟩ := iv_spoil h (ss (i + 1))
  refine l_aload 359 2 C dL_law_358 rfl rfl ?_
  refine l_arg 364 1 C hi (by decide) dL_law_359 dL_law_360 dL_law_361 dL_law_362 dL_law_363 (by decide) rfl ?_
  refine l_callC 367 [] [.int (ss (i + 1))] C kvL_48 (mX11_spoil (lc_ok C).1 e1) rfl rfl ⟨by decide, by decide⟩ (show (0 : Nat) ≤ 8 by decide) dL_law_364 rfl ?_
  refine l_aload 368 1 C dL_law_367 rfl rfl ?_
  refine l_arg 373 1 C hi (by decide) dL_law_368 dL_law_369 dL_law_370 dL_law_371 dL_law_372 (by decide) rfl ?_
  refine l_callM 376 [.int r] [.int (ss (i + 1))] C kvL_51 (mX12_spoil (lc_ok C).2 e2) rfl rfl ⟨by decide, by decide⟩ (show (1 : Nat) ≤ 8 by decide) dL_law_373 rfl ?_
  exact l_eq C dL_law_376 rfl (k _ _ _ _ e3)
theorem ll_c9 (C : ll_C X KC ad b L ss) (hi : i + 4 ≤ L) (h : ivA Nc Lc Nm Lm) (k : ∀ Nc Lc Nm Lm, ivA Nc Lc Nm Lm → ll_Wt X KC ad 861 (ll_lv b KC ad i) [] Nc Lc Nm Lm) : ll_Wt X KC ad 381 (ll_lv b KC ad i) [] Nc Lc Nm Lm := by
  obtain ⟨r, Nc', Lc', Nm', Lm', e1, e2, e3⟩ := iv_mend h (ss (i + 1))
  refine l_aload 382 2 C dL_law_381 rfl rfl ?_
  refine l_arg 387 1 C hi (by decide) dL_law_382 dL_law_383 dL_law_384 dL_law_385 dL_law_386 (by decide) rfl ?_
  refine l_callC 390 [] [.int (ss (i + 1))] C kvL_52 (mX11_mend (lc_ok C).1 e1) rfl rfl ⟨by decide, by decide⟩ (show (0 : Nat) ≤ 8 by decide) dL_law_387 rfl ?_
  refine l_aload 391 1 C dL_law_390 rfl rfl ?_
  refine l_arg 396 1 C hi (by decide) dL_law_391 dL_law_392 dL_law_393 dL_law_394 dL_law_395 (by decide) rfl ?_
  refine l_callM 399 [.int r] [.int (ss (i + 1))] C kvL_55 (mX12_mend (lc_ok C).2 e2) rfl rfl ⟨by decide, by decide⟩ (show (1 : Nat) ≤ 8 by decide) dL_law_396 rfl ?_
  exact l_eq C dL_law_399 rfl (k _ _ _ _ e3)
theorem ll_c10 (C : ll_C X KC ad b L ss) (hi : i + 4 ≤ L) (h : ivA Nc Lc Nm Lm) (k : ∀ Nc Lc Nm Lm, ivA Nc Lc Nm Lm → ll_Wt X KC ad 861 (ll_lv b KC ad i) [] Nc Lc Nm Lm) : ll_Wt X KC ad 404 (ll_lv b KC ad i) [] Nc Lc Nm Lm := by
  obtain ⟨r, Nc', Lc', Nm', Lm', e1, e2, e3⟩ := iv_cut h (ss (i + 1))
  refine l_aload 405 2 C dL_law_404 rfl rfl ?_
  refine l_arg 410 1 C hi (by decide) dL_law_405 dL_law_406 dL_law_407 dL_law_408 dL_law_409 (by decide) rfl ?_
  refine l_callC 413 [] [.int (ss (i + 1))] C kvL_56 (mX11_cut (lc_ok C).1 e1) rfl rfl ⟨by decide, by decide⟩ (show (0 : Nat) ≤ 8 by decide) dL_law_410 rfl ?_
  refine l_aload 414 1 C dL_law_413 rfl rfl ?_
  refine l_arg 419 1 C hi (by decide) dL_law_414 dL_law_415 dL_law_416 dL_law_417 dL_law_418 (by decide) rfl ?_
  refine l_callM 422 [.int r] [.int (ss (i + 1))] C kvL_59 (mX12_cut (lc_ok C).2 e2) rfl rfl ⟨by decide, by decide⟩ (show (1 : Nat) ≤ 8 by decide) dL_law_419 rfl ?_
  exact l_eq C dL_law_422 rfl (k _ _ _ _ e3)
theorem ll_c11 (C : ll_C X KC ad b L ss) (hi : i + 4 ≤ L) (h : ivA Nc Lc Nm Lm) (k : ∀ Nc Lc Nm Lm, ivA Nc Lc Nm Lm → ll_Wt X KC ad 861 (ll_lv b KC ad i) [] Nc Lc Nm Lm) : ll_Wt X KC ad 427 (ll_lv b KC ad i) [] Nc Lc Nm Lm := by
  obtain ⟨r, Nc', Lc', Nm', e1, e2, e3⟩ := iv_undo h
  refine l_aload 428 2 C dL_law_427 rfl rfl ?_
  refine l_callC 431 [] [] C kvL_60 (mX11_undo (lc_ok C).1 e1) rfl rfl ⟨by decide, by decide⟩ (show (0 : Nat) ≤ 8 by decide) dL_law_428 rfl ?_
  refine l_aload 432 1 C dL_law_431 rfl rfl ?_
  refine l_callM 435 [.int r] [] C kvL_63 (mX12_undo (lc_ok C).2 e2) rfl rfl ⟨by decide, by decide⟩ (show (1 : Nat) ≤ 8 by decide) dL_law_432 rfl ?_
  exact l_eq C dL_law_435 rfl (k _ _ _ _ e3)
theorem ll_c12 (C : ll_C X KC ad b L ss) (hi : i + 4 ≤ L) (h : ivA Nc Lc Nm Lm) (k : ∀ Nc Lc Nm Lm, ivA Nc Lc Nm Lm → ll_Wt X KC ad 861 (ll_lv b KC ad i) [] Nc Lc Nm Lm) : ll_Wt X KC ad 440 (ll_lv b KC ad i) [] Nc Lc Nm Lm := by
  obtain ⟨r, Nc', Nm', Lm', e1, e2, e3⟩ := iv_keep h (ss (i + 1))
  refine l_aload 441 2 C dL_law_440 rfl rfl ?_
  refine l_arg 446 1 C hi (by decide) dL_law_441 dL_law_442 dL_law_443 dL_law_444 dL_law_445 (by decide) rfl ?_
  refine l_callC 449 [] [.int (ss (i + 1))] C kvL_64 (mX11_keep (lc_ok C).1 e1) rfl rfl ⟨by decide, by decide⟩ (show (0 : Nat) ≤ 8 by decide) dL_law_446 rfl ?_
  refine l_aload 450 1 C dL_law_449 rfl rfl ?_
  refine l_arg 455 1 C hi (by decide) dL_law_450 dL_law_451 dL_law_452 dL_law_453 dL_law_454 (by decide) rfl ?_
  refine l_callM 458 [.int r] [.int (ss (i + 1))] C kvL_67 (mX12_keep (lc_ok C).2 e2) rfl rfl ⟨by decide, by decide⟩ (show (1 : Nat) ≤ 8 by decide) dL_law_455 rfl ?_
  exact l_eq C dL_law_458 rfl (k _ _ _ _ e3)
theorem ll_c13 (C : ll_C X KC ad b L ss) (hi : i + 4 ≤ L) (h : ivA Nc Lc Nm Lm) (k : ∀ Nc Lc Nm Lm, ivA Nc Lc Nm Lm → ll_Wt X KC ad 861 (ll_lv b KC ad i) [] Nc Lc Nm Lm) : ll_Wt X KC ad 463 (ll_lv b KC ad i) [] Nc Lc Nm Lm := by
  obtain ⟨r, Nc', Lc', Nm', Lm', e1, e2, e3⟩ := iv_back h (ss (i + 1))
  refine l_aload 464 2 C dL_law_463 rfl rfl ?_
  refine l_arg 469 1 C hi (by decide) dL_law_464 dL_law_465 dL_law_466 dL_law_467 dL_law_468 (by decide) rfl ?_
  refine l_callC 472 [] [.int (ss (i + 1))] C kvL_68 (mX11_back (lc_ok C).1 e1) rfl rfl ⟨by decide, by decide⟩ (show (0 : Nat) ≤ 8 by decide) dL_law_469 rfl ?_
  refine l_aload 473 1 C dL_law_472 rfl rfl ?_
  refine l_arg 478 1 C hi (by decide) dL_law_473 dL_law_474 dL_law_475 dL_law_476 dL_law_477 (by decide) rfl ?_
  refine l_callM 481 [.int r] [.int (ss (i + 1))] C kvL_71 (mX12_back (lc_ok C).2 e2) rfl rfl ⟨by decide, by decide⟩ (show (1 : Nat) ≤ 8 by decide) dL_law_478 rfl ?_
  exact l_eq C dL_law_481 rfl (k _ _ _ _ e3)
theorem ll_c14 (C : ll_C X KC ad b L ss) (hi : i + 4 ≤ L) (h : ivA Nc Lc Nm Lm) (k : ∀ Nc Lc Nm Lm, ivA Nc Lc Nm Lm → ll_Wt X KC ad 861 (ll_lv b KC ad i) [] Nc Lc Nm Lm) : ll_Wt X KC ad 486 (ll_lv b KC ad i) [] Nc Lc Nm Lm := by
  obtain ⟨r, Nm', Lm', e1, e2, e3⟩ := iv_island h (ss (i + 1))
  refine l_aload 487 2 C dL_law_486 rfl rfl ?_
  refine l_arg 492 1 C hi (by decide) dL_law_487 dL_law_488 dL_law_489 dL_law_490 dL_law_491 (by decide) rfl ?_
  refine l_callC 495 [] [.int (ss (i + 1))] C kvL_72 (mX11_island (lc_ok C).1 e1) rfl rfl ⟨by decide, by decide⟩ (show (0 : Nat) ≤ 8 by decide) dL_law_492 rfl ?_
  refine l_aload 496 1 C dL_law_495 rfl rfl ?_
  refine l_arg 501 1 C hi (by decide) dL_law_496 dL_law_497 dL_law_498 dL_law_499 dL_law_500 (by decide) rfl ?_
  refine l_callM 504 [.int r] [.int (ss (i + 1))] C kvL_75 (mX12_island (lc_ok C).2 e2) rfl rfl ⟨by decide, by decide⟩ (show (1 : Nat) ≤ 8 by decide) dL_law_501 rfl ?_
  exact l_eq C dL_law_504 rfl (k _ _ _ _ e3)
theorem ll_c15 (C : ll_C X KC ad b L ss) (hi : i + 4 ≤ L) (h : ivA Nc Lc Nm Lm) (k : ∀ Nc Lc Nm Lm, ivA Nc Lc Nm Lm → ll_Wt X KC ad 861 (ll_lv b KC ad i) [] Nc Lc Nm Lm) : ll_Wt X KC ad 509 (ll_lv b KC ad i) [] Nc Lc Nm Lm := by
  obtain ⟨r, Nc', Lc', Lm', e1, e2, e3⟩ := iv_weak h (ss (i + 1))
  refine l_aload 510 2 C dL_law_509 rfl rfl ?_
  refine l_arg 515 1 C hi (by decide) dL_law_510 dL_law_511 dL_law_512 dL_law_513 dL_law_514 (by decide) rfl ?_
  refine l_callC 518 [] [.int (ss (i + 1))] C kvL_76 (mX11_weak (lc_ok C).1 e1) rfl rfl ⟨by decide, by decide⟩ (show (0 : Nat) ≤ 8 by decide) dL_law_515 rfl ?_
  refine l_aload 519 1 C dL_law_518 rfl rfl ?_
  refine l_arg 524 1 C hi (by decide) dL_law_519 dL_law_520 dL_law_521 dL_law_522 dL_law_523 (by decide) rfl ?_
  refine l_callM 527 [.int r] [.int (ss (i + 1))] C kvL_79 (mX12_weak (lc_ok C).2 e2) rfl rfl ⟨by decide, by decide⟩ (show (1 : Nat) ≤ 8 by decide) dL_law_524 rfl ?_
  exact l_eq C dL_law_527 rfl (k _ _ _ _ e3)
theorem ll_c16 (C : ll_C X KC ad b L ss) (hi : i + 4 ≤ L) (h : ivA Nc Lc Nm Lm) (k : ∀ Nc Lc Nm Lm, ivA Nc Lc Nm Lm → ll_Wt X KC ad 861 (ll_lv b KC ad i) [] Nc Lc Nm Lm) : ll_Wt X KC ad 532 (ll_lv b KC ad i) [] Nc Lc Nm Lm := by
  obtain ⟨r, Nc', Lc', Nm', Lm', e1, e2, e3⟩ := iv_deal h (ss (i + 1))
  refine l_aload 533 2 C dL_law_532 rfl rfl ?_
  refine l_arg 538 1 C hi (by decide) dL_law_533 dL_law_534 dL_law_535 dL_law_536 dL_law_537 (by decide) rfl ?_
  refine l_callC 541 [] [.int (ss (i + 1))] C kvL_80 (mX11_deal (lc_ok C).1 e1) rfl rfl ⟨by decide, by decide⟩ (show (0 : Nat) ≤ 8 by decide) dL_law_538 rfl ?_
  refine l_aload 542 1 C dL_law_541 rfl rfl ?_
  refine l_arg 547 1 C hi (by decide) dL_law_542 dL_law_543 dL_law_544 dL_law_545 dL_law_546 (by decide) rfl ?_
  refine l_callM 550 [.int r] [.int (ss (i + 1))] C kvL_83 (mX12_deal (lc_ok C).2 e2) rfl rfl ⟨by decide, by decide⟩ (show (1 : Nat) ≤ 8 by decide) dL_law_547 rfl ?_
  exact l_eq C dL_law_550 rfl (k _ _ _ _ e3)
theorem ll_c17 (C : ll_C X KC ad b L ss) (hi : i + 4 ≤ L) (h : ivA Nc Lc Nm Lm) (k : ∀ Nc Lc Nm Lm, ivA Nc Lc Nm Lm → ll_Wt X KC ad 861 (ll_lv b KC ad i) [] Nc Lc Nm Lm) : ll_Wt X KC ad 555 (ll_lv b KC ad i) [] Nc Lc Nm Lm := by
  obtain ⟨r, Lc', Lm', e1, e2, e3⟩ := iv_lost h (ss (i + 1))
  refine l_aload 556 2 C dL_law_555 rfl rfl ?_
  refine l_arg 561 1 C hi (by decide) dL_law_556 dL_law_557 dL_law_558 dL_law_559 dL_law_560 (by decide) rfl ?_
  refine l_callC 564 [] [.int (ss (i + 1))] C kvL_84 (mX11_lost (lc_ok C).1 e1) rfl rfl ⟨by decide, by decide⟩ (show (0 : Nat) ≤ 8 by decide) dL_law_561 rfl ?_
  refine l_aload 565 1 C dL_law_564 rfl rfl ?_
  refine l_arg 570 1 C hi (by decide) dL_law_565 dL_law_566 dL_law_567 dL_law_568 dL_law_569 (by decide) rfl ?_
  refine l_callM 573 [.int r] [.int (ss (i + 1))] C kvL_87 (mX12_lost (lc_ok C).2 e2) rfl rfl ⟨by decide, by decide⟩ (show (1 : Nat) ≤ 8 by decide) dL_law_570 rfl ?_
  exact l_eq C dL_law_573 rfl (k _ _ _ _ e3)
theorem ll_c18 (C : ll_C X KC ad b L ss) (hi : i + 4 ≤ L) (h : ivA Nc Lc Nm Lm) (k : ∀ Nc Lc Nm Lm, ivA Nc Lc Nm Lm → ll_Wt X KC ad 861 (ll_lv b KC ad i) [] Nc Lc Nm Lm) : ll_Wt X KC ad 578 (ll_lv b KC ad i) [] Nc Lc Nm Lm := by
  obtain ⟨r, Lc', Lm', e1, e2, e3⟩ := iv_brings h (ss (i + 1)) (ss (i + 2))
  refine l_aload 579 2 C dL_law_578 rfl rfl ?_
  refine l_arg 584 1 C hi (by decide) dL_law_579 dL_law_580 dL_law_581 dL_law_582 dL_law_583 (by decide) rfl ?_
  refine l_arg 589 2 C hi (by decide) dL_law_584 dL_law_585 dL_law_586 dL_law_587 dL_law_588 (by decide) rfl ?_
  refine l_callC 592 [] [.int (ss (i + 1)), .int (ss (i + 2))] C kvL_88 (mX11_brings (lc_ok C).1 e1) rfl rfl ⟨by decide, by decide⟩ (show (0 : Nat) ≤ 8 by decide) dL_law_589 rfl ?_
  refine l_aload 593 1 C dL_law_592 rfl rfl ?_
  refine l_arg 598 1 C hi (by decide) dL_law_593 dL_law_594 dL_law_595 dL_law_596 dL_law_597 (by decide) rfl ?_
  refine l_arg 603 2 C hi (by decide) dL_law_598 dL_law_599 dL_law_600 dL_law_601 dL_law_602 (by decide) rfl ?_
  refine l_callM 606 [.int r] [.int (ss (i + 1)), .int (ss (i + 2))] C kvL_91 (mX12_brings (lc_ok C).2 e2) rfl rfl ⟨by decide, by decide⟩ (show (1 : Nat) ≤ 8 by decide) dL_law_603 rfl ?_
  exact l_eq C dL_law_606 rfl (k _ _ _ _ e3)
theorem ll_c19 (C : ll_C X KC ad b L ss) (hi : i + 4 ≤ L) (h : ivA Nc Lc Nm Lm) (k : ∀ Nc Lc Nm Lm, ivA Nc Lc Nm Lm → ll_Wt X KC ad 861 (ll_lv b KC ad i) [] Nc Lc Nm Lm) : ll_Wt X KC ad 611 (ll_lv b KC ad i) [] Nc Lc Nm Lm := by
  obtain ⟨r, Nc', Nm', e1, e2, e3⟩ := iv_seen h (ss (i + 1)) (ss (i + 2))
  refine l_aload 612 2 C dL_law_611 rfl rfl ?_
  refine l_arg 617 1 C hi (by decide) dL_law_612 dL_law_613 dL_law_614 dL_law_615 dL_law_616 (by decide) rfl ?_
  refine l_arg 622 2 C hi (by decide) dL_law_617 dL_law_618 dL_law_619 dL_law_620 dL_law_621 (by decide) rfl ?_
  refine l_callC 625 [] [.int (ss (i + 1)), .int (ss (i + 2))] C kvL_92 (mX11_seen (lc_ok C).1 e1) rfl rfl ⟨by decide, by decide⟩ (show (0 : Nat) ≤ 8 by decide) dL_law_622 rfl ?_
  refine l_aload 626 1 C dL_law_625 rfl rfl ?_
  refine l_arg 631 1 C hi (by decide) dL_law_626 dL_law_627 dL_law_628 dL_law_629 dL_law_630 (by decide) rfl ?_
  refine l_arg 636 2 C hi (by decide) dL_law_631 dL_law_632 dL_law_633 dL_law_634 dL_law_635 (by decide) rfl ?_
  refine l_callM 639 [.int r] [.int (ss (i + 1)), .int (ss (i + 2))] C kvL_95 (mX12_seen (lc_ok C).2 e2) rfl rfl ⟨by decide, by decide⟩ (show (1 : Nat) ≤ 8 by decide) dL_law_636 rfl ?_
  exact l_eq C dL_law_639 rfl (k _ _ _ _ e3)
theorem ll_c20 (C : ll_C X KC ad b L ss) (hi : i + 4 ≤ L) (h : ivA Nc Lc Nm Lm) (k : ∀ Nc Lc Nm Lm, ivA Nc Lc Nm Lm → ll_Wt X KC ad 861 (ll_lv b KC ad i) [] Nc Lc Nm Lm) : ll_Wt X KC ad 644 (ll_lv b KC ad i) [] Nc Lc Nm Lm := by
  obtain ⟨r, Nc', Nm', e1, e2, e3⟩ := iv_forget h
  refine l_aload 645 2 C dL_law_644 rfl rfl ?_
  refine l_callC 648 [] [] C kvL_96 (mX11_forget (lc_ok C).1 e1) rfl rfl ⟨by decide, by decide⟩ (show (0 : Nat) ≤ 8 by decide) dL_law_645 rfl ?_
  refine l_aload 649 1 C dL_law_648 rfl rfl ?_
  refine l_callM 652 [.int r] [] C kvL_99 (mX12_forget (lc_ok C).2 e2) rfl rfl ⟨by decide, by decide⟩ (show (1 : Nat) ≤ 8 by decide) dL_law_649 rfl ?_
  exact l_eq C dL_law_652 rfl (k _ _ _ _ e3)
theorem ll_c21 (C : ll_C X KC ad b L ss) (hi : i + 4 ≤ L) (h : ivA Nc Lc Nm Lm) (k : ∀ Nc Lc Nm Lm, ivA Nc Lc Nm Lm → ll_Wt X KC ad 861 (ll_lv b KC ad i) [] Nc Lc Nm Lm) : ll_Wt X KC ad 657 (ll_lv b KC ad i) [] Nc Lc Nm Lm := by
  obtain ⟨r, e1, e2⟩ := iv_fit h
  refine l_aload 658 2 C dL_law_657 rfl rfl ?_
  refine l_callC 661 [] [] C kvL_100 (mX11_fit (lc_ok C).1 e1) rfl rfl ⟨by decide, by decide⟩ (show (0 : Nat) ≤ 8 by decide) dL_law_658 rfl ?_
  refine l_aload 662 1 C dL_law_661 rfl rfl ?_
  refine l_callM 665 [.int r] [] C kvL_103 (mX12_fit (lc_ok C).2 e2) rfl rfl ⟨by decide, by decide⟩ (show (1 : Nat) ≤ 8 by decide) dL_law_662 rfl ?_
  exact l_eq C dL_law_665 rfl (k _ _ _ _ h)
theorem ll_c22 (C : ll_C X KC ad b L ss) (hi : i + 4 ≤ L) (h : ivA Nc Lc Nm Lm) (k : ∀ Nc Lc Nm Lm, ivA Nc Lc Nm Lm → ll_Wt X KC ad 861 (ll_lv b KC ad i) [] Nc Lc Nm Lm) : ll_Wt X KC ad 670 (ll_lv b KC ad i) [] Nc Lc Nm Lm := by
  obtain ⟨r, e1, e2⟩ := iv_askC h
  refine l_aload 671 2 C dL_law_670 rfl rfl ?_
  refine l_callC 674 [] [] C kvL_104 (mX11_ask (lc_ok C).1 e1) rfl rfl ⟨by decide, by decide⟩ (show (0 : Nat) ≤ 8 by decide) dL_law_671 rfl ?_
  refine l_aload 675 1 C dL_law_674 rfl rfl ?_
  refine l_callM 678 [.int r] [] C kvL_107 (mX12_ask (lc_ok C).2 e2) rfl rfl ⟨by decide, by decide⟩ (show (1 : Nat) ≤ 8 by decide) dL_law_675 rfl ?_
  exact l_eq C dL_law_678 rfl (k _ _ _ _ h)
theorem ll_c23 (C : ll_C X KC ad b L ss) (hi : i + 4 ≤ L) (h : ivA Nc Lc Nm Lm) (k : ∀ Nc Lc Nm Lm, ivA Nc Lc Nm Lm → ll_Wt X KC ad 861 (ll_lv b KC ad i) [] Nc Lc Nm Lm) : ll_Wt X KC ad 683 (ll_lv b KC ad i) [] Nc Lc Nm Lm := by
  obtain ⟨r, Nc', Nm', e1, e2, e3⟩ := iv_tray h (ss (i + 1))
  refine l_aload 684 2 C dL_law_683 rfl rfl ?_
  refine l_arg 689 1 C hi (by decide) dL_law_684 dL_law_685 dL_law_686 dL_law_687 dL_law_688 (by decide) rfl ?_
  refine l_callC 692 [] [.int (ss (i + 1))] C kvL_108 (mX11_tray (lc_ok C).1 e1) rfl rfl ⟨by decide, by decide⟩ (show (0 : Nat) ≤ 8 by decide) dL_law_689 rfl ?_
  refine l_aload 693 1 C dL_law_692 rfl rfl ?_
  refine l_arg 698 1 C hi (by decide) dL_law_693 dL_law_694 dL_law_695 dL_law_696 dL_law_697 (by decide) rfl ?_
  refine l_callM 701 [.int r] [.int (ss (i + 1))] C kvL_111 (mX12_tray (lc_ok C).2 e2) rfl rfl ⟨by decide, by decide⟩ (show (1 : Nat) ≤ 8 by decide) dL_law_698 rfl ?_
  exact l_eq C dL_law_701 rfl (k _ _ _ _ e3)
theorem ll_c24 (C : ll_C X KC ad b L ss) (hi : i + 4 ≤ L) (h : ivA Nc Lc Nm Lm) (k : ∀ Nc Lc Nm Lm, ivA Nc Lc Nm Lm → ll_Wt X KC ad 861 (ll_lv b KC ad i) [] Nc Lc Nm Lm) : ll_Wt X KC ad 706 (ll_lv b KC ad i) [] Nc Lc Nm Lm := by
  obtain ⟨r, Nc', Nm', e1, e2, e3⟩ := iv_lay h (ss (i + 1)) (ss (i + 2)) (ss (i + 3))
  refine l_aload 707 2 C dL_law_706 rfl rfl ?_
  refine l_arg 712 1 C hi (by decide) dL_law_707 dL_law_708 dL_law_709 dL_law_710 dL_law_711 (by decide) rfl ?_
  refine l_arg 717 2 C hi (by decide) dL_law_712 dL_law_713 dL_law_714 dL_law_715 dL_law_716 (by decide) rfl ?_
  refine l_arg 722 3 C hi (by decide) dL_law_717 dL_law_718 dL_law_719 dL_law_720 dL_law_721 (by decide) rfl ?_
  refine l_callC 725 [] [.int (ss (i + 1)), .int (ss (i + 2)), .int (ss (i + 3))] C kvL_112 (mX11_lay (lc_ok C).1 e1) rfl rfl ⟨by decide, by decide⟩ (show (0 : Nat) ≤ 8 by decide) dL_law_722 rfl ?_
  refine l_aload 726 1 C dL_law_725 rfl rfl ?_
  refine l_arg 731 1 C hi (by decide) dL_law_726 dL_law_727 dL_law_728 dL_law_729 dL_law_730 (by decide) rfl ?_
  refine l_arg 736 2 C hi (by decide) dL_law_731 dL_law_732 dL_law_733 dL_law_734 dL_law_735 (by decide) rfl ?_
  refine l_arg 741 3 C hi (by decide) dL_law_736 dL_law_737 dL_law_738 dL_law_739 dL_law_740 (by decide) rfl ?_
  refine l_callM 744 [.int r] [.int (ss (i + 1)), .int (ss (i + 2)), .int (ss (i + 3))] C kvL_116 (mX12_lay (lc_ok C).2 e2) rfl rfl ⟨by decide, by decide⟩ (show (1 : Nat) ≤ 8 by decide) dL_law_741 rfl ?_
  exact l_eq C dL_law_744 rfl (k _ _ _ _ e3)
theorem ll_c25 (C : ll_C X KC ad b L ss) (hi : i + 4 ≤ L) (h : ivA Nc Lc Nm Lm) (k : ∀ Nc Lc Nm Lm, ivA Nc Lc Nm Lm → ll_Wt X KC ad 861 (ll_lv b KC ad i) [] Nc Lc Nm Lm) : ll_Wt X KC ad 749 (ll_lv b KC ad i) [] Nc Lc Nm Lm := by
  obtain ⟨r, Nc', Nm', e1, e2, e3⟩ := iv_take h (ss (i + 1)) (ss (i + 2))
  refine l_aload 750 2 C dL_law_749 rfl rfl ?_
  refine l_arg 755 1 C hi (by decide) dL_law_750 dL_law_751 dL_law_752 dL_law_753 dL_law_754 (by decide) rfl ?_
  refine l_arg 760 2 C hi (by decide) dL_law_755 dL_law_756 dL_law_757 dL_law_758 dL_law_759 (by decide) rfl ?_
  refine l_callC 763 [] [.int (ss (i + 1)), .int (ss (i + 2))] C kvL_117 (mX11_take (lc_ok C).1 e1) rfl rfl ⟨by decide, by decide⟩ (show (0 : Nat) ≤ 8 by decide) dL_law_760 rfl ?_
  refine l_aload 764 1 C dL_law_763 rfl rfl ?_
  refine l_arg 769 1 C hi (by decide) dL_law_764 dL_law_765 dL_law_766 dL_law_767 dL_law_768 (by decide) rfl ?_
  refine l_arg 774 2 C hi (by decide) dL_law_769 dL_law_770 dL_law_771 dL_law_772 dL_law_773 (by decide) rfl ?_
  refine l_callM 777 [.int r] [.int (ss (i + 1)), .int (ss (i + 2))] C kvL_120 (mX12_take (lc_ok C).2 e2) rfl rfl ⟨by decide, by decide⟩ (show (1 : Nat) ≤ 8 by decide) dL_law_774 rfl ?_
  exact l_eq C dL_law_777 rfl (k _ _ _ _ e3)
theorem ll_c26 (C : ll_C X KC ad b L ss) (hi : i + 4 ≤ L) (h : ivA Nc Lc Nm Lm) (k : ∀ Nc Lc Nm Lm, ivA Nc Lc Nm Lm → ll_Wt X KC ad 861 (ll_lv b KC ad i) [] Nc Lc Nm Lm) : ll_Wt X KC ad 782 (ll_lv b KC ad i) [] Nc Lc Nm Lm := by
  obtain ⟨r, e1, e2⟩ := iv_all h (ss (i + 1)) (ss (i + 2))
  refine l_aload 783 2 C dL_law_782 rfl rfl ?_
  refine l_arg 788 1 C hi (by decide) dL_law_783 dL_law_784 dL_law_785 dL_law_786 dL_law_787 (by decide) rfl ?_
  refine l_arg 793 2 C hi (by decide) dL_law_788 dL_law_789 dL_law_790 dL_law_791 dL_law_792 (by decide) rfl ?_
  refine l_callC 796 [] [.int (ss (i + 1)), .int (ss (i + 2))] C kvL_121 (mX11_all (lc_ok C).1 e1) rfl rfl ⟨by decide, by decide⟩ (show (0 : Nat) ≤ 8 by decide) dL_law_793 rfl ?_
  refine l_aload 797 1 C dL_law_796 rfl rfl ?_
  refine l_arg 802 1 C hi (by decide) dL_law_797 dL_law_798 dL_law_799 dL_law_800 dL_law_801 (by decide) rfl ?_
  refine l_arg 807 2 C hi (by decide) dL_law_802 dL_law_803 dL_law_804 dL_law_805 dL_law_806 (by decide) rfl ?_
  refine l_callM 810 [.int r] [.int (ss (i + 1)), .int (ss (i + 2))] C kvL_124 (mX12_all (lc_ok C).2 e2) rfl rfl ⟨by decide, by decide⟩ (show (1 : Nat) ≤ 8 by decide) dL_law_807 rfl ?_
  exact l_eq C dL_law_810 rfl (k _ _ _ _ h)
theorem ll_c27 (C : ll_C X KC ad b L ss) (hi : i + 4 ≤ L) (h : ivA Nc Lc Nm Lm) (k : ∀ Nc Lc Nm Lm, ivA Nc Lc Nm Lm → ll_Wt X KC ad 861 (ll_lv b KC ad i) [] Nc Lc Nm Lm) : ll_Wt X KC ad 815 (ll_lv b KC ad i) [] Nc Lc Nm Lm := by
  obtain ⟨r, Nc', Nm', e1, e2, e3⟩ := iv_drop h (ss (i + 1))
  refine l_aload 816 2 C dL_law_815 rfl rfl ?_
  refine l_arg 821 1 C hi (by decide) dL_law_816 dL_law_817 dL_law_818 dL_law_819 dL_law_820 (by decide) rfl ?_
  refine l_callC 824 [] [.int (ss (i + 1))] C kvL_125 (mX11_drop (lc_ok C).1 e1) rfl rfl ⟨by decide, by decide⟩ (show (0 : Nat) ≤ 8 by decide) dL_law_821 rfl ?_
  refine l_aload 825 1 C dL_law_824 rfl rfl ?_
  refine l_arg 830 1 C hi (by decide) dL_law_825 dL_law_826 dL_law_827 dL_law_828 dL_law_829 (by decide) rfl ?_
  refine l_callM 833 [.int r] [.int (ss (i + 1))] C kvL_128 (mX12_drop (lc_ok C).2 e2) rfl rfl ⟨by decide, by decide⟩ (show (1 : Nat) ≤ 8 by decide) dL_law_830 rfl ?_
  exact l_eq C dL_law_833 rfl (k _ _ _ _ e3)
theorem ll_c28 (C : ll_C X KC ad b L ss) (hi : i + 4 ≤ L) (h : ivA Nc Lc Nm Lm) (k : ∀ Nc Lc Nm Lm, ivA Nc Lc Nm Lm → ll_Wt X KC ad 861 (ll_lv b KC ad i) [] Nc Lc Nm Lm) : ll_Wt X KC ad 838 (ll_lv b KC ad i) [] Nc Lc Nm Lm := by
  obtain ⟨r, Nc', Nm', Lm', e1, e2, e3⟩ := iv_count h (ss (i + 1))
  refine l_aload 839 2 C dL_law_838 rfl rfl ?_
  refine l_arg 844 1 C hi (by decide) dL_law_839 dL_law_840 dL_law_841 dL_law_842 dL_law_843 (by decide) rfl ?_
  refine l_callC 847 [] [.int (ss (i + 1))] C kvL_129 (mX11_count (lc_ok C).1 e1) rfl rfl ⟨by decide, by decide⟩ (show (0 : Nat) ≤ 8 by decide) dL_law_844 rfl ?_
  refine l_aload 848 1 C dL_law_847 rfl rfl ?_
  refine l_arg 853 1 C hi (by decide) dL_law_848 dL_law_849 dL_law_850 dL_law_851 dL_law_852 (by decide) rfl ?_
  refine l_callM 856 [.int r] [.int (ss (i + 1))] C kvL_132 (mX12_count (lc_ok C).2 e2) rfl rfl ⟨by decide, by decide⟩ (show (1 : Nat) ≤ 8 by decide) dL_law_853 rfl ?_
  exact l_eq C dL_law_856 rfl (k _ _ _ _ e3)
theorem ll_loop (C : ll_C X KC ad b L ss) (hend : ∀ i Nc Lc Nm Lm, ll_Wt X KC ad 867 (ll_lv b KC ad i) [] Nc Lc Nm Lm) : ∀ n i Nc Lc Nm Lm, L ≤ i + n → i ≤ 4096 → ivA Nc Lc Nm Lm → ll_Wt X KC ad 18 (ll_lv b KC ad i) [] Nc Lc Nm Lm := by
  intro n
  induction n using Nat.strongRecOn with
  | _ n ih =>
  intro i Nc Lc Nm Lm hn hi0 hA
  have hL := (lc_X C).2.2
  refine fun H locs ls hP hQ hS hl => lv_iload_n (lc_x C) (lc_b C) dL_law_18 rfl (lv_at hl 0 rfl) (lv_aload_n (lc_x C) (lc_b C) dL_law_19 rfl (lv_at hl 3 rfl) (va_slen (lc_x C) (lc_b C) (lc_X C).1 (lc_X C).2.1 (lc_bA C) hS dL_law_20 (lv_iconst (lc_x C) (lc_b C) dL_law_21 (v := 4) (by decide) (lv_isub (lc_x C) (lc_b C) dL_law_22 (lv_icmp_gt (lc_x C) (lc_b C) dL_law_23 (show ((23 : Nat) : Int) + 844 = ((867 : Nat) : Int) from rfl) (fun _ => hend i Nc Lc Nm Lm H locs ls hP hQ hS hl) (fun hz => ?_))))))
  have hi : i + 4 ≤ L := by
    rcases Nat.lt_or_ge L 4 with h4 | h4
    · exfalso
      apply hz
      have h0 : (0 : Int32) ≤ nI i := (nI_leI (a := 0) (by decide) (by omega)).mpr (Nat.zero_le _)
      refine Int32.lt_of_lt_of_le ?_ h0
      rcases (show L = 0 ∨ L = 1 ∨ L = 2 ∨ L = 3 by omega) with e | e | e | e <;> rw [e] <;> decide
    · apply Nat.le_of_not_lt
      intro hlt
      apply hz
      have e : Int32.ofNat L - 4 = nI (L - 4) := by
        show nI L - nI 4 = nI (L - 4)
        exact pk_sub h4
      rw [e]
      exact (nI_ltI (by omega) (by omega)).mpr (by omega)
  have K : ∀ Nc Lc Nm Lm, ivA Nc Lc Nm Lm → ll_Wt X KC ad 861 (ll_lv b KC ad i) [] Nc Lc Nm Lm := fun Nc Lc Nm Lm h => l_next C dL_law_861 dL_law_864 (ih (n - 4) (by omega) (i + 4) Nc Lc Nm Lm (by omega) (by omega) h)
  refine lv_aload_n (lc_x C) (lc_b C) dL_law_26 rfl (lv_at hl 3 rfl) (lv_iload_n (lc_x C) (lc_b C) dL_law_27 rfl (lv_at hl 0 rfl) (va_sld (lc_x C) (lc_b C) (lc_X C).1 (lc_X C).2.1 (lc_bA C) hS (vp_in_nI (show i < L by omega) (by omega)) dL_law_28 (lv_bipush (lc_x C) (lc_b C) dL_law_29 (v := 31) (by decide) (lv_iand (lc_x C) (lc_b C) dL_law_31 ?_))))
  generalize ss (nI i).toNatClampNeg &&& 31 = w
  by_cases hw : w.toInt < 0 ∨ 28 < w.toInt
  · exact lv_tableOut (lc_x C) (lc_b C) dL_law_32 hw (show ((32 : Nat) : Int) + 829 = ((861 : Nat) : Int) from rfl) (K Nc Lc Nm Lm hA H locs ls hP hQ hS hl)
  · obtain ⟨v, hv⟩ : ∃ v : Nat, w.toInt = (v : Int) := ⟨w.toInt.toNat, by omega⟩
    rcases (show v = 0 ∨ v = 1 ∨ v = 2 ∨ v = 3 ∨ v = 4 ∨ v = 5 ∨ v = 6 ∨ v = 7 ∨ v = 8 ∨ v = 9 ∨ v = 10 ∨ v = 11 ∨ v = 12 ∨ v = 13 ∨ v = 14 ∨ v = 15 ∨ v = 16 ∨ v = 17 ∨ v = 18 ∨ v = 19 ∨ v = 20 ∨ v = 21 ∨ v = 22 ∨ v = 23 ∨ v = 24 ∨ v = 25 ∨ v = 26 ∨ v = 27 ∨ v = 28 by omega) with e | e | e | e | e | e | e | e | e | e | e | e | e | e | e | e | e | e | e | e | e | e | e | e | e | e | e | e | e
    · exact lv_tableIn (off := 132) (tgt := 164) (lc_x C) (lc_b C) dL_law_32 (by omega) (by omega) (by rw [hv, e]; rfl) rfl (ll_c0 C hi hA K H locs ls hP hQ hS hl)
    · exact lv_tableIn (off := 155) (tgt := 187) (lc_x C) (lc_b C) dL_law_32 (by omega) (by omega) (by rw [hv, e]; rfl) rfl (ll_c1 C hi hA K H locs ls hP hQ hS hl)
    · exact lv_tableIn (off := 168) (tgt := 200) (lc_x C) (lc_b C) dL_law_32 (by omega) (by omega) (by rw [hv, e]; rfl) rfl (ll_c2 C hi hA K H locs ls hP hQ hS hl)
    · exact lv_tableIn (off := 181) (tgt := 213) (lc_x C) (lc_b C) dL_law_32 (by omega) (by omega) (by rw [hv, e]; rfl) rfl (ll_c3 C hi hA K H locs ls hP hQ hS hl)
    · exact lv_tableIn (off := 194) (tgt := 226) (lc_x C) (lc_b C) dL_law_32 (by omega) (by omega) (by rw [hv, e]; rfl) rfl (ll_c4 C hi hA K H locs ls hP hQ hS hl)
    · exact lv_tableIn (off := 227) (tgt := 259) (lc_x C) (lc_b C) dL_law_32 (by omega) (by omega) (by rw [hv, e]; rfl) rfl (ll_c5 C hi hA K H locs ls hP hQ hS hl)
    · exact lv_tableIn (off := 260) (tgt := 292) (lc_x C) (lc_b C) dL_law_32 (by omega) (by omega) (by rw [hv, e]; rfl) rfl (ll_c6 C hi hA K H locs ls hP hQ hS hl)
    · exact lv_tableIn (off := 293) (tgt := 325) (lc_x C) (lc_b C) dL_law_32 (by omega) (by omega) (by rw [hv, e]; rfl) rfl (ll_c7 C hi hA K H locs ls hP hQ hS hl)
    · exact lv_tableIn (off := 326) (tgt := 358) (lc_x C) (lc_b C) dL_law_32 (by omega) (by omega) (by rw [hv, e]; rfl) rfl (ll_c8 C hi hA K H locs ls hP hQ hS hl)
    · exact lv_tableIn (off := 349) (tgt := 381) (lc_x C) (lc_b C) dL_law_32 (by omega) (by omega) (by rw [hv, e]; rfl) rfl (ll_c9 C hi hA K H locs ls hP hQ hS hl)
    · exact lv_tableIn (off := 372) (tgt := 404) (lc_x C) (lc_b C) dL_law_32 (by omega) (by omega) (by rw [hv, e]; rfl) rfl (ll_c10 C hi hA K H locs ls hP hQ hS hl)
    · exact lv_tableIn (off := 395) (tgt := 427) (lc_x C) (lc_b C) dL_law_32 (by omega) (by omega) (by rw [hv, e]; rfl) rfl (ll_c11 C hi hA K H locs ls hP hQ hS hl)
    · exact lv_tableIn (off := 408) (tgt := 440) (lc_x C) (lc_b C) dL_law_32 (by omega) (by omega) (by rw [hv, e]; rfl) rfl (ll_c12 C hi hA K H locs ls hP hQ hS hl)
    · exact lv_tableIn (off := 431) (tgt := 463) (lc_x C) (lc_b C) dL_law_32 (by omega) (by omega) (by rw [hv, e]; rfl) rfl (ll_c13 C hi hA K H locs ls hP hQ hS hl)
    · exact lv_tableIn (off := 454) (tgt := 486) (lc_x C) (lc_b C) dL_law_32 (by omega) (by omega) (by rw [hv, e]; rfl) rfl (ll_c14 C hi hA K H locs ls hP hQ hS hl)
    · exact lv_tableIn (off := 477) (tgt := 509) (lc_x C) (lc_b C) dL_law_32 (by omega) (by omega) (by rw [hv, e]; rfl) rfl (ll_c15 C hi hA K H locs ls hP hQ hS hl)
    · exact lv_tableIn (off := 500) (tgt := 532) (lc_x C) (lc_b C) dL_law_32 (by omega) (by omega) (by rw [hv, e]; rfl) rfl (ll_c16 C hi hA K H locs ls hP hQ hS hl)
    · exact lv_tableIn (off := 523) (tgt := 555) (lc_x C) (lc_b C) dL_law_32 (by omega) (by omega) (by rw [hv, e]; rfl) rfl (ll_c17 C hi hA K H locs ls hP hQ hS hl)
    · exact lv_tableIn (off := 546) (tgt := 578) (lc_x C) (lc_b C) dL_law_32 (by omega) (by omega) (by rw [hv, e]; rfl) rfl (ll_c18 C hi hA K H locs ls hP hQ hS hl)
    · exact lv_tableIn (off := 579) (tgt := 611) (lc_x C) (lc_b C) dL_law_32 (by omega) (by omega) (by rw [hv, e]; rfl) rfl (ll_c19 C hi hA K H locs ls hP hQ hS hl)
    · exact lv_tableIn (off := 612) (tgt := 644) (lc_x C) (lc_b C) dL_law_32 (by omega) (by omega) (by rw [hv, e]; rfl) rfl (ll_c20 C hi hA K H locs ls hP hQ hS hl)
    · exact lv_tableIn (off := 625) (tgt := 657) (lc_x C) (lc_b C) dL_law_32 (by omega) (by omega) (by rw [hv, e]; rfl) rfl (ll_c21 C hi hA K H locs ls hP hQ hS hl)
    · exact lv_tableIn (off := 638) (tgt := 670) (lc_x C) (lc_b C) dL_law_32 (by omega) (by omega) (by rw [hv, e]; rfl) rfl (ll_c22 C hi hA K H locs ls hP hQ hS hl)
    · exact lv_tableIn (off := 651) (tgt := 683) (lc_x C) (lc_b C) dL_law_32 (by omega) (by omega) (by rw [hv, e]; rfl) rfl (ll_c23 C hi hA K H locs ls hP hQ hS hl)
    · exact lv_tableIn (off := 674) (tgt := 706) (lc_x C) (lc_b C) dL_law_32 (by omega) (by omega) (by rw [hv, e]; rfl) rfl (ll_c24 C hi hA K H locs ls hP hQ hS hl)
    · exact lv_tableIn (off := 717) (tgt := 749) (lc_x C) (lc_b C) dL_law_32 (by omega) (by omega) (by rw [hv, e]; rfl) rfl (ll_c25 C hi hA K H locs ls hP hQ hS hl)
    · exact lv_tableIn (off := 750) (tgt := 782) (lc_x C) (lc_b C) dL_law_32 (by omega) (by omega) (by rw [hv, e]; rfl) rfl (ll_c26 C hi hA K H locs ls hP hQ hS hl)
    · exact lv_tableIn (off := 783) (tgt := 815) (lc_x C) (lc_b C) dL_law_32 (by omega) (by omega) (by rw [hv, e]; rfl) rfl (ll_c27 C hi hA K H locs ls hP hQ hS hl)
    · exact lv_tableIn (off := 806) (tgt := 838) (lc_x C) (lc_b C) dL_law_32 (by omega) (by omega) (by rw [hv, e]; rfl) rfl (ll_c28 C hi hA K H locs ls hP hQ hS hl)
end LLC
