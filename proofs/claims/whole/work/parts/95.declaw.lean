/-! DECODE ROWS OF THE LAW -/
theorem d_law_0 : decode code 0 = .ok (.new 7, 3) := by decide +kernel
theorem d_law_3 : decode code 3 = .ok (.dup, 1) := by decide +kernel
theorem d_law_4 : decode code 4 = .ok (.aload_n 0, 1) := by decide +kernel
theorem d_law_5 : decode code 5 = .ok (.iconst 0, 1) := by decide +kernel
theorem d_law_6 : decode code 6 = .ok (.invokestatic 9, 3) := by decide +kernel
theorem d_law_9 : decode code 9 = .ok (.invokespecial 15, 3) := by decide +kernel
theorem d_law_12 : decode code 12 = .ok (.astore_n 1, 1) := by decide +kernel
theorem d_law_13 : decode code 13 = .ok (.new 18, 3) := by decide +kernel
theorem d_law_16 : decode code 16 = .ok (.dup, 1) := by decide +kernel
theorem d_law_17 : decode code 17 = .ok (.aload_n 0, 1) := by decide +kernel
theorem d_law_18 : decode code 18 = .ok (.iconst 0, 1) := by decide +kernel
theorem d_law_19 : decode code 19 = .ok (.invokestatic 9, 3) := by decide +kernel
theorem d_law_22 : decode code 22 = .ok (.invokespecial 20, 3) := by decide +kernel
theorem d_law_25 : decode code 25 = .ok (.astore_n 2, 1) := by decide +kernel
theorem d_law_26 : decode code 26 = .ok (.iconst 1, 1) := by decide +kernel
theorem d_law_27 : decode code 27 = .ok (.istore_n 3, 1) := by decide +kernel
theorem d_law_28 : decode code 28 = .ok (.iload_n 3, 1) := by decide +kernel
theorem d_law_29 : decode code 29 = .ok (.aload_n 0, 1) := by decide +kernel
theorem d_law_30 : decode code 30 = .ok (.arraylength, 1) := by decide +kernel
theorem d_law_31 : decode code 31 = .ok (.iconst 4, 1) := by decide +kernel
theorem d_law_32 : decode code 32 = .ok (.isub, 1) := by decide +kernel
theorem d_law_33 : decode code 33 = .ok (.if_icmp .gt 982, 3) := by decide +kernel
theorem d_law_36 : decode code 36 = .ok (.aload_n 0, 1) := by decide +kernel
theorem d_law_37 : decode code 37 = .ok (.iload_n 3, 1) := by decide +kernel
theorem d_law_38 : decode code 38 = .ok (.iaload, 1) := by decide +kernel
theorem d_law_39 : decode code 39 = .ok (.bipush 31, 2) := by decide +kernel
theorem d_law_41 : decode code 41 = .ok (.iand, 1) := by decide +kernel
theorem d_law_42 : decode code 42 = .ok (.tableswitch 967 0 27 #[126, 139, 162, 175, 198, 241, 264, 297, 320, 343, 386, 419, 452, 485, 518, 551, 610, 643, 666, 709, 742, 765, 798, 831, 865, 898, 921, 944], 126) := by decide +kernel
theorem d_law_168 : decode code 168 = .ok (.aload_n 1, 1) := by decide +kernel
theorem d_law_169 : decode code 169 = .ok (.invokevirtual 21, 3) := by decide +kernel
theorem d_law_172 : decode code 172 = .ok (.aload_n 2, 1) := by decide +kernel
theorem d_law_173 : decode code 173 = .ok (.invokevirtual 25, 3) := by decide +kernel
theorem d_law_176 : decode code 176 = .ok (.if_icmp .eq 833, 3) := by decide +kernel
theorem d_law_179 : decode code 179 = .ok (.iconst 0, 1) := by decide +kernel
theorem d_law_180 : decode code 180 = .ok (.ireturn, 1) := by decide +kernel
theorem d_law_181 : decode code 181 = .ok (.aload_n 1, 1) := by decide +kernel
theorem d_law_182 : decode code 182 = .ok (.aload_n 0, 1) := by decide +kernel
theorem d_law_183 : decode code 183 = .ok (.iload_n 3, 1) := by decide +kernel
theorem d_law_184 : decode code 184 = .ok (.iconst 1, 1) := by decide +kernel
theorem d_law_185 : decode code 185 = .ok (.iadd, 1) := by decide +kernel
theorem d_law_186 : decode code 186 = .ok (.iaload, 1) := by decide +kernel
theorem d_law_187 : decode code 187 = .ok (.invokevirtual 26, 3) := by decide +kernel
theorem d_law_190 : decode code 190 = .ok (.aload_n 2, 1) := by decide +kernel
theorem d_law_191 : decode code 191 = .ok (.aload_n 0, 1) := by decide +kernel
theorem d_law_192 : decode code 192 = .ok (.iload_n 3, 1) := by decide +kernel
theorem d_law_193 : decode code 193 = .ok (.iconst 1, 1) := by decide +kernel
theorem d_law_194 : decode code 194 = .ok (.iadd, 1) := by decide +kernel
theorem d_law_195 : decode code 195 = .ok (.iaload, 1) := by decide +kernel
theorem d_law_196 : decode code 196 = .ok (.invokevirtual 30, 3) := by decide +kernel
theorem d_law_199 : decode code 199 = .ok (.if_icmp .eq 810, 3) := by decide +kernel
theorem d_law_202 : decode code 202 = .ok (.iconst 0, 1) := by decide +kernel
theorem d_law_203 : decode code 203 = .ok (.ireturn, 1) := by decide +kernel
theorem d_law_204 : decode code 204 = .ok (.aload_n 1, 1) := by decide +kernel
theorem d_law_205 : decode code 205 = .ok (.invokevirtual 31, 3) := by decide +kernel
theorem d_law_208 : decode code 208 = .ok (.aload_n 2, 1) := by decide +kernel
theorem d_law_209 : decode code 209 = .ok (.invokevirtual 34, 3) := by decide +kernel
theorem d_law_212 : decode code 212 = .ok (.if_icmp .eq 797, 3) := by decide +kernel
theorem d_law_215 : decode code 215 = .ok (.iconst 0, 1) := by decide +kernel
theorem d_law_216 : decode code 216 = .ok (.ireturn, 1) := by decide +kernel
theorem d_law_217 : decode code 217 = .ok (.aload_n 1, 1) := by decide +kernel
theorem d_law_218 : decode code 218 = .ok (.aload_n 0, 1) := by decide +kernel
theorem d_law_219 : decode code 219 = .ok (.iload_n 3, 1) := by decide +kernel
theorem d_law_220 : decode code 220 = .ok (.iconst 1, 1) := by decide +kernel
theorem d_law_221 : decode code 221 = .ok (.iadd, 1) := by decide +kernel
theorem d_law_222 : decode code 222 = .ok (.iaload, 1) := by decide +kernel
theorem d_law_223 : decode code 223 = .ok (.invokevirtual 35, 3) := by decide +kernel
theorem d_law_226 : decode code 226 = .ok (.aload_n 2, 1) := by decide +kernel
theorem d_law_227 : decode code 227 = .ok (.aload_n 0, 1) := by decide +kernel
theorem d_law_228 : decode code 228 = .ok (.iload_n 3, 1) := by decide +kernel
theorem d_law_229 : decode code 229 = .ok (.iconst 1, 1) := by decide +kernel
theorem d_law_230 : decode code 230 = .ok (.iadd, 1) := by decide +kernel
theorem d_law_231 : decode code 231 = .ok (.iaload, 1) := by decide +kernel
theorem d_law_232 : decode code 232 = .ok (.invokevirtual 38, 3) := by decide +kernel
theorem d_law_235 : decode code 235 = .ok (.if_icmp .eq 774, 3) := by decide +kernel
theorem d_law_238 : decode code 238 = .ok (.iconst 0, 1) := by decide +kernel
theorem d_law_239 : decode code 239 = .ok (.ireturn, 1) := by decide +kernel
theorem d_law_240 : decode code 240 = .ok (.aload_n 1, 1) := by decide +kernel
theorem d_law_241 : decode code 241 = .ok (.aload_n 0, 1) := by decide +kernel
theorem d_law_242 : decode code 242 = .ok (.iload_n 3, 1) := by decide +kernel
theorem d_law_243 : decode code 243 = .ok (.iconst 1, 1) := by decide +kernel
theorem d_law_244 : decode code 244 = .ok (.iadd, 1) := by decide +kernel
theorem d_law_245 : decode code 245 = .ok (.iaload, 1) := by decide +kernel
theorem d_law_246 : decode code 246 = .ok (.aload_n 0, 1) := by decide +kernel
theorem d_law_247 : decode code 247 = .ok (.iload_n 3, 1) := by decide +kernel
theorem d_law_248 : decode code 248 = .ok (.iconst 2, 1) := by decide +kernel
theorem d_law_249 : decode code 249 = .ok (.iadd, 1) := by decide +kernel
theorem d_law_250 : decode code 250 = .ok (.iaload, 1) := by decide +kernel
theorem d_law_251 : decode code 251 = .ok (.aload_n 0, 1) := by decide +kernel
theorem d_law_252 : decode code 252 = .ok (.iload_n 3, 1) := by decide +kernel
theorem d_law_253 : decode code 253 = .ok (.iconst 3, 1) := by decide +kernel
theorem d_law_254 : decode code 254 = .ok (.iadd, 1) := by decide +kernel
theorem d_law_255 : decode code 255 = .ok (.iaload, 1) := by decide +kernel
theorem d_law_256 : decode code 256 = .ok (.invokevirtual 39, 3) := by decide +kernel
theorem d_law_259 : decode code 259 = .ok (.aload_n 2, 1) := by decide +kernel
theorem d_law_260 : decode code 260 = .ok (.aload_n 0, 1) := by decide +kernel
theorem d_law_261 : decode code 261 = .ok (.iload_n 3, 1) := by decide +kernel
theorem d_law_262 : decode code 262 = .ok (.iconst 1, 1) := by decide +kernel
theorem d_law_263 : decode code 263 = .ok (.iadd, 1) := by decide +kernel
theorem d_law_264 : decode code 264 = .ok (.iaload, 1) := by decide +kernel
theorem d_law_265 : decode code 265 = .ok (.aload_n 0, 1) := by decide +kernel
theorem d_law_266 : decode code 266 = .ok (.iload_n 3, 1) := by decide +kernel
theorem d_law_267 : decode code 267 = .ok (.iconst 2, 1) := by decide +kernel
theorem d_law_268 : decode code 268 = .ok (.iadd, 1) := by decide +kernel
theorem d_law_269 : decode code 269 = .ok (.iaload, 1) := by decide +kernel
theorem d_law_270 : decode code 270 = .ok (.aload_n 0, 1) := by decide +kernel
theorem d_law_271 : decode code 271 = .ok (.iload_n 3, 1) := by decide +kernel
theorem d_law_272 : decode code 272 = .ok (.iconst 3, 1) := by decide +kernel
theorem d_law_273 : decode code 273 = .ok (.iadd, 1) := by decide +kernel
theorem d_law_274 : decode code 274 = .ok (.iaload, 1) := by decide +kernel
theorem d_law_275 : decode code 275 = .ok (.invokevirtual 43, 3) := by decide +kernel
theorem d_law_278 : decode code 278 = .ok (.if_icmp .eq 731, 3) := by decide +kernel
theorem d_law_281 : decode code 281 = .ok (.iconst 0, 1) := by decide +kernel
theorem d_law_282 : decode code 282 = .ok (.ireturn, 1) := by decide +kernel
theorem d_law_283 : decode code 283 = .ok (.aload_n 1, 1) := by decide +kernel
theorem d_law_284 : decode code 284 = .ok (.aload_n 0, 1) := by decide +kernel
theorem d_law_285 : decode code 285 = .ok (.iload_n 3, 1) := by decide +kernel
theorem d_law_286 : decode code 286 = .ok (.iconst 1, 1) := by decide +kernel
theorem d_law_287 : decode code 287 = .ok (.iadd, 1) := by decide +kernel
theorem d_law_288 : decode code 288 = .ok (.iaload, 1) := by decide +kernel
theorem d_law_289 : decode code 289 = .ok (.invokevirtual 44, 3) := by decide +kernel
theorem d_law_292 : decode code 292 = .ok (.aload_n 2, 1) := by decide +kernel
theorem d_law_293 : decode code 293 = .ok (.aload_n 0, 1) := by decide +kernel
theorem d_law_294 : decode code 294 = .ok (.iload_n 3, 1) := by decide +kernel
theorem d_law_295 : decode code 295 = .ok (.iconst 1, 1) := by decide +kernel
theorem d_law_296 : decode code 296 = .ok (.iadd, 1) := by decide +kernel
theorem d_law_297 : decode code 297 = .ok (.iaload, 1) := by decide +kernel
theorem d_law_298 : decode code 298 = .ok (.invokevirtual 47, 3) := by decide +kernel
theorem d_law_301 : decode code 301 = .ok (.if_icmp .eq 708, 3) := by decide +kernel
theorem d_law_304 : decode code 304 = .ok (.iconst 0, 1) := by decide +kernel
theorem d_law_305 : decode code 305 = .ok (.ireturn, 1) := by decide +kernel
theorem d_law_306 : decode code 306 = .ok (.aload_n 1, 1) := by decide +kernel
theorem d_law_307 : decode code 307 = .ok (.aload_n 0, 1) := by decide +kernel
theorem d_law_308 : decode code 308 = .ok (.iload_n 3, 1) := by decide +kernel
theorem d_law_309 : decode code 309 = .ok (.iconst 1, 1) := by decide +kernel
theorem d_law_310 : decode code 310 = .ok (.iadd, 1) := by decide +kernel
theorem d_law_311 : decode code 311 = .ok (.iaload, 1) := by decide +kernel
theorem d_law_312 : decode code 312 = .ok (.aload_n 0, 1) := by decide +kernel
theorem d_law_313 : decode code 313 = .ok (.iload_n 3, 1) := by decide +kernel
theorem d_law_314 : decode code 314 = .ok (.iconst 2, 1) := by decide +kernel
theorem d_law_315 : decode code 315 = .ok (.iadd, 1) := by decide +kernel
theorem d_law_316 : decode code 316 = .ok (.iaload, 1) := by decide +kernel
theorem d_law_317 : decode code 317 = .ok (.invokevirtual 48, 3) := by decide +kernel
theorem d_law_320 : decode code 320 = .ok (.aload_n 2, 1) := by decide +kernel
theorem d_law_321 : decode code 321 = .ok (.aload_n 0, 1) := by decide +kernel
theorem d_law_322 : decode code 322 = .ok (.iload_n 3, 1) := by decide +kernel
theorem d_law_323 : decode code 323 = .ok (.iconst 1, 1) := by decide +kernel
theorem d_law_324 : decode code 324 = .ok (.iadd, 1) := by decide +kernel
theorem d_law_325 : decode code 325 = .ok (.iaload, 1) := by decide +kernel
theorem d_law_326 : decode code 326 = .ok (.aload_n 0, 1) := by decide +kernel
theorem d_law_327 : decode code 327 = .ok (.iload_n 3, 1) := by decide +kernel
theorem d_law_328 : decode code 328 = .ok (.iconst 2, 1) := by decide +kernel
theorem d_law_329 : decode code 329 = .ok (.iadd, 1) := by decide +kernel
theorem d_law_330 : decode code 330 = .ok (.iaload, 1) := by decide +kernel
theorem d_law_331 : decode code 331 = .ok (.invokevirtual 52, 3) := by decide +kernel
theorem d_law_334 : decode code 334 = .ok (.if_icmp .eq 675, 3) := by decide +kernel
theorem d_law_337 : decode code 337 = .ok (.iconst 0, 1) := by decide +kernel
theorem d_law_338 : decode code 338 = .ok (.ireturn, 1) := by decide +kernel
theorem d_law_339 : decode code 339 = .ok (.aload_n 1, 1) := by decide +kernel
theorem d_law_340 : decode code 340 = .ok (.aload_n 0, 1) := by decide +kernel
theorem d_law_341 : decode code 341 = .ok (.iload_n 3, 1) := by decide +kernel
theorem d_law_342 : decode code 342 = .ok (.iconst 1, 1) := by decide +kernel
theorem d_law_343 : decode code 343 = .ok (.iadd, 1) := by decide +kernel
theorem d_law_344 : decode code 344 = .ok (.iaload, 1) := by decide +kernel
theorem d_law_345 : decode code 345 = .ok (.invokevirtual 53, 3) := by decide +kernel
theorem d_law_348 : decode code 348 = .ok (.aload_n 2, 1) := by decide +kernel
theorem d_law_349 : decode code 349 = .ok (.aload_n 0, 1) := by decide +kernel
theorem d_law_350 : decode code 350 = .ok (.iload_n 3, 1) := by decide +kernel
theorem d_law_351 : decode code 351 = .ok (.iconst 1, 1) := by decide +kernel
theorem d_law_352 : decode code 352 = .ok (.iadd, 1) := by decide +kernel
theorem d_law_353 : decode code 353 = .ok (.iaload, 1) := by decide +kernel
theorem d_law_354 : decode code 354 = .ok (.invokevirtual 56, 3) := by decide +kernel
theorem d_law_357 : decode code 357 = .ok (.if_icmp .eq 652, 3) := by decide +kernel
theorem d_law_360 : decode code 360 = .ok (.iconst 0, 1) := by decide +kernel
theorem d_law_361 : decode code 361 = .ok (.ireturn, 1) := by decide +kernel
theorem d_law_362 : decode code 362 = .ok (.aload_n 1, 1) := by decide +kernel
theorem d_law_363 : decode code 363 = .ok (.aload_n 0, 1) := by decide +kernel
theorem d_law_364 : decode code 364 = .ok (.iload_n 3, 1) := by decide +kernel
theorem d_law_365 : decode code 365 = .ok (.iconst 1, 1) := by decide +kernel
theorem d_law_366 : decode code 366 = .ok (.iadd, 1) := by decide +kernel
theorem d_law_367 : decode code 367 = .ok (.iaload, 1) := by decide +kernel
theorem d_law_368 : decode code 368 = .ok (.invokevirtual 57, 3) := by decide +kernel
theorem d_law_371 : decode code 371 = .ok (.aload_n 2, 1) := by decide +kernel
theorem d_law_372 : decode code 372 = .ok (.aload_n 0, 1) := by decide +kernel
theorem d_law_373 : decode code 373 = .ok (.iload_n 3, 1) := by decide +kernel
theorem d_law_374 : decode code 374 = .ok (.iconst 1, 1) := by decide +kernel
theorem d_law_375 : decode code 375 = .ok (.iadd, 1) := by decide +kernel
theorem d_law_376 : decode code 376 = .ok (.iaload, 1) := by decide +kernel
theorem d_law_377 : decode code 377 = .ok (.invokevirtual 60, 3) := by decide +kernel
theorem d_law_380 : decode code 380 = .ok (.if_icmp .eq 629, 3) := by decide +kernel
theorem d_law_383 : decode code 383 = .ok (.iconst 0, 1) := by decide +kernel
theorem d_law_384 : decode code 384 = .ok (.ireturn, 1) := by decide +kernel
theorem d_law_385 : decode code 385 = .ok (.aload_n 1, 1) := by decide +kernel
theorem d_law_386 : decode code 386 = .ok (.aload_n 0, 1) := by decide +kernel
theorem d_law_387 : decode code 387 = .ok (.iload_n 3, 1) := by decide +kernel
theorem d_law_388 : decode code 388 = .ok (.iconst 1, 1) := by decide +kernel
theorem d_law_389 : decode code 389 = .ok (.iadd, 1) := by decide +kernel
theorem d_law_390 : decode code 390 = .ok (.iaload, 1) := by decide +kernel
theorem d_law_391 : decode code 391 = .ok (.aload_n 0, 1) := by decide +kernel
theorem d_law_392 : decode code 392 = .ok (.iload_n 3, 1) := by decide +kernel
theorem d_law_393 : decode code 393 = .ok (.iconst 2, 1) := by decide +kernel
theorem d_law_394 : decode code 394 = .ok (.iadd, 1) := by decide +kernel
theorem d_law_395 : decode code 395 = .ok (.iaload, 1) := by decide +kernel
theorem d_law_396 : decode code 396 = .ok (.aload_n 0, 1) := by decide +kernel
theorem d_law_397 : decode code 397 = .ok (.iload_n 3, 1) := by decide +kernel
theorem d_law_398 : decode code 398 = .ok (.iconst 3, 1) := by decide +kernel
theorem d_law_399 : decode code 399 = .ok (.iadd, 1) := by decide +kernel
theorem d_law_400 : decode code 400 = .ok (.iaload, 1) := by decide +kernel
theorem d_law_401 : decode code 401 = .ok (.invokevirtual 61, 3) := by decide +kernel
theorem d_law_404 : decode code 404 = .ok (.aload_n 2, 1) := by decide +kernel
theorem d_law_405 : decode code 405 = .ok (.aload_n 0, 1) := by decide +kernel
theorem d_law_406 : decode code 406 = .ok (.iload_n 3, 1) := by decide +kernel
theorem d_law_407 : decode code 407 = .ok (.iconst 1, 1) := by decide +kernel
theorem d_law_408 : decode code 408 = .ok (.iadd, 1) := by decide +kernel
theorem d_law_409 : decode code 409 = .ok (.iaload, 1) := by decide +kernel
theorem d_law_410 : decode code 410 = .ok (.aload_n 0, 1) := by decide +kernel
theorem d_law_411 : decode code 411 = .ok (.iload_n 3, 1) := by decide +kernel
theorem d_law_412 : decode code 412 = .ok (.iconst 2, 1) := by decide +kernel
theorem d_law_413 : decode code 413 = .ok (.iadd, 1) := by decide +kernel
theorem d_law_414 : decode code 414 = .ok (.iaload, 1) := by decide +kernel
theorem d_law_415 : decode code 415 = .ok (.aload_n 0, 1) := by decide +kernel
theorem d_law_416 : decode code 416 = .ok (.iload_n 3, 1) := by decide +kernel
theorem d_law_417 : decode code 417 = .ok (.iconst 3, 1) := by decide +kernel
theorem d_law_418 : decode code 418 = .ok (.iadd, 1) := by decide +kernel
theorem d_law_419 : decode code 419 = .ok (.iaload, 1) := by decide +kernel
theorem d_law_420 : decode code 420 = .ok (.invokevirtual 64, 3) := by decide +kernel
theorem d_law_423 : decode code 423 = .ok (.if_icmp .eq 586, 3) := by decide +kernel
theorem d_law_426 : decode code 426 = .ok (.iconst 0, 1) := by decide +kernel
theorem d_law_427 : decode code 427 = .ok (.ireturn, 1) := by decide +kernel
theorem d_law_428 : decode code 428 = .ok (.aload_n 1, 1) := by decide +kernel
theorem d_law_429 : decode code 429 = .ok (.aload_n 0, 1) := by decide +kernel
theorem d_law_430 : decode code 430 = .ok (.iload_n 3, 1) := by decide +kernel
theorem d_law_431 : decode code 431 = .ok (.iconst 1, 1) := by decide +kernel
theorem d_law_432 : decode code 432 = .ok (.iadd, 1) := by decide +kernel
theorem d_law_433 : decode code 433 = .ok (.iaload, 1) := by decide +kernel
theorem d_law_434 : decode code 434 = .ok (.aload_n 0, 1) := by decide +kernel
theorem d_law_435 : decode code 435 = .ok (.iload_n 3, 1) := by decide +kernel
theorem d_law_436 : decode code 436 = .ok (.iconst 2, 1) := by decide +kernel
theorem d_law_437 : decode code 437 = .ok (.iadd, 1) := by decide +kernel
theorem d_law_438 : decode code 438 = .ok (.iaload, 1) := by decide +kernel
theorem d_law_439 : decode code 439 = .ok (.invokevirtual 65, 3) := by decide +kernel
theorem d_law_442 : decode code 442 = .ok (.aload_n 2, 1) := by decide +kernel
theorem d_law_443 : decode code 443 = .ok (.aload_n 0, 1) := by decide +kernel
theorem d_law_444 : decode code 444 = .ok (.iload_n 3, 1) := by decide +kernel
theorem d_law_445 : decode code 445 = .ok (.iconst 1, 1) := by decide +kernel
theorem d_law_446 : decode code 446 = .ok (.iadd, 1) := by decide +kernel
theorem d_law_447 : decode code 447 = .ok (.iaload, 1) := by decide +kernel
theorem d_law_448 : decode code 448 = .ok (.aload_n 0, 1) := by decide +kernel
theorem d_law_449 : decode code 449 = .ok (.iload_n 3, 1) := by decide +kernel
theorem d_law_450 : decode code 450 = .ok (.iconst 2, 1) := by decide +kernel
theorem d_law_451 : decode code 451 = .ok (.iadd, 1) := by decide +kernel
theorem d_law_452 : decode code 452 = .ok (.iaload, 1) := by decide +kernel
theorem d_law_453 : decode code 453 = .ok (.invokevirtual 68, 3) := by decide +kernel
theorem d_law_456 : decode code 456 = .ok (.if_icmp .eq 553, 3) := by decide +kernel
theorem d_law_459 : decode code 459 = .ok (.iconst 0, 1) := by decide +kernel
theorem d_law_460 : decode code 460 = .ok (.ireturn, 1) := by decide +kernel
theorem d_law_461 : decode code 461 = .ok (.aload_n 1, 1) := by decide +kernel
theorem d_law_462 : decode code 462 = .ok (.aload_n 0, 1) := by decide +kernel
theorem d_law_463 : decode code 463 = .ok (.iload_n 3, 1) := by decide +kernel
theorem d_law_464 : decode code 464 = .ok (.iconst 1, 1) := by decide +kernel
theorem d_law_465 : decode code 465 = .ok (.iadd, 1) := by decide +kernel
theorem d_law_466 : decode code 466 = .ok (.iaload, 1) := by decide +kernel
theorem d_law_467 : decode code 467 = .ok (.aload_n 0, 1) := by decide +kernel
theorem d_law_468 : decode code 468 = .ok (.iload_n 3, 1) := by decide +kernel
theorem d_law_469 : decode code 469 = .ok (.iconst 2, 1) := by decide +kernel
theorem d_law_470 : decode code 470 = .ok (.iadd, 1) := by decide +kernel
theorem d_law_471 : decode code 471 = .ok (.iaload, 1) := by decide +kernel
theorem d_law_472 : decode code 472 = .ok (.invokevirtual 69, 3) := by decide +kernel
theorem d_law_475 : decode code 475 = .ok (.aload_n 2, 1) := by decide +kernel
theorem d_law_476 : decode code 476 = .ok (.aload_n 0, 1) := by decide +kernel
theorem d_law_477 : decode code 477 = .ok (.iload_n 3, 1) := by decide +kernel
theorem d_law_478 : decode code 478 = .ok (.iconst 1, 1) := by decide +kernel
theorem d_law_479 : decode code 479 = .ok (.iadd, 1) := by decide +kernel
theorem d_law_480 : decode code 480 = .ok (.iaload, 1) := by decide +kernel
theorem d_law_481 : decode code 481 = .ok (.aload_n 0, 1) := by decide +kernel
theorem d_law_482 : decode code 482 = .ok (.iload_n 3, 1) := by decide +kernel
theorem d_law_483 : decode code 483 = .ok (.iconst 2, 1) := by decide +kernel
theorem d_law_484 : decode code 484 = .ok (.iadd, 1) := by decide +kernel
theorem d_law_485 : decode code 485 = .ok (.iaload, 1) := by decide +kernel
theorem d_law_486 : decode code 486 = .ok (.invokevirtual 72, 3) := by decide +kernel
theorem d_law_489 : decode code 489 = .ok (.if_icmp .eq 520, 3) := by decide +kernel
theorem d_law_492 : decode code 492 = .ok (.iconst 0, 1) := by decide +kernel
theorem d_law_493 : decode code 493 = .ok (.ireturn, 1) := by decide +kernel
theorem d_law_494 : decode code 494 = .ok (.aload_n 1, 1) := by decide +kernel
theorem d_law_495 : decode code 495 = .ok (.aload_n 0, 1) := by decide +kernel
theorem d_law_496 : decode code 496 = .ok (.iload_n 3, 1) := by decide +kernel
theorem d_law_497 : decode code 497 = .ok (.iconst 1, 1) := by decide +kernel
theorem d_law_498 : decode code 498 = .ok (.iadd, 1) := by decide +kernel
theorem d_law_499 : decode code 499 = .ok (.iaload, 1) := by decide +kernel
theorem d_law_500 : decode code 500 = .ok (.aload_n 0, 1) := by decide +kernel
theorem d_law_501 : decode code 501 = .ok (.iload_n 3, 1) := by decide +kernel
theorem d_law_502 : decode code 502 = .ok (.iconst 2, 1) := by decide +kernel
theorem d_law_503 : decode code 503 = .ok (.iadd, 1) := by decide +kernel
theorem d_law_504 : decode code 504 = .ok (.iaload, 1) := by decide +kernel
theorem d_law_505 : decode code 505 = .ok (.invokevirtual 73, 3) := by decide +kernel
theorem d_law_508 : decode code 508 = .ok (.aload_n 2, 1) := by decide +kernel
theorem d_law_509 : decode code 509 = .ok (.aload_n 0, 1) := by decide +kernel
theorem d_law_510 : decode code 510 = .ok (.iload_n 3, 1) := by decide +kernel
theorem d_law_511 : decode code 511 = .ok (.iconst 1, 1) := by decide +kernel
theorem d_law_512 : decode code 512 = .ok (.iadd, 1) := by decide +kernel
theorem d_law_513 : decode code 513 = .ok (.iaload, 1) := by decide +kernel
theorem d_law_514 : decode code 514 = .ok (.aload_n 0, 1) := by decide +kernel
theorem d_law_515 : decode code 515 = .ok (.iload_n 3, 1) := by decide +kernel
theorem d_law_516 : decode code 516 = .ok (.iconst 2, 1) := by decide +kernel
theorem d_law_517 : decode code 517 = .ok (.iadd, 1) := by decide +kernel
theorem d_law_518 : decode code 518 = .ok (.iaload, 1) := by decide +kernel
theorem d_law_519 : decode code 519 = .ok (.invokevirtual 76, 3) := by decide +kernel
theorem d_law_522 : decode code 522 = .ok (.if_icmp .eq 487, 3) := by decide +kernel
theorem d_law_525 : decode code 525 = .ok (.iconst 0, 1) := by decide +kernel
theorem d_law_526 : decode code 526 = .ok (.ireturn, 1) := by decide +kernel
theorem d_law_527 : decode code 527 = .ok (.aload_n 1, 1) := by decide +kernel
theorem d_law_528 : decode code 528 = .ok (.aload_n 0, 1) := by decide +kernel
theorem d_law_529 : decode code 529 = .ok (.iload_n 3, 1) := by decide +kernel
theorem d_law_530 : decode code 530 = .ok (.iconst 1, 1) := by decide +kernel
theorem d_law_531 : decode code 531 = .ok (.iadd, 1) := by decide +kernel
theorem d_law_532 : decode code 532 = .ok (.iaload, 1) := by decide +kernel
theorem d_law_533 : decode code 533 = .ok (.aload_n 0, 1) := by decide +kernel
theorem d_law_534 : decode code 534 = .ok (.iload_n 3, 1) := by decide +kernel
theorem d_law_535 : decode code 535 = .ok (.iconst 2, 1) := by decide +kernel
theorem d_law_536 : decode code 536 = .ok (.iadd, 1) := by decide +kernel
theorem d_law_537 : decode code 537 = .ok (.iaload, 1) := by decide +kernel
theorem d_law_538 : decode code 538 = .ok (.invokevirtual 77, 3) := by decide +kernel
theorem d_law_541 : decode code 541 = .ok (.aload_n 2, 1) := by decide +kernel
theorem d_law_542 : decode code 542 = .ok (.aload_n 0, 1) := by decide +kernel
theorem d_law_543 : decode code 543 = .ok (.iload_n 3, 1) := by decide +kernel
theorem d_law_544 : decode code 544 = .ok (.iconst 1, 1) := by decide +kernel
theorem d_law_545 : decode code 545 = .ok (.iadd, 1) := by decide +kernel
theorem d_law_546 : decode code 546 = .ok (.iaload, 1) := by decide +kernel
theorem d_law_547 : decode code 547 = .ok (.aload_n 0, 1) := by decide +kernel
theorem d_law_548 : decode code 548 = .ok (.iload_n 3, 1) := by decide +kernel
theorem d_law_549 : decode code 549 = .ok (.iconst 2, 1) := by decide +kernel
theorem d_law_550 : decode code 550 = .ok (.iadd, 1) := by decide +kernel
theorem d_law_551 : decode code 551 = .ok (.iaload, 1) := by decide +kernel
theorem d_law_552 : decode code 552 = .ok (.invokevirtual 80, 3) := by decide +kernel
theorem d_law_555 : decode code 555 = .ok (.if_icmp .eq 454, 3) := by decide +kernel
theorem d_law_558 : decode code 558 = .ok (.iconst 0, 1) := by decide +kernel
theorem d_law_559 : decode code 559 = .ok (.ireturn, 1) := by decide +kernel
theorem d_law_560 : decode code 560 = .ok (.aload_n 1, 1) := by decide +kernel
theorem d_law_561 : decode code 561 = .ok (.aload_n 0, 1) := by decide +kernel
theorem d_law_562 : decode code 562 = .ok (.iload_n 3, 1) := by decide +kernel
theorem d_law_563 : decode code 563 = .ok (.iconst 1, 1) := by decide +kernel
theorem d_law_564 : decode code 564 = .ok (.iadd, 1) := by decide +kernel
theorem d_law_565 : decode code 565 = .ok (.iaload, 1) := by decide +kernel
theorem d_law_566 : decode code 566 = .ok (.aload_n 0, 1) := by decide +kernel
theorem d_law_567 : decode code 567 = .ok (.iload_n 3, 1) := by decide +kernel
theorem d_law_568 : decode code 568 = .ok (.iconst 2, 1) := by decide +kernel
theorem d_law_569 : decode code 569 = .ok (.iadd, 1) := by decide +kernel
theorem d_law_570 : decode code 570 = .ok (.iaload, 1) := by decide +kernel
theorem d_law_571 : decode code 571 = .ok (.invokevirtual 81, 3) := by decide +kernel
theorem d_law_574 : decode code 574 = .ok (.aload_n 2, 1) := by decide +kernel
theorem d_law_575 : decode code 575 = .ok (.aload_n 0, 1) := by decide +kernel
theorem d_law_576 : decode code 576 = .ok (.iload_n 3, 1) := by decide +kernel
theorem d_law_577 : decode code 577 = .ok (.iconst 1, 1) := by decide +kernel
theorem d_law_578 : decode code 578 = .ok (.iadd, 1) := by decide +kernel
theorem d_law_579 : decode code 579 = .ok (.iaload, 1) := by decide +kernel
theorem d_law_580 : decode code 580 = .ok (.aload_n 0, 1) := by decide +kernel
theorem d_law_581 : decode code 581 = .ok (.iload_n 3, 1) := by decide +kernel
theorem d_law_582 : decode code 582 = .ok (.iconst 2, 1) := by decide +kernel
theorem d_law_583 : decode code 583 = .ok (.iadd, 1) := by decide +kernel
theorem d_law_584 : decode code 584 = .ok (.iaload, 1) := by decide +kernel
theorem d_law_585 : decode code 585 = .ok (.invokevirtual 84, 3) := by decide +kernel
theorem d_law_588 : decode code 588 = .ok (.if_icmp .eq 421, 3) := by decide +kernel
theorem d_law_591 : decode code 591 = .ok (.iconst 0, 1) := by decide +kernel
theorem d_law_592 : decode code 592 = .ok (.ireturn, 1) := by decide +kernel
theorem d_law_593 : decode code 593 = .ok (.aload_n 1, 1) := by decide +kernel
theorem d_law_594 : decode code 594 = .ok (.aload_n 0, 1) := by decide +kernel
theorem d_law_595 : decode code 595 = .ok (.iload_n 3, 1) := by decide +kernel
theorem d_law_596 : decode code 596 = .ok (.iconst 1, 1) := by decide +kernel
theorem d_law_597 : decode code 597 = .ok (.iadd, 1) := by decide +kernel
theorem d_law_598 : decode code 598 = .ok (.iaload, 1) := by decide +kernel
theorem d_law_599 : decode code 599 = .ok (.aload_n 0, 1) := by decide +kernel
theorem d_law_600 : decode code 600 = .ok (.iload_n 3, 1) := by decide +kernel
theorem d_law_601 : decode code 601 = .ok (.iconst 2, 1) := by decide +kernel
theorem d_law_602 : decode code 602 = .ok (.iadd, 1) := by decide +kernel
theorem d_law_603 : decode code 603 = .ok (.iaload, 1) := by decide +kernel
theorem d_law_604 : decode code 604 = .ok (.aload_n 0, 1) := by decide +kernel
theorem d_law_605 : decode code 605 = .ok (.iload_n 3, 1) := by decide +kernel
theorem d_law_606 : decode code 606 = .ok (.iconst 3, 1) := by decide +kernel
theorem d_law_607 : decode code 607 = .ok (.iadd, 1) := by decide +kernel
theorem d_law_608 : decode code 608 = .ok (.iaload, 1) := by decide +kernel
theorem d_law_609 : decode code 609 = .ok (.ifCond .eq 7, 3) := by decide +kernel
theorem d_law_612 : decode code 612 = .ok (.iconst 1, 1) := by decide +kernel
theorem d_law_613 : decode code 613 = .ok (.goto 4, 3) := by decide +kernel
theorem d_law_616 : decode code 616 = .ok (.iconst 0, 1) := by decide +kernel
theorem d_law_617 : decode code 617 = .ok (.invokevirtual 85, 3) := by decide +kernel
theorem d_law_620 : decode code 620 = .ok (.aload_n 2, 1) := by decide +kernel
theorem d_law_621 : decode code 621 = .ok (.aload_n 0, 1) := by decide +kernel
theorem d_law_622 : decode code 622 = .ok (.iload_n 3, 1) := by decide +kernel
theorem d_law_623 : decode code 623 = .ok (.iconst 1, 1) := by decide +kernel
theorem d_law_624 : decode code 624 = .ok (.iadd, 1) := by decide +kernel
theorem d_law_625 : decode code 625 = .ok (.iaload, 1) := by decide +kernel
theorem d_law_626 : decode code 626 = .ok (.aload_n 0, 1) := by decide +kernel
theorem d_law_627 : decode code 627 = .ok (.iload_n 3, 1) := by decide +kernel
theorem d_law_628 : decode code 628 = .ok (.iconst 2, 1) := by decide +kernel
theorem d_law_629 : decode code 629 = .ok (.iadd, 1) := by decide +kernel
theorem d_law_630 : decode code 630 = .ok (.iaload, 1) := by decide +kernel
theorem d_law_631 : decode code 631 = .ok (.aload_n 0, 1) := by decide +kernel
theorem d_law_632 : decode code 632 = .ok (.iload_n 3, 1) := by decide +kernel
theorem d_law_633 : decode code 633 = .ok (.iconst 3, 1) := by decide +kernel
theorem d_law_634 : decode code 634 = .ok (.iadd, 1) := by decide +kernel
theorem d_law_635 : decode code 635 = .ok (.iaload, 1) := by decide +kernel
theorem d_law_636 : decode code 636 = .ok (.ifCond .eq 7, 3) := by decide +kernel
theorem d_law_639 : decode code 639 = .ok (.iconst 1, 1) := by decide +kernel
theorem d_law_640 : decode code 640 = .ok (.goto 4, 3) := by decide +kernel
theorem d_law_643 : decode code 643 = .ok (.iconst 0, 1) := by decide +kernel
theorem d_law_644 : decode code 644 = .ok (.invokevirtual 89, 3) := by decide +kernel
theorem d_law_647 : decode code 647 = .ok (.if_icmp .eq 362, 3) := by decide +kernel
theorem d_law_650 : decode code 650 = .ok (.iconst 0, 1) := by decide +kernel
theorem d_law_651 : decode code 651 = .ok (.ireturn, 1) := by decide +kernel
theorem d_law_652 : decode code 652 = .ok (.aload_n 1, 1) := by decide +kernel
theorem d_law_653 : decode code 653 = .ok (.aload_n 0, 1) := by decide +kernel
theorem d_law_654 : decode code 654 = .ok (.iload_n 3, 1) := by decide +kernel
theorem d_law_655 : decode code 655 = .ok (.iconst 1, 1) := by decide +kernel
theorem d_law_656 : decode code 656 = .ok (.iadd, 1) := by decide +kernel
theorem d_law_657 : decode code 657 = .ok (.iaload, 1) := by decide +kernel
theorem d_law_658 : decode code 658 = .ok (.aload_n 0, 1) := by decide +kernel
theorem d_law_659 : decode code 659 = .ok (.iload_n 3, 1) := by decide +kernel
theorem d_law_660 : decode code 660 = .ok (.iconst 2, 1) := by decide +kernel
theorem d_law_661 : decode code 661 = .ok (.iadd, 1) := by decide +kernel
theorem d_law_662 : decode code 662 = .ok (.iaload, 1) := by decide +kernel
theorem d_law_663 : decode code 663 = .ok (.invokevirtual 90, 3) := by decide +kernel
theorem d_law_666 : decode code 666 = .ok (.aload_n 2, 1) := by decide +kernel
theorem d_law_667 : decode code 667 = .ok (.aload_n 0, 1) := by decide +kernel
theorem d_law_668 : decode code 668 = .ok (.iload_n 3, 1) := by decide +kernel
theorem d_law_669 : decode code 669 = .ok (.iconst 1, 1) := by decide +kernel
theorem d_law_670 : decode code 670 = .ok (.iadd, 1) := by decide +kernel
theorem d_law_671 : decode code 671 = .ok (.iaload, 1) := by decide +kernel
theorem d_law_672 : decode code 672 = .ok (.aload_n 0, 1) := by decide +kernel
theorem d_law_673 : decode code 673 = .ok (.iload_n 3, 1) := by decide +kernel
theorem d_law_674 : decode code 674 = .ok (.iconst 2, 1) := by decide +kernel
theorem d_law_675 : decode code 675 = .ok (.iadd, 1) := by decide +kernel
theorem d_law_676 : decode code 676 = .ok (.iaload, 1) := by decide +kernel
theorem d_law_677 : decode code 677 = .ok (.invokevirtual 93, 3) := by decide +kernel
theorem d_law_680 : decode code 680 = .ok (.if_icmp .eq 329, 3) := by decide +kernel
theorem d_law_683 : decode code 683 = .ok (.iconst 0, 1) := by decide +kernel
theorem d_law_684 : decode code 684 = .ok (.ireturn, 1) := by decide +kernel
theorem d_law_685 : decode code 685 = .ok (.aload_n 1, 1) := by decide +kernel
theorem d_law_686 : decode code 686 = .ok (.aload_n 0, 1) := by decide +kernel
theorem d_law_687 : decode code 687 = .ok (.iload_n 3, 1) := by decide +kernel
theorem d_law_688 : decode code 688 = .ok (.iconst 1, 1) := by decide +kernel
theorem d_law_689 : decode code 689 = .ok (.iadd, 1) := by decide +kernel
theorem d_law_690 : decode code 690 = .ok (.iaload, 1) := by decide +kernel
theorem d_law_691 : decode code 691 = .ok (.invokevirtual 94, 3) := by decide +kernel
theorem d_law_694 : decode code 694 = .ok (.aload_n 2, 1) := by decide +kernel
theorem d_law_695 : decode code 695 = .ok (.aload_n 0, 1) := by decide +kernel
theorem d_law_696 : decode code 696 = .ok (.iload_n 3, 1) := by decide +kernel
theorem d_law_697 : decode code 697 = .ok (.iconst 1, 1) := by decide +kernel
theorem d_law_698 : decode code 698 = .ok (.iadd, 1) := by decide +kernel
theorem d_law_699 : decode code 699 = .ok (.iaload, 1) := by decide +kernel
theorem d_law_700 : decode code 700 = .ok (.invokevirtual 97, 3) := by decide +kernel
theorem d_law_703 : decode code 703 = .ok (.if_icmp .eq 306, 3) := by decide +kernel
theorem d_law_706 : decode code 706 = .ok (.iconst 0, 1) := by decide +kernel
theorem d_law_707 : decode code 707 = .ok (.ireturn, 1) := by decide +kernel
theorem d_law_708 : decode code 708 = .ok (.aload_n 1, 1) := by decide +kernel
theorem d_law_709 : decode code 709 = .ok (.aload_n 0, 1) := by decide +kernel
theorem d_law_710 : decode code 710 = .ok (.iload_n 3, 1) := by decide +kernel
theorem d_law_711 : decode code 711 = .ok (.iconst 1, 1) := by decide +kernel
theorem d_law_712 : decode code 712 = .ok (.iadd, 1) := by decide +kernel
theorem d_law_713 : decode code 713 = .ok (.iaload, 1) := by decide +kernel
theorem d_law_714 : decode code 714 = .ok (.aload_n 0, 1) := by decide +kernel
theorem d_law_715 : decode code 715 = .ok (.iload_n 3, 1) := by decide +kernel
theorem d_law_716 : decode code 716 = .ok (.iconst 2, 1) := by decide +kernel
theorem d_law_717 : decode code 717 = .ok (.iadd, 1) := by decide +kernel
theorem d_law_718 : decode code 718 = .ok (.iaload, 1) := by decide +kernel
theorem d_law_719 : decode code 719 = .ok (.aload_n 0, 1) := by decide +kernel
theorem d_law_720 : decode code 720 = .ok (.iload_n 3, 1) := by decide +kernel
theorem d_law_721 : decode code 721 = .ok (.iconst 3, 1) := by decide +kernel
theorem d_law_722 : decode code 722 = .ok (.iadd, 1) := by decide +kernel
theorem d_law_723 : decode code 723 = .ok (.iaload, 1) := by decide +kernel
theorem d_law_724 : decode code 724 = .ok (.invokevirtual 98, 3) := by decide +kernel
theorem d_law_727 : decode code 727 = .ok (.aload_n 2, 1) := by decide +kernel
theorem d_law_728 : decode code 728 = .ok (.aload_n 0, 1) := by decide +kernel
theorem d_law_729 : decode code 729 = .ok (.iload_n 3, 1) := by decide +kernel
theorem d_law_730 : decode code 730 = .ok (.iconst 1, 1) := by decide +kernel
theorem d_law_731 : decode code 731 = .ok (.iadd, 1) := by decide +kernel
theorem d_law_732 : decode code 732 = .ok (.iaload, 1) := by decide +kernel
theorem d_law_733 : decode code 733 = .ok (.aload_n 0, 1) := by decide +kernel
theorem d_law_734 : decode code 734 = .ok (.iload_n 3, 1) := by decide +kernel
theorem d_law_735 : decode code 735 = .ok (.iconst 2, 1) := by decide +kernel
theorem d_law_736 : decode code 736 = .ok (.iadd, 1) := by decide +kernel
theorem d_law_737 : decode code 737 = .ok (.iaload, 1) := by decide +kernel
theorem d_law_738 : decode code 738 = .ok (.aload_n 0, 1) := by decide +kernel
theorem d_law_739 : decode code 739 = .ok (.iload_n 3, 1) := by decide +kernel
theorem d_law_740 : decode code 740 = .ok (.iconst 3, 1) := by decide +kernel
theorem d_law_741 : decode code 741 = .ok (.iadd, 1) := by decide +kernel
theorem d_law_742 : decode code 742 = .ok (.iaload, 1) := by decide +kernel
theorem d_law_743 : decode code 743 = .ok (.invokevirtual 101, 3) := by decide +kernel
theorem d_law_746 : decode code 746 = .ok (.if_icmp .eq 263, 3) := by decide +kernel
theorem d_law_749 : decode code 749 = .ok (.iconst 0, 1) := by decide +kernel
theorem d_law_750 : decode code 750 = .ok (.ireturn, 1) := by decide +kernel
theorem d_law_751 : decode code 751 = .ok (.aload_n 1, 1) := by decide +kernel
theorem d_law_752 : decode code 752 = .ok (.aload_n 0, 1) := by decide +kernel
theorem d_law_753 : decode code 753 = .ok (.iload_n 3, 1) := by decide +kernel
theorem d_law_754 : decode code 754 = .ok (.iconst 1, 1) := by decide +kernel
theorem d_law_755 : decode code 755 = .ok (.iadd, 1) := by decide +kernel
theorem d_law_756 : decode code 756 = .ok (.iaload, 1) := by decide +kernel
theorem d_law_757 : decode code 757 = .ok (.aload_n 0, 1) := by decide +kernel
theorem d_law_758 : decode code 758 = .ok (.iload_n 3, 1) := by decide +kernel
theorem d_law_759 : decode code 759 = .ok (.iconst 2, 1) := by decide +kernel
theorem d_law_760 : decode code 760 = .ok (.iadd, 1) := by decide +kernel
theorem d_law_761 : decode code 761 = .ok (.iaload, 1) := by decide +kernel
theorem d_law_762 : decode code 762 = .ok (.invokevirtual 102, 3) := by decide +kernel
theorem d_law_765 : decode code 765 = .ok (.aload_n 2, 1) := by decide +kernel
theorem d_law_766 : decode code 766 = .ok (.aload_n 0, 1) := by decide +kernel
theorem d_law_767 : decode code 767 = .ok (.iload_n 3, 1) := by decide +kernel
theorem d_law_768 : decode code 768 = .ok (.iconst 1, 1) := by decide +kernel
theorem d_law_769 : decode code 769 = .ok (.iadd, 1) := by decide +kernel
theorem d_law_770 : decode code 770 = .ok (.iaload, 1) := by decide +kernel
theorem d_law_771 : decode code 771 = .ok (.aload_n 0, 1) := by decide +kernel
theorem d_law_772 : decode code 772 = .ok (.iload_n 3, 1) := by decide +kernel
theorem d_law_773 : decode code 773 = .ok (.iconst 2, 1) := by decide +kernel
theorem d_law_774 : decode code 774 = .ok (.iadd, 1) := by decide +kernel
theorem d_law_775 : decode code 775 = .ok (.iaload, 1) := by decide +kernel
theorem d_law_776 : decode code 776 = .ok (.invokevirtual 105, 3) := by decide +kernel
theorem d_law_779 : decode code 779 = .ok (.if_icmp .eq 230, 3) := by decide +kernel
theorem d_law_782 : decode code 782 = .ok (.iconst 0, 1) := by decide +kernel
theorem d_law_783 : decode code 783 = .ok (.ireturn, 1) := by decide +kernel
theorem d_law_784 : decode code 784 = .ok (.aload_n 1, 1) := by decide +kernel
theorem d_law_785 : decode code 785 = .ok (.aload_n 0, 1) := by decide +kernel
theorem d_law_786 : decode code 786 = .ok (.iload_n 3, 1) := by decide +kernel
theorem d_law_787 : decode code 787 = .ok (.iconst 1, 1) := by decide +kernel
theorem d_law_788 : decode code 788 = .ok (.iadd, 1) := by decide +kernel
theorem d_law_789 : decode code 789 = .ok (.iaload, 1) := by decide +kernel
theorem d_law_790 : decode code 790 = .ok (.invokevirtual 106, 3) := by decide +kernel
theorem d_law_793 : decode code 793 = .ok (.aload_n 2, 1) := by decide +kernel
theorem d_law_794 : decode code 794 = .ok (.aload_n 0, 1) := by decide +kernel
theorem d_law_795 : decode code 795 = .ok (.iload_n 3, 1) := by decide +kernel
theorem d_law_796 : decode code 796 = .ok (.iconst 1, 1) := by decide +kernel
theorem d_law_797 : decode code 797 = .ok (.iadd, 1) := by decide +kernel
theorem d_law_798 : decode code 798 = .ok (.iaload, 1) := by decide +kernel
theorem d_law_799 : decode code 799 = .ok (.invokevirtual 109, 3) := by decide +kernel
theorem d_law_802 : decode code 802 = .ok (.if_icmp .eq 207, 3) := by decide +kernel
theorem d_law_805 : decode code 805 = .ok (.iconst 0, 1) := by decide +kernel
theorem d_law_806 : decode code 806 = .ok (.ireturn, 1) := by decide +kernel
theorem d_law_807 : decode code 807 = .ok (.aload_n 1, 1) := by decide +kernel
theorem d_law_808 : decode code 808 = .ok (.aload_n 0, 1) := by decide +kernel
theorem d_law_809 : decode code 809 = .ok (.iload_n 3, 1) := by decide +kernel
theorem d_law_810 : decode code 810 = .ok (.iconst 1, 1) := by decide +kernel
theorem d_law_811 : decode code 811 = .ok (.iadd, 1) := by decide +kernel
theorem d_law_812 : decode code 812 = .ok (.iaload, 1) := by decide +kernel
theorem d_law_813 : decode code 813 = .ok (.aload_n 0, 1) := by decide +kernel
theorem d_law_814 : decode code 814 = .ok (.iload_n 3, 1) := by decide +kernel
theorem d_law_815 : decode code 815 = .ok (.iconst 2, 1) := by decide +kernel
theorem d_law_816 : decode code 816 = .ok (.iadd, 1) := by decide +kernel
theorem d_law_817 : decode code 817 = .ok (.iaload, 1) := by decide +kernel
theorem d_law_818 : decode code 818 = .ok (.invokevirtual 110, 3) := by decide +kernel
theorem d_law_821 : decode code 821 = .ok (.aload_n 2, 1) := by decide +kernel
theorem d_law_822 : decode code 822 = .ok (.aload_n 0, 1) := by decide +kernel
theorem d_law_823 : decode code 823 = .ok (.iload_n 3, 1) := by decide +kernel
theorem d_law_824 : decode code 824 = .ok (.iconst 1, 1) := by decide +kernel
theorem d_law_825 : decode code 825 = .ok (.iadd, 1) := by decide +kernel
theorem d_law_826 : decode code 826 = .ok (.iaload, 1) := by decide +kernel
theorem d_law_827 : decode code 827 = .ok (.aload_n 0, 1) := by decide +kernel
theorem d_law_828 : decode code 828 = .ok (.iload_n 3, 1) := by decide +kernel
theorem d_law_829 : decode code 829 = .ok (.iconst 2, 1) := by decide +kernel
theorem d_law_830 : decode code 830 = .ok (.iadd, 1) := by decide +kernel
theorem d_law_831 : decode code 831 = .ok (.iaload, 1) := by decide +kernel
theorem d_law_832 : decode code 832 = .ok (.invokevirtual 113, 3) := by decide +kernel
theorem d_law_835 : decode code 835 = .ok (.if_icmp .eq 174, 3) := by decide +kernel
theorem d_law_838 : decode code 838 = .ok (.iconst 0, 1) := by decide +kernel
theorem d_law_839 : decode code 839 = .ok (.ireturn, 1) := by decide +kernel
theorem d_law_840 : decode code 840 = .ok (.aload_n 1, 1) := by decide +kernel
theorem d_law_841 : decode code 841 = .ok (.aload_n 0, 1) := by decide +kernel
theorem d_law_842 : decode code 842 = .ok (.iload_n 3, 1) := by decide +kernel
theorem d_law_843 : decode code 843 = .ok (.iconst 1, 1) := by decide +kernel
theorem d_law_844 : decode code 844 = .ok (.iadd, 1) := by decide +kernel
theorem d_law_845 : decode code 845 = .ok (.iaload, 1) := by decide +kernel
theorem d_law_846 : decode code 846 = .ok (.aload_n 0, 1) := by decide +kernel
theorem d_law_847 : decode code 847 = .ok (.iload_n 3, 1) := by decide +kernel
theorem d_law_848 : decode code 848 = .ok (.iconst 2, 1) := by decide +kernel
theorem d_law_849 : decode code 849 = .ok (.iadd, 1) := by decide +kernel
theorem d_law_850 : decode code 850 = .ok (.iaload, 1) := by decide +kernel
theorem d_law_851 : decode code 851 = .ok (.invokevirtual 114, 3) := by decide +kernel
theorem d_law_854 : decode code 854 = .ok (.aload_n 2, 1) := by decide +kernel
theorem d_law_855 : decode code 855 = .ok (.aload_n 0, 1) := by decide +kernel
theorem d_law_856 : decode code 856 = .ok (.iload_n 3, 1) := by decide +kernel
theorem d_law_857 : decode code 857 = .ok (.iconst 1, 1) := by decide +kernel
theorem d_law_858 : decode code 858 = .ok (.iadd, 1) := by decide +kernel
theorem d_law_859 : decode code 859 = .ok (.iaload, 1) := by decide +kernel
theorem d_law_860 : decode code 860 = .ok (.aload_n 0, 1) := by decide +kernel
theorem d_law_861 : decode code 861 = .ok (.iload_n 3, 1) := by decide +kernel
theorem d_law_862 : decode code 862 = .ok (.iconst 2, 1) := by decide +kernel
theorem d_law_863 : decode code 863 = .ok (.iadd, 1) := by decide +kernel
theorem d_law_864 : decode code 864 = .ok (.iaload, 1) := by decide +kernel
theorem d_law_865 : decode code 865 = .ok (.invokevirtual 117, 3) := by decide +kernel
theorem d_law_868 : decode code 868 = .ok (.if_icmp .eq 141, 3) := by decide +kernel
theorem d_law_871 : decode code 871 = .ok (.iconst 0, 1) := by decide +kernel
theorem d_law_872 : decode code 872 = .ok (.ireturn, 1) := by decide +kernel
theorem d_law_873 : decode code 873 = .ok (.aload_n 1, 1) := by decide +kernel
theorem d_law_874 : decode code 874 = .ok (.aload_n 0, 1) := by decide +kernel
theorem d_law_875 : decode code 875 = .ok (.iload_n 3, 1) := by decide +kernel
theorem d_law_876 : decode code 876 = .ok (.iconst 1, 1) := by decide +kernel
theorem d_law_877 : decode code 877 = .ok (.iadd, 1) := by decide +kernel
theorem d_law_878 : decode code 878 = .ok (.iaload, 1) := by decide +kernel
theorem d_law_879 : decode code 879 = .ok (.aload_n 0, 1) := by decide +kernel
theorem d_law_880 : decode code 880 = .ok (.iload_n 3, 1) := by decide +kernel
theorem d_law_881 : decode code 881 = .ok (.iconst 2, 1) := by decide +kernel
theorem d_law_882 : decode code 882 = .ok (.iadd, 1) := by decide +kernel
theorem d_law_883 : decode code 883 = .ok (.iaload, 1) := by decide +kernel
theorem d_law_884 : decode code 884 = .ok (.invokevirtual 118, 3) := by decide +kernel
theorem d_law_887 : decode code 887 = .ok (.aload_n 2, 1) := by decide +kernel
theorem d_law_888 : decode code 888 = .ok (.aload_n 0, 1) := by decide +kernel
theorem d_law_889 : decode code 889 = .ok (.iload_n 3, 1) := by decide +kernel
theorem d_law_890 : decode code 890 = .ok (.iconst 1, 1) := by decide +kernel
theorem d_law_891 : decode code 891 = .ok (.iadd, 1) := by decide +kernel
theorem d_law_892 : decode code 892 = .ok (.iaload, 1) := by decide +kernel
theorem d_law_893 : decode code 893 = .ok (.aload_n 0, 1) := by decide +kernel
theorem d_law_894 : decode code 894 = .ok (.iload_n 3, 1) := by decide +kernel
theorem d_law_895 : decode code 895 = .ok (.iconst 2, 1) := by decide +kernel
theorem d_law_896 : decode code 896 = .ok (.iadd, 1) := by decide +kernel
theorem d_law_897 : decode code 897 = .ok (.iaload, 1) := by decide +kernel
theorem d_law_898 : decode code 898 = .ok (.invokevirtual 122, 3) := by decide +kernel
theorem d_law_901 : decode code 901 = .ok (.lcmp, 1) := by decide +kernel
theorem d_law_902 : decode code 902 = .ok (.ifCond .eq 107, 3) := by decide +kernel
theorem d_law_905 : decode code 905 = .ok (.iconst 0, 1) := by decide +kernel
theorem d_law_906 : decode code 906 = .ok (.ireturn, 1) := by decide +kernel
theorem d_law_907 : decode code 907 = .ok (.aload_n 1, 1) := by decide +kernel
theorem d_law_908 : decode code 908 = .ok (.aload_n 0, 1) := by decide +kernel
theorem d_law_909 : decode code 909 = .ok (.iload_n 3, 1) := by decide +kernel
theorem d_law_910 : decode code 910 = .ok (.iconst 1, 1) := by decide +kernel
theorem d_law_911 : decode code 911 = .ok (.iadd, 1) := by decide +kernel
theorem d_law_912 : decode code 912 = .ok (.iaload, 1) := by decide +kernel
theorem d_law_913 : decode code 913 = .ok (.aload_n 0, 1) := by decide +kernel
theorem d_law_914 : decode code 914 = .ok (.iload_n 3, 1) := by decide +kernel
theorem d_law_915 : decode code 915 = .ok (.iconst 2, 1) := by decide +kernel
theorem d_law_916 : decode code 916 = .ok (.iadd, 1) := by decide +kernel
theorem d_law_917 : decode code 917 = .ok (.iaload, 1) := by decide +kernel
theorem d_law_918 : decode code 918 = .ok (.invokevirtual 123, 3) := by decide +kernel
theorem d_law_921 : decode code 921 = .ok (.aload_n 2, 1) := by decide +kernel
theorem d_law_922 : decode code 922 = .ok (.aload_n 0, 1) := by decide +kernel
theorem d_law_923 : decode code 923 = .ok (.iload_n 3, 1) := by decide +kernel
theorem d_law_924 : decode code 924 = .ok (.iconst 1, 1) := by decide +kernel
theorem d_law_925 : decode code 925 = .ok (.iadd, 1) := by decide +kernel
theorem d_law_926 : decode code 926 = .ok (.iaload, 1) := by decide +kernel
theorem d_law_927 : decode code 927 = .ok (.aload_n 0, 1) := by decide +kernel
theorem d_law_928 : decode code 928 = .ok (.iload_n 3, 1) := by decide +kernel
theorem d_law_929 : decode code 929 = .ok (.iconst 2, 1) := by decide +kernel
theorem d_law_930 : decode code 930 = .ok (.iadd, 1) := by decide +kernel
theorem d_law_931 : decode code 931 = .ok (.iaload, 1) := by decide +kernel
theorem d_law_932 : decode code 932 = .ok (.invokevirtual 126, 3) := by decide +kernel
theorem d_law_935 : decode code 935 = .ok (.if_icmp .eq 74, 3) := by decide +kernel
theorem d_law_938 : decode code 938 = .ok (.iconst 0, 1) := by decide +kernel
theorem d_law_939 : decode code 939 = .ok (.ireturn, 1) := by decide +kernel
theorem d_law_940 : decode code 940 = .ok (.aload_n 1, 1) := by decide +kernel
theorem d_law_941 : decode code 941 = .ok (.aload_n 0, 1) := by decide +kernel
theorem d_law_942 : decode code 942 = .ok (.iload_n 3, 1) := by decide +kernel
theorem d_law_943 : decode code 943 = .ok (.iconst 1, 1) := by decide +kernel
theorem d_law_944 : decode code 944 = .ok (.iadd, 1) := by decide +kernel
theorem d_law_945 : decode code 945 = .ok (.iaload, 1) := by decide +kernel
theorem d_law_946 : decode code 946 = .ok (.invokevirtual 127, 3) := by decide +kernel
theorem d_law_949 : decode code 949 = .ok (.aload_n 2, 1) := by decide +kernel
theorem d_law_950 : decode code 950 = .ok (.aload_n 0, 1) := by decide +kernel
theorem d_law_951 : decode code 951 = .ok (.iload_n 3, 1) := by decide +kernel
theorem d_law_952 : decode code 952 = .ok (.iconst 1, 1) := by decide +kernel
theorem d_law_953 : decode code 953 = .ok (.iadd, 1) := by decide +kernel
theorem d_law_954 : decode code 954 = .ok (.iaload, 1) := by decide +kernel
theorem d_law_955 : decode code 955 = .ok (.invokevirtual 130, 3) := by decide +kernel
theorem d_law_958 : decode code 958 = .ok (.if_icmp .eq 51, 3) := by decide +kernel
theorem d_law_961 : decode code 961 = .ok (.iconst 0, 1) := by decide +kernel
theorem d_law_962 : decode code 962 = .ok (.ireturn, 1) := by decide +kernel
theorem d_law_963 : decode code 963 = .ok (.aload_n 1, 1) := by decide +kernel
theorem d_law_964 : decode code 964 = .ok (.aload_n 0, 1) := by decide +kernel
theorem d_law_965 : decode code 965 = .ok (.iload_n 3, 1) := by decide +kernel
theorem d_law_966 : decode code 966 = .ok (.iconst 1, 1) := by decide +kernel
theorem d_law_967 : decode code 967 = .ok (.iadd, 1) := by decide +kernel
theorem d_law_968 : decode code 968 = .ok (.iaload, 1) := by decide +kernel
theorem d_law_969 : decode code 969 = .ok (.invokevirtual 131, 3) := by decide +kernel
theorem d_law_972 : decode code 972 = .ok (.aload_n 2, 1) := by decide +kernel
theorem d_law_973 : decode code 973 = .ok (.aload_n 0, 1) := by decide +kernel
theorem d_law_974 : decode code 974 = .ok (.iload_n 3, 1) := by decide +kernel
theorem d_law_975 : decode code 975 = .ok (.iconst 1, 1) := by decide +kernel
theorem d_law_976 : decode code 976 = .ok (.iadd, 1) := by decide +kernel
theorem d_law_977 : decode code 977 = .ok (.iaload, 1) := by decide +kernel
theorem d_law_978 : decode code 978 = .ok (.invokevirtual 134, 3) := by decide +kernel
theorem d_law_981 : decode code 981 = .ok (.if_icmp .eq 28, 3) := by decide +kernel
theorem d_law_984 : decode code 984 = .ok (.iconst 0, 1) := by decide +kernel
theorem d_law_985 : decode code 985 = .ok (.ireturn, 1) := by decide +kernel
theorem d_law_986 : decode code 986 = .ok (.aload_n 1, 1) := by decide +kernel
theorem d_law_987 : decode code 987 = .ok (.aload_n 0, 1) := by decide +kernel
theorem d_law_988 : decode code 988 = .ok (.iload_n 3, 1) := by decide +kernel
theorem d_law_989 : decode code 989 = .ok (.iconst 1, 1) := by decide +kernel
theorem d_law_990 : decode code 990 = .ok (.iadd, 1) := by decide +kernel
theorem d_law_991 : decode code 991 = .ok (.iaload, 1) := by decide +kernel
theorem d_law_992 : decode code 992 = .ok (.invokevirtual 135, 3) := by decide +kernel
theorem d_law_995 : decode code 995 = .ok (.aload_n 2, 1) := by decide +kernel
theorem d_law_996 : decode code 996 = .ok (.aload_n 0, 1) := by decide +kernel
theorem d_law_997 : decode code 997 = .ok (.iload_n 3, 1) := by decide +kernel
theorem d_law_998 : decode code 998 = .ok (.iconst 1, 1) := by decide +kernel
theorem d_law_999 : decode code 999 = .ok (.iadd, 1) := by decide +kernel
theorem d_law_1000 : decode code 1000 = .ok (.iaload, 1) := by decide +kernel
theorem d_law_1001 : decode code 1001 = .ok (.invokevirtual 138, 3) := by decide +kernel
theorem d_law_1004 : decode code 1004 = .ok (.if_icmp .eq 5, 3) := by decide +kernel
theorem d_law_1007 : decode code 1007 = .ok (.iconst 0, 1) := by decide +kernel
theorem d_law_1008 : decode code 1008 = .ok (.ireturn, 1) := by decide +kernel
theorem d_law_1009 : decode code 1009 = .ok (.iinc 3 4, 3) := by decide +kernel
theorem d_law_1012 : decode code 1012 = .ok (.goto (-984), 3) := by decide +kernel
theorem d_law_1015 : decode code 1015 = .ok (.iconst 1, 1) := by decide +kernel
theorem d_law_1016 : decode code 1016 = .ok (.ireturn, 1) := by decide +kernel
