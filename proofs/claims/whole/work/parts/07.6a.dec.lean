theorem dL_law_0 : decode code 0 = .ok (.new 7, 3) := by decide +kernel
theorem dL_law_3 : decode code 3 = .ok (.dup, 1) := by decide +kernel
theorem dL_law_4 : decode code 4 = .ok (.invokespecial 9, 3) := by decide +kernel
theorem dL_law_7 : decode code 7 = .ok (.astore_n 1, 1) := by decide +kernel
theorem dL_law_8 : decode code 8 = .ok (.new 10, 3) := by decide +kernel
theorem dL_law_11 : decode code 11 = .ok (.dup, 1) := by decide +kernel
theorem dL_law_12 : decode code 12 = .ok (.invokespecial 12, 3) := by decide +kernel
theorem dL_law_15 : decode code 15 = .ok (.astore_n 2, 1) := by decide +kernel
theorem dL_law_16 : decode code 16 = .ok (.iconst 0, 1) := by decide +kernel
theorem dL_law_17 : decode code 17 = .ok (.istore_n 3, 1) := by decide +kernel
theorem dL_law_18 : decode code 18 = .ok (.iload_n 3, 1) := by decide +kernel
theorem dL_law_19 : decode code 19 = .ok (.aload_n 0, 1) := by decide +kernel
theorem dL_law_20 : decode code 20 = .ok (.arraylength, 1) := by decide +kernel
theorem dL_law_21 : decode code 21 = .ok (.iconst 5, 1) := by decide +kernel
theorem dL_law_22 : decode code 22 = .ok (.isub, 1) := by decide +kernel
theorem dL_law_23 : decode code 23 = .ok (.if_icmp .gt 754, 3) := by decide +kernel
theorem dL_law_26 : decode code 26 = .ok (.aload_n 0, 1) := by decide +kernel
theorem dL_law_27 : decode code 27 = .ok (.iload_n 3, 1) := by decide +kernel
theorem dL_law_28 : decode code 28 = .ok (.iaload, 1) := by decide +kernel
theorem dL_law_29 : decode code 29 = .ok (.bipush 31, 2) := by decide +kernel
theorem dL_law_31 : decode code 31 = .ok (.iand, 1) := by decide +kernel
theorem dL_law_32 : decode code 32 = .ok (.tableswitch 739 0 25 #[120, 143, 156, 169, 202, 235, 268, 291, 324, 337, 350, 373, 386, 419, 432, 485, 508, 531, 564, 577, 590, 623, 656, 679, 702, 725], 120) := by decide +kernel
theorem dL_law_152 : decode code 152 = .ok (.aload_n 1, 1) := by decide +kernel
theorem dL_law_153 : decode code 153 = .ok (.aload_n 0, 1) := by decide +kernel
theorem dL_law_154 : decode code 154 = .ok (.iload_n 3, 1) := by decide +kernel
theorem dL_law_155 : decode code 155 = .ok (.iconst 1, 1) := by decide +kernel
theorem dL_law_156 : decode code 156 = .ok (.iadd, 1) := by decide +kernel
theorem dL_law_157 : decode code 157 = .ok (.iaload, 1) := by decide +kernel
theorem dL_law_158 : decode code 158 = .ok (.invokevirtual 13, 3) := by decide +kernel
theorem dL_law_161 : decode code 161 = .ok (.aload_n 2, 1) := by decide +kernel
theorem dL_law_162 : decode code 162 = .ok (.aload_n 0, 1) := by decide +kernel
theorem dL_law_163 : decode code 163 = .ok (.iload_n 3, 1) := by decide +kernel
theorem dL_law_164 : decode code 164 = .ok (.iconst 1, 1) := by decide +kernel
theorem dL_law_165 : decode code 165 = .ok (.iadd, 1) := by decide +kernel
theorem dL_law_166 : decode code 166 = .ok (.iaload, 1) := by decide +kernel
theorem dL_law_167 : decode code 167 = .ok (.invokevirtual 17, 3) := by decide +kernel
theorem dL_law_170 : decode code 170 = .ok (.if_icmp .eq 601, 3) := by decide +kernel
theorem dL_law_173 : decode code 173 = .ok (.iconst 0, 1) := by decide +kernel
theorem dL_law_174 : decode code 174 = .ok (.ireturn, 1) := by decide +kernel
theorem dL_law_175 : decode code 175 = .ok (.aload_n 1, 1) := by decide +kernel
theorem dL_law_176 : decode code 176 = .ok (.invokevirtual 18, 3) := by decide +kernel
theorem dL_law_179 : decode code 179 = .ok (.aload_n 2, 1) := by decide +kernel
theorem dL_law_180 : decode code 180 = .ok (.invokevirtual 22, 3) := by decide +kernel
theorem dL_law_183 : decode code 183 = .ok (.if_icmp .eq 588, 3) := by decide +kernel
theorem dL_law_186 : decode code 186 = .ok (.iconst 0, 1) := by decide +kernel
theorem dL_law_187 : decode code 187 = .ok (.ireturn, 1) := by decide +kernel
theorem dL_law_188 : decode code 188 = .ok (.aload_n 1, 1) := by decide +kernel
theorem dL_law_189 : decode code 189 = .ok (.invokevirtual 23, 3) := by decide +kernel
theorem dL_law_192 : decode code 192 = .ok (.aload_n 2, 1) := by decide +kernel
theorem dL_law_193 : decode code 193 = .ok (.invokevirtual 26, 3) := by decide +kernel
theorem dL_law_196 : decode code 196 = .ok (.if_icmp .eq 575, 3) := by decide +kernel
theorem dL_law_199 : decode code 199 = .ok (.iconst 0, 1) := by decide +kernel
theorem dL_law_200 : decode code 200 = .ok (.ireturn, 1) := by decide +kernel
theorem dL_law_201 : decode code 201 = .ok (.aload_n 1, 1) := by decide +kernel
theorem dL_law_202 : decode code 202 = .ok (.aload_n 0, 1) := by decide +kernel
theorem dL_law_203 : decode code 203 = .ok (.iload_n 3, 1) := by decide +kernel
theorem dL_law_204 : decode code 204 = .ok (.iconst 1, 1) := by decide +kernel
theorem dL_law_205 : decode code 205 = .ok (.iadd, 1) := by decide +kernel
theorem dL_law_206 : decode code 206 = .ok (.iaload, 1) := by decide +kernel
theorem dL_law_207 : decode code 207 = .ok (.aload_n 0, 1) := by decide +kernel
theorem dL_law_208 : decode code 208 = .ok (.iload_n 3, 1) := by decide +kernel
theorem dL_law_209 : decode code 209 = .ok (.iconst 2, 1) := by decide +kernel
theorem dL_law_210 : decode code 210 = .ok (.iadd, 1) := by decide +kernel
theorem dL_law_211 : decode code 211 = .ok (.iaload, 1) := by decide +kernel
theorem dL_law_212 : decode code 212 = .ok (.invokevirtual 27, 3) := by decide +kernel
theorem dL_law_215 : decode code 215 = .ok (.aload_n 2, 1) := by decide +kernel
theorem dL_law_216 : decode code 216 = .ok (.aload_n 0, 1) := by decide +kernel
theorem dL_law_217 : decode code 217 = .ok (.iload_n 3, 1) := by decide +kernel
theorem dL_law_218 : decode code 218 = .ok (.iconst 1, 1) := by decide +kernel
theorem dL_law_219 : decode code 219 = .ok (.iadd, 1) := by decide +kernel
theorem dL_law_220 : decode code 220 = .ok (.iaload, 1) := by decide +kernel
theorem dL_law_221 : decode code 221 = .ok (.aload_n 0, 1) := by decide +kernel
theorem dL_law_222 : decode code 222 = .ok (.iload_n 3, 1) := by decide +kernel
theorem dL_law_223 : decode code 223 = .ok (.iconst 2, 1) := by decide +kernel
theorem dL_law_224 : decode code 224 = .ok (.iadd, 1) := by decide +kernel
theorem dL_law_225 : decode code 225 = .ok (.iaload, 1) := by decide +kernel
theorem dL_law_226 : decode code 226 = .ok (.invokevirtual 31, 3) := by decide +kernel
theorem dL_law_229 : decode code 229 = .ok (.if_icmp .eq 542, 3) := by decide +kernel
theorem dL_law_232 : decode code 232 = .ok (.iconst 0, 1) := by decide +kernel
theorem dL_law_233 : decode code 233 = .ok (.ireturn, 1) := by decide +kernel
theorem dL_law_234 : decode code 234 = .ok (.aload_n 1, 1) := by decide +kernel
theorem dL_law_235 : decode code 235 = .ok (.aload_n 0, 1) := by decide +kernel
theorem dL_law_236 : decode code 236 = .ok (.iload_n 3, 1) := by decide +kernel
theorem dL_law_237 : decode code 237 = .ok (.iconst 1, 1) := by decide +kernel
theorem dL_law_238 : decode code 238 = .ok (.iadd, 1) := by decide +kernel
theorem dL_law_239 : decode code 239 = .ok (.iaload, 1) := by decide +kernel
theorem dL_law_240 : decode code 240 = .ok (.aload_n 0, 1) := by decide +kernel
theorem dL_law_241 : decode code 241 = .ok (.iload_n 3, 1) := by decide +kernel
theorem dL_law_242 : decode code 242 = .ok (.iconst 2, 1) := by decide +kernel
theorem dL_law_243 : decode code 243 = .ok (.iadd, 1) := by decide +kernel
theorem dL_law_244 : decode code 244 = .ok (.iaload, 1) := by decide +kernel
theorem dL_law_245 : decode code 245 = .ok (.invokevirtual 32, 3) := by decide +kernel
theorem dL_law_248 : decode code 248 = .ok (.aload_n 2, 1) := by decide +kernel
theorem dL_law_249 : decode code 249 = .ok (.aload_n 0, 1) := by decide +kernel
theorem dL_law_250 : decode code 250 = .ok (.iload_n 3, 1) := by decide +kernel
theorem dL_law_251 : decode code 251 = .ok (.iconst 1, 1) := by decide +kernel
theorem dL_law_252 : decode code 252 = .ok (.iadd, 1) := by decide +kernel
theorem dL_law_253 : decode code 253 = .ok (.iaload, 1) := by decide +kernel
theorem dL_law_254 : decode code 254 = .ok (.aload_n 0, 1) := by decide +kernel
theorem dL_law_255 : decode code 255 = .ok (.iload_n 3, 1) := by decide +kernel
theorem dL_law_256 : decode code 256 = .ok (.iconst 2, 1) := by decide +kernel
theorem dL_law_257 : decode code 257 = .ok (.iadd, 1) := by decide +kernel
theorem dL_law_258 : decode code 258 = .ok (.iaload, 1) := by decide +kernel
theorem dL_law_259 : decode code 259 = .ok (.invokevirtual 35, 3) := by decide +kernel
theorem dL_law_262 : decode code 262 = .ok (.if_icmp .eq 509, 3) := by decide +kernel
theorem dL_law_265 : decode code 265 = .ok (.iconst 0, 1) := by decide +kernel
theorem dL_law_266 : decode code 266 = .ok (.ireturn, 1) := by decide +kernel
theorem dL_law_267 : decode code 267 = .ok (.aload_n 1, 1) := by decide +kernel
theorem dL_law_268 : decode code 268 = .ok (.aload_n 0, 1) := by decide +kernel
theorem dL_law_269 : decode code 269 = .ok (.iload_n 3, 1) := by decide +kernel
theorem dL_law_270 : decode code 270 = .ok (.iconst 1, 1) := by decide +kernel
theorem dL_law_271 : decode code 271 = .ok (.iadd, 1) := by decide +kernel
theorem dL_law_272 : decode code 272 = .ok (.iaload, 1) := by decide +kernel
theorem dL_law_273 : decode code 273 = .ok (.aload_n 0, 1) := by decide +kernel
theorem dL_law_274 : decode code 274 = .ok (.iload_n 3, 1) := by decide +kernel
theorem dL_law_275 : decode code 275 = .ok (.iconst 2, 1) := by decide +kernel
theorem dL_law_276 : decode code 276 = .ok (.iadd, 1) := by decide +kernel
theorem dL_law_277 : decode code 277 = .ok (.iaload, 1) := by decide +kernel
theorem dL_law_278 : decode code 278 = .ok (.invokevirtual 36, 3) := by decide +kernel
theorem dL_law_281 : decode code 281 = .ok (.aload_n 2, 1) := by decide +kernel
theorem dL_law_282 : decode code 282 = .ok (.aload_n 0, 1) := by decide +kernel
theorem dL_law_283 : decode code 283 = .ok (.iload_n 3, 1) := by decide +kernel
theorem dL_law_284 : decode code 284 = .ok (.iconst 1, 1) := by decide +kernel
theorem dL_law_285 : decode code 285 = .ok (.iadd, 1) := by decide +kernel
theorem dL_law_286 : decode code 286 = .ok (.iaload, 1) := by decide +kernel
theorem dL_law_287 : decode code 287 = .ok (.aload_n 0, 1) := by decide +kernel
theorem dL_law_288 : decode code 288 = .ok (.iload_n 3, 1) := by decide +kernel
theorem dL_law_289 : decode code 289 = .ok (.iconst 2, 1) := by decide +kernel
theorem dL_law_290 : decode code 290 = .ok (.iadd, 1) := by decide +kernel
theorem dL_law_291 : decode code 291 = .ok (.iaload, 1) := by decide +kernel
theorem dL_law_292 : decode code 292 = .ok (.invokevirtual 39, 3) := by decide +kernel
theorem dL_law_295 : decode code 295 = .ok (.if_icmp .eq 476, 3) := by decide +kernel
theorem dL_law_298 : decode code 298 = .ok (.iconst 0, 1) := by decide +kernel
theorem dL_law_299 : decode code 299 = .ok (.ireturn, 1) := by decide +kernel
theorem dL_law_300 : decode code 300 = .ok (.aload_n 1, 1) := by decide +kernel
theorem dL_law_301 : decode code 301 = .ok (.aload_n 0, 1) := by decide +kernel
theorem dL_law_302 : decode code 302 = .ok (.iload_n 3, 1) := by decide +kernel
theorem dL_law_303 : decode code 303 = .ok (.iconst 1, 1) := by decide +kernel
theorem dL_law_304 : decode code 304 = .ok (.iadd, 1) := by decide +kernel
theorem dL_law_305 : decode code 305 = .ok (.iaload, 1) := by decide +kernel
theorem dL_law_306 : decode code 306 = .ok (.invokevirtual 40, 3) := by decide +kernel
theorem dL_law_309 : decode code 309 = .ok (.aload_n 2, 1) := by decide +kernel
theorem dL_law_310 : decode code 310 = .ok (.aload_n 0, 1) := by decide +kernel
theorem dL_law_311 : decode code 311 = .ok (.iload_n 3, 1) := by decide +kernel
theorem dL_law_312 : decode code 312 = .ok (.iconst 1, 1) := by decide +kernel
theorem dL_law_313 : decode code 313 = .ok (.iadd, 1) := by decide +kernel
theorem dL_law_314 : decode code 314 = .ok (.iaload, 1) := by decide +kernel
theorem dL_law_315 : decode code 315 = .ok (.invokevirtual 43, 3) := by decide +kernel
theorem dL_law_318 : decode code 318 = .ok (.if_icmp .eq 453, 3) := by decide +kernel
theorem dL_law_321 : decode code 321 = .ok (.iconst 0, 1) := by decide +kernel
theorem dL_law_322 : decode code 322 = .ok (.ireturn, 1) := by decide +kernel
theorem dL_law_323 : decode code 323 = .ok (.aload_n 1, 1) := by decide +kernel
theorem dL_law_324 : decode code 324 = .ok (.aload_n 0, 1) := by decide +kernel
theorem dL_law_325 : decode code 325 = .ok (.iload_n 3, 1) := by decide +kernel
theorem dL_law_326 : decode code 326 = .ok (.iconst 1, 1) := by decide +kernel
theorem dL_law_327 : decode code 327 = .ok (.iadd, 1) := by decide +kernel
theorem dL_law_328 : decode code 328 = .ok (.iaload, 1) := by decide +kernel
theorem dL_law_329 : decode code 329 = .ok (.aload_n 0, 1) := by decide +kernel
theorem dL_law_330 : decode code 330 = .ok (.iload_n 3, 1) := by decide +kernel
theorem dL_law_331 : decode code 331 = .ok (.iconst 2, 1) := by decide +kernel
theorem dL_law_332 : decode code 332 = .ok (.iadd, 1) := by decide +kernel
theorem dL_law_333 : decode code 333 = .ok (.iaload, 1) := by decide +kernel
theorem dL_law_334 : decode code 334 = .ok (.invokevirtual 44, 3) := by decide +kernel
theorem dL_law_337 : decode code 337 = .ok (.aload_n 2, 1) := by decide +kernel
theorem dL_law_338 : decode code 338 = .ok (.aload_n 0, 1) := by decide +kernel
theorem dL_law_339 : decode code 339 = .ok (.iload_n 3, 1) := by decide +kernel
theorem dL_law_340 : decode code 340 = .ok (.iconst 1, 1) := by decide +kernel
theorem dL_law_341 : decode code 341 = .ok (.iadd, 1) := by decide +kernel
theorem dL_law_342 : decode code 342 = .ok (.iaload, 1) := by decide +kernel
theorem dL_law_343 : decode code 343 = .ok (.aload_n 0, 1) := by decide +kernel
theorem dL_law_344 : decode code 344 = .ok (.iload_n 3, 1) := by decide +kernel
theorem dL_law_345 : decode code 345 = .ok (.iconst 2, 1) := by decide +kernel
theorem dL_law_346 : decode code 346 = .ok (.iadd, 1) := by decide +kernel
theorem dL_law_347 : decode code 347 = .ok (.iaload, 1) := by decide +kernel
theorem dL_law_348 : decode code 348 = .ok (.invokevirtual 47, 3) := by decide +kernel
theorem dL_law_351 : decode code 351 = .ok (.if_icmp .eq 420, 3) := by decide +kernel
theorem dL_law_354 : decode code 354 = .ok (.iconst 0, 1) := by decide +kernel
theorem dL_law_355 : decode code 355 = .ok (.ireturn, 1) := by decide +kernel
theorem dL_law_356 : decode code 356 = .ok (.aload_n 1, 1) := by decide +kernel
theorem dL_law_357 : decode code 357 = .ok (.invokevirtual 48, 3) := by decide +kernel
theorem dL_law_360 : decode code 360 = .ok (.aload_n 2, 1) := by decide +kernel
theorem dL_law_361 : decode code 361 = .ok (.invokevirtual 51, 3) := by decide +kernel
theorem dL_law_364 : decode code 364 = .ok (.if_icmp .eq 407, 3) := by decide +kernel
theorem dL_law_367 : decode code 367 = .ok (.iconst 0, 1) := by decide +kernel
theorem dL_law_368 : decode code 368 = .ok (.ireturn, 1) := by decide +kernel
theorem dL_law_369 : decode code 369 = .ok (.aload_n 1, 1) := by decide +kernel
theorem dL_law_370 : decode code 370 = .ok (.invokevirtual 52, 3) := by decide +kernel
theorem dL_law_373 : decode code 373 = .ok (.aload_n 2, 1) := by decide +kernel
theorem dL_law_374 : decode code 374 = .ok (.invokevirtual 55, 3) := by decide +kernel
theorem dL_law_377 : decode code 377 = .ok (.if_icmp .eq 394, 3) := by decide +kernel
theorem dL_law_380 : decode code 380 = .ok (.iconst 0, 1) := by decide +kernel
theorem dL_law_381 : decode code 381 = .ok (.ireturn, 1) := by decide +kernel
theorem dL_law_382 : decode code 382 = .ok (.aload_n 1, 1) := by decide +kernel
theorem dL_law_383 : decode code 383 = .ok (.aload_n 0, 1) := by decide +kernel
theorem dL_law_384 : decode code 384 = .ok (.iload_n 3, 1) := by decide +kernel
theorem dL_law_385 : decode code 385 = .ok (.iconst 1, 1) := by decide +kernel
theorem dL_law_386 : decode code 386 = .ok (.iadd, 1) := by decide +kernel
theorem dL_law_387 : decode code 387 = .ok (.iaload, 1) := by decide +kernel
theorem dL_law_388 : decode code 388 = .ok (.invokevirtual 56, 3) := by decide +kernel
theorem dL_law_391 : decode code 391 = .ok (.aload_n 2, 1) := by decide +kernel
theorem dL_law_392 : decode code 392 = .ok (.aload_n 0, 1) := by decide +kernel
theorem dL_law_393 : decode code 393 = .ok (.iload_n 3, 1) := by decide +kernel
theorem dL_law_394 : decode code 394 = .ok (.iconst 1, 1) := by decide +kernel
theorem dL_law_395 : decode code 395 = .ok (.iadd, 1) := by decide +kernel
theorem dL_law_396 : decode code 396 = .ok (.iaload, 1) := by decide +kernel
theorem dL_law_397 : decode code 397 = .ok (.invokevirtual 59, 3) := by decide +kernel
theorem dL_law_400 : decode code 400 = .ok (.if_icmp .eq 371, 3) := by decide +kernel
theorem dL_law_403 : decode code 403 = .ok (.iconst 0, 1) := by decide +kernel
theorem dL_law_404 : decode code 404 = .ok (.ireturn, 1) := by decide +kernel
theorem dL_law_405 : decode code 405 = .ok (.aload_n 1, 1) := by decide +kernel
theorem dL_law_406 : decode code 406 = .ok (.invokevirtual 60, 3) := by decide +kernel
theorem dL_law_409 : decode code 409 = .ok (.aload_n 2, 1) := by decide +kernel
theorem dL_law_410 : decode code 410 = .ok (.invokevirtual 63, 3) := by decide +kernel
theorem dL_law_413 : decode code 413 = .ok (.if_icmp .eq 358, 3) := by decide +kernel
theorem dL_law_416 : decode code 416 = .ok (.iconst 0, 1) := by decide +kernel
theorem dL_law_417 : decode code 417 = .ok (.ireturn, 1) := by decide +kernel
theorem dL_law_418 : decode code 418 = .ok (.aload_n 1, 1) := by decide +kernel
theorem dL_law_419 : decode code 419 = .ok (.aload_n 0, 1) := by decide +kernel
theorem dL_law_420 : decode code 420 = .ok (.iload_n 3, 1) := by decide +kernel
theorem dL_law_421 : decode code 421 = .ok (.iconst 1, 1) := by decide +kernel
theorem dL_law_422 : decode code 422 = .ok (.iadd, 1) := by decide +kernel
theorem dL_law_423 : decode code 423 = .ok (.iaload, 1) := by decide +kernel
theorem dL_law_424 : decode code 424 = .ok (.aload_n 0, 1) := by decide +kernel
theorem dL_law_425 : decode code 425 = .ok (.iload_n 3, 1) := by decide +kernel
theorem dL_law_426 : decode code 426 = .ok (.iconst 2, 1) := by decide +kernel
theorem dL_law_427 : decode code 427 = .ok (.iadd, 1) := by decide +kernel
theorem dL_law_428 : decode code 428 = .ok (.iaload, 1) := by decide +kernel
theorem dL_law_429 : decode code 429 = .ok (.invokevirtual 64, 3) := by decide +kernel
theorem dL_law_432 : decode code 432 = .ok (.aload_n 2, 1) := by decide +kernel
theorem dL_law_433 : decode code 433 = .ok (.aload_n 0, 1) := by decide +kernel
theorem dL_law_434 : decode code 434 = .ok (.iload_n 3, 1) := by decide +kernel
theorem dL_law_435 : decode code 435 = .ok (.iconst 1, 1) := by decide +kernel
theorem dL_law_436 : decode code 436 = .ok (.iadd, 1) := by decide +kernel
theorem dL_law_437 : decode code 437 = .ok (.iaload, 1) := by decide +kernel
theorem dL_law_438 : decode code 438 = .ok (.aload_n 0, 1) := by decide +kernel
theorem dL_law_439 : decode code 439 = .ok (.iload_n 3, 1) := by decide +kernel
theorem dL_law_440 : decode code 440 = .ok (.iconst 2, 1) := by decide +kernel
theorem dL_law_441 : decode code 441 = .ok (.iadd, 1) := by decide +kernel
theorem dL_law_442 : decode code 442 = .ok (.iaload, 1) := by decide +kernel
theorem dL_law_443 : decode code 443 = .ok (.invokevirtual 67, 3) := by decide +kernel
theorem dL_law_446 : decode code 446 = .ok (.if_icmp .eq 325, 3) := by decide +kernel
theorem dL_law_449 : decode code 449 = .ok (.iconst 0, 1) := by decide +kernel
theorem dL_law_450 : decode code 450 = .ok (.ireturn, 1) := by decide +kernel
theorem dL_law_451 : decode code 451 = .ok (.aload_n 1, 1) := by decide +kernel
theorem dL_law_452 : decode code 452 = .ok (.invokevirtual 68, 3) := by decide +kernel
theorem dL_law_455 : decode code 455 = .ok (.aload_n 2, 1) := by decide +kernel
theorem dL_law_456 : decode code 456 = .ok (.invokevirtual 71, 3) := by decide +kernel
theorem dL_law_459 : decode code 459 = .ok (.if_icmp .eq 312, 3) := by decide +kernel
theorem dL_law_462 : decode code 462 = .ok (.iconst 0, 1) := by decide +kernel
theorem dL_law_463 : decode code 463 = .ok (.ireturn, 1) := by decide +kernel
theorem dL_law_464 : decode code 464 = .ok (.aload_n 1, 1) := by decide +kernel
theorem dL_law_465 : decode code 465 = .ok (.aload_n 0, 1) := by decide +kernel
theorem dL_law_466 : decode code 466 = .ok (.iload_n 3, 1) := by decide +kernel
theorem dL_law_467 : decode code 467 = .ok (.iconst 1, 1) := by decide +kernel
theorem dL_law_468 : decode code 468 = .ok (.iadd, 1) := by decide +kernel
theorem dL_law_469 : decode code 469 = .ok (.iaload, 1) := by decide +kernel
theorem dL_law_470 : decode code 470 = .ok (.aload_n 0, 1) := by decide +kernel
theorem dL_law_471 : decode code 471 = .ok (.iload_n 3, 1) := by decide +kernel
theorem dL_law_472 : decode code 472 = .ok (.iconst 2, 1) := by decide +kernel
theorem dL_law_473 : decode code 473 = .ok (.iadd, 1) := by decide +kernel
theorem dL_law_474 : decode code 474 = .ok (.iaload, 1) := by decide +kernel
theorem dL_law_475 : decode code 475 = .ok (.aload_n 0, 1) := by decide +kernel
theorem dL_law_476 : decode code 476 = .ok (.iload_n 3, 1) := by decide +kernel
theorem dL_law_477 : decode code 477 = .ok (.iconst 3, 1) := by decide +kernel
theorem dL_law_478 : decode code 478 = .ok (.iadd, 1) := by decide +kernel
theorem dL_law_479 : decode code 479 = .ok (.iaload, 1) := by decide +kernel
theorem dL_law_480 : decode code 480 = .ok (.aload_n 0, 1) := by decide +kernel
theorem dL_law_481 : decode code 481 = .ok (.iload_n 3, 1) := by decide +kernel
theorem dL_law_482 : decode code 482 = .ok (.iconst 4, 1) := by decide +kernel
theorem dL_law_483 : decode code 483 = .ok (.iadd, 1) := by decide +kernel
theorem dL_law_484 : decode code 484 = .ok (.iaload, 1) := by decide +kernel
theorem dL_law_485 : decode code 485 = .ok (.invokevirtual 72, 3) := by decide +kernel
theorem dL_law_488 : decode code 488 = .ok (.aload_n 2, 1) := by decide +kernel
theorem dL_law_489 : decode code 489 = .ok (.aload_n 0, 1) := by decide +kernel
theorem dL_law_490 : decode code 490 = .ok (.iload_n 3, 1) := by decide +kernel
theorem dL_law_491 : decode code 491 = .ok (.iconst 1, 1) := by decide +kernel
theorem dL_law_492 : decode code 492 = .ok (.iadd, 1) := by decide +kernel
theorem dL_law_493 : decode code 493 = .ok (.iaload, 1) := by decide +kernel
theorem dL_law_494 : decode code 494 = .ok (.aload_n 0, 1) := by decide +kernel
theorem dL_law_495 : decode code 495 = .ok (.iload_n 3, 1) := by decide +kernel
theorem dL_law_496 : decode code 496 = .ok (.iconst 2, 1) := by decide +kernel
theorem dL_law_497 : decode code 497 = .ok (.iadd, 1) := by decide +kernel
theorem dL_law_498 : decode code 498 = .ok (.iaload, 1) := by decide +kernel
theorem dL_law_499 : decode code 499 = .ok (.aload_n 0, 1) := by decide +kernel
theorem dL_law_500 : decode code 500 = .ok (.iload_n 3, 1) := by decide +kernel
theorem dL_law_501 : decode code 501 = .ok (.iconst 3, 1) := by decide +kernel
theorem dL_law_502 : decode code 502 = .ok (.iadd, 1) := by decide +kernel
theorem dL_law_503 : decode code 503 = .ok (.iaload, 1) := by decide +kernel
theorem dL_law_504 : decode code 504 = .ok (.aload_n 0, 1) := by decide +kernel
theorem dL_law_505 : decode code 505 = .ok (.iload_n 3, 1) := by decide +kernel
theorem dL_law_506 : decode code 506 = .ok (.iconst 4, 1) := by decide +kernel
theorem dL_law_507 : decode code 507 = .ok (.iadd, 1) := by decide +kernel
theorem dL_law_508 : decode code 508 = .ok (.iaload, 1) := by decide +kernel
theorem dL_law_509 : decode code 509 = .ok (.invokevirtual 76, 3) := by decide +kernel
theorem dL_law_512 : decode code 512 = .ok (.if_icmp .eq 259, 3) := by decide +kernel
theorem dL_law_515 : decode code 515 = .ok (.iconst 0, 1) := by decide +kernel
theorem dL_law_516 : decode code 516 = .ok (.ireturn, 1) := by decide +kernel
theorem dL_law_517 : decode code 517 = .ok (.aload_n 1, 1) := by decide +kernel
theorem dL_law_518 : decode code 518 = .ok (.aload_n 0, 1) := by decide +kernel
theorem dL_law_519 : decode code 519 = .ok (.iload_n 3, 1) := by decide +kernel
theorem dL_law_520 : decode code 520 = .ok (.iconst 1, 1) := by decide +kernel
theorem dL_law_521 : decode code 521 = .ok (.iadd, 1) := by decide +kernel
theorem dL_law_522 : decode code 522 = .ok (.iaload, 1) := by decide +kernel
theorem dL_law_523 : decode code 523 = .ok (.invokevirtual 77, 3) := by decide +kernel
theorem dL_law_526 : decode code 526 = .ok (.aload_n 2, 1) := by decide +kernel
theorem dL_law_527 : decode code 527 = .ok (.aload_n 0, 1) := by decide +kernel
theorem dL_law_528 : decode code 528 = .ok (.iload_n 3, 1) := by decide +kernel
theorem dL_law_529 : decode code 529 = .ok (.iconst 1, 1) := by decide +kernel
theorem dL_law_530 : decode code 530 = .ok (.iadd, 1) := by decide +kernel
theorem dL_law_531 : decode code 531 = .ok (.iaload, 1) := by decide +kernel
theorem dL_law_532 : decode code 532 = .ok (.invokevirtual 80, 3) := by decide +kernel
theorem dL_law_535 : decode code 535 = .ok (.if_icmp .eq 236, 3) := by decide +kernel
theorem dL_law_538 : decode code 538 = .ok (.iconst 0, 1) := by decide +kernel
theorem dL_law_539 : decode code 539 = .ok (.ireturn, 1) := by decide +kernel
theorem dL_law_540 : decode code 540 = .ok (.aload_n 1, 1) := by decide +kernel
theorem dL_law_541 : decode code 541 = .ok (.aload_n 0, 1) := by decide +kernel
theorem dL_law_542 : decode code 542 = .ok (.iload_n 3, 1) := by decide +kernel
theorem dL_law_543 : decode code 543 = .ok (.iconst 1, 1) := by decide +kernel
theorem dL_law_544 : decode code 544 = .ok (.iadd, 1) := by decide +kernel
theorem dL_law_545 : decode code 545 = .ok (.iaload, 1) := by decide +kernel
theorem dL_law_546 : decode code 546 = .ok (.invokevirtual 81, 3) := by decide +kernel
theorem dL_law_549 : decode code 549 = .ok (.aload_n 2, 1) := by decide +kernel
theorem dL_law_550 : decode code 550 = .ok (.aload_n 0, 1) := by decide +kernel
theorem dL_law_551 : decode code 551 = .ok (.iload_n 3, 1) := by decide +kernel
theorem dL_law_552 : decode code 552 = .ok (.iconst 1, 1) := by decide +kernel
theorem dL_law_553 : decode code 553 = .ok (.iadd, 1) := by decide +kernel
theorem dL_law_554 : decode code 554 = .ok (.iaload, 1) := by decide +kernel
theorem dL_law_555 : decode code 555 = .ok (.invokevirtual 84, 3) := by decide +kernel
theorem dL_law_558 : decode code 558 = .ok (.if_icmp .eq 213, 3) := by decide +kernel
theorem dL_law_561 : decode code 561 = .ok (.iconst 0, 1) := by decide +kernel
theorem dL_law_562 : decode code 562 = .ok (.ireturn, 1) := by decide +kernel
theorem dL_law_563 : decode code 563 = .ok (.aload_n 1, 1) := by decide +kernel
theorem dL_law_564 : decode code 564 = .ok (.aload_n 0, 1) := by decide +kernel
theorem dL_law_565 : decode code 565 = .ok (.iload_n 3, 1) := by decide +kernel
theorem dL_law_566 : decode code 566 = .ok (.iconst 1, 1) := by decide +kernel
theorem dL_law_567 : decode code 567 = .ok (.iadd, 1) := by decide +kernel
theorem dL_law_568 : decode code 568 = .ok (.iaload, 1) := by decide +kernel
theorem dL_law_569 : decode code 569 = .ok (.aload_n 0, 1) := by decide +kernel
theorem dL_law_570 : decode code 570 = .ok (.iload_n 3, 1) := by decide +kernel
theorem dL_law_571 : decode code 571 = .ok (.iconst 2, 1) := by decide +kernel
theorem dL_law_572 : decode code 572 = .ok (.iadd, 1) := by decide +kernel
theorem dL_law_573 : decode code 573 = .ok (.iaload, 1) := by decide +kernel
theorem dL_law_574 : decode code 574 = .ok (.invokevirtual 85, 3) := by decide +kernel
theorem dL_law_577 : decode code 577 = .ok (.aload_n 2, 1) := by decide +kernel
theorem dL_law_578 : decode code 578 = .ok (.aload_n 0, 1) := by decide +kernel
theorem dL_law_579 : decode code 579 = .ok (.iload_n 3, 1) := by decide +kernel
theorem dL_law_580 : decode code 580 = .ok (.iconst 1, 1) := by decide +kernel
theorem dL_law_581 : decode code 581 = .ok (.iadd, 1) := by decide +kernel
theorem dL_law_582 : decode code 582 = .ok (.iaload, 1) := by decide +kernel
theorem dL_law_583 : decode code 583 = .ok (.aload_n 0, 1) := by decide +kernel
theorem dL_law_584 : decode code 584 = .ok (.iload_n 3, 1) := by decide +kernel
theorem dL_law_585 : decode code 585 = .ok (.iconst 2, 1) := by decide +kernel
theorem dL_law_586 : decode code 586 = .ok (.iadd, 1) := by decide +kernel
theorem dL_law_587 : decode code 587 = .ok (.iaload, 1) := by decide +kernel
theorem dL_law_588 : decode code 588 = .ok (.invokevirtual 88, 3) := by decide +kernel
theorem dL_law_591 : decode code 591 = .ok (.if_icmp .eq 180, 3) := by decide +kernel
theorem dL_law_594 : decode code 594 = .ok (.iconst 0, 1) := by decide +kernel
theorem dL_law_595 : decode code 595 = .ok (.ireturn, 1) := by decide +kernel
theorem dL_law_596 : decode code 596 = .ok (.aload_n 1, 1) := by decide +kernel
theorem dL_law_597 : decode code 597 = .ok (.invokevirtual 89, 3) := by decide +kernel
theorem dL_law_600 : decode code 600 = .ok (.aload_n 2, 1) := by decide +kernel
theorem dL_law_601 : decode code 601 = .ok (.invokevirtual 92, 3) := by decide +kernel
theorem dL_law_604 : decode code 604 = .ok (.if_icmp .eq 167, 3) := by decide +kernel
theorem dL_law_607 : decode code 607 = .ok (.iconst 0, 1) := by decide +kernel
theorem dL_law_608 : decode code 608 = .ok (.ireturn, 1) := by decide +kernel
theorem dL_law_609 : decode code 609 = .ok (.aload_n 1, 1) := by decide +kernel
theorem dL_law_610 : decode code 610 = .ok (.invokevirtual 93, 3) := by decide +kernel
theorem dL_law_613 : decode code 613 = .ok (.aload_n 2, 1) := by decide +kernel
theorem dL_law_614 : decode code 614 = .ok (.invokevirtual 96, 3) := by decide +kernel
theorem dL_law_617 : decode code 617 = .ok (.if_icmp .eq 154, 3) := by decide +kernel
theorem dL_law_620 : decode code 620 = .ok (.iconst 0, 1) := by decide +kernel
theorem dL_law_621 : decode code 621 = .ok (.ireturn, 1) := by decide +kernel
theorem dL_law_622 : decode code 622 = .ok (.aload_n 1, 1) := by decide +kernel
theorem dL_law_623 : decode code 623 = .ok (.aload_n 0, 1) := by decide +kernel
theorem dL_law_624 : decode code 624 = .ok (.iload_n 3, 1) := by decide +kernel
theorem dL_law_625 : decode code 625 = .ok (.iconst 1, 1) := by decide +kernel
theorem dL_law_626 : decode code 626 = .ok (.iadd, 1) := by decide +kernel
theorem dL_law_627 : decode code 627 = .ok (.iaload, 1) := by decide +kernel
theorem dL_law_628 : decode code 628 = .ok (.aload_n 0, 1) := by decide +kernel
theorem dL_law_629 : decode code 629 = .ok (.iload_n 3, 1) := by decide +kernel
theorem dL_law_630 : decode code 630 = .ok (.iconst 2, 1) := by decide +kernel
theorem dL_law_631 : decode code 631 = .ok (.iadd, 1) := by decide +kernel
theorem dL_law_632 : decode code 632 = .ok (.iaload, 1) := by decide +kernel
theorem dL_law_633 : decode code 633 = .ok (.invokevirtual 97, 3) := by decide +kernel
theorem dL_law_636 : decode code 636 = .ok (.aload_n 2, 1) := by decide +kernel
theorem dL_law_637 : decode code 637 = .ok (.aload_n 0, 1) := by decide +kernel
theorem dL_law_638 : decode code 638 = .ok (.iload_n 3, 1) := by decide +kernel
theorem dL_law_639 : decode code 639 = .ok (.iconst 1, 1) := by decide +kernel
theorem dL_law_640 : decode code 640 = .ok (.iadd, 1) := by decide +kernel
theorem dL_law_641 : decode code 641 = .ok (.iaload, 1) := by decide +kernel
theorem dL_law_642 : decode code 642 = .ok (.aload_n 0, 1) := by decide +kernel
theorem dL_law_643 : decode code 643 = .ok (.iload_n 3, 1) := by decide +kernel
theorem dL_law_644 : decode code 644 = .ok (.iconst 2, 1) := by decide +kernel
theorem dL_law_645 : decode code 645 = .ok (.iadd, 1) := by decide +kernel
theorem dL_law_646 : decode code 646 = .ok (.iaload, 1) := by decide +kernel
theorem dL_law_647 : decode code 647 = .ok (.invokevirtual 100, 3) := by decide +kernel
theorem dL_law_650 : decode code 650 = .ok (.if_icmp .eq 121, 3) := by decide +kernel
theorem dL_law_653 : decode code 653 = .ok (.iconst 0, 1) := by decide +kernel
theorem dL_law_654 : decode code 654 = .ok (.ireturn, 1) := by decide +kernel
theorem dL_law_655 : decode code 655 = .ok (.aload_n 1, 1) := by decide +kernel
theorem dL_law_656 : decode code 656 = .ok (.aload_n 0, 1) := by decide +kernel
theorem dL_law_657 : decode code 657 = .ok (.iload_n 3, 1) := by decide +kernel
theorem dL_law_658 : decode code 658 = .ok (.iconst 1, 1) := by decide +kernel
theorem dL_law_659 : decode code 659 = .ok (.iadd, 1) := by decide +kernel
theorem dL_law_660 : decode code 660 = .ok (.iaload, 1) := by decide +kernel
theorem dL_law_661 : decode code 661 = .ok (.aload_n 0, 1) := by decide +kernel
theorem dL_law_662 : decode code 662 = .ok (.iload_n 3, 1) := by decide +kernel
theorem dL_law_663 : decode code 663 = .ok (.iconst 2, 1) := by decide +kernel
theorem dL_law_664 : decode code 664 = .ok (.iadd, 1) := by decide +kernel
theorem dL_law_665 : decode code 665 = .ok (.iaload, 1) := by decide +kernel
theorem dL_law_666 : decode code 666 = .ok (.invokevirtual 101, 3) := by decide +kernel
theorem dL_law_669 : decode code 669 = .ok (.aload_n 2, 1) := by decide +kernel
theorem dL_law_670 : decode code 670 = .ok (.aload_n 0, 1) := by decide +kernel
theorem dL_law_671 : decode code 671 = .ok (.iload_n 3, 1) := by decide +kernel
theorem dL_law_672 : decode code 672 = .ok (.iconst 1, 1) := by decide +kernel
theorem dL_law_673 : decode code 673 = .ok (.iadd, 1) := by decide +kernel
theorem dL_law_674 : decode code 674 = .ok (.iaload, 1) := by decide +kernel
theorem dL_law_675 : decode code 675 = .ok (.aload_n 0, 1) := by decide +kernel
theorem dL_law_676 : decode code 676 = .ok (.iload_n 3, 1) := by decide +kernel
theorem dL_law_677 : decode code 677 = .ok (.iconst 2, 1) := by decide +kernel
theorem dL_law_678 : decode code 678 = .ok (.iadd, 1) := by decide +kernel
theorem dL_law_679 : decode code 679 = .ok (.iaload, 1) := by decide +kernel
theorem dL_law_680 : decode code 680 = .ok (.invokevirtual 104, 3) := by decide +kernel
theorem dL_law_683 : decode code 683 = .ok (.if_icmp .eq 88, 3) := by decide +kernel
theorem dL_law_686 : decode code 686 = .ok (.iconst 0, 1) := by decide +kernel
theorem dL_law_687 : decode code 687 = .ok (.ireturn, 1) := by decide +kernel
theorem dL_law_688 : decode code 688 = .ok (.aload_n 1, 1) := by decide +kernel
theorem dL_law_689 : decode code 689 = .ok (.aload_n 0, 1) := by decide +kernel
theorem dL_law_690 : decode code 690 = .ok (.iload_n 3, 1) := by decide +kernel
theorem dL_law_691 : decode code 691 = .ok (.iconst 1, 1) := by decide +kernel
theorem dL_law_692 : decode code 692 = .ok (.iadd, 1) := by decide +kernel
theorem dL_law_693 : decode code 693 = .ok (.iaload, 1) := by decide +kernel
theorem dL_law_694 : decode code 694 = .ok (.invokevirtual 105, 3) := by decide +kernel
theorem dL_law_697 : decode code 697 = .ok (.aload_n 2, 1) := by decide +kernel
theorem dL_law_698 : decode code 698 = .ok (.aload_n 0, 1) := by decide +kernel
theorem dL_law_699 : decode code 699 = .ok (.iload_n 3, 1) := by decide +kernel
theorem dL_law_700 : decode code 700 = .ok (.iconst 1, 1) := by decide +kernel
theorem dL_law_701 : decode code 701 = .ok (.iadd, 1) := by decide +kernel
theorem dL_law_702 : decode code 702 = .ok (.iaload, 1) := by decide +kernel
theorem dL_law_703 : decode code 703 = .ok (.invokevirtual 108, 3) := by decide +kernel
theorem dL_law_706 : decode code 706 = .ok (.if_icmp .eq 65, 3) := by decide +kernel
theorem dL_law_709 : decode code 709 = .ok (.iconst 0, 1) := by decide +kernel
theorem dL_law_710 : decode code 710 = .ok (.ireturn, 1) := by decide +kernel
theorem dL_law_711 : decode code 711 = .ok (.aload_n 1, 1) := by decide +kernel
theorem dL_law_712 : decode code 712 = .ok (.aload_n 0, 1) := by decide +kernel
theorem dL_law_713 : decode code 713 = .ok (.iload_n 3, 1) := by decide +kernel
theorem dL_law_714 : decode code 714 = .ok (.iconst 1, 1) := by decide +kernel
theorem dL_law_715 : decode code 715 = .ok (.iadd, 1) := by decide +kernel
theorem dL_law_716 : decode code 716 = .ok (.iaload, 1) := by decide +kernel
theorem dL_law_717 : decode code 717 = .ok (.invokevirtual 109, 3) := by decide +kernel
theorem dL_law_720 : decode code 720 = .ok (.aload_n 2, 1) := by decide +kernel
theorem dL_law_721 : decode code 721 = .ok (.aload_n 0, 1) := by decide +kernel
theorem dL_law_722 : decode code 722 = .ok (.iload_n 3, 1) := by decide +kernel
theorem dL_law_723 : decode code 723 = .ok (.iconst 1, 1) := by decide +kernel
theorem dL_law_724 : decode code 724 = .ok (.iadd, 1) := by decide +kernel
theorem dL_law_725 : decode code 725 = .ok (.iaload, 1) := by decide +kernel
theorem dL_law_726 : decode code 726 = .ok (.invokevirtual 112, 3) := by decide +kernel
theorem dL_law_729 : decode code 729 = .ok (.if_icmp .eq 42, 3) := by decide +kernel
theorem dL_law_732 : decode code 732 = .ok (.iconst 0, 1) := by decide +kernel
theorem dL_law_733 : decode code 733 = .ok (.ireturn, 1) := by decide +kernel
theorem dL_law_734 : decode code 734 = .ok (.aload_n 1, 1) := by decide +kernel
theorem dL_law_735 : decode code 735 = .ok (.aload_n 0, 1) := by decide +kernel
theorem dL_law_736 : decode code 736 = .ok (.iload_n 3, 1) := by decide +kernel
theorem dL_law_737 : decode code 737 = .ok (.iconst 1, 1) := by decide +kernel
theorem dL_law_738 : decode code 738 = .ok (.iadd, 1) := by decide +kernel
theorem dL_law_739 : decode code 739 = .ok (.iaload, 1) := by decide +kernel
theorem dL_law_740 : decode code 740 = .ok (.invokevirtual 113, 3) := by decide +kernel
theorem dL_law_743 : decode code 743 = .ok (.aload_n 2, 1) := by decide +kernel
theorem dL_law_744 : decode code 744 = .ok (.aload_n 0, 1) := by decide +kernel
theorem dL_law_745 : decode code 745 = .ok (.iload_n 3, 1) := by decide +kernel
theorem dL_law_746 : decode code 746 = .ok (.iconst 1, 1) := by decide +kernel
theorem dL_law_747 : decode code 747 = .ok (.iadd, 1) := by decide +kernel
theorem dL_law_748 : decode code 748 = .ok (.iaload, 1) := by decide +kernel
theorem dL_law_749 : decode code 749 = .ok (.invokevirtual 116, 3) := by decide +kernel
theorem dL_law_752 : decode code 752 = .ok (.if_icmp .eq 19, 3) := by decide +kernel
theorem dL_law_755 : decode code 755 = .ok (.iconst 0, 1) := by decide +kernel
theorem dL_law_756 : decode code 756 = .ok (.ireturn, 1) := by decide +kernel
theorem dL_law_757 : decode code 757 = .ok (.aload_n 1, 1) := by decide +kernel
theorem dL_law_758 : decode code 758 = .ok (.invokevirtual 117, 3) := by decide +kernel
theorem dL_law_761 : decode code 761 = .ok (.aload_n 2, 1) := by decide +kernel
theorem dL_law_762 : decode code 762 = .ok (.invokevirtual 121, 3) := by decide +kernel
theorem dL_law_765 : decode code 765 = .ok (.lcmp, 1) := by decide +kernel
theorem dL_law_766 : decode code 766 = .ok (.ifCond .eq 5, 3) := by decide +kernel
theorem dL_law_769 : decode code 769 = .ok (.iconst 0, 1) := by decide +kernel
theorem dL_law_770 : decode code 770 = .ok (.ireturn, 1) := by decide +kernel
theorem dL_law_771 : decode code 771 = .ok (.iinc 3 5, 3) := by decide +kernel
theorem dL_law_774 : decode code 774 = .ok (.goto (-756), 3) := by decide +kernel
theorem dL_law_777 : decode code 777 = .ok (.iconst 1, 1) := by decide +kernel
theorem dL_law_778 : decode code 778 = .ok (.ireturn, 1) := by decide +kernel
