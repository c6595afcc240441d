theorem dL_238 : decode code 238 = .ok (.iaload, 1) := by decide +kernel
theorem dL_239 : decode code 239 = .ok (.aload_n 0, 1) := by decide +kernel
theorem dL_240 : decode code 240 = .ok (.iload_n 3, 1) := by decide +kernel
theorem dL_241 : decode code 241 = .ok (.iconst 2, 1) := by decide +kernel
theorem dL_242 : decode code 242 = .ok (.iadd, 1) := by decide +kernel
theorem dL_243 : decode code 243 = .ok (.iaload, 1) := by decide +kernel
theorem dL_244 : decode code 244 = .ok (.aload_n 0, 1) := by decide +kernel
theorem dL_245 : decode code 245 = .ok (.iload_n 3, 1) := by decide +kernel
theorem dL_246 : decode code 246 = .ok (.iconst 3, 1) := by decide +kernel
theorem dL_247 : decode code 247 = .ok (.iadd, 1) := by decide +kernel
theorem dL_248 : decode code 248 = .ok (.iaload, 1) := by decide +kernel
theorem dL_249 : decode code 249 = .ok (.invokevirtual 35, 3) := by decide +kernel
theorem dL_252 : decode code 252 = .ok (.lcmp, 1) := by decide +kernel
theorem dL_253 : decode code 253 = .ok (.ifCond .eq (642), 3) := by decide +kernel
theorem dL_256 : decode code 256 = .ok (.iconst 0, 1) := by decide +kernel
theorem dL_257 : decode code 257 = .ok (.ireturn, 1) := by decide +kernel
theorem dL_258 : decode code 258 = .ok (.aload_n 1, 1) := by decide +kernel
theorem dL_259 : decode code 259 = .ok (.aload_n 0, 1) := by decide +kernel
theorem dL_260 : decode code 260 = .ok (.iload_n 3, 1) := by decide +kernel
theorem dL_261 : decode code 261 = .ok (.iconst 1, 1) := by decide +kernel
theorem dL_262 : decode code 262 = .ok (.iadd, 1) := by decide +kernel
theorem dL_263 : decode code 263 = .ok (.iaload, 1) := by decide +kernel
theorem dL_264 : decode code 264 = .ok (.invokevirtual 36, 3) := by decide +kernel
theorem dL_267 : decode code 267 = .ok (.aload_n 2, 1) := by decide +kernel
theorem dL_268 : decode code 268 = .ok (.aload_n 0, 1) := by decide +kernel
theorem dL_269 : decode code 269 = .ok (.iload_n 3, 1) := by decide +kernel
theorem dL_270 : decode code 270 = .ok (.iconst 1, 1) := by decide +kernel
theorem dL_271 : decode code 271 = .ok (.iadd, 1) := by decide +kernel
theorem dL_272 : decode code 272 = .ok (.iaload, 1) := by decide +kernel
theorem dL_273 : decode code 273 = .ok (.invokevirtual 39, 3) := by decide +kernel
theorem dL_276 : decode code 276 = .ok (.if_icmp .eq (619), 3) := by decide +kernel
theorem dL_279 : decode code 279 = .ok (.iconst 0, 1) := by decide +kernel
theorem dL_280 : decode code 280 = .ok (.ireturn, 1) := by decide +kernel
theorem dL_281 : decode code 281 = .ok (.aload_n 1, 1) := by decide +kernel
theorem dL_282 : decode code 282 = .ok (.aload_n 0, 1) := by decide +kernel
theorem dL_283 : decode code 283 = .ok (.iload_n 3, 1) := by decide +kernel
theorem dL_284 : decode code 284 = .ok (.iconst 1, 1) := by decide +kernel
theorem dL_285 : decode code 285 = .ok (.iadd, 1) := by decide +kernel
theorem dL_286 : decode code 286 = .ok (.iaload, 1) := by decide +kernel
theorem dL_287 : decode code 287 = .ok (.invokevirtual 40, 3) := by decide +kernel
theorem dL_290 : decode code 290 = .ok (.aload_n 2, 1) := by decide +kernel
theorem dL_291 : decode code 291 = .ok (.aload_n 0, 1) := by decide +kernel
theorem dL_292 : decode code 292 = .ok (.iload_n 3, 1) := by decide +kernel
theorem dL_293 : decode code 293 = .ok (.iconst 1, 1) := by decide +kernel
theorem dL_294 : decode code 294 = .ok (.iadd, 1) := by decide +kernel
theorem dL_295 : decode code 295 = .ok (.iaload, 1) := by decide +kernel
theorem dL_296 : decode code 296 = .ok (.invokevirtual 43, 3) := by decide +kernel
theorem dL_299 : decode code 299 = .ok (.if_icmp .eq (596), 3) := by decide +kernel
theorem dL_302 : decode code 302 = .ok (.iconst 0, 1) := by decide +kernel
theorem dL_303 : decode code 303 = .ok (.ireturn, 1) := by decide +kernel
theorem dL_304 : decode code 304 = .ok (.aload_n 1, 1) := by decide +kernel
theorem dL_305 : decode code 305 = .ok (.aload_n 0, 1) := by decide +kernel
theorem dL_306 : decode code 306 = .ok (.iload_n 3, 1) := by decide +kernel
theorem dL_307 : decode code 307 = .ok (.iconst 1, 1) := by decide +kernel
theorem dL_308 : decode code 308 = .ok (.iadd, 1) := by decide +kernel
theorem dL_309 : decode code 309 = .ok (.iaload, 1) := by decide +kernel
theorem dL_310 : decode code 310 = .ok (.invokevirtual 44, 3) := by decide +kernel
theorem dL_313 : decode code 313 = .ok (.aload_n 2, 1) := by decide +kernel
theorem dL_314 : decode code 314 = .ok (.aload_n 0, 1) := by decide +kernel
theorem dL_315 : decode code 315 = .ok (.iload_n 3, 1) := by decide +kernel
theorem dL_316 : decode code 316 = .ok (.iconst 1, 1) := by decide +kernel
theorem dL_317 : decode code 317 = .ok (.iadd, 1) := by decide +kernel
theorem dL_318 : decode code 318 = .ok (.iaload, 1) := by decide +kernel
theorem dL_319 : decode code 319 = .ok (.invokevirtual 48, 3) := by decide +kernel
theorem dL_322 : decode code 322 = .ok (.if_icmp .eq (573), 3) := by decide +kernel
theorem dL_325 : decode code 325 = .ok (.iconst 0, 1) := by decide +kernel
theorem dL_326 : decode code 326 = .ok (.ireturn, 1) := by decide +kernel
theorem dL_327 : decode code 327 = .ok (.aload_n 1, 1) := by decide +kernel
theorem dL_328 : decode code 328 = .ok (.aload_n 0, 1) := by decide +kernel
theorem dL_329 : decode code 329 = .ok (.iload_n 3, 1) := by decide +kernel
theorem dL_330 : decode code 330 = .ok (.iconst 1, 1) := by decide +kernel
theorem dL_331 : decode code 331 = .ok (.iadd, 1) := by decide +kernel
theorem dL_332 : decode code 332 = .ok (.iaload, 1) := by decide +kernel
theorem dL_333 : decode code 333 = .ok (.aload_n 0, 1) := by decide +kernel
theorem dL_334 : decode code 334 = .ok (.iload_n 3, 1) := by decide +kernel
theorem dL_335 : decode code 335 = .ok (.iconst 2, 1) := by decide +kernel
theorem dL_336 : decode code 336 = .ok (.iadd, 1) := by decide +kernel
theorem dL_337 : decode code 337 = .ok (.iaload, 1) := by decide +kernel
theorem dL_338 : decode code 338 = .ok (.invokevirtual 49, 3) := by decide +kernel
theorem dL_341 : decode code 341 = .ok (.aload_n 2, 1) := by decide +kernel
theorem dL_342 : decode code 342 = .ok (.aload_n 0, 1) := by decide +kernel
theorem dL_343 : decode code 343 = .ok (.iload_n 3, 1) := by decide +kernel
theorem dL_344 : decode code 344 = .ok (.iconst 1, 1) := by decide +kernel
theorem dL_345 : decode code 345 = .ok (.iadd, 1) := by decide +kernel
theorem dL_346 : decode code 346 = .ok (.iaload, 1) := by decide +kernel
theorem dL_347 : decode code 347 = .ok (.aload_n 0, 1) := by decide +kernel
theorem dL_348 : decode code 348 = .ok (.iload_n 3, 1) := by decide +kernel
theorem dL_349 : decode code 349 = .ok (.iconst 2, 1) := by decide +kernel
theorem dL_350 : decode code 350 = .ok (.iadd, 1) := by decide +kernel
theorem dL_351 : decode code 351 = .ok (.iaload, 1) := by decide +kernel
theorem dL_352 : decode code 352 = .ok (.invokevirtual 53, 3) := by decide +kernel
theorem dL_355 : decode code 355 = .ok (.if_icmp .eq (540), 3) := by decide +kernel
theorem dL_358 : decode code 358 = .ok (.iconst 0, 1) := by decide +kernel
theorem dL_359 : decode code 359 = .ok (.ireturn, 1) := by decide +kernel
theorem dL_360 : decode code 360 = .ok (.aload_n 1, 1) := by decide +kernel
theorem dL_361 : decode code 361 = .ok (.aload_n 0, 1) := by decide +kernel
theorem dL_362 : decode code 362 = .ok (.iload_n 3, 1) := by decide +kernel
theorem dL_363 : decode code 363 = .ok (.iconst 1, 1) := by decide +kernel
theorem dL_364 : decode code 364 = .ok (.iadd, 1) := by decide +kernel
theorem dL_365 : decode code 365 = .ok (.iaload, 1) := by decide +kernel
theorem dL_366 : decode code 366 = .ok (.aload_n 0, 1) := by decide +kernel
theorem dL_367 : decode code 367 = .ok (.iload_n 3, 1) := by decide +kernel
theorem dL_368 : decode code 368 = .ok (.iconst 2, 1) := by decide +kernel
theorem dL_369 : decode code 369 = .ok (.iadd, 1) := by decide +kernel
theorem dL_370 : decode code 370 = .ok (.iaload, 1) := by decide +kernel
theorem dL_371 : decode code 371 = .ok (.i2l, 1) := by decide +kernel
theorem dL_372 : decode code 372 = .ok (.bipush (32), 2) := by decide +kernel
theorem dL_374 : decode code 374 = .ok (.lshl, 1) := by decide +kernel
theorem dL_375 : decode code 375 = .ok (.aload_n 0, 1) := by decide +kernel
theorem dL_376 : decode code 376 = .ok (.iload_n 3, 1) := by decide +kernel
