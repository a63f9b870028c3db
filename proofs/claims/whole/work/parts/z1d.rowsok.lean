set_option maxRecDepth 100000 in
theorem ck_300 : qMetOk 300 = true := by decide +kernel
set_option maxRecDepth 100000 in
theorem ck_301 : qMetOk 301 = true := by decide +kernel
set_option maxRecDepth 100000 in
theorem ck_302 : qMetOk 302 = true := by decide +kernel
set_option maxRecDepth 100000 in
theorem ck_303 : qMetOk 303 = true := by decide +kernel
set_option maxRecDepth 100000 in
theorem ck_304 : qMetOk 304 = true := by decide +kernel
set_option maxRecDepth 100000 in
theorem ck_305 : qMetOk 305 = true := by decide +kernel
set_option maxRecDepth 100000 in
theorem ck_306 : qMetOk 306 = true := by decide +kernel
set_option maxRecDepth 100000 in
theorem ck_307 : qMetOk 307 = true := by decide +kernel
set_option maxRecDepth 100000 in
theorem ck_308 : qMetOk 308 = true := by decide +kernel
set_option maxRecDepth 100000 in
theorem ck_309 : qMetOk 309 = true := by decide +kernel
set_option maxRecDepth 100000 in
theorem ck_310 : qMetOk 310 = true := by decide +kernel
set_option maxRecDepth 100000 in
theorem ck_311 : qMetOk 311 = true := by decide +kernel
set_option maxRecDepth 100000 in
theorem ck_312 : qMetOk 312 = true := by decide +kernel
set_option maxRecDepth 100000 in
theorem ck_313 : qMetOk 313 = true := by decide +kernel
set_option maxRecDepth 100000 in
theorem ck_314 : qMetOk 314 = true := by decide +kernel
set_option maxRecDepth 100000 in
theorem ck_315 : qMetOk 315 = true := by decide +kernel
set_option maxRecDepth 100000 in
theorem ck_316 : qMetOk 316 = true := by decide +kernel
set_option maxRecDepth 100000 in
theorem ck_317 : qMetOk 317 = true := by decide +kernel
set_option maxRecDepth 100000 in
theorem ck_318 : qMetOk 318 = true := by decide +kernel
set_option maxRecDepth 100000 in
theorem ck_319 : qMetOk 319 = true := by decide +kernel
set_option maxRecDepth 100000 in
theorem ck_320 : qMetOk 320 = true := by decide +kernel
set_option maxRecDepth 100000 in
theorem ck_321 : qMetOk 321 = true := by decide +kernel
set_option maxRecDepth 100000 in
theorem ck_322 : qMetOk 322 = true := by decide +kernel
set_option maxRecDepth 100000 in
theorem ck_323 : qMetOk 323 = true := by decide +kernel
set_option maxRecDepth 100000 in
theorem ck_324 : qMetOk 324 = true := by decide +kernel
set_option maxRecDepth 100000 in
theorem ck_325 : qMetOk 325 = true := by decide +kernel
set_option maxRecDepth 100000 in
theorem ck_326 : qMetOk 326 = true := by decide +kernel
set_option maxRecDepth 100000 in
theorem ck_327 : qMetOk 327 = true := by decide +kernel
set_option maxRecDepth 100000 in
theorem ck_328 : qMetOk 328 = true := by decide +kernel
set_option maxRecDepth 100000 in
theorem ck_329 : qMetOk 329 = true := by decide +kernel
set_option maxRecDepth 100000 in
theorem ck_330 : qMetOk 330 = true := by decide +kernel
set_option maxRecDepth 100000 in
theorem ck_331 : qMetOk 331 = true := by decide +kernel
set_option maxRecDepth 100000 in
theorem ck_332 : qMetOk 332 = true := by decide +kernel
set_option maxRecDepth 100000 in
theorem ck_333 : qMetOk 333 = true := by decide +kernel
set_option maxRecDepth 100000 in
theorem ck_334 : qMetOk 334 = true := by decide +kernel
set_option maxRecDepth 100000 in
theorem ck_335 : qMetOk 335 = true := by decide +kernel
set_option maxRecDepth 100000 in
theorem ck_336 : qMetOk 336 = true := by decide +kernel
set_option maxRecDepth 100000 in
theorem ck_337 : qMetOk 337 = true := by decide +kernel
set_option maxRecDepth 100000 in
theorem ck_338 : qMetOk 338 = true := by decide +kernel
set_option maxRecDepth 100000 in
theorem ck_339 : qMetOk 339 = true := by decide +kernel
set_option maxRecDepth 100000 in
theorem ck_340 : qMetOk 340 = true := by decide +kernel
set_option maxRecDepth 100000 in
theorem ck_341 : qMetOk 341 = true := by decide +kernel
set_option maxRecDepth 100000 in
theorem ck_342 : qMetOk 342 = true := by decide +kernel
set_option maxRecDepth 100000 in
theorem ck_343 : qMetOk 343 = true := by decide +kernel
set_option maxRecDepth 100000 in
theorem ck_344 : qMetOk 344 = true := by decide +kernel
set_option maxRecDepth 100000 in
theorem ck_345 : qMetOk 345 = true := by decide +kernel
set_option maxRecDepth 100000 in
theorem ck_346 : qMetOk 346 = true := by decide +kernel
set_option maxRecDepth 100000 in
theorem ck_347 : qMetOk 347 = true := by decide +kernel
set_option maxRecDepth 100000 in
theorem ck_348 : qMetOk 348 = true := by decide +kernel
set_option maxRecDepth 100000 in
theorem ck_349 : qMetOk 349 = true := by decide +kernel
set_option maxRecDepth 100000 in
theorem ck_350 : qMetOk 350 = true := by decide +kernel
set_option maxRecDepth 100000 in
theorem ck_351 : qMetOk 351 = true := by decide +kernel
set_option maxRecDepth 100000 in
theorem ck_352 : qMetOk 352 = true := by decide +kernel
set_option maxRecDepth 100000 in
theorem ck_353 : qMetOk 353 = true := by decide +kernel
set_option maxRecDepth 100000 in
theorem ck_354 : qMetOk 354 = true := by decide +kernel
set_option maxRecDepth 100000 in
theorem ck_355 : qMetOk 355 = true := by decide +kernel
set_option maxRecDepth 100000 in
theorem ck_356 : qMetOk 356 = true := by decide +kernel
set_option maxRecDepth 100000 in
theorem ck_357 : qMetOk 357 = true := by decide +kernel
set_option maxRecDepth 100000 in
theorem ck_358 : qMetOk 358 = true := by decide +kernel
set_option maxRecDepth 100000 in
theorem ck_359 : qMetOk 359 = true := by decide +kernel
set_option maxRecDepth 100000 in
theorem ck_360 : qMetOk 360 = true := by decide +kernel
set_option maxRecDepth 100000 in
theorem ck_361 : qMetOk 361 = true := by decide +kernel
set_option maxRecDepth 100000 in
theorem ck_362 : qMetOk 362 = true := by decide +kernel
set_option maxRecDepth 100000 in
theorem ck_363 : qMetOk 363 = true := by decide +kernel
set_option maxRecDepth 100000 in
theorem ck_364 : qMetOk 364 = true := by decide +kernel
set_option maxRecDepth 100000 in
theorem ck_365 : qMetOk 365 = true := by decide +kernel
set_option maxRecDepth 100000 in
theorem ck_366 : qMetOk 366 = true := by decide +kernel
set_option maxRecDepth 100000 in
theorem ck_367 : qMetOk 367 = true := by decide +kernel
set_option maxRecDepth 100000 in
theorem ck_368 : qMetOk 368 = true := by decide +kernel
set_option maxRecDepth 100000 in
theorem ck_369 : qMetOk 369 = true := by decide +kernel
set_option maxRecDepth 100000 in
theorem ck_370 : qMetOk 370 = true := by decide +kernel
set_option maxRecDepth 100000 in
theorem ck_371 : qMetOk 371 = true := by decide +kernel
set_option maxRecDepth 100000 in
theorem ck_372 : qMetOk 372 = true := by decide +kernel
set_option maxRecDepth 100000 in
theorem ck_373 : qMetOk 373 = true := by decide +kernel
set_option maxRecDepth 100000 in
theorem ck_374 : qMetOk 374 = true := by decide +kernel
set_option maxRecDepth 100000 in
theorem ck_375 : qMetOk 375 = true := by decide +kernel
set_option maxRecDepth 100000 in
theorem ck_376 : qMetOk 376 = true := by decide +kernel
set_option maxRecDepth 100000 in
theorem ck_377 : qMetOk 377 = true := by decide +kernel
set_option maxRecDepth 100000 in
theorem ck_379 : qMetOk 379 = true := by decide +kernel
set_option maxRecDepth 100000 in
theorem ck_380 : qMetOk 380 = true := by decide +kernel
