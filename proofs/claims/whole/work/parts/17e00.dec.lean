theorem d_w_0 : decode code 0 = .ok (.new 8, 3) := by decide +kernel
theorem d_w_3 : decode code 3 = .ok (.dup, 1) := by decide +kernel
theorem d_w_4 : decode code 4 = .ok (.invokespecial 86, 3) := by decide +kernel
theorem d_w_7 : decode code 7 = .ok (.astore_n 1, 1) := by decide +kernel
theorem d_w_8 : decode code 8 = .ok (.new 87, 3) := by decide +kernel
theorem d_w_11 : decode code 11 = .ok (.dup, 1) := by decide +kernel
theorem d_w_12 : decode code 12 = .ok (.invokespecial 89, 3) := by decide +kernel
theorem d_w_15 : decode code 15 = .ok (.astore_n 2, 1) := by decide +kernel
theorem d_w_16 : decode code 16 = .ok (.iconst 1, 1) := by decide +kernel
theorem d_w_17 : decode code 17 = .ok (.newarray .long, 2) := by decide +kernel
theorem d_w_19 : decode code 19 = .ok (.astore_n 3, 1) := by decide +kernel
theorem d_w_20 : decode code 20 = .ok (.iconst 1, 1) := by decide +kernel
theorem d_w_21 : decode code 21 = .ok (.newarray .double, 2) := by decide +kernel
theorem d_w_23 : decode code 23 = .ok (.astore 4, 2) := by decide +kernel
theorem d_w_25 : decode code 25 = .ok (.iconst 0, 1) := by decide +kernel
theorem d_w_26 : decode code 26 = .ok (.istore 5, 2) := by decide +kernel
theorem d_w_28 : decode code 28 = .ok (.iload 5, 2) := by decide +kernel
theorem d_w_30 : decode code 30 = .ok (.aload_n 0, 1) := by decide +kernel
theorem d_w_31 : decode code 31 = .ok (.arraylength, 1) := by decide +kernel
theorem d_w_32 : decode code 32 = .ok (.bipush 6, 2) := by decide +kernel
theorem d_w_34 : decode code 34 = .ok (.isub, 1) := by decide +kernel
theorem d_w_35 : decode code 35 = .ok (.if_icmp .gt 2210, 3) := by decide +kernel
theorem d_w_38 : decode code 38 = .ok (.aload_n 0, 1) := by decide +kernel
theorem d_w_39 : decode code 39 = .ok (.iload 5, 2) := by decide +kernel
theorem d_w_41 : decode code 41 = .ok (.iaload, 1) := by decide +kernel
theorem d_w_42 : decode code 42 = .ok (.bipush 63, 2) := by decide +kernel
theorem d_w_44 : decode code 44 = .ok (.iand, 1) := by decide +kernel
theorem d_w_45 : decode code 45 = .ok (.tableswitch 2194 0 48 #[211, 284, 297, 310, 323, 379, 447, 515, 571, 655, 711, 752, 766, 780, 822, 835, 849, 874, 915, 958, 1026, 1109, 1177, 1254, 1309, 1322, 1335, 1348, 1362, 1375, 1443, 1456, 1511, 1578, 1591, 1604, 1672, 1728, 1784, 1852, 1865, 1921, 1977, 1990, 2031, 2044, 2069, 2082, 2138], 211) := by decide +kernel
theorem d_w_256 : decode code 256 = .ok (.aload_n 1, 1) := by decide +kernel
theorem d_w_257 : decode code 257 = .ok (.aload_n 0, 1) := by decide +kernel
theorem d_w_258 : decode code 258 = .ok (.iload 5, 2) := by decide +kernel
theorem d_w_260 : decode code 260 = .ok (.iconst 1, 1) := by decide +kernel
theorem d_w_261 : decode code 261 = .ok (.iadd, 1) := by decide +kernel
theorem d_w_262 : decode code 262 = .ok (.iaload, 1) := by decide +kernel
theorem d_w_263 : decode code 263 = .ok (.aload_n 0, 1) := by decide +kernel
theorem d_w_264 : decode code 264 = .ok (.iload 5, 2) := by decide +kernel
theorem d_w_266 : decode code 266 = .ok (.iconst 2, 1) := by decide +kernel
theorem d_w_267 : decode code 267 = .ok (.iadd, 1) := by decide +kernel
theorem d_w_268 : decode code 268 = .ok (.iaload, 1) := by decide +kernel
theorem d_w_269 : decode code 269 = .ok (.aload_n 0, 1) := by decide +kernel
theorem d_w_270 : decode code 270 = .ok (.iload 5, 2) := by decide +kernel
theorem d_w_272 : decode code 272 = .ok (.iconst 3, 1) := by decide +kernel
theorem d_w_273 : decode code 273 = .ok (.iadd, 1) := by decide +kernel
theorem d_w_274 : decode code 274 = .ok (.iaload, 1) := by decide +kernel
theorem d_w_275 : decode code 275 = .ok (.aload_n 0, 1) := by decide +kernel
theorem d_w_276 : decode code 276 = .ok (.iload 5, 2) := by decide +kernel
theorem d_w_278 : decode code 278 = .ok (.iconst 4, 1) := by decide +kernel
theorem d_w_279 : decode code 279 = .ok (.iadd, 1) := by decide +kernel
theorem d_w_280 : decode code 280 = .ok (.iaload, 1) := by decide +kernel
theorem d_w_281 : decode code 281 = .ok (.aload_n 0, 1) := by decide +kernel
theorem d_w_282 : decode code 282 = .ok (.iload 5, 2) := by decide +kernel
theorem d_w_284 : decode code 284 = .ok (.iconst 5, 1) := by decide +kernel
theorem d_w_285 : decode code 285 = .ok (.iadd, 1) := by decide +kernel
theorem d_w_286 : decode code 286 = .ok (.iaload, 1) := by decide +kernel
theorem d_w_287 : decode code 287 = .ok (.invokevirtual 90, 3) := by decide +kernel
theorem d_w_290 : decode code 290 = .ok (.aload_n 2, 1) := by decide +kernel
theorem d_w_291 : decode code 291 = .ok (.aload_n 0, 1) := by decide +kernel
theorem d_w_292 : decode code 292 = .ok (.iload 5, 2) := by decide +kernel
theorem d_w_294 : decode code 294 = .ok (.iconst 1, 1) := by decide +kernel
theorem d_w_295 : decode code 295 = .ok (.iadd, 1) := by decide +kernel
theorem d_w_296 : decode code 296 = .ok (.iaload, 1) := by decide +kernel
theorem d_w_297 : decode code 297 = .ok (.aload_n 0, 1) := by decide +kernel
theorem d_w_298 : decode code 298 = .ok (.iload 5, 2) := by decide +kernel
theorem d_w_300 : decode code 300 = .ok (.iconst 2, 1) := by decide +kernel
theorem d_w_301 : decode code 301 = .ok (.iadd, 1) := by decide +kernel
theorem d_w_302 : decode code 302 = .ok (.iaload, 1) := by decide +kernel
theorem d_w_303 : decode code 303 = .ok (.aload_n 0, 1) := by decide +kernel
theorem d_w_304 : decode code 304 = .ok (.iload 5, 2) := by decide +kernel
theorem d_w_306 : decode code 306 = .ok (.iconst 3, 1) := by decide +kernel
theorem d_w_307 : decode code 307 = .ok (.iadd, 1) := by decide +kernel
theorem d_w_308 : decode code 308 = .ok (.iaload, 1) := by decide +kernel
theorem d_w_309 : decode code 309 = .ok (.aload_n 0, 1) := by decide +kernel
theorem d_w_310 : decode code 310 = .ok (.iload 5, 2) := by decide +kernel
theorem d_w_312 : decode code 312 = .ok (.iconst 4, 1) := by decide +kernel
theorem d_w_313 : decode code 313 = .ok (.iadd, 1) := by decide +kernel
theorem d_w_314 : decode code 314 = .ok (.iaload, 1) := by decide +kernel
theorem d_w_315 : decode code 315 = .ok (.aload_n 0, 1) := by decide +kernel
theorem d_w_316 : decode code 316 = .ok (.iload 5, 2) := by decide +kernel
theorem d_w_318 : decode code 318 = .ok (.iconst 5, 1) := by decide +kernel
theorem d_w_319 : decode code 319 = .ok (.iadd, 1) := by decide +kernel
theorem d_w_320 : decode code 320 = .ok (.iaload, 1) := by decide +kernel
theorem d_w_321 : decode code 321 = .ok (.invokevirtual 94, 3) := by decide +kernel
theorem d_w_324 : decode code 324 = .ok (.if_icmp .eq 1915, 3) := by decide +kernel
theorem d_w_327 : decode code 327 = .ok (.iconst 0, 1) := by decide +kernel
theorem d_w_328 : decode code 328 = .ok (.ireturn, 1) := by decide +kernel
theorem d_w_329 : decode code 329 = .ok (.aload_n 1, 1) := by decide +kernel
theorem d_w_330 : decode code 330 = .ok (.invokevirtual 95, 3) := by decide +kernel
theorem d_w_333 : decode code 333 = .ok (.aload_n 2, 1) := by decide +kernel
theorem d_w_334 : decode code 334 = .ok (.invokevirtual 99, 3) := by decide +kernel
theorem d_w_337 : decode code 337 = .ok (.if_icmp .eq 1902, 3) := by decide +kernel
theorem d_w_340 : decode code 340 = .ok (.iconst 0, 1) := by decide +kernel
theorem d_w_341 : decode code 341 = .ok (.ireturn, 1) := by decide +kernel
theorem d_w_342 : decode code 342 = .ok (.aload_n 1, 1) := by decide +kernel
theorem d_w_343 : decode code 343 = .ok (.invokevirtual 100, 3) := by decide +kernel
theorem d_w_346 : decode code 346 = .ok (.aload_n 2, 1) := by decide +kernel
theorem d_w_347 : decode code 347 = .ok (.invokevirtual 103, 3) := by decide +kernel
theorem d_w_350 : decode code 350 = .ok (.if_icmp .eq 1889, 3) := by decide +kernel
theorem d_w_353 : decode code 353 = .ok (.iconst 0, 1) := by decide +kernel
theorem d_w_354 : decode code 354 = .ok (.ireturn, 1) := by decide +kernel
theorem d_w_355 : decode code 355 = .ok (.aload_n 1, 1) := by decide +kernel
theorem d_w_356 : decode code 356 = .ok (.invokevirtual 104, 3) := by decide +kernel
theorem d_w_359 : decode code 359 = .ok (.aload_n 2, 1) := by decide +kernel
theorem d_w_360 : decode code 360 = .ok (.invokevirtual 107, 3) := by decide +kernel
theorem d_w_363 : decode code 363 = .ok (.if_icmp .eq 1876, 3) := by decide +kernel
theorem d_w_366 : decode code 366 = .ok (.iconst 0, 1) := by decide +kernel
theorem d_w_367 : decode code 367 = .ok (.ireturn, 1) := by decide +kernel
theorem d_w_368 : decode code 368 = .ok (.aload_n 1, 1) := by decide +kernel
theorem d_w_369 : decode code 369 = .ok (.aload_n 0, 1) := by decide +kernel
theorem d_w_370 : decode code 370 = .ok (.iload 5, 2) := by decide +kernel
theorem d_w_372 : decode code 372 = .ok (.iconst 1, 1) := by decide +kernel
