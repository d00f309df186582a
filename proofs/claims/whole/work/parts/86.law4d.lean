theorem d_L_288 : decode code 288 = .ok (.aload_n 1, 1) := by decide +kernel
theorem d_L_289 : decode code 289 = .ok (.aload_n 0, 1) := by decide +kernel
theorem d_L_290 : decode code 290 = .ok (.iload_n 3, 1) := by decide +kernel
theorem d_L_291 : decode code 291 = .ok (.iconst 1, 1) := by decide +kernel
theorem d_L_292 : decode code 292 = .ok (.iadd, 1) := by decide +kernel
theorem d_L_293 : decode code 293 = .ok (.iaload, 1) := by decide +kernel
theorem d_L_294 : decode code 294 = .ok (.aload_n 0, 1) := by decide +kernel
theorem d_L_295 : decode code 295 = .ok (.iload_n 3, 1) := by decide +kernel
theorem d_L_296 : decode code 296 = .ok (.iconst 2, 1) := by decide +kernel
theorem d_L_297 : decode code 297 = .ok (.iadd, 1) := by decide +kernel
theorem d_L_298 : decode code 298 = .ok (.iaload, 1) := by decide +kernel
theorem d_L_299 : decode code 299 = .ok (.aload_n 0, 1) := by decide +kernel
theorem d_L_300 : decode code 300 = .ok (.iload_n 3, 1) := by decide +kernel
theorem d_L_301 : decode code 301 = .ok (.iconst 3, 1) := by decide +kernel
theorem d_L_302 : decode code 302 = .ok (.iadd, 1) := by decide +kernel
theorem d_L_303 : decode code 303 = .ok (.iaload, 1) := by decide +kernel
theorem d_L_304 : decode code 304 = .ok (.i2l, 1) := by decide +kernel
theorem d_L_305 : decode code 305 = .ok (.bipush 32, 2) := by decide +kernel
theorem d_L_307 : decode code 307 = .ok (.lshl, 1) := by decide +kernel
theorem d_L_308 : decode code 308 = .ok (.aload_n 0, 1) := by decide +kernel
theorem d_L_309 : decode code 309 = .ok (.iload_n 3, 1) := by decide +kernel
theorem d_L_310 : decode code 310 = .ok (.iconst 4, 1) := by decide +kernel
theorem d_L_311 : decode code 311 = .ok (.iadd, 1) := by decide +kernel
theorem d_L_312 : decode code 312 = .ok (.iaload, 1) := by decide +kernel
theorem d_L_313 : decode code 313 = .ok (.i2l, 1) := by decide +kernel
theorem d_L_314 : decode code 314 = .ok (.ldc2_w 33, 3) := by decide +kernel
theorem d_L_317 : decode code 317 = .ok (.land, 1) := by decide +kernel
theorem d_L_318 : decode code 318 = .ok (.lor, 1) := by decide +kernel
theorem d_L_319 : decode code 319 = .ok (.aload_n 0, 1) := by decide +kernel
theorem d_L_320 : decode code 320 = .ok (.iload_n 3, 1) := by decide +kernel
theorem d_L_321 : decode code 321 = .ok (.iconst 5, 1) := by decide +kernel
theorem d_L_322 : decode code 322 = .ok (.iadd, 1) := by decide +kernel
theorem d_L_323 : decode code 323 = .ok (.iaload, 1) := by decide +kernel
theorem d_L_324 : decode code 324 = .ok (.invokevirtual 35, 3) := by decide +kernel
theorem d_L_327 : decode code 327 = .ok (.aload_n 2, 1) := by decide +kernel
theorem d_L_328 : decode code 328 = .ok (.aload_n 0, 1) := by decide +kernel
theorem d_L_329 : decode code 329 = .ok (.iload_n 3, 1) := by decide +kernel
