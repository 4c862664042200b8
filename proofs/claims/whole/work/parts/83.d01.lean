/-! the law's entry, its instructions (1) -/
theorem d_law_244 : decode code 244 = .ok (.if_icmp .eq 1831, 3) := by decide +kernel
theorem d_law_249 : decode code 249 = .ok (.aload_n 1, 1) := by decide +kernel
theorem d_law_250 : decode code 250 = .ok (.invokevirtual 125, 3) := by decide +kernel
theorem d_law_253 : decode code 253 = .ok (.aload_n 2, 1) := by decide +kernel
theorem d_law_254 : decode code 254 = .ok (.invokevirtual 128, 3) := by decide +kernel
theorem d_law_257 : decode code 257 = .ok (.if_icmp .eq 1818, 3) := by decide +kernel
theorem d_law_262 : decode code 262 = .ok (.aload_n 1, 1) := by decide +kernel
theorem d_law_263 : decode code 263 = .ok (.aload_n 3, 1) := by decide +kernel
theorem d_law_264 : decode code 264 = .ok (.invokestatic 129, 3) := by decide +kernel
theorem d_law_267 : decode code 267 = .ok (.istore 5, 2) := by decide +kernel
theorem d_law_269 : decode code 269 = .ok (.aload_n 2, 1) := by decide +kernel
theorem d_law_270 : decode code 270 = .ok (.invokevirtual 132, 3) := by decide +kernel
theorem d_law_273 : decode code 273 = .ok (.istore 6, 2) := by decide +kernel
theorem d_law_275 : decode code 275 = .ok (.aload_n 2, 1) := by decide +kernel
theorem d_law_276 : decode code 276 = .ok (.invokevirtual 118, 3) := by decide +kernel
theorem d_law_279 : decode code 279 = .ok (.iload 5, 2) := by decide +kernel
theorem d_law_281 : decode code 281 = .ok (.if_icmp .eq 5, 3) := by decide +kernel
theorem d_law_286 : decode code 286 = .ok (.iload 5, 2) := by decide +kernel
theorem d_law_288 : decode code 288 = .ok (.ifCond .ne 15, 3) := by decide +kernel
theorem d_law_291 : decode code 291 = .ok (.aload_n 3, 1) := by decide +kernel
theorem d_law_292 : decode code 292 = .ok (.iconst 0, 1) := by decide +kernel
theorem d_law_293 : decode code 293 = .ok (.laload, 1) := by decide +kernel
theorem d_law_294 : decode code 294 = .ok (.iload 6, 2) := by decide +kernel
theorem d_law_296 : decode code 296 = .ok (.i2l, 1) := by decide +kernel
theorem d_law_297 : decode code 297 = .ok (.lcmp, 1) := by decide +kernel
theorem d_law_298 : decode code 298 = .ok (.ifCond .eq 5, 3) := by decide +kernel
theorem d_law_303 : decode code 303 = .ok (.goto 1772, 3) := by decide +kernel
theorem d_law_306 : decode code 306 = .ok (.aload_n 1, 1) := by decide +kernel
theorem d_law_307 : decode code 307 = .ok (.aload_n 0, 1) := by decide +kernel
theorem d_law_308 : decode code 308 = .ok (.iload 4, 2) := by decide +kernel
theorem d_law_310 : decode code 310 = .ok (.iconst 1, 1) := by decide +kernel
theorem d_law_311 : decode code 311 = .ok (.iadd, 1) := by decide +kernel
theorem d_law_312 : decode code 312 = .ok (.iaload, 1) := by decide +kernel
theorem d_law_313 : decode code 313 = .ok (.aload_n 3, 1) := by decide +kernel
theorem d_law_314 : decode code 314 = .ok (.invokestatic 133, 3) := by decide +kernel
theorem d_law_317 : decode code 317 = .ok (.istore 5, 2) := by decide +kernel
theorem d_law_319 : decode code 319 = .ok (.aload_n 2, 1) := by decide +kernel
theorem d_law_320 : decode code 320 = .ok (.aload_n 0, 1) := by decide +kernel
theorem d_law_321 : decode code 321 = .ok (.iload 4, 2) := by decide +kernel
theorem d_law_323 : decode code 323 = .ok (.iconst 1, 1) := by decide +kernel
theorem d_law_324 : decode code 324 = .ok (.iadd, 1) := by decide +kernel
theorem d_law_325 : decode code 325 = .ok (.iaload, 1) := by decide +kernel
theorem d_law_326 : decode code 326 = .ok (.invokevirtual 135, 3) := by decide +kernel
theorem d_law_329 : decode code 329 = .ok (.istore 6, 2) := by decide +kernel
theorem d_law_331 : decode code 331 = .ok (.aload_n 2, 1) := by decide +kernel
theorem d_law_332 : decode code 332 = .ok (.invokevirtual 118, 3) := by decide +kernel
theorem d_law_335 : decode code 335 = .ok (.iload 5, 2) := by decide +kernel
theorem d_law_337 : decode code 337 = .ok (.if_icmp .eq 5, 3) := by decide +kernel
theorem d_law_342 : decode code 342 = .ok (.iload 5, 2) := by decide +kernel
theorem d_law_344 : decode code 344 = .ok (.ifCond .ne 15, 3) := by decide +kernel
theorem d_law_347 : decode code 347 = .ok (.aload_n 3, 1) := by decide +kernel
theorem d_law_348 : decode code 348 = .ok (.iconst 0, 1) := by decide +kernel
theorem d_law_349 : decode code 349 = .ok (.laload, 1) := by decide +kernel
theorem d_law_350 : decode code 350 = .ok (.iload 6, 2) := by decide +kernel
theorem d_law_352 : decode code 352 = .ok (.i2l, 1) := by decide +kernel
theorem d_law_353 : decode code 353 = .ok (.lcmp, 1) := by decide +kernel
theorem d_law_354 : decode code 354 = .ok (.ifCond .eq 5, 3) := by decide +kernel
theorem d_law_359 : decode code 359 = .ok (.goto 1716, 3) := by decide +kernel
theorem d_law_362 : decode code 362 = .ok (.aload_n 1, 1) := by decide +kernel
theorem d_law_363 : decode code 363 = .ok (.aload_n 0, 1) := by decide +kernel
