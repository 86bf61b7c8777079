theorem d_LW_law_260 : decode code 260 = .ok (.ireturn, 1) := by decide +kernel
theorem d_LW_law_261 : decode code 261 = .ok (.goto 402, 3) := by decide +kernel
theorem d_LW_law_264 : decode code 264 = .ok (.aload_n 1, 1) := by decide +kernel
theorem d_LW_law_265 : decode code 265 = .ok (.aload_n 0, 1) := by decide +kernel
theorem d_LW_law_266 : decode code 266 = .ok (.iload 4, 2) := by decide +kernel
theorem d_LW_law_268 : decode code 268 = .ok (.iconst 1, 1) := by decide +kernel
theorem d_LW_law_269 : decode code 269 = .ok (.iadd, 1) := by decide +kernel
theorem d_LW_law_270 : decode code 270 = .ok (.iaload, 1) := by decide +kernel
theorem d_LW_law_271 : decode code 271 = .ok (.aload_n 0, 1) := by decide +kernel
theorem d_LW_law_272 : decode code 272 = .ok (.iload 4, 2) := by decide +kernel
theorem d_LW_law_274 : decode code 274 = .ok (.iconst 2, 1) := by decide +kernel
theorem d_LW_law_275 : decode code 275 = .ok (.iadd, 1) := by decide +kernel
theorem d_LW_law_276 : decode code 276 = .ok (.iaload, 1) := by decide +kernel
theorem d_LW_law_277 : decode code 277 = .ok (.invokevirtual 39, 3) := by decide +kernel
theorem d_LW_law_280 : decode code 280 = .ok (.aload_n 2, 1) := by decide +kernel
theorem d_LW_law_281 : decode code 281 = .ok (.aload_n 0, 1) := by decide +kernel
theorem d_LW_law_282 : decode code 282 = .ok (.iload 4, 2) := by decide +kernel
theorem d_LW_law_284 : decode code 284 = .ok (.iconst 1, 1) := by decide +kernel
theorem d_LW_law_285 : decode code 285 = .ok (.iadd, 1) := by decide +kernel
theorem d_LW_law_286 : decode code 286 = .ok (.iaload, 1) := by decide +kernel
theorem d_LW_law_287 : decode code 287 = .ok (.aload_n 0, 1) := by decide +kernel
theorem d_LW_law_288 : decode code 288 = .ok (.iload 4, 2) := by decide +kernel
theorem d_LW_law_290 : decode code 290 = .ok (.iconst 2, 1) := by decide +kernel
theorem d_LW_law_291 : decode code 291 = .ok (.iadd, 1) := by decide +kernel
theorem d_LW_law_292 : decode code 292 = .ok (.iaload, 1) := by decide +kernel
theorem d_LW_law_293 : decode code 293 = .ok (.invokevirtual 43, 3) := by decide +kernel
theorem d_LW_law_296 : decode code 296 = .ok (.if_icmp .eq 367, 3) := by decide +kernel
theorem d_LW_law_299 : decode code 299 = .ok (.iconst 0, 1) := by decide +kernel
theorem d_LW_law_300 : decode code 300 = .ok (.ireturn, 1) := by decide +kernel
theorem d_LW_law_301 : decode code 301 = .ok (.aload_n 1, 1) := by decide +kernel
theorem d_LW_law_302 : decode code 302 = .ok (.invokevirtual 44, 3) := by decide +kernel
theorem d_LW_law_305 : decode code 305 = .ok (.aload_n 2, 1) := by decide +kernel
theorem d_LW_law_306 : decode code 306 = .ok (.invokevirtual 47, 3) := by decide +kernel
theorem d_LW_law_309 : decode code 309 = .ok (.if_icmp .eq 354, 3) := by decide +kernel
theorem d_LW_law_312 : decode code 312 = .ok (.iconst 0, 1) := by decide +kernel
theorem d_LW_law_313 : decode code 313 = .ok (.ireturn, 1) := by decide +kernel
theorem d_LW_law_314 : decode code 314 = .ok (.aload_n 1, 1) := by decide +kernel
theorem d_LW_law_315 : decode code 315 = .ok (.invokevirtual 48, 3) := by decide +kernel
theorem d_LW_law_318 : decode code 318 = .ok (.aload_n 2, 1) := by decide +kernel
theorem d_LW_law_319 : decode code 319 = .ok (.invokevirtual 51, 3) := by decide +kernel
theorem d_LW_law_322 : decode code 322 = .ok (.if_icmp .eq 341, 3) := by decide +kernel
theorem d_LW_law_325 : decode code 325 = .ok (.iconst 0, 1) := by decide +kernel
theorem d_LW_law_326 : decode code 326 = .ok (.ireturn, 1) := by decide +kernel
theorem d_LW_law_327 : decode code 327 = .ok (.aload_n 1, 1) := by decide +kernel
theorem d_LW_law_328 : decode code 328 = .ok (.aload_n 0, 1) := by decide +kernel
theorem d_LW_law_329 : decode code 329 = .ok (.iload 4, 2) := by decide +kernel
theorem d_LW_law_331 : decode code 331 = .ok (.iconst 1, 1) := by decide +kernel
theorem d_LW_law_332 : decode code 332 = .ok (.iadd, 1) := by decide +kernel
theorem d_LW_law_333 : decode code 333 = .ok (.iaload, 1) := by decide +kernel
theorem d_LW_law_334 : decode code 334 = .ok (.invokevirtual 52, 3) := by decide +kernel
theorem d_LW_law_337 : decode code 337 = .ok (.aload_n 2, 1) := by decide +kernel
theorem d_LW_law_338 : decode code 338 = .ok (.aload_n 0, 1) := by decide +kernel
theorem d_LW_law_339 : decode code 339 = .ok (.iload 4, 2) := by decide +kernel
theorem d_LW_law_341 : decode code 341 = .ok (.iconst 1, 1) := by decide +kernel
theorem d_LW_law_342 : decode code 342 = .ok (.iadd, 1) := by decide +kernel
theorem d_LW_law_343 : decode code 343 = .ok (.iaload, 1) := by decide +kernel
theorem d_LW_law_344 : decode code 344 = .ok (.invokevirtual 55, 3) := by decide +kernel
theorem d_LW_law_347 : decode code 347 = .ok (.if_icmp .eq 316, 3) := by decide +kernel
theorem d_LW_law_350 : decode code 350 = .ok (.iconst 0, 1) := by decide +kernel
theorem d_LW_law_351 : decode code 351 = .ok (.ireturn, 1) := by decide +kernel
