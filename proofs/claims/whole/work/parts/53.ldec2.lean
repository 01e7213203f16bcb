theorem d_law_210 : decode code 210 = .ok (.iadd, 1) := by decide +kernel
theorem d_law_211 : decode code 211 = .ok (.iaload, 1) := by decide +kernel
theorem d_law_212 : decode code 212 = .ok (.aload_n 3, 1) := by decide +kernel
theorem d_law_213 : decode code 213 = .ok (.invokestatic 63, 3) := by decide +kernel
theorem d_law_216 : decode code 216 = .ok (.istore 5, 2) := by decide +kernel
theorem d_law_218 : decode code 218 = .ok (.aload_n 2, 1) := by decide +kernel
theorem d_law_219 : decode code 219 = .ok (.aload_n 0, 1) := by decide +kernel
theorem d_law_220 : decode code 220 = .ok (.iload 4, 2) := by decide +kernel
theorem d_law_222 : decode code 222 = .ok (.iconst 1, 1) := by decide +kernel
theorem d_law_223 : decode code 223 = .ok (.iadd, 1) := by decide +kernel
theorem d_law_224 : decode code 224 = .ok (.iaload, 1) := by decide +kernel
theorem d_law_225 : decode code 225 = .ok (.invokevirtual 65, 3) := by decide +kernel
theorem d_law_228 : decode code 228 = .ok (.istore 6, 2) := by decide +kernel
theorem d_law_230 : decode code 230 = .ok (.aload_n 2, 1) := by decide +kernel
theorem d_law_231 : decode code 231 = .ok (.invokevirtual 51, 3) := by decide +kernel
theorem d_law_234 : decode code 234 = .ok (.iload 5, 2) := by decide +kernel
theorem d_law_236 : decode code 236 = .ok (.if_icmp .eq 5, 3) := by decide +kernel
theorem d_law_239 : decode code 239 = .ok (.iconst 0, 1) := by decide +kernel
theorem d_law_240 : decode code 240 = .ok (.ireturn, 1) := by decide +kernel
theorem d_law_241 : decode code 241 = .ok (.iload 5, 2) := by decide +kernel
theorem d_law_243 : decode code 243 = .ok (.ifCond .ne 15, 3) := by decide +kernel
theorem d_law_246 : decode code 246 = .ok (.aload_n 3, 1) := by decide +kernel
theorem d_law_247 : decode code 247 = .ok (.iconst 0, 1) := by decide +kernel
theorem d_law_248 : decode code 248 = .ok (.laload, 1) := by decide +kernel
theorem d_law_249 : decode code 249 = .ok (.iload 6, 2) := by decide +kernel
theorem d_law_251 : decode code 251 = .ok (.i2l, 1) := by decide +kernel
theorem d_law_252 : decode code 252 = .ok (.lcmp, 1) := by decide +kernel
theorem d_law_253 : decode code 253 = .ok (.ifCond .eq 5, 3) := by decide +kernel
theorem d_law_256 : decode code 256 = .ok (.iconst 0, 1) := by decide +kernel
theorem d_law_257 : decode code 257 = .ok (.ireturn, 1) := by decide +kernel
theorem d_law_258 : decode code 258 = .ok (.goto 333, 3) := by decide +kernel
theorem d_law_261 : decode code 261 = .ok (.aload_n 1, 1) := by decide +kernel
theorem d_law_262 : decode code 262 = .ok (.aload_n 0, 1) := by decide +kernel
theorem d_law_263 : decode code 263 = .ok (.iload 4, 2) := by decide +kernel
theorem d_law_265 : decode code 265 = .ok (.iconst 1, 1) := by decide +kernel
theorem d_law_266 : decode code 266 = .ok (.iadd, 1) := by decide +kernel
theorem d_law_267 : decode code 267 = .ok (.iaload, 1) := by decide +kernel
theorem d_law_268 : decode code 268 = .ok (.aload_n 0, 1) := by decide +kernel
theorem d_law_269 : decode code 269 = .ok (.iload 4, 2) := by decide +kernel
theorem d_law_271 : decode code 271 = .ok (.iconst 2, 1) := by decide +kernel
theorem d_law_272 : decode code 272 = .ok (.iadd, 1) := by decide +kernel
theorem d_law_273 : decode code 273 = .ok (.iaload, 1) := by decide +kernel
theorem d_law_274 : decode code 274 = .ok (.aload_n 3, 1) := by decide +kernel
theorem d_law_275 : decode code 275 = .ok (.invokestatic 66, 3) := by decide +kernel
theorem d_law_278 : decode code 278 = .ok (.istore 5, 2) := by decide +kernel
theorem d_law_280 : decode code 280 = .ok (.aload_n 2, 1) := by decide +kernel
theorem d_law_281 : decode code 281 = .ok (.aload_n 0, 1) := by decide +kernel
theorem d_law_282 : decode code 282 = .ok (.iload 4, 2) := by decide +kernel
theorem d_law_284 : decode code 284 = .ok (.iconst 1, 1) := by decide +kernel
theorem d_law_285 : decode code 285 = .ok (.iadd, 1) := by decide +kernel
theorem d_law_286 : decode code 286 = .ok (.iaload, 1) := by decide +kernel
theorem d_law_287 : decode code 287 = .ok (.aload_n 0, 1) := by decide +kernel
theorem d_law_288 : decode code 288 = .ok (.iload 4, 2) := by decide +kernel
theorem d_law_290 : decode code 290 = .ok (.iconst 2, 1) := by decide +kernel
theorem d_law_291 : decode code 291 = .ok (.iadd, 1) := by decide +kernel
theorem d_law_292 : decode code 292 = .ok (.iaload, 1) := by decide +kernel
theorem d_law_293 : decode code 293 = .ok (.invokevirtual 69, 3) := by decide +kernel
theorem d_law_296 : decode code 296 = .ok (.istore 6, 2) := by decide +kernel
theorem d_law_298 : decode code 298 = .ok (.aload_n 2, 1) := by decide +kernel
theorem d_law_299 : decode code 299 = .ok (.invokevirtual 51, 3) := by decide +kernel
theorem d_law_302 : decode code 302 = .ok (.iload 5, 2) := by decide +kernel
theorem d_law_304 : decode code 304 = .ok (.if_icmp .eq 5, 3) := by decide +kernel
theorem d_law_307 : decode code 307 = .ok (.iconst 0, 1) := by decide +kernel
theorem d_law_308 : decode code 308 = .ok (.ireturn, 1) := by decide +kernel
theorem d_law_309 : decode code 309 = .ok (.iload 5, 2) := by decide +kernel
theorem d_law_311 : decode code 311 = .ok (.ifCond .ne 22, 3) := by decide +kernel
theorem d_law_314 : decode code 314 = .ok (.aload_n 3, 1) := by decide +kernel
theorem d_law_315 : decode code 315 = .ok (.iconst 0, 1) := by decide +kernel
theorem d_law_316 : decode code 316 = .ok (.laload, 1) := by decide +kernel
theorem d_law_317 : decode code 317 = .ok (.iload 6, 2) := by decide +kernel
theorem d_law_319 : decode code 319 = .ok (.ifCond .eq 7, 3) := by decide +kernel
theorem d_law_322 : decode code 322 = .ok (.lconst 1, 1) := by decide +kernel
theorem d_law_323 : decode code 323 = .ok (.goto 4, 3) := by decide +kernel
theorem d_law_326 : decode code 326 = .ok (.lconst 0, 1) := by decide +kernel
theorem d_law_327 : decode code 327 = .ok (.lcmp, 1) := by decide +kernel
theorem d_law_328 : decode code 328 = .ok (.ifCond .eq 5, 3) := by decide +kernel
theorem d_law_331 : decode code 331 = .ok (.iconst 0, 1) := by decide +kernel
theorem d_law_332 : decode code 332 = .ok (.ireturn, 1) := by decide +kernel
theorem d_law_333 : decode code 333 = .ok (.goto 258, 3) := by decide +kernel
theorem d_law_336 : decode code 336 = .ok (.aload_n 1, 1) := by decide +kernel
theorem d_law_337 : decode code 337 = .ok (.aload_n 0, 1) := by decide +kernel
theorem d_law_338 : decode code 338 = .ok (.iload 4, 2) := by decide +kernel
theorem d_law_340 : decode code 340 = .ok (.iconst 1, 1) := by decide +kernel
theorem d_law_341 : decode code 341 = .ok (.iadd, 1) := by decide +kernel
theorem d_law_342 : decode code 342 = .ok (.iaload, 1) := by decide +kernel
theorem d_law_343 : decode code 343 = .ok (.aload_n 3, 1) := by decide +kernel
theorem d_law_344 : decode code 344 = .ok (.invokestatic 70, 3) := by decide +kernel
theorem d_law_347 : decode code 347 = .ok (.istore 5, 2) := by decide +kernel
theorem d_law_349 : decode code 349 = .ok (.aload_n 2, 1) := by decide +kernel
theorem d_law_350 : decode code 350 = .ok (.aload_n 0, 1) := by decide +kernel
theorem d_law_351 : decode code 351 = .ok (.iload 4, 2) := by decide +kernel
theorem d_law_353 : decode code 353 = .ok (.iconst 1, 1) := by decide +kernel
theorem d_law_354 : decode code 354 = .ok (.iadd, 1) := by decide +kernel
theorem d_law_355 : decode code 355 = .ok (.iaload, 1) := by decide +kernel
theorem d_law_356 : decode code 356 = .ok (.invokevirtual 72, 3) := by decide +kernel
theorem d_law_359 : decode code 359 = .ok (.istore 6, 2) := by decide +kernel
theorem d_law_361 : decode code 361 = .ok (.aload_n 2, 1) := by decide +kernel
theorem d_law_362 : decode code 362 = .ok (.invokevirtual 51, 3) := by decide +kernel
theorem d_law_365 : decode code 365 = .ok (.iload 5, 2) := by decide +kernel
theorem d_law_367 : decode code 367 = .ok (.if_icmp .eq 5, 3) := by decide +kernel
theorem d_law_370 : decode code 370 = .ok (.iconst 0, 1) := by decide +kernel
theorem d_law_371 : decode code 371 = .ok (.ireturn, 1) := by decide +kernel
theorem d_law_372 : decode code 372 = .ok (.iload 5, 2) := by decide +kernel
theorem d_law_374 : decode code 374 = .ok (.ifCond .ne 15, 3) := by decide +kernel
theorem d_law_377 : decode code 377 = .ok (.aload_n 3, 1) := by decide +kernel
theorem d_law_378 : decode code 378 = .ok (.iconst 0, 1) := by decide +kernel
theorem d_law_379 : decode code 379 = .ok (.laload, 1) := by decide +kernel
theorem d_law_380 : decode code 380 = .ok (.iload 6, 2) := by decide +kernel
theorem d_law_382 : decode code 382 = .ok (.i2l, 1) := by decide +kernel
theorem d_law_383 : decode code 383 = .ok (.lcmp, 1) := by decide +kernel
theorem d_law_384 : decode code 384 = .ok (.ifCond .eq 5, 3) := by decide +kernel
theorem d_law_387 : decode code 387 = .ok (.iconst 0, 1) := by decide +kernel
theorem d_law_388 : decode code 388 = .ok (.ireturn, 1) := by decide +kernel
theorem d_law_389 : decode code 389 = .ok (.goto 202, 3) := by decide +kernel
theorem d_law_392 : decode code 392 = .ok (.aload_n 1, 1) := by decide +kernel
theorem d_law_393 : decode code 393 = .ok (.aload_n 0, 1) := by decide +kernel
theorem d_law_394 : decode code 394 = .ok (.iload 4, 2) := by decide +kernel
theorem d_law_396 : decode code 396 = .ok (.iconst 1, 1) := by decide +kernel
theorem d_law_397 : decode code 397 = .ok (.iadd, 1) := by decide +kernel
theorem d_law_398 : decode code 398 = .ok (.iaload, 1) := by decide +kernel
theorem d_law_399 : decode code 399 = .ok (.aload_n 0, 1) := by decide +kernel
theorem d_law_400 : decode code 400 = .ok (.iload 4, 2) := by decide +kernel
theorem d_law_402 : decode code 402 = .ok (.iconst 2, 1) := by decide +kernel
theorem d_law_403 : decode code 403 = .ok (.iadd, 1) := by decide +kernel
theorem d_law_404 : decode code 404 = .ok (.iaload, 1) := by decide +kernel
theorem d_law_405 : decode code 405 = .ok (.aload_n 3, 1) := by decide +kernel
theorem d_law_406 : decode code 406 = .ok (.invokestatic 73, 3) := by decide +kernel
theorem d_law_409 : decode code 409 = .ok (.istore 5, 2) := by decide +kernel
theorem d_law_411 : decode code 411 = .ok (.aload_n 2, 1) := by decide +kernel
theorem d_law_412 : decode code 412 = .ok (.aload_n 0, 1) := by decide +kernel
theorem d_law_413 : decode code 413 = .ok (.iload 4, 2) := by decide +kernel
theorem d_law_415 : decode code 415 = .ok (.iconst 1, 1) := by decide +kernel
theorem d_law_416 : decode code 416 = .ok (.iadd, 1) := by decide +kernel
theorem d_law_417 : decode code 417 = .ok (.iaload, 1) := by decide +kernel
theorem d_law_418 : decode code 418 = .ok (.aload_n 0, 1) := by decide +kernel
theorem d_law_419 : decode code 419 = .ok (.iload 4, 2) := by decide +kernel
