theorem dL_law_212 : decode cL_law 212 = .ok (.aload_n 1, 1) := by decide +kernel
theorem tw_195 : Cond.methodLink RL 13 yX11_ring ∈ wsL_law := List.mem_of_getElem? (i := 195) (by decide +kernel)
theorem tw_196 : Cond.instanceMethod yX11_ring ∈ wsL_law := List.mem_of_getElem? (i := 196) (by decide +kernel)
theorem tw_197 : Cond.selects RX11 yX11_ring yX11_ring ∈ wsL_law := List.mem_of_getElem? (i := 197) (by decide +kernel)
theorem tw_198 : Cond.code yX11_ring cX11_ring 2 (some .int) ∈ wsL_law := List.mem_of_getElem? (i := 198) (by decide +kernel)
theorem dL_law_213 : decode cL_law 213 = .ok (.invokevirtual 13, 3) := by decide +kernel
theorem dL_law_216 : decode cL_law 216 = .ok (.aload_n 2, 1) := by decide +kernel
theorem tw_201 : Cond.methodLink RL 17 yX12_ring ∈ wsL_law := List.mem_of_getElem? (i := 201) (by decide +kernel)
theorem tw_202 : Cond.instanceMethod yX12_ring ∈ wsL_law := List.mem_of_getElem? (i := 202) (by decide +kernel)
theorem tw_203 : Cond.selects RX12 yX12_ring yX12_ring ∈ wsL_law := List.mem_of_getElem? (i := 203) (by decide +kernel)
theorem tw_204 : Cond.code yX12_ring cX12_ring 1 (some .int) ∈ wsL_law := List.mem_of_getElem? (i := 204) (by decide +kernel)
theorem dL_law_217 : decode cL_law 217 = .ok (.invokevirtual 17, 3) := by decide +kernel
theorem dL_law_220 : decode cL_law 220 = .ok (.if_icmp .eq 1505, 3) := by decide +kernel
theorem dL_law_225 : decode cL_law 225 = .ok (.aload_n 1, 1) := by decide +kernel
theorem dL_law_226 : decode cL_law 226 = .ok (.aload_n 0, 1) := by decide +kernel
theorem dL_law_227 : decode cL_law 227 = .ok (.iload_n 3, 1) := by decide +kernel
theorem dL_law_228 : decode cL_law 228 = .ok (.iconst 1, 1) := by decide +kernel
theorem dL_law_229 : decode cL_law 229 = .ok (.iadd, 1) := by decide +kernel
theorem dL_law_230 : decode cL_law 230 = .ok (.iaload, 1) := by decide +kernel
theorem dL_law_231 : decode cL_law 231 = .ok (.aload_n 0, 1) := by decide +kernel
theorem dL_law_232 : decode cL_law 232 = .ok (.iload_n 3, 1) := by decide +kernel
theorem dL_law_233 : decode cL_law 233 = .ok (.iconst 2, 1) := by decide +kernel
theorem dL_law_234 : decode cL_law 234 = .ok (.iadd, 1) := by decide +kernel
theorem dL_law_235 : decode cL_law 235 = .ok (.iaload, 1) := by decide +kernel
theorem dL_law_236 : decode cL_law 236 = .ok (.aload_n 0, 1) := by decide +kernel
theorem dL_law_237 : decode cL_law 237 = .ok (.iload_n 3, 1) := by decide +kernel
theorem dL_law_238 : decode cL_law 238 = .ok (.iconst 3, 1) := by decide +kernel
theorem dL_law_239 : decode cL_law 239 = .ok (.iadd, 1) := by decide +kernel
theorem dL_law_240 : decode cL_law 240 = .ok (.iaload, 1) := by decide +kernel
theorem dL_law_241 : decode cL_law 241 = .ok (.aload_n 0, 1) := by decide +kernel
theorem dL_law_242 : decode cL_law 242 = .ok (.iload_n 3, 1) := by decide +kernel
theorem dL_law_243 : decode cL_law 243 = .ok (.iconst 4, 1) := by decide +kernel
theorem dL_law_244 : decode cL_law 244 = .ok (.iadd, 1) := by decide +kernel
theorem dL_law_245 : decode cL_law 245 = .ok (.iaload, 1) := by decide +kernel
theorem dL_law_246 : decode cL_law 246 = .ok (.aload_n 0, 1) := by decide +kernel
theorem dL_law_247 : decode cL_law 247 = .ok (.iload_n 3, 1) := by decide +kernel
theorem dL_law_248 : decode cL_law 248 = .ok (.iconst 5, 1) := by decide +kernel
theorem dL_law_249 : decode cL_law 249 = .ok (.iadd, 1) := by decide +kernel
theorem dL_law_250 : decode cL_law 250 = .ok (.iaload, 1) := by decide +kernel
theorem dL_law_251 : decode cL_law 251 = .ok (.aload_n 0, 1) := by decide +kernel
theorem dL_law_252 : decode cL_law 252 = .ok (.iload_n 3, 1) := by decide +kernel
theorem dL_law_253 : decode cL_law 253 = .ok (.bipush 6, 2) := by decide +kernel
theorem dL_law_255 : decode cL_law 255 = .ok (.iadd, 1) := by decide +kernel
theorem dL_law_256 : decode cL_law 256 = .ok (.iaload, 1) := by decide +kernel
theorem tw_205 : Cond.methodLink RL 18 yX11_cell ∈ wsL_law := List.mem_of_getElem? (i := 205) (by decide +kernel)
theorem tw_206 : Cond.instanceMethod yX11_cell ∈ wsL_law := List.mem_of_getElem? (i := 206) (by decide +kernel)
theorem tw_207 : Cond.selects RX11 yX11_cell yX11_cell ∈ wsL_law := List.mem_of_getElem? (i := 207) (by decide +kernel)
theorem tw_208 : Cond.code yX11_cell cX11_cell 8 (some .int) ∈ wsL_law := List.mem_of_getElem? (i := 208) (by decide +kernel)
theorem dL_law_257 : decode cL_law 257 = .ok (.invokevirtual 18, 3) := by decide +kernel
theorem dL_law_260 : decode cL_law 260 = .ok (.aload_n 2, 1) := by decide +kernel
theorem dL_law_261 : decode cL_law 261 = .ok (.aload_n 0, 1) := by decide +kernel
theorem dL_law_262 : decode cL_law 262 = .ok (.iload_n 3, 1) := by decide +kernel
theorem dL_law_263 : decode cL_law 263 = .ok (.iconst 1, 1) := by decide +kernel
theorem dL_law_264 : decode cL_law 264 = .ok (.iadd, 1) := by decide +kernel
theorem dL_law_265 : decode cL_law 265 = .ok (.iaload, 1) := by decide +kernel
theorem dL_law_266 : decode cL_law 266 = .ok (.aload_n 0, 1) := by decide +kernel
theorem dL_law_267 : decode cL_law 267 = .ok (.iload_n 3, 1) := by decide +kernel
theorem dL_law_268 : decode cL_law 268 = .ok (.iconst 2, 1) := by decide +kernel
theorem dL_law_269 : decode cL_law 269 = .ok (.iadd, 1) := by decide +kernel
theorem dL_law_270 : decode cL_law 270 = .ok (.iaload, 1) := by decide +kernel
theorem dL_law_271 : decode cL_law 271 = .ok (.aload_n 0, 1) := by decide +kernel
theorem dL_law_272 : decode cL_law 272 = .ok (.iload_n 3, 1) := by decide +kernel
theorem dL_law_273 : decode cL_law 273 = .ok (.iconst 3, 1) := by decide +kernel
theorem dL_law_274 : decode cL_law 274 = .ok (.iadd, 1) := by decide +kernel
theorem dL_law_275 : decode cL_law 275 = .ok (.iaload, 1) := by decide +kernel
theorem dL_law_276 : decode cL_law 276 = .ok (.aload_n 0, 1) := by decide +kernel
theorem dL_law_277 : decode cL_law 277 = .ok (.iload_n 3, 1) := by decide +kernel
theorem dL_law_278 : decode cL_law 278 = .ok (.iconst 4, 1) := by decide +kernel
theorem dL_law_279 : decode cL_law 279 = .ok (.iadd, 1) := by decide +kernel
theorem dL_law_280 : decode cL_law 280 = .ok (.iaload, 1) := by decide +kernel
theorem dL_law_281 : decode cL_law 281 = .ok (.aload_n 0, 1) := by decide +kernel
theorem dL_law_282 : decode cL_law 282 = .ok (.iload_n 3, 1) := by decide +kernel
theorem dL_law_283 : decode cL_law 283 = .ok (.iconst 5, 1) := by decide +kernel
theorem dL_law_284 : decode cL_law 284 = .ok (.iadd, 1) := by decide +kernel
theorem dL_law_285 : decode cL_law 285 = .ok (.iaload, 1) := by decide +kernel
theorem dL_law_286 : decode cL_law 286 = .ok (.aload_n 0, 1) := by decide +kernel
theorem dL_law_287 : decode cL_law 287 = .ok (.iload_n 3, 1) := by decide +kernel
theorem dL_law_288 : decode cL_law 288 = .ok (.bipush 6, 2) := by decide +kernel
theorem dL_law_290 : decode cL_law 290 = .ok (.iadd, 1) := by decide +kernel
theorem dL_law_291 : decode cL_law 291 = .ok (.iaload, 1) := by decide +kernel
theorem tw_227 : Cond.methodLink RL 22 yX12_cell ∈ wsL_law := List.mem_of_getElem? (i := 227) (by decide +kernel)
theorem tw_228 : Cond.instanceMethod yX12_cell ∈ wsL_law := List.mem_of_getElem? (i := 228) (by decide +kernel)
theorem tw_229 : Cond.selects RX12 yX12_cell yX12_cell ∈ wsL_law := List.mem_of_getElem? (i := 229) (by decide +kernel)
theorem tw_230 : Cond.code yX12_cell cX12_cell 8 (some .int) ∈ wsL_law := List.mem_of_getElem? (i := 230) (by decide +kernel)
theorem dL_law_292 : decode cL_law 292 = .ok (.invokevirtual 22, 3) := by decide +kernel
theorem dL_law_295 : decode cL_law 295 = .ok (.if_icmp .eq 1430, 3) := by decide +kernel
theorem dL_law_300 : decode cL_law 300 = .ok (.aload_n 1, 1) := by decide +kernel
theorem dL_law_301 : decode cL_law 301 = .ok (.aload_n 0, 1) := by decide +kernel
theorem dL_law_302 : decode cL_law 302 = .ok (.iload_n 3, 1) := by decide +kernel
theorem dL_law_303 : decode cL_law 303 = .ok (.iconst 1, 1) := by decide +kernel
theorem dL_law_304 : decode cL_law 304 = .ok (.iadd, 1) := by decide +kernel
theorem dL_law_305 : decode cL_law 305 = .ok (.iaload, 1) := by decide +kernel
theorem dL_law_306 : decode cL_law 306 = .ok (.aload_n 0, 1) := by decide +kernel
theorem dL_law_307 : decode cL_law 307 = .ok (.iload_n 3, 1) := by decide +kernel
theorem dL_law_308 : decode cL_law 308 = .ok (.iconst 2, 1) := by decide +kernel
theorem dL_law_309 : decode cL_law 309 = .ok (.iadd, 1) := by decide +kernel
theorem dL_law_310 : decode cL_law 310 = .ok (.iaload, 1) := by decide +kernel
theorem dL_law_311 : decode cL_law 311 = .ok (.aload_n 0, 1) := by decide +kernel
theorem dL_law_312 : decode cL_law 312 = .ok (.iload_n 3, 1) := by decide +kernel
theorem dL_law_313 : decode cL_law 313 = .ok (.iconst 3, 1) := by decide +kernel
theorem dL_law_314 : decode cL_law 314 = .ok (.iadd, 1) := by decide +kernel
theorem dL_law_315 : decode cL_law 315 = .ok (.iaload, 1) := by decide +kernel
theorem dL_law_316 : decode cL_law 316 = .ok (.ifCond .eq 7, 3) := by decide +kernel
theorem dL_law_323 : decode cL_law 323 = .ok (.iconst 0, 1) := by decide +kernel
theorem dL_law_324 : decode cL_law 324 = .ok (.aload_n 0, 1) := by decide +kernel
theorem dL_law_325 : decode cL_law 325 = .ok (.iload_n 3, 1) := by decide +kernel
theorem dL_law_326 : decode cL_law 326 = .ok (.iconst 4, 1) := by decide +kernel
theorem dL_law_327 : decode cL_law 327 = .ok (.iadd, 1) := by decide +kernel
theorem dL_law_328 : decode cL_law 328 = .ok (.iaload, 1) := by decide +kernel
theorem tw_238 : Cond.methodLink RL 23 yX11_level ∈ wsL_law := List.mem_of_getElem? (i := 238) (by decide +kernel)
theorem tw_239 : Cond.instanceMethod yX11_level ∈ wsL_law := List.mem_of_getElem? (i := 239) (by decide +kernel)
theorem tw_240 : Cond.selects RX11 yX11_level yX11_level ∈ wsL_law := List.mem_of_getElem? (i := 240) (by decide +kernel)
theorem tw_241 : Cond.code yX11_level cX11_level 5 (some .int) ∈ wsL_law := List.mem_of_getElem? (i := 241) (by decide +kernel)
theorem dL_law_329 : decode cL_law 329 = .ok (.invokevirtual 23, 3) := by decide +kernel
theorem dL_law_332 : decode cL_law 332 = .ok (.aload_n 2, 1) := by decide +kernel
theorem dL_law_333 : decode cL_law 333 = .ok (.aload_n 0, 1) := by decide +kernel
theorem dL_law_334 : decode cL_law 334 = .ok (.iload_n 3, 1) := by decide +kernel
theorem dL_law_335 : decode cL_law 335 = .ok (.iconst 1, 1) := by decide +kernel
theorem dL_law_336 : decode cL_law 336 = .ok (.iadd, 1) := by decide +kernel
theorem dL_law_337 : decode cL_law 337 = .ok (.iaload, 1) := by decide +kernel
theorem dL_law_338 : decode cL_law 338 = .ok (.aload_n 0, 1) := by decide +kernel
theorem dL_law_339 : decode cL_law 339 = .ok (.iload_n 3, 1) := by decide +kernel
theorem dL_law_340 : decode cL_law 340 = .ok (.iconst 2, 1) := by decide +kernel
theorem dL_law_341 : decode cL_law 341 = .ok (.iadd, 1) := by decide +kernel
theorem dL_law_342 : decode cL_law 342 = .ok (.iaload, 1) := by decide +kernel
theorem dL_law_343 : decode cL_law 343 = .ok (.aload_n 0, 1) := by decide +kernel
theorem dL_law_344 : decode cL_law 344 = .ok (.iload_n 3, 1) := by decide +kernel
theorem dL_law_345 : decode cL_law 345 = .ok (.iconst 3, 1) := by decide +kernel
theorem dL_law_346 : decode cL_law 346 = .ok (.iadd, 1) := by decide +kernel
theorem dL_law_347 : decode cL_law 347 = .ok (.iaload, 1) := by decide +kernel
theorem dL_law_348 : decode cL_law 348 = .ok (.ifCond .eq 7, 3) := by decide +kernel
theorem dL_law_355 : decode cL_law 355 = .ok (.iconst 0, 1) := by decide +kernel
theorem dL_law_356 : decode cL_law 356 = .ok (.aload_n 0, 1) := by decide +kernel
theorem dL_law_357 : decode cL_law 357 = .ok (.iload_n 3, 1) := by decide +kernel
theorem dL_law_358 : decode cL_law 358 = .ok (.iconst 4, 1) := by decide +kernel
theorem dL_law_359 : decode cL_law 359 = .ok (.iadd, 1) := by decide +kernel
theorem dL_law_360 : decode cL_law 360 = .ok (.iaload, 1) := by decide +kernel
theorem tw_255 : Cond.methodLink RL 27 yX12_level ∈ wsL_law := List.mem_of_getElem? (i := 255) (by decide +kernel)
theorem tw_256 : Cond.instanceMethod yX12_level ∈ wsL_law := List.mem_of_getElem? (i := 256) (by decide +kernel)
theorem tw_257 : Cond.selects RX12 yX12_level yX12_level ∈ wsL_law := List.mem_of_getElem? (i := 257) (by decide +kernel)
theorem tw_258 : Cond.code yX12_level cX12_level 6 (some .int) ∈ wsL_law := List.mem_of_getElem? (i := 258) (by decide +kernel)
theorem dL_law_361 : decode cL_law 361 = .ok (.invokevirtual 27, 3) := by decide +kernel
theorem dL_law_364 : decode cL_law 364 = .ok (.if_icmp .eq 1361, 3) := by decide +kernel
theorem dL_law_319 : decode cL_law 319 = .ok (.iconst 1, 1) := by decide +kernel
theorem dL_law_320 : decode cL_law 320 = .ok (.goto 4, 3) := by decide +kernel
theorem dL_law_351 : decode cL_law 351 = .ok (.iconst 1, 1) := by decide +kernel
theorem dL_law_352 : decode cL_law 352 = .ok (.goto 4, 3) := by decide +kernel
theorem dL_law_369 : decode cL_law 369 = .ok (.aload_n 1, 1) := by decide +kernel
theorem dL_law_370 : decode cL_law 370 = .ok (.aload_n 0, 1) := by decide +kernel
theorem dL_law_371 : decode cL_law 371 = .ok (.iload_n 3, 1) := by decide +kernel
theorem dL_law_372 : decode cL_law 372 = .ok (.iconst 1, 1) := by decide +kernel
theorem dL_law_373 : decode cL_law 373 = .ok (.iadd, 1) := by decide +kernel
theorem dL_law_374 : decode cL_law 374 = .ok (.iaload, 1) := by decide +kernel
theorem dL_law_375 : decode cL_law 375 = .ok (.aload_n 0, 1) := by decide +kernel
theorem dL_law_376 : decode cL_law 376 = .ok (.iload_n 3, 1) := by decide +kernel
theorem dL_law_377 : decode cL_law 377 = .ok (.iconst 2, 1) := by decide +kernel
theorem dL_law_378 : decode cL_law 378 = .ok (.iadd, 1) := by decide +kernel
theorem dL_law_379 : decode cL_law 379 = .ok (.iaload, 1) := by decide +kernel
theorem dL_law_380 : decode cL_law 380 = .ok (.aload_n 0, 1) := by decide +kernel
theorem dL_law_381 : decode cL_law 381 = .ok (.iload_n 3, 1) := by decide +kernel
theorem dL_law_382 : decode cL_law 382 = .ok (.iconst 3, 1) := by decide +kernel
theorem dL_law_383 : decode cL_law 383 = .ok (.iadd, 1) := by decide +kernel
theorem dL_law_384 : decode cL_law 384 = .ok (.iaload, 1) := by decide +kernel
theorem tw_265 : Cond.methodLink RL 28 yX11_levelOf ∈ wsL_law := List.mem_of_getElem? (i := 265) (by decide +kernel)
theorem tw_266 : Cond.instanceMethod yX11_levelOf ∈ wsL_law := List.mem_of_getElem? (i := 266) (by decide +kernel)
theorem tw_267 : Cond.selects RX11 yX11_levelOf yX11_levelOf ∈ wsL_law := List.mem_of_getElem? (i := 267) (by decide +kernel)
theorem tw_268 : Cond.code yX11_levelOf cX11_levelOf 4 (some .int) ∈ wsL_law := List.mem_of_getElem? (i := 268) (by decide +kernel)
theorem dL_law_385 : decode cL_law 385 = .ok (.invokevirtual 28, 3) := by decide +kernel
theorem dL_law_388 : decode cL_law 388 = .ok (.aload_n 2, 1) := by decide +kernel
theorem dL_law_389 : decode cL_law 389 = .ok (.aload_n 0, 1) := by decide +kernel
theorem dL_law_390 : decode cL_law 390 = .ok (.iload_n 3, 1) := by decide +kernel
theorem dL_law_391 : decode cL_law 391 = .ok (.iconst 1, 1) := by decide +kernel
theorem dL_law_392 : decode cL_law 392 = .ok (.iadd, 1) := by decide +kernel
theorem dL_law_393 : decode cL_law 393 = .ok (.iaload, 1) := by decide +kernel
theorem dL_law_394 : decode cL_law 394 = .ok (.aload_n 0, 1) := by decide +kernel
theorem dL_law_395 : decode cL_law 395 = .ok (.iload_n 3, 1) := by decide +kernel
theorem dL_law_396 : decode cL_law 396 = .ok (.iconst 2, 1) := by decide +kernel
theorem dL_law_397 : decode cL_law 397 = .ok (.iadd, 1) := by decide +kernel
theorem dL_law_398 : decode cL_law 398 = .ok (.iaload, 1) := by decide +kernel
theorem dL_law_399 : decode cL_law 399 = .ok (.aload_n 0, 1) := by decide +kernel
theorem dL_law_400 : decode cL_law 400 = .ok (.iload_n 3, 1) := by decide +kernel
theorem dL_law_401 : decode cL_law 401 = .ok (.iconst 3, 1) := by decide +kernel
theorem dL_law_402 : decode cL_law 402 = .ok (.iadd, 1) := by decide +kernel
theorem dL_law_403 : decode cL_law 403 = .ok (.iaload, 1) := by decide +kernel
theorem tw_284 : Cond.methodLink RL 32 yX12_levelOf ∈ wsL_law := List.mem_of_getElem? (i := 284) (by decide +kernel)
theorem tw_285 : Cond.instanceMethod yX12_levelOf ∈ wsL_law := List.mem_of_getElem? (i := 285) (by decide +kernel)
theorem tw_286 : Cond.selects RX12 yX12_levelOf yX12_levelOf ∈ wsL_law := List.mem_of_getElem? (i := 286) (by decide +kernel)
theorem tw_287 : Cond.code yX12_levelOf cX12_levelOf 4 (some .int) ∈ wsL_law := List.mem_of_getElem? (i := 287) (by decide +kernel)
theorem dL_law_404 : decode cL_law 404 = .ok (.invokevirtual 32, 3) := by decide +kernel
theorem dL_law_407 : decode cL_law 407 = .ok (.if_icmp .eq 1318, 3) := by decide +kernel
theorem dL_law_412 : decode cL_law 412 = .ok (.aload_n 1, 1) := by decide +kernel
theorem dL_law_413 : decode cL_law 413 = .ok (.aload_n 0, 1) := by decide +kernel
theorem dL_law_414 : decode cL_law 414 = .ok (.iload_n 3, 1) := by decide +kernel
theorem dL_law_415 : decode cL_law 415 = .ok (.iconst 1, 1) := by decide +kernel
theorem dL_law_416 : decode cL_law 416 = .ok (.iadd, 1) := by decide +kernel
theorem dL_law_417 : decode cL_law 417 = .ok (.iaload, 1) := by decide +kernel
theorem dL_law_418 : decode cL_law 418 = .ok (.aload_n 0, 1) := by decide +kernel
theorem dL_law_419 : decode cL_law 419 = .ok (.iload_n 3, 1) := by decide +kernel
theorem dL_law_420 : decode cL_law 420 = .ok (.iconst 2, 1) := by decide +kernel
theorem dL_law_421 : decode cL_law 421 = .ok (.iadd, 1) := by decide +kernel
theorem dL_law_422 : decode cL_law 422 = .ok (.iaload, 1) := by decide +kernel
theorem dL_law_423 : decode cL_law 423 = .ok (.aload_n 0, 1) := by decide +kernel
theorem dL_law_424 : decode cL_law 424 = .ok (.iload_n 3, 1) := by decide +kernel
theorem dL_law_425 : decode cL_law 425 = .ok (.iconst 3, 1) := by decide +kernel
theorem dL_law_426 : decode cL_law 426 = .ok (.iadd, 1) := by decide +kernel
theorem dL_law_427 : decode cL_law 427 = .ok (.iaload, 1) := by decide +kernel
theorem dL_law_428 : decode cL_law 428 = .ok (.aload_n 0, 1) := by decide +kernel
theorem dL_law_429 : decode cL_law 429 = .ok (.iload_n 3, 1) := by decide +kernel
theorem dL_law_430 : decode cL_law 430 = .ok (.iconst 4, 1) := by decide +kernel
theorem dL_law_431 : decode cL_law 431 = .ok (.iadd, 1) := by decide +kernel
theorem dL_law_432 : decode cL_law 432 = .ok (.iaload, 1) := by decide +kernel
theorem dL_law_433 : decode cL_law 433 = .ok (.aload_n 0, 1) := by decide +kernel
theorem dL_law_434 : decode cL_law 434 = .ok (.iload_n 3, 1) := by decide +kernel
theorem dL_law_435 : decode cL_law 435 = .ok (.iconst 5, 1) := by decide +kernel
theorem dL_law_436 : decode cL_law 436 = .ok (.iadd, 1) := by decide +kernel
theorem dL_law_437 : decode cL_law 437 = .ok (.iaload, 1) := by decide +kernel
theorem dL_law_438 : decode cL_law 438 = .ok (.aload_n 0, 1) := by decide +kernel
theorem dL_law_439 : decode cL_law 439 = .ok (.iload_n 3, 1) := by decide +kernel
theorem dL_law_440 : decode cL_law 440 = .ok (.bipush 6, 2) := by decide +kernel
theorem dL_law_442 : decode cL_law 442 = .ok (.iadd, 1) := by decide +kernel
theorem dL_law_443 : decode cL_law 443 = .ok (.iaload, 1) := by decide +kernel
theorem tw_301 : Cond.methodLink RL 33 yX11_table ∈ wsL_law := List.mem_of_getElem? (i := 301) (by decide +kernel)
theorem tw_302 : Cond.instanceMethod yX11_table ∈ wsL_law := List.mem_of_getElem? (i := 302) (by decide +kernel)
theorem tw_303 : Cond.selects RX11 yX11_table yX11_table ∈ wsL_law := List.mem_of_getElem? (i := 303) (by decide +kernel)
theorem tw_304 : Cond.code yX11_table cX11_table 9 (some .boolean) ∈ wsL_law := List.mem_of_getElem? (i := 304) (by decide +kernel)
theorem dL_law_444 : decode cL_law 444 = .ok (.invokevirtual 33, 3) := by decide +kernel
theorem dL_law_447 : decode cL_law 447 = .ok (.aload_n 2, 1) := by decide +kernel
theorem dL_law_448 : decode cL_law 448 = .ok (.aload_n 0, 1) := by decide +kernel
theorem dL_law_449 : decode cL_law 449 = .ok (.iload_n 3, 1) := by decide +kernel
theorem dL_law_450 : decode cL_law 450 = .ok (.iconst 1, 1) := by decide +kernel
theorem dL_law_451 : decode cL_law 451 = .ok (.iadd, 1) := by decide +kernel
theorem dL_law_452 : decode cL_law 452 = .ok (.iaload, 1) := by decide +kernel
theorem dL_law_453 : decode cL_law 453 = .ok (.aload_n 0, 1) := by decide +kernel
theorem dL_law_454 : decode cL_law 454 = .ok (.iload_n 3, 1) := by decide +kernel
theorem dL_law_455 : decode cL_law 455 = .ok (.iconst 2, 1) := by decide +kernel
theorem dL_law_456 : decode cL_law 456 = .ok (.iadd, 1) := by decide +kernel
theorem dL_law_457 : decode cL_law 457 = .ok (.iaload, 1) := by decide +kernel
theorem dL_law_458 : decode cL_law 458 = .ok (.aload_n 0, 1) := by decide +kernel
theorem dL_law_459 : decode cL_law 459 = .ok (.iload_n 3, 1) := by decide +kernel
theorem dL_law_460 : decode cL_law 460 = .ok (.iconst 3, 1) := by decide +kernel
theorem dL_law_461 : decode cL_law 461 = .ok (.iadd, 1) := by decide +kernel
theorem dL_law_462 : decode cL_law 462 = .ok (.iaload, 1) := by decide +kernel
theorem dL_law_463 : decode cL_law 463 = .ok (.aload_n 0, 1) := by decide +kernel
theorem dL_law_464 : decode cL_law 464 = .ok (.iload_n 3, 1) := by decide +kernel
theorem dL_law_465 : decode cL_law 465 = .ok (.iconst 4, 1) := by decide +kernel
theorem dL_law_466 : decode cL_law 466 = .ok (.iadd, 1) := by decide +kernel
theorem dL_law_467 : decode cL_law 467 = .ok (.iaload, 1) := by decide +kernel
theorem dL_law_468 : decode cL_law 468 = .ok (.aload_n 0, 1) := by decide +kernel
theorem dL_law_469 : decode cL_law 469 = .ok (.iload_n 3, 1) := by decide +kernel
theorem dL_law_470 : decode cL_law 470 = .ok (.iconst 5, 1) := by decide +kernel
theorem dL_law_471 : decode cL_law 471 = .ok (.iadd, 1) := by decide +kernel
theorem dL_law_472 : decode cL_law 472 = .ok (.iaload, 1) := by decide +kernel
theorem dL_law_473 : decode cL_law 473 = .ok (.aload_n 0, 1) := by decide +kernel
theorem dL_law_474 : decode cL_law 474 = .ok (.iload_n 3, 1) := by decide +kernel
theorem dL_law_475 : decode cL_law 475 = .ok (.bipush 6, 2) := by decide +kernel
theorem dL_law_477 : decode cL_law 477 = .ok (.iadd, 1) := by decide +kernel
theorem dL_law_478 : decode cL_law 478 = .ok (.iaload, 1) := by decide +kernel
theorem tw_310 : Cond.methodLink RL 37 yX12_table ∈ wsL_law := List.mem_of_getElem? (i := 310) (by decide +kernel)
theorem tw_311 : Cond.instanceMethod yX12_table ∈ wsL_law := List.mem_of_getElem? (i := 311) (by decide +kernel)
theorem tw_312 : Cond.selects RX12 yX12_table yX12_table ∈ wsL_law := List.mem_of_getElem? (i := 312) (by decide +kernel)
theorem tw_313 : Cond.code yX12_table cX12_table 8 (some .boolean) ∈ wsL_law := List.mem_of_getElem? (i := 313) (by decide +kernel)
theorem dL_law_479 : decode cL_law 479 = .ok (.invokevirtual 37, 3) := by decide +kernel
theorem dL_law_482 : decode cL_law 482 = .ok (.if_icmp .eq 1243, 3) := by decide +kernel
theorem dL_law_487 : decode cL_law 487 = .ok (.aload_n 1, 1) := by decide +kernel
theorem dL_law_488 : decode cL_law 488 = .ok (.aload_n 0, 1) := by decide +kernel
theorem dL_law_489 : decode cL_law 489 = .ok (.iload_n 3, 1) := by decide +kernel
theorem dL_law_490 : decode cL_law 490 = .ok (.iconst 1, 1) := by decide +kernel
theorem dL_law_491 : decode cL_law 491 = .ok (.iadd, 1) := by decide +kernel
theorem dL_law_492 : decode cL_law 492 = .ok (.iaload, 1) := by decide +kernel
theorem dL_law_493 : decode cL_law 493 = .ok (.aload_n 0, 1) := by decide +kernel
theorem dL_law_494 : decode cL_law 494 = .ok (.iload_n 3, 1) := by decide +kernel
theorem dL_law_495 : decode cL_law 495 = .ok (.iconst 2, 1) := by decide +kernel
theorem dL_law_496 : decode cL_law 496 = .ok (.iadd, 1) := by decide +kernel
theorem dL_law_497 : decode cL_law 497 = .ok (.iaload, 1) := by decide +kernel
theorem dL_law_498 : decode cL_law 498 = .ok (.aload_n 0, 1) := by decide +kernel
theorem dL_law_499 : decode cL_law 499 = .ok (.iload_n 3, 1) := by decide +kernel
theorem dL_law_500 : decode cL_law 500 = .ok (.iconst 3, 1) := by decide +kernel
theorem dL_law_501 : decode cL_law 501 = .ok (.iadd, 1) := by decide +kernel
theorem dL_law_502 : decode cL_law 502 = .ok (.iaload, 1) := by decide +kernel
theorem dL_law_503 : decode cL_law 503 = .ok (.aload_n 0, 1) := by decide +kernel
theorem dL_law_504 : decode cL_law 504 = .ok (.iload_n 3, 1) := by decide +kernel
theorem dL_law_505 : decode cL_law 505 = .ok (.iconst 4, 1) := by decide +kernel
theorem dL_law_506 : decode cL_law 506 = .ok (.iadd, 1) := by decide +kernel
theorem dL_law_507 : decode cL_law 507 = .ok (.iaload, 1) := by decide +kernel
theorem dL_law_508 : decode cL_law 508 = .ok (.aload_n 0, 1) := by decide +kernel
theorem dL_law_509 : decode cL_law 509 = .ok (.iload_n 3, 1) := by decide +kernel
theorem dL_law_510 : decode cL_law 510 = .ok (.iconst 5, 1) := by decide +kernel
theorem dL_law_511 : decode cL_law 511 = .ok (.iadd, 1) := by decide +kernel
theorem dL_law_512 : decode cL_law 512 = .ok (.iaload, 1) := by decide +kernel
theorem tw_314 : Cond.methodLink RL 38 yX11_rules ∈ wsL_law := List.mem_of_getElem? (i := 314) (by decide +kernel)
theorem tw_315 : Cond.instanceMethod yX11_rules ∈ wsL_law := List.mem_of_getElem? (i := 315) (by decide +kernel)
theorem tw_316 : Cond.selects RX11 yX11_rules yX11_rules ∈ wsL_law := List.mem_of_getElem? (i := 316) (by decide +kernel)
theorem tw_317 : Cond.code yX11_rules cX11_rules 8 (some .boolean) ∈ wsL_law := List.mem_of_getElem? (i := 317) (by decide +kernel)
theorem dL_law_513 : decode cL_law 513 = .ok (.invokevirtual 38, 3) := by decide +kernel
theorem dL_law_516 : decode cL_law 516 = .ok (.aload_n 2, 1) := by decide +kernel
theorem dL_law_517 : decode cL_law 517 = .ok (.aload_n 0, 1) := by decide +kernel
theorem dL_law_518 : decode cL_law 518 = .ok (.iload_n 3, 1) := by decide +kernel
theorem dL_law_519 : decode cL_law 519 = .ok (.iconst 1, 1) := by decide +kernel
theorem dL_law_520 : decode cL_law 520 = .ok (.iadd, 1) := by decide +kernel
theorem dL_law_521 : decode cL_law 521 = .ok (.iaload, 1) := by decide +kernel
theorem dL_law_522 : decode cL_law 522 = .ok (.aload_n 0, 1) := by decide +kernel
theorem dL_law_523 : decode cL_law 523 = .ok (.iload_n 3, 1) := by decide +kernel
theorem dL_law_524 : decode cL_law 524 = .ok (.iconst 2, 1) := by decide +kernel
theorem dL_law_525 : decode cL_law 525 = .ok (.iadd, 1) := by decide +kernel
theorem dL_law_526 : decode cL_law 526 = .ok (.iaload, 1) := by decide +kernel
theorem dL_law_527 : decode cL_law 527 = .ok (.aload_n 0, 1) := by decide +kernel
theorem dL_law_528 : decode cL_law 528 = .ok (.iload_n 3, 1) := by decide +kernel
theorem dL_law_529 : decode cL_law 529 = .ok (.iconst 3, 1) := by decide +kernel
theorem dL_law_530 : decode cL_law 530 = .ok (.iadd, 1) := by decide +kernel
theorem dL_law_531 : decode cL_law 531 = .ok (.iaload, 1) := by decide +kernel
theorem dL_law_532 : decode cL_law 532 = .ok (.aload_n 0, 1) := by decide +kernel
theorem dL_law_533 : decode cL_law 533 = .ok (.iload_n 3, 1) := by decide +kernel
theorem dL_law_534 : decode cL_law 534 = .ok (.iconst 4, 1) := by decide +kernel
theorem dL_law_535 : decode cL_law 535 = .ok (.iadd, 1) := by decide +kernel
theorem dL_law_536 : decode cL_law 536 = .ok (.iaload, 1) := by decide +kernel
theorem dL_law_537 : decode cL_law 537 = .ok (.aload_n 0, 1) := by decide +kernel
theorem dL_law_538 : decode cL_law 538 = .ok (.iload_n 3, 1) := by decide +kernel
theorem dL_law_539 : decode cL_law 539 = .ok (.iconst 5, 1) := by decide +kernel
theorem dL_law_540 : decode cL_law 540 = .ok (.iadd, 1) := by decide +kernel
theorem dL_law_541 : decode cL_law 541 = .ok (.iaload, 1) := by decide +kernel
theorem tw_323 : Cond.methodLink RL 42 yX12_rules ∈ wsL_law := List.mem_of_getElem? (i := 323) (by decide +kernel)
theorem tw_324 : Cond.instanceMethod yX12_rules ∈ wsL_law := List.mem_of_getElem? (i := 324) (by decide +kernel)
theorem tw_325 : Cond.selects RX12 yX12_rules yX12_rules ∈ wsL_law := List.mem_of_getElem? (i := 325) (by decide +kernel)
theorem tw_326 : Cond.code yX12_rules cX12_rules 6 (some .boolean) ∈ wsL_law := List.mem_of_getElem? (i := 326) (by decide +kernel)
theorem dL_law_542 : decode cL_law 542 = .ok (.invokevirtual 42, 3) := by decide +kernel
theorem dL_law_545 : decode cL_law 545 = .ok (.if_icmp .eq 1180, 3) := by decide +kernel
theorem dL_law_550 : decode cL_law 550 = .ok (.aload_n 1, 1) := by decide +kernel
theorem dL_law_551 : decode cL_law 551 = .ok (.aload_n 0, 1) := by decide +kernel
theorem dL_law_552 : decode cL_law 552 = .ok (.iload_n 3, 1) := by decide +kernel
theorem dL_law_553 : decode cL_law 553 = .ok (.iconst 1, 1) := by decide +kernel
theorem dL_law_554 : decode cL_law 554 = .ok (.iadd, 1) := by decide +kernel
theorem dL_law_555 : decode cL_law 555 = .ok (.iaload, 1) := by decide +kernel
theorem dL_law_556 : decode cL_law 556 = .ok (.aload_n 0, 1) := by decide +kernel
theorem dL_law_557 : decode cL_law 557 = .ok (.iload_n 3, 1) := by decide +kernel
theorem dL_law_558 : decode cL_law 558 = .ok (.iconst 2, 1) := by decide +kernel
theorem dL_law_559 : decode cL_law 559 = .ok (.iadd, 1) := by decide +kernel
theorem dL_law_560 : decode cL_law 560 = .ok (.iaload, 1) := by decide +kernel
theorem tw_327 : Cond.methodLink RL 43 yX11_wall ∈ wsL_law := List.mem_of_getElem? (i := 327) (by decide +kernel)
theorem tw_328 : Cond.instanceMethod yX11_wall ∈ wsL_law := List.mem_of_getElem? (i := 328) (by decide +kernel)
theorem tw_329 : Cond.selects RX11 yX11_wall yX11_wall ∈ wsL_law := List.mem_of_getElem? (i := 329) (by decide +kernel)
theorem tw_330 : Cond.code yX11_wall cX11_wall 3 (some .boolean) ∈ wsL_law := List.mem_of_getElem? (i := 330) (by decide +kernel)
theorem dL_law_561 : decode cL_law 561 = .ok (.invokevirtual 43, 3) := by decide +kernel
theorem dL_law_564 : decode cL_law 564 = .ok (.aload_n 2, 1) := by decide +kernel
theorem dL_law_565 : decode cL_law 565 = .ok (.aload_n 0, 1) := by decide +kernel
theorem dL_law_566 : decode cL_law 566 = .ok (.iload_n 3, 1) := by decide +kernel
theorem dL_law_567 : decode cL_law 567 = .ok (.iconst 1, 1) := by decide +kernel
theorem dL_law_568 : decode cL_law 568 = .ok (.iadd, 1) := by decide +kernel
theorem dL_law_569 : decode cL_law 569 = .ok (.iaload, 1) := by decide +kernel
theorem dL_law_570 : decode cL_law 570 = .ok (.aload_n 0, 1) := by decide +kernel
theorem dL_law_571 : decode cL_law 571 = .ok (.iload_n 3, 1) := by decide +kernel
theorem dL_law_572 : decode cL_law 572 = .ok (.iconst 2, 1) := by decide +kernel
theorem dL_law_573 : decode cL_law 573 = .ok (.iadd, 1) := by decide +kernel
theorem dL_law_574 : decode cL_law 574 = .ok (.iaload, 1) := by decide +kernel
theorem tw_336 : Cond.methodLink RL 47 yX12_wall ∈ wsL_law := List.mem_of_getElem? (i := 336) (by decide +kernel)
theorem tw_337 : Cond.instanceMethod yX12_wall ∈ wsL_law := List.mem_of_getElem? (i := 337) (by decide +kernel)
theorem tw_338 : Cond.selects RX12 yX12_wall yX12_wall ∈ wsL_law := List.mem_of_getElem? (i := 338) (by decide +kernel)
theorem tw_339 : Cond.code yX12_wall cX12_wall 3 (some .boolean) ∈ wsL_law := List.mem_of_getElem? (i := 339) (by decide +kernel)
theorem dL_law_575 : decode cL_law 575 = .ok (.invokevirtual 47, 3) := by decide +kernel
theorem dL_law_578 : decode cL_law 578 = .ok (.if_icmp .eq 1147, 3) := by decide +kernel
theorem dL_law_583 : decode cL_law 583 = .ok (.aload_n 1, 1) := by decide +kernel
theorem dL_law_584 : decode cL_law 584 = .ok (.aload_n 0, 1) := by decide +kernel
theorem dL_law_585 : decode cL_law 585 = .ok (.iload_n 3, 1) := by decide +kernel
theorem dL_law_586 : decode cL_law 586 = .ok (.iconst 1, 1) := by decide +kernel
theorem dL_law_587 : decode cL_law 587 = .ok (.iadd, 1) := by decide +kernel
theorem dL_law_588 : decode cL_law 588 = .ok (.iaload, 1) := by decide +kernel
theorem dL_law_589 : decode cL_law 589 = .ok (.aload_n 0, 1) := by decide +kernel
theorem dL_law_590 : decode cL_law 590 = .ok (.iload_n 3, 1) := by decide +kernel
theorem dL_law_591 : decode cL_law 591 = .ok (.iconst 2, 1) := by decide +kernel
theorem dL_law_592 : decode cL_law 592 = .ok (.iadd, 1) := by decide +kernel
theorem dL_law_593 : decode cL_law 593 = .ok (.iaload, 1) := by decide +kernel
theorem dL_law_594 : decode cL_law 594 = .ok (.aload_n 0, 1) := by decide +kernel
theorem dL_law_595 : decode cL_law 595 = .ok (.iload_n 3, 1) := by decide +kernel
theorem dL_law_596 : decode cL_law 596 = .ok (.iconst 3, 1) := by decide +kernel
theorem dL_law_597 : decode cL_law 597 = .ok (.iadd, 1) := by decide +kernel
theorem dL_law_598 : decode cL_law 598 = .ok (.iaload, 1) := by decide +kernel
theorem dL_law_599 : decode cL_law 599 = .ok (.aload_n 0, 1) := by decide +kernel
theorem dL_law_600 : decode cL_law 600 = .ok (.iload_n 3, 1) := by decide +kernel
theorem dL_law_601 : decode cL_law 601 = .ok (.iconst 4, 1) := by decide +kernel
theorem dL_law_602 : decode cL_law 602 = .ok (.iadd, 1) := by decide +kernel
theorem dL_law_603 : decode cL_law 603 = .ok (.iaload, 1) := by decide +kernel
theorem tw_344 : Cond.methodLink RL 48 yX11_well ∈ wsL_law := List.mem_of_getElem? (i := 344) (by decide +kernel)
theorem tw_345 : Cond.instanceMethod yX11_well ∈ wsL_law := List.mem_of_getElem? (i := 345) (by decide +kernel)
theorem tw_346 : Cond.selects RX11 yX11_well yX11_well ∈ wsL_law := List.mem_of_getElem? (i := 346) (by decide +kernel)
theorem tw_347 : Cond.code yX11_well cX11_well 6 (some .boolean) ∈ wsL_law := List.mem_of_getElem? (i := 347) (by decide +kernel)
theorem dL_law_604 : decode cL_law 604 = .ok (.invokevirtual 48, 3) := by decide +kernel
theorem dL_law_607 : decode cL_law 607 = .ok (.aload_n 2, 1) := by decide +kernel
theorem dL_law_608 : decode cL_law 608 = .ok (.aload_n 0, 1) := by decide +kernel
theorem dL_law_609 : decode cL_law 609 = .ok (.iload_n 3, 1) := by decide +kernel
theorem dL_law_610 : decode cL_law 610 = .ok (.iconst 1, 1) := by decide +kernel
theorem dL_law_611 : decode cL_law 611 = .ok (.iadd, 1) := by decide +kernel
theorem dL_law_612 : decode cL_law 612 = .ok (.iaload, 1) := by decide +kernel
theorem dL_law_613 : decode cL_law 613 = .ok (.aload_n 0, 1) := by decide +kernel
theorem dL_law_614 : decode cL_law 614 = .ok (.iload_n 3, 1) := by decide +kernel
theorem dL_law_615 : decode cL_law 615 = .ok (.iconst 2, 1) := by decide +kernel
theorem dL_law_616 : decode cL_law 616 = .ok (.iadd, 1) := by decide +kernel
theorem dL_law_617 : decode cL_law 617 = .ok (.iaload, 1) := by decide +kernel
theorem dL_law_618 : decode cL_law 618 = .ok (.aload_n 0, 1) := by decide +kernel
theorem dL_law_619 : decode cL_law 619 = .ok (.iload_n 3, 1) := by decide +kernel
theorem dL_law_620 : decode cL_law 620 = .ok (.iconst 3, 1) := by decide +kernel
theorem dL_law_621 : decode cL_law 621 = .ok (.iadd, 1) := by decide +kernel
theorem dL_law_622 : decode cL_law 622 = .ok (.iaload, 1) := by decide +kernel
theorem dL_law_623 : decode cL_law 623 = .ok (.aload_n 0, 1) := by decide +kernel
theorem dL_law_624 : decode cL_law 624 = .ok (.iload_n 3, 1) := by decide +kernel
theorem dL_law_625 : decode cL_law 625 = .ok (.iconst 4, 1) := by decide +kernel
theorem dL_law_626 : decode cL_law 626 = .ok (.iadd, 1) := by decide +kernel
theorem dL_law_627 : decode cL_law 627 = .ok (.iaload, 1) := by decide +kernel
theorem tw_357 : Cond.methodLink RL 52 yX12_well ∈ wsL_law := List.mem_of_getElem? (i := 357) (by decide +kernel)
theorem tw_358 : Cond.instanceMethod yX12_well ∈ wsL_law := List.mem_of_getElem? (i := 358) (by decide +kernel)
theorem tw_359 : Cond.selects RX12 yX12_well yX12_well ∈ wsL_law := List.mem_of_getElem? (i := 359) (by decide +kernel)
theorem tw_360 : Cond.code yX12_well cX12_well 6 (some .boolean) ∈ wsL_law := List.mem_of_getElem? (i := 360) (by decide +kernel)
theorem dL_law_628 : decode cL_law 628 = .ok (.invokevirtual 52, 3) := by decide +kernel
theorem dL_law_631 : decode cL_law 631 = .ok (.if_icmp .eq 1094, 3) := by decide +kernel
theorem dL_law_636 : decode cL_law 636 = .ok (.aload_n 1, 1) := by decide +kernel
theorem dL_law_637 : decode cL_law 637 = .ok (.aload_n 0, 1) := by decide +kernel
theorem dL_law_638 : decode cL_law 638 = .ok (.iload_n 3, 1) := by decide +kernel
theorem dL_law_639 : decode cL_law 639 = .ok (.iconst 1, 1) := by decide +kernel
theorem dL_law_640 : decode cL_law 640 = .ok (.iadd, 1) := by decide +kernel
theorem dL_law_641 : decode cL_law 641 = .ok (.iaload, 1) := by decide +kernel
theorem dL_law_642 : decode cL_law 642 = .ok (.aload_n 0, 1) := by decide +kernel
theorem dL_law_643 : decode cL_law 643 = .ok (.iload_n 3, 1) := by decide +kernel
theorem dL_law_644 : decode cL_law 644 = .ok (.iconst 2, 1) := by decide +kernel
theorem dL_law_645 : decode cL_law 645 = .ok (.iadd, 1) := by decide +kernel
theorem dL_law_646 : decode cL_law 646 = .ok (.iaload, 1) := by decide +kernel
theorem tw_365 : Cond.methodLink RL 53 yX11_beds ∈ wsL_law := List.mem_of_getElem? (i := 365) (by decide +kernel)
theorem tw_366 : Cond.instanceMethod yX11_beds ∈ wsL_law := List.mem_of_getElem? (i := 366) (by decide +kernel)
theorem tw_367 : Cond.selects RX11 yX11_beds yX11_beds ∈ wsL_law := List.mem_of_getElem? (i := 367) (by decide +kernel)
theorem tw_368 : Cond.code yX11_beds cX11_beds 5 (some .int) ∈ wsL_law := List.mem_of_getElem? (i := 368) (by decide +kernel)
theorem dL_law_647 : decode cL_law 647 = .ok (.invokevirtual 53, 3) := by decide +kernel
theorem dL_law_650 : decode cL_law 650 = .ok (.aload_n 2, 1) := by decide +kernel
theorem dL_law_651 : decode cL_law 651 = .ok (.aload_n 0, 1) := by decide +kernel
theorem dL_law_652 : decode cL_law 652 = .ok (.iload_n 3, 1) := by decide +kernel
theorem dL_law_653 : decode cL_law 653 = .ok (.iconst 1, 1) := by decide +kernel
theorem dL_law_654 : decode cL_law 654 = .ok (.iadd, 1) := by decide +kernel
theorem dL_law_655 : decode cL_law 655 = .ok (.iaload, 1) := by decide +kernel
theorem dL_law_656 : decode cL_law 656 = .ok (.aload_n 0, 1) := by decide +kernel
theorem dL_law_657 : decode cL_law 657 = .ok (.iload_n 3, 1) := by decide +kernel
theorem dL_law_658 : decode cL_law 658 = .ok (.iconst 2, 1) := by decide +kernel
theorem dL_law_659 : decode cL_law 659 = .ok (.iadd, 1) := by decide +kernel
theorem dL_law_660 : decode cL_law 660 = .ok (.iaload, 1) := by decide +kernel
theorem tw_371 : Cond.methodLink RL 57 yX12_beds ∈ wsL_law := List.mem_of_getElem? (i := 371) (by decide +kernel)
theorem tw_372 : Cond.instanceMethod yX12_beds ∈ wsL_law := List.mem_of_getElem? (i := 372) (by decide +kernel)
theorem tw_373 : Cond.selects RX12 yX12_beds yX12_beds ∈ wsL_law := List.mem_of_getElem? (i := 373) (by decide +kernel)
theorem tw_374 : Cond.code yX12_beds cX12_beds 3 (some .int) ∈ wsL_law := List.mem_of_getElem? (i := 374) (by decide +kernel)
theorem dL_law_661 : decode cL_law 661 = .ok (.invokevirtual 57, 3) := by decide +kernel
theorem dL_law_664 : decode cL_law 664 = .ok (.if_icmp .eq 1061, 3) := by decide +kernel
theorem dL_law_669 : decode cL_law 669 = .ok (.aload_n 1, 1) := by decide +kernel
theorem dL_law_670 : decode cL_law 670 = .ok (.aload_n 0, 1) := by decide +kernel
theorem dL_law_671 : decode cL_law 671 = .ok (.iload_n 3, 1) := by decide +kernel
theorem dL_law_672 : decode cL_law 672 = .ok (.iconst 1, 1) := by decide +kernel
theorem dL_law_673 : decode cL_law 673 = .ok (.iadd, 1) := by decide +kernel
theorem dL_law_674 : decode cL_law 674 = .ok (.iaload, 1) := by decide +kernel
theorem tw_375 : Cond.methodLink RL 58 yX11_lot ∈ wsL_law := List.mem_of_getElem? (i := 375) (by decide +kernel)
theorem tw_376 : Cond.instanceMethod yX11_lot ∈ wsL_law := List.mem_of_getElem? (i := 376) (by decide +kernel)
theorem tw_377 : Cond.selects RX11 yX11_lot yX11_lot ∈ wsL_law := List.mem_of_getElem? (i := 377) (by decide +kernel)
theorem tw_378 : Cond.code yX11_lot cX11_lot 3 (some .int) ∈ wsL_law := List.mem_of_getElem? (i := 378) (by decide +kernel)
theorem dL_law_675 : decode cL_law 675 = .ok (.invokevirtual 58, 3) := by decide +kernel
theorem dL_law_678 : decode cL_law 678 = .ok (.aload_n 2, 1) := by decide +kernel
theorem dL_law_679 : decode cL_law 679 = .ok (.aload_n 0, 1) := by decide +kernel
theorem dL_law_680 : decode cL_law 680 = .ok (.iload_n 3, 1) := by decide +kernel
theorem dL_law_681 : decode cL_law 681 = .ok (.iconst 1, 1) := by decide +kernel
theorem dL_law_682 : decode cL_law 682 = .ok (.iadd, 1) := by decide +kernel
theorem dL_law_683 : decode cL_law 683 = .ok (.iaload, 1) := by decide +kernel
theorem tw_382 : Cond.methodLink RL 62 yX12_lot ∈ wsL_law := List.mem_of_getElem? (i := 382) (by decide +kernel)
theorem tw_383 : Cond.instanceMethod yX12_lot ∈ wsL_law := List.mem_of_getElem? (i := 383) (by decide +kernel)
theorem tw_384 : Cond.selects RX12 yX12_lot yX12_lot ∈ wsL_law := List.mem_of_getElem? (i := 384) (by decide +kernel)
theorem tw_385 : Cond.code yX12_lot cX12_lot 2 (some .int) ∈ wsL_law := List.mem_of_getElem? (i := 385) (by decide +kernel)
theorem dL_law_684 : decode cL_law 684 = .ok (.invokevirtual 62, 3) := by decide +kernel
theorem dL_law_687 : decode cL_law 687 = .ok (.if_icmp .eq 1038, 3) := by decide +kernel
theorem dL_law_692 : decode cL_law 692 = .ok (.aload_n 1, 1) := by decide +kernel
theorem dL_law_693 : decode cL_law 693 = .ok (.aload_n 0, 1) := by decide +kernel
theorem dL_law_694 : decode cL_law 694 = .ok (.iload_n 3, 1) := by decide +kernel
theorem dL_law_695 : decode cL_law 695 = .ok (.iconst 1, 1) := by decide +kernel
theorem dL_law_696 : decode cL_law 696 = .ok (.iadd, 1) := by decide +kernel
theorem dL_law_697 : decode cL_law 697 = .ok (.iaload, 1) := by decide +kernel
theorem dL_law_698 : decode cL_law 698 = .ok (.aload_n 0, 1) := by decide +kernel
theorem dL_law_699 : decode cL_law 699 = .ok (.iload_n 3, 1) := by decide +kernel
theorem dL_law_700 : decode cL_law 700 = .ok (.iconst 2, 1) := by decide +kernel
theorem dL_law_701 : decode cL_law 701 = .ok (.iadd, 1) := by decide +kernel
theorem dL_law_702 : decode cL_law 702 = .ok (.iaload, 1) := by decide +kernel
theorem dL_law_703 : decode cL_law 703 = .ok (.aload_n 0, 1) := by decide +kernel
theorem dL_law_704 : decode cL_law 704 = .ok (.iload_n 3, 1) := by decide +kernel
theorem dL_law_705 : decode cL_law 705 = .ok (.iconst 3, 1) := by decide +kernel
theorem dL_law_706 : decode cL_law 706 = .ok (.iadd, 1) := by decide +kernel
theorem dL_law_707 : decode cL_law 707 = .ok (.iaload, 1) := by decide +kernel
theorem dL_law_708 : decode cL_law 708 = .ok (.aload_n 0, 1) := by decide +kernel
theorem dL_law_709 : decode cL_law 709 = .ok (.iload_n 3, 1) := by decide +kernel
theorem dL_law_710 : decode cL_law 710 = .ok (.iconst 4, 1) := by decide +kernel
theorem dL_law_711 : decode cL_law 711 = .ok (.iadd, 1) := by decide +kernel
theorem dL_law_712 : decode cL_law 712 = .ok (.iaload, 1) := by decide +kernel
theorem dL_law_713 : decode cL_law 713 = .ok (.aload_n 0, 1) := by decide +kernel
theorem dL_law_714 : decode cL_law 714 = .ok (.iload_n 3, 1) := by decide +kernel
theorem dL_law_715 : decode cL_law 715 = .ok (.iconst 5, 1) := by decide +kernel
theorem dL_law_716 : decode cL_law 716 = .ok (.iadd, 1) := by decide +kernel
theorem dL_law_717 : decode cL_law 717 = .ok (.iaload, 1) := by decide +kernel
theorem tw_386 : Cond.methodLink RL 63 yX11_person ∈ wsL_law := List.mem_of_getElem? (i := 386) (by decide +kernel)
theorem tw_387 : Cond.instanceMethod yX11_person ∈ wsL_law := List.mem_of_getElem? (i := 387) (by decide +kernel)
theorem tw_388 : Cond.selects RX11 yX11_person yX11_person ∈ wsL_law := List.mem_of_getElem? (i := 388) (by decide +kernel)
theorem tw_389 : Cond.code yX11_person cX11_person 7 (some .int) ∈ wsL_law := List.mem_of_getElem? (i := 389) (by decide +kernel)
theorem dL_law_718 : decode cL_law 718 = .ok (.invokevirtual 63, 3) := by decide +kernel
theorem dL_law_721 : decode cL_law 721 = .ok (.aload_n 2, 1) := by decide +kernel
theorem dL_law_722 : decode cL_law 722 = .ok (.aload_n 0, 1) := by decide +kernel
theorem dL_law_723 : decode cL_law 723 = .ok (.iload_n 3, 1) := by decide +kernel
theorem dL_law_724 : decode cL_law 724 = .ok (.iconst 1, 1) := by decide +kernel
theorem dL_law_725 : decode cL_law 725 = .ok (.iadd, 1) := by decide +kernel
theorem dL_law_726 : decode cL_law 726 = .ok (.iaload, 1) := by decide +kernel
theorem dL_law_727 : decode cL_law 727 = .ok (.aload_n 0, 1) := by decide +kernel
theorem dL_law_728 : decode cL_law 728 = .ok (.iload_n 3, 1) := by decide +kernel
theorem dL_law_729 : decode cL_law 729 = .ok (.iconst 2, 1) := by decide +kernel
theorem dL_law_730 : decode cL_law 730 = .ok (.iadd, 1) := by decide +kernel
theorem dL_law_731 : decode cL_law 731 = .ok (.iaload, 1) := by decide +kernel
theorem dL_law_732 : decode cL_law 732 = .ok (.aload_n 0, 1) := by decide +kernel
theorem dL_law_733 : decode cL_law 733 = .ok (.iload_n 3, 1) := by decide +kernel
theorem dL_law_734 : decode cL_law 734 = .ok (.iconst 3, 1) := by decide +kernel
theorem dL_law_735 : decode cL_law 735 = .ok (.iadd, 1) := by decide +kernel
theorem dL_law_736 : decode cL_law 736 = .ok (.iaload, 1) := by decide +kernel
theorem dL_law_737 : decode cL_law 737 = .ok (.aload_n 0, 1) := by decide +kernel
theorem dL_law_738 : decode cL_law 738 = .ok (.iload_n 3, 1) := by decide +kernel
theorem dL_law_739 : decode cL_law 739 = .ok (.iconst 4, 1) := by decide +kernel
theorem dL_law_740 : decode cL_law 740 = .ok (.iadd, 1) := by decide +kernel
theorem dL_law_741 : decode cL_law 741 = .ok (.iaload, 1) := by decide +kernel
theorem dL_law_742 : decode cL_law 742 = .ok (.aload_n 0, 1) := by decide +kernel
theorem dL_law_743 : decode cL_law 743 = .ok (.iload_n 3, 1) := by decide +kernel
theorem dL_law_744 : decode cL_law 744 = .ok (.iconst 5, 1) := by decide +kernel
theorem dL_law_745 : decode cL_law 745 = .ok (.iadd, 1) := by decide +kernel
theorem dL_law_746 : decode cL_law 746 = .ok (.iaload, 1) := by decide +kernel
theorem tw_396 : Cond.methodLink RL 67 yX12_person ∈ wsL_law := List.mem_of_getElem? (i := 396) (by decide +kernel)
theorem tw_397 : Cond.instanceMethod yX12_person ∈ wsL_law := List.mem_of_getElem? (i := 397) (by decide +kernel)
theorem tw_398 : Cond.selects RX12 yX12_person yX12_person ∈ wsL_law := List.mem_of_getElem? (i := 398) (by decide +kernel)
theorem tw_399 : Cond.code yX12_person cX12_person 7 (some .int) ∈ wsL_law := List.mem_of_getElem? (i := 399) (by decide +kernel)
theorem dL_law_747 : decode cL_law 747 = .ok (.invokevirtual 67, 3) := by decide +kernel
theorem dL_law_750 : decode cL_law 750 = .ok (.if_icmp .eq 975, 3) := by decide +kernel
theorem dL_law_755 : decode cL_law 755 = .ok (.aload_n 1, 1) := by decide +kernel
theorem dL_law_756 : decode cL_law 756 = .ok (.aload_n 0, 1) := by decide +kernel
theorem dL_law_757 : decode cL_law 757 = .ok (.iload_n 3, 1) := by decide +kernel
theorem dL_law_758 : decode cL_law 758 = .ok (.iconst 1, 1) := by decide +kernel
theorem dL_law_759 : decode cL_law 759 = .ok (.iadd, 1) := by decide +kernel
theorem dL_law_760 : decode cL_law 760 = .ok (.iaload, 1) := by decide +kernel
theorem dL_law_761 : decode cL_law 761 = .ok (.aload_n 0, 1) := by decide +kernel
theorem dL_law_762 : decode cL_law 762 = .ok (.iload_n 3, 1) := by decide +kernel
theorem dL_law_763 : decode cL_law 763 = .ok (.iconst 2, 1) := by decide +kernel
theorem dL_law_764 : decode cL_law 764 = .ok (.iadd, 1) := by decide +kernel
theorem dL_law_765 : decode cL_law 765 = .ok (.iaload, 1) := by decide +kernel
theorem tw_400 : Cond.methodLink RL 68 yX11_go ∈ wsL_law := List.mem_of_getElem? (i := 400) (by decide +kernel)
theorem tw_401 : Cond.instanceMethod yX11_go ∈ wsL_law := List.mem_of_getElem? (i := 401) (by decide +kernel)
theorem tw_402 : Cond.selects RX11 yX11_go yX11_go ∈ wsL_law := List.mem_of_getElem? (i := 402) (by decide +kernel)
theorem tw_403 : Cond.code yX11_go cX11_go 5 (some .boolean) ∈ wsL_law := List.mem_of_getElem? (i := 403) (by decide +kernel)
theorem dL_law_766 : decode cL_law 766 = .ok (.invokevirtual 68, 3) := by decide +kernel
theorem dL_law_769 : decode cL_law 769 = .ok (.aload_n 2, 1) := by decide +kernel
theorem dL_law_770 : decode cL_law 770 = .ok (.aload_n 0, 1) := by decide +kernel
theorem dL_law_771 : decode cL_law 771 = .ok (.iload_n 3, 1) := by decide +kernel
theorem dL_law_772 : decode cL_law 772 = .ok (.iconst 1, 1) := by decide +kernel
theorem dL_law_773 : decode cL_law 773 = .ok (.iadd, 1) := by decide +kernel
theorem dL_law_774 : decode cL_law 774 = .ok (.iaload, 1) := by decide +kernel
theorem dL_law_775 : decode cL_law 775 = .ok (.aload_n 0, 1) := by decide +kernel
theorem dL_law_776 : decode cL_law 776 = .ok (.iload_n 3, 1) := by decide +kernel
theorem dL_law_777 : decode cL_law 777 = .ok (.iconst 2, 1) := by decide +kernel
theorem dL_law_778 : decode cL_law 778 = .ok (.iadd, 1) := by decide +kernel
theorem dL_law_779 : decode cL_law 779 = .ok (.iaload, 1) := by decide +kernel
theorem tw_421 : Cond.methodLink RL 71 yX12_go ∈ wsL_law := List.mem_of_getElem? (i := 421) (by decide +kernel)
theorem tw_422 : Cond.instanceMethod yX12_go ∈ wsL_law := List.mem_of_getElem? (i := 422) (by decide +kernel)
theorem tw_423 : Cond.selects RX12 yX12_go yX12_go ∈ wsL_law := List.mem_of_getElem? (i := 423) (by decide +kernel)
theorem tw_424 : Cond.code yX12_go cX12_go 3 (some .boolean) ∈ wsL_law := List.mem_of_getElem? (i := 424) (by decide +kernel)
theorem dL_law_780 : decode cL_law 780 = .ok (.invokevirtual 71, 3) := by decide +kernel
theorem dL_law_783 : decode cL_law 783 = .ok (.if_icmp .eq 942, 3) := by decide +kernel
theorem dL_law_788 : decode cL_law 788 = .ok (.aload_n 1, 1) := by decide +kernel
theorem dL_law_789 : decode cL_law 789 = .ok (.aload_n 0, 1) := by decide +kernel
theorem dL_law_790 : decode cL_law 790 = .ok (.iload_n 3, 1) := by decide +kernel
theorem dL_law_791 : decode cL_law 791 = .ok (.iconst 1, 1) := by decide +kernel
theorem dL_law_792 : decode cL_law 792 = .ok (.iadd, 1) := by decide +kernel
theorem dL_law_793 : decode cL_law 793 = .ok (.iaload, 1) := by decide +kernel
theorem tw_449 : Cond.methodLink RL 72 yX11_death ∈ wsL_law := List.mem_of_getElem? (i := 449) (by decide +kernel)
theorem tw_450 : Cond.instanceMethod yX11_death ∈ wsL_law := List.mem_of_getElem? (i := 450) (by decide +kernel)
theorem tw_451 : Cond.selects RX11 yX11_death yX11_death ∈ wsL_law := List.mem_of_getElem? (i := 451) (by decide +kernel)
theorem tw_452 : Cond.code yX11_death cX11_death 2 (some .int) ∈ wsL_law := List.mem_of_getElem? (i := 452) (by decide +kernel)
theorem dL_law_794 : decode cL_law 794 = .ok (.invokevirtual 72, 3) := by decide +kernel
theorem dL_law_797 : decode cL_law 797 = .ok (.aload_n 2, 1) := by decide +kernel
theorem dL_law_798 : decode cL_law 798 = .ok (.aload_n 0, 1) := by decide +kernel
theorem dL_law_799 : decode cL_law 799 = .ok (.iload_n 3, 1) := by decide +kernel
theorem dL_law_800 : decode cL_law 800 = .ok (.iconst 1, 1) := by decide +kernel
theorem dL_law_801 : decode cL_law 801 = .ok (.iadd, 1) := by decide +kernel
theorem dL_law_802 : decode cL_law 802 = .ok (.iaload, 1) := by decide +kernel
theorem tw_499 : Cond.methodLink RL 75 yX12_death ∈ wsL_law := List.mem_of_getElem? (i := 499) (by decide +kernel)
theorem tw_500 : Cond.instanceMethod yX12_death ∈ wsL_law := List.mem_of_getElem? (i := 500) (by decide +kernel)
theorem tw_501 : Cond.selects RX12 yX12_death yX12_death ∈ wsL_law := List.mem_of_getElem? (i := 501) (by decide +kernel)
theorem tw_502 : Cond.code yX12_death cX12_death 6 (some .int) ∈ wsL_law := List.mem_of_getElem? (i := 502) (by decide +kernel)
theorem dL_law_803 : decode cL_law 803 = .ok (.invokevirtual 75, 3) := by decide +kernel
theorem dL_law_806 : decode cL_law 806 = .ok (.if_icmp .eq 919, 3) := by decide +kernel
theorem dL_law_811 : decode cL_law 811 = .ok (.aload_n 1, 1) := by decide +kernel
theorem dL_law_812 : decode cL_law 812 = .ok (.aload_n 0, 1) := by decide +kernel
theorem dL_law_813 : decode cL_law 813 = .ok (.iload_n 3, 1) := by decide +kernel
theorem dL_law_814 : decode cL_law 814 = .ok (.iconst 1, 1) := by decide +kernel
theorem dL_law_815 : decode cL_law 815 = .ok (.iadd, 1) := by decide +kernel
theorem dL_law_816 : decode cL_law 816 = .ok (.iaload, 1) := by decide +kernel
theorem dL_law_817 : decode cL_law 817 = .ok (.aload_n 0, 1) := by decide +kernel
theorem dL_law_818 : decode cL_law 818 = .ok (.iload_n 3, 1) := by decide +kernel
theorem dL_law_819 : decode cL_law 819 = .ok (.iconst 2, 1) := by decide +kernel
theorem dL_law_820 : decode cL_law 820 = .ok (.iadd, 1) := by decide +kernel
theorem dL_law_821 : decode cL_law 821 = .ok (.iaload, 1) := by decide +kernel
theorem tw_532 : Cond.methodLink RL 76 yX11_title ∈ wsL_law := List.mem_of_getElem? (i := 532) (by decide +kernel)
theorem tw_533 : Cond.instanceMethod yX11_title ∈ wsL_law := List.mem_of_getElem? (i := 533) (by decide +kernel)
theorem tw_534 : Cond.selects RX11 yX11_title yX11_title ∈ wsL_law := List.mem_of_getElem? (i := 534) (by decide +kernel)
theorem tw_535 : Cond.code yX11_title cX11_title 4 (some .boolean) ∈ wsL_law := List.mem_of_getElem? (i := 535) (by decide +kernel)
theorem dL_law_822 : decode cL_law 822 = .ok (.invokevirtual 76, 3) := by decide +kernel
theorem dL_law_825 : decode cL_law 825 = .ok (.aload_n 2, 1) := by decide +kernel
theorem dL_law_826 : decode cL_law 826 = .ok (.aload_n 0, 1) := by decide +kernel
theorem dL_law_827 : decode cL_law 827 = .ok (.iload_n 3, 1) := by decide +kernel
theorem dL_law_828 : decode cL_law 828 = .ok (.iconst 1, 1) := by decide +kernel
theorem dL_law_829 : decode cL_law 829 = .ok (.iadd, 1) := by decide +kernel
theorem dL_law_830 : decode cL_law 830 = .ok (.iaload, 1) := by decide +kernel
theorem dL_law_831 : decode cL_law 831 = .ok (.aload_n 0, 1) := by decide +kernel
theorem dL_law_832 : decode cL_law 832 = .ok (.iload_n 3, 1) := by decide +kernel
theorem dL_law_833 : decode cL_law 833 = .ok (.iconst 2, 1) := by decide +kernel
theorem dL_law_834 : decode cL_law 834 = .ok (.iadd, 1) := by decide +kernel
theorem dL_law_835 : decode cL_law 835 = .ok (.iaload, 1) := by decide +kernel
theorem tw_537 : Cond.methodLink RL 79 yX12_title ∈ wsL_law := List.mem_of_getElem? (i := 537) (by decide +kernel)
theorem tw_538 : Cond.instanceMethod yX12_title ∈ wsL_law := List.mem_of_getElem? (i := 538) (by decide +kernel)
theorem tw_539 : Cond.selects RX12 yX12_title yX12_title ∈ wsL_law := List.mem_of_getElem? (i := 539) (by decide +kernel)
theorem tw_540 : Cond.code yX12_title cX12_title 3 (some .boolean) ∈ wsL_law := List.mem_of_getElem? (i := 540) (by decide +kernel)
theorem dL_law_836 : decode cL_law 836 = .ok (.invokevirtual 79, 3) := by decide +kernel
theorem dL_law_839 : decode cL_law 839 = .ok (.if_icmp .eq 886, 3) := by decide +kernel
set_option maxHeartbeats 8000000 in
set_option maxRecDepth 100000 in
theorem lw_op_0 {p : Program} {e : Env} {s : State} {m : MethodId} {below : List Frame} {meth : Method} {c : Code} {b : Nat} (l : Launch) (hx : p.tables.exec = Jvm.exec) (hb : c.code = cL_law) (hr : meth.sig.returnType = ret) (hml : c.maxLocals = 4) (hown : s.vm.findClass RL = some m.cls) (hlocks : meth.locks = false) (hts : ∀ w ∈ (Cond.initialized RX11 :: wsL_law), w.before #[Value.ref b] s = true) (xs : Nat → Int32) (hX : va_X b 7 xs s s.heap) (hbl : b < s.heap.size) {D : va_G} {t : pq_T} (hK : va_K D vwCl (pq_ty t) s) (hN : pq_N s) {σ τ : pq_S} {I : Nat → Nat → Int32} {J : Nat → Nat → Int64} {ri : Nat → Nat → Int32} {rj : Nat → Nat → Int64} {rq : Nat → Nat → Option Nat} {I2 : Nat → Nat → Int32} {J2 : Nat → Nat → Int64} {si : Nat → Nat → Int32} {sj : Nat → Nat → Int64} {sq : Nat → Nat → Option Nat} {this that : Nat} (hokx : okRingsUnder σ I this) (hL_this : this ∈ σ.1) (hK_this : σ.2.1 this = 11) (hZ : pq_Z I) (hq0 : rq = fun _ _ => none) (hokm : okModel τ I2 si that) (hL_that : that ∈ τ.1) (hK_that : τ.2.1 that = 12) (hdis : ∀ a, a ∈ τ.1 → a ∉ σ.1) {H : Heap} {locs : List Loc} (hP : va_P D vwCl (pq_P t σ (I, J, ri, rj, rq)) H) (hD : va_D (fun q => s.heap.size ≤ q) (pq_P t σ (I, J, ri, rj, rq))) (hP2 : va_P D vwCl (pq_P t τ (I2, J2, si, sj, sq)) H) (hD2 : va_D (fun q => s.heap.size ≤ q) (pq_P t τ (I2, J2, si, sj, sq))) (hS : va_S (fun q => s.heap.size ≤ q) s.heap H locs) {ls : Array Slot} (hl : lv_has ls 4 [(3, .int 0), (2, .ref that), (1, .ref this), (0, .ref b)]) : W p l e room_1 s m #[Value.ref b] below meth c H locs 207 49062 (lw_Z below #[Value.ref b] s) (F0 m 212 ls []) := by
  have hA : ∀ q : Nat, s.heap.size ≤ q → s.heap.size ≤ q := fun _ h => h
  obtain ⟨y_this_352, y_this_353, y_this_354, y_this_355, y_this_356, hd_this_352_353, hd_this_352_354, hd_this_353_354⟩ := id hokx
  obtain ⟨-, this_now, hR_this_now, hL_this_now, hK_this_now, ho_this_now⟩ := y_this_352
  obtain ⟨y_this_now_325, y_this_now_326, y_this_now_327, y_this_now_328, y_this_now_329, y_this_now_330, y_this_now_331, y_this_now_332, hi_this_now_320, hi_this_now_323, hi_this_now_324⟩ := id ho_this_now
  obtain ⟨-, this_now_land, hR_this_now_land, hL_this_now_land, hK_this_now_land, ho_this_now_land⟩ := y_this_now_327
  obtain ⟨y_this_now_land_68, y_this_now_land_69, y_this_now_land_70, y_this_now_land_71, y_this_now_land_72, y_this_now_land_73, y_this_now_land_74, y_this_now_land_75, y_this_now_land_76, y_this_now_land_77, y_this_now_land_78, y_this_now_land_79, y_this_now_land_80, y_this_now_land_81, y_this_now_land_82, y_this_now_land_83, hd_this_now_land_82_83⟩ := id ho_this_now_land
  obtain ⟨y_that_384, y_that_385, y_that_386, y_that_387, y_that_400, y_that_404, y_that_405, y_that_408, y_that_409, y_that_411, y_that_412, y_that_413, y_that_414, hi_that_388, hi_that_389, hi_that_390, hi_that_391, hd_that_384_385, hd_that_384_386, hd_that_384_414, hd_that_386_414, hF_384, hF_385⟩ := id hokm
  obtain ⟨-, that_a, hR_that_a, hL_that_a, hK_that_a, hN_that_a⟩ := y_that_384
  refine lv_aload_n hx hb dL_law_212 rfl (lv_at hl 2 rfl) ?_
  refine lk_i (va_runV (As := []) (rest := []) ⟨hx, hb, hml, hown, hts⟩ (c_X11_ring l D t σ I J ri rj rq H.size this hL_this hK_this this_now hR_this_now hL_this_now hK_this_now this_now_land hR_this_now_land hL_this_now_land hK_this_now_land hZ) (cwV 0 hts (tw_V tw_195 tw_196 tw_197 tw_2 tw_198) rfl rfl rfl (by decide +kernel) ⟨Nat.le_of_ble_eq_true rfl, Nat.le_of_ble_eq_true rfl⟩) ⟨pq_blind, pq_recv hK hP hL_this hK_this (by decide) rfl, pq_pre hK hN hP hD⟩ rfl rfl hl.1 rfl (lv_room (Nat.le_of_ble_eq_true rfl)) dL_law_213 ⟨Nat.le_of_ble_eq_true rfl, Nat.le_of_ble_eq_true rfl⟩) hD hS hA hP2 hdis (fun r1 u1 H locs hw1 hP2 hS => ?_)
  obtain ⟨_, -, -, hr1⟩ := hw1
  refine lv_aload_n hx hb dL_law_216 rfl (lv_at hl 1 rfl) ?_
  refine pk_i (va_runV (As := []) (rest := [.int r1]) ⟨hx, hb, hml, hown, hts⟩ (c_X12_ring l D t τ I2 J2 si sj sq H.size that hL_that hK_that that_a hR_that_a hL_that_a hK_that_a hN_that_a (okF_at hF_384 hR_that_a)) (cwV 0 hts (tw_V tw_201 tw_202 tw_203 tw_5 tw_204) rfl rfl rfl (by decide +kernel) ⟨Nat.le_of_ble_eq_true rfl, Nat.le_of_ble_eq_true rfl⟩) ⟨pq_blind, pq_recv hK hP2 hL_that hK_that (by decide) rfl, pq_pre hK hN hP2 hD2⟩ rfl rfl hl.1 rfl (lv_room (Nat.le_of_ble_eq_true rfl)) dL_law_217 ⟨Nat.le_of_ble_eq_true rfl, Nat.le_of_ble_eq_true rfl⟩) hD2 hS hA (fun r2 σ3 μ3 H locs hw2 hP3 hD3 hS => ?_)
  obtain ⟨_, -, hr2⟩ := hw2
  have he : r1 = r2 := by exact hr1.trans hr2.symm
  refine lv_icmp_eq (tgt := 1725) hx hb dL_law_220 (by decide) (fun _ => ?_) (fun q => absurd he q)
  exact lw_tail l hx hb hr hlocks hX hbl (by decide) (by decide) hS (lv_sub hl [3, 0] rfl)
set_option maxHeartbeats 8000000 in
set_option maxRecDepth 100000 in
theorem lw_op_1 {p : Program} {e : Env} {s : State} {m : MethodId} {below : List Frame} {meth : Method} {c : Code} {b : Nat} (l : Launch) (hx : p.tables.exec = Jvm.exec) (hb : c.code = cL_law) (hr : meth.sig.returnType = ret) (hml : c.maxLocals = 4) (hown : s.vm.findClass RL = some m.cls) (hlocks : meth.locks = false) (hts : ∀ w ∈ (Cond.initialized RX11 :: wsL_law), w.before #[Value.ref b] s = true) (xs : Nat → Int32) (hX : va_X b 7 xs s s.heap) (hbl : b < s.heap.size) {D : va_G} {t : pq_T} (hK : va_K D vwCl (pq_ty t) s) (hN : pq_N s) {σ τ : pq_S} {I : Nat → Nat → Int32} {J : Nat → Nat → Int64} {ri : Nat → Nat → Int32} {rj : Nat → Nat → Int64} {rq : Nat → Nat → Option Nat} {I2 : Nat → Nat → Int32} {J2 : Nat → Nat → Int64} {si : Nat → Nat → Int32} {sj : Nat → Nat → Int64} {sq : Nat → Nat → Option Nat} {this that : Nat} (hokx : okRingsUnder σ I this) (hL_this : this ∈ σ.1) (hK_this : σ.2.1 this = 11) (hZ : pq_Z I) (hq0 : rq = fun _ _ => none) (hokm : okModel τ I2 si that) (hL_that : that ∈ τ.1) (hK_that : τ.2.1 that = 12) (hdis : ∀ a, a ∈ τ.1 → a ∉ σ.1) {H : Heap} {locs : List Loc} (hP : va_P D vwCl (pq_P t σ (I, J, ri, rj, rq)) H) (hD : va_D (fun q => s.heap.size ≤ q) (pq_P t σ (I, J, ri, rj, rq))) (hP2 : va_P D vwCl (pq_P t τ (I2, J2, si, sj, sq)) H) (hD2 : va_D (fun q => s.heap.size ≤ q) (pq_P t τ (I2, J2, si, sj, sq))) (hS : va_S (fun q => s.heap.size ≤ q) s.heap H locs) {ls : Array Slot} (hl : lv_has ls 4 [(3, .int 0), (2, .ref that), (1, .ref this), (0, .ref b)]) : W p l e room_1 s m #[Value.ref b] below meth c H locs 207 49062 (lw_Z below #[Value.ref b] s) (F0 m 225 ls []) := by
  have hA : ∀ q : Nat, s.heap.size ≤ q → s.heap.size ≤ q := fun _ h => h
  obtain ⟨y_this_352, y_this_353, y_this_354, y_this_355, y_this_356, hd_this_352_353, hd_this_352_354, hd_this_353_354⟩ := id hokx
  obtain ⟨-, this_now, hR_this_now, hL_this_now, hK_this_now, ho_this_now⟩ := y_this_352
  obtain ⟨y_this_now_325, y_this_now_326, y_this_now_327, y_this_now_328, y_this_now_329, y_this_now_330, y_this_now_331, y_this_now_332, hi_this_now_320, hi_this_now_323, hi_this_now_324⟩ := id ho_this_now
  obtain ⟨-, this_now_land, hR_this_now_land, hL_this_now_land, hK_this_now_land, ho_this_now_land⟩ := y_this_now_327
  obtain ⟨y_this_now_land_68, y_this_now_land_69, y_this_now_land_70, y_this_now_land_71, y_this_now_land_72, y_this_now_land_73, y_this_now_land_74, y_this_now_land_75, y_this_now_land_76, y_this_now_land_77, y_this_now_land_78, y_this_now_land_79, y_this_now_land_80, y_this_now_land_81, y_this_now_land_82, y_this_now_land_83, hd_this_now_land_82_83⟩ := id ho_this_now_land
  obtain ⟨y_that_384, y_that_385, y_that_386, y_that_387, y_that_400, y_that_404, y_that_405, y_that_408, y_that_409, y_that_411, y_that_412, y_that_413, y_that_414, hi_that_388, hi_that_389, hi_that_390, hi_that_391, hd_that_384_385, hd_that_384_386, hd_that_384_414, hd_that_386_414, hF_384, hF_385⟩ := id hokm
  obtain ⟨-, that_a, hR_that_a, hL_that_a, hK_that_a, hN_that_a⟩ := y_that_384
  refine lv_aload_n hx hb dL_law_225 rfl (lv_at hl 2 rfl) ?_
  refine lv_aload_n hx hb dL_law_226 rfl (lv_at hl 3 rfl) ?_
  refine lv_iload_n hx hb dL_law_227 rfl (lv_at hl 0 rfl) ?_
  refine lv_iconst (v := 1) hx hb dL_law_228 (by decide) ?_
  refine lv_iadd hx hb dL_law_229 ?_
  refine lv_tov 1 (by decide) ?_
  refine va_sld hx hb hX hbl (Nat.not_le.mpr hbl) hS (vp_in_iff.mpr (by decide)) dL_law_230 ?_
  refine lv_tov (xs 1) rfl ?_
  refine lv_aload_n hx hb dL_law_231 rfl (lv_at hl 3 rfl) ?_
  refine lv_iload_n hx hb dL_law_232 rfl (lv_at hl 0 rfl) ?_
  refine lv_iconst (v := 2) hx hb dL_law_233 (by decide) ?_
  refine lv_iadd hx hb dL_law_234 ?_
  refine lv_tov 2 (by decide) ?_
  refine va_sld hx hb hX hbl (Nat.not_le.mpr hbl) hS (vp_in_iff.mpr (by decide)) dL_law_235 ?_
  refine lv_tov (xs 2) rfl ?_
  refine lv_aload_n hx hb dL_law_236 rfl (lv_at hl 3 rfl) ?_
  refine lv_iload_n hx hb dL_law_237 rfl (lv_at hl 0 rfl) ?_
  refine lv_iconst (v := 3) hx hb dL_law_238 (by decide) ?_
  refine lv_iadd hx hb dL_law_239 ?_
  refine lv_tov 3 (by decide) ?_
  refine va_sld hx hb hX hbl (Nat.not_le.mpr hbl) hS (vp_in_iff.mpr (by decide)) dL_law_240 ?_
  refine lv_tov (xs 3) rfl ?_
  refine lv_aload_n hx hb dL_law_241 rfl (lv_at hl 3 rfl) ?_
  refine lv_iload_n hx hb dL_law_242 rfl (lv_at hl 0 rfl) ?_
  refine lv_iconst (v := 4) hx hb dL_law_243 (by decide) ?_
  refine lv_iadd hx hb dL_law_244 ?_
  refine lv_tov 4 (by decide) ?_
  refine va_sld hx hb hX hbl (Nat.not_le.mpr hbl) hS (vp_in_iff.mpr (by decide)) dL_law_245 ?_
  refine lv_tov (xs 4) rfl ?_
  refine lv_aload_n hx hb dL_law_246 rfl (lv_at hl 3 rfl) ?_
  refine lv_iload_n hx hb dL_law_247 rfl (lv_at hl 0 rfl) ?_
  refine lv_iconst (v := 5) hx hb dL_law_248 (by decide) ?_
  refine lv_iadd hx hb dL_law_249 ?_
  refine lv_tov 5 (by decide) ?_
  refine va_sld hx hb hX hbl (Nat.not_le.mpr hbl) hS (vp_in_iff.mpr (by decide)) dL_law_250 ?_
  refine lv_tov (xs 5) rfl ?_
  refine lv_aload_n hx hb dL_law_251 rfl (lv_at hl 3 rfl) ?_
  refine lv_iload_n hx hb dL_law_252 rfl (lv_at hl 0 rfl) ?_
  refine lv_bipush (v := 6) hx hb dL_law_253 (by decide) ?_
  refine lv_iadd hx hb dL_law_255 ?_
  refine lv_tov 6 (by decide) ?_
  refine va_sld hx hb hX hbl (Nat.not_le.mpr hbl) hS (vp_in_iff.mpr (by decide)) dL_law_256 ?_
  refine lv_tov (xs 6) rfl ?_
  refine lk_i (va_runV (As := [.int (xs 1), .int (xs 2), .int (xs 3), .int (xs 4), .int (xs 5), .int (xs 6)]) (rest := []) ⟨hx, hb, hml, hown, hts⟩ (c_X11_cell l D t σ I J ri rj rq H.size this (xs 1) (xs 2) (xs 3) (xs 4) (xs 5) (xs 6) hL_this hK_this this_now hR_this_now hL_this_now hK_this_now this_now_land hR_this_now_land hL_this_now_land hK_this_now_land hZ) (cwV 6 hts (tw_V tw_205 tw_206 tw_207 tw_2 tw_208) rfl rfl rfl (by decide +kernel) ⟨Nat.le_of_ble_eq_true rfl, Nat.le_of_ble_eq_true rfl⟩) ⟨pq_blind, pq_recv hK hP hL_this hK_this (by decide) rfl, pq_pre hK hN hP hD⟩ rfl rfl hl.1 rfl (lv_room (Nat.le_of_ble_eq_true rfl)) dL_law_257 ⟨Nat.le_of_ble_eq_true rfl, Nat.le_of_ble_eq_true rfl⟩) hD hS hA hP2 hdis (fun r1 u1 H locs hw1 hP2 hS => ?_)
  obtain ⟨-, hr1⟩ := hw1
  refine lv_aload_n hx hb dL_law_260 rfl (lv_at hl 1 rfl) ?_
  refine lv_aload_n hx hb dL_law_261 rfl (lv_at hl 3 rfl) ?_
  refine lv_iload_n hx hb dL_law_262 rfl (lv_at hl 0 rfl) ?_
  refine lv_iconst (v := 1) hx hb dL_law_263 (by decide) ?_
  refine lv_iadd hx hb dL_law_264 ?_
  refine lv_tov 1 (by decide) ?_
  refine va_sld hx hb hX hbl (Nat.not_le.mpr hbl) hS (vp_in_iff.mpr (by decide)) dL_law_265 ?_
  refine lv_tov (xs 1) rfl ?_
  refine lv_aload_n hx hb dL_law_266 rfl (lv_at hl 3 rfl) ?_
  refine lv_iload_n hx hb dL_law_267 rfl (lv_at hl 0 rfl) ?_
  refine lv_iconst (v := 2) hx hb dL_law_268 (by decide) ?_
  refine lv_iadd hx hb dL_law_269 ?_
  refine lv_tov 2 (by decide) ?_
  refine va_sld hx hb hX hbl (Nat.not_le.mpr hbl) hS (vp_in_iff.mpr (by decide)) dL_law_270 ?_
  refine lv_tov (xs 2) rfl ?_
  refine lv_aload_n hx hb dL_law_271 rfl (lv_at hl 3 rfl) ?_
  refine lv_iload_n hx hb dL_law_272 rfl (lv_at hl 0 rfl) ?_
  refine lv_iconst (v := 3) hx hb dL_law_273 (by decide) ?_
  refine lv_iadd hx hb dL_law_274 ?_
  refine lv_tov 3 (by decide) ?_
  refine va_sld hx hb hX hbl (Nat.not_le.mpr hbl) hS (vp_in_iff.mpr (by decide)) dL_law_275 ?_
  refine lv_tov (xs 3) rfl ?_
  refine lv_aload_n hx hb dL_law_276 rfl (lv_at hl 3 rfl) ?_
  refine lv_iload_n hx hb dL_law_277 rfl (lv_at hl 0 rfl) ?_
  refine lv_iconst (v := 4) hx hb dL_law_278 (by decide) ?_
  refine lv_iadd hx hb dL_law_279 ?_
  refine lv_tov 4 (by decide) ?_
  refine va_sld hx hb hX hbl (Nat.not_le.mpr hbl) hS (vp_in_iff.mpr (by decide)) dL_law_280 ?_
  refine lv_tov (xs 4) rfl ?_
  refine lv_aload_n hx hb dL_law_281 rfl (lv_at hl 3 rfl) ?_
  refine lv_iload_n hx hb dL_law_282 rfl (lv_at hl 0 rfl) ?_
  refine lv_iconst (v := 5) hx hb dL_law_283 (by decide) ?_
  refine lv_iadd hx hb dL_law_284 ?_
  refine lv_tov 5 (by decide) ?_
  refine va_sld hx hb hX hbl (Nat.not_le.mpr hbl) hS (vp_in_iff.mpr (by decide)) dL_law_285 ?_
  refine lv_tov (xs 5) rfl ?_
  refine lv_aload_n hx hb dL_law_286 rfl (lv_at hl 3 rfl) ?_
  refine lv_iload_n hx hb dL_law_287 rfl (lv_at hl 0 rfl) ?_
  refine lv_bipush (v := 6) hx hb dL_law_288 (by decide) ?_
  refine lv_iadd hx hb dL_law_290 ?_
  refine lv_tov 6 (by decide) ?_
  refine va_sld hx hb hX hbl (Nat.not_le.mpr hbl) hS (vp_in_iff.mpr (by decide)) dL_law_291 ?_
  refine lv_tov (xs 6) rfl ?_
  refine pk_i (va_runV (As := [.int (xs 1), .int (xs 2), .int (xs 3), .int (xs 4), .int (xs 5), .int (xs 6)]) (rest := [.int r1]) ⟨hx, hb, hml, hown, hts⟩ (c_X12_cell l D t τ I2 J2 si sj sq H.size that (xs 1) (xs 2) (xs 3) (xs 4) (xs 5) (xs 6) hL_that hK_that that_a hR_that_a hL_that_a hK_that_a hN_that_a (okF_at hF_384 hR_that_a)) (cwV 6 hts (tw_V tw_227 tw_228 tw_229 tw_5 tw_230) rfl rfl rfl (by decide +kernel) ⟨Nat.le_of_ble_eq_true rfl, Nat.le_of_ble_eq_true rfl⟩) ⟨pq_blind, pq_recv hK hP2 hL_that hK_that (by decide) rfl, pq_pre hK hN hP2 hD2⟩ rfl rfl hl.1 rfl (lv_room (Nat.le_of_ble_eq_true rfl)) dL_law_292 ⟨Nat.le_of_ble_eq_true rfl, Nat.le_of_ble_eq_true rfl⟩) hD2 hS hA (fun r2 σ3 μ3 H locs hw2 hP3 hD3 hS => ?_)
  obtain ⟨-, hr2⟩ := hw2
  have he : r1 = r2 := by exact hr1.trans hr2.symm
  refine lv_icmp_eq (tgt := 1725) hx hb dL_law_295 (by decide) (fun _ => ?_) (fun q => absurd he q)
  exact lw_tail l hx hb hr hlocks hX hbl (by decide) (by decide) hS (lv_sub hl [3, 0] rfl)
set_option maxHeartbeats 8000000 in
set_option maxRecDepth 100000 in
theorem lw_op_2 {p : Program} {e : Env} {s : State} {m : MethodId} {below : List Frame} {meth : Method} {c : Code} {b : Nat} (l : Launch) (hx : p.tables.exec = Jvm.exec) (hb : c.code = cL_law) (hr : meth.sig.returnType = ret) (hml : c.maxLocals = 4) (hown : s.vm.findClass RL = some m.cls) (hlocks : meth.locks = false) (hts : ∀ w ∈ (Cond.initialized RX11 :: wsL_law), w.before #[Value.ref b] s = true) (xs : Nat → Int32) (hX : va_X b 7 xs s s.heap) (hbl : b < s.heap.size) {D : va_G} {t : pq_T} (hK : va_K D vwCl (pq_ty t) s) (hN : pq_N s) {σ τ : pq_S} {I : Nat → Nat → Int32} {J : Nat → Nat → Int64} {ri : Nat → Nat → Int32} {rj : Nat → Nat → Int64} {rq : Nat → Nat → Option Nat} {I2 : Nat → Nat → Int32} {J2 : Nat → Nat → Int64} {si : Nat → Nat → Int32} {sj : Nat → Nat → Int64} {sq : Nat → Nat → Option Nat} {this that : Nat} (hokx : okRingsUnder σ I this) (hL_this : this ∈ σ.1) (hK_this : σ.2.1 this = 11) (hZ : pq_Z I) (hq0 : rq = fun _ _ => none) (hokm : okModel τ I2 si that) (hL_that : that ∈ τ.1) (hK_that : τ.2.1 that = 12) (hdis : ∀ a, a ∈ τ.1 → a ∉ σ.1) {H : Heap} {locs : List Loc} (hP : va_P D vwCl (pq_P t σ (I, J, ri, rj, rq)) H) (hD : va_D (fun q => s.heap.size ≤ q) (pq_P t σ (I, J, ri, rj, rq))) (hP2 : va_P D vwCl (pq_P t τ (I2, J2, si, sj, sq)) H) (hD2 : va_D (fun q => s.heap.size ≤ q) (pq_P t τ (I2, J2, si, sj, sq))) (hS : va_S (fun q => s.heap.size ≤ q) s.heap H locs) {ls : Array Slot} (hl : lv_has ls 4 [(3, .int 0), (2, .ref that), (1, .ref this), (0, .ref b)]) : W p l e room_1 s m #[Value.ref b] below meth c H locs 207 49062 (lw_Z below #[Value.ref b] s) (F0 m 300 ls []) := by
  have hA : ∀ q : Nat, s.heap.size ≤ q → s.heap.size ≤ q := fun _ h => h
  obtain ⟨y_this_352, y_this_353, y_this_354, y_this_355, y_this_356, hd_this_352_353, hd_this_352_354, hd_this_353_354⟩ := id hokx
  obtain ⟨-, this_now, hR_this_now, hL_this_now, hK_this_now, ho_this_now⟩ := y_this_352
  obtain ⟨y_this_now_325, y_this_now_326, y_this_now_327, y_this_now_328, y_this_now_329, y_this_now_330, y_this_now_331, y_this_now_332, hi_this_now_320, hi_this_now_323, hi_this_now_324⟩ := id ho_this_now
  obtain ⟨-, this_now_seas, hR_this_now_seas, hL_this_now_seas, hK_this_now_seas, ho_this_now_seas⟩ := y_this_now_326
  obtain ⟨y_this_now_seas_225, y_this_now_seas_226, y_this_now_seas_227, y_this_now_seas_228, y_this_now_seas_229, y_this_now_seas_230, y_this_now_seas_231, y_this_now_seas_232, y_this_now_seas_233, hi_this_now_seas_237⟩ := id ho_this_now_seas
  obtain ⟨-, this_now_seas_rise, hR_this_now_seas_rise, hL_this_now_seas_rise, hK_this_now_seas_rise, hN_this_now_seas_rise⟩ := y_this_now_seas_225
  obtain ⟨-, this_now_seas_month, hR_this_now_seas_month, hL_this_now_seas_month, hK_this_now_seas_month, hN_this_now_seas_month⟩ := y_this_now_seas_226
  obtain ⟨-, this_now_seas_value, hR_this_now_seas_value, hL_this_now_seas_value, hK_this_now_seas_value, hN_this_now_seas_value⟩ := y_this_now_seas_227
  obtain ⟨-, this_now_seas_told, hR_this_now_seas_told, hL_this_now_seas_told, hK_this_now_seas_told, hN_this_now_seas_told⟩ := y_this_now_seas_228
  obtain ⟨y_that_384, y_that_385, y_that_386, y_that_387, y_that_400, y_that_404, y_that_405, y_that_408, y_that_409, y_that_411, y_that_412, y_that_413, y_that_414, hi_that_388, hi_that_389, hi_that_390, hi_that_391, hd_that_384_385, hd_that_384_386, hd_that_384_414, hd_that_386_414, hF_384, hF_385⟩ := id hokm
  obtain ⟨-, that_a, hR_that_a, hL_that_a, hK_that_a, hN_that_a⟩ := y_that_384
  refine lv_aload_n hx hb dL_law_300 rfl (lv_at hl 2 rfl) ?_
  refine lv_aload_n hx hb dL_law_301 rfl (lv_at hl 3 rfl) ?_
  refine lv_iload_n hx hb dL_law_302 rfl (lv_at hl 0 rfl) ?_
  refine lv_iconst (v := 1) hx hb dL_law_303 (by decide) ?_
  refine lv_iadd hx hb dL_law_304 ?_
  refine lv_tov 1 (by decide) ?_
  refine va_sld hx hb hX hbl (Nat.not_le.mpr hbl) hS (vp_in_iff.mpr (by decide)) dL_law_305 ?_
  refine lv_tov (xs 1) rfl ?_
  refine lv_aload_n hx hb dL_law_306 rfl (lv_at hl 3 rfl) ?_
  refine lv_iload_n hx hb dL_law_307 rfl (lv_at hl 0 rfl) ?_
  refine lv_iconst (v := 2) hx hb dL_law_308 (by decide) ?_
  refine lv_iadd hx hb dL_law_309 ?_
  refine lv_tov 2 (by decide) ?_
  refine va_sld hx hb hX hbl (Nat.not_le.mpr hbl) hS (vp_in_iff.mpr (by decide)) dL_law_310 ?_
  refine lv_tov (xs 2) rfl ?_
  refine lv_aload_n hx hb dL_law_311 rfl (lv_at hl 3 rfl) ?_
  refine lv_iload_n hx hb dL_law_312 rfl (lv_at hl 0 rfl) ?_
  refine lv_iconst (v := 3) hx hb dL_law_313 (by decide) ?_
  refine lv_iadd hx hb dL_law_314 ?_
  refine lv_tov 3 (by decide) ?_
  refine va_sld hx hb hX hbl (Nat.not_le.mpr hbl) hS (vp_in_iff.mpr (by decide)) dL_law_315 ?_
  refine lv_tov (xs 3) rfl ?_
  refine lv_if_eq (tgt := 323) hx hb dL_law_316 (by decide) (fun c_1 => ?_) (fun c_1 => ?_)
  · refine lv_iconst (v := 0) hx hb dL_law_323 (by decide) ?_
    refine lv_aload_n hx hb dL_law_324 rfl (lv_at hl 3 rfl) ?_
    refine lv_iload_n hx hb dL_law_325 rfl (lv_at hl 0 rfl) ?_
    refine lv_iconst (v := 4) hx hb dL_law_326 (by decide) ?_
    refine lv_iadd hx hb dL_law_327 ?_
    refine lv_tov 4 (by decide) ?_
    refine va_sld hx hb hX hbl (Nat.not_le.mpr hbl) hS (vp_in_iff.mpr (by decide)) dL_law_328 ?_
    refine lv_tov (xs 4) rfl ?_
    refine lk_i (va_runV (As := [.int (xs 1), .int (xs 2), .int 0, .int (xs 4)]) (rest := []) ⟨hx, hb, hml, hown, hts⟩ (c_X11_level l D t σ I J ri rj rq H.size this (xs 1) (xs 2) (0 : Int32) (xs 4) hL_this hK_this this_now hR_this_now hL_this_now hK_this_now this_now_seas hR_this_now_seas hL_this_now_seas hK_this_now_seas this_now_seas_rise hR_this_now_seas_rise hL_this_now_seas_rise hK_this_now_seas_rise hN_this_now_seas_rise this_now_seas_month hR_this_now_seas_month hL_this_now_seas_month hK_this_now_seas_month hN_this_now_seas_month this_now_seas_value hR_this_now_seas_value hL_this_now_seas_value hK_this_now_seas_value hN_this_now_seas_value this_now_seas_told hR_this_now_seas_told hL_this_now_seas_told hK_this_now_seas_told hN_this_now_seas_told hZ) (cwV 4 hts (tw_V tw_238 tw_239 tw_240 tw_2 tw_241) rfl rfl rfl (by decide +kernel) ⟨Nat.le_of_ble_eq_true rfl, Nat.le_of_ble_eq_true rfl⟩) ⟨pq_blind, pq_recv hK hP hL_this hK_this (by decide) rfl, pq_pre hK hN hP hD⟩ rfl rfl hl.1 rfl (lv_room (Nat.le_of_ble_eq_true rfl)) dL_law_329 ⟨Nat.le_of_ble_eq_true rfl, Nat.le_of_ble_eq_true rfl⟩) hD hS hA hP2 hdis (fun r1 u1 H locs hw1 hP2 hS => ?_)
    obtain ⟨_, _, -, -, hr1⟩ := hw1
    refine lv_aload_n hx hb dL_law_332 rfl (lv_at hl 1 rfl) ?_
    refine lv_aload_n hx hb dL_law_333 rfl (lv_at hl 3 rfl) ?_
    refine lv_iload_n hx hb dL_law_334 rfl (lv_at hl 0 rfl) ?_
    refine lv_iconst (v := 1) hx hb dL_law_335 (by decide) ?_
    refine lv_iadd hx hb dL_law_336 ?_
    refine lv_tov 1 (by decide) ?_
    refine va_sld hx hb hX hbl (Nat.not_le.mpr hbl) hS (vp_in_iff.mpr (by decide)) dL_law_337 ?_
    refine lv_tov (xs 1) rfl ?_
    refine lv_aload_n hx hb dL_law_338 rfl (lv_at hl 3 rfl) ?_
    refine lv_iload_n hx hb dL_law_339 rfl (lv_at hl 0 rfl) ?_
    refine lv_iconst (v := 2) hx hb dL_law_340 (by decide) ?_
    refine lv_iadd hx hb dL_law_341 ?_
    refine lv_tov 2 (by decide) ?_
    refine va_sld hx hb hX hbl (Nat.not_le.mpr hbl) hS (vp_in_iff.mpr (by decide)) dL_law_342 ?_
    refine lv_tov (xs 2) rfl ?_
    refine lv_aload_n hx hb dL_law_343 rfl (lv_at hl 3 rfl) ?_
    refine lv_iload_n hx hb dL_law_344 rfl (lv_at hl 0 rfl) ?_
    refine lv_iconst (v := 3) hx hb dL_law_345 (by decide) ?_
    refine lv_iadd hx hb dL_law_346 ?_
    refine lv_tov 3 (by decide) ?_
    refine va_sld hx hb hX hbl (Nat.not_le.mpr hbl) hS (vp_in_iff.mpr (by decide)) dL_law_347 ?_
    refine lv_tov (xs 3) rfl ?_
    refine lv_if_eq (tgt := 355) hx hb dL_law_348 (by decide) (fun c_2 => ?_) (fun c_2 => absurd c_1 c_2)
    refine lv_iconst (v := 0) hx hb dL_law_355 (by decide) ?_
    refine lv_aload_n hx hb dL_law_356 rfl (lv_at hl 3 rfl) ?_
    refine lv_iload_n hx hb dL_law_357 rfl (lv_at hl 0 rfl) ?_
    refine lv_iconst (v := 4) hx hb dL_law_358 (by decide) ?_
    refine lv_iadd hx hb dL_law_359 ?_
    refine lv_tov 4 (by decide) ?_
    refine va_sld hx hb hX hbl (Nat.not_le.mpr hbl) hS (vp_in_iff.mpr (by decide)) dL_law_360 ?_
    refine lv_tov (xs 4) rfl ?_
    refine pk_i (va_runV (As := [.int (xs 1), .int (xs 2), .int 0, .int (xs 4)]) (rest := [.int r1]) ⟨hx, hb, hml, hown, hts⟩ (c_X12_level l D t τ I2 J2 si sj sq H.size that (xs 1) (xs 2) (0 : Int32) (xs 4) hL_that hK_that that_a hR_that_a hL_that_a hK_that_a hN_that_a (okF_at hF_384 hR_that_a)) (cwV 4 hts (tw_V tw_255 tw_256 tw_257 tw_5 tw_258) rfl rfl rfl (by decide +kernel) ⟨Nat.le_of_ble_eq_true rfl, Nat.le_of_ble_eq_true rfl⟩) ⟨pq_blind, pq_recv hK hP2 hL_that hK_that (by decide) rfl, pq_pre hK hN hP2 hD2⟩ rfl rfl hl.1 rfl (lv_room (Nat.le_of_ble_eq_true rfl)) dL_law_361 ⟨Nat.le_of_ble_eq_true rfl, Nat.le_of_ble_eq_true rfl⟩) hD2 hS hA (fun r2 σ3 μ3 H locs hw2 hP3 hD3 hS => ?_)
    obtain ⟨_, -, hr2⟩ := hw2
    have he : r1 = r2 := by exact hr1.trans hr2.symm
    refine lv_icmp_eq (tgt := 1725) hx hb dL_law_364 (by decide) (fun _ => ?_) (fun q => absurd he q)
    exact lw_tail l hx hb hr hlocks hX hbl (by decide) (by decide) hS (lv_sub hl [3, 0] rfl)
  · refine lv_iconst (v := 1) hx hb dL_law_319 (by decide) ?_
    refine lv_goto (tgt := 324) hx hb dL_law_320 (by decide) ?_
    refine lv_aload_n hx hb dL_law_324 rfl (lv_at hl 3 rfl) ?_
    refine lv_iload_n hx hb dL_law_325 rfl (lv_at hl 0 rfl) ?_
    refine lv_iconst (v := 4) hx hb dL_law_326 (by decide) ?_
    refine lv_iadd hx hb dL_law_327 ?_
    refine lv_tov 4 (by decide) ?_
    refine va_sld hx hb hX hbl (Nat.not_le.mpr hbl) hS (vp_in_iff.mpr (by decide)) dL_law_328 ?_
    refine lv_tov (xs 4) rfl ?_
    refine lk_i (va_runV (As := [.int (xs 1), .int (xs 2), .int 1, .int (xs 4)]) (rest := []) ⟨hx, hb, hml, hown, hts⟩ (c_X11_level l D t σ I J ri rj rq H.size this (xs 1) (xs 2) (1 : Int32) (xs 4) hL_this hK_this this_now hR_this_now hL_this_now hK_this_now this_now_seas hR_this_now_seas hL_this_now_seas hK_this_now_seas this_now_seas_rise hR_this_now_seas_rise hL_this_now_seas_rise hK_this_now_seas_rise hN_this_now_seas_rise this_now_seas_month hR_this_now_seas_month hL_this_now_seas_month hK_this_now_seas_month hN_this_now_seas_month this_now_seas_value hR_this_now_seas_value hL_this_now_seas_value hK_this_now_seas_value hN_this_now_seas_value this_now_seas_told hR_this_now_seas_told hL_this_now_seas_told hK_this_now_seas_told hN_this_now_seas_told hZ) (cwV 4 hts (tw_V tw_238 tw_239 tw_240 tw_2 tw_241) rfl rfl rfl (by decide +kernel) ⟨Nat.le_of_ble_eq_true rfl, Nat.le_of_ble_eq_true rfl⟩) ⟨pq_blind, pq_recv hK hP hL_this hK_this (by decide) rfl, pq_pre hK hN hP hD⟩ rfl rfl hl.1 rfl (lv_room (Nat.le_of_ble_eq_true rfl)) dL_law_329 ⟨Nat.le_of_ble_eq_true rfl, Nat.le_of_ble_eq_true rfl⟩) hD hS hA hP2 hdis (fun r1 u1 H locs hw1 hP2 hS => ?_)
    obtain ⟨_, _, -, -, hr1⟩ := hw1
    refine lv_aload_n hx hb dL_law_332 rfl (lv_at hl 1 rfl) ?_
    refine lv_aload_n hx hb dL_law_333 rfl (lv_at hl 3 rfl) ?_
    refine lv_iload_n hx hb dL_law_334 rfl (lv_at hl 0 rfl) ?_
    refine lv_iconst (v := 1) hx hb dL_law_335 (by decide) ?_
    refine lv_iadd hx hb dL_law_336 ?_
    refine lv_tov 1 (by decide) ?_
    refine va_sld hx hb hX hbl (Nat.not_le.mpr hbl) hS (vp_in_iff.mpr (by decide)) dL_law_337 ?_
    refine lv_tov (xs 1) rfl ?_
    refine lv_aload_n hx hb dL_law_338 rfl (lv_at hl 3 rfl) ?_
    refine lv_iload_n hx hb dL_law_339 rfl (lv_at hl 0 rfl) ?_
    refine lv_iconst (v := 2) hx hb dL_law_340 (by decide) ?_
    refine lv_iadd hx hb dL_law_341 ?_
    refine lv_tov 2 (by decide) ?_
    refine va_sld hx hb hX hbl (Nat.not_le.mpr hbl) hS (vp_in_iff.mpr (by decide)) dL_law_342 ?_
    refine lv_tov (xs 2) rfl ?_
    refine lv_aload_n hx hb dL_law_343 rfl (lv_at hl 3 rfl) ?_
    refine lv_iload_n hx hb dL_law_344 rfl (lv_at hl 0 rfl) ?_
    refine lv_iconst (v := 3) hx hb dL_law_345 (by decide) ?_
    refine lv_iadd hx hb dL_law_346 ?_
    refine lv_tov 3 (by decide) ?_
    refine va_sld hx hb hX hbl (Nat.not_le.mpr hbl) hS (vp_in_iff.mpr (by decide)) dL_law_347 ?_
    refine lv_tov (xs 3) rfl ?_
    refine lv_if_eq (tgt := 355) hx hb dL_law_348 (by decide) (fun c_3 => absurd c_3 c_1) (fun c_3 => ?_)
    refine lv_iconst (v := 1) hx hb dL_law_351 (by decide) ?_
    refine lv_goto (tgt := 356) hx hb dL_law_352 (by decide) ?_
    refine lv_aload_n hx hb dL_law_356 rfl (lv_at hl 3 rfl) ?_
    refine lv_iload_n hx hb dL_law_357 rfl (lv_at hl 0 rfl) ?_
    refine lv_iconst (v := 4) hx hb dL_law_358 (by decide) ?_
    refine lv_iadd hx hb dL_law_359 ?_
    refine lv_tov 4 (by decide) ?_
    refine va_sld hx hb hX hbl (Nat.not_le.mpr hbl) hS (vp_in_iff.mpr (by decide)) dL_law_360 ?_
    refine lv_tov (xs 4) rfl ?_
    refine pk_i (va_runV (As := [.int (xs 1), .int (xs 2), .int 1, .int (xs 4)]) (rest := [.int r1]) ⟨hx, hb, hml, hown, hts⟩ (c_X12_level l D t τ I2 J2 si sj sq H.size that (xs 1) (xs 2) (1 : Int32) (xs 4) hL_that hK_that that_a hR_that_a hL_that_a hK_that_a hN_that_a (okF_at hF_384 hR_that_a)) (cwV 4 hts (tw_V tw_255 tw_256 tw_257 tw_5 tw_258) rfl rfl rfl (by decide +kernel) ⟨Nat.le_of_ble_eq_true rfl, Nat.le_of_ble_eq_true rfl⟩) ⟨pq_blind, pq_recv hK hP2 hL_that hK_that (by decide) rfl, pq_pre hK hN hP2 hD2⟩ rfl rfl hl.1 rfl (lv_room (Nat.le_of_ble_eq_true rfl)) dL_law_361 ⟨Nat.le_of_ble_eq_true rfl, Nat.le_of_ble_eq_true rfl⟩) hD2 hS hA (fun r2 σ3 μ3 H locs hw2 hP3 hD3 hS => ?_)
    obtain ⟨_, -, hr2⟩ := hw2
    have he : r1 = r2 := by exact hr1.trans hr2.symm
    refine lv_icmp_eq (tgt := 1725) hx hb dL_law_364 (by decide) (fun _ => ?_) (fun q => absurd he q)
    exact lw_tail l hx hb hr hlocks hX hbl (by decide) (by decide) hS (lv_sub hl [3, 0] rfl)
set_option maxHeartbeats 8000000 in
set_option maxRecDepth 100000 in
theorem lw_op_3 {p : Program} {e : Env} {s : State} {m : MethodId} {below : List Frame} {meth : Method} {c : Code} {b : Nat} (l : Launch) (hx : p.tables.exec = Jvm.exec) (hb : c.code = cL_law) (hr : meth.sig.returnType = ret) (hml : c.maxLocals = 4) (hown : s.vm.findClass RL = some m.cls) (hlocks : meth.locks = false) (hts : ∀ w ∈ (Cond.initialized RX11 :: wsL_law), w.before #[Value.ref b] s = true) (xs : Nat → Int32) (hX : va_X b 7 xs s s.heap) (hbl : b < s.heap.size) {D : va_G} {t : pq_T} (hK : va_K D vwCl (pq_ty t) s) (hN : pq_N s) {σ τ : pq_S} {I : Nat → Nat → Int32} {J : Nat → Nat → Int64} {ri : Nat → Nat → Int32} {rj : Nat → Nat → Int64} {rq : Nat → Nat → Option Nat} {I2 : Nat → Nat → Int32} {J2 : Nat → Nat → Int64} {si : Nat → Nat → Int32} {sj : Nat → Nat → Int64} {sq : Nat → Nat → Option Nat} {this that : Nat} (hokx : okRingsUnder σ I this) (hL_this : this ∈ σ.1) (hK_this : σ.2.1 this = 11) (hZ : pq_Z I) (hq0 : rq = fun _ _ => none) (hokm : okModel τ I2 si that) (hL_that : that ∈ τ.1) (hK_that : τ.2.1 that = 12) (hdis : ∀ a, a ∈ τ.1 → a ∉ σ.1) {H : Heap} {locs : List Loc} (hP : va_P D vwCl (pq_P t σ (I, J, ri, rj, rq)) H) (hD : va_D (fun q => s.heap.size ≤ q) (pq_P t σ (I, J, ri, rj, rq))) (hP2 : va_P D vwCl (pq_P t τ (I2, J2, si, sj, sq)) H) (hD2 : va_D (fun q => s.heap.size ≤ q) (pq_P t τ (I2, J2, si, sj, sq))) (hS : va_S (fun q => s.heap.size ≤ q) s.heap H locs) {ls : Array Slot} (hl : lv_has ls 4 [(3, .int 0), (2, .ref that), (1, .ref this), (0, .ref b)]) : W p l e room_1 s m #[Value.ref b] below meth c H locs 207 49062 (lw_Z below #[Value.ref b] s) (F0 m 369 ls []) := by
  have hA : ∀ q : Nat, s.heap.size ≤ q → s.heap.size ≤ q := fun _ h => h
  obtain ⟨y_this_352, y_this_353, y_this_354, y_this_355, y_this_356, hd_this_352_353, hd_this_352_354, hd_this_353_354⟩ := id hokx
  obtain ⟨-, this_now, hR_this_now, hL_this_now, hK_this_now, ho_this_now⟩ := y_this_352
  obtain ⟨y_this_now_325, y_this_now_326, y_this_now_327, y_this_now_328, y_this_now_329, y_this_now_330, y_this_now_331, y_this_now_332, hi_this_now_320, hi_this_now_323, hi_this_now_324⟩ := id ho_this_now
  obtain ⟨-, this_now_seas, hR_this_now_seas, hL_this_now_seas, hK_this_now_seas, ho_this_now_seas⟩ := y_this_now_326
  obtain ⟨y_this_now_seas_225, y_this_now_seas_226, y_this_now_seas_227, y_this_now_seas_228, y_this_now_seas_229, y_this_now_seas_230, y_this_now_seas_231, y_this_now_seas_232, y_this_now_seas_233, hi_this_now_seas_237⟩ := id ho_this_now_seas
  obtain ⟨y_that_384, y_that_385, y_that_386, y_that_387, y_that_400, y_that_404, y_that_405, y_that_408, y_that_409, y_that_411, y_that_412, y_that_413, y_that_414, hi_that_388, hi_that_389, hi_that_390, hi_that_391, hd_that_384_385, hd_that_384_386, hd_that_384_414, hd_that_386_414, hF_384, hF_385⟩ := id hokm
  obtain ⟨-, that_a, hR_that_a, hL_that_a, hK_that_a, hN_that_a⟩ := y_that_384
  refine lv_aload_n hx hb dL_law_369 rfl (lv_at hl 2 rfl) ?_
  refine lv_aload_n hx hb dL_law_370 rfl (lv_at hl 3 rfl) ?_
  refine lv_iload_n hx hb dL_law_371 rfl (lv_at hl 0 rfl) ?_
  refine lv_iconst (v := 1) hx hb dL_law_372 (by decide) ?_
  refine lv_iadd hx hb dL_law_373 ?_
  refine lv_tov 1 (by decide) ?_
  refine va_sld hx hb hX hbl (Nat.not_le.mpr hbl) hS (vp_in_iff.mpr (by decide)) dL_law_374 ?_
  refine lv_tov (xs 1) rfl ?_
  refine lv_aload_n hx hb dL_law_375 rfl (lv_at hl 3 rfl) ?_
  refine lv_iload_n hx hb dL_law_376 rfl (lv_at hl 0 rfl) ?_
  refine lv_iconst (v := 2) hx hb dL_law_377 (by decide) ?_
  refine lv_iadd hx hb dL_law_378 ?_
  refine lv_tov 2 (by decide) ?_
  refine va_sld hx hb hX hbl (Nat.not_le.mpr hbl) hS (vp_in_iff.mpr (by decide)) dL_law_379 ?_
  refine lv_tov (xs 2) rfl ?_
  refine lv_aload_n hx hb dL_law_380 rfl (lv_at hl 3 rfl) ?_
  refine lv_iload_n hx hb dL_law_381 rfl (lv_at hl 0 rfl) ?_
  refine lv_iconst (v := 3) hx hb dL_law_382 (by decide) ?_
  refine lv_iadd hx hb dL_law_383 ?_
  refine lv_tov 3 (by decide) ?_
  refine va_sld hx hb hX hbl (Nat.not_le.mpr hbl) hS (vp_in_iff.mpr (by decide)) dL_law_384 ?_
  refine lv_tov (xs 3) rfl ?_
  refine lk_i (va_runV (As := [.int (xs 1), .int (xs 2), .int (xs 3)]) (rest := []) ⟨hx, hb, hml, hown, hts⟩ (c_X11_levelOf l D t σ I J ri rj rq H.size this (xs 1) (xs 2) (xs 3) hL_this hK_this this_now hR_this_now hL_this_now hK_this_now this_now_seas hR_this_now_seas hL_this_now_seas hK_this_now_seas hZ) (cwV 3 hts (tw_V tw_265 tw_266 tw_267 tw_2 tw_268) rfl rfl rfl (by decide +kernel) ⟨Nat.le_of_ble_eq_true rfl, Nat.le_of_ble_eq_true rfl⟩) ⟨pq_blind, pq_recv hK hP hL_this hK_this (by decide) rfl, pq_pre hK hN hP hD⟩ rfl rfl hl.1 rfl (lv_room (Nat.le_of_ble_eq_true rfl)) dL_law_385 ⟨Nat.le_of_ble_eq_true rfl, Nat.le_of_ble_eq_true rfl⟩) hD hS hA hP2 hdis (fun r1 u1 H locs hw1 hP2 hS => ?_)
  obtain ⟨-, hr1⟩ := hw1
  refine lv_aload_n hx hb dL_law_388 rfl (lv_at hl 1 rfl) ?_
  refine lv_aload_n hx hb dL_law_389 rfl (lv_at hl 3 rfl) ?_
  refine lv_iload_n hx hb dL_law_390 rfl (lv_at hl 0 rfl) ?_
  refine lv_iconst (v := 1) hx hb dL_law_391 (by decide) ?_
  refine lv_iadd hx hb dL_law_392 ?_
  refine lv_tov 1 (by decide) ?_
  refine va_sld hx hb hX hbl (Nat.not_le.mpr hbl) hS (vp_in_iff.mpr (by decide)) dL_law_393 ?_
  refine lv_tov (xs 1) rfl ?_
  refine lv_aload_n hx hb dL_law_394 rfl (lv_at hl 3 rfl) ?_
  refine lv_iload_n hx hb dL_law_395 rfl (lv_at hl 0 rfl) ?_
  refine lv_iconst (v := 2) hx hb dL_law_396 (by decide) ?_
  refine lv_iadd hx hb dL_law_397 ?_
  refine lv_tov 2 (by decide) ?_
  refine va_sld hx hb hX hbl (Nat.not_le.mpr hbl) hS (vp_in_iff.mpr (by decide)) dL_law_398 ?_
  refine lv_tov (xs 2) rfl ?_
  refine lv_aload_n hx hb dL_law_399 rfl (lv_at hl 3 rfl) ?_
  refine lv_iload_n hx hb dL_law_400 rfl (lv_at hl 0 rfl) ?_
  refine lv_iconst (v := 3) hx hb dL_law_401 (by decide) ?_
  refine lv_iadd hx hb dL_law_402 ?_
  refine lv_tov 3 (by decide) ?_
  refine va_sld hx hb hX hbl (Nat.not_le.mpr hbl) hS (vp_in_iff.mpr (by decide)) dL_law_403 ?_
  refine lv_tov (xs 3) rfl ?_
  refine pk_i (va_runV (As := [.int (xs 1), .int (xs 2), .int (xs 3)]) (rest := [.int r1]) ⟨hx, hb, hml, hown, hts⟩ (c_X12_levelOf l D t τ I2 J2 si sj sq H.size that (xs 1) (xs 2) (xs 3) hL_that hK_that that_a hR_that_a hL_that_a hK_that_a hN_that_a (okF_at hF_384 hR_that_a)) (cwV 3 hts (tw_V tw_284 tw_285 tw_286 tw_5 tw_287) rfl rfl rfl (by decide +kernel) ⟨Nat.le_of_ble_eq_true rfl, Nat.le_of_ble_eq_true rfl⟩) ⟨pq_blind, pq_recv hK hP2 hL_that hK_that (by decide) rfl, pq_pre hK hN hP2 hD2⟩ rfl rfl hl.1 rfl (lv_room (Nat.le_of_ble_eq_true rfl)) dL_law_404 ⟨Nat.le_of_ble_eq_true rfl, Nat.le_of_ble_eq_true rfl⟩) hD2 hS hA (fun r2 σ3 μ3 H locs hw2 hP3 hD3 hS => ?_)
  obtain ⟨-, hr2⟩ := hw2
  have he : r1 = r2 := by exact hr1.trans hr2.symm
  refine lv_icmp_eq (tgt := 1725) hx hb dL_law_407 (by decide) (fun _ => ?_) (fun q => absurd he q)
  exact lw_tail l hx hb hr hlocks hX hbl (by decide) (by decide) hS (lv_sub hl [3, 0] rfl)
set_option maxHeartbeats 8000000 in
set_option maxRecDepth 100000 in
theorem lw_op_4 {p : Program} {e : Env} {s : State} {m : MethodId} {below : List Frame} {meth : Method} {c : Code} {b : Nat} (l : Launch) (hx : p.tables.exec = Jvm.exec) (hb : c.code = cL_law) (hr : meth.sig.returnType = ret) (hml : c.maxLocals = 4) (hown : s.vm.findClass RL = some m.cls) (hlocks : meth.locks = false) (hts : ∀ w ∈ (Cond.initialized RX11 :: wsL_law), w.before #[Value.ref b] s = true) (xs : Nat → Int32) (hX : va_X b 7 xs s s.heap) (hbl : b < s.heap.size) {D : va_G} {t : pq_T} (hK : va_K D vwCl (pq_ty t) s) (hN : pq_N s) {σ τ : pq_S} {I : Nat → Nat → Int32} {J : Nat → Nat → Int64} {ri : Nat → Nat → Int32} {rj : Nat → Nat → Int64} {rq : Nat → Nat → Option Nat} {I2 : Nat → Nat → Int32} {J2 : Nat → Nat → Int64} {si : Nat → Nat → Int32} {sj : Nat → Nat → Int64} {sq : Nat → Nat → Option Nat} {this that : Nat} (hokx : okRingsUnder σ I this) (hL_this : this ∈ σ.1) (hK_this : σ.2.1 this = 11) (hZ : pq_Z I) (hq0 : rq = fun _ _ => none) (hokm : okModel τ I2 si that) (hL_that : that ∈ τ.1) (hK_that : τ.2.1 that = 12) (hdis : ∀ a, a ∈ τ.1 → a ∉ σ.1) {H : Heap} {locs : List Loc} (hP : va_P D vwCl (pq_P t σ (I, J, ri, rj, rq)) H) (hD : va_D (fun q => s.heap.size ≤ q) (pq_P t σ (I, J, ri, rj, rq))) (hP2 : va_P D vwCl (pq_P t τ (I2, J2, si, sj, sq)) H) (hD2 : va_D (fun q => s.heap.size ≤ q) (pq_P t τ (I2, J2, si, sj, sq))) (hS : va_S (fun q => s.heap.size ≤ q) s.heap H locs) {ls : Array Slot} (hl : lv_has ls 4 [(3, .int 0), (2, .ref that), (1, .ref this), (0, .ref b)]) : W p l e room_1 s m #[Value.ref b] below meth c H locs 207 49062 (lw_Z below #[Value.ref b] s) (F0 m 412 ls []) := by
  have hA : ∀ q : Nat, s.heap.size ≤ q → s.heap.size ≤ q := fun _ h => h
  obtain ⟨y_this_352, y_this_353, y_this_354, y_this_355, y_this_356, hd_this_352_353, hd_this_352_354, hd_this_353_354⟩ := id hokx
  obtain ⟨-, this_now, hR_this_now, hL_this_now, hK_this_now, ho_this_now⟩ := y_this_352
  obtain ⟨y_this_now_325, y_this_now_326, y_this_now_327, y_this_now_328, y_this_now_329, y_this_now_330, y_this_now_331, y_this_now_332, hi_this_now_320, hi_this_now_323, hi_this_now_324⟩ := id ho_this_now
  obtain ⟨-, this_now_seas, hR_this_now_seas, hL_this_now_seas, hK_this_now_seas, ho_this_now_seas⟩ := y_this_now_326
  obtain ⟨y_this_now_seas_225, y_this_now_seas_226, y_this_now_seas_227, y_this_now_seas_228, y_this_now_seas_229, y_this_now_seas_230, y_this_now_seas_231, y_this_now_seas_232, y_this_now_seas_233, hi_this_now_seas_237⟩ := id ho_this_now_seas
  obtain ⟨-, this_now_seas_low, hR_this_now_seas_low, hL_this_now_seas_low, hK_this_now_seas_low, hN_this_now_seas_low⟩ := y_this_now_seas_229
  obtain ⟨-, this_now_seas_high, hR_this_now_seas_high, hL_this_now_seas_high, hK_this_now_seas_high, hN_this_now_seas_high⟩ := y_this_now_seas_230
  obtain ⟨-, this_now_seas_warm, hR_this_now_seas_warm, hL_this_now_seas_warm, hK_this_now_seas_warm, hN_this_now_seas_warm⟩ := y_this_now_seas_231
  obtain ⟨-, this_now_seas_drift, hR_this_now_seas_drift, hL_this_now_seas_drift, hK_this_now_seas_drift, hN_this_now_seas_drift⟩ := y_this_now_seas_232
  obtain ⟨-, this_now_seas_rain, hR_this_now_seas_rain, hL_this_now_seas_rain, hK_this_now_seas_rain, hN_this_now_seas_rain⟩ := y_this_now_seas_233
  obtain ⟨y_that_384, y_that_385, y_that_386, y_that_387, y_that_400, y_that_404, y_that_405, y_that_408, y_that_409, y_that_411, y_that_412, y_that_413, y_that_414, hi_that_388, hi_that_389, hi_that_390, hi_that_391, hd_that_384_385, hd_that_384_386, hd_that_384_414, hd_that_386_414, hF_384, hF_385⟩ := id hokm
  obtain ⟨-, that_a, hR_that_a, hL_that_a, hK_that_a, hN_that_a⟩ := y_that_384
  refine lv_aload_n hx hb dL_law_412 rfl (lv_at hl 2 rfl) ?_
  refine lv_aload_n hx hb dL_law_413 rfl (lv_at hl 3 rfl) ?_
  refine lv_iload_n hx hb dL_law_414 rfl (lv_at hl 0 rfl) ?_
  refine lv_iconst (v := 1) hx hb dL_law_415 (by decide) ?_
  refine lv_iadd hx hb dL_law_416 ?_
  refine lv_tov 1 (by decide) ?_
  refine va_sld hx hb hX hbl (Nat.not_le.mpr hbl) hS (vp_in_iff.mpr (by decide)) dL_law_417 ?_
  refine lv_tov (xs 1) rfl ?_
  refine lv_aload_n hx hb dL_law_418 rfl (lv_at hl 3 rfl) ?_
  refine lv_iload_n hx hb dL_law_419 rfl (lv_at hl 0 rfl) ?_
  refine lv_iconst (v := 2) hx hb dL_law_420 (by decide) ?_
  refine lv_iadd hx hb dL_law_421 ?_
  refine lv_tov 2 (by decide) ?_
  refine va_sld hx hb hX hbl (Nat.not_le.mpr hbl) hS (vp_in_iff.mpr (by decide)) dL_law_422 ?_
  refine lv_tov (xs 2) rfl ?_
  refine lv_aload_n hx hb dL_law_423 rfl (lv_at hl 3 rfl) ?_
  refine lv_iload_n hx hb dL_law_424 rfl (lv_at hl 0 rfl) ?_
  refine lv_iconst (v := 3) hx hb dL_law_425 (by decide) ?_
  refine lv_iadd hx hb dL_law_426 ?_
  refine lv_tov 3 (by decide) ?_
  refine va_sld hx hb hX hbl (Nat.not_le.mpr hbl) hS (vp_in_iff.mpr (by decide)) dL_law_427 ?_
  refine lv_tov (xs 3) rfl ?_
  refine lv_aload_n hx hb dL_law_428 rfl (lv_at hl 3 rfl) ?_
  refine lv_iload_n hx hb dL_law_429 rfl (lv_at hl 0 rfl) ?_
  refine lv_iconst (v := 4) hx hb dL_law_430 (by decide) ?_
  refine lv_iadd hx hb dL_law_431 ?_
  refine lv_tov 4 (by decide) ?_
  refine va_sld hx hb hX hbl (Nat.not_le.mpr hbl) hS (vp_in_iff.mpr (by decide)) dL_law_432 ?_
  refine lv_tov (xs 4) rfl ?_
  refine lv_aload_n hx hb dL_law_433 rfl (lv_at hl 3 rfl) ?_
  refine lv_iload_n hx hb dL_law_434 rfl (lv_at hl 0 rfl) ?_
  refine lv_iconst (v := 5) hx hb dL_law_435 (by decide) ?_
  refine lv_iadd hx hb dL_law_436 ?_
  refine lv_tov 5 (by decide) ?_
  refine va_sld hx hb hX hbl (Nat.not_le.mpr hbl) hS (vp_in_iff.mpr (by decide)) dL_law_437 ?_
  refine lv_tov (xs 5) rfl ?_
  refine lv_aload_n hx hb dL_law_438 rfl (lv_at hl 3 rfl) ?_
  refine lv_iload_n hx hb dL_law_439 rfl (lv_at hl 0 rfl) ?_
  refine lv_bipush (v := 6) hx hb dL_law_440 (by decide) ?_
  refine lv_iadd hx hb dL_law_442 ?_
  refine lv_tov 6 (by decide) ?_
  refine va_sld hx hb hX hbl (Nat.not_le.mpr hbl) hS (vp_in_iff.mpr (by decide)) dL_law_443 ?_
  refine lv_tov (xs 6) rfl ?_
  refine lk_i (va_runV (As := [.int (xs 1), .int (xs 2), .int (xs 3), .int (xs 4), .int (xs 5), .int (xs 6)]) (rest := []) ⟨hx, hb, hml, hown, hts⟩ (c_X11_table l D t σ I J ri rj rq H.size this (xs 1) (xs 2) (xs 3) (xs 4) (xs 5) (xs 6) hL_this hK_this this_now hR_this_now hL_this_now hK_this_now this_now_seas hR_this_now_seas hL_this_now_seas hK_this_now_seas this_now_seas_low hR_this_now_seas_low hL_this_now_seas_low hK_this_now_seas_low hN_this_now_seas_low this_now_seas_high hR_this_now_seas_high hL_this_now_seas_high hK_this_now_seas_high hN_this_now_seas_high this_now_seas_warm hR_this_now_seas_warm hL_this_now_seas_warm hK_this_now_seas_warm hN_this_now_seas_warm this_now_seas_drift hR_this_now_seas_drift hL_this_now_seas_drift hK_this_now_seas_drift hN_this_now_seas_drift this_now_seas_rain hR_this_now_seas_rain hL_this_now_seas_rain hK_this_now_seas_rain hN_this_now_seas_rain) (cwV 6 hts (tw_V tw_301 tw_302 tw_303 tw_2 tw_304) rfl rfl rfl (by decide +kernel) ⟨Nat.le_of_ble_eq_true rfl, Nat.le_of_ble_eq_true rfl⟩) ⟨pq_blind, pq_recv hK hP hL_this hK_this (by decide) rfl, pq_pre hK hN hP hD⟩ rfl rfl hl.1 rfl (lv_room (Nat.le_of_ble_eq_true rfl)) dL_law_444 ⟨Nat.le_of_ble_eq_true rfl, Nat.le_of_ble_eq_true rfl⟩) hD hS hA hP2 hdis (fun r1 u1 H locs hw1 hP2 hS => ?_)
  obtain ⟨_, -, hr1⟩ := hw1
  refine lv_aload_n hx hb dL_law_447 rfl (lv_at hl 1 rfl) ?_
  refine lv_aload_n hx hb dL_law_448 rfl (lv_at hl 3 rfl) ?_
  refine lv_iload_n hx hb dL_law_449 rfl (lv_at hl 0 rfl) ?_
  refine lv_iconst (v := 1) hx hb dL_law_450 (by decide) ?_
  refine lv_iadd hx hb dL_law_451 ?_
  refine lv_tov 1 (by decide) ?_
  refine va_sld hx hb hX hbl (Nat.not_le.mpr hbl) hS (vp_in_iff.mpr (by decide)) dL_law_452 ?_
  refine lv_tov (xs 1) rfl ?_
  refine lv_aload_n hx hb dL_law_453 rfl (lv_at hl 3 rfl) ?_
  refine lv_iload_n hx hb dL_law_454 rfl (lv_at hl 0 rfl) ?_
  refine lv_iconst (v := 2) hx hb dL_law_455 (by decide) ?_
  refine lv_iadd hx hb dL_law_456 ?_
  refine lv_tov 2 (by decide) ?_
  refine va_sld hx hb hX hbl (Nat.not_le.mpr hbl) hS (vp_in_iff.mpr (by decide)) dL_law_457 ?_
  refine lv_tov (xs 2) rfl ?_
  refine lv_aload_n hx hb dL_law_458 rfl (lv_at hl 3 rfl) ?_
  refine lv_iload_n hx hb dL_law_459 rfl (lv_at hl 0 rfl) ?_
  refine lv_iconst (v := 3) hx hb dL_law_460 (by decide) ?_
  refine lv_iadd hx hb dL_law_461 ?_
  refine lv_tov 3 (by decide) ?_
  refine va_sld hx hb hX hbl (Nat.not_le.mpr hbl) hS (vp_in_iff.mpr (by decide)) dL_law_462 ?_
  refine lv_tov (xs 3) rfl ?_
  refine lv_aload_n hx hb dL_law_463 rfl (lv_at hl 3 rfl) ?_
  refine lv_iload_n hx hb dL_law_464 rfl (lv_at hl 0 rfl) ?_
  refine lv_iconst (v := 4) hx hb dL_law_465 (by decide) ?_
  refine lv_iadd hx hb dL_law_466 ?_
  refine lv_tov 4 (by decide) ?_
  refine va_sld hx hb hX hbl (Nat.not_le.mpr hbl) hS (vp_in_iff.mpr (by decide)) dL_law_467 ?_
  refine lv_tov (xs 4) rfl ?_
  refine lv_aload_n hx hb dL_law_468 rfl (lv_at hl 3 rfl) ?_
  refine lv_iload_n hx hb dL_law_469 rfl (lv_at hl 0 rfl) ?_
  refine lv_iconst (v := 5) hx hb dL_law_470 (by decide) ?_
  refine lv_iadd hx hb dL_law_471 ?_
  refine lv_tov 5 (by decide) ?_
  refine va_sld hx hb hX hbl (Nat.not_le.mpr hbl) hS (vp_in_iff.mpr (by decide)) dL_law_472 ?_
  refine lv_tov (xs 5) rfl ?_
  refine lv_aload_n hx hb dL_law_473 rfl (lv_at hl 3 rfl) ?_
  refine lv_iload_n hx hb dL_law_474 rfl (lv_at hl 0 rfl) ?_
  refine lv_bipush (v := 6) hx hb dL_law_475 (by decide) ?_
  refine lv_iadd hx hb dL_law_477 ?_
  refine lv_tov 6 (by decide) ?_
  refine va_sld hx hb hX hbl (Nat.not_le.mpr hbl) hS (vp_in_iff.mpr (by decide)) dL_law_478 ?_
  refine lv_tov (xs 6) rfl ?_
  refine pk_i (va_runV (As := [.int (xs 1), .int (xs 2), .int (xs 3), .int (xs 4), .int (xs 5), .int (xs 6)]) (rest := [.int r1]) ⟨hx, hb, hml, hown, hts⟩ (c_X12_table l D t τ I2 J2 si sj sq H.size that (xs 1) (xs 2) (xs 3) (xs 4) (xs 5) (xs 6) hL_that hK_that that_a hR_that_a hL_that_a hK_that_a hN_that_a (okF_at hF_384 hR_that_a)) (cwV 6 hts (tw_V tw_310 tw_311 tw_312 tw_5 tw_313) rfl rfl rfl (by decide +kernel) ⟨Nat.le_of_ble_eq_true rfl, Nat.le_of_ble_eq_true rfl⟩) ⟨pq_blind, pq_recv hK hP2 hL_that hK_that (by decide) rfl, pq_pre hK hN hP2 hD2⟩ rfl rfl hl.1 rfl (lv_room (Nat.le_of_ble_eq_true rfl)) dL_law_479 ⟨Nat.le_of_ble_eq_true rfl, Nat.le_of_ble_eq_true rfl⟩) hD2 hS hA (fun r2 σ3 μ3 H locs hw2 hP3 hD3 hS => ?_)
  obtain ⟨_, -, hr2⟩ := hw2
  have he : r1 = r2 := by exact hr1.trans hr2.symm
  refine lv_icmp_eq (tgt := 1725) hx hb dL_law_482 (by decide) (fun _ => ?_) (fun q => absurd he q)
  exact lw_tail l hx hb hr hlocks hX hbl (by decide) (by decide) hS (lv_sub hl [3, 0] rfl)
set_option maxHeartbeats 8000000 in
set_option maxRecDepth 100000 in
theorem lw_op_5 {p : Program} {e : Env} {s : State} {m : MethodId} {below : List Frame} {meth : Method} {c : Code} {b : Nat} (l : Launch) (hx : p.tables.exec = Jvm.exec) (hb : c.code = cL_law) (hr : meth.sig.returnType = ret) (hml : c.maxLocals = 4) (hown : s.vm.findClass RL = some m.cls) (hlocks : meth.locks = false) (hts : ∀ w ∈ (Cond.initialized RX11 :: wsL_law), w.before #[Value.ref b] s = true) (xs : Nat → Int32) (hX : va_X b 7 xs s s.heap) (hbl : b < s.heap.size) {D : va_G} {t : pq_T} (hK : va_K D vwCl (pq_ty t) s) (hN : pq_N s) {σ τ : pq_S} {I : Nat → Nat → Int32} {J : Nat → Nat → Int64} {ri : Nat → Nat → Int32} {rj : Nat → Nat → Int64} {rq : Nat → Nat → Option Nat} {I2 : Nat → Nat → Int32} {J2 : Nat → Nat → Int64} {si : Nat → Nat → Int32} {sj : Nat → Nat → Int64} {sq : Nat → Nat → Option Nat} {this that : Nat} (hokx : okRingsUnder σ I this) (hL_this : this ∈ σ.1) (hK_this : σ.2.1 this = 11) (hZ : pq_Z I) (hq0 : rq = fun _ _ => none) (hokm : okModel τ I2 si that) (hL_that : that ∈ τ.1) (hK_that : τ.2.1 that = 12) (hdis : ∀ a, a ∈ τ.1 → a ∉ σ.1) {H : Heap} {locs : List Loc} (hP : va_P D vwCl (pq_P t σ (I, J, ri, rj, rq)) H) (hD : va_D (fun q => s.heap.size ≤ q) (pq_P t σ (I, J, ri, rj, rq))) (hP2 : va_P D vwCl (pq_P t τ (I2, J2, si, sj, sq)) H) (hD2 : va_D (fun q => s.heap.size ≤ q) (pq_P t τ (I2, J2, si, sj, sq))) (hS : va_S (fun q => s.heap.size ≤ q) s.heap H locs) {ls : Array Slot} (hl : lv_has ls 4 [(3, .int 0), (2, .ref that), (1, .ref this), (0, .ref b)]) : W p l e room_1 s m #[Value.ref b] below meth c H locs 207 49062 (lw_Z below #[Value.ref b] s) (F0 m 487 ls []) := by
  have hA : ∀ q : Nat, s.heap.size ≤ q → s.heap.size ≤ q := fun _ h => h
  obtain ⟨y_this_352, y_this_353, y_this_354, y_this_355, y_this_356, hd_this_352_353, hd_this_352_354, hd_this_353_354⟩ := id hokx
  obtain ⟨-, this_now, hR_this_now, hL_this_now, hK_this_now, ho_this_now⟩ := y_this_352
  obtain ⟨y_this_now_325, y_this_now_326, y_this_now_327, y_this_now_328, y_this_now_329, y_this_now_330, y_this_now_331, y_this_now_332, hi_this_now_320, hi_this_now_323, hi_this_now_324⟩ := id ho_this_now
  obtain ⟨-, this_now_seas, hR_this_now_seas, hL_this_now_seas, hK_this_now_seas, ho_this_now_seas⟩ := y_this_now_326
  obtain ⟨y_this_now_seas_225, y_this_now_seas_226, y_this_now_seas_227, y_this_now_seas_228, y_this_now_seas_229, y_this_now_seas_230, y_this_now_seas_231, y_this_now_seas_232, y_this_now_seas_233, hi_this_now_seas_237⟩ := id ho_this_now_seas
  obtain ⟨y_that_384, y_that_385, y_that_386, y_that_387, y_that_400, y_that_404, y_that_405, y_that_408, y_that_409, y_that_411, y_that_412, y_that_413, y_that_414, hi_that_388, hi_that_389, hi_that_390, hi_that_391, hd_that_384_385, hd_that_384_386, hd_that_384_414, hd_that_386_414, hF_384, hF_385⟩ := id hokm
  obtain ⟨-, that_a, hR_that_a, hL_that_a, hK_that_a, hN_that_a⟩ := y_that_384
  refine lv_aload_n hx hb dL_law_487 rfl (lv_at hl 2 rfl) ?_
  refine lv_aload_n hx hb dL_law_488 rfl (lv_at hl 3 rfl) ?_
  refine lv_iload_n hx hb dL_law_489 rfl (lv_at hl 0 rfl) ?_
  refine lv_iconst (v := 1) hx hb dL_law_490 (by decide) ?_
  refine lv_iadd hx hb dL_law_491 ?_
  refine lv_tov 1 (by decide) ?_
  refine va_sld hx hb hX hbl (Nat.not_le.mpr hbl) hS (vp_in_iff.mpr (by decide)) dL_law_492 ?_
  refine lv_tov (xs 1) rfl ?_
  refine lv_aload_n hx hb dL_law_493 rfl (lv_at hl 3 rfl) ?_
  refine lv_iload_n hx hb dL_law_494 rfl (lv_at hl 0 rfl) ?_
  refine lv_iconst (v := 2) hx hb dL_law_495 (by decide) ?_
  refine lv_iadd hx hb dL_law_496 ?_
  refine lv_tov 2 (by decide) ?_
  refine va_sld hx hb hX hbl (Nat.not_le.mpr hbl) hS (vp_in_iff.mpr (by decide)) dL_law_497 ?_
  refine lv_tov (xs 2) rfl ?_
  refine lv_aload_n hx hb dL_law_498 rfl (lv_at hl 3 rfl) ?_
  refine lv_iload_n hx hb dL_law_499 rfl (lv_at hl 0 rfl) ?_
  refine lv_iconst (v := 3) hx hb dL_law_500 (by decide) ?_
  refine lv_iadd hx hb dL_law_501 ?_
  refine lv_tov 3 (by decide) ?_
  refine va_sld hx hb hX hbl (Nat.not_le.mpr hbl) hS (vp_in_iff.mpr (by decide)) dL_law_502 ?_
  refine lv_tov (xs 3) rfl ?_
  refine lv_aload_n hx hb dL_law_503 rfl (lv_at hl 3 rfl) ?_
  refine lv_iload_n hx hb dL_law_504 rfl (lv_at hl 0 rfl) ?_
  refine lv_iconst (v := 4) hx hb dL_law_505 (by decide) ?_
  refine lv_iadd hx hb dL_law_506 ?_
  refine lv_tov 4 (by decide) ?_
  refine va_sld hx hb hX hbl (Nat.not_le.mpr hbl) hS (vp_in_iff.mpr (by decide)) dL_law_507 ?_
  refine lv_tov (xs 4) rfl ?_
  refine lv_aload_n hx hb dL_law_508 rfl (lv_at hl 3 rfl) ?_
  refine lv_iload_n hx hb dL_law_509 rfl (lv_at hl 0 rfl) ?_
  refine lv_iconst (v := 5) hx hb dL_law_510 (by decide) ?_
  refine lv_iadd hx hb dL_law_511 ?_
  refine lv_tov 5 (by decide) ?_
  refine va_sld hx hb hX hbl (Nat.not_le.mpr hbl) hS (vp_in_iff.mpr (by decide)) dL_law_512 ?_
  refine lv_tov (xs 5) rfl ?_
  refine lk_i (va_runV (As := [.int (xs 1), .int (xs 2), .int (xs 3), .int (xs 4), .int (xs 5)]) (rest := []) ⟨hx, hb, hml, hown, hts⟩ (c_X11_rules l D t σ I J ri rj rq H.size this (xs 1) (xs 2) (xs 3) (xs 4) (xs 5) hL_this hK_this this_now hR_this_now hL_this_now hK_this_now this_now_seas hR_this_now_seas hL_this_now_seas hK_this_now_seas) (cwV 5 hts (tw_V tw_314 tw_315 tw_316 tw_2 tw_317) rfl rfl rfl (by decide +kernel) ⟨Nat.le_of_ble_eq_true rfl, Nat.le_of_ble_eq_true rfl⟩) ⟨pq_blind, pq_recv hK hP hL_this hK_this (by decide) rfl, pq_pre hK hN hP hD⟩ rfl rfl hl.1 rfl (lv_room (Nat.le_of_ble_eq_true rfl)) dL_law_513 ⟨Nat.le_of_ble_eq_true rfl, Nat.le_of_ble_eq_true rfl⟩) hD hS hA hP2 hdis (fun r1 u1 H locs hw1 hP2 hS => ?_)
  obtain ⟨_, -, -, hr1⟩ := hw1
  refine lv_aload_n hx hb dL_law_516 rfl (lv_at hl 1 rfl) ?_
  refine lv_aload_n hx hb dL_law_517 rfl (lv_at hl 3 rfl) ?_
  refine lv_iload_n hx hb dL_law_518 rfl (lv_at hl 0 rfl) ?_
  refine lv_iconst (v := 1) hx hb dL_law_519 (by decide) ?_
  refine lv_iadd hx hb dL_law_520 ?_
  refine lv_tov 1 (by decide) ?_
  refine va_sld hx hb hX hbl (Nat.not_le.mpr hbl) hS (vp_in_iff.mpr (by decide)) dL_law_521 ?_
  refine lv_tov (xs 1) rfl ?_
  refine lv_aload_n hx hb dL_law_522 rfl (lv_at hl 3 rfl) ?_
  refine lv_iload_n hx hb dL_law_523 rfl (lv_at hl 0 rfl) ?_
  refine lv_iconst (v := 2) hx hb dL_law_524 (by decide) ?_
  refine lv_iadd hx hb dL_law_525 ?_
  refine lv_tov 2 (by decide) ?_
  refine va_sld hx hb hX hbl (Nat.not_le.mpr hbl) hS (vp_in_iff.mpr (by decide)) dL_law_526 ?_
  refine lv_tov (xs 2) rfl ?_
  refine lv_aload_n hx hb dL_law_527 rfl (lv_at hl 3 rfl) ?_
  refine lv_iload_n hx hb dL_law_528 rfl (lv_at hl 0 rfl) ?_
  refine lv_iconst (v := 3) hx hb dL_law_529 (by decide) ?_
  refine lv_iadd hx hb dL_law_530 ?_
  refine lv_tov 3 (by decide) ?_
  refine va_sld hx hb hX hbl (Nat.not_le.mpr hbl) hS (vp_in_iff.mpr (by decide)) dL_law_531 ?_
  refine lv_tov (xs 3) rfl ?_
  refine lv_aload_n hx hb dL_law_532 rfl (lv_at hl 3 rfl) ?_
  refine lv_iload_n hx hb dL_law_533 rfl (lv_at hl 0 rfl) ?_
  refine lv_iconst (v := 4) hx hb dL_law_534 (by decide) ?_
  refine lv_iadd hx hb dL_law_535 ?_
  refine lv_tov 4 (by decide) ?_
  refine va_sld hx hb hX hbl (Nat.not_le.mpr hbl) hS (vp_in_iff.mpr (by decide)) dL_law_536 ?_
  refine lv_tov (xs 4) rfl ?_
  refine lv_aload_n hx hb dL_law_537 rfl (lv_at hl 3 rfl) ?_
  refine lv_iload_n hx hb dL_law_538 rfl (lv_at hl 0 rfl) ?_
  refine lv_iconst (v := 5) hx hb dL_law_539 (by decide) ?_
  refine lv_iadd hx hb dL_law_540 ?_
  refine lv_tov 5 (by decide) ?_
  refine va_sld hx hb hX hbl (Nat.not_le.mpr hbl) hS (vp_in_iff.mpr (by decide)) dL_law_541 ?_
  refine lv_tov (xs 5) rfl ?_
  refine pk_i (va_runV (As := [.int (xs 1), .int (xs 2), .int (xs 3), .int (xs 4), .int (xs 5)]) (rest := [.int r1]) ⟨hx, hb, hml, hown, hts⟩ (c_X12_rules l D t τ I2 J2 si sj sq H.size that (xs 1) (xs 2) (xs 3) (xs 4) (xs 5) hL_that hK_that that_a hR_that_a hL_that_a hK_that_a hN_that_a (okF_at hF_384 hR_that_a)) (cwV 5 hts (tw_V tw_323 tw_324 tw_325 tw_5 tw_326) rfl rfl rfl (by decide +kernel) ⟨Nat.le_of_ble_eq_true rfl, Nat.le_of_ble_eq_true rfl⟩) ⟨pq_blind, pq_recv hK hP2 hL_that hK_that (by decide) rfl, pq_pre hK hN hP2 hD2⟩ rfl rfl hl.1 rfl (lv_room (Nat.le_of_ble_eq_true rfl)) dL_law_542 ⟨Nat.le_of_ble_eq_true rfl, Nat.le_of_ble_eq_true rfl⟩) hD2 hS hA (fun r2 σ3 μ3 H locs hw2 hP3 hD3 hS => ?_)
  obtain ⟨_, -, hr2⟩ := hw2
  have he : r1 = r2 := by exact hr1.trans hr2.symm
  refine lv_icmp_eq (tgt := 1725) hx hb dL_law_545 (by decide) (fun _ => ?_) (fun q => absurd he q)
  exact lw_tail l hx hb hr hlocks hX hbl (by decide) (by decide) hS (lv_sub hl [3, 0] rfl)
set_option maxHeartbeats 8000000 in
set_option maxRecDepth 100000 in
theorem lw_op_6 {p : Program} {e : Env} {s : State} {m : MethodId} {below : List Frame} {meth : Method} {c : Code} {b : Nat} (l : Launch) (hx : p.tables.exec = Jvm.exec) (hb : c.code = cL_law) (hr : meth.sig.returnType = ret) (hml : c.maxLocals = 4) (hown : s.vm.findClass RL = some m.cls) (hlocks : meth.locks = false) (hts : ∀ w ∈ (Cond.initialized RX11 :: wsL_law), w.before #[Value.ref b] s = true) (xs : Nat → Int32) (hX : va_X b 7 xs s s.heap) (hbl : b < s.heap.size) {D : va_G} {t : pq_T} (hK : va_K D vwCl (pq_ty t) s) (hN : pq_N s) {σ τ : pq_S} {I : Nat → Nat → Int32} {J : Nat → Nat → Int64} {ri : Nat → Nat → Int32} {rj : Nat → Nat → Int64} {rq : Nat → Nat → Option Nat} {I2 : Nat → Nat → Int32} {J2 : Nat → Nat → Int64} {si : Nat → Nat → Int32} {sj : Nat → Nat → Int64} {sq : Nat → Nat → Option Nat} {this that : Nat} (hokx : okRingsUnder σ I this) (hL_this : this ∈ σ.1) (hK_this : σ.2.1 this = 11) (hZ : pq_Z I) (hq0 : rq = fun _ _ => none) (hokm : okModel τ I2 si that) (hL_that : that ∈ τ.1) (hK_that : τ.2.1 that = 12) (hdis : ∀ a, a ∈ τ.1 → a ∉ σ.1) {H : Heap} {locs : List Loc} (hP : va_P D vwCl (pq_P t σ (I, J, ri, rj, rq)) H) (hD : va_D (fun q => s.heap.size ≤ q) (pq_P t σ (I, J, ri, rj, rq))) (hP2 : va_P D vwCl (pq_P t τ (I2, J2, si, sj, sq)) H) (hD2 : va_D (fun q => s.heap.size ≤ q) (pq_P t τ (I2, J2, si, sj, sq))) (hS : va_S (fun q => s.heap.size ≤ q) s.heap H locs) {ls : Array Slot} (hl : lv_has ls 4 [(3, .int 0), (2, .ref that), (1, .ref this), (0, .ref b)]) : W p l e room_1 s m #[Value.ref b] below meth c H locs 207 49062 (lw_Z below #[Value.ref b] s) (F0 m 550 ls []) := by
  have hA : ∀ q : Nat, s.heap.size ≤ q → s.heap.size ≤ q := fun _ h => h
  obtain ⟨y_this_352, y_this_353, y_this_354, y_this_355, y_this_356, hd_this_352_353, hd_this_352_354, hd_this_353_354⟩ := id hokx
  obtain ⟨-, this_now, hR_this_now, hL_this_now, hK_this_now, ho_this_now⟩ := y_this_352
  obtain ⟨y_this_now_325, y_this_now_326, y_this_now_327, y_this_now_328, y_this_now_329, y_this_now_330, y_this_now_331, y_this_now_332, hi_this_now_320, hi_this_now_323, hi_this_now_324⟩ := id ho_this_now
  obtain ⟨-, this_now_land, hR_this_now_land, hL_this_now_land, hK_this_now_land, ho_this_now_land⟩ := y_this_now_327
  obtain ⟨y_this_now_land_68, y_this_now_land_69, y_this_now_land_70, y_this_now_land_71, y_this_now_land_72, y_this_now_land_73, y_this_now_land_74, y_this_now_land_75, y_this_now_land_76, y_this_now_land_77, y_this_now_land_78, y_this_now_land_79, y_this_now_land_80, y_this_now_land_81, y_this_now_land_82, y_this_now_land_83, hd_this_now_land_82_83⟩ := id ho_this_now_land
  obtain ⟨y_that_384, y_that_385, y_that_386, y_that_387, y_that_400, y_that_404, y_that_405, y_that_408, y_that_409, y_that_411, y_that_412, y_that_413, y_that_414, hi_that_388, hi_that_389, hi_that_390, hi_that_391, hd_that_384_385, hd_that_384_386, hd_that_384_414, hd_that_386_414, hF_384, hF_385⟩ := id hokm
  obtain ⟨-, that_a, hR_that_a, hL_that_a, hK_that_a, hN_that_a⟩ := y_that_384
  refine lv_aload_n hx hb dL_law_550 rfl (lv_at hl 2 rfl) ?_
  refine lv_aload_n hx hb dL_law_551 rfl (lv_at hl 3 rfl) ?_
  refine lv_iload_n hx hb dL_law_552 rfl (lv_at hl 0 rfl) ?_
  refine lv_iconst (v := 1) hx hb dL_law_553 (by decide) ?_
  refine lv_iadd hx hb dL_law_554 ?_
  refine lv_tov 1 (by decide) ?_
  refine va_sld hx hb hX hbl (Nat.not_le.mpr hbl) hS (vp_in_iff.mpr (by decide)) dL_law_555 ?_
  refine lv_tov (xs 1) rfl ?_
  refine lv_aload_n hx hb dL_law_556 rfl (lv_at hl 3 rfl) ?_
  refine lv_iload_n hx hb dL_law_557 rfl (lv_at hl 0 rfl) ?_
  refine lv_iconst (v := 2) hx hb dL_law_558 (by decide) ?_
  refine lv_iadd hx hb dL_law_559 ?_
  refine lv_tov 2 (by decide) ?_
  refine va_sld hx hb hX hbl (Nat.not_le.mpr hbl) hS (vp_in_iff.mpr (by decide)) dL_law_560 ?_
  refine lv_tov (xs 2) rfl ?_
  refine lk_i (va_runV (As := [.int (xs 1), .int (xs 2)]) (rest := []) ⟨hx, hb, hml, hown, hts⟩ (c_X11_wall l D t σ I J ri rj rq H.size this (xs 1) (xs 2) hL_this hK_this this_now hR_this_now hL_this_now hK_this_now this_now_land hR_this_now_land hL_this_now_land hK_this_now_land hZ) (cwV 2 hts (tw_V tw_327 tw_328 tw_329 tw_2 tw_330) rfl rfl rfl (by decide +kernel) ⟨Nat.le_of_ble_eq_true rfl, Nat.le_of_ble_eq_true rfl⟩) ⟨pq_blind, pq_recv hK hP hL_this hK_this (by decide) rfl, pq_pre hK hN hP hD⟩ rfl rfl hl.1 rfl (lv_room (Nat.le_of_ble_eq_true rfl)) dL_law_561 ⟨Nat.le_of_ble_eq_true rfl, Nat.le_of_ble_eq_true rfl⟩) hD hS hA hP2 hdis (fun r1 u1 H locs hw1 hP2 hS => ?_)
  obtain ⟨-, hr1⟩ := hw1
  refine lv_aload_n hx hb dL_law_564 rfl (lv_at hl 1 rfl) ?_
  refine lv_aload_n hx hb dL_law_565 rfl (lv_at hl 3 rfl) ?_
  refine lv_iload_n hx hb dL_law_566 rfl (lv_at hl 0 rfl) ?_
  refine lv_iconst (v := 1) hx hb dL_law_567 (by decide) ?_
  refine lv_iadd hx hb dL_law_568 ?_
  refine lv_tov 1 (by decide) ?_
  refine va_sld hx hb hX hbl (Nat.not_le.mpr hbl) hS (vp_in_iff.mpr (by decide)) dL_law_569 ?_
  refine lv_tov (xs 1) rfl ?_
  refine lv_aload_n hx hb dL_law_570 rfl (lv_at hl 3 rfl) ?_
  refine lv_iload_n hx hb dL_law_571 rfl (lv_at hl 0 rfl) ?_
  refine lv_iconst (v := 2) hx hb dL_law_572 (by decide) ?_
  refine lv_iadd hx hb dL_law_573 ?_
  refine lv_tov 2 (by decide) ?_
  refine va_sld hx hb hX hbl (Nat.not_le.mpr hbl) hS (vp_in_iff.mpr (by decide)) dL_law_574 ?_
  refine lv_tov (xs 2) rfl ?_
  refine pk_i (va_runV (As := [.int (xs 1), .int (xs 2)]) (rest := [.int r1]) ⟨hx, hb, hml, hown, hts⟩ (c_X12_wall l D t τ I2 J2 si sj sq H.size that (xs 1) (xs 2) hL_that hK_that that_a hR_that_a hL_that_a hK_that_a hN_that_a (okF_at hF_384 hR_that_a)) (cwV 2 hts (tw_V tw_336 tw_337 tw_338 tw_5 tw_339) rfl rfl rfl (by decide +kernel) ⟨Nat.le_of_ble_eq_true rfl, Nat.le_of_ble_eq_true rfl⟩) ⟨pq_blind, pq_recv hK hP2 hL_that hK_that (by decide) rfl, pq_pre hK hN hP2 hD2⟩ rfl rfl hl.1 rfl (lv_room (Nat.le_of_ble_eq_true rfl)) dL_law_575 ⟨Nat.le_of_ble_eq_true rfl, Nat.le_of_ble_eq_true rfl⟩) hD2 hS hA (fun r2 σ3 μ3 H locs hw2 hP3 hD3 hS => ?_)
  obtain ⟨-, hr2⟩ := hw2
  have he : r1 = r2 := by exact hr1.trans hr2.symm
  refine lv_icmp_eq (tgt := 1725) hx hb dL_law_578 (by decide) (fun _ => ?_) (fun q => absurd he q)
  exact lw_tail l hx hb hr hlocks hX hbl (by decide) (by decide) hS (lv_sub hl [3, 0] rfl)
set_option maxHeartbeats 8000000 in
set_option maxRecDepth 100000 in
theorem lw_op_7 {p : Program} {e : Env} {s : State} {m : MethodId} {below : List Frame} {meth : Method} {c : Code} {b : Nat} (l : Launch) (hx : p.tables.exec = Jvm.exec) (hb : c.code = cL_law) (hr : meth.sig.returnType = ret) (hml : c.maxLocals = 4) (hown : s.vm.findClass RL = some m.cls) (hlocks : meth.locks = false) (hts : ∀ w ∈ (Cond.initialized RX11 :: wsL_law), w.before #[Value.ref b] s = true) (xs : Nat → Int32) (hX : va_X b 7 xs s s.heap) (hbl : b < s.heap.size) {D : va_G} {t : pq_T} (hK : va_K D vwCl (pq_ty t) s) (hN : pq_N s) {σ τ : pq_S} {I : Nat → Nat → Int32} {J : Nat → Nat → Int64} {ri : Nat → Nat → Int32} {rj : Nat → Nat → Int64} {rq : Nat → Nat → Option Nat} {I2 : Nat → Nat → Int32} {J2 : Nat → Nat → Int64} {si : Nat → Nat → Int32} {sj : Nat → Nat → Int64} {sq : Nat → Nat → Option Nat} {this that : Nat} (hokx : okRingsUnder σ I this) (hL_this : this ∈ σ.1) (hK_this : σ.2.1 this = 11) (hZ : pq_Z I) (hq0 : rq = fun _ _ => none) (hokm : okModel τ I2 si that) (hL_that : that ∈ τ.1) (hK_that : τ.2.1 that = 12) (hdis : ∀ a, a ∈ τ.1 → a ∉ σ.1) {H : Heap} {locs : List Loc} (hP : va_P D vwCl (pq_P t σ (I, J, ri, rj, rq)) H) (hD : va_D (fun q => s.heap.size ≤ q) (pq_P t σ (I, J, ri, rj, rq))) (hP2 : va_P D vwCl (pq_P t τ (I2, J2, si, sj, sq)) H) (hD2 : va_D (fun q => s.heap.size ≤ q) (pq_P t τ (I2, J2, si, sj, sq))) (hS : va_S (fun q => s.heap.size ≤ q) s.heap H locs) {ls : Array Slot} (hl : lv_has ls 4 [(3, .int 0), (2, .ref that), (1, .ref this), (0, .ref b)]) : W p l e room_1 s m #[Value.ref b] below meth c H locs 207 49062 (lw_Z below #[Value.ref b] s) (F0 m 583 ls []) := by
  have hA : ∀ q : Nat, s.heap.size ≤ q → s.heap.size ≤ q := fun _ h => h
  obtain ⟨y_this_352, y_this_353, y_this_354, y_this_355, y_this_356, hd_this_352_353, hd_this_352_354, hd_this_353_354⟩ := id hokx
  obtain ⟨-, this_now, hR_this_now, hL_this_now, hK_this_now, ho_this_now⟩ := y_this_352
  obtain ⟨y_this_now_325, y_this_now_326, y_this_now_327, y_this_now_328, y_this_now_329, y_this_now_330, y_this_now_331, y_this_now_332, hi_this_now_320, hi_this_now_323, hi_this_now_324⟩ := id ho_this_now
  obtain ⟨-, this_now_land, hR_this_now_land, hL_this_now_land, hK_this_now_land, ho_this_now_land⟩ := y_this_now_327
  obtain ⟨y_this_now_land_68, y_this_now_land_69, y_this_now_land_70, y_this_now_land_71, y_this_now_land_72, y_this_now_land_73, y_this_now_land_74, y_this_now_land_75, y_this_now_land_76, y_this_now_land_77, y_this_now_land_78, y_this_now_land_79, y_this_now_land_80, y_this_now_land_81, y_this_now_land_82, y_this_now_land_83, hd_this_now_land_82_83⟩ := id ho_this_now_land
  obtain ⟨y_that_384, y_that_385, y_that_386, y_that_387, y_that_400, y_that_404, y_that_405, y_that_408, y_that_409, y_that_411, y_that_412, y_that_413, y_that_414, hi_that_388, hi_that_389, hi_that_390, hi_that_391, hd_that_384_385, hd_that_384_386, hd_that_384_414, hd_that_386_414, hF_384, hF_385⟩ := id hokm
  obtain ⟨-, that_a, hR_that_a, hL_that_a, hK_that_a, hN_that_a⟩ := y_that_384
  refine lv_aload_n hx hb dL_law_583 rfl (lv_at hl 2 rfl) ?_
  refine lv_aload_n hx hb dL_law_584 rfl (lv_at hl 3 rfl) ?_
  refine lv_iload_n hx hb dL_law_585 rfl (lv_at hl 0 rfl) ?_
  refine lv_iconst (v := 1) hx hb dL_law_586 (by decide) ?_
  refine lv_iadd hx hb dL_law_587 ?_
  refine lv_tov 1 (by decide) ?_
  refine va_sld hx hb hX hbl (Nat.not_le.mpr hbl) hS (vp_in_iff.mpr (by decide)) dL_law_588 ?_
  refine lv_tov (xs 1) rfl ?_
  refine lv_aload_n hx hb dL_law_589 rfl (lv_at hl 3 rfl) ?_
  refine lv_iload_n hx hb dL_law_590 rfl (lv_at hl 0 rfl) ?_
  refine lv_iconst (v := 2) hx hb dL_law_591 (by decide) ?_
  refine lv_iadd hx hb dL_law_592 ?_
  refine lv_tov 2 (by decide) ?_
  refine va_sld hx hb hX hbl (Nat.not_le.mpr hbl) hS (vp_in_iff.mpr (by decide)) dL_law_593 ?_
  refine lv_tov (xs 2) rfl ?_
  refine lv_aload_n hx hb dL_law_594 rfl (lv_at hl 3 rfl) ?_
  refine lv_iload_n hx hb dL_law_595 rfl (lv_at hl 0 rfl) ?_
  refine lv_iconst (v := 3) hx hb dL_law_596 (by decide) ?_
  refine lv_iadd hx hb dL_law_597 ?_
  refine lv_tov 3 (by decide) ?_
  refine va_sld hx hb hX hbl (Nat.not_le.mpr hbl) hS (vp_in_iff.mpr (by decide)) dL_law_598 ?_
  refine lv_tov (xs 3) rfl ?_
  refine lv_aload_n hx hb dL_law_599 rfl (lv_at hl 3 rfl) ?_
  refine lv_iload_n hx hb dL_law_600 rfl (lv_at hl 0 rfl) ?_
  refine lv_iconst (v := 4) hx hb dL_law_601 (by decide) ?_
  refine lv_iadd hx hb dL_law_602 ?_
  refine lv_tov 4 (by decide) ?_
  refine va_sld hx hb hX hbl (Nat.not_le.mpr hbl) hS (vp_in_iff.mpr (by decide)) dL_law_603 ?_
  refine lv_tov (xs 4) rfl ?_
  refine lk_i (va_runV (As := [.int (xs 1), .int (xs 2), .int (xs 3), .int (xs 4)]) (rest := []) ⟨hx, hb, hml, hown, hts⟩ (c_X11_well l D t σ I J ri rj rq H.size this (xs 1) (xs 2) (xs 3) (xs 4) hL_this hK_this this_now hR_this_now hL_this_now hK_this_now this_now_land hR_this_now_land hL_this_now_land hK_this_now_land hZ) (cwV 4 hts (tw_V tw_344 tw_345 tw_346 tw_2 tw_347) rfl rfl rfl (by decide +kernel) ⟨Nat.le_of_ble_eq_true rfl, Nat.le_of_ble_eq_true rfl⟩) ⟨pq_blind, pq_recv hK hP hL_this hK_this (by decide) rfl, pq_pre hK hN hP hD⟩ rfl rfl hl.1 rfl (lv_room (Nat.le_of_ble_eq_true rfl)) dL_law_604 ⟨Nat.le_of_ble_eq_true rfl, Nat.le_of_ble_eq_true rfl⟩) hD hS hA hP2 hdis (fun r1 u1 H locs hw1 hP2 hS => ?_)
  obtain ⟨-, hr1⟩ := hw1
  refine lv_aload_n hx hb dL_law_607 rfl (lv_at hl 1 rfl) ?_
  refine lv_aload_n hx hb dL_law_608 rfl (lv_at hl 3 rfl) ?_
  refine lv_iload_n hx hb dL_law_609 rfl (lv_at hl 0 rfl) ?_
  refine lv_iconst (v := 1) hx hb dL_law_610 (by decide) ?_
  refine lv_iadd hx hb dL_law_611 ?_
  refine lv_tov 1 (by decide) ?_
  refine va_sld hx hb hX hbl (Nat.not_le.mpr hbl) hS (vp_in_iff.mpr (by decide)) dL_law_612 ?_
  refine lv_tov (xs 1) rfl ?_
  refine lv_aload_n hx hb dL_law_613 rfl (lv_at hl 3 rfl) ?_
  refine lv_iload_n hx hb dL_law_614 rfl (lv_at hl 0 rfl) ?_
  refine lv_iconst (v := 2) hx hb dL_law_615 (by decide) ?_
  refine lv_iadd hx hb dL_law_616 ?_
  refine lv_tov 2 (by decide) ?_
  refine va_sld hx hb hX hbl (Nat.not_le.mpr hbl) hS (vp_in_iff.mpr (by decide)) dL_law_617 ?_
  refine lv_tov (xs 2) rfl ?_
  refine lv_aload_n hx hb dL_law_618 rfl (lv_at hl 3 rfl) ?_
  refine lv_iload_n hx hb dL_law_619 rfl (lv_at hl 0 rfl) ?_
  refine lv_iconst (v := 3) hx hb dL_law_620 (by decide) ?_
  refine lv_iadd hx hb dL_law_621 ?_
  refine lv_tov 3 (by decide) ?_
  refine va_sld hx hb hX hbl (Nat.not_le.mpr hbl) hS (vp_in_iff.mpr (by decide)) dL_law_622 ?_
  refine lv_tov (xs 3) rfl ?_
  refine lv_aload_n hx hb dL_law_623 rfl (lv_at hl 3 rfl) ?_
  refine lv_iload_n hx hb dL_law_624 rfl (lv_at hl 0 rfl) ?_
  refine lv_iconst (v := 4) hx hb dL_law_625 (by decide) ?_
  refine lv_iadd hx hb dL_law_626 ?_
  refine lv_tov 4 (by decide) ?_
  refine va_sld hx hb hX hbl (Nat.not_le.mpr hbl) hS (vp_in_iff.mpr (by decide)) dL_law_627 ?_
  refine lv_tov (xs 4) rfl ?_
  refine pk_i (va_runV (As := [.int (xs 1), .int (xs 2), .int (xs 3), .int (xs 4)]) (rest := [.int r1]) ⟨hx, hb, hml, hown, hts⟩ (c_X12_well l D t τ I2 J2 si sj sq H.size that (xs 1) (xs 2) (xs 3) (xs 4) hL_that hK_that that_a hR_that_a hL_that_a hK_that_a hN_that_a (okF_at hF_384 hR_that_a)) (cwV 4 hts (tw_V tw_357 tw_358 tw_359 tw_5 tw_360) rfl rfl rfl (by decide +kernel) ⟨Nat.le_of_ble_eq_true rfl, Nat.le_of_ble_eq_true rfl⟩) ⟨pq_blind, pq_recv hK hP2 hL_that hK_that (by decide) rfl, pq_pre hK hN hP2 hD2⟩ rfl rfl hl.1 rfl (lv_room (Nat.le_of_ble_eq_true rfl)) dL_law_628 ⟨Nat.le_of_ble_eq_true rfl, Nat.le_of_ble_eq_true rfl⟩) hD2 hS hA (fun r2 σ3 μ3 H locs hw2 hP3 hD3 hS => ?_)
  obtain ⟨-, hr2⟩ := hw2
  have he : r1 = r2 := by exact hr1.trans hr2.symm
  refine lv_icmp_eq (tgt := 1725) hx hb dL_law_631 (by decide) (fun _ => ?_) (fun q => absurd he q)
  exact lw_tail l hx hb hr hlocks hX hbl (by decide) (by decide) hS (lv_sub hl [3, 0] rfl)
set_option maxHeartbeats 8000000 in
set_option maxRecDepth 100000 in
theorem lw_op_8 {p : Program} {e : Env} {s : State} {m : MethodId} {below : List Frame} {meth : Method} {c : Code} {b : Nat} (l : Launch) (hx : p.tables.exec = Jvm.exec) (hb : c.code = cL_law) (hr : meth.sig.returnType = ret) (hml : c.maxLocals = 4) (hown : s.vm.findClass RL = some m.cls) (hlocks : meth.locks = false) (hts : ∀ w ∈ (Cond.initialized RX11 :: wsL_law), w.before #[Value.ref b] s = true) (xs : Nat → Int32) (hX : va_X b 7 xs s s.heap) (hbl : b < s.heap.size) {D : va_G} {t : pq_T} (hK : va_K D vwCl (pq_ty t) s) (hN : pq_N s) {σ τ : pq_S} {I : Nat → Nat → Int32} {J : Nat → Nat → Int64} {ri : Nat → Nat → Int32} {rj : Nat → Nat → Int64} {rq : Nat → Nat → Option Nat} {I2 : Nat → Nat → Int32} {J2 : Nat → Nat → Int64} {si : Nat → Nat → Int32} {sj : Nat → Nat → Int64} {sq : Nat → Nat → Option Nat} {this that : Nat} (hokx : okRingsUnder σ I this) (hL_this : this ∈ σ.1) (hK_this : σ.2.1 this = 11) (hZ : pq_Z I) (hq0 : rq = fun _ _ => none) (hokm : okModel τ I2 si that) (hL_that : that ∈ τ.1) (hK_that : τ.2.1 that = 12) (hdis : ∀ a, a ∈ τ.1 → a ∉ σ.1) {H : Heap} {locs : List Loc} (hP : va_P D vwCl (pq_P t σ (I, J, ri, rj, rq)) H) (hD : va_D (fun q => s.heap.size ≤ q) (pq_P t σ (I, J, ri, rj, rq))) (hP2 : va_P D vwCl (pq_P t τ (I2, J2, si, sj, sq)) H) (hD2 : va_D (fun q => s.heap.size ≤ q) (pq_P t τ (I2, J2, si, sj, sq))) (hS : va_S (fun q => s.heap.size ≤ q) s.heap H locs) {ls : Array Slot} (hl : lv_has ls 4 [(3, .int 0), (2, .ref that), (1, .ref this), (0, .ref b)]) : W p l e room_1 s m #[Value.ref b] below meth c H locs 207 49062 (lw_Z below #[Value.ref b] s) (F0 m 636 ls []) := by
  have hA : ∀ q : Nat, s.heap.size ≤ q → s.heap.size ≤ q := fun _ h => h
  obtain ⟨y_this_352, y_this_353, y_this_354, y_this_355, y_this_356, hd_this_352_353, hd_this_352_354, hd_this_353_354⟩ := id hokx
  obtain ⟨-, this_now, hR_this_now, hL_this_now, hK_this_now, ho_this_now⟩ := y_this_352
  obtain ⟨y_this_now_325, y_this_now_326, y_this_now_327, y_this_now_328, y_this_now_329, y_this_now_330, y_this_now_331, y_this_now_332, hi_this_now_320, hi_this_now_323, hi_this_now_324⟩ := id ho_this_now
  obtain ⟨-, this_now_land, hR_this_now_land, hL_this_now_land, hK_this_now_land, ho_this_now_land⟩ := y_this_now_327
  obtain ⟨y_this_now_land_68, y_this_now_land_69, y_this_now_land_70, y_this_now_land_71, y_this_now_land_72, y_this_now_land_73, y_this_now_land_74, y_this_now_land_75, y_this_now_land_76, y_this_now_land_77, y_this_now_land_78, y_this_now_land_79, y_this_now_land_80, y_this_now_land_81, y_this_now_land_82, y_this_now_land_83, hd_this_now_land_82_83⟩ := id ho_this_now_land
  obtain ⟨y_that_384, y_that_385, y_that_386, y_that_387, y_that_400, y_that_404, y_that_405, y_that_408, y_that_409, y_that_411, y_that_412, y_that_413, y_that_414, hi_that_388, hi_that_389, hi_that_390, hi_that_391, hd_that_384_385, hd_that_384_386, hd_that_384_414, hd_that_386_414, hF_384, hF_385⟩ := id hokm
  obtain ⟨-, that_a, hR_that_a, hL_that_a, hK_that_a, hN_that_a⟩ := y_that_384
  refine lv_aload_n hx hb dL_law_636 rfl (lv_at hl 2 rfl) ?_
  refine lv_aload_n hx hb dL_law_637 rfl (lv_at hl 3 rfl) ?_
  refine lv_iload_n hx hb dL_law_638 rfl (lv_at hl 0 rfl) ?_
  refine lv_iconst (v := 1) hx hb dL_law_639 (by decide) ?_
  refine lv_iadd hx hb dL_law_640 ?_
  refine lv_tov 1 (by decide) ?_
  refine va_sld hx hb hX hbl (Nat.not_le.mpr hbl) hS (vp_in_iff.mpr (by decide)) dL_law_641 ?_
  refine lv_tov (xs 1) rfl ?_
  refine lv_aload_n hx hb dL_law_642 rfl (lv_at hl 3 rfl) ?_
  refine lv_iload_n hx hb dL_law_643 rfl (lv_at hl 0 rfl) ?_
  refine lv_iconst (v := 2) hx hb dL_law_644 (by decide) ?_
  refine lv_iadd hx hb dL_law_645 ?_
  refine lv_tov 2 (by decide) ?_
  refine va_sld hx hb hX hbl (Nat.not_le.mpr hbl) hS (vp_in_iff.mpr (by decide)) dL_law_646 ?_
  refine lv_tov (xs 2) rfl ?_
  refine lk_i (va_runV (As := [.int (xs 1), .int (xs 2)]) (rest := []) ⟨hx, hb, hml, hown, hts⟩ (c_X11_beds l D t σ I J ri rj rq H.size this (xs 1) (xs 2) hL_this hK_this this_now hR_this_now hL_this_now hK_this_now this_now_land hR_this_now_land hL_this_now_land hK_this_now_land hZ) (cwV 2 hts (tw_V tw_365 tw_366 tw_367 tw_2 tw_368) rfl rfl rfl (by decide +kernel) ⟨Nat.le_of_ble_eq_true rfl, Nat.le_of_ble_eq_true rfl⟩) ⟨pq_blind, pq_recv hK hP hL_this hK_this (by decide) rfl, pq_pre hK hN hP hD⟩ rfl rfl hl.1 rfl (lv_room (Nat.le_of_ble_eq_true rfl)) dL_law_647 ⟨Nat.le_of_ble_eq_true rfl, Nat.le_of_ble_eq_true rfl⟩) hD hS hA hP2 hdis (fun r1 u1 H locs hw1 hP2 hS => ?_)
  obtain ⟨-, hr1⟩ := hw1
  refine lv_aload_n hx hb dL_law_650 rfl (lv_at hl 1 rfl) ?_
  refine lv_aload_n hx hb dL_law_651 rfl (lv_at hl 3 rfl) ?_
  refine lv_iload_n hx hb dL_law_652 rfl (lv_at hl 0 rfl) ?_
  refine lv_iconst (v := 1) hx hb dL_law_653 (by decide) ?_
  refine lv_iadd hx hb dL_law_654 ?_
  refine lv_tov 1 (by decide) ?_
  refine va_sld hx hb hX hbl (Nat.not_le.mpr hbl) hS (vp_in_iff.mpr (by decide)) dL_law_655 ?_
  refine lv_tov (xs 1) rfl ?_
  refine lv_aload_n hx hb dL_law_656 rfl (lv_at hl 3 rfl) ?_
  refine lv_iload_n hx hb dL_law_657 rfl (lv_at hl 0 rfl) ?_
  refine lv_iconst (v := 2) hx hb dL_law_658 (by decide) ?_
  refine lv_iadd hx hb dL_law_659 ?_
  refine lv_tov 2 (by decide) ?_
  refine va_sld hx hb hX hbl (Nat.not_le.mpr hbl) hS (vp_in_iff.mpr (by decide)) dL_law_660 ?_
  refine lv_tov (xs 2) rfl ?_
  refine pk_i (va_runV (As := [.int (xs 1), .int (xs 2)]) (rest := [.int r1]) ⟨hx, hb, hml, hown, hts⟩ (c_X12_beds l D t τ I2 J2 si sj sq H.size that (xs 1) (xs 2) hL_that hK_that that_a hR_that_a hL_that_a hK_that_a hN_that_a (okF_at hF_384 hR_that_a)) (cwV 2 hts (tw_V tw_371 tw_372 tw_373 tw_5 tw_374) rfl rfl rfl (by decide +kernel) ⟨Nat.le_of_ble_eq_true rfl, Nat.le_of_ble_eq_true rfl⟩) ⟨pq_blind, pq_recv hK hP2 hL_that hK_that (by decide) rfl, pq_pre hK hN hP2 hD2⟩ rfl rfl hl.1 rfl (lv_room (Nat.le_of_ble_eq_true rfl)) dL_law_661 ⟨Nat.le_of_ble_eq_true rfl, Nat.le_of_ble_eq_true rfl⟩) hD2 hS hA (fun r2 σ3 μ3 H locs hw2 hP3 hD3 hS => ?_)
  obtain ⟨-, hr2⟩ := hw2
  have he : r1 = r2 := by exact hr1.trans hr2.symm
  refine lv_icmp_eq (tgt := 1725) hx hb dL_law_664 (by decide) (fun _ => ?_) (fun q => absurd he q)
  exact lw_tail l hx hb hr hlocks hX hbl (by decide) (by decide) hS (lv_sub hl [3, 0] rfl)
set_option maxHeartbeats 8000000 in
set_option maxRecDepth 100000 in
theorem lw_op_9 {p : Program} {e : Env} {s : State} {m : MethodId} {below : List Frame} {meth : Method} {c : Code} {b : Nat} (l : Launch) (hx : p.tables.exec = Jvm.exec) (hb : c.code = cL_law) (hr : meth.sig.returnType = ret) (hml : c.maxLocals = 4) (hown : s.vm.findClass RL = some m.cls) (hlocks : meth.locks = false) (hts : ∀ w ∈ (Cond.initialized RX11 :: wsL_law), w.before #[Value.ref b] s = true) (xs : Nat → Int32) (hX : va_X b 7 xs s s.heap) (hbl : b < s.heap.size) {D : va_G} {t : pq_T} (hK : va_K D vwCl (pq_ty t) s) (hN : pq_N s) {σ τ : pq_S} {I : Nat → Nat → Int32} {J : Nat → Nat → Int64} {ri : Nat → Nat → Int32} {rj : Nat → Nat → Int64} {rq : Nat → Nat → Option Nat} {I2 : Nat → Nat → Int32} {J2 : Nat → Nat → Int64} {si : Nat → Nat → Int32} {sj : Nat → Nat → Int64} {sq : Nat → Nat → Option Nat} {this that : Nat} (hokx : okRingsUnder σ I this) (hL_this : this ∈ σ.1) (hK_this : σ.2.1 this = 11) (hZ : pq_Z I) (hq0 : rq = fun _ _ => none) (hokm : okModel τ I2 si that) (hL_that : that ∈ τ.1) (hK_that : τ.2.1 that = 12) (hdis : ∀ a, a ∈ τ.1 → a ∉ σ.1) {H : Heap} {locs : List Loc} (hP : va_P D vwCl (pq_P t σ (I, J, ri, rj, rq)) H) (hD : va_D (fun q => s.heap.size ≤ q) (pq_P t σ (I, J, ri, rj, rq))) (hP2 : va_P D vwCl (pq_P t τ (I2, J2, si, sj, sq)) H) (hD2 : va_D (fun q => s.heap.size ≤ q) (pq_P t τ (I2, J2, si, sj, sq))) (hS : va_S (fun q => s.heap.size ≤ q) s.heap H locs) {ls : Array Slot} (hl : lv_has ls 4 [(3, .int 0), (2, .ref that), (1, .ref this), (0, .ref b)]) : W p l e room_1 s m #[Value.ref b] below meth c H locs 207 49062 (lw_Z below #[Value.ref b] s) (F0 m 669 ls []) := by
  have hA : ∀ q : Nat, s.heap.size ≤ q → s.heap.size ≤ q := fun _ h => h
  obtain ⟨y_this_352, y_this_353, y_this_354, y_this_355, y_this_356, hd_this_352_353, hd_this_352_354, hd_this_353_354⟩ := id hokx
  obtain ⟨-, this_now, hR_this_now, hL_this_now, hK_this_now, ho_this_now⟩ := y_this_352
  obtain ⟨y_this_now_325, y_this_now_326, y_this_now_327, y_this_now_328, y_this_now_329, y_this_now_330, y_this_now_331, y_this_now_332, hi_this_now_320, hi_this_now_323, hi_this_now_324⟩ := id ho_this_now
  obtain ⟨-, this_now_folk, hR_this_now_folk, hL_this_now_folk, hK_this_now_folk, ho_this_now_folk⟩ := y_this_now_328
  obtain ⟨y_this_now_folk_1, y_this_now_folk_2, y_this_now_folk_3, y_this_now_folk_4, y_this_now_folk_5, y_this_now_folk_6, y_this_now_folk_7, y_this_now_folk_8, y_this_now_folk_9, y_this_now_folk_11, y_this_now_folk_12, y_this_now_folk_13, y_this_now_folk_14, y_this_now_folk_15⟩ := id ho_this_now_folk
  obtain ⟨-, this_now_folk_lotBeds, hR_this_now_folk_lotBeds, hL_this_now_folk_lotBeds, hK_this_now_folk_lotBeds, hN_this_now_folk_lotBeds⟩ := y_this_now_folk_11
  obtain ⟨y_that_384, y_that_385, y_that_386, y_that_387, y_that_400, y_that_404, y_that_405, y_that_408, y_that_409, y_that_411, y_that_412, y_that_413, y_that_414, hi_that_388, hi_that_389, hi_that_390, hi_that_391, hd_that_384_385, hd_that_384_386, hd_that_384_414, hd_that_386_414, hF_384, hF_385⟩ := id hokm
  obtain ⟨-, that_a, hR_that_a, hL_that_a, hK_that_a, hN_that_a⟩ := y_that_384
  refine lv_aload_n hx hb dL_law_669 rfl (lv_at hl 2 rfl) ?_
  refine lv_aload_n hx hb dL_law_670 rfl (lv_at hl 3 rfl) ?_
  refine lv_iload_n hx hb dL_law_671 rfl (lv_at hl 0 rfl) ?_
  refine lv_iconst (v := 1) hx hb dL_law_672 (by decide) ?_
  refine lv_iadd hx hb dL_law_673 ?_
  refine lv_tov 1 (by decide) ?_
  refine va_sld hx hb hX hbl (Nat.not_le.mpr hbl) hS (vp_in_iff.mpr (by decide)) dL_law_674 ?_
  refine lv_tov (xs 1) rfl ?_
  refine lk_i (va_runV (As := [.int (xs 1)]) (rest := []) ⟨hx, hb, hml, hown, hts⟩ (c_X11_lot l D t σ I J ri rj rq H.size this (xs 1) hL_this hK_this this_now hR_this_now hL_this_now hK_this_now this_now_folk hR_this_now_folk hL_this_now_folk hK_this_now_folk this_now_folk_lotBeds hR_this_now_folk_lotBeds hL_this_now_folk_lotBeds hK_this_now_folk_lotBeds hN_this_now_folk_lotBeds hZ) (cwV 1 hts (tw_V tw_375 tw_376 tw_377 tw_2 tw_378) rfl rfl rfl (by decide +kernel) ⟨Nat.le_of_ble_eq_true rfl, Nat.le_of_ble_eq_true rfl⟩) ⟨pq_blind, pq_recv hK hP hL_this hK_this (by decide) rfl, pq_pre hK hN hP hD⟩ rfl rfl hl.1 rfl (lv_room (Nat.le_of_ble_eq_true rfl)) dL_law_675 ⟨Nat.le_of_ble_eq_true rfl, Nat.le_of_ble_eq_true rfl⟩) hD hS hA hP2 hdis (fun r1 u1 H locs hw1 hP2 hS => ?_)
  obtain ⟨_, _, -, -, hr1⟩ := hw1
  refine lv_aload_n hx hb dL_law_678 rfl (lv_at hl 1 rfl) ?_
  refine lv_aload_n hx hb dL_law_679 rfl (lv_at hl 3 rfl) ?_
  refine lv_iload_n hx hb dL_law_680 rfl (lv_at hl 0 rfl) ?_
  refine lv_iconst (v := 1) hx hb dL_law_681 (by decide) ?_
  refine lv_iadd hx hb dL_law_682 ?_
  refine lv_tov 1 (by decide) ?_
  refine va_sld hx hb hX hbl (Nat.not_le.mpr hbl) hS (vp_in_iff.mpr (by decide)) dL_law_683 ?_
  refine lv_tov (xs 1) rfl ?_
  refine pk_i (va_runV (As := [.int (xs 1)]) (rest := [.int r1]) ⟨hx, hb, hml, hown, hts⟩ (c_X12_lot l D t τ I2 J2 si sj sq H.size that (xs 1) hL_that hK_that that_a hR_that_a hL_that_a hK_that_a hN_that_a (okF_at hF_384 hR_that_a)) (cwV 1 hts (tw_V tw_382 tw_383 tw_384 tw_5 tw_385) rfl rfl rfl (by decide +kernel) ⟨Nat.le_of_ble_eq_true rfl, Nat.le_of_ble_eq_true rfl⟩) ⟨pq_blind, pq_recv hK hP2 hL_that hK_that (by decide) rfl, pq_pre hK hN hP2 hD2⟩ rfl rfl hl.1 rfl (lv_room (Nat.le_of_ble_eq_true rfl)) dL_law_684 ⟨Nat.le_of_ble_eq_true rfl, Nat.le_of_ble_eq_true rfl⟩) hD2 hS hA (fun r2 σ3 μ3 H locs hw2 hP3 hD3 hS => ?_)
  obtain ⟨_, -, hr2⟩ := hw2
  have he : r1 = r2 := by exact hr1.trans hr2.symm
  refine lv_icmp_eq (tgt := 1725) hx hb dL_law_687 (by decide) (fun _ => ?_) (fun q => absurd he q)
  exact lw_tail l hx hb hr hlocks hX hbl (by decide) (by decide) hS (lv_sub hl [3, 0] rfl)
set_option maxHeartbeats 8000000 in
set_option maxRecDepth 100000 in
theorem lw_op_10 {p : Program} {e : Env} {s : State} {m : MethodId} {below : List Frame} {meth : Method} {c : Code} {b : Nat} (l : Launch) (hx : p.tables.exec = Jvm.exec) (hb : c.code = cL_law) (hr : meth.sig.returnType = ret) (hml : c.maxLocals = 4) (hown : s.vm.findClass RL = some m.cls) (hlocks : meth.locks = false) (hts : ∀ w ∈ (Cond.initialized RX11 :: wsL_law), w.before #[Value.ref b] s = true) (xs : Nat → Int32) (hX : va_X b 7 xs s s.heap) (hbl : b < s.heap.size) {D : va_G} {t : pq_T} (hK : va_K D vwCl (pq_ty t) s) (hN : pq_N s) {σ τ : pq_S} {I : Nat → Nat → Int32} {J : Nat → Nat → Int64} {ri : Nat → Nat → Int32} {rj : Nat → Nat → Int64} {rq : Nat → Nat → Option Nat} {I2 : Nat → Nat → Int32} {J2 : Nat → Nat → Int64} {si : Nat → Nat → Int32} {sj : Nat → Nat → Int64} {sq : Nat → Nat → Option Nat} {this that : Nat} (hokx : okRingsUnder σ I this) (hL_this : this ∈ σ.1) (hK_this : σ.2.1 this = 11) (hZ : pq_Z I) (hq0 : rq = fun _ _ => none) (hokm : okModel τ I2 si that) (hL_that : that ∈ τ.1) (hK_that : τ.2.1 that = 12) (hdis : ∀ a, a ∈ τ.1 → a ∉ σ.1) {H : Heap} {locs : List Loc} (hP : va_P D vwCl (pq_P t σ (I, J, ri, rj, rq)) H) (hD : va_D (fun q => s.heap.size ≤ q) (pq_P t σ (I, J, ri, rj, rq))) (hP2 : va_P D vwCl (pq_P t τ (I2, J2, si, sj, sq)) H) (hD2 : va_D (fun q => s.heap.size ≤ q) (pq_P t τ (I2, J2, si, sj, sq))) (hS : va_S (fun q => s.heap.size ≤ q) s.heap H locs) {ls : Array Slot} (hl : lv_has ls 4 [(3, .int 0), (2, .ref that), (1, .ref this), (0, .ref b)]) : W p l e room_1 s m #[Value.ref b] below meth c H locs 207 49062 (lw_Z below #[Value.ref b] s) (F0 m 692 ls []) := by
  have hA : ∀ q : Nat, s.heap.size ≤ q → s.heap.size ≤ q := fun _ h => h
  obtain ⟨y_this_352, y_this_353, y_this_354, y_this_355, y_this_356, hd_this_352_353, hd_this_352_354, hd_this_353_354⟩ := id hokx
  obtain ⟨-, this_now, hR_this_now, hL_this_now, hK_this_now, ho_this_now⟩ := y_this_352
  obtain ⟨y_this_now_325, y_this_now_326, y_this_now_327, y_this_now_328, y_this_now_329, y_this_now_330, y_this_now_331, y_this_now_332, hi_this_now_320, hi_this_now_323, hi_this_now_324⟩ := id ho_this_now
  obtain ⟨-, this_now_land, hR_this_now_land, hL_this_now_land, hK_this_now_land, ho_this_now_land⟩ := y_this_now_327
  obtain ⟨y_this_now_land_68, y_this_now_land_69, y_this_now_land_70, y_this_now_land_71, y_this_now_land_72, y_this_now_land_73, y_this_now_land_74, y_this_now_land_75, y_this_now_land_76, y_this_now_land_77, y_this_now_land_78, y_this_now_land_79, y_this_now_land_80, y_this_now_land_81, y_this_now_land_82, y_this_now_land_83, hd_this_now_land_82_83⟩ := id ho_this_now_land
  obtain ⟨y_that_384, y_that_385, y_that_386, y_that_387, y_that_400, y_that_404, y_that_405, y_that_408, y_that_409, y_that_411, y_that_412, y_that_413, y_that_414, hi_that_388, hi_that_389, hi_that_390, hi_that_391, hd_that_384_385, hd_that_384_386, hd_that_384_414, hd_that_386_414, hF_384, hF_385⟩ := id hokm
  obtain ⟨-, that_a, hR_that_a, hL_that_a, hK_that_a, hN_that_a⟩ := y_that_384
  refine lv_aload_n hx hb dL_law_692 rfl (lv_at hl 2 rfl) ?_
  refine lv_aload_n hx hb dL_law_693 rfl (lv_at hl 3 rfl) ?_
  refine lv_iload_n hx hb dL_law_694 rfl (lv_at hl 0 rfl) ?_
  refine lv_iconst (v := 1) hx hb dL_law_695 (by decide) ?_
  refine lv_iadd hx hb dL_law_696 ?_
  refine lv_tov 1 (by decide) ?_
  refine va_sld hx hb hX hbl (Nat.not_le.mpr hbl) hS (vp_in_iff.mpr (by decide)) dL_law_697 ?_
  refine lv_tov (xs 1) rfl ?_
  refine lv_aload_n hx hb dL_law_698 rfl (lv_at hl 3 rfl) ?_
  refine lv_iload_n hx hb dL_law_699 rfl (lv_at hl 0 rfl) ?_
  refine lv_iconst (v := 2) hx hb dL_law_700 (by decide) ?_
  refine lv_iadd hx hb dL_law_701 ?_
  refine lv_tov 2 (by decide) ?_
  refine va_sld hx hb hX hbl (Nat.not_le.mpr hbl) hS (vp_in_iff.mpr (by decide)) dL_law_702 ?_
  refine lv_tov (xs 2) rfl ?_
  refine lv_aload_n hx hb dL_law_703 rfl (lv_at hl 3 rfl) ?_
  refine lv_iload_n hx hb dL_law_704 rfl (lv_at hl 0 rfl) ?_
  refine lv_iconst (v := 3) hx hb dL_law_705 (by decide) ?_
  refine lv_iadd hx hb dL_law_706 ?_
  refine lv_tov 3 (by decide) ?_
  refine va_sld hx hb hX hbl (Nat.not_le.mpr hbl) hS (vp_in_iff.mpr (by decide)) dL_law_707 ?_
  refine lv_tov (xs 3) rfl ?_
  refine lv_aload_n hx hb dL_law_708 rfl (lv_at hl 3 rfl) ?_
  refine lv_iload_n hx hb dL_law_709 rfl (lv_at hl 0 rfl) ?_
  refine lv_iconst (v := 4) hx hb dL_law_710 (by decide) ?_
  refine lv_iadd hx hb dL_law_711 ?_
  refine lv_tov 4 (by decide) ?_
  refine va_sld hx hb hX hbl (Nat.not_le.mpr hbl) hS (vp_in_iff.mpr (by decide)) dL_law_712 ?_
  refine lv_tov (xs 4) rfl ?_
  refine lv_aload_n hx hb dL_law_713 rfl (lv_at hl 3 rfl) ?_
  refine lv_iload_n hx hb dL_law_714 rfl (lv_at hl 0 rfl) ?_
  refine lv_iconst (v := 5) hx hb dL_law_715 (by decide) ?_
  refine lv_iadd hx hb dL_law_716 ?_
  refine lv_tov 5 (by decide) ?_
  refine va_sld hx hb hX hbl (Nat.not_le.mpr hbl) hS (vp_in_iff.mpr (by decide)) dL_law_717 ?_
  refine lv_tov (xs 5) rfl ?_
  refine lk_i (va_runV (As := [.int (xs 1), .int (xs 2), .int (xs 3), .int (xs 4), .int (xs 5)]) (rest := []) ⟨hx, hb, hml, hown, hts⟩ (c_X11_person l D t σ I J ri rj rq H.size this (xs 1) (xs 2) (xs 3) (xs 4) (xs 5) hL_this hK_this this_now hR_this_now hL_this_now hK_this_now this_now_land hR_this_now_land hL_this_now_land hK_this_now_land hZ) (cwV 5 hts (tw_V tw_386 tw_387 tw_388 tw_2 tw_389) rfl rfl rfl (by decide +kernel) ⟨Nat.le_of_ble_eq_true rfl, Nat.le_of_ble_eq_true rfl⟩) ⟨pq_blind, pq_recv hK hP hL_this hK_this (by decide) rfl, pq_pre hK hN hP hD⟩ rfl rfl hl.1 rfl (lv_room (Nat.le_of_ble_eq_true rfl)) dL_law_718 ⟨Nat.le_of_ble_eq_true rfl, Nat.le_of_ble_eq_true rfl⟩) hD hS hA hP2 hdis (fun r1 u1 H locs hw1 hP2 hS => ?_)
  obtain ⟨-, hr1⟩ := hw1
  refine lv_aload_n hx hb dL_law_721 rfl (lv_at hl 1 rfl) ?_
  refine lv_aload_n hx hb dL_law_722 rfl (lv_at hl 3 rfl) ?_
  refine lv_iload_n hx hb dL_law_723 rfl (lv_at hl 0 rfl) ?_
  refine lv_iconst (v := 1) hx hb dL_law_724 (by decide) ?_
  refine lv_iadd hx hb dL_law_725 ?_
  refine lv_tov 1 (by decide) ?_
  refine va_sld hx hb hX hbl (Nat.not_le.mpr hbl) hS (vp_in_iff.mpr (by decide)) dL_law_726 ?_
  refine lv_tov (xs 1) rfl ?_
  refine lv_aload_n hx hb dL_law_727 rfl (lv_at hl 3 rfl) ?_
  refine lv_iload_n hx hb dL_law_728 rfl (lv_at hl 0 rfl) ?_
  refine lv_iconst (v := 2) hx hb dL_law_729 (by decide) ?_
  refine lv_iadd hx hb dL_law_730 ?_
  refine lv_tov 2 (by decide) ?_
  refine va_sld hx hb hX hbl (Nat.not_le.mpr hbl) hS (vp_in_iff.mpr (by decide)) dL_law_731 ?_
  refine lv_tov (xs 2) rfl ?_
  refine lv_aload_n hx hb dL_law_732 rfl (lv_at hl 3 rfl) ?_
  refine lv_iload_n hx hb dL_law_733 rfl (lv_at hl 0 rfl) ?_
  refine lv_iconst (v := 3) hx hb dL_law_734 (by decide) ?_
  refine lv_iadd hx hb dL_law_735 ?_
  refine lv_tov 3 (by decide) ?_
  refine va_sld hx hb hX hbl (Nat.not_le.mpr hbl) hS (vp_in_iff.mpr (by decide)) dL_law_736 ?_
  refine lv_tov (xs 3) rfl ?_
  refine lv_aload_n hx hb dL_law_737 rfl (lv_at hl 3 rfl) ?_
  refine lv_iload_n hx hb dL_law_738 rfl (lv_at hl 0 rfl) ?_
  refine lv_iconst (v := 4) hx hb dL_law_739 (by decide) ?_
  refine lv_iadd hx hb dL_law_740 ?_
  refine lv_tov 4 (by decide) ?_
  refine va_sld hx hb hX hbl (Nat.not_le.mpr hbl) hS (vp_in_iff.mpr (by decide)) dL_law_741 ?_
  refine lv_tov (xs 4) rfl ?_
  refine lv_aload_n hx hb dL_law_742 rfl (lv_at hl 3 rfl) ?_
  refine lv_iload_n hx hb dL_law_743 rfl (lv_at hl 0 rfl) ?_
  refine lv_iconst (v := 5) hx hb dL_law_744 (by decide) ?_
  refine lv_iadd hx hb dL_law_745 ?_
  refine lv_tov 5 (by decide) ?_
  refine va_sld hx hb hX hbl (Nat.not_le.mpr hbl) hS (vp_in_iff.mpr (by decide)) dL_law_746 ?_
  refine lv_tov (xs 5) rfl ?_
  refine pk_i (va_runV (As := [.int (xs 1), .int (xs 2), .int (xs 3), .int (xs 4), .int (xs 5)]) (rest := [.int r1]) ⟨hx, hb, hml, hown, hts⟩ (c_X12_person l D t τ I2 J2 si sj sq H.size that (xs 1) (xs 2) (xs 3) (xs 4) (xs 5) hL_that hK_that that_a hR_that_a hL_that_a hK_that_a hN_that_a (okF_at hF_384 hR_that_a)) (cwV 5 hts (tw_V tw_396 tw_397 tw_398 tw_5 tw_399) rfl rfl rfl (by decide +kernel) ⟨Nat.le_of_ble_eq_true rfl, Nat.le_of_ble_eq_true rfl⟩) ⟨pq_blind, pq_recv hK hP2 hL_that hK_that (by decide) rfl, pq_pre hK hN hP2 hD2⟩ rfl rfl hl.1 rfl (lv_room (Nat.le_of_ble_eq_true rfl)) dL_law_747 ⟨Nat.le_of_ble_eq_true rfl, Nat.le_of_ble_eq_true rfl⟩) hD2 hS hA (fun r2 σ3 μ3 H locs hw2 hP3 hD3 hS => ?_)
  obtain ⟨-, hr2⟩ := hw2
  have he : r1 = r2 := by exact hr1.trans hr2.symm
  refine lv_icmp_eq (tgt := 1725) hx hb dL_law_750 (by decide) (fun _ => ?_) (fun q => absurd he q)
  exact lw_tail l hx hb hr hlocks hX hbl (by decide) (by decide) hS (lv_sub hl [3, 0] rfl)
set_option maxHeartbeats 8000000 in
set_option maxRecDepth 100000 in
theorem lw_op_11 {p : Program} {e : Env} {s : State} {m : MethodId} {below : List Frame} {meth : Method} {c : Code} {b : Nat} (l : Launch) (hx : p.tables.exec = Jvm.exec) (hb : c.code = cL_law) (hr : meth.sig.returnType = ret) (hml : c.maxLocals = 4) (hown : s.vm.findClass RL = some m.cls) (hlocks : meth.locks = false) (hts : ∀ w ∈ (Cond.initialized RX11 :: wsL_law), w.before #[Value.ref b] s = true) (xs : Nat → Int32) (hX : va_X b 7 xs s s.heap) (hbl : b < s.heap.size) {D : va_G} {t : pq_T} (hK : va_K D vwCl (pq_ty t) s) (hN : pq_N s) {σ τ : pq_S} {I : Nat → Nat → Int32} {J : Nat → Nat → Int64} {ri : Nat → Nat → Int32} {rj : Nat → Nat → Int64} {rq : Nat → Nat → Option Nat} {I2 : Nat → Nat → Int32} {J2 : Nat → Nat → Int64} {si : Nat → Nat → Int32} {sj : Nat → Nat → Int64} {sq : Nat → Nat → Option Nat} {this that : Nat} (hokx : okRingsUnder σ I this) (hL_this : this ∈ σ.1) (hK_this : σ.2.1 this = 11) (hZ : pq_Z I) (hq0 : rq = fun _ _ => none) (hokm : okModel τ I2 si that) (hL_that : that ∈ τ.1) (hK_that : τ.2.1 that = 12) (hdis : ∀ a, a ∈ τ.1 → a ∉ σ.1) {H : Heap} {locs : List Loc} (hP : va_P D vwCl (pq_P t σ (I, J, ri, rj, rq)) H) (hD : va_D (fun q => s.heap.size ≤ q) (pq_P t σ (I, J, ri, rj, rq))) (hP2 : va_P D vwCl (pq_P t τ (I2, J2, si, sj, sq)) H) (hD2 : va_D (fun q => s.heap.size ≤ q) (pq_P t τ (I2, J2, si, sj, sq))) (hS : va_S (fun q => s.heap.size ≤ q) s.heap H locs) {ls : Array Slot} (hl : lv_has ls 4 [(3, .int 0), (2, .ref that), (1, .ref this), (0, .ref b)]) : W p l e room_1 s m #[Value.ref b] below meth c H locs 207 49062 (lw_Z below #[Value.ref b] s) (F0 m 755 ls []) := by
  have hA : ∀ q : Nat, s.heap.size ≤ q → s.heap.size ≤ q := fun _ h => h
  obtain ⟨y_this_352, y_this_353, y_this_354, y_this_355, y_this_356, hd_this_352_353, hd_this_352_354, hd_this_353_354⟩ := id hokx
  obtain ⟨-, this_now, hR_this_now, hL_this_now, hK_this_now, ho_this_now⟩ := y_this_352
  obtain ⟨y_this_now_325, y_this_now_326, y_this_now_327, y_this_now_328, y_this_now_329, y_this_now_330, y_this_now_331, y_this_now_332, hi_this_now_320, hi_this_now_323, hi_this_now_324⟩ := id ho_this_now
  obtain ⟨-, this_now_folk, hR_this_now_folk, hL_this_now_folk, hK_this_now_folk, ho_this_now_folk⟩ := y_this_now_328
  obtain ⟨y_that_384, y_that_385, y_that_386, y_that_387, y_that_400, y_that_404, y_that_405, y_that_408, y_that_409, y_that_411, y_that_412, y_that_413, y_that_414, hi_that_388, hi_that_389, hi_that_390, hi_that_391, hd_that_384_385, hd_that_384_386, hd_that_384_414, hd_that_386_414, hF_384, hF_385⟩ := id hokm
  obtain ⟨-, that_a, hR_that_a, hL_that_a, hK_that_a, hN_that_a⟩ := y_that_384
  refine lv_aload_n hx hb dL_law_755 rfl (lv_at hl 2 rfl) ?_
  refine lv_aload_n hx hb dL_law_756 rfl (lv_at hl 3 rfl) ?_
  refine lv_iload_n hx hb dL_law_757 rfl (lv_at hl 0 rfl) ?_
  refine lv_iconst (v := 1) hx hb dL_law_758 (by decide) ?_
  refine lv_iadd hx hb dL_law_759 ?_
  refine lv_tov 1 (by decide) ?_
  refine va_sld hx hb hX hbl (Nat.not_le.mpr hbl) hS (vp_in_iff.mpr (by decide)) dL_law_760 ?_
  refine lv_tov (xs 1) rfl ?_
  refine lv_aload_n hx hb dL_law_761 rfl (lv_at hl 3 rfl) ?_
  refine lv_iload_n hx hb dL_law_762 rfl (lv_at hl 0 rfl) ?_
  refine lv_iconst (v := 2) hx hb dL_law_763 (by decide) ?_
  refine lv_iadd hx hb dL_law_764 ?_
  refine lv_tov 2 (by decide) ?_
  refine va_sld hx hb hX hbl (Nat.not_le.mpr hbl) hS (vp_in_iff.mpr (by decide)) dL_law_765 ?_
  refine lv_tov (xs 2) rfl ?_
  refine lk_i (va_runV (As := [.int (xs 1), .int (xs 2)]) (rest := []) ⟨hx, hb, hml, hown, hts⟩ (c_X11_go l D t σ I J ri rj rq H.size this (xs 1) (xs 2) hL_this hK_this this_now hR_this_now hL_this_now hK_this_now this_now_folk hR_this_now_folk hL_this_now_folk hK_this_now_folk hZ) (cwV 2 hts (tw_V tw_400 tw_401 tw_402 tw_2 tw_403) rfl rfl rfl (by decide +kernel) ⟨Nat.le_of_ble_eq_true rfl, Nat.le_of_ble_eq_true rfl⟩) ⟨pq_blind, pq_recv hK hP hL_this hK_this (by decide) rfl, pq_pre hK hN hP hD⟩ rfl rfl hl.1 rfl (lv_room (Nat.le_of_ble_eq_true rfl)) dL_law_766 ⟨Nat.le_of_ble_eq_true rfl, Nat.le_of_ble_eq_true rfl⟩) hD hS hA hP2 hdis (fun r1 u1 H locs hw1 hP2 hS => ?_)
  obtain ⟨-, hr1⟩ := hw1
  refine lv_aload_n hx hb dL_law_769 rfl (lv_at hl 1 rfl) ?_
  refine lv_aload_n hx hb dL_law_770 rfl (lv_at hl 3 rfl) ?_
  refine lv_iload_n hx hb dL_law_771 rfl (lv_at hl 0 rfl) ?_
  refine lv_iconst (v := 1) hx hb dL_law_772 (by decide) ?_
  refine lv_iadd hx hb dL_law_773 ?_
  refine lv_tov 1 (by decide) ?_
  refine va_sld hx hb hX hbl (Nat.not_le.mpr hbl) hS (vp_in_iff.mpr (by decide)) dL_law_774 ?_
  refine lv_tov (xs 1) rfl ?_
  refine lv_aload_n hx hb dL_law_775 rfl (lv_at hl 3 rfl) ?_
  refine lv_iload_n hx hb dL_law_776 rfl (lv_at hl 0 rfl) ?_
  refine lv_iconst (v := 2) hx hb dL_law_777 (by decide) ?_
  refine lv_iadd hx hb dL_law_778 ?_
  refine lv_tov 2 (by decide) ?_
  refine va_sld hx hb hX hbl (Nat.not_le.mpr hbl) hS (vp_in_iff.mpr (by decide)) dL_law_779 ?_
  refine lv_tov (xs 2) rfl ?_
  refine pk_i (va_runV (As := [.int (xs 1), .int (xs 2)]) (rest := [.int r1]) ⟨hx, hb, hml, hown, hts⟩ (c_X12_go l D t τ I2 J2 si sj sq H.size that (xs 1) (xs 2) hL_that hK_that that_a hR_that_a hL_that_a hK_that_a hN_that_a (okF_at hF_384 hR_that_a)) (cwV 2 hts (tw_V tw_421 tw_422 tw_423 tw_5 tw_424) rfl rfl rfl (by decide +kernel) ⟨Nat.le_of_ble_eq_true rfl, Nat.le_of_ble_eq_true rfl⟩) ⟨pq_blind, pq_recv hK hP2 hL_that hK_that (by decide) rfl, pq_pre hK hN hP2 hD2⟩ rfl rfl hl.1 rfl (lv_room (Nat.le_of_ble_eq_true rfl)) dL_law_780 ⟨Nat.le_of_ble_eq_true rfl, Nat.le_of_ble_eq_true rfl⟩) hD2 hS hA (fun r2 σ3 μ3 H locs hw2 hP3 hD3 hS => ?_)
  obtain ⟨-, hr2⟩ := hw2
  have he : r1 = r2 := by exact hr1.trans hr2.symm
  refine lv_icmp_eq (tgt := 1725) hx hb dL_law_783 (by decide) (fun _ => ?_) (fun q => absurd he q)
  exact lw_tail l hx hb hr hlocks hX hbl (by decide) (by decide) hS (lv_sub hl [3, 0] rfl)
set_option maxHeartbeats 8000000 in
set_option maxRecDepth 100000 in
theorem lw_op_12 {p : Program} {e : Env} {s : State} {m : MethodId} {below : List Frame} {meth : Method} {c : Code} {b : Nat} (l : Launch) (hx : p.tables.exec = Jvm.exec) (hb : c.code = cL_law) (hr : meth.sig.returnType = ret) (hml : c.maxLocals = 4) (hown : s.vm.findClass RL = some m.cls) (hlocks : meth.locks = false) (hts : ∀ w ∈ (Cond.initialized RX11 :: wsL_law), w.before #[Value.ref b] s = true) (xs : Nat → Int32) (hX : va_X b 7 xs s s.heap) (hbl : b < s.heap.size) {D : va_G} {t : pq_T} (hK : va_K D vwCl (pq_ty t) s) (hN : pq_N s) {σ τ : pq_S} {I : Nat → Nat → Int32} {J : Nat → Nat → Int64} {ri : Nat → Nat → Int32} {rj : Nat → Nat → Int64} {rq : Nat → Nat → Option Nat} {I2 : Nat → Nat → Int32} {J2 : Nat → Nat → Int64} {si : Nat → Nat → Int32} {sj : Nat → Nat → Int64} {sq : Nat → Nat → Option Nat} {this that : Nat} (hokx : okRingsUnder σ I this) (hL_this : this ∈ σ.1) (hK_this : σ.2.1 this = 11) (hZ : pq_Z I) (hq0 : rq = fun _ _ => none) (hokm : okModel τ I2 si that) (hL_that : that ∈ τ.1) (hK_that : τ.2.1 that = 12) (hdis : ∀ a, a ∈ τ.1 → a ∉ σ.1) {H : Heap} {locs : List Loc} (hP : va_P D vwCl (pq_P t σ (I, J, ri, rj, rq)) H) (hD : va_D (fun q => s.heap.size ≤ q) (pq_P t σ (I, J, ri, rj, rq))) (hP2 : va_P D vwCl (pq_P t τ (I2, J2, si, sj, sq)) H) (hD2 : va_D (fun q => s.heap.size ≤ q) (pq_P t τ (I2, J2, si, sj, sq))) (hS : va_S (fun q => s.heap.size ≤ q) s.heap H locs) {ls : Array Slot} (hl : lv_has ls 4 [(3, .int 0), (2, .ref that), (1, .ref this), (0, .ref b)]) : W p l e room_1 s m #[Value.ref b] below meth c H locs 207 49062 (lw_Z below #[Value.ref b] s) (F0 m 788 ls []) := by
  have hA : ∀ q : Nat, s.heap.size ≤ q → s.heap.size ≤ q := fun _ h => h
  obtain ⟨y_this_352, y_this_353, y_this_354, y_this_355, y_this_356, hd_this_352_353, hd_this_352_354, hd_this_353_354⟩ := id hokx
  obtain ⟨-, this_now, hR_this_now, hL_this_now, hK_this_now, ho_this_now⟩ := y_this_352
  obtain ⟨y_this_now_325, y_this_now_326, y_this_now_327, y_this_now_328, y_this_now_329, y_this_now_330, y_this_now_331, y_this_now_332, hi_this_now_320, hi_this_now_323, hi_this_now_324⟩ := id ho_this_now
  obtain ⟨-, this_now_folk, hR_this_now_folk, hL_this_now_folk, hK_this_now_folk, ho_this_now_folk⟩ := y_this_now_328
  obtain ⟨y_that_384, y_that_385, y_that_386, y_that_387, y_that_400, y_that_404, y_that_405, y_that_408, y_that_409, y_that_411, y_that_412, y_that_413, y_that_414, hi_that_388, hi_that_389, hi_that_390, hi_that_391, hd_that_384_385, hd_that_384_386, hd_that_384_414, hd_that_386_414, hF_384, hF_385⟩ := id hokm
  obtain ⟨-, that_a, hR_that_a, hL_that_a, hK_that_a, hN_that_a⟩ := y_that_384
  refine lv_aload_n hx hb dL_law_788 rfl (lv_at hl 2 rfl) ?_
  refine lv_aload_n hx hb dL_law_789 rfl (lv_at hl 3 rfl) ?_
  refine lv_iload_n hx hb dL_law_790 rfl (lv_at hl 0 rfl) ?_
  refine lv_iconst (v := 1) hx hb dL_law_791 (by decide) ?_
  refine lv_iadd hx hb dL_law_792 ?_
  refine lv_tov 1 (by decide) ?_
  refine va_sld hx hb hX hbl (Nat.not_le.mpr hbl) hS (vp_in_iff.mpr (by decide)) dL_law_793 ?_
  refine lv_tov (xs 1) rfl ?_
  refine lk_i (va_runV (As := [.int (xs 1)]) (rest := []) ⟨hx, hb, hml, hown, hts⟩ (c_X11_death l D t σ I J ri rj rq H.size this (xs 1) hL_this hK_this this_now hR_this_now hL_this_now hK_this_now this_now_folk hR_this_now_folk hL_this_now_folk hK_this_now_folk hZ) (cwV 1 hts (tw_V tw_449 tw_450 tw_451 tw_2 tw_452) rfl rfl rfl (by decide +kernel) ⟨Nat.le_of_ble_eq_true rfl, Nat.le_of_ble_eq_true rfl⟩) ⟨pq_blind, pq_recv hK hP hL_this hK_this (by decide) rfl, pq_pre hK hN hP hD⟩ rfl rfl hl.1 rfl (lv_room (Nat.le_of_ble_eq_true rfl)) dL_law_794 ⟨Nat.le_of_ble_eq_true rfl, Nat.le_of_ble_eq_true rfl⟩) hD hS hA hP2 hdis (fun r1 u1 H locs hw1 hP2 hS => ?_)
  obtain ⟨-, hr1⟩ := hw1
  refine lv_aload_n hx hb dL_law_797 rfl (lv_at hl 1 rfl) ?_
  refine lv_aload_n hx hb dL_law_798 rfl (lv_at hl 3 rfl) ?_
  refine lv_iload_n hx hb dL_law_799 rfl (lv_at hl 0 rfl) ?_
  refine lv_iconst (v := 1) hx hb dL_law_800 (by decide) ?_
  refine lv_iadd hx hb dL_law_801 ?_
  refine lv_tov 1 (by decide) ?_
  refine va_sld hx hb hX hbl (Nat.not_le.mpr hbl) hS (vp_in_iff.mpr (by decide)) dL_law_802 ?_
  refine lv_tov (xs 1) rfl ?_
  refine pk_i (va_runV (As := [.int (xs 1)]) (rest := [.int r1]) ⟨hx, hb, hml, hown, hts⟩ (c_X12_death l D t τ I2 J2 si sj sq H.size that (xs 1) hL_that hK_that that_a hR_that_a hL_that_a hK_that_a hN_that_a (okF_at hF_384 hR_that_a)) (cwV 1 hts (tw_V tw_499 tw_500 tw_501 tw_5 tw_502) rfl rfl rfl (by decide +kernel) ⟨Nat.le_of_ble_eq_true rfl, Nat.le_of_ble_eq_true rfl⟩) ⟨pq_blind, pq_recv hK hP2 hL_that hK_that (by decide) rfl, pq_pre hK hN hP2 hD2⟩ rfl rfl hl.1 rfl (lv_room (Nat.le_of_ble_eq_true rfl)) dL_law_803 ⟨Nat.le_of_ble_eq_true rfl, Nat.le_of_ble_eq_true rfl⟩) hD2 hS hA (fun r2 σ3 μ3 H locs hw2 hP3 hD3 hS => ?_)
  obtain ⟨-, hr2⟩ := hw2
  have he : r1 = r2 := by exact hr1.trans hr2.symm
  refine lv_icmp_eq (tgt := 1725) hx hb dL_law_806 (by decide) (fun _ => ?_) (fun q => absurd he q)
  exact lw_tail l hx hb hr hlocks hX hbl (by decide) (by decide) hS (lv_sub hl [3, 0] rfl)
set_option maxHeartbeats 8000000 in
set_option maxRecDepth 100000 in
theorem lw_op_13 {p : Program} {e : Env} {s : State} {m : MethodId} {below : List Frame} {meth : Method} {c : Code} {b : Nat} (l : Launch) (hx : p.tables.exec = Jvm.exec) (hb : c.code = cL_law) (hr : meth.sig.returnType = ret) (hml : c.maxLocals = 4) (hown : s.vm.findClass RL = some m.cls) (hlocks : meth.locks = false) (hts : ∀ w ∈ (Cond.initialized RX11 :: wsL_law), w.before #[Value.ref b] s = true) (xs : Nat → Int32) (hX : va_X b 7 xs s s.heap) (hbl : b < s.heap.size) {D : va_G} {t : pq_T} (hK : va_K D vwCl (pq_ty t) s) (hN : pq_N s) {σ τ : pq_S} {I : Nat → Nat → Int32} {J : Nat → Nat → Int64} {ri : Nat → Nat → Int32} {rj : Nat → Nat → Int64} {rq : Nat → Nat → Option Nat} {I2 : Nat → Nat → Int32} {J2 : Nat → Nat → Int64} {si : Nat → Nat → Int32} {sj : Nat → Nat → Int64} {sq : Nat → Nat → Option Nat} {this that : Nat} (hokx : okRingsUnder σ I this) (hL_this : this ∈ σ.1) (hK_this : σ.2.1 this = 11) (hZ : pq_Z I) (hq0 : rq = fun _ _ => none) (hokm : okModel τ I2 si that) (hL_that : that ∈ τ.1) (hK_that : τ.2.1 that = 12) (hdis : ∀ a, a ∈ τ.1 → a ∉ σ.1) {H : Heap} {locs : List Loc} (hP : va_P D vwCl (pq_P t σ (I, J, ri, rj, rq)) H) (hD : va_D (fun q => s.heap.size ≤ q) (pq_P t σ (I, J, ri, rj, rq))) (hP2 : va_P D vwCl (pq_P t τ (I2, J2, si, sj, sq)) H) (hD2 : va_D (fun q => s.heap.size ≤ q) (pq_P t τ (I2, J2, si, sj, sq))) (hS : va_S (fun q => s.heap.size ≤ q) s.heap H locs) {ls : Array Slot} (hl : lv_has ls 4 [(3, .int 0), (2, .ref that), (1, .ref this), (0, .ref b)]) : W p l e room_1 s m #[Value.ref b] below meth c H locs 207 49062 (lw_Z below #[Value.ref b] s) (F0 m 811 ls []) := by
  have hA : ∀ q : Nat, s.heap.size ≤ q → s.heap.size ≤ q := fun _ h => h
  obtain ⟨y_this_352, y_this_353, y_this_354, y_this_355, y_this_356, hd_this_352_353, hd_this_352_354, hd_this_353_354⟩ := id hokx
  obtain ⟨-, this_now, hR_this_now, hL_this_now, hK_this_now, ho_this_now⟩ := y_this_352
  obtain ⟨y_this_now_325, y_this_now_326, y_this_now_327, y_this_now_328, y_this_now_329, y_this_now_330, y_this_now_331, y_this_now_332, hi_this_now_320, hi_this_now_323, hi_this_now_324⟩ := id ho_this_now
  obtain ⟨-, this_now_land, hR_this_now_land, hL_this_now_land, hK_this_now_land, ho_this_now_land⟩ := y_this_now_327
  obtain ⟨y_this_now_land_68, y_this_now_land_69, y_this_now_land_70, y_this_now_land_71, y_this_now_land_72, y_this_now_land_73, y_this_now_land_74, y_this_now_land_75, y_this_now_land_76, y_this_now_land_77, y_this_now_land_78, y_this_now_land_79, y_this_now_land_80, y_this_now_land_81, y_this_now_land_82, y_this_now_land_83, hd_this_now_land_82_83⟩ := id ho_this_now_land
  obtain ⟨y_that_384, y_that_385, y_that_386, y_that_387, y_that_400, y_that_404, y_that_405, y_that_408, y_that_409, y_that_411, y_that_412, y_that_413, y_that_414, hi_that_388, hi_that_389, hi_that_390, hi_that_391, hd_that_384_385, hd_that_384_386, hd_that_384_414, hd_that_386_414, hF_384, hF_385⟩ := id hokm
  obtain ⟨-, that_a, hR_that_a, hL_that_a, hK_that_a, hN_that_a⟩ := y_that_384
  refine lv_aload_n hx hb dL_law_811 rfl (lv_at hl 2 rfl) ?_
  refine lv_aload_n hx hb dL_law_812 rfl (lv_at hl 3 rfl) ?_
  refine lv_iload_n hx hb dL_law_813 rfl (lv_at hl 0 rfl) ?_
  refine lv_iconst (v := 1) hx hb dL_law_814 (by decide) ?_
  refine lv_iadd hx hb dL_law_815 ?_
  refine lv_tov 1 (by decide) ?_
  refine va_sld hx hb hX hbl (Nat.not_le.mpr hbl) hS (vp_in_iff.mpr (by decide)) dL_law_816 ?_
  refine lv_tov (xs 1) rfl ?_
  refine lv_aload_n hx hb dL_law_817 rfl (lv_at hl 3 rfl) ?_
  refine lv_iload_n hx hb dL_law_818 rfl (lv_at hl 0 rfl) ?_
  refine lv_iconst (v := 2) hx hb dL_law_819 (by decide) ?_
  refine lv_iadd hx hb dL_law_820 ?_
  refine lv_tov 2 (by decide) ?_
  refine va_sld hx hb hX hbl (Nat.not_le.mpr hbl) hS (vp_in_iff.mpr (by decide)) dL_law_821 ?_
  refine lv_tov (xs 2) rfl ?_
  refine lk_i (va_runV (As := [.int (xs 1), .int (xs 2)]) (rest := []) ⟨hx, hb, hml, hown, hts⟩ (c_X11_title l D t σ I J ri rj rq H.size this (xs 1) (xs 2) hL_this hK_this this_now hR_this_now hL_this_now hK_this_now this_now_land hR_this_now_land hL_this_now_land hK_this_now_land hZ) (cwV 2 hts (tw_V tw_532 tw_533 tw_534 tw_2 tw_535) rfl rfl rfl (by decide +kernel) ⟨Nat.le_of_ble_eq_true rfl, Nat.le_of_ble_eq_true rfl⟩) ⟨pq_blind, pq_recv hK hP hL_this hK_this (by decide) rfl, pq_pre hK hN hP hD⟩ rfl rfl hl.1 rfl (lv_room (Nat.le_of_ble_eq_true rfl)) dL_law_822 ⟨Nat.le_of_ble_eq_true rfl, Nat.le_of_ble_eq_true rfl⟩) hD hS hA hP2 hdis (fun r1 u1 H locs hw1 hP2 hS => ?_)
  obtain ⟨-, hr1⟩ := hw1
  refine lv_aload_n hx hb dL_law_825 rfl (lv_at hl 1 rfl) ?_
  refine lv_aload_n hx hb dL_law_826 rfl (lv_at hl 3 rfl) ?_
  refine lv_iload_n hx hb dL_law_827 rfl (lv_at hl 0 rfl) ?_
  refine lv_iconst (v := 1) hx hb dL_law_828 (by decide) ?_
  refine lv_iadd hx hb dL_law_829 ?_
  refine lv_tov 1 (by decide) ?_
  refine va_sld hx hb hX hbl (Nat.not_le.mpr hbl) hS (vp_in_iff.mpr (by decide)) dL_law_830 ?_
  refine lv_tov (xs 1) rfl ?_
  refine lv_aload_n hx hb dL_law_831 rfl (lv_at hl 3 rfl) ?_
  refine lv_iload_n hx hb dL_law_832 rfl (lv_at hl 0 rfl) ?_
  refine lv_iconst (v := 2) hx hb dL_law_833 (by decide) ?_
  refine lv_iadd hx hb dL_law_834 ?_
  refine lv_tov 2 (by decide) ?_
  refine va_sld hx hb hX hbl (Nat.not_le.mpr hbl) hS (vp_in_iff.mpr (by decide)) dL_law_835 ?_
  refine lv_tov (xs 2) rfl ?_
  refine pk_i (va_runV (As := [.int (xs 1), .int (xs 2)]) (rest := [.int r1]) ⟨hx, hb, hml, hown, hts⟩ (c_X12_title l D t τ I2 J2 si sj sq H.size that (xs 1) (xs 2) hL_that hK_that that_a hR_that_a hL_that_a hK_that_a hN_that_a (okF_at hF_384 hR_that_a)) (cwV 2 hts (tw_V tw_537 tw_538 tw_539 tw_5 tw_540) rfl rfl rfl (by decide +kernel) ⟨Nat.le_of_ble_eq_true rfl, Nat.le_of_ble_eq_true rfl⟩) ⟨pq_blind, pq_recv hK hP2 hL_that hK_that (by decide) rfl, pq_pre hK hN hP2 hD2⟩ rfl rfl hl.1 rfl (lv_room (Nat.le_of_ble_eq_true rfl)) dL_law_836 ⟨Nat.le_of_ble_eq_true rfl, Nat.le_of_ble_eq_true rfl⟩) hD2 hS hA (fun r2 σ3 μ3 H locs hw2 hP3 hD3 hS => ?_)
  obtain ⟨-, hr2⟩ := hw2
  have he : r1 = r2 := by exact hr1.trans hr2.symm
  refine lv_icmp_eq (tgt := 1725) hx hb dL_law_839 (by decide) (fun _ => ?_) (fun q => absurd he q)
  exact lw_tail l hx hb hr hlocks hX hbl (by decide) (by decide) hS (lv_sub hl [3, 0] rfl)

