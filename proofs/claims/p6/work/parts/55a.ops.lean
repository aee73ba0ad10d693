theorem dL_law_212 : decode cL_law 212 = .ok (.aload_n 1, 1) := oc_43 (by decide +kernel)
theorem tw_195 : Cond.methodLink RL 13 yX11_ring ∈ wsL_law := sg_9 _ (List.mem_of_getElem? (i := 3) rfl)
theorem tw_196 : Cond.instanceMethod yX11_ring ∈ wsL_law := sg_9 _ (List.mem_of_getElem? (i := 4) rfl)
theorem tw_197 : Cond.selects RX11 yX11_ring yX11_ring ∈ wsL_law := sg_9 _ (List.mem_of_getElem? (i := 5) rfl)
theorem tw_198 : Cond.code yX11_ring cX11_ring 2 (some .int) ∈ wsL_law := sg_9 _ (List.mem_of_getElem? (i := 6) rfl)
theorem dL_law_213 : decode cL_law 213 = .ok (.invokevirtual 13, 3) := oc_182 (a := 0) (b := 13) (by decide +kernel)
theorem dL_law_216 : decode cL_law 216 = .ok (.pop, 1) := oc_87 (by decide +kernel)
theorem dL_law_217 : decode cL_law 217 = .ok (.aload_n 2, 1) := oc_44 (by decide +kernel)
theorem tw_201 : Cond.methodLink RL 17 yX12_ring ∈ wsL_law := sg_9 _ (List.mem_of_getElem? (i := 9) rfl)
theorem tw_202 : Cond.instanceMethod yX12_ring ∈ wsL_law := sg_9 _ (List.mem_of_getElem? (i := 10) rfl)
theorem tw_203 : Cond.selects RX12 yX12_ring yX12_ring ∈ wsL_law := sg_9 _ (List.mem_of_getElem? (i := 11) rfl)
theorem tw_204 : Cond.code yX12_ring cX12_ring 1 (some .int) ∈ wsL_law := sg_9 _ (List.mem_of_getElem? (i := 12) rfl)
theorem dL_law_218 : decode cL_law 218 = .ok (.invokevirtual 17, 3) := oc_182 (a := 0) (b := 17) (by decide +kernel)
theorem dL_law_221 : decode cL_law 221 = .ok (.pop, 1) := oc_87 (by decide +kernel)
theorem dL_law_222 : decode cL_law 222 = .ok (.goto 1503, 3) := oc_167 (a := 5) (b := 223) (by decide +kernel)
theorem dL_law_225 : decode cL_law 225 = .ok (.aload_n 1, 1) := oc_43 (by decide +kernel)
theorem dL_law_226 : decode cL_law 226 = .ok (.aload_n 0, 1) := oc_42 (by decide +kernel)
theorem dL_law_227 : decode cL_law 227 = .ok (.iload_n 3, 1) := oc_29 (by decide +kernel)
theorem dL_law_228 : decode cL_law 228 = .ok (.iconst 1, 1) := oc_4 (by decide +kernel)
theorem dL_law_229 : decode cL_law 229 = .ok (.iadd, 1) := oc_96 (by decide +kernel)
theorem dL_law_230 : decode cL_law 230 = .ok (.iaload, 1) := oc_46 (by decide +kernel)
theorem dL_law_231 : decode cL_law 231 = .ok (.aload_n 0, 1) := oc_42 (by decide +kernel)
theorem dL_law_232 : decode cL_law 232 = .ok (.iload_n 3, 1) := oc_29 (by decide +kernel)
theorem dL_law_233 : decode cL_law 233 = .ok (.iconst 2, 1) := oc_5 (by decide +kernel)
theorem dL_law_234 : decode cL_law 234 = .ok (.iadd, 1) := oc_96 (by decide +kernel)
theorem dL_law_235 : decode cL_law 235 = .ok (.iaload, 1) := oc_46 (by decide +kernel)
theorem dL_law_236 : decode cL_law 236 = .ok (.aload_n 0, 1) := oc_42 (by decide +kernel)
theorem dL_law_237 : decode cL_law 237 = .ok (.iload_n 3, 1) := oc_29 (by decide +kernel)
theorem dL_law_238 : decode cL_law 238 = .ok (.iconst 3, 1) := oc_6 (by decide +kernel)
theorem dL_law_239 : decode cL_law 239 = .ok (.iadd, 1) := oc_96 (by decide +kernel)
theorem dL_law_240 : decode cL_law 240 = .ok (.iaload, 1) := oc_46 (by decide +kernel)
theorem dL_law_241 : decode cL_law 241 = .ok (.aload_n 0, 1) := oc_42 (by decide +kernel)
theorem dL_law_242 : decode cL_law 242 = .ok (.iload_n 3, 1) := oc_29 (by decide +kernel)
theorem dL_law_243 : decode cL_law 243 = .ok (.iconst 4, 1) := oc_7 (by decide +kernel)
theorem dL_law_244 : decode cL_law 244 = .ok (.iadd, 1) := oc_96 (by decide +kernel)
theorem dL_law_245 : decode cL_law 245 = .ok (.iaload, 1) := oc_46 (by decide +kernel)
theorem dL_law_246 : decode cL_law 246 = .ok (.aload_n 0, 1) := oc_42 (by decide +kernel)
theorem dL_law_247 : decode cL_law 247 = .ok (.iload_n 3, 1) := oc_29 (by decide +kernel)
theorem dL_law_248 : decode cL_law 248 = .ok (.iconst 5, 1) := oc_8 (by decide +kernel)
theorem dL_law_249 : decode cL_law 249 = .ok (.iadd, 1) := oc_96 (by decide +kernel)
theorem dL_law_250 : decode cL_law 250 = .ok (.iaload, 1) := oc_46 (by decide +kernel)
theorem dL_law_251 : decode cL_law 251 = .ok (.aload_n 0, 1) := oc_42 (by decide +kernel)
theorem dL_law_252 : decode cL_law 252 = .ok (.iload_n 3, 1) := oc_29 (by decide +kernel)
theorem dL_law_253 : decode cL_law 253 = .ok (.bipush 6, 2) := oc_16 (a := 6) (by decide +kernel)
theorem dL_law_255 : decode cL_law 255 = .ok (.iadd, 1) := oc_96 (by decide +kernel)
theorem dL_law_256 : decode cL_law 256 = .ok (.iaload, 1) := oc_46 (by decide +kernel)
theorem tw_205 : Cond.methodLink RL 18 yX11_cell ∈ wsL_law := sg_9 _ (List.mem_of_getElem? (i := 13) rfl)
theorem tw_206 : Cond.instanceMethod yX11_cell ∈ wsL_law := sg_9 _ (List.mem_of_getElem? (i := 14) rfl)
theorem tw_207 : Cond.selects RX11 yX11_cell yX11_cell ∈ wsL_law := sg_9 _ (List.mem_of_getElem? (i := 15) rfl)
theorem tw_208 : Cond.code yX11_cell cX11_cell 8 (some .int) ∈ wsL_law := sg_9 _ (List.mem_of_getElem? (i := 16) rfl)
theorem dL_law_257 : decode cL_law 257 = .ok (.invokevirtual 18, 3) := oc_182 (a := 0) (b := 18) (by decide +kernel)
theorem dL_law_260 : decode cL_law 260 = .ok (.pop, 1) := oc_87 (by decide +kernel)
theorem dL_law_261 : decode cL_law 261 = .ok (.aload_n 2, 1) := oc_44 (by decide +kernel)
theorem dL_law_262 : decode cL_law 262 = .ok (.aload_n 0, 1) := oc_42 (by decide +kernel)
theorem dL_law_263 : decode cL_law 263 = .ok (.iload_n 3, 1) := oc_29 (by decide +kernel)
theorem dL_law_264 : decode cL_law 264 = .ok (.iconst 1, 1) := oc_4 (by decide +kernel)
theorem dL_law_265 : decode cL_law 265 = .ok (.iadd, 1) := oc_96 (by decide +kernel)
theorem dL_law_266 : decode cL_law 266 = .ok (.iaload, 1) := oc_46 (by decide +kernel)
theorem dL_law_267 : decode cL_law 267 = .ok (.aload_n 0, 1) := oc_42 (by decide +kernel)
theorem dL_law_268 : decode cL_law 268 = .ok (.iload_n 3, 1) := oc_29 (by decide +kernel)
theorem dL_law_269 : decode cL_law 269 = .ok (.iconst 2, 1) := oc_5 (by decide +kernel)
theorem dL_law_270 : decode cL_law 270 = .ok (.iadd, 1) := oc_96 (by decide +kernel)
theorem dL_law_271 : decode cL_law 271 = .ok (.iaload, 1) := oc_46 (by decide +kernel)
theorem dL_law_272 : decode cL_law 272 = .ok (.aload_n 0, 1) := oc_42 (by decide +kernel)
theorem dL_law_273 : decode cL_law 273 = .ok (.iload_n 3, 1) := oc_29 (by decide +kernel)
theorem dL_law_274 : decode cL_law 274 = .ok (.iconst 3, 1) := oc_6 (by decide +kernel)
theorem dL_law_275 : decode cL_law 275 = .ok (.iadd, 1) := oc_96 (by decide +kernel)
theorem dL_law_276 : decode cL_law 276 = .ok (.iaload, 1) := oc_46 (by decide +kernel)
theorem dL_law_277 : decode cL_law 277 = .ok (.aload_n 0, 1) := oc_42 (by decide +kernel)
theorem dL_law_278 : decode cL_law 278 = .ok (.iload_n 3, 1) := oc_29 (by decide +kernel)
theorem dL_law_279 : decode cL_law 279 = .ok (.iconst 4, 1) := oc_7 (by decide +kernel)
theorem dL_law_280 : decode cL_law 280 = .ok (.iadd, 1) := oc_96 (by decide +kernel)
theorem dL_law_281 : decode cL_law 281 = .ok (.iaload, 1) := oc_46 (by decide +kernel)
theorem dL_law_282 : decode cL_law 282 = .ok (.aload_n 0, 1) := oc_42 (by decide +kernel)
theorem dL_law_283 : decode cL_law 283 = .ok (.iload_n 3, 1) := oc_29 (by decide +kernel)
theorem dL_law_284 : decode cL_law 284 = .ok (.iconst 5, 1) := oc_8 (by decide +kernel)
theorem dL_law_285 : decode cL_law 285 = .ok (.iadd, 1) := oc_96 (by decide +kernel)
theorem dL_law_286 : decode cL_law 286 = .ok (.iaload, 1) := oc_46 (by decide +kernel)
theorem dL_law_287 : decode cL_law 287 = .ok (.aload_n 0, 1) := oc_42 (by decide +kernel)
theorem dL_law_288 : decode cL_law 288 = .ok (.iload_n 3, 1) := oc_29 (by decide +kernel)
theorem dL_law_289 : decode cL_law 289 = .ok (.bipush 6, 2) := oc_16 (a := 6) (by decide +kernel)
theorem dL_law_291 : decode cL_law 291 = .ok (.iadd, 1) := oc_96 (by decide +kernel)
theorem dL_law_292 : decode cL_law 292 = .ok (.iaload, 1) := oc_46 (by decide +kernel)
theorem tw_227 : Cond.methodLink RL 22 yX12_cell ∈ wsL_law := sg_10 _ (List.mem_of_getElem? (i := 11) rfl)
theorem tw_228 : Cond.instanceMethod yX12_cell ∈ wsL_law := sg_10 _ (List.mem_of_getElem? (i := 12) rfl)
theorem tw_229 : Cond.selects RX12 yX12_cell yX12_cell ∈ wsL_law := sg_10 _ (List.mem_of_getElem? (i := 13) rfl)
theorem tw_230 : Cond.code yX12_cell cX12_cell 8 (some .int) ∈ wsL_law := sg_10 _ (List.mem_of_getElem? (i := 14) rfl)
theorem dL_law_293 : decode cL_law 293 = .ok (.invokevirtual 22, 3) := oc_182 (a := 0) (b := 22) (by decide +kernel)
theorem dL_law_296 : decode cL_law 296 = .ok (.pop, 1) := oc_87 (by decide +kernel)
theorem dL_law_297 : decode cL_law 297 = .ok (.goto 1428, 3) := oc_167 (a := 5) (b := 148) (by decide +kernel)
theorem dL_law_300 : decode cL_law 300 = .ok (.aload_n 1, 1) := oc_43 (by decide +kernel)
theorem dL_law_301 : decode cL_law 301 = .ok (.aload_n 0, 1) := oc_42 (by decide +kernel)
theorem dL_law_302 : decode cL_law 302 = .ok (.iload_n 3, 1) := oc_29 (by decide +kernel)
theorem dL_law_303 : decode cL_law 303 = .ok (.iconst 1, 1) := oc_4 (by decide +kernel)
theorem dL_law_304 : decode cL_law 304 = .ok (.iadd, 1) := oc_96 (by decide +kernel)
theorem dL_law_305 : decode cL_law 305 = .ok (.iaload, 1) := oc_46 (by decide +kernel)
theorem dL_law_306 : decode cL_law 306 = .ok (.aload_n 0, 1) := oc_42 (by decide +kernel)
theorem dL_law_307 : decode cL_law 307 = .ok (.iload_n 3, 1) := oc_29 (by decide +kernel)
theorem dL_law_308 : decode cL_law 308 = .ok (.iconst 2, 1) := oc_5 (by decide +kernel)
theorem dL_law_309 : decode cL_law 309 = .ok (.iadd, 1) := oc_96 (by decide +kernel)
theorem dL_law_310 : decode cL_law 310 = .ok (.iaload, 1) := oc_46 (by decide +kernel)
theorem dL_law_311 : decode cL_law 311 = .ok (.aload_n 0, 1) := oc_42 (by decide +kernel)
theorem dL_law_312 : decode cL_law 312 = .ok (.iload_n 3, 1) := oc_29 (by decide +kernel)
theorem dL_law_313 : decode cL_law 313 = .ok (.iconst 3, 1) := oc_6 (by decide +kernel)
theorem dL_law_314 : decode cL_law 314 = .ok (.iadd, 1) := oc_96 (by decide +kernel)
theorem dL_law_315 : decode cL_law 315 = .ok (.iaload, 1) := oc_46 (by decide +kernel)
theorem dL_law_316 : decode cL_law 316 = .ok (.ifCond .eq 7, 3) := oc_153 (a := 0) (b := 7) (by decide +kernel)
theorem dL_law_323 : decode cL_law 323 = .ok (.iconst 0, 1) := oc_3 (by decide +kernel)
theorem dL_law_324 : decode cL_law 324 = .ok (.aload_n 0, 1) := oc_42 (by decide +kernel)
theorem dL_law_325 : decode cL_law 325 = .ok (.iload_n 3, 1) := oc_29 (by decide +kernel)
theorem dL_law_326 : decode cL_law 326 = .ok (.iconst 4, 1) := oc_7 (by decide +kernel)
theorem dL_law_327 : decode cL_law 327 = .ok (.iadd, 1) := oc_96 (by decide +kernel)
theorem dL_law_328 : decode cL_law 328 = .ok (.iaload, 1) := oc_46 (by decide +kernel)
theorem tw_238 : Cond.methodLink RL 23 yX11_level ∈ wsL_law := sg_10 _ (List.mem_of_getElem? (i := 22) rfl)
theorem tw_239 : Cond.instanceMethod yX11_level ∈ wsL_law := sg_10 _ (List.mem_of_getElem? (i := 23) rfl)
theorem tw_240 : Cond.selects RX11 yX11_level yX11_level ∈ wsL_law := sg_11 _ (List.mem_of_getElem? (i := 0) rfl)
theorem tw_241 : Cond.code yX11_level cX11_level 5 (some .int) ∈ wsL_law := sg_11 _ (List.mem_of_getElem? (i := 1) rfl)
theorem dL_law_329 : decode cL_law 329 = .ok (.invokevirtual 23, 3) := oc_182 (a := 0) (b := 23) (by decide +kernel)
theorem dL_law_332 : decode cL_law 332 = .ok (.pop, 1) := oc_87 (by decide +kernel)
theorem dL_law_333 : decode cL_law 333 = .ok (.aload_n 2, 1) := oc_44 (by decide +kernel)
theorem dL_law_334 : decode cL_law 334 = .ok (.aload_n 0, 1) := oc_42 (by decide +kernel)
theorem dL_law_335 : decode cL_law 335 = .ok (.iload_n 3, 1) := oc_29 (by decide +kernel)
theorem dL_law_336 : decode cL_law 336 = .ok (.iconst 1, 1) := oc_4 (by decide +kernel)
theorem dL_law_337 : decode cL_law 337 = .ok (.iadd, 1) := oc_96 (by decide +kernel)
theorem dL_law_338 : decode cL_law 338 = .ok (.iaload, 1) := oc_46 (by decide +kernel)
theorem dL_law_339 : decode cL_law 339 = .ok (.aload_n 0, 1) := oc_42 (by decide +kernel)
theorem dL_law_340 : decode cL_law 340 = .ok (.iload_n 3, 1) := oc_29 (by decide +kernel)
theorem dL_law_341 : decode cL_law 341 = .ok (.iconst 2, 1) := oc_5 (by decide +kernel)
theorem dL_law_342 : decode cL_law 342 = .ok (.iadd, 1) := oc_96 (by decide +kernel)
theorem dL_law_343 : decode cL_law 343 = .ok (.iaload, 1) := oc_46 (by decide +kernel)
theorem dL_law_344 : decode cL_law 344 = .ok (.aload_n 0, 1) := oc_42 (by decide +kernel)
theorem dL_law_345 : decode cL_law 345 = .ok (.iload_n 3, 1) := oc_29 (by decide +kernel)
theorem dL_law_346 : decode cL_law 346 = .ok (.iconst 3, 1) := oc_6 (by decide +kernel)
theorem dL_law_347 : decode cL_law 347 = .ok (.iadd, 1) := oc_96 (by decide +kernel)
theorem dL_law_348 : decode cL_law 348 = .ok (.iaload, 1) := oc_46 (by decide +kernel)
theorem dL_law_349 : decode cL_law 349 = .ok (.ifCond .eq 7, 3) := oc_153 (a := 0) (b := 7) (by decide +kernel)
theorem dL_law_356 : decode cL_law 356 = .ok (.iconst 0, 1) := oc_3 (by decide +kernel)
theorem dL_law_357 : decode cL_law 357 = .ok (.aload_n 0, 1) := oc_42 (by decide +kernel)
theorem dL_law_358 : decode cL_law 358 = .ok (.iload_n 3, 1) := oc_29 (by decide +kernel)
theorem dL_law_359 : decode cL_law 359 = .ok (.iconst 4, 1) := oc_7 (by decide +kernel)
theorem dL_law_360 : decode cL_law 360 = .ok (.iadd, 1) := oc_96 (by decide +kernel)
theorem dL_law_361 : decode cL_law 361 = .ok (.iaload, 1) := oc_46 (by decide +kernel)
theorem tw_255 : Cond.methodLink RL 27 yX12_level ∈ wsL_law := sg_11 _ (List.mem_of_getElem? (i := 15) rfl)
theorem tw_256 : Cond.instanceMethod yX12_level ∈ wsL_law := sg_11 _ (List.mem_of_getElem? (i := 16) rfl)
theorem tw_257 : Cond.selects RX12 yX12_level yX12_level ∈ wsL_law := sg_11 _ (List.mem_of_getElem? (i := 17) rfl)
theorem tw_258 : Cond.code yX12_level cX12_level 6 (some .int) ∈ wsL_law := sg_11 _ (List.mem_of_getElem? (i := 18) rfl)
theorem dL_law_362 : decode cL_law 362 = .ok (.invokevirtual 27, 3) := oc_182 (a := 0) (b := 27) (by decide +kernel)
theorem dL_law_365 : decode cL_law 365 = .ok (.pop, 1) := oc_87 (by decide +kernel)
theorem dL_law_366 : decode cL_law 366 = .ok (.goto 1359, 3) := oc_167 (a := 5) (b := 79) (by decide +kernel)
theorem dL_law_319 : decode cL_law 319 = .ok (.iconst 1, 1) := oc_4 (by decide +kernel)
theorem dL_law_320 : decode cL_law 320 = .ok (.goto 4, 3) := oc_167 (a := 0) (b := 4) (by decide +kernel)
theorem dL_law_352 : decode cL_law 352 = .ok (.iconst 1, 1) := oc_4 (by decide +kernel)
theorem dL_law_353 : decode cL_law 353 = .ok (.goto 4, 3) := oc_167 (a := 0) (b := 4) (by decide +kernel)
theorem dL_law_369 : decode cL_law 369 = .ok (.aload_n 1, 1) := oc_43 (by decide +kernel)
theorem dL_law_370 : decode cL_law 370 = .ok (.aload_n 0, 1) := oc_42 (by decide +kernel)
theorem dL_law_371 : decode cL_law 371 = .ok (.iload_n 3, 1) := oc_29 (by decide +kernel)
theorem dL_law_372 : decode cL_law 372 = .ok (.iconst 1, 1) := oc_4 (by decide +kernel)
theorem dL_law_373 : decode cL_law 373 = .ok (.iadd, 1) := oc_96 (by decide +kernel)
theorem dL_law_374 : decode cL_law 374 = .ok (.iaload, 1) := oc_46 (by decide +kernel)
theorem dL_law_375 : decode cL_law 375 = .ok (.aload_n 0, 1) := oc_42 (by decide +kernel)
theorem dL_law_376 : decode cL_law 376 = .ok (.iload_n 3, 1) := oc_29 (by decide +kernel)
theorem dL_law_377 : decode cL_law 377 = .ok (.iconst 2, 1) := oc_5 (by decide +kernel)
theorem dL_law_378 : decode cL_law 378 = .ok (.iadd, 1) := oc_96 (by decide +kernel)
theorem dL_law_379 : decode cL_law 379 = .ok (.iaload, 1) := oc_46 (by decide +kernel)
theorem dL_law_380 : decode cL_law 380 = .ok (.aload_n 0, 1) := oc_42 (by decide +kernel)
theorem dL_law_381 : decode cL_law 381 = .ok (.iload_n 3, 1) := oc_29 (by decide +kernel)
theorem dL_law_382 : decode cL_law 382 = .ok (.iconst 3, 1) := oc_6 (by decide +kernel)
theorem dL_law_383 : decode cL_law 383 = .ok (.iadd, 1) := oc_96 (by decide +kernel)
theorem dL_law_384 : decode cL_law 384 = .ok (.iaload, 1) := oc_46 (by decide +kernel)
theorem tw_265 : Cond.methodLink RL 28 yX11_levelOf ∈ wsL_law := sg_12 _ (List.mem_of_getElem? (i := 1) rfl)
theorem tw_266 : Cond.instanceMethod yX11_levelOf ∈ wsL_law := sg_12 _ (List.mem_of_getElem? (i := 2) rfl)
theorem tw_267 : Cond.selects RX11 yX11_levelOf yX11_levelOf ∈ wsL_law := sg_12 _ (List.mem_of_getElem? (i := 3) rfl)
theorem tw_268 : Cond.code yX11_levelOf cX11_levelOf 4 (some .int) ∈ wsL_law := sg_12 _ (List.mem_of_getElem? (i := 4) rfl)
theorem dL_law_385 : decode cL_law 385 = .ok (.invokevirtual 28, 3) := oc_182 (a := 0) (b := 28) (by decide +kernel)
theorem dL_law_388 : decode cL_law 388 = .ok (.pop, 1) := oc_87 (by decide +kernel)
theorem dL_law_389 : decode cL_law 389 = .ok (.aload_n 2, 1) := oc_44 (by decide +kernel)
theorem dL_law_390 : decode cL_law 390 = .ok (.aload_n 0, 1) := oc_42 (by decide +kernel)
theorem dL_law_391 : decode cL_law 391 = .ok (.iload_n 3, 1) := oc_29 (by decide +kernel)
theorem dL_law_392 : decode cL_law 392 = .ok (.iconst 1, 1) := oc_4 (by decide +kernel)
theorem dL_law_393 : decode cL_law 393 = .ok (.iadd, 1) := oc_96 (by decide +kernel)
theorem dL_law_394 : decode cL_law 394 = .ok (.iaload, 1) := oc_46 (by decide +kernel)
theorem dL_law_395 : decode cL_law 395 = .ok (.aload_n 0, 1) := oc_42 (by decide +kernel)
theorem dL_law_396 : decode cL_law 396 = .ok (.iload_n 3, 1) := oc_29 (by decide +kernel)
theorem dL_law_397 : decode cL_law 397 = .ok (.iconst 2, 1) := oc_5 (by decide +kernel)
theorem dL_law_398 : decode cL_law 398 = .ok (.iadd, 1) := oc_96 (by decide +kernel)
theorem dL_law_399 : decode cL_law 399 = .ok (.iaload, 1) := oc_46 (by decide +kernel)
theorem dL_law_400 : decode cL_law 400 = .ok (.aload_n 0, 1) := oc_42 (by decide +kernel)
theorem dL_law_401 : decode cL_law 401 = .ok (.iload_n 3, 1) := oc_29 (by decide +kernel)
theorem dL_law_402 : decode cL_law 402 = .ok (.iconst 3, 1) := oc_6 (by decide +kernel)
theorem dL_law_403 : decode cL_law 403 = .ok (.iadd, 1) := oc_96 (by decide +kernel)
theorem dL_law_404 : decode cL_law 404 = .ok (.iaload, 1) := oc_46 (by decide +kernel)
theorem tw_284 : Cond.methodLink RL 32 yX12_levelOf ∈ wsL_law := sg_12 _ (List.mem_of_getElem? (i := 20) rfl)
theorem tw_285 : Cond.instanceMethod yX12_levelOf ∈ wsL_law := sg_12 _ (List.mem_of_getElem? (i := 21) rfl)
theorem tw_286 : Cond.selects RX12 yX12_levelOf yX12_levelOf ∈ wsL_law := sg_12 _ (List.mem_of_getElem? (i := 22) rfl)
theorem tw_287 : Cond.code yX12_levelOf cX12_levelOf 4 (some .int) ∈ wsL_law := sg_12 _ (List.mem_of_getElem? (i := 23) rfl)
theorem dL_law_405 : decode cL_law 405 = .ok (.invokevirtual 32, 3) := oc_182 (a := 0) (b := 32) (by decide +kernel)
theorem dL_law_408 : decode cL_law 408 = .ok (.pop, 1) := oc_87 (by decide +kernel)
theorem dL_law_409 : decode cL_law 409 = .ok (.goto 1316, 3) := oc_167 (a := 5) (b := 36) (by decide +kernel)
theorem dL_law_412 : decode cL_law 412 = .ok (.aload_n 1, 1) := oc_43 (by decide +kernel)
theorem dL_law_413 : decode cL_law 413 = .ok (.aload_n 0, 1) := oc_42 (by decide +kernel)
theorem dL_law_414 : decode cL_law 414 = .ok (.iload_n 3, 1) := oc_29 (by decide +kernel)
theorem dL_law_415 : decode cL_law 415 = .ok (.iconst 1, 1) := oc_4 (by decide +kernel)
theorem dL_law_416 : decode cL_law 416 = .ok (.iadd, 1) := oc_96 (by decide +kernel)
theorem dL_law_417 : decode cL_law 417 = .ok (.iaload, 1) := oc_46 (by decide +kernel)
theorem dL_law_418 : decode cL_law 418 = .ok (.aload_n 0, 1) := oc_42 (by decide +kernel)
theorem dL_law_419 : decode cL_law 419 = .ok (.iload_n 3, 1) := oc_29 (by decide +kernel)
theorem dL_law_420 : decode cL_law 420 = .ok (.iconst 2, 1) := oc_5 (by decide +kernel)
theorem dL_law_421 : decode cL_law 421 = .ok (.iadd, 1) := oc_96 (by decide +kernel)
theorem dL_law_422 : decode cL_law 422 = .ok (.iaload, 1) := oc_46 (by decide +kernel)
theorem dL_law_423 : decode cL_law 423 = .ok (.aload_n 0, 1) := oc_42 (by decide +kernel)
theorem dL_law_424 : decode cL_law 424 = .ok (.iload_n 3, 1) := oc_29 (by decide +kernel)
theorem dL_law_425 : decode cL_law 425 = .ok (.iconst 3, 1) := oc_6 (by decide +kernel)
theorem dL_law_426 : decode cL_law 426 = .ok (.iadd, 1) := oc_96 (by decide +kernel)
theorem dL_law_427 : decode cL_law 427 = .ok (.iaload, 1) := oc_46 (by decide +kernel)
theorem dL_law_428 : decode cL_law 428 = .ok (.aload_n 0, 1) := oc_42 (by decide +kernel)
theorem dL_law_429 : decode cL_law 429 = .ok (.iload_n 3, 1) := oc_29 (by decide +kernel)
theorem dL_law_430 : decode cL_law 430 = .ok (.iconst 4, 1) := oc_7 (by decide +kernel)
theorem dL_law_431 : decode cL_law 431 = .ok (.iadd, 1) := oc_96 (by decide +kernel)
theorem dL_law_432 : decode cL_law 432 = .ok (.iaload, 1) := oc_46 (by decide +kernel)
theorem dL_law_433 : decode cL_law 433 = .ok (.aload_n 0, 1) := oc_42 (by decide +kernel)
theorem dL_law_434 : decode cL_law 434 = .ok (.iload_n 3, 1) := oc_29 (by decide +kernel)
theorem dL_law_435 : decode cL_law 435 = .ok (.iconst 5, 1) := oc_8 (by decide +kernel)
theorem dL_law_436 : decode cL_law 436 = .ok (.iadd, 1) := oc_96 (by decide +kernel)
theorem dL_law_437 : decode cL_law 437 = .ok (.iaload, 1) := oc_46 (by decide +kernel)
theorem dL_law_438 : decode cL_law 438 = .ok (.aload_n 0, 1) := oc_42 (by decide +kernel)
theorem dL_law_439 : decode cL_law 439 = .ok (.iload_n 3, 1) := oc_29 (by decide +kernel)
theorem dL_law_440 : decode cL_law 440 = .ok (.bipush 6, 2) := oc_16 (a := 6) (by decide +kernel)
theorem dL_law_442 : decode cL_law 442 = .ok (.iadd, 1) := oc_96 (by decide +kernel)
theorem dL_law_443 : decode cL_law 443 = .ok (.iaload, 1) := oc_46 (by decide +kernel)
theorem tw_301 : Cond.methodLink RL 33 yX11_table ∈ wsL_law := sg_13 _ (List.mem_of_getElem? (i := 13) rfl)
theorem tw_302 : Cond.instanceMethod yX11_table ∈ wsL_law := sg_13 _ (List.mem_of_getElem? (i := 14) rfl)
theorem tw_303 : Cond.selects RX11 yX11_table yX11_table ∈ wsL_law := sg_13 _ (List.mem_of_getElem? (i := 15) rfl)
theorem tw_304 : Cond.code yX11_table cX11_table 9 (some .boolean) ∈ wsL_law := sg_13 _ (List.mem_of_getElem? (i := 16) rfl)
theorem dL_law_444 : decode cL_law 444 = .ok (.invokevirtual 33, 3) := oc_182 (a := 0) (b := 33) (by decide +kernel)
theorem dL_law_447 : decode cL_law 447 = .ok (.aload_n 2, 1) := oc_44 (by decide +kernel)
theorem dL_law_448 : decode cL_law 448 = .ok (.aload_n 0, 1) := oc_42 (by decide +kernel)
theorem dL_law_449 : decode cL_law 449 = .ok (.iload_n 3, 1) := oc_29 (by decide +kernel)
theorem dL_law_450 : decode cL_law 450 = .ok (.iconst 1, 1) := oc_4 (by decide +kernel)
theorem dL_law_451 : decode cL_law 451 = .ok (.iadd, 1) := oc_96 (by decide +kernel)
theorem dL_law_452 : decode cL_law 452 = .ok (.iaload, 1) := oc_46 (by decide +kernel)
theorem dL_law_453 : decode cL_law 453 = .ok (.aload_n 0, 1) := oc_42 (by decide +kernel)
theorem dL_law_454 : decode cL_law 454 = .ok (.iload_n 3, 1) := oc_29 (by decide +kernel)
theorem dL_law_455 : decode cL_law 455 = .ok (.iconst 2, 1) := oc_5 (by decide +kernel)
theorem dL_law_456 : decode cL_law 456 = .ok (.iadd, 1) := oc_96 (by decide +kernel)
theorem dL_law_457 : decode cL_law 457 = .ok (.iaload, 1) := oc_46 (by decide +kernel)
theorem dL_law_458 : decode cL_law 458 = .ok (.aload_n 0, 1) := oc_42 (by decide +kernel)
theorem dL_law_459 : decode cL_law 459 = .ok (.iload_n 3, 1) := oc_29 (by decide +kernel)
theorem dL_law_460 : decode cL_law 460 = .ok (.iconst 3, 1) := oc_6 (by decide +kernel)
theorem dL_law_461 : decode cL_law 461 = .ok (.iadd, 1) := oc_96 (by decide +kernel)
theorem dL_law_462 : decode cL_law 462 = .ok (.iaload, 1) := oc_46 (by decide +kernel)
theorem dL_law_463 : decode cL_law 463 = .ok (.aload_n 0, 1) := oc_42 (by decide +kernel)
theorem dL_law_464 : decode cL_law 464 = .ok (.iload_n 3, 1) := oc_29 (by decide +kernel)
theorem dL_law_465 : decode cL_law 465 = .ok (.iconst 4, 1) := oc_7 (by decide +kernel)
theorem dL_law_466 : decode cL_law 466 = .ok (.iadd, 1) := oc_96 (by decide +kernel)
theorem dL_law_467 : decode cL_law 467 = .ok (.iaload, 1) := oc_46 (by decide +kernel)
theorem dL_law_468 : decode cL_law 468 = .ok (.aload_n 0, 1) := oc_42 (by decide +kernel)
theorem dL_law_469 : decode cL_law 469 = .ok (.iload_n 3, 1) := oc_29 (by decide +kernel)
theorem dL_law_470 : decode cL_law 470 = .ok (.iconst 5, 1) := oc_8 (by decide +kernel)
theorem dL_law_471 : decode cL_law 471 = .ok (.iadd, 1) := oc_96 (by decide +kernel)
theorem dL_law_472 : decode cL_law 472 = .ok (.iaload, 1) := oc_46 (by decide +kernel)
theorem dL_law_473 : decode cL_law 473 = .ok (.aload_n 0, 1) := oc_42 (by decide +kernel)
theorem dL_law_474 : decode cL_law 474 = .ok (.iload_n 3, 1) := oc_29 (by decide +kernel)
theorem dL_law_475 : decode cL_law 475 = .ok (.bipush 6, 2) := oc_16 (a := 6) (by decide +kernel)
theorem dL_law_477 : decode cL_law 477 = .ok (.iadd, 1) := oc_96 (by decide +kernel)
theorem dL_law_478 : decode cL_law 478 = .ok (.iaload, 1) := oc_46 (by decide +kernel)
theorem tw_310 : Cond.methodLink RL 37 yX12_table ∈ wsL_law := sg_13 _ (List.mem_of_getElem? (i := 22) rfl)
theorem tw_311 : Cond.instanceMethod yX12_table ∈ wsL_law := sg_13 _ (List.mem_of_getElem? (i := 23) rfl)
theorem tw_312 : Cond.selects RX12 yX12_table yX12_table ∈ wsL_law := sg_14 _ (List.mem_of_getElem? (i := 0) rfl)
theorem tw_313 : Cond.code yX12_table cX12_table 8 (some .boolean) ∈ wsL_law := sg_14 _ (List.mem_of_getElem? (i := 1) rfl)
theorem dL_law_479 : decode cL_law 479 = .ok (.invokevirtual 37, 3) := oc_182 (a := 0) (b := 37) (by decide +kernel)
theorem dL_law_482 : decode cL_law 482 = .ok (.if_icmp .eq 1243, 3) := oc_159 (a := 4) (b := 219) (by decide +kernel)
theorem dL_law_487 : decode cL_law 487 = .ok (.aload_n 1, 1) := oc_43 (by decide +kernel)
theorem dL_law_488 : decode cL_law 488 = .ok (.aload_n 0, 1) := oc_42 (by decide +kernel)
theorem dL_law_489 : decode cL_law 489 = .ok (.iload_n 3, 1) := oc_29 (by decide +kernel)
theorem dL_law_490 : decode cL_law 490 = .ok (.iconst 1, 1) := oc_4 (by decide +kernel)
theorem dL_law_491 : decode cL_law 491 = .ok (.iadd, 1) := oc_96 (by decide +kernel)
theorem dL_law_492 : decode cL_law 492 = .ok (.iaload, 1) := oc_46 (by decide +kernel)
theorem dL_law_493 : decode cL_law 493 = .ok (.aload_n 0, 1) := oc_42 (by decide +kernel)
theorem dL_law_494 : decode cL_law 494 = .ok (.iload_n 3, 1) := oc_29 (by decide +kernel)
theorem dL_law_495 : decode cL_law 495 = .ok (.iconst 2, 1) := oc_5 (by decide +kernel)
theorem dL_law_496 : decode cL_law 496 = .ok (.iadd, 1) := oc_96 (by decide +kernel)
theorem dL_law_497 : decode cL_law 497 = .ok (.iaload, 1) := oc_46 (by decide +kernel)
theorem dL_law_498 : decode cL_law 498 = .ok (.aload_n 0, 1) := oc_42 (by decide +kernel)
theorem dL_law_499 : decode cL_law 499 = .ok (.iload_n 3, 1) := oc_29 (by decide +kernel)
theorem dL_law_500 : decode cL_law 500 = .ok (.iconst 3, 1) := oc_6 (by decide +kernel)
theorem dL_law_501 : decode cL_law 501 = .ok (.iadd, 1) := oc_96 (by decide +kernel)
theorem dL_law_502 : decode cL_law 502 = .ok (.iaload, 1) := oc_46 (by decide +kernel)
theorem dL_law_503 : decode cL_law 503 = .ok (.aload_n 0, 1) := oc_42 (by decide +kernel)
theorem dL_law_504 : decode cL_law 504 = .ok (.iload_n 3, 1) := oc_29 (by decide +kernel)
theorem dL_law_505 : decode cL_law 505 = .ok (.iconst 4, 1) := oc_7 (by decide +kernel)
theorem dL_law_506 : decode cL_law 506 = .ok (.iadd, 1) := oc_96 (by decide +kernel)
theorem dL_law_507 : decode cL_law 507 = .ok (.iaload, 1) := oc_46 (by decide +kernel)
theorem dL_law_508 : decode cL_law 508 = .ok (.aload_n 0, 1) := oc_42 (by decide +kernel)
theorem dL_law_509 : decode cL_law 509 = .ok (.iload_n 3, 1) := oc_29 (by decide +kernel)
theorem dL_law_510 : decode cL_law 510 = .ok (.iconst 5, 1) := oc_8 (by decide +kernel)
theorem dL_law_511 : decode cL_law 511 = .ok (.iadd, 1) := oc_96 (by decide +kernel)
theorem dL_law_512 : decode cL_law 512 = .ok (.iaload, 1) := oc_46 (by decide +kernel)
theorem tw_314 : Cond.methodLink RL 38 yX11_rules ∈ wsL_law := sg_14 _ (List.mem_of_getElem? (i := 2) rfl)
theorem tw_315 : Cond.instanceMethod yX11_rules ∈ wsL_law := sg_14 _ (List.mem_of_getElem? (i := 3) rfl)
theorem tw_316 : Cond.selects RX11 yX11_rules yX11_rules ∈ wsL_law := sg_14 _ (List.mem_of_getElem? (i := 4) rfl)
theorem tw_317 : Cond.code yX11_rules cX11_rules 8 (some .boolean) ∈ wsL_law := sg_14 _ (List.mem_of_getElem? (i := 5) rfl)
theorem dL_law_513 : decode cL_law 513 = .ok (.invokevirtual 38, 3) := oc_182 (a := 0) (b := 38) (by decide +kernel)
theorem dL_law_516 : decode cL_law 516 = .ok (.pop, 1) := oc_87 (by decide +kernel)
theorem dL_law_517 : decode cL_law 517 = .ok (.aload_n 2, 1) := oc_44 (by decide +kernel)
theorem dL_law_518 : decode cL_law 518 = .ok (.aload_n 0, 1) := oc_42 (by decide +kernel)
theorem dL_law_519 : decode cL_law 519 = .ok (.iload_n 3, 1) := oc_29 (by decide +kernel)
theorem dL_law_520 : decode cL_law 520 = .ok (.iconst 1, 1) := oc_4 (by decide +kernel)
theorem dL_law_521 : decode cL_law 521 = .ok (.iadd, 1) := oc_96 (by decide +kernel)
theorem dL_law_522 : decode cL_law 522 = .ok (.iaload, 1) := oc_46 (by decide +kernel)
theorem dL_law_523 : decode cL_law 523 = .ok (.aload_n 0, 1) := oc_42 (by decide +kernel)
theorem dL_law_524 : decode cL_law 524 = .ok (.iload_n 3, 1) := oc_29 (by decide +kernel)
theorem dL_law_525 : decode cL_law 525 = .ok (.iconst 2, 1) := oc_5 (by decide +kernel)
theorem dL_law_526 : decode cL_law 526 = .ok (.iadd, 1) := oc_96 (by decide +kernel)
theorem dL_law_527 : decode cL_law 527 = .ok (.iaload, 1) := oc_46 (by decide +kernel)
theorem dL_law_528 : decode cL_law 528 = .ok (.aload_n 0, 1) := oc_42 (by decide +kernel)
theorem dL_law_529 : decode cL_law 529 = .ok (.iload_n 3, 1) := oc_29 (by decide +kernel)
theorem dL_law_530 : decode cL_law 530 = .ok (.iconst 3, 1) := oc_6 (by decide +kernel)
theorem dL_law_531 : decode cL_law 531 = .ok (.iadd, 1) := oc_96 (by decide +kernel)
theorem dL_law_532 : decode cL_law 532 = .ok (.iaload, 1) := oc_46 (by decide +kernel)
theorem dL_law_533 : decode cL_law 533 = .ok (.aload_n 0, 1) := oc_42 (by decide +kernel)
theorem dL_law_534 : decode cL_law 534 = .ok (.iload_n 3, 1) := oc_29 (by decide +kernel)
theorem dL_law_535 : decode cL_law 535 = .ok (.iconst 4, 1) := oc_7 (by decide +kernel)
theorem dL_law_536 : decode cL_law 536 = .ok (.iadd, 1) := oc_96 (by decide +kernel)
theorem dL_law_537 : decode cL_law 537 = .ok (.iaload, 1) := oc_46 (by decide +kernel)
theorem dL_law_538 : decode cL_law 538 = .ok (.aload_n 0, 1) := oc_42 (by decide +kernel)
theorem dL_law_539 : decode cL_law 539 = .ok (.iload_n 3, 1) := oc_29 (by decide +kernel)
theorem dL_law_540 : decode cL_law 540 = .ok (.iconst 5, 1) := oc_8 (by decide +kernel)
theorem dL_law_541 : decode cL_law 541 = .ok (.iadd, 1) := oc_96 (by decide +kernel)
theorem dL_law_542 : decode cL_law 542 = .ok (.iaload, 1) := oc_46 (by decide +kernel)
theorem tw_323 : Cond.methodLink RL 42 yX12_rules ∈ wsL_law := sg_14 _ (List.mem_of_getElem? (i := 11) rfl)
theorem tw_324 : Cond.instanceMethod yX12_rules ∈ wsL_law := sg_14 _ (List.mem_of_getElem? (i := 12) rfl)
theorem tw_325 : Cond.selects RX12 yX12_rules yX12_rules ∈ wsL_law := sg_14 _ (List.mem_of_getElem? (i := 13) rfl)
theorem tw_326 : Cond.code yX12_rules cX12_rules 6 (some .boolean) ∈ wsL_law := sg_14 _ (List.mem_of_getElem? (i := 14) rfl)
theorem dL_law_543 : decode cL_law 543 = .ok (.invokevirtual 42, 3) := oc_182 (a := 0) (b := 42) (by decide +kernel)
theorem dL_law_546 : decode cL_law 546 = .ok (.pop, 1) := oc_87 (by decide +kernel)
theorem dL_law_547 : decode cL_law 547 = .ok (.goto 1178, 3) := oc_167 (a := 4) (b := 154) (by decide +kernel)
theorem dL_law_550 : decode cL_law 550 = .ok (.aload_n 1, 1) := oc_43 (by decide +kernel)
theorem dL_law_551 : decode cL_law 551 = .ok (.aload_n 0, 1) := oc_42 (by decide +kernel)
theorem dL_law_552 : decode cL_law 552 = .ok (.iload_n 3, 1) := oc_29 (by decide +kernel)
theorem dL_law_553 : decode cL_law 553 = .ok (.iconst 1, 1) := oc_4 (by decide +kernel)
theorem dL_law_554 : decode cL_law 554 = .ok (.iadd, 1) := oc_96 (by decide +kernel)
theorem dL_law_555 : decode cL_law 555 = .ok (.iaload, 1) := oc_46 (by decide +kernel)
theorem dL_law_556 : decode cL_law 556 = .ok (.aload_n 0, 1) := oc_42 (by decide +kernel)
theorem dL_law_557 : decode cL_law 557 = .ok (.iload_n 3, 1) := oc_29 (by decide +kernel)
theorem dL_law_558 : decode cL_law 558 = .ok (.iconst 2, 1) := oc_5 (by decide +kernel)
theorem dL_law_559 : decode cL_law 559 = .ok (.iadd, 1) := oc_96 (by decide +kernel)
theorem dL_law_560 : decode cL_law 560 = .ok (.iaload, 1) := oc_46 (by decide +kernel)
theorem tw_327 : Cond.methodLink RL 43 yX11_wall ∈ wsL_law := sg_14 _ (List.mem_of_getElem? (i := 15) rfl)
theorem tw_328 : Cond.instanceMethod yX11_wall ∈ wsL_law := sg_14 _ (List.mem_of_getElem? (i := 16) rfl)
theorem tw_329 : Cond.selects RX11 yX11_wall yX11_wall ∈ wsL_law := sg_14 _ (List.mem_of_getElem? (i := 17) rfl)
theorem tw_330 : Cond.code yX11_wall cX11_wall 3 (some .boolean) ∈ wsL_law := sg_14 _ (List.mem_of_getElem? (i := 18) rfl)
theorem dL_law_561 : decode cL_law 561 = .ok (.invokevirtual 43, 3) := oc_182 (a := 0) (b := 43) (by decide +kernel)
theorem dL_law_564 : decode cL_law 564 = .ok (.pop, 1) := oc_87 (by decide +kernel)
theorem dL_law_565 : decode cL_law 565 = .ok (.aload_n 2, 1) := oc_44 (by decide +kernel)
theorem dL_law_566 : decode cL_law 566 = .ok (.aload_n 0, 1) := oc_42 (by decide +kernel)
theorem dL_law_567 : decode cL_law 567 = .ok (.iload_n 3, 1) := oc_29 (by decide +kernel)
theorem dL_law_568 : decode cL_law 568 = .ok (.iconst 1, 1) := oc_4 (by decide +kernel)
theorem dL_law_569 : decode cL_law 569 = .ok (.iadd, 1) := oc_96 (by decide +kernel)
theorem dL_law_570 : decode cL_law 570 = .ok (.iaload, 1) := oc_46 (by decide +kernel)
theorem dL_law_571 : decode cL_law 571 = .ok (.aload_n 0, 1) := oc_42 (by decide +kernel)
theorem dL_law_572 : decode cL_law 572 = .ok (.iload_n 3, 1) := oc_29 (by decide +kernel)
theorem dL_law_573 : decode cL_law 573 = .ok (.iconst 2, 1) := oc_5 (by decide +kernel)
theorem dL_law_574 : decode cL_law 574 = .ok (.iadd, 1) := oc_96 (by decide +kernel)
theorem dL_law_575 : decode cL_law 575 = .ok (.iaload, 1) := oc_46 (by decide +kernel)
theorem tw_336 : Cond.methodLink RL 47 yX12_wall ∈ wsL_law := sg_15 _ (List.mem_of_getElem? (i := 0) rfl)
theorem tw_337 : Cond.instanceMethod yX12_wall ∈ wsL_law := sg_15 _ (List.mem_of_getElem? (i := 1) rfl)
theorem tw_338 : Cond.selects RX12 yX12_wall yX12_wall ∈ wsL_law := sg_15 _ (List.mem_of_getElem? (i := 2) rfl)
theorem tw_339 : Cond.code yX12_wall cX12_wall 3 (some .boolean) ∈ wsL_law := sg_15 _ (List.mem_of_getElem? (i := 3) rfl)
theorem dL_law_576 : decode cL_law 576 = .ok (.invokevirtual 47, 3) := oc_182 (a := 0) (b := 47) (by decide +kernel)
theorem dL_law_579 : decode cL_law 579 = .ok (.pop, 1) := oc_87 (by decide +kernel)
theorem dL_law_580 : decode cL_law 580 = .ok (.goto 1145, 3) := oc_167 (a := 4) (b := 121) (by decide +kernel)
theorem dL_law_583 : decode cL_law 583 = .ok (.aload_n 1, 1) := oc_43 (by decide +kernel)
theorem dL_law_584 : decode cL_law 584 = .ok (.aload_n 0, 1) := oc_42 (by decide +kernel)
theorem dL_law_585 : decode cL_law 585 = .ok (.iload_n 3, 1) := oc_29 (by decide +kernel)
theorem dL_law_586 : decode cL_law 586 = .ok (.iconst 1, 1) := oc_4 (by decide +kernel)
theorem dL_law_587 : decode cL_law 587 = .ok (.iadd, 1) := oc_96 (by decide +kernel)
theorem dL_law_588 : decode cL_law 588 = .ok (.iaload, 1) := oc_46 (by decide +kernel)
theorem dL_law_589 : decode cL_law 589 = .ok (.aload_n 0, 1) := oc_42 (by decide +kernel)
theorem dL_law_590 : decode cL_law 590 = .ok (.iload_n 3, 1) := oc_29 (by decide +kernel)
theorem dL_law_591 : decode cL_law 591 = .ok (.iconst 2, 1) := oc_5 (by decide +kernel)
theorem dL_law_592 : decode cL_law 592 = .ok (.iadd, 1) := oc_96 (by decide +kernel)
theorem dL_law_593 : decode cL_law 593 = .ok (.iaload, 1) := oc_46 (by decide +kernel)
theorem dL_law_594 : decode cL_law 594 = .ok (.aload_n 0, 1) := oc_42 (by decide +kernel)
theorem dL_law_595 : decode cL_law 595 = .ok (.iload_n 3, 1) := oc_29 (by decide +kernel)
theorem dL_law_596 : decode cL_law 596 = .ok (.iconst 3, 1) := oc_6 (by decide +kernel)
theorem dL_law_597 : decode cL_law 597 = .ok (.iadd, 1) := oc_96 (by decide +kernel)
theorem dL_law_598 : decode cL_law 598 = .ok (.iaload, 1) := oc_46 (by decide +kernel)
theorem dL_law_599 : decode cL_law 599 = .ok (.aload_n 0, 1) := oc_42 (by decide +kernel)
theorem dL_law_600 : decode cL_law 600 = .ok (.iload_n 3, 1) := oc_29 (by decide +kernel)
theorem dL_law_601 : decode cL_law 601 = .ok (.iconst 4, 1) := oc_7 (by decide +kernel)
theorem dL_law_602 : decode cL_law 602 = .ok (.iadd, 1) := oc_96 (by decide +kernel)
theorem dL_law_603 : decode cL_law 603 = .ok (.iaload, 1) := oc_46 (by decide +kernel)
theorem tw_344 : Cond.methodLink RL 48 yX11_well ∈ wsL_law := sg_15 _ (List.mem_of_getElem? (i := 8) rfl)
theorem tw_345 : Cond.instanceMethod yX11_well ∈ wsL_law := sg_15 _ (List.mem_of_getElem? (i := 9) rfl)
theorem tw_346 : Cond.selects RX11 yX11_well yX11_well ∈ wsL_law := sg_15 _ (List.mem_of_getElem? (i := 10) rfl)
theorem tw_347 : Cond.code yX11_well cX11_well 6 (some .boolean) ∈ wsL_law := sg_15 _ (List.mem_of_getElem? (i := 11) rfl)
theorem dL_law_604 : decode cL_law 604 = .ok (.invokevirtual 48, 3) := oc_182 (a := 0) (b := 48) (by decide +kernel)
theorem dL_law_607 : decode cL_law 607 = .ok (.pop, 1) := oc_87 (by decide +kernel)
theorem dL_law_608 : decode cL_law 608 = .ok (.aload_n 2, 1) := oc_44 (by decide +kernel)
theorem dL_law_609 : decode cL_law 609 = .ok (.aload_n 0, 1) := oc_42 (by decide +kernel)
theorem dL_law_610 : decode cL_law 610 = .ok (.iload_n 3, 1) := oc_29 (by decide +kernel)
theorem dL_law_611 : decode cL_law 611 = .ok (.iconst 1, 1) := oc_4 (by decide +kernel)
theorem dL_law_612 : decode cL_law 612 = .ok (.iadd, 1) := oc_96 (by decide +kernel)
theorem dL_law_613 : decode cL_law 613 = .ok (.iaload, 1) := oc_46 (by decide +kernel)
theorem dL_law_614 : decode cL_law 614 = .ok (.aload_n 0, 1) := oc_42 (by decide +kernel)
theorem dL_law_615 : decode cL_law 615 = .ok (.iload_n 3, 1) := oc_29 (by decide +kernel)
theorem dL_law_616 : decode cL_law 616 = .ok (.iconst 2, 1) := oc_5 (by decide +kernel)
theorem dL_law_617 : decode cL_law 617 = .ok (.iadd, 1) := oc_96 (by decide +kernel)
theorem dL_law_618 : decode cL_law 618 = .ok (.iaload, 1) := oc_46 (by decide +kernel)
theorem dL_law_619 : decode cL_law 619 = .ok (.aload_n 0, 1) := oc_42 (by decide +kernel)
theorem dL_law_620 : decode cL_law 620 = .ok (.iload_n 3, 1) := oc_29 (by decide +kernel)
theorem dL_law_621 : decode cL_law 621 = .ok (.iconst 3, 1) := oc_6 (by decide +kernel)
theorem dL_law_622 : decode cL_law 622 = .ok (.iadd, 1) := oc_96 (by decide +kernel)
theorem dL_law_623 : decode cL_law 623 = .ok (.iaload, 1) := oc_46 (by decide +kernel)
theorem dL_law_624 : decode cL_law 624 = .ok (.aload_n 0, 1) := oc_42 (by decide +kernel)
theorem dL_law_625 : decode cL_law 625 = .ok (.iload_n 3, 1) := oc_29 (by decide +kernel)
theorem dL_law_626 : decode cL_law 626 = .ok (.iconst 4, 1) := oc_7 (by decide +kernel)
theorem dL_law_627 : decode cL_law 627 = .ok (.iadd, 1) := oc_96 (by decide +kernel)
theorem dL_law_628 : decode cL_law 628 = .ok (.iaload, 1) := oc_46 (by decide +kernel)
theorem tw_357 : Cond.methodLink RL 52 yX12_well ∈ wsL_law := sg_15 _ (List.mem_of_getElem? (i := 21) rfl)
theorem tw_358 : Cond.instanceMethod yX12_well ∈ wsL_law := sg_15 _ (List.mem_of_getElem? (i := 22) rfl)
theorem tw_359 : Cond.selects RX12 yX12_well yX12_well ∈ wsL_law := sg_15 _ (List.mem_of_getElem? (i := 23) rfl)
theorem tw_360 : Cond.code yX12_well cX12_well 6 (some .boolean) ∈ wsL_law := sg_16 _ (List.mem_of_getElem? (i := 0) rfl)
theorem dL_law_629 : decode cL_law 629 = .ok (.invokevirtual 52, 3) := oc_182 (a := 0) (b := 52) (by decide +kernel)
theorem dL_law_632 : decode cL_law 632 = .ok (.pop, 1) := oc_87 (by decide +kernel)
theorem dL_law_633 : decode cL_law 633 = .ok (.goto 1092, 3) := oc_167 (a := 4) (b := 68) (by decide +kernel)
theorem dL_law_636 : decode cL_law 636 = .ok (.aload_n 1, 1) := oc_43 (by decide +kernel)
theorem dL_law_637 : decode cL_law 637 = .ok (.aload_n 0, 1) := oc_42 (by decide +kernel)
theorem dL_law_638 : decode cL_law 638 = .ok (.iload_n 3, 1) := oc_29 (by decide +kernel)
theorem dL_law_639 : decode cL_law 639 = .ok (.iconst 1, 1) := oc_4 (by decide +kernel)
theorem dL_law_640 : decode cL_law 640 = .ok (.iadd, 1) := oc_96 (by decide +kernel)
theorem dL_law_641 : decode cL_law 641 = .ok (.iaload, 1) := oc_46 (by decide +kernel)
theorem dL_law_642 : decode cL_law 642 = .ok (.aload_n 0, 1) := oc_42 (by decide +kernel)
theorem dL_law_643 : decode cL_law 643 = .ok (.iload_n 3, 1) := oc_29 (by decide +kernel)
theorem dL_law_644 : decode cL_law 644 = .ok (.iconst 2, 1) := oc_5 (by decide +kernel)
theorem dL_law_645 : decode cL_law 645 = .ok (.iadd, 1) := oc_96 (by decide +kernel)
theorem dL_law_646 : decode cL_law 646 = .ok (.iaload, 1) := oc_46 (by decide +kernel)
theorem tw_365 : Cond.methodLink RL 53 yX11_beds ∈ wsL_law := sg_16 _ (List.mem_of_getElem? (i := 5) rfl)
theorem tw_366 : Cond.instanceMethod yX11_beds ∈ wsL_law := sg_16 _ (List.mem_of_getElem? (i := 6) rfl)
theorem tw_367 : Cond.selects RX11 yX11_beds yX11_beds ∈ wsL_law := sg_16 _ (List.mem_of_getElem? (i := 7) rfl)
theorem tw_368 : Cond.code yX11_beds cX11_beds 5 (some .int) ∈ wsL_law := sg_16 _ (List.mem_of_getElem? (i := 8) rfl)
theorem dL_law_647 : decode cL_law 647 = .ok (.invokevirtual 53, 3) := oc_182 (a := 0) (b := 53) (by decide +kernel)
theorem dL_law_650 : decode cL_law 650 = .ok (.pop, 1) := oc_87 (by decide +kernel)
theorem dL_law_651 : decode cL_law 651 = .ok (.aload_n 2, 1) := oc_44 (by decide +kernel)
theorem dL_law_652 : decode cL_law 652 = .ok (.aload_n 0, 1) := oc_42 (by decide +kernel)
theorem dL_law_653 : decode cL_law 653 = .ok (.iload_n 3, 1) := oc_29 (by decide +kernel)
theorem dL_law_654 : decode cL_law 654 = .ok (.iconst 1, 1) := oc_4 (by decide +kernel)
theorem dL_law_655 : decode cL_law 655 = .ok (.iadd, 1) := oc_96 (by decide +kernel)
theorem dL_law_656 : decode cL_law 656 = .ok (.iaload, 1) := oc_46 (by decide +kernel)
theorem dL_law_657 : decode cL_law 657 = .ok (.aload_n 0, 1) := oc_42 (by decide +kernel)
theorem dL_law_658 : decode cL_law 658 = .ok (.iload_n 3, 1) := oc_29 (by decide +kernel)
theorem dL_law_659 : decode cL_law 659 = .ok (.iconst 2, 1) := oc_5 (by decide +kernel)
theorem dL_law_660 : decode cL_law 660 = .ok (.iadd, 1) := oc_96 (by decide +kernel)
theorem dL_law_661 : decode cL_law 661 = .ok (.iaload, 1) := oc_46 (by decide +kernel)
theorem tw_371 : Cond.methodLink RL 57 yX12_beds ∈ wsL_law := sg_16 _ (List.mem_of_getElem? (i := 11) rfl)
theorem tw_372 : Cond.instanceMethod yX12_beds ∈ wsL_law := sg_16 _ (List.mem_of_getElem? (i := 12) rfl)
theorem tw_373 : Cond.selects RX12 yX12_beds yX12_beds ∈ wsL_law := sg_16 _ (List.mem_of_getElem? (i := 13) rfl)
theorem tw_374 : Cond.code yX12_beds cX12_beds 3 (some .int) ∈ wsL_law := sg_16 _ (List.mem_of_getElem? (i := 14) rfl)
theorem dL_law_662 : decode cL_law 662 = .ok (.invokevirtual 57, 3) := oc_182 (a := 0) (b := 57) (by decide +kernel)
theorem dL_law_665 : decode cL_law 665 = .ok (.pop, 1) := oc_87 (by decide +kernel)
theorem dL_law_666 : decode cL_law 666 = .ok (.goto 1059, 3) := oc_167 (a := 4) (b := 35) (by decide +kernel)
theorem dL_law_669 : decode cL_law 669 = .ok (.aload_n 1, 1) := oc_43 (by decide +kernel)
theorem dL_law_670 : decode cL_law 670 = .ok (.aload_n 0, 1) := oc_42 (by decide +kernel)
theorem dL_law_671 : decode cL_law 671 = .ok (.iload_n 3, 1) := oc_29 (by decide +kernel)
theorem dL_law_672 : decode cL_law 672 = .ok (.iconst 1, 1) := oc_4 (by decide +kernel)
theorem dL_law_673 : decode cL_law 673 = .ok (.iadd, 1) := oc_96 (by decide +kernel)
theorem dL_law_674 : decode cL_law 674 = .ok (.iaload, 1) := oc_46 (by decide +kernel)
theorem tw_375 : Cond.methodLink RL 58 yX11_lot ∈ wsL_law := sg_16 _ (List.mem_of_getElem? (i := 15) rfl)
theorem tw_376 : Cond.instanceMethod yX11_lot ∈ wsL_law := sg_16 _ (List.mem_of_getElem? (i := 16) rfl)
theorem tw_377 : Cond.selects RX11 yX11_lot yX11_lot ∈ wsL_law := sg_16 _ (List.mem_of_getElem? (i := 17) rfl)
theorem tw_378 : Cond.code yX11_lot cX11_lot 3 (some .int) ∈ wsL_law := sg_16 _ (List.mem_of_getElem? (i := 18) rfl)
theorem dL_law_675 : decode cL_law 675 = .ok (.invokevirtual 58, 3) := oc_182 (a := 0) (b := 58) (by decide +kernel)
theorem dL_law_678 : decode cL_law 678 = .ok (.pop, 1) := oc_87 (by decide +kernel)
theorem dL_law_679 : decode cL_law 679 = .ok (.aload_n 2, 1) := oc_44 (by decide +kernel)
theorem dL_law_680 : decode cL_law 680 = .ok (.aload_n 0, 1) := oc_42 (by decide +kernel)
theorem dL_law_681 : decode cL_law 681 = .ok (.iload_n 3, 1) := oc_29 (by decide +kernel)
theorem dL_law_682 : decode cL_law 682 = .ok (.iconst 1, 1) := oc_4 (by decide +kernel)
theorem dL_law_683 : decode cL_law 683 = .ok (.iadd, 1) := oc_96 (by decide +kernel)
theorem dL_law_684 : decode cL_law 684 = .ok (.iaload, 1) := oc_46 (by decide +kernel)
theorem tw_382 : Cond.methodLink RL 62 yX12_lot ∈ wsL_law := sg_16 _ (List.mem_of_getElem? (i := 22) rfl)
theorem tw_383 : Cond.instanceMethod yX12_lot ∈ wsL_law := sg_16 _ (List.mem_of_getElem? (i := 23) rfl)
theorem tw_384 : Cond.selects RX12 yX12_lot yX12_lot ∈ wsL_law := sg_17 _ (List.mem_of_getElem? (i := 0) rfl)
theorem tw_385 : Cond.code yX12_lot cX12_lot 2 (some .int) ∈ wsL_law := sg_17 _ (List.mem_of_getElem? (i := 1) rfl)
theorem dL_law_685 : decode cL_law 685 = .ok (.invokevirtual 62, 3) := oc_182 (a := 0) (b := 62) (by decide +kernel)
theorem dL_law_688 : decode cL_law 688 = .ok (.pop, 1) := oc_87 (by decide +kernel)
theorem dL_law_689 : decode cL_law 689 = .ok (.goto 1036, 3) := oc_167 (a := 4) (b := 12) (by decide +kernel)
theorem dL_law_692 : decode cL_law 692 = .ok (.aload_n 1, 1) := oc_43 (by decide +kernel)
theorem dL_law_693 : decode cL_law 693 = .ok (.aload_n 0, 1) := oc_42 (by decide +kernel)
theorem dL_law_694 : decode cL_law 694 = .ok (.iload_n 3, 1) := oc_29 (by decide +kernel)
theorem dL_law_695 : decode cL_law 695 = .ok (.iconst 1, 1) := oc_4 (by decide +kernel)
theorem dL_law_696 : decode cL_law 696 = .ok (.iadd, 1) := oc_96 (by decide +kernel)
theorem dL_law_697 : decode cL_law 697 = .ok (.iaload, 1) := oc_46 (by decide +kernel)
theorem dL_law_698 : decode cL_law 698 = .ok (.aload_n 0, 1) := oc_42 (by decide +kernel)
theorem dL_law_699 : decode cL_law 699 = .ok (.iload_n 3, 1) := oc_29 (by decide +kernel)
theorem dL_law_700 : decode cL_law 700 = .ok (.iconst 2, 1) := oc_5 (by decide +kernel)
theorem dL_law_701 : decode cL_law 701 = .ok (.iadd, 1) := oc_96 (by decide +kernel)
theorem dL_law_702 : decode cL_law 702 = .ok (.iaload, 1) := oc_46 (by decide +kernel)
theorem dL_law_703 : decode cL_law 703 = .ok (.aload_n 0, 1) := oc_42 (by decide +kernel)
theorem dL_law_704 : decode cL_law 704 = .ok (.iload_n 3, 1) := oc_29 (by decide +kernel)
theorem dL_law_705 : decode cL_law 705 = .ok (.iconst 3, 1) := oc_6 (by decide +kernel)
theorem dL_law_706 : decode cL_law 706 = .ok (.iadd, 1) := oc_96 (by decide +kernel)
theorem dL_law_707 : decode cL_law 707 = .ok (.iaload, 1) := oc_46 (by decide +kernel)
theorem dL_law_708 : decode cL_law 708 = .ok (.aload_n 0, 1) := oc_42 (by decide +kernel)
theorem dL_law_709 : decode cL_law 709 = .ok (.iload_n 3, 1) := oc_29 (by decide +kernel)
theorem dL_law_710 : decode cL_law 710 = .ok (.iconst 4, 1) := oc_7 (by decide +kernel)
theorem dL_law_711 : decode cL_law 711 = .ok (.iadd, 1) := oc_96 (by decide +kernel)
theorem dL_law_712 : decode cL_law 712 = .ok (.iaload, 1) := oc_46 (by decide +kernel)
theorem dL_law_713 : decode cL_law 713 = .ok (.aload_n 0, 1) := oc_42 (by decide +kernel)
theorem dL_law_714 : decode cL_law 714 = .ok (.iload_n 3, 1) := oc_29 (by decide +kernel)
theorem dL_law_715 : decode cL_law 715 = .ok (.iconst 5, 1) := oc_8 (by decide +kernel)
theorem dL_law_716 : decode cL_law 716 = .ok (.iadd, 1) := oc_96 (by decide +kernel)
theorem dL_law_717 : decode cL_law 717 = .ok (.iaload, 1) := oc_46 (by decide +kernel)
theorem tw_386 : Cond.methodLink RL 63 yX11_person ∈ wsL_law := sg_17 _ (List.mem_of_getElem? (i := 2) rfl)
theorem tw_387 : Cond.instanceMethod yX11_person ∈ wsL_law := sg_17 _ (List.mem_of_getElem? (i := 3) rfl)
theorem tw_388 : Cond.selects RX11 yX11_person yX11_person ∈ wsL_law := sg_17 _ (List.mem_of_getElem? (i := 4) rfl)
theorem tw_389 : Cond.code yX11_person cX11_person 7 (some .int) ∈ wsL_law := sg_17 _ (List.mem_of_getElem? (i := 5) rfl)
theorem dL_law_718 : decode cL_law 718 = .ok (.invokevirtual 63, 3) := oc_182 (a := 0) (b := 63) (by decide +kernel)
theorem dL_law_721 : decode cL_law 721 = .ok (.pop, 1) := oc_87 (by decide +kernel)
theorem dL_law_722 : decode cL_law 722 = .ok (.aload_n 2, 1) := oc_44 (by decide +kernel)
theorem dL_law_723 : decode cL_law 723 = .ok (.aload_n 0, 1) := oc_42 (by decide +kernel)
theorem dL_law_724 : decode cL_law 724 = .ok (.iload_n 3, 1) := oc_29 (by decide +kernel)
theorem dL_law_725 : decode cL_law 725 = .ok (.iconst 1, 1) := oc_4 (by decide +kernel)
theorem dL_law_726 : decode cL_law 726 = .ok (.iadd, 1) := oc_96 (by decide +kernel)
theorem dL_law_727 : decode cL_law 727 = .ok (.iaload, 1) := oc_46 (by decide +kernel)
theorem dL_law_728 : decode cL_law 728 = .ok (.aload_n 0, 1) := oc_42 (by decide +kernel)
theorem dL_law_729 : decode cL_law 729 = .ok (.iload_n 3, 1) := oc_29 (by decide +kernel)
theorem dL_law_730 : decode cL_law 730 = .ok (.iconst 2, 1) := oc_5 (by decide +kernel)
theorem dL_law_731 : decode cL_law 731 = .ok (.iadd, 1) := oc_96 (by decide +kernel)
theorem dL_law_732 : decode cL_law 732 = .ok (.iaload, 1) := oc_46 (by decide +kernel)
theorem dL_law_733 : decode cL_law 733 = .ok (.aload_n 0, 1) := oc_42 (by decide +kernel)
theorem dL_law_734 : decode cL_law 734 = .ok (.iload_n 3, 1) := oc_29 (by decide +kernel)
theorem dL_law_735 : decode cL_law 735 = .ok (.iconst 3, 1) := oc_6 (by decide +kernel)
theorem dL_law_736 : decode cL_law 736 = .ok (.iadd, 1) := oc_96 (by decide +kernel)
theorem dL_law_737 : decode cL_law 737 = .ok (.iaload, 1) := oc_46 (by decide +kernel)
theorem dL_law_738 : decode cL_law 738 = .ok (.aload_n 0, 1) := oc_42 (by decide +kernel)
theorem dL_law_739 : decode cL_law 739 = .ok (.iload_n 3, 1) := oc_29 (by decide +kernel)
theorem dL_law_740 : decode cL_law 740 = .ok (.iconst 4, 1) := oc_7 (by decide +kernel)
theorem dL_law_741 : decode cL_law 741 = .ok (.iadd, 1) := oc_96 (by decide +kernel)
theorem dL_law_742 : decode cL_law 742 = .ok (.iaload, 1) := oc_46 (by decide +kernel)
theorem dL_law_743 : decode cL_law 743 = .ok (.aload_n 0, 1) := oc_42 (by decide +kernel)
theorem dL_law_744 : decode cL_law 744 = .ok (.iload_n 3, 1) := oc_29 (by decide +kernel)
theorem dL_law_745 : decode cL_law 745 = .ok (.iconst 5, 1) := oc_8 (by decide +kernel)
theorem dL_law_746 : decode cL_law 746 = .ok (.iadd, 1) := oc_96 (by decide +kernel)
theorem dL_law_747 : decode cL_law 747 = .ok (.iaload, 1) := oc_46 (by decide +kernel)
theorem tw_396 : Cond.methodLink RL 67 yX12_person ∈ wsL_law := sg_17 _ (List.mem_of_getElem? (i := 12) rfl)
theorem tw_397 : Cond.instanceMethod yX12_person ∈ wsL_law := sg_17 _ (List.mem_of_getElem? (i := 13) rfl)
theorem tw_398 : Cond.selects RX12 yX12_person yX12_person ∈ wsL_law := sg_17 _ (List.mem_of_getElem? (i := 14) rfl)
theorem tw_399 : Cond.code yX12_person cX12_person 7 (some .int) ∈ wsL_law := sg_17 _ (List.mem_of_getElem? (i := 15) rfl)
theorem dL_law_748 : decode cL_law 748 = .ok (.invokevirtual 67, 3) := oc_182 (a := 0) (b := 67) (by decide +kernel)
theorem dL_law_751 : decode cL_law 751 = .ok (.pop, 1) := oc_87 (by decide +kernel)
theorem dL_law_752 : decode cL_law 752 = .ok (.goto 973, 3) := oc_167 (a := 3) (b := 205) (by decide +kernel)
set_option maxHeartbeats 8000000 in
set_option maxRecDepth 100000 in
theorem lw_op_0 {p : Program} {e : Env} {s : State} {m : MethodId} {below : List Frame} {meth : Method} {c : Code} {b : Nat} (l : Launch) (hx : p.tables.exec = Jvm.exec) (hb : c.code = cL_law) (hr : meth.sig.returnType = ret) (hml : c.maxLocals = 4) (hown : s.vm.findClass RL = some m.cls) (hlocks : meth.locks = false) (hts : ∀ w ∈ (Cond.initialized RX11 :: wsL_law), w.before #[Value.ref b] s = true) {L : Nat} (xs : Nat → Int32) (hX : va_X b L xs s s.heap) (hbl : b < s.heap.size) (hM : L ≤ 3584) {D : va_G} {t : pq_T} (hK : va_K D vwCl (pq_ty t) s) (hN : pq_N s) {aK aV : Nat} {vF : Value} (hW0 : pq_W aK aV vF (fun q => s.heap.size ≤ q) s s.heap) {this that : Nat} {n : Nat} {x3 : Int32} (h3 : x3.toInt = 7 * (n : Int)) (hL : 7 * n + 7 ≤ L) {H : Heap} {locs : List Loc} {cells slots : Nat} (hc2 : cells + 4 ≤ room_1.cells) (hs2 : slots + 345 ≤ room_1.slots) (hI : LI s D t this that H locs) {ls : Array Slot} (hl : lv_has ls 4 [(3, .int x3), (2, .ref that), (1, .ref this), (0, .ref b)]) {Q : State → Prop} (kk : ∀ (cells2 slots2 : Nat) (H : Heap) (locs : List Loc) (ls : Array Slot), cells2 ≤ cells + 4 → slots2 ≤ slots + 345 → LI s D t this that H locs → lv_has ls 4 [(3, .int x3), (2, .ref that), (1, .ref this), (0, .ref b)] → W p l e room_1 s m #[Value.ref b] below meth c H locs cells2 slots2 Q (F0 m 1725 ls [])) : W p l e room_1 s m #[Value.ref b] below meth c H locs cells slots Q (F0 m 212 ls []) := by
  have hA : ∀ q : Nat, s.heap.size ≤ q → s.heap.size ≤ q := fun _ h => h
  obtain ⟨σ, I, J, ri, rj, rq, tg, τ, I2, J2, si, sj, sq, tg2, nw, kp, tr, rd, ⟨hP, hD, hSH, hG, hFI, hL_this, hK_this⟩, ⟨hP2, hD2, hSH2, hG2, hL_that, hK_that⟩, hdis, hTR, hAP, hRN, hRK, hGN, hGK, hDN, hDK, hRDo, hRD, hTN, hTK, hS⟩ := hI
  have hG00 := hG
  have hG20 := hG2
  have hR_rd := hRDo.1
  have hL_rd := hRDo.2.1
  have hK_rd := hRDo.2.2
  obtain ⟨⟨hR_nw, hL_nw, hK_nw⟩, ⟨hR_kp, hL_kp, hK_kp⟩, ⟨hR_tr, hL_tr, hK_tr⟩, -⟩ := id hTR
  refine lv_aload_n hx hb dL_law_212 rfl (lv_at hl 2 rfl) ?_
  refine lx_i (va_runV (As := []) (rest := []) ⟨hx, hb, hml, hown, hts⟩ (s_X11_ring l D t σ I J ri rj rq H.size tg hSH hG this hL_this hK_this nw hR_nw hL_nw hK_nw) (cwV 0 hts (tw_V tw_195 tw_196 tw_197 tw_2 tw_198) rfl rfl rfl cv_yX11_ring_0 ⟨Nat.le_of_ble_eq_true rfl, Nat.le_of_ble_eq_true rfl⟩) ⟨pq_blind, pq_recv hK hP hL_this hK_this (by decide +kernel) rfl, pq_pre hK hN hP hD⟩ rfl rfl hl.1 rfl (lv_room (Nat.le_of_ble_eq_true rfl)) dL_law_213 ⟨Nat.le_trans (Nat.le_add_right _ 4) hc2, Nat.le_trans (Nat.le_add_right _ 345) hs2⟩) hD hS hA hP2 hdis (fun r_1 σ1 μ1 H locs hw hP hD hP2 hdis hS => ?_)
  obtain ⟨I_2, hu, hgx, hfx, hFx, hr1⟩ := hw
  obtain ⟨hua, hub⟩ := Prod.mk.inj hu
  rw [hua, hub] at hP hD
  rw [hua] at hdis
  have hG := hgx.1
  refine lv_pop hx hb dL_law_216 rfl ?_
  refine lv_aload_n hx hb dL_law_217 rfl (lv_at hl 1 rfl) ?_
  refine lx_i (va_runV (As := []) (rest := []) ⟨hx, hb, hml, hown, hts⟩ (s_X12_ring l D t τ I2 J2 si sj sq H.size tg2 hSH2 hG2 that hL_that hK_that) (cwV 0 hts (tw_V tw_201 tw_202 tw_203 tw_5 tw_204) rfl rfl rfl cv_yX12_ring_0 ⟨Nat.le_of_ble_eq_true rfl, Nat.le_of_ble_eq_true rfl⟩) ⟨pq_blind, pq_recv hK hP2 hL_that hK_that (by decide +kernel) rfl, pq_pre hK hN hP2 hD2⟩ rfl rfl hl.1 rfl (lv_room (Nat.le_of_ble_eq_true rfl)) dL_law_218 ⟨Nat.le_trans (Nat.le_add_right _ 4) hc2, Nat.le_trans (Nat.le_add_right _ 345) hs2⟩) hD2 hS hA hP (fun a h1 h2 => hdis a h2 h1) (fun r_3 τ1 ν1 H locs hw hP2 hD2 hP hdis hS => ?_)
  obtain ⟨si_4, hu, hgr, hfr, hFr, hr2⟩ := hw
  obtain ⟨hua, hub⟩ := Prod.mk.inj hu
  rw [hua, hub] at hP2 hD2
  rw [hua] at hdis
  have hG2 := hgr.1
  have hV2 := vt_12 hSH2 hL_that hK_that
  have hVn := vt_10 hSH hL_nw hK_nw
  have hVk := vt_10 hSH hL_kp hK_kp
  have hDN := (df_rf (df_cl hDN hgx hVn (by decide +kernel) (by decide +kernel)) hgr hV2 (by decide +kernel))
  have hDK := (df_im (df_cl hDK hgx hVk (by decide +kernel) (by decide +kernel)) hgr hV2 (by decide +kernel))
  have hVr := vt_4 hSH hRDo.2.1 hRDo.2.2
  have hRD := (rd_rf (rd_fr hRD hFx hAP.1.1 hVr) hgr hV2 (by decide +kernel))
  have hTN := (tc_rf (tc_cl hTN hgx (by decide +kernel)) hgr hV2 (by decide +kernel))
  have hTK := (tc_im (tc_cl hTK hgx (by decide +kernel)) hgr hV2 (by decide +kernel))
  have hcv := cv_st (ring_CV hRN) hfx hfr
  have hRN := hcv.2
  have hRK := (rl_im (rl_fr hRK hFx hAP.1) hgr hV2 (by decide +kernel))
  have hGN := (gr_rf (gr_cl hGN hgx hVn (by decide +kernel) (by decide +kernel) (by decide +kernel)) hgr hV2 (by decide +kernel))
  have hGK := (gr_im (gr_fr hGK hFx hAP.1) hgr hV2 (by decide +kernel))
  have hdis : ∀ a, a ∈ τ.1 → a ∉ σ.1 := fun a h1 h2 => hdis a h2 h1
  refine lv_pop hx hb dL_law_221 rfl ?_
  refine lv_goto (tgt := 1725) hx hb dL_law_222 (by decide +kernel) ?_
  exact kk _ _ H locs ls (by omega) (by omega) ⟨σ, I_2, J, ri, rj, rq, tg, τ, I2, J2, si_4, sj, sq, tg2, nw, kp, tr, rd, ⟨hP, hD, hSH, hG, hFI, hL_this, hK_this⟩, ⟨hP2, hD2, hSH2, hG2, hL_that, hK_that⟩, hdis, hTR, hAP, hRN, hRK, hGN, hGK, hDN, hDK, hRDo, hRD, hTN, hTK, hS⟩ hl
set_option maxHeartbeats 8000000 in
set_option maxRecDepth 100000 in
theorem lw_op_1 {p : Program} {e : Env} {s : State} {m : MethodId} {below : List Frame} {meth : Method} {c : Code} {b : Nat} (l : Launch) (hx : p.tables.exec = Jvm.exec) (hb : c.code = cL_law) (hr : meth.sig.returnType = ret) (hml : c.maxLocals = 4) (hown : s.vm.findClass RL = some m.cls) (hlocks : meth.locks = false) (hts : ∀ w ∈ (Cond.initialized RX11 :: wsL_law), w.before #[Value.ref b] s = true) {L : Nat} (xs : Nat → Int32) (hX : va_X b L xs s s.heap) (hbl : b < s.heap.size) (hM : L ≤ 3584) {D : va_G} {t : pq_T} (hK : va_K D vwCl (pq_ty t) s) (hN : pq_N s) {aK aV : Nat} {vF : Value} (hW0 : pq_W aK aV vF (fun q => s.heap.size ≤ q) s s.heap) {this that : Nat} {n : Nat} {x3 : Int32} (h3 : x3.toInt = 7 * (n : Int)) (hL : 7 * n + 7 ≤ L) {H : Heap} {locs : List Loc} {cells slots : Nat} (hc2 : cells + 4 ≤ room_1.cells) (hs2 : slots + 345 ≤ room_1.slots) (hI : LI s D t this that H locs) {ls : Array Slot} (hl : lv_has ls 4 [(3, .int x3), (2, .ref that), (1, .ref this), (0, .ref b)]) {Q : State → Prop} (kk : ∀ (cells2 slots2 : Nat) (H : Heap) (locs : List Loc) (ls : Array Slot), cells2 ≤ cells + 4 → slots2 ≤ slots + 345 → LI s D t this that H locs → lv_has ls 4 [(3, .int x3), (2, .ref that), (1, .ref this), (0, .ref b)] → W p l e room_1 s m #[Value.ref b] below meth c H locs cells2 slots2 Q (F0 m 1725 ls [])) : W p l e room_1 s m #[Value.ref b] below meth c H locs cells slots Q (F0 m 225 ls []) := by
  have hA : ∀ q : Nat, s.heap.size ≤ q → s.heap.size ≤ q := fun _ h => h
  obtain ⟨σ, I, J, ri, rj, rq, tg, τ, I2, J2, si, sj, sq, tg2, nw, kp, tr, rd, ⟨hP, hD, hSH, hG, hFI, hL_this, hK_this⟩, ⟨hP2, hD2, hSH2, hG2, hL_that, hK_that⟩, hdis, hTR, hAP, hRN, hRK, hGN, hGK, hDN, hDK, hRDo, hRD, hTN, hTK, hS⟩ := hI
  have hG00 := hG
  have hG20 := hG2
  have hR_rd := hRDo.1
  have hL_rd := hRDo.2.1
  have hK_rd := hRDo.2.2
  obtain ⟨⟨hR_nw, hL_nw, hK_nw⟩, ⟨hR_kp, hL_kp, hK_kp⟩, ⟨hR_tr, hL_tr, hK_tr⟩, -⟩ := id hTR
  refine lv_aload_n hx hb dL_law_225 rfl (lv_at hl 2 rfl) ?_
  refine lv_aload_n hx hb dL_law_226 rfl (lv_at hl 3 rfl) ?_
  refine lv_iload_n hx hb dL_law_227 rfl (lv_at hl 0 rfl) ?_
  refine lv_iconst (v := 1) hx hb dL_law_228 (by decide +kernel) ?_
  refine lv_iadd hx hb dL_law_229 ?_
  refine va_sld hx hb hX hbl (Nat.not_le.mpr hbl) hS (lw_ix h3 hL hM (rg_w (rg_k (1 : Int32) 1 rfl) (by decide +kernel))) dL_law_230 ?_
  refine lv_aload_n hx hb dL_law_231 rfl (lv_at hl 3 rfl) ?_
  refine lv_iload_n hx hb dL_law_232 rfl (lv_at hl 0 rfl) ?_
  refine lv_iconst (v := 2) hx hb dL_law_233 (by decide +kernel) ?_
  refine lv_iadd hx hb dL_law_234 ?_
  refine va_sld hx hb hX hbl (Nat.not_le.mpr hbl) hS (lw_ix h3 hL hM (rg_w (rg_k (2 : Int32) 2 rfl) (by decide +kernel))) dL_law_235 ?_
  refine lv_aload_n hx hb dL_law_236 rfl (lv_at hl 3 rfl) ?_
  refine lv_iload_n hx hb dL_law_237 rfl (lv_at hl 0 rfl) ?_
  refine lv_iconst (v := 3) hx hb dL_law_238 (by decide +kernel) ?_
  refine lv_iadd hx hb dL_law_239 ?_
  refine va_sld hx hb hX hbl (Nat.not_le.mpr hbl) hS (lw_ix h3 hL hM (rg_w (rg_k (3 : Int32) 3 rfl) (by decide +kernel))) dL_law_240 ?_
  refine lv_aload_n hx hb dL_law_241 rfl (lv_at hl 3 rfl) ?_
  refine lv_iload_n hx hb dL_law_242 rfl (lv_at hl 0 rfl) ?_
  refine lv_iconst (v := 4) hx hb dL_law_243 (by decide +kernel) ?_
  refine lv_iadd hx hb dL_law_244 ?_
  refine va_sld hx hb hX hbl (Nat.not_le.mpr hbl) hS (lw_ix h3 hL hM (rg_w (rg_k (4 : Int32) 4 rfl) (by decide +kernel))) dL_law_245 ?_
  refine lv_aload_n hx hb dL_law_246 rfl (lv_at hl 3 rfl) ?_
  refine lv_iload_n hx hb dL_law_247 rfl (lv_at hl 0 rfl) ?_
  refine lv_iconst (v := 5) hx hb dL_law_248 (by decide +kernel) ?_
  refine lv_iadd hx hb dL_law_249 ?_
  refine va_sld hx hb hX hbl (Nat.not_le.mpr hbl) hS (lw_ix h3 hL hM (rg_w (rg_k (5 : Int32) 5 rfl) (by decide +kernel))) dL_law_250 ?_
  refine lv_aload_n hx hb dL_law_251 rfl (lv_at hl 3 rfl) ?_
  refine lv_iload_n hx hb dL_law_252 rfl (lv_at hl 0 rfl) ?_
  refine lv_bipush (v := 6) hx hb dL_law_253 (by decide +kernel) ?_
  refine lv_iadd hx hb dL_law_255 ?_
  refine va_sld hx hb hX hbl (Nat.not_le.mpr hbl) hS (lw_ix h3 hL hM (rg_w (rg_k (6 : Int32) 6 rfl) (by decide +kernel))) dL_law_256 ?_
  refine lx_i (va_runV (As := [.int (xs (x3 + 1).toNatClampNeg), .int (xs (x3 + 2).toNatClampNeg), .int (xs (x3 + 3).toNatClampNeg), .int (xs (x3 + 4).toNatClampNeg), .int (xs (x3 + 5).toNatClampNeg), .int (xs (x3 + 6).toNatClampNeg)]) (rest := []) ⟨hx, hb, hml, hown, hts⟩ (s_X11_cell l D t σ I J ri rj rq H.size tg hSH hG this (xs (x3 + 1).toNatClampNeg : Int32) (xs (x3 + 2).toNatClampNeg : Int32) (xs (x3 + 3).toNatClampNeg : Int32) (xs (x3 + 4).toNatClampNeg : Int32) (xs (x3 + 5).toNatClampNeg : Int32) (xs (x3 + 6).toNatClampNeg : Int32) hL_this hK_this nw hR_nw hL_nw hK_nw) (cwV 6 hts (tw_V tw_205 tw_206 tw_207 tw_2 tw_208) rfl rfl rfl cv_yX11_cell_6 ⟨Nat.le_of_ble_eq_true rfl, Nat.le_of_ble_eq_true rfl⟩) ⟨pq_blind, pq_recv hK hP hL_this hK_this (by decide +kernel) rfl, pq_pre hK hN hP hD⟩ rfl rfl hl.1 rfl (lv_room (Nat.le_of_ble_eq_true rfl)) dL_law_257 ⟨Nat.le_trans (Nat.le_add_right _ 4) hc2, Nat.le_trans (Nat.le_add_right _ 345) hs2⟩) hD hS hA hP2 hdis (fun r_1 σ1 μ1 H locs hw hP hD hP2 hdis hS => ?_)
  obtain ⟨I_2, ri_3, hu, hgx, hfx, hFx, hr1⟩ := hw
  obtain ⟨hua, hub⟩ := Prod.mk.inj hu
  rw [hua, hub] at hP hD
  rw [hua] at hdis
  have hG := hgx.1
  refine lv_pop hx hb dL_law_260 rfl ?_
  refine lv_aload_n hx hb dL_law_261 rfl (lv_at hl 1 rfl) ?_
  refine lv_aload_n hx hb dL_law_262 rfl (lv_at hl 3 rfl) ?_
  refine lv_iload_n hx hb dL_law_263 rfl (lv_at hl 0 rfl) ?_
  refine lv_iconst (v := 1) hx hb dL_law_264 (by decide +kernel) ?_
  refine lv_iadd hx hb dL_law_265 ?_
  refine va_sld hx hb hX hbl (Nat.not_le.mpr hbl) hS (lw_ix h3 hL hM (rg_w (rg_k (1 : Int32) 1 rfl) (by decide +kernel))) dL_law_266 ?_
  refine lv_aload_n hx hb dL_law_267 rfl (lv_at hl 3 rfl) ?_
  refine lv_iload_n hx hb dL_law_268 rfl (lv_at hl 0 rfl) ?_
  refine lv_iconst (v := 2) hx hb dL_law_269 (by decide +kernel) ?_
  refine lv_iadd hx hb dL_law_270 ?_
  refine va_sld hx hb hX hbl (Nat.not_le.mpr hbl) hS (lw_ix h3 hL hM (rg_w (rg_k (2 : Int32) 2 rfl) (by decide +kernel))) dL_law_271 ?_
  refine lv_aload_n hx hb dL_law_272 rfl (lv_at hl 3 rfl) ?_
  refine lv_iload_n hx hb dL_law_273 rfl (lv_at hl 0 rfl) ?_
  refine lv_iconst (v := 3) hx hb dL_law_274 (by decide +kernel) ?_
  refine lv_iadd hx hb dL_law_275 ?_
  refine va_sld hx hb hX hbl (Nat.not_le.mpr hbl) hS (lw_ix h3 hL hM (rg_w (rg_k (3 : Int32) 3 rfl) (by decide +kernel))) dL_law_276 ?_
  refine lv_aload_n hx hb dL_law_277 rfl (lv_at hl 3 rfl) ?_
  refine lv_iload_n hx hb dL_law_278 rfl (lv_at hl 0 rfl) ?_
  refine lv_iconst (v := 4) hx hb dL_law_279 (by decide +kernel) ?_
  refine lv_iadd hx hb dL_law_280 ?_
  refine va_sld hx hb hX hbl (Nat.not_le.mpr hbl) hS (lw_ix h3 hL hM (rg_w (rg_k (4 : Int32) 4 rfl) (by decide +kernel))) dL_law_281 ?_
  refine lv_aload_n hx hb dL_law_282 rfl (lv_at hl 3 rfl) ?_
  refine lv_iload_n hx hb dL_law_283 rfl (lv_at hl 0 rfl) ?_
  refine lv_iconst (v := 5) hx hb dL_law_284 (by decide +kernel) ?_
  refine lv_iadd hx hb dL_law_285 ?_
  refine va_sld hx hb hX hbl (Nat.not_le.mpr hbl) hS (lw_ix h3 hL hM (rg_w (rg_k (5 : Int32) 5 rfl) (by decide +kernel))) dL_law_286 ?_
  refine lv_aload_n hx hb dL_law_287 rfl (lv_at hl 3 rfl) ?_
  refine lv_iload_n hx hb dL_law_288 rfl (lv_at hl 0 rfl) ?_
  refine lv_bipush (v := 6) hx hb dL_law_289 (by decide +kernel) ?_
  refine lv_iadd hx hb dL_law_291 ?_
  refine va_sld hx hb hX hbl (Nat.not_le.mpr hbl) hS (lw_ix h3 hL hM (rg_w (rg_k (6 : Int32) 6 rfl) (by decide +kernel))) dL_law_292 ?_
  refine lx_i (va_runV (As := [.int (xs (x3 + 1).toNatClampNeg), .int (xs (x3 + 2).toNatClampNeg), .int (xs (x3 + 3).toNatClampNeg), .int (xs (x3 + 4).toNatClampNeg), .int (xs (x3 + 5).toNatClampNeg), .int (xs (x3 + 6).toNatClampNeg)]) (rest := []) ⟨hx, hb, hml, hown, hts⟩ (s_X12_cell l D t τ I2 J2 si sj sq H.size tg2 hSH2 hG2 that (xs (x3 + 1).toNatClampNeg : Int32) (xs (x3 + 2).toNatClampNeg : Int32) (xs (x3 + 3).toNatClampNeg : Int32) (xs (x3 + 4).toNatClampNeg : Int32) (xs (x3 + 5).toNatClampNeg : Int32) (xs (x3 + 6).toNatClampNeg : Int32) hL_that hK_that) (cwV 6 hts (tw_V tw_227 tw_228 tw_229 tw_5 tw_230) rfl rfl rfl cv_yX12_cell_6 ⟨Nat.le_of_ble_eq_true rfl, Nat.le_of_ble_eq_true rfl⟩) ⟨pq_blind, pq_recv hK hP2 hL_that hK_that (by decide +kernel) rfl, pq_pre hK hN hP2 hD2⟩ rfl rfl hl.1 rfl (lv_room (Nat.le_of_ble_eq_true rfl)) dL_law_293 ⟨Nat.le_trans (Nat.le_add_right _ 4) hc2, Nat.le_trans (Nat.le_add_right _ 345) hs2⟩) hD2 hS hA hP (fun a h1 h2 => hdis a h2 h1) (fun r_4 τ1 ν1 H locs hw hP2 hD2 hP hdis hS => ?_)
  obtain ⟨si_5, hu, hgr, hfr, hFr, hr2⟩ := hw
  obtain ⟨hua, hub⟩ := Prod.mk.inj hu
  rw [hua, hub] at hP2 hD2
  rw [hua] at hdis
  have hG2 := hgr.1
  have hV2 := vt_12 hSH2 hL_that hK_that
  have hVn := vt_10 hSH hL_nw hK_nw
  have hVk := vt_10 hSH hL_kp hK_kp
  have hDN := (df_rf (df_cl hDN hgx hVn (by decide +kernel) (by decide +kernel)) hgr hV2 (by decide +kernel))
  have hDK := (df_im (df_cl hDK hgx hVk (by decide +kernel) (by decide +kernel)) hgr hV2 (by decide +kernel))
  have hVr := vt_4 hSH hRDo.2.1 hRDo.2.2
  have hRD := (rd_rf (rd_fr hRD hFx hAP.1.1 hVr) hgr hV2 (by decide +kernel))
  have hTN := (tc_rf (tc_cl hTN hgx (by decide +kernel)) hgr hV2 (by decide +kernel))
  have hTK := (tc_im (tc_cl hTK hgx (by decide +kernel)) hgr hV2 (by decide +kernel))
  have hcv := cv_st (cell_CV hRN) hfx hfr
  have hRN := hcv.2
  have hRK := (rl_im (rl_fr hRK hFx hAP.1) hgr hV2 (by decide +kernel))
  have hGN := (gr_rf (gr_cl hGN hgx hVn (by decide +kernel) (by decide +kernel) (by decide +kernel)) hgr hV2 (by decide +kernel))
  have hGK := (gr_im (gr_fr hGK hFx hAP.1) hgr hV2 (by decide +kernel))
  have hdis : ∀ a, a ∈ τ.1 → a ∉ σ.1 := fun a h1 h2 => hdis a h2 h1
  refine lv_pop hx hb dL_law_296 rfl ?_
  refine lv_goto (tgt := 1725) hx hb dL_law_297 (by decide +kernel) ?_
  exact kk _ _ H locs ls (by omega) (by omega) ⟨σ, I_2, J, ri_3, rj, rq, tg, τ, I2, J2, si_5, sj, sq, tg2, nw, kp, tr, rd, ⟨hP, hD, hSH, hG, hFI, hL_this, hK_this⟩, ⟨hP2, hD2, hSH2, hG2, hL_that, hK_that⟩, hdis, hTR, hAP, hRN, hRK, hGN, hGK, hDN, hDK, hRDo, hRD, hTN, hTK, hS⟩ hl
set_option maxHeartbeats 8000000 in
set_option maxRecDepth 100000 in
theorem lw_op_2 {p : Program} {e : Env} {s : State} {m : MethodId} {below : List Frame} {meth : Method} {c : Code} {b : Nat} (l : Launch) (hx : p.tables.exec = Jvm.exec) (hb : c.code = cL_law) (hr : meth.sig.returnType = ret) (hml : c.maxLocals = 4) (hown : s.vm.findClass RL = some m.cls) (hlocks : meth.locks = false) (hts : ∀ w ∈ (Cond.initialized RX11 :: wsL_law), w.before #[Value.ref b] s = true) {L : Nat} (xs : Nat → Int32) (hX : va_X b L xs s s.heap) (hbl : b < s.heap.size) (hM : L ≤ 3584) {D : va_G} {t : pq_T} (hK : va_K D vwCl (pq_ty t) s) (hN : pq_N s) {aK aV : Nat} {vF : Value} (hW0 : pq_W aK aV vF (fun q => s.heap.size ≤ q) s s.heap) {this that : Nat} {n : Nat} {x3 : Int32} (h3 : x3.toInt = 7 * (n : Int)) (hL : 7 * n + 7 ≤ L) {H : Heap} {locs : List Loc} {cells slots : Nat} (hc2 : cells + 4 ≤ room_1.cells) (hs2 : slots + 345 ≤ room_1.slots) (hI : LI s D t this that H locs) {ls : Array Slot} (hl : lv_has ls 4 [(3, .int x3), (2, .ref that), (1, .ref this), (0, .ref b)]) {Q : State → Prop} (kk : ∀ (cells2 slots2 : Nat) (H : Heap) (locs : List Loc) (ls : Array Slot), cells2 ≤ cells + 4 → slots2 ≤ slots + 345 → LI s D t this that H locs → lv_has ls 4 [(3, .int x3), (2, .ref that), (1, .ref this), (0, .ref b)] → W p l e room_1 s m #[Value.ref b] below meth c H locs cells2 slots2 Q (F0 m 1725 ls [])) : W p l e room_1 s m #[Value.ref b] below meth c H locs cells slots Q (F0 m 300 ls []) := by
  have hA : ∀ q : Nat, s.heap.size ≤ q → s.heap.size ≤ q := fun _ h => h
  obtain ⟨σ, I, J, ri, rj, rq, tg, τ, I2, J2, si, sj, sq, tg2, nw, kp, tr, rd, ⟨hP, hD, hSH, hG, hFI, hL_this, hK_this⟩, ⟨hP2, hD2, hSH2, hG2, hL_that, hK_that⟩, hdis, hTR, hAP, hRN, hRK, hGN, hGK, hDN, hDK, hRDo, hRD, hTN, hTK, hS⟩ := hI
  have hG00 := hG
  have hG20 := hG2
  have hR_rd := hRDo.1
  have hL_rd := hRDo.2.1
  have hK_rd := hRDo.2.2
  obtain ⟨⟨hR_nw, hL_nw, hK_nw⟩, ⟨hR_kp, hL_kp, hK_kp⟩, ⟨hR_tr, hL_tr, hK_tr⟩, -⟩ := id hTR
  refine lv_aload_n hx hb dL_law_300 rfl (lv_at hl 2 rfl) ?_
  refine lv_aload_n hx hb dL_law_301 rfl (lv_at hl 3 rfl) ?_
  refine lv_iload_n hx hb dL_law_302 rfl (lv_at hl 0 rfl) ?_
  refine lv_iconst (v := 1) hx hb dL_law_303 (by decide +kernel) ?_
  refine lv_iadd hx hb dL_law_304 ?_
  refine va_sld hx hb hX hbl (Nat.not_le.mpr hbl) hS (lw_ix h3 hL hM (rg_w (rg_k (1 : Int32) 1 rfl) (by decide +kernel))) dL_law_305 ?_
  refine lv_aload_n hx hb dL_law_306 rfl (lv_at hl 3 rfl) ?_
  refine lv_iload_n hx hb dL_law_307 rfl (lv_at hl 0 rfl) ?_
  refine lv_iconst (v := 2) hx hb dL_law_308 (by decide +kernel) ?_
  refine lv_iadd hx hb dL_law_309 ?_
  refine va_sld hx hb hX hbl (Nat.not_le.mpr hbl) hS (lw_ix h3 hL hM (rg_w (rg_k (2 : Int32) 2 rfl) (by decide +kernel))) dL_law_310 ?_
  refine lv_aload_n hx hb dL_law_311 rfl (lv_at hl 3 rfl) ?_
  refine lv_iload_n hx hb dL_law_312 rfl (lv_at hl 0 rfl) ?_
  refine lv_iconst (v := 3) hx hb dL_law_313 (by decide +kernel) ?_
  refine lv_iadd hx hb dL_law_314 ?_
  refine va_sld hx hb hX hbl (Nat.not_le.mpr hbl) hS (lw_ix h3 hL hM (rg_w (rg_k (3 : Int32) 3 rfl) (by decide +kernel))) dL_law_315 ?_
  refine lv_if_eq (tgt := 323) hx hb dL_law_316 (by decide +kernel) (fun c_1 => ?_) (fun c_1 => ?_)
  · refine lv_iconst (v := 0) hx hb dL_law_323 (by decide +kernel) ?_
    refine lv_aload_n hx hb dL_law_324 rfl (lv_at hl 3 rfl) ?_
    refine lv_iload_n hx hb dL_law_325 rfl (lv_at hl 0 rfl) ?_
    refine lv_iconst (v := 4) hx hb dL_law_326 (by decide +kernel) ?_
    refine lv_iadd hx hb dL_law_327 ?_
    refine va_sld hx hb hX hbl (Nat.not_le.mpr hbl) hS (lw_ix h3 hL hM (rg_w (rg_k (4 : Int32) 4 rfl) (by decide +kernel))) dL_law_328 ?_
    refine lx_i (va_runV (As := [.int (xs (x3 + 1).toNatClampNeg), .int (xs (x3 + 2).toNatClampNeg), .int 0, .int (xs (x3 + 4).toNatClampNeg)]) (rest := []) ⟨hx, hb, hml, hown, hts⟩ (s_X11_level l D t σ I J ri rj rq H.size tg hSH hG this (xs (x3 + 1).toNatClampNeg : Int32) (xs (x3 + 2).toNatClampNeg : Int32) (0 : Int32) (xs (x3 + 4).toNatClampNeg : Int32) hL_this hK_this (rg_w (rg_k (0 : Int32) 0 rfl) (by decide +kernel)) nw hR_nw hL_nw hK_nw) (cwV 4 hts (tw_V tw_238 tw_239 tw_240 tw_2 tw_241) rfl rfl rfl cv_yX11_level_4 ⟨Nat.le_of_ble_eq_true rfl, Nat.le_of_ble_eq_true rfl⟩) ⟨pq_blind, pq_recv hK hP hL_this hK_this (by decide +kernel) rfl, pq_pre hK hN hP hD⟩ rfl rfl hl.1 rfl (lv_room (Nat.le_of_ble_eq_true rfl)) dL_law_329 ⟨Nat.le_trans (Nat.le_add_right _ 4) hc2, Nat.le_trans (Nat.le_add_right _ 345) hs2⟩) hD hS hA hP2 hdis (fun r_2 σ1 μ1 H locs hw hP hD hP2 hdis hS => ?_)
    obtain ⟨I_3, ri_4, hu, hgx, hfx, hFx, hr1⟩ := hw
    obtain ⟨hua, hub⟩ := Prod.mk.inj hu
    rw [hua, hub] at hP hD
    rw [hua] at hdis
    have hG := hgx.1
    refine lv_pop hx hb dL_law_332 rfl ?_
    refine lv_aload_n hx hb dL_law_333 rfl (lv_at hl 1 rfl) ?_
    refine lv_aload_n hx hb dL_law_334 rfl (lv_at hl 3 rfl) ?_
    refine lv_iload_n hx hb dL_law_335 rfl (lv_at hl 0 rfl) ?_
    refine lv_iconst (v := 1) hx hb dL_law_336 (by decide +kernel) ?_
    refine lv_iadd hx hb dL_law_337 ?_
    refine va_sld hx hb hX hbl (Nat.not_le.mpr hbl) hS (lw_ix h3 hL hM (rg_w (rg_k (1 : Int32) 1 rfl) (by decide +kernel))) dL_law_338 ?_
    refine lv_aload_n hx hb dL_law_339 rfl (lv_at hl 3 rfl) ?_
    refine lv_iload_n hx hb dL_law_340 rfl (lv_at hl 0 rfl) ?_
    refine lv_iconst (v := 2) hx hb dL_law_341 (by decide +kernel) ?_
    refine lv_iadd hx hb dL_law_342 ?_
    refine va_sld hx hb hX hbl (Nat.not_le.mpr hbl) hS (lw_ix h3 hL hM (rg_w (rg_k (2 : Int32) 2 rfl) (by decide +kernel))) dL_law_343 ?_
    refine lv_aload_n hx hb dL_law_344 rfl (lv_at hl 3 rfl) ?_
    refine lv_iload_n hx hb dL_law_345 rfl (lv_at hl 0 rfl) ?_
    refine lv_iconst (v := 3) hx hb dL_law_346 (by decide +kernel) ?_
    refine lv_iadd hx hb dL_law_347 ?_
    refine va_sld hx hb hX hbl (Nat.not_le.mpr hbl) hS (lw_ix h3 hL hM (rg_w (rg_k (3 : Int32) 3 rfl) (by decide +kernel))) dL_law_348 ?_
    refine lv_if_eq (tgt := 356) hx hb dL_law_349 (by decide +kernel) (fun _ => ?_) (fun q => absurd c_1 q)
    refine lv_iconst (v := 0) hx hb dL_law_356 (by decide +kernel) ?_
    refine lv_aload_n hx hb dL_law_357 rfl (lv_at hl 3 rfl) ?_
    refine lv_iload_n hx hb dL_law_358 rfl (lv_at hl 0 rfl) ?_
    refine lv_iconst (v := 4) hx hb dL_law_359 (by decide +kernel) ?_
    refine lv_iadd hx hb dL_law_360 ?_
    refine va_sld hx hb hX hbl (Nat.not_le.mpr hbl) hS (lw_ix h3 hL hM (rg_w (rg_k (4 : Int32) 4 rfl) (by decide +kernel))) dL_law_361 ?_
    refine lx_i (va_runV (As := [.int (xs (x3 + 1).toNatClampNeg), .int (xs (x3 + 2).toNatClampNeg), .int 0, .int (xs (x3 + 4).toNatClampNeg)]) (rest := []) ⟨hx, hb, hml, hown, hts⟩ (s_X12_level l D t τ I2 J2 si sj sq H.size tg2 hSH2 hG2 that (xs (x3 + 1).toNatClampNeg : Int32) (xs (x3 + 2).toNatClampNeg : Int32) (0 : Int32) (xs (x3 + 4).toNatClampNeg : Int32) hL_that hK_that (rg_w (rg_k (0 : Int32) 0 rfl) (by decide +kernel))) (cwV 4 hts (tw_V tw_255 tw_256 tw_257 tw_5 tw_258) rfl rfl rfl cv_yX12_level_4 ⟨Nat.le_of_ble_eq_true rfl, Nat.le_of_ble_eq_true rfl⟩) ⟨pq_blind, pq_recv hK hP2 hL_that hK_that (by decide +kernel) rfl, pq_pre hK hN hP2 hD2⟩ rfl rfl hl.1 rfl (lv_room (Nat.le_of_ble_eq_true rfl)) dL_law_362 ⟨Nat.le_trans (Nat.le_add_right _ 4) hc2, Nat.le_trans (Nat.le_add_right _ 345) hs2⟩) hD2 hS hA hP (fun a h1 h2 => hdis a h2 h1) (fun r_5 τ1 ν1 H locs hw hP2 hD2 hP hdis hS => ?_)
    obtain ⟨si_6, hu, hgr, hfr, hFr, hr2⟩ := hw
    obtain ⟨hua, hub⟩ := Prod.mk.inj hu
    rw [hua, hub] at hP2 hD2
    rw [hua] at hdis
    have hG2 := hgr.1
    have hV2 := vt_12 hSH2 hL_that hK_that
    have hVn := vt_10 hSH hL_nw hK_nw
    have hVk := vt_10 hSH hL_kp hK_kp
    have hDN := (df_rf (df_cl hDN hgx hVn (by decide +kernel) (by decide +kernel)) hgr hV2 (by decide +kernel))
    have hDK := (df_im (df_cl hDK hgx hVk (by decide +kernel) (by decide +kernel)) hgr hV2 (by decide +kernel))
    have hVr := vt_4 hSH hRDo.2.1 hRDo.2.2
    have hRD := (rd_rf (rd_fr hRD hFx hAP.1.1 hVr) hgr hV2 (by decide +kernel))
    have hTN := (tc_rf (tc_cl hTN hgx (by decide +kernel)) hgr hV2 (by decide +kernel))
    have hTK := (tc_im (tc_cl hTK hgx (by decide +kernel)) hgr hV2 (by decide +kernel))
    have hcv := cv_st (level_CV hRN) hfx hfr
    have hRN := hcv.2
    have hRK := (rl_im (rl_fr hRK hFx hAP.1) hgr hV2 (by decide +kernel))
    have hGN := (gr_rf (gr_cl hGN hgx hVn (by decide +kernel) (by decide +kernel) (by decide +kernel)) hgr hV2 (by decide +kernel))
    have hGK := (gr_im (gr_fr hGK hFx hAP.1) hgr hV2 (by decide +kernel))
    have hdis : ∀ a, a ∈ τ.1 → a ∉ σ.1 := fun a h1 h2 => hdis a h2 h1
    refine lv_pop hx hb dL_law_365 rfl ?_
    refine lv_goto (tgt := 1725) hx hb dL_law_366 (by decide +kernel) ?_
    exact kk _ _ H locs ls (by omega) (by omega) ⟨σ, I_3, J, ri_4, rj, rq, tg, τ, I2, J2, si_6, sj, sq, tg2, nw, kp, tr, rd, ⟨hP, hD, hSH, hG, hFI, hL_this, hK_this⟩, ⟨hP2, hD2, hSH2, hG2, hL_that, hK_that⟩, hdis, hTR, hAP, hRN, hRK, hGN, hGK, hDN, hDK, hRDo, hRD, hTN, hTK, hS⟩ hl
  · refine lv_iconst (v := 1) hx hb dL_law_319 (by decide +kernel) ?_
    refine lv_goto (tgt := 324) hx hb dL_law_320 (by decide +kernel) ?_
    refine lv_aload_n hx hb dL_law_324 rfl (lv_at hl 3 rfl) ?_
    refine lv_iload_n hx hb dL_law_325 rfl (lv_at hl 0 rfl) ?_
    refine lv_iconst (v := 4) hx hb dL_law_326 (by decide +kernel) ?_
    refine lv_iadd hx hb dL_law_327 ?_
    refine va_sld hx hb hX hbl (Nat.not_le.mpr hbl) hS (lw_ix h3 hL hM (rg_w (rg_k (4 : Int32) 4 rfl) (by decide +kernel))) dL_law_328 ?_
    refine lx_i (va_runV (As := [.int (xs (x3 + 1).toNatClampNeg), .int (xs (x3 + 2).toNatClampNeg), .int 1, .int (xs (x3 + 4).toNatClampNeg)]) (rest := []) ⟨hx, hb, hml, hown, hts⟩ (s_X11_level l D t σ I J ri rj rq H.size tg hSH hG this (xs (x3 + 1).toNatClampNeg : Int32) (xs (x3 + 2).toNatClampNeg : Int32) (1 : Int32) (xs (x3 + 4).toNatClampNeg : Int32) hL_this hK_this (rg_w (rg_k (1 : Int32) 1 rfl) (by decide +kernel)) nw hR_nw hL_nw hK_nw) (cwV 4 hts (tw_V tw_238 tw_239 tw_240 tw_2 tw_241) rfl rfl rfl cv_yX11_level_4 ⟨Nat.le_of_ble_eq_true rfl, Nat.le_of_ble_eq_true rfl⟩) ⟨pq_blind, pq_recv hK hP hL_this hK_this (by decide +kernel) rfl, pq_pre hK hN hP hD⟩ rfl rfl hl.1 rfl (lv_room (Nat.le_of_ble_eq_true rfl)) dL_law_329 ⟨Nat.le_trans (Nat.le_add_right _ 4) hc2, Nat.le_trans (Nat.le_add_right _ 345) hs2⟩) hD hS hA hP2 hdis (fun r_7 σ1 μ1 H locs hw hP hD hP2 hdis hS => ?_)
    obtain ⟨I_8, ri_9, hu, hgx, hfx, hFx, hr1⟩ := hw
    obtain ⟨hua, hub⟩ := Prod.mk.inj hu
    rw [hua, hub] at hP hD
    rw [hua] at hdis
    have hG := hgx.1
    refine lv_pop hx hb dL_law_332 rfl ?_
    refine lv_aload_n hx hb dL_law_333 rfl (lv_at hl 1 rfl) ?_
    refine lv_aload_n hx hb dL_law_334 rfl (lv_at hl 3 rfl) ?_
    refine lv_iload_n hx hb dL_law_335 rfl (lv_at hl 0 rfl) ?_
    refine lv_iconst (v := 1) hx hb dL_law_336 (by decide +kernel) ?_
    refine lv_iadd hx hb dL_law_337 ?_
    refine va_sld hx hb hX hbl (Nat.not_le.mpr hbl) hS (lw_ix h3 hL hM (rg_w (rg_k (1 : Int32) 1 rfl) (by decide +kernel))) dL_law_338 ?_
    refine lv_aload_n hx hb dL_law_339 rfl (lv_at hl 3 rfl) ?_
    refine lv_iload_n hx hb dL_law_340 rfl (lv_at hl 0 rfl) ?_
    refine lv_iconst (v := 2) hx hb dL_law_341 (by decide +kernel) ?_
    refine lv_iadd hx hb dL_law_342 ?_
    refine va_sld hx hb hX hbl (Nat.not_le.mpr hbl) hS (lw_ix h3 hL hM (rg_w (rg_k (2 : Int32) 2 rfl) (by decide +kernel))) dL_law_343 ?_
    refine lv_aload_n hx hb dL_law_344 rfl (lv_at hl 3 rfl) ?_
    refine lv_iload_n hx hb dL_law_345 rfl (lv_at hl 0 rfl) ?_
    refine lv_iconst (v := 3) hx hb dL_law_346 (by decide +kernel) ?_
    refine lv_iadd hx hb dL_law_347 ?_
    refine va_sld hx hb hX hbl (Nat.not_le.mpr hbl) hS (lw_ix h3 hL hM (rg_w (rg_k (3 : Int32) 3 rfl) (by decide +kernel))) dL_law_348 ?_
    refine lv_if_eq (tgt := 356) hx hb dL_law_349 (by decide +kernel) (fun q => absurd q c_1) (fun _ => ?_)
    refine lv_iconst (v := 1) hx hb dL_law_352 (by decide +kernel) ?_
    refine lv_goto (tgt := 357) hx hb dL_law_353 (by decide +kernel) ?_
    refine lv_aload_n hx hb dL_law_357 rfl (lv_at hl 3 rfl) ?_
    refine lv_iload_n hx hb dL_law_358 rfl (lv_at hl 0 rfl) ?_
    refine lv_iconst (v := 4) hx hb dL_law_359 (by decide +kernel) ?_
    refine lv_iadd hx hb dL_law_360 ?_
    refine va_sld hx hb hX hbl (Nat.not_le.mpr hbl) hS (lw_ix h3 hL hM (rg_w (rg_k (4 : Int32) 4 rfl) (by decide +kernel))) dL_law_361 ?_
    refine lx_i (va_runV (As := [.int (xs (x3 + 1).toNatClampNeg), .int (xs (x3 + 2).toNatClampNeg), .int 1, .int (xs (x3 + 4).toNatClampNeg)]) (rest := []) ⟨hx, hb, hml, hown, hts⟩ (s_X12_level l D t τ I2 J2 si sj sq H.size tg2 hSH2 hG2 that (xs (x3 + 1).toNatClampNeg : Int32) (xs (x3 + 2).toNatClampNeg : Int32) (1 : Int32) (xs (x3 + 4).toNatClampNeg : Int32) hL_that hK_that (rg_w (rg_k (1 : Int32) 1 rfl) (by decide +kernel))) (cwV 4 hts (tw_V tw_255 tw_256 tw_257 tw_5 tw_258) rfl rfl rfl cv_yX12_level_4 ⟨Nat.le_of_ble_eq_true rfl, Nat.le_of_ble_eq_true rfl⟩) ⟨pq_blind, pq_recv hK hP2 hL_that hK_that (by decide +kernel) rfl, pq_pre hK hN hP2 hD2⟩ rfl rfl hl.1 rfl (lv_room (Nat.le_of_ble_eq_true rfl)) dL_law_362 ⟨Nat.le_trans (Nat.le_add_right _ 4) hc2, Nat.le_trans (Nat.le_add_right _ 345) hs2⟩) hD2 hS hA hP (fun a h1 h2 => hdis a h2 h1) (fun r_10 τ1 ν1 H locs hw hP2 hD2 hP hdis hS => ?_)
    obtain ⟨si_11, hu, hgr, hfr, hFr, hr2⟩ := hw
    obtain ⟨hua, hub⟩ := Prod.mk.inj hu
    rw [hua, hub] at hP2 hD2
    rw [hua] at hdis
    have hG2 := hgr.1
    have hV2 := vt_12 hSH2 hL_that hK_that
    have hVn := vt_10 hSH hL_nw hK_nw
    have hVk := vt_10 hSH hL_kp hK_kp
    have hDN := (df_rf (df_cl hDN hgx hVn (by decide +kernel) (by decide +kernel)) hgr hV2 (by decide +kernel))
    have hDK := (df_im (df_cl hDK hgx hVk (by decide +kernel) (by decide +kernel)) hgr hV2 (by decide +kernel))
    have hVr := vt_4 hSH hRDo.2.1 hRDo.2.2
    have hRD := (rd_rf (rd_fr hRD hFx hAP.1.1 hVr) hgr hV2 (by decide +kernel))
    have hTN := (tc_rf (tc_cl hTN hgx (by decide +kernel)) hgr hV2 (by decide +kernel))
    have hTK := (tc_im (tc_cl hTK hgx (by decide +kernel)) hgr hV2 (by decide +kernel))
    have hcv := cv_st (level_CV hRN) hfx hfr
    have hRN := hcv.2
    have hRK := (rl_im (rl_fr hRK hFx hAP.1) hgr hV2 (by decide +kernel))
    have hGN := (gr_rf (gr_cl hGN hgx hVn (by decide +kernel) (by decide +kernel) (by decide +kernel)) hgr hV2 (by decide +kernel))
    have hGK := (gr_im (gr_fr hGK hFx hAP.1) hgr hV2 (by decide +kernel))
    have hdis : ∀ a, a ∈ τ.1 → a ∉ σ.1 := fun a h1 h2 => hdis a h2 h1
    refine lv_pop hx hb dL_law_365 rfl ?_
    refine lv_goto (tgt := 1725) hx hb dL_law_366 (by decide +kernel) ?_
    exact kk _ _ H locs ls (by omega) (by omega) ⟨σ, I_8, J, ri_9, rj, rq, tg, τ, I2, J2, si_11, sj, sq, tg2, nw, kp, tr, rd, ⟨hP, hD, hSH, hG, hFI, hL_this, hK_this⟩, ⟨hP2, hD2, hSH2, hG2, hL_that, hK_that⟩, hdis, hTR, hAP, hRN, hRK, hGN, hGK, hDN, hDK, hRDo, hRD, hTN, hTK, hS⟩ hl
set_option maxHeartbeats 8000000 in
set_option maxRecDepth 100000 in
theorem lw_op_3 {p : Program} {e : Env} {s : State} {m : MethodId} {below : List Frame} {meth : Method} {c : Code} {b : Nat} (l : Launch) (hx : p.tables.exec = Jvm.exec) (hb : c.code = cL_law) (hr : meth.sig.returnType = ret) (hml : c.maxLocals = 4) (hown : s.vm.findClass RL = some m.cls) (hlocks : meth.locks = false) (hts : ∀ w ∈ (Cond.initialized RX11 :: wsL_law), w.before #[Value.ref b] s = true) {L : Nat} (xs : Nat → Int32) (hX : va_X b L xs s s.heap) (hbl : b < s.heap.size) (hM : L ≤ 3584) {D : va_G} {t : pq_T} (hK : va_K D vwCl (pq_ty t) s) (hN : pq_N s) {aK aV : Nat} {vF : Value} (hW0 : pq_W aK aV vF (fun q => s.heap.size ≤ q) s s.heap) {this that : Nat} {n : Nat} {x3 : Int32} (h3 : x3.toInt = 7 * (n : Int)) (hL : 7 * n + 7 ≤ L) {H : Heap} {locs : List Loc} {cells slots : Nat} (hc2 : cells + 4 ≤ room_1.cells) (hs2 : slots + 345 ≤ room_1.slots) (hI : LI s D t this that H locs) {ls : Array Slot} (hl : lv_has ls 4 [(3, .int x3), (2, .ref that), (1, .ref this), (0, .ref b)]) {Q : State → Prop} (kk : ∀ (cells2 slots2 : Nat) (H : Heap) (locs : List Loc) (ls : Array Slot), cells2 ≤ cells + 4 → slots2 ≤ slots + 345 → LI s D t this that H locs → lv_has ls 4 [(3, .int x3), (2, .ref that), (1, .ref this), (0, .ref b)] → W p l e room_1 s m #[Value.ref b] below meth c H locs cells2 slots2 Q (F0 m 1725 ls [])) : W p l e room_1 s m #[Value.ref b] below meth c H locs cells slots Q (F0 m 369 ls []) := by
  have hA : ∀ q : Nat, s.heap.size ≤ q → s.heap.size ≤ q := fun _ h => h
  obtain ⟨σ, I, J, ri, rj, rq, tg, τ, I2, J2, si, sj, sq, tg2, nw, kp, tr, rd, ⟨hP, hD, hSH, hG, hFI, hL_this, hK_this⟩, ⟨hP2, hD2, hSH2, hG2, hL_that, hK_that⟩, hdis, hTR, hAP, hRN, hRK, hGN, hGK, hDN, hDK, hRDo, hRD, hTN, hTK, hS⟩ := hI
  have hG00 := hG
  have hG20 := hG2
  have hR_rd := hRDo.1
  have hL_rd := hRDo.2.1
  have hK_rd := hRDo.2.2
  obtain ⟨⟨hR_nw, hL_nw, hK_nw⟩, ⟨hR_kp, hL_kp, hK_kp⟩, ⟨hR_tr, hL_tr, hK_tr⟩, -⟩ := id hTR
  refine lv_aload_n hx hb dL_law_369 rfl (lv_at hl 2 rfl) ?_
  refine lv_aload_n hx hb dL_law_370 rfl (lv_at hl 3 rfl) ?_
  refine lv_iload_n hx hb dL_law_371 rfl (lv_at hl 0 rfl) ?_
  refine lv_iconst (v := 1) hx hb dL_law_372 (by decide +kernel) ?_
  refine lv_iadd hx hb dL_law_373 ?_
  refine va_sld hx hb hX hbl (Nat.not_le.mpr hbl) hS (lw_ix h3 hL hM (rg_w (rg_k (1 : Int32) 1 rfl) (by decide +kernel))) dL_law_374 ?_
  refine lv_aload_n hx hb dL_law_375 rfl (lv_at hl 3 rfl) ?_
  refine lv_iload_n hx hb dL_law_376 rfl (lv_at hl 0 rfl) ?_
  refine lv_iconst (v := 2) hx hb dL_law_377 (by decide +kernel) ?_
  refine lv_iadd hx hb dL_law_378 ?_
  refine va_sld hx hb hX hbl (Nat.not_le.mpr hbl) hS (lw_ix h3 hL hM (rg_w (rg_k (2 : Int32) 2 rfl) (by decide +kernel))) dL_law_379 ?_
  refine lv_aload_n hx hb dL_law_380 rfl (lv_at hl 3 rfl) ?_
  refine lv_iload_n hx hb dL_law_381 rfl (lv_at hl 0 rfl) ?_
  refine lv_iconst (v := 3) hx hb dL_law_382 (by decide +kernel) ?_
  refine lv_iadd hx hb dL_law_383 ?_
  refine va_sld hx hb hX hbl (Nat.not_le.mpr hbl) hS (lw_ix h3 hL hM (rg_w (rg_k (3 : Int32) 3 rfl) (by decide +kernel))) dL_law_384 ?_
  refine lx_i (va_runV (As := [.int (xs (x3 + 1).toNatClampNeg), .int (xs (x3 + 2).toNatClampNeg), .int (xs (x3 + 3).toNatClampNeg)]) (rest := []) ⟨hx, hb, hml, hown, hts⟩ (s_X11_levelOf l D t σ I J ri rj rq H.size tg hSH hG this (xs (x3 + 1).toNatClampNeg : Int32) (xs (x3 + 2).toNatClampNeg : Int32) (xs (x3 + 3).toNatClampNeg : Int32) hL_this hK_this nw hR_nw hL_nw hK_nw) (cwV 3 hts (tw_V tw_265 tw_266 tw_267 tw_2 tw_268) rfl rfl rfl cv_yX11_levelOf_3 ⟨Nat.le_of_ble_eq_true rfl, Nat.le_of_ble_eq_true rfl⟩) ⟨pq_blind, pq_recv hK hP hL_this hK_this (by decide +kernel) rfl, pq_pre hK hN hP hD⟩ rfl rfl hl.1 rfl (lv_room (Nat.le_of_ble_eq_true rfl)) dL_law_385 ⟨Nat.le_trans (Nat.le_add_right _ 4) hc2, Nat.le_trans (Nat.le_add_right _ 345) hs2⟩) hD hS hA hP2 hdis (fun r_1 σ1 μ1 H locs hw hP hD hP2 hdis hS => ?_)
  obtain ⟨hu, hfx⟩ := hw
  obtain ⟨hua, hub⟩ := Prod.mk.inj hu
  rw [hua, hub] at hP hD
  rw [hua] at hdis
  refine lv_pop hx hb dL_law_388 rfl ?_
  refine lv_aload_n hx hb dL_law_389 rfl (lv_at hl 1 rfl) ?_
  refine lv_aload_n hx hb dL_law_390 rfl (lv_at hl 3 rfl) ?_
  refine lv_iload_n hx hb dL_law_391 rfl (lv_at hl 0 rfl) ?_
  refine lv_iconst (v := 1) hx hb dL_law_392 (by decide +kernel) ?_
  refine lv_iadd hx hb dL_law_393 ?_
  refine va_sld hx hb hX hbl (Nat.not_le.mpr hbl) hS (lw_ix h3 hL hM (rg_w (rg_k (1 : Int32) 1 rfl) (by decide +kernel))) dL_law_394 ?_
  refine lv_aload_n hx hb dL_law_395 rfl (lv_at hl 3 rfl) ?_
  refine lv_iload_n hx hb dL_law_396 rfl (lv_at hl 0 rfl) ?_
  refine lv_iconst (v := 2) hx hb dL_law_397 (by decide +kernel) ?_
  refine lv_iadd hx hb dL_law_398 ?_
  refine va_sld hx hb hX hbl (Nat.not_le.mpr hbl) hS (lw_ix h3 hL hM (rg_w (rg_k (2 : Int32) 2 rfl) (by decide +kernel))) dL_law_399 ?_
  refine lv_aload_n hx hb dL_law_400 rfl (lv_at hl 3 rfl) ?_
  refine lv_iload_n hx hb dL_law_401 rfl (lv_at hl 0 rfl) ?_
  refine lv_iconst (v := 3) hx hb dL_law_402 (by decide +kernel) ?_
  refine lv_iadd hx hb dL_law_403 ?_
  refine va_sld hx hb hX hbl (Nat.not_le.mpr hbl) hS (lw_ix h3 hL hM (rg_w (rg_k (3 : Int32) 3 rfl) (by decide +kernel))) dL_law_404 ?_
  refine lx_i (va_runV (As := [.int (xs (x3 + 1).toNatClampNeg), .int (xs (x3 + 2).toNatClampNeg), .int (xs (x3 + 3).toNatClampNeg)]) (rest := []) ⟨hx, hb, hml, hown, hts⟩ (s_X12_levelOf l D t τ I2 J2 si sj sq H.size tg2 hSH2 hG2 that (xs (x3 + 1).toNatClampNeg : Int32) (xs (x3 + 2).toNatClampNeg : Int32) (xs (x3 + 3).toNatClampNeg : Int32) hL_that hK_that) (cwV 3 hts (tw_V tw_284 tw_285 tw_286 tw_5 tw_287) rfl rfl rfl cv_yX12_levelOf_3 ⟨Nat.le_of_ble_eq_true rfl, Nat.le_of_ble_eq_true rfl⟩) ⟨pq_blind, pq_recv hK hP2 hL_that hK_that (by decide +kernel) rfl, pq_pre hK hN hP2 hD2⟩ rfl rfl hl.1 rfl (lv_room (Nat.le_of_ble_eq_true rfl)) dL_law_405 ⟨Nat.le_trans (Nat.le_add_right _ 4) hc2, Nat.le_trans (Nat.le_add_right _ 345) hs2⟩) hD2 hS hA hP (fun a h1 h2 => hdis a h2 h1) (fun r_2 τ1 ν1 H locs hw hP2 hD2 hP hdis hS => ?_)
  obtain ⟨hu, hfr⟩ := hw
  obtain ⟨hua, hub⟩ := Prod.mk.inj hu
  rw [hua, hub] at hP2 hD2
  rw [hua] at hdis
  have hV2 := vt_12 hSH2 hL_that hK_that
  have hDN := hDN
  have hDK := hDK
  have hVr := vt_4 hSH hRDo.2.1 hRDo.2.2
  have hRD := hRD
  have hTN := hTN
  have hTK := hTK
  have he0 := fst_st (levelOf_v hRN) hfx hfr
  have hRN := hRN
  have hRK := hRK
  have hGN := hGN
  have hGK := hGK
  have hdis : ∀ a, a ∈ τ.1 → a ∉ σ.1 := fun a h1 h2 => hdis a h2 h1
  refine lv_pop hx hb dL_law_408 rfl ?_
  refine lv_goto (tgt := 1725) hx hb dL_law_409 (by decide +kernel) ?_
  exact kk _ _ H locs ls (by omega) (by omega) ⟨σ, I, J, ri, rj, rq, tg, τ, I2, J2, si, sj, sq, tg2, nw, kp, tr, rd, ⟨hP, hD, hSH, hG, hFI, hL_this, hK_this⟩, ⟨hP2, hD2, hSH2, hG2, hL_that, hK_that⟩, hdis, hTR, hAP, hRN, hRK, hGN, hGK, hDN, hDK, hRDo, hRD, hTN, hTK, hS⟩ hl
set_option maxHeartbeats 8000000 in
set_option maxRecDepth 100000 in
theorem lw_op_4 {p : Program} {e : Env} {s : State} {m : MethodId} {below : List Frame} {meth : Method} {c : Code} {b : Nat} (l : Launch) (hx : p.tables.exec = Jvm.exec) (hb : c.code = cL_law) (hr : meth.sig.returnType = ret) (hml : c.maxLocals = 4) (hown : s.vm.findClass RL = some m.cls) (hlocks : meth.locks = false) (hts : ∀ w ∈ (Cond.initialized RX11 :: wsL_law), w.before #[Value.ref b] s = true) {L : Nat} (xs : Nat → Int32) (hX : va_X b L xs s s.heap) (hbl : b < s.heap.size) (hM : L ≤ 3584) {D : va_G} {t : pq_T} (hK : va_K D vwCl (pq_ty t) s) (hN : pq_N s) {aK aV : Nat} {vF : Value} (hW0 : pq_W aK aV vF (fun q => s.heap.size ≤ q) s s.heap) {this that : Nat} {n : Nat} {x3 : Int32} (h3 : x3.toInt = 7 * (n : Int)) (hL : 7 * n + 7 ≤ L) {H : Heap} {locs : List Loc} {cells slots : Nat} (hc2 : cells + 4 ≤ room_1.cells) (hs2 : slots + 345 ≤ room_1.slots) (hI : LI s D t this that H locs) {ls : Array Slot} (hl : lv_has ls 4 [(3, .int x3), (2, .ref that), (1, .ref this), (0, .ref b)]) {Q : State → Prop} (kk : ∀ (cells2 slots2 : Nat) (H : Heap) (locs : List Loc) (ls : Array Slot), cells2 ≤ cells + 4 → slots2 ≤ slots + 345 → LI s D t this that H locs → lv_has ls 4 [(3, .int x3), (2, .ref that), (1, .ref this), (0, .ref b)] → W p l e room_1 s m #[Value.ref b] below meth c H locs cells2 slots2 Q (F0 m 1725 ls [])) : W p l e room_1 s m #[Value.ref b] below meth c H locs cells slots Q (F0 m 412 ls []) := by
  have hA : ∀ q : Nat, s.heap.size ≤ q → s.heap.size ≤ q := fun _ h => h
  obtain ⟨σ, I, J, ri, rj, rq, tg, τ, I2, J2, si, sj, sq, tg2, nw, kp, tr, rd, ⟨hP, hD, hSH, hG, hFI, hL_this, hK_this⟩, ⟨hP2, hD2, hSH2, hG2, hL_that, hK_that⟩, hdis, hTR, hAP, hRN, hRK, hGN, hGK, hDN, hDK, hRDo, hRD, hTN, hTK, hS⟩ := hI
  have hG00 := hG
  have hG20 := hG2
  have hR_rd := hRDo.1
  have hL_rd := hRDo.2.1
  have hK_rd := hRDo.2.2
  obtain ⟨⟨hR_nw, hL_nw, hK_nw⟩, ⟨hR_kp, hL_kp, hK_kp⟩, ⟨hR_tr, hL_tr, hK_tr⟩, -⟩ := id hTR
  refine lv_aload_n hx hb dL_law_412 rfl (lv_at hl 2 rfl) ?_
  refine lv_aload_n hx hb dL_law_413 rfl (lv_at hl 3 rfl) ?_
  refine lv_iload_n hx hb dL_law_414 rfl (lv_at hl 0 rfl) ?_
  refine lv_iconst (v := 1) hx hb dL_law_415 (by decide +kernel) ?_
  refine lv_iadd hx hb dL_law_416 ?_
  refine va_sld hx hb hX hbl (Nat.not_le.mpr hbl) hS (lw_ix h3 hL hM (rg_w (rg_k (1 : Int32) 1 rfl) (by decide +kernel))) dL_law_417 ?_
  refine lv_aload_n hx hb dL_law_418 rfl (lv_at hl 3 rfl) ?_
  refine lv_iload_n hx hb dL_law_419 rfl (lv_at hl 0 rfl) ?_
  refine lv_iconst (v := 2) hx hb dL_law_420 (by decide +kernel) ?_
  refine lv_iadd hx hb dL_law_421 ?_
  refine va_sld hx hb hX hbl (Nat.not_le.mpr hbl) hS (lw_ix h3 hL hM (rg_w (rg_k (2 : Int32) 2 rfl) (by decide +kernel))) dL_law_422 ?_
  refine lv_aload_n hx hb dL_law_423 rfl (lv_at hl 3 rfl) ?_
  refine lv_iload_n hx hb dL_law_424 rfl (lv_at hl 0 rfl) ?_
  refine lv_iconst (v := 3) hx hb dL_law_425 (by decide +kernel) ?_
  refine lv_iadd hx hb dL_law_426 ?_
  refine va_sld hx hb hX hbl (Nat.not_le.mpr hbl) hS (lw_ix h3 hL hM (rg_w (rg_k (3 : Int32) 3 rfl) (by decide +kernel))) dL_law_427 ?_
  refine lv_aload_n hx hb dL_law_428 rfl (lv_at hl 3 rfl) ?_
  refine lv_iload_n hx hb dL_law_429 rfl (lv_at hl 0 rfl) ?_
  refine lv_iconst (v := 4) hx hb dL_law_430 (by decide +kernel) ?_
  refine lv_iadd hx hb dL_law_431 ?_
  refine va_sld hx hb hX hbl (Nat.not_le.mpr hbl) hS (lw_ix h3 hL hM (rg_w (rg_k (4 : Int32) 4 rfl) (by decide +kernel))) dL_law_432 ?_
  refine lv_aload_n hx hb dL_law_433 rfl (lv_at hl 3 rfl) ?_
  refine lv_iload_n hx hb dL_law_434 rfl (lv_at hl 0 rfl) ?_
  refine lv_iconst (v := 5) hx hb dL_law_435 (by decide +kernel) ?_
  refine lv_iadd hx hb dL_law_436 ?_
  refine va_sld hx hb hX hbl (Nat.not_le.mpr hbl) hS (lw_ix h3 hL hM (rg_w (rg_k (5 : Int32) 5 rfl) (by decide +kernel))) dL_law_437 ?_
  refine lv_aload_n hx hb dL_law_438 rfl (lv_at hl 3 rfl) ?_
  refine lv_iload_n hx hb dL_law_439 rfl (lv_at hl 0 rfl) ?_
  refine lv_bipush (v := 6) hx hb dL_law_440 (by decide +kernel) ?_
  refine lv_iadd hx hb dL_law_442 ?_
  refine va_sld hx hb hX hbl (Nat.not_le.mpr hbl) hS (lw_ix h3 hL hM (rg_w (rg_k (6 : Int32) 6 rfl) (by decide +kernel))) dL_law_443 ?_
  refine lx_i (va_runV (As := [.int (xs (x3 + 1).toNatClampNeg), .int (xs (x3 + 2).toNatClampNeg), .int (xs (x3 + 3).toNatClampNeg), .int (xs (x3 + 4).toNatClampNeg), .int (xs (x3 + 5).toNatClampNeg), .int (xs (x3 + 6).toNatClampNeg)]) (rest := []) ⟨hx, hb, hml, hown, hts⟩ (s_X11_table l D t σ I J ri rj rq H.size tg hSH hG this (xs (x3 + 1).toNatClampNeg : Int32) (xs (x3 + 2).toNatClampNeg : Int32) (xs (x3 + 3).toNatClampNeg : Int32) (xs (x3 + 4).toNatClampNeg : Int32) (xs (x3 + 5).toNatClampNeg : Int32) (xs (x3 + 6).toNatClampNeg : Int32) hL_this hK_this nw hR_nw hL_nw hK_nw) (cwV 6 hts (tw_V tw_301 tw_302 tw_303 tw_2 tw_304) rfl rfl rfl cv_yX11_table_6 ⟨Nat.le_of_ble_eq_true rfl, Nat.le_of_ble_eq_true rfl⟩) ⟨pq_blind, pq_recv hK hP hL_this hK_this (by decide +kernel) rfl, pq_pre hK hN hP hD⟩ rfl rfl hl.1 rfl (lv_room (Nat.le_of_ble_eq_true rfl)) dL_law_444 ⟨Nat.le_trans (Nat.le_add_right _ 4) hc2, Nat.le_trans (Nat.le_add_right _ 345) hs2⟩) hD hS hA hP2 hdis (fun r_1 σ1 μ1 H locs hw hP hD hP2 hdis hS => ?_)
  obtain ⟨ri_2, hu, hgx, hfx, hFx, hr1⟩ := hw
  obtain ⟨hua, hub⟩ := Prod.mk.inj hu
  rw [hua, hub] at hP hD
  rw [hua] at hdis
  have hG := hgx.1
  refine lv_aload_n hx hb dL_law_447 rfl (lv_at hl 1 rfl) ?_
  refine lv_aload_n hx hb dL_law_448 rfl (lv_at hl 3 rfl) ?_
  refine lv_iload_n hx hb dL_law_449 rfl (lv_at hl 0 rfl) ?_
  refine lv_iconst (v := 1) hx hb dL_law_450 (by decide +kernel) ?_
  refine lv_iadd hx hb dL_law_451 ?_
  refine va_sld hx hb hX hbl (Nat.not_le.mpr hbl) hS (lw_ix h3 hL hM (rg_w (rg_k (1 : Int32) 1 rfl) (by decide +kernel))) dL_law_452 ?_
  refine lv_aload_n hx hb dL_law_453 rfl (lv_at hl 3 rfl) ?_
  refine lv_iload_n hx hb dL_law_454 rfl (lv_at hl 0 rfl) ?_
  refine lv_iconst (v := 2) hx hb dL_law_455 (by decide +kernel) ?_
  refine lv_iadd hx hb dL_law_456 ?_
  refine va_sld hx hb hX hbl (Nat.not_le.mpr hbl) hS (lw_ix h3 hL hM (rg_w (rg_k (2 : Int32) 2 rfl) (by decide +kernel))) dL_law_457 ?_
  refine lv_aload_n hx hb dL_law_458 rfl (lv_at hl 3 rfl) ?_
  refine lv_iload_n hx hb dL_law_459 rfl (lv_at hl 0 rfl) ?_
  refine lv_iconst (v := 3) hx hb dL_law_460 (by decide +kernel) ?_
  refine lv_iadd hx hb dL_law_461 ?_
  refine va_sld hx hb hX hbl (Nat.not_le.mpr hbl) hS (lw_ix h3 hL hM (rg_w (rg_k (3 : Int32) 3 rfl) (by decide +kernel))) dL_law_462 ?_
  refine lv_aload_n hx hb dL_law_463 rfl (lv_at hl 3 rfl) ?_
  refine lv_iload_n hx hb dL_law_464 rfl (lv_at hl 0 rfl) ?_
  refine lv_iconst (v := 4) hx hb dL_law_465 (by decide +kernel) ?_
  refine lv_iadd hx hb dL_law_466 ?_
  refine va_sld hx hb hX hbl (Nat.not_le.mpr hbl) hS (lw_ix h3 hL hM (rg_w (rg_k (4 : Int32) 4 rfl) (by decide +kernel))) dL_law_467 ?_
  refine lv_aload_n hx hb dL_law_468 rfl (lv_at hl 3 rfl) ?_
  refine lv_iload_n hx hb dL_law_469 rfl (lv_at hl 0 rfl) ?_
  refine lv_iconst (v := 5) hx hb dL_law_470 (by decide +kernel) ?_
  refine lv_iadd hx hb dL_law_471 ?_
  refine va_sld hx hb hX hbl (Nat.not_le.mpr hbl) hS (lw_ix h3 hL hM (rg_w (rg_k (5 : Int32) 5 rfl) (by decide +kernel))) dL_law_472 ?_
  refine lv_aload_n hx hb dL_law_473 rfl (lv_at hl 3 rfl) ?_
  refine lv_iload_n hx hb dL_law_474 rfl (lv_at hl 0 rfl) ?_
  refine lv_bipush (v := 6) hx hb dL_law_475 (by decide +kernel) ?_
  refine lv_iadd hx hb dL_law_477 ?_
  refine va_sld hx hb hX hbl (Nat.not_le.mpr hbl) hS (lw_ix h3 hL hM (rg_w (rg_k (6 : Int32) 6 rfl) (by decide +kernel))) dL_law_478 ?_
  refine lx_i (va_runV (As := [.int (xs (x3 + 1).toNatClampNeg), .int (xs (x3 + 2).toNatClampNeg), .int (xs (x3 + 3).toNatClampNeg), .int (xs (x3 + 4).toNatClampNeg), .int (xs (x3 + 5).toNatClampNeg), .int (xs (x3 + 6).toNatClampNeg)]) (rest := [.int r_1]) ⟨hx, hb, hml, hown, hts⟩ (s_X12_table l D t τ I2 J2 si sj sq H.size tg2 hSH2 hG2 that (xs (x3 + 1).toNatClampNeg : Int32) (xs (x3 + 2).toNatClampNeg : Int32) (xs (x3 + 3).toNatClampNeg : Int32) (xs (x3 + 4).toNatClampNeg : Int32) (xs (x3 + 5).toNatClampNeg : Int32) (xs (x3 + 6).toNatClampNeg : Int32) hL_that hK_that) (cwV 6 hts (tw_V tw_310 tw_311 tw_312 tw_5 tw_313) rfl rfl rfl cv_yX12_table_6 ⟨Nat.le_of_ble_eq_true rfl, Nat.le_of_ble_eq_true rfl⟩) ⟨pq_blind, pq_recv hK hP2 hL_that hK_that (by decide +kernel) rfl, pq_pre hK hN hP2 hD2⟩ rfl rfl hl.1 rfl (lv_room (Nat.le_of_ble_eq_true rfl)) dL_law_479 ⟨Nat.le_trans (Nat.le_add_right _ 4) hc2, Nat.le_trans (Nat.le_add_right _ 345) hs2⟩) hD2 hS hA hP (fun a h1 h2 => hdis a h2 h1) (fun r_3 τ1 ν1 H locs hw hP2 hD2 hP hdis hS => ?_)
  obtain ⟨si_4, hu, hgr, hfr, hFr, hr2⟩ := hw
  obtain ⟨hua, hub⟩ := Prod.mk.inj hu
  rw [hua, hub] at hP2 hD2
  rw [hua] at hdis
  have hG2 := hgr.1
  have hV2 := vt_12 hSH2 hL_that hK_that
  have hVn := vt_10 hSH hL_nw hK_nw
  have hVk := vt_10 hSH hL_kp hK_kp
  have hDN := (df_rf (df_cl hDN hgx hVn (by decide +kernel) (by decide +kernel)) hgr hV2 (by decide +kernel))
  have hDK := (df_im (df_cl hDK hgx hVk (by decide +kernel) (by decide +kernel)) hgr hV2 (by decide +kernel))
  have hVr := vt_4 hSH hRDo.2.1 hRDo.2.2
  have hRD := (rd_rf (rd_fr hRD hFx hAP.1.1 hVr) hgr hV2 (by decide +kernel))
  have hTN := (tc_rf (tc_cl hTN hgx (by decide +kernel)) hgr hV2 (by decide +kernel))
  have hTK := (tc_im (tc_cl hTK hgx (by decide +kernel)) hgr hV2 (by decide +kernel))
  have hcv := cv_st (table_CV hRN) hfx hfr
  have hRN := hcv.2
  have hRK := (rl_im (rl_fr hRK hFx hAP.1) hgr hV2 (by decide +kernel))
  have hGN := (gr_rf (gr_cl hGN hgx hVn (by decide +kernel) (by decide +kernel) (by decide +kernel)) hgr hV2 (by decide +kernel))
  have hGK := (gr_im (gr_fr hGK hFx hAP.1) hgr hV2 (by decide +kernel))
  have hdis : ∀ a, a ∈ τ.1 → a ∉ σ.1 := fun a h1 h2 => hdis a h2 h1
  have he : r_1 = r_3 := hcv.1
  refine lv_icmp_eq (tgt := 1725) hx hb dL_law_482 (by decide +kernel) (fun _ => ?_) (fun q => absurd he q)
  exact kk _ _ H locs ls (by omega) (by omega) ⟨σ, I, J, ri_2, rj, rq, tg, τ, I2, J2, si_4, sj, sq, tg2, nw, kp, tr, rd, ⟨hP, hD, hSH, hG, hFI, hL_this, hK_this⟩, ⟨hP2, hD2, hSH2, hG2, hL_that, hK_that⟩, hdis, hTR, hAP, hRN, hRK, hGN, hGK, hDN, hDK, hRDo, hRD, hTN, hTK, hS⟩ hl
set_option maxHeartbeats 8000000 in
set_option maxRecDepth 100000 in
theorem lw_op_5 {p : Program} {e : Env} {s : State} {m : MethodId} {below : List Frame} {meth : Method} {c : Code} {b : Nat} (l : Launch) (hx : p.tables.exec = Jvm.exec) (hb : c.code = cL_law) (hr : meth.sig.returnType = ret) (hml : c.maxLocals = 4) (hown : s.vm.findClass RL = some m.cls) (hlocks : meth.locks = false) (hts : ∀ w ∈ (Cond.initialized RX11 :: wsL_law), w.before #[Value.ref b] s = true) {L : Nat} (xs : Nat → Int32) (hX : va_X b L xs s s.heap) (hbl : b < s.heap.size) (hM : L ≤ 3584) {D : va_G} {t : pq_T} (hK : va_K D vwCl (pq_ty t) s) (hN : pq_N s) {aK aV : Nat} {vF : Value} (hW0 : pq_W aK aV vF (fun q => s.heap.size ≤ q) s s.heap) {this that : Nat} {n : Nat} {x3 : Int32} (h3 : x3.toInt = 7 * (n : Int)) (hL : 7 * n + 7 ≤ L) {H : Heap} {locs : List Loc} {cells slots : Nat} (hc2 : cells + 4 ≤ room_1.cells) (hs2 : slots + 345 ≤ room_1.slots) (hI : LI s D t this that H locs) {ls : Array Slot} (hl : lv_has ls 4 [(3, .int x3), (2, .ref that), (1, .ref this), (0, .ref b)]) {Q : State → Prop} (kk : ∀ (cells2 slots2 : Nat) (H : Heap) (locs : List Loc) (ls : Array Slot), cells2 ≤ cells + 4 → slots2 ≤ slots + 345 → LI s D t this that H locs → lv_has ls 4 [(3, .int x3), (2, .ref that), (1, .ref this), (0, .ref b)] → W p l e room_1 s m #[Value.ref b] below meth c H locs cells2 slots2 Q (F0 m 1725 ls [])) : W p l e room_1 s m #[Value.ref b] below meth c H locs cells slots Q (F0 m 487 ls []) := by
  have hA : ∀ q : Nat, s.heap.size ≤ q → s.heap.size ≤ q := fun _ h => h
  obtain ⟨σ, I, J, ri, rj, rq, tg, τ, I2, J2, si, sj, sq, tg2, nw, kp, tr, rd, ⟨hP, hD, hSH, hG, hFI, hL_this, hK_this⟩, ⟨hP2, hD2, hSH2, hG2, hL_that, hK_that⟩, hdis, hTR, hAP, hRN, hRK, hGN, hGK, hDN, hDK, hRDo, hRD, hTN, hTK, hS⟩ := hI
  have hG00 := hG
  have hG20 := hG2
  have hR_rd := hRDo.1
  have hL_rd := hRDo.2.1
  have hK_rd := hRDo.2.2
  obtain ⟨⟨hR_nw, hL_nw, hK_nw⟩, ⟨hR_kp, hL_kp, hK_kp⟩, ⟨hR_tr, hL_tr, hK_tr⟩, -⟩ := id hTR
  refine lv_aload_n hx hb dL_law_487 rfl (lv_at hl 2 rfl) ?_
  refine lv_aload_n hx hb dL_law_488 rfl (lv_at hl 3 rfl) ?_
  refine lv_iload_n hx hb dL_law_489 rfl (lv_at hl 0 rfl) ?_
  refine lv_iconst (v := 1) hx hb dL_law_490 (by decide +kernel) ?_
  refine lv_iadd hx hb dL_law_491 ?_
  refine va_sld hx hb hX hbl (Nat.not_le.mpr hbl) hS (lw_ix h3 hL hM (rg_w (rg_k (1 : Int32) 1 rfl) (by decide +kernel))) dL_law_492 ?_
  refine lv_aload_n hx hb dL_law_493 rfl (lv_at hl 3 rfl) ?_
  refine lv_iload_n hx hb dL_law_494 rfl (lv_at hl 0 rfl) ?_
  refine lv_iconst (v := 2) hx hb dL_law_495 (by decide +kernel) ?_
  refine lv_iadd hx hb dL_law_496 ?_
  refine va_sld hx hb hX hbl (Nat.not_le.mpr hbl) hS (lw_ix h3 hL hM (rg_w (rg_k (2 : Int32) 2 rfl) (by decide +kernel))) dL_law_497 ?_
  refine lv_aload_n hx hb dL_law_498 rfl (lv_at hl 3 rfl) ?_
  refine lv_iload_n hx hb dL_law_499 rfl (lv_at hl 0 rfl) ?_
  refine lv_iconst (v := 3) hx hb dL_law_500 (by decide +kernel) ?_
  refine lv_iadd hx hb dL_law_501 ?_
  refine va_sld hx hb hX hbl (Nat.not_le.mpr hbl) hS (lw_ix h3 hL hM (rg_w (rg_k (3 : Int32) 3 rfl) (by decide +kernel))) dL_law_502 ?_
  refine lv_aload_n hx hb dL_law_503 rfl (lv_at hl 3 rfl) ?_
  refine lv_iload_n hx hb dL_law_504 rfl (lv_at hl 0 rfl) ?_
  refine lv_iconst (v := 4) hx hb dL_law_505 (by decide +kernel) ?_
  refine lv_iadd hx hb dL_law_506 ?_
  refine va_sld hx hb hX hbl (Nat.not_le.mpr hbl) hS (lw_ix h3 hL hM (rg_w (rg_k (4 : Int32) 4 rfl) (by decide +kernel))) dL_law_507 ?_
  refine lv_aload_n hx hb dL_law_508 rfl (lv_at hl 3 rfl) ?_
  refine lv_iload_n hx hb dL_law_509 rfl (lv_at hl 0 rfl) ?_
  refine lv_iconst (v := 5) hx hb dL_law_510 (by decide +kernel) ?_
  refine lv_iadd hx hb dL_law_511 ?_
  refine va_sld hx hb hX hbl (Nat.not_le.mpr hbl) hS (lw_ix h3 hL hM (rg_w (rg_k (5 : Int32) 5 rfl) (by decide +kernel))) dL_law_512 ?_
  refine lx_i (va_runV (As := [.int (xs (x3 + 1).toNatClampNeg), .int (xs (x3 + 2).toNatClampNeg), .int (xs (x3 + 3).toNatClampNeg), .int (xs (x3 + 4).toNatClampNeg), .int (xs (x3 + 5).toNatClampNeg)]) (rest := []) ⟨hx, hb, hml, hown, hts⟩ (s_X11_rules l D t σ I J ri rj rq H.size tg hSH hG this (xs (x3 + 1).toNatClampNeg : Int32) (xs (x3 + 2).toNatClampNeg : Int32) (xs (x3 + 3).toNatClampNeg : Int32) (xs (x3 + 4).toNatClampNeg : Int32) (xs (x3 + 5).toNatClampNeg : Int32) hL_this hK_this nw hR_nw hL_nw hK_nw) (cwV 5 hts (tw_V tw_314 tw_315 tw_316 tw_2 tw_317) rfl rfl rfl cv_yX11_rules_5 ⟨Nat.le_of_ble_eq_true rfl, Nat.le_of_ble_eq_true rfl⟩) ⟨pq_blind, pq_recv hK hP hL_this hK_this (by decide +kernel) rfl, pq_pre hK hN hP hD⟩ rfl rfl hl.1 rfl (lv_room (Nat.le_of_ble_eq_true rfl)) dL_law_513 ⟨Nat.le_trans (Nat.le_add_right _ 4) hc2, Nat.le_trans (Nat.le_add_right _ 345) hs2⟩) hD hS hA hP2 hdis (fun r_1 σ1 μ1 H locs hw hP hD hP2 hdis hS => ?_)
  obtain ⟨I_2, hu, hgx, hfx, hFx, hr1⟩ := hw
  obtain ⟨hua, hub⟩ := Prod.mk.inj hu
  rw [hua, hub] at hP hD
  rw [hua] at hdis
  have hG := hgx.1
  refine lv_pop hx hb dL_law_516 rfl ?_
  refine lv_aload_n hx hb dL_law_517 rfl (lv_at hl 1 rfl) ?_
  refine lv_aload_n hx hb dL_law_518 rfl (lv_at hl 3 rfl) ?_
  refine lv_iload_n hx hb dL_law_519 rfl (lv_at hl 0 rfl) ?_
  refine lv_iconst (v := 1) hx hb dL_law_520 (by decide +kernel) ?_
  refine lv_iadd hx hb dL_law_521 ?_
  refine va_sld hx hb hX hbl (Nat.not_le.mpr hbl) hS (lw_ix h3 hL hM (rg_w (rg_k (1 : Int32) 1 rfl) (by decide +kernel))) dL_law_522 ?_
  refine lv_aload_n hx hb dL_law_523 rfl (lv_at hl 3 rfl) ?_
  refine lv_iload_n hx hb dL_law_524 rfl (lv_at hl 0 rfl) ?_
  refine lv_iconst (v := 2) hx hb dL_law_525 (by decide +kernel) ?_
  refine lv_iadd hx hb dL_law_526 ?_
  refine va_sld hx hb hX hbl (Nat.not_le.mpr hbl) hS (lw_ix h3 hL hM (rg_w (rg_k (2 : Int32) 2 rfl) (by decide +kernel))) dL_law_527 ?_
  refine lv_aload_n hx hb dL_law_528 rfl (lv_at hl 3 rfl) ?_
  refine lv_iload_n hx hb dL_law_529 rfl (lv_at hl 0 rfl) ?_
  refine lv_iconst (v := 3) hx hb dL_law_530 (by decide +kernel) ?_
  refine lv_iadd hx hb dL_law_531 ?_
  refine va_sld hx hb hX hbl (Nat.not_le.mpr hbl) hS (lw_ix h3 hL hM (rg_w (rg_k (3 : Int32) 3 rfl) (by decide +kernel))) dL_law_532 ?_
  refine lv_aload_n hx hb dL_law_533 rfl (lv_at hl 3 rfl) ?_
  refine lv_iload_n hx hb dL_law_534 rfl (lv_at hl 0 rfl) ?_
  refine lv_iconst (v := 4) hx hb dL_law_535 (by decide +kernel) ?_
  refine lv_iadd hx hb dL_law_536 ?_
  refine va_sld hx hb hX hbl (Nat.not_le.mpr hbl) hS (lw_ix h3 hL hM (rg_w (rg_k (4 : Int32) 4 rfl) (by decide +kernel))) dL_law_537 ?_
  refine lv_aload_n hx hb dL_law_538 rfl (lv_at hl 3 rfl) ?_
  refine lv_iload_n hx hb dL_law_539 rfl (lv_at hl 0 rfl) ?_
  refine lv_iconst (v := 5) hx hb dL_law_540 (by decide +kernel) ?_
  refine lv_iadd hx hb dL_law_541 ?_
  refine va_sld hx hb hX hbl (Nat.not_le.mpr hbl) hS (lw_ix h3 hL hM (rg_w (rg_k (5 : Int32) 5 rfl) (by decide +kernel))) dL_law_542 ?_
  refine lx_i (va_runV (As := [.int (xs (x3 + 1).toNatClampNeg), .int (xs (x3 + 2).toNatClampNeg), .int (xs (x3 + 3).toNatClampNeg), .int (xs (x3 + 4).toNatClampNeg), .int (xs (x3 + 5).toNatClampNeg)]) (rest := []) ⟨hx, hb, hml, hown, hts⟩ (s_X12_rules l D t τ I2 J2 si sj sq H.size tg2 hSH2 hG2 that (xs (x3 + 1).toNatClampNeg : Int32) (xs (x3 + 2).toNatClampNeg : Int32) (xs (x3 + 3).toNatClampNeg : Int32) (xs (x3 + 4).toNatClampNeg : Int32) (xs (x3 + 5).toNatClampNeg : Int32) hL_that hK_that) (cwV 5 hts (tw_V tw_323 tw_324 tw_325 tw_5 tw_326) rfl rfl rfl cv_yX12_rules_5 ⟨Nat.le_of_ble_eq_true rfl, Nat.le_of_ble_eq_true rfl⟩) ⟨pq_blind, pq_recv hK hP2 hL_that hK_that (by decide +kernel) rfl, pq_pre hK hN hP2 hD2⟩ rfl rfl hl.1 rfl (lv_room (Nat.le_of_ble_eq_true rfl)) dL_law_543 ⟨Nat.le_trans (Nat.le_add_right _ 4) hc2, Nat.le_trans (Nat.le_add_right _ 345) hs2⟩) hD2 hS hA hP (fun a h1 h2 => hdis a h2 h1) (fun r_3 τ1 ν1 H locs hw hP2 hD2 hP hdis hS => ?_)
  obtain ⟨si_4, hu, hgr, hfr, hFr, hr2⟩ := hw
  obtain ⟨hua, hub⟩ := Prod.mk.inj hu
  rw [hua, hub] at hP2 hD2
  rw [hua] at hdis
  have hG2 := hgr.1
  have hV2 := vt_12 hSH2 hL_that hK_that
  have hVn := vt_10 hSH hL_nw hK_nw
  have hVk := vt_10 hSH hL_kp hK_kp
  have hDN := (df_rf (df_cl hDN hgx hVn (by decide +kernel) (by decide +kernel)) hgr hV2 (by decide +kernel))
  have hDK := (df_im (df_cl hDK hgx hVk (by decide +kernel) (by decide +kernel)) hgr hV2 (by decide +kernel))
  have hVr := vt_4 hSH hRDo.2.1 hRDo.2.2
  have hRD := (rd_rf (rd_fr hRD hFx hAP.1.1 hVr) hgr hV2 (by decide +kernel))
  have hTN := (tc_rf (tc_cl hTN hgx (by decide +kernel)) hgr hV2 (by decide +kernel))
  have hTK := (tc_im (tc_cl hTK hgx (by decide +kernel)) hgr hV2 (by decide +kernel))
  have hcv := cv_st (rules_CV hRN) hfx hfr
  have hRN := hcv.2
  have hRK := (rl_im (rl_fr hRK hFx hAP.1) hgr hV2 (by decide +kernel))
  have hGN := (gr_rf (gr_cl hGN hgx hVn (by decide +kernel) (by decide +kernel) (by decide +kernel)) hgr hV2 (by decide +kernel))
  have hGK := (gr_im (gr_fr hGK hFx hAP.1) hgr hV2 (by decide +kernel))
  have hdis : ∀ a, a ∈ τ.1 → a ∉ σ.1 := fun a h1 h2 => hdis a h2 h1
  refine lv_pop hx hb dL_law_546 rfl ?_
  refine lv_goto (tgt := 1725) hx hb dL_law_547 (by decide +kernel) ?_
  exact kk _ _ H locs ls (by omega) (by omega) ⟨σ, I_2, J, ri, rj, rq, tg, τ, I2, J2, si_4, sj, sq, tg2, nw, kp, tr, rd, ⟨hP, hD, hSH, hG, hFI, hL_this, hK_this⟩, ⟨hP2, hD2, hSH2, hG2, hL_that, hK_that⟩, hdis, hTR, hAP, hRN, hRK, hGN, hGK, hDN, hDK, hRDo, hRD, hTN, hTK, hS⟩ hl
set_option maxHeartbeats 8000000 in
set_option maxRecDepth 100000 in
theorem lw_op_6 {p : Program} {e : Env} {s : State} {m : MethodId} {below : List Frame} {meth : Method} {c : Code} {b : Nat} (l : Launch) (hx : p.tables.exec = Jvm.exec) (hb : c.code = cL_law) (hr : meth.sig.returnType = ret) (hml : c.maxLocals = 4) (hown : s.vm.findClass RL = some m.cls) (hlocks : meth.locks = false) (hts : ∀ w ∈ (Cond.initialized RX11 :: wsL_law), w.before #[Value.ref b] s = true) {L : Nat} (xs : Nat → Int32) (hX : va_X b L xs s s.heap) (hbl : b < s.heap.size) (hM : L ≤ 3584) {D : va_G} {t : pq_T} (hK : va_K D vwCl (pq_ty t) s) (hN : pq_N s) {aK aV : Nat} {vF : Value} (hW0 : pq_W aK aV vF (fun q => s.heap.size ≤ q) s s.heap) {this that : Nat} {n : Nat} {x3 : Int32} (h3 : x3.toInt = 7 * (n : Int)) (hL : 7 * n + 7 ≤ L) {H : Heap} {locs : List Loc} {cells slots : Nat} (hc2 : cells + 4 ≤ room_1.cells) (hs2 : slots + 345 ≤ room_1.slots) (hI : LI s D t this that H locs) {ls : Array Slot} (hl : lv_has ls 4 [(3, .int x3), (2, .ref that), (1, .ref this), (0, .ref b)]) {Q : State → Prop} (kk : ∀ (cells2 slots2 : Nat) (H : Heap) (locs : List Loc) (ls : Array Slot), cells2 ≤ cells + 4 → slots2 ≤ slots + 345 → LI s D t this that H locs → lv_has ls 4 [(3, .int x3), (2, .ref that), (1, .ref this), (0, .ref b)] → W p l e room_1 s m #[Value.ref b] below meth c H locs cells2 slots2 Q (F0 m 1725 ls [])) : W p l e room_1 s m #[Value.ref b] below meth c H locs cells slots Q (F0 m 550 ls []) := by
  have hA : ∀ q : Nat, s.heap.size ≤ q → s.heap.size ≤ q := fun _ h => h
  obtain ⟨σ, I, J, ri, rj, rq, tg, τ, I2, J2, si, sj, sq, tg2, nw, kp, tr, rd, ⟨hP, hD, hSH, hG, hFI, hL_this, hK_this⟩, ⟨hP2, hD2, hSH2, hG2, hL_that, hK_that⟩, hdis, hTR, hAP, hRN, hRK, hGN, hGK, hDN, hDK, hRDo, hRD, hTN, hTK, hS⟩ := hI
  have hG00 := hG
  have hG20 := hG2
  have hR_rd := hRDo.1
  have hL_rd := hRDo.2.1
  have hK_rd := hRDo.2.2
  obtain ⟨⟨hR_nw, hL_nw, hK_nw⟩, ⟨hR_kp, hL_kp, hK_kp⟩, ⟨hR_tr, hL_tr, hK_tr⟩, -⟩ := id hTR
  refine lv_aload_n hx hb dL_law_550 rfl (lv_at hl 2 rfl) ?_
  refine lv_aload_n hx hb dL_law_551 rfl (lv_at hl 3 rfl) ?_
  refine lv_iload_n hx hb dL_law_552 rfl (lv_at hl 0 rfl) ?_
  refine lv_iconst (v := 1) hx hb dL_law_553 (by decide +kernel) ?_
  refine lv_iadd hx hb dL_law_554 ?_
  refine va_sld hx hb hX hbl (Nat.not_le.mpr hbl) hS (lw_ix h3 hL hM (rg_w (rg_k (1 : Int32) 1 rfl) (by decide +kernel))) dL_law_555 ?_
  refine lv_aload_n hx hb dL_law_556 rfl (lv_at hl 3 rfl) ?_
  refine lv_iload_n hx hb dL_law_557 rfl (lv_at hl 0 rfl) ?_
  refine lv_iconst (v := 2) hx hb dL_law_558 (by decide +kernel) ?_
  refine lv_iadd hx hb dL_law_559 ?_
  refine va_sld hx hb hX hbl (Nat.not_le.mpr hbl) hS (lw_ix h3 hL hM (rg_w (rg_k (2 : Int32) 2 rfl) (by decide +kernel))) dL_law_560 ?_
  refine lx_i (va_runV (As := [.int (xs (x3 + 1).toNatClampNeg), .int (xs (x3 + 2).toNatClampNeg)]) (rest := []) ⟨hx, hb, hml, hown, hts⟩ (s_X11_wall l D t σ I J ri rj rq H.size tg hSH hG this (xs (x3 + 1).toNatClampNeg : Int32) (xs (x3 + 2).toNatClampNeg : Int32) hL_this hK_this nw hR_nw hL_nw hK_nw) (cwV 2 hts (tw_V tw_327 tw_328 tw_329 tw_2 tw_330) rfl rfl rfl cv_yX11_wall_2 ⟨Nat.le_of_ble_eq_true rfl, Nat.le_of_ble_eq_true rfl⟩) ⟨pq_blind, pq_recv hK hP hL_this hK_this (by decide +kernel) rfl, pq_pre hK hN hP hD⟩ rfl rfl hl.1 rfl (lv_room (Nat.le_of_ble_eq_true rfl)) dL_law_561 ⟨Nat.le_trans (Nat.le_add_right _ 4) hc2, Nat.le_trans (Nat.le_add_right _ 345) hs2⟩) hD hS hA hP2 hdis (fun r_1 σ1 μ1 H locs hw hP hD hP2 hdis hS => ?_)
  obtain ⟨ri_2, hu, hgx, hfx, hFx, hr1⟩ := hw
  obtain ⟨hua, hub⟩ := Prod.mk.inj hu
  rw [hua, hub] at hP hD
  rw [hua] at hdis
  have hG := hgx.1
  refine lv_pop hx hb dL_law_564 rfl ?_
  refine lv_aload_n hx hb dL_law_565 rfl (lv_at hl 1 rfl) ?_
  refine lv_aload_n hx hb dL_law_566 rfl (lv_at hl 3 rfl) ?_
  refine lv_iload_n hx hb dL_law_567 rfl (lv_at hl 0 rfl) ?_
  refine lv_iconst (v := 1) hx hb dL_law_568 (by decide +kernel) ?_
  refine lv_iadd hx hb dL_law_569 ?_
  refine va_sld hx hb hX hbl (Nat.not_le.mpr hbl) hS (lw_ix h3 hL hM (rg_w (rg_k (1 : Int32) 1 rfl) (by decide +kernel))) dL_law_570 ?_
  refine lv_aload_n hx hb dL_law_571 rfl (lv_at hl 3 rfl) ?_
  refine lv_iload_n hx hb dL_law_572 rfl (lv_at hl 0 rfl) ?_
  refine lv_iconst (v := 2) hx hb dL_law_573 (by decide +kernel) ?_
  refine lv_iadd hx hb dL_law_574 ?_
  refine va_sld hx hb hX hbl (Nat.not_le.mpr hbl) hS (lw_ix h3 hL hM (rg_w (rg_k (2 : Int32) 2 rfl) (by decide +kernel))) dL_law_575 ?_
  refine lx_i (va_runV (As := [.int (xs (x3 + 1).toNatClampNeg), .int (xs (x3 + 2).toNatClampNeg)]) (rest := []) ⟨hx, hb, hml, hown, hts⟩ (s_X12_wall l D t τ I2 J2 si sj sq H.size tg2 hSH2 hG2 that (xs (x3 + 1).toNatClampNeg : Int32) (xs (x3 + 2).toNatClampNeg : Int32) hL_that hK_that) (cwV 2 hts (tw_V tw_336 tw_337 tw_338 tw_5 tw_339) rfl rfl rfl cv_yX12_wall_2 ⟨Nat.le_of_ble_eq_true rfl, Nat.le_of_ble_eq_true rfl⟩) ⟨pq_blind, pq_recv hK hP2 hL_that hK_that (by decide +kernel) rfl, pq_pre hK hN hP2 hD2⟩ rfl rfl hl.1 rfl (lv_room (Nat.le_of_ble_eq_true rfl)) dL_law_576 ⟨Nat.le_trans (Nat.le_add_right _ 4) hc2, Nat.le_trans (Nat.le_add_right _ 345) hs2⟩) hD2 hS hA hP (fun a h1 h2 => hdis a h2 h1) (fun r_3 τ1 ν1 H locs hw hP2 hD2 hP hdis hS => ?_)
  obtain ⟨si_4, hu, hgr, hfr, hFr, hr2⟩ := hw
  obtain ⟨hua, hub⟩ := Prod.mk.inj hu
  rw [hua, hub] at hP2 hD2
  rw [hua] at hdis
  have hG2 := hgr.1
  have hV2 := vt_12 hSH2 hL_that hK_that
  have hVn := vt_10 hSH hL_nw hK_nw
  have hVk := vt_10 hSH hL_kp hK_kp
  have hDN := (df_rf (df_cl hDN hgx hVn (by decide +kernel) (by decide +kernel)) hgr hV2 (by decide +kernel))
  have hDK := (df_im (df_cl hDK hgx hVk (by decide +kernel) (by decide +kernel)) hgr hV2 (by decide +kernel))
  have hVr := vt_4 hSH hRDo.2.1 hRDo.2.2
  have hRD := (rd_rf (rd_fr hRD hFx hAP.1.1 hVr) hgr hV2 (by decide +kernel))
  have hTN := (tc_rf (tc_cl hTN hgx (by decide +kernel)) hgr hV2 (by decide +kernel))
  have hTK := (tc_im (tc_cl hTK hgx (by decide +kernel)) hgr hV2 (by decide +kernel))
  have hcv := cv_st (wall_CV hRN) hfx hfr
  have hRN := hcv.2
  have hRK := (rl_im (rl_fr hRK hFx hAP.1) hgr hV2 (by decide +kernel))
  have hGN := (gr_rf (gr_cl hGN hgx hVn (by decide +kernel) (by decide +kernel) (by decide +kernel)) hgr hV2 (by decide +kernel))
  have hGK := (gr_im (gr_fr hGK hFx hAP.1) hgr hV2 (by decide +kernel))
  have hdis : ∀ a, a ∈ τ.1 → a ∉ σ.1 := fun a h1 h2 => hdis a h2 h1
  refine lv_pop hx hb dL_law_579 rfl ?_
  refine lv_goto (tgt := 1725) hx hb dL_law_580 (by decide +kernel) ?_
  exact kk _ _ H locs ls (by omega) (by omega) ⟨σ, I, J, ri_2, rj, rq, tg, τ, I2, J2, si_4, sj, sq, tg2, nw, kp, tr, rd, ⟨hP, hD, hSH, hG, hFI, hL_this, hK_this⟩, ⟨hP2, hD2, hSH2, hG2, hL_that, hK_that⟩, hdis, hTR, hAP, hRN, hRK, hGN, hGK, hDN, hDK, hRDo, hRD, hTN, hTK, hS⟩ hl
set_option maxHeartbeats 8000000 in
set_option maxRecDepth 100000 in
theorem lw_op_7 {p : Program} {e : Env} {s : State} {m : MethodId} {below : List Frame} {meth : Method} {c : Code} {b : Nat} (l : Launch) (hx : p.tables.exec = Jvm.exec) (hb : c.code = cL_law) (hr : meth.sig.returnType = ret) (hml : c.maxLocals = 4) (hown : s.vm.findClass RL = some m.cls) (hlocks : meth.locks = false) (hts : ∀ w ∈ (Cond.initialized RX11 :: wsL_law), w.before #[Value.ref b] s = true) {L : Nat} (xs : Nat → Int32) (hX : va_X b L xs s s.heap) (hbl : b < s.heap.size) (hM : L ≤ 3584) {D : va_G} {t : pq_T} (hK : va_K D vwCl (pq_ty t) s) (hN : pq_N s) {aK aV : Nat} {vF : Value} (hW0 : pq_W aK aV vF (fun q => s.heap.size ≤ q) s s.heap) {this that : Nat} {n : Nat} {x3 : Int32} (h3 : x3.toInt = 7 * (n : Int)) (hL : 7 * n + 7 ≤ L) {H : Heap} {locs : List Loc} {cells slots : Nat} (hc2 : cells + 4 ≤ room_1.cells) (hs2 : slots + 345 ≤ room_1.slots) (hI : LI s D t this that H locs) {ls : Array Slot} (hl : lv_has ls 4 [(3, .int x3), (2, .ref that), (1, .ref this), (0, .ref b)]) {Q : State → Prop} (kk : ∀ (cells2 slots2 : Nat) (H : Heap) (locs : List Loc) (ls : Array Slot), cells2 ≤ cells + 4 → slots2 ≤ slots + 345 → LI s D t this that H locs → lv_has ls 4 [(3, .int x3), (2, .ref that), (1, .ref this), (0, .ref b)] → W p l e room_1 s m #[Value.ref b] below meth c H locs cells2 slots2 Q (F0 m 1725 ls [])) : W p l e room_1 s m #[Value.ref b] below meth c H locs cells slots Q (F0 m 583 ls []) := by
  have hA : ∀ q : Nat, s.heap.size ≤ q → s.heap.size ≤ q := fun _ h => h
  obtain ⟨σ, I, J, ri, rj, rq, tg, τ, I2, J2, si, sj, sq, tg2, nw, kp, tr, rd, ⟨hP, hD, hSH, hG, hFI, hL_this, hK_this⟩, ⟨hP2, hD2, hSH2, hG2, hL_that, hK_that⟩, hdis, hTR, hAP, hRN, hRK, hGN, hGK, hDN, hDK, hRDo, hRD, hTN, hTK, hS⟩ := hI
  have hG00 := hG
  have hG20 := hG2
  have hR_rd := hRDo.1
  have hL_rd := hRDo.2.1
  have hK_rd := hRDo.2.2
  obtain ⟨⟨hR_nw, hL_nw, hK_nw⟩, ⟨hR_kp, hL_kp, hK_kp⟩, ⟨hR_tr, hL_tr, hK_tr⟩, -⟩ := id hTR
  refine lv_aload_n hx hb dL_law_583 rfl (lv_at hl 2 rfl) ?_
  refine lv_aload_n hx hb dL_law_584 rfl (lv_at hl 3 rfl) ?_
  refine lv_iload_n hx hb dL_law_585 rfl (lv_at hl 0 rfl) ?_
  refine lv_iconst (v := 1) hx hb dL_law_586 (by decide +kernel) ?_
  refine lv_iadd hx hb dL_law_587 ?_
  refine va_sld hx hb hX hbl (Nat.not_le.mpr hbl) hS (lw_ix h3 hL hM (rg_w (rg_k (1 : Int32) 1 rfl) (by decide +kernel))) dL_law_588 ?_
  refine lv_aload_n hx hb dL_law_589 rfl (lv_at hl 3 rfl) ?_
  refine lv_iload_n hx hb dL_law_590 rfl (lv_at hl 0 rfl) ?_
  refine lv_iconst (v := 2) hx hb dL_law_591 (by decide +kernel) ?_
  refine lv_iadd hx hb dL_law_592 ?_
  refine va_sld hx hb hX hbl (Nat.not_le.mpr hbl) hS (lw_ix h3 hL hM (rg_w (rg_k (2 : Int32) 2 rfl) (by decide +kernel))) dL_law_593 ?_
  refine lv_aload_n hx hb dL_law_594 rfl (lv_at hl 3 rfl) ?_
  refine lv_iload_n hx hb dL_law_595 rfl (lv_at hl 0 rfl) ?_
  refine lv_iconst (v := 3) hx hb dL_law_596 (by decide +kernel) ?_
  refine lv_iadd hx hb dL_law_597 ?_
  refine va_sld hx hb hX hbl (Nat.not_le.mpr hbl) hS (lw_ix h3 hL hM (rg_w (rg_k (3 : Int32) 3 rfl) (by decide +kernel))) dL_law_598 ?_
  refine lv_aload_n hx hb dL_law_599 rfl (lv_at hl 3 rfl) ?_
  refine lv_iload_n hx hb dL_law_600 rfl (lv_at hl 0 rfl) ?_
  refine lv_iconst (v := 4) hx hb dL_law_601 (by decide +kernel) ?_
  refine lv_iadd hx hb dL_law_602 ?_
  refine va_sld hx hb hX hbl (Nat.not_le.mpr hbl) hS (lw_ix h3 hL hM (rg_w (rg_k (4 : Int32) 4 rfl) (by decide +kernel))) dL_law_603 ?_
  refine lx_i (va_runV (As := [.int (xs (x3 + 1).toNatClampNeg), .int (xs (x3 + 2).toNatClampNeg), .int (xs (x3 + 3).toNatClampNeg), .int (xs (x3 + 4).toNatClampNeg)]) (rest := []) ⟨hx, hb, hml, hown, hts⟩ (s_X11_well l D t σ I J ri rj rq H.size tg hSH hG this (xs (x3 + 1).toNatClampNeg : Int32) (xs (x3 + 2).toNatClampNeg : Int32) (xs (x3 + 3).toNatClampNeg : Int32) (xs (x3 + 4).toNatClampNeg : Int32) hL_this hK_this nw hR_nw hL_nw hK_nw) (cwV 4 hts (tw_V tw_344 tw_345 tw_346 tw_2 tw_347) rfl rfl rfl cv_yX11_well_4 ⟨Nat.le_of_ble_eq_true rfl, Nat.le_of_ble_eq_true rfl⟩) ⟨pq_blind, pq_recv hK hP hL_this hK_this (by decide +kernel) rfl, pq_pre hK hN hP hD⟩ rfl rfl hl.1 rfl (lv_room (Nat.le_of_ble_eq_true rfl)) dL_law_604 ⟨Nat.le_trans (Nat.le_add_right _ 4) hc2, Nat.le_trans (Nat.le_add_right _ 345) hs2⟩) hD hS hA hP2 hdis (fun r_1 σ1 μ1 H locs hw hP hD hP2 hdis hS => ?_)
  obtain ⟨ri_2, hu, hgx, hfx, hFx, hr1⟩ := hw
  obtain ⟨hua, hub⟩ := Prod.mk.inj hu
  rw [hua, hub] at hP hD
  rw [hua] at hdis
  have hG := hgx.1
  refine lv_pop hx hb dL_law_607 rfl ?_
  refine lv_aload_n hx hb dL_law_608 rfl (lv_at hl 1 rfl) ?_
  refine lv_aload_n hx hb dL_law_609 rfl (lv_at hl 3 rfl) ?_
  refine lv_iload_n hx hb dL_law_610 rfl (lv_at hl 0 rfl) ?_
  refine lv_iconst (v := 1) hx hb dL_law_611 (by decide +kernel) ?_
  refine lv_iadd hx hb dL_law_612 ?_
  refine va_sld hx hb hX hbl (Nat.not_le.mpr hbl) hS (lw_ix h3 hL hM (rg_w (rg_k (1 : Int32) 1 rfl) (by decide +kernel))) dL_law_613 ?_
  refine lv_aload_n hx hb dL_law_614 rfl (lv_at hl 3 rfl) ?_
  refine lv_iload_n hx hb dL_law_615 rfl (lv_at hl 0 rfl) ?_
  refine lv_iconst (v := 2) hx hb dL_law_616 (by decide +kernel) ?_
  refine lv_iadd hx hb dL_law_617 ?_
  refine va_sld hx hb hX hbl (Nat.not_le.mpr hbl) hS (lw_ix h3 hL hM (rg_w (rg_k (2 : Int32) 2 rfl) (by decide +kernel))) dL_law_618 ?_
  refine lv_aload_n hx hb dL_law_619 rfl (lv_at hl 3 rfl) ?_
  refine lv_iload_n hx hb dL_law_620 rfl (lv_at hl 0 rfl) ?_
  refine lv_iconst (v := 3) hx hb dL_law_621 (by decide +kernel) ?_
  refine lv_iadd hx hb dL_law_622 ?_
  refine va_sld hx hb hX hbl (Nat.not_le.mpr hbl) hS (lw_ix h3 hL hM (rg_w (rg_k (3 : Int32) 3 rfl) (by decide +kernel))) dL_law_623 ?_
  refine lv_aload_n hx hb dL_law_624 rfl (lv_at hl 3 rfl) ?_
  refine lv_iload_n hx hb dL_law_625 rfl (lv_at hl 0 rfl) ?_
  refine lv_iconst (v := 4) hx hb dL_law_626 (by decide +kernel) ?_
  refine lv_iadd hx hb dL_law_627 ?_
  refine va_sld hx hb hX hbl (Nat.not_le.mpr hbl) hS (lw_ix h3 hL hM (rg_w (rg_k (4 : Int32) 4 rfl) (by decide +kernel))) dL_law_628 ?_
  refine lx_i (va_runV (As := [.int (xs (x3 + 1).toNatClampNeg), .int (xs (x3 + 2).toNatClampNeg), .int (xs (x3 + 3).toNatClampNeg), .int (xs (x3 + 4).toNatClampNeg)]) (rest := []) ⟨hx, hb, hml, hown, hts⟩ (s_X12_well l D t τ I2 J2 si sj sq H.size tg2 hSH2 hG2 that (xs (x3 + 1).toNatClampNeg : Int32) (xs (x3 + 2).toNatClampNeg : Int32) (xs (x3 + 3).toNatClampNeg : Int32) (xs (x3 + 4).toNatClampNeg : Int32) hL_that hK_that) (cwV 4 hts (tw_V tw_357 tw_358 tw_359 tw_5 tw_360) rfl rfl rfl cv_yX12_well_4 ⟨Nat.le_of_ble_eq_true rfl, Nat.le_of_ble_eq_true rfl⟩) ⟨pq_blind, pq_recv hK hP2 hL_that hK_that (by decide +kernel) rfl, pq_pre hK hN hP2 hD2⟩ rfl rfl hl.1 rfl (lv_room (Nat.le_of_ble_eq_true rfl)) dL_law_629 ⟨Nat.le_trans (Nat.le_add_right _ 4) hc2, Nat.le_trans (Nat.le_add_right _ 345) hs2⟩) hD2 hS hA hP (fun a h1 h2 => hdis a h2 h1) (fun r_3 τ1 ν1 H locs hw hP2 hD2 hP hdis hS => ?_)
  obtain ⟨si_4, hu, hgr, hfr, hFr, hr2⟩ := hw
  obtain ⟨hua, hub⟩ := Prod.mk.inj hu
  rw [hua, hub] at hP2 hD2
  rw [hua] at hdis
  have hG2 := hgr.1
  have hV2 := vt_12 hSH2 hL_that hK_that
  have hVn := vt_10 hSH hL_nw hK_nw
  have hVk := vt_10 hSH hL_kp hK_kp
  have hDN := (df_rf (df_cl hDN hgx hVn (by decide +kernel) (by decide +kernel)) hgr hV2 (by decide +kernel))
  have hDK := (df_im (df_cl hDK hgx hVk (by decide +kernel) (by decide +kernel)) hgr hV2 (by decide +kernel))
  have hVr := vt_4 hSH hRDo.2.1 hRDo.2.2
  have hRD := (rd_rf (rd_fr hRD hFx hAP.1.1 hVr) hgr hV2 (by decide +kernel))
  have hTN := (tc_rf (tc_cl hTN hgx (by decide +kernel)) hgr hV2 (by decide +kernel))
  have hTK := (tc_im (tc_cl hTK hgx (by decide +kernel)) hgr hV2 (by decide +kernel))
  have hRN := (rl_rf (rl_cl hRN hgx hVn (by decide +kernel) (by decide +kernel)) hgr hV2 (by decide +kernel))
  have hRK := (rl_im (rl_cl hRK hgx hVk (by decide +kernel) (by decide +kernel)) hgr hV2 (by decide +kernel))
  have hGN := (gr_rf (gr_cl hGN hgx hVn (by decide +kernel) (by decide +kernel) (by decide +kernel)) hgr hV2 (by decide +kernel))
  have hGK := (gr_im (gr_cl hGK hgx hVk (by decide +kernel) (by decide +kernel) (by decide +kernel)) hgr hV2 (by decide +kernel))
  have hdis : ∀ a, a ∈ τ.1 → a ∉ σ.1 := fun a h1 h2 => hdis a h2 h1
  refine lv_pop hx hb dL_law_632 rfl ?_
  refine lv_goto (tgt := 1725) hx hb dL_law_633 (by decide +kernel) ?_
  exact kk _ _ H locs ls (by omega) (by omega) ⟨σ, I, J, ri_2, rj, rq, tg, τ, I2, J2, si_4, sj, sq, tg2, nw, kp, tr, rd, ⟨hP, hD, hSH, hG, hFI, hL_this, hK_this⟩, ⟨hP2, hD2, hSH2, hG2, hL_that, hK_that⟩, hdis, hTR, hAP, hRN, hRK, hGN, hGK, hDN, hDK, hRDo, hRD, hTN, hTK, hS⟩ hl
set_option maxHeartbeats 8000000 in
set_option maxRecDepth 100000 in
theorem lw_op_8 {p : Program} {e : Env} {s : State} {m : MethodId} {below : List Frame} {meth : Method} {c : Code} {b : Nat} (l : Launch) (hx : p.tables.exec = Jvm.exec) (hb : c.code = cL_law) (hr : meth.sig.returnType = ret) (hml : c.maxLocals = 4) (hown : s.vm.findClass RL = some m.cls) (hlocks : meth.locks = false) (hts : ∀ w ∈ (Cond.initialized RX11 :: wsL_law), w.before #[Value.ref b] s = true) {L : Nat} (xs : Nat → Int32) (hX : va_X b L xs s s.heap) (hbl : b < s.heap.size) (hM : L ≤ 3584) {D : va_G} {t : pq_T} (hK : va_K D vwCl (pq_ty t) s) (hN : pq_N s) {aK aV : Nat} {vF : Value} (hW0 : pq_W aK aV vF (fun q => s.heap.size ≤ q) s s.heap) {this that : Nat} {n : Nat} {x3 : Int32} (h3 : x3.toInt = 7 * (n : Int)) (hL : 7 * n + 7 ≤ L) {H : Heap} {locs : List Loc} {cells slots : Nat} (hc2 : cells + 4 ≤ room_1.cells) (hs2 : slots + 345 ≤ room_1.slots) (hI : LI s D t this that H locs) {ls : Array Slot} (hl : lv_has ls 4 [(3, .int x3), (2, .ref that), (1, .ref this), (0, .ref b)]) {Q : State → Prop} (kk : ∀ (cells2 slots2 : Nat) (H : Heap) (locs : List Loc) (ls : Array Slot), cells2 ≤ cells + 4 → slots2 ≤ slots + 345 → LI s D t this that H locs → lv_has ls 4 [(3, .int x3), (2, .ref that), (1, .ref this), (0, .ref b)] → W p l e room_1 s m #[Value.ref b] below meth c H locs cells2 slots2 Q (F0 m 1725 ls [])) : W p l e room_1 s m #[Value.ref b] below meth c H locs cells slots Q (F0 m 636 ls []) := by
  have hA : ∀ q : Nat, s.heap.size ≤ q → s.heap.size ≤ q := fun _ h => h
  obtain ⟨σ, I, J, ri, rj, rq, tg, τ, I2, J2, si, sj, sq, tg2, nw, kp, tr, rd, ⟨hP, hD, hSH, hG, hFI, hL_this, hK_this⟩, ⟨hP2, hD2, hSH2, hG2, hL_that, hK_that⟩, hdis, hTR, hAP, hRN, hRK, hGN, hGK, hDN, hDK, hRDo, hRD, hTN, hTK, hS⟩ := hI
  have hG00 := hG
  have hG20 := hG2
  have hR_rd := hRDo.1
  have hL_rd := hRDo.2.1
  have hK_rd := hRDo.2.2
  obtain ⟨⟨hR_nw, hL_nw, hK_nw⟩, ⟨hR_kp, hL_kp, hK_kp⟩, ⟨hR_tr, hL_tr, hK_tr⟩, -⟩ := id hTR
  refine lv_aload_n hx hb dL_law_636 rfl (lv_at hl 2 rfl) ?_
  refine lv_aload_n hx hb dL_law_637 rfl (lv_at hl 3 rfl) ?_
  refine lv_iload_n hx hb dL_law_638 rfl (lv_at hl 0 rfl) ?_
  refine lv_iconst (v := 1) hx hb dL_law_639 (by decide +kernel) ?_
  refine lv_iadd hx hb dL_law_640 ?_
  refine va_sld hx hb hX hbl (Nat.not_le.mpr hbl) hS (lw_ix h3 hL hM (rg_w (rg_k (1 : Int32) 1 rfl) (by decide +kernel))) dL_law_641 ?_
  refine lv_aload_n hx hb dL_law_642 rfl (lv_at hl 3 rfl) ?_
  refine lv_iload_n hx hb dL_law_643 rfl (lv_at hl 0 rfl) ?_
  refine lv_iconst (v := 2) hx hb dL_law_644 (by decide +kernel) ?_
  refine lv_iadd hx hb dL_law_645 ?_
  refine va_sld hx hb hX hbl (Nat.not_le.mpr hbl) hS (lw_ix h3 hL hM (rg_w (rg_k (2 : Int32) 2 rfl) (by decide +kernel))) dL_law_646 ?_
  refine lx_i (va_runV (As := [.int (xs (x3 + 1).toNatClampNeg), .int (xs (x3 + 2).toNatClampNeg)]) (rest := []) ⟨hx, hb, hml, hown, hts⟩ (s_X11_beds l D t σ I J ri rj rq H.size tg hSH hG this (xs (x3 + 1).toNatClampNeg : Int32) (xs (x3 + 2).toNatClampNeg : Int32) hL_this hK_this nw hR_nw hL_nw hK_nw) (cwV 2 hts (tw_V tw_365 tw_366 tw_367 tw_2 tw_368) rfl rfl rfl cv_yX11_beds_2 ⟨Nat.le_of_ble_eq_true rfl, Nat.le_of_ble_eq_true rfl⟩) ⟨pq_blind, pq_recv hK hP hL_this hK_this (by decide +kernel) rfl, pq_pre hK hN hP hD⟩ rfl rfl hl.1 rfl (lv_room (Nat.le_of_ble_eq_true rfl)) dL_law_647 ⟨Nat.le_trans (Nat.le_add_right _ 4) hc2, Nat.le_trans (Nat.le_add_right _ 345) hs2⟩) hD hS hA hP2 hdis (fun r_1 σ1 μ1 H locs hw hP hD hP2 hdis hS => ?_)
  obtain ⟨ri_2, hu, hgx, hfx, hFx⟩ := hw
  obtain ⟨hua, hub⟩ := Prod.mk.inj hu
  rw [hua, hub] at hP hD
  rw [hua] at hdis
  have hG := hgx.1
  refine lv_pop hx hb dL_law_650 rfl ?_
  refine lv_aload_n hx hb dL_law_651 rfl (lv_at hl 1 rfl) ?_
  refine lv_aload_n hx hb dL_law_652 rfl (lv_at hl 3 rfl) ?_
  refine lv_iload_n hx hb dL_law_653 rfl (lv_at hl 0 rfl) ?_
  refine lv_iconst (v := 1) hx hb dL_law_654 (by decide +kernel) ?_
  refine lv_iadd hx hb dL_law_655 ?_
  refine va_sld hx hb hX hbl (Nat.not_le.mpr hbl) hS (lw_ix h3 hL hM (rg_w (rg_k (1 : Int32) 1 rfl) (by decide +kernel))) dL_law_656 ?_
  refine lv_aload_n hx hb dL_law_657 rfl (lv_at hl 3 rfl) ?_
  refine lv_iload_n hx hb dL_law_658 rfl (lv_at hl 0 rfl) ?_
  refine lv_iconst (v := 2) hx hb dL_law_659 (by decide +kernel) ?_
  refine lv_iadd hx hb dL_law_660 ?_
  refine va_sld hx hb hX hbl (Nat.not_le.mpr hbl) hS (lw_ix h3 hL hM (rg_w (rg_k (2 : Int32) 2 rfl) (by decide +kernel))) dL_law_661 ?_
  refine lx_i (va_runV (As := [.int (xs (x3 + 1).toNatClampNeg), .int (xs (x3 + 2).toNatClampNeg)]) (rest := []) ⟨hx, hb, hml, hown, hts⟩ (s_X12_beds l D t τ I2 J2 si sj sq H.size tg2 hSH2 hG2 that (xs (x3 + 1).toNatClampNeg : Int32) (xs (x3 + 2).toNatClampNeg : Int32) hL_that hK_that) (cwV 2 hts (tw_V tw_371 tw_372 tw_373 tw_5 tw_374) rfl rfl rfl cv_yX12_beds_2 ⟨Nat.le_of_ble_eq_true rfl, Nat.le_of_ble_eq_true rfl⟩) ⟨pq_blind, pq_recv hK hP2 hL_that hK_that (by decide +kernel) rfl, pq_pre hK hN hP2 hD2⟩ rfl rfl hl.1 rfl (lv_room (Nat.le_of_ble_eq_true rfl)) dL_law_662 ⟨Nat.le_trans (Nat.le_add_right _ 4) hc2, Nat.le_trans (Nat.le_add_right _ 345) hs2⟩) hD2 hS hA hP (fun a h1 h2 => hdis a h2 h1) (fun r_3 τ1 ν1 H locs hw hP2 hD2 hP hdis hS => ?_)
  obtain ⟨si_4, hu, hgr, hfr, hFr⟩ := hw
  obtain ⟨hua, hub⟩ := Prod.mk.inj hu
  rw [hua, hub] at hP2 hD2
  rw [hua] at hdis
  have hG2 := hgr.1
  have hV2 := vt_12 hSH2 hL_that hK_that
  have hVn := vt_10 hSH hL_nw hK_nw
  have hVk := vt_10 hSH hL_kp hK_kp
  have hDN := (df_rf (df_cl hDN hgx hVn (by decide +kernel) (by decide +kernel)) hgr hV2 (by decide +kernel))
  have hDK := (df_im (df_cl hDK hgx hVk (by decide +kernel) (by decide +kernel)) hgr hV2 (by decide +kernel))
  have hVr := vt_4 hSH hRDo.2.1 hRDo.2.2
  have hRD := (rd_rf (rd_fr hRD hFx hAP.1.1 hVr) hgr hV2 (by decide +kernel))
  have hTN := (tc_rf (tc_cl hTN hgx (by decide +kernel)) hgr hV2 (by decide +kernel))
  have hTK := (tc_im (tc_cl hTK hgx (by decide +kernel)) hgr hV2 (by decide +kernel))
  have hRN := (rl_rf (rl_cl hRN hgx hVn (by decide +kernel) (by decide +kernel)) hgr hV2 (by decide +kernel))
  have hRK := (rl_im (rl_cl hRK hgx hVk (by decide +kernel) (by decide +kernel)) hgr hV2 (by decide +kernel))
  have hGN := (gr_rf (gr_cl hGN hgx hVn (by decide +kernel) (by decide +kernel) (by decide +kernel)) hgr hV2 (by decide +kernel))
  have hGK := (gr_im (gr_cl hGK hgx hVk (by decide +kernel) (by decide +kernel) (by decide +kernel)) hgr hV2 (by decide +kernel))
  have hdis : ∀ a, a ∈ τ.1 → a ∉ σ.1 := fun a h1 h2 => hdis a h2 h1
  refine lv_pop hx hb dL_law_665 rfl ?_
  refine lv_goto (tgt := 1725) hx hb dL_law_666 (by decide +kernel) ?_
  exact kk _ _ H locs ls (by omega) (by omega) ⟨σ, I, J, ri_2, rj, rq, tg, τ, I2, J2, si_4, sj, sq, tg2, nw, kp, tr, rd, ⟨hP, hD, hSH, hG, hFI, hL_this, hK_this⟩, ⟨hP2, hD2, hSH2, hG2, hL_that, hK_that⟩, hdis, hTR, hAP, hRN, hRK, hGN, hGK, hDN, hDK, hRDo, hRD, hTN, hTK, hS⟩ hl
set_option maxHeartbeats 8000000 in
set_option maxRecDepth 100000 in
theorem lw_op_9 {p : Program} {e : Env} {s : State} {m : MethodId} {below : List Frame} {meth : Method} {c : Code} {b : Nat} (l : Launch) (hx : p.tables.exec = Jvm.exec) (hb : c.code = cL_law) (hr : meth.sig.returnType = ret) (hml : c.maxLocals = 4) (hown : s.vm.findClass RL = some m.cls) (hlocks : meth.locks = false) (hts : ∀ w ∈ (Cond.initialized RX11 :: wsL_law), w.before #[Value.ref b] s = true) {L : Nat} (xs : Nat → Int32) (hX : va_X b L xs s s.heap) (hbl : b < s.heap.size) (hM : L ≤ 3584) {D : va_G} {t : pq_T} (hK : va_K D vwCl (pq_ty t) s) (hN : pq_N s) {aK aV : Nat} {vF : Value} (hW0 : pq_W aK aV vF (fun q => s.heap.size ≤ q) s s.heap) {this that : Nat} {n : Nat} {x3 : Int32} (h3 : x3.toInt = 7 * (n : Int)) (hL : 7 * n + 7 ≤ L) {H : Heap} {locs : List Loc} {cells slots : Nat} (hc2 : cells + 4 ≤ room_1.cells) (hs2 : slots + 345 ≤ room_1.slots) (hI : LI s D t this that H locs) {ls : Array Slot} (hl : lv_has ls 4 [(3, .int x3), (2, .ref that), (1, .ref this), (0, .ref b)]) {Q : State → Prop} (kk : ∀ (cells2 slots2 : Nat) (H : Heap) (locs : List Loc) (ls : Array Slot), cells2 ≤ cells + 4 → slots2 ≤ slots + 345 → LI s D t this that H locs → lv_has ls 4 [(3, .int x3), (2, .ref that), (1, .ref this), (0, .ref b)] → W p l e room_1 s m #[Value.ref b] below meth c H locs cells2 slots2 Q (F0 m 1725 ls [])) : W p l e room_1 s m #[Value.ref b] below meth c H locs cells slots Q (F0 m 669 ls []) := by
  have hA : ∀ q : Nat, s.heap.size ≤ q → s.heap.size ≤ q := fun _ h => h
  obtain ⟨σ, I, J, ri, rj, rq, tg, τ, I2, J2, si, sj, sq, tg2, nw, kp, tr, rd, ⟨hP, hD, hSH, hG, hFI, hL_this, hK_this⟩, ⟨hP2, hD2, hSH2, hG2, hL_that, hK_that⟩, hdis, hTR, hAP, hRN, hRK, hGN, hGK, hDN, hDK, hRDo, hRD, hTN, hTK, hS⟩ := hI
  have hG00 := hG
  have hG20 := hG2
  have hR_rd := hRDo.1
  have hL_rd := hRDo.2.1
  have hK_rd := hRDo.2.2
  obtain ⟨⟨hR_nw, hL_nw, hK_nw⟩, ⟨hR_kp, hL_kp, hK_kp⟩, ⟨hR_tr, hL_tr, hK_tr⟩, -⟩ := id hTR
  refine lv_aload_n hx hb dL_law_669 rfl (lv_at hl 2 rfl) ?_
  refine lv_aload_n hx hb dL_law_670 rfl (lv_at hl 3 rfl) ?_
  refine lv_iload_n hx hb dL_law_671 rfl (lv_at hl 0 rfl) ?_
  refine lv_iconst (v := 1) hx hb dL_law_672 (by decide +kernel) ?_
  refine lv_iadd hx hb dL_law_673 ?_
  refine va_sld hx hb hX hbl (Nat.not_le.mpr hbl) hS (lw_ix h3 hL hM (rg_w (rg_k (1 : Int32) 1 rfl) (by decide +kernel))) dL_law_674 ?_
  refine lx_i (va_runV (As := [.int (xs (x3 + 1).toNatClampNeg)]) (rest := []) ⟨hx, hb, hml, hown, hts⟩ (s_X11_lot l D t σ I J ri rj rq H.size tg hSH hG this (xs (x3 + 1).toNatClampNeg : Int32) hL_this hK_this nw hR_nw hL_nw hK_nw) (cwV 1 hts (tw_V tw_375 tw_376 tw_377 tw_2 tw_378) rfl rfl rfl cv_yX11_lot_1 ⟨Nat.le_of_ble_eq_true rfl, Nat.le_of_ble_eq_true rfl⟩) ⟨pq_blind, pq_recv hK hP hL_this hK_this (by decide +kernel) rfl, pq_pre hK hN hP hD⟩ rfl rfl hl.1 rfl (lv_room (Nat.le_of_ble_eq_true rfl)) dL_law_675 ⟨Nat.le_trans (Nat.le_add_right _ 4) hc2, Nat.le_trans (Nat.le_add_right _ 345) hs2⟩) hD hS hA hP2 hdis (fun r_1 σ1 μ1 H locs hw hP hD hP2 hdis hS => ?_)
  obtain ⟨I_2, ri_3, hu, hgx, hfx, hFx, hr1⟩ := hw
  obtain ⟨hua, hub⟩ := Prod.mk.inj hu
  rw [hua, hub] at hP hD
  rw [hua] at hdis
  have hG := hgx.1
  refine lv_pop hx hb dL_law_678 rfl ?_
  refine lv_aload_n hx hb dL_law_679 rfl (lv_at hl 1 rfl) ?_
  refine lv_aload_n hx hb dL_law_680 rfl (lv_at hl 3 rfl) ?_
  refine lv_iload_n hx hb dL_law_681 rfl (lv_at hl 0 rfl) ?_
  refine lv_iconst (v := 1) hx hb dL_law_682 (by decide +kernel) ?_
  refine lv_iadd hx hb dL_law_683 ?_
  refine va_sld hx hb hX hbl (Nat.not_le.mpr hbl) hS (lw_ix h3 hL hM (rg_w (rg_k (1 : Int32) 1 rfl) (by decide +kernel))) dL_law_684 ?_
  refine lx_i (va_runV (As := [.int (xs (x3 + 1).toNatClampNeg)]) (rest := []) ⟨hx, hb, hml, hown, hts⟩ (s_X12_lot l D t τ I2 J2 si sj sq H.size tg2 hSH2 hG2 that (xs (x3 + 1).toNatClampNeg : Int32) hL_that hK_that) (cwV 1 hts (tw_V tw_382 tw_383 tw_384 tw_5 tw_385) rfl rfl rfl cv_yX12_lot_1 ⟨Nat.le_of_ble_eq_true rfl, Nat.le_of_ble_eq_true rfl⟩) ⟨pq_blind, pq_recv hK hP2 hL_that hK_that (by decide +kernel) rfl, pq_pre hK hN hP2 hD2⟩ rfl rfl hl.1 rfl (lv_room (Nat.le_of_ble_eq_true rfl)) dL_law_685 ⟨Nat.le_trans (Nat.le_add_right _ 4) hc2, Nat.le_trans (Nat.le_add_right _ 345) hs2⟩) hD2 hS hA hP (fun a h1 h2 => hdis a h2 h1) (fun r_4 τ1 ν1 H locs hw hP2 hD2 hP hdis hS => ?_)
  obtain ⟨si_5, hu, hgr, hfr, hFr, hr2⟩ := hw
  obtain ⟨hua, hub⟩ := Prod.mk.inj hu
  rw [hua, hub] at hP2 hD2
  rw [hua] at hdis
  have hG2 := hgr.1
  have hV2 := vt_12 hSH2 hL_that hK_that
  have hVn := vt_10 hSH hL_nw hK_nw
  have hVk := vt_10 hSH hL_kp hK_kp
  have hDN := (df_rf (df_cl hDN hgx hVn (by decide +kernel) (by decide +kernel)) hgr hV2 (by decide +kernel))
  have hDK := (df_im (df_cl hDK hgx hVk (by decide +kernel) (by decide +kernel)) hgr hV2 (by decide +kernel))
  have hVr := vt_4 hSH hRDo.2.1 hRDo.2.2
  have hRD := (rd_rf (rd_fr hRD hFx hAP.1.1 hVr) hgr hV2 (by decide +kernel))
  have hTN := (tc_rf (tc_cl hTN hgx (by decide +kernel)) hgr hV2 (by decide +kernel))
  have hTK := (tc_im (tc_cl hTK hgx (by decide +kernel)) hgr hV2 (by decide +kernel))
  have hRN := (rl_rf (rl_cl hRN hgx hVn (by decide +kernel) (by decide +kernel)) hgr hV2 (by decide +kernel))
  have hRK := (rl_im (rl_cl hRK hgx hVk (by decide +kernel) (by decide +kernel)) hgr hV2 (by decide +kernel))
  have hGN := (gr_rf (gr_cl hGN hgx hVn (by decide +kernel) (by decide +kernel) (by decide +kernel)) hgr hV2 (by decide +kernel))
  have hGK := (gr_im (gr_cl hGK hgx hVk (by decide +kernel) (by decide +kernel) (by decide +kernel)) hgr hV2 (by decide +kernel))
  have hdis : ∀ a, a ∈ τ.1 → a ∉ σ.1 := fun a h1 h2 => hdis a h2 h1
  refine lv_pop hx hb dL_law_688 rfl ?_
  refine lv_goto (tgt := 1725) hx hb dL_law_689 (by decide +kernel) ?_
  exact kk _ _ H locs ls (by omega) (by omega) ⟨σ, I_2, J, ri_3, rj, rq, tg, τ, I2, J2, si_5, sj, sq, tg2, nw, kp, tr, rd, ⟨hP, hD, hSH, hG, hFI, hL_this, hK_this⟩, ⟨hP2, hD2, hSH2, hG2, hL_that, hK_that⟩, hdis, hTR, hAP, hRN, hRK, hGN, hGK, hDN, hDK, hRDo, hRD, hTN, hTK, hS⟩ hl
set_option maxHeartbeats 8000000 in
set_option maxRecDepth 100000 in
theorem lw_op_10 {p : Program} {e : Env} {s : State} {m : MethodId} {below : List Frame} {meth : Method} {c : Code} {b : Nat} (l : Launch) (hx : p.tables.exec = Jvm.exec) (hb : c.code = cL_law) (hr : meth.sig.returnType = ret) (hml : c.maxLocals = 4) (hown : s.vm.findClass RL = some m.cls) (hlocks : meth.locks = false) (hts : ∀ w ∈ (Cond.initialized RX11 :: wsL_law), w.before #[Value.ref b] s = true) {L : Nat} (xs : Nat → Int32) (hX : va_X b L xs s s.heap) (hbl : b < s.heap.size) (hM : L ≤ 3584) {D : va_G} {t : pq_T} (hK : va_K D vwCl (pq_ty t) s) (hN : pq_N s) {aK aV : Nat} {vF : Value} (hW0 : pq_W aK aV vF (fun q => s.heap.size ≤ q) s s.heap) {this that : Nat} {n : Nat} {x3 : Int32} (h3 : x3.toInt = 7 * (n : Int)) (hL : 7 * n + 7 ≤ L) {H : Heap} {locs : List Loc} {cells slots : Nat} (hc2 : cells + 4 ≤ room_1.cells) (hs2 : slots + 345 ≤ room_1.slots) (hI : LI s D t this that H locs) {ls : Array Slot} (hl : lv_has ls 4 [(3, .int x3), (2, .ref that), (1, .ref this), (0, .ref b)]) {Q : State → Prop} (kk : ∀ (cells2 slots2 : Nat) (H : Heap) (locs : List Loc) (ls : Array Slot), cells2 ≤ cells + 4 → slots2 ≤ slots + 345 → LI s D t this that H locs → lv_has ls 4 [(3, .int x3), (2, .ref that), (1, .ref this), (0, .ref b)] → W p l e room_1 s m #[Value.ref b] below meth c H locs cells2 slots2 Q (F0 m 1725 ls [])) : W p l e room_1 s m #[Value.ref b] below meth c H locs cells slots Q (F0 m 692 ls []) := by
  have hA : ∀ q : Nat, s.heap.size ≤ q → s.heap.size ≤ q := fun _ h => h
  obtain ⟨σ, I, J, ri, rj, rq, tg, τ, I2, J2, si, sj, sq, tg2, nw, kp, tr, rd, ⟨hP, hD, hSH, hG, hFI, hL_this, hK_this⟩, ⟨hP2, hD2, hSH2, hG2, hL_that, hK_that⟩, hdis, hTR, hAP, hRN, hRK, hGN, hGK, hDN, hDK, hRDo, hRD, hTN, hTK, hS⟩ := hI
  have hG00 := hG
  have hG20 := hG2
  have hR_rd := hRDo.1
  have hL_rd := hRDo.2.1
  have hK_rd := hRDo.2.2
  obtain ⟨⟨hR_nw, hL_nw, hK_nw⟩, ⟨hR_kp, hL_kp, hK_kp⟩, ⟨hR_tr, hL_tr, hK_tr⟩, -⟩ := id hTR
  refine lv_aload_n hx hb dL_law_692 rfl (lv_at hl 2 rfl) ?_
  refine lv_aload_n hx hb dL_law_693 rfl (lv_at hl 3 rfl) ?_
  refine lv_iload_n hx hb dL_law_694 rfl (lv_at hl 0 rfl) ?_
  refine lv_iconst (v := 1) hx hb dL_law_695 (by decide +kernel) ?_
  refine lv_iadd hx hb dL_law_696 ?_
  refine va_sld hx hb hX hbl (Nat.not_le.mpr hbl) hS (lw_ix h3 hL hM (rg_w (rg_k (1 : Int32) 1 rfl) (by decide +kernel))) dL_law_697 ?_
  refine lv_aload_n hx hb dL_law_698 rfl (lv_at hl 3 rfl) ?_
  refine lv_iload_n hx hb dL_law_699 rfl (lv_at hl 0 rfl) ?_
  refine lv_iconst (v := 2) hx hb dL_law_700 (by decide +kernel) ?_
  refine lv_iadd hx hb dL_law_701 ?_
  refine va_sld hx hb hX hbl (Nat.not_le.mpr hbl) hS (lw_ix h3 hL hM (rg_w (rg_k (2 : Int32) 2 rfl) (by decide +kernel))) dL_law_702 ?_
  refine lv_aload_n hx hb dL_law_703 rfl (lv_at hl 3 rfl) ?_
  refine lv_iload_n hx hb dL_law_704 rfl (lv_at hl 0 rfl) ?_
  refine lv_iconst (v := 3) hx hb dL_law_705 (by decide +kernel) ?_
  refine lv_iadd hx hb dL_law_706 ?_
  refine va_sld hx hb hX hbl (Nat.not_le.mpr hbl) hS (lw_ix h3 hL hM (rg_w (rg_k (3 : Int32) 3 rfl) (by decide +kernel))) dL_law_707 ?_
  refine lv_aload_n hx hb dL_law_708 rfl (lv_at hl 3 rfl) ?_
  refine lv_iload_n hx hb dL_law_709 rfl (lv_at hl 0 rfl) ?_
  refine lv_iconst (v := 4) hx hb dL_law_710 (by decide +kernel) ?_
  refine lv_iadd hx hb dL_law_711 ?_
  refine va_sld hx hb hX hbl (Nat.not_le.mpr hbl) hS (lw_ix h3 hL hM (rg_w (rg_k (4 : Int32) 4 rfl) (by decide +kernel))) dL_law_712 ?_
  refine lv_aload_n hx hb dL_law_713 rfl (lv_at hl 3 rfl) ?_
  refine lv_iload_n hx hb dL_law_714 rfl (lv_at hl 0 rfl) ?_
  refine lv_iconst (v := 5) hx hb dL_law_715 (by decide +kernel) ?_
  refine lv_iadd hx hb dL_law_716 ?_
  refine va_sld hx hb hX hbl (Nat.not_le.mpr hbl) hS (lw_ix h3 hL hM (rg_w (rg_k (5 : Int32) 5 rfl) (by decide +kernel))) dL_law_717 ?_
  refine lx_i (va_runV (As := [.int (xs (x3 + 1).toNatClampNeg), .int (xs (x3 + 2).toNatClampNeg), .int (xs (x3 + 3).toNatClampNeg), .int (xs (x3 + 4).toNatClampNeg), .int (xs (x3 + 5).toNatClampNeg)]) (rest := []) ⟨hx, hb, hml, hown, hts⟩ (s_X11_person l D t σ I J ri rj rq H.size tg hSH hG this (xs (x3 + 1).toNatClampNeg : Int32) (xs (x3 + 2).toNatClampNeg : Int32) (xs (x3 + 3).toNatClampNeg : Int32) (xs (x3 + 4).toNatClampNeg : Int32) (xs (x3 + 5).toNatClampNeg : Int32) hL_this hK_this nw hR_nw hL_nw hK_nw) (cwV 5 hts (tw_V tw_386 tw_387 tw_388 tw_2 tw_389) rfl rfl rfl cv_yX11_person_5 ⟨Nat.le_of_ble_eq_true rfl, Nat.le_of_ble_eq_true rfl⟩) ⟨pq_blind, pq_recv hK hP hL_this hK_this (by decide +kernel) rfl, pq_pre hK hN hP hD⟩ rfl rfl hl.1 rfl (lv_room (Nat.le_of_ble_eq_true rfl)) dL_law_718 ⟨Nat.le_trans (Nat.le_add_right _ 4) hc2, Nat.le_trans (Nat.le_add_right _ 345) hs2⟩) hD hS hA hP2 hdis (fun r_1 σ1 μ1 H locs hw hP hD hP2 hdis hS => ?_)
  obtain ⟨I_2, ri_3, hu, hgx, hfx, hFx, hr1⟩ := hw
  obtain ⟨hua, hub⟩ := Prod.mk.inj hu
  rw [hua, hub] at hP hD
  rw [hua] at hdis
  have hG := hgx.1
  refine lv_pop hx hb dL_law_721 rfl ?_
  refine lv_aload_n hx hb dL_law_722 rfl (lv_at hl 1 rfl) ?_
  refine lv_aload_n hx hb dL_law_723 rfl (lv_at hl 3 rfl) ?_
  refine lv_iload_n hx hb dL_law_724 rfl (lv_at hl 0 rfl) ?_
  refine lv_iconst (v := 1) hx hb dL_law_725 (by decide +kernel) ?_
  refine lv_iadd hx hb dL_law_726 ?_
  refine va_sld hx hb hX hbl (Nat.not_le.mpr hbl) hS (lw_ix h3 hL hM (rg_w (rg_k (1 : Int32) 1 rfl) (by decide +kernel))) dL_law_727 ?_
  refine lv_aload_n hx hb dL_law_728 rfl (lv_at hl 3 rfl) ?_
  refine lv_iload_n hx hb dL_law_729 rfl (lv_at hl 0 rfl) ?_
  refine lv_iconst (v := 2) hx hb dL_law_730 (by decide +kernel) ?_
  refine lv_iadd hx hb dL_law_731 ?_
  refine va_sld hx hb hX hbl (Nat.not_le.mpr hbl) hS (lw_ix h3 hL hM (rg_w (rg_k (2 : Int32) 2 rfl) (by decide +kernel))) dL_law_732 ?_
  refine lv_aload_n hx hb dL_law_733 rfl (lv_at hl 3 rfl) ?_
  refine lv_iload_n hx hb dL_law_734 rfl (lv_at hl 0 rfl) ?_
  refine lv_iconst (v := 3) hx hb dL_law_735 (by decide +kernel) ?_
  refine lv_iadd hx hb dL_law_736 ?_
  refine va_sld hx hb hX hbl (Nat.not_le.mpr hbl) hS (lw_ix h3 hL hM (rg_w (rg_k (3 : Int32) 3 rfl) (by decide +kernel))) dL_law_737 ?_
  refine lv_aload_n hx hb dL_law_738 rfl (lv_at hl 3 rfl) ?_
  refine lv_iload_n hx hb dL_law_739 rfl (lv_at hl 0 rfl) ?_
  refine lv_iconst (v := 4) hx hb dL_law_740 (by decide +kernel) ?_
  refine lv_iadd hx hb dL_law_741 ?_
  refine va_sld hx hb hX hbl (Nat.not_le.mpr hbl) hS (lw_ix h3 hL hM (rg_w (rg_k (4 : Int32) 4 rfl) (by decide +kernel))) dL_law_742 ?_
  refine lv_aload_n hx hb dL_law_743 rfl (lv_at hl 3 rfl) ?_
  refine lv_iload_n hx hb dL_law_744 rfl (lv_at hl 0 rfl) ?_
  refine lv_iconst (v := 5) hx hb dL_law_745 (by decide +kernel) ?_
  refine lv_iadd hx hb dL_law_746 ?_
  refine va_sld hx hb hX hbl (Nat.not_le.mpr hbl) hS (lw_ix h3 hL hM (rg_w (rg_k (5 : Int32) 5 rfl) (by decide +kernel))) dL_law_747 ?_
  refine lx_i (va_runV (As := [.int (xs (x3 + 1).toNatClampNeg), .int (xs (x3 + 2).toNatClampNeg), .int (xs (x3 + 3).toNatClampNeg), .int (xs (x3 + 4).toNatClampNeg), .int (xs (x3 + 5).toNatClampNeg)]) (rest := []) ⟨hx, hb, hml, hown, hts⟩ (s_X12_person l D t τ I2 J2 si sj sq H.size tg2 hSH2 hG2 that (xs (x3 + 1).toNatClampNeg : Int32) (xs (x3 + 2).toNatClampNeg : Int32) (xs (x3 + 3).toNatClampNeg : Int32) (xs (x3 + 4).toNatClampNeg : Int32) (xs (x3 + 5).toNatClampNeg : Int32) hL_that hK_that) (cwV 5 hts (tw_V tw_396 tw_397 tw_398 tw_5 tw_399) rfl rfl rfl cv_yX12_person_5 ⟨Nat.le_of_ble_eq_true rfl, Nat.le_of_ble_eq_true rfl⟩) ⟨pq_blind, pq_recv hK hP2 hL_that hK_that (by decide +kernel) rfl, pq_pre hK hN hP2 hD2⟩ rfl rfl hl.1 rfl (lv_room (Nat.le_of_ble_eq_true rfl)) dL_law_748 ⟨Nat.le_trans (Nat.le_add_right _ 4) hc2, Nat.le_trans (Nat.le_add_right _ 345) hs2⟩) hD2 hS hA hP (fun a h1 h2 => hdis a h2 h1) (fun r_4 τ1 ν1 H locs hw hP2 hD2 hP hdis hS => ?_)
  obtain ⟨si_5, hu, hgr, hfr, hFr, hr2⟩ := hw
  obtain ⟨hua, hub⟩ := Prod.mk.inj hu
  rw [hua, hub] at hP2 hD2
  rw [hua] at hdis
  have hG2 := hgr.1
  have hV2 := vt_12 hSH2 hL_that hK_that
  have hVn := vt_10 hSH hL_nw hK_nw
  have hVk := vt_10 hSH hL_kp hK_kp
  have hDN := dv_st (person_D hRN hDN) hfx hfr
  have hDK := (df_im (df_fr hDK hFx hAP.1) hgr hV2 (by decide +kernel))
  have hVr := vt_4 hSH hRDo.2.1 hRDo.2.2
  have hRD := (rd_rf (rd_fr hRD hFx hAP.1.1 hVr) hgr hV2 (by decide +kernel))
  have hTN := (tc_rf (tc_cl hTN hgx (by decide +kernel)) hgr hV2 (by decide +kernel))
  have hTK := (tc_im (tc_cl hTK hgx (by decide +kernel)) hgr hV2 (by decide +kernel))
  have hRN := (rl_rf (rl_cl hRN hgx hVn (by decide +kernel) (by decide +kernel)) hgr hV2 (by decide +kernel))
  have hRK := (rl_im (rl_cl hRK hgx hVk (by decide +kernel) (by decide +kernel)) hgr hV2 (by decide +kernel))
  have hGN := (gr_rf (gr_cl hGN hgx hVn (by decide +kernel) (by decide +kernel) (by decide +kernel)) hgr hV2 (by decide +kernel))
  have hGK := (gr_im (gr_cl hGK hgx hVk (by decide +kernel) (by decide +kernel) (by decide +kernel)) hgr hV2 (by decide +kernel))
  have hdis : ∀ a, a ∈ τ.1 → a ∉ σ.1 := fun a h1 h2 => hdis a h2 h1
  refine lv_pop hx hb dL_law_751 rfl ?_
  refine lv_goto (tgt := 1725) hx hb dL_law_752 (by decide +kernel) ?_
  exact kk _ _ H locs ls (by omega) (by omega) ⟨σ, I_2, J, ri_3, rj, rq, tg, τ, I2, J2, si_5, sj, sq, tg2, nw, kp, tr, rd, ⟨hP, hD, hSH, hG, hFI, hL_this, hK_this⟩, ⟨hP2, hD2, hSH2, hG2, hL_that, hK_that⟩, hdis, hTR, hAP, hRN, hRK, hGN, hGK, hDN, hDK, hRDo, hRD, hTN, hTK, hS⟩ hl
