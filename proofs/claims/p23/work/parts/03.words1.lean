theorem q_231 : Cond.instanceMethod yX2_stateAt ∈ qA := qa (List.mem_of_getElem? (i := 240) (by decide +kernel)) rfl
theorem q_232 : Cond.code yX2_stateAt cX2_stateAt 2 (some (FieldType.object "QuantileDigests$State")) ∈ qA := qa (List.mem_of_getElem? (i := 241) rfl) rfl
theorem q_233 : Cond.methodLink RX2 29 yX5_copyFrom ∈ qA := qa (List.mem_of_getElem? (i := 242) (by decide +kernel)) rfl
theorem q_234 : Cond.instanceMethod yX5_copyFrom ∈ qA := qa (List.mem_of_getElem? (i := 243) (by decide +kernel)) rfl
theorem q_235 : Cond.selects RX5 yX5_copyFrom yX5_copyFrom ∈ qA := qa (List.mem_of_getElem? (i := 244) (by decide +kernel)) rfl
theorem q_236 : Cond.code yX5_copyFrom cX5_copyFrom 2 none ∈ qA := qa (List.mem_of_getElem? (i := 245) rfl) rfl
theorem q_237 : Cond.methodLink RX5 49 yX4_copyFrom ∈ qA := qa (List.mem_of_getElem? (i := 246) (by decide +kernel)) rfl
theorem q_238 : Cond.instanceMethod yX4_copyFrom ∈ qA := qa (List.mem_of_getElem? (i := 247) (by decide +kernel)) rfl
theorem q_239 : Cond.selects RX4 yX4_copyFrom yX4_copyFrom ∈ qA := qa (List.mem_of_getElem? (i := 248) (by decide +kernel)) rfl
theorem q_240 : Cond.code yX4_copyFrom cX4_copyFrom 2 none ∈ qA := qa (List.mem_of_getElem? (i := 249) rfl) rfl
theorem q_241 : Cond.methodLink RX4 35 Lib.Math.min.name ∈ qA := qa (List.mem_of_getElem? (i := 250) (by decide +kernel)) rfl
theorem q_242 : Cond.static Lib.Math.min.name ∈ qA := qa (List.mem_of_getElem? (i := 251) (by decide +kernel)) rfl
theorem q_243 : Cond.code Lib.Math.min.name Lib.Math.min.code 2 (some FieldType.int) ∈ qA := qa (List.mem_of_getElem? (i := 252) rfl) rfl
theorem q_244 : Cond.methodLink RX4 38 arraycopyName ∈ qA := qa (List.mem_of_getElem? (i := 253) (by decide +kernel)) rfl
theorem q_245 : Cond.static arraycopyName ∈ qA := qa (List.mem_of_getElem? (i := 254) (by decide +kernel)) rfl
theorem q_246 : Cond.native arraycopyName ∈ qA := qa (List.mem_of_getElem? (i := 255) (by decide +kernel)) rfl
theorem q_247 : Cond.methodLink RX5 53 yX0_copyFrom ∈ qA := qa (List.mem_of_getElem? (i := 256) (by decide +kernel)) rfl
theorem q_248 : Cond.instanceMethod yX0_copyFrom ∈ qA := qa (List.mem_of_getElem? (i := 257) (by decide +kernel)) rfl
theorem q_249 : Cond.selects RX0 yX0_copyFrom yX0_copyFrom ∈ qA := qa (List.mem_of_getElem? (i := 258) (by decide +kernel)) rfl
theorem q_250 : Cond.code yX0_copyFrom cX0_copyFrom 2 none ∈ qA := qa (List.mem_of_getElem? (i := 259) rfl) rfl
theorem q_251 : Cond.methodLink RX0 97 yX1_copyFrom ∈ qA := qa (List.mem_of_getElem? (i := 260) (by decide +kernel)) rfl
theorem q_252 : Cond.instanceMethod yX1_copyFrom ∈ qA := qa (List.mem_of_getElem? (i := 261) (by decide +kernel)) rfl
theorem q_253 : Cond.selects RX1 yX1_copyFrom yX1_copyFrom ∈ qA := qa (List.mem_of_getElem? (i := 262) (by decide +kernel)) rfl
theorem q_254 : Cond.code yX1_copyFrom cX1_copyFrom 2 none ∈ qA := qa (List.mem_of_getElem? (i := 263) rfl) rfl
theorem q_255 : Cond.methodLink RX1 36 yX4_copyFrom ∈ qA := qa (List.mem_of_getElem? (i := 264) (by decide +kernel)) rfl
theorem q_256 : Cond.methodLink RX0 100 yX4_copyFrom ∈ qA := qa (List.mem_of_getElem? (i := 265) (by decide +kernel)) rfl
theorem q_257 : Cond.methodLink RX7 76 yX0_receive ∈ qA := qa (List.mem_of_getElem? (i := 266) (by decide +kernel)) rfl
theorem q_258 : Cond.instanceMethod yX0_receive ∈ qA := qa (List.mem_of_getElem? (i := 267) (by decide +kernel)) rfl
theorem q_259 : Cond.selects RX0 yX0_receive yX0_receive ∈ qA := qa (List.mem_of_getElem? (i := 268) (by decide +kernel)) rfl
theorem q_260 : Cond.code yX0_receive cX0_receive 3 none ∈ qA := qa (List.mem_of_getElem? (i := 269) rfl) rfl
theorem q_261 : Cond.methodLink RX0 71 yX4_at ∈ qA := qa (List.mem_of_getElem? (i := 270) (by decide +kernel)) rfl
theorem q_262 : Cond.methodLink RX0 75 yX0_packBy ∈ qA := qa (List.mem_of_getElem? (i := 271) (by decide +kernel)) rfl
theorem q_263 : Cond.instanceMethod yX0_packBy ∈ qA := qa (List.mem_of_getElem? (i := 272) (by decide +kernel)) rfl
theorem q_264 : Cond.selects RX0 yX0_packBy yX0_packBy ∈ qA := qa (List.mem_of_getElem? (i := 273) (by decide +kernel)) rfl
theorem q_265 : Cond.code yX0_packBy cX0_packBy 2 none ∈ qA := qa (List.mem_of_getElem? (i := 274) rfl) rfl
theorem q_266 : Cond.methodLink RX0 84 yX1_appendEach ∈ qA := qa (List.mem_of_getElem? (i := 275) (by decide +kernel)) rfl
theorem q_267 : Cond.instanceMethod yX1_appendEach ∈ qA := qa (List.mem_of_getElem? (i := 276) (by decide +kernel)) rfl
theorem q_268 : Cond.selects RX1 yX1_appendEach yX1_appendEach ∈ qA := qa (List.mem_of_getElem? (i := 277) (by decide +kernel)) rfl
theorem q_269 : Cond.code yX1_appendEach cX1_appendEach 4 none ∈ qA := qa (List.mem_of_getElem? (i := 278) rfl) rfl
theorem q_270 : Cond.methodLink RX1 29 yX4_length ∈ qA := qa (List.mem_of_getElem? (i := 279) (by decide +kernel)) rfl
theorem q_271 : Cond.methodLink RX1 40 yX4_at ∈ qA := qa (List.mem_of_getElem? (i := 280) (by decide +kernel)) rfl
theorem q_272 : Cond.methodLink RX1 44 yX4_append ∈ qA := qa (List.mem_of_getElem? (i := 281) (by decide +kernel)) rfl
theorem q_273 : Cond.methodLink RX0 88 yX4_empty ∈ qA := qa (List.mem_of_getElem? (i := 282) (by decide +kernel)) rfl
theorem q_274 : Cond.instanceMethod yX4_empty ∈ qA := qa (List.mem_of_getElem? (i := 283) (by decide +kernel)) rfl
theorem q_275 : Cond.selects RX4 yX4_empty yX4_empty ∈ qA := qa (List.mem_of_getElem? (i := 284) (by decide +kernel)) rfl
theorem q_276 : Cond.code yX4_empty cX4_empty 1 none ∈ qA := qa (List.mem_of_getElem? (i := 285) rfl) rfl
theorem q_277 : Cond.methodLink RX0 91 yX1_packBy ∈ qA := qa (List.mem_of_getElem? (i := 286) (by decide +kernel)) rfl
theorem q_278 : Cond.instanceMethod yX1_packBy ∈ qA := qa (List.mem_of_getElem? (i := 287) (by decide +kernel)) rfl
theorem q_279 : Cond.selects RX1 yX1_packBy yX1_packBy ∈ qA := qa (List.mem_of_getElem? (i := 288) (by decide +kernel)) rfl
theorem q_280 : Cond.code yX1_packBy cX1_packBy 2 none ∈ qA := qa (List.mem_of_getElem? (i := 289) rfl) rfl
theorem q_281 : Cond.methodLink RX1 53 yX1_order ∈ qA := qa (List.mem_of_getElem? (i := 290) (by decide +kernel)) rfl
theorem q_283 : Cond.instanceMethod yX1_order ∈ qA := qa (List.mem_of_getElem? (i := 292) (by decide +kernel)) rfl
theorem q_284 : Cond.code yX1_order cX1_order 3 none ∈ qA := qa (List.mem_of_getElem? (i := 293) rfl) rfl
theorem q_285 : Cond.methodLink RX1 50 yX1_size ∈ qA := qa (List.mem_of_getElem? (i := 294) (by decide +kernel)) rfl
theorem q_286 : Cond.instanceMethod yX1_size ∈ qA := qa (List.mem_of_getElem? (i := 295) (by decide +kernel)) rfl
theorem q_287 : Cond.selects RX1 yX1_size yX1_size ∈ qA := qa (List.mem_of_getElem? (i := 296) (by decide +kernel)) rfl
theorem q_288 : Cond.code yX1_size cX1_size 1 (some FieldType.int) ∈ qA := qa (List.mem_of_getElem? (i := 297) rfl) rfl
theorem q_289 : Cond.methodLink RX1 59 yX1_isMiddleAbove ∈ qA := qa (List.mem_of_getElem? (i := 298) (by decide +kernel)) rfl
theorem q_291 : Cond.instanceMethod yX1_isMiddleAbove ∈ qA := qa (List.mem_of_getElem? (i := 300) (by decide +kernel)) rfl
theorem q_292 : Cond.code yX1_isMiddleAbove cX1_isMiddleAbove 7 (some FieldType.boolean) ∈ qA := qa (List.mem_of_getElem? (i := 301) rfl) rfl
theorem q_293 : Cond.methodLink RX1 63 yX1_exchange ∈ qA := qa (List.mem_of_getElem? (i := 302) (by decide +kernel)) rfl
theorem q_295 : Cond.instanceMethod yX1_exchange ∈ qA := qa (List.mem_of_getElem? (i := 304) (by decide +kernel)) rfl
theorem q_296 : Cond.code yX1_exchange cX1_exchange 3 none ∈ qA := qa (List.mem_of_getElem? (i := 305) rfl) rfl
theorem q_297 : Cond.methodLink RX1 67 yX4_exchange ∈ qA := qa (List.mem_of_getElem? (i := 306) (by decide +kernel)) rfl
theorem q_298 : Cond.instanceMethod yX4_exchange ∈ qA := qa (List.mem_of_getElem? (i := 307) (by decide +kernel)) rfl
theorem q_299 : Cond.selects RX4 yX4_exchange yX4_exchange ∈ qA := qa (List.mem_of_getElem? (i := 308) (by decide +kernel)) rfl
theorem q_300 : Cond.code yX4_exchange cX4_exchange 4 none ∈ qA := qa (List.mem_of_getElem? (i := 309) rfl) rfl
theorem q_301 : Cond.methodLink RX1 56 yX1_putTogether ∈ qA := qa (List.mem_of_getElem? (i := 310) (by decide +kernel)) rfl
theorem q_303 : Cond.instanceMethod yX1_putTogether ∈ qA := qa (List.mem_of_getElem? (i := 312) (by decide +kernel)) rfl
theorem q_304 : Cond.code yX1_putTogether cX1_putTogether 7 none ∈ qA := qa (List.mem_of_getElem? (i := 313) rfl) rfl
theorem q_305 : Cond.methodLink RX1 68 yX4_total ∈ qA := qa (List.mem_of_getElem? (i := 314) (by decide +kernel)) rfl
theorem q_306 : Cond.methodLink RX1 71 yX1_isWithinPlace ∈ qA := qa (List.mem_of_getElem? (i := 315) (by decide +kernel)) rfl
theorem q_307 : Cond.static yX1_isWithinPlace ∈ qA := qa (List.mem_of_getElem? (i := 316) (by decide +kernel)) rfl
theorem q_308 : Cond.code yX1_isWithinPlace cX1_isWithinPlace 4 (some FieldType.boolean) ∈ qA := qa (List.mem_of_getElem? (i := 317) rfl) rfl
theorem q_309 : Cond.methodLink RX1 75 yX1_unite ∈ qA := qa (List.mem_of_getElem? (i := 318) (by decide +kernel)) rfl
theorem q_311 : Cond.instanceMethod yX1_unite ∈ qA := qa (List.mem_of_getElem? (i := 320) (by decide +kernel)) rfl
theorem q_312 : Cond.code yX1_unite cX1_unite 3 none ∈ qA := qa (List.mem_of_getElem? (i := 321) rfl) rfl
theorem q_313 : Cond.methodLink RX1 81 yX4_put ∈ qA := qa (List.mem_of_getElem? (i := 322) (by decide +kernel)) rfl
theorem q_314 : Cond.instanceMethod yX4_put ∈ qA := qa (List.mem_of_getElem? (i := 323) (by decide +kernel)) rfl
theorem q_315 : Cond.selects RX4 yX4_put yX4_put ∈ qA := qa (List.mem_of_getElem? (i := 324) (by decide +kernel)) rfl
theorem q_316 : Cond.code yX4_put cX4_put 3 none ∈ qA := qa (List.mem_of_getElem? (i := 325) rfl) rfl
theorem q_317 : Cond.methodLink RX1 84 Lib.Math.min.name ∈ qA := qa (List.mem_of_getElem? (i := 326) (by decide +kernel)) rfl
theorem q_318 : Cond.methodLink RX1 90 Lib.Math.max.name ∈ qA := qa (List.mem_of_getElem? (i := 327) (by decide +kernel)) rfl
theorem q_319 : Cond.methodLink RX1 78 yX1_shortenTo ∈ qA := qa (List.mem_of_getElem? (i := 328) (by decide +kernel)) rfl
theorem q_321 : Cond.instanceMethod yX1_shortenTo ∈ qA := qa (List.mem_of_getElem? (i := 330) (by decide +kernel)) rfl
theorem q_322 : Cond.code yX1_shortenTo cX1_shortenTo 2 none ∈ qA := qa (List.mem_of_getElem? (i := 331) rfl) rfl
theorem q_323 : Cond.methodLink RX1 93 yX4_shortenTo ∈ qA := qa (List.mem_of_getElem? (i := 332) (by decide +kernel)) rfl
theorem q_324 : Cond.instanceMethod yX4_shortenTo ∈ qA := qa (List.mem_of_getElem? (i := 333) (by decide +kernel)) rfl
theorem q_325 : Cond.selects RX4 yX4_shortenTo yX4_shortenTo ∈ qA := qa (List.mem_of_getElem? (i := 334) (by decide +kernel)) rfl
theorem q_326 : Cond.code yX4_shortenTo cX4_shortenTo 2 none ∈ qA := qa (List.mem_of_getElem? (i := 335) rfl) rfl
theorem q_327 : Cond.methodLink RX0 78 yX4_append ∈ qA := qa (List.mem_of_getElem? (i := 336) (by decide +kernel)) rfl
theorem q_328 : Cond.methodLink RX0 81 yX4_insertInOrder ∈ qA := qa (List.mem_of_getElem? (i := 337) (by decide +kernel)) rfl
theorem q_329 : Cond.instanceMethod yX4_insertInOrder ∈ qA := qa (List.mem_of_getElem? (i := 338) (by decide +kernel)) rfl
theorem q_330 : Cond.selects RX4 yX4_insertInOrder yX4_insertInOrder ∈ qA := qa (List.mem_of_getElem? (i := 339) (by decide +kernel)) rfl
theorem q_331 : Cond.code yX4_insertInOrder cX4_insertInOrder 3 none ∈ qA := qa (List.mem_of_getElem? (i := 340) rfl) rfl
theorem q_332 : Cond.methodLink RX4 27 yX4_append ∈ qA := qa (List.mem_of_getElem? (i := 341) (by decide +kernel)) rfl
theorem q_333 : Cond.methodLink RX4 31 yX4_exchange ∈ qA := qa (List.mem_of_getElem? (i := 342) (by decide +kernel)) rfl
theorem q_334 : Cond.methodLink RL 94 yX7_pack ∈ qA := qa (List.mem_of_getElem? (i := 343) (by decide +kernel)) rfl
theorem q_335 : Cond.instanceMethod yX7_pack ∈ qA := qa (List.mem_of_getElem? (i := 344) (by decide +kernel)) rfl
theorem q_336 : Cond.selects RX7 yX7_pack yX7_pack ∈ qA := qa (List.mem_of_getElem? (i := 345) (by decide +kernel)) rfl
theorem q_337 : Cond.code yX7_pack cX7_pack 3 (some FieldType.int) ∈ qA := qa (List.mem_of_getElem? (i := 346) rfl) rfl
theorem q_338 : Cond.methodLink RX7 80 yX4_at ∈ qA := qa (List.mem_of_getElem? (i := 347) (by decide +kernel)) rfl
theorem q_339 : Cond.methodLink RX7 84 yX0_packBy ∈ qA := qa (List.mem_of_getElem? (i := 348) (by decide +kernel)) rfl
theorem q_340 : Cond.methodLink RX7 90 yX1_size ∈ qA := qa (List.mem_of_getElem? (i := 349) (by decide +kernel)) rfl
theorem q_341 : Cond.methodLink RL 100 yX7_join ∈ qA := qa (List.mem_of_getElem? (i := 350) (by decide +kernel)) rfl
theorem q_342 : Cond.instanceMethod yX7_join ∈ qA := qa (List.mem_of_getElem? (i := 351) (by decide +kernel)) rfl
theorem q_343 : Cond.selects RX7 yX7_join yX7_join ∈ qA := qa (List.mem_of_getElem? (i := 352) (by decide +kernel)) rfl
theorem q_344 : Cond.code yX7_join cX7_join 5 (some FieldType.int) ∈ qA := qa (List.mem_of_getElem? (i := 353) rfl) rfl
theorem q_345 : Cond.methodLink RX7 93 yX0_takeOver ∈ qA := qa (List.mem_of_getElem? (i := 354) (by decide +kernel)) rfl
theorem q_346 : Cond.instanceMethod yX0_takeOver ∈ qA := qa (List.mem_of_getElem? (i := 355) (by decide +kernel)) rfl
theorem q_347 : Cond.selects RX0 yX0_takeOver yX0_takeOver ∈ qA := qa (List.mem_of_getElem? (i := 356) (by decide +kernel)) rfl
theorem q_348 : Cond.code yX0_takeOver cX0_takeOver 4 none ∈ qA := qa (List.mem_of_getElem? (i := 357) rfl) rfl
theorem q_349 : Cond.methodLink RX0 92 yX1_appendAll ∈ qA := qa (List.mem_of_getElem? (i := 358) (by decide +kernel)) rfl
theorem q_350 : Cond.instanceMethod yX1_appendAll ∈ qA := qa (List.mem_of_getElem? (i := 359) (by decide +kernel)) rfl
theorem q_351 : Cond.selects RX1 yX1_appendAll yX1_appendAll ∈ qA := qa (List.mem_of_getElem? (i := 360) (by decide +kernel)) rfl
theorem q_352 : Cond.code yX1_appendAll cX1_appendAll 2 none ∈ qA := qa (List.mem_of_getElem? (i := 361) rfl) rfl
theorem q_353 : Cond.methodLink RX1 47 yX4_appendAll ∈ qA := qa (List.mem_of_getElem? (i := 362) (by decide +kernel)) rfl
theorem q_354 : Cond.instanceMethod yX4_appendAll ∈ qA := qa (List.mem_of_getElem? (i := 363) (by decide +kernel)) rfl
theorem q_355 : Cond.selects RX4 yX4_appendAll yX4_appendAll ∈ qA := qa (List.mem_of_getElem? (i := 364) (by decide +kernel)) rfl
theorem q_356 : Cond.code yX4_appendAll cX4_appendAll 3 none ∈ qA := qa (List.mem_of_getElem? (i := 365) rfl) rfl
theorem q_357 : Cond.methodLink RL 97 yX7_set ∈ qA := qa (List.mem_of_getElem? (i := 366) (by decide +kernel)) rfl
theorem q_358 : Cond.instanceMethod yX7_set ∈ qA := qa (List.mem_of_getElem? (i := 367) (by decide +kernel)) rfl
theorem q_359 : Cond.selects RX7 yX7_set yX7_set ∈ qA := qa (List.mem_of_getElem? (i := 368) (by decide +kernel)) rfl
theorem q_360 : Cond.code yX7_set cX7_set 4 (some FieldType.int) ∈ qA := qa (List.mem_of_getElem? (i := 369) rfl) rfl
theorem q_361 : Cond.methodLink RX7 100 yX7_highestSetting ∈ qA := qa (List.mem_of_getElem? (i := 370) (by decide +kernel)) rfl
theorem q_362 : Cond.static yX7_highestSetting ∈ qA := qa (List.mem_of_getElem? (i := 371) (by decide +kernel)) rfl
theorem q_363 : Cond.code yX7_highestSetting cX7_highestSetting 1 (some FieldType.int) ∈ qA := qa (List.mem_of_getElem? (i := 372) rfl) rfl
theorem q_364 : Cond.methodLink RX7 103 yX4_put ∈ qA := qa (List.mem_of_getElem? (i := 373) (by decide +kernel)) rfl
theorem q_365 : Cond.methodLink RL 107 yX7_count ∈ qA := qa (List.mem_of_getElem? (i := 374) (by decide +kernel)) rfl
theorem q_366 : Cond.instanceMethod yX7_count ∈ qA := qa (List.mem_of_getElem? (i := 375) (by decide +kernel)) rfl
theorem q_367 : Cond.selects RX7 yX7_count yX7_count ∈ qA := qa (List.mem_of_getElem? (i := 376) (by decide +kernel)) rfl
theorem q_368 : Cond.code yX7_count cX7_count 2 (some FieldType.int) ∈ qA := qa (List.mem_of_getElem? (i := 377) rfl) rfl
theorem q_369 : Cond.methodLink RX7 189 yX5_weight ∈ qA := qa (List.mem_of_getElem? (i := 378) (by decide +kernel)) rfl
theorem q_370 : Cond.instanceMethod yX5_weight ∈ qA := qa (List.mem_of_getElem? (i := 379) (by decide +kernel)) rfl
theorem q_371 : Cond.selects RX5 yX5_weight yX5_weight ∈ qA := qa (List.mem_of_getElem? (i := 380) (by decide +kernel)) rfl
theorem q_372 : Cond.code yX5_weight cX5_weight 1 (some FieldType.int) ∈ qA := qa (List.mem_of_getElem? (i := 381) rfl) rfl
theorem q_373 : Cond.methodLink RX5 36 yX0_weight ∈ qA := qa (List.mem_of_getElem? (i := 382) (by decide +kernel)) rfl
theorem q_374 : Cond.methodLink RX7 190 yX5_heapCount ∈ qA := qa (List.mem_of_getElem? (i := 383) (by decide +kernel)) rfl
theorem q_375 : Cond.instanceMethod yX5_heapCount ∈ qA := qa (List.mem_of_getElem? (i := 384) (by decide +kernel)) rfl
theorem q_376 : Cond.selects RX5 yX5_heapCount yX5_heapCount ∈ qA := qa (List.mem_of_getElem? (i := 385) (by decide +kernel)) rfl
theorem q_377 : Cond.code yX5_heapCount cX5_heapCount 1 (some FieldType.int) ∈ qA := qa (List.mem_of_getElem? (i := 386) rfl) rfl
theorem q_378 : Cond.methodLink RX5 44 yX1_size ∈ qA := qa (List.mem_of_getElem? (i := 387) (by decide +kernel)) rfl
theorem q_379 : Cond.methodLink RX7 193 yX2_size ∈ qA := qa (List.mem_of_getElem? (i := 388) (by decide +kernel)) rfl
theorem q_380 : Cond.instanceMethod yX2_size ∈ qA := qa (List.mem_of_getElem? (i := 389) (by decide +kernel)) rfl
theorem q_381 : Cond.selects RX2 yX2_size yX2_size ∈ qA := qa (List.mem_of_getElem? (i := 390) (by decide +kernel)) rfl
theorem q_382 : Cond.code yX2_size cX2_size 1 (some FieldType.int) ∈ qA := qa (List.mem_of_getElem? (i := 391) rfl) rfl
theorem q_383 : Cond.methodLink RX7 137 yX4_length ∈ qA := qa (List.mem_of_getElem? (i := 392) (by decide +kernel)) rfl
theorem q_384 : Cond.methodLink RL 83 yL_cell ∈ qA := qa (List.mem_of_getElem? (i := 393) (by decide +kernel)) rfl
theorem q_385 : Cond.static yL_cell ∈ qA := qa (List.mem_of_getElem? (i := 394) (by decide +kernel)) rfl
theorem q_386 : Cond.code yL_cell cL_cell 2 (some FieldType.int) ∈ qA := qa (List.mem_of_getElem? (i := 395) rfl) rfl
theorem q_387 : Cond.constant RL 7 (1009750483 : Int32) ∈ qA := qa (List.mem_of_getElem? (i := 396) (by decide +kernel)) rfl
theorem q_388 : Cond.constant RL 8 (701949111 : Int32) ∈ qA := qa (List.mem_of_getElem? (i := 397) (by decide +kernel)) rfl
theorem q_389 : Cond.methodLink RL 73 yL_low ∈ qA := qa (List.mem_of_getElem? (i := 398) (by decide +kernel)) rfl
theorem q_390 : Cond.static yL_low ∈ qA := qa (List.mem_of_getElem? (i := 399) (by decide +kernel)) rfl
theorem q_391 : Cond.code yL_low cL_low 2 (some FieldType.int) ∈ qA := qa (List.mem_of_getElem? (i := 400) rfl) rfl
theorem q_392 : Cond.constant RL 9 (2147483647 : Int32) ∈ qA := qa (List.mem_of_getElem? (i := 401) (by decide +kernel)) rfl
theorem q_393 : Cond.methodLink RL 20 yL_packed ∈ qA := qa (List.mem_of_getElem? (i := 402) (by decide +kernel)) rfl
theorem q_394 : Cond.static yL_packed ∈ qA := qa (List.mem_of_getElem? (i := 403) (by decide +kernel)) rfl
theorem q_395 : Cond.code yL_packed cL_packed 11 (some FieldType.int) ∈ qA := qa (List.mem_of_getElem? (i := 404) rfl) rfl
theorem q_396 : Cond.methodLink RL 10 yL_behind ∈ qA := qa (List.mem_of_getElem? (i := 405) (by decide +kernel)) rfl
theorem q_397 : Cond.static yL_behind ∈ qA := qa (List.mem_of_getElem? (i := 406) (by decide +kernel)) rfl
theorem q_398 : Cond.code yL_behind cL_behind 3 (some FieldType.boolean) ∈ qA := qa (List.mem_of_getElem? (i := 407) rfl) rfl
theorem q_399 : Cond.methodLink RL 16 yL_swap ∈ qA := qa (List.mem_of_getElem? (i := 408) (by decide +kernel)) rfl
