set_option maxRecDepth 100000 in
theorem wd_276 : Cond.methodLink RX2 82 yX2_noonWeight ∈ lw_tbl := in_t2 131 rfl
set_option maxRecDepth 100000 in
theorem wd_277 : Cond.code yX2_lightestBut cX2_lightestBut 5 (some .int) ∈ lw_tbl := in_t2 130 rfl
set_option maxRecDepth 100000 in
theorem wd_278 : Cond.selects RX2 yX2_lightestBut yX2_lightestBut ∈ lw_tbl := in_tp 2 rfl
set_option maxRecDepth 100000 in
theorem wd_279 : Cond.selects RX8 yX8_crown yX8_crown ∈ lw_tbl := in_t2 116 rfl
set_option maxRecDepth 100000 in
theorem wd_280 : Cond.instanceMethod yX8_crown ∈ lw_tbl := in_t2 115 rfl
set_option maxRecDepth 100000 in
theorem wd_281 : Cond.methodLink RL 64 yX8_crown ∈ lw_tbl := in_t2 114 rfl
set_option maxRecDepth 100000 in
theorem wd_282 : Cond.code yX8_noon cX8_noon 2 (some .int) ∈ lw_tbl := in_t2 135 rfl
set_option maxRecDepth 100000 in
theorem wd_283 : Cond.selects RX8 yX8_noon yX8_noon ∈ lw_tbl := in_t2 134 rfl
set_option maxRecDepth 100000 in
theorem wd_284 : Cond.instanceMethod yX8_noon ∈ lw_tbl := in_t2 133 rfl
set_option maxRecDepth 100000 in
theorem wd_285 : Cond.methodLink RL 68 yX8_noon ∈ lw_tbl := in_t2 132 rfl
set_option maxRecDepth 100000 in
theorem wd_286 : Cond.code yX8_undo cX8_undo 1 (some .int) ∈ lw_tbl := in_t2 139 rfl
set_option maxRecDepth 100000 in
theorem wd_287 : Cond.code yX2_copyFrom cX2_copyFrom 3 none ∈ lw_tbl := in_t2 151 rfl
set_option maxRecDepth 100000 in
theorem wd_288 : Cond.selects RX2 yX2_copyFrom yX2_copyFrom ∈ lw_tbl := in_t2 150 rfl
set_option maxRecDepth 100000 in
theorem wd_289 : Cond.instanceMethod yX2_copyFrom ∈ lw_tbl := in_t2 149 rfl
set_option maxRecDepth 100000 in
theorem wd_290 : Cond.methodLink RX0 26 yX2_copyFrom ∈ lw_tbl := in_t2 148 rfl
set_option maxRecDepth 100000 in
theorem wd_291 : Cond.code yX0_takeBack cX0_takeBack 2 none ∈ lw_tbl := in_t2 147 rfl
set_option maxRecDepth 100000 in
theorem wd_292 : Cond.selects RX0 yX0_takeBack yX0_takeBack ∈ lw_tbl := in_t2 146 rfl
set_option maxRecDepth 100000 in
theorem wd_293 : Cond.instanceMethod yX0_takeBack ∈ lw_tbl := in_t2 145 rfl
set_option maxRecDepth 100000 in
theorem wd_294 : Cond.methodLink RX8 137 yX0_takeBack ∈ lw_tbl := in_t2 144 rfl
set_option maxRecDepth 100000 in
theorem wd_295 : Cond.code yX0_length cX0_length 1 (some .int) ∈ lw_tbl := in_t2 143 rfl
set_option maxRecDepth 100000 in
theorem wd_296 : Cond.selects RX0 yX0_length yX0_length ∈ lw_tbl := in_t2 142 rfl
set_option maxRecDepth 100000 in
theorem wd_297 : Cond.instanceMethod yX0_length ∈ lw_tbl := in_t2 141 rfl
set_option maxRecDepth 100000 in
theorem wd_298 : Cond.methodLink RX8 136 yX0_length ∈ lw_tbl := in_t2 140 rfl
set_option maxRecDepth 100000 in
theorem wd_299 : Cond.selects RX8 yX8_undo yX8_undo ∈ lw_tbl := in_t2 138 rfl
set_option maxRecDepth 100000 in
theorem wd_300 : Cond.instanceMethod yX8_undo ∈ lw_tbl := in_t2 137 rfl
set_option maxRecDepth 100000 in
theorem wd_301 : Cond.methodLink RL 72 yX8_undo ∈ lw_tbl := in_t2 136 rfl
set_option maxRecDepth 100000 in
theorem wd_302 : Cond.code yX8_sure cX8_sure 8 (some .int) ∈ lw_tbl := in_t2 155 rfl
set_option maxRecDepth 100000 in
theorem wd_303 : Cond.code yX2_winsWith cX2_winsWith 8 (some .boolean) ∈ lw_tbl := in_t2 167 rfl
set_option maxRecDepth 100000 in
theorem wd_304 : Cond.selects RX2 yX2_winsWith yX2_winsWith ∈ lw_tbl := in_t2 166 rfl
set_option maxRecDepth 100000 in
theorem wd_305 : Cond.instanceMethod yX2_winsWith ∈ lw_tbl := in_t2 165 rfl
set_option maxRecDepth 100000 in
theorem wd_306 : Cond.methodLink RX8 150 yX2_winsWith ∈ lw_tbl := in_t2 164 rfl
set_option maxRecDepth 100000 in
theorem wd_307 : Cond.code yX8_leastSureToil cX8_leastSureToil 5 (some .int) ∈ lw_tbl := in_t2 163 rfl
set_option maxRecDepth 100000 in
theorem wd_308 : Cond.selects RX8 yX8_leastSureToil yX8_leastSureToil ∈ lw_tbl := in_tp 4 rfl
set_option maxRecDepth 100000 in
theorem wd_309 : Cond.instanceMethod yX8_leastSureToil ∈ lw_tbl := in_t2 162 rfl
set_option maxRecDepth 100000 in
theorem wd_310 : Cond.methodLink RX8 144 yX8_leastSureToil ∈ lw_tbl := in_t2 160 rfl
set_option maxRecDepth 100000 in
theorem wd_311 : Cond.code yX8_refusalOfSure cX8_refusalOfSure 4 (some .int) ∈ lw_tbl := in_t2 159 rfl
set_option maxRecDepth 100000 in
theorem wd_312 : Cond.selects RX8 yX8_refusalOfSure yX8_refusalOfSure ∈ lw_tbl := in_tp 3 rfl
set_option maxRecDepth 100000 in
theorem wd_313 : Cond.instanceMethod yX8_refusalOfSure ∈ lw_tbl := in_t2 158 rfl
set_option maxRecDepth 100000 in
theorem wd_314 : Cond.methodLink RX8 140 yX8_refusalOfSure ∈ lw_tbl := in_t2 156 rfl
set_option maxRecDepth 100000 in
theorem wd_315 : Cond.code yX8_toilOnDay cX8_toilOnDay 3 (some .int) ∈ lw_tbl := in_t2 174 rfl
set_option maxRecDepth 100000 in
theorem wd_316 : Cond.static yX8_toilOnDay ∈ lw_tbl := in_t2 173 rfl
set_option maxRecDepth 100000 in
theorem wd_317 : Cond.methodLink RX8 147 yX8_toilOnDay ∈ lw_tbl := in_t2 172 rfl
set_option maxRecDepth 100000 in
theorem wd_318 : Cond.code yX2_noonWeightBehind cX2_noonWeightBehind 5 (some .int) ∈ lw_tbl := in_t2 171 rfl
set_option maxRecDepth 100000 in
theorem wd_319 : Cond.selects RX2 yX2_noonWeightBehind yX2_noonWeightBehind ∈ lw_tbl := in_tp 5 rfl
set_option maxRecDepth 100000 in
theorem wd_320 : Cond.instanceMethod yX2_noonWeightBehind ∈ lw_tbl := in_t2 170 rfl
set_option maxRecDepth 100000 in
theorem wd_321 : Cond.methodLink RX2 85 yX2_noonWeightBehind ∈ lw_tbl := in_t2 168 rfl
set_option maxRecDepth 100000 in
theorem wd_322 : Cond.selects RX8 yX8_sure yX8_sure ∈ lw_tbl := in_t2 154 rfl
set_option maxRecDepth 100000 in
theorem wd_323 : Cond.instanceMethod yX8_sure ∈ lw_tbl := in_t2 153 rfl
set_option maxRecDepth 100000 in
theorem wd_324 : Cond.methodLink RL 76 yX8_sure ∈ lw_tbl := in_t2 152 rfl
set_option maxRecDepth 100000 in
theorem wd_325 : Cond.code yX8_sureAt cX8_sureAt 7 (some .int) ∈ lw_tbl := in_t2 178 rfl
set_option maxRecDepth 100000 in
theorem wd_326 : Cond.selects RX8 yX8_sureAt yX8_sureAt ∈ lw_tbl := in_t2 177 rfl
set_option maxRecDepth 100000 in
theorem wd_327 : Cond.instanceMethod yX8_sureAt ∈ lw_tbl := in_t2 176 rfl
set_option maxRecDepth 100000 in
theorem wd_328 : Cond.methodLink RL 81 yX8_sureAt ∈ lw_tbl := in_t2 175 rfl
set_option maxRecDepth 100000 in
theorem wd_329 : Cond.code yX8_feed cX8_feed 2 (some .int) ∈ lw_tbl := in_t2 182 rfl
set_option maxRecDepth 100000 in
theorem wd_330 : Cond.code yX2_loavesToWin cX2_loavesToWin 5 (some .int) ∈ lw_tbl := in_t2 186 rfl
set_option maxRecDepth 100000 in
theorem wd_331 : Cond.selects RX2 yX2_loavesToWin yX2_loavesToWin ∈ lw_tbl := in_t2 185 rfl
set_option maxRecDepth 100000 in
theorem wd_332 : Cond.instanceMethod yX2_loavesToWin ∈ lw_tbl := in_t2 184 rfl
set_option maxRecDepth 100000 in
theorem wd_333 : Cond.methodLink RX8 154 yX2_loavesToWin ∈ lw_tbl := in_t2 183 rfl
set_option maxRecDepth 100000 in
theorem wd_334 : Cond.selects RX8 yX8_feed yX8_feed ∈ lw_tbl := in_t2 181 rfl
set_option maxRecDepth 100000 in
theorem wd_335 : Cond.instanceMethod yX8_feed ∈ lw_tbl := in_t2 180 rfl
set_option maxRecDepth 100000 in
theorem wd_336 : Cond.methodLink RL 86 yX8_feed ∈ lw_tbl := in_t2 179 rfl
set_option maxRecDepth 100000 in
theorem wd_337 : Cond.code yX8_weigh cX8_weigh 4 (some .int) ∈ lw_tbl := in_t2 190 rfl
set_option maxRecDepth 100000 in
theorem wd_338 : Cond.code yX6_length cX6_length 1 (some .int) ∈ lw_tbl := in_t2 207 rfl
set_option maxRecDepth 100000 in
theorem wd_339 : Cond.selects RX6 yX6_length yX6_length ∈ lw_tbl := in_t2 206 rfl
set_option maxRecDepth 100000 in
theorem wd_340 : Cond.instanceMethod yX6_length ∈ lw_tbl := in_t2 205 rfl
set_option maxRecDepth 100000 in
theorem wd_341 : Cond.methodLink RX8 164 yX6_length ∈ lw_tbl := in_t2 204 rfl
set_option maxRecDepth 100000 in
theorem wd_342 : Cond.code yX6_append cX6_append 4 (some .boolean) ∈ lw_tbl := in_t2 203 rfl
set_option maxRecDepth 100000 in
theorem wd_343 : Cond.selects RX6 yX6_append yX6_append ∈ lw_tbl := in_t2 202 rfl
set_option maxRecDepth 100000 in
theorem wd_344 : Cond.instanceMethod yX6_append ∈ lw_tbl := in_t2 201 rfl
set_option maxRecDepth 100000 in
theorem wd_345 : Cond.methodLink RX8 161 yX6_append ∈ lw_tbl := in_t2 200 rfl
set_option maxRecDepth 100000 in
theorem wd_346 : Cond.constant RJ6 267 (252645135) ∈ lw_tbl := in_t2 199 rfl
set_option maxRecDepth 100000 in
theorem wd_347 : Cond.constant RJ6 266 (858993459) ∈ lw_tbl := in_t2 198 rfl
set_option maxRecDepth 100000 in
theorem wd_348 : Cond.constant RJ6 265 (1431655765) ∈ lw_tbl := in_t2 197 rfl
set_option maxRecDepth 100000 in
theorem wd_349 : Cond.code yJ6_bitCount_0f7a4 cJ6_bitCount_0f7a4 1 (some .int) ∈ lw_tbl := in_t2 196 rfl
set_option maxRecDepth 100000 in
theorem wd_350 : Cond.initialized RJ6 ∈ lw_tbl := in_t1 14 rfl
set_option maxRecDepth 100000 in
theorem wd_351 : Cond.static yJ6_bitCount_0f7a4 ∈ lw_tbl := in_t2 195 rfl
set_option maxRecDepth 100000 in
theorem wd_352 : Cond.methodLink RX6 23 yJ6_bitCount_0f7a4 ∈ lw_tbl := in_t2 194 rfl
set_option maxRecDepth 100000 in
theorem wd_353 : Cond.code yX6_mayStand cX6_mayStand 3 (some .boolean) ∈ lw_tbl := in_t2 193 rfl
set_option maxRecDepth 100000 in
theorem wd_354 : Cond.static yX6_mayStand ∈ lw_tbl := in_t2 192 rfl
set_option maxRecDepth 100000 in
theorem wd_355 : Cond.methodLink RX8 157 yX6_mayStand ∈ lw_tbl := in_t2 191 rfl
set_option maxRecDepth 100000 in
theorem wd_356 : Cond.selects RX8 yX8_weigh yX8_weigh ∈ lw_tbl := in_t2 189 rfl
set_option maxRecDepth 100000 in
theorem wd_357 : Cond.instanceMethod yX8_weigh ∈ lw_tbl := in_t2 188 rfl
set_option maxRecDepth 100000 in
theorem wd_358 : Cond.methodLink RL 90 yX8_weigh ∈ lw_tbl := in_t2 187 rfl
set_option maxRecDepth 100000 in
theorem wd_359 : Cond.code yX8_unweigh cX8_unweigh 2 (some .int) ∈ lw_tbl := in_t2 211 rfl
set_option maxRecDepth 100000 in
theorem wd_360 : Cond.code yX6_clear cX6_clear 1 none ∈ lw_tbl := in_t2 215 rfl
set_option maxRecDepth 100000 in
theorem wd_361 : Cond.selects RX6 yX6_clear yX6_clear ∈ lw_tbl := in_t2 214 rfl
set_option maxRecDepth 100000 in
theorem wd_362 : Cond.instanceMethod yX6_clear ∈ lw_tbl := in_t2 213 rfl
set_option maxRecDepth 100000 in
theorem wd_363 : Cond.methodLink RX8 165 yX6_clear ∈ lw_tbl := in_t2 212 rfl
set_option maxRecDepth 100000 in
theorem wd_364 : Cond.selects RX8 yX8_unweigh yX8_unweigh ∈ lw_tbl := in_t2 210 rfl
set_option maxRecDepth 100000 in
theorem wd_365 : Cond.instanceMethod yX8_unweigh ∈ lw_tbl := in_t2 209 rfl
set_option maxRecDepth 100000 in
theorem wd_366 : Cond.methodLink RL 94 yX8_unweigh ∈ lw_tbl := in_t2 208 rfl
set_option maxRecDepth 100000 in
theorem wd_367 : Cond.code yX8_mayBe cX8_mayBe 2 (some .int) ∈ lw_tbl := in_t2 219 rfl
set_option maxRecDepth 100000 in
theorem wd_368 : Cond.code yX6_suspectsBy cX6_suspectsBy 4 (some .int) ∈ lw_tbl := in_t2 227 rfl
set_option maxRecDepth 100000 in
theorem wd_369 : Cond.selects RX6 yX6_suspectsBy yX6_suspectsBy ∈ lw_tbl := in_tp 6 rfl
set_option maxRecDepth 100000 in
theorem wd_370 : Cond.instanceMethod yX6_suspectsBy ∈ lw_tbl := in_t2 226 rfl
set_option maxRecDepth 100000 in
theorem wd_371 : Cond.methodLink RX6 29 yX6_suspectsBy ∈ lw_tbl := in_t2 224 rfl
set_option maxRecDepth 100000 in
theorem wd_372 : Cond.code yX6_suspects cX6_suspects 4 (some .int) ∈ lw_tbl := in_t2 223 rfl
set_option maxRecDepth 100000 in
theorem wd_373 : Cond.selects RX6 yX6_suspects yX6_suspects ∈ lw_tbl := in_t2 222 rfl
set_option maxRecDepth 100000 in
theorem wd_374 : Cond.instanceMethod yX6_suspects ∈ lw_tbl := in_t2 221 rfl
set_option maxRecDepth 100000 in
theorem wd_375 : Cond.methodLink RX8 166 yX6_suspects ∈ lw_tbl := in_t2 220 rfl
set_option maxRecDepth 100000 in
theorem wd_376 : Cond.selects RX8 yX8_mayBe yX8_mayBe ∈ lw_tbl := in_t2 218 rfl
set_option maxRecDepth 100000 in
theorem wd_377 : Cond.instanceMethod yX8_mayBe ∈ lw_tbl := in_t2 217 rfl
set_option maxRecDepth 100000 in
theorem wd_378 : Cond.methodLink RL 98 yX8_mayBe ∈ lw_tbl := in_t2 216 rfl
set_option maxRecDepth 100000 in
theorem wd_379 : Cond.code yX8_search cX8_search 3 (some .int) ∈ lw_tbl := in_t2 231 rfl
set_option maxRecDepth 100000 in
theorem wd_380 : Cond.code yX4_length cX4_length 1 (some .int) ∈ lw_tbl := in_t2 239 rfl
set_option maxRecDepth 100000 in
theorem wd_381 : Cond.selects RX4 yX4_length yX4_length ∈ lw_tbl := in_t2 238 rfl
set_option maxRecDepth 100000 in
theorem wd_382 : Cond.instanceMethod yX4_length ∈ lw_tbl := in_t2 237 rfl
set_option maxRecDepth 100000 in
theorem wd_383 : Cond.methodLink RX8 172 yX4_length ∈ lw_tbl := in_t2 236 rfl
set_option maxRecDepth 100000 in
theorem wd_384 : Cond.code yX4_append cX4_append 3 (some .boolean) ∈ lw_tbl := in_t2 235 rfl
set_option maxRecDepth 100000 in
theorem wd_385 : Cond.selects RX4 yX4_append yX4_append ∈ lw_tbl := in_t2 234 rfl
set_option maxRecDepth 100000 in
theorem wd_386 : Cond.instanceMethod yX4_append ∈ lw_tbl := in_t2 233 rfl
set_option maxRecDepth 100000 in
theorem wd_387 : Cond.methodLink RX8 170 yX4_append ∈ lw_tbl := in_t2 232 rfl
set_option maxRecDepth 100000 in
theorem wd_388 : Cond.selects RX8 yX8_search yX8_search ∈ lw_tbl := in_t2 230 rfl
set_option maxRecDepth 100000 in
theorem wd_389 : Cond.instanceMethod yX8_search ∈ lw_tbl := in_t2 229 rfl
set_option maxRecDepth 100000 in
theorem wd_390 : Cond.methodLink RL 103 yX8_search ∈ lw_tbl := in_t2 228 rfl
set_option maxRecDepth 100000 in
theorem wd_391 : Cond.code yX8_unsearch cX8_unsearch 2 (some .int) ∈ lw_tbl := in_t3 3 rfl
set_option maxRecDepth 100000 in
theorem wd_392 : Cond.code yX4_clear cX4_clear 1 none ∈ lw_tbl := in_t3 7 rfl
set_option maxRecDepth 100000 in
theorem wd_393 : Cond.selects RX4 yX4_clear yX4_clear ∈ lw_tbl := in_t3 6 rfl
set_option maxRecDepth 100000 in
theorem wd_394 : Cond.instanceMethod yX4_clear ∈ lw_tbl := in_t3 5 rfl
set_option maxRecDepth 100000 in
theorem wd_395 : Cond.methodLink RX8 173 yX4_clear ∈ lw_tbl := in_t3 4 rfl
set_option maxRecDepth 100000 in
theorem wd_396 : Cond.selects RX8 yX8_unsearch yX8_unsearch ∈ lw_tbl := in_t3 2 rfl
set_option maxRecDepth 100000 in
theorem wd_397 : Cond.instanceMethod yX8_unsearch ∈ lw_tbl := in_t3 1 rfl
set_option maxRecDepth 100000 in
theorem wd_398 : Cond.methodLink RL 107 yX8_unsearch ∈ lw_tbl := in_t3 0 rfl
set_option maxRecDepth 100000 in
theorem wd_399 : Cond.code yX8_rows cX8_rows 1 (some .int) ∈ lw_tbl := in_t3 11 rfl
set_option maxRecDepth 100000 in
theorem wd_400 : Cond.code yX4_fewestFor cX4_fewestFor 5 (some .int) ∈ lw_tbl := in_t3 23 rfl
set_option maxRecDepth 100000 in
theorem wd_401 : Cond.selects RX4 yX4_fewestFor yX4_fewestFor ∈ lw_tbl := in_tp 7 rfl
set_option maxRecDepth 100000 in
theorem wd_402 : Cond.instanceMethod yX4_fewestFor ∈ lw_tbl := in_t3 22 rfl
set_option maxRecDepth 100000 in
theorem wd_403 : Cond.methodLink RX4 47 yX4_fewestFor ∈ lw_tbl := in_t3 20 rfl
set_option maxRecDepth 100000 in
theorem wd_404 : Cond.code yX4_rowsFrom cX4_rowsFrom 6 (some .int) ∈ lw_tbl := in_t3 19 rfl
set_option maxRecDepth 100000 in
theorem wd_405 : Cond.static yX4_rowsFrom ∈ lw_tbl := in_t3 18 rfl
set_option maxRecDepth 100000 in
theorem wd_406 : Cond.methodLink RX4 43 yX4_rowsFrom ∈ lw_tbl := in_t3 17 rfl
set_option maxRecDepth 100000 in
theorem wd_407 : Cond.methodLink RX4 37 yJ7_fill_53178 ∈ lw_tbl := in_t3 16 rfl
set_option maxRecDepth 100000 in
theorem wd_408 : Cond.code yX4_fittingRows cX4_fittingRows 1 (some .int) ∈ lw_tbl := in_t3 15 rfl
set_option maxRecDepth 100000 in
theorem wd_409 : Cond.selects RX4 yX4_fittingRows yX4_fittingRows ∈ lw_tbl := in_t3 14 rfl
set_option maxRecDepth 100000 in
theorem wd_410 : Cond.instanceMethod yX4_fittingRows ∈ lw_tbl := in_t3 13 rfl
set_option maxRecDepth 100000 in
theorem wd_411 : Cond.methodLink RX8 174 yX4_fittingRows ∈ lw_tbl := in_t3 12 rfl
set_option maxRecDepth 100000 in
theorem wd_412 : Cond.instanceMethod yX4_anySearched ∈ lw_tbl := in_t3 37 rfl
set_option maxRecDepth 100000 in
theorem wd_413 : Cond.methodLink RX4 54 yX4_anySearched ∈ lw_tbl := in_t3 35 rfl
set_option maxRecDepth 100000 in
theorem wd_414 : Cond.methodLink RX4 81 Lib.Math.min.name ∈ lw_tbl := in_t3 34 rfl
set_option maxRecDepth 100000 in
theorem wd_415 : Cond.code yX4_greatestFor cX4_greatestFor 4 (some .int) ∈ lw_tbl := in_t3 33 rfl
set_option maxRecDepth 100000 in
theorem wd_416 : Cond.selects RX4 yX4_greatestFor yX4_greatestFor ∈ lw_tbl := in_tp 9 rfl
set_option maxRecDepth 100000 in
theorem wd_417 : Cond.instanceMethod yX4_greatestFor ∈ lw_tbl := in_t3 32 rfl
set_option maxRecDepth 100000 in
theorem wd_418 : Cond.methodLink RX4 51 yX4_greatestFor ∈ lw_tbl := in_t3 30 rfl
set_option maxRecDepth 100000 in
theorem wd_419 : Cond.methodLink RX4 70 yJ6_bitCount_0f7a4 ∈ lw_tbl := in_t3 28 rfl
set_option maxRecDepth 100000 in
theorem wd_420 : Cond.code yX4_isIn cX4_isIn 3 (some .boolean) ∈ lw_tbl := in_t3 27 rfl
set_option maxRecDepth 100000 in
theorem wd_421 : Cond.selects RX4 yX4_isIn yX4_isIn ∈ lw_tbl := in_tp 8 rfl
set_option maxRecDepth 100000 in
theorem wd_422 : Cond.instanceMethod yX4_isIn ∈ lw_tbl := in_t3 26 rfl
set_option maxRecDepth 100000 in
theorem wd_423 : Cond.methodLink RX4 66 yX4_isIn ∈ lw_tbl := in_t3 24 rfl
set_option maxRecDepth 100000 in
theorem wd_424 : Cond.methodLink RX4 75 Lib.Math.max.name ∈ lw_tbl := in_t3 29 rfl
set_option maxRecDepth 100000 in
theorem wd_425 : Cond.code yX4_give cX4_give 4 none ∈ lw_tbl := in_t3 46 rfl
set_option maxRecDepth 100000 in
theorem wd_426 : Cond.selects RX4 yX4_give yX4_give ∈ lw_tbl := in_tp 12 rfl
set_option maxRecDepth 100000 in
theorem wd_427 : Cond.instanceMethod yX4_give ∈ lw_tbl := in_t3 45 rfl
set_option maxRecDepth 100000 in
theorem wd_428 : Cond.methodLink RX4 62 yX4_give ∈ lw_tbl := in_t3 43 rfl
set_option maxRecDepth 100000 in
theorem wd_429 : Cond.code yX4_noted cX4_noted 5 (some .int) ∈ lw_tbl := in_t3 42 rfl
set_option maxRecDepth 100000 in
theorem wd_430 : Cond.selects RX4 yX4_noted yX4_noted ∈ lw_tbl := in_tp 11 rfl
set_option maxRecDepth 100000 in
theorem wd_431 : Cond.instanceMethod yX4_noted ∈ lw_tbl := in_t3 41 rfl
set_option maxRecDepth 100000 in
theorem wd_432 : Cond.methodLink RX4 58 yX4_noted ∈ lw_tbl := in_t3 39 rfl
set_option maxRecDepth 100000 in
theorem wd_433 : Cond.code yX4_anySearched cX4_anySearched 3 (some .boolean) ∈ lw_tbl := in_t3 38 rfl
set_option maxRecDepth 100000 in
theorem wd_434 : Cond.selects RX4 yX4_anySearched yX4_anySearched ∈ lw_tbl := in_tp 10 rfl
set_option maxRecDepth 100000 in
theorem wd_435 : Cond.selects RX8 yX8_rows yX8_rows ∈ lw_tbl := in_t3 10 rfl
set_option maxRecDepth 100000 in
theorem wd_436 : Cond.instanceMethod yX8_rows ∈ lw_tbl := in_t3 9 rfl
set_option maxRecDepth 100000 in
theorem wd_437 : Cond.methodLink RL 111 yX8_rows ∈ lw_tbl := in_t3 8 rfl
set_option maxRecDepth 100000 in
theorem wd_438 : Cond.code yX8_stones cX8_stones 3 (some .int) ∈ lw_tbl := in_t3 50 rfl
set_option maxRecDepth 100000 in
theorem wd_439 : Cond.code yX4_leastOf cX4_leastOf 2 (some .int) ∈ lw_tbl := in_t3 58 rfl
set_option maxRecDepth 100000 in
theorem wd_440 : Cond.selects RX4 yX4_leastOf yX4_leastOf ∈ lw_tbl := in_t3 57 rfl
set_option maxRecDepth 100000 in
theorem wd_441 : Cond.instanceMethod yX4_leastOf ∈ lw_tbl := in_t3 56 rfl
set_option maxRecDepth 100000 in
theorem wd_442 : Cond.methodLink RX8 180 yX4_leastOf ∈ lw_tbl := in_t3 55 rfl
set_option maxRecDepth 100000 in
theorem wd_443 : Cond.code yX4_mostOf cX4_mostOf 2 (some .int) ∈ lw_tbl := in_t3 54 rfl
set_option maxRecDepth 100000 in
theorem wd_444 : Cond.selects RX4 yX4_mostOf yX4_mostOf ∈ lw_tbl := in_t3 53 rfl
set_option maxRecDepth 100000 in
theorem wd_445 : Cond.instanceMethod yX4_mostOf ∈ lw_tbl := in_t3 52 rfl
set_option maxRecDepth 100000 in
theorem wd_446 : Cond.methodLink RX8 177 yX4_mostOf ∈ lw_tbl := in_t3 51 rfl
set_option maxRecDepth 100000 in
theorem wd_447 : Cond.selects RX8 yX8_stones yX8_stones ∈ lw_tbl := in_t3 49 rfl
set_option maxRecDepth 100000 in
theorem wd_448 : Cond.instanceMethod yX8_stones ∈ lw_tbl := in_t3 48 rfl
set_option maxRecDepth 100000 in
theorem wd_449 : Cond.methodLink RL 115 yX8_stones ∈ lw_tbl := in_t3 47 rfl
set_option maxRecDepth 100000 in
theorem wd_450 : Cond.code yX8_ruled cX8_ruled 2 (some .int) ∈ lw_tbl := in_t3 62 rfl
set_option maxRecDepth 100000 in
theorem wd_451 : Cond.code yX3_length cX3_length 1 (some .int) ∈ lw_tbl := in_t3 70 rfl
set_option maxRecDepth 100000 in
theorem wd_452 : Cond.selects RX3 yX3_length yX3_length ∈ lw_tbl := in_t3 69 rfl
set_option maxRecDepth 100000 in
theorem wd_453 : Cond.instanceMethod yX3_length ∈ lw_tbl := in_t3 68 rfl
set_option maxRecDepth 100000 in
theorem wd_454 : Cond.methodLink RX8 185 yX3_length ∈ lw_tbl := in_t3 67 rfl
set_option maxRecDepth 100000 in
theorem wd_455 : Cond.code yX3_append cX3_append 2 (some .boolean) ∈ lw_tbl := in_t3 66 rfl
set_option maxRecDepth 100000 in
theorem wd_456 : Cond.selects RX3 yX3_append yX3_append ∈ lw_tbl := in_t3 65 rfl
set_option maxRecDepth 100000 in
theorem wd_457 : Cond.instanceMethod yX3_append ∈ lw_tbl := in_t3 64 rfl
set_option maxRecDepth 100000 in
theorem wd_458 : Cond.methodLink RX8 183 yX3_append ∈ lw_tbl := in_t3 63 rfl
set_option maxRecDepth 100000 in
theorem wd_459 : Cond.selects RX8 yX8_ruled yX8_ruled ∈ lw_tbl := in_t3 61 rfl
set_option maxRecDepth 100000 in
theorem wd_460 : Cond.instanceMethod yX8_ruled ∈ lw_tbl := in_t3 60 rfl
set_option maxRecDepth 100000 in
theorem wd_461 : Cond.methodLink RL 120 yX8_ruled ∈ lw_tbl := in_t3 59 rfl
set_option maxRecDepth 100000 in
theorem wd_462 : Cond.code yX8_unrule cX8_unrule 2 (some .int) ∈ lw_tbl := in_t3 74 rfl
set_option maxRecDepth 100000 in
theorem wd_463 : Cond.code yX3_clear cX3_clear 1 none ∈ lw_tbl := in_t3 78 rfl
set_option maxRecDepth 100000 in
theorem wd_464 : Cond.selects RX3 yX3_clear yX3_clear ∈ lw_tbl := in_t3 77 rfl
set_option maxRecDepth 100000 in
theorem wd_465 : Cond.instanceMethod yX3_clear ∈ lw_tbl := in_t3 76 rfl
set_option maxRecDepth 100000 in
theorem wd_466 : Cond.methodLink RX8 186 yX3_clear ∈ lw_tbl := in_t3 75 rfl
set_option maxRecDepth 100000 in
theorem wd_467 : Cond.selects RX8 yX8_unrule yX8_unrule ∈ lw_tbl := in_t3 73 rfl
set_option maxRecDepth 100000 in
theorem wd_468 : Cond.instanceMethod yX8_unrule ∈ lw_tbl := in_t3 72 rfl
set_option maxRecDepth 100000 in
theorem wd_469 : Cond.methodLink RL 124 yX8_unrule ∈ lw_tbl := in_t3 71 rfl
set_option maxRecDepth 100000 in
theorem wd_470 : Cond.code yX8_line cX8_line 1 (some .long) ∈ lw_tbl := in_t3 82 rfl
set_option maxRecDepth 100000 in
theorem wd_471 : Cond.methodLink RX3 26 yX2_size ∈ lw_tbl := in_t3 88 rfl
set_option maxRecDepth 100000 in
theorem wd_472 : Cond.fieldLink RX3 48 "LightestRules$RulersLine" "STRIDES" "[I" ∈ lw_tbl := in_t3 94 rfl
set_option maxRecDepth 100000 in
theorem wd_473 : Cond.methodLink RX3 32 Lib.Math.min.name ∈ lw_tbl := in_t3 89 rfl
set_option maxRecDepth 100000 in
theorem wd_474 : Cond.code yX3_fittingMeals cX3_fittingMeals 6 (some .long) ∈ lw_tbl := in_t3 87 rfl
set_option maxRecDepth 100000 in
theorem wd_475 : Cond.selects RX3 yX3_fittingMeals yX3_fittingMeals ∈ lw_tbl := in_t3 86 rfl
set_option maxRecDepth 100000 in
theorem wd_476 : Cond.instanceMethod yX3_fittingMeals ∈ lw_tbl := in_t3 85 rfl
set_option maxRecDepth 100000 in
theorem wd_477 : Cond.methodLink RX8 189 yX3_fittingMeals ∈ lw_tbl := in_t3 84 rfl
set_option maxRecDepth 100000 in
theorem wd_478 : Cond.constantLong RX8 187 (-3) ∈ lw_tbl := in_t3 83 rfl
set_option maxRecDepth 100000 in
theorem wd_479 : Cond.selects RX3 yX3_strikeOut yX3_strikeOut ∈ lw_tbl := in_tp 14 rfl
set_option maxRecDepth 100000 in
theorem wd_480 : Cond.instanceMethod yX3_strikeOut ∈ lw_tbl := in_t3 102 rfl
set_option maxRecDepth 100000 in
theorem wd_481 : Cond.methodLink RX3 55 yX3_strikeOut ∈ lw_tbl := in_t3 100 rfl
set_option maxRecDepth 100000 in
theorem wd_482 : Cond.code yX3_letEat cX3_letEat 6 none ∈ lw_tbl := in_t3 99 rfl
set_option maxRecDepth 100000 in
theorem wd_483 : Cond.selects RX3 yX3_letEat yX3_letEat ∈ lw_tbl := in_tp 13 rfl
set_option maxRecDepth 100000 in
theorem wd_484 : Cond.instanceMethod yX3_letEat ∈ lw_tbl := in_t3 98 rfl
set_option maxRecDepth 100000 in
theorem wd_485 : Cond.methodLink RX3 51 yX3_letEat ∈ lw_tbl := in_t3 96 rfl
set_option maxRecDepth 100000 in
theorem wd_486 : Cond.code yJ7_fill_d0a16 cJ7_fill_d0a16 5 none ∈ lw_tbl := in_t3 93 rfl
set_option maxRecDepth 100000 in
theorem wd_487 : Cond.static yJ7_fill_d0a16 ∈ lw_tbl := in_t3 92 rfl
set_option maxRecDepth 100000 in
theorem wd_488 : Cond.methodLink RX3 42 yJ7_fill_d0a16 ∈ lw_tbl := in_t3 91 rfl
set_option maxRecDepth 100000 in
theorem wd_489 : Cond.methodLink RX3 38 yX2_noonWeight ∈ lw_tbl := in_t3 90 rfl
set_option maxRecDepth 100000 in
theorem wd_490 : Cond.code yX3_sumOfWays cX3_sumOfWays 5 (some .long) ∈ lw_tbl := in_t3 111 rfl
set_option maxRecDepth 100000 in
theorem wd_491 : Cond.selects RX3 yX3_sumOfWays yX3_sumOfWays ∈ lw_tbl := in_tp 16 rfl
set_option maxRecDepth 100000 in
theorem wd_492 : Cond.instanceMethod yX3_sumOfWays ∈ lw_tbl := in_t3 110 rfl
set_option maxRecDepth 100000 in
theorem wd_493 : Cond.methodLink RX3 59 yX3_sumOfWays ∈ lw_tbl := in_t3 108 rfl
set_option maxRecDepth 100000 in
theorem wd_494 : Cond.code yX3_lightestAt cX3_lightestAt 8 (some .int) ∈ lw_tbl := in_t3 107 rfl
set_option maxRecDepth 100000 in
theorem wd_495 : Cond.selects RX3 yX3_lightestAt yX3_lightestAt ∈ lw_tbl := in_tp 15 rfl
set_option maxRecDepth 100000 in
theorem wd_496 : Cond.instanceMethod yX3_lightestAt ∈ lw_tbl := in_t3 106 rfl
set_option maxRecDepth 100000 in
theorem wd_497 : Cond.methodLink RX3 63 yX3_lightestAt ∈ lw_tbl := in_t3 104 rfl
set_option maxRecDepth 100000 in
theorem wd_498 : Cond.code yX3_strikeOut cX3_strikeOut 5 none ∈ lw_tbl := in_t3 103 rfl
set_option maxRecDepth 100000 in
theorem wd_499 : Cond.selects RX8 yX8_line yX8_line ∈ lw_tbl := in_t3 81 rfl
set_option maxRecDepth 100000 in
theorem wd_500 : Cond.instanceMethod yX8_line ∈ lw_tbl := in_t3 80 rfl
set_option maxRecDepth 100000 in
theorem wd_501 : Cond.methodLink RL 128 yX8_line ∈ lw_tbl := in_t3 79 rfl
set_option maxRecDepth 100000 in
theorem wd_502 : Cond.code yX8_seed cX8_seed 3 (some .long) ∈ lw_tbl := in_t3 115 rfl
set_option maxRecDepth 100000 in
theorem wd_503 : Cond.code yX7_sow cX7_sow 5 (some .long) ∈ lw_tbl := in_t3 119 rfl
set_option maxRecDepth 100000 in
theorem wd_504 : Cond.selects RX7 yX7_sow yX7_sow ∈ lw_tbl := in_t3 118 rfl
set_option maxRecDepth 100000 in
theorem wd_505 : Cond.instanceMethod yX7_sow ∈ lw_tbl := in_t3 117 rfl
set_option maxRecDepth 100000 in
theorem wd_506 : Cond.methodLink RX8 193 yX7_sow ∈ lw_tbl := in_t3 116 rfl
set_option maxRecDepth 100000 in
theorem wd_507 : Cond.selects RX8 yX8_seed yX8_seed ∈ lw_tbl := in_t3 114 rfl
set_option maxRecDepth 100000 in
theorem wd_508 : Cond.instanceMethod yX8_seed ∈ lw_tbl := in_t3 113 rfl
set_option maxRecDepth 100000 in
theorem wd_509 : Cond.methodLink RL 133 yX8_seed ∈ lw_tbl := in_t3 112 rfl
set_option maxRecDepth 100000 in
theorem wd_510 : Cond.code yX8_reign cX8_reign 3 (some .int) ∈ lw_tbl := in_t3 123 rfl
set_option maxRecDepth 100000 in
theorem wd_511 : Cond.code yX2_becomeLike cX2_becomeLike 2 none ∈ lw_tbl := in_t3 131 rfl
set_option maxRecDepth 100000 in
theorem wd_512 : Cond.selects RX2 yX2_becomeLike yX2_becomeLike ∈ lw_tbl := in_t3 130 rfl
set_option maxRecDepth 100000 in
theorem wd_513 : Cond.instanceMethod yX2_becomeLike ∈ lw_tbl := in_t3 129 rfl
set_option maxRecDepth 100000 in
theorem wd_514 : Cond.methodLink RX7 20 yX2_becomeLike ∈ lw_tbl := in_t3 128 rfl
set_option maxRecDepth 100000 in
theorem wd_515 : Cond.code yX7_monthsOf cX7_monthsOf 7 (some .int) ∈ lw_tbl := in_t3 127 rfl
set_option maxRecDepth 100000 in
theorem wd_516 : Cond.selects RX7 yX7_monthsOf yX7_monthsOf ∈ lw_tbl := in_t3 126 rfl
set_option maxRecDepth 100000 in
theorem wd_517 : Cond.instanceMethod yX7_monthsOf ∈ lw_tbl := in_t3 125 rfl
set_option maxRecDepth 100000 in
theorem wd_518 : Cond.methodLink RX8 197 yX7_monthsOf ∈ lw_tbl := in_t3 124 rfl
set_option maxRecDepth 100000 in
theorem wd_519 : Cond.methodLink RX7 31 yX2_gain ∈ lw_tbl := in_t3 139 rfl
set_option maxRecDepth 100000 in
theorem wd_520 : Cond.constantLong RX7 41 (1442695040888963407) ∈ lw_tbl := in_t3 138 rfl
set_option maxRecDepth 100000 in
theorem wd_521 : Cond.constantLong RX7 39 (6364136223846793005) ∈ lw_tbl := in_t3 137 rfl
set_option maxRecDepth 100000 in
theorem wd_522 : Cond.code yX7_nextOunces cX7_nextOunces 2 (some .int) ∈ lw_tbl := in_t3 136 rfl
set_option maxRecDepth 100000 in
theorem wd_523 : Cond.selects RX7 yX7_nextOunces yX7_nextOunces ∈ lw_tbl := in_tp 17 rfl
set_option maxRecDepth 100000 in
theorem wd_524 : Cond.instanceMethod yX7_nextOunces ∈ lw_tbl := in_t3 135 rfl
set_option maxRecDepth 100000 in
theorem wd_525 : Cond.methodLink RX7 28 yX7_nextOunces ∈ lw_tbl := in_t3 133 rfl
set_option maxRecDepth 100000 in
theorem wd_526 : Cond.methodLink RX7 24 yX2_size ∈ lw_tbl := in_t3 132 rfl
set_option maxRecDepth 100000 in
theorem wd_527 : Cond.methodLink RX7 35 yX2_crownedBy ∈ lw_tbl := in_t3 140 rfl
set_option maxRecDepth 100000 in
theorem wd_528 : Cond.selects RX8 yX8_reign yX8_reign ∈ lw_tbl := in_t3 122 rfl
set_option maxRecDepth 100000 in
theorem wd_529 : Cond.instanceMethod yX8_reign ∈ lw_tbl := in_t3 121 rfl
set_option maxRecDepth 100000 in
theorem wd_530 : Cond.methodLink RL 138 yX8_reign ∈ lw_tbl := in_t3 120 rfl
set_option maxRecDepth 100000 in
theorem wd_531 : Cond.code yX8_keep cX8_keep 2 (some .int) ∈ lw_tbl := in_t3 144 rfl
set_option maxRecDepth 100000 in
theorem wd_532 : Cond.methodLink RX5 23 yX2_copyTo ∈ lw_tbl := in_t3 153 rfl
set_option maxRecDepth 100000 in
theorem wd_533 : Cond.methodLink RX5 19 yX5_isSlot ∈ lw_tbl := in_t3 152 rfl
set_option maxRecDepth 100000 in
theorem wd_534 : Cond.code yX5_put cX5_put 3 none ∈ lw_tbl := in_t3 151 rfl
set_option maxRecDepth 100000 in
theorem wd_535 : Cond.selects RX5 yX5_put yX5_put ∈ lw_tbl := in_t3 150 rfl
set_option maxRecDepth 100000 in
theorem wd_536 : Cond.instanceMethod yX5_put ∈ lw_tbl := in_t3 149 rfl
set_option maxRecDepth 100000 in
theorem wd_537 : Cond.methodLink RX8 204 yX5_put ∈ lw_tbl := in_t3 148 rfl
set_option maxRecDepth 100000 in
theorem wd_538 : Cond.code yX5_isSlot cX5_isSlot 1 (some .boolean) ∈ lw_tbl := in_t3 147 rfl
set_option maxRecDepth 100000 in
theorem wd_539 : Cond.static yX5_isSlot ∈ lw_tbl := in_t3 146 rfl
set_option maxRecDepth 100000 in
theorem wd_540 : Cond.methodLink RX8 201 yX5_isSlot ∈ lw_tbl := in_t3 145 rfl
set_option maxRecDepth 100000 in
theorem wd_541 : Cond.selects RX8 yX8_keep yX8_keep ∈ lw_tbl := in_t3 143 rfl
set_option maxRecDepth 100000 in
theorem wd_542 : Cond.instanceMethod yX8_keep ∈ lw_tbl := in_t3 142 rfl
set_option maxRecDepth 100000 in
theorem wd_543 : Cond.methodLink RL 142 yX8_keep ∈ lw_tbl := in_t3 141 rfl
set_option maxRecDepth 100000 in
theorem wd_544 : Cond.code yX8_again cX8_again 2 (some .int) ∈ lw_tbl := in_t3 157 rfl
set_option maxRecDepth 100000 in
theorem wd_545 : Cond.methodLink RX5 30 yX2_copyFrom ∈ lw_tbl := in_t3 167 rfl
set_option maxRecDepth 100000 in
theorem wd_546 : Cond.methodLink RX5 27 yX5_holds ∈ lw_tbl := in_t3 166 rfl
set_option maxRecDepth 100000 in
theorem wd_547 : Cond.code yX5_bring cX5_bring 3 none ∈ lw_tbl := in_t3 165 rfl
set_option maxRecDepth 100000 in
theorem wd_548 : Cond.selects RX5 yX5_bring yX5_bring ∈ lw_tbl := in_t3 164 rfl
set_option maxRecDepth 100000 in
theorem wd_549 : Cond.instanceMethod yX5_bring ∈ lw_tbl := in_t3 163 rfl
set_option maxRecDepth 100000 in
theorem wd_550 : Cond.methodLink RX8 211 yX5_bring ∈ lw_tbl := in_t3 162 rfl
set_option maxRecDepth 100000 in
theorem wd_551 : Cond.code yX5_holds cX5_holds 2 (some .boolean) ∈ lw_tbl := in_t3 161 rfl
