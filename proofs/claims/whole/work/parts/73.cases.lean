/-! the law, a case a call -/
theorem lg_same {a : Int64} : lg_cmp a a = 0 := by
  unfold lg_cmp
  simp
theorem k_unit {E : EN} {b L i C : Nat} {xs : Nat → Int32} {h : Hp} (hL : L ≤ 3072) (hi : i + 5 < L) (hb : C + 31 < 1000000000) (hR : REL C h) (kk : ∀ (C' : Nat) (h2 : Hp), C' ≤ C + 31 → REL C' h2 → Lw E b L xs 854 (lvc E b i) [] h2) : Lw E b L xs 152 (lvc E b i) [] h := by
  obtain ⟨r, h1, h2, C', hC, e1, e2, hR'⟩ := c_unit (E := E) hb hR (sc xs i 1) (sc xs i 2) (sc xs i 3) (sc xs i 4) (sc xs i 5)
  refine l_aload_n dL_law_152 1 rfl ?_
  refine l_arg (j := 1) dL_law_153 dL_law_154 dL_law_155 dL_law_156 dL_law_157 (by decide) (by omega) hL ?_
  refine l_arg (j := 2) dL_law_158 dL_law_159 dL_law_160 dL_law_161 dL_law_162 (by decide) (by omega) hL ?_
  refine l_arg (j := 3) dL_law_163 dL_law_164 dL_law_165 dL_law_166 dL_law_167 (by decide) (by omega) hL ?_
  refine l_arg (j := 4) dL_law_168 dL_law_169 dL_law_170 dL_law_171 dL_law_172 (by decide) (by omega) hL ?_
  refine l_arg (j := 5) dL_law_173 dL_law_174 dL_law_175 dL_law_176 dL_law_177 (by decide) (by omega) hL ?_
  refine l_callV (As := [.int (sc xs i 1), .int (sc xs i 2), .int (sc xs i 3), .int (sc xs i 4), .int (sc xs i 5)]) (b2 := eA E 0) (st := []) e1 (by decide) (by decide) wd_242 wd_243 wd_244 wd_68 wd_245 hy_X5_unit (Rc.obj 0 rfl rfl) rfl (Nat.le_of_ble_eq_true rfl) dL_law_178 ?_
  refine l_aload_n dL_law_181 2 rfl ?_
  refine l_arg (j := 1) dL_law_182 dL_law_183 dL_law_184 dL_law_185 dL_law_186 (by decide) (by omega) hL ?_
  refine l_arg (j := 2) dL_law_187 dL_law_188 dL_law_189 dL_law_190 dL_law_191 (by decide) (by omega) hL ?_
  refine l_arg (j := 3) dL_law_192 dL_law_193 dL_law_194 dL_law_195 dL_law_196 (by decide) (by omega) hL ?_
  refine l_arg (j := 4) dL_law_197 dL_law_198 dL_law_199 dL_law_200 dL_law_201 (by decide) (by omega) hL ?_
  refine l_arg (j := 5) dL_law_202 dL_law_203 dL_law_204 dL_law_205 dL_law_206 (by decide) (by omega) hL ?_
  refine l_callV (As := [.int (sc xs i 1), .int (sc xs i 2), .int (sc xs i 3), .int (sc xs i 4), .int (sc xs i 5)]) (b2 := eA E 26) (st := [.int r]) e2 (by decide) (by decide) wd_834 wd_835 wd_836 wd_74 wd_837 hy_X6_unit (Rc.obj 26 rfl rfl) rfl (Nat.le_of_ble_eq_true rfl) dL_law_207 ?_
  exact l_icmp_same (tgt := 854) dL_law_210 (by decide) (kk C' h2 hC hR')
theorem k_sets {E : EN} {b L i C : Nat} {xs : Nat → Int32} {h : Hp} (hL : L ≤ 3072) (hi : i + 3 < L) (hb : C + 31 < 1000000000) (hR : REL C h) (kk : ∀ (C' : Nat) (h2 : Hp), C' ≤ C + 31 → REL C' h2 → Lw E b L xs 854 (lvc E b i) [] h2) : Lw E b L xs 215 (lvc E b i) [] h := by
  obtain ⟨r, h1, h2, C', hC, e1, e2, hR'⟩ := c_sets (E := E) hb hR (sc xs i 1) (sc xs i 2) (sc xs i 3)
  refine l_aload_n dL_law_215 1 rfl ?_
  refine l_arg (j := 1) dL_law_216 dL_law_217 dL_law_218 dL_law_219 dL_law_220 (by decide) (by omega) hL ?_
  refine l_arg (j := 2) dL_law_221 dL_law_222 dL_law_223 dL_law_224 dL_law_225 (by decide) (by omega) hL ?_
  refine l_arg (j := 3) dL_law_226 dL_law_227 dL_law_228 dL_law_229 dL_law_230 (by decide) (by omega) hL ?_
  refine l_callV (As := [.int (sc xs i 1), .int (sc xs i 2), .int (sc xs i 3)]) (b2 := eA E 0) (st := []) e1 (by decide) (by decide) wd_259 wd_260 wd_261 wd_68 wd_262 hy_X5_sets (Rc.obj 0 rfl rfl) rfl (Nat.le_of_ble_eq_true rfl) dL_law_231 ?_
  refine l_aload_n dL_law_234 2 rfl ?_
  refine l_arg (j := 1) dL_law_235 dL_law_236 dL_law_237 dL_law_238 dL_law_239 (by decide) (by omega) hL ?_
  refine l_arg (j := 2) dL_law_240 dL_law_241 dL_law_242 dL_law_243 dL_law_244 (by decide) (by omega) hL ?_
  refine l_arg (j := 3) dL_law_245 dL_law_246 dL_law_247 dL_law_248 dL_law_249 (by decide) (by omega) hL ?_
  refine l_callV (As := [.int (sc xs i 1), .int (sc xs i 2), .int (sc xs i 3)]) (b2 := eA E 26) (st := [.int r]) e2 (by decide) (by decide) wd_856 wd_857 wd_858 wd_74 wd_859 hy_X6_sets (Rc.obj 26 rfl rfl) rfl (Nat.le_of_ble_eq_true rfl) dL_law_250 ?_
  exact l_icmp_same (tgt := 854) dL_law_253 (by decide) (kk C' h2 hC hR')
theorem k_empties {E : EN} {b L i C : Nat} {xs : Nat → Int32} {h : Hp} (hL : L ≤ 3072) (hb : C + 31 < 1000000000) (hR : REL C h) (kk : ∀ (C' : Nat) (h2 : Hp), C' ≤ C + 31 → REL C' h2 → Lw E b L xs 854 (lvc E b i) [] h2) : Lw E b L xs 258 (lvc E b i) [] h := by
  obtain ⟨r, h1, h2, C', hC, e1, e2, hR'⟩ := c_empties (E := E) hb hR
  refine l_aload_n dL_law_258 1 rfl ?_
  refine l_callV (As := []) (b2 := eA E 0) (st := []) e1 (by decide) (by decide) wd_272 wd_273 wd_274 wd_68 wd_275 hy_X5_empties (Rc.obj 0 rfl rfl) rfl (Nat.le_of_ble_eq_true rfl) dL_law_259 ?_
  refine l_aload_n dL_law_262 2 rfl ?_
  refine l_callV (As := []) (b2 := eA E 26) (st := [.int r]) e2 (by decide) (by decide) wd_873 wd_874 wd_875 wd_74 wd_876 hy_X6_empties (Rc.obj 26 rfl rfl) rfl (Nat.le_of_ble_eq_true rfl) dL_law_263 ?_
  exact l_icmp_same (tgt := 854) dL_law_266 (by decide) (kk C' h2 hC hR')
theorem k_draw {E : EN} {b L i C : Nat} {xs : Nat → Int32} {h : Hp} (hL : L ≤ 3072) (hi : i + 2 < L) (hb : C + 31 < 1000000000) (hR : REL C h) (kk : ∀ (C' : Nat) (h2 : Hp), C' ≤ C + 31 → REL C' h2 → Lw E b L xs 854 (lvc E b i) [] h2) : Lw E b L xs 271 (lvc E b i) [] h := by
  obtain ⟨r, h1, h2, C', hC, e1, e2, hR'⟩ := c_draw (E := E) hb hR (sc xs i 1) (sc xs i 2)
  refine l_aload_n dL_law_271 1 rfl ?_
  refine l_arg (j := 1) dL_law_272 dL_law_273 dL_law_274 dL_law_275 dL_law_276 (by decide) (by omega) hL ?_
  refine l_arg (j := 2) dL_law_277 dL_law_278 dL_law_279 dL_law_280 dL_law_281 (by decide) (by omega) hL ?_
  refine l_callV (As := [.int (sc xs i 1), .int (sc xs i 2)]) (b2 := eA E 0) (st := []) e1 (by decide) (by decide) wd_284 wd_285 wd_286 wd_68 wd_287 hy_X5_draw (Rc.obj 0 rfl rfl) rfl (Nat.le_of_ble_eq_true rfl) dL_law_282 ?_
  refine l_aload_n dL_law_285 2 rfl ?_
  refine l_arg (j := 1) dL_law_286 dL_law_287 dL_law_288 dL_law_289 dL_law_290 (by decide) (by omega) hL ?_
  refine l_arg (j := 2) dL_law_291 dL_law_292 dL_law_293 dL_law_294 dL_law_295 (by decide) (by omega) hL ?_
  refine l_callV (As := [.int (sc xs i 1), .int (sc xs i 2)]) (b2 := eA E 26) (st := [.int r]) e2 (by decide) (by decide) wd_881 wd_882 wd_883 wd_74 wd_884 hy_X6_draw (Rc.obj 26 rfl rfl) rfl (Nat.le_of_ble_eq_true rfl) dL_law_296 ?_
  exact l_icmp_same (tgt := 854) dL_law_299 (by decide) (kk C' h2 hC hR')
theorem k_of {E : EN} {b L i C : Nat} {xs : Nat → Int32} {h : Hp} (hL : L ≤ 3072) (hi : i + 2 < L) (hb : C + 31 < 1000000000) (hR : REL C h) (kk : ∀ (C' : Nat) (h2 : Hp), C' ≤ C + 31 → REL C' h2 → Lw E b L xs 854 (lvc E b i) [] h2) : Lw E b L xs 304 (lvc E b i) [] h := by
  obtain ⟨r, h1, h2, C', hC, e1, e2, hR'⟩ := c_of (E := E) hb hR (sc xs i 1) (sc xs i 2)
  refine l_aload_n dL_law_304 1 rfl ?_
  refine l_arg (j := 1) dL_law_305 dL_law_306 dL_law_307 dL_law_308 dL_law_309 (by decide) (by omega) hL ?_
  refine l_arg (j := 2) dL_law_310 dL_law_311 dL_law_312 dL_law_313 dL_law_314 (by decide) (by omega) hL ?_
  refine l_callV (As := [.int (sc xs i 1), .int (sc xs i 2)]) (b2 := eA E 0) (st := []) e1 (by decide) (by decide) wd_314 wd_315 wd_316 wd_68 wd_317 hy_X5_of (Rc.obj 0 rfl rfl) rfl (Nat.le_of_ble_eq_true rfl) dL_law_315 ?_
  refine l_aload_n dL_law_318 2 rfl ?_
  refine l_arg (j := 1) dL_law_319 dL_law_320 dL_law_321 dL_law_322 dL_law_323 (by decide) (by omega) hL ?_
  refine l_arg (j := 2) dL_law_324 dL_law_325 dL_law_326 dL_law_327 dL_law_328 (by decide) (by omega) hL ?_
  refine l_callV (As := [.int (sc xs i 1), .int (sc xs i 2)]) (b2 := eA E 26) (st := [.int r]) e2 (by decide) (by decide) wd_900 wd_901 wd_902 wd_74 wd_903 hy_X6_of (Rc.obj 26 rfl rfl) rfl (Nat.le_of_ble_eq_true rfl) dL_law_329 ?_
  exact l_icmp_same (tgt := 854) dL_law_332 (by decide) (kk C' h2 hC hR')
theorem k_all {E : EN} {b L i C : Nat} {xs : Nat → Int32} {h : Hp} (hL : L ≤ 3072) (hi : i + 1 < L) (hb : C + 31 < 1000000000) (hR : REL C h) (kk : ∀ (C' : Nat) (h2 : Hp), C' ≤ C + 31 → REL C' h2 → Lw E b L xs 854 (lvc E b i) [] h2) : Lw E b L xs 337 (lvc E b i) [] h := by
  obtain ⟨r, h1, h2, C', hC, e1, e2, hR'⟩ := c_all (E := E) hb hR (sc xs i 1)
  refine l_aload_n dL_law_337 1 rfl ?_
  refine l_arg (j := 1) dL_law_338 dL_law_339 dL_law_340 dL_law_341 dL_law_342 (by decide) (by omega) hL ?_
  refine l_callV (As := [.int (sc xs i 1)]) (b2 := eA E 0) (st := []) e1 (by decide) (by decide) wd_327 wd_328 wd_329 wd_68 wd_330 hy_X5_all (Rc.obj 0 rfl rfl) rfl (Nat.le_of_ble_eq_true rfl) dL_law_343 ?_
  refine l_aload_n dL_law_346 2 rfl ?_
  refine l_arg (j := 1) dL_law_347 dL_law_348 dL_law_349 dL_law_350 dL_law_351 (by decide) (by omega) hL ?_
  refine l_callV (As := [.int (sc xs i 1)]) (b2 := eA E 26) (st := [.int r]) e2 (by decide) (by decide) wd_908 wd_909 wd_910 wd_74 wd_911 hy_X6_all (Rc.obj 26 rfl rfl) rfl (Nat.le_of_ble_eq_true rfl) dL_law_352 ?_
  exact l_icmp_same (tgt := 854) dL_law_355 (by decide) (kk C' h2 hC hR')
theorem k_method {E : EN} {b L i C : Nat} {xs : Nat → Int32} {h : Hp} (hL : L ≤ 3072) (hi : i + 1 < L) (hb : C + 31 < 1000000000) (hR : REL C h) (kk : ∀ (C' : Nat) (h2 : Hp), C' ≤ C + 31 → REL C' h2 → Lw E b L xs 854 (lvc E b i) [] h2) : Lw E b L xs 360 (lvc E b i) [] h := by
  obtain ⟨r, h1, h2, C', hC, e1, e2, hR'⟩ := c_method (E := E) hb hR (sc xs i 1)
  refine l_aload_n dL_law_360 1 rfl ?_
  refine l_arg (j := 1) dL_law_361 dL_law_362 dL_law_363 dL_law_364 dL_law_365 (by decide) (by omega) hL ?_
  refine l_callV (As := [.int (sc xs i 1)]) (b2 := eA E 0) (st := []) e1 (by decide) (by decide) wd_335 wd_336 wd_337 wd_68 wd_338 hy_X5_method (Rc.obj 0 rfl rfl) rfl (Nat.le_of_ble_eq_true rfl) dL_law_366 ?_
  refine l_aload_n dL_law_369 2 rfl ?_
  refine l_arg (j := 1) dL_law_370 dL_law_371 dL_law_372 dL_law_373 dL_law_374 (by decide) (by omega) hL ?_
  refine l_callV (As := [.int (sc xs i 1)]) (b2 := eA E 26) (st := [.int r]) e2 (by decide) (by decide) wd_922 wd_923 wd_924 wd_74 wd_925 hy_X6_method (Rc.obj 26 rfl rfl) rfl (Nat.le_of_ble_eq_true rfl) dL_law_375 ?_
  exact l_icmp_same (tgt := 854) dL_law_378 (by decide) (kk C' h2 hC hR')
theorem k_walk {E : EN} {b L i C : Nat} {xs : Nat → Int32} {h : Hp} (hL : L ≤ 3072) (hi : i + 1 < L) (hb : C + 31 < 1000000000) (hR : REL C h) (kk : ∀ (C' : Nat) (h2 : Hp), C' ≤ C + 31 → REL C' h2 → Lw E b L xs 854 (lvc E b i) [] h2) : Lw E b L xs 383 (lvc E b i) [] h := by
  obtain ⟨r, h1, h2, C', hC, e1, e2, hR'⟩ := c_walk (E := E) hb hR (sc xs i 1)
  refine l_aload_n dL_law_383 1 rfl ?_
  refine l_arg (j := 1) dL_law_384 dL_law_385 dL_law_386 dL_law_387 dL_law_388 (by decide) (by omega) hL ?_
  refine l_callV (As := [.int (sc xs i 1)]) (b2 := eA E 0) (st := []) e1 (by decide) (by decide) wd_343 wd_344 wd_345 wd_68 wd_346 hy_X5_walk (Rc.obj 0 rfl rfl) rfl (Nat.le_of_ble_eq_true rfl) dL_law_389 ?_
  refine l_aload_n dL_law_392 2 rfl ?_
  refine l_arg (j := 1) dL_law_393 dL_law_394 dL_law_395 dL_law_396 dL_law_397 (by decide) (by omega) hL ?_
  refine l_callV (As := [.int (sc xs i 1)]) (b2 := eA E 26) (st := [.int r]) e2 (by decide) (by decide) wd_926 wd_927 wd_928 wd_74 wd_929 hy_X6_walk (Rc.obj 26 rfl rfl) rfl (Nat.le_of_ble_eq_true rfl) dL_law_398 ?_
  exact l_icmp_same (tgt := 854) dL_law_401 (by decide) (kk C' h2 hC hR')
theorem k_was {E : EN} {b L i C : Nat} {xs : Nat → Int32} {h : Hp} (hL : L ≤ 3072) (hi : i + 1 < L) (hb : C + 31 < 1000000000) (hR : REL C h) (kk : ∀ (C' : Nat) (h2 : Hp), C' ≤ C + 31 → REL C' h2 → Lw E b L xs 854 (lvc E b i) [] h2) : Lw E b L xs 406 (lvc E b i) [] h := by
  obtain ⟨r, h1, h2, C', hC, e1, e2, hR'⟩ := c_was (E := E) hb hR (sc xs i 1)
  refine l_aload_n dL_law_406 1 rfl ?_
  refine l_arg (j := 1) dL_law_407 dL_law_408 dL_law_409 dL_law_410 dL_law_411 (by decide) (by omega) hL ?_
  refine l_callV (As := [.int (sc xs i 1)]) (b2 := eA E 0) (st := []) e1 (by decide) (by decide) wd_439 wd_440 wd_441 wd_68 wd_442 hy_X5_was (Rc.obj 0 rfl rfl) rfl (Nat.le_of_ble_eq_true rfl) dL_law_412 ?_
  refine l_aload_n dL_law_415 2 rfl ?_
  refine l_arg (j := 1) dL_law_416 dL_law_417 dL_law_418 dL_law_419 dL_law_420 (by decide) (by omega) hL ?_
  refine l_callV (As := [.int (sc xs i 1)]) (b2 := eA E 26) (st := [.int r]) e2 (by decide) (by decide) wd_987 wd_988 wd_989 wd_74 wd_990 hy_X6_was (Rc.obj 26 rfl rfl) rfl (Nat.le_of_ble_eq_true rfl) dL_law_421 ?_
  exact l_icmp_same (tgt := 854) dL_law_424 (by decide) (kk C' h2 hC hR')
theorem k_play {E : EN} {b L i C : Nat} {xs : Nat → Int32} {h : Hp} (hL : L ≤ 3072) (hi : i + 2 < L) (hb : C + 31 < 1000000000) (hR : REL C h) (kk : ∀ (C' : Nat) (h2 : Hp), C' ≤ C + 31 → REL C' h2 → Lw E b L xs 854 (lvc E b i) [] h2) : Lw E b L xs 429 (lvc E b i) [] h := by
  obtain ⟨r, h1, h2, C', hC, e1, e2, hR'⟩ := c_play (E := E) hb hR (sc xs i 1) (sc xs i 2)
  refine l_aload_n dL_law_429 1 rfl ?_
  refine l_arg (j := 1) dL_law_430 dL_law_431 dL_law_432 dL_law_433 dL_law_434 (by decide) (by omega) hL ?_
  refine l_arg (j := 2) dL_law_435 dL_law_436 dL_law_437 dL_law_438 dL_law_439 (by decide) (by omega) hL ?_
  refine l_callV (As := [.int (sc xs i 1), .int (sc xs i 2)]) (b2 := eA E 0) (st := []) e1 (by decide) (by decide) wd_447 wd_448 wd_449 wd_68 wd_450 hy_X5_play (Rc.obj 0 rfl rfl) rfl (Nat.le_of_ble_eq_true rfl) dL_law_440 ?_
  refine l_aload_n dL_law_443 2 rfl ?_
  refine l_arg (j := 1) dL_law_444 dL_law_445 dL_law_446 dL_law_447 dL_law_448 (by decide) (by omega) hL ?_
  refine l_arg (j := 2) dL_law_449 dL_law_450 dL_law_451 dL_law_452 dL_law_453 (by decide) (by omega) hL ?_
  refine l_callV (As := [.int (sc xs i 1), .int (sc xs i 2)]) (b2 := eA E 26) (st := [.int r]) e2 (by decide) (by decide) wd_995 wd_996 wd_997 wd_74 wd_998 hy_X6_play (Rc.obj 26 rfl rfl) rfl (Nat.le_of_ble_eq_true rfl) dL_law_454 ?_
  exact l_icmp_same (tgt := 854) dL_law_457 (by decide) (kk C' h2 hC hR')
theorem k_counted {E : EN} {b L i C : Nat} {xs : Nat → Int32} {h : Hp} (hL : L ≤ 3072) (hi : i + 1 < L) (hb : C + 31 < 1000000000) (hR : REL C h) (kk : ∀ (C' : Nat) (h2 : Hp), C' ≤ C + 31 → REL C' h2 → Lw E b L xs 854 (lvc E b i) [] h2) : Lw E b L xs 462 (lvc E b i) [] h := by
  obtain ⟨r, h1, h2, C', hC, e1, e2, hR'⟩ := c_counted (E := E) hb hR (sc xs i 1)
  refine l_aload_n dL_law_462 1 rfl ?_
  refine l_arg (j := 1) dL_law_463 dL_law_464 dL_law_465 dL_law_466 dL_law_467 (by decide) (by omega) hL ?_
  refine l_callV (As := [.int (sc xs i 1)]) (b2 := eA E 0) (st := []) e1 (by decide) (by decide) wd_455 wd_456 wd_457 wd_68 wd_458 hy_X5_counted (Rc.obj 0 rfl rfl) rfl (Nat.le_of_ble_eq_true rfl) dL_law_468 ?_
  refine l_aload_n dL_law_471 2 rfl ?_
  refine l_arg (j := 1) dL_law_472 dL_law_473 dL_law_474 dL_law_475 dL_law_476 (by decide) (by omega) hL ?_
  refine l_callV (As := [.int (sc xs i 1)]) (b2 := eA E 26) (st := [.long r]) e2 (by decide) (by decide) wd_1000 wd_1001 wd_1002 wd_74 wd_1003 hy_X6_counted (Rc.obj 26 rfl rfl) rfl (Nat.le_of_ble_eq_true rfl) dL_law_477 ?_
  refine l_lcmp dL_law_480 ?_
  exact l_if_zero (tgt := 854) lg_same dL_law_481 (by decide) (kk C' h2 hC hR')
theorem k_inside {E : EN} {b L i C : Nat} {xs : Nat → Int32} {h : Hp} (hL : L ≤ 3072) (hi : i + 1 < L) (hb : C + 31 < 1000000000) (hR : REL C h) (kk : ∀ (C' : Nat) (h2 : Hp), C' ≤ C + 31 → REL C' h2 → Lw E b L xs 854 (lvc E b i) [] h2) : Lw E b L xs 486 (lvc E b i) [] h := by
  obtain ⟨r, h1, h2, C', hC, e1, e2, hR'⟩ := c_inside (E := E) hb hR (sc xs i 1)
  refine l_aload_n dL_law_486 1 rfl ?_
  refine l_arg (j := 1) dL_law_487 dL_law_488 dL_law_489 dL_law_490 dL_law_491 (by decide) (by omega) hL ?_
  refine l_callV (As := [.int (sc xs i 1)]) (b2 := eA E 0) (st := []) e1 (by decide) (by decide) wd_474 wd_475 wd_476 wd_68 wd_477 hy_X5_inside (Rc.obj 0 rfl rfl) rfl (Nat.le_of_ble_eq_true rfl) dL_law_492 ?_
  refine l_aload_n dL_law_495 2 rfl ?_
  refine l_arg (j := 1) dL_law_496 dL_law_497 dL_law_498 dL_law_499 dL_law_500 (by decide) (by omega) hL ?_
  refine l_callV (As := [.int (sc xs i 1)]) (b2 := eA E 26) (st := [.int r]) e2 (by decide) (by decide) wd_1014 wd_1015 wd_1016 wd_74 wd_1017 hy_X6_inside (Rc.obj 26 rfl rfl) rfl (Nat.le_of_ble_eq_true rfl) dL_law_501 ?_
  exact l_icmp_same (tgt := 854) dL_law_504 (by decide) (kk C' h2 hC hR')
theorem k_spread {E : EN} {b L i C : Nat} {xs : Nat → Int32} {h : Hp} (hL : L ≤ 3072) (hb : C + 31 < 1000000000) (hR : REL C h) (kk : ∀ (C' : Nat) (h2 : Hp), C' ≤ C + 31 → REL C' h2 → Lw E b L xs 854 (lvc E b i) [] h2) : Lw E b L xs 509 (lvc E b i) [] h := by
  obtain ⟨r, h1, h2, C', hC, e1, e2, hR'⟩ := c_spread (E := E) hb hR
  refine l_aload_n dL_law_509 1 rfl ?_
  refine l_callV (As := []) (b2 := eA E 0) (st := []) e1 (by decide) (by decide) wd_478 wd_479 wd_480 wd_68 wd_481 hy_X5_spread (Rc.obj 0 rfl rfl) rfl (Nat.le_of_ble_eq_true rfl) dL_law_510 ?_
  refine l_aload_n dL_law_513 2 rfl ?_
  refine l_callV (As := []) (b2 := eA E 26) (st := [.int r]) e2 (by decide) (by decide) wd_1018 wd_1019 wd_1020 wd_74 wd_1021 hy_X6_spread (Rc.obj 26 rfl rfl) rfl (Nat.le_of_ble_eq_true rfl) dL_law_514 ?_
  exact l_icmp_same (tgt := 854) dL_law_517 (by decide) (kk C' h2 hC hR')
theorem k_often {E : EN} {b L i C : Nat} {xs : Nat → Int32} {h : Hp} (hL : L ≤ 3072) (hi : i + 3 < L) (hb : C + 31 < 1000000000) (hR : REL C h) (kk : ∀ (C' : Nat) (h2 : Hp), C' ≤ C + 31 → REL C' h2 → Lw E b L xs 854 (lvc E b i) [] h2) : Lw E b L xs 522 (lvc E b i) [] h := by
  obtain ⟨r, h1, h2, C', hC, e1, e2, hR'⟩ := c_often (E := E) hb hR (sc xs i 1) (sc xs i 2) (sc xs i 3)
  refine l_aload_n dL_law_522 1 rfl ?_
  refine l_arg (j := 1) dL_law_523 dL_law_524 dL_law_525 dL_law_526 dL_law_527 (by decide) (by omega) hL ?_
  refine l_arg (j := 2) dL_law_528 dL_law_529 dL_law_530 dL_law_531 dL_law_532 (by decide) (by omega) hL ?_
  refine l_arg (j := 3) dL_law_533 dL_law_534 dL_law_535 dL_law_536 dL_law_537 (by decide) (by omega) hL ?_
  refine l_callV (As := [.int (sc xs i 1), .int (sc xs i 2), .int (sc xs i 3)]) (b2 := eA E 0) (st := []) e1 (by decide) (by decide) wd_484 wd_485 wd_486 wd_68 wd_487 hy_X5_often (Rc.obj 0 rfl rfl) rfl (Nat.le_of_ble_eq_true rfl) dL_law_538 ?_
  refine l_aload_n dL_law_541 2 rfl ?_
  refine l_arg (j := 1) dL_law_542 dL_law_543 dL_law_544 dL_law_545 dL_law_546 (by decide) (by omega) hL ?_
  refine l_arg (j := 2) dL_law_547 dL_law_548 dL_law_549 dL_law_550 dL_law_551 (by decide) (by omega) hL ?_
  refine l_arg (j := 3) dL_law_552 dL_law_553 dL_law_554 dL_law_555 dL_law_556 (by decide) (by omega) hL ?_
  refine l_callV (As := [.int (sc xs i 1), .int (sc xs i 2), .int (sc xs i 3)]) (b2 := eA E 26) (st := [.int r]) e2 (by decide) (by decide) wd_1035 wd_1036 wd_1037 wd_74 wd_1038 hy_X6_often (Rc.obj 26 rfl rfl) rfl (Nat.le_of_ble_eq_true rfl) dL_law_557 ?_
  exact l_icmp_same (tgt := 854) dL_law_560 (by decide) (kk C' h2 hC hR')
theorem k_both {E : EN} {b L i C : Nat} {xs : Nat → Int32} {h : Hp} (hL : L ≤ 3072) (hi : i + 4 < L) (hb : C + 31 < 1000000000) (hR : REL C h) (kk : ∀ (C' : Nat) (h2 : Hp), C' ≤ C + 31 → REL C' h2 → Lw E b L xs 854 (lvc E b i) [] h2) : Lw E b L xs 565 (lvc E b i) [] h := by
  obtain ⟨r, h1, h2, C', hC, e1, e2, hR'⟩ := c_both (E := E) hb hR (sc xs i 1) (sc xs i 2) (sc xs i 3) (sc xs i 4)
  refine l_aload_n dL_law_565 1 rfl ?_
  refine l_arg (j := 1) dL_law_566 dL_law_567 dL_law_568 dL_law_569 dL_law_570 (by decide) (by omega) hL ?_
  refine l_arg (j := 2) dL_law_571 dL_law_572 dL_law_573 dL_law_574 dL_law_575 (by decide) (by omega) hL ?_
  refine l_arg (j := 3) dL_law_576 dL_law_577 dL_law_578 dL_law_579 dL_law_580 (by decide) (by omega) hL ?_
  refine l_arg (j := 4) dL_law_581 dL_law_582 dL_law_583 dL_law_584 dL_law_585 (by decide) (by omega) hL ?_
  refine l_callV (As := [.int (sc xs i 1), .int (sc xs i 2), .int (sc xs i 3), .int (sc xs i 4)]) (b2 := eA E 0) (st := []) e1 (by decide) (by decide) wd_496 wd_497 wd_498 wd_68 wd_499 hy_X5_both (Rc.obj 0 rfl rfl) rfl (Nat.le_of_ble_eq_true rfl) dL_law_586 ?_
  refine l_aload_n dL_law_589 2 rfl ?_
  refine l_arg (j := 1) dL_law_590 dL_law_591 dL_law_592 dL_law_593 dL_law_594 (by decide) (by omega) hL ?_
  refine l_arg (j := 2) dL_law_595 dL_law_596 dL_law_597 dL_law_598 dL_law_599 (by decide) (by omega) hL ?_
  refine l_arg (j := 3) dL_law_600 dL_law_601 dL_law_602 dL_law_603 dL_law_604 (by decide) (by omega) hL ?_
  refine l_arg (j := 4) dL_law_605 dL_law_606 dL_law_607 dL_law_608 dL_law_609 (by decide) (by omega) hL ?_
  refine l_callV (As := [.int (sc xs i 1), .int (sc xs i 2), .int (sc xs i 3), .int (sc xs i 4)]) (b2 := eA E 26) (st := [.int r]) e2 (by decide) (by decide) wd_1022 wd_1023 wd_1024 wd_74 wd_1025 hy_X6_both (Rc.obj 26 rfl rfl) rfl (Nat.le_of_ble_eq_true rfl) dL_law_610 ?_
  exact l_icmp_same (tgt := 854) dL_law_613 (by decide) (kk C' h2 hC hR')
theorem k_best {E : EN} {b L i C : Nat} {xs : Nat → Int32} {h : Hp} (hL : L ≤ 3072) (hi : i + 3 < L) (hb : C + 31 < 1000000000) (hR : REL C h) (kk : ∀ (C' : Nat) (h2 : Hp), C' ≤ C + 31 → REL C' h2 → Lw E b L xs 854 (lvc E b i) [] h2) : Lw E b L xs 618 (lvc E b i) [] h := by
  obtain ⟨r, h1, h2, C', hC, e1, e2, hR'⟩ := c_best (E := E) hb hR (sc xs i 1) (sc xs i 2) (sc xs i 3)
  refine l_aload_n dL_law_618 1 rfl ?_
  refine l_arg (j := 1) dL_law_619 dL_law_620 dL_law_621 dL_law_622 dL_law_623 (by decide) (by omega) hL ?_
  refine l_arg (j := 2) dL_law_624 dL_law_625 dL_law_626 dL_law_627 dL_law_628 (by decide) (by omega) hL ?_
  refine l_arg (j := 3) dL_law_629 dL_law_630 dL_law_631 dL_law_632 dL_law_633 (by decide) (by omega) hL ?_
  refine l_callV (As := [.int (sc xs i 1), .int (sc xs i 2), .int (sc xs i 3)]) (b2 := eA E 0) (st := []) e1 (by decide) (by decide) wd_500 wd_501 wd_502 wd_68 wd_503 hy_X5_best (Rc.obj 0 rfl rfl) rfl (Nat.le_of_ble_eq_true rfl) dL_law_634 ?_
  refine l_aload_n dL_law_637 2 rfl ?_
  refine l_arg (j := 1) dL_law_638 dL_law_639 dL_law_640 dL_law_641 dL_law_642 (by decide) (by omega) hL ?_
  refine l_arg (j := 2) dL_law_643 dL_law_644 dL_law_645 dL_law_646 dL_law_647 (by decide) (by omega) hL ?_
  refine l_arg (j := 3) dL_law_648 dL_law_649 dL_law_650 dL_law_651 dL_law_652 (by decide) (by omega) hL ?_
  refine l_callV (As := [.int (sc xs i 1), .int (sc xs i 2), .int (sc xs i 3)]) (b2 := eA E 26) (st := [.long r]) e2 (by decide) (by decide) wd_1039 wd_1040 wd_1041 wd_74 wd_1042 hy_X6_best (Rc.obj 26 rfl rfl) rfl (Nat.le_of_ble_eq_true rfl) dL_law_653 ?_
  refine l_lcmp dL_law_656 ?_
  exact l_if_zero (tgt := 854) lg_same dL_law_657 (by decide) (kk C' h2 hC hR')
theorem k_many {E : EN} {b L i C : Nat} {xs : Nat → Int32} {h : Hp} (hL : L ≤ 3072) (hb : C + 31 < 1000000000) (hR : REL C h) (kk : ∀ (C' : Nat) (h2 : Hp), C' ≤ C + 31 → REL C' h2 → Lw E b L xs 854 (lvc E b i) [] h2) : Lw E b L xs 662 (lvc E b i) [] h := by
  obtain ⟨r, h1, h2, C', hC, e1, e2, hR'⟩ := c_many (E := E) hb hR
  refine l_aload_n dL_law_662 1 rfl ?_
  refine l_callV (As := []) (b2 := eA E 0) (st := []) e1 (by decide) (by decide) wd_505 wd_506 wd_507 wd_68 wd_508 hy_X5_many (Rc.obj 0 rfl rfl) rfl (Nat.le_of_ble_eq_true rfl) dL_law_663 ?_
  refine l_aload_n dL_law_666 2 rfl ?_
  refine l_callV (As := []) (b2 := eA E 26) (st := [.int r]) e2 (by decide) (by decide) wd_1043 wd_1044 wd_1045 wd_74 wd_1046 hy_X6_many (Rc.obj 26 rfl rfl) rfl (Nat.le_of_ble_eq_true rfl) dL_law_667 ?_
  exact l_icmp_same (tgt := 854) dL_law_670 (by decide) (kk C' h2 hC hR')
theorem k_sizes {E : EN} {b L i C : Nat} {xs : Nat → Int32} {h : Hp} (hL : L ≤ 3072) (hi : i + 1 < L) (hb : C + 31 < 1000000000) (hR : REL C h) (kk : ∀ (C' : Nat) (h2 : Hp), C' ≤ C + 31 → REL C' h2 → Lw E b L xs 854 (lvc E b i) [] h2) : Lw E b L xs 675 (lvc E b i) [] h := by
  obtain ⟨r, h1, h2, C', hC, e1, e2, hR'⟩ := c_sizes (E := E) hb hR (sc xs i 1)
  refine l_aload_n dL_law_675 1 rfl ?_
  refine l_arg (j := 1) dL_law_676 dL_law_677 dL_law_678 dL_law_679 dL_law_680 (by decide) (by omega) hL ?_
  refine l_callV (As := [.int (sc xs i 1)]) (b2 := eA E 0) (st := []) e1 (by decide) (by decide) wd_542 wd_543 wd_544 wd_68 wd_545 hy_X5_sizes (Rc.obj 0 rfl rfl) rfl (Nat.le_of_ble_eq_true rfl) dL_law_681 ?_
  refine l_aload_n dL_law_684 2 rfl ?_
  refine l_arg (j := 1) dL_law_685 dL_law_686 dL_law_687 dL_law_688 dL_law_689 (by decide) (by omega) hL ?_
  refine l_callV (As := [.int (sc xs i 1)]) (b2 := eA E 26) (st := [.int r]) e2 (by decide) (by decide) wd_1051 wd_1052 wd_1053 wd_74 wd_1054 hy_X6_sizes (Rc.obj 26 rfl rfl) rfl (Nat.le_of_ble_eq_true rfl) dL_law_690 ?_
  exact l_icmp_same (tgt := 854) dL_law_693 (by decide) (kk C' h2 hC hR')
theorem k_can {E : EN} {b L i C : Nat} {xs : Nat → Int32} {h : Hp} (hL : L ≤ 3072) (hi : i + 2 < L) (hb : C + 31 < 1000000000) (hR : REL C h) (kk : ∀ (C' : Nat) (h2 : Hp), C' ≤ C + 31 → REL C' h2 → Lw E b L xs 854 (lvc E b i) [] h2) : Lw E b L xs 698 (lvc E b i) [] h := by
  obtain ⟨r, h1, h2, C', hC, e1, e2, hR'⟩ := c_can (E := E) hb hR (sc xs i 1) (sc xs i 2)
  refine l_aload_n dL_law_698 1 rfl ?_
  refine l_arg (j := 1) dL_law_699 dL_law_700 dL_law_701 dL_law_702 dL_law_703 (by decide) (by omega) hL ?_
  refine l_arg (j := 2) dL_law_704 dL_law_705 dL_law_706 dL_law_707 dL_law_708 (by decide) (by omega) hL ?_
  refine l_callV (As := [.int (sc xs i 1), .int (sc xs i 2)]) (b2 := eA E 0) (st := []) e1 (by decide) (by decide) wd_563 wd_564 wd_565 wd_68 wd_566 hy_X5_can (Rc.obj 0 rfl rfl) rfl (Nat.le_of_ble_eq_true rfl) dL_law_709 ?_
  refine l_aload_n dL_law_712 2 rfl ?_
  refine l_arg (j := 1) dL_law_713 dL_law_714 dL_law_715 dL_law_716 dL_law_717 (by decide) (by omega) hL ?_
  refine l_arg (j := 2) dL_law_718 dL_law_719 dL_law_720 dL_law_721 dL_law_722 (by decide) (by omega) hL ?_
  refine l_callV (As := [.int (sc xs i 1), .int (sc xs i 2)]) (b2 := eA E 26) (st := [.int r]) e2 (by decide) (by decide) wd_1055 wd_1056 wd_1057 wd_74 wd_1058 hy_X6_can (Rc.obj 26 rfl rfl) rfl (Nat.le_of_ble_eq_true rfl) dL_law_723 ?_
  exact l_icmp_same (tgt := 854) dL_law_726 (by decide) (kk C' h2 hC hR')
theorem k_least {E : EN} {b L i C : Nat} {xs : Nat → Int32} {h : Hp} (hL : L ≤ 3072) (hb : C + 31 < 1000000000) (hR : REL C h) (kk : ∀ (C' : Nat) (h2 : Hp), C' ≤ C + 31 → REL C' h2 → Lw E b L xs 854 (lvc E b i) [] h2) : Lw E b L xs 731 (lvc E b i) [] h := by
  obtain ⟨r, h1, h2, C', hC, e1, e2, hR'⟩ := c_least (E := E) hb hR
  refine l_aload_n dL_law_731 1 rfl ?_
  refine l_callV (As := []) (b2 := eA E 0) (st := []) e1 (by decide) (by decide) wd_571 wd_572 wd_573 wd_68 wd_574 hy_X5_least (Rc.obj 0 rfl rfl) rfl (Nat.le_of_ble_eq_true rfl) dL_law_732 ?_
  refine l_aload_n dL_law_735 2 rfl ?_
  refine l_callV (As := []) (b2 := eA E 26) (st := [.long r]) e2 (by decide) (by decide) wd_1059 wd_1060 wd_1061 wd_74 wd_1062 hy_X6_least (Rc.obj 26 rfl rfl) rfl (Nat.le_of_ble_eq_true rfl) dL_law_736 ?_
  refine l_lcmp dL_law_739 ?_
  exact l_if_zero (tgt := 854) lg_same dL_law_740 (by decide) (kk C' h2 hC hR')
theorem k_type {E : EN} {b L i C : Nat} {xs : Nat → Int32} {h : Hp} (hL : L ≤ 3072) (hi : i + 1 < L) (hb : C + 31 < 1000000000) (hR : REL C h) (kk : ∀ (C' : Nat) (h2 : Hp), C' ≤ C + 31 → REL C' h2 → Lw E b L xs 854 (lvc E b i) [] h2) : Lw E b L xs 745 (lvc E b i) [] h := by
  obtain ⟨r, h1, h2, C', hC, e1, e2, hR'⟩ := c_type (E := E) hb hR (sc xs i 1)
  refine l_aload_n dL_law_745 1 rfl ?_
  refine l_arg (j := 1) dL_law_746 dL_law_747 dL_law_748 dL_law_749 dL_law_750 (by decide) (by omega) hL ?_
  refine l_callV (As := [.int (sc xs i 1)]) (b2 := eA E 0) (st := []) e1 (by decide) (by decide) wd_584 wd_585 wd_586 wd_68 wd_587 hy_X5_type (Rc.obj 0 rfl rfl) rfl (Nat.le_of_ble_eq_true rfl) dL_law_751 ?_
  refine l_aload_n dL_law_754 2 rfl ?_
  refine l_arg (j := 1) dL_law_755 dL_law_756 dL_law_757 dL_law_758 dL_law_759 (by decide) (by omega) hL ?_
  refine l_callV (As := [.int (sc xs i 1)]) (b2 := eA E 26) (st := [.int r]) e2 (by decide) (by decide) wd_1064 wd_1065 wd_1066 wd_74 wd_1067 hy_X6_type (Rc.obj 26 rfl rfl) rfl (Nat.le_of_ble_eq_true rfl) dL_law_760 ?_
  exact l_icmp_same (tgt := 854) dL_law_763 (by decide) (kk C' h2 hC hR')
theorem k_clear {E : EN} {b L i C : Nat} {xs : Nat → Int32} {h : Hp} (hL : L ≤ 3072) (hb : C + 31 < 1000000000) (hR : REL C h) (kk : ∀ (C' : Nat) (h2 : Hp), C' ≤ C + 31 → REL C' h2 → Lw E b L xs 854 (lvc E b i) [] h2) : Lw E b L xs 768 (lvc E b i) [] h := by
  obtain ⟨r, h1, h2, C', hC, e1, e2, hR'⟩ := c_clear (E := E) hb hR
  refine l_aload_n dL_law_768 1 rfl ?_
  refine l_callV (As := []) (b2 := eA E 0) (st := []) e1 (by decide) (by decide) wd_592 wd_593 wd_594 wd_68 wd_595 hy_X5_clear (Rc.obj 0 rfl rfl) rfl (Nat.le_of_ble_eq_true rfl) dL_law_769 ?_
  refine l_aload_n dL_law_772 2 rfl ?_
  refine l_callV (As := []) (b2 := eA E 26) (st := [.int r]) e2 (by decide) (by decide) wd_1069 wd_1070 wd_1071 wd_74 wd_1072 hy_X6_clear (Rc.obj 26 rfl rfl) rfl (Nat.le_of_ble_eq_true rfl) dL_law_773 ?_
  exact l_icmp_same (tgt := 854) dL_law_776 (by decide) (kk C' h2 hC hR')
theorem k_says {E : EN} {b L i C : Nat} {xs : Nat → Int32} {h : Hp} (hL : L ≤ 3072) (hb : C + 31 < 1000000000) (hR : REL C h) (kk : ∀ (C' : Nat) (h2 : Hp), C' ≤ C + 31 → REL C' h2 → Lw E b L xs 854 (lvc E b i) [] h2) : Lw E b L xs 781 (lvc E b i) [] h := by
  obtain ⟨r, h1, h2, C', hC, e1, e2, hR'⟩ := c_says (E := E) hb hR
  refine l_aload_n dL_law_781 1 rfl ?_
  refine l_callV (As := []) (b2 := eA E 0) (st := []) e1 (by decide) (by decide) wd_596 wd_597 wd_598 wd_68 wd_599 hy_X5_says (Rc.obj 0 rfl rfl) rfl (Nat.le_of_ble_eq_true rfl) dL_law_782 ?_
  refine l_aload_n dL_law_785 2 rfl ?_
  refine l_callV (As := []) (b2 := eA E 26) (st := [.int r]) e2 (by decide) (by decide) wd_1073 wd_1074 wd_1075 wd_74 wd_1076 hy_X6_says (Rc.obj 26 rfl rfl) rfl (Nat.le_of_ble_eq_true rfl) dL_law_786 ?_
  exact l_icmp_same (tgt := 854) dL_law_789 (by decide) (kk C' h2 hC hR')
theorem k_answer {E : EN} {b L i C : Nat} {xs : Nat → Int32} {h : Hp} (hL : L ≤ 3072) (hi : i + 1 < L) (hb : C + 31 < 1000000000) (hR : REL C h) (kk : ∀ (C' : Nat) (h2 : Hp), C' ≤ C + 31 → REL C' h2 → Lw E b L xs 854 (lvc E b i) [] h2) : Lw E b L xs 794 (lvc E b i) [] h := by
  obtain ⟨r, h1, h2, C', hC, e1, e2, hR'⟩ := c_answer (E := E) hb hR (sc xs i 1)
  refine l_aload_n dL_law_794 1 rfl ?_
  refine l_arg (j := 1) dL_law_795 dL_law_796 dL_law_797 dL_law_798 dL_law_799 (by decide) (by omega) hL ?_
  refine l_callV (As := [.int (sc xs i 1)]) (b2 := eA E 0) (st := []) e1 (by decide) (by decide) wd_735 wd_736 wd_737 wd_68 wd_738 hy_X5_answer (Rc.obj 0 rfl rfl) rfl (Nat.le_of_ble_eq_true rfl) dL_law_800 ?_
  refine l_aload_n dL_law_803 2 rfl ?_
  refine l_arg (j := 1) dL_law_804 dL_law_805 dL_law_806 dL_law_807 dL_law_808 (by decide) (by omega) hL ?_
  refine l_callV (As := [.int (sc xs i 1)]) (b2 := eA E 26) (st := [.int r]) e2 (by decide) (by decide) wd_1141 wd_1142 wd_1143 wd_74 wd_1144 hy_X6_answer (Rc.obj 26 rfl rfl) rfl (Nat.le_of_ble_eq_true rfl) dL_law_809 ?_
  exact l_icmp_same (tgt := 854) dL_law_812 (by decide) (kk C' h2 hC hR')
theorem k_told {E : EN} {b L i C : Nat} {xs : Nat → Int32} {h : Hp} (hL : L ≤ 3072) (hi : i + 1 < L) (hb : C + 31 < 1000000000) (hR : REL C h) (kk : ∀ (C' : Nat) (h2 : Hp), C' ≤ C + 31 → REL C' h2 → Lw E b L xs 854 (lvc E b i) [] h2) : Lw E b L xs 817 (lvc E b i) [] h := by
  obtain ⟨r, h1, h2, C', hC, e1, e2, hR'⟩ := c_told (E := E) hb hR (sc xs i 1)
  refine l_aload_n dL_law_817 1 rfl ?_
  refine l_arg (j := 1) dL_law_818 dL_law_819 dL_law_820 dL_law_821 dL_law_822 (by decide) (by omega) hL ?_
  refine l_callV (As := [.int (sc xs i 1)]) (b2 := eA E 0) (st := []) e1 (by decide) (by decide) wd_743 wd_744 wd_745 wd_68 wd_746 hy_X5_told (Rc.obj 0 rfl rfl) rfl (Nat.le_of_ble_eq_true rfl) dL_law_823 ?_
  refine l_aload_n dL_law_826 2 rfl ?_
  refine l_arg (j := 1) dL_law_827 dL_law_828 dL_law_829 dL_law_830 dL_law_831 (by decide) (by omega) hL ?_
  refine l_callV (As := [.int (sc xs i 1)]) (b2 := eA E 26) (st := [.int r]) e2 (by decide) (by decide) wd_1145 wd_1146 wd_1147 wd_74 wd_1148 hy_X6_told (Rc.obj 26 rfl rfl) rfl (Nat.le_of_ble_eq_true rfl) dL_law_832 ?_
  exact l_icmp_same (tgt := 854) dL_law_835 (by decide) (kk C' h2 hC hR')
theorem k_digest {E : EN} {b L i C : Nat} {xs : Nat → Int32} {h : Hp} (hL : L ≤ 3072) (hb : C + 31 < 1000000000) (hR : REL C h) (kk : ∀ (C' : Nat) (h2 : Hp), C' ≤ C + 31 → REL C' h2 → Lw E b L xs 854 (lvc E b i) [] h2) : Lw E b L xs 840 (lvc E b i) [] h := by
  obtain ⟨r, h1, h2, C', hC, e1, e2, hR'⟩ := c_digest (E := E) hb hR
  refine l_aload_n dL_law_840 1 rfl ?_
  refine l_callV (As := []) (b2 := eA E 0) (st := []) e1 (by decide) (by decide) wd_751 wd_752 wd_753 wd_68 wd_754 hy_X5_digest (Rc.obj 0 rfl rfl) rfl (Nat.le_of_ble_eq_true rfl) dL_law_841 ?_
  refine l_aload_n dL_law_844 2 rfl ?_
  refine l_callV (As := []) (b2 := eA E 26) (st := [.long r]) e2 (by decide) (by decide) wd_1154 wd_1155 wd_1156 wd_74 wd_1157 hy_X6_digest (Rc.obj 26 rfl rfl) rfl (Nat.le_of_ble_eq_true rfl) dL_law_845 ?_
  refine l_lcmp dL_law_848 ?_
  exact l_if_zero (tgt := 854) lg_same dL_law_849 (by decide) (kk C' h2 hC hR')
