/-! ===== the law's body, case by case ===== -/
section Lw
variable {G : Ctx} {s : State} {args : Array Value} {Z : List Frame → State → Prop} {h : AH} {N : Nat} {b Ls : Nat} {xs : Nat → Int32} {i t : Int} {k0 n0 : Nat}
/-- the law's locals at its loop's head -/
abbrev LLw (G : Ctx) (b : Nat) (i : Int) : List (Option Value) := [some (.ref b), some (.ref (cB G)), some (.ref (cB G + 169)), some (.ref (cB G + 281)), some (.ref (cB G + 282)), some (JV i), none, none, none]
theorem inr32 (x : Int32) : InR x.toInt := ⟨x.le_toInt, x.toInt_lt⟩
/-- script[..] != 0 -/
theorem ws_bool {μ : MI} {k n pc : Nat} {L : List (Option Value)} {st : List Value} {w a3 : Int} (hw : InR w) (ha : (w = 0 ∧ a3 = 0) ∨ (¬ w = 0 ∧ a3 = 1)) (d1 : decode (mC μ) pc = .ok (.ifCond .eq 7, 3)) (d2 : decode (mC μ) (pc + 3) = .ok (.iconst 1, 1)) (d3 : decode (mC μ) (pc + 3 + 1) = .ok (.goto 4, 3)) (d4 : decode (mC μ) (pc + 7) = .ok (.iconst 0, 1)) (kk : WS G s args Z μ k n h N (pc + 8) L (JV a3 :: st)) : WS G s args Z μ k n h N pc L (JV w :: st) := by
  refine ws_if_eq (pc + 7) d1 (by omega) hw (fun c => ?_) (fun c => ?_)
  · rcases ha with ⟨_, rfl⟩ | ⟨q, _⟩
    · exact ws_iconst d4 kk
    · exact absurd c q
  · rcases ha with ⟨q, _⟩ | ⟨_, rfl⟩
    · exact absurd q c
    · exact ws_iconst d2 (ws_goto (pc + 8) d3 (by omega) kk)
theorem ws_back {x6 x7 x8 : Option Value} {k n : Nat} {pc : Nat} (kk : WS G s args Z mL_law k n h N pc (LLw G b i) []) : WS G s args Z mL_law k n h N pc [some (.ref b), some (.ref (cB G)), some (.ref (cB G + 169)), some (.ref (cB G + 281)), some (.ref (cB G + 282)), some (JV i), x6, x7, x8] [] := by
  refine ws_ndrop (fun j hj => ?_) kk
  have hj9 : j < 9 := hj
  rcases j with _ | _ | _ | _ | _ | _ | _ | _ | _ | j
  · exact Or.inr rfl
  · exact Or.inr rfl
  · exact Or.inr rfl
  · exact Or.inr rfl
  · exact Or.inr rfl
  · exact Or.inr rfl
  · exact Or.inl rfl
  · exact Or.inl rfl
  · exact Or.inl rfl
  · omega
set_option maxRecDepth 4000 in
theorem K_setWeek (hX : va_X b Ls xs s s.heap) (hbl : b < s.heap.size) (hbA : b < cB G) (hLs : Ls ≤ 2560) (hi : 0 ≤ i ∧ i + 5 ≤ (Ls : Int)) (I : INVt G h N t) (kk : ∀ (h9 : AH) (N9 : Nat) (t9 : Int), INVt G h9 N9 t9 → WS G s args Z mL_law k0 n0 h9 N9 2665 (LLw G b i) []) : WS G s args Z mL_law (k0 + 43) (n0 + 1014) h N 244 (LLw G b i) [] := by
  refine ws_aload_n dL_law_244 rfl ?_
  refine ws_aload_n dL_law_245 rfl ?_
  refine ws_iload dL_law_246 rfl ?_
  refine ws_iconst dL_law_248 ?_
  refine ws_iadd dL_law_249 ?_
  refine ws_sld hX hbl hbA (by omega) (by omega) hLs dL_law_250 ?_
  refine ws_aload_n dL_law_251 rfl ?_
  refine ws_iload dL_law_252 rfl ?_
  refine ws_iconst dL_law_254 ?_
  refine ws_iadd dL_law_255 ?_
  refine ws_sld hX hbl hbA (by omega) (by omega) hLs dL_law_256 ?_
  refine ws_aload_n dL_law_257 rfl ?_
  refine ws_callSH (k2 := k0 + 42) (n2 := n0 + 1008) (jq_setWeek I (inr32 _) (inr32 _)) csL_133 dL_law_258 ⟨Nat.le_of_ble_eq_true rfl, Nat.le_of_ble_eq_true rfl⟩ (Nat.le_of_ble_eq_true rfl) rfl rfl (by omega) (by omega) (fun r h1 N1 q => ?_)
  obtain ⟨c, v, rfl, hc, hv, ⟨fs, hfs⟩, kk9, nn9, hk9, hn9, ct⟩ := q
  change WS G s args Z mL_law _ _ h1 N1 261 [some (.ref b), some (.ref (cB G)), some (.ref (cB G + 169)), some (.ref (cB G + 281)), some (.ref (cB G + 282)), some (JV i), none, none, none] [JV c]
  refine ws_istore dL_law_261 (Nat.le_of_ble_eq_true rfl) rfl ?_
  change WS G s args Z mL_law _ _ h1 N1 263 [some (.ref b), some (.ref (cB G)), some (.ref (cB G + 169)), some (.ref (cB G + 281)), some (.ref (cB G + 282)), some (JV i), some (JV c), none, none] []
  refine ws_aload_n dL_law_263 rfl ?_
  refine ws_aload_n dL_law_264 rfl ?_
  refine ws_iload dL_law_265 rfl ?_
  refine ws_iconst dL_law_267 ?_
  refine ws_iadd dL_law_268 ?_
  refine ws_sld hX hbl hbA (by omega) (by omega) hLs dL_law_269 ?_
  refine ws_aload_n dL_law_270 rfl ?_
  refine ws_iload dL_law_271 rfl ?_
  refine ws_iconst dL_law_273 ?_
  refine ws_iadd dL_law_274 ?_
  refine ws_sld hX hbl hbA (by omega) (by omega) hLs dL_law_275 ?_
  refine ws_callV (k2 := k0) (n2 := n0) ct cvL_138 dL_law_276 ⟨Nat.le_of_ble_eq_true rfl, Nat.le_of_ble_eq_true rfl⟩ (Nat.le_of_ble_eq_true rfl) hfs rfl rfl rfl rfl (by omega) (by omega) (fun r h2 N2 q => ?_)
  obtain ⟨v', rfl, hvv, I2, o1, o2⟩ := q
  change WS G s args Z mL_law _ _ h2 N2 279 [some (.ref b), some (.ref (cB G)), some (.ref (cB G + 169)), some (.ref (cB G + 281)), some (.ref (cB G + 282)), some (JV i), some (JV c), none, none] [JV v']
  refine ws_istore dL_law_279 (Nat.le_of_ble_eq_true rfl) rfl ?_
  change WS G s args Z mL_law _ _ h2 N2 281 [some (.ref b), some (.ref (cB G)), some (.ref (cB G + 169)), some (.ref (cB G + 281)), some (.ref (cB G + 282)), some (JV i), some (JV c), some (JV v'), none] []
  obtain ⟨fs2, hfs2, ct2⟩ := thr_of I2
  refine ws_aload_n dL_law_281 rfl ?_
  refine ws_callV (k2 := k0) (n2 := n0) ct2 cvL_139 dL_law_282 ⟨Nat.le_of_ble_eq_true rfl, Nat.le_of_ble_eq_true rfl⟩ (Nat.le_of_ble_eq_true rfl) hfs2 rfl rfl rfl rfl (by omega) (by omega) (fun r h3 N3 q => ?_)
  obtain ⟨rfl, rfl, rfl⟩ := q
  change WS G s args Z mL_law _ _ h3 N3 285 [some (.ref b), some (.ref (cB G)), some (.ref (cB G + 169)), some (.ref (cB G + 281)), some (.ref (cB G + 282)), some (JV i), some (JV c), some (JV v'), none] [JV c]
  refine ws_iload dL_law_285 rfl ?_
  refine ws_icmpS 292 dL_law_287 (by decide) ?_
  refine ws_iload dL_law_292 rfl ?_
  refine ws_if_ne 309 dL_law_294 (by decide) ⟨by omega, by omega⟩ (fun c9 => ?_) (fun c9 => ?_)
  · skip
    refine ws_goto 2665 dL_law_309 (by decide) ?_
    exact ws_back (kk _ _ _ I2)
  · obtain ⟨hbo, o, ho, ho0⟩ := hv c9
    have e := hvv c9
    subst e
    have ho3 := o1.trans ho
    refine ws_aload_n dL_law_297 rfl ?_
    refine ws_iconst dL_law_298 ?_
    refine ws_laload dL_law_299 ho3 (by omega) (by omega) (by omega) ?_
    rw [show (o (0 : Int).toNat : Int64) = (Int32.ofInt v').toInt64 from ho0]
    refine ws_iload dL_law_300 rfl ?_
    refine ws_i2l dL_law_302 ?_
    refine ws_lcmpS dL_law_303 ?_
    refine ws_if0 309 dL_law_304 (by decide) ?_
    refine ws_goto 2665 dL_law_309 (by decide) ?_
    exact ws_back (kk _ _ _ I2)
set_option maxRecDepth 4000 in
theorem K_setFree (hX : va_X b Ls xs s s.heap) (hbl : b < s.heap.size) (hbA : b < cB G) (hLs : Ls ≤ 2560) (hi : 0 ≤ i ∧ i + 5 ≤ (Ls : Int)) (I : INVt G h N t) (kk : ∀ (h9 : AH) (N9 : Nat) (t9 : Int), INVt G h9 N9 t9 → WS G s args Z mL_law k0 n0 h9 N9 2665 (LLw G b i) []) : WS G s args Z mL_law (k0 + 43) (n0 + 1014) h N 312 (LLw G b i) [] := by
  obtain ⟨a3, ha, hb⟩ : ∃ a3 : Int, ((((xs (i + 3).toNat).toInt) = 0 ∧ a3 = 0) ∨ (¬ ((xs (i + 3).toNat).toInt) = 0 ∧ a3 = 1)) ∧ (a3 = 0 ∨ a3 = 1) := by
    by_cases q : ((xs (i + 3).toNat).toInt) = 0
    · exact ⟨0, Or.inl ⟨q, rfl⟩, Or.inl rfl⟩
    · exact ⟨1, Or.inr ⟨q, rfl⟩, Or.inr rfl⟩
  refine ws_aload_n dL_law_312 rfl ?_
  refine ws_aload_n dL_law_313 rfl ?_
  refine ws_iload dL_law_314 rfl ?_
  refine ws_iconst dL_law_316 ?_
  refine ws_iadd dL_law_317 ?_
  refine ws_sld hX hbl hbA (by omega) (by omega) hLs dL_law_318 ?_
  refine ws_aload_n dL_law_319 rfl ?_
  refine ws_iload dL_law_320 rfl ?_
  refine ws_iconst dL_law_322 ?_
  refine ws_iadd dL_law_323 ?_
  refine ws_sld hX hbl hbA (by omega) (by omega) hLs dL_law_324 ?_
  refine ws_aload_n dL_law_325 rfl ?_
  refine ws_iload dL_law_326 rfl ?_
  refine ws_iconst dL_law_328 ?_
  refine ws_iadd dL_law_329 ?_
  refine ws_sld hX hbl hbA (by omega) (by omega) hLs dL_law_330 ?_
  refine ws_bool (a3 := a3) (inr32 _) ha dL_law_331 dL_law_334 dL_law_335 dL_law_338 ?_
  refine ws_aload_n dL_law_339 rfl ?_
  refine ws_callSH (k2 := k0 + 42) (n2 := n0 + 1008) (jq_setFree I (inr32 _) (inr32 _) (by rcases hb with rfl | rfl <;> exact ⟨by decide, by decide⟩) hb) csL_143 dL_law_340 ⟨Nat.le_of_ble_eq_true rfl, Nat.le_of_ble_eq_true rfl⟩ (Nat.le_of_ble_eq_true rfl) rfl rfl (by omega) (by omega) (fun r h1 N1 q => ?_)
  obtain ⟨c, v, rfl, hc, hv, ⟨fs, hfs⟩, kk9, nn9, hk9, hn9, ct⟩ := q
  change WS G s args Z mL_law _ _ h1 N1 343 [some (.ref b), some (.ref (cB G)), some (.ref (cB G + 169)), some (.ref (cB G + 281)), some (.ref (cB G + 282)), some (JV i), none, none, none] [JV c]
  refine ws_istore dL_law_343 (Nat.le_of_ble_eq_true rfl) rfl ?_
  change WS G s args Z mL_law _ _ h1 N1 345 [some (.ref b), some (.ref (cB G)), some (.ref (cB G + 169)), some (.ref (cB G + 281)), some (.ref (cB G + 282)), some (JV i), some (JV c), none, none] []
  refine ws_aload_n dL_law_345 rfl ?_
  refine ws_aload_n dL_law_346 rfl ?_
  refine ws_iload dL_law_347 rfl ?_
  refine ws_iconst dL_law_349 ?_
  refine ws_iadd dL_law_350 ?_
  refine ws_sld hX hbl hbA (by omega) (by omega) hLs dL_law_351 ?_
  refine ws_aload_n dL_law_352 rfl ?_
  refine ws_iload dL_law_353 rfl ?_
  refine ws_iconst dL_law_355 ?_
  refine ws_iadd dL_law_356 ?_
  refine ws_sld hX hbl hbA (by omega) (by omega) hLs dL_law_357 ?_
  refine ws_aload_n dL_law_358 rfl ?_
  refine ws_iload dL_law_359 rfl ?_
  refine ws_iconst dL_law_361 ?_
  refine ws_iadd dL_law_362 ?_
  refine ws_sld hX hbl hbA (by omega) (by omega) hLs dL_law_363 ?_
  refine ws_bool (a3 := a3) (inr32 _) ha dL_law_364 dL_law_367 dL_law_368 dL_law_371 ?_
  refine ws_callV (k2 := k0) (n2 := n0) ct cvL_146 dL_law_372 ⟨Nat.le_of_ble_eq_true rfl, Nat.le_of_ble_eq_true rfl⟩ (Nat.le_of_ble_eq_true rfl) hfs rfl rfl rfl rfl (by omega) (by omega) (fun r h2 N2 q => ?_)
  obtain ⟨v', rfl, hvv, I2, o1, o2⟩ := q
  change WS G s args Z mL_law _ _ h2 N2 375 [some (.ref b), some (.ref (cB G)), some (.ref (cB G + 169)), some (.ref (cB G + 281)), some (.ref (cB G + 282)), some (JV i), some (JV c), none, none] [JV v']
  refine ws_istore dL_law_375 (Nat.le_of_ble_eq_true rfl) rfl ?_
  change WS G s args Z mL_law _ _ h2 N2 377 [some (.ref b), some (.ref (cB G)), some (.ref (cB G + 169)), some (.ref (cB G + 281)), some (.ref (cB G + 282)), some (JV i), some (JV c), some (JV v'), none] []
  obtain ⟨fs2, hfs2, ct2⟩ := thr_of I2
  refine ws_aload_n dL_law_377 rfl ?_
  refine ws_callV (k2 := k0) (n2 := n0) ct2 cvL_139 dL_law_378 ⟨Nat.le_of_ble_eq_true rfl, Nat.le_of_ble_eq_true rfl⟩ (Nat.le_of_ble_eq_true rfl) hfs2 rfl rfl rfl rfl (by omega) (by omega) (fun r h3 N3 q => ?_)
  obtain ⟨rfl, rfl, rfl⟩ := q
  change WS G s args Z mL_law _ _ h3 N3 381 [some (.ref b), some (.ref (cB G)), some (.ref (cB G + 169)), some (.ref (cB G + 281)), some (.ref (cB G + 282)), some (JV i), some (JV c), some (JV v'), none] [JV c]
  refine ws_iload dL_law_381 rfl ?_
  refine ws_icmpS 388 dL_law_383 (by decide) ?_
  refine ws_iload dL_law_388 rfl ?_
  refine ws_if_ne 412 dL_law_390 (by decide) ⟨by omega, by omega⟩ (fun c9 => ?_) (fun c9 => ?_)
  · skip
    refine ws_goto 2665 dL_law_412 (by decide) ?_
    exact ws_back (kk _ _ _ I2)
  · obtain ⟨hbo, o, ho, ho0⟩ := hv c9
    have e := hvv c9
    subst e
    have ho3 := o1.trans ho
    refine ws_aload_n dL_law_393 rfl ?_
    refine ws_iconst dL_law_394 ?_
    refine ws_laload dL_law_395 ho3 (by omega) (by omega) (by omega) ?_
    rw [show (o (0 : Int).toNat : Int64) = (Int32.ofInt v').toInt64 from ho0]
    refine ws_iload dL_law_396 rfl ?_
    rcases hbo rfl with rfl | rfl
    · refine ws_if_eq 405 dL_law_398 (by decide) ⟨by omega, by omega⟩ (fun c8 => ?_) (fun c8 => absurd rfl c8)
      refine ws_lconst dL_law_405 ?_
      rw [show (Int32.ofInt 0).toInt64 = Int64.ofNat ((0 : Fin 2) : Nat) by decide]
      refine ws_lcmpS dL_law_406 ?_
      refine ws_if0 412 dL_law_407 (by decide) ?_
      refine ws_goto 2665 dL_law_412 (by decide) ?_
      exact ws_back (kk _ _ _ I2)
    · refine ws_if_eq 405 dL_law_398 (by decide) ⟨by omega, by omega⟩ (fun c8 => absurd c8 (by decide)) (fun c8 => ?_)
      refine ws_lconst dL_law_401 ?_
      refine ws_goto 406 dL_law_402 (by decide) ?_
      rw [show (Int32.ofInt 1).toInt64 = Int64.ofNat ((1 : Fin 2) : Nat) by decide]
      refine ws_lcmpS dL_law_406 ?_
      refine ws_if0 412 dL_law_407 (by decide) ?_
      refine ws_goto 2665 dL_law_412 (by decide) ?_
      exact ws_back (kk _ _ _ I2)
set_option maxRecDepth 4000 in
theorem K_setCrew (hX : va_X b Ls xs s s.heap) (hbl : b < s.heap.size) (hbA : b < cB G) (hLs : Ls ≤ 2560) (hi : 0 ≤ i ∧ i + 5 ≤ (Ls : Int)) (I : INVt G h N t) (kk : ∀ (h9 : AH) (N9 : Nat) (t9 : Int), INVt G h9 N9 t9 → WS G s args Z mL_law k0 n0 h9 N9 2665 (LLw G b i) []) : WS G s args Z mL_law (k0 + 43) (n0 + 1014) h N 415 (LLw G b i) [] := by
  refine ws_aload_n dL_law_415 rfl ?_
  refine ws_aload_n dL_law_416 rfl ?_
  refine ws_iload dL_law_417 rfl ?_
  refine ws_iconst dL_law_419 ?_
  refine ws_iadd dL_law_420 ?_
  refine ws_sld hX hbl hbA (by omega) (by omega) hLs dL_law_421 ?_
  refine ws_aload_n dL_law_422 rfl ?_
  refine ws_iload dL_law_423 rfl ?_
  refine ws_iconst dL_law_425 ?_
  refine ws_iadd dL_law_426 ?_
  refine ws_sld hX hbl hbA (by omega) (by omega) hLs dL_law_427 ?_
  refine ws_aload_n dL_law_428 rfl ?_
  refine ws_iload dL_law_429 rfl ?_
  refine ws_iconst dL_law_431 ?_
  refine ws_iadd dL_law_432 ?_
  refine ws_sld hX hbl hbA (by omega) (by omega) hLs dL_law_433 ?_
  refine ws_aload_n dL_law_434 rfl ?_
  refine ws_callSH (k2 := k0 + 42) (n2 := n0 + 1008) (jq_setCrew I (inr32 _) (inr32 _) (inr32 _)) csL_147 dL_law_435 ⟨Nat.le_of_ble_eq_true rfl, Nat.le_of_ble_eq_true rfl⟩ (Nat.le_of_ble_eq_true rfl) rfl rfl (by omega) (by omega) (fun r h1 N1 q => ?_)
  obtain ⟨c, v, rfl, hc, hv, ⟨fs, hfs⟩, kk9, nn9, hk9, hn9, ct⟩ := q
  change WS G s args Z mL_law _ _ h1 N1 438 [some (.ref b), some (.ref (cB G)), some (.ref (cB G + 169)), some (.ref (cB G + 281)), some (.ref (cB G + 282)), some (JV i), none, none, none] [JV c]
  refine ws_istore dL_law_438 (Nat.le_of_ble_eq_true rfl) rfl ?_
  change WS G s args Z mL_law _ _ h1 N1 440 [some (.ref b), some (.ref (cB G)), some (.ref (cB G + 169)), some (.ref (cB G + 281)), some (.ref (cB G + 282)), some (JV i), some (JV c), none, none] []
  refine ws_aload_n dL_law_440 rfl ?_
  refine ws_aload_n dL_law_441 rfl ?_
  refine ws_iload dL_law_442 rfl ?_
  refine ws_iconst dL_law_444 ?_
  refine ws_iadd dL_law_445 ?_
  refine ws_sld hX hbl hbA (by omega) (by omega) hLs dL_law_446 ?_
  refine ws_aload_n dL_law_447 rfl ?_
  refine ws_iload dL_law_448 rfl ?_
  refine ws_iconst dL_law_450 ?_
  refine ws_iadd dL_law_451 ?_
  refine ws_sld hX hbl hbA (by omega) (by omega) hLs dL_law_452 ?_
  refine ws_aload_n dL_law_453 rfl ?_
  refine ws_iload dL_law_454 rfl ?_
  refine ws_iconst dL_law_456 ?_
  refine ws_iadd dL_law_457 ?_
  refine ws_sld hX hbl hbA (by omega) (by omega) hLs dL_law_458 ?_
  refine ws_callV (k2 := k0) (n2 := n0) ct cvL_150 dL_law_459 ⟨Nat.le_of_ble_eq_true rfl, Nat.le_of_ble_eq_true rfl⟩ (Nat.le_of_ble_eq_true rfl) hfs rfl rfl rfl rfl (by omega) (by omega) (fun r h2 N2 q => ?_)
  obtain ⟨v', rfl, hvv, I2, o1, o2⟩ := q
  change WS G s args Z mL_law _ _ h2 N2 462 [some (.ref b), some (.ref (cB G)), some (.ref (cB G + 169)), some (.ref (cB G + 281)), some (.ref (cB G + 282)), some (JV i), some (JV c), none, none] [JV v']
  refine ws_istore dL_law_462 (Nat.le_of_ble_eq_true rfl) rfl ?_
  change WS G s args Z mL_law _ _ h2 N2 464 [some (.ref b), some (.ref (cB G)), some (.ref (cB G + 169)), some (.ref (cB G + 281)), some (.ref (cB G + 282)), some (JV i), some (JV c), some (JV v'), none] []
  obtain ⟨fs2, hfs2, ct2⟩ := thr_of I2
  refine ws_aload_n dL_law_464 rfl ?_
  refine ws_callV (k2 := k0) (n2 := n0) ct2 cvL_139 dL_law_465 ⟨Nat.le_of_ble_eq_true rfl, Nat.le_of_ble_eq_true rfl⟩ (Nat.le_of_ble_eq_true rfl) hfs2 rfl rfl rfl rfl (by omega) (by omega) (fun r h3 N3 q => ?_)
  obtain ⟨rfl, rfl, rfl⟩ := q
  change WS G s args Z mL_law _ _ h3 N3 468 [some (.ref b), some (.ref (cB G)), some (.ref (cB G + 169)), some (.ref (cB G + 281)), some (.ref (cB G + 282)), some (JV i), some (JV c), some (JV v'), none] [JV c]
  refine ws_iload dL_law_468 rfl ?_
  refine ws_icmpS 475 dL_law_470 (by decide) ?_
  refine ws_iload dL_law_475 rfl ?_
  refine ws_if_ne 492 dL_law_477 (by decide) ⟨by omega, by omega⟩ (fun c9 => ?_) (fun c9 => ?_)
  · skip
    refine ws_goto 2665 dL_law_492 (by decide) ?_
    exact ws_back (kk _ _ _ I2)
  · obtain ⟨hbo, o, ho, ho0⟩ := hv c9
    have e := hvv c9
    subst e
    have ho3 := o1.trans ho
    refine ws_aload_n dL_law_480 rfl ?_
    refine ws_iconst dL_law_481 ?_
    refine ws_laload dL_law_482 ho3 (by omega) (by omega) (by omega) ?_
    rw [show (o (0 : Int).toNat : Int64) = (Int32.ofInt v').toInt64 from ho0]
    refine ws_iload dL_law_483 rfl ?_
    refine ws_i2l dL_law_485 ?_
    refine ws_lcmpS dL_law_486 ?_
    refine ws_if0 492 dL_law_487 (by decide) ?_
    refine ws_goto 2665 dL_law_492 (by decide) ?_
    exact ws_back (kk _ _ _ I2)
set_option maxRecDepth 4000 in
theorem K_addTask (hX : va_X b Ls xs s s.heap) (hbl : b < s.heap.size) (hbA : b < cB G) (hLs : Ls ≤ 2560) (hi : 0 ≤ i ∧ i + 5 ≤ (Ls : Int)) (I : INVt G h N t) (kk : ∀ (h9 : AH) (N9 : Nat) (t9 : Int), INVt G h9 N9 t9 → WS G s args Z mL_law k0 n0 h9 N9 2665 (LLw G b i) []) : WS G s args Z mL_law (k0 + 43) (n0 + 1014) h N 495 (LLw G b i) [] := by
  refine ws_aload_n dL_law_495 rfl ?_
  refine ws_aload_n dL_law_496 rfl ?_
  refine ws_iload dL_law_497 rfl ?_
  refine ws_iconst dL_law_499 ?_
  refine ws_iadd dL_law_500 ?_
  refine ws_sld hX hbl hbA (by omega) (by omega) hLs dL_law_501 ?_
  refine ws_aload_n dL_law_502 rfl ?_
  refine ws_iload dL_law_503 rfl ?_
  refine ws_iconst dL_law_505 ?_
  refine ws_iadd dL_law_506 ?_
  refine ws_sld hX hbl hbA (by omega) (by omega) hLs dL_law_507 ?_
  refine ws_aload_n dL_law_508 rfl ?_
  refine ws_callSH (k2 := k0 + 42) (n2 := n0 + 1008) (jq_addTask I (inr32 _) (inr32 _)) csL_151 dL_law_509 ⟨Nat.le_of_ble_eq_true rfl, Nat.le_of_ble_eq_true rfl⟩ (Nat.le_of_ble_eq_true rfl) rfl rfl (by omega) (by omega) (fun r h1 N1 q => ?_)
  obtain ⟨c, v, rfl, hc, hv, ⟨fs, hfs⟩, kk9, nn9, hk9, hn9, ct⟩ := q
  change WS G s args Z mL_law _ _ h1 N1 512 [some (.ref b), some (.ref (cB G)), some (.ref (cB G + 169)), some (.ref (cB G + 281)), some (.ref (cB G + 282)), some (JV i), none, none, none] [JV c]
  refine ws_istore dL_law_512 (Nat.le_of_ble_eq_true rfl) rfl ?_
  change WS G s args Z mL_law _ _ h1 N1 514 [some (.ref b), some (.ref (cB G)), some (.ref (cB G + 169)), some (.ref (cB G + 281)), some (.ref (cB G + 282)), some (JV i), some (JV c), none, none] []
  refine ws_aload_n dL_law_514 rfl ?_
  refine ws_aload_n dL_law_515 rfl ?_
  refine ws_iload dL_law_516 rfl ?_
  refine ws_iconst dL_law_518 ?_
  refine ws_iadd dL_law_519 ?_
  refine ws_sld hX hbl hbA (by omega) (by omega) hLs dL_law_520 ?_
  refine ws_aload_n dL_law_521 rfl ?_
  refine ws_iload dL_law_522 rfl ?_
  refine ws_iconst dL_law_524 ?_
  refine ws_iadd dL_law_525 ?_
  refine ws_sld hX hbl hbA (by omega) (by omega) hLs dL_law_526 ?_
  refine ws_callV (k2 := k0) (n2 := n0) ct cvL_153 dL_law_527 ⟨Nat.le_of_ble_eq_true rfl, Nat.le_of_ble_eq_true rfl⟩ (Nat.le_of_ble_eq_true rfl) hfs rfl rfl rfl rfl (by omega) (by omega) (fun r h2 N2 q => ?_)
  obtain ⟨v', rfl, hvv, I2, o1, o2⟩ := q
  change WS G s args Z mL_law _ _ h2 N2 530 [some (.ref b), some (.ref (cB G)), some (.ref (cB G + 169)), some (.ref (cB G + 281)), some (.ref (cB G + 282)), some (JV i), some (JV c), none, none] [JV v']
  refine ws_istore dL_law_530 (Nat.le_of_ble_eq_true rfl) rfl ?_
  change WS G s args Z mL_law _ _ h2 N2 532 [some (.ref b), some (.ref (cB G)), some (.ref (cB G + 169)), some (.ref (cB G + 281)), some (.ref (cB G + 282)), some (JV i), some (JV c), some (JV v'), none] []
  obtain ⟨fs2, hfs2, ct2⟩ := thr_of I2
  refine ws_aload_n dL_law_532 rfl ?_
  refine ws_callV (k2 := k0) (n2 := n0) ct2 cvL_139 dL_law_533 ⟨Nat.le_of_ble_eq_true rfl, Nat.le_of_ble_eq_true rfl⟩ (Nat.le_of_ble_eq_true rfl) hfs2 rfl rfl rfl rfl (by omega) (by omega) (fun r h3 N3 q => ?_)
  obtain ⟨rfl, rfl, rfl⟩ := q
  change WS G s args Z mL_law _ _ h3 N3 536 [some (.ref b), some (.ref (cB G)), some (.ref (cB G + 169)), some (.ref (cB G + 281)), some (.ref (cB G + 282)), some (JV i), some (JV c), some (JV v'), none] [JV c]
  refine ws_iload dL_law_536 rfl ?_
  refine ws_icmpS 543 dL_law_538 (by decide) ?_
  refine ws_iload dL_law_543 rfl ?_
  refine ws_if_ne 560 dL_law_545 (by decide) ⟨by omega, by omega⟩ (fun c9 => ?_) (fun c9 => ?_)
  · skip
    refine ws_goto 2665 dL_law_560 (by decide) ?_
    exact ws_back (kk _ _ _ I2)
  · obtain ⟨hbo, o, ho, ho0⟩ := hv c9
    have e := hvv c9
    subst e
    have ho3 := o1.trans ho
    refine ws_aload_n dL_law_548 rfl ?_
    refine ws_iconst dL_law_549 ?_
    refine ws_laload dL_law_550 ho3 (by omega) (by omega) (by omega) ?_
    rw [show (o (0 : Int).toNat : Int64) = (Int32.ofInt v').toInt64 from ho0]
    refine ws_iload dL_law_551 rfl ?_
    refine ws_i2l dL_law_553 ?_
    refine ws_lcmpS dL_law_554 ?_
    refine ws_if0 560 dL_law_555 (by decide) ?_
    refine ws_goto 2665 dL_law_560 (by decide) ?_
    exact ws_back (kk _ _ _ I2)
set_option maxRecDepth 4000 in
theorem K_setLength (hX : va_X b Ls xs s s.heap) (hbl : b < s.heap.size) (hbA : b < cB G) (hLs : Ls ≤ 2560) (hi : 0 ≤ i ∧ i + 5 ≤ (Ls : Int)) (I : INVt G h N t) (kk : ∀ (h9 : AH) (N9 : Nat) (t9 : Int), INVt G h9 N9 t9 → WS G s args Z mL_law k0 n0 h9 N9 2665 (LLw G b i) []) : WS G s args Z mL_law (k0 + 43) (n0 + 1014) h N 563 (LLw G b i) [] := by
  refine ws_aload_n dL_law_563 rfl ?_
  refine ws_aload_n dL_law_564 rfl ?_
  refine ws_iload dL_law_565 rfl ?_
  refine ws_iconst dL_law_567 ?_
  refine ws_iadd dL_law_568 ?_
  refine ws_sld hX hbl hbA (by omega) (by omega) hLs dL_law_569 ?_
  refine ws_aload_n dL_law_570 rfl ?_
  refine ws_iload dL_law_571 rfl ?_
  refine ws_iconst dL_law_573 ?_
  refine ws_iadd dL_law_574 ?_
  refine ws_sld hX hbl hbA (by omega) (by omega) hLs dL_law_575 ?_
  refine ws_aload_n dL_law_576 rfl ?_
  refine ws_callSH (k2 := k0 + 42) (n2 := n0 + 1008) (jq_setLength I (inr32 _) (inr32 _)) csL_154 dL_law_577 ⟨Nat.le_of_ble_eq_true rfl, Nat.le_of_ble_eq_true rfl⟩ (Nat.le_of_ble_eq_true rfl) rfl rfl (by omega) (by omega) (fun r h1 N1 q => ?_)
  obtain ⟨c, v, rfl, hc, hv, ⟨fs, hfs⟩, kk9, nn9, hk9, hn9, ct⟩ := q
  change WS G s args Z mL_law _ _ h1 N1 580 [some (.ref b), some (.ref (cB G)), some (.ref (cB G + 169)), some (.ref (cB G + 281)), some (.ref (cB G + 282)), some (JV i), none, none, none] [JV c]
  refine ws_istore dL_law_580 (Nat.le_of_ble_eq_true rfl) rfl ?_
  change WS G s args Z mL_law _ _ h1 N1 582 [some (.ref b), some (.ref (cB G)), some (.ref (cB G + 169)), some (.ref (cB G + 281)), some (.ref (cB G + 282)), some (JV i), some (JV c), none, none] []
  refine ws_aload_n dL_law_582 rfl ?_
  refine ws_aload_n dL_law_583 rfl ?_
  refine ws_iload dL_law_584 rfl ?_
  refine ws_iconst dL_law_586 ?_
  refine ws_iadd dL_law_587 ?_
  refine ws_sld hX hbl hbA (by omega) (by omega) hLs dL_law_588 ?_
  refine ws_aload_n dL_law_589 rfl ?_
  refine ws_iload dL_law_590 rfl ?_
  refine ws_iconst dL_law_592 ?_
  refine ws_iadd dL_law_593 ?_
  refine ws_sld hX hbl hbA (by omega) (by omega) hLs dL_law_594 ?_
  refine ws_callV (k2 := k0) (n2 := n0) ct cvL_156 dL_law_595 ⟨Nat.le_of_ble_eq_true rfl, Nat.le_of_ble_eq_true rfl⟩ (Nat.le_of_ble_eq_true rfl) hfs rfl rfl rfl rfl (by omega) (by omega) (fun r h2 N2 q => ?_)
  obtain ⟨v', rfl, hvv, I2, o1, o2⟩ := q
  change WS G s args Z mL_law _ _ h2 N2 598 [some (.ref b), some (.ref (cB G)), some (.ref (cB G + 169)), some (.ref (cB G + 281)), some (.ref (cB G + 282)), some (JV i), some (JV c), none, none] [JV v']
  refine ws_istore dL_law_598 (Nat.le_of_ble_eq_true rfl) rfl ?_
  change WS G s args Z mL_law _ _ h2 N2 600 [some (.ref b), some (.ref (cB G)), some (.ref (cB G + 169)), some (.ref (cB G + 281)), some (.ref (cB G + 282)), some (JV i), some (JV c), some (JV v'), none] []
  obtain ⟨fs2, hfs2, ct2⟩ := thr_of I2
  refine ws_aload_n dL_law_600 rfl ?_
  refine ws_callV (k2 := k0) (n2 := n0) ct2 cvL_139 dL_law_601 ⟨Nat.le_of_ble_eq_true rfl, Nat.le_of_ble_eq_true rfl⟩ (Nat.le_of_ble_eq_true rfl) hfs2 rfl rfl rfl rfl (by omega) (by omega) (fun r h3 N3 q => ?_)
  obtain ⟨rfl, rfl, rfl⟩ := q
  change WS G s args Z mL_law _ _ h3 N3 604 [some (.ref b), some (.ref (cB G)), some (.ref (cB G + 169)), some (.ref (cB G + 281)), some (.ref (cB G + 282)), some (JV i), some (JV c), some (JV v'), none] [JV c]
  refine ws_iload dL_law_604 rfl ?_
  refine ws_icmpS 611 dL_law_606 (by decide) ?_
  refine ws_iload dL_law_611 rfl ?_
  refine ws_if_ne 628 dL_law_613 (by decide) ⟨by omega, by omega⟩ (fun c9 => ?_) (fun c9 => ?_)
  · skip
    refine ws_goto 2665 dL_law_628 (by decide) ?_
    exact ws_back (kk _ _ _ I2)
  · obtain ⟨hbo, o, ho, ho0⟩ := hv c9
    have e := hvv c9
    subst e
    have ho3 := o1.trans ho
    refine ws_aload_n dL_law_616 rfl ?_
    refine ws_iconst dL_law_617 ?_
    refine ws_laload dL_law_618 ho3 (by omega) (by omega) (by omega) ?_
    rw [show (o (0 : Int).toNat : Int64) = (Int32.ofInt v').toInt64 from ho0]
    refine ws_iload dL_law_619 rfl ?_
    refine ws_i2l dL_law_621 ?_
    refine ws_lcmpS dL_law_622 ?_
    refine ws_if0 628 dL_law_623 (by decide) ?_
    refine ws_goto 2665 dL_law_628 (by decide) ?_
    exact ws_back (kk _ _ _ I2)
set_option maxRecDepth 4000 in
theorem K_setTerms (hX : va_X b Ls xs s s.heap) (hbl : b < s.heap.size) (hbA : b < cB G) (hLs : Ls ≤ 2560) (hi : 0 ≤ i ∧ i + 5 ≤ (Ls : Int)) (I : INVt G h N t) (kk : ∀ (h9 : AH) (N9 : Nat) (t9 : Int), INVt G h9 N9 t9 → WS G s args Z mL_law k0 n0 h9 N9 2665 (LLw G b i) []) : WS G s args Z mL_law (k0 + 43) (n0 + 1014) h N 631 (LLw G b i) [] := by
  refine ws_aload_n dL_law_631 rfl ?_
  refine ws_aload_n dL_law_632 rfl ?_
  refine ws_iload dL_law_633 rfl ?_
  refine ws_iconst dL_law_635 ?_
  refine ws_iadd dL_law_636 ?_
  refine ws_sld hX hbl hbA (by omega) (by omega) hLs dL_law_637 ?_
  refine ws_aload_n dL_law_638 rfl ?_
  refine ws_iload dL_law_639 rfl ?_
  refine ws_iconst dL_law_641 ?_
  refine ws_iadd dL_law_642 ?_
  refine ws_sld hX hbl hbA (by omega) (by omega) hLs dL_law_643 ?_
  refine ws_aload_n dL_law_644 rfl ?_
  refine ws_iload dL_law_645 rfl ?_
  refine ws_iconst dL_law_647 ?_
  refine ws_iadd dL_law_648 ?_
  refine ws_sld hX hbl hbA (by omega) (by omega) hLs dL_law_649 ?_
  refine ws_aload_n dL_law_650 rfl ?_
  refine ws_callSH (k2 := k0 + 42) (n2 := n0 + 1008) (jq_setTerms I (inr32 _) (inr32 _) (inr32 _)) csL_157 dL_law_651 ⟨Nat.le_of_ble_eq_true rfl, Nat.le_of_ble_eq_true rfl⟩ (Nat.le_of_ble_eq_true rfl) rfl rfl (by omega) (by omega) (fun r h1 N1 q => ?_)
  obtain ⟨c, v, rfl, hc, hv, ⟨fs, hfs⟩, kk9, nn9, hk9, hn9, ct⟩ := q
  change WS G s args Z mL_law _ _ h1 N1 654 [some (.ref b), some (.ref (cB G)), some (.ref (cB G + 169)), some (.ref (cB G + 281)), some (.ref (cB G + 282)), some (JV i), none, none, none] [JV c]
  refine ws_istore dL_law_654 (Nat.le_of_ble_eq_true rfl) rfl ?_
  change WS G s args Z mL_law _ _ h1 N1 656 [some (.ref b), some (.ref (cB G)), some (.ref (cB G + 169)), some (.ref (cB G + 281)), some (.ref (cB G + 282)), some (JV i), some (JV c), none, none] []
  refine ws_aload_n dL_law_656 rfl ?_
  refine ws_aload_n dL_law_657 rfl ?_
  refine ws_iload dL_law_658 rfl ?_
  refine ws_iconst dL_law_660 ?_
  refine ws_iadd dL_law_661 ?_
  refine ws_sld hX hbl hbA (by omega) (by omega) hLs dL_law_662 ?_
  refine ws_aload_n dL_law_663 rfl ?_
  refine ws_iload dL_law_664 rfl ?_
  refine ws_iconst dL_law_666 ?_
  refine ws_iadd dL_law_667 ?_
  refine ws_sld hX hbl hbA (by omega) (by omega) hLs dL_law_668 ?_
  refine ws_aload_n dL_law_669 rfl ?_
  refine ws_iload dL_law_670 rfl ?_
  refine ws_iconst dL_law_672 ?_
  refine ws_iadd dL_law_673 ?_
  refine ws_sld hX hbl hbA (by omega) (by omega) hLs dL_law_674 ?_
  refine ws_callV (k2 := k0) (n2 := n0) ct cvL_159 dL_law_675 ⟨Nat.le_of_ble_eq_true rfl, Nat.le_of_ble_eq_true rfl⟩ (Nat.le_of_ble_eq_true rfl) hfs rfl rfl rfl rfl (by omega) (by omega) (fun r h2 N2 q => ?_)
  obtain ⟨v', rfl, hvv, I2, o1, o2⟩ := q
  change WS G s args Z mL_law _ _ h2 N2 678 [some (.ref b), some (.ref (cB G)), some (.ref (cB G + 169)), some (.ref (cB G + 281)), some (.ref (cB G + 282)), some (JV i), some (JV c), none, none] [JV v']
  refine ws_istore dL_law_678 (Nat.le_of_ble_eq_true rfl) rfl ?_
  change WS G s args Z mL_law _ _ h2 N2 680 [some (.ref b), some (.ref (cB G)), some (.ref (cB G + 169)), some (.ref (cB G + 281)), some (.ref (cB G + 282)), some (JV i), some (JV c), some (JV v'), none] []
  obtain ⟨fs2, hfs2, ct2⟩ := thr_of I2
  refine ws_aload_n dL_law_680 rfl ?_
  refine ws_callV (k2 := k0) (n2 := n0) ct2 cvL_139 dL_law_681 ⟨Nat.le_of_ble_eq_true rfl, Nat.le_of_ble_eq_true rfl⟩ (Nat.le_of_ble_eq_true rfl) hfs2 rfl rfl rfl rfl (by omega) (by omega) (fun r h3 N3 q => ?_)
  obtain ⟨rfl, rfl, rfl⟩ := q
  change WS G s args Z mL_law _ _ h3 N3 684 [some (.ref b), some (.ref (cB G)), some (.ref (cB G + 169)), some (.ref (cB G + 281)), some (.ref (cB G + 282)), some (JV i), some (JV c), some (JV v'), none] [JV c]
  refine ws_iload dL_law_684 rfl ?_
  refine ws_icmpS 691 dL_law_686 (by decide) ?_
  refine ws_iload dL_law_691 rfl ?_
  refine ws_if_ne 708 dL_law_693 (by decide) ⟨by omega, by omega⟩ (fun c9 => ?_) (fun c9 => ?_)
  · skip
    refine ws_goto 2665 dL_law_708 (by decide) ?_
    exact ws_back (kk _ _ _ I2)
  · obtain ⟨hbo, o, ho, ho0⟩ := hv c9
    have e := hvv c9
    subst e
    have ho3 := o1.trans ho
    refine ws_aload_n dL_law_696 rfl ?_
    refine ws_iconst dL_law_697 ?_
    refine ws_laload dL_law_698 ho3 (by omega) (by omega) (by omega) ?_
    rw [show (o (0 : Int).toNat : Int64) = (Int32.ofInt v').toInt64 from ho0]
    refine ws_iload dL_law_699 rfl ?_
    refine ws_i2l dL_law_701 ?_
    refine ws_lcmpS dL_law_702 ?_
    refine ws_if0 708 dL_law_703 (by decide) ?_
    refine ws_goto 2665 dL_law_708 (by decide) ?_
    exact ws_back (kk _ _ _ I2)
set_option maxRecDepth 4000 in
theorem K_setNeed (hX : va_X b Ls xs s s.heap) (hbl : b < s.heap.size) (hbA : b < cB G) (hLs : Ls ≤ 2560) (hi : 0 ≤ i ∧ i + 5 ≤ (Ls : Int)) (I : INVt G h N t) (kk : ∀ (h9 : AH) (N9 : Nat) (t9 : Int), INVt G h9 N9 t9 → WS G s args Z mL_law k0 n0 h9 N9 2665 (LLw G b i) []) : WS G s args Z mL_law (k0 + 43) (n0 + 1014) h N 711 (LLw G b i) [] := by
  refine ws_aload_n dL_law_711 rfl ?_
  refine ws_aload_n dL_law_712 rfl ?_
  refine ws_iload dL_law_713 rfl ?_
  refine ws_iconst dL_law_715 ?_
  refine ws_iadd dL_law_716 ?_
  refine ws_sld hX hbl hbA (by omega) (by omega) hLs dL_law_717 ?_
  refine ws_aload_n dL_law_718 rfl ?_
  refine ws_iload dL_law_719 rfl ?_
  refine ws_iconst dL_law_721 ?_
  refine ws_iadd dL_law_722 ?_
  refine ws_sld hX hbl hbA (by omega) (by omega) hLs dL_law_723 ?_
  refine ws_aload_n dL_law_724 rfl ?_
  refine ws_iload dL_law_725 rfl ?_
  refine ws_iconst dL_law_727 ?_
  refine ws_iadd dL_law_728 ?_
  refine ws_sld hX hbl hbA (by omega) (by omega) hLs dL_law_729 ?_
  refine ws_aload_n dL_law_730 rfl ?_
  refine ws_callSH (k2 := k0 + 42) (n2 := n0 + 1008) (jq_setNeed I (inr32 _) (inr32 _) (inr32 _)) csL_160 dL_law_731 ⟨Nat.le_of_ble_eq_true rfl, Nat.le_of_ble_eq_true rfl⟩ (Nat.le_of_ble_eq_true rfl) rfl rfl (by omega) (by omega) (fun r h1 N1 q => ?_)
  obtain ⟨c, v, rfl, hc, hv, ⟨fs, hfs⟩, kk9, nn9, hk9, hn9, ct⟩ := q
  change WS G s args Z mL_law _ _ h1 N1 734 [some (.ref b), some (.ref (cB G)), some (.ref (cB G + 169)), some (.ref (cB G + 281)), some (.ref (cB G + 282)), some (JV i), none, none, none] [JV c]
  refine ws_istore dL_law_734 (Nat.le_of_ble_eq_true rfl) rfl ?_
  change WS G s args Z mL_law _ _ h1 N1 736 [some (.ref b), some (.ref (cB G)), some (.ref (cB G + 169)), some (.ref (cB G + 281)), some (.ref (cB G + 282)), some (JV i), some (JV c), none, none] []
  refine ws_aload_n dL_law_736 rfl ?_
  refine ws_aload_n dL_law_737 rfl ?_
  refine ws_iload dL_law_738 rfl ?_
  refine ws_iconst dL_law_740 ?_
  refine ws_iadd dL_law_741 ?_
  refine ws_sld hX hbl hbA (by omega) (by omega) hLs dL_law_742 ?_
  refine ws_aload_n dL_law_743 rfl ?_
  refine ws_iload dL_law_744 rfl ?_
  refine ws_iconst dL_law_746 ?_
  refine ws_iadd dL_law_747 ?_
  refine ws_sld hX hbl hbA (by omega) (by omega) hLs dL_law_748 ?_
  refine ws_aload_n dL_law_749 rfl ?_
  refine ws_iload dL_law_750 rfl ?_
  refine ws_iconst dL_law_752 ?_
  refine ws_iadd dL_law_753 ?_
  refine ws_sld hX hbl hbA (by omega) (by omega) hLs dL_law_754 ?_
  refine ws_callV (k2 := k0) (n2 := n0) ct cvL_162 dL_law_755 ⟨Nat.le_of_ble_eq_true rfl, Nat.le_of_ble_eq_true rfl⟩ (Nat.le_of_ble_eq_true rfl) hfs rfl rfl rfl rfl (by omega) (by omega) (fun r h2 N2 q => ?_)
  obtain ⟨v', rfl, hvv, I2, o1, o2⟩ := q
  change WS G s args Z mL_law _ _ h2 N2 758 [some (.ref b), some (.ref (cB G)), some (.ref (cB G + 169)), some (.ref (cB G + 281)), some (.ref (cB G + 282)), some (JV i), some (JV c), none, none] [JV v']
  refine ws_istore dL_law_758 (Nat.le_of_ble_eq_true rfl) rfl ?_
  change WS G s args Z mL_law _ _ h2 N2 760 [some (.ref b), some (.ref (cB G)), some (.ref (cB G + 169)), some (.ref (cB G + 281)), some (.ref (cB G + 282)), some (JV i), some (JV c), some (JV v'), none] []
  obtain ⟨fs2, hfs2, ct2⟩ := thr_of I2
  refine ws_aload_n dL_law_760 rfl ?_
  refine ws_callV (k2 := k0) (n2 := n0) ct2 cvL_139 dL_law_761 ⟨Nat.le_of_ble_eq_true rfl, Nat.le_of_ble_eq_true rfl⟩ (Nat.le_of_ble_eq_true rfl) hfs2 rfl rfl rfl rfl (by omega) (by omega) (fun r h3 N3 q => ?_)
  obtain ⟨rfl, rfl, rfl⟩ := q
  change WS G s args Z mL_law _ _ h3 N3 764 [some (.ref b), some (.ref (cB G)), some (.ref (cB G + 169)), some (.ref (cB G + 281)), some (.ref (cB G + 282)), some (JV i), some (JV c), some (JV v'), none] [JV c]
  refine ws_iload dL_law_764 rfl ?_
  refine ws_icmpS 771 dL_law_766 (by decide) ?_
  refine ws_iload dL_law_771 rfl ?_
  refine ws_if_ne 788 dL_law_773 (by decide) ⟨by omega, by omega⟩ (fun c9 => ?_) (fun c9 => ?_)
  · skip
    refine ws_goto 2665 dL_law_788 (by decide) ?_
    exact ws_back (kk _ _ _ I2)
  · obtain ⟨hbo, o, ho, ho0⟩ := hv c9
    have e := hvv c9
    subst e
    have ho3 := o1.trans ho
    refine ws_aload_n dL_law_776 rfl ?_
    refine ws_iconst dL_law_777 ?_
    refine ws_laload dL_law_778 ho3 (by omega) (by omega) (by omega) ?_
    rw [show (o (0 : Int).toNat : Int64) = (Int32.ofInt v').toInt64 from ho0]
    refine ws_iload dL_law_779 rfl ?_
    refine ws_i2l dL_law_781 ?_
    refine ws_lcmpS dL_law_782 ?_
    refine ws_if0 788 dL_law_783 (by decide) ?_
    refine ws_goto 2665 dL_law_788 (by decide) ?_
    exact ws_back (kk _ _ _ I2)
set_option maxRecDepth 4000 in
theorem K_link (hX : va_X b Ls xs s s.heap) (hbl : b < s.heap.size) (hbA : b < cB G) (hLs : Ls ≤ 2560) (hi : 0 ≤ i ∧ i + 5 ≤ (Ls : Int)) (I : INVt G h N t) (kk : ∀ (h9 : AH) (N9 : Nat) (t9 : Int), INVt G h9 N9 t9 → WS G s args Z mL_law k0 n0 h9 N9 2665 (LLw G b i) []) : WS G s args Z mL_law (k0 + 43) (n0 + 1014) h N 791 (LLw G b i) [] := by
  refine ws_aload_n dL_law_791 rfl ?_
  refine ws_aload_n dL_law_792 rfl ?_
  refine ws_iload dL_law_793 rfl ?_
  refine ws_iconst dL_law_795 ?_
  refine ws_iadd dL_law_796 ?_
  refine ws_sld hX hbl hbA (by omega) (by omega) hLs dL_law_797 ?_
  refine ws_aload_n dL_law_798 rfl ?_
  refine ws_iload dL_law_799 rfl ?_
  refine ws_iconst dL_law_801 ?_
  refine ws_iadd dL_law_802 ?_
  refine ws_sld hX hbl hbA (by omega) (by omega) hLs dL_law_803 ?_
  refine ws_aload_n dL_law_804 rfl ?_
  refine ws_iload dL_law_805 rfl ?_
  refine ws_iconst dL_law_807 ?_
  refine ws_iadd dL_law_808 ?_
  refine ws_sld hX hbl hbA (by omega) (by omega) hLs dL_law_809 ?_
  refine ws_aload_n dL_law_810 rfl ?_
  refine ws_iload dL_law_811 rfl ?_
  refine ws_iconst dL_law_813 ?_
  refine ws_iadd dL_law_814 ?_
  refine ws_sld hX hbl hbA (by omega) (by omega) hLs dL_law_815 ?_
  refine ws_aload_n dL_law_816 rfl ?_
  refine ws_callSH (k2 := k0 + 42) (n2 := n0 + 1008) (jq_link I (inr32 _) (inr32 _) (inr32 _) (inr32 _)) csL_163 dL_law_817 ⟨Nat.le_of_ble_eq_true rfl, Nat.le_of_ble_eq_true rfl⟩ (Nat.le_of_ble_eq_true rfl) rfl rfl (by omega) (by omega) (fun r h1 N1 q => ?_)
  obtain ⟨c, v, rfl, hc, hv, ⟨fs, hfs⟩, kk9, nn9, hk9, hn9, ct⟩ := q
  change WS G s args Z mL_law _ _ h1 N1 820 [some (.ref b), some (.ref (cB G)), some (.ref (cB G + 169)), some (.ref (cB G + 281)), some (.ref (cB G + 282)), some (JV i), none, none, none] [JV c]
  refine ws_istore dL_law_820 (Nat.le_of_ble_eq_true rfl) rfl ?_
  change WS G s args Z mL_law _ _ h1 N1 822 [some (.ref b), some (.ref (cB G)), some (.ref (cB G + 169)), some (.ref (cB G + 281)), some (.ref (cB G + 282)), some (JV i), some (JV c), none, none] []
  refine ws_aload_n dL_law_822 rfl ?_
  refine ws_aload_n dL_law_823 rfl ?_
  refine ws_iload dL_law_824 rfl ?_
  refine ws_iconst dL_law_826 ?_
  refine ws_iadd dL_law_827 ?_
  refine ws_sld hX hbl hbA (by omega) (by omega) hLs dL_law_828 ?_
  refine ws_aload_n dL_law_829 rfl ?_
  refine ws_iload dL_law_830 rfl ?_
  refine ws_iconst dL_law_832 ?_
  refine ws_iadd dL_law_833 ?_
  refine ws_sld hX hbl hbA (by omega) (by omega) hLs dL_law_834 ?_
  refine ws_aload_n dL_law_835 rfl ?_
  refine ws_iload dL_law_836 rfl ?_
  refine ws_iconst dL_law_838 ?_
  refine ws_iadd dL_law_839 ?_
  refine ws_sld hX hbl hbA (by omega) (by omega) hLs dL_law_840 ?_
  refine ws_aload_n dL_law_841 rfl ?_
  refine ws_iload dL_law_842 rfl ?_
  refine ws_iconst dL_law_844 ?_
  refine ws_iadd dL_law_845 ?_
  refine ws_sld hX hbl hbA (by omega) (by omega) hLs dL_law_846 ?_
  refine ws_callV (k2 := k0) (n2 := n0) ct cvL_166 dL_law_847 ⟨Nat.le_of_ble_eq_true rfl, Nat.le_of_ble_eq_true rfl⟩ (Nat.le_of_ble_eq_true rfl) hfs rfl rfl rfl rfl (by omega) (by omega) (fun r h2 N2 q => ?_)
  obtain ⟨v', rfl, hvv, I2, o1, o2⟩ := q
  change WS G s args Z mL_law _ _ h2 N2 850 [some (.ref b), some (.ref (cB G)), some (.ref (cB G + 169)), some (.ref (cB G + 281)), some (.ref (cB G + 282)), some (JV i), some (JV c), none, none] [JV v']
  refine ws_istore dL_law_850 (Nat.le_of_ble_eq_true rfl) rfl ?_
  change WS G s args Z mL_law _ _ h2 N2 852 [some (.ref b), some (.ref (cB G)), some (.ref (cB G + 169)), some (.ref (cB G + 281)), some (.ref (cB G + 282)), some (JV i), some (JV c), some (JV v'), none] []
  obtain ⟨fs2, hfs2, ct2⟩ := thr_of I2
  refine ws_aload_n dL_law_852 rfl ?_
  refine ws_callV (k2 := k0) (n2 := n0) ct2 cvL_139 dL_law_853 ⟨Nat.le_of_ble_eq_true rfl, Nat.le_of_ble_eq_true rfl⟩ (Nat.le_of_ble_eq_true rfl) hfs2 rfl rfl rfl rfl (by omega) (by omega) (fun r h3 N3 q => ?_)
  obtain ⟨rfl, rfl, rfl⟩ := q
  change WS G s args Z mL_law _ _ h3 N3 856 [some (.ref b), some (.ref (cB G)), some (.ref (cB G + 169)), some (.ref (cB G + 281)), some (.ref (cB G + 282)), some (JV i), some (JV c), some (JV v'), none] [JV c]
  refine ws_iload dL_law_856 rfl ?_
  refine ws_icmpS 863 dL_law_858 (by decide) ?_
  refine ws_iload dL_law_863 rfl ?_
  refine ws_if_ne 880 dL_law_865 (by decide) ⟨by omega, by omega⟩ (fun c9 => ?_) (fun c9 => ?_)
  · skip
    refine ws_goto 2665 dL_law_880 (by decide) ?_
    exact ws_back (kk _ _ _ I2)
  · obtain ⟨hbo, o, ho, ho0⟩ := hv c9
    have e := hvv c9
    subst e
    have ho3 := o1.trans ho
    refine ws_aload_n dL_law_868 rfl ?_
    refine ws_iconst dL_law_869 ?_
    refine ws_laload dL_law_870 ho3 (by omega) (by omega) (by omega) ?_
    rw [show (o (0 : Int).toNat : Int64) = (Int32.ofInt v').toInt64 from ho0]
    refine ws_iload dL_law_871 rfl ?_
    refine ws_i2l dL_law_873 ?_
    refine ws_lcmpS dL_law_874 ?_
    refine ws_if0 880 dL_law_875 (by decide) ?_
    refine ws_goto 2665 dL_law_880 (by decide) ?_
    exact ws_back (kk _ _ _ I2)
set_option maxRecDepth 4000 in
theorem K_drop (hX : va_X b Ls xs s s.heap) (hbl : b < s.heap.size) (hbA : b < cB G) (hLs : Ls ≤ 2560) (hi : 0 ≤ i ∧ i + 5 ≤ (Ls : Int)) (I : INVt G h N t) (kk : ∀ (h9 : AH) (N9 : Nat) (t9 : Int), INVt G h9 N9 t9 → WS G s args Z mL_law k0 n0 h9 N9 2665 (LLw G b i) []) : WS G s args Z mL_law (k0 + 43) (n0 + 1014) h N 883 (LLw G b i) [] := by
  refine ws_aload_n dL_law_883 rfl ?_
  refine ws_aload_n dL_law_884 rfl ?_
  refine ws_iload dL_law_885 rfl ?_
  refine ws_iconst dL_law_887 ?_
  refine ws_iadd dL_law_888 ?_
  refine ws_sld hX hbl hbA (by omega) (by omega) hLs dL_law_889 ?_
  refine ws_aload_n dL_law_890 rfl ?_
  refine ws_callSH (k2 := k0 + 42) (n2 := n0 + 1008) (jq_drop I (inr32 _)) csL_167 dL_law_891 ⟨Nat.le_of_ble_eq_true rfl, Nat.le_of_ble_eq_true rfl⟩ (Nat.le_of_ble_eq_true rfl) rfl rfl (by omega) (by omega) (fun r h1 N1 q => ?_)
  obtain ⟨c, v, rfl, hc, hv, ⟨fs, hfs⟩, kk9, nn9, hk9, hn9, ct⟩ := q
  change WS G s args Z mL_law _ _ h1 N1 894 [some (.ref b), some (.ref (cB G)), some (.ref (cB G + 169)), some (.ref (cB G + 281)), some (.ref (cB G + 282)), some (JV i), none, none, none] [JV c]
  refine ws_istore dL_law_894 (Nat.le_of_ble_eq_true rfl) rfl ?_
  change WS G s args Z mL_law _ _ h1 N1 896 [some (.ref b), some (.ref (cB G)), some (.ref (cB G + 169)), some (.ref (cB G + 281)), some (.ref (cB G + 282)), some (JV i), some (JV c), none, none] []
  refine ws_aload_n dL_law_896 rfl ?_
  refine ws_aload_n dL_law_897 rfl ?_
  refine ws_iload dL_law_898 rfl ?_
  refine ws_iconst dL_law_900 ?_
  refine ws_iadd dL_law_901 ?_
  refine ws_sld hX hbl hbA (by omega) (by omega) hLs dL_law_902 ?_
  refine ws_callV (k2 := k0) (n2 := n0) ct cvL_170 dL_law_903 ⟨Nat.le_of_ble_eq_true rfl, Nat.le_of_ble_eq_true rfl⟩ (Nat.le_of_ble_eq_true rfl) hfs rfl rfl rfl rfl (by omega) (by omega) (fun r h2 N2 q => ?_)
  obtain ⟨v', rfl, hvv, I2, o1, o2⟩ := q
  change WS G s args Z mL_law _ _ h2 N2 906 [some (.ref b), some (.ref (cB G)), some (.ref (cB G + 169)), some (.ref (cB G + 281)), some (.ref (cB G + 282)), some (JV i), some (JV c), none, none] [JV v']
  refine ws_istore dL_law_906 (Nat.le_of_ble_eq_true rfl) rfl ?_
  change WS G s args Z mL_law _ _ h2 N2 908 [some (.ref b), some (.ref (cB G)), some (.ref (cB G + 169)), some (.ref (cB G + 281)), some (.ref (cB G + 282)), some (JV i), some (JV c), some (JV v'), none] []
  obtain ⟨fs2, hfs2, ct2⟩ := thr_of I2
  refine ws_aload_n dL_law_908 rfl ?_
  refine ws_callV (k2 := k0) (n2 := n0) ct2 cvL_139 dL_law_909 ⟨Nat.le_of_ble_eq_true rfl, Nat.le_of_ble_eq_true rfl⟩ (Nat.le_of_ble_eq_true rfl) hfs2 rfl rfl rfl rfl (by omega) (by omega) (fun r h3 N3 q => ?_)
  obtain ⟨rfl, rfl, rfl⟩ := q
  change WS G s args Z mL_law _ _ h3 N3 912 [some (.ref b), some (.ref (cB G)), some (.ref (cB G + 169)), some (.ref (cB G + 281)), some (.ref (cB G + 282)), some (JV i), some (JV c), some (JV v'), none] [JV c]
  refine ws_iload dL_law_912 rfl ?_
  refine ws_icmpS 919 dL_law_914 (by decide) ?_
  refine ws_iload dL_law_919 rfl ?_
  refine ws_if_ne 936 dL_law_921 (by decide) ⟨by omega, by omega⟩ (fun c9 => ?_) (fun c9 => ?_)
  · skip
    refine ws_goto 2665 dL_law_936 (by decide) ?_
    exact ws_back (kk _ _ _ I2)
  · obtain ⟨hbo, o, ho, ho0⟩ := hv c9
    have e := hvv c9
    subst e
    have ho3 := o1.trans ho
    refine ws_aload_n dL_law_924 rfl ?_
    refine ws_iconst dL_law_925 ?_
    refine ws_laload dL_law_926 ho3 (by omega) (by omega) (by omega) ?_
    rw [show (o (0 : Int).toNat : Int64) = (Int32.ofInt v').toInt64 from ho0]
    refine ws_iload dL_law_927 rfl ?_
    refine ws_i2l dL_law_929 ?_
    refine ws_lcmpS dL_law_930 ?_
    refine ws_if0 936 dL_law_931 (by decide) ?_
    refine ws_goto 2665 dL_law_936 (by decide) ?_
    exact ws_back (kk _ _ _ I2)
set_option maxRecDepth 4000 in
theorem K_finish (hX : va_X b Ls xs s s.heap) (hbl : b < s.heap.size) (hbA : b < cB G) (hLs : Ls ≤ 2560) (hi : 0 ≤ i ∧ i + 5 ≤ (Ls : Int)) (I : INVt G h N t) (kk : ∀ (h9 : AH) (N9 : Nat) (t9 : Int), INVt G h9 N9 t9 → WS G s args Z mL_law k0 n0 h9 N9 2665 (LLw G b i) []) : WS G s args Z mL_law (k0 + 43) (n0 + 1014) h N 939 (LLw G b i) [] := by
  refine ws_aload_n dL_law_939 rfl ?_
  refine ws_aload_n dL_law_940 rfl ?_
  refine ws_iload dL_law_941 rfl ?_
  refine ws_iconst dL_law_943 ?_
  refine ws_iadd dL_law_944 ?_
  refine ws_sld hX hbl hbA (by omega) (by omega) hLs dL_law_945 ?_
  refine ws_aload_n dL_law_946 rfl ?_
  refine ws_iload dL_law_947 rfl ?_
  refine ws_iconst dL_law_949 ?_
  refine ws_iadd dL_law_950 ?_
  refine ws_sld hX hbl hbA (by omega) (by omega) hLs dL_law_951 ?_
  refine ws_aload_n dL_law_952 rfl ?_
  refine ws_iload dL_law_953 rfl ?_
  refine ws_iconst dL_law_955 ?_
  refine ws_iadd dL_law_956 ?_
  refine ws_sld hX hbl hbA (by omega) (by omega) hLs dL_law_957 ?_
  refine ws_aload_n dL_law_958 rfl ?_
  refine ws_callSH (k2 := k0 + 42) (n2 := n0 + 1008) (jq_finish I (inr32 _) (inr32 _) (inr32 _)) csL_171 dL_law_959 ⟨Nat.le_of_ble_eq_true rfl, Nat.le_of_ble_eq_true rfl⟩ (Nat.le_of_ble_eq_true rfl) rfl rfl (by omega) (by omega) (fun r h1 N1 q => ?_)
  obtain ⟨c, v, rfl, hc, hv, ⟨fs, hfs⟩, kk9, nn9, hk9, hn9, ct⟩ := q
  change WS G s args Z mL_law _ _ h1 N1 962 [some (.ref b), some (.ref (cB G)), some (.ref (cB G + 169)), some (.ref (cB G + 281)), some (.ref (cB G + 282)), some (JV i), none, none, none] [JV c]
  refine ws_istore dL_law_962 (Nat.le_of_ble_eq_true rfl) rfl ?_
  change WS G s args Z mL_law _ _ h1 N1 964 [some (.ref b), some (.ref (cB G)), some (.ref (cB G + 169)), some (.ref (cB G + 281)), some (.ref (cB G + 282)), some (JV i), some (JV c), none, none] []
  refine ws_aload_n dL_law_964 rfl ?_
  refine ws_aload_n dL_law_965 rfl ?_
  refine ws_iload dL_law_966 rfl ?_
  refine ws_iconst dL_law_968 ?_
  refine ws_iadd dL_law_969 ?_
  refine ws_sld hX hbl hbA (by omega) (by omega) hLs dL_law_970 ?_
  refine ws_aload_n dL_law_971 rfl ?_
  refine ws_iload dL_law_972 rfl ?_
  refine ws_iconst dL_law_974 ?_
  refine ws_iadd dL_law_975 ?_
  refine ws_sld hX hbl hbA (by omega) (by omega) hLs dL_law_976 ?_
  refine ws_aload_n dL_law_977 rfl ?_
  refine ws_iload dL_law_978 rfl ?_
  refine ws_iconst dL_law_980 ?_
  refine ws_iadd dL_law_981 ?_
  refine ws_sld hX hbl hbA (by omega) (by omega) hLs dL_law_982 ?_
  refine ws_callV (k2 := k0) (n2 := n0) ct cvL_173 dL_law_983 ⟨Nat.le_of_ble_eq_true rfl, Nat.le_of_ble_eq_true rfl⟩ (Nat.le_of_ble_eq_true rfl) hfs rfl rfl rfl rfl (by omega) (by omega) (fun r h2 N2 q => ?_)
  obtain ⟨v', rfl, hvv, I2, o1, o2⟩ := q
  change WS G s args Z mL_law _ _ h2 N2 986 [some (.ref b), some (.ref (cB G)), some (.ref (cB G + 169)), some (.ref (cB G + 281)), some (.ref (cB G + 282)), some (JV i), some (JV c), none, none] [JV v']
  refine ws_istore dL_law_986 (Nat.le_of_ble_eq_true rfl) rfl ?_
  change WS G s args Z mL_law _ _ h2 N2 988 [some (.ref b), some (.ref (cB G)), some (.ref (cB G + 169)), some (.ref (cB G + 281)), some (.ref (cB G + 282)), some (JV i), some (JV c), some (JV v'), none] []
  obtain ⟨fs2, hfs2, ct2⟩ := thr_of I2
  refine ws_aload_n dL_law_988 rfl ?_
  refine ws_callV (k2 := k0) (n2 := n0) ct2 cvL_139 dL_law_989 ⟨Nat.le_of_ble_eq_true rfl, Nat.le_of_ble_eq_true rfl⟩ (Nat.le_of_ble_eq_true rfl) hfs2 rfl rfl rfl rfl (by omega) (by omega) (fun r h3 N3 q => ?_)
  obtain ⟨rfl, rfl, rfl⟩ := q
  change WS G s args Z mL_law _ _ h3 N3 992 [some (.ref b), some (.ref (cB G)), some (.ref (cB G + 169)), some (.ref (cB G + 281)), some (.ref (cB G + 282)), some (JV i), some (JV c), some (JV v'), none] [JV c]
  refine ws_iload dL_law_992 rfl ?_
  refine ws_icmpS 999 dL_law_994 (by decide) ?_
  refine ws_iload dL_law_999 rfl ?_
  refine ws_if_ne 1023 dL_law_1001 (by decide) ⟨by omega, by omega⟩ (fun c9 => ?_) (fun c9 => ?_)
  · skip
    refine ws_goto 2665 dL_law_1023 (by decide) ?_
    exact ws_back (kk _ _ _ I2)
  · obtain ⟨hbo, o, ho, ho0⟩ := hv c9
    have e := hvv c9
    subst e
    have ho3 := o1.trans ho
    refine ws_aload_n dL_law_1004 rfl ?_
    refine ws_iconst dL_law_1005 ?_
    refine ws_laload dL_law_1006 ho3 (by omega) (by omega) (by omega) ?_
    rw [show (o (0 : Int).toNat : Int64) = (Int32.ofInt v').toInt64 from ho0]
    refine ws_iload dL_law_1007 rfl ?_
    rcases hbo rfl with rfl | rfl
    · refine ws_if_eq 1016 dL_law_1009 (by decide) ⟨by omega, by omega⟩ (fun c8 => ?_) (fun c8 => absurd rfl c8)
      refine ws_lconst dL_law_1016 ?_
      rw [show (Int32.ofInt 0).toInt64 = Int64.ofNat ((0 : Fin 2) : Nat) by decide]
      refine ws_lcmpS dL_law_1017 ?_
      refine ws_if0 1023 dL_law_1018 (by decide) ?_
      refine ws_goto 2665 dL_law_1023 (by decide) ?_
      exact ws_back (kk _ _ _ I2)
    · refine ws_if_eq 1016 dL_law_1009 (by decide) ⟨by omega, by omega⟩ (fun c8 => absurd c8 (by decide)) (fun c8 => ?_)
      refine ws_lconst dL_law_1012 ?_
      refine ws_goto 1017 dL_law_1013 (by decide) ?_
      rw [show (Int32.ofInt 1).toInt64 = Int64.ofNat ((1 : Fin 2) : Nat) by decide]
      refine ws_lcmpS dL_law_1017 ?_
      refine ws_if0 1023 dL_law_1018 (by decide) ?_
      refine ws_goto 2665 dL_law_1023 (by decide) ?_
      exact ws_back (kk _ _ _ I2)
set_option maxRecDepth 4000 in
theorem K_reopen (hX : va_X b Ls xs s s.heap) (hbl : b < s.heap.size) (hbA : b < cB G) (hLs : Ls ≤ 2560) (hi : 0 ≤ i ∧ i + 5 ≤ (Ls : Int)) (I : INVt G h N t) (kk : ∀ (h9 : AH) (N9 : Nat) (t9 : Int), INVt G h9 N9 t9 → WS G s args Z mL_law k0 n0 h9 N9 2665 (LLw G b i) []) : WS G s args Z mL_law (k0 + 43) (n0 + 1014) h N 1026 (LLw G b i) [] := by
  refine ws_aload_n dL_law_1026 rfl ?_
  refine ws_aload_n dL_law_1027 rfl ?_
  refine ws_iload dL_law_1028 rfl ?_
  refine ws_iconst dL_law_1030 ?_
  refine ws_iadd dL_law_1031 ?_
  refine ws_sld hX hbl hbA (by omega) (by omega) hLs dL_law_1032 ?_
  refine ws_aload_n dL_law_1033 rfl ?_
  refine ws_callSH (k2 := k0 + 42) (n2 := n0 + 1008) (jq_reopen I (inr32 _)) csL_174 dL_law_1034 ⟨Nat.le_of_ble_eq_true rfl, Nat.le_of_ble_eq_true rfl⟩ (Nat.le_of_ble_eq_true rfl) rfl rfl (by omega) (by omega) (fun r h1 N1 q => ?_)
  obtain ⟨c, v, rfl, hc, hv, ⟨fs, hfs⟩, kk9, nn9, hk9, hn9, ct⟩ := q
  change WS G s args Z mL_law _ _ h1 N1 1037 [some (.ref b), some (.ref (cB G)), some (.ref (cB G + 169)), some (.ref (cB G + 281)), some (.ref (cB G + 282)), some (JV i), none, none, none] [JV c]
  refine ws_istore dL_law_1037 (Nat.le_of_ble_eq_true rfl) rfl ?_
  change WS G s args Z mL_law _ _ h1 N1 1039 [some (.ref b), some (.ref (cB G)), some (.ref (cB G + 169)), some (.ref (cB G + 281)), some (.ref (cB G + 282)), some (JV i), some (JV c), none, none] []
  refine ws_aload_n dL_law_1039 rfl ?_
  refine ws_aload_n dL_law_1040 rfl ?_
  refine ws_iload dL_law_1041 rfl ?_
  refine ws_iconst dL_law_1043 ?_
  refine ws_iadd dL_law_1044 ?_
  refine ws_sld hX hbl hbA (by omega) (by omega) hLs dL_law_1045 ?_
  refine ws_callV (k2 := k0) (n2 := n0) ct cvL_176 dL_law_1046 ⟨Nat.le_of_ble_eq_true rfl, Nat.le_of_ble_eq_true rfl⟩ (Nat.le_of_ble_eq_true rfl) hfs rfl rfl rfl rfl (by omega) (by omega) (fun r h2 N2 q => ?_)
  obtain ⟨v', rfl, hvv, I2, o1, o2⟩ := q
  change WS G s args Z mL_law _ _ h2 N2 1049 [some (.ref b), some (.ref (cB G)), some (.ref (cB G + 169)), some (.ref (cB G + 281)), some (.ref (cB G + 282)), some (JV i), some (JV c), none, none] [JV v']
  refine ws_istore dL_law_1049 (Nat.le_of_ble_eq_true rfl) rfl ?_
  change WS G s args Z mL_law _ _ h2 N2 1051 [some (.ref b), some (.ref (cB G)), some (.ref (cB G + 169)), some (.ref (cB G + 281)), some (.ref (cB G + 282)), some (JV i), some (JV c), some (JV v'), none] []
  obtain ⟨fs2, hfs2, ct2⟩ := thr_of I2
  refine ws_aload_n dL_law_1051 rfl ?_
  refine ws_callV (k2 := k0) (n2 := n0) ct2 cvL_139 dL_law_1052 ⟨Nat.le_of_ble_eq_true rfl, Nat.le_of_ble_eq_true rfl⟩ (Nat.le_of_ble_eq_true rfl) hfs2 rfl rfl rfl rfl (by omega) (by omega) (fun r h3 N3 q => ?_)
  obtain ⟨rfl, rfl, rfl⟩ := q
  change WS G s args Z mL_law _ _ h3 N3 1055 [some (.ref b), some (.ref (cB G)), some (.ref (cB G + 169)), some (.ref (cB G + 281)), some (.ref (cB G + 282)), some (JV i), some (JV c), some (JV v'), none] [JV c]
  refine ws_iload dL_law_1055 rfl ?_
  refine ws_icmpS 1062 dL_law_1057 (by decide) ?_
  refine ws_iload dL_law_1062 rfl ?_
  refine ws_if_ne 1086 dL_law_1064 (by decide) ⟨by omega, by omega⟩ (fun c9 => ?_) (fun c9 => ?_)
  · skip
    refine ws_goto 2665 dL_law_1086 (by decide) ?_
    exact ws_back (kk _ _ _ I2)
  · obtain ⟨hbo, o, ho, ho0⟩ := hv c9
    have e := hvv c9
    subst e
    have ho3 := o1.trans ho
    refine ws_aload_n dL_law_1067 rfl ?_
    refine ws_iconst dL_law_1068 ?_
    refine ws_laload dL_law_1069 ho3 (by omega) (by omega) (by omega) ?_
    rw [show (o (0 : Int).toNat : Int64) = (Int32.ofInt v').toInt64 from ho0]
    refine ws_iload dL_law_1070 rfl ?_
    rcases hbo rfl with rfl | rfl
    · refine ws_if_eq 1079 dL_law_1072 (by decide) ⟨by omega, by omega⟩ (fun c8 => ?_) (fun c8 => absurd rfl c8)
      refine ws_lconst dL_law_1079 ?_
      rw [show (Int32.ofInt 0).toInt64 = Int64.ofNat ((0 : Fin 2) : Nat) by decide]
      refine ws_lcmpS dL_law_1080 ?_
      refine ws_if0 1086 dL_law_1081 (by decide) ?_
      refine ws_goto 2665 dL_law_1086 (by decide) ?_
      exact ws_back (kk _ _ _ I2)
    · refine ws_if_eq 1079 dL_law_1072 (by decide) ⟨by omega, by omega⟩ (fun c8 => absurd c8 (by decide)) (fun c8 => ?_)
      refine ws_lconst dL_law_1075 ?_
      refine ws_goto 1080 dL_law_1076 (by decide) ?_
      rw [show (Int32.ofInt 1).toInt64 = Int64.ofNat ((1 : Fin 2) : Nat) by decide]
      refine ws_lcmpS dL_law_1080 ?_
      refine ws_if0 1086 dL_law_1081 (by decide) ?_
      refine ws_goto 2665 dL_law_1086 (by decide) ?_
      exact ws_back (kk _ _ _ I2)
set_option maxRecDepth 4000 in
theorem K_setRule (hX : va_X b Ls xs s s.heap) (hbl : b < s.heap.size) (hbA : b < cB G) (hLs : Ls ≤ 2560) (hi : 0 ≤ i ∧ i + 5 ≤ (Ls : Int)) (I : INVt G h N t) (kk : ∀ (h9 : AH) (N9 : Nat) (t9 : Int), INVt G h9 N9 t9 → WS G s args Z mL_law k0 n0 h9 N9 2665 (LLw G b i) []) : WS G s args Z mL_law (k0 + 43) (n0 + 1014) h N 1089 (LLw G b i) [] := by
  refine ws_aload_n dL_law_1089 rfl ?_
  refine ws_aload_n dL_law_1090 rfl ?_
  refine ws_iload dL_law_1091 rfl ?_
  refine ws_iconst dL_law_1093 ?_
  refine ws_iadd dL_law_1094 ?_
  refine ws_sld hX hbl hbA (by omega) (by omega) hLs dL_law_1095 ?_
  refine ws_aload_n dL_law_1096 rfl ?_
  refine ws_callSH (k2 := k0 + 42) (n2 := n0 + 1008) (jq_setRule I (inr32 _)) csL_177 dL_law_1097 ⟨Nat.le_of_ble_eq_true rfl, Nat.le_of_ble_eq_true rfl⟩ (Nat.le_of_ble_eq_true rfl) rfl rfl (by omega) (by omega) (fun r h1 N1 q => ?_)
  obtain ⟨c, v, rfl, hc, hv, ⟨fs, hfs⟩, kk9, nn9, hk9, hn9, ct⟩ := q
  change WS G s args Z mL_law _ _ h1 N1 1100 [some (.ref b), some (.ref (cB G)), some (.ref (cB G + 169)), some (.ref (cB G + 281)), some (.ref (cB G + 282)), some (JV i), none, none, none] [JV c]
  refine ws_istore dL_law_1100 (Nat.le_of_ble_eq_true rfl) rfl ?_
  change WS G s args Z mL_law _ _ h1 N1 1102 [some (.ref b), some (.ref (cB G)), some (.ref (cB G + 169)), some (.ref (cB G + 281)), some (.ref (cB G + 282)), some (JV i), some (JV c), none, none] []
  refine ws_aload_n dL_law_1102 rfl ?_
  refine ws_aload_n dL_law_1103 rfl ?_
  refine ws_iload dL_law_1104 rfl ?_
  refine ws_iconst dL_law_1106 ?_
  refine ws_iadd dL_law_1107 ?_
  refine ws_sld hX hbl hbA (by omega) (by omega) hLs dL_law_1108 ?_
  refine ws_callV (k2 := k0) (n2 := n0) ct cvL_179 dL_law_1109 ⟨Nat.le_of_ble_eq_true rfl, Nat.le_of_ble_eq_true rfl⟩ (Nat.le_of_ble_eq_true rfl) hfs rfl rfl rfl rfl (by omega) (by omega) (fun r h2 N2 q => ?_)
  obtain ⟨v', rfl, hvv, I2, o1, o2⟩ := q
  change WS G s args Z mL_law _ _ h2 N2 1112 [some (.ref b), some (.ref (cB G)), some (.ref (cB G + 169)), some (.ref (cB G + 281)), some (.ref (cB G + 282)), some (JV i), some (JV c), none, none] [JV v']
  refine ws_istore dL_law_1112 (Nat.le_of_ble_eq_true rfl) rfl ?_
  change WS G s args Z mL_law _ _ h2 N2 1114 [some (.ref b), some (.ref (cB G)), some (.ref (cB G + 169)), some (.ref (cB G + 281)), some (.ref (cB G + 282)), some (JV i), some (JV c), some (JV v'), none] []
  obtain ⟨fs2, hfs2, ct2⟩ := thr_of I2
  refine ws_aload_n dL_law_1114 rfl ?_
  refine ws_callV (k2 := k0) (n2 := n0) ct2 cvL_139 dL_law_1115 ⟨Nat.le_of_ble_eq_true rfl, Nat.le_of_ble_eq_true rfl⟩ (Nat.le_of_ble_eq_true rfl) hfs2 rfl rfl rfl rfl (by omega) (by omega) (fun r h3 N3 q => ?_)
  obtain ⟨rfl, rfl, rfl⟩ := q
  change WS G s args Z mL_law _ _ h3 N3 1118 [some (.ref b), some (.ref (cB G)), some (.ref (cB G + 169)), some (.ref (cB G + 281)), some (.ref (cB G + 282)), some (JV i), some (JV c), some (JV v'), none] [JV c]
  refine ws_iload dL_law_1118 rfl ?_
  refine ws_icmpS 1125 dL_law_1120 (by decide) ?_
  refine ws_iload dL_law_1125 rfl ?_
  refine ws_if_ne 1142 dL_law_1127 (by decide) ⟨by omega, by omega⟩ (fun c9 => ?_) (fun c9 => ?_)
  · skip
    refine ws_goto 2665 dL_law_1142 (by decide) ?_
    exact ws_back (kk _ _ _ I2)
  · obtain ⟨hbo, o, ho, ho0⟩ := hv c9
    have e := hvv c9
    subst e
    have ho3 := o1.trans ho
    refine ws_aload_n dL_law_1130 rfl ?_
    refine ws_iconst dL_law_1131 ?_
    refine ws_laload dL_law_1132 ho3 (by omega) (by omega) (by omega) ?_
    rw [show (o (0 : Int).toNat : Int64) = (Int32.ofInt v').toInt64 from ho0]
    refine ws_iload dL_law_1133 rfl ?_
    refine ws_i2l dL_law_1135 ?_
    refine ws_lcmpS dL_law_1136 ?_
    refine ws_if0 1142 dL_law_1137 (by decide) ?_
    refine ws_goto 2665 dL_law_1142 (by decide) ?_
    exact ws_back (kk _ _ _ I2)
set_option maxRecDepth 4000 in
theorem K_tasks (hX : va_X b Ls xs s s.heap) (hbl : b < s.heap.size) (hbA : b < cB G) (hLs : Ls ≤ 2560) (hi : 0 ≤ i ∧ i + 5 ≤ (Ls : Int)) (I : INVt G h N t) (kk : ∀ (h9 : AH) (N9 : Nat) (t9 : Int), INVt G h9 N9 t9 → WS G s args Z mL_law k0 n0 h9 N9 2665 (LLw G b i) []) : WS G s args Z mL_law (k0 + 43) (n0 + 1014) h N 1145 (LLw G b i) [] := by
  refine ws_aload_n dL_law_1145 rfl ?_
  obtain ⟨st9, hs⟩ := cls_of I
  refine ws_callV (k2 := k0 + 42) (n2 := n0 + 1008) (jw_tasks I) cvL_180 dL_law_1146 ⟨Nat.le_of_ble_eq_true rfl, Nat.le_of_ble_eq_true rfl⟩ (Nat.le_of_ble_eq_true rfl) hs rfl rfl rfl rfl (by omega) (by omega) (fun r h1 N1 q => ?_)
  obtain ⟨v, rfl, ⟨fs, hfs⟩, kk9, nn9, hk9, hn9, ct⟩ := q
  change WS G s args Z mL_law _ _ h1 N1 1149 [some (.ref b), some (.ref (cB G)), some (.ref (cB G + 169)), some (.ref (cB G + 281)), some (.ref (cB G + 282)), some (JV i), none, none, none] [JV v]
  refine ws_aload_n dL_law_1149 rfl ?_
  refine ws_callV (k2 := k0) (n2 := n0) ct cvL_183 dL_law_1150 ⟨Nat.le_of_ble_eq_true rfl, Nat.le_of_ble_eq_true rfl⟩ (Nat.le_of_ble_eq_true rfl) hfs rfl rfl rfl rfl (by omega) (by omega) (fun r h2 N2 q => ?_)
  obtain ⟨rfl, I2, o1, o2⟩ := q
  change WS G s args Z mL_law _ _ h2 N2 1153 [some (.ref b), some (.ref (cB G)), some (.ref (cB G + 169)), some (.ref (cB G + 281)), some (.ref (cB G + 282)), some (JV i), none, none, none] [JV v, JV v]
  refine ws_icmpS 2665 dL_law_1153 (by decide) ?_
  exact kk _ _ _ I2
set_option maxRecDepth 4000 in
theorem K_links (hX : va_X b Ls xs s s.heap) (hbl : b < s.heap.size) (hbA : b < cB G) (hLs : Ls ≤ 2560) (hi : 0 ≤ i ∧ i + 5 ≤ (Ls : Int)) (I : INVt G h N t) (kk : ∀ (h9 : AH) (N9 : Nat) (t9 : Int), INVt G h9 N9 t9 → WS G s args Z mL_law k0 n0 h9 N9 2665 (LLw G b i) []) : WS G s args Z mL_law (k0 + 43) (n0 + 1014) h N 1158 (LLw G b i) [] := by
  refine ws_aload_n dL_law_1158 rfl ?_
  obtain ⟨st9, hs⟩ := cls_of I
  refine ws_callV (k2 := k0 + 42) (n2 := n0 + 1008) (jw_links I) cvL_184 dL_law_1159 ⟨Nat.le_of_ble_eq_true rfl, Nat.le_of_ble_eq_true rfl⟩ (Nat.le_of_ble_eq_true rfl) hs rfl rfl rfl rfl (by omega) (by omega) (fun r h1 N1 q => ?_)
  obtain ⟨v, rfl, ⟨fs, hfs⟩, kk9, nn9, hk9, hn9, ct⟩ := q
  change WS G s args Z mL_law _ _ h1 N1 1162 [some (.ref b), some (.ref (cB G)), some (.ref (cB G + 169)), some (.ref (cB G + 281)), some (.ref (cB G + 282)), some (JV i), none, none, none] [JV v]
  refine ws_aload_n dL_law_1162 rfl ?_
  refine ws_callV (k2 := k0) (n2 := n0) ct cvL_187 dL_law_1163 ⟨Nat.le_of_ble_eq_true rfl, Nat.le_of_ble_eq_true rfl⟩ (Nat.le_of_ble_eq_true rfl) hfs rfl rfl rfl rfl (by omega) (by omega) (fun r h2 N2 q => ?_)
  obtain ⟨rfl, I2, o1, o2⟩ := q
  change WS G s args Z mL_law _ _ h2 N2 1166 [some (.ref b), some (.ref (cB G)), some (.ref (cB G + 169)), some (.ref (cB G + 281)), some (.ref (cB G + 282)), some (JV i), none, none, none] [JV v, JV v]
  refine ws_icmpS 2665 dL_law_1166 (by decide) ?_
  exact kk _ _ _ I2
set_option maxRecDepth 4000 in
theorem K_works (hX : va_X b Ls xs s s.heap) (hbl : b < s.heap.size) (hbA : b < cB G) (hLs : Ls ≤ 2560) (hi : 0 ≤ i ∧ i + 5 ≤ (Ls : Int)) (I : INVt G h N t) (kk : ∀ (h9 : AH) (N9 : Nat) (t9 : Int), INVt G h9 N9 t9 → WS G s args Z mL_law k0 n0 h9 N9 2665 (LLw G b i) []) : WS G s args Z mL_law (k0 + 43) (n0 + 1014) h N 1171 (LLw G b i) [] := by
  refine ws_aload_n dL_law_1171 rfl ?_
  refine ws_aload_n dL_law_1172 rfl ?_
  refine ws_iload dL_law_1173 rfl ?_
  refine ws_iconst dL_law_1175 ?_
  refine ws_iadd dL_law_1176 ?_
  refine ws_sld hX hbl hbA (by omega) (by omega) hLs dL_law_1177 ?_
  refine ws_aload_n dL_law_1178 rfl ?_
  refine ws_iload dL_law_1179 rfl ?_
  refine ws_iconst dL_law_1181 ?_
  refine ws_iadd dL_law_1182 ?_
  refine ws_sld hX hbl hbA (by omega) (by omega) hLs dL_law_1183 ?_
  refine ws_aload_n dL_law_1184 rfl ?_
  refine ws_callSH (k2 := k0 + 42) (n2 := n0 + 1008) (jq_works I (inr32 _) (inr32 _)) csL_188 dL_law_1185 ⟨Nat.le_of_ble_eq_true rfl, Nat.le_of_ble_eq_true rfl⟩ (Nat.le_of_ble_eq_true rfl) rfl rfl (by omega) (by omega) (fun r h1 N1 q => ?_)
  obtain ⟨c, v, rfl, hc, hv, ⟨fs, hfs⟩, kk9, nn9, hk9, hn9, ct⟩ := q
  change WS G s args Z mL_law _ _ h1 N1 1188 [some (.ref b), some (.ref (cB G)), some (.ref (cB G + 169)), some (.ref (cB G + 281)), some (.ref (cB G + 282)), some (JV i), none, none, none] [JV c]
  refine ws_istore dL_law_1188 (Nat.le_of_ble_eq_true rfl) rfl ?_
  change WS G s args Z mL_law _ _ h1 N1 1190 [some (.ref b), some (.ref (cB G)), some (.ref (cB G + 169)), some (.ref (cB G + 281)), some (.ref (cB G + 282)), some (JV i), some (JV c), none, none] []
  refine ws_aload_n dL_law_1190 rfl ?_
  refine ws_aload_n dL_law_1191 rfl ?_
  refine ws_iload dL_law_1192 rfl ?_
  refine ws_iconst dL_law_1194 ?_
  refine ws_iadd dL_law_1195 ?_
  refine ws_sld hX hbl hbA (by omega) (by omega) hLs dL_law_1196 ?_
  refine ws_aload_n dL_law_1197 rfl ?_
  refine ws_iload dL_law_1198 rfl ?_
  refine ws_iconst dL_law_1200 ?_
  refine ws_iadd dL_law_1201 ?_
  refine ws_sld hX hbl hbA (by omega) (by omega) hLs dL_law_1202 ?_
  refine ws_callV (k2 := k0) (n2 := n0) ct cvL_190 dL_law_1203 ⟨Nat.le_of_ble_eq_true rfl, Nat.le_of_ble_eq_true rfl⟩ (Nat.le_of_ble_eq_true rfl) hfs rfl rfl rfl rfl (by omega) (by omega) (fun r h2 N2 q => ?_)
  obtain ⟨v', rfl, hvv, I2, o1, o2⟩ := q
  change WS G s args Z mL_law _ _ h2 N2 1206 [some (.ref b), some (.ref (cB G)), some (.ref (cB G + 169)), some (.ref (cB G + 281)), some (.ref (cB G + 282)), some (JV i), some (JV c), none, none] [JV v']
  refine ws_istore dL_law_1206 (Nat.le_of_ble_eq_true rfl) rfl ?_
  change WS G s args Z mL_law _ _ h2 N2 1208 [some (.ref b), some (.ref (cB G)), some (.ref (cB G + 169)), some (.ref (cB G + 281)), some (.ref (cB G + 282)), some (JV i), some (JV c), some (JV v'), none] []
  obtain ⟨fs2, hfs2, ct2⟩ := thr_of I2
  refine ws_aload_n dL_law_1208 rfl ?_
  refine ws_callV (k2 := k0) (n2 := n0) ct2 cvL_139 dL_law_1209 ⟨Nat.le_of_ble_eq_true rfl, Nat.le_of_ble_eq_true rfl⟩ (Nat.le_of_ble_eq_true rfl) hfs2 rfl rfl rfl rfl (by omega) (by omega) (fun r h3 N3 q => ?_)
  obtain ⟨rfl, rfl, rfl⟩ := q
  change WS G s args Z mL_law _ _ h3 N3 1212 [some (.ref b), some (.ref (cB G)), some (.ref (cB G + 169)), some (.ref (cB G + 281)), some (.ref (cB G + 282)), some (JV i), some (JV c), some (JV v'), none] [JV c]
  refine ws_iload dL_law_1212 rfl ?_
  refine ws_icmpS 1219 dL_law_1214 (by decide) ?_
  refine ws_iload dL_law_1219 rfl ?_
  refine ws_if_ne 1243 dL_law_1221 (by decide) ⟨by omega, by omega⟩ (fun c9 => ?_) (fun c9 => ?_)
  · skip
    refine ws_goto 2665 dL_law_1243 (by decide) ?_
    exact ws_back (kk _ _ _ I2)
  · obtain ⟨hbo, o, ho, ho0⟩ := hv c9
    have e := hvv c9
    subst e
    have ho3 := o1.trans ho
    refine ws_aload_n dL_law_1224 rfl ?_
    refine ws_iconst dL_law_1225 ?_
    refine ws_laload dL_law_1226 ho3 (by omega) (by omega) (by omega) ?_
    rw [show (o (0 : Int).toNat : Int64) = (Int32.ofInt v').toInt64 from ho0]
    refine ws_iload dL_law_1227 rfl ?_
    rcases hbo rfl with rfl | rfl
    · refine ws_if_eq 1236 dL_law_1229 (by decide) ⟨by omega, by omega⟩ (fun c8 => ?_) (fun c8 => absurd rfl c8)
      refine ws_lconst dL_law_1236 ?_
      rw [show (Int32.ofInt 0).toInt64 = Int64.ofNat ((0 : Fin 2) : Nat) by decide]
      refine ws_lcmpS dL_law_1237 ?_
      refine ws_if0 1243 dL_law_1238 (by decide) ?_
      refine ws_goto 2665 dL_law_1243 (by decide) ?_
      exact ws_back (kk _ _ _ I2)
    · refine ws_if_eq 1236 dL_law_1229 (by decide) ⟨by omega, by omega⟩ (fun c8 => absurd c8 (by decide)) (fun c8 => ?_)
      refine ws_lconst dL_law_1232 ?_
      refine ws_goto 1237 dL_law_1233 (by decide) ?_
      rw [show (Int32.ofInt 1).toInt64 = Int64.ofNat ((1 : Fin 2) : Nat) by decide]
      refine ws_lcmpS dL_law_1237 ?_
      refine ws_if0 1243 dL_law_1238 (by decide) ?_
      refine ws_goto 2665 dL_law_1243 (by decide) ?_
      exact ws_back (kk _ _ _ I2)
set_option maxRecDepth 4000 in
theorem K_earlyBegin (hX : va_X b Ls xs s s.heap) (hbl : b < s.heap.size) (hbA : b < cB G) (hLs : Ls ≤ 2560) (hi : 0 ≤ i ∧ i + 5 ≤ (Ls : Int)) (I : INVt G h N t) (kk : ∀ (h9 : AH) (N9 : Nat) (t9 : Int), INVt G h9 N9 t9 → WS G s args Z mL_law k0 n0 h9 N9 2665 (LLw G b i) []) : WS G s args Z mL_law (k0 + 43) (n0 + 1014) h N 1246 (LLw G b i) [] := by
  refine ws_aload_n dL_law_1246 rfl ?_
  refine ws_aload_n dL_law_1247 rfl ?_
  refine ws_iload dL_law_1248 rfl ?_
  refine ws_iconst dL_law_1250 ?_
  refine ws_iadd dL_law_1251 ?_
  refine ws_sld hX hbl hbA (by omega) (by omega) hLs dL_law_1252 ?_
  refine ws_aload_n dL_law_1253 rfl ?_
  refine ws_callSH (k2 := k0 + 42) (n2 := n0 + 1008) (jq_earlyBegin I (inr32 _)) csL_191 dL_law_1254 ⟨Nat.le_of_ble_eq_true rfl, Nat.le_of_ble_eq_true rfl⟩ (Nat.le_of_ble_eq_true rfl) rfl rfl (by omega) (by omega) (fun r h1 N1 q => ?_)
  obtain ⟨c, v, rfl, hc, hv, ⟨fs, hfs⟩, kk9, nn9, hk9, hn9, ct⟩ := q
  change WS G s args Z mL_law _ _ h1 N1 1257 [some (.ref b), some (.ref (cB G)), some (.ref (cB G + 169)), some (.ref (cB G + 281)), some (.ref (cB G + 282)), some (JV i), none, none, none] [JV c]
  refine ws_istore dL_law_1257 (Nat.le_of_ble_eq_true rfl) rfl ?_
  change WS G s args Z mL_law _ _ h1 N1 1259 [some (.ref b), some (.ref (cB G)), some (.ref (cB G + 169)), some (.ref (cB G + 281)), some (.ref (cB G + 282)), some (JV i), some (JV c), none, none] []
  refine ws_aload_n dL_law_1259 rfl ?_
  refine ws_aload_n dL_law_1260 rfl ?_
  refine ws_iload dL_law_1261 rfl ?_
  refine ws_iconst dL_law_1263 ?_
  refine ws_iadd dL_law_1264 ?_
  refine ws_sld hX hbl hbA (by omega) (by omega) hLs dL_law_1265 ?_
  refine ws_callV (k2 := k0) (n2 := n0) ct cvL_193 dL_law_1266 ⟨Nat.le_of_ble_eq_true rfl, Nat.le_of_ble_eq_true rfl⟩ (Nat.le_of_ble_eq_true rfl) hfs rfl rfl rfl rfl (by omega) (by omega) (fun r h2 N2 q => ?_)
  obtain ⟨v', rfl, hvv, I2, o1, o2⟩ := q
  change WS G s args Z mL_law _ _ h2 N2 1269 [some (.ref b), some (.ref (cB G)), some (.ref (cB G + 169)), some (.ref (cB G + 281)), some (.ref (cB G + 282)), some (JV i), some (JV c), none, none] [JV v']
  refine ws_istore dL_law_1269 (Nat.le_of_ble_eq_true rfl) rfl ?_
  change WS G s args Z mL_law _ _ h2 N2 1271 [some (.ref b), some (.ref (cB G)), some (.ref (cB G + 169)), some (.ref (cB G + 281)), some (.ref (cB G + 282)), some (JV i), some (JV c), some (JV v'), none] []
  obtain ⟨fs2, hfs2, ct2⟩ := thr_of I2
  refine ws_aload_n dL_law_1271 rfl ?_
  refine ws_callV (k2 := k0) (n2 := n0) ct2 cvL_139 dL_law_1272 ⟨Nat.le_of_ble_eq_true rfl, Nat.le_of_ble_eq_true rfl⟩ (Nat.le_of_ble_eq_true rfl) hfs2 rfl rfl rfl rfl (by omega) (by omega) (fun r h3 N3 q => ?_)
  obtain ⟨rfl, rfl, rfl⟩ := q
  change WS G s args Z mL_law _ _ h3 N3 1275 [some (.ref b), some (.ref (cB G)), some (.ref (cB G + 169)), some (.ref (cB G + 281)), some (.ref (cB G + 282)), some (JV i), some (JV c), some (JV v'), none] [JV c]
  refine ws_iload dL_law_1275 rfl ?_
  refine ws_icmpS 1282 dL_law_1277 (by decide) ?_
  refine ws_iload dL_law_1282 rfl ?_
  refine ws_if_ne 1299 dL_law_1284 (by decide) ⟨by omega, by omega⟩ (fun c9 => ?_) (fun c9 => ?_)
  · skip
    refine ws_goto 2665 dL_law_1299 (by decide) ?_
    exact ws_back (kk _ _ _ I2)
  · obtain ⟨hbo, o, ho, ho0⟩ := hv c9
    have e := hvv c9
    subst e
    have ho3 := o1.trans ho
    refine ws_aload_n dL_law_1287 rfl ?_
    refine ws_iconst dL_law_1288 ?_
    refine ws_laload dL_law_1289 ho3 (by omega) (by omega) (by omega) ?_
    rw [show (o (0 : Int).toNat : Int64) = (Int32.ofInt v').toInt64 from ho0]
    refine ws_iload dL_law_1290 rfl ?_
    refine ws_i2l dL_law_1292 ?_
    refine ws_lcmpS dL_law_1293 ?_
    refine ws_if0 1299 dL_law_1294 (by decide) ?_
    refine ws_goto 2665 dL_law_1299 (by decide) ?_
    exact ws_back (kk _ _ _ I2)
set_option maxRecDepth 4000 in
theorem K_earlyEnd (hX : va_X b Ls xs s s.heap) (hbl : b < s.heap.size) (hbA : b < cB G) (hLs : Ls ≤ 2560) (hi : 0 ≤ i ∧ i + 5 ≤ (Ls : Int)) (I : INVt G h N t) (kk : ∀ (h9 : AH) (N9 : Nat) (t9 : Int), INVt G h9 N9 t9 → WS G s args Z mL_law k0 n0 h9 N9 2665 (LLw G b i) []) : WS G s args Z mL_law (k0 + 43) (n0 + 1014) h N 1302 (LLw G b i) [] := by
  refine ws_aload_n dL_law_1302 rfl ?_
  refine ws_aload_n dL_law_1303 rfl ?_
  refine ws_iload dL_law_1304 rfl ?_
  refine ws_iconst dL_law_1306 ?_
  refine ws_iadd dL_law_1307 ?_
  refine ws_sld hX hbl hbA (by omega) (by omega) hLs dL_law_1308 ?_
  refine ws_aload_n dL_law_1309 rfl ?_
  refine ws_callSH (k2 := k0 + 42) (n2 := n0 + 1008) (jq_earlyEnd I (inr32 _)) csL_194 dL_law_1310 ⟨Nat.le_of_ble_eq_true rfl, Nat.le_of_ble_eq_true rfl⟩ (Nat.le_of_ble_eq_true rfl) rfl rfl (by omega) (by omega) (fun r h1 N1 q => ?_)
  obtain ⟨c, v, rfl, hc, hv, ⟨fs, hfs⟩, kk9, nn9, hk9, hn9, ct⟩ := q
  change WS G s args Z mL_law _ _ h1 N1 1313 [some (.ref b), some (.ref (cB G)), some (.ref (cB G + 169)), some (.ref (cB G + 281)), some (.ref (cB G + 282)), some (JV i), none, none, none] [JV c]
  refine ws_istore dL_law_1313 (Nat.le_of_ble_eq_true rfl) rfl ?_
  change WS G s args Z mL_law _ _ h1 N1 1315 [some (.ref b), some (.ref (cB G)), some (.ref (cB G + 169)), some (.ref (cB G + 281)), some (.ref (cB G + 282)), some (JV i), some (JV c), none, none] []
  refine ws_aload_n dL_law_1315 rfl ?_
  refine ws_aload_n dL_law_1316 rfl ?_
  refine ws_iload dL_law_1317 rfl ?_
  refine ws_iconst dL_law_1319 ?_
  refine ws_iadd dL_law_1320 ?_
  refine ws_sld hX hbl hbA (by omega) (by omega) hLs dL_law_1321 ?_
  refine ws_callV (k2 := k0) (n2 := n0) ct cvL_196 dL_law_1322 ⟨Nat.le_of_ble_eq_true rfl, Nat.le_of_ble_eq_true rfl⟩ (Nat.le_of_ble_eq_true rfl) hfs rfl rfl rfl rfl (by omega) (by omega) (fun r h2 N2 q => ?_)
  obtain ⟨v', rfl, hvv, I2, o1, o2⟩ := q
  change WS G s args Z mL_law _ _ h2 N2 1325 [some (.ref b), some (.ref (cB G)), some (.ref (cB G + 169)), some (.ref (cB G + 281)), some (.ref (cB G + 282)), some (JV i), some (JV c), none, none] [JV v']
  refine ws_istore dL_law_1325 (Nat.le_of_ble_eq_true rfl) rfl ?_
  change WS G s args Z mL_law _ _ h2 N2 1327 [some (.ref b), some (.ref (cB G)), some (.ref (cB G + 169)), some (.ref (cB G + 281)), some (.ref (cB G + 282)), some (JV i), some (JV c), some (JV v'), none] []
  obtain ⟨fs2, hfs2, ct2⟩ := thr_of I2
  refine ws_aload_n dL_law_1327 rfl ?_
  refine ws_callV (k2 := k0) (n2 := n0) ct2 cvL_139 dL_law_1328 ⟨Nat.le_of_ble_eq_true rfl, Nat.le_of_ble_eq_true rfl⟩ (Nat.le_of_ble_eq_true rfl) hfs2 rfl rfl rfl rfl (by omega) (by omega) (fun r h3 N3 q => ?_)
  obtain ⟨rfl, rfl, rfl⟩ := q
  change WS G s args Z mL_law _ _ h3 N3 1331 [some (.ref b), some (.ref (cB G)), some (.ref (cB G + 169)), some (.ref (cB G + 281)), some (.ref (cB G + 282)), some (JV i), some (JV c), some (JV v'), none] [JV c]
  refine ws_iload dL_law_1331 rfl ?_
  refine ws_icmpS 1338 dL_law_1333 (by decide) ?_
  refine ws_iload dL_law_1338 rfl ?_
  refine ws_if_ne 1355 dL_law_1340 (by decide) ⟨by omega, by omega⟩ (fun c9 => ?_) (fun c9 => ?_)
  · skip
    refine ws_goto 2665 dL_law_1355 (by decide) ?_
    exact ws_back (kk _ _ _ I2)
  · obtain ⟨hbo, o, ho, ho0⟩ := hv c9
    have e := hvv c9
    subst e
    have ho3 := o1.trans ho
    refine ws_aload_n dL_law_1343 rfl ?_
    refine ws_iconst dL_law_1344 ?_
    refine ws_laload dL_law_1345 ho3 (by omega) (by omega) (by omega) ?_
    rw [show (o (0 : Int).toNat : Int64) = (Int32.ofInt v').toInt64 from ho0]
    refine ws_iload dL_law_1346 rfl ?_
    refine ws_i2l dL_law_1348 ?_
    refine ws_lcmpS dL_law_1349 ?_
    refine ws_if0 1355 dL_law_1350 (by decide) ?_
    refine ws_goto 2665 dL_law_1355 (by decide) ?_
    exact ws_back (kk _ _ _ I2)
set_option maxRecDepth 4000 in
theorem K_lateBegin (hX : va_X b Ls xs s s.heap) (hbl : b < s.heap.size) (hbA : b < cB G) (hLs : Ls ≤ 2560) (hi : 0 ≤ i ∧ i + 5 ≤ (Ls : Int)) (I : INVt G h N t) (kk : ∀ (h9 : AH) (N9 : Nat) (t9 : Int), INVt G h9 N9 t9 → WS G s args Z mL_law k0 n0 h9 N9 2665 (LLw G b i) []) : WS G s args Z mL_law (k0 + 43) (n0 + 1014) h N 1358 (LLw G b i) [] := by
  refine ws_aload_n dL_law_1358 rfl ?_
  refine ws_aload_n dL_law_1359 rfl ?_
  refine ws_iload dL_law_1360 rfl ?_
  refine ws_iconst dL_law_1362 ?_
  refine ws_iadd dL_law_1363 ?_
  refine ws_sld hX hbl hbA (by omega) (by omega) hLs dL_law_1364 ?_
  refine ws_aload_n dL_law_1365 rfl ?_
  refine ws_callSH (k2 := k0 + 42) (n2 := n0 + 1008) (jq_lateBegin I (inr32 _)) csL_197 dL_law_1366 ⟨Nat.le_of_ble_eq_true rfl, Nat.le_of_ble_eq_true rfl⟩ (Nat.le_of_ble_eq_true rfl) rfl rfl (by omega) (by omega) (fun r h1 N1 q => ?_)
  obtain ⟨c, v, rfl, hc, hv, ⟨fs, hfs⟩, kk9, nn9, hk9, hn9, ct⟩ := q
  change WS G s args Z mL_law _ _ h1 N1 1369 [some (.ref b), some (.ref (cB G)), some (.ref (cB G + 169)), some (.ref (cB G + 281)), some (.ref (cB G + 282)), some (JV i), none, none, none] [JV c]
  refine ws_istore dL_law_1369 (Nat.le_of_ble_eq_true rfl) rfl ?_
  change WS G s args Z mL_law _ _ h1 N1 1371 [some (.ref b), some (.ref (cB G)), some (.ref (cB G + 169)), some (.ref (cB G + 281)), some (.ref (cB G + 282)), some (JV i), some (JV c), none, none] []
  refine ws_aload_n dL_law_1371 rfl ?_
  refine ws_aload_n dL_law_1372 rfl ?_
  refine ws_iload dL_law_1373 rfl ?_
  refine ws_iconst dL_law_1375 ?_
  refine ws_iadd dL_law_1376 ?_
  refine ws_sld hX hbl hbA (by omega) (by omega) hLs dL_law_1377 ?_
  refine ws_callV (k2 := k0) (n2 := n0) ct cvL_199 dL_law_1378 ⟨Nat.le_of_ble_eq_true rfl, Nat.le_of_ble_eq_true rfl⟩ (Nat.le_of_ble_eq_true rfl) hfs rfl rfl rfl rfl (by omega) (by omega) (fun r h2 N2 q => ?_)
  obtain ⟨v', rfl, hvv, I2, o1, o2⟩ := q
  change WS G s args Z mL_law _ _ h2 N2 1381 [some (.ref b), some (.ref (cB G)), some (.ref (cB G + 169)), some (.ref (cB G + 281)), some (.ref (cB G + 282)), some (JV i), some (JV c), none, none] [JV v']
  refine ws_istore dL_law_1381 (Nat.le_of_ble_eq_true rfl) rfl ?_
  change WS G s args Z mL_law _ _ h2 N2 1383 [some (.ref b), some (.ref (cB G)), some (.ref (cB G + 169)), some (.ref (cB G + 281)), some (.ref (cB G + 282)), some (JV i), some (JV c), some (JV v'), none] []
  obtain ⟨fs2, hfs2, ct2⟩ := thr_of I2
  refine ws_aload_n dL_law_1383 rfl ?_
  refine ws_callV (k2 := k0) (n2 := n0) ct2 cvL_139 dL_law_1384 ⟨Nat.le_of_ble_eq_true rfl, Nat.le_of_ble_eq_true rfl⟩ (Nat.le_of_ble_eq_true rfl) hfs2 rfl rfl rfl rfl (by omega) (by omega) (fun r h3 N3 q => ?_)
  obtain ⟨rfl, rfl, rfl⟩ := q
  change WS G s args Z mL_law _ _ h3 N3 1387 [some (.ref b), some (.ref (cB G)), some (.ref (cB G + 169)), some (.ref (cB G + 281)), some (.ref (cB G + 282)), some (JV i), some (JV c), some (JV v'), none] [JV c]
  refine ws_iload dL_law_1387 rfl ?_
  refine ws_icmpS 1394 dL_law_1389 (by decide) ?_
  refine ws_iload dL_law_1394 rfl ?_
  refine ws_if_ne 1411 dL_law_1396 (by decide) ⟨by omega, by omega⟩ (fun c9 => ?_) (fun c9 => ?_)
  · skip
    refine ws_goto 2665 dL_law_1411 (by decide) ?_
    exact ws_back (kk _ _ _ I2)
  · obtain ⟨hbo, o, ho, ho0⟩ := hv c9
    have e := hvv c9
    subst e
    have ho3 := o1.trans ho
    refine ws_aload_n dL_law_1399 rfl ?_
    refine ws_iconst dL_law_1400 ?_
    refine ws_laload dL_law_1401 ho3 (by omega) (by omega) (by omega) ?_
    rw [show (o (0 : Int).toNat : Int64) = (Int32.ofInt v').toInt64 from ho0]
    refine ws_iload dL_law_1402 rfl ?_
    refine ws_i2l dL_law_1404 ?_
    refine ws_lcmpS dL_law_1405 ?_
    refine ws_if0 1411 dL_law_1406 (by decide) ?_
    refine ws_goto 2665 dL_law_1411 (by decide) ?_
    exact ws_back (kk _ _ _ I2)
set_option maxRecDepth 4000 in
theorem K_lateEnd (hX : va_X b Ls xs s s.heap) (hbl : b < s.heap.size) (hbA : b < cB G) (hLs : Ls ≤ 2560) (hi : 0 ≤ i ∧ i + 5 ≤ (Ls : Int)) (I : INVt G h N t) (kk : ∀ (h9 : AH) (N9 : Nat) (t9 : Int), INVt G h9 N9 t9 → WS G s args Z mL_law k0 n0 h9 N9 2665 (LLw G b i) []) : WS G s args Z mL_law (k0 + 43) (n0 + 1014) h N 1414 (LLw G b i) [] := by
  refine ws_aload_n dL_law_1414 rfl ?_
  refine ws_aload_n dL_law_1415 rfl ?_
  refine ws_iload dL_law_1416 rfl ?_
  refine ws_iconst dL_law_1418 ?_
  refine ws_iadd dL_law_1419 ?_
  refine ws_sld hX hbl hbA (by omega) (by omega) hLs dL_law_1420 ?_
  refine ws_aload_n dL_law_1421 rfl ?_
  refine ws_callSH (k2 := k0 + 42) (n2 := n0 + 1008) (jq_lateEnd I (inr32 _)) csL_200 dL_law_1422 ⟨Nat.le_of_ble_eq_true rfl, Nat.le_of_ble_eq_true rfl⟩ (Nat.le_of_ble_eq_true rfl) rfl rfl (by omega) (by omega) (fun r h1 N1 q => ?_)
  obtain ⟨c, v, rfl, hc, hv, ⟨fs, hfs⟩, kk9, nn9, hk9, hn9, ct⟩ := q
  change WS G s args Z mL_law _ _ h1 N1 1425 [some (.ref b), some (.ref (cB G)), some (.ref (cB G + 169)), some (.ref (cB G + 281)), some (.ref (cB G + 282)), some (JV i), none, none, none] [JV c]
  refine ws_istore dL_law_1425 (Nat.le_of_ble_eq_true rfl) rfl ?_
  change WS G s args Z mL_law _ _ h1 N1 1427 [some (.ref b), some (.ref (cB G)), some (.ref (cB G + 169)), some (.ref (cB G + 281)), some (.ref (cB G + 282)), some (JV i), some (JV c), none, none] []
  refine ws_aload_n dL_law_1427 rfl ?_
  refine ws_aload_n dL_law_1428 rfl ?_
  refine ws_iload dL_law_1429 rfl ?_
  refine ws_iconst dL_law_1431 ?_
  refine ws_iadd dL_law_1432 ?_
  refine ws_sld hX hbl hbA (by omega) (by omega) hLs dL_law_1433 ?_
  refine ws_callV (k2 := k0) (n2 := n0) ct cvL_202 dL_law_1434 ⟨Nat.le_of_ble_eq_true rfl, Nat.le_of_ble_eq_true rfl⟩ (Nat.le_of_ble_eq_true rfl) hfs rfl rfl rfl rfl (by omega) (by omega) (fun r h2 N2 q => ?_)
  obtain ⟨v', rfl, hvv, I2, o1, o2⟩ := q
  change WS G s args Z mL_law _ _ h2 N2 1437 [some (.ref b), some (.ref (cB G)), some (.ref (cB G + 169)), some (.ref (cB G + 281)), some (.ref (cB G + 282)), some (JV i), some (JV c), none, none] [JV v']
  refine ws_istore dL_law_1437 (Nat.le_of_ble_eq_true rfl) rfl ?_
  change WS G s args Z mL_law _ _ h2 N2 1439 [some (.ref b), some (.ref (cB G)), some (.ref (cB G + 169)), some (.ref (cB G + 281)), some (.ref (cB G + 282)), some (JV i), some (JV c), some (JV v'), none] []
  obtain ⟨fs2, hfs2, ct2⟩ := thr_of I2
  refine ws_aload_n dL_law_1439 rfl ?_
  refine ws_callV (k2 := k0) (n2 := n0) ct2 cvL_139 dL_law_1440 ⟨Nat.le_of_ble_eq_true rfl, Nat.le_of_ble_eq_true rfl⟩ (Nat.le_of_ble_eq_true rfl) hfs2 rfl rfl rfl rfl (by omega) (by omega) (fun r h3 N3 q => ?_)
  obtain ⟨rfl, rfl, rfl⟩ := q
  change WS G s args Z mL_law _ _ h3 N3 1443 [some (.ref b), some (.ref (cB G)), some (.ref (cB G + 169)), some (.ref (cB G + 281)), some (.ref (cB G + 282)), some (JV i), some (JV c), some (JV v'), none] [JV c]
  refine ws_iload dL_law_1443 rfl ?_
  refine ws_icmpS 1450 dL_law_1445 (by decide) ?_
  refine ws_iload dL_law_1450 rfl ?_
  refine ws_if_ne 1467 dL_law_1452 (by decide) ⟨by omega, by omega⟩ (fun c9 => ?_) (fun c9 => ?_)
  · skip
    refine ws_goto 2665 dL_law_1467 (by decide) ?_
    exact ws_back (kk _ _ _ I2)
  · obtain ⟨hbo, o, ho, ho0⟩ := hv c9
    have e := hvv c9
    subst e
    have ho3 := o1.trans ho
    refine ws_aload_n dL_law_1455 rfl ?_
    refine ws_iconst dL_law_1456 ?_
    refine ws_laload dL_law_1457 ho3 (by omega) (by omega) (by omega) ?_
    rw [show (o (0 : Int).toNat : Int64) = (Int32.ofInt v').toInt64 from ho0]
    refine ws_iload dL_law_1458 rfl ?_
    refine ws_i2l dL_law_1460 ?_
    refine ws_lcmpS dL_law_1461 ?_
    refine ws_if0 1467 dL_law_1462 (by decide) ?_
    refine ws_goto 2665 dL_law_1467 (by decide) ?_
    exact ws_back (kk _ _ _ I2)
set_option maxRecDepth 4000 in
theorem K_room (hX : va_X b Ls xs s s.heap) (hbl : b < s.heap.size) (hbA : b < cB G) (hLs : Ls ≤ 2560) (hi : 0 ≤ i ∧ i + 5 ≤ (Ls : Int)) (I : INVt G h N t) (kk : ∀ (h9 : AH) (N9 : Nat) (t9 : Int), INVt G h9 N9 t9 → WS G s args Z mL_law k0 n0 h9 N9 2665 (LLw G b i) []) : WS G s args Z mL_law (k0 + 43) (n0 + 1014) h N 1470 (LLw G b i) [] := by
  refine ws_aload_n dL_law_1470 rfl ?_
  refine ws_aload_n dL_law_1471 rfl ?_
  refine ws_iload dL_law_1472 rfl ?_
  refine ws_iconst dL_law_1474 ?_
  refine ws_iadd dL_law_1475 ?_
  refine ws_sld hX hbl hbA (by omega) (by omega) hLs dL_law_1476 ?_
  refine ws_aload_n dL_law_1477 rfl ?_
  refine ws_callSH (k2 := k0 + 42) (n2 := n0 + 1008) (jq_room I (inr32 _)) csL_203 dL_law_1478 ⟨Nat.le_of_ble_eq_true rfl, Nat.le_of_ble_eq_true rfl⟩ (Nat.le_of_ble_eq_true rfl) rfl rfl (by omega) (by omega) (fun r h1 N1 q => ?_)
  obtain ⟨c, v, rfl, hc, hv, ⟨fs, hfs⟩, kk9, nn9, hk9, hn9, ct⟩ := q
  change WS G s args Z mL_law _ _ h1 N1 1481 [some (.ref b), some (.ref (cB G)), some (.ref (cB G + 169)), some (.ref (cB G + 281)), some (.ref (cB G + 282)), some (JV i), none, none, none] [JV c]
  refine ws_istore dL_law_1481 (Nat.le_of_ble_eq_true rfl) rfl ?_
  change WS G s args Z mL_law _ _ h1 N1 1483 [some (.ref b), some (.ref (cB G)), some (.ref (cB G + 169)), some (.ref (cB G + 281)), some (.ref (cB G + 282)), some (JV i), some (JV c), none, none] []
  refine ws_aload_n dL_law_1483 rfl ?_
  refine ws_aload_n dL_law_1484 rfl ?_
  refine ws_iload dL_law_1485 rfl ?_
  refine ws_iconst dL_law_1487 ?_
  refine ws_iadd dL_law_1488 ?_
  refine ws_sld hX hbl hbA (by omega) (by omega) hLs dL_law_1489 ?_
  refine ws_callV (k2 := k0) (n2 := n0) ct cvL_205 dL_law_1490 ⟨Nat.le_of_ble_eq_true rfl, Nat.le_of_ble_eq_true rfl⟩ (Nat.le_of_ble_eq_true rfl) hfs rfl rfl rfl rfl (by omega) (by omega) (fun r h2 N2 q => ?_)
  obtain ⟨v', rfl, hvv, I2, o1, o2⟩ := q
  change WS G s args Z mL_law _ _ h2 N2 1493 [some (.ref b), some (.ref (cB G)), some (.ref (cB G + 169)), some (.ref (cB G + 281)), some (.ref (cB G + 282)), some (JV i), some (JV c), none, none] [JV v']
  refine ws_istore dL_law_1493 (Nat.le_of_ble_eq_true rfl) rfl ?_
  change WS G s args Z mL_law _ _ h2 N2 1495 [some (.ref b), some (.ref (cB G)), some (.ref (cB G + 169)), some (.ref (cB G + 281)), some (.ref (cB G + 282)), some (JV i), some (JV c), some (JV v'), none] []
  obtain ⟨fs2, hfs2, ct2⟩ := thr_of I2
  refine ws_aload_n dL_law_1495 rfl ?_
  refine ws_callV (k2 := k0) (n2 := n0) ct2 cvL_139 dL_law_1496 ⟨Nat.le_of_ble_eq_true rfl, Nat.le_of_ble_eq_true rfl⟩ (Nat.le_of_ble_eq_true rfl) hfs2 rfl rfl rfl rfl (by omega) (by omega) (fun r h3 N3 q => ?_)
  obtain ⟨rfl, rfl, rfl⟩ := q
  change WS G s args Z mL_law _ _ h3 N3 1499 [some (.ref b), some (.ref (cB G)), some (.ref (cB G + 169)), some (.ref (cB G + 281)), some (.ref (cB G + 282)), some (JV i), some (JV c), some (JV v'), none] [JV c]
  refine ws_iload dL_law_1499 rfl ?_
  refine ws_icmpS 1506 dL_law_1501 (by decide) ?_
  refine ws_iload dL_law_1506 rfl ?_
  refine ws_if_ne 1523 dL_law_1508 (by decide) ⟨by omega, by omega⟩ (fun c9 => ?_) (fun c9 => ?_)
  · skip
    refine ws_goto 2665 dL_law_1523 (by decide) ?_
    exact ws_back (kk _ _ _ I2)
  · obtain ⟨hbo, o, ho, ho0⟩ := hv c9
    have e := hvv c9
    subst e
    have ho3 := o1.trans ho
    refine ws_aload_n dL_law_1511 rfl ?_
    refine ws_iconst dL_law_1512 ?_
    refine ws_laload dL_law_1513 ho3 (by omega) (by omega) (by omega) ?_
    rw [show (o (0 : Int).toNat : Int64) = (Int32.ofInt v').toInt64 from ho0]
    refine ws_iload dL_law_1514 rfl ?_
    refine ws_i2l dL_law_1516 ?_
    refine ws_lcmpS dL_law_1517 ?_
    refine ws_if0 1523 dL_law_1518 (by decide) ?_
    refine ws_goto 2665 dL_law_1523 (by decide) ?_
    exact ws_back (kk _ _ _ I2)
set_option maxRecDepth 4000 in
theorem K_last (hX : va_X b Ls xs s s.heap) (hbl : b < s.heap.size) (hbA : b < cB G) (hLs : Ls ≤ 2560) (hi : 0 ≤ i ∧ i + 5 ≤ (Ls : Int)) (I : INVt G h N t) (kk : ∀ (h9 : AH) (N9 : Nat) (t9 : Int), INVt G h9 N9 t9 → WS G s args Z mL_law k0 n0 h9 N9 2665 (LLw G b i) []) : WS G s args Z mL_law (k0 + 43) (n0 + 1014) h N 1526 (LLw G b i) [] := by
  refine ws_aload_n dL_law_1526 rfl ?_
  obtain ⟨st9, hs⟩ := cls_of I
  refine ws_callV (k2 := k0 + 42) (n2 := n0 + 1008) (jw_last I) cvL_206 dL_law_1527 ⟨Nat.le_of_ble_eq_true rfl, Nat.le_of_ble_eq_true rfl⟩ (Nat.le_of_ble_eq_true rfl) hs rfl rfl rfl rfl (by omega) (by omega) (fun r h1 N1 q => ?_)
  obtain ⟨v, rfl, ⟨fs, hfs⟩, kk9, nn9, hk9, hn9, ct⟩ := q
  change WS G s args Z mL_law _ _ h1 N1 1530 [some (.ref b), some (.ref (cB G)), some (.ref (cB G + 169)), some (.ref (cB G + 281)), some (.ref (cB G + 282)), some (JV i), none, none, none] [JV v]
  refine ws_aload_n dL_law_1530 rfl ?_
  refine ws_callV (k2 := k0) (n2 := n0) ct cvL_209 dL_law_1531 ⟨Nat.le_of_ble_eq_true rfl, Nat.le_of_ble_eq_true rfl⟩ (Nat.le_of_ble_eq_true rfl) hfs rfl rfl rfl rfl (by omega) (by omega) (fun r h2 N2 q => ?_)
  obtain ⟨rfl, I2, o1, o2⟩ := q
  change WS G s args Z mL_law _ _ h2 N2 1534 [some (.ref b), some (.ref (cB G)), some (.ref (cB G + 169)), some (.ref (cB G + 281)), some (.ref (cB G + 282)), some (JV i), none, none, none] [JV v, JV v]
  refine ws_icmpS 2665 dL_law_1534 (by decide) ?_
  exact kk _ _ _ I2
set_option maxRecDepth 4000 in
theorem K_tight (hX : va_X b Ls xs s s.heap) (hbl : b < s.heap.size) (hbA : b < cB G) (hLs : Ls ≤ 2560) (hi : 0 ≤ i ∧ i + 5 ≤ (Ls : Int)) (I : INVt G h N t) (kk : ∀ (h9 : AH) (N9 : Nat) (t9 : Int), INVt G h9 N9 t9 → WS G s args Z mL_law k0 n0 h9 N9 2665 (LLw G b i) []) : WS G s args Z mL_law (k0 + 43) (n0 + 1014) h N 1539 (LLw G b i) [] := by
  refine ws_aload_n dL_law_1539 rfl ?_
  obtain ⟨st9, hs⟩ := cls_of I
  refine ws_callV (k2 := k0 + 42) (n2 := n0 + 1008) (jw_tight I) cvL_210 dL_law_1540 ⟨Nat.le_of_ble_eq_true rfl, Nat.le_of_ble_eq_true rfl⟩ (Nat.le_of_ble_eq_true rfl) hs rfl rfl rfl rfl (by omega) (by omega) (fun r h1 N1 q => ?_)
  obtain ⟨v, rfl, ⟨fs, hfs⟩, kk9, nn9, hk9, hn9, ct⟩ := q
  change WS G s args Z mL_law _ _ h1 N1 1543 [some (.ref b), some (.ref (cB G)), some (.ref (cB G + 169)), some (.ref (cB G + 281)), some (.ref (cB G + 282)), some (JV i), none, none, none] [JV v]
  refine ws_aload_n dL_law_1543 rfl ?_
  refine ws_callV (k2 := k0) (n2 := n0) ct cvL_213 dL_law_1544 ⟨Nat.le_of_ble_eq_true rfl, Nat.le_of_ble_eq_true rfl⟩ (Nat.le_of_ble_eq_true rfl) hfs rfl rfl rfl rfl (by omega) (by omega) (fun r h2 N2 q => ?_)
  obtain ⟨rfl, I2, o1, o2⟩ := q
  change WS G s args Z mL_law _ _ h2 N2 1547 [some (.ref b), some (.ref (cB G)), some (.ref (cB G + 169)), some (.ref (cB G + 281)), some (.ref (cB G + 282)), some (JV i), none, none, none] [JV v, JV v]
  refine ws_icmpS 2665 dL_law_1547 (by decide) ?_
  exact kk _ _ _ I2
set_option maxRecDepth 4000 in
theorem K_wanted (hX : va_X b Ls xs s s.heap) (hbl : b < s.heap.size) (hbA : b < cB G) (hLs : Ls ≤ 2560) (hi : 0 ≤ i ∧ i + 5 ≤ (Ls : Int)) (I : INVt G h N t) (kk : ∀ (h9 : AH) (N9 : Nat) (t9 : Int), INVt G h9 N9 t9 → WS G s args Z mL_law k0 n0 h9 N9 2665 (LLw G b i) []) : WS G s args Z mL_law (k0 + 43) (n0 + 1014) h N 1552 (LLw G b i) [] := by
  refine ws_aload_n dL_law_1552 rfl ?_
  refine ws_aload_n dL_law_1553 rfl ?_
  refine ws_iload dL_law_1554 rfl ?_
  refine ws_iconst dL_law_1556 ?_
  refine ws_iadd dL_law_1557 ?_
  refine ws_sld hX hbl hbA (by omega) (by omega) hLs dL_law_1558 ?_
  refine ws_aload_n dL_law_1559 rfl ?_
  refine ws_iload dL_law_1560 rfl ?_
  refine ws_iconst dL_law_1562 ?_
  refine ws_iadd dL_law_1563 ?_
  refine ws_sld hX hbl hbA (by omega) (by omega) hLs dL_law_1564 ?_
  refine ws_aload_n dL_law_1565 rfl ?_
  refine ws_callSH (k2 := k0 + 42) (n2 := n0 + 1008) (jq_wanted I (inr32 _) (inr32 _)) csL_214 dL_law_1566 ⟨Nat.le_of_ble_eq_true rfl, Nat.le_of_ble_eq_true rfl⟩ (Nat.le_of_ble_eq_true rfl) rfl rfl (by omega) (by omega) (fun r h1 N1 q => ?_)
  obtain ⟨c, v, rfl, hc, hv, ⟨fs, hfs⟩, kk9, nn9, hk9, hn9, ct⟩ := q
  change WS G s args Z mL_law _ _ h1 N1 1569 [some (.ref b), some (.ref (cB G)), some (.ref (cB G + 169)), some (.ref (cB G + 281)), some (.ref (cB G + 282)), some (JV i), none, none, none] [JV c]
  refine ws_istore dL_law_1569 (Nat.le_of_ble_eq_true rfl) rfl ?_
  change WS G s args Z mL_law _ _ h1 N1 1571 [some (.ref b), some (.ref (cB G)), some (.ref (cB G + 169)), some (.ref (cB G + 281)), some (.ref (cB G + 282)), some (JV i), some (JV c), none, none] []
  refine ws_aload_n dL_law_1571 rfl ?_
  refine ws_aload_n dL_law_1572 rfl ?_
  refine ws_iload dL_law_1573 rfl ?_
  refine ws_iconst dL_law_1575 ?_
  refine ws_iadd dL_law_1576 ?_
  refine ws_sld hX hbl hbA (by omega) (by omega) hLs dL_law_1577 ?_
  refine ws_aload_n dL_law_1578 rfl ?_
  refine ws_iload dL_law_1579 rfl ?_
  refine ws_iconst dL_law_1581 ?_
  refine ws_iadd dL_law_1582 ?_
  refine ws_sld hX hbl hbA (by omega) (by omega) hLs dL_law_1583 ?_
  refine ws_callV (k2 := k0) (n2 := n0) ct cvL_216 dL_law_1584 ⟨Nat.le_of_ble_eq_true rfl, Nat.le_of_ble_eq_true rfl⟩ (Nat.le_of_ble_eq_true rfl) hfs rfl rfl rfl rfl (by omega) (by omega) (fun r h2 N2 q => ?_)
  obtain ⟨v', rfl, hvv, I2, o1, o2⟩ := q
  change WS G s args Z mL_law _ _ h2 N2 1587 [some (.ref b), some (.ref (cB G)), some (.ref (cB G + 169)), some (.ref (cB G + 281)), some (.ref (cB G + 282)), some (JV i), some (JV c), none, none] [JV v']
  refine ws_istore dL_law_1587 (Nat.le_of_ble_eq_true rfl) rfl ?_
  change WS G s args Z mL_law _ _ h2 N2 1589 [some (.ref b), some (.ref (cB G)), some (.ref (cB G + 169)), some (.ref (cB G + 281)), some (.ref (cB G + 282)), some (JV i), some (JV c), some (JV v'), none] []
  obtain ⟨fs2, hfs2, ct2⟩ := thr_of I2
  refine ws_aload_n dL_law_1589 rfl ?_
  refine ws_callV (k2 := k0) (n2 := n0) ct2 cvL_139 dL_law_1590 ⟨Nat.le_of_ble_eq_true rfl, Nat.le_of_ble_eq_true rfl⟩ (Nat.le_of_ble_eq_true rfl) hfs2 rfl rfl rfl rfl (by omega) (by omega) (fun r h3 N3 q => ?_)
  obtain ⟨rfl, rfl, rfl⟩ := q
  change WS G s args Z mL_law _ _ h3 N3 1593 [some (.ref b), some (.ref (cB G)), some (.ref (cB G + 169)), some (.ref (cB G + 281)), some (.ref (cB G + 282)), some (JV i), some (JV c), some (JV v'), none] [JV c]
  refine ws_iload dL_law_1593 rfl ?_
  refine ws_icmpS 1600 dL_law_1595 (by decide) ?_
  refine ws_iload dL_law_1600 rfl ?_
  refine ws_if_ne 1617 dL_law_1602 (by decide) ⟨by omega, by omega⟩ (fun c9 => ?_) (fun c9 => ?_)
  · skip
    refine ws_goto 2665 dL_law_1617 (by decide) ?_
    exact ws_back (kk _ _ _ I2)
  · obtain ⟨hbo, o, ho, ho0⟩ := hv c9
    have e := hvv c9
    subst e
    have ho3 := o1.trans ho
    refine ws_aload_n dL_law_1605 rfl ?_
    refine ws_iconst dL_law_1606 ?_
    refine ws_laload dL_law_1607 ho3 (by omega) (by omega) (by omega) ?_
    rw [show (o (0 : Int).toNat : Int64) = (Int32.ofInt v').toInt64 from ho0]
    refine ws_iload dL_law_1608 rfl ?_
    refine ws_i2l dL_law_1610 ?_
    refine ws_lcmpS dL_law_1611 ?_
    refine ws_if0 1617 dL_law_1612 (by decide) ?_
    refine ws_goto 2665 dL_law_1617 (by decide) ?_
    exact ws_back (kk _ _ _ I2)
set_option maxRecDepth 4000 in
theorem K_overloaded (hX : va_X b Ls xs s s.heap) (hbl : b < s.heap.size) (hbA : b < cB G) (hLs : Ls ≤ 2560) (hi : 0 ≤ i ∧ i + 5 ≤ (Ls : Int)) (I : INVt G h N t) (kk : ∀ (h9 : AH) (N9 : Nat) (t9 : Int), INVt G h9 N9 t9 → WS G s args Z mL_law k0 n0 h9 N9 2665 (LLw G b i) []) : WS G s args Z mL_law (k0 + 43) (n0 + 1014) h N 1620 (LLw G b i) [] := by
  refine ws_aload_n dL_law_1620 rfl ?_
  refine ws_aload_n dL_law_1621 rfl ?_
  refine ws_iload dL_law_1622 rfl ?_
  refine ws_iconst dL_law_1624 ?_
  refine ws_iadd dL_law_1625 ?_
  refine ws_sld hX hbl hbA (by omega) (by omega) hLs dL_law_1626 ?_
  refine ws_aload_n dL_law_1627 rfl ?_
  refine ws_callSH (k2 := k0 + 42) (n2 := n0 + 1008) (jq_overloaded I (inr32 _)) csL_217 dL_law_1628 ⟨Nat.le_of_ble_eq_true rfl, Nat.le_of_ble_eq_true rfl⟩ (Nat.le_of_ble_eq_true rfl) rfl rfl (by omega) (by omega) (fun r h1 N1 q => ?_)
  obtain ⟨c, v, rfl, hc, hv, ⟨fs, hfs⟩, kk9, nn9, hk9, hn9, ct⟩ := q
  change WS G s args Z mL_law _ _ h1 N1 1631 [some (.ref b), some (.ref (cB G)), some (.ref (cB G + 169)), some (.ref (cB G + 281)), some (.ref (cB G + 282)), some (JV i), none, none, none] [JV c]
  refine ws_istore dL_law_1631 (Nat.le_of_ble_eq_true rfl) rfl ?_
  change WS G s args Z mL_law _ _ h1 N1 1633 [some (.ref b), some (.ref (cB G)), some (.ref (cB G + 169)), some (.ref (cB G + 281)), some (.ref (cB G + 282)), some (JV i), some (JV c), none, none] []
  refine ws_aload_n dL_law_1633 rfl ?_
  refine ws_aload_n dL_law_1634 rfl ?_
  refine ws_iload dL_law_1635 rfl ?_
  refine ws_iconst dL_law_1637 ?_
  refine ws_iadd dL_law_1638 ?_
  refine ws_sld hX hbl hbA (by omega) (by omega) hLs dL_law_1639 ?_
  refine ws_callV (k2 := k0) (n2 := n0) ct cvL_219 dL_law_1640 ⟨Nat.le_of_ble_eq_true rfl, Nat.le_of_ble_eq_true rfl⟩ (Nat.le_of_ble_eq_true rfl) hfs rfl rfl rfl rfl (by omega) (by omega) (fun r h2 N2 q => ?_)
  obtain ⟨v', rfl, hvv, I2, o1, o2⟩ := q
  change WS G s args Z mL_law _ _ h2 N2 1643 [some (.ref b), some (.ref (cB G)), some (.ref (cB G + 169)), some (.ref (cB G + 281)), some (.ref (cB G + 282)), some (JV i), some (JV c), none, none] [JV v']
  refine ws_istore dL_law_1643 (Nat.le_of_ble_eq_true rfl) rfl ?_
  change WS G s args Z mL_law _ _ h2 N2 1645 [some (.ref b), some (.ref (cB G)), some (.ref (cB G + 169)), some (.ref (cB G + 281)), some (.ref (cB G + 282)), some (JV i), some (JV c), some (JV v'), none] []
  obtain ⟨fs2, hfs2, ct2⟩ := thr_of I2
  refine ws_aload_n dL_law_1645 rfl ?_
  refine ws_callV (k2 := k0) (n2 := n0) ct2 cvL_139 dL_law_1646 ⟨Nat.le_of_ble_eq_true rfl, Nat.le_of_ble_eq_true rfl⟩ (Nat.le_of_ble_eq_true rfl) hfs2 rfl rfl rfl rfl (by omega) (by omega) (fun r h3 N3 q => ?_)
  obtain ⟨rfl, rfl, rfl⟩ := q
  change WS G s args Z mL_law _ _ h3 N3 1649 [some (.ref b), some (.ref (cB G)), some (.ref (cB G + 169)), some (.ref (cB G + 281)), some (.ref (cB G + 282)), some (JV i), some (JV c), some (JV v'), none] [JV c]
  refine ws_iload dL_law_1649 rfl ?_
  refine ws_icmpS 1656 dL_law_1651 (by decide) ?_
  refine ws_iload dL_law_1656 rfl ?_
  refine ws_if_ne 1673 dL_law_1658 (by decide) ⟨by omega, by omega⟩ (fun c9 => ?_) (fun c9 => ?_)
  · skip
    refine ws_goto 2665 dL_law_1673 (by decide) ?_
    exact ws_back (kk _ _ _ I2)
  · obtain ⟨hbo, o, ho, ho0⟩ := hv c9
    have e := hvv c9
    subst e
    have ho3 := o1.trans ho
    refine ws_aload_n dL_law_1661 rfl ?_
    refine ws_iconst dL_law_1662 ?_
    refine ws_laload dL_law_1663 ho3 (by omega) (by omega) (by omega) ?_
    rw [show (o (0 : Int).toNat : Int64) = (Int32.ofInt v').toInt64 from ho0]
    refine ws_iload dL_law_1664 rfl ?_
    refine ws_i2l dL_law_1666 ?_
    refine ws_lcmpS dL_law_1667 ?_
    refine ws_if0 1673 dL_law_1668 (by decide) ?_
    refine ws_goto 2665 dL_law_1673 (by decide) ?_
    exact ws_back (kk _ _ _ I2)
set_option maxRecDepth 4000 in
theorem K_begin (hX : va_X b Ls xs s s.heap) (hbl : b < s.heap.size) (hbA : b < cB G) (hLs : Ls ≤ 2560) (hi : 0 ≤ i ∧ i + 5 ≤ (Ls : Int)) (I : INVt G h N t) (kk : ∀ (h9 : AH) (N9 : Nat) (t9 : Int), INVt G h9 N9 t9 → WS G s args Z mL_law k0 n0 h9 N9 2665 (LLw G b i) []) : WS G s args Z mL_law (k0 + 43) (n0 + 1014) h N 1676 (LLw G b i) [] := by
  refine ws_aload_n dL_law_1676 rfl ?_
  refine ws_aload_n dL_law_1677 rfl ?_
  refine ws_iload dL_law_1678 rfl ?_
  refine ws_iconst dL_law_1680 ?_
  refine ws_iadd dL_law_1681 ?_
  refine ws_sld hX hbl hbA (by omega) (by omega) hLs dL_law_1682 ?_
  refine ws_aload_n dL_law_1683 rfl ?_
  refine ws_callSH (k2 := k0 + 42) (n2 := n0 + 1008) (jq_begin I (inr32 _)) csL_220 dL_law_1684 ⟨Nat.le_of_ble_eq_true rfl, Nat.le_of_ble_eq_true rfl⟩ (Nat.le_of_ble_eq_true rfl) rfl rfl (by omega) (by omega) (fun r h1 N1 q => ?_)
  obtain ⟨c, v, rfl, hc, hv, ⟨fs, hfs⟩, kk9, nn9, hk9, hn9, ct⟩ := q
  change WS G s args Z mL_law _ _ h1 N1 1687 [some (.ref b), some (.ref (cB G)), some (.ref (cB G + 169)), some (.ref (cB G + 281)), some (.ref (cB G + 282)), some (JV i), none, none, none] [JV c]
  refine ws_istore dL_law_1687 (Nat.le_of_ble_eq_true rfl) rfl ?_
  change WS G s args Z mL_law _ _ h1 N1 1689 [some (.ref b), some (.ref (cB G)), some (.ref (cB G + 169)), some (.ref (cB G + 281)), some (.ref (cB G + 282)), some (JV i), some (JV c), none, none] []
  refine ws_aload_n dL_law_1689 rfl ?_
  refine ws_aload_n dL_law_1690 rfl ?_
  refine ws_iload dL_law_1691 rfl ?_
  refine ws_iconst dL_law_1693 ?_
  refine ws_iadd dL_law_1694 ?_
  refine ws_sld hX hbl hbA (by omega) (by omega) hLs dL_law_1695 ?_
  refine ws_callV (k2 := k0) (n2 := n0) ct cvL_222 dL_law_1696 ⟨Nat.le_of_ble_eq_true rfl, Nat.le_of_ble_eq_true rfl⟩ (Nat.le_of_ble_eq_true rfl) hfs rfl rfl rfl rfl (by omega) (by omega) (fun r h2 N2 q => ?_)
  obtain ⟨v', rfl, hvv, I2, o1, o2⟩ := q
  change WS G s args Z mL_law _ _ h2 N2 1699 [some (.ref b), some (.ref (cB G)), some (.ref (cB G + 169)), some (.ref (cB G + 281)), some (.ref (cB G + 282)), some (JV i), some (JV c), none, none] [JV v']
  refine ws_istore dL_law_1699 (Nat.le_of_ble_eq_true rfl) rfl ?_
  change WS G s args Z mL_law _ _ h2 N2 1701 [some (.ref b), some (.ref (cB G)), some (.ref (cB G + 169)), some (.ref (cB G + 281)), some (.ref (cB G + 282)), some (JV i), some (JV c), some (JV v'), none] []
  obtain ⟨fs2, hfs2, ct2⟩ := thr_of I2
  refine ws_aload_n dL_law_1701 rfl ?_
  refine ws_callV (k2 := k0) (n2 := n0) ct2 cvL_139 dL_law_1702 ⟨Nat.le_of_ble_eq_true rfl, Nat.le_of_ble_eq_true rfl⟩ (Nat.le_of_ble_eq_true rfl) hfs2 rfl rfl rfl rfl (by omega) (by omega) (fun r h3 N3 q => ?_)
  obtain ⟨rfl, rfl, rfl⟩ := q
  change WS G s args Z mL_law _ _ h3 N3 1705 [some (.ref b), some (.ref (cB G)), some (.ref (cB G + 169)), some (.ref (cB G + 281)), some (.ref (cB G + 282)), some (JV i), some (JV c), some (JV v'), none] [JV c]
  refine ws_iload dL_law_1705 rfl ?_
  refine ws_icmpS 1712 dL_law_1707 (by decide) ?_
  refine ws_iload dL_law_1712 rfl ?_
  refine ws_if_ne 1729 dL_law_1714 (by decide) ⟨by omega, by omega⟩ (fun c9 => ?_) (fun c9 => ?_)
  · skip
    refine ws_goto 2665 dL_law_1729 (by decide) ?_
    exact ws_back (kk _ _ _ I2)
  · obtain ⟨hbo, o, ho, ho0⟩ := hv c9
    have e := hvv c9
    subst e
    have ho3 := o1.trans ho
    refine ws_aload_n dL_law_1717 rfl ?_
    refine ws_iconst dL_law_1718 ?_
    refine ws_laload dL_law_1719 ho3 (by omega) (by omega) (by omega) ?_
    rw [show (o (0 : Int).toNat : Int64) = (Int32.ofInt v').toInt64 from ho0]
    refine ws_iload dL_law_1720 rfl ?_
    refine ws_i2l dL_law_1722 ?_
    refine ws_lcmpS dL_law_1723 ?_
    refine ws_if0 1729 dL_law_1724 (by decide) ?_
    refine ws_goto 2665 dL_law_1729 (by decide) ?_
    exact ws_back (kk _ _ _ I2)
set_option maxRecDepth 4000 in
theorem K_end (hX : va_X b Ls xs s s.heap) (hbl : b < s.heap.size) (hbA : b < cB G) (hLs : Ls ≤ 2560) (hi : 0 ≤ i ∧ i + 5 ≤ (Ls : Int)) (I : INVt G h N t) (kk : ∀ (h9 : AH) (N9 : Nat) (t9 : Int), INVt G h9 N9 t9 → WS G s args Z mL_law k0 n0 h9 N9 2665 (LLw G b i) []) : WS G s args Z mL_law (k0 + 43) (n0 + 1014) h N 1732 (LLw G b i) [] := by
  refine ws_aload_n dL_law_1732 rfl ?_
  refine ws_aload_n dL_law_1733 rfl ?_
  refine ws_iload dL_law_1734 rfl ?_
  refine ws_iconst dL_law_1736 ?_
  refine ws_iadd dL_law_1737 ?_
  refine ws_sld hX hbl hbA (by omega) (by omega) hLs dL_law_1738 ?_
  refine ws_aload_n dL_law_1739 rfl ?_
  refine ws_callSH (k2 := k0 + 42) (n2 := n0 + 1008) (jq_end I (inr32 _)) csL_223 dL_law_1740 ⟨Nat.le_of_ble_eq_true rfl, Nat.le_of_ble_eq_true rfl⟩ (Nat.le_of_ble_eq_true rfl) rfl rfl (by omega) (by omega) (fun r h1 N1 q => ?_)
  obtain ⟨c, v, rfl, hc, hv, ⟨fs, hfs⟩, kk9, nn9, hk9, hn9, ct⟩ := q
  change WS G s args Z mL_law _ _ h1 N1 1743 [some (.ref b), some (.ref (cB G)), some (.ref (cB G + 169)), some (.ref (cB G + 281)), some (.ref (cB G + 282)), some (JV i), none, none, none] [JV c]
  refine ws_istore dL_law_1743 (Nat.le_of_ble_eq_true rfl) rfl ?_
  change WS G s args Z mL_law _ _ h1 N1 1745 [some (.ref b), some (.ref (cB G)), some (.ref (cB G + 169)), some (.ref (cB G + 281)), some (.ref (cB G + 282)), some (JV i), some (JV c), none, none] []
  refine ws_aload_n dL_law_1745 rfl ?_
  refine ws_aload_n dL_law_1746 rfl ?_
  refine ws_iload dL_law_1747 rfl ?_
  refine ws_iconst dL_law_1749 ?_
  refine ws_iadd dL_law_1750 ?_
  refine ws_sld hX hbl hbA (by omega) (by omega) hLs dL_law_1751 ?_
  refine ws_callV (k2 := k0) (n2 := n0) ct cvL_225 dL_law_1752 ⟨Nat.le_of_ble_eq_true rfl, Nat.le_of_ble_eq_true rfl⟩ (Nat.le_of_ble_eq_true rfl) hfs rfl rfl rfl rfl (by omega) (by omega) (fun r h2 N2 q => ?_)
  obtain ⟨v', rfl, hvv, I2, o1, o2⟩ := q
  change WS G s args Z mL_law _ _ h2 N2 1755 [some (.ref b), some (.ref (cB G)), some (.ref (cB G + 169)), some (.ref (cB G + 281)), some (.ref (cB G + 282)), some (JV i), some (JV c), none, none] [JV v']
  refine ws_istore dL_law_1755 (Nat.le_of_ble_eq_true rfl) rfl ?_
  change WS G s args Z mL_law _ _ h2 N2 1757 [some (.ref b), some (.ref (cB G)), some (.ref (cB G + 169)), some (.ref (cB G + 281)), some (.ref (cB G + 282)), some (JV i), some (JV c), some (JV v'), none] []
  obtain ⟨fs2, hfs2, ct2⟩ := thr_of I2
  refine ws_aload_n dL_law_1757 rfl ?_
  refine ws_callV (k2 := k0) (n2 := n0) ct2 cvL_139 dL_law_1758 ⟨Nat.le_of_ble_eq_true rfl, Nat.le_of_ble_eq_true rfl⟩ (Nat.le_of_ble_eq_true rfl) hfs2 rfl rfl rfl rfl (by omega) (by omega) (fun r h3 N3 q => ?_)
  obtain ⟨rfl, rfl, rfl⟩ := q
  change WS G s args Z mL_law _ _ h3 N3 1761 [some (.ref b), some (.ref (cB G)), some (.ref (cB G + 169)), some (.ref (cB G + 281)), some (.ref (cB G + 282)), some (JV i), some (JV c), some (JV v'), none] [JV c]
  refine ws_iload dL_law_1761 rfl ?_
  refine ws_icmpS 1768 dL_law_1763 (by decide) ?_
  refine ws_iload dL_law_1768 rfl ?_
  refine ws_if_ne 1785 dL_law_1770 (by decide) ⟨by omega, by omega⟩ (fun c9 => ?_) (fun c9 => ?_)
  · skip
    refine ws_goto 2665 dL_law_1785 (by decide) ?_
    exact ws_back (kk _ _ _ I2)
  · obtain ⟨hbo, o, ho, ho0⟩ := hv c9
    have e := hvv c9
    subst e
    have ho3 := o1.trans ho
    refine ws_aload_n dL_law_1773 rfl ?_
    refine ws_iconst dL_law_1774 ?_
    refine ws_laload dL_law_1775 ho3 (by omega) (by omega) (by omega) ?_
    rw [show (o (0 : Int).toNat : Int64) = (Int32.ofInt v').toInt64 from ho0]
    refine ws_iload dL_law_1776 rfl ?_
    refine ws_i2l dL_law_1778 ?_
    refine ws_lcmpS dL_law_1779 ?_
    refine ws_if0 1785 dL_law_1780 (by decide) ?_
    refine ws_goto 2665 dL_law_1785 (by decide) ?_
    exact ws_back (kk _ _ _ I2)
set_option maxRecDepth 4000 in
theorem K_levelledLast (hX : va_X b Ls xs s s.heap) (hbl : b < s.heap.size) (hbA : b < cB G) (hLs : Ls ≤ 2560) (hi : 0 ≤ i ∧ i + 5 ≤ (Ls : Int)) (I : INVt G h N t) (kk : ∀ (h9 : AH) (N9 : Nat) (t9 : Int), INVt G h9 N9 t9 → WS G s args Z mL_law k0 n0 h9 N9 2665 (LLw G b i) []) : WS G s args Z mL_law (k0 + 43) (n0 + 1014) h N 1788 (LLw G b i) [] := by
  refine ws_aload_n dL_law_1788 rfl ?_
  obtain ⟨st9, hs⟩ := cls_of I
  refine ws_callV (k2 := k0 + 42) (n2 := n0 + 1008) (jw_levelledLast I) cvL_226 dL_law_1789 ⟨Nat.le_of_ble_eq_true rfl, Nat.le_of_ble_eq_true rfl⟩ (Nat.le_of_ble_eq_true rfl) hs rfl rfl rfl rfl (by omega) (by omega) (fun r h1 N1 q => ?_)
  obtain ⟨v, rfl, ⟨fs, hfs⟩, kk9, nn9, hk9, hn9, ct⟩ := q
  change WS G s args Z mL_law _ _ h1 N1 1792 [some (.ref b), some (.ref (cB G)), some (.ref (cB G + 169)), some (.ref (cB G + 281)), some (.ref (cB G + 282)), some (JV i), none, none, none] [JV v]
  refine ws_aload_n dL_law_1792 rfl ?_
  refine ws_callV (k2 := k0) (n2 := n0) ct cvL_229 dL_law_1793 ⟨Nat.le_of_ble_eq_true rfl, Nat.le_of_ble_eq_true rfl⟩ (Nat.le_of_ble_eq_true rfl) hfs rfl rfl rfl rfl (by omega) (by omega) (fun r h2 N2 q => ?_)
  obtain ⟨rfl, I2, o1, o2⟩ := q
  change WS G s args Z mL_law _ _ h2 N2 1796 [some (.ref b), some (.ref (cB G)), some (.ref (cB G + 169)), some (.ref (cB G + 281)), some (.ref (cB G + 282)), some (JV i), none, none, none] [JV v, JV v]
  refine ws_icmpS 2665 dL_law_1796 (by decide) ?_
  exact kk _ _ _ I2
set_option maxRecDepth 4000 in
theorem K_stuck (hX : va_X b Ls xs s s.heap) (hbl : b < s.heap.size) (hbA : b < cB G) (hLs : Ls ≤ 2560) (hi : 0 ≤ i ∧ i + 5 ≤ (Ls : Int)) (I : INVt G h N t) (kk : ∀ (h9 : AH) (N9 : Nat) (t9 : Int), INVt G h9 N9 t9 → WS G s args Z mL_law k0 n0 h9 N9 2665 (LLw G b i) []) : WS G s args Z mL_law (k0 + 43) (n0 + 1014) h N 1801 (LLw G b i) [] := by
  refine ws_aload_n dL_law_1801 rfl ?_
  obtain ⟨st9, hs⟩ := cls_of I
  refine ws_callV (k2 := k0 + 42) (n2 := n0 + 1008) (jw_stuck I) cvL_230 dL_law_1802 ⟨Nat.le_of_ble_eq_true rfl, Nat.le_of_ble_eq_true rfl⟩ (Nat.le_of_ble_eq_true rfl) hs rfl rfl rfl rfl (by omega) (by omega) (fun r h1 N1 q => ?_)
  obtain ⟨v, rfl, ⟨fs, hfs⟩, kk9, nn9, hk9, hn9, ct⟩ := q
  change WS G s args Z mL_law _ _ h1 N1 1805 [some (.ref b), some (.ref (cB G)), some (.ref (cB G + 169)), some (.ref (cB G + 281)), some (.ref (cB G + 282)), some (JV i), none, none, none] [JV v]
  refine ws_aload_n dL_law_1805 rfl ?_
  refine ws_callV (k2 := k0) (n2 := n0) ct cvL_233 dL_law_1806 ⟨Nat.le_of_ble_eq_true rfl, Nat.le_of_ble_eq_true rfl⟩ (Nat.le_of_ble_eq_true rfl) hfs rfl rfl rfl rfl (by omega) (by omega) (fun r h2 N2 q => ?_)
  obtain ⟨rfl, I2, o1, o2⟩ := q
  change WS G s args Z mL_law _ _ h2 N2 1809 [some (.ref b), some (.ref (cB G)), some (.ref (cB G + 169)), some (.ref (cB G + 281)), some (.ref (cB G + 282)), some (JV i), none, none, none] [JV v, JV v]
  refine ws_icmpS 2665 dL_law_1809 (by decide) ?_
  exact kk _ _ _ I2
set_option maxRecDepth 4000 in
theorem K_orderAt (hX : va_X b Ls xs s s.heap) (hbl : b < s.heap.size) (hbA : b < cB G) (hLs : Ls ≤ 2560) (hi : 0 ≤ i ∧ i + 5 ≤ (Ls : Int)) (I : INVt G h N t) (kk : ∀ (h9 : AH) (N9 : Nat) (t9 : Int), INVt G h9 N9 t9 → WS G s args Z mL_law k0 n0 h9 N9 2665 (LLw G b i) []) : WS G s args Z mL_law (k0 + 43) (n0 + 1014) h N 1814 (LLw G b i) [] := by
  refine ws_aload_n dL_law_1814 rfl ?_
  refine ws_aload_n dL_law_1815 rfl ?_
  refine ws_iload dL_law_1816 rfl ?_
  refine ws_iconst dL_law_1818 ?_
  refine ws_iadd dL_law_1819 ?_
  refine ws_sld hX hbl hbA (by omega) (by omega) hLs dL_law_1820 ?_
  refine ws_aload_n dL_law_1821 rfl ?_
  refine ws_callSH (k2 := k0 + 42) (n2 := n0 + 1008) (jq_orderAt I (inr32 _)) csL_234 dL_law_1822 ⟨Nat.le_of_ble_eq_true rfl, Nat.le_of_ble_eq_true rfl⟩ (Nat.le_of_ble_eq_true rfl) rfl rfl (by omega) (by omega) (fun r h1 N1 q => ?_)
  obtain ⟨c, v, rfl, hc, hv, ⟨fs, hfs⟩, kk9, nn9, hk9, hn9, ct⟩ := q
  change WS G s args Z mL_law _ _ h1 N1 1825 [some (.ref b), some (.ref (cB G)), some (.ref (cB G + 169)), some (.ref (cB G + 281)), some (.ref (cB G + 282)), some (JV i), none, none, none] [JV c]
  refine ws_istore dL_law_1825 (Nat.le_of_ble_eq_true rfl) rfl ?_
  change WS G s args Z mL_law _ _ h1 N1 1827 [some (.ref b), some (.ref (cB G)), some (.ref (cB G + 169)), some (.ref (cB G + 281)), some (.ref (cB G + 282)), some (JV i), some (JV c), none, none] []
  refine ws_aload_n dL_law_1827 rfl ?_
  refine ws_aload_n dL_law_1828 rfl ?_
  refine ws_iload dL_law_1829 rfl ?_
  refine ws_iconst dL_law_1831 ?_
  refine ws_iadd dL_law_1832 ?_
  refine ws_sld hX hbl hbA (by omega) (by omega) hLs dL_law_1833 ?_
  refine ws_callV (k2 := k0) (n2 := n0) ct cvL_236 dL_law_1834 ⟨Nat.le_of_ble_eq_true rfl, Nat.le_of_ble_eq_true rfl⟩ (Nat.le_of_ble_eq_true rfl) hfs rfl rfl rfl rfl (by omega) (by omega) (fun r h2 N2 q => ?_)
  obtain ⟨v', rfl, hvv, I2, o1, o2⟩ := q
  change WS G s args Z mL_law _ _ h2 N2 1837 [some (.ref b), some (.ref (cB G)), some (.ref (cB G + 169)), some (.ref (cB G + 281)), some (.ref (cB G + 282)), some (JV i), some (JV c), none, none] [JV v']
  refine ws_istore dL_law_1837 (Nat.le_of_ble_eq_true rfl) rfl ?_
  change WS G s args Z mL_law _ _ h2 N2 1839 [some (.ref b), some (.ref (cB G)), some (.ref (cB G + 169)), some (.ref (cB G + 281)), some (.ref (cB G + 282)), some (JV i), some (JV c), some (JV v'), none] []
  obtain ⟨fs2, hfs2, ct2⟩ := thr_of I2
  refine ws_aload_n dL_law_1839 rfl ?_
  refine ws_callV (k2 := k0) (n2 := n0) ct2 cvL_139 dL_law_1840 ⟨Nat.le_of_ble_eq_true rfl, Nat.le_of_ble_eq_true rfl⟩ (Nat.le_of_ble_eq_true rfl) hfs2 rfl rfl rfl rfl (by omega) (by omega) (fun r h3 N3 q => ?_)
  obtain ⟨rfl, rfl, rfl⟩ := q
  change WS G s args Z mL_law _ _ h3 N3 1843 [some (.ref b), some (.ref (cB G)), some (.ref (cB G + 169)), some (.ref (cB G + 281)), some (.ref (cB G + 282)), some (JV i), some (JV c), some (JV v'), none] [JV c]
  refine ws_iload dL_law_1843 rfl ?_
  refine ws_icmpS 1850 dL_law_1845 (by decide) ?_
  refine ws_iload dL_law_1850 rfl ?_
  refine ws_if_ne 1867 dL_law_1852 (by decide) ⟨by omega, by omega⟩ (fun c9 => ?_) (fun c9 => ?_)
  · skip
    refine ws_goto 2665 dL_law_1867 (by decide) ?_
    exact ws_back (kk _ _ _ I2)
  · obtain ⟨hbo, o, ho, ho0⟩ := hv c9
    have e := hvv c9
    subst e
    have ho3 := o1.trans ho
    refine ws_aload_n dL_law_1855 rfl ?_
    refine ws_iconst dL_law_1856 ?_
    refine ws_laload dL_law_1857 ho3 (by omega) (by omega) (by omega) ?_
    rw [show (o (0 : Int).toNat : Int64) = (Int32.ofInt v').toInt64 from ho0]
    refine ws_iload dL_law_1858 rfl ?_
    refine ws_i2l dL_law_1860 ?_
    refine ws_lcmpS dL_law_1861 ?_
    refine ws_if0 1867 dL_law_1862 (by decide) ?_
    refine ws_goto 2665 dL_law_1867 (by decide) ?_
    exact ws_back (kk _ _ _ I2)
set_option maxRecDepth 4000 in
theorem K_used (hX : va_X b Ls xs s s.heap) (hbl : b < s.heap.size) (hbA : b < cB G) (hLs : Ls ≤ 2560) (hi : 0 ≤ i ∧ i + 5 ≤ (Ls : Int)) (I : INVt G h N t) (kk : ∀ (h9 : AH) (N9 : Nat) (t9 : Int), INVt G h9 N9 t9 → WS G s args Z mL_law k0 n0 h9 N9 2665 (LLw G b i) []) : WS G s args Z mL_law (k0 + 43) (n0 + 1014) h N 1870 (LLw G b i) [] := by
  refine ws_aload_n dL_law_1870 rfl ?_
  refine ws_aload_n dL_law_1871 rfl ?_
  refine ws_iload dL_law_1872 rfl ?_
  refine ws_iconst dL_law_1874 ?_
  refine ws_iadd dL_law_1875 ?_
  refine ws_sld hX hbl hbA (by omega) (by omega) hLs dL_law_1876 ?_
  refine ws_aload_n dL_law_1877 rfl ?_
  refine ws_iload dL_law_1878 rfl ?_
  refine ws_iconst dL_law_1880 ?_
  refine ws_iadd dL_law_1881 ?_
  refine ws_sld hX hbl hbA (by omega) (by omega) hLs dL_law_1882 ?_
  refine ws_aload_n dL_law_1883 rfl ?_
  refine ws_callSH (k2 := k0 + 42) (n2 := n0 + 1008) (jq_used I (inr32 _) (inr32 _)) csL_237 dL_law_1884 ⟨Nat.le_of_ble_eq_true rfl, Nat.le_of_ble_eq_true rfl⟩ (Nat.le_of_ble_eq_true rfl) rfl rfl (by omega) (by omega) (fun r h1 N1 q => ?_)
  obtain ⟨c, v, rfl, hc, hv, ⟨fs, hfs⟩, kk9, nn9, hk9, hn9, ct⟩ := q
  change WS G s args Z mL_law _ _ h1 N1 1887 [some (.ref b), some (.ref (cB G)), some (.ref (cB G + 169)), some (.ref (cB G + 281)), some (.ref (cB G + 282)), some (JV i), none, none, none] [JV c]
  refine ws_istore dL_law_1887 (Nat.le_of_ble_eq_true rfl) rfl ?_
  change WS G s args Z mL_law _ _ h1 N1 1889 [some (.ref b), some (.ref (cB G)), some (.ref (cB G + 169)), some (.ref (cB G + 281)), some (.ref (cB G + 282)), some (JV i), some (JV c), none, none] []
  refine ws_aload_n dL_law_1889 rfl ?_
  refine ws_aload_n dL_law_1890 rfl ?_
  refine ws_iload dL_law_1891 rfl ?_
  refine ws_iconst dL_law_1893 ?_
  refine ws_iadd dL_law_1894 ?_
  refine ws_sld hX hbl hbA (by omega) (by omega) hLs dL_law_1895 ?_
  refine ws_aload_n dL_law_1896 rfl ?_
  refine ws_iload dL_law_1897 rfl ?_
  refine ws_iconst dL_law_1899 ?_
  refine ws_iadd dL_law_1900 ?_
  refine ws_sld hX hbl hbA (by omega) (by omega) hLs dL_law_1901 ?_
  refine ws_callV (k2 := k0) (n2 := n0) ct cvL_239 dL_law_1902 ⟨Nat.le_of_ble_eq_true rfl, Nat.le_of_ble_eq_true rfl⟩ (Nat.le_of_ble_eq_true rfl) hfs rfl rfl rfl rfl (by omega) (by omega) (fun r h2 N2 q => ?_)
  obtain ⟨v', rfl, hvv, I2, o1, o2⟩ := q
  change WS G s args Z mL_law _ _ h2 N2 1905 [some (.ref b), some (.ref (cB G)), some (.ref (cB G + 169)), some (.ref (cB G + 281)), some (.ref (cB G + 282)), some (JV i), some (JV c), none, none] [JV v']
  refine ws_istore dL_law_1905 (Nat.le_of_ble_eq_true rfl) rfl ?_
  change WS G s args Z mL_law _ _ h2 N2 1907 [some (.ref b), some (.ref (cB G)), some (.ref (cB G + 169)), some (.ref (cB G + 281)), some (.ref (cB G + 282)), some (JV i), some (JV c), some (JV v'), none] []
  obtain ⟨fs2, hfs2, ct2⟩ := thr_of I2
  refine ws_aload_n dL_law_1907 rfl ?_
  refine ws_callV (k2 := k0) (n2 := n0) ct2 cvL_139 dL_law_1908 ⟨Nat.le_of_ble_eq_true rfl, Nat.le_of_ble_eq_true rfl⟩ (Nat.le_of_ble_eq_true rfl) hfs2 rfl rfl rfl rfl (by omega) (by omega) (fun r h3 N3 q => ?_)
  obtain ⟨rfl, rfl, rfl⟩ := q
  change WS G s args Z mL_law _ _ h3 N3 1911 [some (.ref b), some (.ref (cB G)), some (.ref (cB G + 169)), some (.ref (cB G + 281)), some (.ref (cB G + 282)), some (JV i), some (JV c), some (JV v'), none] [JV c]
  refine ws_iload dL_law_1911 rfl ?_
  refine ws_icmpS 1918 dL_law_1913 (by decide) ?_
  refine ws_iload dL_law_1918 rfl ?_
  refine ws_if_ne 1935 dL_law_1920 (by decide) ⟨by omega, by omega⟩ (fun c9 => ?_) (fun c9 => ?_)
  · skip
    refine ws_goto 2665 dL_law_1935 (by decide) ?_
    exact ws_back (kk _ _ _ I2)
  · obtain ⟨hbo, o, ho, ho0⟩ := hv c9
    have e := hvv c9
    subst e
    have ho3 := o1.trans ho
    refine ws_aload_n dL_law_1923 rfl ?_
    refine ws_iconst dL_law_1924 ?_
    refine ws_laload dL_law_1925 ho3 (by omega) (by omega) (by omega) ?_
    rw [show (o (0 : Int).toNat : Int64) = (Int32.ofInt v').toInt64 from ho0]
    refine ws_iload dL_law_1926 rfl ?_
    refine ws_i2l dL_law_1928 ?_
    refine ws_lcmpS dL_law_1929 ?_
    refine ws_if0 1935 dL_law_1930 (by decide) ?_
    refine ws_goto 2665 dL_law_1935 (by decide) ?_
    exact ws_back (kk _ _ _ I2)
set_option maxRecDepth 4000 in
theorem K_peak (hX : va_X b Ls xs s s.heap) (hbl : b < s.heap.size) (hbA : b < cB G) (hLs : Ls ≤ 2560) (hi : 0 ≤ i ∧ i + 5 ≤ (Ls : Int)) (I : INVt G h N t) (kk : ∀ (h9 : AH) (N9 : Nat) (t9 : Int), INVt G h9 N9 t9 → WS G s args Z mL_law k0 n0 h9 N9 2665 (LLw G b i) []) : WS G s args Z mL_law (k0 + 43) (n0 + 1014) h N 1938 (LLw G b i) [] := by
  refine ws_aload_n dL_law_1938 rfl ?_
  refine ws_aload_n dL_law_1939 rfl ?_
  refine ws_iload dL_law_1940 rfl ?_
  refine ws_iconst dL_law_1942 ?_
  refine ws_iadd dL_law_1943 ?_
  refine ws_sld hX hbl hbA (by omega) (by omega) hLs dL_law_1944 ?_
  refine ws_aload_n dL_law_1945 rfl ?_
  refine ws_callSH (k2 := k0 + 42) (n2 := n0 + 1008) (jq_peak I (inr32 _)) csL_240 dL_law_1946 ⟨Nat.le_of_ble_eq_true rfl, Nat.le_of_ble_eq_true rfl⟩ (Nat.le_of_ble_eq_true rfl) rfl rfl (by omega) (by omega) (fun r h1 N1 q => ?_)
  obtain ⟨c, v, rfl, hc, hv, ⟨fs, hfs⟩, kk9, nn9, hk9, hn9, ct⟩ := q
  change WS G s args Z mL_law _ _ h1 N1 1949 [some (.ref b), some (.ref (cB G)), some (.ref (cB G + 169)), some (.ref (cB G + 281)), some (.ref (cB G + 282)), some (JV i), none, none, none] [JV c]
  refine ws_istore dL_law_1949 (Nat.le_of_ble_eq_true rfl) rfl ?_
  change WS G s args Z mL_law _ _ h1 N1 1951 [some (.ref b), some (.ref (cB G)), some (.ref (cB G + 169)), some (.ref (cB G + 281)), some (.ref (cB G + 282)), some (JV i), some (JV c), none, none] []
  refine ws_aload_n dL_law_1951 rfl ?_
  refine ws_aload_n dL_law_1952 rfl ?_
  refine ws_iload dL_law_1953 rfl ?_
  refine ws_iconst dL_law_1955 ?_
  refine ws_iadd dL_law_1956 ?_
  refine ws_sld hX hbl hbA (by omega) (by omega) hLs dL_law_1957 ?_
  refine ws_callV (k2 := k0) (n2 := n0) ct cvL_242 dL_law_1958 ⟨Nat.le_of_ble_eq_true rfl, Nat.le_of_ble_eq_true rfl⟩ (Nat.le_of_ble_eq_true rfl) hfs rfl rfl rfl rfl (by omega) (by omega) (fun r h2 N2 q => ?_)
  obtain ⟨v', rfl, hvv, I2, o1, o2⟩ := q
  change WS G s args Z mL_law _ _ h2 N2 1961 [some (.ref b), some (.ref (cB G)), some (.ref (cB G + 169)), some (.ref (cB G + 281)), some (.ref (cB G + 282)), some (JV i), some (JV c), none, none] [JV v']
  refine ws_istore dL_law_1961 (Nat.le_of_ble_eq_true rfl) rfl ?_
  change WS G s args Z mL_law _ _ h2 N2 1963 [some (.ref b), some (.ref (cB G)), some (.ref (cB G + 169)), some (.ref (cB G + 281)), some (.ref (cB G + 282)), some (JV i), some (JV c), some (JV v'), none] []
  obtain ⟨fs2, hfs2, ct2⟩ := thr_of I2
  refine ws_aload_n dL_law_1963 rfl ?_
  refine ws_callV (k2 := k0) (n2 := n0) ct2 cvL_139 dL_law_1964 ⟨Nat.le_of_ble_eq_true rfl, Nat.le_of_ble_eq_true rfl⟩ (Nat.le_of_ble_eq_true rfl) hfs2 rfl rfl rfl rfl (by omega) (by omega) (fun r h3 N3 q => ?_)
  obtain ⟨rfl, rfl, rfl⟩ := q
  change WS G s args Z mL_law _ _ h3 N3 1967 [some (.ref b), some (.ref (cB G)), some (.ref (cB G + 169)), some (.ref (cB G + 281)), some (.ref (cB G + 282)), some (JV i), some (JV c), some (JV v'), none] [JV c]
  refine ws_iload dL_law_1967 rfl ?_
  refine ws_icmpS 1974 dL_law_1969 (by decide) ?_
  refine ws_iload dL_law_1974 rfl ?_
  refine ws_if_ne 1991 dL_law_1976 (by decide) ⟨by omega, by omega⟩ (fun c9 => ?_) (fun c9 => ?_)
  · skip
    refine ws_goto 2665 dL_law_1991 (by decide) ?_
    exact ws_back (kk _ _ _ I2)
  · obtain ⟨hbo, o, ho, ho0⟩ := hv c9
    have e := hvv c9
    subst e
    have ho3 := o1.trans ho
    refine ws_aload_n dL_law_1979 rfl ?_
    refine ws_iconst dL_law_1980 ?_
    refine ws_laload dL_law_1981 ho3 (by omega) (by omega) (by omega) ?_
    rw [show (o (0 : Int).toNat : Int64) = (Int32.ofInt v').toInt64 from ho0]
    refine ws_iload dL_law_1982 rfl ?_
    refine ws_i2l dL_law_1984 ?_
    refine ws_lcmpS dL_law_1985 ?_
    refine ws_if0 1991 dL_law_1986 (by decide) ?_
    refine ws_goto 2665 dL_law_1991 (by decide) ?_
    exact ws_back (kk _ _ _ I2)
set_option maxRecDepth 4000 in
theorem K_holds (hX : va_X b Ls xs s s.heap) (hbl : b < s.heap.size) (hbA : b < cB G) (hLs : Ls ≤ 2560) (hi : 0 ≤ i ∧ i + 5 ≤ (Ls : Int)) (I : INVt G h N t) (kk : ∀ (h9 : AH) (N9 : Nat) (t9 : Int), INVt G h9 N9 t9 → WS G s args Z mL_law k0 n0 h9 N9 2665 (LLw G b i) []) : WS G s args Z mL_law (k0 + 43) (n0 + 1014) h N 1994 (LLw G b i) [] := by
  refine ws_aload_n dL_law_1994 rfl ?_
  refine ws_aload_n dL_law_1995 rfl ?_
  refine ws_iload dL_law_1996 rfl ?_
  refine ws_iconst dL_law_1998 ?_
  refine ws_iadd dL_law_1999 ?_
  refine ws_sld hX hbl hbA (by omega) (by omega) hLs dL_law_2000 ?_
  refine ws_aload_n dL_law_2001 rfl ?_
  refine ws_callSH (k2 := k0 + 42) (n2 := n0 + 1008) (jq_holds I (inr32 _)) csL_243 dL_law_2002 ⟨Nat.le_of_ble_eq_true rfl, Nat.le_of_ble_eq_true rfl⟩ (Nat.le_of_ble_eq_true rfl) rfl rfl (by omega) (by omega) (fun r h1 N1 q => ?_)
  obtain ⟨c, v, rfl, hc, hv, ⟨fs, hfs⟩, kk9, nn9, hk9, hn9, ct⟩ := q
  change WS G s args Z mL_law _ _ h1 N1 2005 [some (.ref b), some (.ref (cB G)), some (.ref (cB G + 169)), some (.ref (cB G + 281)), some (.ref (cB G + 282)), some (JV i), none, none, none] [JV c]
  refine ws_istore dL_law_2005 (Nat.le_of_ble_eq_true rfl) rfl ?_
  change WS G s args Z mL_law _ _ h1 N1 2007 [some (.ref b), some (.ref (cB G)), some (.ref (cB G + 169)), some (.ref (cB G + 281)), some (.ref (cB G + 282)), some (JV i), some (JV c), none, none] []
  refine ws_aload_n dL_law_2007 rfl ?_
  refine ws_aload_n dL_law_2008 rfl ?_
  refine ws_iload dL_law_2009 rfl ?_
  refine ws_iconst dL_law_2011 ?_
  refine ws_iadd dL_law_2012 ?_
  refine ws_sld hX hbl hbA (by omega) (by omega) hLs dL_law_2013 ?_
  refine ws_callV (k2 := k0) (n2 := n0) ct cvL_245 dL_law_2014 ⟨Nat.le_of_ble_eq_true rfl, Nat.le_of_ble_eq_true rfl⟩ (Nat.le_of_ble_eq_true rfl) hfs rfl rfl rfl rfl (by omega) (by omega) (fun r h2 N2 q => ?_)
  obtain ⟨v', rfl, hvv, I2, o1, o2⟩ := q
  change WS G s args Z mL_law _ _ h2 N2 2017 [some (.ref b), some (.ref (cB G)), some (.ref (cB G + 169)), some (.ref (cB G + 281)), some (.ref (cB G + 282)), some (JV i), some (JV c), none, none] [JV v']
  refine ws_istore dL_law_2017 (Nat.le_of_ble_eq_true rfl) rfl ?_
  change WS G s args Z mL_law _ _ h2 N2 2019 [some (.ref b), some (.ref (cB G)), some (.ref (cB G + 169)), some (.ref (cB G + 281)), some (.ref (cB G + 282)), some (JV i), some (JV c), some (JV v'), none] []
  obtain ⟨fs2, hfs2, ct2⟩ := thr_of I2
  refine ws_aload_n dL_law_2019 rfl ?_
  refine ws_callV (k2 := k0) (n2 := n0) ct2 cvL_139 dL_law_2020 ⟨Nat.le_of_ble_eq_true rfl, Nat.le_of_ble_eq_true rfl⟩ (Nat.le_of_ble_eq_true rfl) hfs2 rfl rfl rfl rfl (by omega) (by omega) (fun r h3 N3 q => ?_)
  obtain ⟨rfl, rfl, rfl⟩ := q
  change WS G s args Z mL_law _ _ h3 N3 2023 [some (.ref b), some (.ref (cB G)), some (.ref (cB G + 169)), some (.ref (cB G + 281)), some (.ref (cB G + 282)), some (JV i), some (JV c), some (JV v'), none] [JV c]
  refine ws_iload dL_law_2023 rfl ?_
  refine ws_icmpS 2030 dL_law_2025 (by decide) ?_
  refine ws_iload dL_law_2030 rfl ?_
  refine ws_if_ne 2047 dL_law_2032 (by decide) ⟨by omega, by omega⟩ (fun c9 => ?_) (fun c9 => ?_)
  · skip
    refine ws_goto 2665 dL_law_2047 (by decide) ?_
    exact ws_back (kk _ _ _ I2)
  · obtain ⟨hbo, o, ho, ho0⟩ := hv c9
    have e := hvv c9
    subst e
    have ho3 := o1.trans ho
    refine ws_aload_n dL_law_2035 rfl ?_
    refine ws_iconst dL_law_2036 ?_
    refine ws_laload dL_law_2037 ho3 (by omega) (by omega) (by omega) ?_
    rw [show (o (0 : Int).toNat : Int64) = (Int32.ofInt v').toInt64 from ho0]
    refine ws_iload dL_law_2038 rfl ?_
    refine ws_i2l dL_law_2040 ?_
    refine ws_lcmpS dL_law_2041 ?_
    refine ws_if0 2047 dL_law_2042 (by decide) ?_
    refine ws_goto 2665 dL_law_2047 (by decide) ?_
    exact ws_back (kk _ _ _ I2)
set_option maxRecDepth 4000 in
theorem K_heldBy (hX : va_X b Ls xs s s.heap) (hbl : b < s.heap.size) (hbA : b < cB G) (hLs : Ls ≤ 2560) (hi : 0 ≤ i ∧ i + 5 ≤ (Ls : Int)) (I : INVt G h N t) (kk : ∀ (h9 : AH) (N9 : Nat) (t9 : Int), INVt G h9 N9 t9 → WS G s args Z mL_law k0 n0 h9 N9 2665 (LLw G b i) []) : WS G s args Z mL_law (k0 + 43) (n0 + 1014) h N 2050 (LLw G b i) [] := by
  refine ws_aload_n dL_law_2050 rfl ?_
  refine ws_aload_n dL_law_2051 rfl ?_
  refine ws_iload dL_law_2052 rfl ?_
  refine ws_iconst dL_law_2054 ?_
  refine ws_iadd dL_law_2055 ?_
  refine ws_sld hX hbl hbA (by omega) (by omega) hLs dL_law_2056 ?_
  refine ws_aload_n dL_law_2057 rfl ?_
  refine ws_callSH (k2 := k0 + 42) (n2 := n0 + 1008) (jq_heldBy I (inr32 _)) csL_246 dL_law_2058 ⟨Nat.le_of_ble_eq_true rfl, Nat.le_of_ble_eq_true rfl⟩ (Nat.le_of_ble_eq_true rfl) rfl rfl (by omega) (by omega) (fun r h1 N1 q => ?_)
  obtain ⟨c, v, rfl, hc, hv, ⟨fs, hfs⟩, kk9, nn9, hk9, hn9, ct⟩ := q
  change WS G s args Z mL_law _ _ h1 N1 2061 [some (.ref b), some (.ref (cB G)), some (.ref (cB G + 169)), some (.ref (cB G + 281)), some (.ref (cB G + 282)), some (JV i), none, none, none] [JV c]
  refine ws_istore dL_law_2061 (Nat.le_of_ble_eq_true rfl) rfl ?_
  change WS G s args Z mL_law _ _ h1 N1 2063 [some (.ref b), some (.ref (cB G)), some (.ref (cB G + 169)), some (.ref (cB G + 281)), some (.ref (cB G + 282)), some (JV i), some (JV c), none, none] []
  refine ws_aload_n dL_law_2063 rfl ?_
  refine ws_aload_n dL_law_2064 rfl ?_
  refine ws_iload dL_law_2065 rfl ?_
  refine ws_iconst dL_law_2067 ?_
  refine ws_iadd dL_law_2068 ?_
  refine ws_sld hX hbl hbA (by omega) (by omega) hLs dL_law_2069 ?_
  refine ws_callV (k2 := k0) (n2 := n0) ct cvL_248 dL_law_2070 ⟨Nat.le_of_ble_eq_true rfl, Nat.le_of_ble_eq_true rfl⟩ (Nat.le_of_ble_eq_true rfl) hfs rfl rfl rfl rfl (by omega) (by omega) (fun r h2 N2 q => ?_)
  obtain ⟨v', rfl, hvv, I2, o1, o2⟩ := q
  change WS G s args Z mL_law _ _ h2 N2 2073 [some (.ref b), some (.ref (cB G)), some (.ref (cB G + 169)), some (.ref (cB G + 281)), some (.ref (cB G + 282)), some (JV i), some (JV c), none, none] [JV v']
  refine ws_istore dL_law_2073 (Nat.le_of_ble_eq_true rfl) rfl ?_
  change WS G s args Z mL_law _ _ h2 N2 2075 [some (.ref b), some (.ref (cB G)), some (.ref (cB G + 169)), some (.ref (cB G + 281)), some (.ref (cB G + 282)), some (JV i), some (JV c), some (JV v'), none] []
  obtain ⟨fs2, hfs2, ct2⟩ := thr_of I2
  refine ws_aload_n dL_law_2075 rfl ?_
  refine ws_callV (k2 := k0) (n2 := n0) ct2 cvL_139 dL_law_2076 ⟨Nat.le_of_ble_eq_true rfl, Nat.le_of_ble_eq_true rfl⟩ (Nat.le_of_ble_eq_true rfl) hfs2 rfl rfl rfl rfl (by omega) (by omega) (fun r h3 N3 q => ?_)
  obtain ⟨rfl, rfl, rfl⟩ := q
  change WS G s args Z mL_law _ _ h3 N3 2079 [some (.ref b), some (.ref (cB G)), some (.ref (cB G + 169)), some (.ref (cB G + 281)), some (.ref (cB G + 282)), some (JV i), some (JV c), some (JV v'), none] [JV c]
  refine ws_iload dL_law_2079 rfl ?_
  refine ws_icmpS 2086 dL_law_2081 (by decide) ?_
  refine ws_iload dL_law_2086 rfl ?_
  refine ws_if_ne 2103 dL_law_2088 (by decide) ⟨by omega, by omega⟩ (fun c9 => ?_) (fun c9 => ?_)
  · skip
    refine ws_goto 2665 dL_law_2103 (by decide) ?_
    exact ws_back (kk _ _ _ I2)
  · obtain ⟨hbo, o, ho, ho0⟩ := hv c9
    have e := hvv c9
    subst e
    have ho3 := o1.trans ho
    refine ws_aload_n dL_law_2091 rfl ?_
    refine ws_iconst dL_law_2092 ?_
    refine ws_laload dL_law_2093 ho3 (by omega) (by omega) (by omega) ?_
    rw [show (o (0 : Int).toNat : Int64) = (Int32.ofInt v').toInt64 from ho0]
    refine ws_iload dL_law_2094 rfl ?_
    refine ws_i2l dL_law_2096 ?_
    refine ws_lcmpS dL_law_2097 ?_
    refine ws_if0 2103 dL_law_2098 (by decide) ?_
    refine ws_goto 2665 dL_law_2103 (by decide) ?_
    exact ws_back (kk _ _ _ I2)
set_option maxRecDepth 4000 in
theorem K_idle (hX : va_X b Ls xs s s.heap) (hbl : b < s.heap.size) (hbA : b < cB G) (hLs : Ls ≤ 2560) (hi : 0 ≤ i ∧ i + 5 ≤ (Ls : Int)) (I : INVt G h N t) (kk : ∀ (h9 : AH) (N9 : Nat) (t9 : Int), INVt G h9 N9 t9 → WS G s args Z mL_law k0 n0 h9 N9 2665 (LLw G b i) []) : WS G s args Z mL_law (k0 + 43) (n0 + 1014) h N 2106 (LLw G b i) [] := by
  refine ws_aload_n dL_law_2106 rfl ?_
  refine ws_aload_n dL_law_2107 rfl ?_
  refine ws_iload dL_law_2108 rfl ?_
  refine ws_iconst dL_law_2110 ?_
  refine ws_iadd dL_law_2111 ?_
  refine ws_sld hX hbl hbA (by omega) (by omega) hLs dL_law_2112 ?_
  refine ws_aload_n dL_law_2113 rfl ?_
  refine ws_callSH (k2 := k0 + 42) (n2 := n0 + 1008) (jq_idle I (inr32 _)) csL_249 dL_law_2114 ⟨Nat.le_of_ble_eq_true rfl, Nat.le_of_ble_eq_true rfl⟩ (Nat.le_of_ble_eq_true rfl) rfl rfl (by omega) (by omega) (fun r h1 N1 q => ?_)
  obtain ⟨c, v, rfl, hc, hv, ⟨fs, hfs⟩, kk9, nn9, hk9, hn9, ct⟩ := q
  change WS G s args Z mL_law _ _ h1 N1 2117 [some (.ref b), some (.ref (cB G)), some (.ref (cB G + 169)), some (.ref (cB G + 281)), some (.ref (cB G + 282)), some (JV i), none, none, none] [JV c]
  refine ws_istore dL_law_2117 (Nat.le_of_ble_eq_true rfl) rfl ?_
  change WS G s args Z mL_law _ _ h1 N1 2119 [some (.ref b), some (.ref (cB G)), some (.ref (cB G + 169)), some (.ref (cB G + 281)), some (.ref (cB G + 282)), some (JV i), some (JV c), none, none] []
  refine ws_aload_n dL_law_2119 rfl ?_
  refine ws_aload_n dL_law_2120 rfl ?_
  refine ws_iload dL_law_2121 rfl ?_
  refine ws_iconst dL_law_2123 ?_
  refine ws_iadd dL_law_2124 ?_
  refine ws_sld hX hbl hbA (by omega) (by omega) hLs dL_law_2125 ?_
  refine ws_callV (k2 := k0) (n2 := n0) ct cvL_251 dL_law_2126 ⟨Nat.le_of_ble_eq_true rfl, Nat.le_of_ble_eq_true rfl⟩ (Nat.le_of_ble_eq_true rfl) hfs rfl rfl rfl rfl (by omega) (by omega) (fun r h2 N2 q => ?_)
  obtain ⟨v', rfl, hvv, I2, o1, o2⟩ := q
  change WS G s args Z mL_law _ _ h2 N2 2129 [some (.ref b), some (.ref (cB G)), some (.ref (cB G + 169)), some (.ref (cB G + 281)), some (.ref (cB G + 282)), some (JV i), some (JV c), none, none] [JV v']
  refine ws_istore dL_law_2129 (Nat.le_of_ble_eq_true rfl) rfl ?_
  change WS G s args Z mL_law _ _ h2 N2 2131 [some (.ref b), some (.ref (cB G)), some (.ref (cB G + 169)), some (.ref (cB G + 281)), some (.ref (cB G + 282)), some (JV i), some (JV c), some (JV v'), none] []
  obtain ⟨fs2, hfs2, ct2⟩ := thr_of I2
  refine ws_aload_n dL_law_2131 rfl ?_
  refine ws_callV (k2 := k0) (n2 := n0) ct2 cvL_139 dL_law_2132 ⟨Nat.le_of_ble_eq_true rfl, Nat.le_of_ble_eq_true rfl⟩ (Nat.le_of_ble_eq_true rfl) hfs2 rfl rfl rfl rfl (by omega) (by omega) (fun r h3 N3 q => ?_)
  obtain ⟨rfl, rfl, rfl⟩ := q
  change WS G s args Z mL_law _ _ h3 N3 2135 [some (.ref b), some (.ref (cB G)), some (.ref (cB G + 169)), some (.ref (cB G + 281)), some (.ref (cB G + 282)), some (JV i), some (JV c), some (JV v'), none] [JV c]
  refine ws_iload dL_law_2135 rfl ?_
  refine ws_icmpS 2142 dL_law_2137 (by decide) ?_
  refine ws_iload dL_law_2142 rfl ?_
  refine ws_if_ne 2159 dL_law_2144 (by decide) ⟨by omega, by omega⟩ (fun c9 => ?_) (fun c9 => ?_)
  · skip
    refine ws_goto 2665 dL_law_2159 (by decide) ?_
    exact ws_back (kk _ _ _ I2)
  · obtain ⟨hbo, o, ho, ho0⟩ := hv c9
    have e := hvv c9
    subst e
    have ho3 := o1.trans ho
    refine ws_aload_n dL_law_2147 rfl ?_
    refine ws_iconst dL_law_2148 ?_
    refine ws_laload dL_law_2149 ho3 (by omega) (by omega) (by omega) ?_
    rw [show (o (0 : Int).toNat : Int64) = (Int32.ofInt v').toInt64 from ho0]
    refine ws_iload dL_law_2150 rfl ?_
    refine ws_i2l dL_law_2152 ?_
    refine ws_lcmpS dL_law_2153 ?_
    refine ws_if0 2159 dL_law_2154 (by decide) ?_
    refine ws_goto 2665 dL_law_2159 (by decide) ?_
    exact ws_back (kk _ _ _ I2)
set_option maxRecDepth 4000 in
theorem K_keep (hX : va_X b Ls xs s s.heap) (hbl : b < s.heap.size) (hbA : b < cB G) (hLs : Ls ≤ 2560) (hi : 0 ≤ i ∧ i + 5 ≤ (Ls : Int)) (I : INVt G h N t) (kk : ∀ (h9 : AH) (N9 : Nat) (t9 : Int), INVt G h9 N9 t9 → WS G s args Z mL_law k0 n0 h9 N9 2665 (LLw G b i) []) : WS G s args Z mL_law (k0 + 43) (n0 + 1014) h N 2162 (LLw G b i) [] := by
  refine ws_aload_n dL_law_2162 rfl ?_
  obtain ⟨st9, hs⟩ := cls_of I
  refine ws_callV (k2 := k0 + 42) (n2 := n0 + 1008) (jw_keep I) cvL_252 dL_law_2163 ⟨Nat.le_of_ble_eq_true rfl, Nat.le_of_ble_eq_true rfl⟩ (Nat.le_of_ble_eq_true rfl) hs rfl rfl rfl rfl (by omega) (by omega) (fun r h1 N1 q => ?_)
  obtain ⟨v, rfl, ⟨fs, hfs⟩, kk9, nn9, hk9, hn9, ct⟩ := q
  change WS G s args Z mL_law _ _ h1 N1 2166 [some (.ref b), some (.ref (cB G)), some (.ref (cB G + 169)), some (.ref (cB G + 281)), some (.ref (cB G + 282)), some (JV i), none, none, none] [JV v]
  refine ws_aload_n dL_law_2166 rfl ?_
  refine ws_callV (k2 := k0) (n2 := n0) ct cvL_255 dL_law_2167 ⟨Nat.le_of_ble_eq_true rfl, Nat.le_of_ble_eq_true rfl⟩ (Nat.le_of_ble_eq_true rfl) hfs rfl rfl rfl rfl (by omega) (by omega) (fun r h2 N2 q => ?_)
  obtain ⟨rfl, I2, o1, o2⟩ := q
  change WS G s args Z mL_law _ _ h2 N2 2170 [some (.ref b), some (.ref (cB G)), some (.ref (cB G + 169)), some (.ref (cB G + 281)), some (.ref (cB G + 282)), some (JV i), none, none, none] [JV v, JV v]
  refine ws_icmpS 2665 dL_law_2170 (by decide) ?_
  exact kk _ _ _ I2
set_option maxRecDepth 4000 in
theorem K_behind (hX : va_X b Ls xs s s.heap) (hbl : b < s.heap.size) (hbA : b < cB G) (hLs : Ls ≤ 2560) (hi : 0 ≤ i ∧ i + 5 ≤ (Ls : Int)) (I : INVt G h N t) (kk : ∀ (h9 : AH) (N9 : Nat) (t9 : Int), INVt G h9 N9 t9 → WS G s args Z mL_law k0 n0 h9 N9 2665 (LLw G b i) []) : WS G s args Z mL_law (k0 + 43) (n0 + 1014) h N 2175 (LLw G b i) [] := by
  refine ws_aload_n dL_law_2175 rfl ?_
  refine ws_aload_n dL_law_2176 rfl ?_
  refine ws_iload dL_law_2177 rfl ?_
  refine ws_iconst dL_law_2179 ?_
  refine ws_iadd dL_law_2180 ?_
  refine ws_sld hX hbl hbA (by omega) (by omega) hLs dL_law_2181 ?_
  refine ws_aload_n dL_law_2182 rfl ?_
  refine ws_callSH (k2 := k0 + 42) (n2 := n0 + 1008) (jq_behind I (inr32 _)) csL_256 dL_law_2183 ⟨Nat.le_of_ble_eq_true rfl, Nat.le_of_ble_eq_true rfl⟩ (Nat.le_of_ble_eq_true rfl) rfl rfl (by omega) (by omega) (fun r h1 N1 q => ?_)
  obtain ⟨c, v, rfl, hc, hv, ⟨fs, hfs⟩, kk9, nn9, hk9, hn9, ct⟩ := q
  change WS G s args Z mL_law _ _ h1 N1 2186 [some (.ref b), some (.ref (cB G)), some (.ref (cB G + 169)), some (.ref (cB G + 281)), some (.ref (cB G + 282)), some (JV i), none, none, none] [JV c]
  refine ws_istore dL_law_2186 (Nat.le_of_ble_eq_true rfl) rfl ?_
  change WS G s args Z mL_law _ _ h1 N1 2188 [some (.ref b), some (.ref (cB G)), some (.ref (cB G + 169)), some (.ref (cB G + 281)), some (.ref (cB G + 282)), some (JV i), some (JV c), none, none] []
  refine ws_aload_n dL_law_2188 rfl ?_
  refine ws_aload_n dL_law_2189 rfl ?_
  refine ws_iload dL_law_2190 rfl ?_
  refine ws_iconst dL_law_2192 ?_
  refine ws_iadd dL_law_2193 ?_
  refine ws_sld hX hbl hbA (by omega) (by omega) hLs dL_law_2194 ?_
  refine ws_callV (k2 := k0) (n2 := n0) ct cvL_258 dL_law_2195 ⟨Nat.le_of_ble_eq_true rfl, Nat.le_of_ble_eq_true rfl⟩ (Nat.le_of_ble_eq_true rfl) hfs rfl rfl rfl rfl (by omega) (by omega) (fun r h2 N2 q => ?_)
  obtain ⟨v', rfl, hvv, I2, o1, o2⟩ := q
  change WS G s args Z mL_law _ _ h2 N2 2198 [some (.ref b), some (.ref (cB G)), some (.ref (cB G + 169)), some (.ref (cB G + 281)), some (.ref (cB G + 282)), some (JV i), some (JV c), none, none] [JV v']
  refine ws_istore dL_law_2198 (Nat.le_of_ble_eq_true rfl) rfl ?_
  change WS G s args Z mL_law _ _ h2 N2 2200 [some (.ref b), some (.ref (cB G)), some (.ref (cB G + 169)), some (.ref (cB G + 281)), some (.ref (cB G + 282)), some (JV i), some (JV c), some (JV v'), none] []
  obtain ⟨fs2, hfs2, ct2⟩ := thr_of I2
  refine ws_aload_n dL_law_2200 rfl ?_
  refine ws_callV (k2 := k0) (n2 := n0) ct2 cvL_139 dL_law_2201 ⟨Nat.le_of_ble_eq_true rfl, Nat.le_of_ble_eq_true rfl⟩ (Nat.le_of_ble_eq_true rfl) hfs2 rfl rfl rfl rfl (by omega) (by omega) (fun r h3 N3 q => ?_)
  obtain ⟨rfl, rfl, rfl⟩ := q
  change WS G s args Z mL_law _ _ h3 N3 2204 [some (.ref b), some (.ref (cB G)), some (.ref (cB G + 169)), some (.ref (cB G + 281)), some (.ref (cB G + 282)), some (JV i), some (JV c), some (JV v'), none] [JV c]
  refine ws_iload dL_law_2204 rfl ?_
  refine ws_icmpS 2211 dL_law_2206 (by decide) ?_
  refine ws_iload dL_law_2211 rfl ?_
  refine ws_if_ne 2228 dL_law_2213 (by decide) ⟨by omega, by omega⟩ (fun c9 => ?_) (fun c9 => ?_)
  · skip
    refine ws_goto 2665 dL_law_2228 (by decide) ?_
    exact ws_back (kk _ _ _ I2)
  · obtain ⟨hbo, o, ho, ho0⟩ := hv c9
    have e := hvv c9
    subst e
    have ho3 := o1.trans ho
    refine ws_aload_n dL_law_2216 rfl ?_
    refine ws_iconst dL_law_2217 ?_
    refine ws_laload dL_law_2218 ho3 (by omega) (by omega) (by omega) ?_
    rw [show (o (0 : Int).toNat : Int64) = (Int32.ofInt v').toInt64 from ho0]
    refine ws_iload dL_law_2219 rfl ?_
    refine ws_i2l dL_law_2221 ?_
    refine ws_lcmpS dL_law_2222 ?_
    refine ws_if0 2228 dL_law_2223 (by decide) ?_
    refine ws_goto 2665 dL_law_2228 (by decide) ?_
    exact ws_back (kk _ _ _ I2)
set_option maxRecDepth 4000 in
theorem K_planned (hX : va_X b Ls xs s s.heap) (hbl : b < s.heap.size) (hbA : b < cB G) (hLs : Ls ≤ 2560) (hi : 0 ≤ i ∧ i + 5 ≤ (Ls : Int)) (I : INVt G h N t) (kk : ∀ (h9 : AH) (N9 : Nat) (t9 : Int), INVt G h9 N9 t9 → WS G s args Z mL_law k0 n0 h9 N9 2665 (LLw G b i) []) : WS G s args Z mL_law (k0 + 43) (n0 + 1014) h N 2231 (LLw G b i) [] := by
  refine ws_aload_n dL_law_2231 rfl ?_
  refine ws_aload_n dL_law_2232 rfl ?_
  refine ws_iload dL_law_2233 rfl ?_
  refine ws_iconst dL_law_2235 ?_
  refine ws_iadd dL_law_2236 ?_
  refine ws_sld hX hbl hbA (by omega) (by omega) hLs dL_law_2237 ?_
  refine ws_aload_n dL_law_2238 rfl ?_
  refine ws_callSH (k2 := k0 + 42) (n2 := n0 + 1008) (jq_planned I (inr32 _)) csL_259 dL_law_2239 ⟨Nat.le_of_ble_eq_true rfl, Nat.le_of_ble_eq_true rfl⟩ (Nat.le_of_ble_eq_true rfl) rfl rfl (by omega) (by omega) (fun r h1 N1 q => ?_)
  obtain ⟨c, v, rfl, hc, hv, ⟨fs, hfs⟩, kk9, nn9, hk9, hn9, ct⟩ := q
  change WS G s args Z mL_law _ _ h1 N1 2242 [some (.ref b), some (.ref (cB G)), some (.ref (cB G + 169)), some (.ref (cB G + 281)), some (.ref (cB G + 282)), some (JV i), none, none, none] [JV c]
  refine ws_istore dL_law_2242 (Nat.le_of_ble_eq_true rfl) rfl ?_
  change WS G s args Z mL_law _ _ h1 N1 2244 [some (.ref b), some (.ref (cB G)), some (.ref (cB G + 169)), some (.ref (cB G + 281)), some (.ref (cB G + 282)), some (JV i), some (JV c), none, none] []
  refine ws_aload_n dL_law_2244 rfl ?_
  refine ws_aload_n dL_law_2245 rfl ?_
  refine ws_iload dL_law_2246 rfl ?_
  refine ws_iconst dL_law_2248 ?_
  refine ws_iadd dL_law_2249 ?_
  refine ws_sld hX hbl hbA (by omega) (by omega) hLs dL_law_2250 ?_
  refine ws_callV (k2 := k0) (n2 := n0) ct cvL_261 dL_law_2251 ⟨Nat.le_of_ble_eq_true rfl, Nat.le_of_ble_eq_true rfl⟩ (Nat.le_of_ble_eq_true rfl) hfs rfl rfl rfl rfl (by omega) (by omega) (fun r h2 N2 q => ?_)
  obtain ⟨v', rfl, hvv, I2, o1, o2⟩ := q
  change WS G s args Z mL_law _ _ h2 N2 2254 [some (.ref b), some (.ref (cB G)), some (.ref (cB G + 169)), some (.ref (cB G + 281)), some (.ref (cB G + 282)), some (JV i), some (JV c), none, none] [JV v']
  refine ws_istore dL_law_2254 (Nat.le_of_ble_eq_true rfl) rfl ?_
  change WS G s args Z mL_law _ _ h2 N2 2256 [some (.ref b), some (.ref (cB G)), some (.ref (cB G + 169)), some (.ref (cB G + 281)), some (.ref (cB G + 282)), some (JV i), some (JV c), some (JV v'), none] []
  obtain ⟨fs2, hfs2, ct2⟩ := thr_of I2
  refine ws_aload_n dL_law_2256 rfl ?_
  refine ws_callV (k2 := k0) (n2 := n0) ct2 cvL_139 dL_law_2257 ⟨Nat.le_of_ble_eq_true rfl, Nat.le_of_ble_eq_true rfl⟩ (Nat.le_of_ble_eq_true rfl) hfs2 rfl rfl rfl rfl (by omega) (by omega) (fun r h3 N3 q => ?_)
  obtain ⟨rfl, rfl, rfl⟩ := q
  change WS G s args Z mL_law _ _ h3 N3 2260 [some (.ref b), some (.ref (cB G)), some (.ref (cB G + 169)), some (.ref (cB G + 281)), some (.ref (cB G + 282)), some (JV i), some (JV c), some (JV v'), none] [JV c]
  refine ws_iload dL_law_2260 rfl ?_
  refine ws_icmpS 2267 dL_law_2262 (by decide) ?_
  refine ws_iload dL_law_2267 rfl ?_
  refine ws_if_ne 2284 dL_law_2269 (by decide) ⟨by omega, by omega⟩ (fun c9 => ?_) (fun c9 => ?_)
  · skip
    refine ws_goto 2665 dL_law_2284 (by decide) ?_
    exact ws_back (kk _ _ _ I2)
  · obtain ⟨hbo, o, ho, ho0⟩ := hv c9
    have e := hvv c9
    subst e
    have ho3 := o1.trans ho
    refine ws_aload_n dL_law_2272 rfl ?_
    refine ws_iconst dL_law_2273 ?_
    refine ws_laload dL_law_2274 ho3 (by omega) (by omega) (by omega) ?_
    rw [show (o (0 : Int).toNat : Int64) = (Int32.ofInt v').toInt64 from ho0]
    refine ws_iload dL_law_2275 rfl ?_
    refine ws_i2l dL_law_2277 ?_
    refine ws_lcmpS dL_law_2278 ?_
    refine ws_if0 2284 dL_law_2279 (by decide) ?_
    refine ws_goto 2665 dL_law_2284 (by decide) ?_
    exact ws_back (kk _ _ _ I2)
set_option maxRecDepth 4000 in
theorem K_earned (hX : va_X b Ls xs s s.heap) (hbl : b < s.heap.size) (hbA : b < cB G) (hLs : Ls ≤ 2560) (hi : 0 ≤ i ∧ i + 5 ≤ (Ls : Int)) (I : INVt G h N t) (kk : ∀ (h9 : AH) (N9 : Nat) (t9 : Int), INVt G h9 N9 t9 → WS G s args Z mL_law k0 n0 h9 N9 2665 (LLw G b i) []) : WS G s args Z mL_law (k0 + 43) (n0 + 1014) h N 2287 (LLw G b i) [] := by
  refine ws_aload_n dL_law_2287 rfl ?_
  obtain ⟨st9, hs⟩ := cls_of I
  refine ws_callV (k2 := k0 + 42) (n2 := n0 + 1008) (jw_earned I) cvL_262 dL_law_2288 ⟨Nat.le_of_ble_eq_true rfl, Nat.le_of_ble_eq_true rfl⟩ (Nat.le_of_ble_eq_true rfl) hs rfl rfl rfl rfl (by omega) (by omega) (fun r h1 N1 q => ?_)
  obtain ⟨v, rfl, ⟨fs, hfs⟩, kk9, nn9, hk9, hn9, ct⟩ := q
  change WS G s args Z mL_law _ _ h1 N1 2291 [some (.ref b), some (.ref (cB G)), some (.ref (cB G + 169)), some (.ref (cB G + 281)), some (.ref (cB G + 282)), some (JV i), none, none, none] [JV v]
  refine ws_aload_n dL_law_2291 rfl ?_
  refine ws_callV (k2 := k0) (n2 := n0) ct cvL_265 dL_law_2292 ⟨Nat.le_of_ble_eq_true rfl, Nat.le_of_ble_eq_true rfl⟩ (Nat.le_of_ble_eq_true rfl) hfs rfl rfl rfl rfl (by omega) (by omega) (fun r h2 N2 q => ?_)
  obtain ⟨rfl, I2, o1, o2⟩ := q
  change WS G s args Z mL_law _ _ h2 N2 2295 [some (.ref b), some (.ref (cB G)), some (.ref (cB G + 169)), some (.ref (cB G + 281)), some (.ref (cB G + 282)), some (JV i), none, none, none] [JV v, JV v]
  refine ws_icmpS 2665 dL_law_2295 (by decide) ?_
  exact kk _ _ _ I2
set_option maxRecDepth 4000 in
theorem K_worth (hX : va_X b Ls xs s s.heap) (hbl : b < s.heap.size) (hbA : b < cB G) (hLs : Ls ≤ 2560) (hi : 0 ≤ i ∧ i + 5 ≤ (Ls : Int)) (I : INVt G h N t) (kk : ∀ (h9 : AH) (N9 : Nat) (t9 : Int), INVt G h9 N9 t9 → WS G s args Z mL_law k0 n0 h9 N9 2665 (LLw G b i) []) : WS G s args Z mL_law (k0 + 43) (n0 + 1014) h N 2300 (LLw G b i) [] := by
  refine ws_aload_n dL_law_2300 rfl ?_
  obtain ⟨st9, hs⟩ := cls_of I
  refine ws_callV (k2 := k0 + 42) (n2 := n0 + 1008) (jw_worth I) cvL_266 dL_law_2301 ⟨Nat.le_of_ble_eq_true rfl, Nat.le_of_ble_eq_true rfl⟩ (Nat.le_of_ble_eq_true rfl) hs rfl rfl rfl rfl (by omega) (by omega) (fun r h1 N1 q => ?_)
  obtain ⟨v, rfl, ⟨fs, hfs⟩, kk9, nn9, hk9, hn9, ct⟩ := q
  change WS G s args Z mL_law _ _ h1 N1 2304 [some (.ref b), some (.ref (cB G)), some (.ref (cB G + 169)), some (.ref (cB G + 281)), some (.ref (cB G + 282)), some (JV i), none, none, none] [JV v]
  refine ws_aload_n dL_law_2304 rfl ?_
  refine ws_callV (k2 := k0) (n2 := n0) ct cvL_269 dL_law_2305 ⟨Nat.le_of_ble_eq_true rfl, Nat.le_of_ble_eq_true rfl⟩ (Nat.le_of_ble_eq_true rfl) hfs rfl rfl rfl rfl (by omega) (by omega) (fun r h2 N2 q => ?_)
  obtain ⟨rfl, I2, o1, o2⟩ := q
  change WS G s args Z mL_law _ _ h2 N2 2308 [some (.ref b), some (.ref (cB G)), some (.ref (cB G + 169)), some (.ref (cB G + 281)), some (.ref (cB G + 282)), some (JV i), none, none, none] [JV v, JV v]
  refine ws_icmpS 2665 dL_law_2308 (by decide) ?_
  exact kk _ _ _ I2
set_option maxRecDepth 4000 in
theorem K_pace (hX : va_X b Ls xs s s.heap) (hbl : b < s.heap.size) (hbA : b < cB G) (hLs : Ls ≤ 2560) (hi : 0 ≤ i ∧ i + 5 ≤ (Ls : Int)) (I : INVt G h N t) (kk : ∀ (h9 : AH) (N9 : Nat) (t9 : Int), INVt G h9 N9 t9 → WS G s args Z mL_law k0 n0 h9 N9 2665 (LLw G b i) []) : WS G s args Z mL_law (k0 + 43) (n0 + 1014) h N 2313 (LLw G b i) [] := by
  refine ws_aload_n dL_law_2313 rfl ?_
  refine ws_aload_n dL_law_2314 rfl ?_
  refine ws_iload dL_law_2315 rfl ?_
  refine ws_iconst dL_law_2317 ?_
  refine ws_iadd dL_law_2318 ?_
  refine ws_sld hX hbl hbA (by omega) (by omega) hLs dL_law_2319 ?_
  refine ws_aload dL_law_2320 rfl ?_
  refine ws_callSH (k2 := k0 + 42) (n2 := n0 + 1008) (jq_pace I (inr32 _)) csL_270 dL_law_2322 ⟨Nat.le_of_ble_eq_true rfl, Nat.le_of_ble_eq_true rfl⟩ (Nat.le_of_ble_eq_true rfl) rfl rfl (by omega) (by omega) (fun r h1 N1 q => ?_)
  obtain ⟨c, v, rfl, hc, hv, ⟨fs, hfs⟩, kk9, nn9, hk9, hn9, ct⟩ := q
  change WS G s args Z mL_law _ _ h1 N1 2325 [some (.ref b), some (.ref (cB G)), some (.ref (cB G + 169)), some (.ref (cB G + 281)), some (.ref (cB G + 282)), some (JV i), none, none, none] [JV c]
  refine ws_istore dL_law_2325 (Nat.le_of_ble_eq_true rfl) rfl ?_
  change WS G s args Z mL_law _ _ h1 N1 2327 [some (.ref b), some (.ref (cB G)), some (.ref (cB G + 169)), some (.ref (cB G + 281)), some (.ref (cB G + 282)), some (JV i), some (JV c), none, none] []
  refine ws_aload_n dL_law_2327 rfl ?_
  refine ws_aload_n dL_law_2328 rfl ?_
  refine ws_iload dL_law_2329 rfl ?_
  refine ws_iconst dL_law_2331 ?_
  refine ws_iadd dL_law_2332 ?_
  refine ws_sld hX hbl hbA (by omega) (by omega) hLs dL_law_2333 ?_
  refine ws_callV (k2 := k0) (n2 := n0) ct cvL_273 dL_law_2334 ⟨Nat.le_of_ble_eq_true rfl, Nat.le_of_ble_eq_true rfl⟩ (Nat.le_of_ble_eq_true rfl) hfs rfl rfl rfl rfl (by omega) (by omega) (fun r h2 N2 q => ?_)
  obtain ⟨v', rfl, hvv, I2, o1, o2⟩ := q
  change WS G s args Z mL_law _ _ h2 N2 2337 [some (.ref b), some (.ref (cB G)), some (.ref (cB G + 169)), some (.ref (cB G + 281)), some (.ref (cB G + 282)), some (JV i), some (JV c), none, none] [.double v']
  refine ws_dstore dL_law_2337 (Nat.le_of_ble_eq_true rfl) rfl ?_
  change WS G s args Z mL_law _ _ h2 N2 2339 [some (.ref b), some (.ref (cB G)), some (.ref (cB G + 169)), some (.ref (cB G + 281)), some (.ref (cB G + 282)), some (JV i), some (JV c), some (.double v'), none] []
  obtain ⟨fs2, hfs2, ct2⟩ := thr_of I2
  refine ws_aload_n dL_law_2339 rfl ?_
  refine ws_callV (k2 := k0) (n2 := n0) ct2 cvL_139 dL_law_2340 ⟨Nat.le_of_ble_eq_true rfl, Nat.le_of_ble_eq_true rfl⟩ (Nat.le_of_ble_eq_true rfl) hfs2 rfl rfl rfl rfl (by omega) (by omega) (fun r h3 N3 q => ?_)
  obtain ⟨rfl, rfl, rfl⟩ := q
  change WS G s args Z mL_law _ _ h3 N3 2343 [some (.ref b), some (.ref (cB G)), some (.ref (cB G + 169)), some (.ref (cB G + 281)), some (.ref (cB G + 282)), some (JV i), some (JV c), some (.double v'), none] [JV c]
  refine ws_iload dL_law_2343 rfl ?_
  refine ws_icmpS 2350 dL_law_2345 (by decide) ?_
  refine ws_iload dL_law_2350 rfl ?_
  refine ws_if_ne 2387 dL_law_2352 (by decide) ⟨by omega, by omega⟩ (fun c9 => ?_) (fun c9 => ?_)
  · skip
    refine ws_goto 2665 dL_law_2387 (by decide) ?_
    exact ws_back (kk _ _ _ I2)
  · obtain ⟨o, ho, ho0⟩ := hv c9
    have e := hvv c9
    subst e
    have ho3 := o2.trans ho
    refine ws_aload dL_law_2355 rfl ?_
    refine ws_iconst dL_law_2357 ?_
    refine ws_daload dL_law_2358 ho3 (by omega) (by omega) (by omega) ?_
    rw [show (o (0 : Int).toNat : UInt64) = v' from ho0]
    refine ws_dload dL_law_2359 rfl ?_
    refine ws_dcmp dL_law_2361 ?_
    obtain ⟨y, ey⟩ : ∃ y : Int32, y = Op.cmpValue (FP.dcmp v' v') .l := ⟨_, rfl⟩
    rw [← ey]
    obtain ⟨x, rfl, hx⟩ : ∃ x : Int, y = Int32.ofInt x ∧ InR x := ⟨y.toInt, (Int32.ofInt_toInt _).symm, inr32 _⟩
    refine ws_if_eq 2387 dL_law_2362 (by decide) hx (fun c8 => ?_) (fun c8 => ?_)
    · skip
      refine ws_goto 2665 dL_law_2387 (by decide) ?_
      exact ws_back (kk _ _ _ I2)
    · skip
      refine ws_aload dL_law_2365 rfl ?_
      refine ws_iconst dL_law_2367 ?_
      refine ws_daload dL_law_2368 ho3 (by omega) (by omega) (by omega) ?_
      rw [show (o (0 : Int).toNat : UInt64) = v' from ho0]
      refine ws_aload dL_law_2369 rfl ?_
      refine ws_iconst dL_law_2371 ?_
      refine ws_daload dL_law_2372 ho3 (by omega) (by omega) (by omega) ?_
      rw [show (o (0 : Int).toNat : UInt64) = v' from ho0]
      refine ws_dcmp dL_law_2373 ?_
      rw [← ey]
      refine ws_if_eq 2385 dL_law_2374 (by decide) hx (fun c7 => absurd c7 c8) (fun c7 => ?_)
      refine ws_dload dL_law_2377 rfl ?_
      refine ws_dload dL_law_2379 rfl ?_
      refine ws_dcmp dL_law_2381 ?_
      rw [← ey]
      refine ws_if_ne 2387 dL_law_2382 (by decide) hx (fun c6 => ?_) (fun c6 => absurd c6 c8)
      refine ws_goto 2665 dL_law_2387 (by decide) ?_
      exact ws_back (kk _ _ _ I2)
set_option maxRecDepth 4000 in
theorem K_lastWith (hX : va_X b Ls xs s s.heap) (hbl : b < s.heap.size) (hbA : b < cB G) (hLs : Ls ≤ 2560) (hi : 0 ≤ i ∧ i + 5 ≤ (Ls : Int)) (I : INVt G h N t) (kk : ∀ (h9 : AH) (N9 : Nat) (t9 : Int), INVt G h9 N9 t9 → WS G s args Z mL_law k0 n0 h9 N9 2665 (LLw G b i) []) : WS G s args Z mL_law (k0 + 43) (n0 + 1014) h N 2390 (LLw G b i) [] := by
  refine ws_aload_n dL_law_2390 rfl ?_
  refine ws_aload_n dL_law_2391 rfl ?_
  refine ws_iload dL_law_2392 rfl ?_
  refine ws_iconst dL_law_2394 ?_
  refine ws_iadd dL_law_2395 ?_
  refine ws_sld hX hbl hbA (by omega) (by omega) hLs dL_law_2396 ?_
  refine ws_aload_n dL_law_2397 rfl ?_
  refine ws_iload dL_law_2398 rfl ?_
  refine ws_iconst dL_law_2400 ?_
  refine ws_iadd dL_law_2401 ?_
  refine ws_sld hX hbl hbA (by omega) (by omega) hLs dL_law_2402 ?_
  refine ws_aload_n dL_law_2403 rfl ?_
  refine ws_callSH (k2 := k0 + 42) (n2 := n0 + 1008) (jq_lastWith I (inr32 _) (inr32 _)) csL_274 dL_law_2404 ⟨Nat.le_of_ble_eq_true rfl, Nat.le_of_ble_eq_true rfl⟩ (Nat.le_of_ble_eq_true rfl) rfl rfl (by omega) (by omega) (fun r h1 N1 q => ?_)
  obtain ⟨c, v, rfl, hc, hv, ⟨fs, hfs⟩, kk9, nn9, hk9, hn9, ct⟩ := q
  change WS G s args Z mL_law _ _ h1 N1 2407 [some (.ref b), some (.ref (cB G)), some (.ref (cB G + 169)), some (.ref (cB G + 281)), some (.ref (cB G + 282)), some (JV i), none, none, none] [JV c]
  refine ws_istore dL_law_2407 (Nat.le_of_ble_eq_true rfl) rfl ?_
  change WS G s args Z mL_law _ _ h1 N1 2409 [some (.ref b), some (.ref (cB G)), some (.ref (cB G + 169)), some (.ref (cB G + 281)), some (.ref (cB G + 282)), some (JV i), some (JV c), none, none] []
  refine ws_aload_n dL_law_2409 rfl ?_
  refine ws_aload_n dL_law_2410 rfl ?_
  refine ws_iload dL_law_2411 rfl ?_
  refine ws_iconst dL_law_2413 ?_
  refine ws_iadd dL_law_2414 ?_
  refine ws_sld hX hbl hbA (by omega) (by omega) hLs dL_law_2415 ?_
  refine ws_aload_n dL_law_2416 rfl ?_
  refine ws_iload dL_law_2417 rfl ?_
  refine ws_iconst dL_law_2419 ?_
  refine ws_iadd dL_law_2420 ?_
  refine ws_sld hX hbl hbA (by omega) (by omega) hLs dL_law_2421 ?_
  refine ws_callV (k2 := k0) (n2 := n0) ct cvL_276 dL_law_2422 ⟨Nat.le_of_ble_eq_true rfl, Nat.le_of_ble_eq_true rfl⟩ (Nat.le_of_ble_eq_true rfl) hfs rfl rfl rfl rfl (by omega) (by omega) (fun r h2 N2 q => ?_)
  obtain ⟨v', rfl, hvv, I2, o1, o2⟩ := q
  change WS G s args Z mL_law _ _ h2 N2 2425 [some (.ref b), some (.ref (cB G)), some (.ref (cB G + 169)), some (.ref (cB G + 281)), some (.ref (cB G + 282)), some (JV i), some (JV c), none, none] [JV v']
  refine ws_istore dL_law_2425 (Nat.le_of_ble_eq_true rfl) rfl ?_
  change WS G s args Z mL_law _ _ h2 N2 2427 [some (.ref b), some (.ref (cB G)), some (.ref (cB G + 169)), some (.ref (cB G + 281)), some (.ref (cB G + 282)), some (JV i), some (JV c), some (JV v'), none] []
  obtain ⟨fs2, hfs2, ct2⟩ := thr_of I2
  refine ws_aload_n dL_law_2427 rfl ?_
  refine ws_callV (k2 := k0) (n2 := n0) ct2 cvL_139 dL_law_2428 ⟨Nat.le_of_ble_eq_true rfl, Nat.le_of_ble_eq_true rfl⟩ (Nat.le_of_ble_eq_true rfl) hfs2 rfl rfl rfl rfl (by omega) (by omega) (fun r h3 N3 q => ?_)
  obtain ⟨rfl, rfl, rfl⟩ := q
  change WS G s args Z mL_law _ _ h3 N3 2431 [some (.ref b), some (.ref (cB G)), some (.ref (cB G + 169)), some (.ref (cB G + 281)), some (.ref (cB G + 282)), some (JV i), some (JV c), some (JV v'), none] [JV c]
  refine ws_iload dL_law_2431 rfl ?_
  refine ws_icmpS 2438 dL_law_2433 (by decide) ?_
  refine ws_iload dL_law_2438 rfl ?_
  refine ws_if_ne 2455 dL_law_2440 (by decide) ⟨by omega, by omega⟩ (fun c9 => ?_) (fun c9 => ?_)
  · skip
    refine ws_goto 2665 dL_law_2455 (by decide) ?_
    exact ws_back (kk _ _ _ I2)
  · obtain ⟨hbo, o, ho, ho0⟩ := hv c9
    have e := hvv c9
    subst e
    have ho3 := o1.trans ho
    refine ws_aload_n dL_law_2443 rfl ?_
    refine ws_iconst dL_law_2444 ?_
    refine ws_laload dL_law_2445 ho3 (by omega) (by omega) (by omega) ?_
    rw [show (o (0 : Int).toNat : Int64) = (Int32.ofInt v').toInt64 from ho0]
    refine ws_iload dL_law_2446 rfl ?_
    refine ws_i2l dL_law_2448 ?_
    refine ws_lcmpS dL_law_2449 ?_
    refine ws_if0 2455 dL_law_2450 (by decide) ?_
    refine ws_goto 2665 dL_law_2455 (by decide) ?_
    exact ws_back (kk _ _ _ I2)
set_option maxRecDepth 4000 in
theorem K_levelledWith (hX : va_X b Ls xs s s.heap) (hbl : b < s.heap.size) (hbA : b < cB G) (hLs : Ls ≤ 2560) (hi : 0 ≤ i ∧ i + 5 ≤ (Ls : Int)) (I : INVt G h N t) (kk : ∀ (h9 : AH) (N9 : Nat) (t9 : Int), INVt G h9 N9 t9 → WS G s args Z mL_law k0 n0 h9 N9 2665 (LLw G b i) []) : WS G s args Z mL_law (k0 + 43) (n0 + 1014) h N 2458 (LLw G b i) [] := by
  refine ws_aload_n dL_law_2458 rfl ?_
  refine ws_aload_n dL_law_2459 rfl ?_
  refine ws_iload dL_law_2460 rfl ?_
  refine ws_iconst dL_law_2462 ?_
  refine ws_iadd dL_law_2463 ?_
  refine ws_sld hX hbl hbA (by omega) (by omega) hLs dL_law_2464 ?_
  refine ws_aload_n dL_law_2465 rfl ?_
  refine ws_iload dL_law_2466 rfl ?_
  refine ws_iconst dL_law_2468 ?_
  refine ws_iadd dL_law_2469 ?_
  refine ws_sld hX hbl hbA (by omega) (by omega) hLs dL_law_2470 ?_
  refine ws_aload_n dL_law_2471 rfl ?_
  refine ws_callSH (k2 := k0 + 42) (n2 := n0 + 1008) (jq_levelledWith I (inr32 _) (inr32 _)) csL_277 dL_law_2472 ⟨Nat.le_of_ble_eq_true rfl, Nat.le_of_ble_eq_true rfl⟩ (Nat.le_of_ble_eq_true rfl) rfl rfl (by omega) (by omega) (fun r h1 N1 q => ?_)
  obtain ⟨c, v, rfl, hc, hv, ⟨fs, hfs⟩, kk9, nn9, hk9, hn9, ct⟩ := q
  change WS G s args Z mL_law _ _ h1 N1 2475 [some (.ref b), some (.ref (cB G)), some (.ref (cB G + 169)), some (.ref (cB G + 281)), some (.ref (cB G + 282)), some (JV i), none, none, none] [JV c]
  refine ws_istore dL_law_2475 (Nat.le_of_ble_eq_true rfl) rfl ?_
  change WS G s args Z mL_law _ _ h1 N1 2477 [some (.ref b), some (.ref (cB G)), some (.ref (cB G + 169)), some (.ref (cB G + 281)), some (.ref (cB G + 282)), some (JV i), some (JV c), none, none] []
  refine ws_aload_n dL_law_2477 rfl ?_
  refine ws_aload_n dL_law_2478 rfl ?_
  refine ws_iload dL_law_2479 rfl ?_
  refine ws_iconst dL_law_2481 ?_
  refine ws_iadd dL_law_2482 ?_
  refine ws_sld hX hbl hbA (by omega) (by omega) hLs dL_law_2483 ?_
  refine ws_aload_n dL_law_2484 rfl ?_
  refine ws_iload dL_law_2485 rfl ?_
  refine ws_iconst dL_law_2487 ?_
  refine ws_iadd dL_law_2488 ?_
  refine ws_sld hX hbl hbA (by omega) (by omega) hLs dL_law_2489 ?_
  refine ws_callV (k2 := k0) (n2 := n0) ct cvL_279 dL_law_2490 ⟨Nat.le_of_ble_eq_true rfl, Nat.le_of_ble_eq_true rfl⟩ (Nat.le_of_ble_eq_true rfl) hfs rfl rfl rfl rfl (by omega) (by omega) (fun r h2 N2 q => ?_)
  obtain ⟨v', rfl, hvv, I2, o1, o2⟩ := q
  change WS G s args Z mL_law _ _ h2 N2 2493 [some (.ref b), some (.ref (cB G)), some (.ref (cB G + 169)), some (.ref (cB G + 281)), some (.ref (cB G + 282)), some (JV i), some (JV c), none, none] [JV v']
  refine ws_istore dL_law_2493 (Nat.le_of_ble_eq_true rfl) rfl ?_
  change WS G s args Z mL_law _ _ h2 N2 2495 [some (.ref b), some (.ref (cB G)), some (.ref (cB G + 169)), some (.ref (cB G + 281)), some (.ref (cB G + 282)), some (JV i), some (JV c), some (JV v'), none] []
  obtain ⟨fs2, hfs2, ct2⟩ := thr_of I2
  refine ws_aload_n dL_law_2495 rfl ?_
  refine ws_callV (k2 := k0) (n2 := n0) ct2 cvL_139 dL_law_2496 ⟨Nat.le_of_ble_eq_true rfl, Nat.le_of_ble_eq_true rfl⟩ (Nat.le_of_ble_eq_true rfl) hfs2 rfl rfl rfl rfl (by omega) (by omega) (fun r h3 N3 q => ?_)
  obtain ⟨rfl, rfl, rfl⟩ := q
  change WS G s args Z mL_law _ _ h3 N3 2499 [some (.ref b), some (.ref (cB G)), some (.ref (cB G + 169)), some (.ref (cB G + 281)), some (.ref (cB G + 282)), some (JV i), some (JV c), some (JV v'), none] [JV c]
  refine ws_iload dL_law_2499 rfl ?_
  refine ws_icmpS 2506 dL_law_2501 (by decide) ?_
  refine ws_iload dL_law_2506 rfl ?_
  refine ws_if_ne 2523 dL_law_2508 (by decide) ⟨by omega, by omega⟩ (fun c9 => ?_) (fun c9 => ?_)
  · skip
    refine ws_goto 2665 dL_law_2523 (by decide) ?_
    exact ws_back (kk _ _ _ I2)
  · obtain ⟨hbo, o, ho, ho0⟩ := hv c9
    have e := hvv c9
    subst e
    have ho3 := o1.trans ho
    refine ws_aload_n dL_law_2511 rfl ?_
    refine ws_iconst dL_law_2512 ?_
    refine ws_laload dL_law_2513 ho3 (by omega) (by omega) (by omega) ?_
    rw [show (o (0 : Int).toNat : Int64) = (Int32.ofInt v').toInt64 from ho0]
    refine ws_iload dL_law_2514 rfl ?_
    refine ws_i2l dL_law_2516 ?_
    refine ws_lcmpS dL_law_2517 ?_
    refine ws_if0 2523 dL_law_2518 (by decide) ?_
    refine ws_goto 2665 dL_law_2523 (by decide) ?_
    exact ws_back (kk _ _ _ I2)
set_option maxRecDepth 4000 in
theorem K_levelledWithout (hX : va_X b Ls xs s s.heap) (hbl : b < s.heap.size) (hbA : b < cB G) (hLs : Ls ≤ 2560) (hi : 0 ≤ i ∧ i + 5 ≤ (Ls : Int)) (I : INVt G h N t) (kk : ∀ (h9 : AH) (N9 : Nat) (t9 : Int), INVt G h9 N9 t9 → WS G s args Z mL_law k0 n0 h9 N9 2665 (LLw G b i) []) : WS G s args Z mL_law (k0 + 43) (n0 + 1014) h N 2526 (LLw G b i) [] := by
  refine ws_aload_n dL_law_2526 rfl ?_
  refine ws_aload_n dL_law_2527 rfl ?_
  refine ws_iload dL_law_2528 rfl ?_
  refine ws_iconst dL_law_2530 ?_
  refine ws_iadd dL_law_2531 ?_
  refine ws_sld hX hbl hbA (by omega) (by omega) hLs dL_law_2532 ?_
  refine ws_aload_n dL_law_2533 rfl ?_
  refine ws_callSH (k2 := k0 + 42) (n2 := n0 + 1008) (jq_levelledWithout I (inr32 _)) csL_280 dL_law_2534 ⟨Nat.le_of_ble_eq_true rfl, Nat.le_of_ble_eq_true rfl⟩ (Nat.le_of_ble_eq_true rfl) rfl rfl (by omega) (by omega) (fun r h1 N1 q => ?_)
  obtain ⟨c, v, rfl, hc, hv, ⟨fs, hfs⟩, kk9, nn9, hk9, hn9, ct⟩ := q
  change WS G s args Z mL_law _ _ h1 N1 2537 [some (.ref b), some (.ref (cB G)), some (.ref (cB G + 169)), some (.ref (cB G + 281)), some (.ref (cB G + 282)), some (JV i), none, none, none] [JV c]
  refine ws_istore dL_law_2537 (Nat.le_of_ble_eq_true rfl) rfl ?_
  change WS G s args Z mL_law _ _ h1 N1 2539 [some (.ref b), some (.ref (cB G)), some (.ref (cB G + 169)), some (.ref (cB G + 281)), some (.ref (cB G + 282)), some (JV i), some (JV c), none, none] []
  refine ws_aload_n dL_law_2539 rfl ?_
  refine ws_aload_n dL_law_2540 rfl ?_
  refine ws_iload dL_law_2541 rfl ?_
  refine ws_iconst dL_law_2543 ?_
  refine ws_iadd dL_law_2544 ?_
  refine ws_sld hX hbl hbA (by omega) (by omega) hLs dL_law_2545 ?_
  refine ws_callV (k2 := k0) (n2 := n0) ct cvL_282 dL_law_2546 ⟨Nat.le_of_ble_eq_true rfl, Nat.le_of_ble_eq_true rfl⟩ (Nat.le_of_ble_eq_true rfl) hfs rfl rfl rfl rfl (by omega) (by omega) (fun r h2 N2 q => ?_)
  obtain ⟨v', rfl, hvv, I2, o1, o2⟩ := q
  change WS G s args Z mL_law _ _ h2 N2 2549 [some (.ref b), some (.ref (cB G)), some (.ref (cB G + 169)), some (.ref (cB G + 281)), some (.ref (cB G + 282)), some (JV i), some (JV c), none, none] [JV v']
  refine ws_istore dL_law_2549 (Nat.le_of_ble_eq_true rfl) rfl ?_
  change WS G s args Z mL_law _ _ h2 N2 2551 [some (.ref b), some (.ref (cB G)), some (.ref (cB G + 169)), some (.ref (cB G + 281)), some (.ref (cB G + 282)), some (JV i), some (JV c), some (JV v'), none] []
  obtain ⟨fs2, hfs2, ct2⟩ := thr_of I2
  refine ws_aload_n dL_law_2551 rfl ?_
  refine ws_callV (k2 := k0) (n2 := n0) ct2 cvL_139 dL_law_2552 ⟨Nat.le_of_ble_eq_true rfl, Nat.le_of_ble_eq_true rfl⟩ (Nat.le_of_ble_eq_true rfl) hfs2 rfl rfl rfl rfl (by omega) (by omega) (fun r h3 N3 q => ?_)
  obtain ⟨rfl, rfl, rfl⟩ := q
  change WS G s args Z mL_law _ _ h3 N3 2555 [some (.ref b), some (.ref (cB G)), some (.ref (cB G + 169)), some (.ref (cB G + 281)), some (.ref (cB G + 282)), some (JV i), some (JV c), some (JV v'), none] [JV c]
  refine ws_iload dL_law_2555 rfl ?_
  refine ws_icmpS 2562 dL_law_2557 (by decide) ?_
  refine ws_iload dL_law_2562 rfl ?_
  refine ws_if_ne 2579 dL_law_2564 (by decide) ⟨by omega, by omega⟩ (fun c9 => ?_) (fun c9 => ?_)
  · skip
    refine ws_goto 2665 dL_law_2579 (by decide) ?_
    exact ws_back (kk _ _ _ I2)
  · obtain ⟨hbo, o, ho, ho0⟩ := hv c9
    have e := hvv c9
    subst e
    have ho3 := o1.trans ho
    refine ws_aload_n dL_law_2567 rfl ?_
    refine ws_iconst dL_law_2568 ?_
    refine ws_laload dL_law_2569 ho3 (by omega) (by omega) (by omega) ?_
    rw [show (o (0 : Int).toNat : Int64) = (Int32.ofInt v').toInt64 from ho0]
    refine ws_iload dL_law_2570 rfl ?_
    refine ws_i2l dL_law_2572 ?_
    refine ws_lcmpS dL_law_2573 ?_
    refine ws_if0 2579 dL_law_2574 (by decide) ?_
    refine ws_goto 2665 dL_law_2579 (by decide) ?_
    exact ws_back (kk _ _ _ I2)
set_option maxRecDepth 4000 in
theorem K_bestRule (hX : va_X b Ls xs s s.heap) (hbl : b < s.heap.size) (hbA : b < cB G) (hLs : Ls ≤ 2560) (hi : 0 ≤ i ∧ i + 5 ≤ (Ls : Int)) (I : INVt G h N t) (kk : ∀ (h9 : AH) (N9 : Nat) (t9 : Int), INVt G h9 N9 t9 → WS G s args Z mL_law k0 n0 h9 N9 2665 (LLw G b i) []) : WS G s args Z mL_law (k0 + 43) (n0 + 1014) h N 2582 (LLw G b i) [] := by
  refine ws_aload_n dL_law_2582 rfl ?_
  obtain ⟨st9, hs⟩ := cls_of I
  refine ws_callV (k2 := k0 + 42) (n2 := n0 + 1008) (jw_bestRule I) cvL_283 dL_law_2583 ⟨Nat.le_of_ble_eq_true rfl, Nat.le_of_ble_eq_true rfl⟩ (Nat.le_of_ble_eq_true rfl) hs rfl rfl rfl rfl (by omega) (by omega) (fun r h1 N1 q => ?_)
  obtain ⟨v, rfl, ⟨fs, hfs⟩, kk9, nn9, hk9, hn9, ct⟩ := q
  change WS G s args Z mL_law _ _ h1 N1 2586 [some (.ref b), some (.ref (cB G)), some (.ref (cB G + 169)), some (.ref (cB G + 281)), some (.ref (cB G + 282)), some (JV i), none, none, none] [JV v]
  refine ws_aload_n dL_law_2586 rfl ?_
  refine ws_callV (k2 := k0) (n2 := n0) ct cvL_286 dL_law_2587 ⟨Nat.le_of_ble_eq_true rfl, Nat.le_of_ble_eq_true rfl⟩ (Nat.le_of_ble_eq_true rfl) hfs rfl rfl rfl rfl (by omega) (by omega) (fun r h2 N2 q => ?_)
  obtain ⟨rfl, I2, o1, o2⟩ := q
  change WS G s args Z mL_law _ _ h2 N2 2590 [some (.ref b), some (.ref (cB G)), some (.ref (cB G + 169)), some (.ref (cB G + 281)), some (.ref (cB G + 282)), some (JV i), none, none, none] [JV v, JV v]
  refine ws_icmpS 2665 dL_law_2590 (by decide) ?_
  exact kk _ _ _ I2
set_option maxRecDepth 4000 in
theorem K_couldGrow (hX : va_X b Ls xs s s.heap) (hbl : b < s.heap.size) (hbA : b < cB G) (hLs : Ls ≤ 2560) (hi : 0 ≤ i ∧ i + 5 ≤ (Ls : Int)) (I : INVt G h N t) (kk : ∀ (h9 : AH) (N9 : Nat) (t9 : Int), INVt G h9 N9 t9 → WS G s args Z mL_law k0 n0 h9 N9 2665 (LLw G b i) []) : WS G s args Z mL_law (k0 + 43) (n0 + 1014) h N 2595 (LLw G b i) [] := by
  refine ws_aload_n dL_law_2595 rfl ?_
  refine ws_aload_n dL_law_2596 rfl ?_
  refine ws_iload dL_law_2597 rfl ?_
  refine ws_iconst dL_law_2599 ?_
  refine ws_iadd dL_law_2600 ?_
  refine ws_sld hX hbl hbA (by omega) (by omega) hLs dL_law_2601 ?_
  refine ws_aload_n dL_law_2602 rfl ?_
  refine ws_callSH (k2 := k0 + 42) (n2 := n0 + 1008) (jq_couldGrow I (inr32 _)) csL_287 dL_law_2603 ⟨Nat.le_of_ble_eq_true rfl, Nat.le_of_ble_eq_true rfl⟩ (Nat.le_of_ble_eq_true rfl) rfl rfl (by omega) (by omega) (fun r h1 N1 q => ?_)
  obtain ⟨c, v, rfl, hc, hv, ⟨fs, hfs⟩, kk9, nn9, hk9, hn9, ct⟩ := q
  change WS G s args Z mL_law _ _ h1 N1 2606 [some (.ref b), some (.ref (cB G)), some (.ref (cB G + 169)), some (.ref (cB G + 281)), some (.ref (cB G + 282)), some (JV i), none, none, none] [JV c]
  refine ws_istore dL_law_2606 (Nat.le_of_ble_eq_true rfl) rfl ?_
  change WS G s args Z mL_law _ _ h1 N1 2608 [some (.ref b), some (.ref (cB G)), some (.ref (cB G + 169)), some (.ref (cB G + 281)), some (.ref (cB G + 282)), some (JV i), some (JV c), none, none] []
  refine ws_aload_n dL_law_2608 rfl ?_
  refine ws_aload_n dL_law_2609 rfl ?_
  refine ws_iload dL_law_2610 rfl ?_
  refine ws_iconst dL_law_2612 ?_
  refine ws_iadd dL_law_2613 ?_
  refine ws_sld hX hbl hbA (by omega) (by omega) hLs dL_law_2614 ?_
  refine ws_callV (k2 := k0) (n2 := n0) ct cvL_289 dL_law_2615 ⟨Nat.le_of_ble_eq_true rfl, Nat.le_of_ble_eq_true rfl⟩ (Nat.le_of_ble_eq_true rfl) hfs rfl rfl rfl rfl (by omega) (by omega) (fun r h2 N2 q => ?_)
  obtain ⟨v', rfl, hvv, I2, o1, o2⟩ := q
  change WS G s args Z mL_law _ _ h2 N2 2618 [some (.ref b), some (.ref (cB G)), some (.ref (cB G + 169)), some (.ref (cB G + 281)), some (.ref (cB G + 282)), some (JV i), some (JV c), none, none] [JV v']
  refine ws_istore dL_law_2618 (Nat.le_of_ble_eq_true rfl) rfl ?_
  change WS G s args Z mL_law _ _ h2 N2 2620 [some (.ref b), some (.ref (cB G)), some (.ref (cB G + 169)), some (.ref (cB G + 281)), some (.ref (cB G + 282)), some (JV i), some (JV c), some (JV v'), none] []
  obtain ⟨fs2, hfs2, ct2⟩ := thr_of I2
  refine ws_aload_n dL_law_2620 rfl ?_
  refine ws_callV (k2 := k0) (n2 := n0) ct2 cvL_139 dL_law_2621 ⟨Nat.le_of_ble_eq_true rfl, Nat.le_of_ble_eq_true rfl⟩ (Nat.le_of_ble_eq_true rfl) hfs2 rfl rfl rfl rfl (by omega) (by omega) (fun r h3 N3 q => ?_)
  obtain ⟨rfl, rfl, rfl⟩ := q
  change WS G s args Z mL_law _ _ h3 N3 2624 [some (.ref b), some (.ref (cB G)), some (.ref (cB G + 169)), some (.ref (cB G + 281)), some (.ref (cB G + 282)), some (JV i), some (JV c), some (JV v'), none] [JV c]
  refine ws_iload dL_law_2624 rfl ?_
  refine ws_icmpS 2631 dL_law_2626 (by decide) ?_
  refine ws_iload dL_law_2631 rfl ?_
  refine ws_if_ne 2648 dL_law_2633 (by decide) ⟨by omega, by omega⟩ (fun c9 => ?_) (fun c9 => ?_)
  · skip
    refine ws_goto 2665 dL_law_2648 (by decide) ?_
    exact ws_back (kk _ _ _ I2)
  · obtain ⟨hbo, o, ho, ho0⟩ := hv c9
    have e := hvv c9
    subst e
    have ho3 := o1.trans ho
    refine ws_aload_n dL_law_2636 rfl ?_
    refine ws_iconst dL_law_2637 ?_
    refine ws_laload dL_law_2638 ho3 (by omega) (by omega) (by omega) ?_
    rw [show (o (0 : Int).toNat : Int64) = (Int32.ofInt v').toInt64 from ho0]
    refine ws_iload dL_law_2639 rfl ?_
    refine ws_i2l dL_law_2641 ?_
    refine ws_lcmpS dL_law_2642 ?_
    refine ws_if0 2648 dL_law_2643 (by decide) ?_
    refine ws_goto 2665 dL_law_2648 (by decide) ?_
    exact ws_back (kk _ _ _ I2)
set_option maxRecDepth 4000 in
theorem K_digest (hX : va_X b Ls xs s s.heap) (hbl : b < s.heap.size) (hbA : b < cB G) (hLs : Ls ≤ 2560) (hi : 0 ≤ i ∧ i + 5 ≤ (Ls : Int)) (I : INVt G h N t) (kk : ∀ (h9 : AH) (N9 : Nat) (t9 : Int), INVt G h9 N9 t9 → WS G s args Z mL_law k0 n0 h9 N9 2665 (LLw G b i) []) : WS G s args Z mL_law (k0 + 43) (n0 + 1014) h N 2651 (LLw G b i) [] := by
  refine ws_aload_n dL_law_2651 rfl ?_
  obtain ⟨st9, hs⟩ := cls_of I
  refine ws_callV (k2 := k0 + 42) (n2 := n0 + 1008) (jw_digest I) cvL_290 dL_law_2652 ⟨Nat.le_of_ble_eq_true rfl, Nat.le_of_ble_eq_true rfl⟩ (Nat.le_of_ble_eq_true rfl) hs rfl rfl rfl rfl (by omega) (by omega) (fun r h1 N1 q => ?_)
  obtain ⟨v, rfl, ⟨fs, hfs⟩, kk9, nn9, hk9, hn9, ct⟩ := q
  change WS G s args Z mL_law _ _ h1 N1 2655 [some (.ref b), some (.ref (cB G)), some (.ref (cB G + 169)), some (.ref (cB G + 281)), some (.ref (cB G + 282)), some (JV i), none, none, none] [.long v]
  refine ws_aload_n dL_law_2655 rfl ?_
  refine ws_callV (k2 := k0) (n2 := n0) ct cvL_294 dL_law_2656 ⟨Nat.le_of_ble_eq_true rfl, Nat.le_of_ble_eq_true rfl⟩ (Nat.le_of_ble_eq_true rfl) hfs rfl rfl rfl rfl (by omega) (by omega) (fun r h2 N2 q => ?_)
  obtain ⟨rfl, I2, o1, o2⟩ := q
  change WS G s args Z mL_law _ _ h2 N2 2659 [some (.ref b), some (.ref (cB G)), some (.ref (cB G + 169)), some (.ref (cB G + 281)), some (.ref (cB G + 282)), some (JV i), none, none, none] [.long v, .long v]
  refine ws_lcmpS dL_law_2659 ?_
  refine ws_if0 2665 dL_law_2660 (by decide) ?_
  exact kk _ _ _ I2
end Lw
