/-! the law's cases -/
theorem lc_feed {X : Cx} {R : Room} {cn sn : Nat} {Qf : State → Array Value → List Frame → State → Prop} {h : Hp} {S : Nat → Int} {L i : Nat} {σ : Sg} (K : LK X R cn sn S L i) (a : AC h σ) (am : AM h σ) (o : SOK σ) (nx : ∀ (h9 : Hp) (σ9 : Sg), AC h9 σ9 → AM h9 σ9 → SOK σ9 → WG X mL R cn sn Qf 1535 (lvL X i) [] h9) : WG X mL R cn sn Qf 212 (lvL X i) [] h := by
  refine wp_aload_n dL_law_212 rfl ?_
  refine la_arg 1 ⟨rfl, rfl⟩ K dL_law_213 dL_law_214 dL_law_216 dL_law_217 dL_law_218 rfl (by decide) ?_
  refine la_arg 2 ⟨rfl, rfl⟩ K dL_law_219 dL_law_220 dL_law_222 dL_law_223 dL_law_224 rfl (by decide) ?_
  refine la_arg 3 ⟨rfl, rfl⟩ K dL_law_225 dL_law_226 dL_law_228 dL_law_229 dL_law_230 rfl (by decide) ?_
  refine la_arg 4 ⟨rfl, rfl⟩ K dL_law_231 dL_law_232 dL_law_234 dL_law_235 dL_law_236 rfl (by decide) ?_
  refine la_arg 5 ⟨rfl, rfl⟩ K dL_law_237 dL_law_238 dL_law_240 dL_law_241 dL_law_242 rfl (by decide) ?_
  refine wg_callV (ci := 10) dL_law_243 mlL_19 mvX10_feed (S_X10_feed a o) rfl rfl (K.2.2.2.2.2 _ _ (by decide) (by decide)) rfl rfl rfl (Nat.le_of_ble_eq_true rfl) (fun r1 h1 q1 => ?_)
  obtain ⟨rfl, a1, s1⟩ := q1
  have am1 := am.sM s1
  refine wp_aload_n dL_law_246 rfl ?_
  refine la_arg 1 ⟨rfl, rfl⟩ K dL_law_247 dL_law_248 dL_law_250 dL_law_251 dL_law_252 rfl (by decide) ?_
  refine la_arg 2 ⟨rfl, rfl⟩ K dL_law_253 dL_law_254 dL_law_256 dL_law_257 dL_law_258 rfl (by decide) ?_
  refine la_arg 3 ⟨rfl, rfl⟩ K dL_law_259 dL_law_260 dL_law_262 dL_law_263 dL_law_264 rfl (by decide) ?_
  refine la_arg 4 ⟨rfl, rfl⟩ K dL_law_265 dL_law_266 dL_law_268 dL_law_269 dL_law_270 rfl (by decide) ?_
  refine la_arg 5 ⟨rfl, rfl⟩ K dL_law_271 dL_law_272 dL_law_274 dL_law_275 dL_law_276 rfl (by decide) ?_
  refine wg_callV (ci := 11) dL_law_277 mlL_23 mvX11_feed (S_X11_feed am1 o) rfl rfl (K.2.2.2.2.2 _ _ (by decide) (by decide)) rfl rfl rfl (Nat.le_of_ble_eq_true rfl) (fun r2 h2 q2 => ?_)
  obtain ⟨rfl, am2, s2⟩ := q2
  refine wp_eqs 1535 dL_law_280 (by decide) ?_
  exact nx h2 _ (a1.sC (ok_nFeed o _ _ _ _ _) s2) am2 (ok_nFeed o _ _ _ _ _)
theorem lc_end {X : Cx} {R : Room} {cn sn : Nat} {Qf : State → Array Value → List Frame → State → Prop} {h : Hp} {S : Nat → Int} {L i : Nat} {σ : Sg} (K : LK X R cn sn S L i) (a : AC h σ) (am : AM h σ) (o : SOK σ) (nx : ∀ (h9 : Hp) (σ9 : Sg), AC h9 σ9 → AM h9 σ9 → SOK σ9 → WG X mL R cn sn Qf 1535 (lvL X i) [] h9) : WG X mL R cn sn Qf 285 (lvL X i) [] h := by
  refine wp_aload_n dL_law_285 rfl ?_
  refine la_arg 1 ⟨rfl, rfl⟩ K dL_law_286 dL_law_287 dL_law_289 dL_law_290 dL_law_291 rfl (by decide) ?_
  refine wg_callV (ci := 10) dL_law_292 mlL_24 mvX10_end (S_X10_end a o (K.2.2.2.1 _)) rfl rfl (K.2.2.2.2.2 _ _ (by decide) (by decide)) rfl rfl rfl (Nat.le_of_ble_eq_true rfl) (fun r1 h1 q1 => ?_)
  obtain ⟨rfl, a1, s1⟩ := q1
  have am1 := am.sM s1
  refine wp_aload_n dL_law_295 rfl ?_
  refine la_arg 1 ⟨rfl, rfl⟩ K dL_law_296 dL_law_297 dL_law_299 dL_law_300 dL_law_301 rfl (by decide) ?_
  refine wg_callV (ci := 11) dL_law_302 mlL_28 mvX11_end (S_X11_end am1 o (K.2.2.2.1 _)) rfl rfl (K.2.2.2.2.2 _ _ (by decide) (by decide)) rfl rfl rfl (Nat.le_of_ble_eq_true rfl) (fun r2 h2 q2 => ?_)
  obtain ⟨rfl, am2, s2⟩ := q2
  refine wp_eqs 1535 dL_law_305 (by decide) ?_
  exact nx h2 _ (a1.sC (ok_nEnd o _) s2) am2 (ok_nEnd o _)
theorem lc_fault {X : Cx} {R : Room} {cn sn : Nat} {Qf : State → Array Value → List Frame → State → Prop} {h : Hp} {S : Nat → Int} {L i : Nat} {σ : Sg} (K : LK X R cn sn S L i) (a : AC h σ) (am : AM h σ) (o : SOK σ) (nx : ∀ (h9 : Hp) (σ9 : Sg), AC h9 σ9 → AM h9 σ9 → SOK σ9 → WG X mL R cn sn Qf 1535 (lvL X i) [] h9) : WG X mL R cn sn Qf 310 (lvL X i) [] h := by
  refine wp_aload_n dL_law_310 rfl ?_
  refine la_arg 1 ⟨rfl, rfl⟩ K dL_law_311 dL_law_312 dL_law_314 dL_law_315 dL_law_316 rfl (by decide) ?_
  refine wg_callV (ci := 10) dL_law_317 mlL_29 mvX10_fault (S_X10_fault K.2.2.2.2.1 a o (K.2.2.2.1 _)) rfl rfl (K.2.2.2.2.2 _ _ (by decide) (by decide)) rfl rfl rfl (Nat.le_of_ble_eq_true rfl) (fun r1 h1 q1 => ?_)
  obtain ⟨rfl, a1, s1⟩ := q1
  have am1 := am.sM s1
  refine wp_aload_n dL_law_320 rfl ?_
  refine la_arg 1 ⟨rfl, rfl⟩ K dL_law_321 dL_law_322 dL_law_324 dL_law_325 dL_law_326 rfl (by decide) ?_
  refine wg_callV (ci := 11) dL_law_327 mlL_32 mvX11_fault (S_X11_fault am1 o (K.2.2.2.1 _)) rfl rfl (K.2.2.2.2.2 _ _ (by decide) (by decide)) rfl rfl rfl (Nat.le_of_ble_eq_true rfl) (fun r2 h2 q2 => ?_)
  obtain ⟨rfl, am2, s2⟩ := q2
  refine wp_eqs 1535 dL_law_330 (by decide) ?_
  exact nx h2 _ (a1.sC o s2) am2 o
theorem lc_text {X : Cx} {R : Room} {cn sn : Nat} {Qf : State → Array Value → List Frame → State → Prop} {h : Hp} {S : Nat → Int} {L i : Nat} {σ : Sg} (K : LK X R cn sn S L i) (a : AC h σ) (am : AM h σ) (o : SOK σ) (nx : ∀ (h9 : Hp) (σ9 : Sg), AC h9 σ9 → AM h9 σ9 → SOK σ9 → WG X mL R cn sn Qf 1535 (lvL X i) [] h9) : WG X mL R cn sn Qf 335 (lvL X i) [] h := by
  refine wp_aload_n dL_law_335 rfl ?_
  refine la_arg 1 ⟨rfl, rfl⟩ K dL_law_336 dL_law_337 dL_law_339 dL_law_340 dL_law_341 rfl (by decide) ?_
  refine wg_callV (ci := 10) dL_law_342 mlL_33 mvX10_text (S_X10_text K.2.2.2.2.1 a o (K.2.2.2.1 _)) rfl rfl (K.2.2.2.2.2 _ _ (by decide) (by decide)) rfl rfl rfl (Nat.le_of_ble_eq_true rfl) (fun r1 h1 q1 => ?_)
  obtain ⟨rfl, a1, s1⟩ := q1
  have am1 := am.sM s1
  refine wp_aload_n dL_law_345 rfl ?_
  refine la_arg 1 ⟨rfl, rfl⟩ K dL_law_346 dL_law_347 dL_law_349 dL_law_350 dL_law_351 rfl (by decide) ?_
  refine wg_callV (ci := 11) dL_law_352 mlL_36 mvX11_text (S_X11_text am1 o (K.2.2.2.1 _)) rfl rfl (K.2.2.2.2.2 _ _ (by decide) (by decide)) rfl rfl rfl (Nat.le_of_ble_eq_true rfl) (fun r2 h2 q2 => ?_)
  obtain ⟨rfl, am2, s2⟩ := q2
  refine wp_eqs 1535 dL_law_355 (by decide) ?_
  exact nx h2 _ (a1.sC (ok_nText o _) s2) am2 (ok_nText o _)
theorem lc_shorter {X : Cx} {R : Room} {cn sn : Nat} {Qf : State → Array Value → List Frame → State → Prop} {h : Hp} {S : Nat → Int} {L i : Nat} {σ : Sg} (K : LK X R cn sn S L i) (a : AC h σ) (am : AM h σ) (o : SOK σ) (nx : ∀ (h9 : Hp) (σ9 : Sg), AC h9 σ9 → AM h9 σ9 → SOK σ9 → WG X mL R cn sn Qf 1535 (lvL X i) [] h9) : WG X mL R cn sn Qf 416 (lvL X i) [] h := by
  refine wp_aload_n dL_law_416 rfl ?_
  refine la_arg 1 ⟨rfl, rfl⟩ K dL_law_417 dL_law_418 dL_law_420 dL_law_421 dL_law_422 rfl (by decide) ?_
  refine wg_callV (ci := 10) dL_law_423 mlL_47 mvX10_shorter (S_X10_shorter a o (K.2.2.2.1 _)) rfl rfl (K.2.2.2.2.2 _ _ (by decide) (by decide)) rfl rfl rfl (Nat.le_of_ble_eq_true rfl) (fun r1 h1 q1 => ?_)
  obtain ⟨rfl, a1, s1⟩ := q1
  have am1 := am.sM s1
  refine wp_aload_n dL_law_426 rfl ?_
  refine la_arg 1 ⟨rfl, rfl⟩ K dL_law_427 dL_law_428 dL_law_430 dL_law_431 dL_law_432 rfl (by decide) ?_
  refine wg_callV (ci := 11) dL_law_433 mlL_50 mvX11_shorter (S_X11_shorter am1 o (K.2.2.2.1 _)) rfl rfl (K.2.2.2.2.2 _ _ (by decide) (by decide)) rfl rfl rfl (Nat.le_of_ble_eq_true rfl) (fun r2 h2 q2 => ?_)
  obtain ⟨rfl, am2, s2⟩ := q2
  refine wp_eqs 1535 dL_law_436 (by decide) ?_
  exact nx h2 _ (a1.sC o s2) am2 o
theorem lc_card {X : Cx} {R : Room} {cn sn : Nat} {Qf : State → Array Value → List Frame → State → Prop} {h : Hp} {S : Nat → Int} {L i : Nat} {σ : Sg} (K : LK X R cn sn S L i) (a : AC h σ) (am : AM h σ) (o : SOK σ) (nx : ∀ (h9 : Hp) (σ9 : Sg), AC h9 σ9 → AM h9 σ9 → SOK σ9 → WG X mL R cn sn Qf 1535 (lvL X i) [] h9) : WG X mL R cn sn Qf 441 (lvL X i) [] h := by
  refine wp_aload_n dL_law_441 rfl ?_
  refine la_arg 1 ⟨rfl, rfl⟩ K dL_law_442 dL_law_443 dL_law_445 dL_law_446 dL_law_447 rfl (by decide) ?_
  refine la_arg 2 ⟨rfl, rfl⟩ K dL_law_448 dL_law_449 dL_law_451 dL_law_452 dL_law_453 rfl (by decide) ?_
  refine wg_callV (ci := 10) dL_law_454 mlL_51 mvX10_card (S_X10_card a o (K.2.2.2.1 _) (K.2.2.2.1 _)) rfl rfl (K.2.2.2.2.2 _ _ (by decide) (by decide)) rfl rfl rfl (Nat.le_of_ble_eq_true rfl) (fun r1 h1 q1 => ?_)
  obtain ⟨rfl, a1, s1⟩ := q1
  have am1 := am.sM s1
  refine wp_aload_n dL_law_457 rfl ?_
  refine la_arg 1 ⟨rfl, rfl⟩ K dL_law_458 dL_law_459 dL_law_461 dL_law_462 dL_law_463 rfl (by decide) ?_
  refine la_arg 2 ⟨rfl, rfl⟩ K dL_law_464 dL_law_465 dL_law_467 dL_law_468 dL_law_469 rfl (by decide) ?_
  refine wg_callV (ci := 11) dL_law_470 mlL_55 mvX11_card (S_X11_card am1 o (K.2.2.2.1 _) (K.2.2.2.1 _)) rfl rfl (K.2.2.2.2.2 _ _ (by decide) (by decide)) rfl rfl rfl (Nat.le_of_ble_eq_true rfl) (fun r2 h2 q2 => ?_)
  obtain ⟨rfl, am2, s2⟩ := q2
  refine wp_eqs 1535 dL_law_473 (by decide) ?_
  exact nx h2 _ (a1.sC o s2) am2 o
theorem lc_wish {X : Cx} {R : Room} {cn sn : Nat} {Qf : State → Array Value → List Frame → State → Prop} {h : Hp} {S : Nat → Int} {L i : Nat} {σ : Sg} (K : LK X R cn sn S L i) (a : AC h σ) (am : AM h σ) (o : SOK σ) (nx : ∀ (h9 : Hp) (σ9 : Sg), AC h9 σ9 → AM h9 σ9 → SOK σ9 → WG X mL R cn sn Qf 1535 (lvL X i) [] h9) : WG X mL R cn sn Qf 478 (lvL X i) [] h := by
  refine wp_aload_n dL_law_478 rfl ?_
  refine la_arg 1 ⟨rfl, rfl⟩ K dL_law_479 dL_law_480 dL_law_482 dL_law_483 dL_law_484 rfl (by decide) ?_
  refine wg_callV (ci := 10) dL_law_485 mlL_56 mvX10_wish (S_X10_wish a o (K.2.2.2.1 _)) rfl rfl (K.2.2.2.2.2 _ _ (by decide) (by decide)) rfl rfl rfl (Nat.le_of_ble_eq_true rfl) (fun r1 h1 q1 => ?_)
  obtain ⟨rfl, a1, s1⟩ := q1
  have am1 := am.sM s1
  refine wp_aload_n dL_law_488 rfl ?_
  refine la_arg 1 ⟨rfl, rfl⟩ K dL_law_489 dL_law_490 dL_law_492 dL_law_493 dL_law_494 rfl (by decide) ?_
  refine wg_callV (ci := 11) dL_law_495 mlL_59 mvX11_wish (S_X11_wish am1 o (K.2.2.2.1 _)) rfl rfl (K.2.2.2.2.2 _ _ (by decide) (by decide)) rfl rfl rfl (Nat.le_of_ble_eq_true rfl) (fun r2 h2 q2 => ?_)
  obtain ⟨rfl, am2, s2⟩ := q2
  refine wp_eqs 1535 dL_law_498 (by decide) ?_
  exact nx h2 _ (a1.sC (ok_nWish o _) s2) am2 (ok_nWish o _)
theorem lc_gap {X : Cx} {R : Room} {cn sn : Nat} {Qf : State → Array Value → List Frame → State → Prop} {h : Hp} {S : Nat → Int} {L i : Nat} {σ : Sg} (K : LK X R cn sn S L i) (a : AC h σ) (am : AM h σ) (o : SOK σ) (nx : ∀ (h9 : Hp) (σ9 : Sg), AC h9 σ9 → AM h9 σ9 → SOK σ9 → WG X mL R cn sn Qf 1535 (lvL X i) [] h9) : WG X mL R cn sn Qf 503 (lvL X i) [] h := by
  refine wp_aload_n dL_law_503 rfl ?_
  refine la_arg 1 ⟨rfl, rfl⟩ K dL_law_504 dL_law_505 dL_law_507 dL_law_508 dL_law_509 rfl (by decide) ?_
  refine wg_callV (ci := 10) dL_law_510 mlL_60 mvX10_gap (S_X10_gap a o (K.2.2.2.1 _)) rfl rfl (K.2.2.2.2.2 _ _ (by decide) (by decide)) rfl rfl rfl (Nat.le_of_ble_eq_true rfl) (fun r1 h1 q1 => ?_)
  obtain ⟨rfl, a1, s1⟩ := q1
  have am1 := am.sM s1
  refine wp_aload_n dL_law_513 rfl ?_
  refine la_arg 1 ⟨rfl, rfl⟩ K dL_law_514 dL_law_515 dL_law_517 dL_law_518 dL_law_519 rfl (by decide) ?_
  refine wg_callV (ci := 11) dL_law_520 mlL_63 mvX11_gap (S_X11_gap am1 o (K.2.2.2.1 _)) rfl rfl (K.2.2.2.2.2 _ _ (by decide) (by decide)) rfl rfl rfl (Nat.le_of_ble_eq_true rfl) (fun r2 h2 q2 => ?_)
  obtain ⟨rfl, am2, s2⟩ := q2
  refine wp_eqs 1535 dL_law_523 (by decide) ?_
  exact nx h2 _ (a1.sC o s2) am2 o
theorem lc_tilt {X : Cx} {R : Room} {cn sn : Nat} {Qf : State → Array Value → List Frame → State → Prop} {h : Hp} {S : Nat → Int} {L i : Nat} {σ : Sg} (K : LK X R cn sn S L i) (a : AC h σ) (am : AM h σ) (o : SOK σ) (nx : ∀ (h9 : Hp) (σ9 : Sg), AC h9 σ9 → AM h9 σ9 → SOK σ9 → WG X mL R cn sn Qf 1535 (lvL X i) [] h9) : WG X mL R cn sn Qf 528 (lvL X i) [] h := by
  refine wp_aload_n dL_law_528 rfl ?_
  refine la_arg 1 ⟨rfl, rfl⟩ K dL_law_529 dL_law_530 dL_law_532 dL_law_533 dL_law_534 rfl (by decide) ?_
  refine wg_callV (ci := 10) dL_law_535 mlL_64 mvX10_tilt (S_X10_tilt a o (K.2.2.2.1 _)) rfl rfl (K.2.2.2.2.2 _ _ (by decide) (by decide)) rfl rfl rfl (Nat.le_of_ble_eq_true rfl) (fun r1 h1 q1 => ?_)
  obtain ⟨rfl, a1, s1⟩ := q1
  have am1 := am.sM s1
  refine wp_aload_n dL_law_538 rfl ?_
  refine la_arg 1 ⟨rfl, rfl⟩ K dL_law_539 dL_law_540 dL_law_542 dL_law_543 dL_law_544 rfl (by decide) ?_
  refine wg_callV (ci := 11) dL_law_545 mlL_67 mvX11_tilt (S_X11_tilt am1 o (K.2.2.2.1 _)) rfl rfl (K.2.2.2.2.2 _ _ (by decide) (by decide)) rfl rfl rfl (Nat.le_of_ble_eq_true rfl) (fun r2 h2 q2 => ?_)
  obtain ⟨rfl, am2, s2⟩ := q2
  refine wp_eqs 1535 dL_law_548 (by decide) ?_
  exact nx h2 _ (a1.sC o s2) am2 o
theorem lc_stands {X : Cx} {R : Room} {cn sn : Nat} {Qf : State → Array Value → List Frame → State → Prop} {h : Hp} {S : Nat → Int} {L i : Nat} {σ : Sg} (K : LK X R cn sn S L i) (a : AC h σ) (am : AM h σ) (o : SOK σ) (nx : ∀ (h9 : Hp) (σ9 : Sg), AC h9 σ9 → AM h9 σ9 → SOK σ9 → WG X mL R cn sn Qf 1535 (lvL X i) [] h9) : WG X mL R cn sn Qf 553 (lvL X i) [] h := by
  refine wp_aload_n dL_law_553 rfl ?_
  refine la_arg 1 ⟨rfl, rfl⟩ K dL_law_554 dL_law_555 dL_law_557 dL_law_558 dL_law_559 rfl (by decide) ?_
  refine la_arg 2 ⟨rfl, rfl⟩ K dL_law_560 dL_law_561 dL_law_563 dL_law_564 dL_law_565 rfl (by decide) ?_
  refine wg_callV (ci := 10) dL_law_566 mlL_68 mvX10_stands (S_X10_stands a o (K.2.2.2.1 _) (K.2.2.2.1 _)) rfl rfl (K.2.2.2.2.2 _ _ (by decide) (by decide)) rfl rfl rfl (Nat.le_of_ble_eq_true rfl) (fun r1 h1 q1 => ?_)
  obtain ⟨rfl, a1, s1⟩ := q1
  have am1 := am.sM s1
  refine wp_aload_n dL_law_569 rfl ?_
  refine la_arg 1 ⟨rfl, rfl⟩ K dL_law_570 dL_law_571 dL_law_573 dL_law_574 dL_law_575 rfl (by decide) ?_
  refine la_arg 2 ⟨rfl, rfl⟩ K dL_law_576 dL_law_577 dL_law_579 dL_law_580 dL_law_581 rfl (by decide) ?_
  refine wg_callV (ci := 11) dL_law_582 mlL_71 mvX11_stands (S_X11_stands am1 o (K.2.2.2.1 _) (K.2.2.2.1 _)) rfl rfl (K.2.2.2.2.2 _ _ (by decide) (by decide)) rfl rfl rfl (Nat.le_of_ble_eq_true rfl) (fun r2 h2 q2 => ?_)
  obtain ⟨rfl, am2, s2⟩ := q2
  refine wp_eqs 1535 dL_law_585 (by decide) ?_
  exact nx h2 _ (a1.sC o s2) am2 o
theorem lc_level {X : Cx} {R : Room} {cn sn : Nat} {Qf : State → Array Value → List Frame → State → Prop} {h : Hp} {S : Nat → Int} {L i : Nat} {σ : Sg} (K : LK X R cn sn S L i) (a : AC h σ) (am : AM h σ) (o : SOK σ) (nx : ∀ (h9 : Hp) (σ9 : Sg), AC h9 σ9 → AM h9 σ9 → SOK σ9 → WG X mL R cn sn Qf 1535 (lvL X i) [] h9) : WG X mL R cn sn Qf 590 (lvL X i) [] h := by
  refine wp_aload_n dL_law_590 rfl ?_
  refine la_arg 1 ⟨rfl, rfl⟩ K dL_law_591 dL_law_592 dL_law_594 dL_law_595 dL_law_596 rfl (by decide) ?_
  refine wg_callV (ci := 10) dL_law_597 mlL_72 mvX10_level (S_X10_level a o (K.2.2.2.1 _)) rfl rfl (K.2.2.2.2.2 _ _ (by decide) (by decide)) rfl rfl rfl (Nat.le_of_ble_eq_true rfl) (fun r1 h1 q1 => ?_)
  obtain ⟨rfl, a1, s1⟩ := q1
  have am1 := am.sM s1
  refine wp_aload_n dL_law_600 rfl ?_
  refine la_arg 1 ⟨rfl, rfl⟩ K dL_law_601 dL_law_602 dL_law_604 dL_law_605 dL_law_606 rfl (by decide) ?_
  refine wg_callV (ci := 11) dL_law_607 mlL_76 mvX11_level (S_X11_level am1 o (K.2.2.2.1 _)) rfl rfl (K.2.2.2.2.2 _ _ (by decide) (by decide)) rfl rfl rfl (Nat.le_of_ble_eq_true rfl) (fun r2 h2 q2 => ?_)
  obtain ⟨rfl, am2, s2⟩ := q2
  refine wp_lcmps dL_law_610 ?_
  refine wp_ifeq 1535 dL_law_611 (by decide) inR_0 (fun _ => ?_) (fun q => absurd rfl q)
  exact nx h2 _ (a1.sC o s2) am2 o
theorem lc_within {X : Cx} {R : Room} {cn sn : Nat} {Qf : State → Array Value → List Frame → State → Prop} {h : Hp} {S : Nat → Int} {L i : Nat} {σ : Sg} (K : LK X R cn sn S L i) (a : AC h σ) (am : AM h σ) (o : SOK σ) (nx : ∀ (h9 : Hp) (σ9 : Sg), AC h9 σ9 → AM h9 σ9 → SOK σ9 → WG X mL R cn sn Qf 1535 (lvL X i) [] h9) : WG X mL R cn sn Qf 616 (lvL X i) [] h := by
  refine wp_aload_n dL_law_616 rfl ?_
  refine la_arg 1 ⟨rfl, rfl⟩ K dL_law_617 dL_law_618 dL_law_620 dL_law_621 dL_law_622 rfl (by decide) ?_
  refine la_arg 2 ⟨rfl, rfl⟩ K dL_law_623 dL_law_624 dL_law_626 dL_law_627 dL_law_628 rfl (by decide) ?_
  refine la_arg 3 ⟨rfl, rfl⟩ K dL_law_629 dL_law_630 dL_law_632 dL_law_633 dL_law_634 rfl (by decide) ?_
  refine wg_callV (ci := 10) dL_law_635 mlL_77 mvX10_within (S_X10_within a o (K.2.2.2.1 _) (K.2.2.2.1 _) (K.2.2.2.1 _)) rfl rfl (K.2.2.2.2.2 _ _ (by decide) (by decide)) rfl rfl rfl (Nat.le_of_ble_eq_true rfl) (fun r1 h1 q1 => ?_)
  obtain ⟨rfl, a1, s1⟩ := q1
  have am1 := am.sM s1
  refine wp_aload_n dL_law_638 rfl ?_
  refine la_arg 1 ⟨rfl, rfl⟩ K dL_law_639 dL_law_640 dL_law_642 dL_law_643 dL_law_644 rfl (by decide) ?_
  refine la_arg 2 ⟨rfl, rfl⟩ K dL_law_645 dL_law_646 dL_law_648 dL_law_649 dL_law_650 rfl (by decide) ?_
  refine la_arg 3 ⟨rfl, rfl⟩ K dL_law_651 dL_law_652 dL_law_654 dL_law_655 dL_law_656 rfl (by decide) ?_
  refine wg_callV (ci := 11) dL_law_657 mlL_81 mvX11_within_ (S_ref_within am1 o (K.2.2.2.1 _) (K.2.2.2.1 _) (K.2.2.2.1 _)) rfl rfl (K.2.2.2.2.2 _ _ (by decide) (by decide)) rfl rfl rfl (Nat.le_of_ble_eq_true rfl) (fun r2 h2 q2 => ?_)
  obtain ⟨rfl, am2, s2⟩ := q2
  refine wp_eqs 1535 dL_law_660 (by decide) ?_
  exact nx h2 _ (a1.sC o s2) am2 o
theorem lc_best {X : Cx} {R : Room} {cn sn : Nat} {Qf : State → Array Value → List Frame → State → Prop} {h : Hp} {S : Nat → Int} {L i : Nat} {σ : Sg} (K : LK X R cn sn S L i) (a : AC h σ) (am : AM h σ) (o : SOK σ) (nx : ∀ (h9 : Hp) (σ9 : Sg), AC h9 σ9 → AM h9 σ9 → SOK σ9 → WG X mL R cn sn Qf 1535 (lvL X i) [] h9) : WG X mL R cn sn Qf 665 (lvL X i) [] h := by
  refine wp_aload_n dL_law_665 rfl ?_
  refine la_arg 1 ⟨rfl, rfl⟩ K dL_law_666 dL_law_667 dL_law_669 dL_law_670 dL_law_671 rfl (by decide) ?_
  refine wg_callV (ci := 10) dL_law_672 mlL_82 mvX10_best (S_X10_best a o (K.2.2.2.1 _)) rfl rfl (K.2.2.2.2.2 _ _ (by decide) (by decide)) rfl rfl rfl (Nat.le_of_ble_eq_true rfl) (fun r1 h1 q1 => ?_)
  obtain ⟨rfl, a1, s1⟩ := q1
  have am1 := am.sM s1
  refine wp_aload_n dL_law_675 rfl ?_
  refine la_arg 1 ⟨rfl, rfl⟩ K dL_law_676 dL_law_677 dL_law_679 dL_law_680 dL_law_681 rfl (by decide) ?_
  refine wg_callV (ci := 11) dL_law_682 mlL_85 mvX11_best (S_X11_best am1 o (K.2.2.2.1 _)) rfl rfl (K.2.2.2.2.2 _ _ (by decide) (by decide)) rfl rfl rfl (Nat.le_of_ble_eq_true rfl) (fun r2 h2 q2 => ?_)
  obtain ⟨rfl, am2, s2⟩ := q2
  refine wp_eqs 1535 dL_law_685 (by decide) ?_
  exact nx h2 _ (a1.sC o s2) am2 o
theorem lc_sawn {X : Cx} {R : Room} {cn sn : Nat} {Qf : State → Array Value → List Frame → State → Prop} {h : Hp} {S : Nat → Int} {L i : Nat} {σ : Sg} (K : LK X R cn sn S L i) (a : AC h σ) (am : AM h σ) (o : SOK σ) (nx : ∀ (h9 : Hp) (σ9 : Sg), AC h9 σ9 → AM h9 σ9 → SOK σ9 → WG X mL R cn sn Qf 1535 (lvL X i) [] h9) : WG X mL R cn sn Qf 690 (lvL X i) [] h := by
  refine wp_aload_n dL_law_690 rfl ?_
  refine la_arg 1 ⟨rfl, rfl⟩ K dL_law_691 dL_law_692 dL_law_694 dL_law_695 dL_law_696 rfl (by decide) ?_
  refine la_arg 2 ⟨rfl, rfl⟩ K dL_law_697 dL_law_698 dL_law_700 dL_law_701 dL_law_702 rfl (by decide) ?_
  refine wg_callV (ci := 10) dL_law_703 mlL_86 mvX10_sawn (S_X10_sawn a o (K.2.2.2.1 _) (K.2.2.2.1 _)) rfl rfl (K.2.2.2.2.2 _ _ (by decide) (by decide)) rfl rfl rfl (Nat.le_of_ble_eq_true rfl) (fun r1 h1 q1 => ?_)
  obtain ⟨rfl, a1, s1⟩ := q1
  have am1 := am.sM s1
  refine wp_aload_n dL_law_706 rfl ?_
  refine la_arg 1 ⟨rfl, rfl⟩ K dL_law_707 dL_law_708 dL_law_710 dL_law_711 dL_law_712 rfl (by decide) ?_
  refine la_arg 2 ⟨rfl, rfl⟩ K dL_law_713 dL_law_714 dL_law_716 dL_law_717 dL_law_718 rfl (by decide) ?_
  refine wg_callV (ci := 11) dL_law_719 mlL_89 mvX11_sawn (S_X11_sawn am1 o (K.2.2.2.1 _) (K.2.2.2.1 _)) rfl rfl (K.2.2.2.2.2 _ _ (by decide) (by decide)) rfl rfl rfl (Nat.le_of_ble_eq_true rfl) (fun r2 h2 q2 => ?_)
  obtain ⟨rfl, am2, s2⟩ := q2
  refine wp_eqs 1535 dL_law_722 (by decide) ?_
  exact nx h2 _ (a1.sC o s2) am2 o
theorem lc_less {X : Cx} {R : Room} {cn sn : Nat} {Qf : State → Array Value → List Frame → State → Prop} {h : Hp} {S : Nat → Int} {L i : Nat} {σ : Sg} (K : LK X R cn sn S L i) (a : AC h σ) (am : AM h σ) (o : SOK σ) (nx : ∀ (h9 : Hp) (σ9 : Sg), AC h9 σ9 → AM h9 σ9 → SOK σ9 → WG X mL R cn sn Qf 1535 (lvL X i) [] h9) : WG X mL R cn sn Qf 727 (lvL X i) [] h := by
  refine wp_aload_n dL_law_727 rfl ?_
  refine wg_callV (ci := 10) dL_law_728 mlL_90 mvX10_less (S_X10_less a o) rfl rfl (K.2.2.2.2.2 _ _ (by decide) (by decide)) rfl rfl rfl (Nat.le_of_ble_eq_true rfl) (fun r1 h1 q1 => ?_)
  obtain ⟨rfl, a1, s1⟩ := q1
  have am1 := am.sM s1
  refine wp_aload_n dL_law_731 rfl ?_
  refine wg_callV (ci := 11) dL_law_732 mlL_93 mvX11_less (S_X11_less am1 o) rfl rfl (K.2.2.2.2.2 _ _ (by decide) (by decide)) rfl rfl rfl (Nat.le_of_ble_eq_true rfl) (fun r2 h2 q2 => ?_)
  obtain ⟨rfl, am2, s2⟩ := q2
  refine wp_eqs 1535 dL_law_735 (by decide) ?_
  exact nx h2 _ (a1.sC o s2) am2 o
theorem lc_wedges {X : Cx} {R : Room} {cn sn : Nat} {Qf : State → Array Value → List Frame → State → Prop} {h : Hp} {S : Nat → Int} {L i : Nat} {σ : Sg} (K : LK X R cn sn S L i) (a : AC h σ) (am : AM h σ) (o : SOK σ) (nx : ∀ (h9 : Hp) (σ9 : Sg), AC h9 σ9 → AM h9 σ9 → SOK σ9 → WG X mL R cn sn Qf 1535 (lvL X i) [] h9) : WG X mL R cn sn Qf 740 (lvL X i) [] h := by
  refine wp_aload_n dL_law_740 rfl ?_
  refine la_arg 1 ⟨rfl, rfl⟩ K dL_law_741 dL_law_742 dL_law_744 dL_law_745 dL_law_746 rfl (by decide) ?_
  refine la_arg 2 ⟨rfl, rfl⟩ K dL_law_747 dL_law_748 dL_law_750 dL_law_751 dL_law_752 rfl (by decide) ?_
  refine wg_callV (ci := 10) dL_law_753 mlL_94 mvX10_wedges (S_X10_wedges a o (K.2.2.2.1 _) (K.2.2.2.1 _)) rfl rfl (K.2.2.2.2.2 _ _ (by decide) (by decide)) rfl rfl rfl (Nat.le_of_ble_eq_true rfl) (fun r1 h1 q1 => ?_)
  obtain ⟨rfl, a1, s1⟩ := q1
  have am1 := am.sM s1
  refine wp_aload_n dL_law_756 rfl ?_
  refine la_arg 1 ⟨rfl, rfl⟩ K dL_law_757 dL_law_758 dL_law_760 dL_law_761 dL_law_762 rfl (by decide) ?_
  refine la_arg 2 ⟨rfl, rfl⟩ K dL_law_763 dL_law_764 dL_law_766 dL_law_767 dL_law_768 rfl (by decide) ?_
  refine wg_callV (ci := 11) dL_law_769 mlL_97 mvX11_wedges (S_X11_wedges am1 o (K.2.2.2.1 _) (K.2.2.2.1 _)) rfl rfl (K.2.2.2.2.2 _ _ (by decide) (by decide)) rfl rfl rfl (Nat.le_of_ble_eq_true rfl) (fun r2 h2 q2 => ?_)
  obtain ⟨rfl, am2, s2⟩ := q2
  refine wp_eqs 1535 dL_law_772 (by decide) ?_
  exact nx h2 _ (a1.sC o s2) am2 o
theorem lc_rock {X : Cx} {R : Room} {cn sn : Nat} {Qf : State → Array Value → List Frame → State → Prop} {h : Hp} {S : Nat → Int} {L i : Nat} {σ : Sg} (K : LK X R cn sn S L i) (a : AC h σ) (am : AM h σ) (o : SOK σ) (nx : ∀ (h9 : Hp) (σ9 : Sg), AC h9 σ9 → AM h9 σ9 → SOK σ9 → WG X mL R cn sn Qf 1535 (lvL X i) [] h9) : WG X mL R cn sn Qf 777 (lvL X i) [] h := by
  refine wp_aload_n dL_law_777 rfl ?_
  refine la_arg 1 ⟨rfl, rfl⟩ K dL_law_778 dL_law_779 dL_law_781 dL_law_782 dL_law_783 rfl (by decide) ?_
  refine la_arg 2 ⟨rfl, rfl⟩ K dL_law_784 dL_law_785 dL_law_787 dL_law_788 dL_law_789 rfl (by decide) ?_
  refine wg_callV (ci := 10) dL_law_790 mlL_98 mvX10_rock (S_X10_rock a o (K.2.2.2.1 _) (K.2.2.2.1 _)) rfl rfl (K.2.2.2.2.2 _ _ (by decide) (by decide)) rfl rfl rfl (Nat.le_of_ble_eq_true rfl) (fun r1 h1 q1 => ?_)
  obtain ⟨rfl, a1, s1⟩ := q1
  have am1 := am.sM s1
  refine wp_aload_n dL_law_793 rfl ?_
  refine la_arg 1 ⟨rfl, rfl⟩ K dL_law_794 dL_law_795 dL_law_797 dL_law_798 dL_law_799 rfl (by decide) ?_
  refine la_arg 2 ⟨rfl, rfl⟩ K dL_law_800 dL_law_801 dL_law_803 dL_law_804 dL_law_805 rfl (by decide) ?_
  refine wg_callV (ci := 11) dL_law_806 mlL_101 mvX11_rock (S_X11_rock am1 o (K.2.2.2.1 _) (K.2.2.2.1 _)) rfl rfl (K.2.2.2.2.2 _ _ (by decide) (by decide)) rfl rfl rfl (Nat.le_of_ble_eq_true rfl) (fun r2 h2 q2 => ?_)
  obtain ⟨rfl, am2, s2⟩ := q2
  refine wp_eqs 1535 dL_law_809 (by decide) ?_
  exact nx h2 _ (a1.sC (ok_nRock o _ _) s2) am2 (ok_nRock o _ _)
theorem lc_shorts {X : Cx} {R : Room} {cn sn : Nat} {Qf : State → Array Value → List Frame → State → Prop} {h : Hp} {S : Nat → Int} {L i : Nat} {σ : Sg} (K : LK X R cn sn S L i) (a : AC h σ) (am : AM h σ) (o : SOK σ) (nx : ∀ (h9 : Hp) (σ9 : Sg), AC h9 σ9 → AM h9 σ9 → SOK σ9 → WG X mL R cn sn Qf 1535 (lvL X i) [] h9) : WG X mL R cn sn Qf 814 (lvL X i) [] h := by
  refine wp_aload_n dL_law_814 rfl ?_
  refine la_arg 1 ⟨rfl, rfl⟩ K dL_law_815 dL_law_816 dL_law_818 dL_law_819 dL_law_820 rfl (by decide) ?_
  refine la_arg 2 ⟨rfl, rfl⟩ K dL_law_821 dL_law_822 dL_law_824 dL_law_825 dL_law_826 rfl (by decide) ?_
  refine wg_callV (ci := 10) dL_law_827 mlL_102 mvX10_shorts (S_X10_shorts a o (K.2.2.2.1 _) (K.2.2.2.1 _)) rfl rfl (K.2.2.2.2.2 _ _ (by decide) (by decide)) rfl rfl rfl (Nat.le_of_ble_eq_true rfl) (fun r1 h1 q1 => ?_)
  obtain ⟨rfl, a1, s1⟩ := q1
  have am1 := am.sM s1
  refine wp_aload_n dL_law_830 rfl ?_
  refine la_arg 1 ⟨rfl, rfl⟩ K dL_law_831 dL_law_832 dL_law_834 dL_law_835 dL_law_836 rfl (by decide) ?_
  refine la_arg 2 ⟨rfl, rfl⟩ K dL_law_837 dL_law_838 dL_law_840 dL_law_841 dL_law_842 rfl (by decide) ?_
  refine wg_callV (ci := 11) dL_law_843 mlL_105 mvX11_shorts (S_X11_shorts am1 o (K.2.2.2.1 _) (K.2.2.2.1 _)) rfl rfl (K.2.2.2.2.2 _ _ (by decide) (by decide)) rfl rfl rfl (Nat.le_of_ble_eq_true rfl) (fun r2 h2 q2 => ?_)
  obtain ⟨rfl, am2, s2⟩ := q2
  refine wp_eqs 1535 dL_law_846 (by decide) ?_
  exact nx h2 _ (a1.sC o s2) am2 o
theorem lc_heights {X : Cx} {R : Room} {cn sn : Nat} {Qf : State → Array Value → List Frame → State → Prop} {h : Hp} {S : Nat → Int} {L i : Nat} {σ : Sg} (K : LK X R cn sn S L i) (a : AC h σ) (am : AM h σ) (o : SOK σ) (nx : ∀ (h9 : Hp) (σ9 : Sg), AC h9 σ9 → AM h9 σ9 → SOK σ9 → WG X mL R cn sn Qf 1535 (lvL X i) [] h9) : WG X mL R cn sn Qf 851 (lvL X i) [] h := by
  refine wp_aload_n dL_law_851 rfl ?_
  refine la_arg 1 ⟨rfl, rfl⟩ K dL_law_852 dL_law_853 dL_law_855 dL_law_856 dL_law_857 rfl (by decide) ?_
  refine la_arg 2 ⟨rfl, rfl⟩ K dL_law_858 dL_law_859 dL_law_861 dL_law_862 dL_law_863 rfl (by decide) ?_
  refine wg_callV (ci := 10) dL_law_864 mlL_106 mvX10_heights (S_X10_heights a o (K.2.2.2.1 _) (K.2.2.2.1 _)) rfl rfl (K.2.2.2.2.2 _ _ (by decide) (by decide)) rfl rfl rfl (Nat.le_of_ble_eq_true rfl) (fun r1 h1 q1 => ?_)
  obtain ⟨rfl, a1, s1⟩ := q1
  have am1 := am.sM s1
  refine wp_aload_n dL_law_867 rfl ?_
  refine la_arg 1 ⟨rfl, rfl⟩ K dL_law_868 dL_law_869 dL_law_871 dL_law_872 dL_law_873 rfl (by decide) ?_
  refine la_arg 2 ⟨rfl, rfl⟩ K dL_law_874 dL_law_875 dL_law_877 dL_law_878 dL_law_879 rfl (by decide) ?_
  refine wg_callV (ci := 11) dL_law_880 mlL_109 mvX11_heights (S_X11_heights am1 o (K.2.2.2.1 _) (K.2.2.2.1 _)) rfl rfl (K.2.2.2.2.2 _ _ (by decide) (by decide)) rfl rfl rfl (Nat.le_of_ble_eq_true rfl) (fun r2 h2 q2 => ?_)
  obtain ⟨rfl, am2, s2⟩ := q2
  refine wp_eqs 1535 dL_law_883 (by decide) ?_
  exact nx h2 _ (a1.sC o s2) am2 o
theorem lc_angles {X : Cx} {R : Room} {cn sn : Nat} {Qf : State → Array Value → List Frame → State → Prop} {h : Hp} {S : Nat → Int} {L i : Nat} {σ : Sg} (K : LK X R cn sn S L i) (a : AC h σ) (am : AM h σ) (o : SOK σ) (nx : ∀ (h9 : Hp) (σ9 : Sg), AC h9 σ9 → AM h9 σ9 → SOK σ9 → WG X mL R cn sn Qf 1535 (lvL X i) [] h9) : WG X mL R cn sn Qf 888 (lvL X i) [] h := by
  refine wp_aload_n dL_law_888 rfl ?_
  refine wg_callV (ci := 10) dL_law_889 mlL_110 mvX10_angles (S_X10_angles a o) rfl rfl (K.2.2.2.2.2 _ _ (by decide) (by decide)) rfl rfl rfl (Nat.le_of_ble_eq_true rfl) (fun r1 h1 q1 => ?_)
  obtain ⟨rfl, a1, s1⟩ := q1
  have am1 := am.sM s1
  refine wp_aload_n dL_law_892 rfl ?_
  refine wg_callV (ci := 11) dL_law_893 mlL_113 mvX11_angles (S_X11_angles am1 o) rfl rfl (K.2.2.2.2.2 _ _ (by decide) (by decide)) rfl rfl rfl (Nat.le_of_ble_eq_true rfl) (fun r2 h2 q2 => ?_)
  obtain ⟨rfl, am2, s2⟩ := q2
  refine wp_eqs 1535 dL_law_896 (by decide) ?_
  exact nx h2 _ (a1.sC o s2) am2 o
theorem lc_steady {X : Cx} {R : Room} {cn sn : Nat} {Qf : State → Array Value → List Frame → State → Prop} {h : Hp} {S : Nat → Int} {L i : Nat} {σ : Sg} (K : LK X R cn sn S L i) (a : AC h σ) (am : AM h σ) (o : SOK σ) (nx : ∀ (h9 : Hp) (σ9 : Sg), AC h9 σ9 → AM h9 σ9 → SOK σ9 → WG X mL R cn sn Qf 1535 (lvL X i) [] h9) : WG X mL R cn sn Qf 901 (lvL X i) [] h := by
  refine wp_aload_n dL_law_901 rfl ?_
  refine la_arg 1 ⟨rfl, rfl⟩ K dL_law_902 dL_law_903 dL_law_905 dL_law_906 dL_law_907 rfl (by decide) ?_
  refine wg_callV (ci := 10) dL_law_908 mlL_114 mvX10_steady (S_X10_steady a o (K.2.2.2.1 _)) rfl rfl (K.2.2.2.2.2 _ _ (by decide) (by decide)) rfl rfl rfl (Nat.le_of_ble_eq_true rfl) (fun r1 h1 q1 => ?_)
  obtain ⟨rfl, a1, s1⟩ := q1
  have am1 := am.sM s1
  refine wp_aload_n dL_law_911 rfl ?_
  refine la_arg 1 ⟨rfl, rfl⟩ K dL_law_912 dL_law_913 dL_law_915 dL_law_916 dL_law_917 rfl (by decide) ?_
  refine wg_callV (ci := 11) dL_law_918 mlL_117 mvX11_steady (S_X11_steady am1 o (K.2.2.2.1 _)) rfl rfl (K.2.2.2.2.2 _ _ (by decide) (by decide)) rfl rfl rfl (Nat.le_of_ble_eq_true rfl) (fun r2 h2 q2 => ?_)
  obtain ⟨rfl, am2, s2⟩ := q2
  refine wp_eqs 1535 dL_law_921 (by decide) ?_
  exact nx h2 _ (a1.sC o s2) am2 o
theorem lc_likely {X : Cx} {R : Room} {cn sn : Nat} {Qf : State → Array Value → List Frame → State → Prop} {h : Hp} {S : Nat → Int} {L i : Nat} {σ : Sg} (K : LK X R cn sn S L i) (a : AC h σ) (am : AM h σ) (o : SOK σ) (nx : ∀ (h9 : Hp) (σ9 : Sg), AC h9 σ9 → AM h9 σ9 → SOK σ9 → WG X mL R cn sn Qf 1535 (lvL X i) [] h9) : WG X mL R cn sn Qf 926 (lvL X i) [] h := by
  refine wp_aload_n dL_law_926 rfl ?_
  refine la_arg 1 ⟨rfl, rfl⟩ K dL_law_927 dL_law_928 dL_law_930 dL_law_931 dL_law_932 rfl (by decide) ?_
  refine la_arg 2 ⟨rfl, rfl⟩ K dL_law_933 dL_law_934 dL_law_936 dL_law_937 dL_law_938 rfl (by decide) ?_
  refine la_arg 3 ⟨rfl, rfl⟩ K dL_law_939 dL_law_940 dL_law_942 dL_law_943 dL_law_944 rfl (by decide) ?_
  refine wg_callV (ci := 10) dL_law_945 mlL_118 mvX10_likely (S_X10_likely a o (K.2.2.2.1 _) (K.2.2.2.1 _) (K.2.2.2.1 _)) rfl rfl (K.2.2.2.2.2 _ _ (by decide) (by decide)) rfl rfl rfl (Nat.le_of_ble_eq_true rfl) (fun r1 h1 q1 => ?_)
  obtain ⟨rfl, a1, s1⟩ := q1
  have am1 := am.sM s1
  refine wp_aload_n dL_law_948 rfl ?_
  refine la_arg 1 ⟨rfl, rfl⟩ K dL_law_949 dL_law_950 dL_law_952 dL_law_953 dL_law_954 rfl (by decide) ?_
  refine la_arg 2 ⟨rfl, rfl⟩ K dL_law_955 dL_law_956 dL_law_958 dL_law_959 dL_law_960 rfl (by decide) ?_
  refine la_arg 3 ⟨rfl, rfl⟩ K dL_law_961 dL_law_962 dL_law_964 dL_law_965 dL_law_966 rfl (by decide) ?_
  refine wg_callV (ci := 11) dL_law_967 mlL_121 mvX11_likely (S_X11_likely am1 o (K.2.2.2.1 _) (K.2.2.2.1 _) (K.2.2.2.1 _)) rfl rfl (K.2.2.2.2.2 _ _ (by decide) (by decide)) rfl rfl rfl (Nat.le_of_ble_eq_true rfl) (fun r2 h2 q2 => ?_)
  obtain ⟨rfl, am2, s2⟩ := q2
  refine wp_eqs 1535 dL_law_970 (by decide) ?_
  exact nx h2 _ (a1.sC o s2) am2 o
theorem lc_jug {X : Cx} {R : Room} {cn sn : Nat} {Qf : State → Array Value → List Frame → State → Prop} {h : Hp} {S : Nat → Int} {L i : Nat} {σ : Sg} (K : LK X R cn sn S L i) (a : AC h σ) (am : AM h σ) (o : SOK σ) (nx : ∀ (h9 : Hp) (σ9 : Sg), AC h9 σ9 → AM h9 σ9 → SOK σ9 → WG X mL R cn sn Qf 1535 (lvL X i) [] h9) : WG X mL R cn sn Qf 975 (lvL X i) [] h := by
  refine wp_aload_n dL_law_975 rfl ?_
  refine la_arg 1 ⟨rfl, rfl⟩ K dL_law_976 dL_law_977 dL_law_979 dL_law_980 dL_law_981 rfl (by decide) ?_
  refine la_arg 2 ⟨rfl, rfl⟩ K dL_law_982 dL_law_983 dL_law_985 dL_law_986 dL_law_987 rfl (by decide) ?_
  refine wg_callV (ci := 10) dL_law_988 mlL_122 mvX10_jug (S_X10_jug a o (K.2.2.2.1 _) (K.2.2.2.1 _)) rfl rfl (K.2.2.2.2.2 _ _ (by decide) (by decide)) rfl rfl rfl (Nat.le_of_ble_eq_true rfl) (fun r1 h1 q1 => ?_)
  obtain ⟨rfl, a1, s1⟩ := q1
  have am1 := am.sM s1
  refine wp_aload_n dL_law_991 rfl ?_
  refine la_arg 1 ⟨rfl, rfl⟩ K dL_law_992 dL_law_993 dL_law_995 dL_law_996 dL_law_997 rfl (by decide) ?_
  refine la_arg 2 ⟨rfl, rfl⟩ K dL_law_998 dL_law_999 dL_law_1001 dL_law_1002 dL_law_1003 rfl (by decide) ?_
  refine wg_callV (ci := 11) dL_law_1004 mlL_125 mvX11_jug (S_X11_jug am1 o (K.2.2.2.1 _) (K.2.2.2.1 _)) rfl rfl (K.2.2.2.2.2 _ _ (by decide) (by decide)) rfl rfl rfl (Nat.le_of_ble_eq_true rfl) (fun r2 h2 q2 => ?_)
  obtain ⟨rfl, am2, s2⟩ := q2
  refine wp_eqs 1535 dL_law_1007 (by decide) ?_
  exact nx h2 _ (a1.sC o s2) am2 o
theorem lc_soup {X : Cx} {R : Room} {cn sn : Nat} {Qf : State → Array Value → List Frame → State → Prop} {h : Hp} {S : Nat → Int} {L i : Nat} {σ : Sg} (K : LK X R cn sn S L i) (a : AC h σ) (am : AM h σ) (o : SOK σ) (nx : ∀ (h9 : Hp) (σ9 : Sg), AC h9 σ9 → AM h9 σ9 → SOK σ9 → WG X mL R cn sn Qf 1535 (lvL X i) [] h9) : WG X mL R cn sn Qf 1012 (lvL X i) [] h := by
  refine wp_aload_n dL_law_1012 rfl ?_
  refine la_arg 1 ⟨rfl, rfl⟩ K dL_law_1013 dL_law_1014 dL_law_1016 dL_law_1017 dL_law_1018 rfl (by decide) ?_
  refine la_arg 2 ⟨rfl, rfl⟩ K dL_law_1019 dL_law_1020 dL_law_1022 dL_law_1023 dL_law_1024 rfl (by decide) ?_
  refine wg_callV (ci := 10) dL_law_1025 mlL_126 mvX10_soup (S_X10_soup a o (K.2.2.2.1 _) (K.2.2.2.1 _)) rfl rfl (K.2.2.2.2.2 _ _ (by decide) (by decide)) rfl rfl rfl (Nat.le_of_ble_eq_true rfl) (fun r1 h1 q1 => ?_)
  obtain ⟨rfl, a1, s1⟩ := q1
  have am1 := am.sM s1
  refine wp_aload_n dL_law_1028 rfl ?_
  refine la_arg 1 ⟨rfl, rfl⟩ K dL_law_1029 dL_law_1030 dL_law_1032 dL_law_1033 dL_law_1034 rfl (by decide) ?_
  refine la_arg 2 ⟨rfl, rfl⟩ K dL_law_1035 dL_law_1036 dL_law_1038 dL_law_1039 dL_law_1040 rfl (by decide) ?_
  refine wg_callV (ci := 11) dL_law_1041 mlL_129 mvX11_soup (S_X11_soup am1 o (K.2.2.2.1 _) (K.2.2.2.1 _)) rfl rfl (K.2.2.2.2.2 _ _ (by decide) (by decide)) rfl rfl rfl (Nat.le_of_ble_eq_true rfl) (fun r2 h2 q2 => ?_)
  obtain ⟨rfl, am2, s2⟩ := q2
  refine wp_eqs 1535 dL_law_1044 (by decide) ?_
  exact nx h2 _ (a1.sC o s2) am2 o
theorem lc_serves {X : Cx} {R : Room} {cn sn : Nat} {Qf : State → Array Value → List Frame → State → Prop} {h : Hp} {S : Nat → Int} {L i : Nat} {σ : Sg} (K : LK X R cn sn S L i) (a : AC h σ) (am : AM h σ) (o : SOK σ) (nx : ∀ (h9 : Hp) (σ9 : Sg), AC h9 σ9 → AM h9 σ9 → SOK σ9 → WG X mL R cn sn Qf 1535 (lvL X i) [] h9) : WG X mL R cn sn Qf 1049 (lvL X i) [] h := by
  refine wp_aload_n dL_law_1049 rfl ?_
  refine la_arg 1 ⟨rfl, rfl⟩ K dL_law_1050 dL_law_1051 dL_law_1053 dL_law_1054 dL_law_1055 rfl (by decide) ?_
  refine wg_callV (ci := 10) dL_law_1056 mlL_130 mvX10_serves (S_X10_serves a o (K.2.2.2.1 _)) rfl rfl (K.2.2.2.2.2 _ _ (by decide) (by decide)) rfl rfl rfl (Nat.le_of_ble_eq_true rfl) (fun r1 h1 q1 => ?_)
  obtain ⟨rfl, a1, s1⟩ := q1
  have am1 := am.sM s1
  refine wp_aload_n dL_law_1059 rfl ?_
  refine la_arg 1 ⟨rfl, rfl⟩ K dL_law_1060 dL_law_1061 dL_law_1063 dL_law_1064 dL_law_1065 rfl (by decide) ?_
  refine wg_callV (ci := 11) dL_law_1066 mlL_133 mvX11_serves (S_X11_serves am1 o (K.2.2.2.1 _)) rfl rfl (K.2.2.2.2.2 _ _ (by decide) (by decide)) rfl rfl rfl (Nat.le_of_ble_eq_true rfl) (fun r2 h2 q2 => ?_)
  obtain ⟨rfl, am2, s2⟩ := q2
  refine wp_eqs 1535 dL_law_1069 (by decide) ?_
  exact nx h2 _ (a1.sC o s2) am2 o
theorem lc_rocky {X : Cx} {R : Room} {cn sn : Nat} {Qf : State → Array Value → List Frame → State → Prop} {h : Hp} {S : Nat → Int} {L i : Nat} {σ : Sg} (K : LK X R cn sn S L i) (a : AC h σ) (am : AM h σ) (o : SOK σ) (nx : ∀ (h9 : Hp) (σ9 : Sg), AC h9 σ9 → AM h9 σ9 → SOK σ9 → WG X mL R cn sn Qf 1535 (lvL X i) [] h9) : WG X mL R cn sn Qf 1074 (lvL X i) [] h := by
  refine wp_aload_n dL_law_1074 rfl ?_
  refine la_arg 1 ⟨rfl, rfl⟩ K dL_law_1075 dL_law_1076 dL_law_1078 dL_law_1079 dL_law_1080 rfl (by decide) ?_
  refine wg_callV (ci := 10) dL_law_1081 mlL_134 mvX10_rocky (S_X10_rocky a o (K.2.2.2.1 _)) rfl rfl (K.2.2.2.2.2 _ _ (by decide) (by decide)) rfl rfl rfl (Nat.le_of_ble_eq_true rfl) (fun r1 h1 q1 => ?_)
  obtain ⟨rfl, a1, s1⟩ := q1
  have am1 := am.sM s1
  refine wp_aload_n dL_law_1084 rfl ?_
  refine la_arg 1 ⟨rfl, rfl⟩ K dL_law_1085 dL_law_1086 dL_law_1088 dL_law_1089 dL_law_1090 rfl (by decide) ?_
  refine wg_callV (ci := 11) dL_law_1091 mlL_137 mvX11_rocky (S_X11_rocky am1 o (K.2.2.2.1 _)) rfl rfl (K.2.2.2.2.2 _ _ (by decide) (by decide)) rfl rfl rfl (Nat.le_of_ble_eq_true rfl) (fun r2 h2 q2 => ?_)
  obtain ⟨rfl, am2, s2⟩ := q2
  refine wp_eqs 1535 dL_law_1094 (by decide) ?_
  exact nx h2 _ (a1.sC o s2) am2 o
theorem lc_cheap {X : Cx} {R : Room} {cn sn : Nat} {Qf : State → Array Value → List Frame → State → Prop} {h : Hp} {S : Nat → Int} {L i : Nat} {σ : Sg} (K : LK X R cn sn S L i) (a : AC h σ) (am : AM h σ) (o : SOK σ) (nx : ∀ (h9 : Hp) (σ9 : Sg), AC h9 σ9 → AM h9 σ9 → SOK σ9 → WG X mL R cn sn Qf 1535 (lvL X i) [] h9) : WG X mL R cn sn Qf 1099 (lvL X i) [] h := by
  refine wp_aload_n dL_law_1099 rfl ?_
  refine la_arg 1 ⟨rfl, rfl⟩ K dL_law_1100 dL_law_1101 dL_law_1103 dL_law_1104 dL_law_1105 rfl (by decide) ?_
  refine la_arg 2 ⟨rfl, rfl⟩ K dL_law_1106 dL_law_1107 dL_law_1109 dL_law_1110 dL_law_1111 rfl (by decide) ?_
  refine la_arg 3 ⟨rfl, rfl⟩ K dL_law_1112 dL_law_1113 dL_law_1115 dL_law_1116 dL_law_1117 rfl (by decide) ?_
  refine la_arg 4 ⟨rfl, rfl⟩ K dL_law_1118 dL_law_1119 dL_law_1121 dL_law_1122 dL_law_1123 rfl (by decide) ?_
  refine wg_callV (ci := 10) dL_law_1124 mlL_138 mvX10_cheap (S_X10_cheap a o (K.2.2.2.1 _) (K.2.2.2.1 _) (K.2.2.2.1 _) (K.2.2.2.1 _)) rfl rfl (K.2.2.2.2.2 _ _ (by decide) (by decide)) rfl rfl rfl (Nat.le_of_ble_eq_true rfl) (fun r1 h1 q1 => ?_)
  obtain ⟨rfl, a1, s1⟩ := q1
  have am1 := am.sM s1
  refine wp_aload_n dL_law_1127 rfl ?_
  refine la_arg 1 ⟨rfl, rfl⟩ K dL_law_1128 dL_law_1129 dL_law_1131 dL_law_1132 dL_law_1133 rfl (by decide) ?_
  refine la_arg 2 ⟨rfl, rfl⟩ K dL_law_1134 dL_law_1135 dL_law_1137 dL_law_1138 dL_law_1139 rfl (by decide) ?_
  refine la_arg 3 ⟨rfl, rfl⟩ K dL_law_1140 dL_law_1141 dL_law_1143 dL_law_1144 dL_law_1145 rfl (by decide) ?_
  refine la_arg 4 ⟨rfl, rfl⟩ K dL_law_1146 dL_law_1147 dL_law_1149 dL_law_1150 dL_law_1151 rfl (by decide) ?_
  refine wg_callV (ci := 11) dL_law_1152 mlL_142 mvX11_cheap (S_X11_cheap am1 o (K.2.2.2.1 _) (K.2.2.2.1 _) (K.2.2.2.1 _) (K.2.2.2.1 _)) rfl rfl (K.2.2.2.2.2 _ _ (by decide) (by decide)) rfl rfl rfl (Nat.le_of_ble_eq_true rfl) (fun r2 h2 q2 => ?_)
  obtain ⟨rfl, am2, s2⟩ := q2
  refine wp_eqs 1535 dL_law_1155 (by decide) ?_
  exact nx h2 _ (a1.sC o s2) am2 o
theorem lc_piles {X : Cx} {R : Room} {cn sn : Nat} {Qf : State → Array Value → List Frame → State → Prop} {h : Hp} {S : Nat → Int} {L i : Nat} {σ : Sg} (K : LK X R cn sn S L i) (a : AC h σ) (am : AM h σ) (o : SOK σ) (nx : ∀ (h9 : Hp) (σ9 : Sg), AC h9 σ9 → AM h9 σ9 → SOK σ9 → WG X mL R cn sn Qf 1535 (lvL X i) [] h9) : WG X mL R cn sn Qf 1160 (lvL X i) [] h := by
  refine wp_aload_n dL_law_1160 rfl ?_
  refine la_arg 1 ⟨rfl, rfl⟩ K dL_law_1161 dL_law_1162 dL_law_1164 dL_law_1165 dL_law_1166 rfl (by decide) ?_
  refine wg_callV (ci := 10) dL_law_1167 mlL_143 mvX10_piles (S_X10_piles a o (K.2.2.2.1 _)) rfl rfl (K.2.2.2.2.2 _ _ (by decide) (by decide)) rfl rfl rfl (Nat.le_of_ble_eq_true rfl) (fun r1 h1 q1 => ?_)
  obtain ⟨rfl, a1, s1⟩ := q1
  have am1 := am.sM s1
  refine wp_aload_n dL_law_1170 rfl ?_
  refine la_arg 1 ⟨rfl, rfl⟩ K dL_law_1171 dL_law_1172 dL_law_1174 dL_law_1175 dL_law_1176 rfl (by decide) ?_
  refine wg_callV (ci := 11) dL_law_1177 mlL_146 mvX11_piles (S_X11_piles am1 o (K.2.2.2.1 _)) rfl rfl (K.2.2.2.2.2 _ _ (by decide) (by decide)) rfl rfl rfl (Nat.le_of_ble_eq_true rfl) (fun r2 h2 q2 => ?_)
  obtain ⟨rfl, am2, s2⟩ := q2
  refine wp_eqs 1535 dL_law_1180 (by decide) ?_
  exact nx h2 _ (a1.sC o s2) am2 o
theorem lc_trial {X : Cx} {R : Room} {cn sn : Nat} {Qf : State → Array Value → List Frame → State → Prop} {h : Hp} {S : Nat → Int} {L i : Nat} {σ : Sg} (K : LK X R cn sn S L i) (a : AC h σ) (am : AM h σ) (o : SOK σ) (nx : ∀ (h9 : Hp) (σ9 : Sg), AC h9 σ9 → AM h9 σ9 → SOK σ9 → WG X mL R cn sn Qf 1535 (lvL X i) [] h9) : WG X mL R cn sn Qf 1185 (lvL X i) [] h := by
  refine wp_aload_n dL_law_1185 rfl ?_
  refine la_arg 1 ⟨rfl, rfl⟩ K dL_law_1186 dL_law_1187 dL_law_1189 dL_law_1190 dL_law_1191 rfl (by decide) ?_
  refine la_arg 2 ⟨rfl, rfl⟩ K dL_law_1192 dL_law_1193 dL_law_1195 dL_law_1196 dL_law_1197 rfl (by decide) ?_
  refine wp_i2l dL_law_1198 ?_
  refine wp_bipush dL_law_1199 (by decide) ?_
  refine wp_lshl dL_law_1201 ?_
  refine la_arg 3 ⟨rfl, rfl⟩ K dL_law_1202 dL_law_1203 dL_law_1205 dL_law_1206 dL_law_1207 rfl (by decide) ?_
  refine wp_i2l dL_law_1208 ?_
  refine wp_ldc2 dL_law_1209 klL_147 ?_
  refine wp_land dL_law_1212 ?_
  refine wp_lor dL_law_1213 ?_
  refine la_arg 4 ⟨rfl, rfl⟩ K dL_law_1214 dL_law_1215 dL_law_1217 dL_law_1218 dL_law_1219 rfl (by decide) ?_
  refine la_arg 5 ⟨rfl, rfl⟩ K dL_law_1220 dL_law_1221 dL_law_1223 dL_law_1224 dL_law_1225 rfl (by decide) ?_
  refine wg_callV (ci := 10) dL_law_1226 mlL_149 mvX10_trial (S_X10_trial a o (K.2.2.2.1 _) (K.2.2.2.1 _) (K.2.2.2.1 _)) rfl rfl (K.2.2.2.2.2 _ _ (by decide) (by decide)) rfl rfl rfl (Nat.le_of_ble_eq_true rfl) (fun r1 h1 q1 => ?_)
  obtain ⟨rfl, a1, s1⟩ := q1
  have am1 := am.sM s1
  refine wp_aload_n dL_law_1229 rfl ?_
  refine la_arg 1 ⟨rfl, rfl⟩ K dL_law_1230 dL_law_1231 dL_law_1233 dL_law_1234 dL_law_1235 rfl (by decide) ?_
  refine la_arg 2 ⟨rfl, rfl⟩ K dL_law_1236 dL_law_1237 dL_law_1239 dL_law_1240 dL_law_1241 rfl (by decide) ?_
  refine wp_i2l dL_law_1242 ?_
  refine wp_bipush dL_law_1243 (by decide) ?_
  refine wp_lshl dL_law_1245 ?_
  refine la_arg 3 ⟨rfl, rfl⟩ K dL_law_1246 dL_law_1247 dL_law_1249 dL_law_1250 dL_law_1251 rfl (by decide) ?_
  refine wp_i2l dL_law_1252 ?_
  refine wp_ldc2 dL_law_1253 klL_147 ?_
  refine wp_land dL_law_1256 ?_
  refine wp_lor dL_law_1257 ?_
  refine la_arg 4 ⟨rfl, rfl⟩ K dL_law_1258 dL_law_1259 dL_law_1261 dL_law_1262 dL_law_1263 rfl (by decide) ?_
  refine la_arg 5 ⟨rfl, rfl⟩ K dL_law_1264 dL_law_1265 dL_law_1267 dL_law_1268 dL_law_1269 rfl (by decide) ?_
  refine wg_callV (ci := 11) dL_law_1270 mlL_153 mvX11_trial (S_X11_trial am1 o (K.2.2.2.1 _) (K.2.2.2.1 _) (K.2.2.2.1 _)) rfl rfl (K.2.2.2.2.2 _ _ (by decide) (by decide)) rfl rfl rfl (Nat.le_of_ble_eq_true rfl) (fun r2 h2 q2 => ?_)
  obtain ⟨rfl, am2, s2⟩ := q2
  refine wp_eqs 1535 dL_law_1273 (by decide) ?_
  exact nx h2 _ (a1.sC o s2) am2 o
theorem lc_flip {X : Cx} {R : Room} {cn sn : Nat} {Qf : State → Array Value → List Frame → State → Prop} {h : Hp} {S : Nat → Int} {L i : Nat} {σ : Sg} (K : LK X R cn sn S L i) (a : AC h σ) (am : AM h σ) (o : SOK σ) (nx : ∀ (h9 : Hp) (σ9 : Sg), AC h9 σ9 → AM h9 σ9 → SOK σ9 → WG X mL R cn sn Qf 1535 (lvL X i) [] h9) : WG X mL R cn sn Qf 1278 (lvL X i) [] h := by
  refine wp_aload_n dL_law_1278 rfl ?_
  refine la_arg 1 ⟨rfl, rfl⟩ K dL_law_1279 dL_law_1280 dL_law_1282 dL_law_1283 dL_law_1284 rfl (by decide) ?_
  refine wg_callV (ci := 10) dL_law_1285 mlL_154 mvX10_flip (S_X10_flip a o (K.2.2.2.1 _)) rfl rfl (K.2.2.2.2.2 _ _ (by decide) (by decide)) rfl rfl rfl (Nat.le_of_ble_eq_true rfl) (fun r1 h1 q1 => ?_)
  obtain ⟨rfl, a1, s1⟩ := q1
  have am1 := am.sM s1
  refine wp_aload_n dL_law_1288 rfl ?_
  refine la_arg 1 ⟨rfl, rfl⟩ K dL_law_1289 dL_law_1290 dL_law_1292 dL_law_1293 dL_law_1294 rfl (by decide) ?_
  refine wg_callV (ci := 11) dL_law_1295 mlL_157 mvX11_flip (S_X11_flip am1 o (K.2.2.2.1 _)) rfl rfl (K.2.2.2.2.2 _ _ (by decide) (by decide)) rfl rfl rfl (Nat.le_of_ble_eq_true rfl) (fun r2 h2 q2 => ?_)
  obtain ⟨rfl, am2, s2⟩ := q2
  refine wp_eqs 1535 dL_law_1298 (by decide) ?_
  exact nx h2 _ (a1.sC o s2) am2 o
theorem lc_plane {X : Cx} {R : Room} {cn sn : Nat} {Qf : State → Array Value → List Frame → State → Prop} {h : Hp} {S : Nat → Int} {L i : Nat} {σ : Sg} (K : LK X R cn sn S L i) (a : AC h σ) (am : AM h σ) (o : SOK σ) (nx : ∀ (h9 : Hp) (σ9 : Sg), AC h9 σ9 → AM h9 σ9 → SOK σ9 → WG X mL R cn sn Qf 1535 (lvL X i) [] h9) : WG X mL R cn sn Qf 1303 (lvL X i) [] h := by
  refine wp_aload_n dL_law_1303 rfl ?_
  refine la_arg 1 ⟨rfl, rfl⟩ K dL_law_1304 dL_law_1305 dL_law_1307 dL_law_1308 dL_law_1309 rfl (by decide) ?_
  refine wg_callV (ci := 10) dL_law_1310 mlL_158 mvX10_plane (S_X10_plane a o (K.2.2.2.1 _)) rfl rfl (K.2.2.2.2.2 _ _ (by decide) (by decide)) rfl rfl rfl (Nat.le_of_ble_eq_true rfl) (fun r1 h1 q1 => ?_)
  obtain ⟨rfl, a1, s1⟩ := q1
  have am1 := am.sM s1
  refine wp_aload_n dL_law_1313 rfl ?_
  refine la_arg 1 ⟨rfl, rfl⟩ K dL_law_1314 dL_law_1315 dL_law_1317 dL_law_1318 dL_law_1319 rfl (by decide) ?_
  refine wg_callV (ci := 11) dL_law_1320 mlL_161 mvX11_plane (S_X11_plane am1 o (K.2.2.2.1 _)) rfl rfl (K.2.2.2.2.2 _ _ (by decide) (by decide)) rfl rfl rfl (Nat.le_of_ble_eq_true rfl) (fun r2 h2 q2 => ?_)
  obtain ⟨rfl, am2, s2⟩ := q2
  refine wp_eqs 1535 dL_law_1323 (by decide) ?_
  exact nx h2 _ (a1.sC o s2) am2 o
theorem lc_saw {X : Cx} {R : Room} {cn sn : Nat} {Qf : State → Array Value → List Frame → State → Prop} {h : Hp} {S : Nat → Int} {L i : Nat} {σ : Sg} (K : LK X R cn sn S L i) (a : AC h σ) (am : AM h σ) (o : SOK σ) (nx : ∀ (h9 : Hp) (σ9 : Sg), AC h9 σ9 → AM h9 σ9 → SOK σ9 → WG X mL R cn sn Qf 1535 (lvL X i) [] h9) : WG X mL R cn sn Qf 1328 (lvL X i) [] h := by
  refine wp_aload_n dL_law_1328 rfl ?_
  refine la_arg 1 ⟨rfl, rfl⟩ K dL_law_1329 dL_law_1330 dL_law_1332 dL_law_1333 dL_law_1334 rfl (by decide) ?_
  refine la_arg 2 ⟨rfl, rfl⟩ K dL_law_1335 dL_law_1336 dL_law_1338 dL_law_1339 dL_law_1340 rfl (by decide) ?_
  refine wg_callV (ci := 10) dL_law_1341 mlL_162 mvX10_saw (S_X10_saw a o (K.2.2.2.1 _) (K.2.2.2.1 _)) rfl rfl (K.2.2.2.2.2 _ _ (by decide) (by decide)) rfl rfl rfl (Nat.le_of_ble_eq_true rfl) (fun r1 h1 q1 => ?_)
  obtain ⟨rfl, a1, s1⟩ := q1
  have am1 := am.sM s1
  refine wp_aload_n dL_law_1344 rfl ?_
  refine la_arg 1 ⟨rfl, rfl⟩ K dL_law_1345 dL_law_1346 dL_law_1348 dL_law_1349 dL_law_1350 rfl (by decide) ?_
  refine la_arg 2 ⟨rfl, rfl⟩ K dL_law_1351 dL_law_1352 dL_law_1354 dL_law_1355 dL_law_1356 rfl (by decide) ?_
  refine wg_callV (ci := 11) dL_law_1357 mlL_165 mvX11_saw (S_X11_saw am1 o (K.2.2.2.1 _) (K.2.2.2.1 _)) rfl rfl (K.2.2.2.2.2 _ _ (by decide) (by decide)) rfl rfl rfl (Nat.le_of_ble_eq_true rfl) (fun r2 h2 q2 => ?_)
  obtain ⟨rfl, am2, s2⟩ := q2
  refine wp_eqs 1535 dL_law_1360 (by decide) ?_
  exact nx h2 _ (a1.sC (ok_nSaw o _ _) s2) am2 (ok_nSaw o _ _)
theorem lc_heap {X : Cx} {R : Room} {cn sn : Nat} {Qf : State → Array Value → List Frame → State → Prop} {h : Hp} {S : Nat → Int} {L i : Nat} {σ : Sg} (K : LK X R cn sn S L i) (a : AC h σ) (am : AM h σ) (o : SOK σ) (nx : ∀ (h9 : Hp) (σ9 : Sg), AC h9 σ9 → AM h9 σ9 → SOK σ9 → WG X mL R cn sn Qf 1535 (lvL X i) [] h9) : WG X mL R cn sn Qf 1365 (lvL X i) [] h := by
  refine wp_aload_n dL_law_1365 rfl ?_
  refine la_arg 1 ⟨rfl, rfl⟩ K dL_law_1366 dL_law_1367 dL_law_1369 dL_law_1370 dL_law_1371 rfl (by decide) ?_
  refine la_arg 2 ⟨rfl, rfl⟩ K dL_law_1372 dL_law_1373 dL_law_1375 dL_law_1376 dL_law_1377 rfl (by decide) ?_
  refine wg_callV (ci := 10) dL_law_1378 mlL_166 mvX10_heap (S_X10_heap a o (K.2.2.2.1 _) (K.2.2.2.1 _)) rfl rfl (K.2.2.2.2.2 _ _ (by decide) (by decide)) rfl rfl rfl (Nat.le_of_ble_eq_true rfl) (fun r1 h1 q1 => ?_)
  obtain ⟨rfl, a1, s1⟩ := q1
  have am1 := am.sM s1
  refine wp_aload_n dL_law_1381 rfl ?_
  refine la_arg 1 ⟨rfl, rfl⟩ K dL_law_1382 dL_law_1383 dL_law_1385 dL_law_1386 dL_law_1387 rfl (by decide) ?_
  refine la_arg 2 ⟨rfl, rfl⟩ K dL_law_1388 dL_law_1389 dL_law_1391 dL_law_1392 dL_law_1393 rfl (by decide) ?_
  refine wg_callV (ci := 11) dL_law_1394 mlL_169 mvX11_heap (S_X11_heap am1 o (K.2.2.2.1 _) (K.2.2.2.1 _)) rfl rfl (K.2.2.2.2.2 _ _ (by decide) (by decide)) rfl rfl rfl (Nat.le_of_ble_eq_true rfl) (fun r2 h2 q2 => ?_)
  obtain ⟨rfl, am2, s2⟩ := q2
  refine wp_eqs 1535 dL_law_1397 (by decide) ?_
  exact nx h2 _ (a1.sC (ok_nHeap o _ _) s2) am2 (ok_nHeap o _ _)
theorem lc_drawn {X : Cx} {R : Room} {cn sn : Nat} {Qf : State → Array Value → List Frame → State → Prop} {h : Hp} {S : Nat → Int} {L i : Nat} {σ : Sg} (K : LK X R cn sn S L i) (a : AC h σ) (am : AM h σ) (o : SOK σ) (nx : ∀ (h9 : Hp) (σ9 : Sg), AC h9 σ9 → AM h9 σ9 → SOK σ9 → WG X mL R cn sn Qf 1535 (lvL X i) [] h9) : WG X mL R cn sn Qf 1402 (lvL X i) [] h := by
  refine wp_aload_n dL_law_1402 rfl ?_
  refine la_arg 1 ⟨rfl, rfl⟩ K dL_law_1403 dL_law_1404 dL_law_1406 dL_law_1407 dL_law_1408 rfl (by decide) ?_
  refine wp_i2l dL_law_1409 ?_
  refine wp_bipush dL_law_1410 (by decide) ?_
  refine wp_lshl dL_law_1412 ?_
  refine la_arg 2 ⟨rfl, rfl⟩ K dL_law_1413 dL_law_1414 dL_law_1416 dL_law_1417 dL_law_1418 rfl (by decide) ?_
  refine wp_i2l dL_law_1419 ?_
  refine wp_ldc2 dL_law_1420 klL_147 ?_
  refine wp_land dL_law_1423 ?_
  refine wp_lor dL_law_1424 ?_
  refine la_arg 3 ⟨rfl, rfl⟩ K dL_law_1425 dL_law_1426 dL_law_1428 dL_law_1429 dL_law_1430 rfl (by decide) ?_
  refine wg_callV (ci := 10) dL_law_1431 mlL_170 mvX10_drawn (S_X10_drawn a o (K.2.2.2.1 _)) rfl rfl (K.2.2.2.2.2 _ _ (by decide) (by decide)) rfl rfl rfl (Nat.le_of_ble_eq_true rfl) (fun r1 h1 q1 => ?_)
  obtain ⟨rfl, a1, s1⟩ := q1
  have am1 := am.sM s1
  refine wp_aload_n dL_law_1434 rfl ?_
  refine la_arg 1 ⟨rfl, rfl⟩ K dL_law_1435 dL_law_1436 dL_law_1438 dL_law_1439 dL_law_1440 rfl (by decide) ?_
  refine wp_i2l dL_law_1441 ?_
  refine wp_bipush dL_law_1442 (by decide) ?_
  refine wp_lshl dL_law_1444 ?_
  refine la_arg 2 ⟨rfl, rfl⟩ K dL_law_1445 dL_law_1446 dL_law_1448 dL_law_1449 dL_law_1450 rfl (by decide) ?_
  refine wp_i2l dL_law_1451 ?_
  refine wp_ldc2 dL_law_1452 klL_147 ?_
  refine wp_land dL_law_1455 ?_
  refine wp_lor dL_law_1456 ?_
  refine la_arg 3 ⟨rfl, rfl⟩ K dL_law_1457 dL_law_1458 dL_law_1460 dL_law_1461 dL_law_1462 rfl (by decide) ?_
  refine wg_callV (ci := 11) dL_law_1463 mlL_174 mvX11_drawn (S_X11_drawn am1 o (K.2.2.2.1 _)) rfl rfl (K.2.2.2.2.2 _ _ (by decide) (by decide)) rfl rfl rfl (Nat.le_of_ble_eq_true rfl) (fun r2 h2 q2 => ?_)
  obtain ⟨rfl, am2, s2⟩ := q2
  refine wp_eqs 1535 dL_law_1466 (by decide) ?_
  exact nx h2 _ (a1.sC (ok_nDrawn o _ _) s2) am2 (ok_nDrawn o _ _)
theorem lc_undo {X : Cx} {R : Room} {cn sn : Nat} {Qf : State → Array Value → List Frame → State → Prop} {h : Hp} {S : Nat → Int} {L i : Nat} {σ : Sg} (K : LK X R cn sn S L i) (a : AC h σ) (am : AM h σ) (o : SOK σ) (nx : ∀ (h9 : Hp) (σ9 : Sg), AC h9 σ9 → AM h9 σ9 → SOK σ9 → WG X mL R cn sn Qf 1535 (lvL X i) [] h9) : WG X mL R cn sn Qf 1471 (lvL X i) [] h := by
  refine wp_aload_n dL_law_1471 rfl ?_
  refine wg_callV (ci := 10) dL_law_1472 mlL_175 mvX10_undo (S_X10_undo a o) rfl rfl (K.2.2.2.2.2 _ _ (by decide) (by decide)) rfl rfl rfl (Nat.le_of_ble_eq_true rfl) (fun r1 h1 q1 => ?_)
  obtain ⟨rfl, a1, s1⟩ := q1
  have am1 := am.sM s1
  refine wp_aload_n dL_law_1475 rfl ?_
  refine wg_callV (ci := 11) dL_law_1476 mlL_178 mvX11_undo (S_X11_undo am1 o) rfl rfl (K.2.2.2.2.2 _ _ (by decide) (by decide)) rfl rfl rfl (Nat.le_of_ble_eq_true rfl) (fun r2 h2 q2 => ?_)
  obtain ⟨rfl, am2, s2⟩ := q2
  refine wp_eqs 1535 dL_law_1479 (by decide) ?_
  exact nx h2 _ (a1.sC (ok_nUndo o) s2) am2 (ok_nUndo o)
theorem lc_image {X : Cx} {R : Room} {cn sn : Nat} {Qf : State → Array Value → List Frame → State → Prop} {h : Hp} {S : Nat → Int} {L i : Nat} {σ : Sg} (K : LK X R cn sn S L i) (a : AC h σ) (am : AM h σ) (o : SOK σ) (nx : ∀ (h9 : Hp) (σ9 : Sg), AC h9 σ9 → AM h9 σ9 → SOK σ9 → WG X mL R cn sn Qf 1535 (lvL X i) [] h9) : WG X mL R cn sn Qf 1484 (lvL X i) [] h := by
  refine wp_aload_n dL_law_1484 rfl ?_
  refine wg_callV (ci := 10) dL_law_1485 mlL_179 mvX10_image (S_X10_image a o) rfl rfl (K.2.2.2.2.2 _ _ (by decide) (by decide)) rfl rfl rfl (Nat.le_of_ble_eq_true rfl) (fun r1 h1 q1 => ?_)
  obtain ⟨rfl, a1, s1⟩ := q1
  have am1 := am.sM s1
  refine wp_aload_n dL_law_1488 rfl ?_
  refine wg_callV (ci := 11) dL_law_1489 mlL_182 mvX11_image (S_X11_image am1 o) rfl rfl (K.2.2.2.2.2 _ _ (by decide) (by decide)) rfl rfl rfl (Nat.le_of_ble_eq_true rfl) (fun r2 h2 q2 => ?_)
  obtain ⟨rfl, am2, s2⟩ := q2
  refine wp_eqs 1535 dL_law_1492 (by decide) ?_
  exact nx h2 _ (a1.sC (ok_nImage o) s2) am2 (ok_nImage o)
theorem lc_back {X : Cx} {R : Room} {cn sn : Nat} {Qf : State → Array Value → List Frame → State → Prop} {h : Hp} {S : Nat → Int} {L i : Nat} {σ : Sg} (K : LK X R cn sn S L i) (a : AC h σ) (am : AM h σ) (o : SOK σ) (nx : ∀ (h9 : Hp) (σ9 : Sg), AC h9 σ9 → AM h9 σ9 → SOK σ9 → WG X mL R cn sn Qf 1535 (lvL X i) [] h9) : WG X mL R cn sn Qf 1497 (lvL X i) [] h := by
  refine wp_aload_n dL_law_1497 rfl ?_
  refine wg_callV (ci := 10) dL_law_1498 mlL_183 mvX10_back (S_X10_back a o) rfl rfl (K.2.2.2.2.2 _ _ (by decide) (by decide)) rfl rfl rfl (Nat.le_of_ble_eq_true rfl) (fun r1 h1 q1 => ?_)
  obtain ⟨rfl, a1, s1⟩ := q1
  have am1 := am.sM s1
  refine wp_aload_n dL_law_1501 rfl ?_
  refine wg_callV (ci := 11) dL_law_1502 mlL_186 mvX11_back (S_X11_back am1 o) rfl rfl (K.2.2.2.2.2 _ _ (by decide) (by decide)) rfl rfl rfl (Nat.le_of_ble_eq_true rfl) (fun r2 h2 q2 => ?_)
  obtain ⟨rfl, am2, s2⟩ := q2
  refine wp_eqs 1535 dL_law_1505 (by decide) ?_
  exact nx h2 _ (a1.sC (ok_nBack o) s2) am2 (ok_nBack o)
theorem lc_count {X : Cx} {R : Room} {cn sn : Nat} {Qf : State → Array Value → List Frame → State → Prop} {h : Hp} {S : Nat → Int} {L i : Nat} {σ : Sg} (K : LK X R cn sn S L i) (a : AC h σ) (am : AM h σ) (o : SOK σ) (nx : ∀ (h9 : Hp) (σ9 : Sg), AC h9 σ9 → AM h9 σ9 → SOK σ9 → WG X mL R cn sn Qf 1535 (lvL X i) [] h9) : WG X mL R cn sn Qf 1510 (lvL X i) [] h := by
  refine wp_aload_n dL_law_1510 rfl ?_
  refine la_arg 1 ⟨rfl, rfl⟩ K dL_law_1511 dL_law_1512 dL_law_1514 dL_law_1515 dL_law_1516 rfl (by decide) ?_
  refine wg_callV (ci := 10) dL_law_1517 mlL_187 mvX10_count (S_X10_count a o (K.2.2.2.1 _)) rfl rfl (K.2.2.2.2.2 _ _ (by decide) (by decide)) rfl rfl rfl (Nat.le_of_ble_eq_true rfl) (fun r1 h1 q1 => ?_)
  obtain ⟨rfl, a1, s1⟩ := q1
  have am1 := am.sM s1
  refine wp_aload_n dL_law_1520 rfl ?_
  refine la_arg 1 ⟨rfl, rfl⟩ K dL_law_1521 dL_law_1522 dL_law_1524 dL_law_1525 dL_law_1526 rfl (by decide) ?_
  refine wg_callV (ci := 11) dL_law_1527 mlL_190 mvX11_count (S_X11_count am1 o (K.2.2.2.1 _)) rfl rfl (K.2.2.2.2.2 _ _ (by decide) (by decide)) rfl rfl rfl (Nat.le_of_ble_eq_true rfl) (fun r2 h2 q2 => ?_)
  obtain ⟨rfl, am2, s2⟩ := q2
  refine wp_eqs 1535 dL_law_1530 (by decide) ?_
  exact nx h2 _ (a1.sC o s2) am2 o
