/-! WALKS (written by program) -/
def b_X12_plays_480 (K : Ih → Jh → Prop)  (x1 : Int32) (x2 : Int32) (I : Ih) (J : Jh) : Prop :=
    vp_in x1 3 ∧
    vp_in x1 3 ∧
    ∀ I3 : Ih, I3 = updI I 117 (Int32.toNatClampNeg x1) ((I 117 (Int32.toNatClampNeg x1)) + 1) → vp_in ((3000 * x1) + (I 117 (Int32.toNatClampNeg x1))) 9000 ∧
    ∀ I5 : Ih, I5 = updI I3 118 (Int32.toNatClampNeg ((3000 * x1) + (I 117 (Int32.toNatClampNeg x1)))) x2 → K I5 J
set_option maxRecDepth 20000 in
theorem tb_X12_plays_480 {E : Ev} (K : Ih → Jh → Prop)   (x1 : Int32) (x2 : Int32) (I : Ih) (J : Jh) (h : b_X12_plays_480 K x1 x2 I J) : Wc E M_X12_plays (rmOf M_X12_plays 0 0) (fin E 0 0 (pKv K)) 0 0 480 [(0, Value.ref 87), (1, Value.int x1), (2, Value.int x2)] [] (hp I J) := by
  unfold b_X12_plays_480 at h
  refine r_aload_n 481 0 dX12_plays_480 rfl rfl rfl ?_
  refine p_getR 484 oS_87 fl_X12_103 rfl qS_87_36 dX12_plays_481 rfl ?_
  refine r_sipush 487 3000 dX12_plays_484 rfl (by decide) ?_
  refine r_iload_n 488 1 dX12_plays_487 rfl rfl rfl ?_
  refine r_imul 489 dX12_plays_488 rfl ?_
  refine r_aload_n 490 0 dX12_plays_489 rfl rfl rfl ?_
  refine p_getR 493 oS_87 fl_X12_100 rfl qS_87_35 dX12_plays_490 rfl ?_
  refine r_iload_n 494 1 dX12_plays_493 rfl rfl rfl ?_
  refine r_dup2 495 dX12_plays_494 rfl rfl rfl ?_
  obtain ⟨o1, h⟩ := h
  refine p_iaload 496 _ rfl aS_117 o1 dX12_plays_495 rfl ?_
  refine r_dup_x2 497 dX12_plays_496 rfl rfl rfl rfl ?_
  refine r_iconst 498 1 dX12_plays_497 rfl (by decide) ?_
  refine r_iadd 499 dX12_plays_498 rfl ?_
  obtain ⟨o2, h⟩ := h
  have h := h _ rfl
  refine p_iastore 500 _ rfl aS_117 o2 dX12_plays_499 rfl ?_
  refine r_iadd 501 dX12_plays_500 rfl ?_
  refine r_iload_n 502 2 dX12_plays_501 rfl rfl rfl ?_
  obtain ⟨o4, h⟩ := h
  have h := h _ rfl
  refine p_iastore 503 _ rfl aS_118 o4 dX12_plays_502 rfl ?_
  exact p_vret dX12_plays_503 rfl h
def b_X12_plays_477 (K : Ih → Jh → Prop)  (x1 : Int32) (x2 : Int32) (s0 : Int32) (s1 : Int32) (I : Ih) (J : Jh) : Prop :=
    ((s0 = s1 →
    K I J) ∧
    (¬ s0 = s1 →
    b_X12_plays_480 K x1 x2 I J))
set_option maxRecDepth 20000 in
theorem tb_X12_plays_477 {E : Ev} (K : Ih → Jh → Prop)   (x1 : Int32) (x2 : Int32) (s0 : Int32) (s1 : Int32) (I : Ih) (J : Jh) (hbs0 : nb s0) (hbs1 : nb s1) (h : b_X12_plays_477 K x1 x2 s0 s1 I J) : Wc E M_X12_plays (rmOf M_X12_plays 0 0) (fin E 0 0 (pKv K)) 0 0 477 [(0, Value.ref 87), (1, Value.int x1), (2, Value.int x2)] [Value.int s1, Value.int s0] (hp I J) := by
  unfold b_X12_plays_477 at h
  refine r_icmp_eq 503 480 dX12_plays_477 (by decide) rfl (fun b0 => ?_) (fun b0 => ?_)
  · have h := h.1 b0
    exact p_vret dX12_plays_503 rfl h
  · have h := h.2 b0
    exact w_lv (tb_X12_plays_480 K _ _ _ _ h) [0, 1, 2] rfl
def b_X12_plays_461 (K : Ih → Jh → Prop)  (x1 : Int32) (x2 : Int32) (x3 : Int32) (s0 : Int32) (I : Ih) (J : Jh) : Prop :=
    vp_in (x3 - 1) 9000 ∧
    ((¬ (I 111 (Int32.toNatClampNeg (x3 - 1))) = 0 →
    b_X12_plays_477 K x1 x2 s0 0 I J) ∧
    ((I 111 (Int32.toNatClampNeg (x3 - 1))) = 0 →
    b_X12_plays_477 K x1 x2 s0 1 I J))
set_option maxRecDepth 20000 in
theorem tb_X12_plays_461 {E : Ev} (K : Ih → Jh → Prop)   (x1 : Int32) (x2 : Int32) (x3 : Int32) (s0 : Int32) (I : Ih) (J : Jh) (hbs0 : nb s0) (h : b_X12_plays_461 K x1 x2 x3 s0 I J) : Wc E M_X12_plays (rmOf M_X12_plays 0 0) (fin E 0 0 (pKv K)) 0 0 461 [(0, Value.ref 87), (1, Value.int x1), (2, Value.int x2), (3, Value.int x3)] [Value.int s0] (hp I J) := by
  unfold b_X12_plays_461 at h
  refine r_aload_n 462 0 dX12_plays_461 rfl rfl rfl ?_
  refine p_getR 465 oS_87 fl_X12_82 rfl qS_87_29 dX12_plays_462 rfl ?_
  refine r_iload_n 466 3 dX12_plays_465 rfl rfl rfl ?_
  refine r_iconst 467 1 dX12_plays_466 rfl (by decide) ?_
  refine r_isub 468 dX12_plays_467 rfl ?_
  obtain ⟨o1, h⟩ := h
  refine p_iaload 469 _ rfl aS_111 o1 dX12_plays_468 rfl ?_
  refine r_if_ne 476 472 dX12_plays_469 (by decide) rfl (fun b0 => ?_) (fun b0 => ?_)
  · have h := h.1 b0
    refine r_iconst 477 0 dX12_plays_476 rfl (by decide) ?_
    exact w_lv (tb_X12_plays_477 K _ _ _ _ _ _ hbs0 nb0 h) [0, 1, 2] rfl
  · have h := h.2 b0
    refine r_iconst 473 1 dX12_plays_472 rfl (by decide) ?_
    refine r_goto 477 dX12_plays_473 (by decide) ?_
    exact w_lv (tb_X12_plays_477 K _ _ _ _ _ _ hbs0 nb1 h) [0, 1, 2] rfl
def b_X12_plays_438 (K : Ih → Jh → Prop)  (x1 : Int32) (x2 : Int32) (x3 : Int32) (x4 : Int32) (I : Ih) (J : Jh) : Prop :=
    ((x2 = 0 →
    b_X12_plays_480 K x1 x2 I J) ∧
    (¬ x2 = 0 →
    ((¬ x4 = 0 →
    b_X12_plays_480 K x1 x2 I J) ∧
    (x4 = 0 →
    vp_in x3 9000 ∧
    ((¬ (I 111 (Int32.toNatClampNeg x3)) = 0 →
    b_X12_plays_461 K x1 x2 x3 0 I J) ∧
    ((I 111 (Int32.toNatClampNeg x3)) = 0 →
    b_X12_plays_461 K x1 x2 x3 1 I J))))))
set_option maxRecDepth 20000 in
theorem tb_X12_plays_438 {E : Ev} (K : Ih → Jh → Prop)   (x1 : Int32) (x2 : Int32) (x3 : Int32) (x4 : Int32) (I : Ih) (J : Jh) (hb4 : nb x4) (h : b_X12_plays_438 K x1 x2 x3 x4 I J) : Wc E M_X12_plays (rmOf M_X12_plays 0 0) (fin E 0 0 (pKv K)) 0 0 438 [(0, Value.ref 87), (1, Value.int x1), (2, Value.int x2), (3, Value.int x3), (4, Value.int x4)] [] (hp I J) := by
  unfold b_X12_plays_438 at h
  refine r_iload_n 439 2 dX12_plays_438 rfl rfl rfl ?_
  refine r_if_eq 480 442 dX12_plays_439 (by decide) rfl (fun b0 => ?_) (fun b0 => ?_)
  · have h := h.1 b0
    exact w_lv (tb_X12_plays_480 K _ _ _ _ h) [0, 1, 2] rfl
  · have h := h.2 b0
    refine r_iload 444 4 dX12_plays_442 rfl rfl ?_
    refine r_if_ne 480 447 dX12_plays_444 (by decide) rfl (fun b0 => ?_) (fun b0 => ?_)
    · have h := h.1 b0
      exact w_lv (tb_X12_plays_480 K _ _ _ _ h) [0, 1, 2] rfl
    · have h := h.2 b0
      refine r_aload_n 448 0 dX12_plays_447 rfl rfl rfl ?_
      refine p_getR 451 oS_87 fl_X12_82 rfl qS_87_29 dX12_plays_448 rfl ?_
      refine r_iload_n 452 3 dX12_plays_451 rfl rfl rfl ?_
      obtain ⟨o1, h⟩ := h
      refine p_iaload 453 _ rfl aS_111 o1 dX12_plays_452 rfl ?_
      refine r_if_ne 460 456 dX12_plays_453 (by decide) rfl (fun b0 => ?_) (fun b0 => ?_)
      · have h := h.1 b0
        refine r_iconst 461 0 dX12_plays_460 rfl (by decide) ?_
        exact w_lv (tb_X12_plays_461 K _ _ _ _ _ _ nb0 h) [0, 1, 2, 3] rfl
      · have h := h.2 b0
        refine r_iconst 457 1 dX12_plays_456 rfl (by decide) ?_
        refine r_goto 461 dX12_plays_457 (by decide) ?_
        exact w_lv (tb_X12_plays_461 K _ _ _ _ _ _ nb1 h) [0, 1, 2, 3] rfl
def b_X12_plays_410 (K : Ih → Jh → Prop)  (x1 : Int32) (x2 : Int32) (x3 : Int32) (x4 : Int32) (I : Ih) (J : Jh) : Prop :=
    vp_in x3 9000 ∧
    ((¬ (I 111 (Int32.toNatClampNeg x3)) = 0 →
    b_X12_plays_438 K x1 x2 x3 x4 I J) ∧
    ((I 111 (Int32.toNatClampNeg x3)) = 0 →
    vc_X12_gives x3 0 (-1) (-1) (-1) I J (fun I2 J3 =>
    vp_in x3 9000 ∧
    ∀ I6 : Ih, I6 = updI I2 116 (Int32.toNatClampNeg x3) 0 → b_X12_plays_438 K x1 x2 x3 0 I6 J3)))
set_option maxRecDepth 20000 in
theorem tb_X12_plays_410 {E : Ev} (K : Ih → Jh → Prop)   (x1 : Int32) (x2 : Int32) (x3 : Int32) (x4 : Int32) (I : Ih) (J : Jh) (hb4 : nb x4) (h : b_X12_plays_410 K x1 x2 x3 x4 I J) : Wc E M_X12_plays (rmOf M_X12_plays 0 0) (fin E 0 0 (pKv K)) 0 0 410 [(0, Value.ref 87), (1, Value.int x1), (2, Value.int x2), (3, Value.int x3), (4, Value.int x4)] [] (hp I J) := by
  unfold b_X12_plays_410 at h
  refine r_aload_n 411 0 dX12_plays_410 rfl rfl rfl ?_
  refine p_getR 414 oS_87 fl_X12_82 rfl qS_87_29 dX12_plays_411 rfl ?_
  refine r_iload_n 415 3 dX12_plays_414 rfl rfl rfl ?_
  obtain ⟨o1, h⟩ := h
  refine p_iaload 416 _ rfl aS_111 o1 dX12_plays_415 rfl ?_
  refine r_if_ne 438 419 dX12_plays_416 (by decide) rfl (fun b0 => ?_) (fun b0 => ?_)
  · have h := h.1 b0
    exact w_lv (tb_X12_plays_438 K _ _ _ _ _ _ hb4 h) [0, 1, 2, 3, 4] rfl
  · have h := h.2 b0
    refine r_aload_n 420 0 dX12_plays_419 rfl rfl rfl ?_
    refine r_iload_n 421 3 dX12_plays_420 rfl rfl rfl ?_
    refine r_iconst 422 0 dX12_plays_421 rfl (by decide) ?_
    refine r_iconst 423 (-1) dX12_plays_422 rfl (by decide) ?_
    refine r_iconst 424 (-1) dX12_plays_423 rfl (by decide) ?_
    refine r_iconst 425 (-1) dX12_plays_424 rfl (by decide) ?_
    refine p_callVv 428 (as := [Value.int _, Value.int _, Value.int _, Value.int _, Value.int _]) (t_X12_gives _ _ _ _ _ _ _ _ h) ok_X12_gives ml_X12_346 im_X12_gives se_X12_gives oS_87 rfl (RMOK.mk (by decide) (by decide)) (Nat.le_of_ble_eq_true rfl) rfl dX12_plays_425 rfl (fun I2 J3 h => ?_)
    refine r_aload_n 429 0 dX12_plays_428 rfl rfl rfl ?_
    refine p_getR 432 oS_87 fl_X12_97 rfl qS_87_34 dX12_plays_429 rfl ?_
    refine r_iload_n 433 3 dX12_plays_432 rfl rfl rfl ?_
    refine r_iconst 434 0 dX12_plays_433 rfl (by decide) ?_
    obtain ⟨o5, h⟩ := h
    have h := h _ rfl
    refine p_iastore 435 _ rfl aS_116 o5 dX12_plays_434 rfl ?_
    refine r_iconst 436 0 dX12_plays_435 rfl (by decide) ?_
    refine r_istore 438 [(4, _), (0, _), (1, _), (2, _), (3, _)] dX12_plays_436 rfl (by decide) rfl ?_
    exact w_lv (tb_X12_plays_438 K _ _ _ _ _ _ nb0 h) [1, 2, 3, 4, 0] rfl
def b_X12_plays_343 (K : Ih → Jh → Prop)  (x1 : Int32) (x2 : Int32) (x3 : Int32) (x4 : Int32) (I : Ih) (J : Jh) : Prop :=
    vp_in x1 3 ∧
    vp_in x3 9000 ∧
    ∀ I3 : Ih, I3 = updI I 115 (Int32.toNatClampNeg x3) (I 106 (Int32.toNatClampNeg x1)) → vp_in x1 3 ∧
    ∀ y5 : Int32, y5 = (2 * x1) + (I3 106 (Int32.toNatClampNeg x1)) → vp_in y5 6 ∧
    ((x2 < (I3 107 (Int32.toNatClampNeg y5)) →
    b_X12_plays_410 K x1 x2 x3 x4 I3 J) ∧
    (¬ x2 < (I3 107 (Int32.toNatClampNeg y5)) →
    vp_in y5 6 ∧
    (((I3 108 (Int32.toNatClampNeg y5)) ≤ x2 →
    b_X12_plays_410 K x1 x2 x3 x4 I3 J) ∧
    (¬ (I3 108 (Int32.toNatClampNeg y5)) ≤ x2 →
    vp_in x3 9000 ∧
    ∀ I9 : Ih, I9 = updI I3 111 (Int32.toNatClampNeg x3) 0 → vp_in x1 3 ∧
    vp_in x1 3 ∧
    ∀ I12 : Ih, I12 = updI I9 106 (Int32.toNatClampNeg x1) (1 - (I9 106 (Int32.toNatClampNeg x1))) → b_X12_plays_410 K x1 x2 x3 x4 I12 J))))
set_option maxRecDepth 20000 in
theorem tb_X12_plays_343 {E : Ev} (K : Ih → Jh → Prop)   (x1 : Int32) (x2 : Int32) (x3 : Int32) (x4 : Int32) (I : Ih) (J : Jh) (hb4 : nb x4) (h : b_X12_plays_343 K x1 x2 x3 x4 I J) : Wc E M_X12_plays (rmOf M_X12_plays 0 0) (fin E 0 0 (pKv K)) 0 0 343 [(0, Value.ref 87), (1, Value.int x1), (2, Value.int x2), (3, Value.int x3), (4, Value.int x4)] [] (hp I J) := by
  unfold b_X12_plays_343 at h
  refine r_aload_n 344 0 dX12_plays_343 rfl rfl rfl ?_
  refine p_getR 347 oS_87 fl_X12_94 rfl qS_87_33 dX12_plays_344 rfl ?_
  refine r_iload_n 348 3 dX12_plays_347 rfl rfl rfl ?_
  refine r_aload_n 349 0 dX12_plays_348 rfl rfl rfl ?_
  refine p_getR 352 oS_87 fl_X12_67 rfl qS_87_24 dX12_plays_349 rfl ?_
  refine r_iload_n 353 1 dX12_plays_352 rfl rfl rfl ?_
  obtain ⟨o1, h⟩ := h
  refine p_iaload 354 _ rfl aS_106 o1 dX12_plays_353 rfl ?_
  obtain ⟨o2, h⟩ := h
  have h := h _ rfl
  refine p_iastore 355 _ rfl aS_115 o2 dX12_plays_354 rfl ?_
  refine r_iconst 356 2 dX12_plays_355 rfl (by decide) ?_
  refine r_iload_n 357 1 dX12_plays_356 rfl rfl rfl ?_
  refine r_imul 358 dX12_plays_357 rfl ?_
  refine r_aload_n 359 0 dX12_plays_358 rfl rfl rfl ?_
  refine p_getR 362 oS_87 fl_X12_67 rfl qS_87_24 dX12_plays_359 rfl ?_
  refine r_iload_n 363 1 dX12_plays_362 rfl rfl rfl ?_
  obtain ⟨o4, h⟩ := h
  refine p_iaload 364 _ rfl aS_106 o4 dX12_plays_363 rfl ?_
  refine r_iadd 365 dX12_plays_364 rfl ?_
  have h := h _ rfl
  refine r_istore 367 [(5, _), (0, _), (1, _), (2, _), (3, _), (4, _)] dX12_plays_365 rfl (by decide) rfl ?_
  refine r_iload_n 368 3 dX12_plays_367 rfl rfl rfl ?_
  refine r_aload_n 369 1 dX12_plays_368 rfl rfl rfl ?_
  refine p_getR 372 oS_87 fl_X12_70 rfl qS_87_25 dX12_plays_369 rfl ?_
  refine r_iload 374 0 dX12_plays_372 rfl rfl ?_
  obtain ⟨o6, h⟩ := h
  refine p_iaload 375 _ rfl aS_107 o6 dX12_plays_374 rfl ?_
  refine r_icmp_lt 410 378 dX12_plays_375 (by decide) rfl (fun b0 => ?_) (fun b0 => ?_)
  · have h := h.1 b0
    exact w_lv (tb_X12_plays_410 K _ _ _ _ _ _ hb4 h) [1, 2, 3, 4, 5] rfl
  · have h := h.2 b0
    refine r_iload_n 379 3 dX12_plays_378 rfl rfl rfl ?_
    refine r_aload_n 380 1 dX12_plays_379 rfl rfl rfl ?_
    refine p_getR 383 oS_87 fl_X12_73 rfl qS_87_26 dX12_plays_380 rfl ?_
    refine r_iload 385 0 dX12_plays_383 rfl rfl ?_
    obtain ⟨o7, h⟩ := h
    refine p_iaload 386 _ rfl aS_108 o7 dX12_plays_385 rfl ?_
    refine r_icmp_ge 410 389 dX12_plays_386 (by decide) rfl (fun b0 => ?_) (fun b0 => ?_)
    · have h := h.1 b0
      exact w_lv (tb_X12_plays_410 K _ _ _ _ _ _ hb4 h) [1, 2, 3, 4, 5] rfl
    · have h := h.2 b0
      refine r_aload_n 390 1 dX12_plays_389 rfl rfl rfl ?_
      refine p_getR 393 oS_87 fl_X12_82 rfl qS_87_29 dX12_plays_390 rfl ?_
      refine r_iload_n 394 4 dX12_plays_393 rfl rfl rfl ?_
      refine r_iconst 395 0 dX12_plays_394 rfl (by decide) ?_
      obtain ⟨o8, h⟩ := h
      have h := h _ rfl
      refine p_iastore 396 _ rfl aS_111 o8 dX12_plays_395 rfl ?_
      refine r_aload_n 397 1 dX12_plays_396 rfl rfl rfl ?_
      refine p_getR 400 oS_87 fl_X12_67 rfl qS_87_24 dX12_plays_397 rfl ?_
      refine r_iload_n 401 2 dX12_plays_400 rfl rfl rfl ?_
      refine r_iconst 402 1 dX12_plays_401 rfl (by decide) ?_
      refine r_aload_n 403 1 dX12_plays_402 rfl rfl rfl ?_
      refine p_getR 406 oS_87 fl_X12_67 rfl qS_87_24 dX12_plays_403 rfl ?_
      refine r_iload_n 407 2 dX12_plays_406 rfl rfl rfl ?_
      obtain ⟨o10, h⟩ := h
      refine p_iaload 408 _ rfl aS_106 o10 dX12_plays_407 rfl ?_
      refine r_isub 409 dX12_plays_408 rfl ?_
      obtain ⟨o11, h⟩ := h
      have h := h _ rfl
      refine p_iastore 410 _ rfl aS_106 o11 dX12_plays_409 rfl ?_
      exact w_lv (tb_X12_plays_410 K _ _ _ _ _ _ hb4 h) [1, 2, 3, 4, 5] rfl
def b_X12_plays_342 (K : Ih → Jh → Prop)  (x1 : Int32) (x2 : Int32) (x3 : Int32) (x4 : Int32) (s1 : Int32) (s2 : Int32) (I : Ih) (J : Jh) : Prop :=
    vp_in s1 3 ∧
    ∀ I2 : Ih, I2 = updI I 109 (Int32.toNatClampNeg s1) s2 → b_X12_plays_343 K x1 x2 x3 x4 I2 J
set_option maxRecDepth 20000 in
theorem tb_X12_plays_342 {E : Ev} (K : Ih → Jh → Prop)   (x1 : Int32) (x2 : Int32) (x3 : Int32) (x4 : Int32) (s1 : Int32) (s2 : Int32) (I : Ih) (J : Jh) (hb4 : nb x4) (h : b_X12_plays_342 K x1 x2 x3 x4 s1 s2 I J) : Wc E M_X12_plays (rmOf M_X12_plays 0 0) (fin E 0 0 (pKv K)) 0 0 342 [(0, Value.ref 87), (1, Value.int x1), (2, Value.int x2), (3, Value.int x3), (4, Value.int x4)] [Value.int s2, Value.int s1, Value.ref 109] (hp I J) := by
  unfold b_X12_plays_342 at h
  obtain ⟨o1, h⟩ := h
  have h := h _ rfl
  refine p_iastore 343 _ rfl aS_109 o1 dX12_plays_342 rfl ?_
  exact w_lv (tb_X12_plays_343 K _ _ _ _ _ _ hb4 h) [0, 1, 2, 3, 4] rfl
def b_X12_plays_266 (K : Ih → Jh → Prop)  (x1 : Int32) (x2 : Int32) (x3 : Int32) (s0 : Int32) (I : Ih) (J : Jh) : Prop :=
    vp_in x1 3 ∧
    vp_in x1 3 ∧
    vp_in (I 109 (Int32.toNatClampNeg x1)) 6 ∧
    vp_in x1 3 ∧
    vc_X12_gives x3 2 (I 109 (Int32.toNatClampNeg x1)) (I 90 (Int32.toNatClampNeg (I 109 (Int32.toNatClampNeg x1)))) (I 110 (Int32.toNatClampNeg x1)) I J (fun I5 J6 =>
    vp_in x1 3 ∧
    vp_in x1 3 ∧
    ∀ I10 : Ih, I10 = updI I5 110 (Int32.toNatClampNeg x1) ((I5 110 (Int32.toNatClampNeg x1)) + 1) → vp_in x1 3 ∧
    vp_in x1 3 ∧
    vp_in (I10 109 (Int32.toNatClampNeg x1)) 6 ∧
    ((¬ (I10 110 (Int32.toNatClampNeg x1)) = (I10 91 (Int32.toNatClampNeg (I10 109 (Int32.toNatClampNeg x1)))) →
    vp_in x1 3 ∧
    b_X12_plays_342 K x1 x2 x3 s0 x1 (I10 109 (Int32.toNatClampNeg x1)) I10 J6) ∧
    ((I10 110 (Int32.toNatClampNeg x1)) = (I10 91 (Int32.toNatClampNeg (I10 109 (Int32.toNatClampNeg x1)))) →
    b_X12_plays_342 K x1 x2 x3 s0 x1 (-1) I10 J6)))
set_option maxRecDepth 20000 in
theorem tb_X12_plays_266 {E : Ev} (K : Ih → Jh → Prop)   (x1 : Int32) (x2 : Int32) (x3 : Int32) (s0 : Int32) (I : Ih) (J : Jh) (hbs0 : nb s0) (h : b_X12_plays_266 K x1 x2 x3 s0 I J) : Wc E M_X12_plays (rmOf M_X12_plays 0 0) (fin E 0 0 (pKv K)) 0 0 266 [(0, Value.ref 87), (1, Value.int x1), (2, Value.int x2), (3, Value.int x3)] [Value.int s0] (hp I J) := by
  unfold b_X12_plays_266 at h
  refine r_istore 268 [(4, _), (0, _), (1, _), (2, _), (3, _)] dX12_plays_266 rfl (by decide) rfl ?_
  refine r_aload_n 269 1 dX12_plays_268 rfl rfl rfl ?_
  refine r_iload_n 270 4 dX12_plays_269 rfl rfl rfl ?_
  refine r_iconst 271 2 dX12_plays_270 rfl (by decide) ?_
  refine r_aload_n 272 1 dX12_plays_271 rfl rfl rfl ?_
  refine p_getR 275 oS_87 fl_X12_76 rfl qS_87_27 dX12_plays_272 rfl ?_
  refine r_iload_n 276 2 dX12_plays_275 rfl rfl rfl ?_
  obtain ⟨o1, h⟩ := h
  refine p_iaload 277 _ rfl aS_109 o1 dX12_plays_276 rfl ?_
  refine r_aload_n 278 1 dX12_plays_277 rfl rfl rfl ?_
  refine p_getR 281 oS_87 fl_X12_16 rfl qS_87_7 dX12_plays_278 rfl ?_
  refine r_aload_n 282 1 dX12_plays_281 rfl rfl rfl ?_
  refine p_getR 285 oS_87 fl_X12_76 rfl qS_87_27 dX12_plays_282 rfl ?_
  refine r_iload_n 286 2 dX12_plays_285 rfl rfl rfl ?_
  obtain ⟨o2, h⟩ := h
  refine p_iaload 287 _ rfl aS_109 o2 dX12_plays_286 rfl ?_
  obtain ⟨o3, h⟩ := h
  refine p_iaload 288 _ rfl aS_90 o3 dX12_plays_287 rfl ?_
  refine r_aload_n 289 1 dX12_plays_288 rfl rfl rfl ?_
  refine p_getR 292 oS_87 fl_X12_79 rfl qS_87_28 dX12_plays_289 rfl ?_
  refine r_iload_n 293 2 dX12_plays_292 rfl rfl rfl ?_
  obtain ⟨o4, h⟩ := h
  refine p_iaload 294 _ rfl aS_110 o4 dX12_plays_293 rfl ?_
  refine p_callVv 297 (as := [Value.int _, Value.int _, Value.int _, Value.int _, Value.int _]) (t_X12_gives _ _ _ _ _ _ _ _ h) ok_X12_gives ml_X12_346 im_X12_gives se_X12_gives oS_87 rfl (RMOK.mk (by decide) (by decide)) (Nat.le_of_ble_eq_true rfl) rfl dX12_plays_294 rfl (fun I5 J6 h => ?_)
  refine r_aload_n 298 1 dX12_plays_297 rfl rfl rfl ?_
  refine p_getR 301 oS_87 fl_X12_79 rfl qS_87_28 dX12_plays_298 rfl ?_
  refine r_iload_n 302 2 dX12_plays_301 rfl rfl rfl ?_
  refine r_dup2 303 dX12_plays_302 rfl rfl rfl ?_
  obtain ⟨o8, h⟩ := h
  refine p_iaload 304 _ rfl aS_110 o8 dX12_plays_303 rfl ?_
  refine r_iconst 305 1 dX12_plays_304 rfl (by decide) ?_
  refine r_iadd 306 dX12_plays_305 rfl ?_
  obtain ⟨o9, h⟩ := h
  have h := h _ rfl
  refine p_iastore 307 _ rfl aS_110 o9 dX12_plays_306 rfl ?_
  refine r_aload_n 308 1 dX12_plays_307 rfl rfl rfl ?_
  refine p_getR 311 oS_87 fl_X12_76 rfl qS_87_27 dX12_plays_308 rfl ?_
  refine r_iload_n 312 2 dX12_plays_311 rfl rfl rfl ?_
  refine r_aload_n 313 1 dX12_plays_312 rfl rfl rfl ?_
  refine p_getR 316 oS_87 fl_X12_79 rfl qS_87_28 dX12_plays_313 rfl ?_
  refine r_iload_n 317 2 dX12_plays_316 rfl rfl rfl ?_
  obtain ⟨o11, h⟩ := h
  refine p_iaload 318 _ rfl aS_110 o11 dX12_plays_317 rfl ?_
  refine r_aload_n 319 1 dX12_plays_318 rfl rfl rfl ?_
  refine p_getR 322 oS_87 fl_X12_19 rfl qS_87_8 dX12_plays_319 rfl ?_
  refine r_aload_n 323 1 dX12_plays_322 rfl rfl rfl ?_
  refine p_getR 326 oS_87 fl_X12_76 rfl qS_87_27 dX12_plays_323 rfl ?_
  refine r_iload_n 327 2 dX12_plays_326 rfl rfl rfl ?_
  obtain ⟨o12, h⟩ := h
  refine p_iaload 328 _ rfl aS_109 o12 dX12_plays_327 rfl ?_
  obtain ⟨o13, h⟩ := h
  refine p_iaload 329 _ rfl aS_91 o13 dX12_plays_328 rfl ?_
  refine r_icmp_ne 336 332 dX12_plays_329 (by decide) rfl (fun b0 => ?_) (fun b0 => ?_)
  · have h := h.1 b0
    refine r_aload_n 337 1 dX12_plays_336 rfl rfl rfl ?_
    refine p_getR 340 oS_87 fl_X12_76 rfl qS_87_27 dX12_plays_337 rfl ?_
    refine r_iload_n 341 2 dX12_plays_340 rfl rfl rfl ?_
    obtain ⟨o14, h⟩ := h
    refine p_iaload 342 _ rfl aS_109 o14 dX12_plays_341 rfl ?_
    exact w_lv (tb_X12_plays_342 K _ _ _ _ _ _ _ _ hbs0 h) [1, 2, 3, 4, 0] rfl
  · have h := h.2 b0
    refine r_iconst 333 (-1) dX12_plays_332 rfl (by decide) ?_
    refine r_goto 342 dX12_plays_333 (by decide) ?_
    exact w_lv (tb_X12_plays_342 K _ _ _ _ _ _ _ _ hbs0 h) [1, 2, 3, 4, 0] rfl
def b_X12_plays_242 (K : Ih → Jh → Prop)  (x1 : Int32) (x2 : Int32) (x3 : Int32) (x4 : Int32) (I : Ih) (J : Jh) : Prop :=
    vp_in x1 3 ∧
    (((I 109 (Int32.toNatClampNeg x1)) = (-1) →
    b_X12_plays_343 K x1 x2 x3 x4 I J) ∧
    (¬ (I 109 (Int32.toNatClampNeg x1)) = (-1) →
    vp_in x1 3 ∧
    ((¬ (I 110 (Int32.toNatClampNeg x1)) = 0 →
    b_X12_plays_266 K x1 x2 x3 0 I J) ∧
    ((I 110 (Int32.toNatClampNeg x1)) = 0 →
    b_X12_plays_266 K x1 x2 x3 1 I J))))
set_option maxRecDepth 20000 in
theorem tb_X12_plays_242 {E : Ev} (K : Ih → Jh → Prop)   (x1 : Int32) (x2 : Int32) (x3 : Int32) (x4 : Int32) (I : Ih) (J : Jh) (hb4 : nb x4) (h : b_X12_plays_242 K x1 x2 x3 x4 I J) : Wc E M_X12_plays (rmOf M_X12_plays 0 0) (fin E 0 0 (pKv K)) 0 0 242 [(0, Value.ref 87), (1, Value.int x1), (2, Value.int x2), (3, Value.int x3), (4, Value.int x4)] [] (hp I J) := by
  unfold b_X12_plays_242 at h
  refine r_aload_n 243 0 dX12_plays_242 rfl rfl rfl ?_
  refine p_getR 246 oS_87 fl_X12_76 rfl qS_87_27 dX12_plays_243 rfl ?_
  refine r_iload_n 247 1 dX12_plays_246 rfl rfl rfl ?_
  obtain ⟨o1, h⟩ := h
  refine p_iaload 248 _ rfl aS_109 o1 dX12_plays_247 rfl ?_
  refine r_iconst 249 (-1) dX12_plays_248 rfl (by decide) ?_
  refine r_icmp_eq 343 252 dX12_plays_249 (by decide) rfl (fun b0 => ?_) (fun b0 => ?_)
  · have h := h.1 b0
    exact w_lv (tb_X12_plays_343 K _ _ _ _ _ _ hb4 h) [0, 1, 2, 3, 4] rfl
  · have h := h.2 b0
    refine r_aload_n 253 0 dX12_plays_252 rfl rfl rfl ?_
    refine p_getR 256 oS_87 fl_X12_79 rfl qS_87_28 dX12_plays_253 rfl ?_
    refine r_iload_n 257 1 dX12_plays_256 rfl rfl rfl ?_
    obtain ⟨o2, h⟩ := h
    refine p_iaload 258 _ rfl aS_110 o2 dX12_plays_257 rfl ?_
    refine r_if_ne 265 261 dX12_plays_258 (by decide) rfl (fun b0 => ?_) (fun b0 => ?_)
    · have h := h.1 b0
      refine r_iconst 266 0 dX12_plays_265 rfl (by decide) ?_
      exact w_lv (tb_X12_plays_266 K _ _ _ _ _ _ nb0 h) [0, 1, 2, 3] rfl
    · have h := h.2 b0
      refine r_iconst 262 1 dX12_plays_261 rfl (by decide) ?_
      refine r_goto 266 dX12_plays_262 (by decide) ?_
      exact w_lv (tb_X12_plays_266 K _ _ _ _ _ _ nb1 h) [0, 1, 2, 3] rfl
def b_X12_plays_198 (K : Ih → Jh → Prop)  (x1 : Int32) (x2 : Int32) (x3 : Int32) (x4 : Int32) (x5 : Int32) (s1 : Int32) (s2 : Int32) (I : Ih) (J : Jh) : Prop :=
    vp_in s1 9000 ∧
    ∀ I2 : Ih, I2 = updI I 116 (Int32.toNatClampNeg s1) s2 → vp_in x5 180 ∧
    vp_in x5 180 ∧
    ∀ I5 : Ih, I5 = updI I2 101 (Int32.toNatClampNeg x5) ((I2 101 (Int32.toNatClampNeg x5)) + 1) → b_X12_plays_343 K x1 x2 x3 x4 I5 J
set_option maxRecDepth 20000 in
theorem tb_X12_plays_198 {E : Ev} (K : Ih → Jh → Prop)   (x1 : Int32) (x2 : Int32) (x3 : Int32) (x4 : Int32) (x5 : Int32) (s1 : Int32) (s2 : Int32) (I : Ih) (J : Jh) (hb4 : nb x4) (h : b_X12_plays_198 K x1 x2 x3 x4 x5 s1 s2 I J) : Wc E M_X12_plays (rmOf M_X12_plays 0 0) (fin E 0 0 (pKv K)) 0 0 198 [(0, Value.ref 87), (1, Value.int x1), (2, Value.int x2), (3, Value.int x3), (4, Value.int x4), (5, Value.int x5)] [Value.int s2, Value.int s1, Value.ref 116] (hp I J) := by
  unfold b_X12_plays_198 at h
  obtain ⟨o1, h⟩ := h
  have h := h _ rfl
  refine p_iastore 199 _ rfl aS_116 o1 dX12_plays_198 rfl ?_
  refine r_aload_n 200 0 dX12_plays_199 rfl rfl rfl ?_
  refine p_getR 203 oS_87 fl_X12_52 rfl qS_87_19 dX12_plays_200 rfl ?_
  refine r_iload 205 5 dX12_plays_203 rfl rfl ?_
  refine r_dup2 206 dX12_plays_205 rfl rfl rfl ?_
  obtain ⟨o3, h⟩ := h
  refine p_iaload 207 _ rfl aS_101 o3 dX12_plays_206 rfl ?_
  refine r_iconst 208 1 dX12_plays_207 rfl (by decide) ?_
  refine r_iadd 209 dX12_plays_208 rfl ?_
  obtain ⟨o4, h⟩ := h
  have h := h _ rfl
  refine p_iastore 210 _ rfl aS_101 o4 dX12_plays_209 rfl ?_
  refine r_goto 343 dX12_plays_210 (by decide) ?_
  exact w_lv (tb_X12_plays_343 K _ _ _ _ _ _ hb4 h) [0, 1, 2, 3, 4] rfl
def b_X12_plays_197 (K : Ih → Jh → Prop)  (x1 : Int32) (x2 : Int32) (x3 : Int32) (x4 : Int32) (x5 : Int32) (s1 : Int32) (I : Ih) (J : Jh) : Prop :=
    b_X12_plays_198 K x1 x2 x3 x4 x5 s1 0 I J
set_option maxRecDepth 20000 in
theorem tb_X12_plays_197 {E : Ev} (K : Ih → Jh → Prop)   (x1 : Int32) (x2 : Int32) (x3 : Int32) (x4 : Int32) (x5 : Int32) (s1 : Int32) (I : Ih) (J : Jh) (hb4 : nb x4) (h : b_X12_plays_197 K x1 x2 x3 x4 x5 s1 I J) : Wc E M_X12_plays (rmOf M_X12_plays 0 0) (fin E 0 0 (pKv K)) 0 0 197 [(0, Value.ref 87), (1, Value.int x1), (2, Value.int x2), (3, Value.int x3), (4, Value.int x4), (5, Value.int x5)] [Value.int s1, Value.ref 116] (hp I J) := by
  unfold b_X12_plays_197 at h
  refine r_iconst 198 0 dX12_plays_197 rfl (by decide) ?_
  exact w_lv (tb_X12_plays_198 K _ _ _ _ _ _ _ _ _ hb4 h) [0, 1, 2, 3, 4, 5] rfl
def b_X12_plays_110 (K : Ih → Jh → Prop)  (x1 : Int32) (x2 : Int32) (x3 : Int32) (x5 : Int32) (x6 : Int32) (s0 : Int32) (I : Ih) (J : Jh) : Prop :=
    vp_in x1 3 ∧
    vp_in x5 180 ∧
    vp_in x5 180 ∧
    vp_in (I 98 (Int32.toNatClampNeg x5)) 16 ∧
    ¬ (I 88 (Int32.toNatClampNeg (I 98 (Int32.toNatClampNeg x5)))) = 0 ∧
    vc_X12_gives x3 1 (I 103 (Int32.toNatClampNeg x1)) (I 98 (Int32.toNatClampNeg x5)) (x6 - x6 / (I 88 (Int32.toNatClampNeg (I 98 (Int32.toNatClampNeg x5)))) * (I 88 (Int32.toNatClampNeg (I 98 (Int32.toNatClampNeg x5))))) I J (fun I6 J7 =>
    vp_in x5 180 ∧
    ((¬ (I6 96 (Int32.toNatClampNeg x5)) = 3 →
    b_X12_plays_197 K x1 x2 x3 s0 x5 x3 I6 J7) ∧
    ((I6 96 (Int32.toNatClampNeg x5)) = 3 →
    vp_in x5 180 ∧
    vp_in x5 180 ∧
    (((I6 99 (Int32.toNatClampNeg x5)) ≤ (I6 101 (Int32.toNatClampNeg x5)) →
    b_X12_plays_197 K x1 x2 x3 s0 x5 x3 I6 J7) ∧
    (¬ (I6 99 (Int32.toNatClampNeg x5)) ≤ (I6 101 (Int32.toNatClampNeg x5)) →
    vp_in x5 180 ∧
    vp_in x5 180 ∧
    b_X12_plays_198 K x1 x2 x3 s0 x5 x3 ((I6 99 (Int32.toNatClampNeg x5)) - (I6 101 (Int32.toNatClampNeg x5))) I6 J7)))))
set_option maxRecDepth 20000 in
theorem tb_X12_plays_110 {E : Ev} (K : Ih → Jh → Prop)   (x1 : Int32) (x2 : Int32) (x3 : Int32) (x5 : Int32) (x6 : Int32) (s0 : Int32) (I : Ih) (J : Jh) (hbs0 : nb s0) (h : b_X12_plays_110 K x1 x2 x3 x5 x6 s0 I J) : Wc E M_X12_plays (rmOf M_X12_plays 0 0) (fin E 0 0 (pKv K)) 0 0 110 [(0, Value.ref 87), (1, Value.int x1), (2, Value.int x2), (3, Value.int x3), (5, Value.int x5), (6, Value.int x6)] [Value.int s0] (hp I J) := by
  unfold b_X12_plays_110 at h
  refine r_istore 112 [(4, _), (0, _), (1, _), (2, _), (3, _), (5, _), (6, _)] dX12_plays_110 rfl (by decide) rfl ?_
  refine r_aload_n 113 1 dX12_plays_112 rfl rfl rfl ?_
  refine r_iload_n 114 4 dX12_plays_113 rfl rfl rfl ?_
  refine r_iconst 115 1 dX12_plays_114 rfl (by decide) ?_
  refine r_aload_n 116 1 dX12_plays_115 rfl rfl rfl ?_
  refine p_getR 119 oS_87 fl_X12_58 rfl qS_87_21 dX12_plays_116 rfl ?_
  refine r_iload_n 120 2 dX12_plays_119 rfl rfl rfl ?_
  obtain ⟨o1, h⟩ := h
  refine p_iaload 121 _ rfl aS_103 o1 dX12_plays_120 rfl ?_
  refine r_aload_n 122 1 dX12_plays_121 rfl rfl rfl ?_
  refine p_getR 125 oS_87 fl_X12_43 rfl qS_87_16 dX12_plays_122 rfl ?_
  refine r_iload 127 5 dX12_plays_125 rfl rfl ?_
  obtain ⟨o2, h⟩ := h
  refine p_iaload 128 _ rfl aS_98 o2 dX12_plays_127 rfl ?_
  refine r_iload 130 6 dX12_plays_128 rfl rfl ?_
  refine r_aload_n 131 1 dX12_plays_130 rfl rfl rfl ?_
  refine p_getR 134 oS_87 fl_X12_7 rfl qS_87_4 dX12_plays_131 rfl ?_
  refine r_aload_n 135 1 dX12_plays_134 rfl rfl rfl ?_
  refine p_getR 138 oS_87 fl_X12_43 rfl qS_87_16 dX12_plays_135 rfl ?_
  refine r_iload 140 5 dX12_plays_138 rfl rfl ?_
  obtain ⟨o3, h⟩ := h
  refine p_iaload 141 _ rfl aS_98 o3 dX12_plays_140 rfl ?_
  obtain ⟨o4, h⟩ := h
  refine p_iaload 142 _ rfl aS_88 o4 dX12_plays_141 rfl ?_
  obtain ⟨o5, h⟩ := h
  refine r_irem 143 dX12_plays_142 rfl o5 ?_
  refine p_callVv 146 (as := [Value.int _, Value.int _, Value.int _, Value.int _, Value.int _]) (t_X12_gives _ _ _ _ _ _ _ _ h) ok_X12_gives ml_X12_346 im_X12_gives se_X12_gives oS_87 rfl (RMOK.mk (by decide) (by decide)) (Nat.le_of_ble_eq_true rfl) rfl dX12_plays_143 rfl (fun I6 J7 h => ?_)
  refine r_aload_n 147 1 dX12_plays_146 rfl rfl rfl ?_
  refine p_getR 150 oS_87 fl_X12_97 rfl qS_87_34 dX12_plays_147 rfl ?_
  refine r_iload_n 151 4 dX12_plays_150 rfl rfl rfl ?_
  refine r_aload_n 152 1 dX12_plays_151 rfl rfl rfl ?_
  refine p_getR 155 oS_87 fl_X12_37 rfl qS_87_14 dX12_plays_152 rfl ?_
  refine r_iload 157 5 dX12_plays_155 rfl rfl ?_
  obtain ⟨o9, h⟩ := h
  refine p_iaload 158 _ rfl aS_96 o9 dX12_plays_157 rfl ?_
  refine r_iconst 159 3 dX12_plays_158 rfl (by decide) ?_
  refine r_icmp_ne 197 162 dX12_plays_159 (by decide) rfl (fun b0 => ?_) (fun b0 => ?_)
  · have h := h.1 b0
    exact w_lv (tb_X12_plays_197 K _ _ _ _ _ _ _ _ hbs0 h) [1, 2, 3, 4, 0, 5] rfl
  · have h := h.2 b0
    refine r_aload_n 163 1 dX12_plays_162 rfl rfl rfl ?_
    refine p_getR 166 oS_87 fl_X12_46 rfl qS_87_17 dX12_plays_163 rfl ?_
    refine r_iload 168 5 dX12_plays_166 rfl rfl ?_
    obtain ⟨o10, h⟩ := h
    refine p_iaload 169 _ rfl aS_99 o10 dX12_plays_168 rfl ?_
    refine r_aload_n 170 1 dX12_plays_169 rfl rfl rfl ?_
    refine p_getR 173 oS_87 fl_X12_52 rfl qS_87_19 dX12_plays_170 rfl ?_
    refine r_iload 175 5 dX12_plays_173 rfl rfl ?_
    obtain ⟨o11, h⟩ := h
    refine p_iaload 176 _ rfl aS_101 o11 dX12_plays_175 rfl ?_
    refine r_icmp_le 197 179 dX12_plays_176 (by decide) rfl (fun b0 => ?_) (fun b0 => ?_)
    · have h := h.1 b0
      exact w_lv (tb_X12_plays_197 K _ _ _ _ _ _ _ _ hbs0 h) [1, 2, 3, 4, 0, 5] rfl
    · have h := h.2 b0
      refine r_aload_n 180 1 dX12_plays_179 rfl rfl rfl ?_
      refine p_getR 183 oS_87 fl_X12_46 rfl qS_87_17 dX12_plays_180 rfl ?_
      refine r_iload 185 5 dX12_plays_183 rfl rfl ?_
      obtain ⟨o12, h⟩ := h
      refine p_iaload 186 _ rfl aS_99 o12 dX12_plays_185 rfl ?_
      refine r_aload_n 187 1 dX12_plays_186 rfl rfl rfl ?_
      refine p_getR 190 oS_87 fl_X12_52 rfl qS_87_19 dX12_plays_187 rfl ?_
      refine r_iload 192 5 dX12_plays_190 rfl rfl ?_
      obtain ⟨o13, h⟩ := h
      refine p_iaload 193 _ rfl aS_101 o13 dX12_plays_192 rfl ?_
      refine r_isub 194 dX12_plays_193 rfl ?_
      refine r_goto 198 dX12_plays_194 (by decide) ?_
      exact w_lv (tb_X12_plays_198 K _ _ _ _ _ _ _ _ _ hbs0 h) [1, 2, 3, 4, 0, 5] rfl
def b_X12_plays_92 (K : Ih → Jh → Prop)  (x1 : Int32) (x2 : Int32) (x3 : Int32) (x5 : Int32) (s0 : Int32) (I : Ih) (J : Jh) : Prop :=
    vp_in x5 180 ∧
    ((¬ (I 102 (Int32.toNatClampNeg x5)) = x2 →
    b_X12_plays_110 K x1 x2 x3 x5 s0 0 I J) ∧
    ((I 102 (Int32.toNatClampNeg x5)) = x2 →
    b_X12_plays_110 K x1 x2 x3 x5 s0 1 I J))
set_option maxRecDepth 20000 in
theorem tb_X12_plays_92 {E : Ev} (K : Ih → Jh → Prop)   (x1 : Int32) (x2 : Int32) (x3 : Int32) (x5 : Int32) (s0 : Int32) (I : Ih) (J : Jh) (h : b_X12_plays_92 K x1 x2 x3 x5 s0 I J) : Wc E M_X12_plays (rmOf M_X12_plays 0 0) (fin E 0 0 (pKv K)) 0 0 92 [(0, Value.ref 87), (1, Value.int x1), (2, Value.int x2), (3, Value.int x3), (5, Value.int x5)] [Value.int s0] (hp I J) := by
  unfold b_X12_plays_92 at h
  refine r_istore 94 [(6, _), (0, _), (1, _), (2, _), (3, _), (5, _)] dX12_plays_92 rfl (by decide) rfl ?_
  refine r_aload_n 95 1 dX12_plays_94 rfl rfl rfl ?_
  refine p_getR 98 oS_87 fl_X12_55 rfl qS_87_20 dX12_plays_95 rfl ?_
  refine r_iload 100 5 dX12_plays_98 rfl rfl ?_
  obtain ⟨o1, h⟩ := h
  refine p_iaload 101 _ rfl aS_102 o1 dX12_plays_100 rfl ?_
  refine r_iload_n 102 3 dX12_plays_101 rfl rfl rfl ?_
  refine r_icmp_ne 109 105 dX12_plays_102 (by decide) rfl (fun b0 => ?_) (fun b0 => ?_)
  · have h := h.1 b0
    refine r_iconst 110 0 dX12_plays_109 rfl (by decide) ?_
    exact w_lv (tb_X12_plays_110 K _ _ _ _ _ _ _ _ nb0 h) [1, 2, 3, 4, 5, 0] rfl
  · have h := h.2 b0
    refine r_iconst 106 1 dX12_plays_105 rfl (by decide) ?_
    refine r_goto 110 dX12_plays_106 (by decide) ?_
    exact w_lv (tb_X12_plays_110 K _ _ _ _ _ _ _ _ nb1 h) [1, 2, 3, 4, 5, 0] rfl
def vc_X12_plays (x1 : Int32) (x2 : Int32) (I : Ih) (J : Jh) (K : Ih → Jh → Prop) : Prop :=
    vc_X12_turns x1 x2 I J (fun I1 J2 =>
    ∀ y4 : Int32, y4 = (3000 * x1) + x2 → vp_in y4 9000 ∧
    ∀ I6 : Ih, I6 = updI I1 111 (Int32.toNatClampNeg y4) 0 → vp_in y4 9000 ∧
    ∀ I8 : Ih, I8 = updI I6 116 (Int32.toNatClampNeg y4) 0 → vp_in x1 3 ∧
    (((I8 103 (Int32.toNatClampNeg x1)) = (-1) →
    vp_in x1 3 ∧
    ((¬ (I8 109 (Int32.toNatClampNeg x1)) = (-1) →
    b_X12_plays_242 K x1 x2 y4 0 I8 J2) ∧
    ((I8 109 (Int32.toNatClampNeg x1)) = (-1) →
    vc_X12_chosen x1 x2 I8 J2 (fun (r13 : Int32) I11 J12 =>
    vp_in x1 3 ∧
    ∀ I15 : Ih, I15 = updI I11 109 (Int32.toNatClampNeg x1) r13 → vp_in x1 3 ∧
    ∀ I17 : Ih, I17 = updI I15 110 (Int32.toNatClampNeg x1) 0 → b_X12_plays_242 K x1 x2 y4 0 I17 J12)))) ∧
    (¬ (I8 103 (Int32.toNatClampNeg x1)) = (-1) →
    vp_in x1 3 ∧
    ∀ y19 : Int32, y19 = (60 * x1) + (I8 103 (Int32.toNatClampNeg x1)) → vp_in y19 180 ∧
    vp_in y19 180 ∧
    ((((I8 99 (Int32.toNatClampNeg y19)) - 1) ≤ (I8 101 (Int32.toNatClampNeg y19)) →
    vp_in y19 180 ∧
    b_X12_plays_92 K x1 x2 y4 y19 ((I8 99 (Int32.toNatClampNeg y19)) - 1) I8 J2) ∧
    (¬ ((I8 99 (Int32.toNatClampNeg y19)) - 1) ≤ (I8 101 (Int32.toNatClampNeg y19)) →
    vp_in y19 180 ∧
    b_X12_plays_92 K x1 x2 y4 y19 (I8 101 (Int32.toNatClampNeg y19)) I8 J2)))))
set_option maxRecDepth 20000 in
theorem t_X12_plays {E : Ev} (x1 : Int32) (x2 : Int32)  (I : Ih) (J : Jh) (K : Ih → Jh → Prop) (h : vc_X12_plays x1 x2 I J K) : Wm E M_X12_plays 0 0 [.ref 87, .int x1, .int x2] (hp I J) (pKv K) := by
  refine w_entry (by decide) (Nat.le_of_ble_eq_true rfl) ?_
  show Wc E M_X12_plays (rmOf M_X12_plays 0 0) (fin E 0 0 (pKv K)) 0 0 0 [(0, _), (1, _), (2, _)] [] (hp I J)
  unfold vc_X12_plays at h
  refine r_aload_n 1 0 dX12_plays_0 rfl rfl rfl ?_
  refine r_iload_n 2 1 dX12_plays_1 rfl rfl rfl ?_
  refine r_iload_n 3 2 dX12_plays_2 rfl rfl rfl ?_
  refine p_callVv 6 (as := [Value.int _, Value.int _]) (t_X12_turns _ _ _ _ _ h) ok_X12_turns ml_X12_343 im_X12_turns se_X12_turns oS_87 rfl (RMOK.mk (by decide) (by decide)) (Nat.le_of_ble_eq_true rfl) rfl dX12_plays_3 rfl (fun I1 J2 h => ?_)
  refine r_sipush 9 3000 dX12_plays_6 rfl (by decide) ?_
  refine r_iload_n 10 1 dX12_plays_9 rfl rfl rfl ?_
  refine r_imul 11 dX12_plays_10 rfl ?_
  refine r_iload_n 12 2 dX12_plays_11 rfl rfl rfl ?_
  refine r_iadd 13 dX12_plays_12 rfl ?_
  have h := h _ rfl
  refine r_istore_n 14 [(3, _), (0, _), (1, _), (2, _)] dX12_plays_13 rfl rfl (by decide) rfl ?_
  refine r_iconst 15 0 dX12_plays_14 rfl (by decide) ?_
  refine r_istore 17 [(4, _), (3, _), (0, _), (1, _), (2, _)] dX12_plays_15 rfl (by decide) rfl ?_
  refine r_aload_n 18 2 dX12_plays_17 rfl rfl rfl ?_
  refine p_getR 21 oS_87 fl_X12_82 rfl qS_87_29 dX12_plays_18 rfl ?_
  refine r_iload_n 22 1 dX12_plays_21 rfl rfl rfl ?_
  refine r_iconst 23 0 dX12_plays_22 rfl (by decide) ?_
  obtain ⟨o5, h⟩ := h
  have h := h _ rfl
  refine p_iastore 24 _ rfl aS_111 o5 dX12_plays_23 rfl ?_
  refine r_aload_n 25 2 dX12_plays_24 rfl rfl rfl ?_
  refine p_getR 28 oS_87 fl_X12_97 rfl qS_87_34 dX12_plays_25 rfl ?_
  refine r_iload_n 29 1 dX12_plays_28 rfl rfl rfl ?_
  refine r_iconst 30 0 dX12_plays_29 rfl (by decide) ?_
  obtain ⟨o7, h⟩ := h
  have h := h _ rfl
  refine p_iastore 31 _ rfl aS_116 o7 dX12_plays_30 rfl ?_
  refine r_aload_n 32 2 dX12_plays_31 rfl rfl rfl ?_
  refine p_getR 35 oS_87 fl_X12_58 rfl qS_87_21 dX12_plays_32 rfl ?_
  refine r_iload_n 36 3 dX12_plays_35 rfl rfl rfl ?_
  obtain ⟨o9, h⟩ := h
  refine p_iaload 37 _ rfl aS_103 o9 dX12_plays_36 rfl ?_
  refine r_iconst 38 (-1) dX12_plays_37 rfl (by decide) ?_
  refine r_icmp_eq 213 41 dX12_plays_38 (by decide) rfl (fun b0 => ?_) (fun b0 => ?_)
  · have h := h.1 b0
    refine r_aload_n 214 2 dX12_plays_213 rfl rfl rfl ?_
    refine p_getR 217 oS_87 fl_X12_76 rfl qS_87_27 dX12_plays_214 rfl ?_
    refine r_iload_n 218 3 dX12_plays_217 rfl rfl rfl ?_
    obtain ⟨o10, h⟩ := h
    refine p_iaload 219 _ rfl aS_109 o10 dX12_plays_218 rfl ?_
    refine r_iconst 220 (-1) dX12_plays_219 rfl (by decide) ?_
    refine r_icmp_ne 242 223 dX12_plays_220 (by decide) rfl (fun b0 => ?_) (fun b0 => ?_)
    · have h := h.1 b0
      exact w_lv (tb_X12_plays_242 K _ _ _ _ _ _ nb0 h) [2, 3, 4, 1, 0] rfl
    · have h := h.2 b0
      refine r_aload_n 224 2 dX12_plays_223 rfl rfl rfl ?_
      refine p_getR 227 oS_87 fl_X12_76 rfl qS_87_27 dX12_plays_224 rfl ?_
      refine r_iload_n 228 3 dX12_plays_227 rfl rfl rfl ?_
      refine r_aload_n 229 2 dX12_plays_228 rfl rfl rfl ?_
      refine r_iload_n 230 3 dX12_plays_229 rfl rfl rfl ?_
      refine r_iload_n 231 4 dX12_plays_230 rfl rfl rfl ?_
      refine p_callVi 234 (as := [Value.int _, Value.int _]) (t_X12_chosen _ _ _ _ _ h) ok_X12_chosen ml_X12_350 im_X12_chosen se_X12_chosen oS_87 rfl (RMOK.mk (by decide) (by decide)) (Nat.le_of_ble_eq_true rfl) rfl dX12_plays_231 rfl (fun r13 I11 J12 h => ?_)
      obtain ⟨o14, h⟩ := h
      have h := h _ rfl
      refine p_iastore 235 _ rfl aS_109 o14 dX12_plays_234 rfl ?_
      refine r_aload_n 236 2 dX12_plays_235 rfl rfl rfl ?_
      refine p_getR 239 oS_87 fl_X12_79 rfl qS_87_28 dX12_plays_236 rfl ?_
      refine r_iload_n 240 3 dX12_plays_239 rfl rfl rfl ?_
      refine r_iconst 241 0 dX12_plays_240 rfl (by decide) ?_
      obtain ⟨o16, h⟩ := h
      have h := h _ rfl
      refine p_iastore 242 _ rfl aS_110 o16 dX12_plays_241 rfl ?_
      exact w_lv (tb_X12_plays_242 K _ _ _ _ _ _ nb0 h) [2, 3, 4, 1, 0] rfl
  · have h := h.2 b0
    refine r_bipush 43 60 dX12_plays_41 rfl (by decide) ?_
    refine r_iload_n 44 3 dX12_plays_43 rfl rfl rfl ?_
    refine r_imul 45 dX12_plays_44 rfl ?_
    refine r_aload_n 46 2 dX12_plays_45 rfl rfl rfl ?_
    refine p_getR 49 oS_87 fl_X12_58 rfl qS_87_21 dX12_plays_46 rfl ?_
    refine r_iload_n 50 3 dX12_plays_49 rfl rfl rfl ?_
    obtain ⟨o18, h⟩ := h
    refine p_iaload 51 _ rfl aS_103 o18 dX12_plays_50 rfl ?_
    refine r_iadd 52 dX12_plays_51 rfl ?_
    have h := h _ rfl
    refine r_istore 54 [(5, _), (4, _), (3, _), (0, _), (1, _), (2, _)] dX12_plays_52 rfl (by decide) rfl ?_
    refine r_aload_n 55 3 dX12_plays_54 rfl rfl rfl ?_
    refine p_getR 58 oS_87 fl_X12_52 rfl qS_87_19 dX12_plays_55 rfl ?_
    refine r_iload 60 0 dX12_plays_58 rfl rfl ?_
    obtain ⟨o20, h⟩ := h
    refine p_iaload 61 _ rfl aS_101 o20 dX12_plays_60 rfl ?_
    refine r_aload_n 62 3 dX12_plays_61 rfl rfl rfl ?_
    refine p_getR 65 oS_87 fl_X12_46 rfl qS_87_17 dX12_plays_62 rfl ?_
    refine r_iload 67 0 dX12_plays_65 rfl rfl ?_
    obtain ⟨o21, h⟩ := h
    refine p_iaload 68 _ rfl aS_99 o21 dX12_plays_67 rfl ?_
    refine r_iconst 69 1 dX12_plays_68 rfl (by decide) ?_
    refine r_isub 70 dX12_plays_69 rfl ?_
    refine r_icmp_ge 83 73 dX12_plays_70 (by decide) rfl (fun b0 => ?_) (fun b0 => ?_)
    · have h := h.1 b0
      refine r_aload_n 84 3 dX12_plays_83 rfl rfl rfl ?_
      refine p_getR 87 oS_87 fl_X12_46 rfl qS_87_17 dX12_plays_84 rfl ?_
      refine r_iload 89 0 dX12_plays_87 rfl rfl ?_
      obtain ⟨o22, h⟩ := h
      refine p_iaload 90 _ rfl aS_99 o22 dX12_plays_89 rfl ?_
      refine r_iconst 91 1 dX12_plays_90 rfl (by decide) ?_
      refine r_isub 92 dX12_plays_91 rfl ?_
      exact w_lv (tb_X12_plays_92 K _ _ _ _ _ _ _ h) [3, 4, 5, 2, 0] rfl
    · have h := h.2 b0
      refine r_aload_n 74 3 dX12_plays_73 rfl rfl rfl ?_
      refine p_getR 77 oS_87 fl_X12_52 rfl qS_87_19 dX12_plays_74 rfl ?_
      refine r_iload 79 0 dX12_plays_77 rfl rfl ?_
      obtain ⟨o23, h⟩ := h
      refine p_iaload 80 _ rfl aS_101 o23 dX12_plays_79 rfl ?_
      refine r_goto 92 dX12_plays_80 (by decide) ?_
      exact w_lv (tb_X12_plays_92 K _ _ _ _ _ _ _ h) [3, 4, 5, 2, 0] rfl
def vc_X12_set (x1 : Int32) (x2 : Int32) (x3 : Int32) (x4 : Int32) (I : Ih) (J : Jh) (K : Int32 → Ih → Jh → Prop) : Prop :=
    vc_X12_isChannel x1 I J (fun (r3 : Int32) I1 J2 =>
    ((r3 = 0 →
    K (-2) I1 J2) ∧
    (¬ r3 = 0 →
    vc_X12_in ((x2 : Int32).toInt64) 16 1000 I1 J2 (fun (r6 : Int32) I4 J5 =>
    ((r6 = 0 →
    K (-2) I4 J5) ∧
    (¬ r6 = 0 →
    vc_X12_in ((x3 : Int32).toInt64) ((x2 : Int32).toInt64) 3000 I4 J5 (fun (r9 : Int32) I7 J8 =>
    ((r9 = 0 →
    K (-2) I7 J8) ∧
    (¬ r9 = 0 →
    vc_X12_in ((x4 : Int32).toInt64) 1 100 I7 J8 (fun (r12 : Int32) I10 J11 =>
    ((¬ r12 = 0 →
    vp_in x1 3 ∧
    ∀ I14 : Ih, I14 = updI I10 119 (Int32.toNatClampNeg x1) x2 → vp_in x1 3 ∧
    ∀ I16 : Ih, I16 = updI I14 120 (Int32.toNatClampNeg x1) x3 → vp_in x1 3 ∧
    ∀ I18 : Ih, I18 = updI I16 121 (Int32.toNatClampNeg x1) x4 → K 1 I18 J11) ∧
    (r12 = 0 →
    K (-2) I10 J11))))))))))))
set_option maxRecDepth 20000 in
theorem t_X12_set {E : Ev} (x1 : Int32) (x2 : Int32) (x3 : Int32) (x4 : Int32)  (I : Ih) (J : Jh) (K : Int32 → Ih → Jh → Prop) (h : vc_X12_set x1 x2 x3 x4 I J K) : Wm E M_X12_set 0 0 [.ref 87, .int x1, .int x2, .int x3, .int x4] (hp I J) (pKi K) := by
  refine w_entry (by decide) (Nat.le_of_ble_eq_true rfl) ?_
  show Wc E M_X12_set (rmOf M_X12_set 0 0) (fin E 0 0 (pKi K)) 0 0 0 [(0, _), (1, _), (2, _), (3, _), (4, _)] [] (hp I J)
  unfold vc_X12_set at h
  refine r_iload_n 1 1 dX12_set_0 rfl rfl rfl ?_
  refine p_callSz 4 (as := [Value.int _]) (t_X12_isChannel _ _ _ _ h) ok_X12_isChannel ml_X12_308 sm_X12_isChannel (RMOK.mk (by decide) (by decide)) (Nat.le_of_ble_eq_true rfl) rfl dX12_set_1 rfl (fun r3 I1 J2 hb_r3 h => ?_)
  refine r_if_eq 47 7 dX12_set_4 (by decide) rfl (fun b0 => ?_) (fun b0 => ?_)
  · have h := h.1 b0
    refine r_bipush 49 (-2) dX12_set_47 rfl (by decide) ?_
    exact p_iret dX12_set_49 rfl h
  · have h := h.2 b0
    refine r_iload_n 8 2 dX12_set_7 rfl rfl rfl ?_
    refine r_i2l 9 dX12_set_8 rfl ?_
    refine r_ldc2_w 12 cn_X12_353 dX12_set_9 rfl ?_
    refine r_ldc2_w 15 cn_X12_291 dX12_set_12 rfl ?_
    refine p_callSz 18 (as := [Value.long _, Value.long _, Value.long _]) (t_X12_in _ _ _ _ _ _ h) ok_X12_in ml_X12_287 sm_X12_in (RMOK.mk (by decide) (by decide)) (Nat.le_of_ble_eq_true rfl) rfl dX12_set_15 rfl (fun r6 I4 J5 hb_r6 h => ?_)
    refine r_if_eq 47 21 dX12_set_18 (by decide) rfl (fun b0 => ?_) (fun b0 => ?_)
    · have h := h.1 b0
      refine r_bipush 49 (-2) dX12_set_47 rfl (by decide) ?_
      exact p_iret dX12_set_49 rfl h
    · have h := h.2 b0
      refine r_iload_n 22 3 dX12_set_21 rfl rfl rfl ?_
      refine r_i2l 23 dX12_set_22 rfl ?_
      refine r_iload_n 24 2 dX12_set_23 rfl rfl rfl ?_
      refine r_i2l 25 dX12_set_24 rfl ?_
      refine r_ldc2_w 28 cn_X12_355 dX12_set_25 rfl ?_
      refine p_callSz 31 (as := [Value.long _, Value.long _, Value.long _]) (t_X12_in _ _ _ _ _ _ h) ok_X12_in ml_X12_287 sm_X12_in (RMOK.mk (by decide) (by decide)) (Nat.le_of_ble_eq_true rfl) rfl dX12_set_28 rfl (fun r9 I7 J8 hb_r9 h => ?_)
      refine r_if_eq 47 34 dX12_set_31 (by decide) rfl (fun b0 => ?_) (fun b0 => ?_)
      · have h := h.1 b0
        refine r_bipush 49 (-2) dX12_set_47 rfl (by decide) ?_
        exact p_iret dX12_set_49 rfl h
      · have h := h.2 b0
        refine r_iload 36 4 dX12_set_34 rfl rfl ?_
        refine r_i2l 37 dX12_set_36 rfl ?_
        refine r_lconst 38 1 dX12_set_37 rfl (by decide) ?_
        refine r_ldc2_w 41 cn_X12_293 dX12_set_38 rfl ?_
        refine p_callSz 44 (as := [Value.long _, Value.long _, Value.long _]) (t_X12_in _ _ _ _ _ _ h) ok_X12_in ml_X12_287 sm_X12_in (RMOK.mk (by decide) (by decide)) (Nat.le_of_ble_eq_true rfl) rfl dX12_set_41 rfl (fun r12 I10 J11 hb_r12 h => ?_)
        refine r_if_ne 50 47 dX12_set_44 (by decide) rfl (fun b0 => ?_) (fun b0 => ?_)
        · have h := h.1 b0
          refine r_aload_n 51 0 dX12_set_50 rfl rfl rfl ?_
          refine p_getR 54 oS_87 fl_X12_106 rfl qS_87_37 dX12_set_51 rfl ?_
          refine r_iload_n 55 1 dX12_set_54 rfl rfl rfl ?_
          refine r_iload_n 56 2 dX12_set_55 rfl rfl rfl ?_
          obtain ⟨o13, h⟩ := h
          have h := h _ rfl
          refine p_iastore 57 _ rfl aS_119 o13 dX12_set_56 rfl ?_
          refine r_aload_n 58 0 dX12_set_57 rfl rfl rfl ?_
          refine p_getR 61 oS_87 fl_X12_109 rfl qS_87_38 dX12_set_58 rfl ?_
          refine r_iload_n 62 1 dX12_set_61 rfl rfl rfl ?_
          refine r_iload_n 63 3 dX12_set_62 rfl rfl rfl ?_
          obtain ⟨o15, h⟩ := h
          have h := h _ rfl
          refine p_iastore 64 _ rfl aS_120 o15 dX12_set_63 rfl ?_
          refine r_aload_n 65 0 dX12_set_64 rfl rfl rfl ?_
          refine p_getR 68 oS_87 fl_X12_112 rfl qS_87_39 dX12_set_65 rfl ?_
          refine r_iload_n 69 1 dX12_set_68 rfl rfl rfl ?_
          refine r_iload 71 4 dX12_set_69 rfl rfl ?_
          obtain ⟨o17, h⟩ := h
          have h := h _ rfl
          refine p_iastore 72 _ rfl aS_121 o17 dX12_set_71 rfl ?_
          refine r_iconst 73 1 dX12_set_72 rfl (by decide) ?_
          exact p_iret dX12_set_73 rfl h
        · have h := h.2 b0
          refine r_bipush 49 (-2) dX12_set_47 rfl (by decide) ?_
          exact p_iret dX12_set_49 rfl h
def vc_X12_buffer (x1 : Int32) (x2 : Int32) (I : Ih) (J : Jh) (K : Int32 → Ih → Jh → Prop) : Prop :=
    vc_X12_isChannel x1 I J (fun (r3 : Int32) I1 J2 =>
    ((r3 = 0 →
    K (-2) I1 J2) ∧
    (¬ r3 = 0 →
    vc_X12_in ((x2 : Int32).toInt64) 1000 20000 I1 J2 (fun (r6 : Int32) I4 J5 =>
    ((¬ r6 = 0 →
    vp_in x1 3 ∧
    ∀ y8 : Int32, y8 = I4 122 (Int32.toNatClampNeg x1) → vp_in x1 3 ∧
    ∀ I10 : Ih, I10 = updI I4 122 (Int32.toNatClampNeg x1) x2 → K y8 I10 J5) ∧
    (r6 = 0 →
    K (-2) I4 J5))))))
set_option maxRecDepth 20000 in
theorem t_X12_buffer {E : Ev} (x1 : Int32) (x2 : Int32)  (I : Ih) (J : Jh) (K : Int32 → Ih → Jh → Prop) (h : vc_X12_buffer x1 x2 I J K) : Wm E M_X12_buffer 0 0 [.ref 87, .int x1, .int x2] (hp I J) (pKi K) := by
  refine w_entry (by decide) (Nat.le_of_ble_eq_true rfl) ?_
  show Wc E M_X12_buffer (rmOf M_X12_buffer 0 0) (fin E 0 0 (pKi K)) 0 0 0 [(0, _), (1, _), (2, _)] [] (hp I J)
  unfold vc_X12_buffer at h
  refine r_iload_n 1 1 dX12_buffer_0 rfl rfl rfl ?_
  refine p_callSz 4 (as := [Value.int _]) (t_X12_isChannel _ _ _ _ h) ok_X12_isChannel ml_X12_308 sm_X12_isChannel (RMOK.mk (by decide) (by decide)) (Nat.le_of_ble_eq_true rfl) rfl dX12_buffer_1 rfl (fun r3 I1 J2 hb_r3 h => ?_)
  refine r_if_eq 21 7 dX12_buffer_4 (by decide) rfl (fun b0 => ?_) (fun b0 => ?_)
  · have h := h.1 b0
    refine r_bipush 23 (-2) dX12_buffer_21 rfl (by decide) ?_
    exact p_iret dX12_buffer_23 rfl h
  · have h := h.2 b0
    refine r_iload_n 8 2 dX12_buffer_7 rfl rfl rfl ?_
    refine r_i2l 9 dX12_buffer_8 rfl ?_
    refine r_ldc2_w 12 cn_X12_291 dX12_buffer_9 rfl ?_
    refine r_ldc2_w 15 cn_X12_357 dX12_buffer_12 rfl ?_
    refine p_callSz 18 (as := [Value.long _, Value.long _, Value.long _]) (t_X12_in _ _ _ _ _ _ h) ok_X12_in ml_X12_287 sm_X12_in (RMOK.mk (by decide) (by decide)) (Nat.le_of_ble_eq_true rfl) rfl dX12_buffer_15 rfl (fun r6 I4 J5 hb_r6 h => ?_)
    refine r_if_ne 24 21 dX12_buffer_18 (by decide) rfl (fun b0 => ?_) (fun b0 => ?_)
    · have h := h.1 b0
      refine r_aload_n 25 0 dX12_buffer_24 rfl rfl rfl ?_
      refine p_getR 28 oS_87 fl_X12_115 rfl qS_87_40 dX12_buffer_25 rfl ?_
      refine r_iload_n 29 1 dX12_buffer_28 rfl rfl rfl ?_
      obtain ⟨o7, h⟩ := h
      refine p_iaload 30 _ rfl aS_122 o7 dX12_buffer_29 rfl ?_
      have h := h _ rfl
      refine r_istore_n 31 [(3, _), (0, _), (1, _), (2, _)] dX12_buffer_30 rfl rfl (by decide) rfl ?_
      refine r_aload_n 32 1 dX12_buffer_31 rfl rfl rfl ?_
      refine p_getR 35 oS_87 fl_X12_115 rfl qS_87_40 dX12_buffer_32 rfl ?_
      refine r_iload_n 36 2 dX12_buffer_35 rfl rfl rfl ?_
      refine r_iload_n 37 3 dX12_buffer_36 rfl rfl rfl ?_
      obtain ⟨o9, h⟩ := h
      have h := h _ rfl
      refine p_iastore 38 _ rfl aS_122 o9 dX12_buffer_37 rfl ?_
      refine r_iload_n 39 0 dX12_buffer_38 rfl rfl rfl ?_
      exact p_iret dX12_buffer_39 rfl h
    · have h := h.2 b0
      refine r_bipush 23 (-2) dX12_buffer_21 rfl (by decide) ?_
      exact p_iret dX12_buffer_23 rfl h
def vc_X12_total (x1 : Int32) (I : Ih) (J : Jh) (K : Int32 → Ih → Jh → Prop) : Prop :=
    vc_X12_in ((x1 : Int32).toInt64) 0 9000 I J (fun (r3 : Int32) I1 J2 =>
    ((¬ r3 = 0 →
    ∀ y4 : Int32, y4 = I1 87 41 → ∀ I5 : Ih, I5 = updI I1 87 41 x1 → K y4 I5 J2) ∧
    (r3 = 0 →
    K (-2) I1 J2)))
set_option maxRecDepth 20000 in
theorem t_X12_total {E : Ev} (x1 : Int32)  (I : Ih) (J : Jh) (K : Int32 → Ih → Jh → Prop) (h : vc_X12_total x1 I J K) : Wm E M_X12_total 0 0 [.ref 87, .int x1] (hp I J) (pKi K) := by
  refine w_entry (by decide) (Nat.le_of_ble_eq_true rfl) ?_
  show Wc E M_X12_total (rmOf M_X12_total 0 0) (fin E 0 0 (pKi K)) 0 0 0 [(0, _), (1, _)] [] (hp I J)
  unfold vc_X12_total at h
  refine r_iload_n 1 1 dX12_total_0 rfl rfl rfl ?_
  refine r_i2l 2 dX12_total_1 rfl ?_
  refine r_lconst 3 0 dX12_total_2 rfl (by decide) ?_
  refine r_ldc2_w 6 cn_X12_359 dX12_total_3 rfl ?_
  refine p_callSz 9 (as := [Value.long _, Value.long _, Value.long _]) (t_X12_in _ _ _ _ _ _ h) ok_X12_in ml_X12_287 sm_X12_in (RMOK.mk (by decide) (by decide)) (Nat.le_of_ble_eq_true rfl) rfl dX12_total_6 rfl (fun r3 I1 J2 hb_r3 h => ?_)
  refine r_if_ne 15 12 dX12_total_9 (by decide) rfl (fun b0 => ?_) (fun b0 => ?_)
  · have h := h.1 b0
    refine r_aload_n 16 0 dX12_total_15 rfl rfl rfl ?_
    refine p_getI 19 oS_87 fl_X12_118 rfl dX12_total_16 rfl ?_
    have h := h _ rfl
    refine r_istore_n 20 [(2, _), (0, _), (1, _)] dX12_total_19 rfl rfl (by decide) rfl ?_
    refine r_aload_n 21 1 dX12_total_20 rfl rfl rfl ?_
    refine r_iload_n 22 2 dX12_total_21 rfl rfl rfl ?_
    have h := h _ rfl
    refine p_putI 25 oS_87 fl_X12_118 rfl rfl dX12_total_22 rfl ?_
    refine r_iload_n 26 0 dX12_total_25 rfl rfl rfl ?_
    exact p_iret dX12_total_26 rfl h
  · have h := h.2 b0
    refine r_bipush 14 (-2) dX12_total_12 rfl (by decide) ?_
    exact p_iret dX12_total_14 rfl h
def b_X12_service_24 (K : Int32 → Ih → Jh → Prop)  (x1 : Int32) (x2 : Int32) (s0 : Int32) (I : Ih) (J : Jh) : Prop :=
    vp_in x1 3 ∧
    ∀ I2 : Ih, I2 = updI I 123 (Int32.toNatClampNeg x1) x2 → K s0 I2 J
set_option maxRecDepth 20000 in
theorem tb_X12_service_24 {E : Ev} (K : Int32 → Ih → Jh → Prop)   (x1 : Int32) (x2 : Int32) (s0 : Int32) (I : Ih) (J : Jh) (hb2 : nb x2) (hbs0 : nb s0) (h : b_X12_service_24 K x1 x2 s0 I J) : Wc E M_X12_service (rmOf M_X12_service 0 0) (fin E 0 0 (pKi K)) 0 0 24 [(0, Value.ref 87), (1, Value.int x1), (2, Value.int x2)] [Value.int s0] (hp I J) := by
  unfold b_X12_service_24 at h
  refine r_istore_n 25 [(3, _), (0, _), (1, _), (2, _)] dX12_service_24 rfl rfl (by decide) rfl ?_
  refine r_aload_n 26 1 dX12_service_25 rfl rfl rfl ?_
  refine p_getR 29 oS_87 fl_X12_122 rfl qS_87_42 dX12_service_26 rfl ?_
  refine r_iload_n 30 2 dX12_service_29 rfl rfl rfl ?_
  refine r_iload_n 31 3 dX12_service_30 rfl rfl rfl ?_
  obtain ⟨o1, h⟩ := h
  have h := h _ rfl
  refine p_zastore 32 _ rfl hb2 aS_123 o1 dX12_service_31 rfl ?_
  refine r_iload_n 33 0 dX12_service_32 rfl rfl rfl ?_
  exact p_iret dX12_service_33 rfl h
def vc_X12_service (x1 : Int32) (x2 : Int32) (I : Ih) (J : Jh) (K : Int32 → Ih → Jh → Prop) : Prop :=
    vc_X12_isChannel x1 I J (fun (r3 : Int32) I1 J2 =>
    ((¬ r3 = 0 →
    vp_in x1 3 ∧
    (((I1 123 (Int32.toNatClampNeg x1)) = 0 →
    b_X12_service_24 K x1 x2 0 I1 J2) ∧
    (¬ (I1 123 (Int32.toNatClampNeg x1)) = 0 →
    b_X12_service_24 K x1 x2 1 I1 J2))) ∧
    (r3 = 0 →
    K (-2) I1 J2)))
set_option maxRecDepth 20000 in
theorem t_X12_service {E : Ev} (x1 : Int32) (x2 : Int32) (hb2 : nb x2) (I : Ih) (J : Jh) (K : Int32 → Ih → Jh → Prop) (h : vc_X12_service x1 x2 I J K) : Wm E M_X12_service 0 0 [.ref 87, .int x1, .int x2] (hp I J) (pKi K) := by
  refine w_entry (by decide) (Nat.le_of_ble_eq_true rfl) ?_
  show Wc E M_X12_service (rmOf M_X12_service 0 0) (fin E 0 0 (pKi K)) 0 0 0 [(0, _), (1, _), (2, _)] [] (hp I J)
  unfold vc_X12_service at h
  refine r_iload_n 1 1 dX12_service_0 rfl rfl rfl ?_
  refine p_callSz 4 (as := [Value.int _]) (t_X12_isChannel _ _ _ _ h) ok_X12_isChannel ml_X12_308 sm_X12_isChannel (RMOK.mk (by decide) (by decide)) (Nat.le_of_ble_eq_true rfl) rfl dX12_service_1 rfl (fun r3 I1 J2 hb_r3 h => ?_)
  refine r_if_ne 10 7 dX12_service_4 (by decide) rfl (fun b0 => ?_) (fun b0 => ?_)
  · have h := h.1 b0
    refine r_aload_n 11 0 dX12_service_10 rfl rfl rfl ?_
    refine p_getR 14 oS_87 fl_X12_122 rfl qS_87_42 dX12_service_11 rfl ?_
    refine r_iload_n 15 1 dX12_service_14 rfl rfl rfl ?_
    obtain ⟨o4, h⟩ := h
    refine p_zaload 16 _ rfl aS_123 o4 dX12_service_15 rfl ?_
    refine r_if_eq 23 19 dX12_service_16 (by decide) rfl (fun b0 => ?_) (fun b0 => ?_)
    · have h := h.1 b0
      refine r_iconst 24 0 dX12_service_23 rfl (by decide) ?_
      exact w_lv (tb_X12_service_24 K _ _ _ _ _ hb2 nb0 h) [0, 1, 2] rfl
    · have h := h.2 b0
      refine r_iconst 20 1 dX12_service_19 rfl (by decide) ?_
      refine r_goto 24 dX12_service_20 (by decide) ?_
      exact w_lv (tb_X12_service_24 K _ _ _ _ _ hb2 nb1 h) [0, 1, 2] rfl
  · have h := h.2 b0
    refine r_bipush 9 (-2) dX12_service_7 rfl (by decide) ?_
    exact p_iret dX12_service_9 rfl h
def vc_X12_summed (x1 : Int32) (x2 : Int32) (I : Ih) (J : Jh) (K : Int32 → Ih → Jh → Prop) : Prop :=
    vp_in (((((x1 : Int32).toUInt32 >>> ((28 : Int32).toUInt32 &&& Int32.toUInt32 31)).toInt32) ^^^ ((x2 >>> ((4 : Int32) &&& 31) : Int32))) &&& 15) 16 ∧
    ∀ y2 : Int32, y2 = ((x1 <<< ((4 : Int32) &&& 31) : Int32)) ^^^ (I 132 (Int32.toNatClampNeg (((((x1 : Int32).toUInt32 >>> ((28 : Int32).toUInt32 &&& Int32.toUInt32 31)).toInt32) ^^^ ((x2 >>> ((4 : Int32) &&& 31) : Int32))) &&& 15))) → vp_in (((((y2 : Int32).toUInt32 >>> ((28 : Int32).toUInt32 &&& Int32.toUInt32 31)).toInt32) ^^^ x2) &&& 15) 16 ∧
    K (((y2 <<< ((4 : Int32) &&& 31) : Int32)) ^^^ (I 132 (Int32.toNatClampNeg (((((y2 : Int32).toUInt32 >>> ((28 : Int32).toUInt32 &&& Int32.toUInt32 31)).toInt32) ^^^ x2) &&& 15)))) I J
set_option maxRecDepth 20000 in
theorem t_X12_summed {E : Ev} (x1 : Int32) (x2 : Int32)  (I : Ih) (J : Jh) (K : Int32 → Ih → Jh → Prop) (h : vc_X12_summed x1 x2 I J K) : Wm E M_X12_summed 0 0 [.ref 87, .int x1, .int x2] (hp I J) (pKi K) := by
  refine w_entry (by decide) (Nat.le_of_ble_eq_true rfl) ?_
  show Wc E M_X12_summed (rmOf M_X12_summed 0 0) (fin E 0 0 (pKi K)) 0 0 0 [(0, _), (1, _), (2, _)] [] (hp I J)
  unfold vc_X12_summed at h
  refine r_iload_n 1 1 dX12_summed_0 rfl rfl rfl ?_
  refine r_iconst 2 4 dX12_summed_1 rfl (by decide) ?_
  refine r_ishl 3 dX12_summed_2 rfl ?_
  refine r_aload_n 4 0 dX12_summed_3 rfl rfl rfl ?_
  refine p_getR 7 oS_87 fl_X12_151 rfl qS_87_52 dX12_summed_4 rfl ?_
  refine r_iload_n 8 1 dX12_summed_7 rfl rfl rfl ?_
  refine r_bipush 10 28 dX12_summed_8 rfl (by decide) ?_
  refine r_iushr 11 dX12_summed_10 rfl ?_
  refine r_iload_n 12 2 dX12_summed_11 rfl rfl rfl ?_
  refine r_iconst 13 4 dX12_summed_12 rfl (by decide) ?_
  refine r_ishr 14 dX12_summed_13 rfl ?_
  refine r_ixor 15 dX12_summed_14 rfl ?_
  refine r_bipush 17 15 dX12_summed_15 rfl (by decide) ?_
  refine r_iand 18 dX12_summed_17 rfl ?_
  obtain ⟨o1, h⟩ := h
  refine p_iaload 19 _ rfl aS_132 o1 dX12_summed_18 rfl ?_
  refine r_ixor 20 dX12_summed_19 rfl ?_
  have h := h _ rfl
  refine r_istore_n 21 [(3, _), (0, _), (1, _), (2, _)] dX12_summed_20 rfl rfl (by decide) rfl ?_
  refine r_iload_n 22 0 dX12_summed_21 rfl rfl rfl ?_
  refine r_iconst 23 4 dX12_summed_22 rfl (by decide) ?_
  refine r_ishl 24 dX12_summed_23 rfl ?_
  refine r_aload_n 25 1 dX12_summed_24 rfl rfl rfl ?_
  refine p_getR 28 oS_87 fl_X12_151 rfl qS_87_52 dX12_summed_25 rfl ?_
  refine r_iload_n 29 0 dX12_summed_28 rfl rfl rfl ?_
  refine r_bipush 31 28 dX12_summed_29 rfl (by decide) ?_
  refine r_iushr 32 dX12_summed_31 rfl ?_
  refine r_iload_n 33 3 dX12_summed_32 rfl rfl rfl ?_
  refine r_ixor 34 dX12_summed_33 rfl ?_
  refine r_bipush 36 15 dX12_summed_34 rfl (by decide) ?_
  refine r_iand 37 dX12_summed_36 rfl ?_
  obtain ⟨o3, h⟩ := h
  refine p_iaload 38 _ rfl aS_132 o3 dX12_summed_37 rfl ?_
  refine r_ixor 39 dX12_summed_38 rfl ?_
  exact p_iret dX12_summed_39 rfl h
def b_X12_checkOf_6 (a1 : Nat) (n1 : Nat) (K : Int32 → Ih → Jh → Prop)  : Nat → Int32 → Int32 → Int32 → Ih → Jh → Prop
  | 0, _, _, _, _, _ => False
  | n + 1, x3, x4, x5, I, J =>
    ((x3 ≤ x5 →
    K x4 I J) ∧
    (¬ x3 ≤ x5 →
    vp_in x5 n1 ∧
    vc_X12_summed x4 ((I a1 (Int32.toNatClampNeg x5)) &&& 255) I J (fun (r4 : Int32) I2 J3 =>
    ∀ y5 : Int32, y5 = x5 + 1 → b_X12_checkOf_6 a1 n1 K n x3 r4 y5 I2 J3)))
set_option maxRecDepth 20000 in
theorem tb_X12_checkOf_6 {E : Ev} {a1 : Nat} {n1 : Nat} (ha1 : sA a1 21 n1) (K : Int32 → Ih → Jh → Prop)   : ∀ (n : Nat) (x3 : Int32) (x4 : Int32) (x5 : Int32) (I : Ih) (J : Jh), b_X12_checkOf_6 a1 n1 K n x3 x4 x5 I J → Wc E M_X12_checkOf (rmOf M_X12_checkOf 0 0) (fin E 0 0 (pKi K)) 0 0 6 [(0, Value.ref 87), (1, Value.ref a1), (3, Value.int x3), (4, Value.int x4), (5, Value.int x5)] [] (hp I J) := by
  intro n
  induction n with
  | zero => intro x3 x4 x5 I J h; exact h.elim
  | succ n ih =>
    intro x3 x4 x5 I J h
    unfold b_X12_checkOf_6 at h
    refine r_iload 8 4 dX12_checkOf_6 rfl rfl ?_
    refine r_iload_n 9 2 dX12_checkOf_8 rfl rfl rfl ?_
    refine r_icmp_ge 34 12 dX12_checkOf_9 (by decide) rfl (fun b0 => ?_) (fun b0 => ?_)
    · have h := h.1 b0
      refine r_iload 36 3 dX12_checkOf_34 rfl rfl ?_
      exact p_iret dX12_checkOf_36 rfl h
    · have h := h.2 b0
      refine r_aload_n 13 0 dX12_checkOf_12 rfl rfl rfl ?_
      refine r_iload 15 3 dX12_checkOf_13 rfl rfl ?_
      refine r_aload_n 16 1 dX12_checkOf_15 rfl rfl rfl ?_
      refine r_iload 18 4 dX12_checkOf_16 rfl rfl ?_
      obtain ⟨o1, h⟩ := h
      refine p_baload 19 _ rfl ha1 o1 dX12_checkOf_18 rfl ?_
      refine r_sipush 22 255 dX12_checkOf_19 rfl (by decide) ?_
      refine r_iand 23 dX12_checkOf_22 rfl ?_
      refine p_callVi 26 (as := [Value.int _, Value.int _]) (t_X12_summed _ _ _ _ _ h) ok_X12_summed ml_X12_361 im_X12_summed se_X12_summed oS_87 rfl (RMOK.mk (by decide) (by decide)) (Nat.le_of_ble_eq_true rfl) rfl dX12_checkOf_23 rfl (fun r4 I2 J3 h => ?_)
      refine r_istore 28 [(4, _), (0, _), (1, _), (3, _), (5, _)] dX12_checkOf_26 rfl (by decide) rfl ?_
      have h := h _ rfl
      refine r_iinc 31 4 [(5, _), (4, _), (0, _), (1, _), (3, _)] _ dX12_checkOf_28 rfl rfl rfl (by decide) rfl ?_
      refine r_goto 6 dX12_checkOf_31 (by decide) ?_
      exact w_lv (ih _ _ _ _ _ h) [2, 3, 4, 1, 0] rfl
def vc_X12_checkOf (a1 : Nat) (n1 : Nat) (x2 : Int32) (x3 : Int32) (I : Ih) (J : Jh) (K : Int32 → Ih → Jh → Prop) : Prop :=
    ∃ w6, b_X12_checkOf_6 a1 n1 K w6 x3 (-1) x2 I J
set_option maxRecDepth 20000 in
theorem t_X12_checkOf {E : Ev} (a1 : Nat) (n1 : Nat) (x2 : Int32) (x3 : Int32) (ha1 : sA a1 21 n1) (I : Ih) (J : Jh) (K : Int32 → Ih → Jh → Prop) (h : vc_X12_checkOf a1 n1 x2 x3 I J K) : Wm E M_X12_checkOf 0 0 [.ref 87, .ref a1, .int x2, .int x3] (hp I J) (pKi K) := by
  refine w_entry (by decide) (Nat.le_of_ble_eq_true rfl) ?_
  show Wc E M_X12_checkOf (rmOf M_X12_checkOf 0 0) (fin E 0 0 (pKi K)) 0 0 0 [(0, _), (1, _), (2, _), (3, _)] [] (hp I J)
  unfold vc_X12_checkOf at h
  refine r_iconst 1 (-1) dX12_checkOf_0 rfl (by decide) ?_
  refine r_istore 3 [(4, _), (0, _), (1, _), (2, _), (3, _)] dX12_checkOf_1 rfl (by decide) rfl ?_
  refine r_iload_n 4 3 dX12_checkOf_3 rfl rfl rfl ?_
  refine r_istore 6 [(5, _), (4, _), (0, _), (1, _), (2, _), (3, _)] dX12_checkOf_4 rfl (by decide) rfl ?_
  obtain ⟨nn1, h⟩ := h
  exact w_lv (tb_X12_checkOf_6 ha1 K _ _ _ _ _ _ h) [2, 3, 5, 1, 0] rfl
def b_X12_checkOf__6 (a1 : Nat) (n1 : Nat) (K : Int32 → Ih → Jh → Prop)  : Nat → Int32 → Int32 → Int32 → Ih → Jh → Prop
  | 0, _, _, _, _, _ => False
  | n + 1, x3, x4, x5, I, J =>
    ((x3 ≤ x5 →
    K x4 I J) ∧
    (¬ x3 ≤ x5 →
    vp_in x5 n1 ∧
    vc_X12_summed x4 (I a1 (Int32.toNatClampNeg x5)) I J (fun (r4 : Int32) I2 J3 =>
    ∀ y5 : Int32, y5 = x5 + 1 → b_X12_checkOf__6 a1 n1 K n x3 r4 y5 I2 J3)))
set_option maxRecDepth 20000 in
theorem tb_X12_checkOf__6 {E : Ev} {a1 : Nat} {n1 : Nat} (ha1 : sA a1 20 n1) (K : Int32 → Ih → Jh → Prop)   : ∀ (n : Nat) (x3 : Int32) (x4 : Int32) (x5 : Int32) (I : Ih) (J : Jh), b_X12_checkOf__6 a1 n1 K n x3 x4 x5 I J → Wc E M_X12_checkOf_ (rmOf M_X12_checkOf_ 0 0) (fin E 0 0 (pKi K)) 0 0 6 [(0, Value.ref 87), (1, Value.ref a1), (3, Value.int x3), (4, Value.int x4), (5, Value.int x5)] [] (hp I J) := by
  intro n
  induction n with
  | zero => intro x3 x4 x5 I J h; exact h.elim
  | succ n ih =>
    intro x3 x4 x5 I J h
    unfold b_X12_checkOf__6 at h
    refine r_iload 8 4 dX12_checkOf__6 rfl rfl ?_
    refine r_iload_n 9 2 dX12_checkOf__8 rfl rfl rfl ?_
    refine r_icmp_ge 30 12 dX12_checkOf__9 (by decide) rfl (fun b0 => ?_) (fun b0 => ?_)
    · have h := h.1 b0
      refine r_iload 32 3 dX12_checkOf__30 rfl rfl ?_
      exact p_iret dX12_checkOf__32 rfl h
    · have h := h.2 b0
      refine r_aload_n 13 0 dX12_checkOf__12 rfl rfl rfl ?_
      refine r_iload 15 3 dX12_checkOf__13 rfl rfl ?_
      refine r_aload_n 16 1 dX12_checkOf__15 rfl rfl rfl ?_
      refine r_iload 18 4 dX12_checkOf__16 rfl rfl ?_
      obtain ⟨o1, h⟩ := h
      refine p_iaload 19 _ rfl ha1 o1 dX12_checkOf__18 rfl ?_
      refine p_callVi 22 (as := [Value.int _, Value.int _]) (t_X12_summed _ _ _ _ _ h) ok_X12_summed ml_X12_361 im_X12_summed se_X12_summed oS_87 rfl (RMOK.mk (by decide) (by decide)) (Nat.le_of_ble_eq_true rfl) rfl dX12_checkOf__19 rfl (fun r4 I2 J3 h => ?_)
      refine r_istore 24 [(4, _), (0, _), (1, _), (3, _), (5, _)] dX12_checkOf__22 rfl (by decide) rfl ?_
      have h := h _ rfl
      refine r_iinc 27 4 [(5, _), (4, _), (0, _), (1, _), (3, _)] _ dX12_checkOf__24 rfl rfl rfl (by decide) rfl ?_
      refine r_goto 6 dX12_checkOf__27 (by decide) ?_
      exact w_lv (ih _ _ _ _ _ h) [2, 3, 4, 1, 0] rfl
def vc_X12_checkOf_ (a1 : Nat) (n1 : Nat) (x2 : Int32) (x3 : Int32) (I : Ih) (J : Jh) (K : Int32 → Ih → Jh → Prop) : Prop :=
    ∃ w6, b_X12_checkOf__6 a1 n1 K w6 x3 (-1) x2 I J
set_option maxRecDepth 20000 in
theorem t_X12_checkOf_ {E : Ev} (a1 : Nat) (n1 : Nat) (x2 : Int32) (x3 : Int32) (ha1 : sA a1 20 n1) (I : Ih) (J : Jh) (K : Int32 → Ih → Jh → Prop) (h : vc_X12_checkOf_ a1 n1 x2 x3 I J K) : Wm E M_X12_checkOf_ 0 0 [.ref 87, .ref a1, .int x2, .int x3] (hp I J) (pKi K) := by
  refine w_entry (by decide) (Nat.le_of_ble_eq_true rfl) ?_
  show Wc E M_X12_checkOf_ (rmOf M_X12_checkOf_ 0 0) (fin E 0 0 (pKi K)) 0 0 0 [(0, _), (1, _), (2, _), (3, _)] [] (hp I J)
  unfold vc_X12_checkOf_ at h
  refine r_iconst 1 (-1) dX12_checkOf__0 rfl (by decide) ?_
  refine r_istore 3 [(4, _), (0, _), (1, _), (2, _), (3, _)] dX12_checkOf__1 rfl (by decide) rfl ?_
  refine r_iload_n 4 3 dX12_checkOf__3 rfl rfl rfl ?_
  refine r_istore 6 [(5, _), (4, _), (0, _), (1, _), (2, _), (3, _)] dX12_checkOf__4 rfl (by decide) rfl ?_
  obtain ⟨nn1, h⟩ := h
  exact w_lv (tb_X12_checkOf__6 ha1 K _ _ _ _ _ _ h) [2, 3, 5, 1, 0] rfl
def b_X12_services_125 (K : Ih → Jh → Prop) (L4 : Int32 → Int32 → Int32 → Ih → Jh → Prop) (x1 : Int32) (x2 : Int32) (x3 : Int32) (I : Ih) (J : Jh) : Prop :=
    vp_in x3 3 ∧
    vp_in x3 3 ∧
    nb (I 123 (Int32.toNatClampNeg x3)) ∧
    ∀ I4 : Ih, I4 = updI I 124 (Int32.toNatClampNeg x3) (I 123 (Int32.toNatClampNeg x3)) → ∀ y5 : Int32, y5 = x3 + 1 → L4 x1 x2 y5 I4 J
set_option maxRecDepth 20000 in
theorem tb_X12_services_125 {E : Ev} (K : Ih → Jh → Prop) (L4 : Int32 → Int32 → Int32 → Ih → Jh → Prop) (hL4 : ∀ (x1 : Int32) (x2 : Int32) (x3 : Int32) (I : Ih) (J : Jh), nb x2 → L4 x1 x2 x3 I J → Wc E M_X12_services (rmOf M_X12_services 0 0) (fin E 0 0 (pKv K)) 0 0 4 [(0, Value.ref 87), (1, Value.int x1), (2, Value.int x2), (3, Value.int x3)] [] (hp I J)) (x1 : Int32) (x2 : Int32) (x3 : Int32) (I : Ih) (J : Jh) (hb2 : nb x2) (h : b_X12_services_125 K L4 x1 x2 x3 I J) : Wc E M_X12_services (rmOf M_X12_services 0 0) (fin E 0 0 (pKv K)) 0 0 125 [(0, Value.ref 87), (1, Value.int x1), (2, Value.int x2), (3, Value.int x3)] [] (hp I J) := by
  unfold b_X12_services_125 at h
  refine r_aload_n 126 0 dX12_services_125 rfl rfl rfl ?_
  refine p_getR 129 oS_87 fl_X12_125 rfl qS_87_43 dX12_services_126 rfl ?_
  refine r_iload_n 130 3 dX12_services_129 rfl rfl rfl ?_
  refine r_aload_n 131 0 dX12_services_130 rfl rfl rfl ?_
  refine p_getR 134 oS_87 fl_X12_122 rfl qS_87_42 dX12_services_131 rfl ?_
  refine r_iload_n 135 3 dX12_services_134 rfl rfl rfl ?_
  obtain ⟨o1, h⟩ := h
  refine p_zaload 136 _ rfl aS_123 o1 dX12_services_135 rfl ?_
  obtain ⟨o2, h⟩ := h
  obtain ⟨o3, h⟩ := h
  have h := h _ rfl
  refine p_zastore 137 _ rfl o3 aS_124 o2 dX12_services_136 rfl ?_
  have h := h _ rfl
  refine r_iinc 140 3 [(3, _), (0, _), (1, _), (2, _)] _ dX12_services_137 rfl rfl rfl (by decide) rfl ?_
  refine r_goto 4 dX12_services_140 (by decide) ?_
  exact w_lv (hL4 _ _ _ _ _ hb2 h) [1, 2, 3, 0] rfl
def b_X12_services_110 (K : Ih → Jh → Prop) (L4 : Int32 → Int32 → Int32 → Ih → Jh → Prop) (L48 : Int32 → Int32 → Int32 → Int32 → Ih → Jh → Prop) (x1 : Int32) (x2 : Int32) (x3 : Int32) (x4 : Int32) (x5 : Int32) (s1 : Int32) (s2 : Int32) (I : Ih) (J : Jh) : Prop :=
    vp_in s1 9000 ∧
    ∀ I2 : Ih, I2 = updI I 125 (Int32.toNatClampNeg s1) s2 → vp_in x5 9000 ∧
    ∀ I4 : Ih, I4 = updI I2 130 (Int32.toNatClampNeg x5) 0 → ∀ y5 : Int32, y5 = x4 + 1 → L48 x1 x2 x3 y5 I4 J
set_option maxRecDepth 20000 in
theorem tb_X12_services_110 {E : Ev} (K : Ih → Jh → Prop) (L4 : Int32 → Int32 → Int32 → Ih → Jh → Prop) (L48 : Int32 → Int32 → Int32 → Int32 → Ih → Jh → Prop) (hL4 : ∀ (x1 : Int32) (x2 : Int32) (x3 : Int32) (I : Ih) (J : Jh), nb x2 → L4 x1 x2 x3 I J → Wc E M_X12_services (rmOf M_X12_services 0 0) (fin E 0 0 (pKv K)) 0 0 4 [(0, Value.ref 87), (1, Value.int x1), (2, Value.int x2), (3, Value.int x3)] [] (hp I J)) (hL48 : ∀ (x1 : Int32) (x2 : Int32) (x3 : Int32) (x4 : Int32) (I : Ih) (J : Jh), nb x2 → L48 x1 x2 x3 x4 I J → Wc E M_X12_services (rmOf M_X12_services 0 0) (fin E 0 0 (pKv K)) 0 0 48 [(0, Value.ref 87), (1, Value.int x1), (2, Value.int x2), (3, Value.int x3), (4, Value.int x4)] [] (hp I J)) (x1 : Int32) (x2 : Int32) (x3 : Int32) (x4 : Int32) (x5 : Int32) (s1 : Int32) (s2 : Int32) (I : Ih) (J : Jh) (hb2 : nb x2) (h : b_X12_services_110 K L4 L48 x1 x2 x3 x4 x5 s1 s2 I J) : Wc E M_X12_services (rmOf M_X12_services 0 0) (fin E 0 0 (pKv K)) 0 0 110 [(0, Value.ref 87), (1, Value.int x1), (2, Value.int x2), (3, Value.int x3), (4, Value.int x4), (5, Value.int x5)] [Value.int s2, Value.int s1, Value.ref 125] (hp I J) := by
  unfold b_X12_services_110 at h
  obtain ⟨o1, h⟩ := h
  have h := h _ rfl
  refine p_iastore 111 _ rfl aS_125 o1 dX12_services_110 rfl ?_
  refine r_aload_n 112 0 dX12_services_111 rfl rfl rfl ?_
  refine p_getR 115 oS_87 fl_X12_143 rfl qS_87_50 dX12_services_112 rfl ?_
  refine r_iload 117 5 dX12_services_115 rfl rfl ?_
  refine r_iconst 118 0 dX12_services_117 rfl (by decide) ?_
  obtain ⟨o3, h⟩ := h
  have h := h _ rfl
  refine p_iastore 119 _ rfl aS_130 o3 dX12_services_118 rfl ?_
  have h := h _ rfl
  refine r_iinc 122 4 [(4, _), (0, _), (1, _), (2, _), (3, _), (5, _)] _ dX12_services_119 rfl rfl rfl (by decide) rfl ?_
  refine r_goto 48 dX12_services_122 (by decide) ?_
  exact w_lv (hL48 _ _ _ _ _ _ hb2 h) [1, 2, 3, 4, 0] rfl
def b_X12_services_48 (K : Ih → Jh → Prop) (L4 : Int32 → Int32 → Int32 → Ih → Jh → Prop) : Nat → Int32 → Int32 → Int32 → Int32 → Ih → Jh → Prop
  | 0, _, _, _, _, _, _ => False
  | n + 1, x1, x2, x3, x4, I, J =>
    ((x1 ≤ x4 →
    b_X12_services_125 K L4 x1 x2 x3 I J) ∧
    (¬ x1 ≤ x4 →
    vp_in x3 3 ∧
    (((I 124 (Int32.toNatClampNeg x3)) = 0 →
    b_X12_services_125 K L4 x1 x2 x3 I J) ∧
    (¬ (I 124 (Int32.toNatClampNeg x3)) = 0 →
    vp_in x3 3 ∧
    ((¬ (I 123 (Int32.toNatClampNeg x3)) = 0 →
    b_X12_services_125 K L4 x1 x2 x3 I J) ∧
    ((I 123 (Int32.toNatClampNeg x3)) = 0 →
    ∀ y3 : Int32, y3 = (3000 * x3) + x4 → vp_in y3 9000 ∧
    ((¬ (I 125 (Int32.toNatClampNeg y3)) = 1 →
    vp_in y3 9000 ∧
    b_X12_services_110 K L4 (fun z0 z1 z2 z3 I J => b_X12_services_48 K L4 n z0 z1 z2 z3 I J) x1 x2 x3 x4 y3 y3 (I 125 (Int32.toNatClampNeg y3)) I J) ∧
    ((I 125 (Int32.toNatClampNeg y3)) = 1 →
    b_X12_services_110 K L4 (fun z0 z1 z2 z3 I J => b_X12_services_48 K L4 n z0 z1 z2 z3 I J) x1 x2 x3 x4 y3 y3 4 I J))))))))
set_option maxRecDepth 20000 in
theorem tb_X12_services_48 {E : Ev} (K : Ih → Jh → Prop) (L4 : Int32 → Int32 → Int32 → Ih → Jh → Prop) (hL4 : ∀ (x1 : Int32) (x2 : Int32) (x3 : Int32) (I : Ih) (J : Jh), nb x2 → L4 x1 x2 x3 I J → Wc E M_X12_services (rmOf M_X12_services 0 0) (fin E 0 0 (pKv K)) 0 0 4 [(0, Value.ref 87), (1, Value.int x1), (2, Value.int x2), (3, Value.int x3)] [] (hp I J)) : ∀ (n : Nat) (x1 : Int32) (x2 : Int32) (x3 : Int32) (x4 : Int32) (I : Ih) (J : Jh), nb x2 → b_X12_services_48 K L4 n x1 x2 x3 x4 I J → Wc E M_X12_services (rmOf M_X12_services 0 0) (fin E 0 0 (pKv K)) 0 0 48 [(0, Value.ref 87), (1, Value.int x1), (2, Value.int x2), (3, Value.int x3), (4, Value.int x4)] [] (hp I J) := by
  intro n
  induction n with
  | zero => intro x1 x2 x3 x4 I J hb2 h; exact h.elim
  | succ n ih =>
    intro x1 x2 x3 x4 I J hb2 h
    unfold b_X12_services_48 at h
    refine r_iload 50 4 dX12_services_48 rfl rfl ?_
    refine r_iload_n 51 1 dX12_services_50 rfl rfl rfl ?_
    refine r_icmp_ge 125 54 dX12_services_51 (by decide) rfl (fun b0 => ?_) (fun b0 => ?_)
    · have h := h.1 b0
      exact w_lv (tb_X12_services_125 K _ hL4 _ _ _ _ _ hb2 h) [0, 1, 2, 3] rfl
    · have h := h.2 b0
      refine r_aload_n 55 0 dX12_services_54 rfl rfl rfl ?_
      refine p_getR 58 oS_87 fl_X12_125 rfl qS_87_43 dX12_services_55 rfl ?_
      refine r_iload_n 59 3 dX12_services_58 rfl rfl rfl ?_
      obtain ⟨o1, h⟩ := h
      refine p_zaload 60 _ rfl aS_124 o1 dX12_services_59 rfl ?_
      refine r_if_eq 125 63 dX12_services_60 (by decide) rfl (fun b0 => ?_) (fun b0 => ?_)
      · have h := h.1 b0
        exact w_lv (tb_X12_services_125 K _ hL4 _ _ _ _ _ hb2 h) [0, 1, 2, 3] rfl
      · have h := h.2 b0
        refine r_aload_n 64 0 dX12_services_63 rfl rfl rfl ?_
        refine p_getR 67 oS_87 fl_X12_122 rfl qS_87_42 dX12_services_64 rfl ?_
        refine r_iload_n 68 3 dX12_services_67 rfl rfl rfl ?_
        obtain ⟨o2, h⟩ := h
        refine p_zaload 69 _ rfl aS_123 o2 dX12_services_68 rfl ?_
        refine r_if_ne 125 72 dX12_services_69 (by decide) rfl (fun b0 => ?_) (fun b0 => ?_)
        · have h := h.1 b0
          exact w_lv (tb_X12_services_125 K _ hL4 _ _ _ _ _ hb2 h) [0, 1, 2, 3] rfl
        · have h := h.2 b0
          refine r_sipush 75 3000 dX12_services_72 rfl (by decide) ?_
          refine r_iload_n 76 3 dX12_services_75 rfl rfl rfl ?_
          refine r_imul 77 dX12_services_76 rfl ?_
          refine r_iload 79 4 dX12_services_77 rfl rfl ?_
          refine r_iadd 80 dX12_services_79 rfl ?_
          have h := h _ rfl
          refine r_istore 82 [(5, _), (0, _), (1, _), (2, _), (3, _), (4, _)] dX12_services_80 rfl (by decide) rfl ?_
          refine r_aload_n 83 1 dX12_services_82 rfl rfl rfl ?_
          refine p_getR 86 oS_87 fl_X12_128 rfl qS_87_45 dX12_services_83 rfl ?_
          refine r_iload 88 0 dX12_services_86 rfl rfl ?_
          refine r_aload_n 89 1 dX12_services_88 rfl rfl rfl ?_
          refine p_getR 92 oS_87 fl_X12_128 rfl qS_87_45 dX12_services_89 rfl ?_
          refine r_iload 94 0 dX12_services_92 rfl rfl ?_
          obtain ⟨o4, h⟩ := h
          refine p_iaload 95 _ rfl aS_125 o4 dX12_services_94 rfl ?_
          refine r_iconst 96 1 dX12_services_95 rfl (by decide) ?_
          refine r_icmp_ne 103 99 dX12_services_96 (by decide) rfl (fun b0 => ?_) (fun b0 => ?_)
          · have h := h.1 b0
            refine r_aload_n 104 1 dX12_services_103 rfl rfl rfl ?_
            refine p_getR 107 oS_87 fl_X12_128 rfl qS_87_45 dX12_services_104 rfl ?_
            refine r_iload 109 0 dX12_services_107 rfl rfl ?_
            obtain ⟨o5, h⟩ := h
            refine p_iaload 110 _ rfl aS_125 o5 dX12_services_109 rfl ?_
            exact w_lv (tb_X12_services_110 K _ _ hL4 ih _ _ _ _ _ _ _ _ _ hb2 h) [1, 2, 3, 4, 5, 0] rfl
          · have h := h.2 b0
            refine r_iconst 100 4 dX12_services_99 rfl (by decide) ?_
            refine r_goto 110 dX12_services_100 (by decide) ?_
            exact w_lv (tb_X12_services_110 K _ _ hL4 ih _ _ _ _ _ _ _ _ _ hb2 h) [1, 2, 3, 4, 5, 0] rfl
def b_X12_services_30 (K : Ih → Jh → Prop) (L4 : Int32 → Int32 → Int32 → Ih → Jh → Prop) (x1 : Int32) (x3 : Int32) (s0 : Int32) (s1 : Int32) (I : Ih) (J : Jh) : Prop :=
    ∀ y1 : Int32, y1 = s0 ||| s1 → ((8 ≤ x1 →
    ∀ y2 : Int32, y2 = x1 - 8 → ∃ w48, b_X12_services_48 K L4 w48 x1 y1 x3 y2 I J) ∧
    (¬ 8 ≤ x1 →
    ∃ w48, b_X12_services_48 K L4 w48 x1 y1 x3 0 I J))
set_option maxRecDepth 20000 in
theorem tb_X12_services_30 {E : Ev} (K : Ih → Jh → Prop) (L4 : Int32 → Int32 → Int32 → Ih → Jh → Prop) (hL4 : ∀ (x1 : Int32) (x2 : Int32) (x3 : Int32) (I : Ih) (J : Jh), nb x2 → L4 x1 x2 x3 I J → Wc E M_X12_services (rmOf M_X12_services 0 0) (fin E 0 0 (pKv K)) 0 0 4 [(0, Value.ref 87), (1, Value.int x1), (2, Value.int x2), (3, Value.int x3)] [] (hp I J)) (x1 : Int32) (x3 : Int32) (s0 : Int32) (s1 : Int32) (I : Ih) (J : Jh) (hbs0 : nb s0) (hbs1 : nb s1) (h : b_X12_services_30 K L4 x1 x3 s0 s1 I J) : Wc E M_X12_services (rmOf M_X12_services 0 0) (fin E 0 0 (pKv K)) 0 0 30 [(0, Value.ref 87), (1, Value.int x1), (3, Value.int x3)] [Value.int s1, Value.int s0] (hp I J) := by
  unfold b_X12_services_30 at h
  refine r_ior 31 dX12_services_30 rfl ?_
  have h := h _ rfl
  refine r_istore_n 32 [(2, _), (0, _), (1, _), (3, _)] dX12_services_31 rfl rfl (by decide) rfl ?_
  refine r_iload_n 33 2 dX12_services_32 rfl rfl rfl ?_
  refine r_bipush 35 8 dX12_services_33 rfl (by decide) ?_
  refine r_icmp_ge 42 38 dX12_services_35 (by decide) rfl (fun b0 => ?_) (fun b0 => ?_)
  · have h := h.1 b0
    refine r_iload_n 43 2 dX12_services_42 rfl rfl rfl ?_
    refine r_bipush 45 8 dX12_services_43 rfl (by decide) ?_
    refine r_isub 46 dX12_services_45 rfl ?_
    have h := h _ rfl
    refine r_istore 48 [(4, _), (2, _), (0, _), (1, _), (3, _)] dX12_services_46 rfl (by decide) rfl ?_
    obtain ⟨nn3, h⟩ := h
    exact w_lv (tb_X12_services_48 K _ hL4 _ _ _ _ _ _ _ (nb_or hbs0 hbs1) h) [2, 3, 1, 4, 0] rfl
  · have h := h.2 b0
    refine r_iconst 39 0 dX12_services_38 rfl (by decide) ?_
    refine r_goto 46 dX12_services_39 (by decide) ?_
    refine r_istore 48 [(4, _), (2, _), (0, _), (1, _), (3, _)] dX12_services_46 rfl (by decide) rfl ?_
    obtain ⟨nn4, h⟩ := h
    exact w_lv (tb_X12_services_48 K _ hL4 _ _ _ _ _ _ _ (nb_or hbs0 hbs1) h) [2, 3, 1, 4, 0] rfl
def b_X12_services_4 (K : Ih → Jh → Prop)  : Nat → Int32 → Int32 → Int32 → Ih → Jh → Prop
  | 0, _, _, _, _, _ => False
  | n + 1, x1, x2, x3, I, J =>
    ((3 ≤ x3 →
    ((x2 = 0 →
    ∀ I1 : Ih, I1 = updI I 87 44 (I 87 44) → K I1 J) ∧
    (¬ x2 = 0 →
    ∀ I2 : Ih, I2 = updI I 87 44 (((I 87 44) + 1) - ((I 87 44) + 1) / 32 * 32) → K I2 J))) ∧
    (¬ 3 ≤ x3 →
    vp_in x3 3 ∧
    vp_in x3 3 ∧
    (((I 123 (Int32.toNatClampNeg x3)) = (I 124 (Int32.toNatClampNeg x3)) →
    b_X12_services_30 K (fun z0 z1 z2 I J => b_X12_services_4 K n z0 z1 z2 I J) x1 x3 x2 0 I J) ∧
    (¬ (I 123 (Int32.toNatClampNeg x3)) = (I 124 (Int32.toNatClampNeg x3)) →
    b_X12_services_30 K (fun z0 z1 z2 I J => b_X12_services_4 K n z0 z1 z2 I J) x1 x3 x2 1 I J))))
set_option maxRecDepth 20000 in
theorem tb_X12_services_4 {E : Ev} (K : Ih → Jh → Prop)   : ∀ (n : Nat) (x1 : Int32) (x2 : Int32) (x3 : Int32) (I : Ih) (J : Jh), nb x2 → b_X12_services_4 K n x1 x2 x3 I J → Wc E M_X12_services (rmOf M_X12_services 0 0) (fin E 0 0 (pKv K)) 0 0 4 [(0, Value.ref 87), (1, Value.int x1), (2, Value.int x2), (3, Value.int x3)] [] (hp I J) := by
  intro n
  induction n with
  | zero => intro x1 x2 x3 I J hb2 h; exact h.elim
  | succ n ih =>
    intro x1 x2 x3 I J hb2 h
    unfold b_X12_services_4 at h
    refine r_iload_n 5 3 dX12_services_4 rfl rfl rfl ?_
    refine r_iconst 6 3 dX12_services_5 rfl (by decide) ?_
    refine r_icmp_ge 143 9 dX12_services_6 (by decide) rfl (fun b0 => ?_) (fun b0 => ?_)
    · have h := h.1 b0
      refine r_aload_n 144 0 dX12_services_143 rfl rfl rfl ?_
      refine r_iload_n 145 2 dX12_services_144 rfl rfl rfl ?_
      refine r_if_eq 160 148 dX12_services_145 (by decide) rfl (fun b0 => ?_) (fun b0 => ?_)
      · have h := h.1 b0
        refine r_aload_n 161 0 dX12_services_160 rfl rfl rfl ?_
        refine p_getI 164 oS_87 fl_X12_364 rfl dX12_services_161 rfl ?_
        have h := h _ rfl
        refine p_putI 167 oS_87 fl_X12_364 rfl rfl dX12_services_164 rfl ?_
        exact p_vret dX12_services_167 rfl h
      · have h := h.2 b0
        refine r_aload_n 149 0 dX12_services_148 rfl rfl rfl ?_
        refine p_getI 152 oS_87 fl_X12_364 rfl dX12_services_149 rfl ?_
        refine r_iconst 153 1 dX12_services_152 rfl (by decide) ?_
        refine r_iadd 154 dX12_services_153 rfl ?_
        refine r_bipush 156 32 dX12_services_154 rfl (by decide) ?_
        refine r_irem 157 dX12_services_156 rfl (by decide) ?_
        refine r_goto 164 dX12_services_157 (by decide) ?_
        have h := h _ rfl
        refine p_putI 167 oS_87 fl_X12_364 rfl rfl dX12_services_164 rfl ?_
        exact p_vret dX12_services_167 rfl h
    · have h := h.2 b0
      refine r_iload_n 10 2 dX12_services_9 rfl rfl rfl ?_
      refine r_aload_n 11 0 dX12_services_10 rfl rfl rfl ?_
      refine p_getR 14 oS_87 fl_X12_122 rfl qS_87_42 dX12_services_11 rfl ?_
      refine r_iload_n 15 3 dX12_services_14 rfl rfl rfl ?_
      obtain ⟨o3, h⟩ := h
      refine p_zaload 16 _ rfl aS_123 o3 dX12_services_15 rfl ?_
      refine r_aload_n 17 0 dX12_services_16 rfl rfl rfl ?_
      refine p_getR 20 oS_87 fl_X12_125 rfl qS_87_43 dX12_services_17 rfl ?_
      refine r_iload_n 21 3 dX12_services_20 rfl rfl rfl ?_
      obtain ⟨o4, h⟩ := h
      refine p_zaload 22 _ rfl aS_124 o4 dX12_services_21 rfl ?_
      refine r_icmp_eq 29 25 dX12_services_22 (by decide) rfl (fun b0 => ?_) (fun b0 => ?_)
      · have h := h.1 b0
        refine r_iconst 30 0 dX12_services_29 rfl (by decide) ?_
        exact w_lv (tb_X12_services_30 K _ ih _ _ _ _ _ _ hb2 nb0 h) [0, 1, 3] rfl
      · have h := h.2 b0
        refine r_iconst 26 1 dX12_services_25 rfl (by decide) ?_
        refine r_goto 30 dX12_services_26 (by decide) ?_
        exact w_lv (tb_X12_services_30 K _ ih _ _ _ _ _ _ hb2 nb1 h) [0, 1, 3] rfl
def vc_X12_services (x1 : Int32) (I : Ih) (J : Jh) (K : Ih → Jh → Prop) : Prop :=
    ∃ w4, b_X12_services_4 K w4 x1 0 0 I J
set_option maxRecDepth 20000 in
theorem t_X12_services {E : Ev} (x1 : Int32)  (I : Ih) (J : Jh) (K : Ih → Jh → Prop) (h : vc_X12_services x1 I J K) : Wm E M_X12_services 0 0 [.ref 87, .int x1] (hp I J) (pKv K) := by
  refine w_entry (by decide) (Nat.le_of_ble_eq_true rfl) ?_
  show Wc E M_X12_services (rmOf M_X12_services 0 0) (fin E 0 0 (pKv K)) 0 0 0 [(0, _), (1, _)] [] (hp I J)
  unfold vc_X12_services at h
  refine r_iconst 1 0 dX12_services_0 rfl (by decide) ?_
  refine r_istore_n 2 [(2, _), (0, _), (1, _)] dX12_services_1 rfl rfl (by decide) rfl ?_
  refine r_iconst 3 0 dX12_services_2 rfl (by decide) ?_
  refine r_istore_n 4 [(3, _), (2, _), (0, _), (1, _)] dX12_services_3 rfl rfl (by decide) rfl ?_
  obtain ⟨nn1, h⟩ := h
  exact w_lv (tb_X12_services_4 K _ _ _ _ _ _ nb0 h) [2, 3, 1, 0] rfl
def b_X12_shares_176 (a2 : Nat) (n2 : Nat) (K : Ih → Jh → Prop) (L50 : Int32 → Int32 → Int32 → Ih → Jh → Prop) (x1 : Int32) (x3 : Int32) (x5 : Int32) (s0 : Int32) (I : Ih) (J : Jh) : Prop :=
    ((s0 = 0 →
    L50 x1 x3 s0 I J) ∧
    (¬ s0 = 0 →
    vp_in ((3000 * x5) + x1) 9000 ∧
    vp_in ((3000 * x5) + x1) 9000 ∧
    ∀ I3 : Ih, I3 = updI I 126 (Int32.toNatClampNeg ((3000 * x5) + x1)) ((I 126 (Int32.toNatClampNeg ((3000 * x5) + x1))) + 1) → ∀ y4 : Int32, y4 = x3 + 1 → L50 x1 y4 s0 I3 J))
set_option maxRecDepth 20000 in
theorem tb_X12_shares_176 {E : Ev} {a2 : Nat} {n2 : Nat} (ha2 : sA a2 20 n2) (K : Ih → Jh → Prop) (L50 : Int32 → Int32 → Int32 → Ih → Jh → Prop) (hL50 : ∀ (x1 : Int32) (x3 : Int32) (x4 : Int32) (I : Ih) (J : Jh), nb x4 → L50 x1 x3 x4 I J → Wc E M_X12_shares (rmOf M_X12_shares 0 0) (fin E 0 0 (pKv K)) 0 0 50 [(0, Value.ref 87), (1, Value.int x1), (2, Value.ref a2), (3, Value.int x3), (4, Value.int x4)] [] (hp I J)) (x1 : Int32) (x3 : Int32) (x5 : Int32) (s0 : Int32) (I : Ih) (J : Jh) (hbs0 : nb s0) (h : b_X12_shares_176 a2 n2 K L50 x1 x3 x5 s0 I J) : Wc E M_X12_shares (rmOf M_X12_shares 0 0) (fin E 0 0 (pKv K)) 0 0 176 [(0, Value.ref 87), (1, Value.int x1), (2, Value.ref a2), (3, Value.int x3), (5, Value.int x5)] [Value.int s0] (hp I J) := by
  unfold b_X12_shares_176 at h
  refine r_istore 178 [(4, _), (0, _), (1, _), (2, _), (3, _), (5, _)] dX12_shares_176 rfl (by decide) rfl ?_
  refine r_iload 180 0 dX12_shares_178 rfl rfl ?_
  refine r_if_eq 203 183 dX12_shares_180 (by decide) rfl (fun b0 => ?_) (fun b0 => ?_)
  · have h := h.1 b0
    refine r_goto 50 dX12_shares_203 (by decide) ?_
    exact w_lv (hL50 _ _ _ _ _ hbs0 h) [1, 2, 3, 4, 0] rfl
  · have h := h.2 b0
    refine r_aload_n 184 1 dX12_shares_183 rfl rfl rfl ?_
    refine p_getR 187 oS_87 fl_X12_131 rfl qS_87_46 dX12_shares_184 rfl ?_
    refine r_sipush 190 3000 dX12_shares_187 rfl (by decide) ?_
    refine r_iload 192 5 dX12_shares_190 rfl rfl ?_
    refine r_imul 193 dX12_shares_192 rfl ?_
    refine r_iload_n 194 2 dX12_shares_193 rfl rfl rfl ?_
    refine r_iadd 195 dX12_shares_194 rfl ?_
    refine r_dup2 196 dX12_shares_195 rfl rfl rfl ?_
    obtain ⟨o1, h⟩ := h
    refine p_iaload 197 _ rfl aS_126 o1 dX12_shares_196 rfl ?_
    refine r_iconst 198 1 dX12_shares_197 rfl (by decide) ?_
    refine r_iadd 199 dX12_shares_198 rfl ?_
    obtain ⟨o2, h⟩ := h
    have h := h _ rfl
    refine p_iastore 200 _ rfl aS_126 o2 dX12_shares_199 rfl ?_
    have h := h _ rfl
    refine r_iinc 203 4 [(3, _), (4, _), (0, _), (1, _), (2, _), (5, _)] _ dX12_shares_200 rfl rfl rfl (by decide) rfl ?_
    refine r_goto 50 dX12_shares_203 (by decide) ?_
    exact w_lv (hL50 _ _ _ _ _ hbs0 h) [2, 3, 4, 0, 1] rfl
def b_X12_shares_69 (a2 : Nat) (n2 : Nat) (K : Ih → Jh → Prop) (L50 : Int32 → Int32 → Int32 → Ih → Jh → Prop) : Nat → Int32 → Int32 → Int32 → Int32 → Ih → Jh → Prop
  | 0, _, _, _, _, _, _ => False
  | n + 1, x1, x3, x5, x6, I, J =>
    ((3 ≤ x6 →
    ((x5 = (-1) →
    b_X12_shares_176 a2 n2 K L50 x1 x3 x5 0 I J) ∧
    (¬ x5 = (-1) →
    b_X12_shares_176 a2 n2 K L50 x1 x3 x5 1 I J))) ∧
    (¬ 3 ≤ x6 →
    vp_in ((3000 * x6) + x1) 9000 ∧
    ∀ y2 : Int32, y2 = I 126 (Int32.toNatClampNeg ((3000 * x6) + x1)) → vp_in x6 3 ∧
    (((I 124 (Int32.toNatClampNeg x6)) = 0 →
    ∀ y4 : Int32, y4 = x6 + 1 → b_X12_shares_69 a2 n2 K L50 n x1 x3 x5 y4 I J) ∧
    (¬ (I 124 (Int32.toNatClampNeg x6)) = 0 →
    vp_in x6 3 ∧
    (((I 120 (Int32.toNatClampNeg x6)) ≤ y2 →
    ∀ y6 : Int32, y6 = x6 + 1 → b_X12_shares_69 a2 n2 K L50 n x1 x3 x5 y6 I J) ∧
    (¬ (I 120 (Int32.toNatClampNeg x6)) ≤ y2 →
    ((x5 = (-1) →
    ∀ y7 : Int32, y7 = x6 + 1 → b_X12_shares_69 a2 n2 K L50 n x1 x3 x6 y7 I J) ∧
    (¬ x5 = (-1) →
    vp_in x5 n2 ∧
    vp_in ((3000 * x5) + x1) 9000 ∧
    vp_in x6 n2 ∧
    ((0 ≤ (lg_cmp (((y2 + 1 : Int32).toInt64) * ((I a2 (Int32.toNatClampNeg x5) : Int32).toInt64)) ((((I 126 (Int32.toNatClampNeg ((3000 * x5) + x1))) + 1 : Int32).toInt64) * ((I a2 (Int32.toNatClampNeg x6) : Int32).toInt64))) →
    ∀ y11 : Int32, y11 = x6 + 1 → b_X12_shares_69 a2 n2 K L50 n x1 x3 x5 y11 I J) ∧
    (¬ 0 ≤ (lg_cmp (((y2 + 1 : Int32).toInt64) * ((I a2 (Int32.toNatClampNeg x5) : Int32).toInt64)) ((((I 126 (Int32.toNatClampNeg ((3000 * x5) + x1))) + 1 : Int32).toInt64) * ((I a2 (Int32.toNatClampNeg x6) : Int32).toInt64))) →
    ∀ y12 : Int32, y12 = x6 + 1 → b_X12_shares_69 a2 n2 K L50 n x1 x3 x6 y12 I J))))))))))
set_option maxRecDepth 20000 in
theorem tb_X12_shares_69 {E : Ev} {a2 : Nat} {n2 : Nat} (ha2 : sA a2 20 n2) (K : Ih → Jh → Prop) (L50 : Int32 → Int32 → Int32 → Ih → Jh → Prop) (hL50 : ∀ (x1 : Int32) (x3 : Int32) (x4 : Int32) (I : Ih) (J : Jh), nb x4 → L50 x1 x3 x4 I J → Wc E M_X12_shares (rmOf M_X12_shares 0 0) (fin E 0 0 (pKv K)) 0 0 50 [(0, Value.ref 87), (1, Value.int x1), (2, Value.ref a2), (3, Value.int x3), (4, Value.int x4)] [] (hp I J)) : ∀ (n : Nat) (x1 : Int32) (x3 : Int32) (x5 : Int32) (x6 : Int32) (I : Ih) (J : Jh), b_X12_shares_69 a2 n2 K L50 n x1 x3 x5 x6 I J → Wc E M_X12_shares (rmOf M_X12_shares 0 0) (fin E 0 0 (pKv K)) 0 0 69 [(0, Value.ref 87), (1, Value.int x1), (2, Value.ref a2), (3, Value.int x3), (5, Value.int x5), (6, Value.int x6)] [] (hp I J) := by
  intro n
  induction n with
  | zero => intro x1 x3 x5 x6 I J h; exact h.elim
  | succ n ih =>
    intro x1 x3 x5 x6 I J h
    unfold b_X12_shares_69 at h
    refine r_iload 71 5 dX12_shares_69 rfl rfl ?_
    refine r_iconst 72 3 dX12_shares_71 rfl (by decide) ?_
    refine r_icmp_ge 165 75 dX12_shares_72 (by decide) rfl (fun b0 => ?_) (fun b0 => ?_)
    · have h := h.1 b0
      refine r_iload 167 4 dX12_shares_165 rfl rfl ?_
      refine r_iconst 168 (-1) dX12_shares_167 rfl (by decide) ?_
      refine r_icmp_eq 175 171 dX12_shares_168 (by decide) rfl (fun b0 => ?_) (fun b0 => ?_)
      · have h := h.1 b0
        refine r_iconst 176 0 dX12_shares_175 rfl (by decide) ?_
        exact w_lv (tb_X12_shares_176 ha2 K _ hL50 _ _ _ _ _ _ nb0 h) [0, 1, 2, 3, 4] rfl
      · have h := h.2 b0
        refine r_iconst 172 1 dX12_shares_171 rfl (by decide) ?_
        refine r_goto 176 dX12_shares_172 (by decide) ?_
        exact w_lv (tb_X12_shares_176 ha2 K _ hL50 _ _ _ _ _ _ nb1 h) [0, 1, 2, 3, 4] rfl
    · have h := h.2 b0
      refine r_aload_n 76 0 dX12_shares_75 rfl rfl rfl ?_
      refine p_getR 79 oS_87 fl_X12_131 rfl qS_87_46 dX12_shares_76 rfl ?_
      refine r_sipush 82 3000 dX12_shares_79 rfl (by decide) ?_
      refine r_iload 84 5 dX12_shares_82 rfl rfl ?_
      refine r_imul 85 dX12_shares_84 rfl ?_
      refine r_iload_n 86 1 dX12_shares_85 rfl rfl rfl ?_
      refine r_iadd 87 dX12_shares_86 rfl ?_
      obtain ⟨o1, h⟩ := h
      refine p_iaload 88 _ rfl aS_126 o1 dX12_shares_87 rfl ?_
      have h := h _ rfl
      refine r_istore 90 [(7, _), (0, _), (1, _), (2, _), (3, _), (5, _), (6, _)] dX12_shares_88 rfl (by decide) rfl ?_
      refine r_aload_n 91 1 dX12_shares_90 rfl rfl rfl ?_
      refine p_getR 94 oS_87 fl_X12_125 rfl qS_87_43 dX12_shares_91 rfl ?_
      refine r_iload 96 6 dX12_shares_94 rfl rfl ?_
      obtain ⟨o3, h⟩ := h
      refine p_zaload 97 _ rfl aS_124 o3 dX12_shares_96 rfl ?_
      refine r_if_eq 159 100 dX12_shares_97 (by decide) rfl (fun b0 => ?_) (fun b0 => ?_)
      · have h := h.1 b0
        have h := h _ rfl
        refine r_iinc 162 6 [(6, _), (7, _), (0, _), (1, _), (2, _), (3, _), (5, _)] _ dX12_shares_159 rfl rfl rfl (by decide) rfl ?_
        refine r_goto 69 dX12_shares_162 (by decide) ?_
        exact w_lv (ih _ _ _ _ _ _ h) [2, 3, 4, 5, 6, 0] rfl
      · have h := h.2 b0
        refine r_iload 102 0 dX12_shares_100 rfl rfl ?_
        refine r_aload_n 103 1 dX12_shares_102 rfl rfl rfl ?_
        refine p_getR 106 oS_87 fl_X12_109 rfl qS_87_38 dX12_shares_103 rfl ?_
        refine r_iload 108 6 dX12_shares_106 rfl rfl ?_
        obtain ⟨o5, h⟩ := h
        refine p_iaload 109 _ rfl aS_120 o5 dX12_shares_108 rfl ?_
        refine r_icmp_ge 159 112 dX12_shares_109 (by decide) rfl (fun b0 => ?_) (fun b0 => ?_)
        · have h := h.1 b0
          have h := h _ rfl
          refine r_iinc 162 6 [(6, _), (7, _), (0, _), (1, _), (2, _), (3, _), (5, _)] _ dX12_shares_159 rfl rfl rfl (by decide) rfl ?_
          refine r_goto 69 dX12_shares_162 (by decide) ?_
          exact w_lv (ih _ _ _ _ _ _ h) [2, 3, 4, 5, 6, 0] rfl
        · have h := h.2 b0
          refine r_iload 114 5 dX12_shares_112 rfl rfl ?_
          refine r_iconst 115 (-1) dX12_shares_114 rfl (by decide) ?_
          refine r_icmp_eq 155 118 dX12_shares_115 (by decide) rfl (fun b0 => ?_) (fun b0 => ?_)
          · have h := h.1 b0
            refine r_iload 157 6 dX12_shares_155 rfl rfl ?_
            refine r_istore 159 [(5, _), (7, _), (0, _), (1, _), (2, _), (3, _), (6, _)] dX12_shares_157 rfl (by decide) rfl ?_
            have h := h _ rfl
            refine r_iinc 162 6 [(6, _), (5, _), (7, _), (0, _), (1, _), (2, _), (3, _)] _ dX12_shares_159 rfl rfl rfl (by decide) rfl ?_
            refine r_goto 69 dX12_shares_162 (by decide) ?_
            exact w_lv (ih _ _ _ _ _ _ h) [3, 4, 5, 6, 1, 0] rfl
          · have h := h.2 b0
            refine r_iload 120 0 dX12_shares_118 rfl rfl ?_
            refine r_iconst 121 1 dX12_shares_120 rfl (by decide) ?_
            refine r_iadd 122 dX12_shares_121 rfl ?_
            refine r_i2l 123 dX12_shares_122 rfl ?_
            refine r_aload_n 124 3 dX12_shares_123 rfl rfl rfl ?_
            refine r_iload 126 5 dX12_shares_124 rfl rfl ?_
            obtain ⟨o8, h⟩ := h
            refine p_iaload 127 _ rfl ha2 o8 dX12_shares_126 rfl ?_
            refine r_i2l 128 dX12_shares_127 rfl ?_
            refine r_lmul 129 dX12_shares_128 rfl ?_
            refine r_aload_n 130 1 dX12_shares_129 rfl rfl rfl ?_
            refine p_getR 133 oS_87 fl_X12_131 rfl qS_87_46 dX12_shares_130 rfl ?_
            refine r_sipush 136 3000 dX12_shares_133 rfl (by decide) ?_
            refine r_iload 138 5 dX12_shares_136 rfl rfl ?_
            refine r_imul 139 dX12_shares_138 rfl ?_
            refine r_iload_n 140 2 dX12_shares_139 rfl rfl rfl ?_
            refine r_iadd 141 dX12_shares_140 rfl ?_
            obtain ⟨o9, h⟩ := h
            refine p_iaload 142 _ rfl aS_126 o9 dX12_shares_141 rfl ?_
            refine r_iconst 143 1 dX12_shares_142 rfl (by decide) ?_
            refine r_iadd 144 dX12_shares_143 rfl ?_
            refine r_i2l 145 dX12_shares_144 rfl ?_
            refine r_aload_n 146 3 dX12_shares_145 rfl rfl rfl ?_
            refine r_iload 148 6 dX12_shares_146 rfl rfl ?_
            obtain ⟨o10, h⟩ := h
            refine p_iaload 149 _ rfl ha2 o10 dX12_shares_148 rfl ?_
            refine r_i2l 150 dX12_shares_149 rfl ?_
            refine r_lmul 151 dX12_shares_150 rfl ?_
            refine r_lcmp 152 dX12_shares_151 rfl ?_
            refine r_if_ge 159 155 dX12_shares_152 (by decide) rfl (fun b0 => ?_) (fun b0 => ?_)
            · have h := h.1 b0
              have h := h _ rfl
              refine r_iinc 162 6 [(6, _), (7, _), (0, _), (1, _), (2, _), (3, _), (5, _)] _ dX12_shares_159 rfl rfl rfl (by decide) rfl ?_
              refine r_goto 69 dX12_shares_162 (by decide) ?_
              exact w_lv (ih _ _ _ _ _ _ h) [2, 3, 4, 5, 6, 0] rfl
            · have h := h.2 b0
              refine r_iload 157 6 dX12_shares_155 rfl rfl ?_
              refine r_istore 159 [(5, _), (7, _), (0, _), (1, _), (2, _), (3, _), (6, _)] dX12_shares_157 rfl (by decide) rfl ?_
              have h := h _ rfl
              refine r_iinc 162 6 [(6, _), (5, _), (7, _), (0, _), (1, _), (2, _), (3, _)] _ dX12_shares_159 rfl rfl rfl (by decide) rfl ?_
              refine r_goto 69 dX12_shares_162 (by decide) ?_
              exact w_lv (ih _ _ _ _ _ _ h) [3, 4, 5, 6, 1, 0] rfl
def b_X12_shares_50 (a2 : Nat) (n2 : Nat) (K : Ih → Jh → Prop)  : Nat → Int32 → Int32 → Int32 → Ih → Jh → Prop
  | 0, _, _, _, _, _ => False
  | n + 1, x1, x3, x4, I, J =>
    ((x4 = 0 →
    K I J) ∧
    (¬ x4 = 0 →
    (((I 87 41) ≤ x3 →
    K I J) ∧
    (¬ (I 87 41) ≤ x3 →
    ∃ w69, b_X12_shares_69 a2 n2 K (fun z0 z1 z2 I J => b_X12_shares_50 a2 n2 K n z0 z1 z2 I J) w69 x1 x3 (-1) 0 I J))))
set_option maxRecDepth 20000 in
theorem tb_X12_shares_50 {E : Ev} {a2 : Nat} {n2 : Nat} (ha2 : sA a2 20 n2) (K : Ih → Jh → Prop)   : ∀ (n : Nat) (x1 : Int32) (x3 : Int32) (x4 : Int32) (I : Ih) (J : Jh), nb x4 → b_X12_shares_50 a2 n2 K n x1 x3 x4 I J → Wc E M_X12_shares (rmOf M_X12_shares 0 0) (fin E 0 0 (pKv K)) 0 0 50 [(0, Value.ref 87), (1, Value.int x1), (2, Value.ref a2), (3, Value.int x3), (4, Value.int x4)] [] (hp I J) := by
  intro n
  induction n with
  | zero => intro x1 x3 x4 I J hb4 h; exact h.elim
  | succ n ih =>
    intro x1 x3 x4 I J hb4 h
    unfold b_X12_shares_50 at h
    refine r_iload 52 4 dX12_shares_50 rfl rfl ?_
    refine r_if_eq 206 55 dX12_shares_52 (by decide) rfl (fun b0 => ?_) (fun b0 => ?_)
    · have h := h.1 b0
      exact p_vret dX12_shares_206 rfl h
    · have h := h.2 b0
      refine r_iload_n 56 3 dX12_shares_55 rfl rfl rfl ?_
      refine r_aload_n 57 0 dX12_shares_56 rfl rfl rfl ?_
      refine p_getI 60 oS_87 fl_X12_118 rfl dX12_shares_57 rfl ?_
      refine r_icmp_ge 206 63 dX12_shares_60 (by decide) rfl (fun b0 => ?_) (fun b0 => ?_)
      · have h := h.1 b0
        exact p_vret dX12_shares_206 rfl h
      · have h := h.2 b0
        refine r_iconst 64 (-1) dX12_shares_63 rfl (by decide) ?_
        refine r_istore 66 [(5, _), (0, _), (1, _), (2, _), (3, _), (4, _)] dX12_shares_64 rfl (by decide) rfl ?_
        refine r_iconst 67 0 dX12_shares_66 rfl (by decide) ?_
        refine r_istore 69 [(6, _), (5, _), (0, _), (1, _), (2, _), (3, _), (4, _)] dX12_shares_67 rfl (by decide) rfl ?_
        obtain ⟨nn1, h⟩ := h
        exact w_lv (tb_X12_shares_69 ha2 K _ ih _ _ _ _ _ _ _ h) [2, 3, 4, 5, 1, 0] rfl
def b_X12_shares_5 (a2 : Nat) (n2 : Nat) (K : Ih → Jh → Prop)  : Nat → Int32 → Int32 → Int32 → Ih → Jh → Prop
  | 0, _, _, _, _, _ => False
  | n + 1, x1, x3, x4, I, J =>
    ((3 ≤ x4 →
    ∃ w50, b_X12_shares_50 a2 n2 K w50 x1 x3 1 I J) ∧
    (¬ 3 ≤ x4 →
    vp_in x4 3 ∧
    (((I 124 (Int32.toNatClampNeg x4)) = 0 →
    ∀ y3 : Int32, y3 = x3 + 0 → ∀ y4 : Int32, y4 = x4 + 1 → b_X12_shares_5 a2 n2 K n x1 y3 y4 I J) ∧
    (¬ (I 124 (Int32.toNatClampNeg x4)) = 0 →
    vp_in ((3000 * x4) + x1) 9000 ∧
    ∀ y6 : Int32, y6 = x3 + (I 126 (Int32.toNatClampNeg ((3000 * x4) + x1))) → ∀ y7 : Int32, y7 = x4 + 1 → b_X12_shares_5 a2 n2 K n x1 y6 y7 I J))))
set_option maxRecDepth 20000 in
theorem tb_X12_shares_5 {E : Ev} {a2 : Nat} {n2 : Nat} (ha2 : sA a2 20 n2) (K : Ih → Jh → Prop)   : ∀ (n : Nat) (x1 : Int32) (x3 : Int32) (x4 : Int32) (I : Ih) (J : Jh), b_X12_shares_5 a2 n2 K n x1 x3 x4 I J → Wc E M_X12_shares (rmOf M_X12_shares 0 0) (fin E 0 0 (pKv K)) 0 0 5 [(0, Value.ref 87), (1, Value.int x1), (2, Value.ref a2), (3, Value.int x3), (4, Value.int x4)] [] (hp I J) := by
  intro n
  induction n with
  | zero => intro x1 x3 x4 I J h; exact h.elim
  | succ n ih =>
    intro x1 x3 x4 I J h
    unfold b_X12_shares_5 at h
    refine r_iload 7 4 dX12_shares_5 rfl rfl ?_
    refine r_iconst 8 3 dX12_shares_7 rfl (by decide) ?_
    refine r_icmp_ge 47 11 dX12_shares_8 (by decide) rfl (fun b0 => ?_) (fun b0 => ?_)
    · have h := h.1 b0
      refine r_iconst 48 1 dX12_shares_47 rfl (by decide) ?_
      refine r_istore 50 [(4, _), (0, _), (1, _), (2, _), (3, _)] dX12_shares_48 rfl (by decide) rfl ?_
      obtain ⟨nn1, h⟩ := h
      exact w_lv (tb_X12_shares_50 ha2 K _ _ _ _ _ _ nb1 h) [1, 2, 3, 4, 0] rfl
    · have h := h.2 b0
      refine r_iload_n 12 3 dX12_shares_11 rfl rfl rfl ?_
      refine r_aload_n 13 0 dX12_shares_12 rfl rfl rfl ?_
      refine p_getR 16 oS_87 fl_X12_125 rfl qS_87_43 dX12_shares_13 rfl ?_
      refine r_iload 18 4 dX12_shares_16 rfl rfl ?_
      obtain ⟨o2, h⟩ := h
      refine p_zaload 19 _ rfl aS_124 o2 dX12_shares_18 rfl ?_
      refine r_if_eq 38 22 dX12_shares_19 (by decide) rfl (fun b0 => ?_) (fun b0 => ?_)
      · have h := h.1 b0
        refine r_iconst 39 0 dX12_shares_38 rfl (by decide) ?_
        refine r_iadd 40 dX12_shares_39 rfl ?_
        have h := h _ rfl
        refine r_istore_n 41 [(3, _), (0, _), (1, _), (2, _), (4, _)] dX12_shares_40 rfl rfl (by decide) rfl ?_
        have h := h _ rfl
        refine r_iinc 44 4 [(4, _), (3, _), (0, _), (1, _), (2, _)] _ dX12_shares_41 rfl rfl rfl (by decide) rfl ?_
        refine r_goto 5 dX12_shares_44 (by decide) ?_
        exact w_lv (ih _ _ _ _ _ h) [2, 3, 4, 1, 0] rfl
      · have h := h.2 b0
        refine r_aload_n 23 0 dX12_shares_22 rfl rfl rfl ?_
        refine p_getR 26 oS_87 fl_X12_131 rfl qS_87_46 dX12_shares_23 rfl ?_
        refine r_sipush 29 3000 dX12_shares_26 rfl (by decide) ?_
        refine r_iload 31 4 dX12_shares_29 rfl rfl ?_
        refine r_imul 32 dX12_shares_31 rfl ?_
        refine r_iload_n 33 1 dX12_shares_32 rfl rfl rfl ?_
        refine r_iadd 34 dX12_shares_33 rfl ?_
        obtain ⟨o5, h⟩ := h
        refine p_iaload 35 _ rfl aS_126 o5 dX12_shares_34 rfl ?_
        refine r_goto 39 dX12_shares_35 (by decide) ?_
        refine r_iadd 40 dX12_shares_39 rfl ?_
        have h := h _ rfl
        refine r_istore_n 41 [(3, _), (0, _), (1, _), (2, _), (4, _)] dX12_shares_40 rfl rfl (by decide) rfl ?_
        have h := h _ rfl
        refine r_iinc 44 4 [(4, _), (3, _), (0, _), (1, _), (2, _)] _ dX12_shares_41 rfl rfl rfl (by decide) rfl ?_
        refine r_goto 5 dX12_shares_44 (by decide) ?_
        exact w_lv (ih _ _ _ _ _ h) [2, 3, 4, 1, 0] rfl
def vc_X12_shares (x1 : Int32) (a2 : Nat) (n2 : Nat) (I : Ih) (J : Jh) (K : Ih → Jh → Prop) : Prop :=
    ∃ w5, b_X12_shares_5 a2 n2 K w5 x1 0 0 I J
set_option maxRecDepth 20000 in
theorem t_X12_shares {E : Ev} (x1 : Int32) (a2 : Nat) (n2 : Nat) (ha2 : sA a2 20 n2) (I : Ih) (J : Jh) (K : Ih → Jh → Prop) (h : vc_X12_shares x1 a2 n2 I J K) : Wm E M_X12_shares 0 0 [.ref 87, .int x1, .ref a2] (hp I J) (pKv K) := by
  refine w_entry (by decide) (Nat.le_of_ble_eq_true rfl) ?_
  show Wc E M_X12_shares (rmOf M_X12_shares 0 0) (fin E 0 0 (pKv K)) 0 0 0 [(0, _), (1, _), (2, _)] [] (hp I J)
  unfold vc_X12_shares at h
  refine r_iconst 1 0 dX12_shares_0 rfl (by decide) ?_
  refine r_istore_n 2 [(3, _), (0, _), (1, _), (2, _)] dX12_shares_1 rfl rfl (by decide) rfl ?_
  refine r_iconst 3 0 dX12_shares_2 rfl (by decide) ?_
  refine r_istore 5 [(4, _), (3, _), (0, _), (1, _), (2, _)] dX12_shares_3 rfl (by decide) rfl ?_
  obtain ⟨nn1, h⟩ := h
  exact w_lv (tb_X12_shares_5 ha2 K _ _ _ _ _ _ h) [2, 3, 4, 1, 0] rfl
def b_X12_four_3 (a1 : Nat) (n1 : Nat) (K : Ih → Jh → Prop)  : Nat → Int32 → Int32 → Int32 → Ih → Jh → Prop
  | 0, _, _, _, _, _ => False
  | n + 1, x2, x3, x4, I, J =>
    ((4 ≤ x4 →
    K I J) ∧
    (¬ 4 ≤ x4 →
    vp_in (x2 + x4) n1 ∧
    ∀ I2 : Ih, I2 = updI I a1 (Int32.toNatClampNeg (x2 + x4)) (Int8.toInt32 (Int32.toInt8 (((x3 >>> (((24 - (8 * x4)) : Int32) &&& 31) : Int32) : Int32).toInt8.toInt32))) → ∀ y3 : Int32, y3 = x4 + 1 → b_X12_four_3 a1 n1 K n x2 x3 y3 I2 J))
set_option maxRecDepth 20000 in
theorem tb_X12_four_3 {E : Ev} {a1 : Nat} {n1 : Nat} (ha1 : sA a1 21 n1) (K : Ih → Jh → Prop)   : ∀ (n : Nat) (x2 : Int32) (x3 : Int32) (x4 : Int32) (I : Ih) (J : Jh), b_X12_four_3 a1 n1 K n x2 x3 x4 I J → Wc E M_X12_four (rmOf M_X12_four 0 0) (fin E 0 0 (pKv K)) 0 0 3 [(1, Value.ref a1), (2, Value.int x2), (3, Value.int x3), (4, Value.int x4)] [] (hp I J) := by
  intro n
  induction n with
  | zero => intro x2 x3 x4 I J h; exact h.elim
  | succ n ih =>
    intro x2 x3 x4 I J h
    unfold b_X12_four_3 at h
    refine r_iload 5 3 dX12_four_3 rfl rfl ?_
    refine r_iconst 6 4 dX12_four_5 rfl (by decide) ?_
    refine r_icmp_ge 32 9 dX12_four_6 (by decide) rfl (fun b0 => ?_) (fun b0 => ?_)
    · have h := h.1 b0
      exact p_vret dX12_four_32 rfl h
    · have h := h.2 b0
      refine r_aload_n 10 0 dX12_four_9 rfl rfl rfl ?_
      refine r_iload_n 11 1 dX12_four_10 rfl rfl rfl ?_
      refine r_iload 13 3 dX12_four_11 rfl rfl ?_
      refine r_iadd 14 dX12_four_13 rfl ?_
      refine r_iload_n 15 2 dX12_four_14 rfl rfl rfl ?_
      refine r_bipush 17 24 dX12_four_15 rfl (by decide) ?_
      refine r_bipush 19 8 dX12_four_17 rfl (by decide) ?_
      refine r_iload 21 3 dX12_four_19 rfl rfl ?_
      refine r_imul 22 dX12_four_21 rfl ?_
      refine r_isub 23 dX12_four_22 rfl ?_
      refine r_ishr 24 dX12_four_23 rfl ?_
      refine r_i2b 25 dX12_four_24 rfl ?_
      obtain ⟨o1, h⟩ := h
      have h := h _ rfl
      refine p_bastore 26 _ rfl ha1 o1 dX12_four_25 rfl ?_
      have h := h _ rfl
      refine r_iinc 29 3 [(4, _), (1, _), (2, _), (3, _)] _ dX12_four_26 rfl rfl rfl (by decide) rfl ?_
      refine r_goto 3 dX12_four_29 (by decide) ?_
      exact w_lv (ih _ _ _ _ _ h) [1, 2, 3, 0] rfl
def vc_X12_four (a1 : Nat) (n1 : Nat) (x2 : Int32) (x3 : Int32) (I : Ih) (J : Jh) (K : Ih → Jh → Prop) : Prop :=
    ∃ w3, b_X12_four_3 a1 n1 K w3 x2 x3 0 I J
set_option maxRecDepth 20000 in
theorem t_X12_four {E : Ev} (a1 : Nat) (n1 : Nat) (x2 : Int32) (x3 : Int32) (ha1 : sA a1 21 n1) (I : Ih) (J : Jh) (K : Ih → Jh → Prop) (h : vc_X12_four a1 n1 x2 x3 I J K) : Wm E M_X12_four 0 0 [.ref 87, .ref a1, .int x2, .int x3] (hp I J) (pKv K) := by
  refine w_entry (by decide) (Nat.le_of_ble_eq_true rfl) ?_
  show Wc E M_X12_four (rmOf M_X12_four 0 0) (fin E 0 0 (pKv K)) 0 0 0 [(0, _), (1, _), (2, _), (3, _)] [] (hp I J)
  unfold vc_X12_four at h
  refine r_iconst 1 0 dX12_four_0 rfl (by decide) ?_
  refine r_istore 3 [(4, _), (0, _), (1, _), (2, _), (3, _)] dX12_four_1 rfl (by decide) rfl ?_
  obtain ⟨nn1, h⟩ := h
  exact w_lv (tb_X12_four_3 ha1 K _ _ _ _ _ _ h) [2, 3, 4, 0] rfl
def vc_X12_two (a1 : Nat) (n1 : Nat) (x2 : Int32) (x3 : Int32) (I : Ih) (J : Jh) (K : Ih → Jh → Prop) : Prop :=
    vp_in x2 n1 ∧
    ∀ I2 : Ih, I2 = updI I a1 (Int32.toNatClampNeg x2) (Int8.toInt32 (Int32.toInt8 (((x3 >>> ((8 : Int32) &&& 31) : Int32) : Int32).toInt8.toInt32))) → vp_in (x2 + 1) n1 ∧
    ∀ I4 : Ih, I4 = updI I2 a1 (Int32.toNatClampNeg (x2 + 1)) (Int8.toInt32 (Int32.toInt8 ((x3 : Int32).toInt8.toInt32))) → K I4 J
set_option maxRecDepth 20000 in
theorem t_X12_two {E : Ev} (a1 : Nat) (n1 : Nat) (x2 : Int32) (x3 : Int32) (ha1 : sA a1 21 n1) (I : Ih) (J : Jh) (K : Ih → Jh → Prop) (h : vc_X12_two a1 n1 x2 x3 I J K) : Wm E M_X12_two 0 0 [.ref 87, .ref a1, .int x2, .int x3] (hp I J) (pKv K) := by
  refine w_entry (by decide) (Nat.le_of_ble_eq_true rfl) ?_
  show Wc E M_X12_two (rmOf M_X12_two 0 0) (fin E 0 0 (pKv K)) 0 0 0 [(0, _), (1, _), (2, _), (3, _)] [] (hp I J)
  unfold vc_X12_two at h
  refine r_aload_n 1 1 dX12_two_0 rfl rfl rfl ?_
  refine r_iload_n 2 2 dX12_two_1 rfl rfl rfl ?_
  refine r_iload_n 3 3 dX12_two_2 rfl rfl rfl ?_
  refine r_bipush 5 8 dX12_two_3 rfl (by decide) ?_
  refine r_ishr 6 dX12_two_5 rfl ?_
  refine r_i2b 7 dX12_two_6 rfl ?_
  obtain ⟨o1, h⟩ := h
  have h := h _ rfl
  refine p_bastore 8 _ rfl ha1 o1 dX12_two_7 rfl ?_
  refine r_aload_n 9 1 dX12_two_8 rfl rfl rfl ?_
  refine r_iload_n 10 2 dX12_two_9 rfl rfl rfl ?_
  refine r_iconst 11 1 dX12_two_10 rfl (by decide) ?_
  refine r_iadd 12 dX12_two_11 rfl ?_
  refine r_iload_n 13 3 dX12_two_12 rfl rfl rfl ?_
  refine r_i2b 14 dX12_two_13 rfl ?_
  obtain ⟨o3, h⟩ := h
  have h := h _ rfl
  refine p_bastore 15 _ rfl ha1 o3 dX12_two_14 rfl ?_
  exact p_vret dX12_two_15 rfl h
def b_X12_writes_346 (K : Ih → Jh → Prop)  : Nat → Int32 → Int32 → Int32 → Int32 → Ih → Jh → Prop
  | 0, _, _, _, _, _, _ => False
  | n + 1, x5, x8, x9, x10, I, J =>
    ((x5 ≤ x10 →
    vc_X12_checkOf 131 81378 (x8 + 4) (x8 + x5) I J (fun (r3 : Int32) I1 J2 =>
    vc_X12_four 131 81378 x8 r3 I1 J2 (fun I4 J5 =>
    K I4 J5))) ∧
    (¬ x5 ≤ x10 →
    ∀ y7 : Int32, y7 = (1103515245 * x9) + 12345 → vp_in (x8 + x10) 81378 ∧
    ∀ I9 : Ih, I9 = updI I 131 (Int32.toNatClampNeg (x8 + x10)) (Int8.toInt32 (Int32.toInt8 (((y7 >>> ((16 : Int32) &&& 31) : Int32) : Int32).toInt8.toInt32))) → ∀ y10 : Int32, y10 = x10 + 1 → b_X12_writes_346 K n x5 x8 y7 y10 I9 J))
set_option maxRecDepth 20000 in
theorem tb_X12_writes_346 {E : Ev} (K : Ih → Jh → Prop)   : ∀ (n : Nat) (x5 : Int32) (x8 : Int32) (x9 : Int32) (x10 : Int32) (I : Ih) (J : Jh), b_X12_writes_346 K n x5 x8 x9 x10 I J → Wc E M_X12_writes (rmOf M_X12_writes 0 0) (fin E 0 0 (pKv K)) 0 0 346 [(0, Value.ref 87), (5, Value.int x5), (8, Value.int x8), (9, Value.int x9), (10, Value.int x10)] [] (hp I J) := by
  intro n
  induction n with
  | zero => intro x5 x8 x9 x10 I J h; exact h.elim
  | succ n ih =>
    intro x5 x8 x9 x10 I J h
    unfold b_X12_writes_346 at h
    refine r_iload 348 4 dX12_writes_346 rfl rfl ?_
    refine r_iload 350 1 dX12_writes_348 rfl rfl ?_
    refine r_icmp_ge 387 353 dX12_writes_350 (by decide) rfl (fun b0 => ?_) (fun b0 => ?_)
    · have h := h.1 b0
      refine r_aload_n 388 0 dX12_writes_387 rfl rfl rfl ?_
      refine r_aload_n 389 0 dX12_writes_388 rfl rfl rfl ?_
      refine p_getR 392 oS_87 fl_X12_147 rfl qS_87_51 dX12_writes_389 rfl ?_
      refine r_iload 394 2 dX12_writes_392 rfl rfl ?_
      refine r_aload_n 395 0 dX12_writes_394 rfl rfl rfl ?_
      refine r_aload_n 396 0 dX12_writes_395 rfl rfl rfl ?_
      refine p_getR 399 oS_87 fl_X12_147 rfl qS_87_51 dX12_writes_396 rfl ?_
      refine r_iload 401 2 dX12_writes_399 rfl rfl ?_
      refine r_iconst 402 4 dX12_writes_401 rfl (by decide) ?_
      refine r_iadd 403 dX12_writes_402 rfl ?_
      refine r_iload 405 2 dX12_writes_403 rfl rfl ?_
      refine r_iload 407 1 dX12_writes_405 rfl rfl ?_
      refine r_iadd 408 dX12_writes_407 rfl ?_
      refine p_callVi 411 (as := [Value.ref _, Value.int _, Value.int _]) (t_X12_checkOf _ _ _ _ aS_131 _ _ _ h) ok_X12_checkOf ml_X12_395 im_X12_checkOf se_X12_checkOf oS_87 rfl (RMOK.mk (by decide) (by decide)) (Nat.le_of_ble_eq_true rfl) rfl dX12_writes_408 rfl (fun r3 I1 J2 h => ?_)
      refine p_callVv 414 (as := [Value.ref _, Value.int _, Value.int _]) (t_X12_four _ _ _ _ aS_131 _ _ _ h) ok_X12_four ml_X12_378 im_X12_four se_X12_four oS_87 rfl (RMOK.mk (by decide) (by decide)) (Nat.le_of_ble_eq_true rfl) rfl dX12_writes_411 rfl (fun I4 J5 h => ?_)
      exact p_vret dX12_writes_414 rfl h
    · have h := h.2 b0
      refine r_ldc_w 356 cn_X12_394 dX12_writes_353 rfl ?_
      refine r_iload 358 3 dX12_writes_356 rfl rfl ?_
      refine r_imul 359 dX12_writes_358 rfl ?_
      refine r_sipush 362 12345 dX12_writes_359 rfl (by decide) ?_
      refine r_iadd 363 dX12_writes_362 rfl ?_
      have h := h _ rfl
      refine r_istore 365 [(9, _), (0, _), (5, _), (8, _), (10, _)] dX12_writes_363 rfl (by decide) rfl ?_
      refine r_aload_n 366 1 dX12_writes_365 rfl rfl rfl ?_
      refine p_getR 369 oS_87 fl_X12_147 rfl qS_87_51 dX12_writes_366 rfl ?_
      refine r_iload 371 3 dX12_writes_369 rfl rfl ?_
      refine r_iload 373 4 dX12_writes_371 rfl rfl ?_
      refine r_iadd 374 dX12_writes_373 rfl ?_
      refine r_iload 376 0 dX12_writes_374 rfl rfl ?_
      refine r_bipush 378 16 dX12_writes_376 rfl (by decide) ?_
      refine r_ishr 379 dX12_writes_378 rfl ?_
      refine r_i2b 380 dX12_writes_379 rfl ?_
      obtain ⟨o8, h⟩ := h
      have h := h _ rfl
      refine p_bastore 381 _ rfl aS_131 o8 dX12_writes_380 rfl ?_
      have h := h _ rfl
      refine r_iinc 384 4 [(10, _), (9, _), (0, _), (5, _), (8, _)] _ dX12_writes_381 rfl rfl rfl (by decide) rfl ?_
      refine r_goto 346 dX12_writes_384 (by decide) ?_
      exact w_lv (ih _ _ _ _ _ _ h) [2, 3, 4, 1, 0] rfl
def b_X12_writes_294 (K : Ih → Jh → Prop)  (x1 : Int32) (x2 : Int32) (x3 : Int32) (x5 : Int32) (x8 : Int32) (s2 : Int32) (s3 : Int32) (I : Ih) (J : Jh) : Prop :=
    vc_X12_two 131 81378 s2 s3 I J (fun I1 J2 =>
    vp_in x3 9000 ∧
    vp_in (x8 + 9) 81378 ∧
    ∀ I6 : Ih, I6 = updI I1 131 (Int32.toNatClampNeg (x8 + 9)) (Int8.toInt32 (Int32.toInt8 ((I1 127 (Int32.toNatClampNeg x3) : Int32).toInt8.toInt32))) → vp_in x3 9000 ∧
    vc_X12_two 131 81378 (x8 + 10) (I6 116 (Int32.toNatClampNeg x3)) I6 J2 (fun I8 J9 =>
    ∀ y11 : Int32, y11 = (65536 * x1) + x2 → ∃ w346, b_X12_writes_346 K w346 x5 x8 y11 12 I8 J9))
set_option maxRecDepth 20000 in
theorem tb_X12_writes_294 {E : Ev} (K : Ih → Jh → Prop)   (x1 : Int32) (x2 : Int32) (x3 : Int32) (x5 : Int32) (x8 : Int32) (s2 : Int32) (s3 : Int32) (I : Ih) (J : Jh) (h : b_X12_writes_294 K x1 x2 x3 x5 x8 s2 s3 I J) : Wc E M_X12_writes (rmOf M_X12_writes 0 0) (fin E 0 0 (pKv K)) 0 0 294 [(0, Value.ref 87), (1, Value.int x1), (2, Value.int x2), (3, Value.int x3), (5, Value.int x5), (8, Value.int x8)] [Value.int s3, Value.int s2, Value.ref 131, Value.ref 87] (hp I J) := by
  unfold b_X12_writes_294 at h
  refine p_callVv 297 (as := [Value.ref _, Value.int _, Value.int _]) (t_X12_two _ _ _ _ aS_131 _ _ _ h) ok_X12_two ml_X12_382 im_X12_two se_X12_two oS_87 rfl (RMOK.mk (by decide) (by decide)) (Nat.le_of_ble_eq_true rfl) rfl dX12_writes_294 rfl (fun I1 J2 h => ?_)
  refine r_aload_n 298 0 dX12_writes_297 rfl rfl rfl ?_
  refine p_getR 301 oS_87 fl_X12_147 rfl qS_87_51 dX12_writes_298 rfl ?_
  refine r_iload 303 5 dX12_writes_301 rfl rfl ?_
  refine r_bipush 305 9 dX12_writes_303 rfl (by decide) ?_
  refine r_iadd 306 dX12_writes_305 rfl ?_
  refine r_aload_n 307 0 dX12_writes_306 rfl rfl rfl ?_
  refine p_getR 310 oS_87 fl_X12_134 rfl qS_87_47 dX12_writes_307 rfl ?_
  refine r_iload_n 311 3 dX12_writes_310 rfl rfl rfl ?_
  obtain ⟨o4, h⟩ := h
  refine p_iaload 312 _ rfl aS_127 o4 dX12_writes_311 rfl ?_
  refine r_i2b 313 dX12_writes_312 rfl ?_
  obtain ⟨o5, h⟩ := h
  have h := h _ rfl
  refine p_bastore 314 _ rfl aS_131 o5 dX12_writes_313 rfl ?_
  refine r_aload_n 315 0 dX12_writes_314 rfl rfl rfl ?_
  refine r_aload_n 316 0 dX12_writes_315 rfl rfl rfl ?_
  refine p_getR 319 oS_87 fl_X12_147 rfl qS_87_51 dX12_writes_316 rfl ?_
  refine r_iload 321 5 dX12_writes_319 rfl rfl ?_
  refine r_bipush 323 10 dX12_writes_321 rfl (by decide) ?_
  refine r_iadd 324 dX12_writes_323 rfl ?_
  refine r_aload_n 325 0 dX12_writes_324 rfl rfl rfl ?_
  refine p_getR 328 oS_87 fl_X12_97 rfl qS_87_34 dX12_writes_325 rfl ?_
  refine r_iload_n 329 3 dX12_writes_328 rfl rfl rfl ?_
  obtain ⟨o7, h⟩ := h
  refine p_iaload 330 _ rfl aS_116 o7 dX12_writes_329 rfl ?_
  refine p_callVv 333 (as := [Value.ref _, Value.int _, Value.int _]) (t_X12_two _ _ _ _ aS_131 _ _ _ h) ok_X12_two ml_X12_382 im_X12_two se_X12_two oS_87 rfl (RMOK.mk (by decide) (by decide)) (Nat.le_of_ble_eq_true rfl) rfl dX12_writes_330 rfl (fun I8 J9 h => ?_)
  refine r_ldc_w 336 cn_X12_393 dX12_writes_333 rfl ?_
  refine r_iload_n 337 1 dX12_writes_336 rfl rfl rfl ?_
  refine r_imul 338 dX12_writes_337 rfl ?_
  refine r_iload_n 339 2 dX12_writes_338 rfl rfl rfl ?_
  refine r_iadd 340 dX12_writes_339 rfl ?_
  have h := h _ rfl
  refine r_istore 342 [(9, _), (0, _), (1, _), (2, _), (3, _), (5, _), (8, _)] dX12_writes_340 rfl (by decide) rfl ?_
  refine r_bipush 344 12 dX12_writes_342 rfl (by decide) ?_
  refine r_istore 346 [(10, _), (9, _), (0, _), (1, _), (2, _), (3, _), (5, _), (8, _)] dX12_writes_344 rfl (by decide) rfl ?_
  obtain ⟨nn12, h⟩ := h
  exact w_lv (tb_X12_writes_346 K _ _ _ _ _ _ _ h) [2, 6, 7, 1, 0] rfl
def vc_X12_writes (x1 : Int32) (x2 : Int32) (I : Ih) (J : Jh) (K : Ih → Jh → Prop) : Prop :=
    ∀ y1 : Int32, y1 = (3000 * x1) + x2 → ∀ y2 : Int32, y2 = ((9 * x1) + (x2 - x2 / 9 * 9)) * 3014 → vp_in y1 9000 ∧
    ∀ y4 : Int32, y4 = I 126 (Int32.toNatClampNeg y1) → vc_X12_four 131 81378 y2 480 I J (fun I5 J6 =>
    vc_X12_two 131 81378 (y2 + 4) (8 + y4) I5 J6 (fun I8 J9 =>
    vp_in (y2 + 6) 81378 ∧
    ∀ I12 : Ih, I12 = updI I8 131 (Int32.toNatClampNeg (y2 + 6)) (Int8.toInt32 (Int32.toInt8 (-128))) → vp_in (y2 + 7) 81378 ∧
    ∀ I14 : Ih, I14 = updI I12 131 (Int32.toNatClampNeg (y2 + 7)) (Int8.toInt32 (Int32.toInt8 (-128))) → vp_in (y2 + 8) 81378 ∧
    ∀ I16 : Ih, I16 = updI I14 131 (Int32.toNatClampNeg (y2 + 8)) (Int8.toInt32 (Int32.toInt8 5)) → ∀ y17 : Int64, y17 = ((J9 87 1) + (3600 * ((x2 + 8 : Int32).toInt64))) &&& 8589934591 → vp_in (y2 + 9) 81378 ∧
    ∀ I19 : Ih, I19 = updI I16 131 (Int32.toNatClampNeg (y2 + 9)) (Int8.toInt32 (Int32.toInt8 (((33 + (2 * ((y17 >>> ((30 : Int32).toInt64 &&& 63) : Int64))) : Int64).toInt32 : Int32).toInt8.toInt32))) → vp_in (y2 + 10) 81378 ∧
    ∀ I21 : Ih, I21 = updI I19 131 (Int32.toNatClampNeg (y2 + 10)) (Int8.toInt32 (Int32.toInt8 ((((y17 >>> ((22 : Int32).toInt64 &&& 63) : Int64) : Int64).toInt32 : Int32).toInt8.toInt32))) → vp_in (y2 + 11) 81378 ∧
    ∀ I23 : Ih, I23 = updI I21 131 (Int32.toNatClampNeg (y2 + 11)) (Int8.toInt32 (Int32.toInt8 (((1 + (2 * (((y17 >>> ((15 : Int32).toInt64 &&& 63) : Int64)) &&& 127)) : Int64).toInt32 : Int32).toInt8.toInt32))) → vp_in (y2 + 12) 81378 ∧
    ∀ I25 : Ih, I25 = updI I23 131 (Int32.toNatClampNeg (y2 + 12)) (Int8.toInt32 (Int32.toInt8 ((((y17 >>> ((7 : Int32).toInt64 &&& 63) : Int64) : Int64).toInt32 : Int32).toInt8.toInt32))) → vp_in (y2 + 13) 81378 ∧
    ∀ I27 : Ih, I27 = updI I25 131 (Int32.toNatClampNeg (y2 + 13)) (Int8.toInt32 (Int32.toInt8 (((1 + (2 * (y17 &&& 127)) : Int64).toInt32 : Int32).toInt8.toInt32))) → ∀ y28 : Int32, y28 = y2 + 14 → vc_X12_two 131 81378 (y28 + 4) x2 I27 J9 (fun I29 J30 =>
    vp_in y1 9000 ∧
    vp_in (y28 + 6) 81378 ∧
    ∀ I34 : Ih, I34 = updI I29 131 (Int32.toNatClampNeg (y28 + 6)) (Int8.toInt32 (Int32.toInt8 ((1 + (I29 113 (Int32.toNatClampNeg y1)) : Int32).toInt8.toInt32))) → vp_in y1 9000 ∧
    ((¬ (I34 111 (Int32.toNatClampNeg y1)) = 0 →
    vp_in y1 9000 ∧
    b_X12_writes_294 K x1 x2 y1 y4 y28 (y28 + 7) (I34 114 (Int32.toNatClampNeg y1)) I34 J30) ∧
    ((I34 111 (Int32.toNatClampNeg y1)) = 0 →
    b_X12_writes_294 K x1 x2 y1 y4 y28 (y28 + 7) 0 I34 J30)))))
set_option maxRecDepth 20000 in
theorem t_X12_writes {E : Ev} (x1 : Int32) (x2 : Int32)  (I : Ih) (J : Jh) (K : Ih → Jh → Prop) (h : vc_X12_writes x1 x2 I J K) : Wm E M_X12_writes 0 0 [.ref 87, .int x1, .int x2] (hp I J) (pKv K) := by
  refine w_entry (by decide) (Nat.le_of_ble_eq_true rfl) ?_
  show Wc E M_X12_writes (rmOf M_X12_writes 0 0) (fin E 0 0 (pKv K)) 0 0 0 [(0, _), (1, _), (2, _)] [] (hp I J)
  unfold vc_X12_writes at h
  refine r_sipush 3 3000 dX12_writes_0 rfl (by decide) ?_
  refine r_iload_n 4 1 dX12_writes_3 rfl rfl rfl ?_
  refine r_imul 5 dX12_writes_4 rfl ?_
  refine r_iload_n 6 2 dX12_writes_5 rfl rfl rfl ?_
  refine r_iadd 7 dX12_writes_6 rfl ?_
  have h := h _ rfl
  refine r_istore_n 8 [(3, _), (0, _), (1, _), (2, _)] dX12_writes_7 rfl rfl (by decide) rfl ?_
  refine r_bipush 10 9 dX12_writes_8 rfl (by decide) ?_
  refine r_iload_n 11 2 dX12_writes_10 rfl rfl rfl ?_
  refine r_imul 12 dX12_writes_11 rfl ?_
  refine r_iload_n 13 3 dX12_writes_12 rfl rfl rfl ?_
  refine r_bipush 15 9 dX12_writes_13 rfl (by decide) ?_
  refine r_irem 16 dX12_writes_15 rfl (by decide) ?_
  refine r_iadd 17 dX12_writes_16 rfl ?_
  refine r_sipush 20 3014 dX12_writes_17 rfl (by decide) ?_
  refine r_imul 21 dX12_writes_20 rfl ?_
  have h := h _ rfl
  refine r_istore 23 [(4, _), (3, _), (0, _), (1, _), (2, _)] dX12_writes_21 rfl (by decide) rfl ?_
  refine r_aload_n 24 2 dX12_writes_23 rfl rfl rfl ?_
  refine p_getR 27 oS_87 fl_X12_131 rfl qS_87_46 dX12_writes_24 rfl ?_
  refine r_iload_n 28 1 dX12_writes_27 rfl rfl rfl ?_
  obtain ⟨o3, h⟩ := h
  refine p_iaload 29 _ rfl aS_126 o3 dX12_writes_28 rfl ?_
  have h := h _ rfl
  refine r_istore 31 [(5, _), (4, _), (3, _), (0, _), (1, _), (2, _)] dX12_writes_29 rfl (by decide) rfl ?_
  refine r_aload_n 32 3 dX12_writes_31 rfl rfl rfl ?_
  refine r_aload_n 33 3 dX12_writes_32 rfl rfl rfl ?_
  refine p_getR 36 oS_87 fl_X12_147 rfl qS_87_51 dX12_writes_33 rfl ?_
  refine r_iload 38 1 dX12_writes_36 rfl rfl ?_
  refine r_sipush 41 480 dX12_writes_38 rfl (by decide) ?_
  refine p_callVv 44 (as := [Value.ref _, Value.int _, Value.int _]) (t_X12_four _ _ _ _ aS_131 _ _ _ h) ok_X12_four ml_X12_378 im_X12_four se_X12_four oS_87 rfl (RMOK.mk (by decide) (by decide)) (Nat.le_of_ble_eq_true rfl) rfl dX12_writes_41 rfl (fun I5 J6 h => ?_)
  refine r_aload_n 45 3 dX12_writes_44 rfl rfl rfl ?_
  refine r_aload_n 46 3 dX12_writes_45 rfl rfl rfl ?_
  refine p_getR 49 oS_87 fl_X12_147 rfl qS_87_51 dX12_writes_46 rfl ?_
  refine r_iload 51 1 dX12_writes_49 rfl rfl ?_
  refine r_iconst 52 4 dX12_writes_51 rfl (by decide) ?_
  refine r_iadd 53 dX12_writes_52 rfl ?_
  refine r_bipush 55 8 dX12_writes_53 rfl (by decide) ?_
  refine r_iload 57 0 dX12_writes_55 rfl rfl ?_
  refine r_iadd 58 dX12_writes_57 rfl ?_
  refine p_callVv 61 (as := [Value.ref _, Value.int _, Value.int _]) (t_X12_two _ _ _ _ aS_131 _ _ _ h) ok_X12_two ml_X12_382 im_X12_two se_X12_two oS_87 rfl (RMOK.mk (by decide) (by decide)) (Nat.le_of_ble_eq_true rfl) rfl dX12_writes_58 rfl (fun I8 J9 h => ?_)
  refine r_aload_n 62 3 dX12_writes_61 rfl rfl rfl ?_
  refine p_getR 65 oS_87 fl_X12_147 rfl qS_87_51 dX12_writes_62 rfl ?_
  refine r_iload 67 1 dX12_writes_65 rfl rfl ?_
  refine r_bipush 69 6 dX12_writes_67 rfl (by decide) ?_
  refine r_iadd 70 dX12_writes_69 rfl ?_
  refine r_bipush 72 (-128) dX12_writes_70 rfl (by decide) ?_
  obtain ⟨o11, h⟩ := h
  have h := h _ rfl
  refine p_bastore 73 _ rfl aS_131 o11 dX12_writes_72 rfl ?_
  refine r_aload_n 74 3 dX12_writes_73 rfl rfl rfl ?_
  refine p_getR 77 oS_87 fl_X12_147 rfl qS_87_51 dX12_writes_74 rfl ?_
  refine r_iload 79 1 dX12_writes_77 rfl rfl ?_
  refine r_bipush 81 7 dX12_writes_79 rfl (by decide) ?_
  refine r_iadd 82 dX12_writes_81 rfl ?_
  refine r_bipush 84 (-128) dX12_writes_82 rfl (by decide) ?_
  obtain ⟨o13, h⟩ := h
  have h := h _ rfl
  refine p_bastore 85 _ rfl aS_131 o13 dX12_writes_84 rfl ?_
  refine r_aload_n 86 3 dX12_writes_85 rfl rfl rfl ?_
  refine p_getR 89 oS_87 fl_X12_147 rfl qS_87_51 dX12_writes_86 rfl ?_
  refine r_iload 91 1 dX12_writes_89 rfl rfl ?_
  refine r_bipush 93 8 dX12_writes_91 rfl (by decide) ?_
  refine r_iadd 94 dX12_writes_93 rfl ?_
  refine r_iconst 95 5 dX12_writes_94 rfl (by decide) ?_
  obtain ⟨o15, h⟩ := h
  have h := h _ rfl
  refine p_bastore 96 _ rfl aS_131 o15 dX12_writes_95 rfl ?_
  refine r_aload_n 97 3 dX12_writes_96 rfl rfl rfl ?_
  refine p_getJ 100 oS_87 fl_X12_282 rfl dX12_writes_97 rfl ?_
  refine r_ldc2_w 103 cn_X12_385 dX12_writes_100 rfl ?_
  refine r_iload_n 104 5 dX12_writes_103 rfl rfl rfl ?_
  refine r_bipush 106 8 dX12_writes_104 rfl (by decide) ?_
  refine r_iadd 107 dX12_writes_106 rfl ?_
  refine r_i2l 108 dX12_writes_107 rfl ?_
  refine r_lmul 109 dX12_writes_108 rfl ?_
  refine r_ladd 110 dX12_writes_109 rfl ?_
  refine r_ldc2_w 113 cn_X12_387 dX12_writes_110 rfl ?_
  refine r_land 114 dX12_writes_113 rfl ?_
  have h := h _ rfl
  refine r_lstore 116 [(6, _), (5, _), (4, _), (3, _), (0, _), (1, _), (2, _)] dX12_writes_114 rfl (by decide) rfl ?_
  refine r_aload_n 117 4 dX12_writes_116 rfl rfl rfl ?_
  refine p_getR 120 oS_87 fl_X12_147 rfl qS_87_51 dX12_writes_117 rfl ?_
  refine r_iload 122 2 dX12_writes_120 rfl rfl ?_
  refine r_bipush 124 9 dX12_writes_122 rfl (by decide) ?_
  refine r_iadd 125 dX12_writes_124 rfl ?_
  refine r_ldc2_w 128 cn_X12_389 dX12_writes_125 rfl ?_
  refine r_ldc2_w 131 cn_X12_278 dX12_writes_128 rfl ?_
  refine r_lload 133 0 dX12_writes_131 rfl rfl ?_
  refine r_bipush 135 30 dX12_writes_133 rfl (by decide) ?_
  refine r_lshr 136 dX12_writes_135 rfl ?_
  refine r_lmul 137 dX12_writes_136 rfl ?_
  refine r_ladd 138 dX12_writes_137 rfl ?_
  refine r_l2i 139 dX12_writes_138 rfl ?_
  refine r_i2b 140 dX12_writes_139 rfl ?_
  obtain ⟨o18, h⟩ := h
  have h := h _ rfl
  refine p_bastore 141 _ rfl aS_131 o18 dX12_writes_140 rfl ?_
  refine r_aload_n 142 4 dX12_writes_141 rfl rfl rfl ?_
  refine p_getR 145 oS_87 fl_X12_147 rfl qS_87_51 dX12_writes_142 rfl ?_
  refine r_iload 147 2 dX12_writes_145 rfl rfl ?_
  refine r_bipush 149 10 dX12_writes_147 rfl (by decide) ?_
  refine r_iadd 150 dX12_writes_149 rfl ?_
  refine r_lload 152 0 dX12_writes_150 rfl rfl ?_
  refine r_bipush 154 22 dX12_writes_152 rfl (by decide) ?_
  refine r_lshr 155 dX12_writes_154 rfl ?_
  refine r_l2i 156 dX12_writes_155 rfl ?_
  refine r_i2b 157 dX12_writes_156 rfl ?_
  obtain ⟨o20, h⟩ := h
  have h := h _ rfl
  refine p_bastore 158 _ rfl aS_131 o20 dX12_writes_157 rfl ?_
  refine r_aload_n 159 4 dX12_writes_158 rfl rfl rfl ?_
  refine p_getR 162 oS_87 fl_X12_147 rfl qS_87_51 dX12_writes_159 rfl ?_
  refine r_iload 164 2 dX12_writes_162 rfl rfl ?_
  refine r_bipush 166 11 dX12_writes_164 rfl (by decide) ?_
  refine r_iadd 167 dX12_writes_166 rfl ?_
  refine r_lconst 168 1 dX12_writes_167 rfl (by decide) ?_
  refine r_ldc2_w 171 cn_X12_278 dX12_writes_168 rfl ?_
  refine r_lload 173 0 dX12_writes_171 rfl rfl ?_
  refine r_bipush 175 15 dX12_writes_173 rfl (by decide) ?_
  refine r_lshr 176 dX12_writes_175 rfl ?_
  refine r_ldc2_w 179 cn_X12_391 dX12_writes_176 rfl ?_
  refine r_land 180 dX12_writes_179 rfl ?_
  refine r_lmul 181 dX12_writes_180 rfl ?_
  refine r_ladd 182 dX12_writes_181 rfl ?_
  refine r_l2i 183 dX12_writes_182 rfl ?_
  refine r_i2b 184 dX12_writes_183 rfl ?_
  obtain ⟨o22, h⟩ := h
  have h := h _ rfl
  refine p_bastore 185 _ rfl aS_131 o22 dX12_writes_184 rfl ?_
  refine r_aload_n 186 4 dX12_writes_185 rfl rfl rfl ?_
  refine p_getR 189 oS_87 fl_X12_147 rfl qS_87_51 dX12_writes_186 rfl ?_
  refine r_iload 191 2 dX12_writes_189 rfl rfl ?_
  refine r_bipush 193 12 dX12_writes_191 rfl (by decide) ?_
  refine r_iadd 194 dX12_writes_193 rfl ?_
  refine r_lload 196 0 dX12_writes_194 rfl rfl ?_
  refine r_bipush 198 7 dX12_writes_196 rfl (by decide) ?_
  refine r_lshr 199 dX12_writes_198 rfl ?_
  refine r_l2i 200 dX12_writes_199 rfl ?_
  refine r_i2b 201 dX12_writes_200 rfl ?_
  obtain ⟨o24, h⟩ := h
  have h := h _ rfl
  refine p_bastore 202 _ rfl aS_131 o24 dX12_writes_201 rfl ?_
  refine r_aload_n 203 4 dX12_writes_202 rfl rfl rfl ?_
  refine p_getR 206 oS_87 fl_X12_147 rfl qS_87_51 dX12_writes_203 rfl ?_
  refine r_iload 208 2 dX12_writes_206 rfl rfl ?_
  refine r_bipush 210 13 dX12_writes_208 rfl (by decide) ?_
  refine r_iadd 211 dX12_writes_210 rfl ?_
  refine r_lconst 212 1 dX12_writes_211 rfl (by decide) ?_
  refine r_ldc2_w 215 cn_X12_278 dX12_writes_212 rfl ?_
  refine r_lload 217 0 dX12_writes_215 rfl rfl ?_
  refine r_ldc2_w 220 cn_X12_391 dX12_writes_217 rfl ?_
  refine r_land 221 dX12_writes_220 rfl ?_
  refine r_lmul 222 dX12_writes_221 rfl ?_
  refine r_ladd 223 dX12_writes_222 rfl ?_
  refine r_l2i 224 dX12_writes_223 rfl ?_
  refine r_i2b 225 dX12_writes_224 rfl ?_
  obtain ⟨o26, h⟩ := h
  have h := h _ rfl
  refine p_bastore 226 _ rfl aS_131 o26 dX12_writes_225 rfl ?_
  refine r_iload 228 2 dX12_writes_226 rfl rfl ?_
  refine r_bipush 230 14 dX12_writes_228 rfl (by decide) ?_
  refine r_iadd 231 dX12_writes_230 rfl ?_
  have h := h _ rfl
  refine r_istore 233 [(8, _), (6, _), (5, _), (4, _), (3, _), (0, _), (1, _), (2, _)] dX12_writes_231 rfl (by decide) rfl ?_
  refine r_aload_n 234 5 dX12_writes_233 rfl rfl rfl ?_
  refine r_aload_n 235 5 dX12_writes_234 rfl rfl rfl ?_
  refine p_getR 238 oS_87 fl_X12_147 rfl qS_87_51 dX12_writes_235 rfl ?_
  refine r_iload 240 0 dX12_writes_238 rfl rfl ?_
  refine r_iconst 241 4 dX12_writes_240 rfl (by decide) ?_
  refine r_iadd 242 dX12_writes_241 rfl ?_
  refine r_iload_n 243 7 dX12_writes_242 rfl rfl rfl ?_
  refine p_callVv 246 (as := [Value.ref _, Value.int _, Value.int _]) (t_X12_two _ _ _ _ aS_131 _ _ _ h) ok_X12_two ml_X12_382 im_X12_two se_X12_two oS_87 rfl (RMOK.mk (by decide) (by decide)) (Nat.le_of_ble_eq_true rfl) rfl dX12_writes_243 rfl (fun I29 J30 h => ?_)
  refine r_aload_n 247 5 dX12_writes_246 rfl rfl rfl ?_
  refine p_getR 250 oS_87 fl_X12_147 rfl qS_87_51 dX12_writes_247 rfl ?_
  refine r_iload 252 0 dX12_writes_250 rfl rfl ?_
  refine r_bipush 254 6 dX12_writes_252 rfl (by decide) ?_
  refine r_iadd 255 dX12_writes_254 rfl ?_
  refine r_iconst 256 1 dX12_writes_255 rfl (by decide) ?_
  refine r_aload_n 257 5 dX12_writes_256 rfl rfl rfl ?_
  refine p_getR 260 oS_87 fl_X12_88 rfl qS_87_31 dX12_writes_257 rfl ?_
  refine r_iload_n 261 4 dX12_writes_260 rfl rfl rfl ?_
  obtain ⟨o32, h⟩ := h
  refine p_iaload 262 _ rfl aS_113 o32 dX12_writes_261 rfl ?_
  refine r_iadd 263 dX12_writes_262 rfl ?_
  refine r_i2b 264 dX12_writes_263 rfl ?_
  obtain ⟨o33, h⟩ := h
  have h := h _ rfl
  refine p_bastore 265 _ rfl aS_131 o33 dX12_writes_264 rfl ?_
  refine r_aload_n 266 5 dX12_writes_265 rfl rfl rfl ?_
  refine r_aload_n 267 5 dX12_writes_266 rfl rfl rfl ?_
  refine p_getR 270 oS_87 fl_X12_147 rfl qS_87_51 dX12_writes_267 rfl ?_
  refine r_iload 272 0 dX12_writes_270 rfl rfl ?_
  refine r_bipush 274 7 dX12_writes_272 rfl (by decide) ?_
  refine r_iadd 275 dX12_writes_274 rfl ?_
  refine r_aload_n 276 5 dX12_writes_275 rfl rfl rfl ?_
  refine p_getR 279 oS_87 fl_X12_82 rfl qS_87_29 dX12_writes_276 rfl ?_
  refine r_iload_n 280 4 dX12_writes_279 rfl rfl rfl ?_
  obtain ⟨o35, h⟩ := h
  refine p_iaload 281 _ rfl aS_111 o35 dX12_writes_280 rfl ?_
  refine r_if_ne 288 284 dX12_writes_281 (by decide) rfl (fun b0 => ?_) (fun b0 => ?_)
  · have h := h.1 b0
    refine r_aload_n 289 5 dX12_writes_288 rfl rfl rfl ?_
    refine p_getR 292 oS_87 fl_X12_91 rfl qS_87_32 dX12_writes_289 rfl ?_
    refine r_iload_n 293 4 dX12_writes_292 rfl rfl rfl ?_
    obtain ⟨o36, h⟩ := h
    refine p_iaload 294 _ rfl aS_114 o36 dX12_writes_293 rfl ?_
    exact w_lv (tb_X12_writes_294 K _ _ _ _ _ _ _ _ _ h) [5, 6, 7, 4, 2, 0] rfl
  · have h := h.2 b0
    refine r_iconst 285 0 dX12_writes_284 rfl (by decide) ?_
    refine r_goto 294 dX12_writes_285 (by decide) ?_
    exact w_lv (tb_X12_writes_294 K _ _ _ _ _ _ _ _ _ h) [5, 6, 7, 4, 2, 0] rfl
