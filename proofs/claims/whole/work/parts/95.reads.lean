/-! ===== the law: calls that only tell ===== -/
theorem l_plain {N9 : Nat} {xs : Nat → Int32} {k : Nat} {μ : Mem} (hN : N9 ≤ 3072) (hk : k + 6 ≤ N9) (hc : CPL μ) (kk : ∀ μ2, CPL μ2 → WL N9 xs 0 0 975 (Lk k) [] (mk μ2)) : WL N9 xs 0 0 351 (Lk k) [] (mk μ) := by
  obtain ⟨v, vk, im, tc, sz, tb, tn, tp, zs, zn, zi, hX, hM, hK⟩ := id hc
  refine g_aload_n (pc := 351) (i := 1) dL_law_351 rfl ?_
  refine l_arg (pc := 352) (j := 1) dL_law_352 dL_law_353 dL_law_354 dL_law_355 dL_law_356 (by decide) (by decide) hk hN ?_
  refine a_cv1i (pc := 357) (c_X7_plain v vk tc (QM sz tb) μ hX.1 (xs (k + 1))) m_X7_plain ml_L_45 (Nat.le_of_ble_eq_true rfl) rfl rfl rfl (Nat.le_of_ble_eq_true rfl) dL_law_357 (fun r1_ μ1 h1 => ?_)
  obtain ⟨e1, g1⟩ := h1
  have hX1 := hX.tf g1
  have hM1 := hM.fc g1.fc
  refine g_aload_n (pc := 360) (i := 2) dL_law_360 rfl ?_
  refine l_arg (pc := 361) (j := 1) dL_law_361 dL_law_362 dL_law_363 dL_law_364 dL_law_365 (by decide) (by decide) hk hN ?_
  refine a_cv1i (pc := 366) (c_X8_plain v tc sz tb μ1 hM1.1 (xs (k + 1))) m_X8_plain ml_L_48 (Nat.le_of_ble_eq_true rfl) rfl rfl rfl (Nat.le_of_ble_eq_true rfl) dL_law_366 (fun r2_ μ2 h2 => ?_)
  obtain ⟨he, hc2⟩ : r1_ = r2_ ∧ CPL μ2 := by
    obtain ⟨e2, g2⟩ := h2
    have hf : TFm v μ1 μ2 := g2.qfm.tfm hM1.1.1
    exact ⟨e1.trans e2.symm, CPL.rd hX1 hM1 hK hf⟩
  exact g_icmp_eq (pc := 369) (tgt := 975) dL_law_369 (by decide) (fun _ => kk μ2 hc2) (fun q => absurd he q)
theorem l_best {N9 : Nat} {xs : Nat → Int32} {k : Nat} {μ : Mem} (hN : N9 ≤ 3072) (hk : k + 6 ≤ N9) (hc : CPL μ) (kk : ∀ μ2, CPL μ2 → WL N9 xs 0 0 975 (Lk k) [] (mk μ2)) : WL N9 xs 0 0 407 (Lk k) [] (mk μ) := by
  obtain ⟨v, vk, im, tc, sz, tb, tn, tp, zs, zn, zi, hX, hM, hK⟩ := id hc
  refine g_aload_n (pc := 407) (i := 1) dL_law_407 rfl ?_
  refine l_arg (pc := 408) (j := 1) dL_law_408 dL_law_409 dL_law_410 dL_law_411 dL_law_412 (by decide) (by decide) hk hN ?_
  refine a_cv1i (pc := 413) (c_X7_best v vk tc (QM sz tb) μ hX.1 (xs (k + 1))) m_X7_best ml_L_53 (Nat.le_of_ble_eq_true rfl) rfl rfl rfl (Nat.le_of_ble_eq_true rfl) dL_law_413 (fun r1_ μ1 h1 => ?_)
  obtain ⟨e1, g1⟩ := h1
  have hX1 := hX.tf g1
  have hM1 := hM.fc g1.fc
  refine g_aload_n (pc := 416) (i := 2) dL_law_416 rfl ?_
  refine l_arg (pc := 417) (j := 1) dL_law_417 dL_law_418 dL_law_419 dL_law_420 dL_law_421 (by decide) (by decide) hk hN ?_
  refine a_cv1i (pc := 422) (c_X8_best v tc sz tb μ1 hM1.1 (xs (k + 1))) m_X8_best ml_L_56 (Nat.le_of_ble_eq_true rfl) rfl rfl rfl (Nat.le_of_ble_eq_true rfl) dL_law_422 (fun r2_ μ2 h2 => ?_)
  obtain ⟨he, hc2⟩ : r1_ = r2_ ∧ CPL μ2 := by
    obtain ⟨e2, g2⟩ := h2
    have hf : TFm v μ1 μ2 := g2.tfm hM1.1.1
    exact ⟨by obtain ⟨t, b1, b2⟩ := best_eq (QM sz tb (v 0 2)) hX.1.1.vb.1; rw [e1, e2 t b1, b2], CPL.rd hX1 hM1 hK hf⟩
  exact g_icmp_eq (pc := 425) (tgt := 975) dL_law_425 (by decide) (fun _ => kk μ2 hc2) (fun q => absurd he q)
theorem l_worst {N9 : Nat} {xs : Nat → Int32} {k : Nat} {μ : Mem} (hN : N9 ≤ 3072) (hk : k + 6 ≤ N9) (hc : CPL μ) (kk : ∀ μ2, CPL μ2 → WL N9 xs 0 0 975 (Lk k) [] (mk μ2)) : WL N9 xs 0 0 430 (Lk k) [] (mk μ) := by
  obtain ⟨v, vk, im, tc, sz, tb, tn, tp, zs, zn, zi, hX, hM, hK⟩ := id hc
  refine g_aload_n (pc := 430) (i := 1) dL_law_430 rfl ?_
  refine l_arg (pc := 431) (j := 1) dL_law_431 dL_law_432 dL_law_433 dL_law_434 dL_law_435 (by decide) (by decide) hk hN ?_
  refine a_cv1i (pc := 436) (c_X7_worst v vk tc (QM sz tb) μ hX.1 (xs (k + 1))) m_X7_worst ml_L_57 (Nat.le_of_ble_eq_true rfl) rfl rfl rfl (Nat.le_of_ble_eq_true rfl) dL_law_436 (fun r1_ μ1 h1 => ?_)
  obtain ⟨e1, g1⟩ := h1
  have hX1 := hX.tf g1
  have hM1 := hM.fc g1.fc
  refine g_aload_n (pc := 439) (i := 2) dL_law_439 rfl ?_
  refine l_arg (pc := 440) (j := 1) dL_law_440 dL_law_441 dL_law_442 dL_law_443 dL_law_444 (by decide) (by decide) hk hN ?_
  refine a_cv1i (pc := 445) (c_X8_worst v tc sz tb μ1 hM1.1 (xs (k + 1))) m_X8_worst ml_L_60 (Nat.le_of_ble_eq_true rfl) rfl rfl rfl (Nat.le_of_ble_eq_true rfl) dL_law_445 (fun r2_ μ2 h2 => ?_)
  obtain ⟨he, hc2⟩ : r1_ = r2_ ∧ CPL μ2 := by
    obtain ⟨e2, g2⟩ := h2
    have hf : TFm v μ1 μ2 := g2.tfm hM1.1.1
    exact ⟨by rw [e1, e2, wsL_eq hX.1.1.vb.1], CPL.rd hX1 hM1 hK hf⟩
  exact g_icmp_eq (pc := 448) (tgt := 975) dL_law_448 (by decide) (fun _ => kk μ2 hc2) (fun q => absurd he q)
theorem l_change {N9 : Nat} {xs : Nat → Int32} {k : Nat} {μ : Mem} (hN : N9 ≤ 3072) (hk : k + 6 ≤ N9) (hc : CPL μ) (kk : ∀ μ2, CPL μ2 → WL N9 xs 0 0 975 (Lk k) [] (mk μ2)) : WL N9 xs 0 0 453 (Lk k) [] (mk μ) := by
  obtain ⟨v, vk, im, tc, sz, tb, tn, tp, zs, zn, zi, hX, hM, hK⟩ := id hc
  refine g_aload_n (pc := 453) (i := 1) dL_law_453 rfl ?_
  refine l_arg (pc := 454) (j := 1) dL_law_454 dL_law_455 dL_law_456 dL_law_457 dL_law_458 (by decide) (by decide) hk hN ?_
  refine a_cv1i (pc := 459) (c_X7_change v vk tc (QM sz tb) μ hX.1 (xs (k + 1))) m_X7_change ml_L_61 (Nat.le_of_ble_eq_true rfl) rfl rfl rfl (Nat.le_of_ble_eq_true rfl) dL_law_459 (fun r1_ μ1 h1 => ?_)
  obtain ⟨e1, g1⟩ := h1
  have hX1 := hX.tf g1
  have hM1 := hM.fc g1.fc
  refine g_aload_n (pc := 462) (i := 2) dL_law_462 rfl ?_
  refine l_arg (pc := 463) (j := 1) dL_law_463 dL_law_464 dL_law_465 dL_law_466 dL_law_467 (by decide) (by decide) hk hN ?_
  refine a_cv1i (pc := 468) (c_X8_change v tc sz tb μ1 hM1.1 (xs (k + 1))) m_X8_change ml_L_64 (Nat.le_of_ble_eq_true rfl) rfl rfl rfl (Nat.le_of_ble_eq_true rfl) dL_law_468 (fun r2_ μ2 h2 => ?_)
  obtain ⟨he, hc2⟩ : r1_ = r2_ ∧ CPL μ2 := by
    obtain ⟨e2, g2⟩ := h2
    have hf : TFm v μ1 μ2 := g2.tfm hM1.1.1
    exact ⟨e1.trans e2.symm, CPL.rd hX1 hM1 hK hf⟩
  exact g_icmp_eq (pc := 471) (tgt := 975) dL_law_471 (by decide) (fun _ => kk μ2 hc2) (fun q => absurd he q)
theorem l_leave {N9 : Nat} {xs : Nat → Int32} {k : Nat} {μ : Mem} (hN : N9 ≤ 3072) (hk : k + 6 ≤ N9) (hc : CPL μ) (kk : ∀ μ2, CPL μ2 → WL N9 xs 0 0 975 (Lk k) [] (mk μ2)) : WL N9 xs 0 0 476 (Lk k) [] (mk μ) := by
  obtain ⟨v, vk, im, tc, sz, tb, tn, tp, zs, zn, zi, hX, hM, hK⟩ := id hc
  refine g_aload_n (pc := 476) (i := 1) dL_law_476 rfl ?_
  refine l_arg (pc := 477) (j := 1) dL_law_477 dL_law_478 dL_law_479 dL_law_480 dL_law_481 (by decide) (by decide) hk hN ?_
  refine a_cv1i (pc := 482) (c_X7_leave v vk tc (QM sz tb) μ hX.1 (xs (k + 1))) m_X7_leave ml_L_65 (Nat.le_of_ble_eq_true rfl) rfl rfl rfl (Nat.le_of_ble_eq_true rfl) dL_law_482 (fun r1_ μ1 h1 => ?_)
  obtain ⟨e1, g1⟩ := h1
  have hX1 := hX.tf g1
  have hM1 := hM.fc g1.fc
  refine g_aload_n (pc := 485) (i := 2) dL_law_485 rfl ?_
  refine l_arg (pc := 486) (j := 1) dL_law_486 dL_law_487 dL_law_488 dL_law_489 dL_law_490 (by decide) (by decide) hk hN ?_
  refine a_cv1i (pc := 491) (c_X8_leave v tc sz tb μ1 hM1.1 (xs (k + 1))) m_X8_leave ml_L_68 (Nat.le_of_ble_eq_true rfl) rfl rfl rfl (Nat.le_of_ble_eq_true rfl) dL_law_491 (fun r2_ μ2 h2 => ?_)
  obtain ⟨he, hc2⟩ : r1_ = r2_ ∧ CPL μ2 := by
    obtain ⟨e2, g2⟩ := h2
    have hf : TFm v μ1 μ2 := g2.tfm hM1.1.1
    exact ⟨e1.trans e2.symm, CPL.rd hX1 hM1 hK hf⟩
  exact g_icmp_eq (pc := 494) (tgt := 975) dL_law_494 (by decide) (fun _ => kk μ2 hc2) (fun q => absurd he q)
theorem l_spray {N9 : Nat} {xs : Nat → Int32} {k : Nat} {μ : Mem} (hN : N9 ≤ 3072) (hk : k + 6 ≤ N9) (hc : CPL μ) (kk : ∀ μ2, CPL μ2 → WL N9 xs 0 0 975 (Lk k) [] (mk μ2)) : WL N9 xs 0 0 499 (Lk k) [] (mk μ) := by
  obtain ⟨v, vk, im, tc, sz, tb, tn, tp, zs, zn, zi, hX, hM, hK⟩ := id hc
  refine g_aload_n (pc := 499) (i := 1) dL_law_499 rfl ?_
  refine l_arg (pc := 500) (j := 1) dL_law_500 dL_law_501 dL_law_502 dL_law_503 dL_law_504 (by decide) (by decide) hk hN ?_
  refine a_cv1i (pc := 505) (c_X7_spray v vk tc (QM sz tb) μ hX.1 (xs (k + 1))) m_X7_spray ml_L_69 (Nat.le_of_ble_eq_true rfl) rfl rfl rfl (Nat.le_of_ble_eq_true rfl) dL_law_505 (fun r1_ μ1 h1 => ?_)
  obtain ⟨e1, g1⟩ := h1
  have hX1 := hX.tf g1
  have hM1 := hM.fc g1.fc
  refine g_aload_n (pc := 508) (i := 2) dL_law_508 rfl ?_
  refine l_arg (pc := 509) (j := 1) dL_law_509 dL_law_510 dL_law_511 dL_law_512 dL_law_513 (by decide) (by decide) hk hN ?_
  refine a_cv1i (pc := 514) (c_X8_spray v tc sz tb μ1 hM1.1 (xs (k + 1))) m_X8_spray ml_L_72 (Nat.le_of_ble_eq_true rfl) rfl rfl rfl (Nat.le_of_ble_eq_true rfl) dL_law_514 (fun r2_ μ2 h2 => ?_)
  obtain ⟨he, hc2⟩ : r1_ = r2_ ∧ CPL μ2 := by
    obtain ⟨e2, g2⟩ := h2
    have hf : TFm v μ1 μ2 := g2.tfm hM1.1.1
    exact ⟨e1.trans e2.symm, CPL.rd hX1 hM1 hK hf⟩
  exact g_icmp_eq (pc := 517) (tgt := 975) dL_law_517 (by decide) (fun _ => kk μ2 hc2) (fun q => absurd he q)
theorem l_how {N9 : Nat} {xs : Nat → Int32} {k : Nat} {μ : Mem} (hN : N9 ≤ 3072) (hk : k + 6 ≤ N9) (hc : CPL μ) (kk : ∀ μ2, CPL μ2 → WL N9 xs 0 0 975 (Lk k) [] (mk μ2)) : WL N9 xs 0 0 522 (Lk k) [] (mk μ) := by
  obtain ⟨v, vk, im, tc, sz, tb, tn, tp, zs, zn, zi, hX, hM, hK⟩ := id hc
  refine g_aload_n (pc := 522) (i := 1) dL_law_522 rfl ?_
  refine l_arg (pc := 523) (j := 1) dL_law_523 dL_law_524 dL_law_525 dL_law_526 dL_law_527 (by decide) (by decide) hk hN ?_
  refine a_cv1i (pc := 528) (c_X7_how v vk tc (QM sz tb) μ hX.1 (xs (k + 1))) m_X7_how ml_L_73 (Nat.le_of_ble_eq_true rfl) rfl rfl rfl (Nat.le_of_ble_eq_true rfl) dL_law_528 (fun r1_ μ1 h1 => ?_)
  obtain ⟨e1, g1⟩ := h1
  have hX1 := hX.tf g1
  have hM1 := hM.fc g1.fc
  refine g_aload_n (pc := 531) (i := 2) dL_law_531 rfl ?_
  refine l_arg (pc := 532) (j := 1) dL_law_532 dL_law_533 dL_law_534 dL_law_535 dL_law_536 (by decide) (by decide) hk hN ?_
  refine a_cv1i (pc := 537) (c_X8_how v tc sz tb μ1 hM1.1 (xs (k + 1))) m_X8_how ml_L_76 (Nat.le_of_ble_eq_true rfl) rfl rfl rfl (Nat.le_of_ble_eq_true rfl) dL_law_537 (fun r2_ μ2 h2 => ?_)
  obtain ⟨he, hc2⟩ : r1_ = r2_ ∧ CPL μ2 := by
    obtain ⟨e2, g2⟩ := h2
    have hf : TFm v μ1 μ2 := g2.tfm hM1.1.1
    exact ⟨e1.trans e2.symm, CPL.rd hX1 hM1 hK hf⟩
  exact g_icmp_eq (pc := 540) (tgt := 975) dL_law_540 (by decide) (fun _ => kk μ2 hc2) (fun q => absurd he q)
theorem l_enough {N9 : Nat} {xs : Nat → Int32} {k : Nat} {μ : Mem} (hN : N9 ≤ 3072) (hk : k + 6 ≤ N9) (hc : CPL μ) (kk : ∀ μ2, CPL μ2 → WL N9 xs 0 0 975 (Lk k) [] (mk μ2)) : WL N9 xs 0 0 545 (Lk k) [] (mk μ) := by
  obtain ⟨v, vk, im, tc, sz, tb, tn, tp, zs, zn, zi, hX, hM, hK⟩ := id hc
  refine g_aload_n (pc := 545) (i := 1) dL_law_545 rfl ?_
  refine l_arg (pc := 546) (j := 1) dL_law_546 dL_law_547 dL_law_548 dL_law_549 dL_law_550 (by decide) (by decide) hk hN ?_
  refine a_cv1i (pc := 551) (c_X7_enough v vk tc (QM sz tb) μ hX.1 (xs (k + 1))) m_X7_enough ml_L_77 (Nat.le_of_ble_eq_true rfl) rfl rfl rfl (Nat.le_of_ble_eq_true rfl) dL_law_551 (fun r1_ μ1 h1 => ?_)
  obtain ⟨e1, g1⟩ := h1
  have hX1 := hX.tf g1
  have hM1 := hM.fc g1.fc
  refine g_aload_n (pc := 554) (i := 2) dL_law_554 rfl ?_
  refine l_arg (pc := 555) (j := 1) dL_law_555 dL_law_556 dL_law_557 dL_law_558 dL_law_559 (by decide) (by decide) hk hN ?_
  refine a_cv1i (pc := 560) (c_X8_enough v tc sz tb μ1 hM1.1 (xs (k + 1))) m_X8_enough ml_L_80 (Nat.le_of_ble_eq_true rfl) rfl rfl rfl (Nat.le_of_ble_eq_true rfl) dL_law_560 (fun r2_ μ2 h2 => ?_)
  obtain ⟨he, hc2⟩ : r1_ = r2_ ∧ CPL μ2 := by
    obtain ⟨e2, g2⟩ := h2
    have hf : TFm v μ1 μ2 := g2.qfm.tfm hM1.1.1
    exact ⟨e1.trans e2.symm, CPL.rd hX1 hM1 hK hf⟩
  exact g_icmp_eq (pc := 563) (tgt := 975) dL_law_563 (by decide) (fun _ => kk μ2 hc2) (fun q => absurd he q)
theorem l_order {N9 : Nat} {xs : Nat → Int32} {k : Nat} {μ : Mem} (hN : N9 ≤ 3072) (hk : k + 6 ≤ N9) (hc : CPL μ) (kk : ∀ μ2, CPL μ2 → WL N9 xs 0 0 975 (Lk k) [] (mk μ2)) : WL N9 xs 0 0 374 (Lk k) [] (mk μ) := by
  obtain ⟨v, vk, im, tc, sz, tb, tn, tp, zs, zn, zi, hX, hM, hK⟩ := id hc
  refine g_aload_n (pc := 374) (i := 1) dL_law_374 rfl ?_
  refine l_arg (pc := 375) (j := 1) dL_law_375 dL_law_376 dL_law_377 dL_law_378 dL_law_379 (by decide) (by decide) hk hN ?_
  refine l_arg (pc := 380) (j := 2) dL_law_380 dL_law_381 dL_law_382 dL_law_383 dL_law_384 (by decide) (by decide) hk hN ?_
  refine a_cv2i (pc := 385) (c_X7_order v vk tc (QM sz tb) μ hX.1 zs zn zi hX.2.2.1 (xs (k + 1)) (xs (k + 2))) m_X7_order ml_L_49 (Nat.le_of_ble_eq_true rfl) rfl rfl rfl (Nat.le_of_ble_eq_true rfl) dL_law_385 (fun r1_ μ1 h1 => ?_)
  obtain ⟨e1, g1⟩ := h1
  have hX1 := hX.tf g1
  have hM1 := hM.fc g1.fc
  refine g_aload_n (pc := 388) (i := 2) dL_law_388 rfl ?_
  refine l_arg (pc := 389) (j := 1) dL_law_389 dL_law_390 dL_law_391 dL_law_392 dL_law_393 (by decide) (by decide) hk hN ?_
  refine l_arg (pc := 394) (j := 2) dL_law_394 dL_law_395 dL_law_396 dL_law_397 dL_law_398 (by decide) (by decide) hk hN ?_
  refine a_cv2i (pc := 399) (c_X8_order v tc sz tb μ1 hM1.1 zs zn zi hM1.2.2.2 (xs (k + 1)) (xs (k + 2))) m_X8_order ml_L_52 (Nat.le_of_ble_eq_true rfl) rfl rfl rfl (Nat.le_of_ble_eq_true rfl) dL_law_399 (fun r2_ μ2 h2 => ?_)
  obtain ⟨he, hc2⟩ : r1_ = r2_ ∧ CPL μ2 := by
    obtain ⟨e2, g2⟩ := h2
    have hf : TFm v μ1 μ2 := g2.qfm.tfm hM1.1.1
    exact ⟨e1.trans e2.symm, CPL.rd hX1 hM1 hK hf⟩
  exact g_icmp_eq (pc := 402) (tgt := 975) dL_law_402 (by decide) (fun _ => kk μ2 hc2) (fun q => absurd he q)
theorem l_tells {N9 : Nat} {xs : Nat → Int32} {k : Nat} {μ : Mem} (hN : N9 ≤ 3072) (hk : k + 6 ≤ N9) (hc : CPL μ) (kk : ∀ μ2, CPL μ2 → WL N9 xs 0 0 975 (Lk k) [] (mk μ2)) : WL N9 xs 0 0 568 (Lk k) [] (mk μ) := by
  obtain ⟨v, vk, im, tc, sz, tb, tn, tp, zs, zn, zi, hX, hM, hK⟩ := id hc
  refine g_aload_n (pc := 568) (i := 1) dL_law_568 rfl ?_
  refine l_arg (pc := 569) (j := 1) dL_law_569 dL_law_570 dL_law_571 dL_law_572 dL_law_573 (by decide) (by decide) hk hN ?_
  refine l_arg (pc := 574) (j := 2) dL_law_574 dL_law_575 dL_law_576 dL_law_577 dL_law_578 (by decide) (by decide) hk hN ?_
  refine a_cv2i (pc := 579) (c_X7_tells v vk tc (QM sz tb) μ hX.1 zs zn zi hX.2.2.1 (xs (k + 1)) (xs (k + 2))) m_X7_tells ml_L_81 (Nat.le_of_ble_eq_true rfl) rfl rfl rfl (Nat.le_of_ble_eq_true rfl) dL_law_579 (fun r1_ μ1 h1 => ?_)
  obtain ⟨e1, g1⟩ := h1
  have hX1 := hX.tf g1
  have hM1 := hM.fc g1.fc
  refine g_aload_n (pc := 582) (i := 2) dL_law_582 rfl ?_
  refine l_arg (pc := 583) (j := 1) dL_law_583 dL_law_584 dL_law_585 dL_law_586 dL_law_587 (by decide) (by decide) hk hN ?_
  refine l_arg (pc := 588) (j := 2) dL_law_588 dL_law_589 dL_law_590 dL_law_591 dL_law_592 (by decide) (by decide) hk hN ?_
  refine a_cv2i (pc := 593) (c_X8_tells v tc sz tb μ1 hM1.1 zs zn zi hM1.2.2.2 (xs (k + 1)) (xs (k + 2))) m_X8_tells ml_L_84 (Nat.le_of_ble_eq_true rfl) rfl rfl rfl (Nat.le_of_ble_eq_true rfl) dL_law_593 (fun r2_ μ2 h2 => ?_)
  obtain ⟨he, hc2⟩ : r1_ = r2_ ∧ CPL μ2 := by
    obtain ⟨e2, g2⟩ := h2
    have hf : TFm v μ1 μ2 := g2
    exact ⟨e1.trans e2.symm, CPL.rd hX1 hM1 hK hf⟩
  exact g_icmp_eq (pc := 596) (tgt := 975) dL_law_596 (by decide) (fun _ => kk μ2 hc2) (fun q => absurd he q)
theorem l_drawn {N9 : Nat} {xs : Nat → Int32} {k : Nat} {μ : Mem} (hN : N9 ≤ 3072) (hk : k + 6 ≤ N9) (hc : CPL μ) (kk : ∀ μ2, CPL μ2 → WL N9 xs 0 0 975 (Lk k) [] (mk μ2)) : WL N9 xs 0 0 624 (Lk k) [] (mk μ) := by
  obtain ⟨v, vk, im, tc, sz, tb, tn, tp, zs, zn, zi, hX, hM, hK⟩ := id hc
  refine g_aload_n (pc := 624) (i := 1) dL_law_624 rfl ?_
  refine l_arg (pc := 625) (j := 1) dL_law_625 dL_law_626 dL_law_627 dL_law_628 dL_law_629 (by decide) (by decide) hk hN ?_
  refine a_cv1i (pc := 630) (c_X7_drawn v vk tc (QM sz tb) μ hX.1 (xs (k + 1))) m_X7_drawn ml_L_89 (Nat.le_of_ble_eq_true rfl) rfl rfl rfl (Nat.le_of_ble_eq_true rfl) dL_law_630 (fun r1_ μ1 h1 => ?_)
  obtain ⟨e1, g1, -⟩ := h1
  have hX1 := hX.tf g1
  have hM1 := hM.fc g1.fc
  refine g_aload_n (pc := 633) (i := 2) dL_law_633 rfl ?_
  refine l_arg (pc := 634) (j := 1) dL_law_634 dL_law_635 dL_law_636 dL_law_637 dL_law_638 (by decide) (by decide) hk hN ?_
  refine a_cv1i (pc := 639) (c_X8_drawn v tc sz tb μ1 hM1.1 (xs (k + 1))) m_X8_drawn ml_L_92 (Nat.le_of_ble_eq_true rfl) rfl rfl rfl (Nat.le_of_ble_eq_true rfl) dL_law_639 (fun r2_ μ2 h2 => ?_)
  obtain ⟨he, hc2⟩ : r1_ = r2_ ∧ CPL μ2 := by
    obtain ⟨e2, g2⟩ := h2
    have hf : TFm v μ1 μ2 := g2.tfm
    exact ⟨e1.trans e2.symm, CPL.rd hX1 hM1 hK hf⟩
  exact g_icmp_eq (pc := 642) (tgt := 975) dL_law_642 (by decide) (fun _ => kk μ2 hc2) (fun q => absurd he q)
theorem l_chance {N9 : Nat} {xs : Nat → Int32} {k : Nat} {μ : Mem} (hN : N9 ≤ 3072) (hk : k + 6 ≤ N9) (hc : CPL μ) (kk : ∀ μ2, CPL μ2 → WL N9 xs 0 0 975 (Lk k) [] (mk μ2)) : WL N9 xs 0 0 647 (Lk k) [] (mk μ) := by
  obtain ⟨v, vk, im, tc, sz, tb, tn, tp, zs, zn, zi, hX, hM, hK⟩ := id hc
  refine g_aload_n (pc := 647) (i := 1) dL_law_647 rfl ?_
  refine l_arg (pc := 648) (j := 1) dL_law_648 dL_law_649 dL_law_650 dL_law_651 dL_law_652 (by decide) (by decide) hk hN ?_
  refine l_arg (pc := 653) (j := 2) dL_law_653 dL_law_654 dL_law_655 dL_law_656 dL_law_657 (by decide) (by decide) hk hN ?_
  refine l_arg (pc := 658) (j := 3) dL_law_658 dL_law_659 dL_law_660 dL_law_661 dL_law_662 (by decide) (by decide) hk hN ?_
  refine a_cv3l (pc := 663) (c_X7_chance v vk tc (QM sz tb) μ hX.1 (xs (k + 1)) (xs (k + 2)) (xs (k + 3))) m_X7_chance ml_L_93 (Nat.le_of_ble_eq_true rfl) rfl rfl rfl (Nat.le_of_ble_eq_true rfl) dL_law_663 (fun r1_ μ1 h1 => ?_)
  obtain ⟨e1, g1⟩ := h1
  have hX1 := hX.tf g1
  have hM1 := hM.fc g1.fc
  refine g_aload_n (pc := 666) (i := 2) dL_law_666 rfl ?_
  refine l_arg (pc := 667) (j := 1) dL_law_667 dL_law_668 dL_law_669 dL_law_670 dL_law_671 (by decide) (by decide) hk hN ?_
  refine l_arg (pc := 672) (j := 2) dL_law_672 dL_law_673 dL_law_674 dL_law_675 dL_law_676 (by decide) (by decide) hk hN ?_
  refine l_arg (pc := 677) (j := 3) dL_law_677 dL_law_678 dL_law_679 dL_law_680 dL_law_681 (by decide) (by decide) hk hN ?_
  refine a_cv3l (pc := 682) (c_X8_chance v tc sz tb μ1 hM1.1 (xs (k + 1)) (xs (k + 2)) (xs (k + 3))) m_X8_chance ml_L_97 (Nat.le_of_ble_eq_true rfl) rfl rfl rfl (Nat.le_of_ble_eq_true rfl) dL_law_682 (fun r2_ μ2 h2 => ?_)
  obtain ⟨he, hc2⟩ : r1_ = r2_ ∧ CPL μ2 := by
    obtain ⟨e2, g2⟩ := h2
    have hf : TFm v μ1 μ2 := g2.tfm
    exact ⟨e1.trans ((chanM_eq hX.1.1.vb.1 _ _ _).symm.trans e2.symm), CPL.rd hX1 hM1 hK hf⟩
  refine g_lcmp (pc := 685) dL_law_685 ?_
  rw [he, show lg_cmp r2_ r2_ = 0 from lg_cmp_self r2_]
  exact g_if_eq (pc := 686) (tgt := 975) dL_law_686 (by decide) (fun _ => kk μ2 hc2) (fun q => absurd rfl q)
theorem l_told {N9 : Nat} {xs : Nat → Int32} {k : Nat} {μ : Mem} (hN : N9 ≤ 3072) (hk : k + 6 ≤ N9) (hc : CPL μ) (kk : ∀ μ2, CPL μ2 → WL N9 xs 0 0 975 (Lk k) [] (mk μ2)) : WL N9 xs 0 0 236 (Lk k) [] (mk μ) := by
  obtain ⟨v, vk, im, tc, sz, tb, tn, tp, zs, zn, zi, hX, hM, hK⟩ := id hc
  refine g_aload_n (pc := 236) (i := 1) dL_law_236 rfl ?_
  refine l_arg (pc := 237) (j := 1) dL_law_237 dL_law_238 dL_law_239 dL_law_240 dL_law_241 (by decide) (by decide) hk hN ?_
  refine l_arg (pc := 242) (j := 2) dL_law_242 dL_law_243 dL_law_244 dL_law_245 dL_law_246 (by decide) (by decide) hk hN ?_
  refine a_cv2i (pc := 247) (c_X7_told v vk tc (QM sz tb) μ hX.1 (xs (k + 1)) (xs (k + 2))) m_X7_told ml_L_23 (Nat.le_of_ble_eq_true rfl) rfl rfl rfl (Nat.le_of_ble_eq_true rfl) dL_law_247 (fun r1_ μ1 h1 => ?_)
  obtain ⟨e1, g1⟩ := h1
  have hX1 := hX.tf g1
  have hM1 := hM.fc g1.fc
  refine g_aload_n (pc := 250) (i := 2) dL_law_250 rfl ?_
  refine l_arg (pc := 251) (j := 1) dL_law_251 dL_law_252 dL_law_253 dL_law_254 dL_law_255 (by decide) (by decide) hk hN ?_
  refine l_arg (pc := 256) (j := 2) dL_law_256 dL_law_257 dL_law_258 dL_law_259 dL_law_260 (by decide) (by decide) hk hN ?_
  refine a_cv2i (pc := 261) (c_X8_told v tc sz tb μ1 hM1.1 (xs (k + 1)) (xs (k + 2))) m_X8_told ml_L_26 (Nat.le_of_ble_eq_true rfl) rfl rfl rfl (Nat.le_of_ble_eq_true rfl) dL_law_261 (fun r2_ μ2 h2 => ?_)
  obtain ⟨he, hc2⟩ : r1_ = r2_ ∧ CPL μ2 := by
    obtain ⟨e2, g2⟩ := h2
    have hf : TFm v μ1 μ2 := g2.qfm.tfm hM1.1.1
    exact ⟨by rcases e1 with ⟨o1, e1⟩ | ⟨o1, e1⟩ <;> rcases e2 with ⟨o2, e2⟩ | ⟨o2, e2⟩ <;> first | exact e1.trans e2.symm | exact absurd o1 o2 | exact absurd o2 o1, CPL.rd hX1 hM1 hK hf⟩
  exact g_icmp_eq (pc := 264) (tgt := 975) dL_law_264 (by decide) (fun _ => kk μ2 hc2) (fun q => absurd he q)
theorem l_count {N9 : Nat} {xs : Nat → Int32} {k : Nat} {μ : Mem} (hN : N9 ≤ 3072) (hk : k + 6 ≤ N9) (hc : CPL μ) (kk : ∀ μ2, CPL μ2 → WL N9 xs 0 0 975 (Lk k) [] (mk μ2)) : WL N9 xs 0 0 717 (Lk k) [] (mk μ) := by
  obtain ⟨v, vk, im, tc, sz, tb, tn, tp, zs, zn, zi, hX, hM, hK⟩ := id hc
  refine g_aload_n (pc := 717) (i := 1) dL_law_717 rfl ?_
  refine l_arg (pc := 718) (j := 1) dL_law_718 dL_law_719 dL_law_720 dL_law_721 dL_law_722 (by decide) (by decide) hk hN ?_
  refine a_cv1i (pc := 723) (c_X7_count v vk tc (QM sz tb) μ hX.1 tn hX.2.1.1 (xs (k + 1))) m_X7_count ml_L_106 (Nat.le_of_ble_eq_true rfl) rfl rfl rfl (Nat.le_of_ble_eq_true rfl) dL_law_723 (fun r1_ μ1 h1 => ?_)
  obtain ⟨e1, m1⟩ := h1
  have hM1 := hM.fc (FC.of m1)
  have hX1 : CX μ1 v vk im tc sz tb tn tp zs zn zi := by rw [m1]; exact hX
  refine g_aload_n (pc := 726) (i := 2) dL_law_726 rfl ?_
  refine l_arg (pc := 727) (j := 1) dL_law_727 dL_law_728 dL_law_729 dL_law_730 dL_law_731 (by decide) (by decide) hk hN ?_
  refine a_cv1i (pc := 732) (c_X8_count v tc sz tb μ1 hM1.1 tn hM1.2.1.1 (xs (k + 1))) m_X8_count ml_L_109 (Nat.le_of_ble_eq_true rfl) rfl rfl rfl (Nat.le_of_ble_eq_true rfl) dL_law_732 (fun r2_ μ2 h2 => ?_)
  obtain ⟨he, hc2⟩ : r1_ = r2_ ∧ CPL μ2 := by
    obtain ⟨e2, g2⟩ := h2
    have hf : TFm v μ1 μ2 := g2.qfm.tfm hM1.1.1
    exact ⟨e1.trans e2.symm, CPL.rd hX1 hM1 hK hf⟩
  exact g_icmp_eq (pc := 735) (tgt := 975) dL_law_735 (by decide) (fun _ => kk μ2 hc2) (fun q => absurd he q)
theorem l_taken {N9 : Nat} {xs : Nat → Int32} {k : Nat} {μ : Mem} (hN : N9 ≤ 3072) (hk : k + 6 ≤ N9) (hc : CPL μ) (kk : ∀ μ2, CPL μ2 → WL N9 xs 0 0 975 (Lk k) [] (mk μ2)) : WL N9 xs 0 0 942 (Lk k) [] (mk μ) := by
  obtain ⟨v, vk, im, tc, sz, tb, tn, tp, zs, zn, zi, hX, hM, hK⟩ := id hc
  refine g_aload_n (pc := 942) (i := 1) dL_law_942 rfl ?_
  refine l_arg (pc := 943) (j := 1) dL_law_943 dL_law_944 dL_law_945 dL_law_946 dL_law_947 (by decide) (by decide) hk hN ?_
  refine l_arg (pc := 948) (j := 2) dL_law_948 dL_law_949 dL_law_950 dL_law_951 dL_law_952 (by decide) (by decide) hk hN ?_
  refine a_cv2i (pc := 953) (c_X7_taken v vk tc (QM sz tb) μ hX.1 (xs (k + 1)) (xs (k + 2))) m_X7_taken ml_L_128 (Nat.le_of_ble_eq_true rfl) rfl rfl rfl (Nat.le_of_ble_eq_true rfl) dL_law_953 (fun r1_ μ1 h1 => ?_)
  obtain ⟨e1, m1⟩ := h1
  have hM1 := hM.fc (FC.of m1)
  refine g_aload_n (pc := 956) (i := 2) dL_law_956 rfl ?_
  refine l_arg (pc := 957) (j := 1) dL_law_957 dL_law_958 dL_law_959 dL_law_960 dL_law_961 (by decide) (by decide) hk hN ?_
  refine l_arg (pc := 962) (j := 2) dL_law_962 dL_law_963 dL_law_964 dL_law_965 dL_law_966 (by decide) (by decide) hk hN ?_
  refine a_cv2i (pc := 967) (c_X8_taken v μ1 hM1.1.1 (xs (k + 1)) (xs (k + 2))) m_X8_taken ml_L_131 (Nat.le_of_ble_eq_true rfl) rfl rfl rfl (Nat.le_of_ble_eq_true rfl) dL_law_967 (fun r2_ μ2 h2 => ?_)
  obtain ⟨he, hc2⟩ : r1_ = r2_ ∧ CPL μ2 := by
    obtain ⟨e2, m2⟩ := h2
    exact ⟨e1.trans e2.symm, by rw [m2, m1]; exact hc⟩
  exact g_icmp_eq (pc := 970) (tgt := 975) dL_law_970 (by decide) (fun _ => kk μ2 hc2) (fun q => absurd he q)
