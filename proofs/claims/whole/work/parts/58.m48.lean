section M48
variable {K : KT} {d RC RS x y bb c L : Nat} {xs : Nat → Int32} {M : HM} {Rf : HR} {Lg : HL}
set_option maxHeartbeats 1000000 in
set_option maxRecDepth 20000 in
theorem L_callUp (o : Ok K code R_law 4 (d + 9) RC RS) (hxy : x ≤ RC ∧ y ≤ RS) (hX : va_X bb L xs K.2.2.2.2.1 K.2.2.2.2.1.heap) (hbl : bb < K.2.2.2.2.1.heap.size) (hbA : bb < K.1.2.1) (hc : 5 * c + 4 < L) (hL : L ≤ 320) (inv : INV c M Rf Lg) (kk : ∀ M' Rf' Lg', INV (c + 1) M' Rf' Lg' → G K 771 (lL bb c) [] (109, M', Rf', Lg') x y) : G K 418 (lL bb c) [] (109, M, Rf, Lg) x y := by
  obtain ⟨t, T, S, lat, pk, P, I, ik, cn, ch, cm, tl, tx, ic, im, hlg⟩ := inv
  refine g_aload_n (pc := 418) o 1 dL_law_418 rfl rfl ?_
  refine g_aload_nX (pc := 419) o 0 dL_law_419 rfl rfl ?_
  refine g_iload_n (pc := 420) o 3 dL_law_420 rfl rfl ?_
  refine g_iconst (pc := 421) (v := 1) o dL_law_421 (by decide) ?_
  refine g_iadd (pc := 422) o dL_law_422 ?_
  refine g_sld (pc := 423) o hX hbl hbA (5 * c + 1) (nI_addE rfl rfl) (by omega) (by omega) dL_law_423 ?_
  refine g_aload_nX (pc := 424) o 0 dL_law_424 rfl rfl ?_
  refine g_iload_n (pc := 425) o 3 dL_law_425 rfl rfl ?_
  refine g_iconst (pc := 426) (v := 2) o dL_law_426 (by decide) ?_
  refine g_iadd (pc := 427) o dL_law_427 ?_
  refine g_sld (pc := 428) o hX hbl hbA (5 * c + 2) (nI_addE rfl rfl) (by omega) (by omega) dL_law_428 ?_
  refine e_V2i (pc := 429) o lkR_law_64 cmX3_callUp (cX3callUp ic.1) rfl (by decide) rfl rfl hxy dL_law_429 (fun r M1 hq => ?_)
  obtain ⟨rfl, fr⟩ := hq
  have im1 := im.over (M' := M1) (fun z hz => fr z (by omega) (by omega))
  have ic1 := ic.kept (M' := M1) (fun z g1 g2 g3 => fr z (by omega) (by omega))
  obtain ⟨dl, mf⟩ := id im1.2.1
  refine g_aload_n (pc := 432) o 2 dL_law_432 rfl rfl ?_
  refine g_aload_nX (pc := 433) o 0 dL_law_433 rfl rfl ?_
  refine g_iload_n (pc := 434) o 3 dL_law_434 rfl rfl ?_
  refine g_iconst (pc := 435) (v := 1) o dL_law_435 (by decide) ?_
  refine g_iadd (pc := 436) o dL_law_436 ?_
  refine g_sld (pc := 437) o hX hbl hbA (5 * c + 1) (nI_addE rfl rfl) (by omega) (by omega) dL_law_437 ?_
  refine g_aload_nX (pc := 438) o 0 dL_law_438 rfl rfl ?_
  refine g_iload_n (pc := 439) o 3 dL_law_439 rfl rfl ?_
  refine g_iconst (pc := 440) (v := 2) o dL_law_440 (by decide) ?_
  refine g_iadd (pc := 441) o dL_law_441 ?_
  refine g_sld (pc := 442) o hX hbl hbA (5 * c + 2) (nI_addE rfl rfl) (by omega) (by omega) dL_law_442 ?_
  refine e_V2i (pc := 443) o lkR_law_67 cmX4_callUp (cX4callUp im1.1 (by omega) mf) rfl (by decide) rfl rfl hxy dL_law_443 (fun r2 M2 hq2 => ?_)
  obtain ⟨er, hs, hm⟩ := hq2
  refine g_icmp_eq (pc := 446) o 771 dL_law_446 (by decide) (fun _ => ?_) (fun q => absurd er.symm q)
  exact kk _ _ _ (INV_mk (ic1.over (fun z hz => hs.1 z (by omega) (by omega) (by omega) (by omega) (by omega))) (seek_keep im1 hs hm) (by omega) (by omega) hlg)

set_option maxHeartbeats 1000000 in
set_option maxRecDepth 20000 in
theorem L_bears (o : Ok K code R_law 4 (d + 9) RC RS) (hxy : x ≤ RC ∧ y ≤ RS) (hX : va_X bb L xs K.2.2.2.2.1 K.2.2.2.2.1.heap) (hbl : bb < K.2.2.2.2.1.heap.size) (hbA : bb < K.1.2.1) (hc : 5 * c + 4 < L) (hL : L ≤ 320) (inv : INV c M Rf Lg) (kk : ∀ M' Rf' Lg', INV (c + 1) M' Rf' Lg' → G K 771 (lL bb c) [] (109, M', Rf', Lg') x y) : G K 451 (lL bb c) [] (109, M, Rf, Lg) x y := by
  obtain ⟨t, T, S, lat, pk, P, I, ik, cn, ch, cm, tl, tx, ic, im, hlg⟩ := inv
  refine g_aload_n (pc := 451) o 1 dL_law_451 rfl rfl ?_
  refine e_V0i (pc := 452) o lkR_law_68 cmX3_bears (cX3bears ic.1) rfl (by decide) rfl rfl hxy dL_law_452 (fun r M1 hq => ?_)
  obtain ⟨rfl, fr⟩ := hq
  have im1 := im.over (M' := M1) (fun z hz => fr z (by omega))
  have ic1 := ic.kept (M' := M1) (fun z g1 g2 g3 => fr z (by omega))
  obtain ⟨dl, mf⟩ := id im1.2.1
  refine g_aload_n (pc := 455) o 2 dL_law_455 rfl rfl ?_
  refine g_V0i (pc := 456) o lkR_law_71 cmX4_bears (cX4bears im1.1 (by omega) mf) rfl (by show (96 : Nat) < 109; decide) rfl rfl hxy dL_law_456 ?_
  refine g_icmp_eq (pc := 459) o 771 dL_law_459 (by decide) (fun _ => ?_) (fun q => absurd rfl q)
  exact kk _ _ _ (INV_mk (ic1.over (fun z hz => hld_ne _ (by omega))) (hld_keep im1) (by omega) (by omega) hlg)

set_option maxHeartbeats 1000000 in
set_option maxRecDepth 20000 in
theorem L_cart (o : Ok K code R_law 4 (d + 9) RC RS) (hxy : x ≤ RC ∧ y ≤ RS) (hX : va_X bb L xs K.2.2.2.2.1 K.2.2.2.2.1.heap) (hbl : bb < K.2.2.2.2.1.heap.size) (hbA : bb < K.1.2.1) (hc : 5 * c + 4 < L) (hL : L ≤ 320) (inv : INV c M Rf Lg) (kk : ∀ M' Rf' Lg', INV (c + 1) M' Rf' Lg' → G K 771 (lL bb c) [] (109, M', Rf', Lg') x y) : G K 464 (lL bb c) [] (109, M, Rf, Lg) x y := by
  obtain ⟨t, T, S, lat, pk, P, I, ik, cn, ch, cm, tl, tx, ic, im, hlg⟩ := inv
  refine g_aload_n (pc := 464) o 1 dL_law_464 rfl rfl ?_
  refine g_aload_nX (pc := 465) o 0 dL_law_465 rfl rfl ?_
  refine g_iload_n (pc := 466) o 3 dL_law_466 rfl rfl ?_
  refine g_iconst (pc := 467) (v := 1) o dL_law_467 (by decide) ?_
  refine g_iadd (pc := 468) o dL_law_468 ?_
  refine g_sld (pc := 469) o hX hbl hbA (5 * c + 1) (nI_addE rfl rfl) (by omega) (by omega) dL_law_469 ?_
  refine g_aload_nX (pc := 470) o 0 dL_law_470 rfl rfl ?_
  refine g_iload_n (pc := 471) o 3 dL_law_471 rfl rfl ?_
  refine g_iconst (pc := 472) (v := 2) o dL_law_472 (by decide) ?_
  refine g_iadd (pc := 473) o dL_law_473 ?_
  refine g_sld (pc := 474) o hX hbl hbA (5 * c + 2) (nI_addE rfl rfl) (by omega) (by omega) dL_law_474 ?_
  refine g_aload_nX (pc := 475) o 0 dL_law_475 rfl rfl ?_
  refine g_iload_n (pc := 476) o 3 dL_law_476 rfl rfl ?_
  refine g_iconst (pc := 477) (v := 3) o dL_law_477 (by decide) ?_
  refine g_iadd (pc := 478) o dL_law_478 ?_
  refine g_sld (pc := 479) o hX hbl hbA (5 * c + 3) (nI_addE rfl rfl) (by omega) (by omega) dL_law_479 ?_
  refine g_aload_nX (pc := 480) o 0 dL_law_480 rfl rfl ?_
  refine g_iload_n (pc := 481) o 3 dL_law_481 rfl rfl ?_
  refine g_iconst (pc := 482) (v := 4) o dL_law_482 (by decide) ?_
  refine g_iadd (pc := 483) o dL_law_483 ?_
  refine g_sld (pc := 484) o hX hbl hbA (5 * c + 4) (nI_addE rfl rfl) (by omega) (by omega) dL_law_484 ?_
  refine e_V4i (pc := 485) o lkR_law_72 cmX3_cart (cX3cart ic.1) rfl (by decide) rfl rfl hxy dL_law_485 (fun r M1 hq => ?_)
  obtain ⟨rfl, fr⟩ := hq
  have im1 := im.over (M' := M1) (fun z hz => fr z (by omega))
  have ic1 := ic.kept (M' := M1) (fun z g1 g2 g3 => fr z (by omega))
  obtain ⟨dl, mf⟩ := id im1.2.1
  refine g_aload_n (pc := 488) o 2 dL_law_488 rfl rfl ?_
  refine g_aload_nX (pc := 489) o 0 dL_law_489 rfl rfl ?_
  refine g_iload_n (pc := 490) o 3 dL_law_490 rfl rfl ?_
  refine g_iconst (pc := 491) (v := 1) o dL_law_491 (by decide) ?_
  refine g_iadd (pc := 492) o dL_law_492 ?_
  refine g_sld (pc := 493) o hX hbl hbA (5 * c + 1) (nI_addE rfl rfl) (by omega) (by omega) dL_law_493 ?_
  refine g_aload_nX (pc := 494) o 0 dL_law_494 rfl rfl ?_
  refine g_iload_n (pc := 495) o 3 dL_law_495 rfl rfl ?_
  refine g_iconst (pc := 496) (v := 2) o dL_law_496 (by decide) ?_
  refine g_iadd (pc := 497) o dL_law_497 ?_
  refine g_sld (pc := 498) o hX hbl hbA (5 * c + 2) (nI_addE rfl rfl) (by omega) (by omega) dL_law_498 ?_
  refine g_aload_nX (pc := 499) o 0 dL_law_499 rfl rfl ?_
  refine g_iload_n (pc := 500) o 3 dL_law_500 rfl rfl ?_
  refine g_iconst (pc := 501) (v := 3) o dL_law_501 (by decide) ?_
  refine g_iadd (pc := 502) o dL_law_502 ?_
  refine g_sld (pc := 503) o hX hbl hbA (5 * c + 3) (nI_addE rfl rfl) (by omega) (by omega) dL_law_503 ?_
  refine g_aload_nX (pc := 504) o 0 dL_law_504 rfl rfl ?_
  refine g_iload_n (pc := 505) o 3 dL_law_505 rfl rfl ?_
  refine g_iconst (pc := 506) (v := 4) o dL_law_506 (by decide) ?_
  refine g_iadd (pc := 507) o dL_law_507 ?_
  refine g_sld (pc := 508) o hX hbl hbA (5 * c + 4) (nI_addE rfl rfl) (by omega) (by omega) dL_law_508 ?_
  refine g_V4i (pc := 509) o lkR_law_76 cmX4_cart (cX4cart im1.1 mf) rfl (by show (96 : Nat) < 109; decide) rfl rfl hxy dL_law_509 ?_
  refine g_icmp_eq (pc := 512) o 771 dL_law_512 (by decide) (fun _ => ?_) (fun q => absurd rfl q)
  exact kk _ _ _ (INV_mk ic1 im1 (by omega) (by omega) hlg)

set_option maxHeartbeats 1000000 in
set_option maxRecDepth 20000 in
theorem L_drum (o : Ok K code R_law 4 (d + 9) RC RS) (hxy : x ≤ RC ∧ y ≤ RS) (hX : va_X bb L xs K.2.2.2.2.1 K.2.2.2.2.1.heap) (hbl : bb < K.2.2.2.2.1.heap.size) (hbA : bb < K.1.2.1) (hc : 5 * c + 4 < L) (hL : L ≤ 320) (inv : INV c M Rf Lg) (kk : ∀ M' Rf' Lg', INV (c + 1) M' Rf' Lg' → G K 771 (lL bb c) [] (109, M', Rf', Lg') x y) : G K 517 (lL bb c) [] (109, M, Rf, Lg) x y := by
  obtain ⟨t, T, S, lat, pk, P, I, ik, cn, ch, cm, tl, tx, ic, im, hlg⟩ := inv
  obtain ⟨dl, mf⟩ := id im.2.1
  refine g_aload_n (pc := 517) o 1 dL_law_517 rfl rfl ?_
  refine g_aload_nX (pc := 518) o 0 dL_law_518 rfl rfl ?_
  refine g_iload_n (pc := 519) o 3 dL_law_519 rfl rfl ?_
  refine g_iconst (pc := 520) (v := 1) o dL_law_520 (by decide) ?_
  refine g_iadd (pc := 521) o dL_law_521 ?_
  refine g_sld (pc := 522) o hX hbl hbA (5 * c + 1) (nI_addE rfl rfl) (by omega) (by omega) dL_law_522 ?_
  refine g_V1i (pc := 523) o lkR_law_77 cmX3_drum (cX3drum ic.1) rfl (by show (0 : Nat) < 109; decide) rfl rfl hxy dL_law_523 ?_
  refine g_aload_n (pc := 526) o 2 dL_law_526 rfl rfl ?_
  refine g_aload_nX (pc := 527) o 0 dL_law_527 rfl rfl ?_
  refine g_iload_n (pc := 528) o 3 dL_law_528 rfl rfl ?_
  refine g_iconst (pc := 529) (v := 1) o dL_law_529 (by decide) ?_
  refine g_iadd (pc := 530) o dL_law_530 ?_
  refine g_sld (pc := 531) o hX hbl hbA (5 * c + 1) (nI_addE rfl rfl) (by omega) (by omega) dL_law_531 ?_
  refine g_V1i (pc := 532) o lkR_law_80 cmX4_drum (cX4drum im.1 mf) rfl (by show (96 : Nat) < 109; decide) rfl rfl hxy dL_law_532 ?_
  refine g_icmp_eq (pc := 535) o 771 dL_law_535 (by decide) (fun _ => ?_) (fun q => absurd rfl q)
  exact kk _ _ _ (INV_mk (ic.over (fun z hz => drM_ne _ _ (by omega))) (dr_keep im (xs (5 * c + 1))) (by omega) (by omega) hlg)

set_option maxHeartbeats 1000000 in
set_option maxRecDepth 20000 in
theorem L_wants (o : Ok K code R_law 4 (d + 9) RC RS) (hxy : x ≤ RC ∧ y ≤ RS) (hX : va_X bb L xs K.2.2.2.2.1 K.2.2.2.2.1.heap) (hbl : bb < K.2.2.2.2.1.heap.size) (hbA : bb < K.1.2.1) (hc : 5 * c + 4 < L) (hL : L ≤ 320) (inv : INV c M Rf Lg) (kk : ∀ M' Rf' Lg', INV (c + 1) M' Rf' Lg' → G K 771 (lL bb c) [] (109, M', Rf', Lg') x y) : G K 540 (lL bb c) [] (109, M, Rf, Lg) x y := by
  obtain ⟨t, T, S, lat, pk, P, I, ik, cn, ch, cm, tl, tx, ic, im, hlg⟩ := inv
  obtain ⟨dl, mf⟩ := id im.2.1
  refine g_aload_n (pc := 540) o 1 dL_law_540 rfl rfl ?_
  refine g_aload_nX (pc := 541) o 0 dL_law_541 rfl rfl ?_
  refine g_iload_n (pc := 542) o 3 dL_law_542 rfl rfl ?_
  refine g_iconst (pc := 543) (v := 1) o dL_law_543 (by decide) ?_
  refine g_iadd (pc := 544) o dL_law_544 ?_
  refine g_sld (pc := 545) o hX hbl hbA (5 * c + 1) (nI_addE rfl rfl) (by omega) (by omega) dL_law_545 ?_
  refine g_V1i (pc := 546) o lkR_law_81 cmX3_wants (cX3wants ic.1) rfl (by show (0 : Nat) < 109; decide) rfl rfl hxy dL_law_546 ?_
  refine g_aload_n (pc := 549) o 2 dL_law_549 rfl rfl ?_
  refine g_aload_nX (pc := 550) o 0 dL_law_550 rfl rfl ?_
  refine g_iload_n (pc := 551) o 3 dL_law_551 rfl rfl ?_
  refine g_iconst (pc := 552) (v := 1) o dL_law_552 (by decide) ?_
  refine g_iadd (pc := 553) o dL_law_553 ?_
  refine g_sld (pc := 554) o hX hbl hbA (5 * c + 1) (nI_addE rfl rfl) (by omega) (by omega) dL_law_554 ?_
  refine g_V1i (pc := 555) o lkR_law_84 cmX4_wants (cX4wants im.1 mf) rfl (by show (96 : Nat) < 109; decide) rfl rfl hxy dL_law_555 ?_
  refine g_icmp_eq (pc := 558) o 771 dL_law_558 (by decide) (fun _ => ?_) (fun q => absurd rfl q)
  exact kk _ _ _ (INV_mk ic im (by omega) (by omega) hlg)

set_option maxHeartbeats 1000000 in
set_option maxRecDepth 20000 in
theorem L_counted (o : Ok K code R_law 4 (d + 9) RC RS) (hxy : x ≤ RC ∧ y ≤ RS) (hX : va_X bb L xs K.2.2.2.2.1 K.2.2.2.2.1.heap) (hbl : bb < K.2.2.2.2.1.heap.size) (hbA : bb < K.1.2.1) (hc : 5 * c + 4 < L) (hL : L ≤ 320) (inv : INV c M Rf Lg) (kk : ∀ M' Rf' Lg', INV (c + 1) M' Rf' Lg' → G K 771 (lL bb c) [] (109, M', Rf', Lg') x y) : G K 563 (lL bb c) [] (109, M, Rf, Lg) x y := by
  obtain ⟨t, T, S, lat, pk, P, I, ik, cn, ch, cm, tl, tx, ic, im, hlg⟩ := inv
  refine g_aload_n (pc := 563) o 1 dL_law_563 rfl rfl ?_
  refine g_aload_nX (pc := 564) o 0 dL_law_564 rfl rfl ?_
  refine g_iload_n (pc := 565) o 3 dL_law_565 rfl rfl ?_
  refine g_iconst (pc := 566) (v := 1) o dL_law_566 (by decide) ?_
  refine g_iadd (pc := 567) o dL_law_567 ?_
  refine g_sld (pc := 568) o hX hbl hbA (5 * c + 1) (nI_addE rfl rfl) (by omega) (by omega) dL_law_568 ?_
  refine g_aload_nX (pc := 569) o 0 dL_law_569 rfl rfl ?_
  refine g_iload_n (pc := 570) o 3 dL_law_570 rfl rfl ?_
  refine g_iconst (pc := 571) (v := 2) o dL_law_571 (by decide) ?_
  refine g_iadd (pc := 572) o dL_law_572 ?_
  refine g_sld (pc := 573) o hX hbl hbA (5 * c + 2) (nI_addE rfl rfl) (by omega) (by omega) dL_law_573 ?_
  refine g_V2i (pc := 574) o lkR_law_85 cmX3_counted (cX3counted ic.1.2.2.1 ic.1.1.2.2.2.2.2.2.2.1 ic.1.1.2.2.2.2.2.2.2.2.1 ic.2.2.2.2.1.1 ic.2.2.2.2.1.2.1) rfl (by show (0 : Nat) < 109; decide) rfl rfl hxy dL_law_574 ?_
  have im1 := im.over (M' := mCounted M cn (xs (5 * c + 1)) (xs (5 * c + 2))) (fun z hz => mCo_ne _ _ _ (by omega) (by omega) (by omega))
  refine g_aload_n (pc := 577) o 2 dL_law_577 rfl rfl ?_
  refine g_aload_nX (pc := 578) o 0 dL_law_578 rfl rfl ?_
  refine g_iload_n (pc := 579) o 3 dL_law_579 rfl rfl ?_
  refine g_iconst (pc := 580) (v := 1) o dL_law_580 (by decide) ?_
  refine g_iadd (pc := 581) o dL_law_581 ?_
  refine g_sld (pc := 582) o hX hbl hbA (5 * c + 1) (nI_addE rfl rfl) (by omega) (by omega) dL_law_582 ?_
  refine g_aload_nX (pc := 583) o 0 dL_law_583 rfl rfl ?_
  refine g_iload_n (pc := 584) o 3 dL_law_584 rfl rfl ?_
  refine g_iconst (pc := 585) (v := 2) o dL_law_585 (by decide) ?_
  refine g_iadd (pc := 586) o dL_law_586 ?_
  refine g_sld (pc := 587) o hX hbl hbA (5 * c + 2) (nI_addE rfl rfl) (by omega) (by omega) dL_law_587 ?_
  refine g_V2i (pc := 588) o lkR_law_88 cmX4_counted (cX4counted im1.1.1 (Nat.le_refl _) im1.2.2.2.2.1.1 ic.2.2.2.2.1.2.1) rfl (by show (96 : Nat) < 109; decide) rfl rfl hxy dL_law_588 ?_
  refine g_icmp_eq (pc := 591) o 771 dL_law_591 (by decide) (fun _ => ?_) (fun q => absurd rfl q)
  exact kk _ _ _ (INV_mk ((ic.counted (xs (5 * c + 1)) (xs (5 * c + 2))).over (fun z hz => nCo_ne _ _ _ (by omega) (by omega))) (im1.counted (xs (5 * c + 1)) (xs (5 * c + 2))) (by omega) (by omega) hlg)

set_option maxHeartbeats 1000000 in
set_option maxRecDepth 20000 in
theorem L_forget (o : Ok K code R_law 4 (d + 9) RC RS) (hxy : x ≤ RC ∧ y ≤ RS) (hX : va_X bb L xs K.2.2.2.2.1 K.2.2.2.2.1.heap) (hbl : bb < K.2.2.2.2.1.heap.size) (hbA : bb < K.1.2.1) (hc : 5 * c + 4 < L) (hL : L ≤ 320) (inv : INV c M Rf Lg) (kk : ∀ M' Rf' Lg', INV (c + 1) M' Rf' Lg' → G K 771 (lL bb c) [] (109, M', Rf', Lg') x y) : G K 596 (lL bb c) [] (109, M, Rf, Lg) x y := by
  obtain ⟨t, T, S, lat, pk, P, I, ik, cn, ch, cm, tl, tx, ic, im, hlg⟩ := inv
  refine g_aload_n (pc := 596) o 1 dL_law_596 rfl rfl ?_
  refine g_V0i (pc := 597) o lkR_law_89 cmX3_forget (cX3forget ic.1.2.2.1 ic.2.2.2.2.1.1) rfl (by show (0 : Nat) < 109; decide) rfl rfl hxy dL_law_597 ?_
  have im1 := im.over (M' := st2 M 0 12 0) (fun z hz => st2_ne _ _ _ (by omega))
  refine g_aload_n (pc := 600) o 2 dL_law_600 rfl rfl ?_
  refine g_V0i (pc := 601) o lkR_law_92 cmX4_forget (cX4forget (Nat.le_refl _) im1.2.2.2.2.1.1) rfl (by show (96 : Nat) < 109; decide) rfl rfl hxy dL_law_601 ?_
  refine g_icmp_eq (pc := 604) o 771 dL_law_604 (by decide) (fun _ => ?_) (fun q => absurd rfl q)
  exact kk _ _ _ (INV_mk (ic.forget.over (fun z hz => st2_ne _ _ _ (by omega))) im1.forget (by omega) (by omega) hlg)

set_option maxHeartbeats 1000000 in
set_option maxRecDepth 20000 in
theorem L_sham (o : Ok K code R_law 4 (d + 9) RC RS) (hxy : x ≤ RC ∧ y ≤ RS) (hX : va_X bb L xs K.2.2.2.2.1 K.2.2.2.2.1.heap) (hbl : bb < K.2.2.2.2.1.heap.size) (hbA : bb < K.1.2.1) (hc : 5 * c + 4 < L) (hL : L ≤ 320) (inv : INV c M Rf Lg) (kk : ∀ M' Rf' Lg', INV (c + 1) M' Rf' Lg' → G K 771 (lL bb c) [] (109, M', Rf', Lg') x y) : G K 609 (lL bb c) [] (109, M, Rf, Lg) x y := by
  obtain ⟨t, T, S, lat, pk, P, I, ik, cn, ch, cm, tl, tx, ic, im, hlg⟩ := inv
  refine g_aload_n (pc := 609) o 1 dL_law_609 rfl rfl ?_
  refine e_V0i (pc := 610) o lkR_law_93 cmX3_sham (cX3sham ic.1 ic.2.2.2.2.1.1 ic.2.2.2.2.1.2.1 ic.2.2.2.2.1.2.2) rfl (by decide) rfl rfl hxy dL_law_610 (fun r M1 hq => ?_)
  obtain ⟨rfl, fr⟩ := hq
  have im1 := im.over (M' := M1) (fun z hz => fr z (by omega))
  have ic1 := ic.kept (M' := M1) (fun z g1 g2 g3 => fr z (by omega))
  obtain ⟨dl, mf⟩ := id im1.2.1
  refine g_aload_n (pc := 613) o 2 dL_law_613 rfl rfl ?_
  refine g_V0i (pc := 614) o lkR_law_96 cmX4_sham (cX4sham im1.1 (by omega) mf im1.2.2.2.2.1.1 ic.2.2.2.2.1.2.1 (fun i hi => ⟨im1.2.2.2.2.1.2 i hi, (ic.2.2.2.2.1.2.2 i hi).2.1, (ic.2.2.2.2.1.2.2 i hi).2.2.2⟩)) rfl (by show (96 : Nat) < 109; decide) rfl rfl hxy dL_law_614 ?_
  refine g_icmp_eq (pc := 617) o 771 dL_law_617 (by decide) (fun _ => ?_) (fun q => absurd rfl q)
  exact kk _ _ _ (INV_mk (ic1.over (fun z hz => hld_ne _ (by omega))) (hld_keep im1) (by omega) (by omega) hlg)

set_option maxHeartbeats 1000000 in
set_option maxRecDepth 20000 in
theorem L_odds (o : Ok K code R_law 4 (d + 9) RC RS) (hxy : x ≤ RC ∧ y ≤ RS) (hX : va_X bb L xs K.2.2.2.2.1 K.2.2.2.2.1.heap) (hbl : bb < K.2.2.2.2.1.heap.size) (hbA : bb < K.1.2.1) (hc : 5 * c + 4 < L) (hL : L ≤ 320) (inv : INV c M Rf Lg) (kk : ∀ M' Rf' Lg', INV (c + 1) M' Rf' Lg' → G K 771 (lL bb c) [] (109, M', Rf', Lg') x y) : G K 622 (lL bb c) [] (109, M, Rf, Lg) x y := by
  obtain ⟨t, T, S, lat, pk, P, I, ik, cn, ch, cm, tl, tx, ic, im, hlg⟩ := inv
  obtain ⟨dl, mf⟩ := id im.2.1
  refine g_aload_n (pc := 622) o 1 dL_law_622 rfl rfl ?_
  refine g_aload_nX (pc := 623) o 0 dL_law_623 rfl rfl ?_
  refine g_iload_n (pc := 624) o 3 dL_law_624 rfl rfl ?_
  refine g_iconst (pc := 625) (v := 1) o dL_law_625 (by decide) ?_
  refine g_iadd (pc := 626) o dL_law_626 ?_
  refine g_sld (pc := 627) o hX hbl hbA (5 * c + 1) (nI_addE rfl rfl) (by omega) (by omega) dL_law_627 ?_
  refine g_aload_nX (pc := 628) o 0 dL_law_628 rfl rfl ?_
  refine g_iload_n (pc := 629) o 3 dL_law_629 rfl rfl ?_
  refine g_iconst (pc := 630) (v := 2) o dL_law_630 (by decide) ?_
  refine g_iadd (pc := 631) o dL_law_631 ?_
  refine g_sld (pc := 632) o hX hbl hbA (5 * c + 2) (nI_addE rfl rfl) (by omega) (by omega) dL_law_632 ?_
  refine g_V2i (pc := 633) o lkR_law_97 cmX3_odds (cX3odds ic.1) rfl (by show (0 : Nat) < 109; decide) rfl rfl hxy dL_law_633 ?_
  refine g_aload_n (pc := 636) o 2 dL_law_636 rfl rfl ?_
  refine g_aload_nX (pc := 637) o 0 dL_law_637 rfl rfl ?_
  refine g_iload_n (pc := 638) o 3 dL_law_638 rfl rfl ?_
  refine g_iconst (pc := 639) (v := 1) o dL_law_639 (by decide) ?_
  refine g_iadd (pc := 640) o dL_law_640 ?_
  refine g_sld (pc := 641) o hX hbl hbA (5 * c + 1) (nI_addE rfl rfl) (by omega) (by omega) dL_law_641 ?_
  refine g_aload_nX (pc := 642) o 0 dL_law_642 rfl rfl ?_
  refine g_iload_n (pc := 643) o 3 dL_law_643 rfl rfl ?_
  refine g_iconst (pc := 644) (v := 2) o dL_law_644 (by decide) ?_
  refine g_iadd (pc := 645) o dL_law_645 ?_
  refine g_sld (pc := 646) o hX hbl hbA (5 * c + 2) (nI_addE rfl rfl) (by omega) (by omega) dL_law_646 ?_
  refine g_V2i (pc := 647) o lkR_law_100 cmX4_odds (cX4odds im.1 mf) rfl (by show (96 : Nat) < 109; decide) rfl rfl hxy dL_law_647 ?_
  refine g_icmp_eq (pc := 650) o 771 dL_law_650 (by decide) (fun _ => ?_) (fun q => absurd rfl q)
  exact kk _ _ _ (INV_mk ic im (by omega) (by omega) hlg)

set_option maxHeartbeats 1000000 in
set_option maxRecDepth 20000 in
theorem L_rate (o : Ok K code R_law 4 (d + 9) RC RS) (hxy : x ≤ RC ∧ y ≤ RS) (hX : va_X bb L xs K.2.2.2.2.1 K.2.2.2.2.1.heap) (hbl : bb < K.2.2.2.2.1.heap.size) (hbA : bb < K.1.2.1) (hc : 5 * c + 4 < L) (hL : L ≤ 320) (inv : INV c M Rf Lg) (kk : ∀ M' Rf' Lg', INV (c + 1) M' Rf' Lg' → G K 771 (lL bb c) [] (109, M', Rf', Lg') x y) : G K 655 (lL bb c) [] (109, M, Rf, Lg) x y := by
  obtain ⟨t, T, S, lat, pk, P, I, ik, cn, ch, cm, tl, tx, ic, im, hlg⟩ := inv
  refine g_aload_n (pc := 655) o 1 dL_law_655 rfl rfl ?_
  refine g_aload_nX (pc := 656) o 0 dL_law_656 rfl rfl ?_
  refine g_iload_n (pc := 657) o 3 dL_law_657 rfl rfl ?_
  refine g_iconst (pc := 658) (v := 1) o dL_law_658 (by decide) ?_
  refine g_iadd (pc := 659) o dL_law_659 ?_
  refine g_sld (pc := 660) o hX hbl hbA (5 * c + 1) (nI_addE rfl rfl) (by omega) (by omega) dL_law_660 ?_
  refine g_aload_nX (pc := 661) o 0 dL_law_661 rfl rfl ?_
  refine g_iload_n (pc := 662) o 3 dL_law_662 rfl rfl ?_
  refine g_iconst (pc := 663) (v := 2) o dL_law_663 (by decide) ?_
  refine g_iadd (pc := 664) o dL_law_664 ?_
  refine g_sld (pc := 665) o hX hbl hbA (5 * c + 2) (nI_addE rfl rfl) (by omega) (by omega) dL_law_665 ?_
  refine g_V2i (pc := 666) o lkR_law_101 cmX3_rate (cX3rate ic.1) rfl (by show (0 : Nat) < 109; decide) rfl rfl hxy dL_law_666 ?_
  refine g_aload_n (pc := 669) o 2 dL_law_669 rfl rfl ?_
  refine g_aload_nX (pc := 670) o 0 dL_law_670 rfl rfl ?_
  refine g_iload_n (pc := 671) o 3 dL_law_671 rfl rfl ?_
  refine g_iconst (pc := 672) (v := 1) o dL_law_672 (by decide) ?_
  refine g_iadd (pc := 673) o dL_law_673 ?_
  refine g_sld (pc := 674) o hX hbl hbA (5 * c + 1) (nI_addE rfl rfl) (by omega) (by omega) dL_law_674 ?_
  refine g_aload_nX (pc := 675) o 0 dL_law_675 rfl rfl ?_
  refine g_iload_n (pc := 676) o 3 dL_law_676 rfl rfl ?_
  refine g_iconst (pc := 677) (v := 2) o dL_law_677 (by decide) ?_
  refine g_iadd (pc := 678) o dL_law_678 ?_
  refine g_sld (pc := 679) o hX hbl hbA (5 * c + 2) (nI_addE rfl rfl) (by omega) (by omega) dL_law_679 ?_
  refine g_V2i (pc := 680) o lkR_law_104 cmX4_rate (cX4rate im.1) rfl (by show (96 : Nat) < 109; decide) rfl rfl hxy dL_law_680 ?_
  refine g_icmp_eq (pc := 683) o 771 dL_law_683 (by decide) (fun _ => ?_) (fun q => absurd rfl q)
  exact kk _ _ _ (INV_mk ic im (by omega) (by omega) (by rw [st2_ne _ _ _ (by decide), st2_row, if_pos rfl, st2_row, if_pos rfl, st2_ne _ _ _ (by decide), hlg]))

set_option maxHeartbeats 1000000 in
set_option maxRecDepth 20000 in
theorem L_keep (o : Ok K code R_law 4 (d + 9) RC RS) (hxy : x ≤ RC ∧ y ≤ RS) (hX : va_X bb L xs K.2.2.2.2.1 K.2.2.2.2.1.heap) (hbl : bb < K.2.2.2.2.1.heap.size) (hbA : bb < K.1.2.1) (hc : 5 * c + 4 < L) (hL : L ≤ 320) (inv : INV c M Rf Lg) (kk : ∀ M' Rf' Lg', INV (c + 1) M' Rf' Lg' → G K 771 (lL bb c) [] (109, M', Rf', Lg') x y) : G K 688 (lL bb c) [] (109, M, Rf, Lg) x y := by
  obtain ⟨t, T, S, lat, pk, P, I, ik, cn, ch, cm, tl, tx, ic, im, hlg⟩ := inv
  refine g_aload_n (pc := 688) o 1 dL_law_688 rfl rfl ?_
  refine g_aload_nX (pc := 689) o 0 dL_law_689 rfl rfl ?_
  refine g_iload_n (pc := 690) o 3 dL_law_690 rfl rfl ?_
  refine g_iconst (pc := 691) (v := 1) o dL_law_691 (by decide) ?_
  refine g_iadd (pc := 692) o dL_law_692 ?_
  refine g_sld (pc := 693) o hX hbl hbA (5 * c + 1) (nI_addE rfl rfl) (by omega) (by omega) dL_law_693 ?_
  refine g_V1i (pc := 694) o lkR_law_105 cmX3_keep (cX3keep ic.1) rfl (by show (0 : Nat) < 109; decide) rfl rfl hxy dL_law_694 ?_
  have im1 := im.over (M' := mKeep M (xs (5 * c + 1))) (fun z hz => mKeep_ne _ hz)
  refine g_aload_n (pc := 697) o 2 dL_law_697 rfl rfl ?_
  refine g_aload_nX (pc := 698) o 0 dL_law_698 rfl rfl ?_
  refine g_iload_n (pc := 699) o 3 dL_law_699 rfl rfl ?_
  refine g_iconst (pc := 700) (v := 1) o dL_law_700 (by decide) ?_
  refine g_iadd (pc := 701) o dL_law_701 ?_
  refine g_sld (pc := 702) o hX hbl hbA (5 * c + 1) (nI_addE rfl rfl) (by omega) (by omega) dL_law_702 ?_
  refine g_V1i (pc := 703) o lkR_law_108 cmX4_keep (cX4keep im1.1) rfl (by show (96 : Nat) < 109; decide) rfl rfl hxy dL_law_703 ?_
  refine g_icmp_eq (pc := 706) o 771 dL_law_706 (by decide) (fun _ => ?_) (fun q => absurd rfl q)
  exact kk _ _ _ (INV_keep ic im (by omega) hlg (xs (5 * c + 1)))

set_option maxHeartbeats 1000000 in
set_option maxRecDepth 20000 in
theorem L_back (o : Ok K code R_law 4 (d + 9) RC RS) (hxy : x ≤ RC ∧ y ≤ RS) (hX : va_X bb L xs K.2.2.2.2.1 K.2.2.2.2.1.heap) (hbl : bb < K.2.2.2.2.1.heap.size) (hbA : bb < K.1.2.1) (hc : 5 * c + 4 < L) (hL : L ≤ 320) (inv : INV c M Rf Lg) (kk : ∀ M' Rf' Lg', INV (c + 1) M' Rf' Lg' → G K 771 (lL bb c) [] (109, M', Rf', Lg') x y) : G K 711 (lL bb c) [] (109, M, Rf, Lg) x y := by
  obtain ⟨t, T, S, lat, pk, P, I, ik, cn, ch, cm, tl, tx, ic, im, hlg⟩ := inv
  refine g_aload_n (pc := 711) o 1 dL_law_711 rfl rfl ?_
  refine g_aload_nX (pc := 712) o 0 dL_law_712 rfl rfl ?_
  refine g_iload_n (pc := 713) o 3 dL_law_713 rfl rfl ?_
  refine g_iconst (pc := 714) (v := 1) o dL_law_714 (by decide) ?_
  refine g_iadd (pc := 715) o dL_law_715 ?_
  refine g_sld (pc := 716) o hX hbl hbA (5 * c + 1) (nI_addE rfl rfl) (by omega) (by omega) dL_law_716 ?_
  refine g_V1i (pc := 717) o lkR_law_109 cmX3_back (cX3back ic.1 ic.2.2.2.1.1 (fun i hi hk => (ic.2.2.2.1.2 i hi hk).1)) rfl (by show (0 : Nat) < 109; decide) rfl rfl hxy dL_law_717 ?_
  have im1 := im.over (M' := mBack M ik (xs (5 * c + 1))) (fun z hz => mBack_ne _ hz)
  refine g_aload_n (pc := 720) o 2 dL_law_720 rfl rfl ?_
  refine g_aload_nX (pc := 721) o 0 dL_law_721 rfl rfl ?_
  refine g_iload_n (pc := 722) o 3 dL_law_722 rfl rfl ?_
  refine g_iconst (pc := 723) (v := 1) o dL_law_723 (by decide) ?_
  refine g_iadd (pc := 724) o dL_law_724 ?_
  refine g_sld (pc := 725) o hX hbl hbA (5 * c + 1) (nI_addE rfl rfl) (by omega) (by omega) dL_law_725 ?_
  refine g_V1i (pc := 726) o lkR_law_112 cmX4_back (cX4back im1.1 im1.2.2.2.1.1 im1.2.2.2.1.2) rfl (by show (96 : Nat) < 109; decide) rfl rfl hxy dL_law_726 ?_
  refine g_icmp_eq (pc := 729) o 771 dL_law_729 (by decide) (fun _ => ?_) (fun q => absurd rfl q)
  exact kk _ _ _ (INV_back ic im (by omega) hlg (xs (5 * c + 1)))

set_option maxHeartbeats 1000000 in
set_option maxRecDepth 20000 in
theorem L_count (o : Ok K code R_law 4 (d + 9) RC RS) (hxy : x ≤ RC ∧ y ≤ RS) (hX : va_X bb L xs K.2.2.2.2.1 K.2.2.2.2.1.heap) (hbl : bb < K.2.2.2.2.1.heap.size) (hbA : bb < K.1.2.1) (hc : 5 * c + 4 < L) (hL : L ≤ 320) (inv : INV c M Rf Lg) (kk : ∀ M' Rf' Lg', INV (c + 1) M' Rf' Lg' → G K 771 (lL bb c) [] (109, M', Rf', Lg') x y) : G K 734 (lL bb c) [] (109, M, Rf, Lg) x y := by
  obtain ⟨t, T, S, lat, pk, P, I, ik, cn, ch, cm, tl, tx, ic, im, hlg⟩ := inv
  refine g_aload_n (pc := 734) o 1 dL_law_734 rfl rfl ?_
  refine g_aload_nX (pc := 735) o 0 dL_law_735 rfl rfl ?_
  refine g_iload_n (pc := 736) o 3 dL_law_736 rfl rfl ?_
  refine g_iconst (pc := 737) (v := 1) o dL_law_737 (by decide) ?_
  refine g_iadd (pc := 738) o dL_law_738 ?_
  refine g_sld (pc := 739) o hX hbl hbA (5 * c + 1) (nI_addE rfl rfl) (by omega) (by omega) dL_law_739 ?_
  refine g_V1i (pc := 740) o lkR_law_113 cmX3_count (cX3count ic.1 ic.2.2.2.2.1.1 ic.2.2.2.2.2.2.1) rfl (by show (0 : Nat) < 109; decide) rfl rfl hxy dL_law_740 ?_
  refine g_aload_n (pc := 743) o 2 dL_law_743 rfl rfl ?_
  refine g_aload_nX (pc := 744) o 0 dL_law_744 rfl rfl ?_
  refine g_iload_n (pc := 745) o 3 dL_law_745 rfl rfl ?_
  refine g_iconst (pc := 746) (v := 1) o dL_law_746 (by decide) ?_
  refine g_iadd (pc := 747) o dL_law_747 ?_
  refine g_sld (pc := 748) o hX hbl hbA (5 * c + 1) (nI_addE rfl rfl) (by omega) (by omega) dL_law_748 ?_
  refine g_V1i (pc := 749) o lkR_law_116 cmX4_count (cX4count im.1 im.2.2.2.2.1.1 im.2.2.2.2.2.2.1) rfl (by show (96 : Nat) < 109; decide) rfl rfl hxy dL_law_749 ?_
  refine g_icmp_eq (pc := 752) o 771 dL_law_752 (by decide) (fun _ => ?_) (fun q => absurd rfl q)
  exact kk _ _ _ (INV_mk ic im (by omega) (by omega) hlg)

theorem L_trace (o : Ok K code R_law 4 (d + 9) RC RS) (hxy : x ≤ RC ∧ y ≤ RS) (hX : va_X bb L xs K.2.2.2.2.1 K.2.2.2.2.1.heap) (hbl : bb < K.2.2.2.2.1.heap.size) (hbA : bb < K.1.2.1) (hc : 5 * c + 4 < L) (hL : L ≤ 320) (inv : INV c M Rf Lg) (kk : ∀ M' Rf' Lg', INV (c + 1) M' Rf' Lg' → G K 771 (lL bb c) [] (109, M', Rf', Lg') x y) : G K 757 (lL bb c) [] (109, M, Rf, Lg) x y := by
  obtain ⟨t, T, S, lat, pk, P, I, ik, cn, ch, cm, tl, tx, ic, im, hlg⟩ := inv
  refine g_aload_n (pc := 757) o 1 dL_law_757 rfl rfl ?_
  refine g_V0i (pc := 758) o lkR_law_117 cmX3_trace (cX3trace ic.1.2.2.1) rfl (by show (0 : Nat) < 109; decide) rfl rfl hxy dL_law_758 ?_
  refine g_aload_n (pc := 761) o 2 dL_law_761 rfl rfl ?_
  refine g_V0i (pc := 762) o lkR_law_121 cmX4_trace (cX4trace (Nat.le_refl _)) rfl (by show (96 : Nat) < 109; decide) rfl rfl hxy dL_law_762 ?_
  rw [hlg]
  refine g_lcmp (pc := 765) o dL_law_765 ?_
  refine g_if_eq (pc := 766) o 771 dL_law_766 (by decide) (fun _ => ?_) (fun q => absurd (lg_cmp_self _) q)
  exact kk _ _ _ (INV_mk ic im (by omega) (by omega) hlg)
end M48
