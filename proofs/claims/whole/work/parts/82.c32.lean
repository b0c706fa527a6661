set_option maxRecDepth 100000 in
theorem L_fair {x : aX} {nm : String} {post : aPost} {b L n xa : Nat} {xs : Nat → Int32} {h : AH} (X : aOk x 20 cL_law RL nm (some .boolean) 51 15694 post) (hs : x.2.2.2.2.2 = some (b, L, xs)) (k : Nat) (hk : 4 * k + 4 ≤ L) (hL : L ≤ 2048) (hI0 : lwI x.1 xa h) (kk : ∀ h' : AH, lwI x.1 xa h' → AW x 51 15694 n h' 929 (lwV b xa ((4 * k : Nat) : Int)) []) : AW x 51 15694 n h 398 (lwV b xa ((4 * k : Nat) : Int)) [] := by
  obtain ⟨fs, fn, fp, fi, fk, ft, fe, un, sz, sm, tr, hI, hW, hM⟩ := hI0
  obtain ⟨hok, ⟨hn, -⟩, he, hun, ⟨z, hz, hz2, ht⟩, hsm, -⟩ := id hI
  obtain ⟨xo, hxo⟩ := xW_t hW
  refine A_al1 X dL_law_398 ?_
  refine A_al0 X dL_law_399 ?_
  refine A_il3 X dL_law_400 ?_
  refine A_iconst X dL_law_401 ?_
  refine A_iadd X dL_law_402 ?_
  refine A_sld X hs (4 * k + 1) (by omega) (by omega) dL_law_403 ?_
  refine A_dVi1 X (x_fair (xin _) hI hW) hxo knX10_fair mlL_56 dL_law_404 ?_
  obtain ⟨mo, hmo⟩ := mW_t hM
  obtain ⟨ak, bg, mt, fr, f9, f10, f11, f12, f13, t0, t1, t2, t3, t4, t5, t6, t7, t8, -⟩ := id hM
  refine A_al2 X dL_law_407 ?_
  refine A_al0 X dL_law_408 ?_
  refine A_il3 X dL_law_409 ?_
  refine A_iconst X dL_law_410 ?_
  refine A_iadd X dL_law_411 ?_
  refine A_sld X hs (4 * k + 1) (by omega) (by omega) dL_law_412 ?_
  refine A_dVi1 X (m_fair (xin _) hok t0 t1) hmo knX11_fair mlL_59 dL_law_413 ?_
  refine A_icmpE (t := 929) X dL_law_416 ?_
  exact kk h ⟨_, _, _, _, _, _, _, _, _, _, _, hI, hW, hM⟩
set_option maxRecDepth 100000 in
theorem L_cut {x : aX} {nm : String} {post : aPost} {b L n xa : Nat} {xs : Nat → Int32} {h : AH} (X : aOk x 20 cL_law RL nm (some .boolean) 51 15694 post) (hs : x.2.2.2.2.2 = some (b, L, xs)) (k : Nat) (hk : 4 * k + 4 ≤ L) (hL : L ≤ 2048) (hI0 : lwI x.1 xa h) (kk : ∀ h' : AH, lwI x.1 xa h' → AW x 51 15694 n h' 929 (lwV b xa ((4 * k : Nat) : Int)) []) : AW x 51 15694 n h 421 (lwV b xa ((4 * k : Nat) : Int)) [] := by
  obtain ⟨fs, fn, fp, fi, fk, ft, fe, un, sz, sm, tr, hI, hW, hM⟩ := hI0
  obtain ⟨hok, ⟨hn, -⟩, he, hun, ⟨z, hz, hz2, ht⟩, hsm, -⟩ := id hI
  obtain ⟨xo, hxo⟩ := xW_t hW
  refine A_al1 X dL_law_421 ?_
  refine A_al0 X dL_law_422 ?_
  refine A_il3 X dL_law_423 ?_
  refine A_iconst X dL_law_424 ?_
  refine A_iadd X dL_law_425 ?_
  refine A_sld X hs (4 * k + 1) (by omega) (by omega) dL_law_426 ?_
  refine A_al0 X dL_law_427 ?_
  refine A_il3 X dL_law_428 ?_
  refine A_iconst X dL_law_429 ?_
  refine A_iadd X dL_law_430 ?_
  refine A_sld X hs (4 * k + 2) (by omega) (by omega) dL_law_431 ?_
  refine A_dVi2 X (x_cut (xin _) (xin _) hI hW) hxo knX10_cut mlL_60 dL_law_432 ?_
  obtain ⟨mo, hmo⟩ := mW_t hM
  obtain ⟨ak, bg, mt, fr, f9, f10, f11, f12, f13, t0, t1, t2, t3, t4, t5, t6, t7, t8, -⟩ := id hM
  refine A_al2 X dL_law_435 ?_
  refine A_al0 X dL_law_436 ?_
  refine A_il3 X dL_law_437 ?_
  refine A_iconst X dL_law_438 ?_
  refine A_iadd X dL_law_439 ?_
  refine A_sld X hs (4 * k + 1) (by omega) (by omega) dL_law_440 ?_
  refine A_al0 X dL_law_441 ?_
  refine A_il3 X dL_law_442 ?_
  refine A_iconst X dL_law_443 ?_
  refine A_iadd X dL_law_444 ?_
  refine A_sld X hs (4 * k + 2) (by omega) (by omega) dL_law_445 ?_
  refine A_dVi2 X (m_cut (xin _) (xin _) hok t0 t1) hmo knX11_cut mlL_63 dL_law_446 ?_
  refine A_icmpE (t := 929) X dL_law_449 ?_
  exact kk h ⟨_, _, _, _, _, _, _, _, _, _, _, hI, hW, hM⟩
set_option maxRecDepth 100000 in
theorem L_byTurns {x : aX} {nm : String} {post : aPost} {b L n xa : Nat} {xs : Nat → Int32} {h : AH} (X : aOk x 20 cL_law RL nm (some .boolean) 51 15694 post) (hs : x.2.2.2.2.2 = some (b, L, xs)) (k : Nat) (hk : 4 * k + 4 ≤ L) (hL : L ≤ 2048) (hI0 : lwI x.1 xa h) (kk : ∀ h' : AH, lwI x.1 xa h' → AW x 51 15694 n h' 929 (lwV b xa ((4 * k : Nat) : Int)) []) : AW x 51 15694 n h 454 (lwV b xa ((4 * k : Nat) : Int)) [] := by
  obtain ⟨fs, fn, fp, fi, fk, ft, fe, un, sz, sm, tr, hI, hW, hM⟩ := hI0
  obtain ⟨hok, ⟨hn, -⟩, he, hun, ⟨z, hz, hz2, ht⟩, hsm, -⟩ := id hI
  obtain ⟨xo, hxo⟩ := xW_t hW
  refine A_al1 X dL_law_454 ?_
  refine A_al0 X dL_law_455 ?_
  refine A_il3 X dL_law_456 ?_
  refine A_iconst X dL_law_457 ?_
  refine A_iadd X dL_law_458 ?_
  refine A_sld X hs (4 * k + 1) (by omega) (by omega) dL_law_459 ?_
  refine A_al0 X dL_law_460 ?_
  refine A_il3 X dL_law_461 ?_
  refine A_iconst X dL_law_462 ?_
  refine A_iadd X dL_law_463 ?_
  refine A_sld X hs (4 * k + 2) (by omega) (by omega) dL_law_464 ?_
  refine A_dVi2 X (x_turns (xin _) (xin _) hI hW) hxo knX10_byTurns mlL_64 dL_law_465 ?_
  have hM1 := hM
  obtain ⟨mo, hmo⟩ := mW_t hM
  refine A_al2 X dL_law_468 ?_
  refine A_al0 X dL_law_469 ?_
  refine A_il3 X dL_law_470 ?_
  refine A_iconst X dL_law_471 ?_
  refine A_iadd X dL_law_472 ?_
  refine A_sld X hs (4 * k + 1) (by omega) (by omega) dL_law_473 ?_
  refine A_al0 X dL_law_474 ?_
  refine A_il3 X dL_law_475 ?_
  refine A_iconst X dL_law_476 ?_
  refine A_iadd X dL_law_477 ?_
  refine A_sld X hs (4 * k + 2) (by omega) (by omega) dL_law_478 ?_
  refine A_eVi2 X (M_byTurns (xin _) (xin _) hok hn hM1) hmo knX11_byTurns mlL_67 dL_law_479 (fun h2 p2 => ?_)
  refine A_icmpE (t := 929) X dL_law_482 ?_
  exact kk h2 ⟨_, _, _, _, _, _, _, _, _, _, _, hI, xW_fr hW (fun q _ _ => p2.1 q (by omega)), p2.2⟩
set_option maxRecDepth 100000 in
theorem L_lies {x : aX} {nm : String} {post : aPost} {b L n xa : Nat} {xs : Nat → Int32} {h : AH} (X : aOk x 20 cL_law RL nm (some .boolean) 51 15694 post) (hs : x.2.2.2.2.2 = some (b, L, xs)) (k : Nat) (hk : 4 * k + 4 ≤ L) (hL : L ≤ 2048) (hI0 : lwI x.1 xa h) (kk : ∀ h' : AH, lwI x.1 xa h' → AW x 51 15694 n h' 929 (lwV b xa ((4 * k : Nat) : Int)) []) : AW x 51 15694 n h 487 (lwV b xa ((4 * k : Nat) : Int)) [] := by
  obtain ⟨fs, fn, fp, fi, fk, ft, fe, un, sz, sm, tr, hI, hW, hM⟩ := hI0
  obtain ⟨hok, ⟨hn, -⟩, he, hun, ⟨z, hz, hz2, ht⟩, hsm, -⟩ := id hI
  obtain ⟨xo, hxo⟩ := xW_t hW
  refine A_al1 X dL_law_487 ?_
  refine A_al0 X dL_law_488 ?_
  refine A_il3 X dL_law_489 ?_
  refine A_iconst X dL_law_490 ?_
  refine A_iadd X dL_law_491 ?_
  refine A_sld X hs (4 * k + 1) (by omega) (by omega) dL_law_492 ?_
  refine A_al0 X dL_law_493 ?_
  refine A_il3 X dL_law_494 ?_
  refine A_iconst X dL_law_495 ?_
  refine A_iadd X dL_law_496 ?_
  refine A_sld X hs (4 * k + 2) (by omega) (by omega) dL_law_497 ?_
  refine A_eVi2 X (x_lies (xin _) (xin _) hI hW) hxo knX10_lies mlL_68 dL_law_498 (fun h1 p1 => ?_)
  have hM1 := mW_fr hM (fun q _ _ => p1.1 q (by omega))
  obtain ⟨mo, hmo⟩ := mW_t hM1
  obtain ⟨ak, bg, mt, fr, f9, f10, f11, f12, f13, t0, t1, t2, t3, t4, t5, t6, t7, t8, -⟩ := id hM1
  refine A_al2 X dL_law_501 ?_
  refine A_al0 X dL_law_502 ?_
  refine A_il3 X dL_law_503 ?_
  refine A_iconst X dL_law_504 ?_
  refine A_iadd X dL_law_505 ?_
  refine A_sld X hs (4 * k + 1) (by omega) (by omega) dL_law_506 ?_
  refine A_al0 X dL_law_507 ?_
  refine A_il3 X dL_law_508 ?_
  refine A_iconst X dL_law_509 ?_
  refine A_iadd X dL_law_510 ?_
  refine A_sld X hs (4 * k + 2) (by omega) (by omega) dL_law_511 ?_
  refine A_dVi2 X (m_lies (xin _) (xin _) hok t0 t1) hmo knX11_lies mlL_71 dL_law_512 ?_
  refine A_icmpE (t := 929) X dL_law_515 ?_
  exact kk h1 ⟨_, _, _, _, _, _, _, _, _, _, _, hI, p1.2, hM1⟩
set_option maxRecDepth 100000 in
theorem L_sell {x : aX} {nm : String} {post : aPost} {b L n xa : Nat} {xs : Nat → Int32} {h : AH} (X : aOk x 20 cL_law RL nm (some .boolean) 51 15694 post) (hs : x.2.2.2.2.2 = some (b, L, xs)) (k : Nat) (hk : 4 * k + 4 ≤ L) (hL : L ≤ 2048) (hI0 : lwI x.1 xa h) (kk : ∀ h' : AH, lwI x.1 xa h' → AW x 51 15694 n h' 929 (lwV b xa ((4 * k : Nat) : Int)) []) : AW x 51 15694 n h 520 (lwV b xa ((4 * k : Nat) : Int)) [] := by
  obtain ⟨fs, fn, fp, fi, fk, ft, fe, un, sz, sm, tr, hI, hW, hM⟩ := hI0
  obtain ⟨hok, ⟨hn, -⟩, he, hun, ⟨z, hz, hz2, ht⟩, hsm, -⟩ := id hI
  obtain ⟨xo, hxo⟩ := xW_t hW
  refine A_al1 X dL_law_520 ?_
  refine A_al0 X dL_law_521 ?_
  refine A_il3 X dL_law_522 ?_
  refine A_iconst X dL_law_523 ?_
  refine A_iadd X dL_law_524 ?_
  refine A_sld X hs (4 * k + 1) (by omega) (by omega) dL_law_525 ?_
  refine A_dVi1 X (x_sell (xin _) hI hW) hxo knX10_sell mlL_72 dL_law_526 ?_
  obtain ⟨mo, hmo⟩ := mW_t hM
  obtain ⟨ak, bg, mt, fr, f9, f10, f11, f12, f13, t0, t1, t2, t3, t4, t5, t6, t7, t8, -⟩ := id hM
  refine A_al2 X dL_law_529 ?_
  refine A_al0 X dL_law_530 ?_
  refine A_il3 X dL_law_531 ?_
  refine A_iconst X dL_law_532 ?_
  refine A_iadd X dL_law_533 ?_
  refine A_sld X hs (4 * k + 1) (by omega) (by omega) dL_law_534 ?_
  refine A_dVi1 X (m_sell (xin _) hok t0 t1) hmo knX11_sell mlL_75 dL_law_535 ?_
  refine A_icmpE (t := 929) X dL_law_538 ?_
  exact kk h ⟨_, _, _, _, _, _, _, _, _, _, _, hI, hW, hM⟩
set_option maxRecDepth 100000 in
theorem L_adds {x : aX} {nm : String} {post : aPost} {b L n xa : Nat} {xs : Nat → Int32} {h : AH} (X : aOk x 20 cL_law RL nm (some .boolean) 51 15694 post) (hs : x.2.2.2.2.2 = some (b, L, xs)) (k : Nat) (hk : 4 * k + 4 ≤ L) (hL : L ≤ 2048) (hI0 : lwI x.1 xa h) (kk : ∀ h' : AH, lwI x.1 xa h' → AW x 51 15694 n h' 929 (lwV b xa ((4 * k : Nat) : Int)) []) : AW x 51 15694 n h 543 (lwV b xa ((4 * k : Nat) : Int)) [] := by
  obtain ⟨fs, fn, fp, fi, fk, ft, fe, un, sz, sm, tr, hI, hW, hM⟩ := hI0
  obtain ⟨hok, ⟨hn, -⟩, he, hun, ⟨z, hz, hz2, ht⟩, hsm, -⟩ := id hI
  obtain ⟨xo, hxo⟩ := xW_t hW
  refine A_al1 X dL_law_543 ?_
  refine A_al0 X dL_law_544 ?_
  refine A_il3 X dL_law_545 ?_
  refine A_iconst X dL_law_546 ?_
  refine A_iadd X dL_law_547 ?_
  refine A_sld X hs (4 * k + 1) (by omega) (by omega) dL_law_548 ?_
  refine A_dVi1 X (x_adds (xin _) hI hW) hxo knX10_adds mlL_76 dL_law_549 ?_
  obtain ⟨mo, hmo⟩ := mW_t hM
  obtain ⟨ak, bg, mt, fr, f9, f10, f11, f12, f13, t0, t1, t2, t3, t4, t5, t6, t7, t8, -⟩ := id hM
  refine A_al2 X dL_law_552 ?_
  refine A_al0 X dL_law_553 ?_
  refine A_il3 X dL_law_554 ?_
  refine A_iconst X dL_law_555 ?_
  refine A_iadd X dL_law_556 ?_
  refine A_sld X hs (4 * k + 1) (by omega) (by omega) dL_law_557 ?_
  refine A_dVi1 X (m_adds (xin _) hok t0 t1) hmo knX11_adds mlL_79 dL_law_558 ?_
  refine A_icmpE (t := 929) X dL_law_561 ?_
  exact kk h ⟨_, _, _, _, _, _, _, _, _, _, _, hI, hW, hM⟩
set_option maxRecDepth 100000 in
theorem L_odds {x : aX} {nm : String} {post : aPost} {b L n xa : Nat} {xs : Nat → Int32} {h : AH} (X : aOk x 20 cL_law RL nm (some .boolean) 51 15694 post) (hs : x.2.2.2.2.2 = some (b, L, xs)) (k : Nat) (hk : 4 * k + 4 ≤ L) (hL : L ≤ 2048) (hI0 : lwI x.1 xa h) (kk : ∀ h' : AH, lwI x.1 xa h' → AW x 51 15694 n h' 929 (lwV b xa ((4 * k : Nat) : Int)) []) : AW x 51 15694 n h 566 (lwV b xa ((4 * k : Nat) : Int)) [] := by
  obtain ⟨fs, fn, fp, fi, fk, ft, fe, un, sz, sm, tr, hI, hW, hM⟩ := hI0
  obtain ⟨hok, ⟨hn, -⟩, he, hun, ⟨z, hz, hz2, ht⟩, hsm, -⟩ := id hI
  obtain ⟨xo, hxo⟩ := xW_t hW
  refine A_al1 X dL_law_566 ?_
  refine A_al0 X dL_law_567 ?_
  refine A_il3 X dL_law_568 ?_
  refine A_iconst X dL_law_569 ?_
  refine A_iadd X dL_law_570 ?_
  refine A_sld X hs (4 * k + 1) (by omega) (by omega) dL_law_571 ?_
  refine A_al0 X dL_law_572 ?_
  refine A_il3 X dL_law_573 ?_
  refine A_iconst X dL_law_574 ?_
  refine A_iadd X dL_law_575 ?_
  refine A_sld X hs (4 * k + 2) (by omega) (by omega) dL_law_576 ?_
  refine A_dVi2 X (x_odds (xin _) (xin _) hI hW) hxo knX10_odds mlL_80 dL_law_577 ?_
  obtain ⟨mo, hmo⟩ := mW_t hM
  obtain ⟨ak, bg, mt, fr, f9, f10, f11, f12, f13, t0, t1, t2, t3, t4, t5, t6, t7, t8, -⟩ := id hM
  refine A_al2 X dL_law_580 ?_
  refine A_al0 X dL_law_581 ?_
  refine A_il3 X dL_law_582 ?_
  refine A_iconst X dL_law_583 ?_
  refine A_iadd X dL_law_584 ?_
  refine A_sld X hs (4 * k + 1) (by omega) (by omega) dL_law_585 ?_
  refine A_al0 X dL_law_586 ?_
  refine A_il3 X dL_law_587 ?_
  refine A_iconst X dL_law_588 ?_
  refine A_iadd X dL_law_589 ?_
  refine A_sld X hs (4 * k + 2) (by omega) (by omega) dL_law_590 ?_
  refine A_dVi2 X (m_odds (xin _) (xin _) hok t0 t1) hmo knX11_odds mlL_83 dL_law_591 ?_
  refine A_icmpE (t := 929) X dL_law_594 ?_
  exact kk h ⟨_, _, _, _, _, _, _, _, _, _, _, hI, hW, hM⟩
set_option maxRecDepth 100000 in
theorem L_foot {x : aX} {nm : String} {post : aPost} {b L n xa : Nat} {xs : Nat → Int32} {h : AH} (X : aOk x 20 cL_law RL nm (some .boolean) 51 15694 post) (hs : x.2.2.2.2.2 = some (b, L, xs)) (k : Nat) (hk : 4 * k + 4 ≤ L) (hL : L ≤ 2048) (hI0 : lwI x.1 xa h) (kk : ∀ h' : AH, lwI x.1 xa h' → AW x 51 15694 n h' 929 (lwV b xa ((4 * k : Nat) : Int)) []) : AW x 51 15694 n h 599 (lwV b xa ((4 * k : Nat) : Int)) [] := by
  obtain ⟨fs, fn, fp, fi, fk, ft, fe, un, sz, sm, tr, hI, hW, hM⟩ := hI0
  obtain ⟨hok, ⟨hn, -⟩, he, hun, ⟨z, hz, hz2, ht⟩, hsm, -⟩ := id hI
  obtain ⟨xo, hxo⟩ := xW_t hW
  refine A_al1 X dL_law_599 ?_
  refine A_al0 X dL_law_600 ?_
  refine A_il3 X dL_law_601 ?_
  refine A_iconst X dL_law_602 ?_
  refine A_iadd X dL_law_603 ?_
  refine A_sld X hs (4 * k + 1) (by omega) (by omega) dL_law_604 ?_
  refine A_dVi1 X (x_foot (xin _) hI hW) hxo knX10_foot mlL_84 dL_law_605 ?_
  obtain ⟨mo, hmo⟩ := mW_t hM
  obtain ⟨ak, bg, mt, fr, f9, f10, f11, f12, f13, t0, t1, t2, t3, t4, t5, t6, t7, t8, -⟩ := id hM
  refine A_al2 X dL_law_608 ?_
  refine A_al0 X dL_law_609 ?_
  refine A_il3 X dL_law_610 ?_
  refine A_iconst X dL_law_611 ?_
  refine A_iadd X dL_law_612 ?_
  refine A_sld X hs (4 * k + 1) (by omega) (by omega) dL_law_613 ?_
  refine A_dVi1 X (m_foot (xin _) hn t0 t3) hmo knX11_foot mlL_87 dL_law_614 ?_
  refine A_icmpE (t := 929) X dL_law_617 ?_
  exact kk h ⟨_, _, _, _, _, _, _, _, _, _, _, hI, hW, hM⟩
set_option maxRecDepth 100000 in
theorem L_worn {x : aX} {nm : String} {post : aPost} {b L n xa : Nat} {xs : Nat → Int32} {h : AH} (X : aOk x 20 cL_law RL nm (some .boolean) 51 15694 post) (hs : x.2.2.2.2.2 = some (b, L, xs)) (k : Nat) (hk : 4 * k + 4 ≤ L) (hL : L ≤ 2048) (hI0 : lwI x.1 xa h) (kk : ∀ h' : AH, lwI x.1 xa h' → AW x 51 15694 n h' 929 (lwV b xa ((4 * k : Nat) : Int)) []) : AW x 51 15694 n h 622 (lwV b xa ((4 * k : Nat) : Int)) [] := by
  obtain ⟨fs, fn, fp, fi, fk, ft, fe, un, sz, sm, tr, hI, hW, hM⟩ := hI0
  obtain ⟨hok, ⟨hn, -⟩, he, hun, ⟨z, hz, hz2, ht⟩, hsm, -⟩ := id hI
  obtain ⟨xo, hxo⟩ := xW_t hW
  refine A_al1 X dL_law_622 ?_
  refine A_al0 X dL_law_623 ?_
  refine A_il3 X dL_law_624 ?_
  refine A_iconst X dL_law_625 ?_
  refine A_iadd X dL_law_626 ?_
  refine A_sld X hs (4 * k + 1) (by omega) (by omega) dL_law_627 ?_
  refine A_al0 X dL_law_628 ?_
  refine A_il3 X dL_law_629 ?_
  refine A_iconst X dL_law_630 ?_
  refine A_iadd X dL_law_631 ?_
  refine A_sld X hs (4 * k + 2) (by omega) (by omega) dL_law_632 ?_
  refine A_dVi2 X (x_worn (xin _) (xin _) hI hW) hxo knX10_worn mlL_88 dL_law_633 ?_
  obtain ⟨mo, hmo⟩ := mW_t hM
  obtain ⟨ak, bg, mt, fr, f9, f10, f11, f12, f13, t0, t1, t2, t3, t4, t5, t6, t7, t8, -⟩ := id hM
  refine A_al2 X dL_law_636 ?_
  refine A_al0 X dL_law_637 ?_
  refine A_il3 X dL_law_638 ?_
  refine A_iconst X dL_law_639 ?_
  refine A_iadd X dL_law_640 ?_
  refine A_sld X hs (4 * k + 1) (by omega) (by omega) dL_law_641 ?_
  refine A_al0 X dL_law_642 ?_
  refine A_il3 X dL_law_643 ?_
  refine A_iconst X dL_law_644 ?_
  refine A_iadd X dL_law_645 ?_
  refine A_sld X hs (4 * k + 2) (by omega) (by omega) dL_law_646 ?_
  refine A_dVi2 X (m_worn (xin _) (xin _) hn hok.2.2.2.1 t0 t1 t3) hmo knX11_worn mlL_91 dL_law_647 ?_
  refine A_icmpE (t := 929) X dL_law_650 ?_
  exact kk h ⟨_, _, _, _, _, _, _, _, _, _, _, hI, hW, hM⟩
set_option maxRecDepth 100000 in
theorem L_judge {x : aX} {nm : String} {post : aPost} {b L n xa : Nat} {xs : Nat → Int32} {h : AH} (X : aOk x 20 cL_law RL nm (some .boolean) 51 15694 post) (hs : x.2.2.2.2.2 = some (b, L, xs)) (k : Nat) (hk : 4 * k + 4 ≤ L) (hL : L ≤ 2048) (hI0 : lwI x.1 xa h) (kk : ∀ h' : AH, lwI x.1 xa h' → AW x 51 15694 n h' 929 (lwV b xa ((4 * k : Nat) : Int)) []) : AW x 51 15694 n h 655 (lwV b xa ((4 * k : Nat) : Int)) [] := by
  obtain ⟨fs, fn, fp, fi, fk, ft, fe, un, sz, sm, tr, hI, hW, hM⟩ := hI0
  obtain ⟨hok, ⟨hn, -⟩, he, hun, ⟨z, hz, hz2, ht⟩, hsm, -⟩ := id hI
  obtain ⟨xo, hxo⟩ := xW_t hW
  refine A_al1 X dL_law_655 ?_
  refine A_al0 X dL_law_656 ?_
  refine A_il3 X dL_law_657 ?_
  refine A_iconst X dL_law_658 ?_
  refine A_iadd X dL_law_659 ?_
  refine A_sld X hs (4 * k + 1) (by omega) (by omega) dL_law_660 ?_
  refine A_dVi1 X (x_judge (xin _) hI hW) hxo knX10_judge mlL_92 dL_law_661 ?_
  obtain ⟨mo, hmo⟩ := mW_t hM
  obtain ⟨ak, bg, mt, fr, f9, f10, f11, f12, f13, t0, t1, t2, t3, t4, t5, t6, t7, t8, -⟩ := id hM
  refine A_al2 X dL_law_664 ?_
  refine A_al0 X dL_law_665 ?_
  refine A_il3 X dL_law_666 ?_
  refine A_iconst X dL_law_667 ?_
  refine A_iadd X dL_law_668 ?_
  refine A_sld X hs (4 * k + 1) (by omega) (by omega) dL_law_669 ?_
  refine A_dVi1 X (m_judge (xin _) hn hok.2.2.1 t0 t1 t3) hmo knX11_judge mlL_95 dL_law_670 ?_
  refine A_icmpE (t := 929) X dL_law_673 ?_
  exact kk h ⟨_, _, _, _, _, _, _, _, _, _, _, hI, hW, hM⟩
