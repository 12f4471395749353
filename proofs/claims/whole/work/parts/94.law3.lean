/-! ===== the law's cases, on ===== -/
section LCASE
variable {Γ : Ct} {P : Pq} {nh i : Int} {ad : Ob → Nat} {μc μm : Me} {cs sl b n : Nat} {xs : Nat → Int32}

theorem law_9 (F : Fx Γ cL_law "GatesBentLaw" 4 (some .boolean) P 2000 600000 7302250) (hS : Scr Γ b n xs) (hi : 0 ≤ i ∧ i + 6 ≤ n ∧ n ≤ 3072) (hcs : cs ≤ 500000) (hsl : sl ≤ 7000000) (hI : INV μc μm nh) (kk : LN0 Γ nh i ad cs sl b) : XX Γ 4 (VL nh) ad (vl ad (mx μc μm)) cs sl 491 [(0, .ref b), (1, .ref (ad (0, 0, 0))), (2, .ref (ad (30, 0, 0))), (3, .int (I i))] [] := by
  obtain ⟨hc, im, tl, T, K, tx, sT, ln, it, Hm, Lb, hC, hM, hP⟩ := hI
  have hR0 := hC.1
  have hTI := hP.1.1
  have hd := hP.1.2.1
  have h78 := hTI.2.2.2.2.1.1
  have hH := hC.2.2.2.2.2.2.2.2 (T 78) h78 hP.1.2.2
  have hE : MEn μm T (Hm (T 78)) := ⟨hM.1, hM.2.2.2.2.2.2.2.2.2 (T 78) h78 hP.1.2.2, hM.2.2.2.2.2.2.2.1⟩
  have hSB := hP.2.2.2.2.2.2.2 (T 78)
  have hMA := hM.2.2.2.2.2.2.2.2.1
  have hX1 := i32_rg (xs (i + 1).toNat)
  refine x_aload_n (i := 1) (pc := 491) F dL_law_491 rfl rfl ?_
  refine x_aload_n (i := 0) (pc := 492) F dL_law_492 rfl rfl ?_
  refine x_iload_n (i := 3) (pc := 493) F dL_law_493 rfl rfl ?_
  refine x_iconst (pc := 494) F dL_law_494 ?_
  refine x_iadd (pc := 495) F dL_law_495 ?_
  refine x_sld (pc := 496) F hS dL_law_496 (by omega) ?_
  refine lc_Ci (As := [.int (I ((xs (i + 1).toNat).toInt))]) (pc := 497) F dL_law_497 lk_L_54 rfl rfl rfl (by omega) (by omega) (by omega) (c_X7_told ((xs (i + 1).toNat).toInt) hX1 hR0 hTI hH hd) ?_
  rintro _ μ1 ⟨rfl, c2⟩
  refine x_aload_n (i := 2) (pc := 500) F dL_law_500 rfl rfl ?_
  refine x_aload_n (i := 0) (pc := 501) F dL_law_501 rfl rfl ?_
  refine x_iload_n (i := 3) (pc := 502) F dL_law_502 rfl rfl ?_
  refine x_iconst (pc := 503) F dL_law_503 ?_
  refine x_iadd (pc := 504) F dL_law_504 ?_
  refine x_sld (pc := 505) F hS dL_law_505 (by omega) ?_
  refine lc_Mi (As := [.int (I ((xs (i + 1).toNat).toInt))]) (pc := 506) F dL_law_506 lk_L_57 rfl rfl rfl (by omega) (by omega) (by omega) (c_X8_told hE hTI hSB hd hX1) ?_
  rintro _ μ2 ⟨rfl, m1, m2⟩
  refine x_icmp_same (tgt := 1345) (pc := 509) F dL_law_509 rfl ?_
  exact kk _ _ ⟨_, _, _, _, _, _, _, _, _, _, _, hC.sc c2, hM.fx m2 m1, hP⟩
theorem law_10 (F : Fx Γ cL_law "GatesBentLaw" 4 (some .boolean) P 2000 600000 7302250) (hS : Scr Γ b n xs) (hi : 0 ≤ i ∧ i + 6 ≤ n ∧ n ≤ 3072) (hcs : cs ≤ 500000) (hsl : sl ≤ 7000000) (hI : INV μc μm nh) (kk : LN0 Γ nh i ad cs sl b) : XX Γ 4 (VL nh) ad (vl ad (mx μc μm)) cs sl 514 [(0, .ref b), (1, .ref (ad (0, 0, 0))), (2, .ref (ad (30, 0, 0))), (3, .int (I i))] [] := by
  obtain ⟨hc, im, tl, T, K, tx, sT, ln, it, Hm, Lb, hC, hM, hP⟩ := hI
  have hR0 := hC.1
  have hTI := hP.1.1
  have hd := hP.1.2.1
  have h78 := hTI.2.2.2.2.1.1
  have hH := hC.2.2.2.2.2.2.2.2 (T 78) h78 hP.1.2.2
  have hE : MEn μm T (Hm (T 78)) := ⟨hM.1, hM.2.2.2.2.2.2.2.2.2 (T 78) h78 hP.1.2.2, hM.2.2.2.2.2.2.2.1⟩
  have hSB := hP.2.2.2.2.2.2.2 (T 78)
  have hMA := hM.2.2.2.2.2.2.2.2.1
  have hX1 := i32_rg (xs (i + 1).toNat)
  refine x_aload_n (i := 1) (pc := 514) F dL_law_514 rfl rfl ?_
  refine x_aload_n (i := 0) (pc := 515) F dL_law_515 rfl rfl ?_
  refine x_iload_n (i := 3) (pc := 516) F dL_law_516 rfl rfl ?_
  refine x_iconst (pc := 517) F dL_law_517 ?_
  refine x_iadd (pc := 518) F dL_law_518 ?_
  refine x_sld (pc := 519) F hS dL_law_519 (by omega) ?_
  refine lc_Ci (As := [.int (I ((xs (i + 1).toNat).toInt))]) (pc := 520) F dL_law_520 lk_L_58 rfl rfl rfl (by omega) (by omega) (by omega) (c_X7_pass ((xs (i + 1).toNat).toInt) hX1 hR0 hTI hH hd) ?_
  rintro _ μ1 ⟨rfl, c1, c2⟩
  refine x_aload_n (i := 2) (pc := 523) F dL_law_523 rfl rfl ?_
  refine x_aload_n (i := 0) (pc := 524) F dL_law_524 rfl rfl ?_
  refine x_iload_n (i := 3) (pc := 525) F dL_law_525 rfl rfl ?_
  refine x_iconst (pc := 526) F dL_law_526 ?_
  refine x_iadd (pc := 527) F dL_law_527 ?_
  refine x_sld (pc := 528) F hS dL_law_528 (by omega) ?_
  refine lc_Mi (As := [.int (I ((xs (i + 1).toNat).toInt))]) (pc := 529) F dL_law_529 lk_L_61 rfl rfl rfl (by omega) (by omega) (by omega) (c_X8_pass hE hTI hSB hd hX1) ?_
  rintro _ μ2 ⟨rfl, m1, m2⟩
  refine x_icmp_same (tgt := 1345) (pc := 532) F dL_law_532 rfl ?_
  exact kk _ _ ⟨_, _, _, _, _, _, _, _, _, _, _, hC.nw c1 c2, hM.fx m2 m1, hP.up (passN_TI hTI hSB.2.2.1) (passN_77 hd) (passN_78 hTI hSB.2.2.1)⟩
theorem law_11 (F : Fx Γ cL_law "GatesBentLaw" 4 (some .boolean) P 2000 600000 7302250) (hS : Scr Γ b n xs) (hi : 0 ≤ i ∧ i + 6 ≤ n ∧ n ≤ 3072) (hcs : cs ≤ 500000) (hsl : sl ≤ 7000000) (hI : INV μc μm nh) (kk : LN0 Γ nh i ad cs sl b) : XX Γ 4 (VL nh) ad (vl ad (mx μc μm)) cs sl 537 [(0, .ref b), (1, .ref (ad (0, 0, 0))), (2, .ref (ad (30, 0, 0))), (3, .int (I i))] [] := by
  obtain ⟨hc, im, tl, T, K, tx, sT, ln, it, Hm, Lb, hC, hM, hP⟩ := hI
  have hR0 := hC.1
  have hTI := hP.1.1
  have hd := hP.1.2.1
  have h78 := hTI.2.2.2.2.1.1
  have hH := hC.2.2.2.2.2.2.2.2 (T 78) h78 hP.1.2.2
  have hE : MEn μm T (Hm (T 78)) := ⟨hM.1, hM.2.2.2.2.2.2.2.2.2 (T 78) h78 hP.1.2.2, hM.2.2.2.2.2.2.2.1⟩
  have hSB := hP.2.2.2.2.2.2.2 (T 78)
  have hMA := hM.2.2.2.2.2.2.2.2.1
  have hX1 := i32_rg (xs (i + 1).toNat)
  have hX2 := i32_rg (xs (i + 2).toNat)
  refine x_aload_n (i := 1) (pc := 537) F dL_law_537 rfl rfl ?_
  refine x_aload_n (i := 0) (pc := 538) F dL_law_538 rfl rfl ?_
  refine x_iload_n (i := 3) (pc := 539) F dL_law_539 rfl rfl ?_
  refine x_iconst (pc := 540) F dL_law_540 ?_
  refine x_iadd (pc := 541) F dL_law_541 ?_
  refine x_sld (pc := 542) F hS dL_law_542 (by omega) ?_
  refine x_aload_n (i := 0) (pc := 543) F dL_law_543 rfl rfl ?_
  refine x_iload_n (i := 3) (pc := 544) F dL_law_544 rfl rfl ?_
  refine x_iconst (pc := 545) F dL_law_545 ?_
  refine x_iadd (pc := 546) F dL_law_546 ?_
  refine x_sld (pc := 547) F hS dL_law_547 (by omega) ?_
  refine lc_Ci (As := [.int (I ((xs (i + 1).toNat).toInt)), .int (I ((xs (i + 2).toNat).toInt))]) (pc := 548) F dL_law_548 lk_L_62 rfl rfl rfl (by omega) (by omega) (by omega) (c_X7_on ((xs (i + 1).toNat).toInt) ((xs (i + 2).toNat).toInt) hX1 hX2 hR0 hTI hH hd) ?_
  rintro _ μ1 ⟨rfl, c2⟩
  refine x_aload_n (i := 2) (pc := 551) F dL_law_551 rfl rfl ?_
  refine x_aload_n (i := 0) (pc := 552) F dL_law_552 rfl rfl ?_
  refine x_iload_n (i := 3) (pc := 553) F dL_law_553 rfl rfl ?_
  refine x_iconst (pc := 554) F dL_law_554 ?_
  refine x_iadd (pc := 555) F dL_law_555 ?_
  refine x_sld (pc := 556) F hS dL_law_556 (by omega) ?_
  refine x_aload_n (i := 0) (pc := 557) F dL_law_557 rfl rfl ?_
  refine x_iload_n (i := 3) (pc := 558) F dL_law_558 rfl rfl ?_
  refine x_iconst (pc := 559) F dL_law_559 ?_
  refine x_iadd (pc := 560) F dL_law_560 ?_
  refine x_sld (pc := 561) F hS dL_law_561 (by omega) ?_
  refine lc_Mi (As := [.int (I ((xs (i + 1).toNat).toInt)), .int (I ((xs (i + 2).toNat).toInt))]) (pc := 562) F dL_law_562 lk_L_65 rfl rfl rfl (by omega) (by omega) (by omega) (c_X8_on hE hTI hSB hd hX1 hX2) ?_
  rintro _ μ2 ⟨rfl, m1, m2⟩
  refine x_icmp_same (tgt := 1345) (pc := 565) F dL_law_565 rfl ?_
  exact kk _ _ ⟨_, _, _, _, _, _, _, _, _, _, _, hC.sc c2, hM.fx m2 m1, hP⟩
theorem law_12 (F : Fx Γ cL_law "GatesBentLaw" 4 (some .boolean) P 2000 600000 7302250) (hS : Scr Γ b n xs) (hi : 0 ≤ i ∧ i + 6 ≤ n ∧ n ≤ 3072) (hcs : cs ≤ 500000) (hsl : sl ≤ 7000000) (hI : INV μc μm nh) (kk : LN0 Γ nh i ad cs sl b) : XX Γ 4 (VL nh) ad (vl ad (mx μc μm)) cs sl 570 [(0, .ref b), (1, .ref (ad (0, 0, 0))), (2, .ref (ad (30, 0, 0))), (3, .int (I i))] [] := by
  obtain ⟨hc, im, tl, T, K, tx, sT, ln, it, Hm, Lb, hC, hM, hP⟩ := hI
  have hR0 := hC.1
  have hTI := hP.1.1
  have hd := hP.1.2.1
  have h78 := hTI.2.2.2.2.1.1
  have hH := hC.2.2.2.2.2.2.2.2 (T 78) h78 hP.1.2.2
  have hE : MEn μm T (Hm (T 78)) := ⟨hM.1, hM.2.2.2.2.2.2.2.2.2 (T 78) h78 hP.1.2.2, hM.2.2.2.2.2.2.2.1⟩
  have hSB := hP.2.2.2.2.2.2.2 (T 78)
  have hMA := hM.2.2.2.2.2.2.2.2.1
  have hX1 := i32_rg (xs (i + 1).toNat)
  have hX2 := i32_rg (xs (i + 2).toNat)
  have hX3 := i32_rg (xs (i + 3).toNat)
  refine x_aload_n (i := 1) (pc := 570) F dL_law_570 rfl rfl ?_
  refine x_aload_n (i := 0) (pc := 571) F dL_law_571 rfl rfl ?_
  refine x_iload_n (i := 3) (pc := 572) F dL_law_572 rfl rfl ?_
  refine x_iconst (pc := 573) F dL_law_573 ?_
  refine x_iadd (pc := 574) F dL_law_574 ?_
  refine x_sld (pc := 575) F hS dL_law_575 (by omega) ?_
  refine x_aload_n (i := 0) (pc := 576) F dL_law_576 rfl rfl ?_
  refine x_iload_n (i := 3) (pc := 577) F dL_law_577 rfl rfl ?_
  refine x_iconst (pc := 578) F dL_law_578 ?_
  refine x_iadd (pc := 579) F dL_law_579 ?_
  refine x_sld (pc := 580) F hS dL_law_580 (by omega) ?_
  refine x_aload_n (i := 0) (pc := 581) F dL_law_581 rfl rfl ?_
  refine x_iload_n (i := 3) (pc := 582) F dL_law_582 rfl rfl ?_
  refine x_iconst (pc := 583) F dL_law_583 ?_
  refine x_iadd (pc := 584) F dL_law_584 ?_
  refine x_sld (pc := 585) F hS dL_law_585 (by omega) ?_
  refine lc_Ci (As := [.int (I ((xs (i + 1).toNat).toInt)), .int (I ((xs (i + 2).toNat).toInt)), .int (I ((xs (i + 3).toNat).toInt))]) (pc := 586) F dL_law_586 lk_L_66 rfl rfl rfl (by omega) (by omega) (by omega) (c_X7_lessons ((xs (i + 1).toNat).toInt) ((xs (i + 2).toNat).toInt) ((xs (i + 3).toNat).toInt) hX1 hX2 hX3 hR0 hTI hH hd) ?_
  rintro _ μ1 ⟨rfl, c2⟩
  refine x_aload_n (i := 2) (pc := 589) F dL_law_589 rfl rfl ?_
  refine x_aload_n (i := 0) (pc := 590) F dL_law_590 rfl rfl ?_
  refine x_iload_n (i := 3) (pc := 591) F dL_law_591 rfl rfl ?_
  refine x_iconst (pc := 592) F dL_law_592 ?_
  refine x_iadd (pc := 593) F dL_law_593 ?_
  refine x_sld (pc := 594) F hS dL_law_594 (by omega) ?_
  refine x_aload_n (i := 0) (pc := 595) F dL_law_595 rfl rfl ?_
  refine x_iload_n (i := 3) (pc := 596) F dL_law_596 rfl rfl ?_
  refine x_iconst (pc := 597) F dL_law_597 ?_
  refine x_iadd (pc := 598) F dL_law_598 ?_
  refine x_sld (pc := 599) F hS dL_law_599 (by omega) ?_
  refine x_aload_n (i := 0) (pc := 600) F dL_law_600 rfl rfl ?_
  refine x_iload_n (i := 3) (pc := 601) F dL_law_601 rfl rfl ?_
  refine x_iconst (pc := 602) F dL_law_602 ?_
  refine x_iadd (pc := 603) F dL_law_603 ?_
  refine x_sld (pc := 604) F hS dL_law_604 (by omega) ?_
  refine lc_Mi (As := [.int (I ((xs (i + 1).toNat).toInt)), .int (I ((xs (i + 2).toNat).toInt)), .int (I ((xs (i + 3).toNat).toInt))]) (pc := 605) F dL_law_605 lk_L_69 rfl rfl rfl (by omega) (by omega) (by omega) (c_X8_lessons hE hTI hSB hd ((xs (i + 2).toNat).toInt) ((xs (i + 3).toNat).toInt) hX1 hX2 hX3) ?_
  rintro _ μ2 ⟨rfl, m1, m2⟩
  refine x_icmp_same (tgt := 1345) (pc := 608) F dL_law_608 rfl ?_
  exact kk _ _ ⟨_, _, _, _, _, _, _, _, _, _, _, hC.sc c2, hM.fx m2 m1, hP⟩
theorem law_13 (F : Fx Γ cL_law "GatesBentLaw" 4 (some .boolean) P 2000 600000 7302250) (hS : Scr Γ b n xs) (hi : 0 ≤ i ∧ i + 6 ≤ n ∧ n ≤ 3072) (hcs : cs ≤ 500000) (hsl : sl ≤ 7000000) (hI : INV μc μm nh) (kk : LN0 Γ nh i ad cs sl b) : XX Γ 4 (VL nh) ad (vl ad (mx μc μm)) cs sl 613 [(0, .ref b), (1, .ref (ad (0, 0, 0))), (2, .ref (ad (30, 0, 0))), (3, .int (I i))] [] := by
  obtain ⟨hc, im, tl, T, K, tx, sT, ln, it, Hm, Lb, hC, hM, hP⟩ := hI
  have hR0 := hC.1
  have hTI := hP.1.1
  have hd := hP.1.2.1
  have h78 := hTI.2.2.2.2.1.1
  have hH := hC.2.2.2.2.2.2.2.2 (T 78) h78 hP.1.2.2
  have hE : MEn μm T (Hm (T 78)) := ⟨hM.1, hM.2.2.2.2.2.2.2.2.2 (T 78) h78 hP.1.2.2, hM.2.2.2.2.2.2.2.1⟩
  have hSB := hP.2.2.2.2.2.2.2 (T 78)
  have hMA := hM.2.2.2.2.2.2.2.2.1
  have hX1 := i32_rg (xs (i + 1).toNat)
  have hX2 := i32_rg (xs (i + 2).toNat)
  have hX3 := i32_rg (xs (i + 3).toNat)
  refine x_aload_n (i := 1) (pc := 613) F dL_law_613 rfl rfl ?_
  refine x_aload_n (i := 0) (pc := 614) F dL_law_614 rfl rfl ?_
  refine x_iload_n (i := 3) (pc := 615) F dL_law_615 rfl rfl ?_
  refine x_iconst (pc := 616) F dL_law_616 ?_
  refine x_iadd (pc := 617) F dL_law_617 ?_
  refine x_sld (pc := 618) F hS dL_law_618 (by omega) ?_
  refine x_aload_n (i := 0) (pc := 619) F dL_law_619 rfl rfl ?_
  refine x_iload_n (i := 3) (pc := 620) F dL_law_620 rfl rfl ?_
  refine x_iconst (pc := 621) F dL_law_621 ?_
  refine x_iadd (pc := 622) F dL_law_622 ?_
  refine x_sld (pc := 623) F hS dL_law_623 (by omega) ?_
  refine x_aload_n (i := 0) (pc := 624) F dL_law_624 rfl rfl ?_
  refine x_iload_n (i := 3) (pc := 625) F dL_law_625 rfl rfl ?_
  refine x_iconst (pc := 626) F dL_law_626 ?_
  refine x_iadd (pc := 627) F dL_law_627 ?_
  refine x_sld (pc := 628) F hS dL_law_628 (by omega) ?_
  refine lc_Ci (As := [.int (I ((xs (i + 1).toNat).toInt)), .int (I ((xs (i + 2).toNat).toInt)), .int (I ((xs (i + 3).toNat).toInt))]) (pc := 629) F dL_law_629 lk_L_70 rfl rfl rfl (by omega) (by omega) (by omega) (c_X7_feign ((xs (i + 1).toNat).toInt) ((xs (i + 2).toNat).toInt) ((xs (i + 3).toNat).toInt) hX1 hX2 hX3 hR0 hTI hH hd) ?_
  rintro _ μ1 ⟨rfl, rfl⟩
  refine x_aload_n (i := 2) (pc := 632) F dL_law_632 rfl rfl ?_
  refine x_aload_n (i := 0) (pc := 633) F dL_law_633 rfl rfl ?_
  refine x_iload_n (i := 3) (pc := 634) F dL_law_634 rfl rfl ?_
  refine x_iconst (pc := 635) F dL_law_635 ?_
  refine x_iadd (pc := 636) F dL_law_636 ?_
  refine x_sld (pc := 637) F hS dL_law_637 (by omega) ?_
  refine x_aload_n (i := 0) (pc := 638) F dL_law_638 rfl rfl ?_
  refine x_iload_n (i := 3) (pc := 639) F dL_law_639 rfl rfl ?_
  refine x_iconst (pc := 640) F dL_law_640 ?_
  refine x_iadd (pc := 641) F dL_law_641 ?_
  refine x_sld (pc := 642) F hS dL_law_642 (by omega) ?_
  refine x_aload_n (i := 0) (pc := 643) F dL_law_643 rfl rfl ?_
  refine x_iload_n (i := 3) (pc := 644) F dL_law_644 rfl rfl ?_
  refine x_iconst (pc := 645) F dL_law_645 ?_
  refine x_iadd (pc := 646) F dL_law_646 ?_
  refine x_sld (pc := 647) F hS dL_law_647 (by omega) ?_
  refine lc_Mi (As := [.int (I ((xs (i + 1).toNat).toInt)), .int (I ((xs (i + 2).toNat).toInt)), .int (I ((xs (i + 3).toNat).toInt))]) (pc := 648) F dL_law_648 lk_L_73 rfl rfl rfl (by omega) (by omega) (by omega) (c_X8_feign hE hTI hSB hd hX1 hX2 hX3) ?_
  rintro _ μ2 ⟨rfl, m1, m2⟩
  refine x_icmp_same (tgt := 1345) (pc := 651) F dL_law_651 rfl ?_
  exact kk _ _ ⟨_, _, _, _, _, _, _, _, _, _, _, hC, hM.fx m2 m1, hP⟩
theorem law_14 (F : Fx Γ cL_law "GatesBentLaw" 4 (some .boolean) P 2000 600000 7302250) (hS : Scr Γ b n xs) (hi : 0 ≤ i ∧ i + 6 ≤ n ∧ n ≤ 3072) (hcs : cs ≤ 500000) (hsl : sl ≤ 7000000) (hI : INV μc μm nh) (kk : LN0 Γ nh i ad cs sl b) : XX Γ 4 (VL nh) ad (vl ad (mx μc μm)) cs sl 656 [(0, .ref b), (1, .ref (ad (0, 0, 0))), (2, .ref (ad (30, 0, 0))), (3, .int (I i))] [] := by
  obtain ⟨hc, im, tl, T, K, tx, sT, ln, it, Hm, Lb, hC, hM, hP⟩ := hI
  have hR0 := hC.1
  have hTI := hP.1.1
  have hd := hP.1.2.1
  have h78 := hTI.2.2.2.2.1.1
  have hH := hC.2.2.2.2.2.2.2.2 (T 78) h78 hP.1.2.2
  have hE : MEn μm T (Hm (T 78)) := ⟨hM.1, hM.2.2.2.2.2.2.2.2.2 (T 78) h78 hP.1.2.2, hM.2.2.2.2.2.2.2.1⟩
  have hSB := hP.2.2.2.2.2.2.2 (T 78)
  have hMA := hM.2.2.2.2.2.2.2.2.1
  have hX1 := i32_rg (xs (i + 1).toNat)
  have hX2 := i32_rg (xs (i + 2).toNat)
  have hX3 := i32_rg (xs (i + 3).toNat)
  refine x_aload_n (i := 1) (pc := 656) F dL_law_656 rfl rfl ?_
  refine x_aload_n (i := 0) (pc := 657) F dL_law_657 rfl rfl ?_
  refine x_iload_n (i := 3) (pc := 658) F dL_law_658 rfl rfl ?_
  refine x_iconst (pc := 659) F dL_law_659 ?_
  refine x_iadd (pc := 660) F dL_law_660 ?_
  refine x_sld (pc := 661) F hS dL_law_661 (by omega) ?_
  refine x_aload_n (i := 0) (pc := 662) F dL_law_662 rfl rfl ?_
  refine x_iload_n (i := 3) (pc := 663) F dL_law_663 rfl rfl ?_
  refine x_iconst (pc := 664) F dL_law_664 ?_
  refine x_iadd (pc := 665) F dL_law_665 ?_
  refine x_sld (pc := 666) F hS dL_law_666 (by omega) ?_
  refine x_aload_n (i := 0) (pc := 667) F dL_law_667 rfl rfl ?_
  refine x_iload_n (i := 3) (pc := 668) F dL_law_668 rfl rfl ?_
  refine x_iconst (pc := 669) F dL_law_669 ?_
  refine x_iadd (pc := 670) F dL_law_670 ?_
  refine x_sld (pc := 671) F hS dL_law_671 (by omega) ?_
  refine x_if_eq (tgt := 679) (pc := 672) F dL_law_672 rfl (by omega) (fun hz => ?_) (fun hz => ?_)
  · refine x_iconst (pc := 679) F dL_law_679 ?_
    refine lc_Ci (As := [.int (I ((xs (i + 1).toNat).toInt)), .int (I ((xs (i + 2).toNat).toInt)), .int (I 0)]) (pc := 680) F dL_law_680 lk_L_74 rfl rfl rfl (by omega) (by omega) (by omega) (c_X7_see ((xs (i + 1).toNat).toInt) ((xs (i + 2).toNat).toInt) 0 hX1 hX2 (by omega) hR0 hTI) ?_
    rintro _ μ1 ⟨rfl, c1, c2⟩
    refine x_aload_n (i := 2) (pc := 683) F dL_law_683 rfl rfl ?_
    refine x_aload_n (i := 0) (pc := 684) F dL_law_684 rfl rfl ?_
    refine x_iload_n (i := 3) (pc := 685) F dL_law_685 rfl rfl ?_
    refine x_iconst (pc := 686) F dL_law_686 ?_
    refine x_iadd (pc := 687) F dL_law_687 ?_
    refine x_sld (pc := 688) F hS dL_law_688 (by omega) ?_
    refine x_aload_n (i := 0) (pc := 689) F dL_law_689 rfl rfl ?_
    refine x_iload_n (i := 3) (pc := 690) F dL_law_690 rfl rfl ?_
    refine x_iconst (pc := 691) F dL_law_691 ?_
    refine x_iadd (pc := 692) F dL_law_692 ?_
    refine x_sld (pc := 693) F hS dL_law_693 (by omega) ?_
    refine x_aload_n (i := 0) (pc := 694) F dL_law_694 rfl rfl ?_
    refine x_iload_n (i := 3) (pc := 695) F dL_law_695 rfl rfl ?_
    refine x_iconst (pc := 696) F dL_law_696 ?_
    refine x_iadd (pc := 697) F dL_law_697 ?_
    refine x_sld (pc := 698) F hS dL_law_698 (by omega) ?_
    refine x_if_eq (tgt := 706) (pc := 699) F dL_law_699 rfl (by omega) (fun _ => ?_) (fun hq => absurd hz hq)
    refine x_iconst (pc := 706) F dL_law_706 ?_
    refine lc_Mi (As := [.int (I ((xs (i + 1).toNat).toInt)), .int (I ((xs (i + 2).toNat).toInt)), .int (I (bI false))]) (pc := 707) F dL_law_707 lk_L_78 rfl rfl rfl (by omega) (by omega) (by omega) (c_X8_see hM.1 hTI hX1 hX2 false) ?_
    rintro _ μ2 ⟨rfl, m1, m2⟩
    refine x_icmp_same (tgt := 1345) (pc := 710) F dL_law_710 rfl ?_
    exact kk _ _ ⟨_, _, _, _, _, _, _, _, _, _, _, hC.nw c1 c2, hM.fx m2 m1, hP.up (seeT_TI hTI (by decide)) (by show seeT T _ _ 0 77 ≤ 9999; rw [seeT_o hTI (by decide)]; exact hd) (seeT_o (b := 0) hTI (by decide))⟩
  · refine x_iconst (pc := 675) F dL_law_675 ?_
    refine x_goto (tgt := 680) (pc := 676) F dL_law_676 rfl ?_
    refine lc_Ci (As := [.int (I ((xs (i + 1).toNat).toInt)), .int (I ((xs (i + 2).toNat).toInt)), .int (I 1)]) (pc := 680) F dL_law_680 lk_L_74 rfl rfl rfl (by omega) (by omega) (by omega) (c_X7_see ((xs (i + 1).toNat).toInt) ((xs (i + 2).toNat).toInt) 1 hX1 hX2 (by omega) hR0 hTI) ?_
    rintro _ μ1 ⟨rfl, c1, c2⟩
    refine x_aload_n (i := 2) (pc := 683) F dL_law_683 rfl rfl ?_
    refine x_aload_n (i := 0) (pc := 684) F dL_law_684 rfl rfl ?_
    refine x_iload_n (i := 3) (pc := 685) F dL_law_685 rfl rfl ?_
    refine x_iconst (pc := 686) F dL_law_686 ?_
    refine x_iadd (pc := 687) F dL_law_687 ?_
    refine x_sld (pc := 688) F hS dL_law_688 (by omega) ?_
    refine x_aload_n (i := 0) (pc := 689) F dL_law_689 rfl rfl ?_
    refine x_iload_n (i := 3) (pc := 690) F dL_law_690 rfl rfl ?_
    refine x_iconst (pc := 691) F dL_law_691 ?_
    refine x_iadd (pc := 692) F dL_law_692 ?_
    refine x_sld (pc := 693) F hS dL_law_693 (by omega) ?_
    refine x_aload_n (i := 0) (pc := 694) F dL_law_694 rfl rfl ?_
    refine x_iload_n (i := 3) (pc := 695) F dL_law_695 rfl rfl ?_
    refine x_iconst (pc := 696) F dL_law_696 ?_
    refine x_iadd (pc := 697) F dL_law_697 ?_
    refine x_sld (pc := 698) F hS dL_law_698 (by omega) ?_
    refine x_if_eq (tgt := 706) (pc := 699) F dL_law_699 rfl (by omega) (fun hq => absurd hq hz) (fun _ => ?_)
    refine x_iconst (pc := 702) F dL_law_702 ?_
    refine x_goto (tgt := 707) (pc := 703) F dL_law_703 rfl ?_
    refine lc_Mi (As := [.int (I ((xs (i + 1).toNat).toInt)), .int (I ((xs (i + 2).toNat).toInt)), .int (I (bI true))]) (pc := 707) F dL_law_707 lk_L_78 rfl rfl rfl (by omega) (by omega) (by omega) (c_X8_see hM.1 hTI hX1 hX2 true) ?_
    rintro _ μ2 ⟨rfl, m1, m2⟩
    refine x_icmp_same (tgt := 1345) (pc := 710) F dL_law_710 rfl ?_
    exact kk _ _ ⟨_, _, _, _, _, _, _, _, _, _, _, hC.nw c1 c2, hM.fx m2 m1, hP.up (seeT_TI hTI (by decide)) (by show seeT T _ _ 1 77 ≤ 9999; rw [seeT_o hTI (by decide)]; exact hd) (seeT_o (b := 1) hTI (by decide))⟩
theorem law_15 (F : Fx Γ cL_law "GatesBentLaw" 4 (some .boolean) P 2000 600000 7302250) (hS : Scr Γ b n xs) (hi : 0 ≤ i ∧ i + 6 ≤ n ∧ n ≤ 3072) (hcs : cs ≤ 500000) (hsl : sl ≤ 7000000) (hI : INV μc μm nh) (kk : LN0 Γ nh i ad cs sl b) : XX Γ 4 (VL nh) ad (vl ad (mx μc μm)) cs sl 715 [(0, .ref b), (1, .ref (ad (0, 0, 0))), (2, .ref (ad (30, 0, 0))), (3, .int (I i))] [] := by
  obtain ⟨hc, im, tl, T, K, tx, sT, ln, it, Hm, Lb, hC, hM, hP⟩ := hI
  have hR0 := hC.1
  have hTI := hP.1.1
  have hd := hP.1.2.1
  have h78 := hTI.2.2.2.2.1.1
  have hH := hC.2.2.2.2.2.2.2.2 (T 78) h78 hP.1.2.2
  have hE : MEn μm T (Hm (T 78)) := ⟨hM.1, hM.2.2.2.2.2.2.2.2.2 (T 78) h78 hP.1.2.2, hM.2.2.2.2.2.2.2.1⟩
  have hSB := hP.2.2.2.2.2.2.2 (T 78)
  have hMA := hM.2.2.2.2.2.2.2.2.1
  refine x_aload_n (i := 1) (pc := 715) F dL_law_715 rfl rfl ?_
  refine lc_Ci (As := []) (pc := 716) F dL_law_716 lk_L_79 rfl rfl rfl (by omega) (by omega) (by omega) (c_X7_wrong hR0 hTI hH hd) ?_
  rintro _ μ1 ⟨rfl, rfl⟩
  refine x_aload_n (i := 2) (pc := 719) F dL_law_719 rfl rfl ?_
  refine lc_Mi (As := []) (pc := 720) F dL_law_720 lk_L_82 rfl rfl rfl (by omega) (by omega) (by omega) (c_X8_wrong hE hTI hSB hd) ?_
  rintro _ μ2 ⟨rfl, m1, m2⟩
  refine x_icmp_same (tgt := 1345) (pc := 723) F dL_law_723 rfl ?_
  exact kk _ _ ⟨_, _, _, _, _, _, _, _, _, _, _, hC, hM.fx m2 m1, hP⟩
theorem law_16 (F : Fx Γ cL_law "GatesBentLaw" 4 (some .boolean) P 2000 600000 7302250) (hS : Scr Γ b n xs) (hi : 0 ≤ i ∧ i + 6 ≤ n ∧ n ≤ 3072) (hcs : cs ≤ 500000) (hsl : sl ≤ 7000000) (hI : INV μc μm nh) (kk : LN0 Γ nh i ad cs sl b) : XX Γ 4 (VL nh) ad (vl ad (mx μc μm)) cs sl 728 [(0, .ref b), (1, .ref (ad (0, 0, 0))), (2, .ref (ad (30, 0, 0))), (3, .int (I i))] [] := by
  obtain ⟨hc, im, tl, T, K, tx, sT, ln, it, Hm, Lb, hC, hM, hP⟩ := hI
  have hR0 := hC.1
  have hTI := hP.1.1
  have hd := hP.1.2.1
  have h78 := hTI.2.2.2.2.1.1
  have hH := hC.2.2.2.2.2.2.2.2 (T 78) h78 hP.1.2.2
  have hE : MEn μm T (Hm (T 78)) := ⟨hM.1, hM.2.2.2.2.2.2.2.2.2 (T 78) h78 hP.1.2.2, hM.2.2.2.2.2.2.2.1⟩
  have hSB := hP.2.2.2.2.2.2.2 (T 78)
  have hMA := hM.2.2.2.2.2.2.2.2.1
  have hX1 := i32_rg (xs (i + 1).toNat)
  have hX2 := i32_rg (xs (i + 2).toNat)
  have hX3 := i32_rg (xs (i + 3).toNat)
  refine x_aload_n (i := 1) (pc := 728) F dL_law_728 rfl rfl ?_
  refine x_aload_n (i := 0) (pc := 729) F dL_law_729 rfl rfl ?_
  refine x_iload_n (i := 3) (pc := 730) F dL_law_730 rfl rfl ?_
  refine x_iconst (pc := 731) F dL_law_731 ?_
  refine x_iadd (pc := 732) F dL_law_732 ?_
  refine x_sld (pc := 733) F hS dL_law_733 (by omega) ?_
  refine x_aload_n (i := 0) (pc := 734) F dL_law_734 rfl rfl ?_
  refine x_iload_n (i := 3) (pc := 735) F dL_law_735 rfl rfl ?_
  refine x_iconst (pc := 736) F dL_law_736 ?_
  refine x_iadd (pc := 737) F dL_law_737 ?_
  refine x_sld (pc := 738) F hS dL_law_738 (by omega) ?_
  refine x_aload_n (i := 0) (pc := 739) F dL_law_739 rfl rfl ?_
  refine x_iload_n (i := 3) (pc := 740) F dL_law_740 rfl rfl ?_
  refine x_iconst (pc := 741) F dL_law_741 ?_
  refine x_iadd (pc := 742) F dL_law_742 ?_
  refine x_sld (pc := 743) F hS dL_law_743 (by omega) ?_
  refine lc_Ci (As := [.int (I ((xs (i + 1).toNat).toInt)), .int (I ((xs (i + 2).toNat).toInt)), .int (I ((xs (i + 3).toNat).toInt))]) (pc := 744) F dL_law_744 lk_L_83 rfl rfl rfl (by omega) (by omega) (by omega) (c_X7_can ((xs (i + 1).toNat).toInt) ((xs (i + 2).toNat).toInt) ((xs (i + 3).toNat).toInt) hX1 hX2 hX3 hR0 hTI hH hd) ?_
  rintro _ μ1 ⟨rfl, c2⟩
  refine x_aload_n (i := 2) (pc := 747) F dL_law_747 rfl rfl ?_
  refine x_aload_n (i := 0) (pc := 748) F dL_law_748 rfl rfl ?_
  refine x_iload_n (i := 3) (pc := 749) F dL_law_749 rfl rfl ?_
  refine x_iconst (pc := 750) F dL_law_750 ?_
  refine x_iadd (pc := 751) F dL_law_751 ?_
  refine x_sld (pc := 752) F hS dL_law_752 (by omega) ?_
  refine x_aload_n (i := 0) (pc := 753) F dL_law_753 rfl rfl ?_
  refine x_iload_n (i := 3) (pc := 754) F dL_law_754 rfl rfl ?_
  refine x_iconst (pc := 755) F dL_law_755 ?_
  refine x_iadd (pc := 756) F dL_law_756 ?_
  refine x_sld (pc := 757) F hS dL_law_757 (by omega) ?_
  refine x_aload_n (i := 0) (pc := 758) F dL_law_758 rfl rfl ?_
  refine x_iload_n (i := 3) (pc := 759) F dL_law_759 rfl rfl ?_
  refine x_iconst (pc := 760) F dL_law_760 ?_
  refine x_iadd (pc := 761) F dL_law_761 ?_
  refine x_sld (pc := 762) F hS dL_law_762 (by omega) ?_
  refine lc_Mi (As := [.int (I ((xs (i + 1).toNat).toInt)), .int (I ((xs (i + 2).toNat).toInt)), .int (I ((xs (i + 3).toNat).toInt))]) (pc := 763) F dL_law_763 lk_L_86 rfl rfl rfl (by omega) (by omega) (by omega) (c_X8_can hE hTI hSB hd hX1 hX2 hX3) ?_
  rintro _ μ2 ⟨rfl, m1, m2⟩
  refine x_icmp_same (tgt := 1345) (pc := 766) F dL_law_766 rfl ?_
  exact kk _ _ ⟨_, _, _, _, _, _, _, _, _, _, _, hC.sc c2, hM.fx m2 m1, hP⟩
theorem law_17 (F : Fx Γ cL_law "GatesBentLaw" 4 (some .boolean) P 2000 600000 7302250) (hS : Scr Γ b n xs) (hi : 0 ≤ i ∧ i + 6 ≤ n ∧ n ≤ 3072) (hcs : cs ≤ 500000) (hsl : sl ≤ 7000000) (hI : INV μc μm nh) (kk : LN0 Γ nh i ad cs sl b) : XX Γ 4 (VL nh) ad (vl ad (mx μc μm)) cs sl 771 [(0, .ref b), (1, .ref (ad (0, 0, 0))), (2, .ref (ad (30, 0, 0))), (3, .int (I i))] [] := by
  obtain ⟨hc, im, tl, T, K, tx, sT, ln, it, Hm, Lb, hC, hM, hP⟩ := hI
  have hR0 := hC.1
  have hTI := hP.1.1
  have hd := hP.1.2.1
  have h78 := hTI.2.2.2.2.1.1
  have hH := hC.2.2.2.2.2.2.2.2 (T 78) h78 hP.1.2.2
  have hE : MEn μm T (Hm (T 78)) := ⟨hM.1, hM.2.2.2.2.2.2.2.2.2 (T 78) h78 hP.1.2.2, hM.2.2.2.2.2.2.2.1⟩
  have hSB := hP.2.2.2.2.2.2.2 (T 78)
  have hMA := hM.2.2.2.2.2.2.2.2.1
  have hX1 := i32_rg (xs (i + 1).toNat)
  have hX2 := i32_rg (xs (i + 2).toNat)
  have hX3 := i32_rg (xs (i + 3).toNat)
  refine x_aload_n (i := 1) (pc := 771) F dL_law_771 rfl rfl ?_
  refine x_aload_n (i := 0) (pc := 772) F dL_law_772 rfl rfl ?_
  refine x_iload_n (i := 3) (pc := 773) F dL_law_773 rfl rfl ?_
  refine x_iconst (pc := 774) F dL_law_774 ?_
  refine x_iadd (pc := 775) F dL_law_775 ?_
  refine x_sld (pc := 776) F hS dL_law_776 (by omega) ?_
  refine x_aload_n (i := 0) (pc := 777) F dL_law_777 rfl rfl ?_
  refine x_iload_n (i := 3) (pc := 778) F dL_law_778 rfl rfl ?_
  refine x_iconst (pc := 779) F dL_law_779 ?_
  refine x_iadd (pc := 780) F dL_law_780 ?_
  refine x_sld (pc := 781) F hS dL_law_781 (by omega) ?_
  refine x_aload_n (i := 0) (pc := 782) F dL_law_782 rfl rfl ?_
  refine x_iload_n (i := 3) (pc := 783) F dL_law_783 rfl rfl ?_
  refine x_iconst (pc := 784) F dL_law_784 ?_
  refine x_iadd (pc := 785) F dL_law_785 ?_
  refine x_sld (pc := 786) F hS dL_law_786 (by omega) ?_
  refine lc_Cl (As := [.int (I ((xs (i + 1).toNat).toInt)), .int (I ((xs (i + 2).toNat).toInt)), .int (I ((xs (i + 3).toNat).toInt))]) (pc := 787) F dL_law_787 lk_L_87 rfl rfl rfl (by omega) (by omega) (by omega) (c_X7_odds ((xs (i + 1).toNat).toInt) ((xs (i + 2).toNat).toInt) ((xs (i + 3).toNat).toInt) hX1 hX2 hX3 hR0 hTI hH hd) ?_
  rintro _ μ1 ⟨rfl, rfl⟩
  refine x_aload_n (i := 2) (pc := 790) F dL_law_790 rfl rfl ?_
  refine x_aload_n (i := 0) (pc := 791) F dL_law_791 rfl rfl ?_
  refine x_iload_n (i := 3) (pc := 792) F dL_law_792 rfl rfl ?_
  refine x_iconst (pc := 793) F dL_law_793 ?_
  refine x_iadd (pc := 794) F dL_law_794 ?_
  refine x_sld (pc := 795) F hS dL_law_795 (by omega) ?_
  refine x_aload_n (i := 0) (pc := 796) F dL_law_796 rfl rfl ?_
  refine x_iload_n (i := 3) (pc := 797) F dL_law_797 rfl rfl ?_
  refine x_iconst (pc := 798) F dL_law_798 ?_
  refine x_iadd (pc := 799) F dL_law_799 ?_
  refine x_sld (pc := 800) F hS dL_law_800 (by omega) ?_
  refine x_aload_n (i := 0) (pc := 801) F dL_law_801 rfl rfl ?_
  refine x_iload_n (i := 3) (pc := 802) F dL_law_802 rfl rfl ?_
  refine x_iconst (pc := 803) F dL_law_803 ?_
  refine x_iadd (pc := 804) F dL_law_804 ?_
  refine x_sld (pc := 805) F hS dL_law_805 (by omega) ?_
  refine lc_Ml (As := [.int (I ((xs (i + 1).toNat).toInt)), .int (I ((xs (i + 2).toNat).toInt)), .int (I ((xs (i + 3).toNat).toInt))]) (pc := 806) F dL_law_806 lk_L_91 rfl rfl rfl (by omega) (by omega) (by omega) (c_X8_odds hE hTI hSB hd hX1 hX2 hX3) ?_
  rintro _ μ2 ⟨rfl, m1, m2⟩
  refine x_lcmp_same (pc := 809) F dL_law_809 ?_
  refine x_if_eq (tgt := 1345) (pc := 810) F dL_law_810 rfl (by omega) (fun _ => ?_) (fun hq => absurd rfl hq)
  exact kk _ _ ⟨_, _, _, _, _, _, _, _, _, _, _, hC, hM.fx m2 m1, hP⟩
end LCASE
