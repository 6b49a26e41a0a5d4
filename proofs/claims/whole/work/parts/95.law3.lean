theorem dL_law_530 : decode code 530 = .ok (.aload_n 1, 1) := by decide +kernel
theorem dL_law_531 : decode code 531 = .ok (.aload_n 3, 1) := by decide +kernel
theorem dL_law_532 : decode code 532 = .ok (.invokestatic 106, 3) := by decide +kernel
theorem dL_law_535 : decode code 535 = .ok (.istore 5, 2) := by decide +kernel
theorem dL_law_537 : decode code 537 = .ok (.aload_n 2, 1) := by decide +kernel
theorem dL_law_538 : decode code 538 = .ok (.invokevirtual 109, 3) := by decide +kernel
theorem dL_law_541 : decode code 541 = .ok (.istore 6, 2) := by decide +kernel
theorem dL_law_543 : decode code 543 = .ok (.aload_n 2, 1) := by decide +kernel
theorem dL_law_544 : decode code 544 = .ok (.invokevirtual 79, 3) := by decide +kernel
theorem dL_law_547 : decode code 547 = .ok (.iload 5, 2) := by decide +kernel
theorem dL_law_549 : decode code 549 = .ok (.if_icmp .eq 5, 3) := by decide +kernel
theorem dL_law_554 : decode code 554 = .ok (.iload 5, 2) := by decide +kernel
theorem dL_law_556 : decode code 556 = .ok (.ifCond .ne 15, 3) := by decide +kernel
theorem dL_law_559 : decode code 559 = .ok (.aload_n 3, 1) := by decide +kernel
theorem dL_law_560 : decode code 560 = .ok (.iconst 0, 1) := by decide +kernel
theorem dL_law_561 : decode code 561 = .ok (.laload, 1) := by decide +kernel
theorem dL_law_562 : decode code 562 = .ok (.iload 6, 2) := by decide +kernel
theorem dL_law_564 : decode code 564 = .ok (.i2l, 1) := by decide +kernel
theorem dL_law_565 : decode code 565 = .ok (.lcmp, 1) := by decide +kernel
theorem dL_law_566 : decode code 566 = .ok (.ifCond .eq 5, 3) := by decide +kernel
theorem dL_law_571 : decode code 571 = .ok (.goto 698, 3) := by decide +kernel
theorem dL_law_574 : decode code 574 = .ok (.aload_n 1, 1) := by decide +kernel
theorem dL_law_575 : decode code 575 = .ok (.aload_n 0, 1) := by decide +kernel
theorem dL_law_576 : decode code 576 = .ok (.iload 4, 2) := by decide +kernel
theorem dL_law_578 : decode code 578 = .ok (.iconst 1, 1) := by decide +kernel
theorem dL_law_579 : decode code 579 = .ok (.iadd, 1) := by decide +kernel
theorem dL_law_580 : decode code 580 = .ok (.iaload, 1) := by decide +kernel
theorem dL_law_581 : decode code 581 = .ok (.aload_n 0, 1) := by decide +kernel
theorem dL_law_582 : decode code 582 = .ok (.iload 4, 2) := by decide +kernel
theorem dL_law_584 : decode code 584 = .ok (.iconst 2, 1) := by decide +kernel
theorem dL_law_585 : decode code 585 = .ok (.iadd, 1) := by decide +kernel
theorem dL_law_586 : decode code 586 = .ok (.iaload, 1) := by decide +kernel
theorem dL_law_587 : decode code 587 = .ok (.aload_n 3, 1) := by decide +kernel
theorem dL_law_588 : decode code 588 = .ok (.invokestatic 110, 3) := by decide +kernel
theorem dL_law_591 : decode code 591 = .ok (.istore 5, 2) := by decide +kernel
theorem dL_law_593 : decode code 593 = .ok (.aload_n 2, 1) := by decide +kernel
theorem dL_law_594 : decode code 594 = .ok (.aload_n 0, 1) := by decide +kernel
theorem dL_law_595 : decode code 595 = .ok (.iload 4, 2) := by decide +kernel
theorem dL_law_597 : decode code 597 = .ok (.iconst 1, 1) := by decide +kernel
theorem dL_law_598 : decode code 598 = .ok (.iadd, 1) := by decide +kernel
theorem dL_law_599 : decode code 599 = .ok (.iaload, 1) := by decide +kernel
theorem dL_law_600 : decode code 600 = .ok (.aload_n 0, 1) := by decide +kernel
theorem dL_law_601 : decode code 601 = .ok (.iload 4, 2) := by decide +kernel
theorem dL_law_603 : decode code 603 = .ok (.iconst 2, 1) := by decide +kernel
theorem dL_law_604 : decode code 604 = .ok (.iadd, 1) := by decide +kernel
theorem dL_law_605 : decode code 605 = .ok (.iaload, 1) := by decide +kernel
theorem dL_law_606 : decode code 606 = .ok (.invokevirtual 112, 3) := by decide +kernel
theorem dL_law_609 : decode code 609 = .ok (.istore 6, 2) := by decide +kernel
theorem dL_law_611 : decode code 611 = .ok (.aload_n 2, 1) := by decide +kernel
theorem dL_law_612 : decode code 612 = .ok (.invokevirtual 79, 3) := by decide +kernel
theorem dL_law_615 : decode code 615 = .ok (.iload 5, 2) := by decide +kernel
theorem dL_law_617 : decode code 617 = .ok (.if_icmp .eq 5, 3) := by decide +kernel
theorem dL_law_622 : decode code 622 = .ok (.iload 5, 2) := by decide +kernel
theorem dL_law_624 : decode code 624 = .ok (.ifCond .ne 15, 3) := by decide +kernel
theorem dL_law_627 : decode code 627 = .ok (.aload_n 3, 1) := by decide +kernel
theorem dL_law_628 : decode code 628 = .ok (.iconst 0, 1) := by decide +kernel
theorem dL_law_629 : decode code 629 = .ok (.laload, 1) := by decide +kernel
theorem dL_law_630 : decode code 630 = .ok (.iload 6, 2) := by decide +kernel
theorem dL_law_632 : decode code 632 = .ok (.i2l, 1) := by decide +kernel
theorem dL_law_633 : decode code 633 = .ok (.lcmp, 1) := by decide +kernel
theorem dL_law_634 : decode code 634 = .ok (.ifCond .eq 5, 3) := by decide +kernel
theorem dL_law_639 : decode code 639 = .ok (.goto 630, 3) := by decide +kernel
theorem dL_law_642 : decode code 642 = .ok (.aload_n 1, 1) := by decide +kernel
theorem dL_law_643 : decode code 643 = .ok (.aload_n 3, 1) := by decide +kernel
theorem dL_law_644 : decode code 644 = .ok (.invokestatic 113, 3) := by decide +kernel
theorem dL_law_647 : decode code 647 = .ok (.istore 5, 2) := by decide +kernel
theorem dL_law_649 : decode code 649 = .ok (.aload_n 2, 1) := by decide +kernel
theorem dL_law_650 : decode code 650 = .ok (.invokevirtual 115, 3) := by decide +kernel
theorem dL_law_653 : decode code 653 = .ok (.istore 6, 2) := by decide +kernel
theorem dL_law_655 : decode code 655 = .ok (.aload_n 2, 1) := by decide +kernel
theorem dL_law_656 : decode code 656 = .ok (.invokevirtual 79, 3) := by decide +kernel
theorem dL_law_659 : decode code 659 = .ok (.iload 5, 2) := by decide +kernel
theorem dL_law_661 : decode code 661 = .ok (.if_icmp .eq 5, 3) := by decide +kernel
theorem dL_law_666 : decode code 666 = .ok (.iload 5, 2) := by decide +kernel
theorem dL_law_668 : decode code 668 = .ok (.ifCond .ne 15, 3) := by decide +kernel
theorem dL_law_671 : decode code 671 = .ok (.aload_n 3, 1) := by decide +kernel
theorem dL_law_672 : decode code 672 = .ok (.iconst 0, 1) := by decide +kernel
theorem dL_law_673 : decode code 673 = .ok (.laload, 1) := by decide +kernel
theorem dL_law_674 : decode code 674 = .ok (.iload 6, 2) := by decide +kernel
theorem dL_law_676 : decode code 676 = .ok (.i2l, 1) := by decide +kernel
theorem dL_law_677 : decode code 677 = .ok (.lcmp, 1) := by decide +kernel
theorem dL_law_678 : decode code 678 = .ok (.ifCond .eq 5, 3) := by decide +kernel
theorem dL_law_683 : decode code 683 = .ok (.goto 586, 3) := by decide +kernel
theorem dL_law_699 : decode code 699 = .ok (.aload_n 1, 1) := by decide +kernel
theorem dL_law_700 : decode code 700 = .ok (.aload_n 3, 1) := by decide +kernel
theorem dL_law_701 : decode code 701 = .ok (.invokestatic 120, 3) := by decide +kernel
theorem dL_law_704 : decode code 704 = .ok (.istore 5, 2) := by decide +kernel
theorem dL_law_706 : decode code 706 = .ok (.aload_n 2, 1) := by decide +kernel
theorem dL_law_707 : decode code 707 = .ok (.invokevirtual 122, 3) := by decide +kernel
theorem dL_law_710 : decode code 710 = .ok (.istore 6, 2) := by decide +kernel
theorem dL_law_712 : decode code 712 = .ok (.aload_n 2, 1) := by decide +kernel
theorem dL_law_713 : decode code 713 = .ok (.invokevirtual 79, 3) := by decide +kernel
theorem dL_law_716 : decode code 716 = .ok (.iload 5, 2) := by decide +kernel
theorem dL_law_718 : decode code 718 = .ok (.if_icmp .eq 5, 3) := by decide +kernel
theorem dL_law_723 : decode code 723 = .ok (.iload 5, 2) := by decide +kernel
theorem dL_law_725 : decode code 725 = .ok (.ifCond .ne 15, 3) := by decide +kernel
theorem dL_law_728 : decode code 728 = .ok (.aload_n 3, 1) := by decide +kernel
theorem dL_law_729 : decode code 729 = .ok (.iconst 0, 1) := by decide +kernel
theorem dL_law_730 : decode code 730 = .ok (.laload, 1) := by decide +kernel
theorem dL_law_731 : decode code 731 = .ok (.iload 6, 2) := by decide +kernel
theorem dL_law_733 : decode code 733 = .ok (.i2l, 1) := by decide +kernel
theorem dL_law_734 : decode code 734 = .ok (.lcmp, 1) := by decide +kernel
theorem dL_law_735 : decode code 735 = .ok (.ifCond .eq 5, 3) := by decide +kernel
theorem dL_law_740 : decode code 740 = .ok (.goto 529, 3) := by decide +kernel
theorem dL_law_743 : decode code 743 = .ok (.aload_n 1, 1) := by decide +kernel
theorem dL_law_744 : decode code 744 = .ok (.aload_n 0, 1) := by decide +kernel
theorem dL_law_745 : decode code 745 = .ok (.iload 4, 2) := by decide +kernel
theorem dL_law_747 : decode code 747 = .ok (.iconst 1, 1) := by decide +kernel
theorem dL_law_748 : decode code 748 = .ok (.iadd, 1) := by decide +kernel
theorem dL_law_749 : decode code 749 = .ok (.iaload, 1) := by decide +kernel
theorem dL_law_750 : decode code 750 = .ok (.aload_n 0, 1) := by decide +kernel
theorem dL_law_751 : decode code 751 = .ok (.iload 4, 2) := by decide +kernel
theorem dL_law_753 : decode code 753 = .ok (.iconst 2, 1) := by decide +kernel
theorem dL_law_754 : decode code 754 = .ok (.iadd, 1) := by decide +kernel
theorem dL_law_755 : decode code 755 = .ok (.iaload, 1) := by decide +kernel
theorem dL_law_756 : decode code 756 = .ok (.aload_n 3, 1) := by decide +kernel
theorem dL_law_757 : decode code 757 = .ok (.invokestatic 123, 3) := by decide +kernel
theorem dL_law_760 : decode code 760 = .ok (.istore 5, 2) := by decide +kernel
theorem dL_law_762 : decode code 762 = .ok (.aload_n 2, 1) := by decide +kernel
theorem dL_law_763 : decode code 763 = .ok (.aload_n 0, 1) := by decide +kernel
theorem dL_law_764 : decode code 764 = .ok (.iload 4, 2) := by decide +kernel
theorem dL_law_766 : decode code 766 = .ok (.iconst 1, 1) := by decide +kernel
theorem dL_law_767 : decode code 767 = .ok (.iadd, 1) := by decide +kernel
theorem dL_law_768 : decode code 768 = .ok (.iaload, 1) := by decide +kernel
theorem dL_law_769 : decode code 769 = .ok (.aload_n 0, 1) := by decide +kernel
theorem dL_law_770 : decode code 770 = .ok (.iload 4, 2) := by decide +kernel
theorem dL_law_772 : decode code 772 = .ok (.iconst 2, 1) := by decide +kernel
theorem dL_law_773 : decode code 773 = .ok (.iadd, 1) := by decide +kernel
theorem dL_law_774 : decode code 774 = .ok (.iaload, 1) := by decide +kernel
theorem dL_law_775 : decode code 775 = .ok (.invokevirtual 125, 3) := by decide +kernel
theorem dL_law_778 : decode code 778 = .ok (.istore 6, 2) := by decide +kernel
theorem dL_law_780 : decode code 780 = .ok (.aload_n 2, 1) := by decide +kernel
theorem dL_law_781 : decode code 781 = .ok (.invokevirtual 79, 3) := by decide +kernel
theorem dL_law_784 : decode code 784 = .ok (.iload 5, 2) := by decide +kernel
theorem dL_law_786 : decode code 786 = .ok (.if_icmp .eq 5, 3) := by decide +kernel
theorem dL_law_791 : decode code 791 = .ok (.iload 5, 2) := by decide +kernel
theorem dL_law_793 : decode code 793 = .ok (.ifCond .ne 15, 3) := by decide +kernel
theorem dL_law_796 : decode code 796 = .ok (.aload_n 3, 1) := by decide +kernel
theorem dL_law_797 : decode code 797 = .ok (.iconst 0, 1) := by decide +kernel
theorem dL_law_798 : decode code 798 = .ok (.laload, 1) := by decide +kernel
theorem dL_law_799 : decode code 799 = .ok (.iload 6, 2) := by decide +kernel
theorem dL_law_801 : decode code 801 = .ok (.i2l, 1) := by decide +kernel
theorem dL_law_802 : decode code 802 = .ok (.lcmp, 1) := by decide +kernel
theorem dL_law_803 : decode code 803 = .ok (.ifCond .eq 5, 3) := by decide +kernel
theorem dL_law_808 : decode code 808 = .ok (.goto 461, 3) := by decide +kernel
theorem cw_print : Cond.codeWith yL_print cL_print 3 (some .int) [(0, 8, 11, 13)] ∈ bigW := bw4 66 rfl rfl
set_option maxHeartbeats 1000000 in
set_option maxRecDepth 100000 in
theorem lw_c8 {p : Program} {l : Launch} {e : Env} {s : State} {m : MethodId} {below : List Frame} {meth : Method} {c : Code} {G : GT} {b L : Nat} {xs : Nat → Int32} (hC : CX p s m meth c (lawName meth) code 9 ret #[Value.ref b]) (hT : l.stackTraces = false) (hK0 : KN G s s.heap) (hgl : gL G = s.heap.size) (hX : va_X b L xs s s.heap) (hbl : b < s.heap.size) {n : Nat} {i4 : Int32} (hn : n < 512) (h1 : vp_in (i4 + 1) L) (h2 : vp_in (i4 + 2) L) (kk : LAt p l e s m below meth c G b 1269 (n + 1) i4) : LAt p l e s m below meth c G b 530 n i4 := by
  intro a b0 q w x v hs y H locs cells slots ls hR hW hS hc hs9 hl
  have hbA : ¬ (fun z : Nat => s.heap.size ≤ z) b := Nat.not_le.mpr hbl
  have hAL : ∀ z, s.heap.size ≤ z → gL G ≤ z := fun z h => by rw [hgl]; exact h
  have hKN := hK0.go hAL hS
  have hpx := RelH_x hR
  have hpv := RelH_v hR
  obtain ⟨x1, ex1⟩ : ∃ z, z = xs (i4 + 1).toNatClampNeg := ⟨_, rfl⟩
  obtain ⟨x2, ex2⟩ : ∃ z, z = xs (i4 + 2).toNatClampNeg := ⟨_, rfl⟩
  refine lv_aload_n hC.1 hC.2.1 dL_law_530 rfl (lv_at hl 3 rfl) ?_
  refine lv_aload_n hC.1 hC.2.1 dL_law_531 rfl (lv_at hl 1 rfl) ?_
  refine runEX (rSX (n := 2) (B := fun _ H => PW G (wlE G w y :: hdW G a b0 x) H) (As := [.ref (a 0), .ref w]) (rest := []) hC cw_print wd_0 wd_785 wd_784 (by decide +kernel) (c_L_print l hT G a b0 x w y hW.1 (by first | exact hpx.1 | exact hpx.2 | exact hpx) hW.2.2.1 hW.2.2.2.1) ⟨rfl, rfl⟩ ⟨Nat.le_of_ble_eq_true rfl, Nat.le_of_ble_eq_true rfl⟩ (stb_h (fun H => PW G (wlE G w y :: hdW G a b0 x) H)) hKN hW.P1 rfl hl.1 rfl (Nat.le_of_ble_eq_true rfl) dL_law_532 ⟨(show _ ≤ 601024 by omega), (show _ ≤ 7293034 by omega)⟩) hS hW.A1 hW.A1 (fun H1 locs1 hB hz hk hS => ?_)
  obtain ⟨b', hR1, hP1⟩ := hB
  have hW := hW.left hR1 hP1 hk
  have hKN := hK0.go hAL hS
  have hop := op_print hR hn
  obtain ⟨F, eF⟩ : ∃ F, F = (fX5_print x) := ⟨_, rfl⟩
  rw [← eF] at hop hW ⊢
  obtain ⟨r5, e5⟩ : ∃ z, z = codeL (fun _ => 1) F := ⟨_, rfl⟩
  show W p l e room_1 s m #[Value.ref b] below meth c H1 locs1 (cells + 1) (slots + 6) (lw_Z below #[Value.ref b] s) (F0 m 535 ls [.int (codeL (fun _ => 1) F)])
  rw [← e5]
  refine lv_istore (x := r5) (lv' := [(5, .int r5), (4, .int i4), (3, .ref w), (2, .ref (q 0)), (1, .ref (a 0)), (0, .ref b)]) hC.1 hC.2.1 dL_law_535 hl (by decide) rfl (fun ls hl => ?_)
  refine lv_aload_n hC.1 hC.2.1 dL_law_537 rfl (lv_at hl 3 rfl) ?_
  refine runE (rV (B := fun U H => PW G (mdW G q v hs) H) (As := []) (rest := []) hC mwX6_print (c_X6_print l G q v hs hW.2.1 (by first | exact hpv.1 | exact hpv.1.1 | exact hpv.1.2 | exact hpv.2.1 | exact hpv.2.2 | exact hpv.2.2.2.1 | exact ⟨hpv.1.1, hpv.1.2, hpv.2.1⟩)) iwX6_print wd_1118 ⟨rfl, rfl⟩ ⟨Nat.le_of_ble_eq_true rfl, Nat.le_of_ble_eq_true rfl⟩ (stb_h (fun H => PW G (mdW G q v hs) H)) hKN hW.P2 (va_recv hKN.k hW.P2 (ci := 6) (q0 := 0) rfl rfl) rfl hl.1 rfl (Nat.le_of_ble_eq_true rfl) dL_law_538 ⟨(show _ ≤ 601024 by omega), (show _ ≤ 7293034 by omega)⟩) hS hW.A2 hW.A2 (fun H2 locs2 hB hz hk hS => ?_)
  have hW := hW.right hB hk
  have hKN := hK0.go hAL hS
  obtain ⟨u, eu⟩ : ∃ u, u = (fX6_print v) := ⟨_, rfl⟩
  rw [← eu] at hop hW ⊢
  obtain ⟨o1, o2, o3⟩ := hop
  refine lv_istore (x := u.2) (lv' := [(6, .int u.2), (5, .int r5), (4, .int i4), (3, .ref w), (2, .ref (q 0)), (1, .ref (a 0)), (0, .ref b)]) hC.1 hC.2.1 dL_law_541 hl (by decide) rfl (fun ls hl => ?_)
  refine lv_aload_n hC.1 hC.2.1 dL_law_543 rfl (lv_at hl 4 rfl) ?_
  refine runP (rV (B := fun U H => PW G (mdW G q u.1 hs) H) (As := []) (rest := []) hC mwX6_thrown (c_X6_thrown l G q u.1 hs) iwX6_thrown wd_942 ⟨rfl, rfl⟩ ⟨Nat.le_of_ble_eq_true rfl, Nat.le_of_ble_eq_true rfl⟩ (stb_h (fun H => PW G (mdW G q u.1 hs) H)) hKN hW.P2 (va_recv hKN.k hW.P2 (ci := 6) (q0 := 0) rfl rfl) rfl hl.1 rfl (Nat.le_of_ble_eq_true rfl) dL_law_544 ⟨(show _ ≤ 601024 by omega), (show _ ≤ 7293034 by omega)⟩) ?_
  refine lv_iload hC.1 hC.2.1 dL_law_547 (lv_at hl 1 rfl) ?_
  refine lv_icmp_eq (tgt := 554) hC.1 hC.2.1 dL_law_549 (by decide) (fun _ => ?_) (fun h => absurd (o2.trans e5.symm) h)
  refine lv_iload hC.1 hC.2.1 dL_law_554 (lv_at hl 1 rfl) ?_
  have fin : W p l e room_1 s m #[Value.ref b] below meth c H2 locs2 (cells + 1 + 0) (slots + 6 + 0) (lw_Z below #[Value.ref b] s) (F0 m 571 ls []) := by
    refine lv_goto (tgt := 1269) hC.1 hC.2.1 dL_law_571 (by decide) ?_
    exact kk a b' q w (wldL F) u.1 hs (ansL F y) _ _ _ _ ls o1 hW hS (by omega) (by omega) (lv_sub hl [2, 3, 4, 5, 6] rfl)
  refine lv_if_ne (tgt := 571) hC.1 hC.2.1 dL_law_556 (by decide) (fun _ => fin) (fun h5 => ?_)
  refine lv_aload_n hC.1 hC.2.1 dL_law_559 rfl (lv_at hl 3 rfl) ?_
  refine lv_iconst (v := 0) hC.1 hC.2.1 dL_law_560 (by decide) ?_
  refine va_lald hC.1 hC.2.1 hKN.k hW.P1 0 1 rfl rfl (show vp_in (nI 0) 1 from vp_in_nI (by decide) (by decide)) dL_law_561 ?_
  refine lv_iload hC.1 hC.2.1 dL_law_562 (lv_at hl 0 rfl) ?_
  refine lv_i2l (v := u.2.toInt64) hC.1 hC.2.1 dL_law_564 rfl ?_
  refine lv_lcmpE hC.1 hC.2.1 dL_law_565 (o3 (e5.symm.trans h5) y) ?_
  exact lv_if_eq (tgt := 571) hC.1 hC.2.1 dL_law_566 (by decide) (fun _ => fin) (fun h => absurd rfl h)
theorem cw_told : Cond.codeWith yL_told cL_told 5 (some .int) [(0, 10, 13, 13)] ∈ bigW := bw4 82 rfl rfl
set_option maxHeartbeats 1000000 in
set_option maxRecDepth 100000 in
theorem lw_c9 {p : Program} {l : Launch} {e : Env} {s : State} {m : MethodId} {below : List Frame} {meth : Method} {c : Code} {G : GT} {b L : Nat} {xs : Nat → Int32} (hC : CX p s m meth c (lawName meth) code 9 ret #[Value.ref b]) (hT : l.stackTraces = false) (hK0 : KN G s s.heap) (hgl : gL G = s.heap.size) (hX : va_X b L xs s s.heap) (hbl : b < s.heap.size) {n : Nat} {i4 : Int32} (hn : n < 512) (h1 : vp_in (i4 + 1) L) (h2 : vp_in (i4 + 2) L) (kk : LAt p l e s m below meth c G b 1269 (n + 1) i4) : LAt p l e s m below meth c G b 574 n i4 := by
  intro a b0 q w x v hs y H locs cells slots ls hR hW hS hc hs9 hl
  have hbA : ¬ (fun z : Nat => s.heap.size ≤ z) b := Nat.not_le.mpr hbl
  have hAL : ∀ z, s.heap.size ≤ z → gL G ≤ z := fun z h => by rw [hgl]; exact h
  have hKN := hK0.go hAL hS
  have hpx := RelH_x hR
  have hpv := RelH_v hR
  obtain ⟨x1, ex1⟩ : ∃ z, z = xs (i4 + 1).toNatClampNeg := ⟨_, rfl⟩
  obtain ⟨x2, ex2⟩ : ∃ z, z = xs (i4 + 2).toNatClampNeg := ⟨_, rfl⟩
  refine lv_aload_n hC.1 hC.2.1 dL_law_574 rfl (lv_at hl 3 rfl) ?_
  refine lv_aload_n hC.1 hC.2.1 dL_law_575 rfl (lv_at hl 4 rfl) ?_
  refine lv_iload hC.1 hC.2.1 dL_law_576 (lv_at hl 0 rfl) ?_
  refine lv_iconst (v := 1) hC.1 hC.2.1 dL_law_578 (by decide) ?_
  refine lv_iadd hC.1 hC.2.1 dL_law_579 ?_
  refine va_sld hC.1 hC.2.1 hX hbl hbA hS h1 dL_law_580 ?_
  rw [← ex1]
  refine lv_aload_n hC.1 hC.2.1 dL_law_581 rfl (lv_at hl 4 rfl) ?_
  refine lv_iload hC.1 hC.2.1 dL_law_582 (lv_at hl 0 rfl) ?_
  refine lv_iconst (v := 2) hC.1 hC.2.1 dL_law_584 (by decide) ?_
  refine lv_iadd hC.1 hC.2.1 dL_law_585 ?_
  refine va_sld hC.1 hC.2.1 hX hbl hbA hS h2 dL_law_586 ?_
  rw [← ex2]
  refine lv_aload_n hC.1 hC.2.1 dL_law_587 rfl (lv_at hl 1 rfl) ?_
  refine runEX (rSX (n := 4) (B := fun _ H => PW G (wlE G w y :: hdW G a b0 x) H) (As := [.ref (a 0), .int x1, .int x2, .ref w]) (rest := []) hC cw_told wd_0 wd_801 wd_800 (by decide +kernel) (c_L_told l hT G a b0 x w y x1 x2 hW.1 hW.2.2.1 hW.2.2.2.1) ⟨rfl, rfl⟩ ⟨Nat.le_of_ble_eq_true rfl, Nat.le_of_ble_eq_true rfl⟩ (stb_h (fun H => PW G (wlE G w y :: hdW G a b0 x) H)) hKN hW.P1 rfl hl.1 rfl (Nat.le_of_ble_eq_true rfl) dL_law_588 ⟨(show _ ≤ 601024 by omega), (show _ ≤ 7293034 by omega)⟩) hS hW.A1 hW.A1 (fun H1 locs1 hB hz hk hS => ?_)
  obtain ⟨b', hR1, hP1⟩ := hB
  have hW := hW.left hR1 hP1 hk
  have hKN := hK0.go hAL hS
  have hop := op_told hR x1 x2
  obtain ⟨F, eF⟩ : ∃ F, F = (fX5_told x x1 x2) := ⟨_, rfl⟩
  rw [← eF] at hop hW ⊢
  obtain ⟨r5, e5⟩ : ∃ z, z = codeL (fun _ => 1) F := ⟨_, rfl⟩
  show W p l e room_1 s m #[Value.ref b] below meth c H1 locs1 (cells + 1) (slots + 6) (lw_Z below #[Value.ref b] s) (F0 m 591 ls [.int (codeL (fun _ => 1) F)])
  rw [← e5]
  refine lv_istore (x := r5) (lv' := [(5, .int r5), (4, .int i4), (3, .ref w), (2, .ref (q 0)), (1, .ref (a 0)), (0, .ref b)]) hC.1 hC.2.1 dL_law_591 hl (by decide) rfl (fun ls hl => ?_)
  refine lv_aload_n hC.1 hC.2.1 dL_law_593 rfl (lv_at hl 3 rfl) ?_
  refine lv_aload_n hC.1 hC.2.1 dL_law_594 rfl (lv_at hl 5 rfl) ?_
  refine lv_iload hC.1 hC.2.1 dL_law_595 (lv_at hl 1 rfl) ?_
  refine lv_iconst (v := 1) hC.1 hC.2.1 dL_law_597 (by decide) ?_
  refine lv_iadd hC.1 hC.2.1 dL_law_598 ?_
  refine va_sld hC.1 hC.2.1 hX hbl hbA hS h1 dL_law_599 ?_
  rw [← ex1]
  refine lv_aload_n hC.1 hC.2.1 dL_law_600 rfl (lv_at hl 5 rfl) ?_
  refine lv_iload hC.1 hC.2.1 dL_law_601 (lv_at hl 1 rfl) ?_
  refine lv_iconst (v := 2) hC.1 hC.2.1 dL_law_603 (by decide) ?_
  refine lv_iadd hC.1 hC.2.1 dL_law_604 ?_
  refine va_sld hC.1 hC.2.1 hX hbl hbA hS h2 dL_law_605 ?_
  rw [← ex2]
  refine runE (rV (B := fun U H => PW G (mdW G q v hs) H) (As := [.int x1, .int x2]) (rest := []) hC mwX6_told (c_X6_told l G q v hs x1 x2 hW.2.1) iwX6_told wd_1122 ⟨rfl, rfl⟩ ⟨Nat.le_of_ble_eq_true rfl, Nat.le_of_ble_eq_true rfl⟩ (stb_h (fun H => PW G (mdW G q v hs) H)) hKN hW.P2 (va_recv hKN.k hW.P2 (ci := 6) (q0 := 0) rfl rfl) rfl hl.1 rfl (Nat.le_of_ble_eq_true rfl) dL_law_606 ⟨(show _ ≤ 601024 by omega), (show _ ≤ 7293034 by omega)⟩) hS hW.A2 hW.A2 (fun H2 locs2 hB hz hk hS => ?_)
  have hW := hW.right hB hk
  have hKN := hK0.go hAL hS
  obtain ⟨u, eu⟩ : ∃ u, u = (fX6_told v x1 x2) := ⟨_, rfl⟩
  rw [← eu] at hop hW ⊢
  obtain ⟨o1, o2, o3⟩ := hop
  refine lv_istore (x := u.2) (lv' := [(6, .int u.2), (5, .int r5), (4, .int i4), (3, .ref w), (2, .ref (q 0)), (1, .ref (a 0)), (0, .ref b)]) hC.1 hC.2.1 dL_law_609 hl (by decide) rfl (fun ls hl => ?_)
  refine lv_aload_n hC.1 hC.2.1 dL_law_611 rfl (lv_at hl 4 rfl) ?_
  refine runP (rV (B := fun U H => PW G (mdW G q u.1 hs) H) (As := []) (rest := []) hC mwX6_thrown (c_X6_thrown l G q u.1 hs) iwX6_thrown wd_942 ⟨rfl, rfl⟩ ⟨Nat.le_of_ble_eq_true rfl, Nat.le_of_ble_eq_true rfl⟩ (stb_h (fun H => PW G (mdW G q u.1 hs) H)) hKN hW.P2 (va_recv hKN.k hW.P2 (ci := 6) (q0 := 0) rfl rfl) rfl hl.1 rfl (Nat.le_of_ble_eq_true rfl) dL_law_612 ⟨(show _ ≤ 601024 by omega), (show _ ≤ 7293034 by omega)⟩) ?_
  refine lv_iload hC.1 hC.2.1 dL_law_615 (lv_at hl 1 rfl) ?_
  refine lv_icmp_eq (tgt := 622) hC.1 hC.2.1 dL_law_617 (by decide) (fun _ => ?_) (fun h => absurd (o2.trans e5.symm) h)
  refine lv_iload hC.1 hC.2.1 dL_law_622 (lv_at hl 1 rfl) ?_
  have fin : W p l e room_1 s m #[Value.ref b] below meth c H2 locs2 (cells + 1 + 0) (slots + 6 + 0) (lw_Z below #[Value.ref b] s) (F0 m 639 ls []) := by
    refine lv_goto (tgt := 1269) hC.1 hC.2.1 dL_law_639 (by decide) ?_
    exact kk a b' q w (wldL F) u.1 hs (ansL F y) _ _ _ _ ls o1 hW hS (by omega) (by omega) (lv_sub hl [2, 3, 4, 5, 6] rfl)
  refine lv_if_ne (tgt := 639) hC.1 hC.2.1 dL_law_624 (by decide) (fun _ => fin) (fun h5 => ?_)
  refine lv_aload_n hC.1 hC.2.1 dL_law_627 rfl (lv_at hl 3 rfl) ?_
  refine lv_iconst (v := 0) hC.1 hC.2.1 dL_law_628 (by decide) ?_
  refine va_lald hC.1 hC.2.1 hKN.k hW.P1 0 1 rfl rfl (show vp_in (nI 0) 1 from vp_in_nI (by decide) (by decide)) dL_law_629 ?_
  refine lv_iload hC.1 hC.2.1 dL_law_630 (lv_at hl 0 rfl) ?_
  refine lv_i2l (v := u.2.toInt64) hC.1 hC.2.1 dL_law_632 rfl ?_
  refine lv_lcmpE hC.1 hC.2.1 dL_law_633 (o3 (e5.symm.trans h5) y) ?_
  exact lv_if_eq (tgt := 639) hC.1 hC.2.1 dL_law_634 (by decide) (fun _ => fin) (fun h => absurd rfl h)
theorem cw_undo : Cond.codeWith yL_undo cL_undo 3 (some .int) [(0, 8, 11, 33)] ∈ bigW := bw4 90 rfl rfl
set_option maxHeartbeats 1000000 in
set_option maxRecDepth 100000 in
theorem lw_c10 {p : Program} {l : Launch} {e : Env} {s : State} {m : MethodId} {below : List Frame} {meth : Method} {c : Code} {G : GT} {b L : Nat} {xs : Nat → Int32} (hC : CX p s m meth c (lawName meth) code 9 ret #[Value.ref b]) (hT : l.stackTraces = false) (hK0 : KN G s s.heap) (hgl : gL G = s.heap.size) (hX : va_X b L xs s s.heap) (hbl : b < s.heap.size) {n : Nat} {i4 : Int32} (hn : n < 512) (h1 : vp_in (i4 + 1) L) (h2 : vp_in (i4 + 2) L) (kk : LAt p l e s m below meth c G b 1269 (n + 1) i4) : LAt p l e s m below meth c G b 642 n i4 := by
  intro a b0 q w x v hs y H locs cells slots ls hR hW hS hc hs9 hl
  have hbA : ¬ (fun z : Nat => s.heap.size ≤ z) b := Nat.not_le.mpr hbl
  have hAL : ∀ z, s.heap.size ≤ z → gL G ≤ z := fun z h => by rw [hgl]; exact h
  have hKN := hK0.go hAL hS
  have hpx := RelH_x hR
  have hpv := RelH_v hR
  obtain ⟨x1, ex1⟩ : ∃ z, z = xs (i4 + 1).toNatClampNeg := ⟨_, rfl⟩
  obtain ⟨x2, ex2⟩ : ∃ z, z = xs (i4 + 2).toNatClampNeg := ⟨_, rfl⟩
  refine lv_aload_n hC.1 hC.2.1 dL_law_642 rfl (lv_at hl 3 rfl) ?_
  refine lv_aload_n hC.1 hC.2.1 dL_law_643 rfl (lv_at hl 1 rfl) ?_
  refine runEX (rSX (n := 2) (B := fun _ H => PW G (wlE G w y :: hdW G a b0 x) H) (As := [.ref (a 0), .ref w]) (rest := []) hC cw_undo wd_0 wd_809 wd_808 (by decide +kernel) (c_L_undo l hT G a b0 x w y hW.1 (by first | exact hpx.1 | exact hpx.2 | exact hpx) hW.2.2.1 hW.2.2.2.1) ⟨rfl, rfl⟩ ⟨Nat.le_of_ble_eq_true rfl, Nat.le_of_ble_eq_true rfl⟩ (stb_h (fun H => PW G (wlE G w y :: hdW G a b0 x) H)) hKN hW.P1 rfl hl.1 rfl (Nat.le_of_ble_eq_true rfl) dL_law_644 ⟨(show _ ≤ 601024 by omega), (show _ ≤ 7293034 by omega)⟩) hS hW.A1 hW.A1 (fun H1 locs1 hB hz hk hS => ?_)
  obtain ⟨b', hR1, hP1⟩ := hB
  have hW := hW.left hR1 hP1 hk
  have hKN := hK0.go hAL hS
  have hop := op_undo hR
  obtain ⟨F, eF⟩ : ∃ F, F = (fX5_undo x) := ⟨_, rfl⟩
  rw [← eF] at hop hW ⊢
  obtain ⟨r5, e5⟩ : ∃ z, z = codeL (fun _ => 1) F := ⟨_, rfl⟩
  show W p l e room_1 s m #[Value.ref b] below meth c H1 locs1 (cells + 1) (slots + 6) (lw_Z below #[Value.ref b] s) (F0 m 647 ls [.int (codeL (fun _ => 1) F)])
  rw [← e5]
  refine lv_istore (x := r5) (lv' := [(5, .int r5), (4, .int i4), (3, .ref w), (2, .ref (q 0)), (1, .ref (a 0)), (0, .ref b)]) hC.1 hC.2.1 dL_law_647 hl (by decide) rfl (fun ls hl => ?_)
  refine lv_aload_n hC.1 hC.2.1 dL_law_649 rfl (lv_at hl 3 rfl) ?_
  refine runE (rV (B := fun U H => PW G (mdW G q v hs) H) (As := []) (rest := []) hC mwX6_undo (c_X6_undo l G q v hs hW.2.1 (by first | exact hpv.1 | exact hpv.1.1 | exact hpv.1.2 | exact hpv.2.1 | exact hpv.2.2 | exact hpv.2.2.2.1 | exact ⟨hpv.1.1, hpv.1.2, hpv.2.1⟩)) iwX6_undo wd_946 ⟨rfl, rfl⟩ ⟨Nat.le_of_ble_eq_true rfl, Nat.le_of_ble_eq_true rfl⟩ (stb_h (fun H => PW G (mdW G q v hs) H)) hKN hW.P2 (va_recv hKN.k hW.P2 (ci := 6) (q0 := 0) rfl rfl) rfl hl.1 rfl (Nat.le_of_ble_eq_true rfl) dL_law_650 ⟨(show _ ≤ 601024 by omega), (show _ ≤ 7293034 by omega)⟩) hS hW.A2 hW.A2 (fun H2 locs2 hB hz hk hS => ?_)
  have hW := hW.right hB hk
  have hKN := hK0.go hAL hS
  obtain ⟨u, eu⟩ : ∃ u, u = (fX6_undo v) := ⟨_, rfl⟩
  rw [← eu] at hop hW ⊢
  obtain ⟨o1, o2, o3⟩ := hop
  refine lv_istore (x := u.2) (lv' := [(6, .int u.2), (5, .int r5), (4, .int i4), (3, .ref w), (2, .ref (q 0)), (1, .ref (a 0)), (0, .ref b)]) hC.1 hC.2.1 dL_law_653 hl (by decide) rfl (fun ls hl => ?_)
  refine lv_aload_n hC.1 hC.2.1 dL_law_655 rfl (lv_at hl 4 rfl) ?_
  refine runP (rV (B := fun U H => PW G (mdW G q u.1 hs) H) (As := []) (rest := []) hC mwX6_thrown (c_X6_thrown l G q u.1 hs) iwX6_thrown wd_942 ⟨rfl, rfl⟩ ⟨Nat.le_of_ble_eq_true rfl, Nat.le_of_ble_eq_true rfl⟩ (stb_h (fun H => PW G (mdW G q u.1 hs) H)) hKN hW.P2 (va_recv hKN.k hW.P2 (ci := 6) (q0 := 0) rfl rfl) rfl hl.1 rfl (Nat.le_of_ble_eq_true rfl) dL_law_656 ⟨(show _ ≤ 601024 by omega), (show _ ≤ 7293034 by omega)⟩) ?_
  refine lv_iload hC.1 hC.2.1 dL_law_659 (lv_at hl 1 rfl) ?_
  refine lv_icmp_eq (tgt := 666) hC.1 hC.2.1 dL_law_661 (by decide) (fun _ => ?_) (fun h => absurd (o2.trans e5.symm) h)
  refine lv_iload hC.1 hC.2.1 dL_law_666 (lv_at hl 1 rfl) ?_
  have fin : W p l e room_1 s m #[Value.ref b] below meth c H2 locs2 (cells + 1 + 0) (slots + 6 + 0) (lw_Z below #[Value.ref b] s) (F0 m 683 ls []) := by
    refine lv_goto (tgt := 1269) hC.1 hC.2.1 dL_law_683 (by decide) ?_
    exact kk a b' q w (wldL F) u.1 hs (ansL F y) _ _ _ _ ls o1 hW hS (by omega) (by omega) (lv_sub hl [2, 3, 4, 5, 6] rfl)
  refine lv_if_ne (tgt := 683) hC.1 hC.2.1 dL_law_668 (by decide) (fun _ => fin) (fun h5 => ?_)
  refine lv_aload_n hC.1 hC.2.1 dL_law_671 rfl (lv_at hl 3 rfl) ?_
  refine lv_iconst (v := 0) hC.1 hC.2.1 dL_law_672 (by decide) ?_
  refine va_lald hC.1 hC.2.1 hKN.k hW.P1 0 1 rfl rfl (show vp_in (nI 0) 1 from vp_in_nI (by decide) (by decide)) dL_law_673 ?_
  refine lv_iload hC.1 hC.2.1 dL_law_674 (lv_at hl 0 rfl) ?_
  refine lv_i2l (v := u.2.toInt64) hC.1 hC.2.1 dL_law_676 rfl ?_
  refine lv_lcmpE hC.1 hC.2.1 dL_law_677 (o3 (e5.symm.trans h5) y) ?_
  exact lv_if_eq (tgt := 683) hC.1 hC.2.1 dL_law_678 (by decide) (fun _ => fin) (fun h => absurd rfl h)
theorem cw_restore : Cond.codeWith yL_restore cL_restore 3 (some .int) [(0, 8, 11, 33)] ∈ bigW := bw4 98 rfl rfl
set_option maxHeartbeats 1000000 in
set_option maxRecDepth 100000 in
theorem lw_c12 {p : Program} {l : Launch} {e : Env} {s : State} {m : MethodId} {below : List Frame} {meth : Method} {c : Code} {G : GT} {b L : Nat} {xs : Nat → Int32} (hC : CX p s m meth c (lawName meth) code 9 ret #[Value.ref b]) (hT : l.stackTraces = false) (hK0 : KN G s s.heap) (hgl : gL G = s.heap.size) (hX : va_X b L xs s s.heap) (hbl : b < s.heap.size) {n : Nat} {i4 : Int32} (hn : n < 512) (h1 : vp_in (i4 + 1) L) (h2 : vp_in (i4 + 2) L) (kk : LAt p l e s m below meth c G b 1269 (n + 1) i4) : LAt p l e s m below meth c G b 699 n i4 := by
  intro a b0 q w x v hs y H locs cells slots ls hR hW hS hc hs9 hl
  have hbA : ¬ (fun z : Nat => s.heap.size ≤ z) b := Nat.not_le.mpr hbl
  have hAL : ∀ z, s.heap.size ≤ z → gL G ≤ z := fun z h => by rw [hgl]; exact h
  have hKN := hK0.go hAL hS
  have hpx := RelH_x hR
  have hpv := RelH_v hR
  obtain ⟨x1, ex1⟩ : ∃ z, z = xs (i4 + 1).toNatClampNeg := ⟨_, rfl⟩
  obtain ⟨x2, ex2⟩ : ∃ z, z = xs (i4 + 2).toNatClampNeg := ⟨_, rfl⟩
  refine lv_aload_n hC.1 hC.2.1 dL_law_699 rfl (lv_at hl 3 rfl) ?_
  refine lv_aload_n hC.1 hC.2.1 dL_law_700 rfl (lv_at hl 1 rfl) ?_
  refine runEX (rSX (n := 2) (B := fun _ H => PW G (wlE G w y :: hdW G a b0 x) H) (As := [.ref (a 0), .ref w]) (rest := []) hC cw_restore wd_0 wd_817 wd_816 (by decide +kernel) (c_L_restore l hT G a b0 x w y hW.1 (by first | exact hpx.1 | exact hpx.2 | exact hpx) hW.2.2.1 hW.2.2.2.1) ⟨rfl, rfl⟩ ⟨Nat.le_of_ble_eq_true rfl, Nat.le_of_ble_eq_true rfl⟩ (stb_h (fun H => PW G (wlE G w y :: hdW G a b0 x) H)) hKN hW.P1 rfl hl.1 rfl (Nat.le_of_ble_eq_true rfl) dL_law_701 ⟨(show _ ≤ 601024 by omega), (show _ ≤ 7293034 by omega)⟩) hS hW.A1 hW.A1 (fun H1 locs1 hB hz hk hS => ?_)
  obtain ⟨b', hR1, hP1⟩ := hB
  have hW := hW.left hR1 hP1 hk
  have hKN := hK0.go hAL hS
  have hop := op_restore hR
  obtain ⟨F, eF⟩ : ∃ F, F = (fX5_restore x) := ⟨_, rfl⟩
  rw [← eF] at hop hW ⊢
  obtain ⟨r5, e5⟩ : ∃ z, z = codeL (fun _ => 1) F := ⟨_, rfl⟩
  show W p l e room_1 s m #[Value.ref b] below meth c H1 locs1 (cells + 1) (slots + 6) (lw_Z below #[Value.ref b] s) (F0 m 704 ls [.int (codeL (fun _ => 1) F)])
  rw [← e5]
  refine lv_istore (x := r5) (lv' := [(5, .int r5), (4, .int i4), (3, .ref w), (2, .ref (q 0)), (1, .ref (a 0)), (0, .ref b)]) hC.1 hC.2.1 dL_law_704 hl (by decide) rfl (fun ls hl => ?_)
  refine lv_aload_n hC.1 hC.2.1 dL_law_706 rfl (lv_at hl 3 rfl) ?_
  refine runE (rV (B := fun U H => PW G (mdW G q v hs) H) (As := []) (rest := []) hC mwX6_restore (c_X6_restore l G q v hs hW.2.1 (by first | exact hpv.1 | exact hpv.1.1 | exact hpv.1.2 | exact hpv.2.1 | exact hpv.2.2 | exact hpv.2.2.2.1 | exact ⟨hpv.1.1, hpv.1.2, hpv.2.1⟩)) iwX6_restore wd_958 ⟨rfl, rfl⟩ ⟨Nat.le_of_ble_eq_true rfl, Nat.le_of_ble_eq_true rfl⟩ (stb_h (fun H => PW G (mdW G q v hs) H)) hKN hW.P2 (va_recv hKN.k hW.P2 (ci := 6) (q0 := 0) rfl rfl) rfl hl.1 rfl (Nat.le_of_ble_eq_true rfl) dL_law_707 ⟨(show _ ≤ 601024 by omega), (show _ ≤ 7293034 by omega)⟩) hS hW.A2 hW.A2 (fun H2 locs2 hB hz hk hS => ?_)
  have hW := hW.right hB hk
  have hKN := hK0.go hAL hS
  obtain ⟨u, eu⟩ : ∃ u, u = (fX6_restore v) := ⟨_, rfl⟩
  rw [← eu] at hop hW ⊢
  obtain ⟨o1, o2, o3⟩ := hop
  refine lv_istore (x := u.2) (lv' := [(6, .int u.2), (5, .int r5), (4, .int i4), (3, .ref w), (2, .ref (q 0)), (1, .ref (a 0)), (0, .ref b)]) hC.1 hC.2.1 dL_law_710 hl (by decide) rfl (fun ls hl => ?_)
  refine lv_aload_n hC.1 hC.2.1 dL_law_712 rfl (lv_at hl 4 rfl) ?_
  refine runP (rV (B := fun U H => PW G (mdW G q u.1 hs) H) (As := []) (rest := []) hC mwX6_thrown (c_X6_thrown l G q u.1 hs) iwX6_thrown wd_942 ⟨rfl, rfl⟩ ⟨Nat.le_of_ble_eq_true rfl, Nat.le_of_ble_eq_true rfl⟩ (stb_h (fun H => PW G (mdW G q u.1 hs) H)) hKN hW.P2 (va_recv hKN.k hW.P2 (ci := 6) (q0 := 0) rfl rfl) rfl hl.1 rfl (Nat.le_of_ble_eq_true rfl) dL_law_713 ⟨(show _ ≤ 601024 by omega), (show _ ≤ 7293034 by omega)⟩) ?_
  refine lv_iload hC.1 hC.2.1 dL_law_716 (lv_at hl 1 rfl) ?_
  refine lv_icmp_eq (tgt := 723) hC.1 hC.2.1 dL_law_718 (by decide) (fun _ => ?_) (fun h => absurd (o2.trans e5.symm) h)
  refine lv_iload hC.1 hC.2.1 dL_law_723 (lv_at hl 1 rfl) ?_
  have fin : W p l e room_1 s m #[Value.ref b] below meth c H2 locs2 (cells + 1 + 0) (slots + 6 + 0) (lw_Z below #[Value.ref b] s) (F0 m 740 ls []) := by
    refine lv_goto (tgt := 1269) hC.1 hC.2.1 dL_law_740 (by decide) ?_
    exact kk a b' q w (wldL F) u.1 hs (ansL F y) _ _ _ _ ls o1 hW hS (by omega) (by omega) (lv_sub hl [2, 3, 4, 5, 6] rfl)
  refine lv_if_ne (tgt := 740) hC.1 hC.2.1 dL_law_725 (by decide) (fun _ => fin) (fun h5 => ?_)
  refine lv_aload_n hC.1 hC.2.1 dL_law_728 rfl (lv_at hl 3 rfl) ?_
  refine lv_iconst (v := 0) hC.1 hC.2.1 dL_law_729 (by decide) ?_
  refine va_lald hC.1 hC.2.1 hKN.k hW.P1 0 1 rfl rfl (show vp_in (nI 0) 1 from vp_in_nI (by decide) (by decide)) dL_law_730 ?_
  refine lv_iload hC.1 hC.2.1 dL_law_731 (lv_at hl 0 rfl) ?_
  refine lv_i2l (v := u.2.toInt64) hC.1 hC.2.1 dL_law_733 rfl ?_
  refine lv_lcmpE hC.1 hC.2.1 dL_law_734 (o3 (e5.symm.trans h5) y) ?_
  exact lv_if_eq (tgt := 740) hC.1 hC.2.1 dL_law_735 (by decide) (fun _ => fin) (fun h => absurd rfl h)
theorem cw_dot : Cond.codeWith yL_dot cL_dot 5 (some .int) [(0, 10, 13, 28), (0, 10, 17, 13)] ∈ bigW := bw4 106 rfl rfl
set_option maxHeartbeats 1000000 in
set_option maxRecDepth 100000 in
theorem lw_c13 {p : Program} {l : Launch} {e : Env} {s : State} {m : MethodId} {below : List Frame} {meth : Method} {c : Code} {G : GT} {b L : Nat} {xs : Nat → Int32} (hC : CX p s m meth c (lawName meth) code 9 ret #[Value.ref b]) (hT : l.stackTraces = false) (hK0 : KN G s s.heap) (hgl : gL G = s.heap.size) (hX : va_X b L xs s s.heap) (hbl : b < s.heap.size) {n : Nat} {i4 : Int32} (hn : n < 512) (h1 : vp_in (i4 + 1) L) (h2 : vp_in (i4 + 2) L) (kk : LAt p l e s m below meth c G b 1269 (n + 1) i4) : LAt p l e s m below meth c G b 743 n i4 := by
  intro a b0 q w x v hs y H locs cells slots ls hR hW hS hc hs9 hl
  have hbA : ¬ (fun z : Nat => s.heap.size ≤ z) b := Nat.not_le.mpr hbl
  have hAL : ∀ z, s.heap.size ≤ z → gL G ≤ z := fun z h => by rw [hgl]; exact h
  have hKN := hK0.go hAL hS
  have hpx := RelH_x hR
  have hpv := RelH_v hR
  obtain ⟨x1, ex1⟩ : ∃ z, z = xs (i4 + 1).toNatClampNeg := ⟨_, rfl⟩
  obtain ⟨x2, ex2⟩ : ∃ z, z = xs (i4 + 2).toNatClampNeg := ⟨_, rfl⟩
  refine lv_aload_n hC.1 hC.2.1 dL_law_743 rfl (lv_at hl 3 rfl) ?_
  refine lv_aload_n hC.1 hC.2.1 dL_law_744 rfl (lv_at hl 4 rfl) ?_
  refine lv_iload hC.1 hC.2.1 dL_law_745 (lv_at hl 0 rfl) ?_
  refine lv_iconst (v := 1) hC.1 hC.2.1 dL_law_747 (by decide) ?_
  refine lv_iadd hC.1 hC.2.1 dL_law_748 ?_
  refine va_sld hC.1 hC.2.1 hX hbl hbA hS h1 dL_law_749 ?_
  rw [← ex1]
  refine lv_aload_n hC.1 hC.2.1 dL_law_750 rfl (lv_at hl 4 rfl) ?_
  refine lv_iload hC.1 hC.2.1 dL_law_751 (lv_at hl 0 rfl) ?_
  refine lv_iconst (v := 2) hC.1 hC.2.1 dL_law_753 (by decide) ?_
  refine lv_iadd hC.1 hC.2.1 dL_law_754 ?_
  refine va_sld hC.1 hC.2.1 hX hbl hbA hS h2 dL_law_755 ?_
  rw [← ex2]
  refine lv_aload_n hC.1 hC.2.1 dL_law_756 rfl (lv_at hl 1 rfl) ?_
  refine runEX (rSX (n := 4) (B := fun _ H => PW G (wlE G w y :: hdW G a b0 x) H) (As := [.ref (a 0), .int x1, .int x2, .ref w]) (rest := []) hC cw_dot wd_0 wd_825 wd_824 (by decide +kernel) (c_L_dot l hT G a b0 x w y x1 x2 hW.1 hW.2.2.1 hW.2.2.2.1) ⟨rfl, rfl⟩ ⟨Nat.le_of_ble_eq_true rfl, Nat.le_of_ble_eq_true rfl⟩ (stb_h (fun H => PW G (wlE G w y :: hdW G a b0 x) H)) hKN hW.P1 rfl hl.1 rfl (Nat.le_of_ble_eq_true rfl) dL_law_757 ⟨(show _ ≤ 601024 by omega), (show _ ≤ 7293034 by omega)⟩) hS hW.A1 hW.A1 (fun H1 locs1 hB hz hk hS => ?_)
  obtain ⟨b', hR1, hP1⟩ := hB
  have hW := hW.left hR1 hP1 hk
  have hKN := hK0.go hAL hS
  have hop := op_dot hR x1 x2
  obtain ⟨F, eF⟩ : ∃ F, F = (fX5_dot x x1 x2) := ⟨_, rfl⟩
  rw [← eF] at hop hW ⊢
  obtain ⟨r5, e5⟩ : ∃ z, z = codeL (fun k => if k = 1 then 1 else 2) F := ⟨_, rfl⟩
  show W p l e room_1 s m #[Value.ref b] below meth c H1 locs1 (cells + 1) (slots + 6) (lw_Z below #[Value.ref b] s) (F0 m 760 ls [.int (codeL (fun k => if k = 1 then 1 else 2) F)])
  rw [← e5]
  refine lv_istore (x := r5) (lv' := [(5, .int r5), (4, .int i4), (3, .ref w), (2, .ref (q 0)), (1, .ref (a 0)), (0, .ref b)]) hC.1 hC.2.1 dL_law_760 hl (by decide) rfl (fun ls hl => ?_)
  refine lv_aload_n hC.1 hC.2.1 dL_law_762 rfl (lv_at hl 3 rfl) ?_
  refine lv_aload_n hC.1 hC.2.1 dL_law_763 rfl (lv_at hl 5 rfl) ?_
  refine lv_iload hC.1 hC.2.1 dL_law_764 (lv_at hl 1 rfl) ?_
  refine lv_iconst (v := 1) hC.1 hC.2.1 dL_law_766 (by decide) ?_
  refine lv_iadd hC.1 hC.2.1 dL_law_767 ?_
  refine va_sld hC.1 hC.2.1 hX hbl hbA hS h1 dL_law_768 ?_
  rw [← ex1]
  refine lv_aload_n hC.1 hC.2.1 dL_law_769 rfl (lv_at hl 5 rfl) ?_
  refine lv_iload hC.1 hC.2.1 dL_law_770 (lv_at hl 1 rfl) ?_
  refine lv_iconst (v := 2) hC.1 hC.2.1 dL_law_772 (by decide) ?_
  refine lv_iadd hC.1 hC.2.1 dL_law_773 ?_
  refine va_sld hC.1 hC.2.1 hX hbl hbA hS h2 dL_law_774 ?_
  rw [← ex2]
  refine runE (rV (B := fun U H => PW G (mdW G q v hs) H) (As := [.int x1, .int x2]) (rest := []) hC mwX6_dot (c_X6_dot l G q v hs x1 x2 hW.2.1 (by first | exact hpv.1 | exact hpv.1.1 | exact hpv.1.2 | exact hpv.2.1 | exact hpv.2.2 | exact hpv.2.2.2.1 | exact ⟨hpv.1.1, hpv.1.2, hpv.2.1⟩)) iwX6_dot wd_1130 ⟨rfl, rfl⟩ ⟨Nat.le_of_ble_eq_true rfl, Nat.le_of_ble_eq_true rfl⟩ (stb_h (fun H => PW G (mdW G q v hs) H)) hKN hW.P2 (va_recv hKN.k hW.P2 (ci := 6) (q0 := 0) rfl rfl) rfl hl.1 rfl (Nat.le_of_ble_eq_true rfl) dL_law_775 ⟨(show _ ≤ 601024 by omega), (show _ ≤ 7293034 by omega)⟩) hS hW.A2 hW.A2 (fun H2 locs2 hB hz hk hS => ?_)
  have hW := hW.right hB hk
  have hKN := hK0.go hAL hS
  obtain ⟨u, eu⟩ : ∃ u, u = (fX6_dot v x1 x2) := ⟨_, rfl⟩
  rw [← eu] at hop hW ⊢
  obtain ⟨o1, o2, o3⟩ := hop
  refine lv_istore (x := u.2) (lv' := [(6, .int u.2), (5, .int r5), (4, .int i4), (3, .ref w), (2, .ref (q 0)), (1, .ref (a 0)), (0, .ref b)]) hC.1 hC.2.1 dL_law_778 hl (by decide) rfl (fun ls hl => ?_)
  refine lv_aload_n hC.1 hC.2.1 dL_law_780 rfl (lv_at hl 4 rfl) ?_
  refine runP (rV (B := fun U H => PW G (mdW G q u.1 hs) H) (As := []) (rest := []) hC mwX6_thrown (c_X6_thrown l G q u.1 hs) iwX6_thrown wd_942 ⟨rfl, rfl⟩ ⟨Nat.le_of_ble_eq_true rfl, Nat.le_of_ble_eq_true rfl⟩ (stb_h (fun H => PW G (mdW G q u.1 hs) H)) hKN hW.P2 (va_recv hKN.k hW.P2 (ci := 6) (q0 := 0) rfl rfl) rfl hl.1 rfl (Nat.le_of_ble_eq_true rfl) dL_law_781 ⟨(show _ ≤ 601024 by omega), (show _ ≤ 7293034 by omega)⟩) ?_
  refine lv_iload hC.1 hC.2.1 dL_law_784 (lv_at hl 1 rfl) ?_
  refine lv_icmp_eq (tgt := 791) hC.1 hC.2.1 dL_law_786 (by decide) (fun _ => ?_) (fun h => absurd (o2.trans e5.symm) h)
  refine lv_iload hC.1 hC.2.1 dL_law_791 (lv_at hl 1 rfl) ?_
  have fin : W p l e room_1 s m #[Value.ref b] below meth c H2 locs2 (cells + 1 + 0) (slots + 6 + 0) (lw_Z below #[Value.ref b] s) (F0 m 808 ls []) := by
    refine lv_goto (tgt := 1269) hC.1 hC.2.1 dL_law_808 (by decide) ?_
    exact kk a b' q w (wldL F) u.1 hs (ansL F y) _ _ _ _ ls o1 hW hS (by omega) (by omega) (lv_sub hl [2, 3, 4, 5, 6] rfl)
  refine lv_if_ne (tgt := 808) hC.1 hC.2.1 dL_law_793 (by decide) (fun _ => fin) (fun h5 => ?_)
  refine lv_aload_n hC.1 hC.2.1 dL_law_796 rfl (lv_at hl 3 rfl) ?_
  refine lv_iconst (v := 0) hC.1 hC.2.1 dL_law_797 (by decide) ?_
  refine va_lald hC.1 hC.2.1 hKN.k hW.P1 0 1 rfl rfl (show vp_in (nI 0) 1 from vp_in_nI (by decide) (by decide)) dL_law_798 ?_
  refine lv_iload hC.1 hC.2.1 dL_law_799 (lv_at hl 0 rfl) ?_
  refine lv_i2l (v := u.2.toInt64) hC.1 hC.2.1 dL_law_801 rfl ?_
  refine lv_lcmpE hC.1 hC.2.1 dL_law_802 (o3 (e5.symm.trans h5) y) ?_
  exact lv_if_eq (tgt := 808) hC.1 hC.2.1 dL_law_803 (by decide) (fun _ => fin) (fun h => absurd rfl h)
