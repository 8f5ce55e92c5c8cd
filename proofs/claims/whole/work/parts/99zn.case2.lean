section KC
variable {L : Nat} {xs : Nat → Int32} {σ : Hp} {i : Int}
theorem lk_8 (hL : L ≤ 4608) (h0 : 0 ≤ i) (h1 : i + 9 ≤ L) (h : Rel σ) (hK : ∀ ω, Rel ω → KJ L xs 1247 [(0, vR 1001), (1, vR 0), (2, vR 69), (3, vI i)] [] ω) : KJ L xs 588 [(0, vR 1001), (1, vR 0), (2, vR 69), (3, vI i)] [] σ := by
  refine k_aload_n (p2 := 589) dW_588 rfl rfl ?_
  refine k_aload_n (p2 := 590) dW_589 rfl rfl ?_
  refine k_iload_n (p2 := 591) dW_590 rfl rfl ?_
  refine k_iconst (p2 := 592) dW_591 rfl ?_
  refine k_iadd (p2 := 593) dW_592 rfl ?_
  refine k_sld (p2 := 594) dW_593 rfl (by omega) (by omega) hL ?_
  refine k_callV (p2 := 597) (m' := mX_level) (As := [_]) (st := []) dW_594 rfl ml_W_52 ok_mX_level im_mX_level se_mX_level rfl rfl (Nat.le_of_ble_eq_true rfl) ly_0 rfl (Nat.le_of_ble_eq_true rfl) ⟨(Nat.le_of_ble_eq_true rfl), (Nat.le_of_ble_eq_true rfl)⟩ ?_
  refine Sp.mono (pr_level h (x_in _)) (fun r τ hq => ?_)
  obtain ⟨v, rfl, hq⟩ := hq
  refine k_aload_n (p2 := 598) dW_597 rfl rfl ?_
  refine k_aload_n (p2 := 599) dW_598 rfl rfl ?_
  refine k_iload_n (p2 := 600) dW_599 rfl rfl ?_
  refine k_iconst (p2 := 601) dW_600 rfl ?_
  refine k_iadd (p2 := 602) dW_601 rfl ?_
  refine k_sld (p2 := 603) dW_602 rfl (by omega) (by omega) hL ?_
  refine k_callV (p2 := 606) (m' := mM_level) (As := [_]) (st := [vI v]) dW_603 rfl ml_W_56 ok_mM_level im_mM_level se_mM_level rfl rfl (Nat.le_of_ble_eq_true rfl) ly_69 rfl (Nat.le_of_ble_eq_true rfl) ⟨(Nat.le_of_ble_eq_true rfl), (Nat.le_of_ble_eq_true rfl)⟩ ?_
  refine Sp.mono hq (fun r ω hw => ?_)
  obtain ⟨rfl, hr⟩ := hw
  refine k_icmp_same (tg := 1247) dW_606 (by decide) ?_
  exact hK _ hr
theorem lk_9 (hL : L ≤ 4608) (h0 : 0 ≤ i) (h1 : i + 9 ≤ L) (h : Rel σ) (hK : ∀ ω, Rel ω → KJ L xs 1247 [(0, vR 1001), (1, vR 0), (2, vR 69), (3, vI i)] [] ω) : KJ L xs 611 [(0, vR 1001), (1, vR 0), (2, vR 69), (3, vI i)] [] σ := by
  refine k_aload_n (p2 := 612) dW_611 rfl rfl ?_
  refine k_aload_n (p2 := 613) dW_612 rfl rfl ?_
  refine k_iload_n (p2 := 614) dW_613 rfl rfl ?_
  refine k_iconst (p2 := 615) dW_614 rfl ?_
  refine k_iadd (p2 := 616) dW_615 rfl ?_
  refine k_sld (p2 := 617) dW_616 rfl (by omega) (by omega) hL ?_
  refine k_callV (p2 := 620) (m' := mX_mode) (As := [_]) (st := []) dW_617 rfl ml_W_57 ok_mX_mode im_mX_mode se_mX_mode rfl rfl (Nat.le_of_ble_eq_true rfl) ly_0 rfl (Nat.le_of_ble_eq_true rfl) ⟨(Nat.le_of_ble_eq_true rfl), (Nat.le_of_ble_eq_true rfl)⟩ ?_
  refine Sp.mono (pr_mode h (x_in _)) (fun r τ hq => ?_)
  obtain ⟨v, rfl, hq⟩ := hq
  refine k_aload_n (p2 := 621) dW_620 rfl rfl ?_
  refine k_aload_n (p2 := 622) dW_621 rfl rfl ?_
  refine k_iload_n (p2 := 623) dW_622 rfl rfl ?_
  refine k_iconst (p2 := 624) dW_623 rfl ?_
  refine k_iadd (p2 := 625) dW_624 rfl ?_
  refine k_sld (p2 := 626) dW_625 rfl (by omega) (by omega) hL ?_
  refine k_callV (p2 := 629) (m' := mM_mode) (As := [_]) (st := [vI v]) dW_626 rfl ml_W_60 ok_mM_mode im_mM_mode se_mM_mode rfl rfl (Nat.le_of_ble_eq_true rfl) ly_69 rfl (Nat.le_of_ble_eq_true rfl) ⟨(Nat.le_of_ble_eq_true rfl), (Nat.le_of_ble_eq_true rfl)⟩ ?_
  refine Sp.mono hq (fun r ω hw => ?_)
  obtain ⟨rfl, hr⟩ := hw
  refine k_icmp_same (tg := 1247) dW_629 (by decide) ?_
  exact hK _ hr
theorem lk_10 (hL : L ≤ 4608) (h0 : 0 ≤ i) (h1 : i + 9 ≤ L) (h : Rel σ) (hK : ∀ ω, Rel ω → KJ L xs 1247 [(0, vR 1001), (1, vR 0), (2, vR 69), (3, vI i)] [] ω) : KJ L xs 634 [(0, vR 1001), (1, vR 0), (2, vR 69), (3, vI i)] [] σ := by
  refine k_aload_n (p2 := 635) dW_634 rfl rfl ?_
  refine k_callV (p2 := 638) (m' := mX_now) (As := []) (st := []) dW_635 rfl ml_W_61 ok_mX_now im_mX_now se_mX_now rfl rfl (Nat.le_of_ble_eq_true rfl) ly_0 rfl (Nat.le_of_ble_eq_true rfl) ⟨(Nat.le_of_ble_eq_true rfl), (Nat.le_of_ble_eq_true rfl)⟩ ?_
  refine Sp.mono (pr_now h) (fun r τ hq => ?_)
  obtain ⟨v, rfl, hq⟩ := hq
  refine k_aload_n (p2 := 639) dW_638 rfl rfl ?_
  refine k_callV (p2 := 642) (m' := mM_now) (As := []) (st := [vI v]) dW_639 rfl ml_W_64 ok_mM_now im_mM_now se_mM_now rfl rfl (Nat.le_of_ble_eq_true rfl) ly_69 rfl (Nat.le_of_ble_eq_true rfl) ⟨(Nat.le_of_ble_eq_true rfl), (Nat.le_of_ble_eq_true rfl)⟩ ?_
  refine Sp.mono hq (fun r ω hw => ?_)
  obtain ⟨rfl, hr⟩ := hw
  refine k_icmp_same (tg := 1247) dW_642 (by decide) ?_
  exact hK _ hr
theorem lk_11 (hL : L ≤ 4608) (h0 : 0 ≤ i) (h1 : i + 9 ≤ L) (h : Rel σ) (hK : ∀ ω, Rel ω → KJ L xs 1247 [(0, vR 1001), (1, vR 0), (2, vR 69), (3, vI i)] [] ω) : KJ L xs 647 [(0, vR 1001), (1, vR 0), (2, vR 69), (3, vI i)] [] σ := by
  refine k_aload_n (p2 := 648) dW_647 rfl rfl ?_
  refine k_aload_n (p2 := 649) dW_648 rfl rfl ?_
  refine k_iload_n (p2 := 650) dW_649 rfl rfl ?_
  refine k_iconst (p2 := 651) dW_650 rfl ?_
  refine k_iadd (p2 := 652) dW_651 rfl ?_
  refine k_sld (p2 := 653) dW_652 rfl (by omega) (by omega) hL ?_
  refine k_callV (p2 := 656) (m' := mX_run) (As := [_]) (st := []) dW_653 rfl ml_W_65 ok_mX_run im_mX_run se_mX_run rfl rfl (Nat.le_of_ble_eq_true rfl) ly_0 rfl (Nat.le_of_ble_eq_true rfl) ⟨(Nat.le_of_ble_eq_true rfl), (Nat.le_of_ble_eq_true rfl)⟩ ?_
  refine Sp.mono (pr_run h (x_in _)) (fun r τ hq => ?_)
  obtain ⟨v, rfl, hq⟩ := hq
  refine k_aload_n (p2 := 657) dW_656 rfl rfl ?_
  refine k_aload_n (p2 := 658) dW_657 rfl rfl ?_
  refine k_iload_n (p2 := 659) dW_658 rfl rfl ?_
  refine k_iconst (p2 := 660) dW_659 rfl ?_
  refine k_iadd (p2 := 661) dW_660 rfl ?_
  refine k_sld (p2 := 662) dW_661 rfl (by omega) (by omega) hL ?_
  refine k_callV (p2 := 665) (m' := mM_run) (As := [_]) (st := [vI v]) dW_662 rfl ml_W_68 ok_mM_run im_mM_run se_mM_run rfl rfl (Nat.le_of_ble_eq_true rfl) ly_69 rfl (Nat.le_of_ble_eq_true rfl) ⟨(Nat.le_of_ble_eq_true rfl), (Nat.le_of_ble_eq_true rfl)⟩ ?_
  refine Sp.mono hq (fun r ω hw => ?_)
  obtain ⟨rfl, hr⟩ := hw
  refine k_icmp_same (tg := 1247) dW_665 (by decide) ?_
  exact hK _ hr
theorem lk_12 (hL : L ≤ 4608) (h0 : 0 ≤ i) (h1 : i + 9 ≤ L) (h : Rel σ) (hK : ∀ ω, Rel ω → KJ L xs 1247 [(0, vR 1001), (1, vR 0), (2, vR 69), (3, vI i)] [] ω) : KJ L xs 670 [(0, vR 1001), (1, vR 0), (2, vR 69), (3, vI i)] [] σ := by
  refine k_aload_n (p2 := 671) dW_670 rfl rfl ?_
  refine k_aload_n (p2 := 672) dW_671 rfl rfl ?_
  refine k_iload_n (p2 := 673) dW_672 rfl rfl ?_
  refine k_iconst (p2 := 674) dW_673 rfl ?_
  refine k_iadd (p2 := 675) dW_674 rfl ?_
  refine k_sld (p2 := 676) dW_675 rfl (by omega) (by omega) hL ?_
  refine k_aload_n (p2 := 677) dW_676 rfl rfl ?_
  refine k_iload_n (p2 := 678) dW_677 rfl rfl ?_
  refine k_iconst (p2 := 679) dW_678 rfl ?_
  refine k_iadd (p2 := 680) dW_679 rfl ?_
  refine k_sld (p2 := 681) dW_680 rfl (by omega) (by omega) hL ?_
  refine k_callV (p2 := 684) (m' := mX_fail) (As := [_, _]) (st := []) dW_681 rfl ml_W_69 ok_mX_fail im_mX_fail se_mX_fail rfl rfl (Nat.le_of_ble_eq_true rfl) ly_0 rfl (Nat.le_of_ble_eq_true rfl) ⟨(Nat.le_of_ble_eq_true rfl), (Nat.le_of_ble_eq_true rfl)⟩ ?_
  refine Sp.mono (pr_fail h (x_in _) (x_in _)) (fun r τ hq => ?_)
  obtain ⟨v, rfl, hq⟩ := hq
  refine k_aload_n (p2 := 685) dW_684 rfl rfl ?_
  refine k_aload_n (p2 := 686) dW_685 rfl rfl ?_
  refine k_iload_n (p2 := 687) dW_686 rfl rfl ?_
  refine k_iconst (p2 := 688) dW_687 rfl ?_
  refine k_iadd (p2 := 689) dW_688 rfl ?_
  refine k_sld (p2 := 690) dW_689 rfl (by omega) (by omega) hL ?_
  refine k_aload_n (p2 := 691) dW_690 rfl rfl ?_
  refine k_iload_n (p2 := 692) dW_691 rfl rfl ?_
  refine k_iconst (p2 := 693) dW_692 rfl ?_
  refine k_iadd (p2 := 694) dW_693 rfl ?_
  refine k_sld (p2 := 695) dW_694 rfl (by omega) (by omega) hL ?_
  refine k_callV (p2 := 698) (m' := mM_fail) (As := [_, _]) (st := [vI v]) dW_695 rfl ml_W_72 ok_mM_fail im_mM_fail se_mM_fail rfl rfl (Nat.le_of_ble_eq_true rfl) ly_69 rfl (Nat.le_of_ble_eq_true rfl) ⟨(Nat.le_of_ble_eq_true rfl), (Nat.le_of_ble_eq_true rfl)⟩ ?_
  refine Sp.mono hq (fun r ω hw => ?_)
  obtain ⟨rfl, hr⟩ := hw
  refine k_icmp_same (tg := 1247) dW_698 (by decide) ?_
  exact hK _ hr
theorem lk_13 (hL : L ≤ 4608) (h0 : 0 ≤ i) (h1 : i + 9 ≤ L) (h : Rel σ) (hK : ∀ ω, Rel ω → KJ L xs 1247 [(0, vR 1001), (1, vR 0), (2, vR 69), (3, vI i)] [] ω) : KJ L xs 703 [(0, vR 1001), (1, vR 0), (2, vR 69), (3, vI i)] [] σ := by
  refine k_aload_n (p2 := 704) dW_703 rfl rfl ?_
  refine k_callV (p2 := 707) (m' := mX_time) (As := []) (st := []) dW_704 rfl ml_W_73 ok_mX_time im_mX_time se_mX_time rfl rfl (Nat.le_of_ble_eq_true rfl) ly_0 rfl (Nat.le_of_ble_eq_true rfl) ⟨(Nat.le_of_ble_eq_true rfl), (Nat.le_of_ble_eq_true rfl)⟩ ?_
  refine Sp.mono (pr_time h) (fun r τ hq => ?_)
  obtain ⟨v, rfl, hq⟩ := hq
  refine k_aload_n (p2 := 708) dW_707 rfl rfl ?_
  refine k_callV (p2 := 711) (m' := mM_time) (As := []) (st := [vI v]) dW_708 rfl ml_W_76 ok_mM_time im_mM_time se_mM_time rfl rfl (Nat.le_of_ble_eq_true rfl) ly_69 rfl (Nat.le_of_ble_eq_true rfl) ⟨(Nat.le_of_ble_eq_true rfl), (Nat.le_of_ble_eq_true rfl)⟩ ?_
  refine Sp.mono hq (fun r ω hw => ?_)
  obtain ⟨rfl, hr⟩ := hw
  refine k_icmp_same (tg := 1247) dW_711 (by decide) ?_
  exact hK _ hr
theorem lk_14 (hL : L ≤ 4608) (h0 : 0 ≤ i) (h1 : i + 9 ≤ L) (h : Rel σ) (hK : ∀ ω, Rel ω → KJ L xs 1247 [(0, vR 1001), (1, vR 0), (2, vR 69), (3, vI i)] [] ω) : KJ L xs 716 [(0, vR 1001), (1, vR 0), (2, vR 69), (3, vI i)] [] σ := by
  refine k_aload_n (p2 := 717) dW_716 rfl rfl ?_
  refine k_aload_n (p2 := 718) dW_717 rfl rfl ?_
  refine k_iload_n (p2 := 719) dW_718 rfl rfl ?_
  refine k_iconst (p2 := 720) dW_719 rfl ?_
  refine k_iadd (p2 := 721) dW_720 rfl ?_
  refine k_sld (p2 := 722) dW_721 rfl (by omega) (by omega) hL ?_
  refine k_callV (p2 := 725) (m' := mX_reading) (As := [_]) (st := []) dW_722 rfl ml_W_77 ok_mX_reading im_mX_reading se_mX_reading rfl rfl (Nat.le_of_ble_eq_true rfl) ly_0 rfl (Nat.le_of_ble_eq_true rfl) ⟨(Nat.le_of_ble_eq_true rfl), (Nat.le_of_ble_eq_true rfl)⟩ ?_
  refine Sp.mono (pr_reading h (x_in _)) (fun r τ hq => ?_)
  obtain ⟨v, rfl, hq⟩ := hq
  refine k_aload_n (p2 := 726) dW_725 rfl rfl ?_
  refine k_aload_n (p2 := 727) dW_726 rfl rfl ?_
  refine k_iload_n (p2 := 728) dW_727 rfl rfl ?_
  refine k_iconst (p2 := 729) dW_728 rfl ?_
  refine k_iadd (p2 := 730) dW_729 rfl ?_
  refine k_sld (p2 := 731) dW_730 rfl (by omega) (by omega) hL ?_
  refine k_callV (p2 := 734) (m' := mM_reading) (As := [_]) (st := [vL v]) dW_731 rfl ml_W_81 ok_mM_reading im_mM_reading se_mM_reading rfl rfl (Nat.le_of_ble_eq_true rfl) ly_69 rfl (Nat.le_of_ble_eq_true rfl) ⟨(Nat.le_of_ble_eq_true rfl), (Nat.le_of_ble_eq_true rfl)⟩ ?_
  refine Sp.mono hq (fun r ω hw => ?_)
  obtain ⟨rfl, hr⟩ := hw
  refine k_lcmp_same (p1 := 735) (tg := 1247) dW_734 rfl dW_735 (by decide) ?_
  exact hK _ hr
theorem lk_15 (hL : L ≤ 4608) (h0 : 0 ≤ i) (h1 : i + 9 ≤ L) (h : Rel σ) (hK : ∀ ω, Rel ω → KJ L xs 1247 [(0, vR 1001), (1, vR 0), (2, vR 69), (3, vI i)] [] ω) : KJ L xs 740 [(0, vR 1001), (1, vR 0), (2, vR 69), (3, vI i)] [] σ := by
  refine k_aload_n (p2 := 741) dW_740 rfl rfl ?_
  refine k_aload_n (p2 := 742) dW_741 rfl rfl ?_
  refine k_iload_n (p2 := 743) dW_742 rfl rfl ?_
  refine k_iconst (p2 := 744) dW_743 rfl ?_
  refine k_iadd (p2 := 745) dW_744 rfl ?_
  refine k_sld (p2 := 746) dW_745 rfl (by omega) (by omega) hL ?_
  refine k_callV (p2 := 749) (m' := mX_single) (As := [_]) (st := []) dW_746 rfl ml_W_82 ok_mX_single im_mX_single se_mX_single rfl rfl (Nat.le_of_ble_eq_true rfl) ly_0 rfl (Nat.le_of_ble_eq_true rfl) ⟨(Nat.le_of_ble_eq_true rfl), (Nat.le_of_ble_eq_true rfl)⟩ ?_
  refine Sp.mono (pr_single h (x_in _)) (fun r τ hq => ?_)
  obtain ⟨v, rfl, hq⟩ := hq
  refine k_aload_n (p2 := 750) dW_749 rfl rfl ?_
  refine k_aload_n (p2 := 751) dW_750 rfl rfl ?_
  refine k_iload_n (p2 := 752) dW_751 rfl rfl ?_
  refine k_iconst (p2 := 753) dW_752 rfl ?_
  refine k_iadd (p2 := 754) dW_753 rfl ?_
  refine k_sld (p2 := 755) dW_754 rfl (by omega) (by omega) hL ?_
  refine k_callV (p2 := 758) (m' := mM_single) (As := [_]) (st := [vI v]) dW_755 rfl ml_W_85 ok_mM_single im_mM_single se_mM_single rfl rfl (Nat.le_of_ble_eq_true rfl) ly_69 rfl (Nat.le_of_ble_eq_true rfl) ⟨(Nat.le_of_ble_eq_true rfl), (Nat.le_of_ble_eq_true rfl)⟩ ?_
  refine Sp.mono hq (fun r ω hw => ?_)
  obtain ⟨rfl, hr⟩ := hw
  refine k_icmp_same (tg := 1247) dW_758 (by decide) ?_
  exact hK _ hr
theorem lk_16 (hL : L ≤ 4608) (h0 : 0 ≤ i) (h1 : i + 9 ≤ L) (h : Rel σ) (hK : ∀ ω, Rel ω → KJ L xs 1247 [(0, vR 1001), (1, vR 0), (2, vR 69), (3, vI i)] [] ω) : KJ L xs 763 [(0, vR 1001), (1, vR 0), (2, vR 69), (3, vI i)] [] σ := by
  refine k_aload_n (p2 := 764) dW_763 rfl rfl ?_
  refine k_aload_n (p2 := 765) dW_764 rfl rfl ?_
  refine k_iload_n (p2 := 766) dW_765 rfl rfl ?_
  refine k_iconst (p2 := 767) dW_766 rfl ?_
  refine k_iadd (p2 := 768) dW_767 rfl ?_
  refine k_sld (p2 := 769) dW_768 rfl (by omega) (by omega) hL ?_
  refine k_callV (p2 := 772) (m' := mX_lamp) (As := [_]) (st := []) dW_769 rfl ml_W_86 ok_mX_lamp im_mX_lamp se_mX_lamp rfl rfl (Nat.le_of_ble_eq_true rfl) ly_0 rfl (Nat.le_of_ble_eq_true rfl) ⟨(Nat.le_of_ble_eq_true rfl), (Nat.le_of_ble_eq_true rfl)⟩ ?_
  refine Sp.mono (pr_lamp h (x_in _)) (fun r τ hq => ?_)
  obtain ⟨v, rfl, hq⟩ := hq
  refine k_aload_n (p2 := 773) dW_772 rfl rfl ?_
  refine k_aload_n (p2 := 774) dW_773 rfl rfl ?_
  refine k_iload_n (p2 := 775) dW_774 rfl rfl ?_
  refine k_iconst (p2 := 776) dW_775 rfl ?_
  refine k_iadd (p2 := 777) dW_776 rfl ?_
  refine k_sld (p2 := 778) dW_777 rfl (by omega) (by omega) hL ?_
  refine k_callV (p2 := 781) (m' := mM_lamp) (As := [_]) (st := [vI v]) dW_778 rfl ml_W_89 ok_mM_lamp im_mM_lamp se_mM_lamp rfl rfl (Nat.le_of_ble_eq_true rfl) ly_69 rfl (Nat.le_of_ble_eq_true rfl) ⟨(Nat.le_of_ble_eq_true rfl), (Nat.le_of_ble_eq_true rfl)⟩ ?_
  refine Sp.mono hq (fun r ω hw => ?_)
  obtain ⟨rfl, hr⟩ := hw
  refine k_icmp_same (tg := 1247) dW_781 (by decide) ?_
  exact hK _ hr
theorem lk_17 (hL : L ≤ 4608) (h0 : 0 ≤ i) (h1 : i + 9 ≤ L) (h : Rel σ) (hK : ∀ ω, Rel ω → KJ L xs 1247 [(0, vR 1001), (1, vR 0), (2, vR 69), (3, vI i)] [] ω) : KJ L xs 786 [(0, vR 1001), (1, vR 0), (2, vR 69), (3, vI i)] [] σ := by
  refine k_aload_n (p2 := 787) dW_786 rfl rfl ?_
  refine k_aload_n (p2 := 788) dW_787 rfl rfl ?_
  refine k_iload_n (p2 := 789) dW_788 rfl rfl ?_
  refine k_iconst (p2 := 790) dW_789 rfl ?_
  refine k_iadd (p2 := 791) dW_790 rfl ?_
  refine k_sld (p2 := 792) dW_791 rfl (by omega) (by omega) hL ?_
  refine k_callV (p2 := 795) (m' := mX_apart) (As := [_]) (st := []) dW_792 rfl ml_W_90 ok_mX_apart im_mX_apart se_mX_apart rfl rfl (Nat.le_of_ble_eq_true rfl) ly_0 rfl (Nat.le_of_ble_eq_true rfl) ⟨(Nat.le_of_ble_eq_true rfl), (Nat.le_of_ble_eq_true rfl)⟩ ?_
  refine Sp.mono (pr_apart h (x_in _)) (fun r τ hq => ?_)
  obtain ⟨v, rfl, hq⟩ := hq
  refine k_aload_n (p2 := 796) dW_795 rfl rfl ?_
  refine k_aload_n (p2 := 797) dW_796 rfl rfl ?_
  refine k_iload_n (p2 := 798) dW_797 rfl rfl ?_
  refine k_iconst (p2 := 799) dW_798 rfl ?_
  refine k_iadd (p2 := 800) dW_799 rfl ?_
  refine k_sld (p2 := 801) dW_800 rfl (by omega) (by omega) hL ?_
  refine k_callV (p2 := 804) (m' := mM_apart) (As := [_]) (st := [vL v]) dW_801 rfl ml_W_93 ok_mM_apart im_mM_apart se_mM_apart rfl rfl (Nat.le_of_ble_eq_true rfl) ly_69 rfl (Nat.le_of_ble_eq_true rfl) ⟨(Nat.le_of_ble_eq_true rfl), (Nat.le_of_ble_eq_true rfl)⟩ ?_
  refine Sp.mono hq (fun r ω hw => ?_)
  obtain ⟨rfl, hr⟩ := hw
  refine k_lcmp_same (p1 := 805) (tg := 1247) dW_804 rfl dW_805 (by decide) ?_
  exact hK _ hr
theorem lk_18 (hL : L ≤ 4608) (h0 : 0 ≤ i) (h1 : i + 9 ≤ L) (h : Rel σ) (hK : ∀ ω, Rel ω → KJ L xs 1247 [(0, vR 1001), (1, vR 0), (2, vR 69), (3, vI i)] [] ω) : KJ L xs 810 [(0, vR 1001), (1, vR 0), (2, vR 69), (3, vI i)] [] σ := by
  refine k_aload_n (p2 := 811) dW_810 rfl rfl ?_
  refine k_aload_n (p2 := 812) dW_811 rfl rfl ?_
  refine k_iload_n (p2 := 813) dW_812 rfl rfl ?_
  refine k_iconst (p2 := 814) dW_813 rfl ?_
  refine k_iadd (p2 := 815) dW_814 rfl ?_
  refine k_sld (p2 := 816) dW_815 rfl (by omega) (by omega) hL ?_
  refine k_callV (p2 := 819) (m' := mX_rate) (As := [_]) (st := []) dW_816 rfl ml_W_94 ok_mX_rate im_mX_rate se_mX_rate rfl rfl (Nat.le_of_ble_eq_true rfl) ly_0 rfl (Nat.le_of_ble_eq_true rfl) ⟨(Nat.le_of_ble_eq_true rfl), (Nat.le_of_ble_eq_true rfl)⟩ ?_
  refine Sp.mono (pr_rate h (x_in _)) (fun r τ hq => ?_)
  obtain ⟨v, rfl, hq⟩ := hq
  refine k_aload_n (p2 := 820) dW_819 rfl rfl ?_
  refine k_aload_n (p2 := 821) dW_820 rfl rfl ?_
  refine k_iload_n (p2 := 822) dW_821 rfl rfl ?_
  refine k_iconst (p2 := 823) dW_822 rfl ?_
  refine k_iadd (p2 := 824) dW_823 rfl ?_
  refine k_sld (p2 := 825) dW_824 rfl (by omega) (by omega) hL ?_
  refine k_callV (p2 := 828) (m' := mM_rate) (As := [_]) (st := [vL v]) dW_825 rfl ml_W_97 ok_mM_rate im_mM_rate se_mM_rate rfl rfl (Nat.le_of_ble_eq_true rfl) ly_69 rfl (Nat.le_of_ble_eq_true rfl) ⟨(Nat.le_of_ble_eq_true rfl), (Nat.le_of_ble_eq_true rfl)⟩ ?_
  refine Sp.mono hq (fun r ω hw => ?_)
  obtain ⟨rfl, hr⟩ := hw
  refine k_lcmp_same (p1 := 829) (tg := 1247) dW_828 rfl dW_829 (by decide) ?_
  exact hK _ hr
theorem lk_19 (hL : L ≤ 4608) (h0 : 0 ≤ i) (h1 : i + 9 ≤ L) (h : Rel σ) (hK : ∀ ω, Rel ω → KJ L xs 1247 [(0, vR 1001), (1, vR 0), (2, vR 69), (3, vI i)] [] ω) : KJ L xs 834 [(0, vR 1001), (1, vR 0), (2, vR 69), (3, vI i)] [] σ := by
  refine k_aload_n (p2 := 835) dW_834 rfl rfl ?_
  refine k_aload_n (p2 := 836) dW_835 rfl rfl ?_
  refine k_iload_n (p2 := 837) dW_836 rfl rfl ?_
  refine k_iconst (p2 := 838) dW_837 rfl ?_
  refine k_iadd (p2 := 839) dW_838 rfl ?_
  refine k_sld (p2 := 840) dW_839 rfl (by omega) (by omega) hL ?_
  refine k_callV (p2 := 843) (m' := mX_strip) (As := [_]) (st := []) dW_840 rfl ml_W_98 ok_mX_strip im_mX_strip se_mX_strip rfl rfl (Nat.le_of_ble_eq_true rfl) ly_0 rfl (Nat.le_of_ble_eq_true rfl) ⟨(Nat.le_of_ble_eq_true rfl), (Nat.le_of_ble_eq_true rfl)⟩ ?_
  refine Sp.mono (pr_strip h (x_in _)) (fun r τ hq => ?_)
  obtain ⟨v, rfl, hq⟩ := hq
  refine k_aload_n (p2 := 844) dW_843 rfl rfl ?_
  refine k_aload_n (p2 := 845) dW_844 rfl rfl ?_
  refine k_iload_n (p2 := 846) dW_845 rfl rfl ?_
  refine k_iconst (p2 := 847) dW_846 rfl ?_
  refine k_iadd (p2 := 848) dW_847 rfl ?_
  refine k_sld (p2 := 849) dW_848 rfl (by omega) (by omega) hL ?_
  refine k_callV (p2 := 852) (m' := mM_strip) (As := [_]) (st := [vI v]) dW_849 rfl ml_W_101 ok_mM_strip im_mM_strip se_mM_strip rfl rfl (Nat.le_of_ble_eq_true rfl) ly_69 rfl (Nat.le_of_ble_eq_true rfl) ⟨(Nat.le_of_ble_eq_true rfl), (Nat.le_of_ble_eq_true rfl)⟩ ?_
  refine Sp.mono hq (fun r ω hw => ?_)
  obtain ⟨rfl, hr⟩ := hw
  refine k_icmp_same (tg := 1247) dW_852 (by decide) ?_
  exact hK _ hr
end KC
