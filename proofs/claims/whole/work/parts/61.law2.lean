/-! the law's cases -/
set_option maxHeartbeats 4000000 in
theorem lw_c14 {G : GT} {k z : Nat} {Q : QT} {S : ST} {M : MT} (ok : okST S) (h : RC S M) (g : RM S M) (i : Nat) (hi : i + 7 ≤ G.2.2.2.2.2.1) (hL : G.2.2.2.2.2.1 ≤ 448) (hk : k ≤ 600000) (hz : z ≤ 7302250) (kk : ∀ S' M', okST S' → RC S' M' → RM S' M' → Wp G J_lw_law k z 1367 [(0, pR 1001), (1, pR 0), (2, pR 101), (3, pI (i : Int))] [] NN RF M' Q) : Wp G J_lw_law k z 600 [(0, pR 1001), (1, pR 0), (2, pR 101), (3, pI (i : Int))] [] NN RF M Q := by
  refine wp_aload_n d_lw_law_600 rfl 1 rfl ?_
  refine lw_arg 1 (by omega) d_lw_law_601 d_lw_law_602 d_lw_law_603 d_lw_law_604 d_lw_law_605 hi hL ?_
  refine wp_callV [pI _] 0 d_lw_law_606 jd_tl_home lk_lw_74 rfl s_0 rfl (Nat.le_of_ble_eq_true rfl) (Nat.le_of_ble_eq_true rfl) (rm_kz rfl hk hz) ?_
  refine clI_k (P := fun x M1 => Wp G J_lw_law k z 609 [(0, pR 1001), (1, pR 0), (2, pR 101), (3, pI (i : Int))] [pI x] NN RF M1 Q) (c_tl_home ok.d ok.2.2.2.1.1 h.qc _ (fun M1 f1 k1 => ?_)) (fun _ _ hx => hx)
  have r1 := h.fc ok f1 k1
  have g1 := g.fx f1.fx
  refine wp_aload_n d_lw_law_609 rfl 2 rfl ?_
  refine lw_arg 1 (by omega) d_lw_law_610 d_lw_law_611 d_lw_law_612 d_lw_law_613 d_lw_law_614 hi hL ?_
  refine wp_callV [pI _] 101 d_lw_law_615 jd_mo_home lk_lw_77 rfl s_101 rfl (Nat.le_of_ble_eq_true rfl) (Nat.le_of_ble_eq_true rfl) (rm_kz rfl hk hz) ?_
  refine clI_k (P := fun y M2 => Wp G J_lw_law k z 618 [(0, pR 1001), (1, pR 0), (2, pR 101), (3, pI (i : Int))] [pI y, pI _] NN RF M2 Q) (c_mo_home ok.d (g1.rd ok) g1.2.2.2.1.1 _ (fun M2 f2 => ?_)) (fun _ _ hx => hx)
  exact wp_icmp_eq 1367 d_lw_law_618 (by decide) (fun _ => kk S M2 ok (r1.fo ok f2.fo) (g1.fa f2)) (fun c => absurd rfl c)
set_option maxHeartbeats 4000000 in
theorem lw_c15 {G : GT} {k z : Nat} {Q : QT} {S : ST} {M : MT} (ok : okST S) (h : RC S M) (g : RM S M) (i : Nat) (hi : i + 7 ≤ G.2.2.2.2.2.1) (hL : G.2.2.2.2.2.1 ≤ 448) (hk : k ≤ 600000) (hz : z ≤ 7302250) (kk : ∀ S' M', okST S' → RC S' M' → RM S' M' → Wp G J_lw_law k z 1367 [(0, pR 1001), (1, pR 0), (2, pR 101), (3, pI (i : Int))] [] NN RF M' Q) : Wp G J_lw_law k z 623 [(0, pR 1001), (1, pR 0), (2, pR 101), (3, pI (i : Int))] [] NN RF M Q := by
  refine wp_aload_n d_lw_law_623 rfl 1 rfl ?_
  refine lw_arg 1 (by omega) d_lw_law_624 d_lw_law_625 d_lw_law_626 d_lw_law_627 d_lw_law_628 hi hL ?_
  refine lw_arg 2 (by omega) d_lw_law_629 d_lw_law_630 d_lw_law_631 d_lw_law_632 d_lw_law_633 hi hL ?_
  refine lw_arg 3 (by omega) d_lw_law_634 d_lw_law_635 d_lw_law_636 d_lw_law_637 d_lw_law_638 hi hL ?_
  refine wp_callV [pI _, pI _, pI _] 0 d_lw_law_639 jd_tl_lend lk_lw_78 rfl s_0 rfl (Nat.le_of_ble_eq_true rfl) (Nat.le_of_ble_eq_true rfl) (rm_kz rfl hk hz) ?_
  refine clI_k (P := fun x M1 => Wp G J_lw_law k z 642 [(0, pR 1001), (1, pR 0), (2, pR 101), (3, pI (i : Int))] [pI x] NN RF M1 Q) (c_tl_lend ok.d h.cd _ _ _ (fun M1 f1 => ?_)) (fun _ _ hx => hx)
  have r1 := h.fc ok f1.fc (h.2.2.2.2.2.fq ok.d f1)
  have g1 := g.fx f1.fc.fx
  refine wp_aload_n d_lw_law_642 rfl 2 rfl ?_
  refine lw_arg 1 (by omega) d_lw_law_643 d_lw_law_644 d_lw_law_645 d_lw_law_646 d_lw_law_647 hi hL ?_
  refine lw_arg 2 (by omega) d_lw_law_648 d_lw_law_649 d_lw_law_650 d_lw_law_651 d_lw_law_652 hi hL ?_
  refine lw_arg 3 (by omega) d_lw_law_653 d_lw_law_654 d_lw_law_655 d_lw_law_656 d_lw_law_657 hi hL ?_
  refine wp_callV [pI _, pI _, pI _] 101 d_lw_law_658 jd_mo_lend lk_lw_81 rfl s_101 rfl (Nat.le_of_ble_eq_true rfl) (Nat.le_of_ble_eq_true rfl) (rm_kz rfl hk hz) ?_
  refine clI_k (P := fun y M2 => Wp G J_lw_law k z 661 [(0, pR 1001), (1, pR 0), (2, pR 101), (3, pI (i : Int))] [pI y, pI _] NN RF M2 Q) (c_mo_lend ok.d (g1.rd ok) _ _ _ (fun M2 f2 => ?_)) (fun _ _ hx => hx)
  exact wp_icmp_eq 1367 d_lw_law_661 (by decide) (fun _ => kk S M2 ok (r1.fo ok f2.fo) (g1.fa f2)) (fun c => absurd rfl c)
set_option maxHeartbeats 4000000 in
theorem lw_c16 {G : GT} {k z : Nat} {Q : QT} {S : ST} {M : MT} (ok : okST S) (h : RC S M) (g : RM S M) (i : Nat) (hi : i + 7 ≤ G.2.2.2.2.2.1) (hL : G.2.2.2.2.2.1 ≤ 448) (hk : k ≤ 600000) (hz : z ≤ 7302250) (kk : ∀ S' M', okST S' → RC S' M' → RM S' M' → Wp G J_lw_law k z 1367 [(0, pR 1001), (1, pR 0), (2, pR 101), (3, pI (i : Int))] [] NN RF M' Q) : Wp G J_lw_law k z 666 [(0, pR 1001), (1, pR 0), (2, pR 101), (3, pI (i : Int))] [] NN RF M Q := by
  refine wp_aload_n d_lw_law_666 rfl 1 rfl ?_
  refine lw_arg 1 (by omega) d_lw_law_667 d_lw_law_668 d_lw_law_669 d_lw_law_670 d_lw_law_671 hi hL ?_
  refine lw_arg 2 (by omega) d_lw_law_672 d_lw_law_673 d_lw_law_674 d_lw_law_675 d_lw_law_676 hi hL ?_
  refine lw_arg 3 (by omega) d_lw_law_677 d_lw_law_678 d_lw_law_679 d_lw_law_680 d_lw_law_681 hi hL ?_
  refine wp_callV [pI _, pI _, pI _] 0 d_lw_law_682 jd_tl_longest lk_lw_82 rfl s_0 rfl (Nat.le_of_ble_eq_true rfl) (Nat.le_of_ble_eq_true rfl) (rm_kz rfl hk hz) ?_
  refine clI_k (P := fun x M1 => Wp G J_lw_law k z 685 [(0, pR 1001), (1, pR 0), (2, pR 101), (3, pI (i : Int))] [pI x] NN RF M1 Q) (c_tl_longest ok.d h.cd _ _ _ (fun M1 f1 => ?_)) (fun _ _ hx => hx)
  have r1 := h.fc ok f1.fc (h.2.2.2.2.2.fq ok.d f1)
  have g1 := g.fx f1.fc.fx
  refine wp_aload_n d_lw_law_685 rfl 2 rfl ?_
  refine lw_arg 1 (by omega) d_lw_law_686 d_lw_law_687 d_lw_law_688 d_lw_law_689 d_lw_law_690 hi hL ?_
  refine lw_arg 2 (by omega) d_lw_law_691 d_lw_law_692 d_lw_law_693 d_lw_law_694 d_lw_law_695 hi hL ?_
  refine lw_arg 3 (by omega) d_lw_law_696 d_lw_law_697 d_lw_law_698 d_lw_law_699 d_lw_law_700 hi hL ?_
  refine wp_callV [pI _, pI _, pI _] 101 d_lw_law_701 jd_mo_longest lk_lw_85 rfl s_101 rfl (Nat.le_of_ble_eq_true rfl) (Nat.le_of_ble_eq_true rfl) (rm_kz rfl hk hz) ?_
  refine clI_k (P := fun y M2 => Wp G J_lw_law k z 704 [(0, pR 1001), (1, pR 0), (2, pR 101), (3, pI (i : Int))] [pI y, pI _] NN RF M2 Q) (c_mo_longest ok.d (g1.rd ok) _ _ _ (fun M2 f2 => ?_)) (fun _ _ hx => hx)
  exact wp_icmp_eq 1367 d_lw_law_704 (by decide) (fun _ => kk S M2 ok (r1.fo ok f2.fo) (g1.fa f2)) (fun c => absurd rfl c)
set_option maxHeartbeats 4000000 in
theorem lw_c17 {G : GT} {k z : Nat} {Q : QT} {S : ST} {M : MT} (ok : okST S) (h : RC S M) (g : RM S M) (i : Nat) (hi : i + 7 ≤ G.2.2.2.2.2.1) (hL : G.2.2.2.2.2.1 ≤ 448) (hk : k ≤ 600000) (hz : z ≤ 7302250) (kk : ∀ S' M', okST S' → RC S' M' → RM S' M' → Wp G J_lw_law k z 1367 [(0, pR 1001), (1, pR 0), (2, pR 101), (3, pI (i : Int))] [] NN RF M' Q) : Wp G J_lw_law k z 709 [(0, pR 1001), (1, pR 0), (2, pR 101), (3, pI (i : Int))] [] NN RF M Q := by
  refine wp_aload_n d_lw_law_709 rfl 1 rfl ?_
  refine lw_arg 1 (by omega) d_lw_law_710 d_lw_law_711 d_lw_law_712 d_lw_law_713 d_lw_law_714 hi hL ?_
  refine lw_arg 2 (by omega) d_lw_law_715 d_lw_law_716 d_lw_law_717 d_lw_law_718 d_lw_law_719 hi hL ?_
  refine lw_arg 3 (by omega) d_lw_law_720 d_lw_law_721 d_lw_law_722 d_lw_law_723 d_lw_law_724 hi hL ?_
  refine wp_callV [pI _, pI _, pI _] 0 d_lw_law_725 jd_tl_who lk_lw_86 rfl s_0 rfl (Nat.le_of_ble_eq_true rfl) (Nat.le_of_ble_eq_true rfl) (rm_kz rfl hk hz) ?_
  refine clI_k (P := fun x M1 => Wp G J_lw_law k z 728 [(0, pR 1001), (1, pR 0), (2, pR 101), (3, pI (i : Int))] [pI x] NN RF M1 Q) (c_tl_who ok.d h.cd _ _ _ (fun M1 f1 => ?_)) (fun _ _ hx => hx)
  have r1 := h.fc ok f1.fc (h.2.2.2.2.2.fq ok.d f1)
  have g1 := g.fx f1.fc.fx
  refine wp_aload_n d_lw_law_728 rfl 2 rfl ?_
  refine lw_arg 1 (by omega) d_lw_law_729 d_lw_law_730 d_lw_law_731 d_lw_law_732 d_lw_law_733 hi hL ?_
  refine lw_arg 2 (by omega) d_lw_law_734 d_lw_law_735 d_lw_law_736 d_lw_law_737 d_lw_law_738 hi hL ?_
  refine lw_arg 3 (by omega) d_lw_law_739 d_lw_law_740 d_lw_law_741 d_lw_law_742 d_lw_law_743 hi hL ?_
  refine wp_callV [pI _, pI _, pI _] 101 d_lw_law_744 jd_mo_who lk_lw_89 rfl s_101 rfl (Nat.le_of_ble_eq_true rfl) (Nat.le_of_ble_eq_true rfl) (rm_kz rfl hk hz) ?_
  refine clI_k (P := fun y M2 => Wp G J_lw_law k z 747 [(0, pR 1001), (1, pR 0), (2, pR 101), (3, pI (i : Int))] [pI y, pI _] NN RF M2 Q) (c_mo_who ok.d (g1.rd ok) _ _ _ (fun M2 f2 => ?_)) (fun _ _ hx => hx)
  exact wp_icmp_eq 1367 d_lw_law_747 (by decide) (fun _ => kk S M2 ok (r1.fo ok f2.fo) (g1.fa f2)) (fun c => absurd rfl c)
set_option maxHeartbeats 4000000 in
theorem lw_c18 {G : GT} {k z : Nat} {Q : QT} {S : ST} {M : MT} (ok : okST S) (h : RC S M) (g : RM S M) (i : Nat) (hi : i + 7 ≤ G.2.2.2.2.2.1) (hL : G.2.2.2.2.2.1 ≤ 448) (hk : k ≤ 600000) (hz : z ≤ 7302250) (kk : ∀ S' M', okST S' → RC S' M' → RM S' M' → Wp G J_lw_law k z 1367 [(0, pR 1001), (1, pR 0), (2, pR 101), (3, pI (i : Int))] [] NN RF M' Q) : Wp G J_lw_law k z 752 [(0, pR 1001), (1, pR 0), (2, pR 101), (3, pI (i : Int))] [] NN RF M Q := by
  refine wp_aload_n d_lw_law_752 rfl 1 rfl ?_
  refine lw_arg 1 (by omega) d_lw_law_753 d_lw_law_754 d_lw_law_755 d_lw_law_756 d_lw_law_757 hi hL ?_
  refine lw_arg 2 (by omega) d_lw_law_758 d_lw_law_759 d_lw_law_760 d_lw_law_761 d_lw_law_762 hi hL ?_
  refine wp_callV [pI _, pI _] 0 d_lw_law_763 jd_tl_common lk_lw_90 rfl s_0 rfl (Nat.le_of_ble_eq_true rfl) (Nat.le_of_ble_eq_true rfl) (rm_kz rfl hk hz) ?_
  refine clI_k (P := fun x M1 => Wp G J_lw_law k z 766 [(0, pR 1001), (1, pR 0), (2, pR 101), (3, pI (i : Int))] [pI x] NN RF M1 Q) (c_tl_common ok.d h.cd _ _ (fun M1 f1 => ?_)) (fun _ _ hx => hx)
  have r1 := h.fc ok f1.fc (h.2.2.2.2.2.fq ok.d f1)
  have g1 := g.fx f1.fc.fx
  refine wp_aload_n d_lw_law_766 rfl 2 rfl ?_
  refine lw_arg 1 (by omega) d_lw_law_767 d_lw_law_768 d_lw_law_769 d_lw_law_770 d_lw_law_771 hi hL ?_
  refine lw_arg 2 (by omega) d_lw_law_772 d_lw_law_773 d_lw_law_774 d_lw_law_775 d_lw_law_776 hi hL ?_
  refine wp_callV [pI _, pI _] 101 d_lw_law_777 jd_mo_common lk_lw_93 rfl s_101 rfl (Nat.le_of_ble_eq_true rfl) (Nat.le_of_ble_eq_true rfl) (rm_kz rfl hk hz) ?_
  refine clI_k (P := fun y M2 => Wp G J_lw_law k z 780 [(0, pR 1001), (1, pR 0), (2, pR 101), (3, pI (i : Int))] [pI y, pI _] NN RF M2 Q) (c_mo_common ok.d (g1.rd ok) _ _ (fun M2 f2 => ?_)) (fun _ _ hx => hx)
  exact wp_icmp_eq 1367 d_lw_law_780 (by decide) (fun _ => kk S M2 ok (r1.fo ok f2.fo) (g1.fa f2)) (fun c => absurd rfl c)
set_option maxHeartbeats 4000000 in
theorem lw_c19 {G : GT} {k z : Nat} {Q : QT} {S : ST} {M : MT} (ok : okST S) (h : RC S M) (g : RM S M) (i : Nat) (hi : i + 7 ≤ G.2.2.2.2.2.1) (hL : G.2.2.2.2.2.1 ≤ 448) (hk : k ≤ 600000) (hz : z ≤ 7302250) (kk : ∀ S' M', okST S' → RC S' M' → RM S' M' → Wp G J_lw_law k z 1367 [(0, pR 1001), (1, pR 0), (2, pR 101), (3, pI (i : Int))] [] NN RF M' Q) : Wp G J_lw_law k z 785 [(0, pR 1001), (1, pR 0), (2, pR 101), (3, pI (i : Int))] [] NN RF M Q := by
  refine wp_aload_n d_lw_law_785 rfl 1 rfl ?_
  refine lw_arg 1 (by omega) d_lw_law_786 d_lw_law_787 d_lw_law_788 d_lw_law_789 d_lw_law_790 hi hL ?_
  refine lw_arg 2 (by omega) d_lw_law_791 d_lw_law_792 d_lw_law_793 d_lw_law_794 d_lw_law_795 hi hL ?_
  refine wp_callV [pI _, pI _] 0 d_lw_law_796 jd_tl_far lk_lw_94 rfl s_0 rfl (Nat.le_of_ble_eq_true rfl) (Nat.le_of_ble_eq_true rfl) (rm_kz rfl hk hz) ?_
  refine clI_k (P := fun x M1 => Wp G J_lw_law k z 799 [(0, pR 1001), (1, pR 0), (2, pR 101), (3, pI (i : Int))] [pI x] NN RF M1 Q) (c_tl_far ok.d h.cd _ _ (fun M1 f1 => ?_)) (fun _ _ hx => hx)
  have r1 := h.fc ok f1.fc (h.2.2.2.2.2.fq ok.d f1)
  have g1 := g.fx f1.fc.fx
  refine wp_aload_n d_lw_law_799 rfl 2 rfl ?_
  refine lw_arg 1 (by omega) d_lw_law_800 d_lw_law_801 d_lw_law_802 d_lw_law_803 d_lw_law_804 hi hL ?_
  refine lw_arg 2 (by omega) d_lw_law_805 d_lw_law_806 d_lw_law_807 d_lw_law_808 d_lw_law_809 hi hL ?_
  refine wp_callV [pI _, pI _] 101 d_lw_law_810 jd_mo_far lk_lw_97 rfl s_101 rfl (Nat.le_of_ble_eq_true rfl) (Nat.le_of_ble_eq_true rfl) (rm_kz rfl hk hz) ?_
  refine clI_k (P := fun y M2 => Wp G J_lw_law k z 813 [(0, pR 1001), (1, pR 0), (2, pR 101), (3, pI (i : Int))] [pI y, pI _] NN RF M2 Q) (c_mo_far ok.d (g1.rd ok) _ _ (fun M2 f2 => ?_)) (fun _ _ hx => hx)
  exact wp_icmp_eq 1367 d_lw_law_813 (by decide) (fun _ => kk S M2 ok (r1.fo ok f2.fo) (g1.fa f2)) (fun c => absurd rfl c)
set_option maxHeartbeats 4000000 in
theorem lw_c20 {G : GT} {k z : Nat} {Q : QT} {S : ST} {M : MT} (ok : okST S) (h : RC S M) (g : RM S M) (i : Nat) (hi : i + 7 ≤ G.2.2.2.2.2.1) (hL : G.2.2.2.2.2.1 ≤ 448) (hk : k ≤ 600000) (hz : z ≤ 7302250) (kk : ∀ S' M', okST S' → RC S' M' → RM S' M' → Wp G J_lw_law k z 1367 [(0, pR 1001), (1, pR 0), (2, pR 101), (3, pI (i : Int))] [] NN RF M' Q) : Wp G J_lw_law k z 818 [(0, pR 1001), (1, pR 0), (2, pR 101), (3, pI (i : Int))] [] NN RF M Q := by
  refine wp_aload_n d_lw_law_818 rfl 1 rfl ?_
  refine lw_arg 1 (by omega) d_lw_law_819 d_lw_law_820 d_lw_law_821 d_lw_law_822 d_lw_law_823 hi hL ?_
  refine wp_callV [pI _] 0 d_lw_law_824 jd_tl_nearest lk_lw_98 rfl s_0 rfl (Nat.le_of_ble_eq_true rfl) (Nat.le_of_ble_eq_true rfl) (rm_kz rfl hk hz) ?_
  refine clI_k (P := fun x M1 => Wp G J_lw_law k z 827 [(0, pR 1001), (1, pR 0), (2, pR 101), (3, pI (i : Int))] [pI x] NN RF M1 Q) (c_tl_nearest ok.d h.cd _ (fun M1 f1 => ?_)) (fun _ _ hx => hx)
  have r1 := h.fc ok f1.fc (h.2.2.2.2.2.fq ok.d f1)
  have g1 := g.fx f1.fc.fx
  refine wp_aload_n d_lw_law_827 rfl 2 rfl ?_
  refine lw_arg 1 (by omega) d_lw_law_828 d_lw_law_829 d_lw_law_830 d_lw_law_831 d_lw_law_832 hi hL ?_
  refine wp_callV [pI _] 101 d_lw_law_833 jd_mo_nearest lk_lw_101 rfl s_101 rfl (Nat.le_of_ble_eq_true rfl) (Nat.le_of_ble_eq_true rfl) (rm_kz rfl hk hz) ?_
  refine clI_k (P := fun y M2 => Wp G J_lw_law k z 836 [(0, pR 1001), (1, pR 0), (2, pR 101), (3, pI (i : Int))] [pI y, pI _] NN RF M2 Q) (c_mo_nearest ok.d (g1.rd ok) _ (fun M2 f2 => ?_)) (fun _ _ hx => hx)
  exact wp_icmp_eq 1367 d_lw_law_836 (by decide) (fun _ => kk S M2 ok (r1.fo ok f2.fo) (g1.fa f2)) (fun c => absurd rfl c)
