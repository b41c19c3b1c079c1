/-! decode rows of the law -/
theorem d_lw_law_612 : decode code 612 = .ok (.iconst 1, 1) := by decide +kernel
theorem d_lw_law_613 : decode code 613 = .ok (.iadd, 1) := by decide +kernel
theorem d_lw_law_614 : decode code 614 = .ok (.iaload, 1) := by decide +kernel
theorem d_lw_law_615 : decode code 615 = .ok (.invokevirtual 77, 3) := by decide +kernel
theorem d_lw_law_618 : decode code 618 = .ok (.if_icmp .eq 749, 3) := by decide +kernel
theorem d_lw_law_621 : decode code 621 = .ok (.iconst 0, 1) := by decide +kernel
theorem d_lw_law_622 : decode code 622 = .ok (.ireturn, 1) := by decide +kernel
theorem d_lw_law_623 : decode code 623 = .ok (.aload_n 1, 1) := by decide +kernel
theorem d_lw_law_624 : decode code 624 = .ok (.aload_n 0, 1) := by decide +kernel
theorem d_lw_law_625 : decode code 625 = .ok (.iload_n 3, 1) := by decide +kernel
theorem d_lw_law_626 : decode code 626 = .ok (.iconst 1, 1) := by decide +kernel
theorem d_lw_law_627 : decode code 627 = .ok (.iadd, 1) := by decide +kernel
theorem d_lw_law_628 : decode code 628 = .ok (.iaload, 1) := by decide +kernel
theorem d_lw_law_629 : decode code 629 = .ok (.aload_n 0, 1) := by decide +kernel
theorem d_lw_law_630 : decode code 630 = .ok (.iload_n 3, 1) := by decide +kernel
theorem d_lw_law_631 : decode code 631 = .ok (.iconst 2, 1) := by decide +kernel
theorem d_lw_law_632 : decode code 632 = .ok (.iadd, 1) := by decide +kernel
theorem d_lw_law_633 : decode code 633 = .ok (.iaload, 1) := by decide +kernel
theorem d_lw_law_634 : decode code 634 = .ok (.aload_n 0, 1) := by decide +kernel
theorem d_lw_law_635 : decode code 635 = .ok (.iload_n 3, 1) := by decide +kernel
theorem d_lw_law_636 : decode code 636 = .ok (.iconst 3, 1) := by decide +kernel
theorem d_lw_law_637 : decode code 637 = .ok (.iadd, 1) := by decide +kernel
theorem d_lw_law_638 : decode code 638 = .ok (.iaload, 1) := by decide +kernel
theorem d_lw_law_639 : decode code 639 = .ok (.invokevirtual 78, 3) := by decide +kernel
theorem d_lw_law_642 : decode code 642 = .ok (.aload_n 2, 1) := by decide +kernel
theorem d_lw_law_643 : decode code 643 = .ok (.aload_n 0, 1) := by decide +kernel
theorem d_lw_law_644 : decode code 644 = .ok (.iload_n 3, 1) := by decide +kernel
theorem d_lw_law_645 : decode code 645 = .ok (.iconst 1, 1) := by decide +kernel
theorem d_lw_law_646 : decode code 646 = .ok (.iadd, 1) := by decide +kernel
theorem d_lw_law_647 : decode code 647 = .ok (.iaload, 1) := by decide +kernel
theorem d_lw_law_648 : decode code 648 = .ok (.aload_n 0, 1) := by decide +kernel
theorem d_lw_law_649 : decode code 649 = .ok (.iload_n 3, 1) := by decide +kernel
theorem d_lw_law_650 : decode code 650 = .ok (.iconst 2, 1) := by decide +kernel
theorem d_lw_law_651 : decode code 651 = .ok (.iadd, 1) := by decide +kernel
theorem d_lw_law_652 : decode code 652 = .ok (.iaload, 1) := by decide +kernel
theorem d_lw_law_653 : decode code 653 = .ok (.aload_n 0, 1) := by decide +kernel
theorem d_lw_law_654 : decode code 654 = .ok (.iload_n 3, 1) := by decide +kernel
theorem d_lw_law_655 : decode code 655 = .ok (.iconst 3, 1) := by decide +kernel
theorem d_lw_law_656 : decode code 656 = .ok (.iadd, 1) := by decide +kernel
theorem d_lw_law_657 : decode code 657 = .ok (.iaload, 1) := by decide +kernel
theorem d_lw_law_658 : decode code 658 = .ok (.invokevirtual 81, 3) := by decide +kernel
theorem d_lw_law_661 : decode code 661 = .ok (.if_icmp .eq 706, 3) := by decide +kernel
theorem d_lw_law_664 : decode code 664 = .ok (.iconst 0, 1) := by decide +kernel
theorem d_lw_law_665 : decode code 665 = .ok (.ireturn, 1) := by decide +kernel
theorem d_lw_law_666 : decode code 666 = .ok (.aload_n 1, 1) := by decide +kernel
theorem d_lw_law_667 : decode code 667 = .ok (.aload_n 0, 1) := by decide +kernel
theorem d_lw_law_668 : decode code 668 = .ok (.iload_n 3, 1) := by decide +kernel
theorem d_lw_law_669 : decode code 669 = .ok (.iconst 1, 1) := by decide +kernel
theorem d_lw_law_670 : decode code 670 = .ok (.iadd, 1) := by decide +kernel
theorem d_lw_law_671 : decode code 671 = .ok (.iaload, 1) := by decide +kernel
theorem d_lw_law_672 : decode code 672 = .ok (.aload_n 0, 1) := by decide +kernel
theorem d_lw_law_673 : decode code 673 = .ok (.iload_n 3, 1) := by decide +kernel
theorem d_lw_law_674 : decode code 674 = .ok (.iconst 2, 1) := by decide +kernel
theorem d_lw_law_675 : decode code 675 = .ok (.iadd, 1) := by decide +kernel
theorem d_lw_law_676 : decode code 676 = .ok (.iaload, 1) := by decide +kernel
theorem d_lw_law_677 : decode code 677 = .ok (.aload_n 0, 1) := by decide +kernel
theorem d_lw_law_678 : decode code 678 = .ok (.iload_n 3, 1) := by decide +kernel
theorem d_lw_law_679 : decode code 679 = .ok (.iconst 3, 1) := by decide +kernel
theorem d_lw_law_680 : decode code 680 = .ok (.iadd, 1) := by decide +kernel
theorem d_lw_law_681 : decode code 681 = .ok (.iaload, 1) := by decide +kernel
theorem d_lw_law_682 : decode code 682 = .ok (.invokevirtual 82, 3) := by decide +kernel
theorem d_lw_law_685 : decode code 685 = .ok (.aload_n 2, 1) := by decide +kernel
theorem d_lw_law_686 : decode code 686 = .ok (.aload_n 0, 1) := by decide +kernel
theorem d_lw_law_687 : decode code 687 = .ok (.iload_n 3, 1) := by decide +kernel
theorem d_lw_law_688 : decode code 688 = .ok (.iconst 1, 1) := by decide +kernel
theorem d_lw_law_689 : decode code 689 = .ok (.iadd, 1) := by decide +kernel
theorem d_lw_law_690 : decode code 690 = .ok (.iaload, 1) := by decide +kernel
theorem d_lw_law_691 : decode code 691 = .ok (.aload_n 0, 1) := by decide +kernel
theorem d_lw_law_692 : decode code 692 = .ok (.iload_n 3, 1) := by decide +kernel
theorem d_lw_law_693 : decode code 693 = .ok (.iconst 2, 1) := by decide +kernel
theorem d_lw_law_694 : decode code 694 = .ok (.iadd, 1) := by decide +kernel
theorem d_lw_law_695 : decode code 695 = .ok (.iaload, 1) := by decide +kernel
theorem d_lw_law_696 : decode code 696 = .ok (.aload_n 0, 1) := by decide +kernel
theorem d_lw_law_697 : decode code 697 = .ok (.iload_n 3, 1) := by decide +kernel
theorem d_lw_law_698 : decode code 698 = .ok (.iconst 3, 1) := by decide +kernel
theorem d_lw_law_699 : decode code 699 = .ok (.iadd, 1) := by decide +kernel
theorem d_lw_law_700 : decode code 700 = .ok (.iaload, 1) := by decide +kernel
theorem d_lw_law_701 : decode code 701 = .ok (.invokevirtual 85, 3) := by decide +kernel
theorem d_lw_law_704 : decode code 704 = .ok (.if_icmp .eq 663, 3) := by decide +kernel
theorem d_lw_law_707 : decode code 707 = .ok (.iconst 0, 1) := by decide +kernel
theorem d_lw_law_708 : decode code 708 = .ok (.ireturn, 1) := by decide +kernel
theorem d_lw_law_709 : decode code 709 = .ok (.aload_n 1, 1) := by decide +kernel
theorem d_lw_law_710 : decode code 710 = .ok (.aload_n 0, 1) := by decide +kernel
theorem d_lw_law_711 : decode code 711 = .ok (.iload_n 3, 1) := by decide +kernel
theorem d_lw_law_712 : decode code 712 = .ok (.iconst 1, 1) := by decide +kernel
theorem d_lw_law_713 : decode code 713 = .ok (.iadd, 1) := by decide +kernel
theorem d_lw_law_714 : decode code 714 = .ok (.iaload, 1) := by decide +kernel
theorem d_lw_law_715 : decode code 715 = .ok (.aload_n 0, 1) := by decide +kernel
theorem d_lw_law_716 : decode code 716 = .ok (.iload_n 3, 1) := by decide +kernel
theorem d_lw_law_717 : decode code 717 = .ok (.iconst 2, 1) := by decide +kernel
theorem d_lw_law_718 : decode code 718 = .ok (.iadd, 1) := by decide +kernel
theorem d_lw_law_719 : decode code 719 = .ok (.iaload, 1) := by decide +kernel
theorem d_lw_law_720 : decode code 720 = .ok (.aload_n 0, 1) := by decide +kernel
theorem d_lw_law_721 : decode code 721 = .ok (.iload_n 3, 1) := by decide +kernel
theorem d_lw_law_722 : decode code 722 = .ok (.iconst 3, 1) := by decide +kernel
theorem d_lw_law_723 : decode code 723 = .ok (.iadd, 1) := by decide +kernel
theorem d_lw_law_724 : decode code 724 = .ok (.iaload, 1) := by decide +kernel
theorem d_lw_law_725 : decode code 725 = .ok (.invokevirtual 86, 3) := by decide +kernel
theorem d_lw_law_728 : decode code 728 = .ok (.aload_n 2, 1) := by decide +kernel
theorem d_lw_law_729 : decode code 729 = .ok (.aload_n 0, 1) := by decide +kernel
theorem d_lw_law_730 : decode code 730 = .ok (.iload_n 3, 1) := by decide +kernel
theorem d_lw_law_731 : decode code 731 = .ok (.iconst 1, 1) := by decide +kernel
theorem d_lw_law_732 : decode code 732 = .ok (.iadd, 1) := by decide +kernel
theorem d_lw_law_733 : decode code 733 = .ok (.iaload, 1) := by decide +kernel
theorem d_lw_law_734 : decode code 734 = .ok (.aload_n 0, 1) := by decide +kernel
theorem d_lw_law_735 : decode code 735 = .ok (.iload_n 3, 1) := by decide +kernel
theorem d_lw_law_736 : decode code 736 = .ok (.iconst 2, 1) := by decide +kernel
theorem d_lw_law_737 : decode code 737 = .ok (.iadd, 1) := by decide +kernel
theorem d_lw_law_738 : decode code 738 = .ok (.iaload, 1) := by decide +kernel
theorem d_lw_law_739 : decode code 739 = .ok (.aload_n 0, 1) := by decide +kernel
theorem d_lw_law_740 : decode code 740 = .ok (.iload_n 3, 1) := by decide +kernel
theorem d_lw_law_741 : decode code 741 = .ok (.iconst 3, 1) := by decide +kernel
theorem d_lw_law_742 : decode code 742 = .ok (.iadd, 1) := by decide +kernel
theorem d_lw_law_743 : decode code 743 = .ok (.iaload, 1) := by decide +kernel
theorem d_lw_law_744 : decode code 744 = .ok (.invokevirtual 89, 3) := by decide +kernel
theorem d_lw_law_747 : decode code 747 = .ok (.if_icmp .eq 620, 3) := by decide +kernel
theorem d_lw_law_750 : decode code 750 = .ok (.iconst 0, 1) := by decide +kernel
theorem d_lw_law_751 : decode code 751 = .ok (.ireturn, 1) := by decide +kernel
theorem d_lw_law_752 : decode code 752 = .ok (.aload_n 1, 1) := by decide +kernel
theorem d_lw_law_753 : decode code 753 = .ok (.aload_n 0, 1) := by decide +kernel
