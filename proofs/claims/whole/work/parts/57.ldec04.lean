/-! decode rows of the law -/
theorem d_lw_law_754 : decode code 754 = .ok (.iload_n 3, 1) := by decide +kernel
theorem d_lw_law_755 : decode code 755 = .ok (.iconst 1, 1) := by decide +kernel
theorem d_lw_law_756 : decode code 756 = .ok (.iadd, 1) := by decide +kernel
theorem d_lw_law_757 : decode code 757 = .ok (.iaload, 1) := by decide +kernel
theorem d_lw_law_758 : decode code 758 = .ok (.aload_n 0, 1) := by decide +kernel
theorem d_lw_law_759 : decode code 759 = .ok (.iload_n 3, 1) := by decide +kernel
theorem d_lw_law_760 : decode code 760 = .ok (.iconst 2, 1) := by decide +kernel
theorem d_lw_law_761 : decode code 761 = .ok (.iadd, 1) := by decide +kernel
theorem d_lw_law_762 : decode code 762 = .ok (.iaload, 1) := by decide +kernel
theorem d_lw_law_763 : decode code 763 = .ok (.invokevirtual 90, 3) := by decide +kernel
theorem d_lw_law_766 : decode code 766 = .ok (.aload_n 2, 1) := by decide +kernel
theorem d_lw_law_767 : decode code 767 = .ok (.aload_n 0, 1) := by decide +kernel
theorem d_lw_law_768 : decode code 768 = .ok (.iload_n 3, 1) := by decide +kernel
theorem d_lw_law_769 : decode code 769 = .ok (.iconst 1, 1) := by decide +kernel
theorem d_lw_law_770 : decode code 770 = .ok (.iadd, 1) := by decide +kernel
theorem d_lw_law_771 : decode code 771 = .ok (.iaload, 1) := by decide +kernel
theorem d_lw_law_772 : decode code 772 = .ok (.aload_n 0, 1) := by decide +kernel
theorem d_lw_law_773 : decode code 773 = .ok (.iload_n 3, 1) := by decide +kernel
theorem d_lw_law_774 : decode code 774 = .ok (.iconst 2, 1) := by decide +kernel
theorem d_lw_law_775 : decode code 775 = .ok (.iadd, 1) := by decide +kernel
theorem d_lw_law_776 : decode code 776 = .ok (.iaload, 1) := by decide +kernel
theorem d_lw_law_777 : decode code 777 = .ok (.invokevirtual 93, 3) := by decide +kernel
theorem d_lw_law_780 : decode code 780 = .ok (.if_icmp .eq 587, 3) := by decide +kernel
theorem d_lw_law_783 : decode code 783 = .ok (.iconst 0, 1) := by decide +kernel
theorem d_lw_law_784 : decode code 784 = .ok (.ireturn, 1) := by decide +kernel
theorem d_lw_law_785 : decode code 785 = .ok (.aload_n 1, 1) := by decide +kernel
theorem d_lw_law_786 : decode code 786 = .ok (.aload_n 0, 1) := by decide +kernel
theorem d_lw_law_787 : decode code 787 = .ok (.iload_n 3, 1) := by decide +kernel
theorem d_lw_law_788 : decode code 788 = .ok (.iconst 1, 1) := by decide +kernel
theorem d_lw_law_789 : decode code 789 = .ok (.iadd, 1) := by decide +kernel
theorem d_lw_law_790 : decode code 790 = .ok (.iaload, 1) := by decide +kernel
theorem d_lw_law_791 : decode code 791 = .ok (.aload_n 0, 1) := by decide +kernel
theorem d_lw_law_792 : decode code 792 = .ok (.iload_n 3, 1) := by decide +kernel
theorem d_lw_law_793 : decode code 793 = .ok (.iconst 2, 1) := by decide +kernel
theorem d_lw_law_794 : decode code 794 = .ok (.iadd, 1) := by decide +kernel
theorem d_lw_law_795 : decode code 795 = .ok (.iaload, 1) := by decide +kernel
theorem d_lw_law_796 : decode code 796 = .ok (.invokevirtual 94, 3) := by decide +kernel
theorem d_lw_law_799 : decode code 799 = .ok (.aload_n 2, 1) := by decide +kernel
theorem d_lw_law_800 : decode code 800 = .ok (.aload_n 0, 1) := by decide +kernel
theorem d_lw_law_801 : decode code 801 = .ok (.iload_n 3, 1) := by decide +kernel
theorem d_lw_law_802 : decode code 802 = .ok (.iconst 1, 1) := by decide +kernel
theorem d_lw_law_803 : decode code 803 = .ok (.iadd, 1) := by decide +kernel
theorem d_lw_law_804 : decode code 804 = .ok (.iaload, 1) := by decide +kernel
theorem d_lw_law_805 : decode code 805 = .ok (.aload_n 0, 1) := by decide +kernel
theorem d_lw_law_806 : decode code 806 = .ok (.iload_n 3, 1) := by decide +kernel
theorem d_lw_law_807 : decode code 807 = .ok (.iconst 2, 1) := by decide +kernel
theorem d_lw_law_808 : decode code 808 = .ok (.iadd, 1) := by decide +kernel
theorem d_lw_law_809 : decode code 809 = .ok (.iaload, 1) := by decide +kernel
theorem d_lw_law_810 : decode code 810 = .ok (.invokevirtual 97, 3) := by decide +kernel
theorem d_lw_law_813 : decode code 813 = .ok (.if_icmp .eq 554, 3) := by decide +kernel
theorem d_lw_law_816 : decode code 816 = .ok (.iconst 0, 1) := by decide +kernel
theorem d_lw_law_817 : decode code 817 = .ok (.ireturn, 1) := by decide +kernel
theorem d_lw_law_818 : decode code 818 = .ok (.aload_n 1, 1) := by decide +kernel
theorem d_lw_law_819 : decode code 819 = .ok (.aload_n 0, 1) := by decide +kernel
theorem d_lw_law_820 : decode code 820 = .ok (.iload_n 3, 1) := by decide +kernel
theorem d_lw_law_821 : decode code 821 = .ok (.iconst 1, 1) := by decide +kernel
theorem d_lw_law_822 : decode code 822 = .ok (.iadd, 1) := by decide +kernel
theorem d_lw_law_823 : decode code 823 = .ok (.iaload, 1) := by decide +kernel
theorem d_lw_law_824 : decode code 824 = .ok (.invokevirtual 98, 3) := by decide +kernel
theorem d_lw_law_827 : decode code 827 = .ok (.aload_n 2, 1) := by decide +kernel
theorem d_lw_law_828 : decode code 828 = .ok (.aload_n 0, 1) := by decide +kernel
theorem d_lw_law_829 : decode code 829 = .ok (.iload_n 3, 1) := by decide +kernel
theorem d_lw_law_830 : decode code 830 = .ok (.iconst 1, 1) := by decide +kernel
theorem d_lw_law_831 : decode code 831 = .ok (.iadd, 1) := by decide +kernel
theorem d_lw_law_832 : decode code 832 = .ok (.iaload, 1) := by decide +kernel
theorem d_lw_law_833 : decode code 833 = .ok (.invokevirtual 101, 3) := by decide +kernel
theorem d_lw_law_836 : decode code 836 = .ok (.if_icmp .eq 531, 3) := by decide +kernel
theorem d_lw_law_839 : decode code 839 = .ok (.iconst 0, 1) := by decide +kernel
theorem d_lw_law_840 : decode code 840 = .ok (.ireturn, 1) := by decide +kernel
theorem d_lw_law_841 : decode code 841 = .ok (.aload_n 1, 1) := by decide +kernel
theorem d_lw_law_842 : decode code 842 = .ok (.aload_n 0, 1) := by decide +kernel
theorem d_lw_law_843 : decode code 843 = .ok (.iload_n 3, 1) := by decide +kernel
theorem d_lw_law_844 : decode code 844 = .ok (.iconst 1, 1) := by decide +kernel
theorem d_lw_law_845 : decode code 845 = .ok (.iadd, 1) := by decide +kernel
theorem d_lw_law_846 : decode code 846 = .ok (.iaload, 1) := by decide +kernel
theorem d_lw_law_847 : decode code 847 = .ok (.invokevirtual 102, 3) := by decide +kernel
theorem d_lw_law_850 : decode code 850 = .ok (.aload_n 2, 1) := by decide +kernel
theorem d_lw_law_851 : decode code 851 = .ok (.aload_n 0, 1) := by decide +kernel
theorem d_lw_law_852 : decode code 852 = .ok (.iload_n 3, 1) := by decide +kernel
theorem d_lw_law_853 : decode code 853 = .ok (.iconst 1, 1) := by decide +kernel
theorem d_lw_law_854 : decode code 854 = .ok (.iadd, 1) := by decide +kernel
theorem d_lw_law_855 : decode code 855 = .ok (.iaload, 1) := by decide +kernel
theorem d_lw_law_856 : decode code 856 = .ok (.invokevirtual 105, 3) := by decide +kernel
theorem d_lw_law_859 : decode code 859 = .ok (.if_icmp .eq 508, 3) := by decide +kernel
theorem d_lw_law_862 : decode code 862 = .ok (.iconst 0, 1) := by decide +kernel
theorem d_lw_law_863 : decode code 863 = .ok (.ireturn, 1) := by decide +kernel
theorem d_lw_law_864 : decode code 864 = .ok (.aload_n 1, 1) := by decide +kernel
theorem d_lw_law_865 : decode code 865 = .ok (.aload_n 0, 1) := by decide +kernel
theorem d_lw_law_866 : decode code 866 = .ok (.iload_n 3, 1) := by decide +kernel
theorem d_lw_law_867 : decode code 867 = .ok (.iconst 1, 1) := by decide +kernel
theorem d_lw_law_868 : decode code 868 = .ok (.iadd, 1) := by decide +kernel
theorem d_lw_law_869 : decode code 869 = .ok (.iaload, 1) := by decide +kernel
theorem d_lw_law_870 : decode code 870 = .ok (.aload_n 0, 1) := by decide +kernel
theorem d_lw_law_871 : decode code 871 = .ok (.iload_n 3, 1) := by decide +kernel
theorem d_lw_law_872 : decode code 872 = .ok (.iconst 2, 1) := by decide +kernel
theorem d_lw_law_873 : decode code 873 = .ok (.iadd, 1) := by decide +kernel
theorem d_lw_law_874 : decode code 874 = .ok (.iaload, 1) := by decide +kernel
theorem d_lw_law_875 : decode code 875 = .ok (.invokevirtual 106, 3) := by decide +kernel
theorem d_lw_law_878 : decode code 878 = .ok (.aload_n 2, 1) := by decide +kernel
theorem d_lw_law_879 : decode code 879 = .ok (.aload_n 0, 1) := by decide +kernel
theorem d_lw_law_880 : decode code 880 = .ok (.iload_n 3, 1) := by decide +kernel
theorem d_lw_law_881 : decode code 881 = .ok (.iconst 1, 1) := by decide +kernel
theorem d_lw_law_882 : decode code 882 = .ok (.iadd, 1) := by decide +kernel
theorem d_lw_law_883 : decode code 883 = .ok (.iaload, 1) := by decide +kernel
theorem d_lw_law_884 : decode code 884 = .ok (.aload_n 0, 1) := by decide +kernel
theorem d_lw_law_885 : decode code 885 = .ok (.iload_n 3, 1) := by decide +kernel
theorem d_lw_law_886 : decode code 886 = .ok (.iconst 2, 1) := by decide +kernel
theorem d_lw_law_887 : decode code 887 = .ok (.iadd, 1) := by decide +kernel
theorem d_lw_law_888 : decode code 888 = .ok (.iaload, 1) := by decide +kernel
theorem d_lw_law_889 : decode code 889 = .ok (.invokevirtual 109, 3) := by decide +kernel
theorem d_lw_law_892 : decode code 892 = .ok (.if_icmp .eq 475, 3) := by decide +kernel
theorem d_lw_law_895 : decode code 895 = .ok (.iconst 0, 1) := by decide +kernel
theorem d_lw_law_896 : decode code 896 = .ok (.ireturn, 1) := by decide +kernel
theorem d_lw_law_897 : decode code 897 = .ok (.aload_n 1, 1) := by decide +kernel
theorem d_lw_law_898 : decode code 898 = .ok (.aload_n 0, 1) := by decide +kernel
theorem d_lw_law_899 : decode code 899 = .ok (.iload_n 3, 1) := by decide +kernel
theorem d_lw_law_900 : decode code 900 = .ok (.iconst 1, 1) := by decide +kernel
theorem d_lw_law_901 : decode code 901 = .ok (.iadd, 1) := by decide +kernel
theorem d_lw_law_902 : decode code 902 = .ok (.iaload, 1) := by decide +kernel
theorem d_lw_law_903 : decode code 903 = .ok (.invokevirtual 110, 3) := by decide +kernel
