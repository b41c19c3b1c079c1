/-! the law's cases -/
set_option maxHeartbeats 4000000 in
theorem lw_c21 {G : GT} {k z : Nat} {Q : QT} {S : ST} {M : MT} (ok : okST S) (h : RC S M) (g : RM S M) (i : Nat) (hi : i + 7 ≤ G.2.2.2.2.2.1) (hL : G.2.2.2.2.2.1 ≤ 448) (hk : k ≤ 600000) (hz : z ≤ 7302250) (kk : ∀ S' M', okST S' → RC S' M' → RM S' M' → Wp G J_lw_law k z 1367 [(0, pR 1001), (1, pR 0), (2, pR 101), (3, pI (i : Int))] [] NN RF M' Q) : Wp G J_lw_law k z 841 [(0, pR 1001), (1, pR 0), (2, pR 101), (3, pI (i : Int))] [] NN RF M Q := by
  refine wp_aload_n d_lw_law_841 rfl 1 rfl ?_
  refine lw_arg 1 (by omega) d_lw_law_842 d_lw_law_843 d_lw_law_844 d_lw_law_845 d_lw_law_846 hi hL ?_
  refine wp_callV [pI _] 0 d_lw_law_847 jd_tl_mothers lk_lw_102 rfl s_0 rfl (Nat.le_of_ble_eq_true rfl) (Nat.le_of_ble_eq_true rfl) (rm_kz rfl hk hz) ?_
  refine clI_k (P := fun x M1 => Wp G J_lw_law k z 850 [(0, pR 1001), (1, pR 0), (2, pR 101), (3, pI (i : Int))] [pI x] NN RF M1 Q) (c_tl_mothers ok.d h.cd _ (fun M1 f1 => ?_)) (fun _ _ hx => hx)
  have r1 := h.fc ok f1.fc (h.2.2.2.2.2.fq ok.d f1)
  have g1 := g.fx f1.fc.fx
  refine wp_aload_n d_lw_law_850 rfl 2 rfl ?_
  refine lw_arg 1 (by omega) d_lw_law_851 d_lw_law_852 d_lw_law_853 d_lw_law_854 d_lw_law_855 hi hL ?_
  refine wp_callV [pI _] 101 d_lw_law_856 jd_mo_mothers lk_lw_105 rfl s_101 rfl (Nat.le_of_ble_eq_true rfl) (Nat.le_of_ble_eq_true rfl) (rm_kz rfl hk hz) ?_
  refine clI_k (P := fun y M2 => Wp G J_lw_law k z 859 [(0, pR 1001), (1, pR 0), (2, pR 101), (3, pI (i : Int))] [pI y, pI _] NN RF M2 Q) (c_mo_mothers ok.d (g1.rd ok) _ (fun M2 f2 => ?_)) (fun _ _ hx => hx)
  exact wp_icmp_eq 1367 d_lw_law_859 (by decide) (fun _ => kk S M2 ok (r1.fo ok f2.fo) (g1.fa f2)) (fun c => absurd rfl c)
set_option maxHeartbeats 4000000 in
theorem lw_c22 {G : GT} {k z : Nat} {Q : QT} {S : ST} {M : MT} (ok : okST S) (h : RC S M) (g : RM S M) (i : Nat) (hi : i + 7 ≤ G.2.2.2.2.2.1) (hL : G.2.2.2.2.2.1 ≤ 448) (hk : k ≤ 600000) (hz : z ≤ 7302250) (kk : ∀ S' M', okST S' → RC S' M' → RM S' M' → Wp G J_lw_law k z 1367 [(0, pR 1001), (1, pR 0), (2, pR 101), (3, pI (i : Int))] [] NN RF M' Q) : Wp G J_lw_law k z 864 [(0, pR 1001), (1, pR 0), (2, pR 101), (3, pI (i : Int))] [] NN RF M Q := by
  refine wp_aload_n d_lw_law_864 rfl 1 rfl ?_
  refine lw_arg 1 (by omega) d_lw_law_865 d_lw_law_866 d_lw_law_867 d_lw_law_868 d_lw_law_869 hi hL ?_
  refine lw_arg 2 (by omega) d_lw_law_870 d_lw_law_871 d_lw_law_872 d_lw_law_873 d_lw_law_874 hi hL ?_
  refine wp_callV [pI _, pI _] 0 d_lw_law_875 jd_tl_tells lk_lw_106 rfl s_0 rfl (Nat.le_of_ble_eq_true rfl) (Nat.le_of_ble_eq_true rfl) (rm_kz rfl hk hz) ?_
  refine clI_k (P := fun x M1 => Wp G J_lw_law k z 878 [(0, pR 1001), (1, pR 0), (2, pR 101), (3, pI (i : Int))] [pI x] NN RF M1 Q) (c_tl_tells ok.d h.cd _ _ ?_) (fun _ _ hx => hx)
  have g1 := g
  have r1 := h
  refine wp_aload_n d_lw_law_878 rfl 2 rfl ?_
  refine lw_arg 1 (by omega) d_lw_law_879 d_lw_law_880 d_lw_law_881 d_lw_law_882 d_lw_law_883 hi hL ?_
  refine lw_arg 2 (by omega) d_lw_law_884 d_lw_law_885 d_lw_law_886 d_lw_law_887 d_lw_law_888 hi hL ?_
  refine wp_callV [pI _, pI _] 101 d_lw_law_889 jd_mo_tells lk_lw_109 rfl s_101 rfl (Nat.le_of_ble_eq_true rfl) (Nat.le_of_ble_eq_true rfl) (rm_kz rfl hk hz) ?_
  refine clI_k (P := fun y M2 => Wp G J_lw_law k z 892 [(0, pR 1001), (1, pR 0), (2, pR 101), (3, pI (i : Int))] [pI y, pI _] NN RF M2 Q) (c_mo_tells ok.d (g1.rd ok) _ _ (fun M2 f2 => ?_)) (fun _ _ hx => hx)
  exact wp_icmp_eq 1367 d_lw_law_892 (by decide) (fun _ => kk S M2 ok (r1.fo ok f2.fo) (g1.fa f2)) (fun c => absurd rfl c)
set_option maxHeartbeats 4000000 in
theorem lw_c23 {G : GT} {k z : Nat} {Q : QT} {S : ST} {M : MT} (ok : okST S) (h : RC S M) (g : RM S M) (i : Nat) (hi : i + 7 ≤ G.2.2.2.2.2.1) (hL : G.2.2.2.2.2.1 ≤ 448) (hk : k ≤ 600000) (hz : z ≤ 7302250) (kk : ∀ S' M', okST S' → RC S' M' → RM S' M' → Wp G J_lw_law k z 1367 [(0, pR 1001), (1, pR 0), (2, pR 101), (3, pI (i : Int))] [] NN RF M' Q) : Wp G J_lw_law k z 897 [(0, pR 1001), (1, pR 0), (2, pR 101), (3, pI (i : Int))] [] NN RF M Q := by
  refine wp_aload_n d_lw_law_897 rfl 1 rfl ?_
  refine lw_arg 1 (by omega) d_lw_law_898 d_lw_law_899 d_lw_law_900 d_lw_law_901 d_lw_law_902 hi hL ?_
  refine wp_callV [pI _] 0 d_lw_law_903 jd_tl_loses lk_lw_110 rfl s_0 rfl (Nat.le_of_ble_eq_true rfl) (Nat.le_of_ble_eq_true rfl) (rm_kz rfl hk hz) ?_
  refine clI_k (P := fun x M1 => Wp G J_lw_law k z 906 [(0, pR 1001), (1, pR 0), (2, pR 101), (3, pI (i : Int))] [pI x] NN RF M1 Q) (c_tl_loses ok.d h.qc _ (fun M1 f1 k1 => ?_)) (fun _ _ hx => hx)
  have r1 := h.fc ok f1 k1
  have g1 := g.fx f1.fx
  refine wp_aload_n d_lw_law_906 rfl 2 rfl ?_
  refine lw_arg 1 (by omega) d_lw_law_907 d_lw_law_908 d_lw_law_909 d_lw_law_910 d_lw_law_911 hi hL ?_
  refine wp_callV [pI _] 101 d_lw_law_912 jd_mo_loses lk_lw_113 rfl s_101 rfl (Nat.le_of_ble_eq_true rfl) (Nat.le_of_ble_eq_true rfl) (rm_kz rfl hk hz) ?_
  refine clI_k (P := fun y M2 => Wp G J_lw_law k z 915 [(0, pR 1001), (1, pR 0), (2, pR 101), (3, pI (i : Int))] [pI y, pI _] NN RF M2 Q) (c_mo_loses ok.d (g1.rd ok) _ (fun M2 f2 => ?_)) (fun _ _ hx => hx)
  exact wp_icmp_eq 1367 d_lw_law_915 (by decide) (fun _ => kk S M2 ok (r1.fo ok f2.fo) (g1.fa f2)) (fun c => absurd rfl c)
set_option maxHeartbeats 4000000 in
theorem lw_c24 {G : GT} {k z : Nat} {Q : QT} {S : ST} {M : MT} (ok : okST S) (h : RC S M) (g : RM S M) (i : Nat) (hi : i + 7 ≤ G.2.2.2.2.2.1) (hL : G.2.2.2.2.2.1 ≤ 448) (hk : k ≤ 600000) (hz : z ≤ 7302250) (kk : ∀ S' M', okST S' → RC S' M' → RM S' M' → Wp G J_lw_law k z 1367 [(0, pR 1001), (1, pR 0), (2, pR 101), (3, pI (i : Int))] [] NN RF M' Q) : Wp G J_lw_law k z 920 [(0, pR 1001), (1, pR 0), (2, pR 101), (3, pI (i : Int))] [] NN RF M Q := by
  refine wp_aload_n d_lw_law_920 rfl 1 rfl ?_
  refine lw_arg 1 (by omega) d_lw_law_921 d_lw_law_922 d_lw_law_923 d_lw_law_924 d_lw_law_925 hi hL ?_
  refine wp_callV [pI _] 0 d_lw_law_926 jd_tl_best lk_lw_114 rfl s_0 rfl (Nat.le_of_ble_eq_true rfl) (Nat.le_of_ble_eq_true rfl) (rm_kz rfl hk hz) ?_
  refine clI_k (P := fun x M1 => Wp G J_lw_law k z 929 [(0, pR 1001), (1, pR 0), (2, pR 101), (3, pI (i : Int))] [pI x] NN RF M1 Q) (c_tl_best ok.d h.qc _ (fun M1 f1 k1 => ?_)) (fun _ _ hx => hx)
  have r1 := h.fc ok f1 k1
  have g1 := g.fx f1.fx
  refine wp_aload_n d_lw_law_929 rfl 2 rfl ?_
  refine lw_arg 1 (by omega) d_lw_law_930 d_lw_law_931 d_lw_law_932 d_lw_law_933 d_lw_law_934 hi hL ?_
  refine wp_callV [pI _] 101 d_lw_law_935 jd_mo_best lk_lw_117 rfl s_101 rfl (Nat.le_of_ble_eq_true rfl) (Nat.le_of_ble_eq_true rfl) (rm_kz rfl hk hz) ?_
  refine clI_k (P := fun y M2 => Wp G J_lw_law k z 938 [(0, pR 1001), (1, pR 0), (2, pR 101), (3, pI (i : Int))] [pI y, pI _] NN RF M2 Q) (c_mo_best ok.d (g1.rd ok) _ (fun M2 f2 => ?_)) (fun _ _ hx => hx)
  exact wp_icmp_eq 1367 d_lw_law_938 (by decide) (fun _ => kk S M2 ok (r1.fo ok f2.fo) (g1.fa f2)) (fun c => absurd rfl c)
set_option maxHeartbeats 4000000 in
theorem lw_c25 {G : GT} {k z : Nat} {Q : QT} {S : ST} {M : MT} (ok : okST S) (h : RC S M) (g : RM S M) (i : Nat) (hi : i + 7 ≤ G.2.2.2.2.2.1) (hL : G.2.2.2.2.2.1 ≤ 448) (hk : k ≤ 600000) (hz : z ≤ 7302250) (kk : ∀ S' M', okST S' → RC S' M' → RM S' M' → Wp G J_lw_law k z 1367 [(0, pR 1001), (1, pR 0), (2, pR 101), (3, pI (i : Int))] [] NN RF M' Q) : Wp G J_lw_law k z 943 [(0, pR 1001), (1, pR 0), (2, pR 101), (3, pI (i : Int))] [] NN RF M Q := by
  refine wp_aload_n d_lw_law_943 rfl 1 rfl ?_
  refine lw_arg 1 (by omega) d_lw_law_944 d_lw_law_945 d_lw_law_946 d_lw_law_947 d_lw_law_948 hi hL ?_
  refine lw_arg 2 (by omega) d_lw_law_949 d_lw_law_950 d_lw_law_951 d_lw_law_952 d_lw_law_953 hi hL ?_
  refine lw_arg 3 (by omega) d_lw_law_954 d_lw_law_955 d_lw_law_956 d_lw_law_957 d_lw_law_958 hi hL ?_
  refine lw_arg 4 (by omega) d_lw_law_959 d_lw_law_960 d_lw_law_961 d_lw_law_962 d_lw_law_963 hi hL ?_
  refine lw_arg 5 (by omega) d_lw_law_964 d_lw_law_965 d_lw_law_966 d_lw_law_967 d_lw_law_968 hi hL ?_
  refine lw_argb 6 (by omega) d_lw_law_969 d_lw_law_970 d_lw_law_971 d_lw_law_973 d_lw_law_974 hi hL ?_
  refine wp_callV [pI _, pI _, pI _, pI _, pI _, pI _] 0 d_lw_law_975 jd_tl_hums lk_lw_118 rfl s_0 rfl (Nat.le_of_ble_eq_true rfl) (Nat.le_of_ble_eq_true rfl) (rm_kz rfl hk hz) ?_
  refine clL_k (P := fun x M1 => Wp G J_lw_law k z 978 [(0, pR 1001), (1, pR 0), (2, pR 101), (3, pI (i : Int))] [pL x] NN RF M1 Q) (c_tl_hums ok.d h.cd _ _ _ _ _ _ (fun M1 f1 => ?_)) (fun _ _ hx => hx)
  have r1 := h.fc ok f1.fc (h.2.2.2.2.2.fq ok.d f1)
  have g1 := g.fx f1.fc.fx
  refine wp_aload_n d_lw_law_978 rfl 2 rfl ?_
  refine lw_arg 1 (by omega) d_lw_law_979 d_lw_law_980 d_lw_law_981 d_lw_law_982 d_lw_law_983 hi hL ?_
  refine lw_arg 2 (by omega) d_lw_law_984 d_lw_law_985 d_lw_law_986 d_lw_law_987 d_lw_law_988 hi hL ?_
  refine lw_arg 3 (by omega) d_lw_law_989 d_lw_law_990 d_lw_law_991 d_lw_law_992 d_lw_law_993 hi hL ?_
  refine lw_arg 4 (by omega) d_lw_law_994 d_lw_law_995 d_lw_law_996 d_lw_law_997 d_lw_law_998 hi hL ?_
  refine lw_arg 5 (by omega) d_lw_law_999 d_lw_law_1000 d_lw_law_1001 d_lw_law_1002 d_lw_law_1003 hi hL ?_
  refine lw_argb 6 (by omega) d_lw_law_1004 d_lw_law_1005 d_lw_law_1006 d_lw_law_1008 d_lw_law_1009 hi hL ?_
  refine wp_callV [pI _, pI _, pI _, pI _, pI _, pI _] 101 d_lw_law_1010 jd_mo_hums lk_lw_122 rfl s_101 rfl (Nat.le_of_ble_eq_true rfl) (Nat.le_of_ble_eq_true rfl) (rm_kz rfl hk hz) ?_
  refine clL_k (P := fun y M2 => Wp G J_lw_law k z 1013 [(0, pR 1001), (1, pR 0), (2, pR 101), (3, pI (i : Int))] [pL y, pL _] NN RF M2 Q) (c_mo_hums ok.d (g1.rd ok) _ _ _ _ _ _ (fun M2 f2 _ => ?_)) (fun _ _ hx => hx)
  refine wp_lcmp d_lw_law_1013 ?_
  exact wp_if_eq 1367 d_lw_law_1014 (by decide) (fun _ => kk S M2 ok (r1.fo ok f2.fo) (g1.fa f2)) (fun c => absurd ((lcm_eq _ _).mpr rfl) c)
set_option maxHeartbeats 4000000 in
theorem lw_c26 {G : GT} {k z : Nat} {Q : QT} {S : ST} {M : MT} (ok : okST S) (h : RC S M) (g : RM S M) (i : Nat) (hi : i + 7 ≤ G.2.2.2.2.2.1) (hL : G.2.2.2.2.2.1 ≤ 448) (hk : k ≤ 600000) (hz : z ≤ 7302250) (kk : ∀ S' M', okST S' → RC S' M' → RM S' M' → Wp G J_lw_law k z 1367 [(0, pR 1001), (1, pR 0), (2, pR 101), (3, pI (i : Int))] [] NN RF M' Q) : Wp G J_lw_law k z 1019 [(0, pR 1001), (1, pR 0), (2, pR 101), (3, pI (i : Int))] [] NN RF M Q := by
  refine wp_aload_n d_lw_law_1019 rfl 1 rfl ?_
  refine lw_arg 1 (by omega) d_lw_law_1020 d_lw_law_1021 d_lw_law_1022 d_lw_law_1023 d_lw_law_1024 hi hL ?_
  refine lw_arg 2 (by omega) d_lw_law_1025 d_lw_law_1026 d_lw_law_1027 d_lw_law_1028 d_lw_law_1029 hi hL ?_
  refine lw_arg 3 (by omega) d_lw_law_1030 d_lw_law_1031 d_lw_law_1032 d_lw_law_1033 d_lw_law_1034 hi hL ?_
  refine wp_callV [pI _, pI _, pI _] 0 d_lw_law_1035 jd_tl_fair lk_lw_123 rfl s_0 rfl (Nat.le_of_ble_eq_true rfl) (Nat.le_of_ble_eq_true rfl) (rm_kz rfl hk hz) ?_
  refine clI_k (P := fun x M1 => Wp G J_lw_law k z 1038 [(0, pR 1001), (1, pR 0), (2, pR 101), (3, pI (i : Int))] [pI x] NN RF M1 Q) (c_tl_fair ok.d h.cd _ _ _ (fun M1 f1 => ?_)) (fun _ _ hx => hx)
  have r1 := h.fc ok f1.fc (h.2.2.2.2.2.fq ok.d f1)
  have g1 := g.fx f1.fc.fx
  refine wp_aload_n d_lw_law_1038 rfl 2 rfl ?_
  refine lw_arg 1 (by omega) d_lw_law_1039 d_lw_law_1040 d_lw_law_1041 d_lw_law_1042 d_lw_law_1043 hi hL ?_
  refine lw_arg 2 (by omega) d_lw_law_1044 d_lw_law_1045 d_lw_law_1046 d_lw_law_1047 d_lw_law_1048 hi hL ?_
  refine lw_arg 3 (by omega) d_lw_law_1049 d_lw_law_1050 d_lw_law_1051 d_lw_law_1052 d_lw_law_1053 hi hL ?_
  refine wp_callV [pI _, pI _, pI _] 101 d_lw_law_1054 jd_mo_fair lk_lw_126 rfl s_101 rfl (Nat.le_of_ble_eq_true rfl) (Nat.le_of_ble_eq_true rfl) (rm_kz rfl hk hz) ?_
  refine clI_k (P := fun y M2 => Wp G J_lw_law k z 1057 [(0, pR 1001), (1, pR 0), (2, pR 101), (3, pI (i : Int))] [pI y, pI _] NN RF M2 Q) (c_mo_fair ok.d (g1.rd ok) _ _ _ (fun M2 f2 => ?_)) (fun _ _ hx => hx)
  exact wp_icmp_eq 1367 d_lw_law_1057 (by decide) (fun _ => kk S M2 ok (r1.fo ok f2.fo) (g1.fa f2)) (fun c => absurd rfl c)
set_option maxHeartbeats 4000000 in
theorem lw_c27 {G : GT} {k z : Nat} {Q : QT} {S : ST} {M : MT} (ok : okST S) (h : RC S M) (g : RM S M) (i : Nat) (hi : i + 7 ≤ G.2.2.2.2.2.1) (hL : G.2.2.2.2.2.1 ≤ 448) (hk : k ≤ 600000) (hz : z ≤ 7302250) (kk : ∀ S' M', okST S' → RC S' M' → RM S' M' → Wp G J_lw_law k z 1367 [(0, pR 1001), (1, pR 0), (2, pR 101), (3, pI (i : Int))] [] NN RF M' Q) : Wp G J_lw_law k z 1062 [(0, pR 1001), (1, pR 0), (2, pR 101), (3, pI (i : Int))] [] NN RF M Q := by
  refine wp_aload_n d_lw_law_1062 rfl 1 rfl ?_
  refine lw_arg 1 (by omega) d_lw_law_1063 d_lw_law_1064 d_lw_law_1065 d_lw_law_1066 d_lw_law_1067 hi hL ?_
  refine lw_arg 2 (by omega) d_lw_law_1068 d_lw_law_1069 d_lw_law_1070 d_lw_law_1071 d_lw_law_1072 hi hL ?_
  refine lw_arg 3 (by omega) d_lw_law_1073 d_lw_law_1074 d_lw_law_1075 d_lw_law_1076 d_lw_law_1077 hi hL ?_
  refine wp_callV [pI _, pI _, pI _] 0 d_lw_law_1078 jd_tl_sheet lk_lw_127 rfl s_0 rfl (Nat.le_of_ble_eq_true rfl) (Nat.le_of_ble_eq_true rfl) (rm_kz rfl hk hz) ?_
  refine clI_k (P := fun x M1 => Wp G J_lw_law k z 1081 [(0, pR 1001), (1, pR 0), (2, pR 101), (3, pI (i : Int))] [pI x] NN RF M1 Q) (c_tl_sheet ok h _ _ _ (fun M1 f1 r1 => ?_)) (fun _ _ hx => hx)
  have g1 := g.fx f1
  refine wp_aload_n d_lw_law_1081 rfl 2 rfl ?_
  refine lw_arg 1 (by omega) d_lw_law_1082 d_lw_law_1083 d_lw_law_1084 d_lw_law_1085 d_lw_law_1086 hi hL ?_
  refine lw_arg 2 (by omega) d_lw_law_1087 d_lw_law_1088 d_lw_law_1089 d_lw_law_1090 d_lw_law_1091 hi hL ?_
  refine lw_arg 3 (by omega) d_lw_law_1092 d_lw_law_1093 d_lw_law_1094 d_lw_law_1095 d_lw_law_1096 hi hL ?_
  refine wp_callV [pI _, pI _, pI _] 101 d_lw_law_1097 jd_mo_sheet lk_lw_130 rfl s_101 rfl (Nat.le_of_ble_eq_true rfl) (Nat.le_of_ble_eq_true rfl) (rm_kz rfl hk hz) ?_
  refine clI_k (P := fun y M2 => Wp G J_lw_law k z 1100 [(0, pR 1001), (1, pR 0), (2, pR 101), (3, pI (i : Int))] [pI y, pI _] NN RF M2 Q) (c_mo_sheet ok g1 _ _ _ (fun M2 f2 g2 => ?_)) (fun _ _ hx => hx)
  exact wp_icmp_eq 1367 d_lw_law_1100 (by decide) (fun _ => kk _ M2 (ok_sheet ok _ _ _) (r1.fo (ok_sheet ok _ _ _) f2) g2) (fun c => absurd rfl c)
