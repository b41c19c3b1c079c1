set_option maxHeartbeats 8000000 in
theorem e_mo_goesOn {G : GT} {M : MT} {P : MT → Prop} (v1 : Int) (v2 : Int)
    (h : WpV G J_mo_goesOn 2 [(0, pR 101), (1, pI v1), (2, pI v2), (3, pI 0)] [] M P) : ClV G J_mo_goesOn M [pR 101, pI v1, pI v2] P := by
  show Wp G J_mo_goesOn 0 0 0 [(0, pR 101), (1, pI v1), (2, pI v2)] [] NN RF M _
  refine wp_iconst d_mo_goesOn_0 ⟨by decide, by decide⟩ ?_
  refine wp_istore_n (L2 := [(0, pR 101), (1, pI _), (2, pI _), (3, pI _)]) d_mo_goesOn_1 rfl (Nat.le_of_ble_eq_true rfl) [1, 2, 3, 0] rfl ?_
  exact h
set_option maxHeartbeats 8000000 in
theorem b_mo_goesOn_2 {G : GT} {M : MT} {P : MT → Prop} (v1 : Int) (v2 : Int) (v3 : Int)
    (h : ((M 101 12) ≤ v3 → WpV G J_mo_goesOn 35 [(0, pR 101), (1, pI v1), (2, pI v2), (3, pI 0)] [] M P) ∧ (v3 < (M 101 12) → (0 ≤ (w32 (4 * v3)) ∧ (w32 (4 * v3)) < 48) ∧ ((¬ (M 111 ((w32 (4 * v3)).toNat)) = v1 → WpV G J_mo_goesOn 2 [(0, pR 101), (1, pI v1), (2, pI v2), (3, pI (w32 (v3 + 1)))] [] M P) ∧ ((M 111 ((w32 (4 * v3)).toNat)) = v1 → ClV G J_mo_lends M [pR 101, pI v3] (fun M1 => (WpV G J_mo_goesOn 2 [(0, pR 101), (1, pI v1), (2, pI v2), (3, pI (w32 (v3 + 1)))] [] M1 P)))))) : WpV G J_mo_goesOn 2 [(0, pR 101), (1, pI v1), (2, pI v2), (3, pI v3)] [] M P := by
  show Wp G J_mo_goesOn 0 0 2 [(0, pR 101), (1, pI v1), (2, pI v2), (3, pI v3)] [] NN RF M _
  refine wp_iload_n d_mo_goesOn_2 rfl 3 rfl ?_
  refine wp_aload_n d_mo_goesOn_3 rfl 0 rfl ?_
  refine wp_geti d_mo_goesOn_4 12 s_101 rfl (Nat.le_of_ble_eq_true rfl) (Nat.le_of_ble_eq_true rfl) rfl lk_mo_157 ?_
  refine wp_icmp_ge 33 d_mo_goesOn_7 (by decide) (fun c1 => ?_) (fun c1 => ?_)
  · have h := h.1 c1
    refine wp_iconst d_mo_goesOn_33 ⟨by decide, by decide⟩ ?_
    refine wp_istore_n (L2 := [(0, pR 101), (1, pI _), (2, pI _), (3, pI _)]) d_mo_goesOn_34 rfl (Nat.le_of_ble_eq_true rfl) [1, 2, 3, 0] rfl ?_
    exact h
  · have h := h.2 c1
    refine wp_aload_n d_mo_goesOn_10 rfl 0 rfl ?_
    refine wp_getr d_mo_goesOn_11 13 s_101 rfl (Nat.le_of_ble_eq_true rfl) (Nat.le_of_ble_eq_true rfl) rfl rfl lk_mo_37 ?_
    refine wp_iconst d_mo_goesOn_14 ⟨by decide, by decide⟩ ?_
    refine wp_iload_n d_mo_goesOn_15 rfl 3 rfl ?_
    refine wp_imul d_mo_goesOn_16 ?_
    obtain ⟨⟨a2, b2⟩, h⟩ := h
    refine wp_iald d_mo_goesOn_17 s_111 (Nat.le_of_ble_eq_true rfl) a2 b2 ?_
    refine wp_iload_n d_mo_goesOn_18 rfl 1 rfl ?_
    refine wp_icmp_ne 27 d_mo_goesOn_19 (by decide) (fun c3 => ?_) (fun c3 => ?_)
    · have h := h.1 c3
      refine wp_iinc (L2 := [(0, pR 101), (1, pI _), (2, pI _), (3, pI _)]) d_mo_goesOn_27 3 rfl (Nat.le_of_ble_eq_true rfl) [1, 2, 3, 0] rfl ?_
      refine wp_goto 2 d_mo_goesOn_30 (by decide) ?_
      exact h
    · have h := h.2 c3
      refine wp_aload_n d_mo_goesOn_22 rfl 0 rfl ?_
      refine wp_iload_n d_mo_goesOn_23 rfl 3 rfl ?_
      refine wp_callV [pI _] _ d_mo_goesOn_24 jd_mo_lends lk_mo_179 rfl s_101 rfl (Nat.le_of_ble_eq_true rfl) (Nat.le_of_ble_eq_true rfl) rfl ?_
      refine clV_k h ?_
      intro M1 h
      refine wp_iinc (L2 := [(0, pR 101), (1, pI _), (2, pI _), (3, pI _)]) d_mo_goesOn_27 3 rfl (Nat.le_of_ble_eq_true rfl) [1, 2, 3, 0] rfl ?_
      refine wp_goto 2 d_mo_goesOn_30 (by decide) ?_
      exact h
set_option maxHeartbeats 8000000 in
theorem b_mo_goesOn_35 {G : GT} {M : MT} {P : MT → Prop} (v1 : Int) (v2 : Int) (v3 : Int)
    (h : ((M 101 7) ≤ v3 → WpV G J_mo_goesOn 72 [(0, pR 101), (1, pI v1), (2, pI v2), (3, pI 0)] [] M P) ∧ (v3 < (M 101 7) → (0 ≤ v3 ∧ v3 < 6) ∧ (((M 116 (v3.toNat)) = (-1) → WpV G J_mo_goesOn 35 [(0, pR 101), (1, pI v1), (2, pI v2), (3, pI (w32 (v3 + 1)))] [] M P) ∧ (¬ (M 116 (v3.toNat)) = (-1) → (0 ≤ v3 ∧ v3 < 6) ∧ (ClV G J_mo_hummed M [pR 101, pI v3, pI (M 116 (v3.toNat))] (fun M1 => (WpV G J_mo_goesOn 35 [(0, pR 101), (1, pI v1), (2, pI v2), (3, pI (w32 (v3 + 1)))] [] M1 P))))))) : WpV G J_mo_goesOn 35 [(0, pR 101), (1, pI v1), (2, pI v2), (3, pI v3)] [] M P := by
  show Wp G J_mo_goesOn 0 0 35 [(0, pR 101), (1, pI v1), (2, pI v2), (3, pI v3)] [] NN RF M _
  refine wp_iload_n d_mo_goesOn_35 rfl 3 rfl ?_
  refine wp_aload_n d_mo_goesOn_36 rfl 0 rfl ?_
  refine wp_geti d_mo_goesOn_37 7 s_101 rfl (Nat.le_of_ble_eq_true rfl) (Nat.le_of_ble_eq_true rfl) rfl lk_mo_112 ?_
  refine wp_icmp_ge 70 d_mo_goesOn_40 (by decide) (fun c1 => ?_) (fun c1 => ?_)
  · have h := h.1 c1
    refine wp_iconst d_mo_goesOn_70 ⟨by decide, by decide⟩ ?_
    refine wp_istore_n (L2 := [(0, pR 101), (1, pI _), (2, pI _), (3, pI _)]) d_mo_goesOn_71 rfl (Nat.le_of_ble_eq_true rfl) [1, 2, 3, 0] rfl ?_
    exact h
  · have h := h.2 c1
    refine wp_aload_n d_mo_goesOn_43 rfl 0 rfl ?_
    refine wp_getr d_mo_goesOn_44 19 s_101 rfl (Nat.le_of_ble_eq_true rfl) (Nat.le_of_ble_eq_true rfl) rfl rfl lk_mo_52 ?_
    refine wp_iload_n d_mo_goesOn_47 rfl 3 rfl ?_
    obtain ⟨⟨a2, b2⟩, h⟩ := h
    refine wp_iald d_mo_goesOn_48 s_116 (Nat.le_of_ble_eq_true rfl) a2 b2 ?_
    refine wp_iconst d_mo_goesOn_49 ⟨by decide, by decide⟩ ?_
    refine wp_icmp_eq 64 d_mo_goesOn_50 (by decide) (fun c3 => ?_) (fun c3 => ?_)
    · have h := h.1 c3
      refine wp_iinc (L2 := [(0, pR 101), (1, pI _), (2, pI _), (3, pI _)]) d_mo_goesOn_64 3 rfl (Nat.le_of_ble_eq_true rfl) [1, 2, 3, 0] rfl ?_
      refine wp_goto 35 d_mo_goesOn_67 (by decide) ?_
      exact h
    · have h := h.2 c3
      refine wp_aload_n d_mo_goesOn_53 rfl 0 rfl ?_
      refine wp_iload_n d_mo_goesOn_54 rfl 3 rfl ?_
      refine wp_aload_n d_mo_goesOn_55 rfl 0 rfl ?_
      refine wp_getr d_mo_goesOn_56 19 s_101 rfl (Nat.le_of_ble_eq_true rfl) (Nat.le_of_ble_eq_true rfl) rfl rfl lk_mo_52 ?_
      refine wp_iload_n d_mo_goesOn_59 rfl 3 rfl ?_
      obtain ⟨⟨a4, b4⟩, h⟩ := h
      refine wp_iald d_mo_goesOn_60 s_116 (Nat.le_of_ble_eq_true rfl) a4 b4 ?_
      refine wp_callV [pI _, pI _] _ d_mo_goesOn_61 jd_mo_hummed lk_mo_183 rfl s_101 rfl (Nat.le_of_ble_eq_true rfl) (Nat.le_of_ble_eq_true rfl) rfl ?_
      refine clV_k h ?_
      intro M1 h
      refine wp_iinc (L2 := [(0, pR 101), (1, pI _), (2, pI _), (3, pI _)]) d_mo_goesOn_64 3 rfl (Nat.le_of_ble_eq_true rfl) [1, 2, 3, 0] rfl ?_
      refine wp_goto 35 d_mo_goesOn_67 (by decide) ?_
      exact h
set_option maxHeartbeats 8000000 in
theorem b_mo_goesOn_72 {G : GT} {M : MT} {P : MT → Prop} (v1 : Int) (v2 : Int) (v3 : Int)
    (h : ((M 101 7) ≤ v3 → P M) ∧ (v3 < (M 101 7) → (0 ≤ v3 ∧ v3 < 6) ∧ ((0 ≤ v3 ∧ v3 < 6) ∧ (((M 116 (v3.toNat)) = (-1) → WpV G J_mo_goesOn 72 [(0, pR 101), (1, pI v1), (2, pI v2), (3, pI (w32 (v3 + 1)))] [] M P) ∧ (¬ (M 116 (v3.toNat)) = (-1) → (0 ≤ (w32 (4 * (M 117 (v3.toNat)))) ∧ (w32 (4 * (M 117 (v3.toNat)))) < 48) ∧ ((0 ≤ (w32 ((w32 (4 * (M 117 (v3.toNat)))) + 3)) ∧ (w32 ((w32 (4 * (M 117 (v3.toNat)))) + 3)) < 48) ∧ ((¬ v1 = (w32 ((w32 ((M 111 ((w32 (4 * (M 117 (v3.toNat)))).toNat)) + (M 111 ((w32 ((w32 (4 * (M 117 (v3.toNat)))) + 3)).toNat)))) - 1)) → WpV G J_mo_goesOn 72 [(0, pR 101), (1, pI v1), (2, pI v2), (3, pI (w32 (v3 + 1)))] [] M P) ∧ (v1 = (w32 ((w32 ((M 111 ((w32 (4 * (M 117 (v3.toNat)))).toNat)) + (M 111 ((w32 ((w32 (4 * (M 117 (v3.toNat)))) + 3)).toNat)))) - 1)) → ClV G J_mo_returns M [pR 101, pI v3, pI v2] (fun M1 => (WpV G J_mo_goesOn 72 [(0, pR 101), (1, pI v1), (2, pI v2), (3, pI (w32 (v3 + 1)))] [] M1 P)))))))))) : WpV G J_mo_goesOn 72 [(0, pR 101), (1, pI v1), (2, pI v2), (3, pI v3)] [] M P := by
  show Wp G J_mo_goesOn 0 0 72 [(0, pR 101), (1, pI v1), (2, pI v2), (3, pI v3)] [] NN RF M _
  refine wp_iload_n d_mo_goesOn_72 rfl 3 rfl ?_
  refine wp_aload_n d_mo_goesOn_73 rfl 0 rfl ?_
  refine wp_geti d_mo_goesOn_74 7 s_101 rfl (Nat.le_of_ble_eq_true rfl) (Nat.le_of_ble_eq_true rfl) rfl lk_mo_112 ?_
  refine wp_icmp_ge 137 d_mo_goesOn_77 (by decide) (fun c1 => ?_) (fun c1 => ?_)
  · have h := h.1 c1
    exact wp_vret d_mo_goesOn_137 rfl ⟨Nat.le_of_ble_eq_true rfl, Nat.le_of_ble_eq_true rfl⟩ ⟨rfl, rfl, rfl, h⟩
  · have h := h.2 c1
    refine wp_aload_n d_mo_goesOn_80 rfl 0 rfl ?_
    refine wp_getr d_mo_goesOn_81 20 s_101 rfl (Nat.le_of_ble_eq_true rfl) (Nat.le_of_ble_eq_true rfl) rfl rfl lk_mo_55 ?_
    refine wp_iload_n d_mo_goesOn_84 rfl 3 rfl ?_
    obtain ⟨⟨a2, b2⟩, h⟩ := h
    refine wp_iald d_mo_goesOn_85 s_117 (Nat.le_of_ble_eq_true rfl) a2 b2 ?_
    refine wp_istore (L2 := [(0, pR 101), (1, pI _), (2, pI _), (3, pI _), (4, pI _)]) d_mo_goesOn_86 (Nat.le_of_ble_eq_true rfl) [1, 2, 3, 4, 0] rfl ?_
    refine wp_aload_n d_mo_goesOn_88 rfl 0 rfl ?_
    refine wp_getr d_mo_goesOn_89 19 s_101 rfl (Nat.le_of_ble_eq_true rfl) (Nat.le_of_ble_eq_true rfl) rfl rfl lk_mo_52 ?_
    refine wp_iload_n d_mo_goesOn_92 rfl 3 rfl ?_
    obtain ⟨⟨a3, b3⟩, h⟩ := h
    refine wp_iald d_mo_goesOn_93 s_116 (Nat.le_of_ble_eq_true rfl) a3 b3 ?_
    refine wp_iconst d_mo_goesOn_94 ⟨by decide, by decide⟩ ?_
    refine wp_icmp_eq 131 d_mo_goesOn_95 (by decide) (fun c4 => ?_) (fun c4 => ?_)
    · have h := h.1 c4
      refine wp_iinc (L2 := [(0, pR 101), (1, pI _), (2, pI _), (3, pI _), (4, pI _)]) d_mo_goesOn_131 3 rfl (Nat.le_of_ble_eq_true rfl) [1, 2, 3, 0, 4] rfl ?_
      refine wp_goto 72 d_mo_goesOn_134 (by decide) ?_
      refine wp_sub (L2 := [(0, pR 101), (1, pI _), (2, pI _), (3, pI _)]) [0, 1, 2, 3] rfl ?_
      exact h
    · have h := h.2 c4
      refine wp_iload_n d_mo_goesOn_98 rfl 1 rfl ?_
      refine wp_aload_n d_mo_goesOn_99 rfl 0 rfl ?_
      refine wp_getr d_mo_goesOn_100 13 s_101 rfl (Nat.le_of_ble_eq_true rfl) (Nat.le_of_ble_eq_true rfl) rfl rfl lk_mo_37 ?_
      refine wp_iconst d_mo_goesOn_103 ⟨by decide, by decide⟩ ?_
      refine wp_iload d_mo_goesOn_104 4 rfl ?_
      refine wp_imul d_mo_goesOn_106 ?_
      obtain ⟨⟨a5, b5⟩, h⟩ := h
      refine wp_iald d_mo_goesOn_107 s_111 (Nat.le_of_ble_eq_true rfl) a5 b5 ?_
      refine wp_aload_n d_mo_goesOn_108 rfl 0 rfl ?_
      refine wp_getr d_mo_goesOn_109 13 s_101 rfl (Nat.le_of_ble_eq_true rfl) (Nat.le_of_ble_eq_true rfl) rfl rfl lk_mo_37 ?_
      refine wp_iconst d_mo_goesOn_112 ⟨by decide, by decide⟩ ?_
      refine wp_iload d_mo_goesOn_113 4 rfl ?_
      refine wp_imul d_mo_goesOn_115 ?_
      refine wp_iconst d_mo_goesOn_116 ⟨by decide, by decide⟩ ?_
      refine wp_iadd d_mo_goesOn_117 ?_
      obtain ⟨⟨a6, b6⟩, h⟩ := h
      refine wp_iald d_mo_goesOn_118 s_111 (Nat.le_of_ble_eq_true rfl) a6 b6 ?_
      refine wp_iadd d_mo_goesOn_119 ?_
      refine wp_iconst d_mo_goesOn_120 ⟨by decide, by decide⟩ ?_
      refine wp_isub d_mo_goesOn_121 ?_
      refine wp_icmp_ne 131 d_mo_goesOn_122 (by decide) (fun c7 => ?_) (fun c7 => ?_)
      · have h := h.1 c7
        refine wp_iinc (L2 := [(0, pR 101), (1, pI _), (2, pI _), (3, pI _), (4, pI _)]) d_mo_goesOn_131 3 rfl (Nat.le_of_ble_eq_true rfl) [1, 2, 3, 0, 4] rfl ?_
        refine wp_goto 72 d_mo_goesOn_134 (by decide) ?_
        refine wp_sub (L2 := [(0, pR 101), (1, pI _), (2, pI _), (3, pI _)]) [0, 1, 2, 3] rfl ?_
        exact h
      · have h := h.2 c7
        refine wp_aload_n d_mo_goesOn_125 rfl 0 rfl ?_
        refine wp_iload_n d_mo_goesOn_126 rfl 3 rfl ?_
        refine wp_iload_n d_mo_goesOn_127 rfl 2 rfl ?_
        refine wp_callV [pI _, pI _] _ d_mo_goesOn_128 jd_mo_returns lk_mo_186 rfl s_101 rfl (Nat.le_of_ble_eq_true rfl) (Nat.le_of_ble_eq_true rfl) rfl ?_
        refine clV_k h ?_
        intro M1 h
        refine wp_iinc (L2 := [(0, pR 101), (1, pI _), (2, pI _), (3, pI _), (4, pI _)]) d_mo_goesOn_131 3 rfl (Nat.le_of_ble_eq_true rfl) [1, 2, 3, 0, 4] rfl ?_
        refine wp_goto 72 d_mo_goesOn_134 (by decide) ?_
        refine wp_sub (L2 := [(0, pR 101), (1, pI _), (2, pI _), (3, pI _)]) [0, 1, 2, 3] rfl ?_
        exact h
set_option maxHeartbeats 8000000 in
theorem e_mo_lives {G : GT} {M : MT} {P : MT → Prop} (v1 : Int) (v2 : Int)
    (h : ClV G J_mo_startsAll M [pR 101] (fun M1 => (WpV G J_mo_lives 6 [(0, pR 101), (1, pI v1), (2, pI v2), (3, pI 0)] [] M1 P))) : ClV G J_mo_lives M [pR 101, pI v1, pI v2] P := by
  show Wp G J_mo_lives 0 0 0 [(0, pR 101), (1, pI v1), (2, pI v2)] [] NN RF M _
  refine wp_aload_n d_mo_lives_0 rfl 0 rfl ?_
  refine wp_callV [] _ d_mo_lives_1 jd_mo_startsAll lk_mo_189 rfl s_101 rfl (Nat.le_of_ble_eq_true rfl) (Nat.le_of_ble_eq_true rfl) rfl ?_
  refine clV_k h ?_
  intro M1 h
  refine wp_iconst d_mo_lives_4 ⟨by decide, by decide⟩ ?_
  refine wp_istore_n (L2 := [(0, pR 101), (1, pI _), (2, pI _), (3, pI _)]) d_mo_lives_5 rfl (Nat.le_of_ble_eq_true rfl) [1, 2, 3, 0] rfl ?_
  exact h
set_option maxHeartbeats 8000000 in
theorem b_mo_lives_6 {G : GT} {M : MT} {P : MT → Prop} (v1 : Int) (v2 : Int) (v3 : Int)
    (h : (v1 < v3 → P M) ∧ (v3 ≤ v1 → ClV G J_mo_goesOn M [pR 101, pI v3, pI v2] (fun M1 => (WpV G J_mo_lives 6 [(0, pR 101), (1, pI v1), (2, pI v2), (3, pI (w32 (v3 + 1)))] [] M1 P)))) : WpV G J_mo_lives 6 [(0, pR 101), (1, pI v1), (2, pI v2), (3, pI v3)] [] M P := by
  show Wp G J_mo_lives 0 0 6 [(0, pR 101), (1, pI v1), (2, pI v2), (3, pI v3)] [] NN RF M _
  refine wp_iload_n d_mo_lives_6 rfl 3 rfl ?_
  refine wp_iload_n d_mo_lives_7 rfl 1 rfl ?_
  refine wp_icmp_gt 23 d_mo_lives_8 (by decide) (fun c1 => ?_) (fun c1 => ?_)
  · have h := h.1 c1
    exact wp_vret d_mo_lives_23 rfl ⟨Nat.le_of_ble_eq_true rfl, Nat.le_of_ble_eq_true rfl⟩ ⟨rfl, rfl, rfl, h⟩
  · have h := h.2 c1
    refine wp_aload_n d_mo_lives_11 rfl 0 rfl ?_
    refine wp_iload_n d_mo_lives_12 rfl 3 rfl ?_
    refine wp_iload_n d_mo_lives_13 rfl 2 rfl ?_
    refine wp_callV [pI _, pI _] _ d_mo_lives_14 jd_mo_goesOn lk_mo_192 rfl s_101 rfl (Nat.le_of_ble_eq_true rfl) (Nat.le_of_ble_eq_true rfl) rfl ?_
    refine clV_k h ?_
    intro M1 h
    refine wp_iinc (L2 := [(0, pR 101), (1, pI _), (2, pI _), (3, pI _)]) d_mo_lives_17 3 rfl (Nat.le_of_ble_eq_true rfl) [1, 2, 3, 0] rfl ?_
    refine wp_goto 6 d_mo_lives_20 (by decide) ?_
    exact h
set_option maxHeartbeats 8000000 in
theorem e_mo_notesOf {G : GT} {M : MT} {P : Int → MT → Prop} (v1 : Int) (v2 : Int) (v3 : Int)
    (h : ClV G J_mo_lives M [pR 101, pI v1, pI (M 101 14)] (fun M1 => ((¬ v3 = (-1) → (0 ≤ v2 ∧ v2 < 7) ∧ (((M1 113 (v2.toNat)) ≤ v3 → P (-1) M1) ∧ (v3 < (M1 113 (v2.toNat)) → (0 ≤ (w32 ((w32 (40 * v2)) + v3)) ∧ (w32 ((w32 (40 * v2)) + v3)) < 280) ∧ (P (M1 112 ((w32 ((w32 (40 * v2)) + v3)).toNat)) M1)))) ∧ (v3 = (-1) → (0 ≤ v2 ∧ v2 < 7) ∧ (P (M1 113 (v2.toNat)) M1))))) : ClI G J_mo_notesOf M [pR 101, pI v1, pI v2, pI v3] P := by
  show Wp G J_mo_notesOf 0 0 0 [(0, pR 101), (1, pI v1), (2, pI v2), (3, pI v3)] [] NN RF M _
  refine wp_aload_n d_mo_notesOf_0 rfl 0 rfl ?_
  refine wp_iload_n d_mo_notesOf_1 rfl 1 rfl ?_
  refine wp_aload_n d_mo_notesOf_2 rfl 0 rfl ?_
  refine wp_geti d_mo_notesOf_3 14 s_101 rfl (Nat.le_of_ble_eq_true rfl) (Nat.le_of_ble_eq_true rfl) rfl lk_mo_73 ?_
  refine wp_callV [pI _, pI _] _ d_mo_notesOf_6 jd_mo_lives lk_mo_195 rfl s_101 rfl (Nat.le_of_ble_eq_true rfl) (Nat.le_of_ble_eq_true rfl) rfl ?_
  refine clV_k h ?_
  intro M1 h
  refine wp_iload_n d_mo_notesOf_9 rfl 3 rfl ?_
  refine wp_iconst d_mo_notesOf_10 ⟨by decide, by decide⟩ ?_
  refine wp_icmp_ne 23 d_mo_notesOf_11 (by decide) (fun c1 => ?_) (fun c1 => ?_)
  · have h := h.1 c1
    refine wp_iload_n d_mo_notesOf_23 rfl 3 rfl ?_
    refine wp_aload_n d_mo_notesOf_24 rfl 0 rfl ?_
    refine wp_getr d_mo_notesOf_25 16 s_101 rfl (Nat.le_of_ble_eq_true rfl) (Nat.le_of_ble_eq_true rfl) rfl rfl lk_mo_43 ?_
    refine wp_iload_n d_mo_notesOf_28 rfl 2 rfl ?_
    obtain ⟨⟨a2, b2⟩, h⟩ := h
    refine wp_iald d_mo_notesOf_29 s_113 (Nat.le_of_ble_eq_true rfl) a2 b2 ?_
    refine wp_icmp_ge 47 d_mo_notesOf_30 (by decide) (fun c3 => ?_) (fun c3 => ?_)
    · have h := h.1 c3
      refine wp_iconst d_mo_notesOf_47 ⟨by decide, by decide⟩ ?_
      exact wp_iret d_mo_notesOf_48 rfl ⟨Nat.le_of_ble_eq_true rfl, Nat.le_of_ble_eq_true rfl⟩ ⟨_, rfl, rfl, rfl, h⟩
    · have h := h.2 c3
      refine wp_aload_n d_mo_notesOf_33 rfl 0 rfl ?_
      refine wp_getr d_mo_notesOf_34 15 s_101 rfl (Nat.le_of_ble_eq_true rfl) (Nat.le_of_ble_eq_true rfl) rfl rfl lk_mo_40 ?_
      refine wp_bipush d_mo_notesOf_37 ⟨by decide, by decide⟩ (by decide) ?_
      refine wp_iload_n d_mo_notesOf_39 rfl 2 rfl ?_
      refine wp_imul d_mo_notesOf_40 ?_
      refine wp_iload_n d_mo_notesOf_41 rfl 3 rfl ?_
      refine wp_iadd d_mo_notesOf_42 ?_
      obtain ⟨⟨a4, b4⟩, h⟩ := h
      refine wp_iald d_mo_notesOf_43 s_112 (Nat.le_of_ble_eq_true rfl) a4 b4 ?_
      refine wp_goto 48 d_mo_notesOf_44 (by decide) ?_
      exact wp_iret d_mo_notesOf_48 rfl ⟨Nat.le_of_ble_eq_true rfl, Nat.le_of_ble_eq_true rfl⟩ ⟨_, rfl, rfl, rfl, h⟩
  · have h := h.2 c1
    refine wp_aload_n d_mo_notesOf_14 rfl 0 rfl ?_
    refine wp_getr d_mo_notesOf_15 16 s_101 rfl (Nat.le_of_ble_eq_true rfl) (Nat.le_of_ble_eq_true rfl) rfl rfl lk_mo_43 ?_
    refine wp_iload_n d_mo_notesOf_18 rfl 2 rfl ?_
    obtain ⟨⟨a2, b2⟩, h⟩ := h
    refine wp_iald d_mo_notesOf_19 s_113 (Nat.le_of_ble_eq_true rfl) a2 b2 ?_
    refine wp_goto 48 d_mo_notesOf_20 (by decide) ?_
    exact wp_iret d_mo_notesOf_48 rfl ⟨Nat.le_of_ble_eq_true rfl, Nat.le_of_ble_eq_true rfl⟩ ⟨_, rfl, rfl, rfl, h⟩
set_option maxHeartbeats 8000000 in
theorem e_mo_notes {G : GT} {M : MT} {P : Int → MT → Prop} (v1 : Int) (v2 : Int) (v3 : Int)
    (h : ClV G J_mo_reads M [pR 101] (fun M1 => (ClI G J_mo_isYear M1 [pI v1] (fun x1 M2 => ((x1 = 0 → P (-2) M2) ∧ (¬ x1 = 0 → ClI G J_mo_isTune M2 [pR 101, pI v2] (fun x3 M3 => ((x3 = 0 → P (-2) M3) ∧ (¬ x3 = 0 → ClI G J_mo_in M3 [pL v3, pL (-1), pL 39] (fun x5 M4 => ((x5 = 0 → P (-2) M4) ∧ (¬ x5 = 0 → ClI G J_mo_notesOf M4 [pR 101, pI v1, pI v2, pI v3] (fun x7 M5 => (P x7 M5)))))))))))))) : ClI G J_mo_notes M [pR 101, pI v1, pI v2, pI v3] P := by
  show Wp G J_mo_notes 0 0 0 [(0, pR 101), (1, pI v1), (2, pI v2), (3, pI v3)] [] NN RF M _
  refine wp_aload_n d_mo_notes_0 rfl 0 rfl ?_
  refine wp_callV [] _ d_mo_notes_1 jd_mo_reads lk_mo_137 rfl s_101 rfl (Nat.le_of_ble_eq_true rfl) (Nat.le_of_ble_eq_true rfl) rfl ?_
  refine clV_k h ?_
  intro M1 h
  refine wp_iload_n d_mo_notes_4 rfl 1 rfl ?_
  refine wp_callS [pI _] d_mo_notes_5 jd_mo_isYear lk_mo_150 rfl (Nat.le_of_ble_eq_true rfl) rfl ?_
  refine clI_k h ?_
  intro x1 M2 h
  refine wp_if_eq 43 d_mo_notes_8 (by decide) (fun c2 => ?_) (fun c2 => ?_)
  · have h := h.1 c2
    refine wp_bipush d_mo_notes_43 ⟨by decide, by decide⟩ (by decide) ?_
    exact wp_iret d_mo_notes_45 rfl ⟨Nat.le_of_ble_eq_true rfl, Nat.le_of_ble_eq_true rfl⟩ ⟨_, rfl, rfl, rfl, h⟩
  · have h := h.2 c2
    refine wp_aload_n d_mo_notes_11 rfl 0 rfl ?_
    refine wp_iload_n d_mo_notes_12 rfl 2 rfl ?_
    refine wp_callV [pI _] _ d_mo_notes_13 jd_mo_isTune lk_mo_140 rfl s_101 rfl (Nat.le_of_ble_eq_true rfl) (Nat.le_of_ble_eq_true rfl) rfl ?_
    refine clI_k h ?_
    intro x3 M3 h
    refine wp_if_eq 43 d_mo_notes_16 (by decide) (fun c4 => ?_) (fun c4 => ?_)
    · have h := h.1 c4
      refine wp_bipush d_mo_notes_43 ⟨by decide, by decide⟩ (by decide) ?_
      exact wp_iret d_mo_notes_45 rfl ⟨Nat.le_of_ble_eq_true rfl, Nat.le_of_ble_eq_true rfl⟩ ⟨_, rfl, rfl, rfl, h⟩
    · have h := h.2 c4
      refine wp_iload_n d_mo_notes_19 rfl 3 rfl ?_
      refine wp_i2l d_mo_notes_20 ?_
      refine wp_ldc2 lk_mo_143 d_mo_notes_21 ⟨by decide, by decide⟩ ?_
      refine wp_ldc2 lk_mo_135 d_mo_notes_24 ⟨by decide, by decide⟩ ?_
      refine wp_callS [pL _, pL _, pL _] d_mo_notes_27 jd_mo_in lk_mo_79 rfl (Nat.le_of_ble_eq_true rfl) rfl ?_
      refine clI_k h ?_
      intro x5 M4 h
      refine wp_if_eq 43 d_mo_notes_30 (by decide) (fun c6 => ?_) (fun c6 => ?_)
      · have h := h.1 c6
        refine wp_bipush d_mo_notes_43 ⟨by decide, by decide⟩ (by decide) ?_
        exact wp_iret d_mo_notes_45 rfl ⟨Nat.le_of_ble_eq_true rfl, Nat.le_of_ble_eq_true rfl⟩ ⟨_, rfl, rfl, rfl, h⟩
      · have h := h.2 c6
        refine wp_aload_n d_mo_notes_33 rfl 0 rfl ?_
        refine wp_iload_n d_mo_notes_34 rfl 1 rfl ?_
        refine wp_iload_n d_mo_notes_35 rfl 2 rfl ?_
        refine wp_iload_n d_mo_notes_36 rfl 3 rfl ?_
        refine wp_callV [pI _, pI _, pI _] _ d_mo_notes_37 jd_mo_notesOf lk_mo_198 rfl s_101 rfl (Nat.le_of_ble_eq_true rfl) (Nat.le_of_ble_eq_true rfl) rfl ?_
        refine clI_k h ?_
        intro x7 M5 h
        refine wp_goto 45 d_mo_notes_40 (by decide) ?_
        exact wp_iret d_mo_notes_45 rfl ⟨Nat.le_of_ble_eq_true rfl, Nat.le_of_ble_eq_true rfl⟩ ⟨_, rfl, rfl, rfl, h⟩
set_option maxHeartbeats 8000000 in
theorem e_mo_hasOf {G : GT} {M : MT} {P : Int → MT → Prop} (v1 : Int) (v2 : Int)
    (h : ClV G J_mo_lives M [pR 101, pI v1, pI (M 101 14)] (fun M1 => ((0 ≤ v2 ∧ v2 < 6) ∧ (P (M1 116 (v2.toNat)) M1)))) : ClI G J_mo_hasOf M [pR 101, pI v1, pI v2] P := by
  show Wp G J_mo_hasOf 0 0 0 [(0, pR 101), (1, pI v1), (2, pI v2)] [] NN RF M _
  refine wp_aload_n d_mo_hasOf_0 rfl 0 rfl ?_
  refine wp_iload_n d_mo_hasOf_1 rfl 1 rfl ?_
  refine wp_aload_n d_mo_hasOf_2 rfl 0 rfl ?_
  refine wp_geti d_mo_hasOf_3 14 s_101 rfl (Nat.le_of_ble_eq_true rfl) (Nat.le_of_ble_eq_true rfl) rfl lk_mo_73 ?_
  refine wp_callV [pI _, pI _] _ d_mo_hasOf_6 jd_mo_lives lk_mo_195 rfl s_101 rfl (Nat.le_of_ble_eq_true rfl) (Nat.le_of_ble_eq_true rfl) rfl ?_
  refine clV_k h ?_
  intro M1 h
  refine wp_aload_n d_mo_hasOf_9 rfl 0 rfl ?_
  refine wp_getr d_mo_hasOf_10 19 s_101 rfl (Nat.le_of_ble_eq_true rfl) (Nat.le_of_ble_eq_true rfl) rfl rfl lk_mo_52 ?_
  refine wp_iload_n d_mo_hasOf_13 rfl 2 rfl ?_
  obtain ⟨⟨a1, b1⟩, h⟩ := h
  refine wp_iald d_mo_hasOf_14 s_116 (Nat.le_of_ble_eq_true rfl) a1 b1 ?_
  exact wp_iret d_mo_hasOf_15 rfl ⟨Nat.le_of_ble_eq_true rfl, Nat.le_of_ble_eq_true rfl⟩ ⟨_, rfl, rfl, rfl, h⟩
set_option maxHeartbeats 8000000 in
theorem e_mo_has {G : GT} {M : MT} {P : Int → MT → Prop} (v1 : Int) (v2 : Int)
    (h : ClV G J_mo_reads M [pR 101] (fun M1 => (ClI G J_mo_isYear M1 [pI v1] (fun x1 M2 => ((x1 = 0 → P (-2) M2) ∧ (¬ x1 = 0 → ClI G J_mo_isTune M2 [pR 101, pI v2] (fun x3 M3 => ((x3 = 0 → P (-2) M3) ∧ (¬ x3 = 0 → ClI G J_mo_hasOf M3 [pR 101, pI v1, pI v2] (fun x5 M4 => (P x5 M4))))))))))) : ClI G J_mo_has M [pR 101, pI v1, pI v2] P := by
  show Wp G J_mo_has 0 0 0 [(0, pR 101), (1, pI v1), (2, pI v2)] [] NN RF M _
  refine wp_aload_n d_mo_has_0 rfl 0 rfl ?_
  refine wp_callV [] _ d_mo_has_1 jd_mo_reads lk_mo_137 rfl s_101 rfl (Nat.le_of_ble_eq_true rfl) (Nat.le_of_ble_eq_true rfl) rfl ?_
  refine clV_k h ?_
  intro M1 h
  refine wp_iload_n d_mo_has_4 rfl 1 rfl ?_
  refine wp_callS [pI _] d_mo_has_5 jd_mo_isYear lk_mo_150 rfl (Nat.le_of_ble_eq_true rfl) rfl ?_
  refine clI_k h ?_
  intro x1 M2 h
  refine wp_if_eq 28 d_mo_has_8 (by decide) (fun c2 => ?_) (fun c2 => ?_)
  · have h := h.1 c2
    refine wp_bipush d_mo_has_28 ⟨by decide, by decide⟩ (by decide) ?_
    exact wp_iret d_mo_has_30 rfl ⟨Nat.le_of_ble_eq_true rfl, Nat.le_of_ble_eq_true rfl⟩ ⟨_, rfl, rfl, rfl, h⟩
  · have h := h.2 c2
    refine wp_aload_n d_mo_has_11 rfl 0 rfl ?_
    refine wp_iload_n d_mo_has_12 rfl 2 rfl ?_
    refine wp_callV [pI _] _ d_mo_has_13 jd_mo_isTune lk_mo_140 rfl s_101 rfl (Nat.le_of_ble_eq_true rfl) (Nat.le_of_ble_eq_true rfl) rfl ?_
    refine clI_k h ?_
    intro x3 M3 h
    refine wp_if_eq 28 d_mo_has_16 (by decide) (fun c4 => ?_) (fun c4 => ?_)
    · have h := h.1 c4
      refine wp_bipush d_mo_has_28 ⟨by decide, by decide⟩ (by decide) ?_
      exact wp_iret d_mo_has_30 rfl ⟨Nat.le_of_ble_eq_true rfl, Nat.le_of_ble_eq_true rfl⟩ ⟨_, rfl, rfl, rfl, h⟩
    · have h := h.2 c4
      refine wp_aload_n d_mo_has_19 rfl 0 rfl ?_
      refine wp_iload_n d_mo_has_20 rfl 1 rfl ?_
      refine wp_iload_n d_mo_has_21 rfl 2 rfl ?_
      refine wp_callV [pI _, pI _] _ d_mo_has_22 jd_mo_hasOf lk_mo_201 rfl s_101 rfl (Nat.le_of_ble_eq_true rfl) (Nat.le_of_ble_eq_true rfl) rfl ?_
      refine clI_k h ?_
      intro x5 M4 h
      refine wp_goto 30 d_mo_has_25 (by decide) ?_
      exact wp_iret d_mo_has_30 rfl ⟨Nat.le_of_ble_eq_true rfl, Nat.le_of_ble_eq_true rfl⟩ ⟨_, rfl, rfl, rfl, h⟩
set_option maxHeartbeats 8000000 in
theorem e_mo_cameOf {G : GT} {M : MT} {P : Int → MT → Prop} (v1 : Int) (v2 : Int)
    (h : ClV G J_mo_lives M [pR 101, pI 39, pI (M 101 14)] (fun M1 => ((¬ v2 = 0 → (¬ v2 = 1 → (0 ≤ v1 ∧ v1 < 12) ∧ (P (M1 120 (v1.toNat)) M1)) ∧ (v2 = 1 → (0 ≤ v1 ∧ v1 < 12) ∧ (P (M1 119 (v1.toNat)) M1))) ∧ (v2 = 0 → (0 ≤ v1 ∧ v1 < 12) ∧ (P (M1 118 (v1.toNat)) M1))))) : ClI G J_mo_cameOf M [pR 101, pI v1, pI v2] P := by
  show Wp G J_mo_cameOf 0 0 0 [(0, pR 101), (1, pI v1), (2, pI v2)] [] NN RF M _
  refine wp_aload_n d_mo_cameOf_0 rfl 0 rfl ?_
  refine wp_bipush d_mo_cameOf_1 ⟨by decide, by decide⟩ (by decide) ?_
  refine wp_aload_n d_mo_cameOf_3 rfl 0 rfl ?_
  refine wp_geti d_mo_cameOf_4 14 s_101 rfl (Nat.le_of_ble_eq_true rfl) (Nat.le_of_ble_eq_true rfl) rfl lk_mo_73 ?_
  refine wp_callV [pI _, pI _] _ d_mo_cameOf_7 jd_mo_lives lk_mo_195 rfl s_101 rfl (Nat.le_of_ble_eq_true rfl) (Nat.le_of_ble_eq_true rfl) rfl ?_
  refine clV_k h ?_
  intro M1 h
  refine wp_iload_n d_mo_cameOf_10 rfl 2 rfl ?_
  refine wp_if_ne 23 d_mo_cameOf_11 (by decide) (fun c1 => ?_) (fun c1 => ?_)
  · have h := h.1 c1
    refine wp_iload_n d_mo_cameOf_23 rfl 2 rfl ?_
    refine wp_iconst d_mo_cameOf_24 ⟨by decide, by decide⟩ ?_
    refine wp_icmp_ne 37 d_mo_cameOf_25 (by decide) (fun c2 => ?_) (fun c2 => ?_)
    · have h := h.1 c2
      refine wp_aload_n d_mo_cameOf_37 rfl 0 rfl ?_
      refine wp_getr d_mo_cameOf_38 23 s_101 rfl (Nat.le_of_ble_eq_true rfl) (Nat.le_of_ble_eq_true rfl) rfl rfl lk_mo_64 ?_
      refine wp_iload_n d_mo_cameOf_41 rfl 1 rfl ?_
      obtain ⟨⟨a3, b3⟩, h⟩ := h
      refine wp_iald d_mo_cameOf_42 s_120 (Nat.le_of_ble_eq_true rfl) a3 b3 ?_
      exact wp_iret d_mo_cameOf_43 rfl ⟨Nat.le_of_ble_eq_true rfl, Nat.le_of_ble_eq_true rfl⟩ ⟨_, rfl, rfl, rfl, h⟩
    · have h := h.2 c2
      refine wp_aload_n d_mo_cameOf_28 rfl 0 rfl ?_
      refine wp_getr d_mo_cameOf_29 22 s_101 rfl (Nat.le_of_ble_eq_true rfl) (Nat.le_of_ble_eq_true rfl) rfl rfl lk_mo_61 ?_
      refine wp_iload_n d_mo_cameOf_32 rfl 1 rfl ?_
      obtain ⟨⟨a3, b3⟩, h⟩ := h
      refine wp_iald d_mo_cameOf_33 s_119 (Nat.le_of_ble_eq_true rfl) a3 b3 ?_
      refine wp_goto 43 d_mo_cameOf_34 (by decide) ?_
      exact wp_iret d_mo_cameOf_43 rfl ⟨Nat.le_of_ble_eq_true rfl, Nat.le_of_ble_eq_true rfl⟩ ⟨_, rfl, rfl, rfl, h⟩
  · have h := h.2 c1
    refine wp_aload_n d_mo_cameOf_14 rfl 0 rfl ?_
    refine wp_getr d_mo_cameOf_15 21 s_101 rfl (Nat.le_of_ble_eq_true rfl) (Nat.le_of_ble_eq_true rfl) rfl rfl lk_mo_58 ?_
    refine wp_iload_n d_mo_cameOf_18 rfl 1 rfl ?_
    obtain ⟨⟨a2, b2⟩, h⟩ := h
    refine wp_iald d_mo_cameOf_19 s_118 (Nat.le_of_ble_eq_true rfl) a2 b2 ?_
    refine wp_goto 43 d_mo_cameOf_20 (by decide) ?_
    exact wp_iret d_mo_cameOf_43 rfl ⟨Nat.le_of_ble_eq_true rfl, Nat.le_of_ble_eq_true rfl⟩ ⟨_, rfl, rfl, rfl, h⟩
set_option maxHeartbeats 8000000 in
theorem e_mo_came {G : GT} {M : MT} {P : Int → MT → Prop} (v1 : Int) (v2 : Int)
    (h : ClV G J_mo_reads M [pR 101] (fun M1 => (ClI G J_mo_in M1 [pL v1, pL 0, pL (w32 ((M1 101 12) - 1))] (fun x1 M2 => ((x1 = 0 → P (-1002) M2) ∧ (¬ x1 = 0 → ClI G J_mo_in M2 [pL v2, pL 0, pL 2] (fun x3 M3 => ((x3 = 0 → P (-1002) M3) ∧ (¬ x3 = 0 → ClI G J_mo_cameOf M3 [pR 101, pI v1, pI v2] (fun x5 M4 => (P x5 M4))))))))))) : ClI G J_mo_came M [pR 101, pI v1, pI v2] P := by
  show Wp G J_mo_came 0 0 0 [(0, pR 101), (1, pI v1), (2, pI v2)] [] NN RF M _
  refine wp_aload_n d_mo_came_0 rfl 0 rfl ?_
  refine wp_callV [] _ d_mo_came_1 jd_mo_reads lk_mo_137 rfl s_101 rfl (Nat.le_of_ble_eq_true rfl) (Nat.le_of_ble_eq_true rfl) rfl ?_
  refine clV_k h ?_
  intro M1 h
  refine wp_iload_n d_mo_came_4 rfl 1 rfl ?_
  refine wp_i2l d_mo_came_5 ?_
  refine wp_lconst (v := 0) d_mo_came_6 rfl ?_
  refine wp_aload_n d_mo_came_7 rfl 0 rfl ?_
  refine wp_geti d_mo_came_8 12 s_101 rfl (Nat.le_of_ble_eq_true rfl) (Nat.le_of_ble_eq_true rfl) rfl lk_mo_157 ?_
  refine wp_iconst d_mo_came_11 ⟨by decide, by decide⟩ ?_
  refine wp_isub d_mo_came_12 ?_
  refine wp_i2l d_mo_came_13 ?_
  refine wp_callS [pL _, pL _, pL _] d_mo_came_14 jd_mo_in lk_mo_79 rfl (Nat.le_of_ble_eq_true rfl) rfl ?_
  refine clI_k h ?_
  intro x1 M2 h
  refine wp_if_eq 41 d_mo_came_17 (by decide) (fun c2 => ?_) (fun c2 => ?_)
  · have h := h.1 c2
    refine wp_sipush d_mo_came_41 ⟨by decide, by decide⟩ (by decide) ?_
    exact wp_iret d_mo_came_44 rfl ⟨Nat.le_of_ble_eq_true rfl, Nat.le_of_ble_eq_true rfl⟩ ⟨_, rfl, rfl, rfl, h⟩
  · have h := h.2 c2
    refine wp_iload_n d_mo_came_20 rfl 2 rfl ?_
    refine wp_i2l d_mo_came_21 ?_
    refine wp_lconst (v := 0) d_mo_came_22 rfl ?_
    refine wp_ldc2 lk_mo_92 d_mo_came_23 ⟨by decide, by decide⟩ ?_
    refine wp_callS [pL _, pL _, pL _] d_mo_came_26 jd_mo_in lk_mo_79 rfl (Nat.le_of_ble_eq_true rfl) rfl ?_
    refine clI_k h ?_
    intro x3 M3 h
    refine wp_if_eq 41 d_mo_came_29 (by decide) (fun c4 => ?_) (fun c4 => ?_)
    · have h := h.1 c4
      refine wp_sipush d_mo_came_41 ⟨by decide, by decide⟩ (by decide) ?_
      exact wp_iret d_mo_came_44 rfl ⟨Nat.le_of_ble_eq_true rfl, Nat.le_of_ble_eq_true rfl⟩ ⟨_, rfl, rfl, rfl, h⟩
    · have h := h.2 c4
      refine wp_aload_n d_mo_came_32 rfl 0 rfl ?_
      refine wp_iload_n d_mo_came_33 rfl 1 rfl ?_
      refine wp_iload_n d_mo_came_34 rfl 2 rfl ?_
      refine wp_callV [pI _, pI _] _ d_mo_came_35 jd_mo_cameOf lk_mo_204 rfl s_101 rfl (Nat.le_of_ble_eq_true rfl) (Nat.le_of_ble_eq_true rfl) rfl ?_
      refine clI_k h ?_
      intro x5 M4 h
      refine wp_goto 44 d_mo_came_38 (by decide) ?_
      exact wp_iret d_mo_came_44 rfl ⟨Nat.le_of_ble_eq_true rfl, Nat.le_of_ble_eq_true rfl⟩ ⟨_, rfl, rfl, rfl, h⟩
set_option maxHeartbeats 8000000 in
theorem e_mo_interestBy {G : GT} {M : MT} {P : Int → MT → Prop} (v1 : Int) (v2 : Int)
    (h : ClV G J_mo_lives M [pR 101, pI v1, pI v2] (fun M1 => (WpI G J_mo_interestBy 11 [(0, pR 101), (3, pI 0), (4, pI 0)] [] M1 P))) : ClI G J_mo_interestBy M [pR 101, pI v1, pI v2] P := by
  show Wp G J_mo_interestBy 0 0 0 [(0, pR 101), (1, pI v1), (2, pI v2)] [] NN RF M _
  refine wp_aload_n d_mo_interestBy_0 rfl 0 rfl ?_
  refine wp_iload_n d_mo_interestBy_1 rfl 1 rfl ?_
  refine wp_iload_n d_mo_interestBy_2 rfl 2 rfl ?_
  refine wp_callV [pI _, pI _] _ d_mo_interestBy_3 jd_mo_lives lk_mo_195 rfl s_101 rfl (Nat.le_of_ble_eq_true rfl) (Nat.le_of_ble_eq_true rfl) rfl ?_
  refine clV_k h ?_
  intro M1 h
  refine wp_iconst d_mo_interestBy_6 ⟨by decide, by decide⟩ ?_
  refine wp_istore_n (L2 := [(0, pR 101), (1, pI _), (2, pI _), (3, pI _)]) d_mo_interestBy_7 rfl (Nat.le_of_ble_eq_true rfl) [1, 2, 3, 0] rfl ?_
  refine wp_iconst d_mo_interestBy_8 ⟨by decide, by decide⟩ ?_
  refine wp_istore (L2 := [(0, pR 101), (1, pI _), (2, pI _), (3, pI _), (4, pI _)]) d_mo_interestBy_9 (Nat.le_of_ble_eq_true rfl) [1, 2, 3, 4, 0] rfl ?_
  refine wp_sub (L2 := [(0, pR 101), (3, pI _), (4, pI _)]) [0, 3, 4] rfl ?_
  exact h
set_option maxHeartbeats 8000000 in
theorem b_mo_interestBy_11 {G : GT} {M : MT} {P : Int → MT → Prop} (v3 : Int) (v4 : Int)
    (h : ((M 101 7) ≤ v4 → P v3 M) ∧ (v4 < (M 101 7) → (0 ≤ v4 ∧ v4 < 7) ∧ ((0 ≤ v4 ∧ v4 < 6) ∧ (WpI G J_mo_interestBy 11 [(0, pR 101), (3, pI (w32 (v3 + (w32 ((M 113 (v4.toNat)) - (M 109 (v4.toNat))))))), (4, pI (w32 (v4 + 1)))] [] M P)))) : WpI G J_mo_interestBy 11 [(0, pR 101), (3, pI v3), (4, pI v4)] [] M P := by
  show Wp G J_mo_interestBy 0 0 11 [(0, pR 101), (3, pI v3), (4, pI v4)] [] NN RF M _
  refine wp_iload d_mo_interestBy_11 2 rfl ?_
  refine wp_aload_n d_mo_interestBy_13 rfl 0 rfl ?_
  refine wp_geti d_mo_interestBy_14 7 s_101 rfl (Nat.le_of_ble_eq_true rfl) (Nat.le_of_ble_eq_true rfl) rfl lk_mo_112 ?_
  refine wp_icmp_ge 44 d_mo_interestBy_17 (by decide) (fun c1 => ?_) (fun c1 => ?_)
  · have h := h.1 c1
    refine wp_iload_n d_mo_interestBy_44 rfl 1 rfl ?_
    exact wp_iret d_mo_interestBy_45 rfl ⟨Nat.le_of_ble_eq_true rfl, Nat.le_of_ble_eq_true rfl⟩ ⟨_, rfl, rfl, rfl, h⟩
  · have h := h.2 c1
    refine wp_iload_n d_mo_interestBy_20 rfl 1 rfl ?_
    refine wp_aload_n d_mo_interestBy_21 rfl 0 rfl ?_
    refine wp_getr d_mo_interestBy_22 16 s_101 rfl (Nat.le_of_ble_eq_true rfl) (Nat.le_of_ble_eq_true rfl) rfl rfl lk_mo_43 ?_
    refine wp_iload d_mo_interestBy_25 2 rfl ?_
    obtain ⟨⟨a2, b2⟩, h⟩ := h
    refine wp_iald d_mo_interestBy_27 s_113 (Nat.le_of_ble_eq_true rfl) a2 b2 ?_
    refine wp_aload_n d_mo_interestBy_28 rfl 0 rfl ?_
    refine wp_getr d_mo_interestBy_29 9 s_101 rfl (Nat.le_of_ble_eq_true rfl) (Nat.le_of_ble_eq_true rfl) rfl rfl lk_mo_31 ?_
    refine wp_iload d_mo_interestBy_32 2 rfl ?_
    obtain ⟨⟨a3, b3⟩, h⟩ := h
    refine wp_iald d_mo_interestBy_34 s_109 (Nat.le_of_ble_eq_true rfl) a3 b3 ?_
    refine wp_isub d_mo_interestBy_35 ?_
    refine wp_iadd d_mo_interestBy_36 ?_
    refine wp_istore_n (L2 := [(0, pR 101), (3, pI _), (4, pI _)]) d_mo_interestBy_37 rfl (Nat.le_of_ble_eq_true rfl) [1, 0, 2] rfl ?_
    refine wp_iinc (L2 := [(0, pR 101), (3, pI _), (4, pI _)]) d_mo_interestBy_38 2 rfl (Nat.le_of_ble_eq_true rfl) [1, 2, 0] rfl ?_
    refine wp_goto 11 d_mo_interestBy_41 (by decide) ?_
    exact h
set_option maxHeartbeats 8000000 in
theorem e_mo_interest {G : GT} {M : MT} {P : Int → MT → Prop} (v1 : Int)
    (h : ClV G J_mo_reads M [pR 101] (fun M1 => (ClI G J_mo_isYear M1 [pI v1] (fun x1 M2 => ((x1 = 0 → P (-1002) M2) ∧ (¬ x1 = 0 → ClI G J_mo_interestBy M2 [pR 101, pI v1, pI (M2 101 14)] (fun x3 M3 => (P x3 M3)))))))) : ClI G J_mo_interest M [pR 101, pI v1] P := by
  show Wp G J_mo_interest 0 0 0 [(0, pR 101), (1, pI v1)] [] NN RF M _
  refine wp_aload_n d_mo_interest_0 rfl 0 rfl ?_
  refine wp_callV [] _ d_mo_interest_1 jd_mo_reads lk_mo_137 rfl s_101 rfl (Nat.le_of_ble_eq_true rfl) (Nat.le_of_ble_eq_true rfl) rfl ?_
  refine clV_k h ?_
  intro M1 h
  refine wp_iload_n d_mo_interest_4 rfl 1 rfl ?_
  refine wp_callS [pI _] d_mo_interest_5 jd_mo_isYear lk_mo_150 rfl (Nat.le_of_ble_eq_true rfl) rfl ?_
  refine clI_k h ?_
  intro x1 M2 h
  refine wp_if_eq 23 d_mo_interest_8 (by decide) (fun c2 => ?_) (fun c2 => ?_)
  · have h := h.1 c2
    refine wp_sipush d_mo_interest_23 ⟨by decide, by decide⟩ (by decide) ?_
    exact wp_iret d_mo_interest_26 rfl ⟨Nat.le_of_ble_eq_true rfl, Nat.le_of_ble_eq_true rfl⟩ ⟨_, rfl, rfl, rfl, h⟩
  · have h := h.2 c2
    refine wp_aload_n d_mo_interest_11 rfl 0 rfl ?_
    refine wp_iload_n d_mo_interest_12 rfl 1 rfl ?_
    refine wp_aload_n d_mo_interest_13 rfl 0 rfl ?_
    refine wp_geti d_mo_interest_14 14 s_101 rfl (Nat.le_of_ble_eq_true rfl) (Nat.le_of_ble_eq_true rfl) rfl lk_mo_73 ?_
    refine wp_callV [pI _, pI _] _ d_mo_interest_17 jd_mo_interestBy lk_mo_207 rfl s_101 rfl (Nat.le_of_ble_eq_true rfl) (Nat.le_of_ble_eq_true rfl) rfl ?_
    refine clI_k h ?_
    intro x3 M3 h
    refine wp_goto 26 d_mo_interest_20 (by decide) ?_
    exact wp_iret d_mo_interest_26 rfl ⟨Nat.le_of_ble_eq_true rfl, Nat.le_of_ble_eq_true rfl⟩ ⟨_, rfl, rfl, rfl, h⟩
set_option maxHeartbeats 8000000 in
theorem e_mo_homeOf {G : GT} {M : MT} {P : Int → MT → Prop} (v1 : Int)
    (h : ClV G J_mo_startsAll M [pR 101] (fun M1 => (WpI G J_mo_homeOf 6 [(0, pR 101), (1, pI v1), (2, pI 0)] [] M1 P))) : ClI G J_mo_homeOf M [pR 101, pI v1] P := by
  show Wp G J_mo_homeOf 0 0 0 [(0, pR 101), (1, pI v1)] [] NN RF M _
  refine wp_aload_n d_mo_homeOf_0 rfl 0 rfl ?_
  refine wp_callV [] _ d_mo_homeOf_1 jd_mo_startsAll lk_mo_189 rfl s_101 rfl (Nat.le_of_ble_eq_true rfl) (Nat.le_of_ble_eq_true rfl) rfl ?_
  refine clV_k h ?_
  intro M1 h
  refine wp_iconst d_mo_homeOf_4 ⟨by decide, by decide⟩ ?_
  refine wp_istore_n (L2 := [(0, pR 101), (1, pI _), (2, pI _)]) d_mo_homeOf_5 rfl (Nat.le_of_ble_eq_true rfl) [1, 2, 0] rfl ?_
  exact h
set_option maxHeartbeats 8000000 in
theorem b_mo_homeOf_6 {G : GT} {M : MT} {P : Int → MT → Prop} (v1 : Int) (v2 : Int)
    (h : (40 ≤ v2 → P (-1) M) ∧ (v2 < 40 → ClV G J_mo_goesOn M [pR 101, pI v2, pI (M 101 14)] (fun M1 => ((v2 < v1 → WpI G J_mo_homeOf 35 [(0, pR 101), (1, pI v1), (2, pI v2), (3, pI 0), (4, pI 0)] [] M1 P) ∧ (v1 ≤ v2 → WpI G J_mo_homeOf 35 [(0, pR 101), (1, pI v1), (2, pI v2), (3, pI 1), (4, pI 0)] [] M1 P))))) : WpI G J_mo_homeOf 6 [(0, pR 101), (1, pI v1), (2, pI v2)] [] M P := by
  show Wp G J_mo_homeOf 0 0 6 [(0, pR 101), (1, pI v1), (2, pI v2)] [] NN RF M _
  refine wp_iload_n d_mo_homeOf_6 rfl 2 rfl ?_
  refine wp_bipush d_mo_homeOf_7 ⟨by decide, by decide⟩ (by decide) ?_
  refine wp_icmp_ge 83 d_mo_homeOf_9 (by decide) (fun c1 => ?_) (fun c1 => ?_)
  · have h := h.1 c1
    refine wp_iconst d_mo_homeOf_83 ⟨by decide, by decide⟩ ?_
    exact wp_iret d_mo_homeOf_84 rfl ⟨Nat.le_of_ble_eq_true rfl, Nat.le_of_ble_eq_true rfl⟩ ⟨_, rfl, rfl, rfl, h⟩
  · have h := h.2 c1
    refine wp_aload_n d_mo_homeOf_12 rfl 0 rfl ?_
    refine wp_iload_n d_mo_homeOf_13 rfl 2 rfl ?_
    refine wp_aload_n d_mo_homeOf_14 rfl 0 rfl ?_
    refine wp_geti d_mo_homeOf_15 14 s_101 rfl (Nat.le_of_ble_eq_true rfl) (Nat.le_of_ble_eq_true rfl) rfl lk_mo_73 ?_
    refine wp_callV [pI _, pI _] _ d_mo_homeOf_18 jd_mo_goesOn lk_mo_192 rfl s_101 rfl (Nat.le_of_ble_eq_true rfl) (Nat.le_of_ble_eq_true rfl) rfl ?_
    refine clV_k h ?_
    intro M1 h
    refine wp_iload_n d_mo_homeOf_21 rfl 2 rfl ?_
    refine wp_iload_n d_mo_homeOf_22 rfl 1 rfl ?_
    refine wp_icmp_lt 30 d_mo_homeOf_23 (by decide) (fun c2 => ?_) (fun c2 => ?_)
    · have h := h.1 c2
      refine wp_iconst d_mo_homeOf_30 ⟨by decide, by decide⟩ ?_
      refine wp_istore_n (L2 := [(0, pR 101), (1, pI _), (2, pI _), (3, pI _)]) d_mo_homeOf_31 rfl (Nat.le_of_ble_eq_true rfl) [1, 2, 3, 0] rfl ?_
      refine wp_iconst d_mo_homeOf_32 ⟨by decide, by decide⟩ ?_
      refine wp_istore (L2 := [(0, pR 101), (1, pI _), (2, pI _), (3, pI _), (4, pI _)]) d_mo_homeOf_33 (Nat.le_of_ble_eq_true rfl) [1, 2, 3, 4, 0] rfl ?_
      exact h
    · have h := h.2 c2
      refine wp_iconst d_mo_homeOf_26 ⟨by decide, by decide⟩ ?_
      refine wp_goto 31 d_mo_homeOf_27 (by decide) ?_
      refine wp_istore_n (L2 := [(0, pR 101), (1, pI _), (2, pI _), (3, pI _)]) d_mo_homeOf_31 rfl (Nat.le_of_ble_eq_true rfl) [1, 2, 3, 0] rfl ?_
      refine wp_iconst d_mo_homeOf_32 ⟨by decide, by decide⟩ ?_
      refine wp_istore (L2 := [(0, pR 101), (1, pI _), (2, pI _), (3, pI _), (4, pI _)]) d_mo_homeOf_33 (Nat.le_of_ble_eq_true rfl) [1, 2, 3, 4, 0] rfl ?_
      exact h
set_option maxHeartbeats 8000000 in
theorem b_mo_homeOf_35 {G : GT} {M : MT} {P : Int → MT → Prop} (v1 : Int) (v2 : Int) (v3 : Int) (v4 : Int)
    (h : ((M 101 7) ≤ v4 → (v3 = 0 → WpI G J_mo_homeOf 6 [(0, pR 101), (1, pI v1), (2, pI (w32 (v2 + 1)))] [] M P) ∧ (¬ v3 = 0 → P v2 M)) ∧ (v4 < (M 101 7) → (v3 = 0 → WpI G J_mo_homeOf 35 [(0, pR 101), (1, pI v1), (2, pI v2), (3, pI 0), (4, pI (w32 (v4 + 1)))] [] M P) ∧ (¬ v3 = 0 → (0 ≤ v4 ∧ v4 < 6) ∧ ((¬ (M 116 (v4.toNat)) = (-1) → WpI G J_mo_homeOf 35 [(0, pR 101), (1, pI v1), (2, pI v2), (3, pI 0), (4, pI (w32 (v4 + 1)))] [] M P) ∧ ((M 116 (v4.toNat)) = (-1) → WpI G J_mo_homeOf 35 [(0, pR 101), (1, pI v1), (2, pI v2), (3, pI 1), (4, pI (w32 (v4 + 1)))] [] M P))))) : WpI G J_mo_homeOf 35 [(0, pR 101), (1, pI v1), (2, pI v2), (3, pI v3), (4, pI v4)] [] M P := by
  show Wp G J_mo_homeOf 0 0 35 [(0, pR 101), (1, pI v1), (2, pI v2), (3, pI v3), (4, pI v4)] [] NN RF M _
  refine wp_iload d_mo_homeOf_35 4 rfl ?_
  refine wp_aload_n d_mo_homeOf_37 rfl 0 rfl ?_
  refine wp_geti d_mo_homeOf_38 7 s_101 rfl (Nat.le_of_ble_eq_true rfl) (Nat.le_of_ble_eq_true rfl) rfl lk_mo_112 ?_
  refine wp_icmp_ge 71 d_mo_homeOf_41 (by decide) (fun c1 => ?_) (fun c1 => ?_)
  · have h := h.1 c1
    refine wp_iload_n d_mo_homeOf_71 rfl 3 rfl ?_
    refine wp_if_eq 77 d_mo_homeOf_72 (by decide) (fun c2 => ?_) (fun c2 => ?_)
    · have h := h.1 c2
      refine wp_iinc (L2 := [(0, pR 101), (1, pI _), (2, pI _), (3, pI _), (4, pI _)]) d_mo_homeOf_77 2 rfl (Nat.le_of_ble_eq_true rfl) [1, 2, 0, 3, 4] rfl ?_
      refine wp_goto 6 d_mo_homeOf_80 (by decide) ?_
      refine wp_sub (L2 := [(0, pR 101), (1, pI _), (2, pI _)]) [0, 1, 2] rfl ?_
      exact h
    · have h := h.2 c2
      refine wp_iload_n d_mo_homeOf_75 rfl 2 rfl ?_
      exact wp_iret d_mo_homeOf_76 rfl ⟨Nat.le_of_ble_eq_true rfl, Nat.le_of_ble_eq_true rfl⟩ ⟨_, rfl, rfl, rfl, h⟩
  · have h := h.2 c1
    refine wp_iload_n d_mo_homeOf_44 rfl 3 rfl ?_
    refine wp_if_eq 63 d_mo_homeOf_45 (by decide) (fun c2 => ?_) (fun c2 => ?_)
    · have h := h.1 c2
      refine wp_iconst d_mo_homeOf_63 ⟨by decide, by decide⟩ ?_
      refine wp_istore_n (L2 := [(0, pR 101), (1, pI _), (2, pI _), (3, pI _), (4, pI _)]) d_mo_homeOf_64 rfl (Nat.le_of_ble_eq_true rfl) [1, 2, 3, 0, 4] rfl ?_
      refine wp_iinc (L2 := [(0, pR 101), (1, pI _), (2, pI _), (3, pI _), (4, pI _)]) d_mo_homeOf_65 4 rfl (Nat.le_of_ble_eq_true rfl) [1, 2, 3, 4, 0] rfl ?_
      refine wp_goto 35 d_mo_homeOf_68 (by decide) ?_
      exact h
    · have h := h.2 c2
      refine wp_aload_n d_mo_homeOf_48 rfl 0 rfl ?_
      refine wp_getr d_mo_homeOf_49 19 s_101 rfl (Nat.le_of_ble_eq_true rfl) (Nat.le_of_ble_eq_true rfl) rfl rfl lk_mo_52 ?_
      refine wp_iload d_mo_homeOf_52 4 rfl ?_
      obtain ⟨⟨a3, b3⟩, h⟩ := h
      refine wp_iald d_mo_homeOf_54 s_116 (Nat.le_of_ble_eq_true rfl) a3 b3 ?_
      refine wp_iconst d_mo_homeOf_55 ⟨by decide, by decide⟩ ?_
      refine wp_icmp_ne 63 d_mo_homeOf_56 (by decide) (fun c4 => ?_) (fun c4 => ?_)
      · have h := h.1 c4
        refine wp_iconst d_mo_homeOf_63 ⟨by decide, by decide⟩ ?_
        refine wp_istore_n (L2 := [(0, pR 101), (1, pI _), (2, pI _), (3, pI _), (4, pI _)]) d_mo_homeOf_64 rfl (Nat.le_of_ble_eq_true rfl) [1, 2, 3, 0, 4] rfl ?_
        refine wp_iinc (L2 := [(0, pR 101), (1, pI _), (2, pI _), (3, pI _), (4, pI _)]) d_mo_homeOf_65 4 rfl (Nat.le_of_ble_eq_true rfl) [1, 2, 3, 4, 0] rfl ?_
        refine wp_goto 35 d_mo_homeOf_68 (by decide) ?_
        exact h
      · have h := h.2 c4
        refine wp_iconst d_mo_homeOf_59 ⟨by decide, by decide⟩ ?_
        refine wp_goto 64 d_mo_homeOf_60 (by decide) ?_
        refine wp_istore_n (L2 := [(0, pR 101), (1, pI _), (2, pI _), (3, pI _), (4, pI _)]) d_mo_homeOf_64 rfl (Nat.le_of_ble_eq_true rfl) [1, 2, 3, 0, 4] rfl ?_
        refine wp_iinc (L2 := [(0, pR 101), (1, pI _), (2, pI _), (3, pI _), (4, pI _)]) d_mo_homeOf_65 4 rfl (Nat.le_of_ble_eq_true rfl) [1, 2, 3, 4, 0] rfl ?_
        refine wp_goto 35 d_mo_homeOf_68 (by decide) ?_
        exact h
set_option maxHeartbeats 8000000 in
theorem e_mo_home {G : GT} {M : MT} {P : Int → MT → Prop} (v1 : Int)
    (h : ClV G J_mo_reads M [pR 101] (fun M1 => (ClI G J_mo_isYear M1 [pI v1] (fun x1 M2 => ((x1 = 0 → P (-2) M2) ∧ (¬ x1 = 0 → ClI G J_mo_homeOf M2 [pR 101, pI v1] (fun x3 M3 => (P x3 M3)))))))) : ClI G J_mo_home M [pR 101, pI v1] P := by
  show Wp G J_mo_home 0 0 0 [(0, pR 101), (1, pI v1)] [] NN RF M _
  refine wp_aload_n d_mo_home_0 rfl 0 rfl ?_
  refine wp_callV [] _ d_mo_home_1 jd_mo_reads lk_mo_137 rfl s_101 rfl (Nat.le_of_ble_eq_true rfl) (Nat.le_of_ble_eq_true rfl) rfl ?_
  refine clV_k h ?_
  intro M1 h
  refine wp_iload_n d_mo_home_4 rfl 1 rfl ?_
  refine wp_callS [pI _] d_mo_home_5 jd_mo_isYear lk_mo_150 rfl (Nat.le_of_ble_eq_true rfl) rfl ?_
  refine clI_k h ?_
  intro x1 M2 h
  refine wp_if_eq 19 d_mo_home_8 (by decide) (fun c2 => ?_) (fun c2 => ?_)
  · have h := h.1 c2
    refine wp_bipush d_mo_home_19 ⟨by decide, by decide⟩ (by decide) ?_
    exact wp_iret d_mo_home_21 rfl ⟨Nat.le_of_ble_eq_true rfl, Nat.le_of_ble_eq_true rfl⟩ ⟨_, rfl, rfl, rfl, h⟩
  · have h := h.2 c2
    refine wp_aload_n d_mo_home_11 rfl 0 rfl ?_
    refine wp_iload_n d_mo_home_12 rfl 1 rfl ?_
    refine wp_callV [pI _] _ d_mo_home_13 jd_mo_homeOf lk_mo_210 rfl s_101 rfl (Nat.le_of_ble_eq_true rfl) (Nat.le_of_ble_eq_true rfl) rfl ?_
    refine clI_k h ?_
    intro x3 M3 h
    refine wp_goto 21 d_mo_home_16 (by decide) ?_
    exact wp_iret d_mo_home_21 rfl ⟨Nat.le_of_ble_eq_true rfl, Nat.le_of_ble_eq_true rfl⟩ ⟨_, rfl, rfl, rfl, h⟩
set_option maxHeartbeats 8000000 in
theorem e_mo_codes {G : GT} {M : MT} {P : Int → MT → Prop} (v1 : Int)
    (h : WpI G J_mo_codes 4 [(0, pR 101), (1, pI v1), (2, pI 1), (3, pI 0)] [] M P) : ClI G J_mo_codes M [pR 101, pI v1] P := by
  show Wp G J_mo_codes 0 0 0 [(0, pR 101), (1, pI v1)] [] NN RF M _
  refine wp_iconst d_mo_codes_0 ⟨by decide, by decide⟩ ?_
  refine wp_istore_n (L2 := [(0, pR 101), (1, pI _), (2, pI _)]) d_mo_codes_1 rfl (Nat.le_of_ble_eq_true rfl) [1, 2, 0] rfl ?_
  refine wp_iconst d_mo_codes_2 ⟨by decide, by decide⟩ ?_
  refine wp_istore_n (L2 := [(0, pR 101), (1, pI _), (2, pI _), (3, pI _)]) d_mo_codes_3 rfl (Nat.le_of_ble_eq_true rfl) [1, 2, 3, 0] rfl ?_
  exact h
set_option maxHeartbeats 8000000 in
theorem b_mo_codes_4 {G : GT} {M : MT} {P : Int → MT → Prop} (v1 : Int) (v2 : Int) (v3 : Int)
    (h : (v1 ≤ v3 → P v2 M) ∧ (v3 < v1 → WpI G J_mo_codes 4 [(0, pR 101), (1, pI v1), (2, pI (w32 (v2 * (M 101 10)))), (3, pI (w32 (v3 + 1)))] [] M P)) : WpI G J_mo_codes 4 [(0, pR 101), (1, pI v1), (2, pI v2), (3, pI v3)] [] M P := by
  show Wp G J_mo_codes 0 0 4 [(0, pR 101), (1, pI v1), (2, pI v2), (3, pI v3)] [] NN RF M _
  refine wp_iload_n d_mo_codes_4 rfl 3 rfl ?_
  refine wp_iload_n d_mo_codes_5 rfl 1 rfl ?_
  refine wp_icmp_ge 22 d_mo_codes_6 (by decide) (fun c1 => ?_) (fun c1 => ?_)
  · have h := h.1 c1
    refine wp_iload_n d_mo_codes_22 rfl 2 rfl ?_
    exact wp_iret d_mo_codes_23 rfl ⟨Nat.le_of_ble_eq_true rfl, Nat.le_of_ble_eq_true rfl⟩ ⟨_, rfl, rfl, rfl, h⟩
  · have h := h.2 c1
    refine wp_iload_n d_mo_codes_9 rfl 2 rfl ?_
    refine wp_aload_n d_mo_codes_10 rfl 0 rfl ?_
    refine wp_geti d_mo_codes_11 10 s_101 rfl (Nat.le_of_ble_eq_true rfl) (Nat.le_of_ble_eq_true rfl) rfl lk_mo_122 ?_
    refine wp_imul d_mo_codes_14 ?_
    refine wp_istore_n (L2 := [(0, pR 101), (1, pI _), (2, pI _), (3, pI _)]) d_mo_codes_15 rfl (Nat.le_of_ble_eq_true rfl) [1, 2, 0, 3] rfl ?_
    refine wp_iinc (L2 := [(0, pR 101), (1, pI _), (2, pI _), (3, pI _)]) d_mo_codes_16 3 rfl (Nat.le_of_ble_eq_true rfl) [1, 2, 3, 0] rfl ?_
    refine wp_goto 4 d_mo_codes_19 (by decide) ?_
    exact h
set_option maxHeartbeats 8000000 in
theorem e_mo_figureOf {G : GT} {M : MT} {P : Int → MT → Prop} (v1 : Int) (v2 : Int) (v3 : Int)
    (h : WpI G J_mo_figureOf 8 [(0, pR 101), (3, pI v3), (4, pI v1), (5, pI (w32 (v2 - 1)))] [] M P) : ClI G J_mo_figureOf M [pR 101, pI v1, pI v2, pI v3] P := by
  show Wp G J_mo_figureOf 0 0 0 [(0, pR 101), (1, pI v1), (2, pI v2), (3, pI v3)] [] NN RF M _
  refine wp_iload_n d_mo_figureOf_0 rfl 1 rfl ?_
  refine wp_istore (L2 := [(0, pR 101), (1, pI _), (2, pI _), (3, pI _), (4, pI _)]) d_mo_figureOf_1 (Nat.le_of_ble_eq_true rfl) [1, 2, 3, 4, 0] rfl ?_
  refine wp_iload_n d_mo_figureOf_3 rfl 2 rfl ?_
  refine wp_iconst d_mo_figureOf_4 ⟨by decide, by decide⟩ ?_
  refine wp_isub d_mo_figureOf_5 ?_
  refine wp_istore (L2 := [(0, pR 101), (1, pI _), (2, pI _), (3, pI _), (4, pI _), (5, pI _)]) d_mo_figureOf_6 (Nat.le_of_ble_eq_true rfl) [1, 2, 3, 4, 5, 0] rfl ?_
  refine wp_sub (L2 := [(0, pR 101), (3, pI _), (4, pI _), (5, pI _)]) [0, 3, 4, 5] rfl ?_
  exact h
set_option maxHeartbeats 8000000 in
theorem b_mo_figureOf_8 {G : GT} {M : MT} {P : Int → MT → Prop} (v3 : Int) (v4 : Int) (v5 : Int)
    (h : (v5 ≤ v3 → ¬ (M 101 10) = 0 ∧ (P (w32 (Int.tmod v4 (M 101 10))) M)) ∧ (v3 < v5 → ¬ (M 101 10) = 0 ∧ (WpI G J_mo_figureOf 8 [(0, pR 101), (3, pI v3), (4, pI (w32 (Int.tdiv v4 (M 101 10)))), (5, pI (w32 (v5 + (-1))))] [] M P))) : WpI G J_mo_figureOf 8 [(0, pR 101), (3, pI v3), (4, pI v4), (5, pI v5)] [] M P := by
  show Wp G J_mo_figureOf 0 0 8 [(0, pR 101), (3, pI v3), (4, pI v4), (5, pI v5)] [] NN RF M _
  refine wp_iload d_mo_figureOf_8 3 rfl ?_
  refine wp_iload_n d_mo_figureOf_10 rfl 1 rfl ?_
  refine wp_icmp_le 29 d_mo_figureOf_11 (by decide) (fun c1 => ?_) (fun c1 => ?_)
  · have h := h.1 c1
    refine wp_iload d_mo_figureOf_29 2 rfl ?_
    refine wp_aload_n d_mo_figureOf_31 rfl 0 rfl ?_
    refine wp_geti d_mo_figureOf_32 10 s_101 rfl (Nat.le_of_ble_eq_true rfl) (Nat.le_of_ble_eq_true rfl) rfl lk_mo_122 ?_
    obtain ⟨g2, h⟩ := h
    refine wp_irem d_mo_figureOf_35 g2 ?_
    exact wp_iret d_mo_figureOf_36 rfl ⟨Nat.le_of_ble_eq_true rfl, Nat.le_of_ble_eq_true rfl⟩ ⟨_, rfl, rfl, rfl, h⟩
  · have h := h.2 c1
    refine wp_iload d_mo_figureOf_14 2 rfl ?_
    refine wp_aload_n d_mo_figureOf_16 rfl 0 rfl ?_
    refine wp_geti d_mo_figureOf_17 10 s_101 rfl (Nat.le_of_ble_eq_true rfl) (Nat.le_of_ble_eq_true rfl) rfl lk_mo_122 ?_
    obtain ⟨g2, h⟩ := h
    refine wp_idiv d_mo_figureOf_20 g2 ?_
    refine wp_istore (L2 := [(0, pR 101), (3, pI _), (4, pI _), (5, pI _)]) d_mo_figureOf_21 (Nat.le_of_ble_eq_true rfl) [1, 2, 0, 3] rfl ?_
    refine wp_iinc (L2 := [(0, pR 101), (3, pI _), (4, pI _), (5, pI _)]) d_mo_figureOf_23 3 rfl (Nat.le_of_ble_eq_true rfl) [1, 2, 3, 0] rfl ?_
    refine wp_goto 8 d_mo_figureOf_26 (by decide) ?_
    exact h
set_option maxHeartbeats 8000000 in
theorem e_mo_turns {G : GT} {M : MT} {P : MT → Prop} (v1 : Int) (v2 : Int) (v3 : Int)
    (h : ClV G J_mo_begins M [pR 101, pI v1, pI 6] (fun M1 => (WpV G J_mo_turns 10 [(0, pR 101), (2, pI v2), (3, pI v3), (4, pI 0)] [] M1 P))) : ClV G J_mo_turns M [pR 101, pI v1, pI v2, pI v3] P := by
  show Wp G J_mo_turns 0 0 0 [(0, pR 101), (1, pI v1), (2, pI v2), (3, pI v3)] [] NN RF M _
  refine wp_aload_n d_mo_turns_0 rfl 0 rfl ?_
  refine wp_iload_n d_mo_turns_1 rfl 1 rfl ?_
  refine wp_bipush d_mo_turns_2 ⟨by decide, by decide⟩ (by decide) ?_
  refine wp_callV [pI _, pI _] _ d_mo_turns_4 jd_mo_begins lk_mo_171 rfl s_101 rfl (Nat.le_of_ble_eq_true rfl) (Nat.le_of_ble_eq_true rfl) rfl ?_
  refine clV_k h ?_
  intro M1 h
  refine wp_iconst d_mo_turns_7 ⟨by decide, by decide⟩ ?_
  refine wp_istore (L2 := [(0, pR 101), (1, pI _), (2, pI _), (3, pI _), (4, pI _)]) d_mo_turns_8 (Nat.le_of_ble_eq_true rfl) [1, 2, 3, 4, 0] rfl ?_
  refine wp_sub (L2 := [(0, pR 101), (2, pI _), (3, pI _), (4, pI _)]) [0, 2, 3, 4] rfl ?_
  exact h
set_option maxHeartbeats 8000000 in
theorem b_mo_turns_10 {G : GT} {M : MT} {P : MT → Prop} (v2 : Int) (v3 : Int) (v4 : Int)
    (h : (v3 ≤ v4 → P M) ∧ (v4 < v3 → ClI G J_mo_figureOf M [pR 101, pI v2, pI v3, pI v4] (fun x2 M1 => (ClV G J_mo_hummed M1 [pR 101, pI 6, pI x2] (fun M2 => (WpV G J_mo_turns 10 [(0, pR 101), (2, pI v2), (3, pI v3), (4, pI (w32 (v4 + 1)))] [] M2 P)))))) : WpV G J_mo_turns 10 [(0, pR 101), (2, pI v2), (3, pI v3), (4, pI v4)] [] M P := by
  show Wp G J_mo_turns 0 0 10 [(0, pR 101), (2, pI v2), (3, pI v3), (4, pI v4)] [] NN RF M _
  refine wp_iload d_mo_turns_10 3 rfl ?_
  refine wp_iload_n d_mo_turns_12 rfl 2 rfl ?_
  refine wp_icmp_ge 36 d_mo_turns_13 (by decide) (fun c1 => ?_) (fun c1 => ?_)
  · have h := h.1 c1
    exact wp_vret d_mo_turns_36 rfl ⟨Nat.le_of_ble_eq_true rfl, Nat.le_of_ble_eq_true rfl⟩ ⟨rfl, rfl, rfl, h⟩
  · have h := h.2 c1
    refine wp_aload_n d_mo_turns_16 rfl 0 rfl ?_
    refine wp_bipush d_mo_turns_17 ⟨by decide, by decide⟩ (by decide) ?_
    refine wp_aload_n d_mo_turns_19 rfl 0 rfl ?_
    refine wp_iload_n d_mo_turns_20 rfl 1 rfl ?_
    refine wp_iload_n d_mo_turns_21 rfl 2 rfl ?_
    refine wp_iload d_mo_turns_22 3 rfl ?_
    refine wp_callV [pI _, pI _, pI _] _ d_mo_turns_24 jd_mo_figureOf lk_mo_213 rfl s_101 rfl (Nat.le_of_ble_eq_true rfl) (Nat.le_of_ble_eq_true rfl) rfl ?_
    refine clI_k h ?_
    intro x2 M1 h
    refine wp_callV [pI _, pI _] _ d_mo_turns_27 jd_mo_hummed lk_mo_183 rfl s_101 rfl (Nat.le_of_ble_eq_true rfl) (Nat.le_of_ble_eq_true rfl) rfl ?_
    refine clV_k h ?_
    intro M2 h
    refine wp_iinc (L2 := [(0, pR 101), (2, pI _), (3, pI _), (4, pI _)]) d_mo_turns_30 3 rfl (Nat.le_of_ble_eq_true rfl) [1, 2, 3, 0] rfl ?_
    refine wp_goto 10 d_mo_turns_33 (by decide) ?_
    exact h
set_option maxHeartbeats 8000000 in
theorem e_mo_notesNow {G : GT} {M : MT} {P : Int → MT → Prop} 
    (h : WpI G J_mo_notesNow 4 [(0, pR 101), (1, pI 0), (2, pI 0)] [] M P) : ClI G J_mo_notesNow M [pR 101] P := by
  show Wp G J_mo_notesNow 0 0 0 [(0, pR 101)] [] NN RF M _
  refine wp_iconst d_mo_notesNow_0 ⟨by decide, by decide⟩ ?_
  refine wp_istore_n (L2 := [(0, pR 101), (1, pI _)]) d_mo_notesNow_1 rfl (Nat.le_of_ble_eq_true rfl) [1, 0] rfl ?_
  refine wp_iconst d_mo_notesNow_2 ⟨by decide, by decide⟩ ?_
  refine wp_istore_n (L2 := [(0, pR 101), (1, pI _), (2, pI _)]) d_mo_notesNow_3 rfl (Nat.le_of_ble_eq_true rfl) [1, 2, 0] rfl ?_
  exact h
set_option maxHeartbeats 8000000 in
theorem b_mo_notesNow_4 {G : GT} {M : MT} {P : Int → MT → Prop} (v1 : Int) (v2 : Int)
    (h : ((M 113 6) ≤ v2 → P v1 M) ∧ (v2 < (M 113 6) → (0 ≤ (w32 (240 + v2)) ∧ (w32 (240 + v2)) < 280) ∧ (WpI G J_mo_notesNow 4 [(0, pR 101), (1, pI (ior v1 (ishl 1 (M 112 ((w32 (240 + v2)).toNat))))), (2, pI (w32 (v2 + 1)))] [] M P))) : WpI G J_mo_notesNow 4 [(0, pR 101), (1, pI v1), (2, pI v2)] [] M P := by
  show Wp G J_mo_notesNow 0 0 4 [(0, pR 101), (1, pI v1), (2, pI v2)] [] NN RF M _
  refine wp_iload_n d_mo_notesNow_4 rfl 2 rfl ?_
  refine wp_aload_n d_mo_notesNow_5 rfl 0 rfl ?_
  refine wp_getr d_mo_notesNow_6 16 s_101 rfl (Nat.le_of_ble_eq_true rfl) (Nat.le_of_ble_eq_true rfl) rfl rfl lk_mo_43 ?_
  refine wp_bipush d_mo_notesNow_9 ⟨by decide, by decide⟩ (by decide) ?_
  refine wp_iald d_mo_notesNow_11 s_113 (Nat.le_of_ble_eq_true rfl) (by decide) (by decide) ?_
  refine wp_icmp_ge 36 d_mo_notesNow_12 (by decide) (fun c1 => ?_) (fun c1 => ?_)
  · have h := h.1 c1
    refine wp_iload_n d_mo_notesNow_36 rfl 1 rfl ?_
    exact wp_iret d_mo_notesNow_37 rfl ⟨Nat.le_of_ble_eq_true rfl, Nat.le_of_ble_eq_true rfl⟩ ⟨_, rfl, rfl, rfl, h⟩
  · have h := h.2 c1
    refine wp_iload_n d_mo_notesNow_15 rfl 1 rfl ?_
    refine wp_iconst d_mo_notesNow_16 ⟨by decide, by decide⟩ ?_
    refine wp_aload_n d_mo_notesNow_17 rfl 0 rfl ?_
    refine wp_getr d_mo_notesNow_18 15 s_101 rfl (Nat.le_of_ble_eq_true rfl) (Nat.le_of_ble_eq_true rfl) rfl rfl lk_mo_40 ?_
    refine wp_sipush d_mo_notesNow_21 ⟨by decide, by decide⟩ (by decide) ?_
    refine wp_iload_n d_mo_notesNow_24 rfl 2 rfl ?_
    refine wp_iadd d_mo_notesNow_25 ?_
    obtain ⟨⟨a2, b2⟩, h⟩ := h
    refine wp_iald d_mo_notesNow_26 s_112 (Nat.le_of_ble_eq_true rfl) a2 b2 ?_
    refine wp_ishl d_mo_notesNow_27 ?_
    refine wp_ior d_mo_notesNow_28 ?_
    refine wp_istore_n (L2 := [(0, pR 101), (1, pI _), (2, pI _)]) d_mo_notesNow_29 rfl (Nat.le_of_ble_eq_true rfl) [1, 0, 2] rfl ?_
    refine wp_iinc (L2 := [(0, pR 101), (1, pI _), (2, pI _)]) d_mo_notesNow_30 2 rfl (Nat.le_of_ble_eq_true rfl) [1, 2, 0] rfl ?_
    refine wp_goto 4 d_mo_notesNow_33 (by decide) ?_
    exact h
set_option maxHeartbeats 8000000 in
theorem e_mo_lendOf {G : GT} {M : MT} {P : Int → MT → Prop} (v1 : Int) (v2 : Int) (v3 : Int)
    (h : WpI G J_mo_lendOf 3 [(0, pR 101), (1, pI v1), (2, pI v2), (3, pI v3), (4, pI 0)] [] M P) : ClI G J_mo_lendOf M [pR 101, pI v1, pI v2, pI v3] P := by
  show Wp G J_mo_lendOf 0 0 0 [(0, pR 101), (1, pI v1), (2, pI v2), (3, pI v3)] [] NN RF M _
  refine wp_iconst d_mo_lendOf_0 ⟨by decide, by decide⟩ ?_
  refine wp_istore (L2 := [(0, pR 101), (1, pI _), (2, pI _), (3, pI _), (4, pI _)]) d_mo_lendOf_1 (Nat.le_of_ble_eq_true rfl) [1, 2, 3, 4, 0] rfl ?_
  exact h
set_option maxHeartbeats 8000000 in
theorem b_mo_lendOf_3 {G : GT} {M : MT} {P : Int → MT → Prop} (v1 : Int) (v2 : Int) (v3 : Int) (v4 : Int)
    (h : (4 ≤ v4 → P (-1) M) ∧ (v4 < 4 → WpI G J_mo_lendOf 12 [(0, pR 101), (1, pI v1), (2, pI v2), (3, pI v3), (4, pI v4), (5, pI 0)] [] M P)) : WpI G J_mo_lendOf 3 [(0, pR 101), (1, pI v1), (2, pI v2), (3, pI v3), (4, pI v4)] [] M P := by
  show Wp G J_mo_lendOf 0 0 3 [(0, pR 101), (1, pI v1), (2, pI v2), (3, pI v3), (4, pI v4)] [] NN RF M _
  refine wp_iload d_mo_lendOf_3 4 rfl ?_
  refine wp_iconst d_mo_lendOf_5 ⟨by decide, by decide⟩ ?_
  refine wp_icmp_ge 85 d_mo_lendOf_6 (by decide) (fun c1 => ?_) (fun c1 => ?_)
  · have h := h.1 c1
    refine wp_iconst d_mo_lendOf_85 ⟨by decide, by decide⟩ ?_
    exact wp_iret d_mo_lendOf_86 rfl ⟨Nat.le_of_ble_eq_true rfl, Nat.le_of_ble_eq_true rfl⟩ ⟨_, rfl, rfl, rfl, h⟩
  · have h := h.2 c1
    refine wp_iconst d_mo_lendOf_9 ⟨by decide, by decide⟩ ?_
    refine wp_istore (L2 := [(0, pR 101), (1, pI _), (2, pI _), (3, pI _), (4, pI _), (5, pI _)]) d_mo_lendOf_10 (Nat.le_of_ble_eq_true rfl) [1, 2, 3, 4, 5, 0] rfl ?_
    exact h
set_option maxHeartbeats 8000000 in
theorem b_mo_lendOf_12 {G : GT} {M : MT} {P : Int → MT → Prop} (v1 : Int) (v2 : Int) (v3 : Int) (v4 : Int) (v5 : Int)
    (h : ClI G J_mo_codes M [pR 101, pI v4] (fun x1 M1 => ((x1 ≤ v5 → WpI G J_mo_lendOf 3 [(0, pR 101), (1, pI v1), (2, pI v2), (3, pI v3), (4, pI (w32 (v4 + 1)))] [] M1 P) ∧ (v5 < x1 → ClV G J_mo_turns M1 [pR 101, pI v1, pI v5, pI v4] (fun M2 => (ClI G J_mo_notesNow M2 [pR 101] (fun x3 M3 => ((¬ (iand v2 (ixor x3 (-1))) = 0 → WpI G J_mo_lendOf 12 [(0, pR 101), (1, pI v1), (2, pI v2), (3, pI v3), (4, pI v4), (5, pI (w32 (v5 + 1)))] [] M3 P) ∧ ((iand v2 (ixor x3 (-1))) = 0 → (¬ v3 = (-1) → (v4 ≤ v3 → P (-1) M3) ∧ (v3 < v4 → ClI G J_mo_figureOf M3 [pR 101, pI v5, pI v4, pI v3] (fun x7 M4 => (P x7 M4)))) ∧ (v3 = (-1) → P v4 M3)))))))))) : WpI G J_mo_lendOf 12 [(0, pR 101), (1, pI v1), (2, pI v2), (3, pI v3), (4, pI v4), (5, pI v5)] [] M P := by
  show Wp G J_mo_lendOf 0 0 12 [(0, pR 101), (1, pI v1), (2, pI v2), (3, pI v3), (4, pI v4), (5, pI v5)] [] NN RF M _
  refine wp_iload d_mo_lendOf_12 5 rfl ?_
  refine wp_aload_n d_mo_lendOf_14 rfl 0 rfl ?_
  refine wp_iload d_mo_lendOf_15 4 rfl ?_
  refine wp_callV [pI _] _ d_mo_lendOf_17 jd_mo_codes lk_mo_216 rfl s_101 rfl (Nat.le_of_ble_eq_true rfl) (Nat.le_of_ble_eq_true rfl) rfl ?_
  refine clI_k h ?_
  intro x1 M1 h
  refine wp_icmp_ge 79 d_mo_lendOf_20 (by decide) (fun c2 => ?_) (fun c2 => ?_)
  · have h := h.1 c2
    refine wp_iinc (L2 := [(0, pR 101), (1, pI _), (2, pI _), (3, pI _), (4, pI _), (5, pI _)]) d_mo_lendOf_79 4 rfl (Nat.le_of_ble_eq_true rfl) [1, 2, 3, 4, 0, 5] rfl ?_
    refine wp_goto 3 d_mo_lendOf_82 (by decide) ?_
    refine wp_sub (L2 := [(0, pR 101), (1, pI _), (2, pI _), (3, pI _), (4, pI _)]) [0, 1, 2, 3, 4] rfl ?_
    exact h
  · have h := h.2 c2
    refine wp_aload_n d_mo_lendOf_23 rfl 0 rfl ?_
    refine wp_iload_n d_mo_lendOf_24 rfl 1 rfl ?_
    refine wp_iload d_mo_lendOf_25 5 rfl ?_
    refine wp_iload d_mo_lendOf_27 4 rfl ?_
    refine wp_callV [pI _, pI _, pI _] _ d_mo_lendOf_29 jd_mo_turns lk_mo_219 rfl s_101 rfl (Nat.le_of_ble_eq_true rfl) (Nat.le_of_ble_eq_true rfl) rfl ?_
    refine clV_k h ?_
    intro M2 h
    refine wp_iload_n d_mo_lendOf_32 rfl 2 rfl ?_
    refine wp_aload_n d_mo_lendOf_33 rfl 0 rfl ?_
    refine wp_callV [] _ d_mo_lendOf_34 jd_mo_notesNow lk_mo_223 rfl s_101 rfl (Nat.le_of_ble_eq_true rfl) (Nat.le_of_ble_eq_true rfl) rfl ?_
    refine clI_k h ?_
    intro x3 M3 h
    refine wp_iconst d_mo_lendOf_37 ⟨by decide, by decide⟩ ?_
    refine wp_ixor d_mo_lendOf_38 ?_
    refine wp_iand d_mo_lendOf_39 ?_
    refine wp_if_ne 73 d_mo_lendOf_40 (by decide) (fun c4 => ?_) (fun c4 => ?_)
    · have h := h.1 c4
      refine wp_iinc (L2 := [(0, pR 101), (1, pI _), (2, pI _), (3, pI _), (4, pI _), (5, pI _)]) d_mo_lendOf_73 5 rfl (Nat.le_of_ble_eq_true rfl) [1, 2, 3, 4, 5, 0] rfl ?_
      refine wp_goto 12 d_mo_lendOf_76 (by decide) ?_
      exact h
    · have h := h.2 c4
      refine wp_iload_n d_mo_lendOf_43 rfl 3 rfl ?_
      refine wp_iconst d_mo_lendOf_44 ⟨by decide, by decide⟩ ?_
      refine wp_icmp_ne 53 d_mo_lendOf_45 (by decide) (fun c5 => ?_) (fun c5 => ?_)
      · have h := h.1 c5
        refine wp_iload_n d_mo_lendOf_53 rfl 3 rfl ?_
        refine wp_iload d_mo_lendOf_54 4 rfl ?_
        refine wp_icmp_ge 71 d_mo_lendOf_56 (by decide) (fun c6 => ?_) (fun c6 => ?_)
        · have h := h.1 c6
          refine wp_iconst d_mo_lendOf_71 ⟨by decide, by decide⟩ ?_
          exact wp_iret d_mo_lendOf_72 rfl ⟨Nat.le_of_ble_eq_true rfl, Nat.le_of_ble_eq_true rfl⟩ ⟨_, rfl, rfl, rfl, h⟩
        · have h := h.2 c6
          refine wp_aload_n d_mo_lendOf_59 rfl 0 rfl ?_
          refine wp_iload d_mo_lendOf_60 5 rfl ?_
          refine wp_iload d_mo_lendOf_62 4 rfl ?_
          refine wp_iload_n d_mo_lendOf_64 rfl 3 rfl ?_
          refine wp_callV [pI _, pI _, pI _] _ d_mo_lendOf_65 jd_mo_figureOf lk_mo_213 rfl s_101 rfl (Nat.le_of_ble_eq_true rfl) (Nat.le_of_ble_eq_true rfl) rfl ?_
          refine clI_k h ?_
          intro x7 M4 h
          refine wp_goto 72 d_mo_lendOf_68 (by decide) ?_
          exact wp_iret d_mo_lendOf_72 rfl ⟨Nat.le_of_ble_eq_true rfl, Nat.le_of_ble_eq_true rfl⟩ ⟨_, rfl, rfl, rfl, h⟩
      · have h := h.2 c5
        refine wp_iload d_mo_lendOf_48 4 rfl ?_
        refine wp_goto 72 d_mo_lendOf_50 (by decide) ?_
        exact wp_iret d_mo_lendOf_72 rfl ⟨Nat.le_of_ble_eq_true rfl, Nat.le_of_ble_eq_true rfl⟩ ⟨_, rfl, rfl, rfl, h⟩
