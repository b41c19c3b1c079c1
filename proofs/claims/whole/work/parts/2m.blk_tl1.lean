set_option maxHeartbeats 8000000 in
theorem e_tl_lend {G : GT} {M : MT} {P : Int → MT → Prop} (v1 : Int) (v2 : Int) (v3 : Int)
    (h : ClI G J_tl_isTune M [pR 0, pI v1] (fun x1 M1 => ((x1 = 0 → P (-2) M1) ∧ (¬ x1 = 0 → ClI G J_tl_within M1 [pI v2, pI 0, pI 127] (fun x3 M2 => ((x3 = 0 → P (-2) M2) ∧ (¬ x3 = 0 → ClI G J_tl_within M2 [pI v3, pI (-1), pI 2] (fun x5 M3 => ((¬ x5 = 0 → (0 ≤ v1 ∧ v1 < 6) ∧ (ClV G J_tr_begin M3 [pR 73, pR (10 + 2 * v1.toNat)] (fun M4 => (WpI G J_tl_lend 49 [(0, pR 0), (2, pI v2), (3, pI v3), (4, pI 0)] [] M4 P)))) ∧ (x5 = 0 → P (-2) M3)))))))))) : ClI G J_tl_lend M [pR 0, pI v1, pI v2, pI v3] P := by
  show Wp G J_tl_lend 0 0 0 [(0, pR 0), (1, pI v1), (2, pI v2), (3, pI v3)] [] NN RF M _
  refine wp_aload_n d_tl_lend_0 rfl 0 rfl ?_
  refine wp_iload_n d_tl_lend_1 rfl 1 rfl ?_
  refine wp_callV [pI _] _ d_tl_lend_2 jd_tl_isTune lk_tl_83 rfl s_0 rfl (Nat.le_of_ble_eq_true rfl) (Nat.le_of_ble_eq_true rfl) rfl ?_
  refine clI_k h ?_
  intro x1 M1 h
  refine wp_if_eq 27 d_tl_lend_5 (by decide) (fun c2 => ?_) (fun c2 => ?_)
  · have h := h.1 c2
    refine wp_bipush d_tl_lend_27 ⟨by decide, by decide⟩ (by decide) ?_
    exact wp_iret d_tl_lend_29 rfl ⟨Nat.le_of_ble_eq_true rfl, Nat.le_of_ble_eq_true rfl⟩ ⟨_, rfl, rfl, rfl, h⟩
  · have h := h.2 c2
    refine wp_iload_n d_tl_lend_8 rfl 2 rfl ?_
    refine wp_iconst d_tl_lend_9 ⟨by decide, by decide⟩ ?_
    refine wp_bipush d_tl_lend_10 ⟨by decide, by decide⟩ (by decide) ?_
    refine wp_callS [pI _, pI _, pI _] d_tl_lend_12 jd_tl_within lk_tl_59 rfl (Nat.le_of_ble_eq_true rfl) rfl ?_
    refine clI_k h ?_
    intro x3 M2 h
    refine wp_if_eq 27 d_tl_lend_15 (by decide) (fun c4 => ?_) (fun c4 => ?_)
    · have h := h.1 c4
      refine wp_bipush d_tl_lend_27 ⟨by decide, by decide⟩ (by decide) ?_
      exact wp_iret d_tl_lend_29 rfl ⟨Nat.le_of_ble_eq_true rfl, Nat.le_of_ble_eq_true rfl⟩ ⟨_, rfl, rfl, rfl, h⟩
    · have h := h.2 c4
      refine wp_iload_n d_tl_lend_18 rfl 3 rfl ?_
      refine wp_iconst d_tl_lend_19 ⟨by decide, by decide⟩ ?_
      refine wp_iconst d_tl_lend_20 ⟨by decide, by decide⟩ ?_
      refine wp_callS [pI _, pI _, pI _] d_tl_lend_21 jd_tl_within lk_tl_59 rfl (Nat.le_of_ble_eq_true rfl) rfl ?_
      refine clI_k h ?_
      intro x5 M3 h
      refine wp_if_ne 30 d_tl_lend_24 (by decide) (fun c6 => ?_) (fun c6 => ?_)
      · have h := h.1 c6
        refine wp_aload_n d_tl_lend_30 rfl 0 rfl ?_
        refine wp_getr d_tl_lend_31 2 s_0 rfl (Nat.le_of_ble_eq_true rfl) (Nat.le_of_ble_eq_true rfl) rfl rfl lk_tl_26 ?_
        refine wp_aload_n d_tl_lend_34 rfl 0 rfl ?_
        refine wp_getr d_tl_lend_35 0 s_0 rfl (Nat.le_of_ble_eq_true rfl) (Nat.le_of_ble_eq_true rfl) rfl rfl lk_tl_10 ?_
        refine wp_getr d_tl_lend_38 1 s_1 rfl (Nat.le_of_ble_eq_true rfl) (Nat.le_of_ble_eq_true rfl) rfl rfl lk_tl_86 ?_
        refine wp_iload_n d_tl_lend_41 rfl 1 rfl ?_
        obtain ⟨⟨a7, b7⟩, h⟩ := h
        refine wp_aald (t := 1) d_tl_lend_42 s_3 rfl (Nat.le_of_ble_eq_true rfl) a7 b7 (k_tunes _ (nat_lt a7 b7)).1 ?_
        refine wp_callV [pR _] _ d_tl_lend_43 jd_tr_begin lk_tl_193 rfl s_73 rfl (Nat.le_of_ble_eq_true rfl) (Nat.le_of_ble_eq_true rfl) rfl ?_
        refine clV_k h ?_
        intro M4 h
        refine wp_iconst d_tl_lend_46 ⟨by decide, by decide⟩ ?_
        refine wp_istore (L2 := [(0, pR 0), (1, pI _), (2, pI _), (3, pI _), (4, pI _)]) d_tl_lend_47 (Nat.le_of_ble_eq_true rfl) [1, 2, 3, 4, 0] rfl ?_
        refine wp_sub (L2 := [(0, pR 0), (2, pI _), (3, pI _), (4, pI _)]) [0, 2, 3, 4] rfl ?_
        exact h
      · have h := h.2 c6
        refine wp_bipush d_tl_lend_27 ⟨by decide, by decide⟩ (by decide) ?_
        exact wp_iret d_tl_lend_29 rfl ⟨Nat.le_of_ble_eq_true rfl, Nat.le_of_ble_eq_true rfl⟩ ⟨_, rfl, rfl, rfl, h⟩
set_option maxHeartbeats 8000000 in
theorem b_tl_lend_49 {G : GT} {M : MT} {P : Int → MT → Prop} (v2 : Int) (v3 : Int) (v4 : Int)
    (h : (3 < v4 → P (-1) M) ∧ (v4 ≤ 3 → ClI G J_tr_rowsOf M [pR 73, pR 1, pI v4] (fun x2 M1 => (WpI G J_tl_lend 73 [(0, pR 0), (2, pI v2), (3, pI v3), (4, pI v4), (5, pI x2), (6, pI 0)] [] M1 P)))) : WpI G J_tl_lend 49 [(0, pR 0), (2, pI v2), (3, pI v3), (4, pI v4)] [] M P := by
  show Wp G J_tl_lend 0 0 49 [(0, pR 0), (2, pI v2), (3, pI v3), (4, pI v4)] [] NN RF M _
  refine wp_iload d_tl_lend_49 3 rfl ?_
  refine wp_iconst d_tl_lend_51 ⟨by decide, by decide⟩ ?_
  refine wp_icmp_gt 143 d_tl_lend_52 (by decide) (fun c1 => ?_) (fun c1 => ?_)
  · have h := h.1 c1
    refine wp_iconst d_tl_lend_143 ⟨by decide, by decide⟩ ?_
    exact wp_iret d_tl_lend_144 rfl ⟨Nat.le_of_ble_eq_true rfl, Nat.le_of_ble_eq_true rfl⟩ ⟨_, rfl, rfl, rfl, h⟩
  · have h := h.2 c1
    refine wp_aload_n d_tl_lend_55 rfl 0 rfl ?_
    refine wp_getr d_tl_lend_56 2 s_0 rfl (Nat.le_of_ble_eq_true rfl) (Nat.le_of_ble_eq_true rfl) rfl rfl lk_tl_26 ?_
    refine wp_aload_n d_tl_lend_59 rfl 0 rfl ?_
    refine wp_getr d_tl_lend_60 0 s_0 rfl (Nat.le_of_ble_eq_true rfl) (Nat.le_of_ble_eq_true rfl) rfl rfl lk_tl_10 ?_
    refine wp_iload d_tl_lend_63 3 rfl ?_
    refine wp_callV [pR _, pI _] _ d_tl_lend_65 jd_tr_rowsOf lk_tl_197 rfl s_73 rfl (Nat.le_of_ble_eq_true rfl) (Nat.le_of_ble_eq_true rfl) rfl ?_
    refine clI_k h ?_
    intro x2 M1 h
    refine wp_istore (L2 := [(0, pR 0), (2, pI _), (3, pI _), (4, pI _), (5, pI _)]) d_tl_lend_68 (Nat.le_of_ble_eq_true rfl) [1, 2, 3, 4, 0] rfl ?_
    refine wp_iconst d_tl_lend_70 ⟨by decide, by decide⟩ ?_
    refine wp_istore (L2 := [(0, pR 0), (2, pI _), (3, pI _), (4, pI _), (5, pI _), (6, pI _)]) d_tl_lend_71 (Nat.le_of_ble_eq_true rfl) [1, 2, 3, 4, 5, 0] rfl ?_
    exact h
set_option maxHeartbeats 8000000 in
theorem b_tl_lend_73 {G : GT} {M : MT} {P : Int → MT → Prop} (v2 : Int) (v3 : Int) (v4 : Int) (v5 : Int) (v6 : Int)
    (h : (v5 ≤ v6 → WpI G J_tl_lend 49 [(0, pR 0), (2, pI v2), (3, pI v3), (4, pI (w32 (v4 + 1)))] [] M P) ∧ (v6 < v5 → ClR G J_tr_after M [pR 73, pR 1, pI v4, pI v6] (fun x2 M1 => TU x2 ∧ (ClI G J_tu_bits M1 [pR x2] (fun x3 M2 => ((¬ (iand x3 v2) = v2 → WpI G J_tl_lend 73 [(0, pR 0), (2, pI v2), (3, pI v3), (4, pI v4), (5, pI v5), (6, pI (w32 (v6 + 1)))] [] M2 P) ∧ ((iand x3 v2) = v2 → (¬ v3 = (-1) → ClI G J_tr_turnOf M2 [pR 73, pR 1, pI v4, pI v6, pI v3] (fun x6 M3 => (P x6 M3))) ∧ (v3 = (-1) → P v4 M2)))))))) : WpI G J_tl_lend 73 [(0, pR 0), (2, pI v2), (3, pI v3), (4, pI v4), (5, pI v5), (6, pI v6)] [] M P := by
  show Wp G J_tl_lend 0 0 73 [(0, pR 0), (2, pI v2), (3, pI v3), (4, pI v4), (5, pI v5), (6, pI v6)] [] NN RF M _
  refine wp_iload d_tl_lend_73 5 rfl ?_
  refine wp_iload d_tl_lend_75 4 rfl ?_
  refine wp_icmp_ge 137 d_tl_lend_77 (by decide) (fun c1 => ?_) (fun c1 => ?_)
  · have h := h.1 c1
    refine wp_iinc (L2 := [(0, pR 0), (2, pI _), (3, pI _), (4, pI _), (5, pI _), (6, pI _)]) d_tl_lend_137 3 rfl (Nat.le_of_ble_eq_true rfl) [1, 2, 3, 0, 4, 5] rfl ?_
    refine wp_goto 49 d_tl_lend_140 (by decide) ?_
    refine wp_sub (L2 := [(0, pR 0), (2, pI _), (3, pI _), (4, pI _)]) [0, 1, 2, 3] rfl ?_
    exact h
  · have h := h.2 c1
    refine wp_aload_n d_tl_lend_80 rfl 0 rfl ?_
    refine wp_getr d_tl_lend_81 2 s_0 rfl (Nat.le_of_ble_eq_true rfl) (Nat.le_of_ble_eq_true rfl) rfl rfl lk_tl_26 ?_
    refine wp_aload_n d_tl_lend_84 rfl 0 rfl ?_
    refine wp_getr d_tl_lend_85 0 s_0 rfl (Nat.le_of_ble_eq_true rfl) (Nat.le_of_ble_eq_true rfl) rfl rfl lk_tl_10 ?_
    refine wp_iload d_tl_lend_88 3 rfl ?_
    refine wp_iload d_tl_lend_90 5 rfl ?_
    refine wp_callV [pR _, pI _, pI _] _ d_tl_lend_92 jd_tr_after lk_tl_201 rfl s_73 rfl (Nat.le_of_ble_eq_true rfl) (Nat.le_of_ble_eq_true rfl) rfl ?_
    refine clR_k h ?_
    intro x2 M1 h
    obtain ⟨t2, h⟩ := h
    refine wp_callV [] _ d_tl_lend_95 jd_tu_bits lk_tl_205 rfl t2.1 rfl (Nat.lt_of_succ_lt t2.2.2.2) (Nat.le_of_ble_eq_true rfl) rfl ?_
    refine clI_k h ?_
    intro x3 M2 h
    refine wp_iload_n d_tl_lend_98 rfl 1 rfl ?_
    refine wp_iand d_tl_lend_99 ?_
    refine wp_iload_n d_tl_lend_100 rfl 1 rfl ?_
    refine wp_icmp_ne 131 d_tl_lend_101 (by decide) (fun c4 => ?_) (fun c4 => ?_)
    · have h := h.1 c4
      refine wp_iinc (L2 := [(0, pR 0), (2, pI _), (3, pI _), (4, pI _), (5, pI _), (6, pI _)]) d_tl_lend_131 5 rfl (Nat.le_of_ble_eq_true rfl) [1, 2, 3, 4, 5, 0] rfl ?_
      refine wp_goto 73 d_tl_lend_134 (by decide) ?_
      exact h
    · have h := h.2 c4
      refine wp_iload_n d_tl_lend_104 rfl 2 rfl ?_
      refine wp_iconst d_tl_lend_105 ⟨by decide, by decide⟩ ?_
      refine wp_icmp_ne 114 d_tl_lend_106 (by decide) (fun c5 => ?_) (fun c5 => ?_)
      · have h := h.1 c5
        refine wp_aload_n d_tl_lend_114 rfl 0 rfl ?_
        refine wp_getr d_tl_lend_115 2 s_0 rfl (Nat.le_of_ble_eq_true rfl) (Nat.le_of_ble_eq_true rfl) rfl rfl lk_tl_26 ?_
        refine wp_aload_n d_tl_lend_118 rfl 0 rfl ?_
        refine wp_getr d_tl_lend_119 0 s_0 rfl (Nat.le_of_ble_eq_true rfl) (Nat.le_of_ble_eq_true rfl) rfl rfl lk_tl_10 ?_
        refine wp_iload d_tl_lend_122 3 rfl ?_
        refine wp_iload d_tl_lend_124 5 rfl ?_
        refine wp_iload_n d_tl_lend_126 rfl 2 rfl ?_
        refine wp_callV [pR _, pI _, pI _, pI _] _ d_tl_lend_127 jd_tr_turnOf lk_tl_209 rfl s_73 rfl (Nat.le_of_ble_eq_true rfl) (Nat.le_of_ble_eq_true rfl) rfl ?_
        refine clI_k h ?_
        intro x6 M3 h
        exact wp_iret d_tl_lend_130 rfl ⟨Nat.le_of_ble_eq_true rfl, Nat.le_of_ble_eq_true rfl⟩ ⟨_, rfl, rfl, rfl, h⟩
      · have h := h.2 c5
        refine wp_iload d_tl_lend_109 3 rfl ?_
        refine wp_goto 130 d_tl_lend_111 (by decide) ?_
        exact wp_iret d_tl_lend_130 rfl ⟨Nat.le_of_ble_eq_true rfl, Nat.le_of_ble_eq_true rfl⟩ ⟨_, rfl, rfl, rfl, h⟩
set_option maxHeartbeats 8000000 in
theorem e_tl_longest {G : GT} {M : MT} {P : Int → MT → Prop} (v1 : Int) (v2 : Int) (v3 : Int)
    (h : ClI G J_tl_isTune M [pR 0, pI v1] (fun x1 M1 => ((x1 = 0 → P (-2) M1) ∧ (¬ x1 = 0 → ClI G J_tl_within M1 [pI v2, pI 1, pI 3] (fun x3 M2 => ((x3 = 0 → P (-2) M2) ∧ (¬ x3 = 0 → ClI G J_tl_within M2 [pI v3, pI (-1), pI (w32 (v2 - 1))] (fun x5 M3 => ((¬ x5 = 0 → (0 ≤ v1 ∧ v1 < 6) ∧ (ClV G J_tr_begin M3 [pR 73, pR (10 + 2 * v1.toNat)] (fun M4 => (ClI G J_tr_rowsOf M4 [pR 73, pR 1, pI v2] (fun x8 M5 => (WpI G J_tl_longest 70 [(0, pR 0), (2, pI v2), (3, pI v3), (4, pI x8), (5, pI (-1)), (6, pI (-1)), (7, pI 0)] [] M5 P)))))) ∧ (x5 = 0 → P (-2) M3)))))))))) : ClI G J_tl_longest M [pR 0, pI v1, pI v2, pI v3] P := by
  show Wp G J_tl_longest 0 0 0 [(0, pR 0), (1, pI v1), (2, pI v2), (3, pI v3)] [] NN RF M _
  refine wp_aload_n d_tl_longest_0 rfl 0 rfl ?_
  refine wp_iload_n d_tl_longest_1 rfl 1 rfl ?_
  refine wp_callV [pI _] _ d_tl_longest_2 jd_tl_isTune lk_tl_83 rfl s_0 rfl (Nat.le_of_ble_eq_true rfl) (Nat.le_of_ble_eq_true rfl) rfl ?_
  refine clI_k h ?_
  intro x1 M1 h
  refine wp_if_eq 28 d_tl_longest_5 (by decide) (fun c2 => ?_) (fun c2 => ?_)
  · have h := h.1 c2
    refine wp_bipush d_tl_longest_28 ⟨by decide, by decide⟩ (by decide) ?_
    exact wp_iret d_tl_longest_30 rfl ⟨Nat.le_of_ble_eq_true rfl, Nat.le_of_ble_eq_true rfl⟩ ⟨_, rfl, rfl, rfl, h⟩
  · have h := h.2 c2
    refine wp_iload_n d_tl_longest_8 rfl 2 rfl ?_
    refine wp_iconst d_tl_longest_9 ⟨by decide, by decide⟩ ?_
    refine wp_iconst d_tl_longest_10 ⟨by decide, by decide⟩ ?_
    refine wp_callS [pI _, pI _, pI _] d_tl_longest_11 jd_tl_within lk_tl_59 rfl (Nat.le_of_ble_eq_true rfl) rfl ?_
    refine clI_k h ?_
    intro x3 M2 h
    refine wp_if_eq 28 d_tl_longest_14 (by decide) (fun c4 => ?_) (fun c4 => ?_)
    · have h := h.1 c4
      refine wp_bipush d_tl_longest_28 ⟨by decide, by decide⟩ (by decide) ?_
      exact wp_iret d_tl_longest_30 rfl ⟨Nat.le_of_ble_eq_true rfl, Nat.le_of_ble_eq_true rfl⟩ ⟨_, rfl, rfl, rfl, h⟩
    · have h := h.2 c4
      refine wp_iload_n d_tl_longest_17 rfl 3 rfl ?_
      refine wp_iconst d_tl_longest_18 ⟨by decide, by decide⟩ ?_
      refine wp_iload_n d_tl_longest_19 rfl 2 rfl ?_
      refine wp_iconst d_tl_longest_20 ⟨by decide, by decide⟩ ?_
      refine wp_isub d_tl_longest_21 ?_
      refine wp_callS [pI _, pI _, pI _] d_tl_longest_22 jd_tl_within lk_tl_59 rfl (Nat.le_of_ble_eq_true rfl) rfl ?_
      refine clI_k h ?_
      intro x5 M3 h
      refine wp_if_ne 31 d_tl_longest_25 (by decide) (fun c6 => ?_) (fun c6 => ?_)
      · have h := h.1 c6
        refine wp_aload_n d_tl_longest_31 rfl 0 rfl ?_
        refine wp_getr d_tl_longest_32 2 s_0 rfl (Nat.le_of_ble_eq_true rfl) (Nat.le_of_ble_eq_true rfl) rfl rfl lk_tl_26 ?_
        refine wp_aload_n d_tl_longest_35 rfl 0 rfl ?_
        refine wp_getr d_tl_longest_36 0 s_0 rfl (Nat.le_of_ble_eq_true rfl) (Nat.le_of_ble_eq_true rfl) rfl rfl lk_tl_10 ?_
        refine wp_getr d_tl_longest_39 1 s_1 rfl (Nat.le_of_ble_eq_true rfl) (Nat.le_of_ble_eq_true rfl) rfl rfl lk_tl_86 ?_
        refine wp_iload_n d_tl_longest_42 rfl 1 rfl ?_
        obtain ⟨⟨a7, b7⟩, h⟩ := h
        refine wp_aald (t := 1) d_tl_longest_43 s_3 rfl (Nat.le_of_ble_eq_true rfl) a7 b7 (k_tunes _ (nat_lt a7 b7)).1 ?_
        refine wp_callV [pR _] _ d_tl_longest_44 jd_tr_begin lk_tl_193 rfl s_73 rfl (Nat.le_of_ble_eq_true rfl) (Nat.le_of_ble_eq_true rfl) rfl ?_
        refine clV_k h ?_
        intro M4 h
        refine wp_aload_n d_tl_longest_47 rfl 0 rfl ?_
        refine wp_getr d_tl_longest_48 2 s_0 rfl (Nat.le_of_ble_eq_true rfl) (Nat.le_of_ble_eq_true rfl) rfl rfl lk_tl_26 ?_
        refine wp_aload_n d_tl_longest_51 rfl 0 rfl ?_
        refine wp_getr d_tl_longest_52 0 s_0 rfl (Nat.le_of_ble_eq_true rfl) (Nat.le_of_ble_eq_true rfl) rfl rfl lk_tl_10 ?_
        refine wp_iload_n d_tl_longest_55 rfl 2 rfl ?_
        refine wp_callV [pR _, pI _] _ d_tl_longest_56 jd_tr_rowsOf lk_tl_197 rfl s_73 rfl (Nat.le_of_ble_eq_true rfl) (Nat.le_of_ble_eq_true rfl) rfl ?_
        refine clI_k h ?_
        intro x8 M5 h
        refine wp_istore (L2 := [(0, pR 0), (1, pI _), (2, pI _), (3, pI _), (4, pI _)]) d_tl_longest_59 (Nat.le_of_ble_eq_true rfl) [1, 2, 3, 4, 0] rfl ?_
        refine wp_iconst d_tl_longest_61 ⟨by decide, by decide⟩ ?_
        refine wp_istore (L2 := [(0, pR 0), (1, pI _), (2, pI _), (3, pI _), (4, pI _), (5, pI _)]) d_tl_longest_62 (Nat.le_of_ble_eq_true rfl) [1, 2, 3, 4, 5, 0] rfl ?_
        refine wp_iconst d_tl_longest_64 ⟨by decide, by decide⟩ ?_
        refine wp_istore (L2 := [(0, pR 0), (1, pI _), (2, pI _), (3, pI _), (4, pI _), (5, pI _), (6, pI _)]) d_tl_longest_65 (Nat.le_of_ble_eq_true rfl) [1, 2, 3, 4, 5, 6, 0] rfl ?_
        refine wp_iconst d_tl_longest_67 ⟨by decide, by decide⟩ ?_
        refine wp_istore (L2 := [(0, pR 0), (1, pI _), (2, pI _), (3, pI _), (4, pI _), (5, pI _), (6, pI _), (7, pI _)]) d_tl_longest_68 (Nat.le_of_ble_eq_true rfl) [1, 2, 3, 4, 5, 6, 7, 0] rfl ?_
        refine wp_sub (L2 := [(0, pR 0), (2, pI _), (3, pI _), (4, pI _), (5, pI _), (6, pI _), (7, pI _)]) [0, 2, 3, 4, 5, 6, 7] rfl ?_
        exact h
      · have h := h.2 c6
        refine wp_bipush d_tl_longest_28 ⟨by decide, by decide⟩ (by decide) ?_
        exact wp_iret d_tl_longest_30 rfl ⟨Nat.le_of_ble_eq_true rfl, Nat.le_of_ble_eq_true rfl⟩ ⟨_, rfl, rfl, rfl, h⟩
set_option maxHeartbeats 8000000 in
theorem b_tl_longest_70 {G : GT} {M : MT} {P : Int → MT → Prop} (v2 : Int) (v3 : Int) (v4 : Int) (v5 : Int) (v6 : Int) (v7 : Int)
    (h : (v4 ≤ v7 → (v3 = (-1) → P v5 M) ∧ (¬ v3 = (-1) → (¬ v6 = (-1) → ClI G J_tr_turnOf M [pR 73, pR 1, pI v2, pI v6, pI v3] (fun x4 M1 => (P x4 M1))) ∧ (v6 = (-1) → P v5 M))) ∧ (v7 < v4 → ClR G J_tr_after M [pR 73, pR 1, pI v2, pI v7] (fun x2 M1 => TU x2 ∧ (((M1 x2 1) ≤ v5 → WpI G J_tl_longest 70 [(0, pR 0), (2, pI v2), (3, pI v3), (4, pI v4), (5, pI v5), (6, pI v6), (7, pI (w32 (v7 + 1)))] [] M1 P) ∧ (v5 < (M1 x2 1) → WpI G J_tl_longest 70 [(0, pR 0), (2, pI v2), (3, pI v3), (4, pI v4), (5, pI (M1 x2 1)), (6, pI v7), (7, pI (w32 (v7 + 1)))] [] M1 P))))) : WpI G J_tl_longest 70 [(0, pR 0), (2, pI v2), (3, pI v3), (4, pI v4), (5, pI v5), (6, pI v6), (7, pI v7)] [] M P := by
  show Wp G J_tl_longest 0 0 70 [(0, pR 0), (2, pI v2), (3, pI v3), (4, pI v4), (5, pI v5), (6, pI v6), (7, pI v7)] [] NN RF M _
  refine wp_iload d_tl_longest_70 6 rfl ?_
  refine wp_iload d_tl_longest_72 3 rfl ?_
  refine wp_icmp_ge 117 d_tl_longest_74 (by decide) (fun c1 => ?_) (fun c1 => ?_)
  · have h := h.1 c1
    refine wp_iload_n d_tl_longest_117 rfl 2 rfl ?_
    refine wp_iconst d_tl_longest_118 ⟨by decide, by decide⟩ ?_
    refine wp_icmp_eq 128 d_tl_longest_119 (by decide) (fun c2 => ?_) (fun c2 => ?_)
    · have h := h.1 c2
      refine wp_iload d_tl_longest_128 4 rfl ?_
      refine wp_goto 148 d_tl_longest_130 (by decide) ?_
      exact wp_iret d_tl_longest_148 rfl ⟨Nat.le_of_ble_eq_true rfl, Nat.le_of_ble_eq_true rfl⟩ ⟨_, rfl, rfl, rfl, h⟩
    · have h := h.2 c2
      refine wp_iload d_tl_longest_122 5 rfl ?_
      refine wp_iconst d_tl_longest_124 ⟨by decide, by decide⟩ ?_
      refine wp_icmp_ne 133 d_tl_longest_125 (by decide) (fun c3 => ?_) (fun c3 => ?_)
      · have h := h.1 c3
        refine wp_aload_n d_tl_longest_133 rfl 0 rfl ?_
        refine wp_getr d_tl_longest_134 2 s_0 rfl (Nat.le_of_ble_eq_true rfl) (Nat.le_of_ble_eq_true rfl) rfl rfl lk_tl_26 ?_
        refine wp_aload_n d_tl_longest_137 rfl 0 rfl ?_
        refine wp_getr d_tl_longest_138 0 s_0 rfl (Nat.le_of_ble_eq_true rfl) (Nat.le_of_ble_eq_true rfl) rfl rfl lk_tl_10 ?_
        refine wp_iload_n d_tl_longest_141 rfl 1 rfl ?_
        refine wp_iload d_tl_longest_142 5 rfl ?_
        refine wp_iload_n d_tl_longest_144 rfl 2 rfl ?_
        refine wp_callV [pR _, pI _, pI _, pI _] _ d_tl_longest_145 jd_tr_turnOf lk_tl_209 rfl s_73 rfl (Nat.le_of_ble_eq_true rfl) (Nat.le_of_ble_eq_true rfl) rfl ?_
        refine clI_k h ?_
        intro x4 M1 h
        exact wp_iret d_tl_longest_148 rfl ⟨Nat.le_of_ble_eq_true rfl, Nat.le_of_ble_eq_true rfl⟩ ⟨_, rfl, rfl, rfl, h⟩
      · have h := h.2 c3
        refine wp_iload d_tl_longest_128 4 rfl ?_
        refine wp_goto 148 d_tl_longest_130 (by decide) ?_
        exact wp_iret d_tl_longest_148 rfl ⟨Nat.le_of_ble_eq_true rfl, Nat.le_of_ble_eq_true rfl⟩ ⟨_, rfl, rfl, rfl, h⟩
  · have h := h.2 c1
    refine wp_aload_n d_tl_longest_77 rfl 0 rfl ?_
    refine wp_getr d_tl_longest_78 2 s_0 rfl (Nat.le_of_ble_eq_true rfl) (Nat.le_of_ble_eq_true rfl) rfl rfl lk_tl_26 ?_
    refine wp_aload_n d_tl_longest_81 rfl 0 rfl ?_
    refine wp_getr d_tl_longest_82 0 s_0 rfl (Nat.le_of_ble_eq_true rfl) (Nat.le_of_ble_eq_true rfl) rfl rfl lk_tl_10 ?_
    refine wp_iload_n d_tl_longest_85 rfl 1 rfl ?_
    refine wp_iload d_tl_longest_86 6 rfl ?_
    refine wp_callV [pR _, pI _, pI _] _ d_tl_longest_88 jd_tr_after lk_tl_201 rfl s_73 rfl (Nat.le_of_ble_eq_true rfl) (Nat.le_of_ble_eq_true rfl) rfl ?_
    refine clR_k h ?_
    intro x2 M1 h
    obtain ⟨t2, h⟩ := h
    refine wp_geti d_tl_longest_91 1 t2.1 rfl (Nat.lt_of_succ_lt t2.2.2.2) (Nat.le_of_ble_eq_true rfl) rfl lk_tl_90 ?_
    refine wp_istore (L2 := [(0, pR 0), (2, pI _), (3, pI _), (4, pI _), (5, pI _), (6, pI _), (7, pI _), (8, pI _)]) d_tl_longest_94 (Nat.le_of_ble_eq_true rfl) [1, 2, 3, 4, 5, 6, 7, 0] rfl ?_
    refine wp_iload d_tl_longest_96 7 rfl ?_
    refine wp_iload d_tl_longest_98 4 rfl ?_
    refine wp_icmp_le 111 d_tl_longest_100 (by decide) (fun c3 => ?_) (fun c3 => ?_)
    · have h := h.1 c3
      refine wp_iinc (L2 := [(0, pR 0), (2, pI _), (3, pI _), (4, pI _), (5, pI _), (6, pI _), (7, pI _), (8, pI _)]) d_tl_longest_111 6 rfl (Nat.le_of_ble_eq_true rfl) [1, 2, 3, 4, 5, 6, 0, 7] rfl ?_
      refine wp_goto 70 d_tl_longest_114 (by decide) ?_
      refine wp_sub (L2 := [(0, pR 0), (2, pI _), (3, pI _), (4, pI _), (5, pI _), (6, pI _), (7, pI _)]) [0, 1, 2, 3, 4, 5, 6] rfl ?_
      exact h
    · have h := h.2 c3
      refine wp_iload d_tl_longest_103 7 rfl ?_
      refine wp_istore (L2 := [(0, pR 0), (2, pI _), (3, pI _), (4, pI _), (5, pI _), (6, pI _), (7, pI _), (8, pI _)]) d_tl_longest_105 (Nat.le_of_ble_eq_true rfl) [1, 2, 3, 4, 0, 5, 6, 7] rfl ?_
      refine wp_iload d_tl_longest_107 6 rfl ?_
      refine wp_istore (L2 := [(0, pR 0), (2, pI _), (3, pI _), (4, pI _), (5, pI _), (6, pI _), (7, pI _), (8, pI _)]) d_tl_longest_109 (Nat.le_of_ble_eq_true rfl) [1, 2, 3, 4, 5, 0, 6, 7] rfl ?_
      refine wp_iinc (L2 := [(0, pR 0), (2, pI _), (3, pI _), (4, pI _), (5, pI _), (6, pI _), (7, pI _), (8, pI _)]) d_tl_longest_111 6 rfl (Nat.le_of_ble_eq_true rfl) [1, 2, 3, 4, 5, 6, 0, 7] rfl ?_
      refine wp_goto 70 d_tl_longest_114 (by decide) ?_
      refine wp_sub (L2 := [(0, pR 0), (2, pI _), (3, pI _), (4, pI _), (5, pI _), (6, pI _), (7, pI _)]) [0, 1, 2, 3, 4, 5, 6] rfl ?_
      exact h
set_option maxHeartbeats 8000000 in
theorem e_tl_who {G : GT} {M : MT} {P : Int → MT → Prop} (v1 : Int) (v2 : Int) (v3 : Int)
    (h : ClI G J_tl_isTune M [pR 0, pI v1] (fun x1 M1 => ((x1 = 0 → P (-2) M1) ∧ (¬ x1 = 0 → ClI G J_tl_isTune M1 [pR 0, pI v2] (fun x3 M2 => ((x3 = 0 → P (-2) M2) ∧ (¬ x3 = 0 → ClI G J_tl_within M2 [pI v3, pI 0, pI 1] (fun x5 M3 => ((¬ x5 = 0 → (0 ≤ v1 ∧ v1 < 6) ∧ (ClV G J_tr_begin M3 [pR 73, pR (10 + 2 * v1.toNat)] (fun M4 => ((0 ≤ v2 ∧ v2 < 6) ∧ (WpI G J_tl_who 64 [(0, pR 0), (3, pI v3), (4, pR (10 + 2 * v2.toNat)), (5, pI 0), (6, pI (-1)), (7, pI 0)] [] M4 P))))) ∧ (x5 = 0 → P (-2) M3)))))))))) : ClI G J_tl_who M [pR 0, pI v1, pI v2, pI v3] P := by
  show Wp G J_tl_who 0 0 0 [(0, pR 0), (1, pI v1), (2, pI v2), (3, pI v3)] [] NN RF M _
  refine wp_aload_n d_tl_who_0 rfl 0 rfl ?_
  refine wp_iload_n d_tl_who_1 rfl 1 rfl ?_
  refine wp_callV [pI _] _ d_tl_who_2 jd_tl_isTune lk_tl_83 rfl s_0 rfl (Nat.le_of_ble_eq_true rfl) (Nat.le_of_ble_eq_true rfl) rfl ?_
  refine clI_k h ?_
  intro x1 M1 h
  refine wp_if_eq 25 d_tl_who_5 (by decide) (fun c2 => ?_) (fun c2 => ?_)
  · have h := h.1 c2
    refine wp_bipush d_tl_who_25 ⟨by decide, by decide⟩ (by decide) ?_
    exact wp_iret d_tl_who_27 rfl ⟨Nat.le_of_ble_eq_true rfl, Nat.le_of_ble_eq_true rfl⟩ ⟨_, rfl, rfl, rfl, h⟩
  · have h := h.2 c2
    refine wp_aload_n d_tl_who_8 rfl 0 rfl ?_
    refine wp_iload_n d_tl_who_9 rfl 2 rfl ?_
    refine wp_callV [pI _] _ d_tl_who_10 jd_tl_isTune lk_tl_83 rfl s_0 rfl (Nat.le_of_ble_eq_true rfl) (Nat.le_of_ble_eq_true rfl) rfl ?_
    refine clI_k h ?_
    intro x3 M2 h
    refine wp_if_eq 25 d_tl_who_13 (by decide) (fun c4 => ?_) (fun c4 => ?_)
    · have h := h.1 c4
      refine wp_bipush d_tl_who_25 ⟨by decide, by decide⟩ (by decide) ?_
      exact wp_iret d_tl_who_27 rfl ⟨Nat.le_of_ble_eq_true rfl, Nat.le_of_ble_eq_true rfl⟩ ⟨_, rfl, rfl, rfl, h⟩
    · have h := h.2 c4
      refine wp_iload_n d_tl_who_16 rfl 3 rfl ?_
      refine wp_iconst d_tl_who_17 ⟨by decide, by decide⟩ ?_
      refine wp_iconst d_tl_who_18 ⟨by decide, by decide⟩ ?_
      refine wp_callS [pI _, pI _, pI _] d_tl_who_19 jd_tl_within lk_tl_59 rfl (Nat.le_of_ble_eq_true rfl) rfl ?_
      refine clI_k h ?_
      intro x5 M3 h
      refine wp_if_ne 28 d_tl_who_22 (by decide) (fun c6 => ?_) (fun c6 => ?_)
      · have h := h.1 c6
        refine wp_aload_n d_tl_who_28 rfl 0 rfl ?_
        refine wp_getr d_tl_who_29 2 s_0 rfl (Nat.le_of_ble_eq_true rfl) (Nat.le_of_ble_eq_true rfl) rfl rfl lk_tl_26 ?_
        refine wp_aload_n d_tl_who_32 rfl 0 rfl ?_
        refine wp_getr d_tl_who_33 0 s_0 rfl (Nat.le_of_ble_eq_true rfl) (Nat.le_of_ble_eq_true rfl) rfl rfl lk_tl_10 ?_
        refine wp_getr d_tl_who_36 1 s_1 rfl (Nat.le_of_ble_eq_true rfl) (Nat.le_of_ble_eq_true rfl) rfl rfl lk_tl_86 ?_
        refine wp_iload_n d_tl_who_39 rfl 1 rfl ?_
        obtain ⟨⟨a7, b7⟩, h⟩ := h
        refine wp_aald (t := 1) d_tl_who_40 s_3 rfl (Nat.le_of_ble_eq_true rfl) a7 b7 (k_tunes _ (nat_lt a7 b7)).1 ?_
        refine wp_callV [pR _] _ d_tl_who_41 jd_tr_begin lk_tl_193 rfl s_73 rfl (Nat.le_of_ble_eq_true rfl) (Nat.le_of_ble_eq_true rfl) rfl ?_
        refine clV_k h ?_
        intro M4 h
        refine wp_aload_n d_tl_who_44 rfl 0 rfl ?_
        refine wp_getr d_tl_who_45 0 s_0 rfl (Nat.le_of_ble_eq_true rfl) (Nat.le_of_ble_eq_true rfl) rfl rfl lk_tl_10 ?_
        refine wp_getr d_tl_who_48 1 s_1 rfl (Nat.le_of_ble_eq_true rfl) (Nat.le_of_ble_eq_true rfl) rfl rfl lk_tl_86 ?_
        refine wp_iload_n d_tl_who_51 rfl 2 rfl ?_
        obtain ⟨⟨a8, b8⟩, h⟩ := h
        refine wp_aald (t := 1) d_tl_who_52 s_3 rfl (Nat.le_of_ble_eq_true rfl) a8 b8 (k_tunes _ (nat_lt a8 b8)).1 ?_
        refine wp_astore (L2 := [(0, pR 0), (1, pI _), (2, pI _), (3, pI _), (4, pR _)]) d_tl_who_53 (Nat.le_of_ble_eq_true rfl) [1, 2, 3, 4, 0] rfl ?_
        refine wp_iconst d_tl_who_55 ⟨by decide, by decide⟩ ?_
        refine wp_istore (L2 := [(0, pR 0), (1, pI _), (2, pI _), (3, pI _), (4, pR _), (5, pI _)]) d_tl_who_56 (Nat.le_of_ble_eq_true rfl) [1, 2, 3, 4, 5, 0] rfl ?_
        refine wp_iconst d_tl_who_58 ⟨by decide, by decide⟩ ?_
        refine wp_istore (L2 := [(0, pR 0), (1, pI _), (2, pI _), (3, pI _), (4, pR _), (5, pI _), (6, pI _)]) d_tl_who_59 (Nat.le_of_ble_eq_true rfl) [1, 2, 3, 4, 5, 6, 0] rfl ?_
        refine wp_iconst d_tl_who_61 ⟨by decide, by decide⟩ ?_
        refine wp_istore (L2 := [(0, pR 0), (1, pI _), (2, pI _), (3, pI _), (4, pR _), (5, pI _), (6, pI _), (7, pI _)]) d_tl_who_62 (Nat.le_of_ble_eq_true rfl) [1, 2, 3, 4, 5, 6, 7, 0] rfl ?_
        refine wp_sub (L2 := [(0, pR 0), (3, pI _), (4, pR _), (5, pI _), (6, pI _), (7, pI _)]) [0, 3, 4, 5, 6, 7] rfl ?_
        exact h
      · have h := h.2 c6
        refine wp_bipush d_tl_who_25 ⟨by decide, by decide⟩ (by decide) ?_
        exact wp_iret d_tl_who_27 rfl ⟨Nat.le_of_ble_eq_true rfl, Nat.le_of_ble_eq_true rfl⟩ ⟨_, rfl, rfl, rfl, h⟩
set_option maxHeartbeats 8000000 in
theorem b_tl_who_64 {G : GT} {M : MT} {P : Int → MT → Prop} (v3 : Int) (o4 : Nat) (f4 : TU o4) (v5 : Int) (v6 : Int) (v7 : Int)
    (h : (3 < v7 → (¬ v3 = 0 → P v6 M) ∧ (v3 = 0 → P v5 M)) ∧ (v7 ≤ 3 → ClI G J_tr_rowsOf M [pR 73, pR 1, pI v7] (fun x2 M1 => (WpI G J_tl_who 88 [(0, pR 0), (3, pI v3), (4, pR o4), (5, pI v5), (6, pI v6), (7, pI v7), (8, pI x2), (9, pI 0)] [] M1 P)))) : WpI G J_tl_who 64 [(0, pR 0), (3, pI v3), (4, pR o4), (5, pI v5), (6, pI v6), (7, pI v7)] [] M P := by
  show Wp G J_tl_who 0 0 64 [(0, pR 0), (3, pI v3), (4, pR o4), (5, pI v5), (6, pI v6), (7, pI v7)] [] NN RF M _
  refine wp_iload d_tl_who_64 5 rfl ?_
  refine wp_iconst d_tl_who_66 ⟨by decide, by decide⟩ ?_
  refine wp_icmp_gt 160 d_tl_who_67 (by decide) (fun c1 => ?_) (fun c1 => ?_)
  · have h := h.1 c1
    refine wp_iload_n d_tl_who_160 rfl 1 rfl ?_
    refine wp_if_ne 169 d_tl_who_161 (by decide) (fun c2 => ?_) (fun c2 => ?_)
    · have h := h.1 c2
      refine wp_iload d_tl_who_169 4 rfl ?_
      exact wp_iret d_tl_who_171 rfl ⟨Nat.le_of_ble_eq_true rfl, Nat.le_of_ble_eq_true rfl⟩ ⟨_, rfl, rfl, rfl, h⟩
    · have h := h.2 c2
      refine wp_iload d_tl_who_164 3 rfl ?_
      refine wp_goto 171 d_tl_who_166 (by decide) ?_
      exact wp_iret d_tl_who_171 rfl ⟨Nat.le_of_ble_eq_true rfl, Nat.le_of_ble_eq_true rfl⟩ ⟨_, rfl, rfl, rfl, h⟩
  · have h := h.2 c1
    refine wp_aload_n d_tl_who_70 rfl 0 rfl ?_
    refine wp_getr d_tl_who_71 2 s_0 rfl (Nat.le_of_ble_eq_true rfl) (Nat.le_of_ble_eq_true rfl) rfl rfl lk_tl_26 ?_
    refine wp_aload_n d_tl_who_74 rfl 0 rfl ?_
    refine wp_getr d_tl_who_75 0 s_0 rfl (Nat.le_of_ble_eq_true rfl) (Nat.le_of_ble_eq_true rfl) rfl rfl lk_tl_10 ?_
    refine wp_iload d_tl_who_78 5 rfl ?_
    refine wp_callV [pR _, pI _] _ d_tl_who_80 jd_tr_rowsOf lk_tl_197 rfl s_73 rfl (Nat.le_of_ble_eq_true rfl) (Nat.le_of_ble_eq_true rfl) rfl ?_
    refine clI_k h ?_
    intro x2 M1 h
    refine wp_istore (L2 := [(0, pR 0), (3, pI _), (4, pR _), (5, pI _), (6, pI _), (7, pI _), (8, pI _)]) d_tl_who_83 (Nat.le_of_ble_eq_true rfl) [1, 2, 3, 4, 5, 6, 0] rfl ?_
    refine wp_iconst d_tl_who_85 ⟨by decide, by decide⟩ ?_
    refine wp_istore (L2 := [(0, pR 0), (3, pI _), (4, pR _), (5, pI _), (6, pI _), (7, pI _), (8, pI _), (9, pI _)]) d_tl_who_86 (Nat.le_of_ble_eq_true rfl) [1, 2, 3, 4, 5, 6, 7, 0] rfl ?_
    exact h
set_option maxHeartbeats 8000000 in
theorem b_tl_who_88 {G : GT} {M : MT} {P : Int → MT → Prop} (v3 : Int) (o4 : Nat) (f4 : TU o4) (v5 : Int) (v6 : Int) (v7 : Int) (v8 : Int) (v9 : Int)
    (h : (v8 ≤ v9 → WpI G J_tl_who 64 [(0, pR 0), (3, pI v3), (4, pR o4), (5, pI v5), (6, pI v6), (7, pI (w32 (v7 + 1)))] [] M P) ∧ (v9 < v8 → ClR G J_tr_after M [pR 73, pR 1, pI v7, pI v9] (fun x2 M1 => TU x2 ∧ (ClI G J_tu_isLike M1 [pR x2, pR o4] (fun x3 M2 => ((x3 = 0 → WpI G J_tl_who 88 [(0, pR 0), (3, pI v3), (4, pR o4), (5, pI v5), (6, pI v6), (7, pI v7), (8, pI v8), (9, pI (w32 (v9 + 1)))] [] M2 P) ∧ (¬ x3 = 0 → (¬ v5 = 0 → WpI G J_tl_who 88 [(0, pR 0), (3, pI v3), (4, pR o4), (5, pI (w32 (v5 + 1))), (6, pI v6), (7, pI v7), (8, pI v8), (9, pI (w32 (v9 + 1)))] [] M2 P) ∧ (v5 = 0 → ClI G J_tr_figures M2 [pR 73, pR 1, pI v7, pI v9] (fun x6 M3 => (WpI G J_tl_who 88 [(0, pR 0), (3, pI v3), (4, pR o4), (5, pI (w32 (v5 + 1))), (6, pI x6), (7, pI v7), (8, pI v8), (9, pI (w32 (v9 + 1)))] [] M3 P)))))))))) : WpI G J_tl_who 88 [(0, pR 0), (3, pI v3), (4, pR o4), (5, pI v5), (6, pI v6), (7, pI v7), (8, pI v8), (9, pI v9)] [] M P := by
  show Wp G J_tl_who 0 0 88 [(0, pR 0), (3, pI v3), (4, pR o4), (5, pI v5), (6, pI v6), (7, pI v7), (8, pI v8), (9, pI v9)] [] NN RF M _
  refine wp_iload d_tl_who_88 7 rfl ?_
  refine wp_iload d_tl_who_90 6 rfl ?_
  refine wp_icmp_ge 154 d_tl_who_92 (by decide) (fun c1 => ?_) (fun c1 => ?_)
  · have h := h.1 c1
    refine wp_iinc (L2 := [(0, pR 0), (3, pI _), (4, pR _), (5, pI _), (6, pI _), (7, pI _), (8, pI _), (9, pI _)]) d_tl_who_154 5 rfl (Nat.le_of_ble_eq_true rfl) [1, 2, 3, 4, 5, 0, 6, 7] rfl ?_
    refine wp_goto 64 d_tl_who_157 (by decide) ?_
    refine wp_sub (L2 := [(0, pR 0), (3, pI _), (4, pR _), (5, pI _), (6, pI _), (7, pI _)]) [0, 1, 2, 3, 4, 5] rfl ?_
    exact h
  · have h := h.2 c1
    refine wp_aload_n d_tl_who_95 rfl 0 rfl ?_
    refine wp_getr d_tl_who_96 2 s_0 rfl (Nat.le_of_ble_eq_true rfl) (Nat.le_of_ble_eq_true rfl) rfl rfl lk_tl_26 ?_
    refine wp_aload_n d_tl_who_99 rfl 0 rfl ?_
    refine wp_getr d_tl_who_100 0 s_0 rfl (Nat.le_of_ble_eq_true rfl) (Nat.le_of_ble_eq_true rfl) rfl rfl lk_tl_10 ?_
    refine wp_iload d_tl_who_103 5 rfl ?_
    refine wp_iload d_tl_who_105 7 rfl ?_
    refine wp_callV [pR _, pI _, pI _] _ d_tl_who_107 jd_tr_after lk_tl_201 rfl s_73 rfl (Nat.le_of_ble_eq_true rfl) (Nat.le_of_ble_eq_true rfl) rfl ?_
    refine clR_k h ?_
    intro x2 M1 h
    obtain ⟨t2, h⟩ := h
    refine wp_aload d_tl_who_110 2 rfl ?_
    refine wp_callV [pR _] _ d_tl_who_112 jd_tu_isLike lk_tl_213 rfl t2.1 rfl (Nat.lt_of_succ_lt t2.2.2.2) (Nat.le_of_ble_eq_true rfl) rfl ?_
    refine clI_k h ?_
    intro x3 M2 h
    refine wp_if_eq 148 d_tl_who_115 (by decide) (fun c4 => ?_) (fun c4 => ?_)
    · have h := h.1 c4
      refine wp_iinc (L2 := [(0, pR 0), (3, pI _), (4, pR _), (5, pI _), (6, pI _), (7, pI _), (8, pI _), (9, pI _)]) d_tl_who_148 7 rfl (Nat.le_of_ble_eq_true rfl) [1, 2, 3, 4, 5, 6, 7, 0] rfl ?_
      refine wp_goto 88 d_tl_who_151 (by decide) ?_
      exact h
    · have h := h.2 c4
      refine wp_iload d_tl_who_118 3 rfl ?_
      refine wp_if_ne 141 d_tl_who_120 (by decide) (fun c5 => ?_) (fun c5 => ?_)
      · have h := h.1 c5
        refine wp_iload d_tl_who_141 4 rfl ?_
        refine wp_istore (L2 := [(0, pR 0), (3, pI _), (4, pR _), (5, pI _), (6, pI _), (7, pI _), (8, pI _), (9, pI _)]) d_tl_who_143 (Nat.le_of_ble_eq_true rfl) [1, 2, 3, 4, 0, 5, 6, 7] rfl ?_
        refine wp_iinc (L2 := [(0, pR 0), (3, pI _), (4, pR _), (5, pI _), (6, pI _), (7, pI _), (8, pI _), (9, pI _)]) d_tl_who_145 3 rfl (Nat.le_of_ble_eq_true rfl) [1, 2, 3, 0, 4, 5, 6, 7] rfl ?_
        refine wp_iinc (L2 := [(0, pR 0), (3, pI _), (4, pR _), (5, pI _), (6, pI _), (7, pI _), (8, pI _), (9, pI _)]) d_tl_who_148 7 rfl (Nat.le_of_ble_eq_true rfl) [1, 2, 3, 4, 5, 6, 7, 0] rfl ?_
        refine wp_goto 88 d_tl_who_151 (by decide) ?_
        exact h
      · have h := h.2 c5
        refine wp_aload_n d_tl_who_123 rfl 0 rfl ?_
        refine wp_getr d_tl_who_124 2 s_0 rfl (Nat.le_of_ble_eq_true rfl) (Nat.le_of_ble_eq_true rfl) rfl rfl lk_tl_26 ?_
        refine wp_aload_n d_tl_who_127 rfl 0 rfl ?_
        refine wp_getr d_tl_who_128 0 s_0 rfl (Nat.le_of_ble_eq_true rfl) (Nat.le_of_ble_eq_true rfl) rfl rfl lk_tl_10 ?_
        refine wp_iload d_tl_who_131 5 rfl ?_
        refine wp_iload d_tl_who_133 7 rfl ?_
        refine wp_callV [pR _, pI _, pI _] _ d_tl_who_135 jd_tr_figures lk_tl_217 rfl s_73 rfl (Nat.le_of_ble_eq_true rfl) (Nat.le_of_ble_eq_true rfl) rfl ?_
        refine clI_k h ?_
        intro x6 M3 h
        refine wp_goto 143 d_tl_who_138 (by decide) ?_
        refine wp_istore (L2 := [(0, pR 0), (3, pI _), (4, pR _), (5, pI _), (6, pI _), (7, pI _), (8, pI _), (9, pI _)]) d_tl_who_143 (Nat.le_of_ble_eq_true rfl) [1, 2, 3, 4, 0, 5, 6, 7] rfl ?_
        refine wp_iinc (L2 := [(0, pR 0), (3, pI _), (4, pR _), (5, pI _), (6, pI _), (7, pI _), (8, pI _), (9, pI _)]) d_tl_who_145 3 rfl (Nat.le_of_ble_eq_true rfl) [1, 2, 3, 0, 4, 5, 6, 7] rfl ?_
        refine wp_iinc (L2 := [(0, pR 0), (3, pI _), (4, pR _), (5, pI _), (6, pI _), (7, pI _), (8, pI _), (9, pI _)]) d_tl_who_148 7 rfl (Nat.le_of_ble_eq_true rfl) [1, 2, 3, 4, 5, 6, 7, 0] rfl ?_
        refine wp_goto 88 d_tl_who_151 (by decide) ?_
        exact h
set_option maxHeartbeats 8000000 in
theorem e_tl_common {G : GT} {M : MT} {P : Int → MT → Prop} (v1 : Int) (v2 : Int)
    (h : ClI G J_tl_isTune M [pR 0, pI v1] (fun x1 M1 => ((x1 = 0 → P (-2) M1) ∧ (¬ x1 = 0 → ClI G J_tl_isTune M1 [pR 0, pI v2] (fun x3 M2 => ((x3 = 0 → P (-2) M2) ∧ (¬ x3 = 0 → (0 ≤ v1 ∧ v1 < 6) ∧ ((0 ≤ v2 ∧ v2 < 6) ∧ (ClI G J_li_of M2 [pR 84, pR (10 + 2 * v1.toNat), pR (10 + 2 * v2.toNat)] (fun x7 M3 => (P x7 M3))))))))))) : ClI G J_tl_common M [pR 0, pI v1, pI v2] P := by
  show Wp G J_tl_common 0 0 0 [(0, pR 0), (1, pI v1), (2, pI v2)] [] NN RF M _
  refine wp_aload_n d_tl_common_0 rfl 0 rfl ?_
  refine wp_iload_n d_tl_common_1 rfl 1 rfl ?_
  refine wp_callV [pI _] _ d_tl_common_2 jd_tl_isTune lk_tl_83 rfl s_0 rfl (Nat.le_of_ble_eq_true rfl) (Nat.le_of_ble_eq_true rfl) rfl ?_
  refine clI_k h ?_
  intro x1 M1 h
  refine wp_if_eq 44 d_tl_common_5 (by decide) (fun c2 => ?_) (fun c2 => ?_)
  · have h := h.1 c2
    refine wp_bipush d_tl_common_44 ⟨by decide, by decide⟩ (by decide) ?_
    exact wp_iret d_tl_common_46 rfl ⟨Nat.le_of_ble_eq_true rfl, Nat.le_of_ble_eq_true rfl⟩ ⟨_, rfl, rfl, rfl, h⟩
  · have h := h.2 c2
    refine wp_aload_n d_tl_common_8 rfl 0 rfl ?_
    refine wp_iload_n d_tl_common_9 rfl 2 rfl ?_
    refine wp_callV [pI _] _ d_tl_common_10 jd_tl_isTune lk_tl_83 rfl s_0 rfl (Nat.le_of_ble_eq_true rfl) (Nat.le_of_ble_eq_true rfl) rfl ?_
    refine clI_k h ?_
    intro x3 M2 h
    refine wp_if_eq 44 d_tl_common_13 (by decide) (fun c4 => ?_) (fun c4 => ?_)
    · have h := h.1 c4
      refine wp_bipush d_tl_common_44 ⟨by decide, by decide⟩ (by decide) ?_
      exact wp_iret d_tl_common_46 rfl ⟨Nat.le_of_ble_eq_true rfl, Nat.le_of_ble_eq_true rfl⟩ ⟨_, rfl, rfl, rfl, h⟩
    · have h := h.2 c4
      refine wp_aload_n d_tl_common_16 rfl 0 rfl ?_
      refine wp_getr d_tl_common_17 3 s_0 rfl (Nat.le_of_ble_eq_true rfl) (Nat.le_of_ble_eq_true rfl) rfl rfl lk_tl_33 ?_
      refine wp_aload_n d_tl_common_20 rfl 0 rfl ?_
      refine wp_getr d_tl_common_21 0 s_0 rfl (Nat.le_of_ble_eq_true rfl) (Nat.le_of_ble_eq_true rfl) rfl rfl lk_tl_10 ?_
      refine wp_getr d_tl_common_24 1 s_1 rfl (Nat.le_of_ble_eq_true rfl) (Nat.le_of_ble_eq_true rfl) rfl rfl lk_tl_86 ?_
      refine wp_iload_n d_tl_common_27 rfl 1 rfl ?_
      obtain ⟨⟨a5, b5⟩, h⟩ := h
      refine wp_aald (t := 1) d_tl_common_28 s_3 rfl (Nat.le_of_ble_eq_true rfl) a5 b5 (k_tunes _ (nat_lt a5 b5)).1 ?_
      refine wp_aload_n d_tl_common_29 rfl 0 rfl ?_
      refine wp_getr d_tl_common_30 0 s_0 rfl (Nat.le_of_ble_eq_true rfl) (Nat.le_of_ble_eq_true rfl) rfl rfl lk_tl_10 ?_
      refine wp_getr d_tl_common_33 1 s_1 rfl (Nat.le_of_ble_eq_true rfl) (Nat.le_of_ble_eq_true rfl) rfl rfl lk_tl_86 ?_
      refine wp_iload_n d_tl_common_36 rfl 2 rfl ?_
      obtain ⟨⟨a6, b6⟩, h⟩ := h
      refine wp_aald (t := 1) d_tl_common_37 s_3 rfl (Nat.le_of_ble_eq_true rfl) a6 b6 (k_tunes _ (nat_lt a6 b6)).1 ?_
      refine wp_callV [pR _, pR _] _ d_tl_common_38 jd_li_of lk_tl_221 rfl s_84 rfl (Nat.le_of_ble_eq_true rfl) (Nat.le_of_ble_eq_true rfl) rfl ?_
      refine clI_k h ?_
      intro x7 M3 h
      refine wp_goto 46 d_tl_common_41 (by decide) ?_
      exact wp_iret d_tl_common_46 rfl ⟨Nat.le_of_ble_eq_true rfl, Nat.le_of_ble_eq_true rfl⟩ ⟨_, rfl, rfl, rfl, h⟩
set_option maxHeartbeats 8000000 in
theorem e_tl_far {G : GT} {M : MT} {P : Int → MT → Prop} (v1 : Int) (v2 : Int)
    (h : ClI G J_tl_isTune M [pR 0, pI v1] (fun x1 M1 => ((x1 = 0 → P (-2) M1) ∧ (¬ x1 = 0 → ClI G J_tl_isTune M1 [pR 0, pI v2] (fun x3 M2 => ((¬ x3 = 0 → (0 ≤ v1 ∧ v1 < 6) ∧ ((0 ≤ v2 ∧ v2 < 6) ∧ ((0 ≤ v1 ∧ v1 < 6) ∧ ((0 ≤ v2 ∧ v2 < 6) ∧ (ClI G J_li_of M2 [pR 84, pR (10 + 2 * v1.toNat), pR (10 + 2 * v2.toNat)] (fun x9 M3 => (P (w32 ((w32 ((M2 (10 + 2 * v1.toNat) 1) + (M2 (10 + 2 * v2.toNat) 1))) - (w32 (2 * x9)))) M3))))))) ∧ (x3 = 0 → P (-2) M2))))))) : ClI G J_tl_far M [pR 0, pI v1, pI v2] P := by
  show Wp G J_tl_far 0 0 0 [(0, pR 0), (1, pI v1), (2, pI v2)] [] NN RF M _
  refine wp_aload_n d_tl_far_0 rfl 0 rfl ?_
  refine wp_iload_n d_tl_far_1 rfl 1 rfl ?_
  refine wp_callV [pI _] _ d_tl_far_2 jd_tl_isTune lk_tl_83 rfl s_0 rfl (Nat.le_of_ble_eq_true rfl) (Nat.le_of_ble_eq_true rfl) rfl ?_
  refine clI_k h ?_
  intro x1 M1 h
  refine wp_if_eq 16 d_tl_far_5 (by decide) (fun c2 => ?_) (fun c2 => ?_)
  · have h := h.1 c2
    refine wp_bipush d_tl_far_16 ⟨by decide, by decide⟩ (by decide) ?_
    exact wp_iret d_tl_far_18 rfl ⟨Nat.le_of_ble_eq_true rfl, Nat.le_of_ble_eq_true rfl⟩ ⟨_, rfl, rfl, rfl, h⟩
  · have h := h.2 c2
    refine wp_aload_n d_tl_far_8 rfl 0 rfl ?_
    refine wp_iload_n d_tl_far_9 rfl 2 rfl ?_
    refine wp_callV [pI _] _ d_tl_far_10 jd_tl_isTune lk_tl_83 rfl s_0 rfl (Nat.le_of_ble_eq_true rfl) (Nat.le_of_ble_eq_true rfl) rfl ?_
    refine clI_k h ?_
    intro x3 M2 h
    refine wp_if_ne 19 d_tl_far_13 (by decide) (fun c4 => ?_) (fun c4 => ?_)
    · have h := h.1 c4
      refine wp_aload_n d_tl_far_19 rfl 0 rfl ?_
      refine wp_getr d_tl_far_20 0 s_0 rfl (Nat.le_of_ble_eq_true rfl) (Nat.le_of_ble_eq_true rfl) rfl rfl lk_tl_10 ?_
      refine wp_getr d_tl_far_23 1 s_1 rfl (Nat.le_of_ble_eq_true rfl) (Nat.le_of_ble_eq_true rfl) rfl rfl lk_tl_86 ?_
      refine wp_iload_n d_tl_far_26 rfl 1 rfl ?_
      obtain ⟨⟨a5, b5⟩, h⟩ := h
      refine wp_aald (t := 1) d_tl_far_27 s_3 rfl (Nat.le_of_ble_eq_true rfl) a5 b5 (k_tunes _ (nat_lt a5 b5)).1 ?_
      refine wp_geti d_tl_far_28 1 (k_tunes _ (nat_lt a5 b5)).2.1 rfl (Nat.lt_of_succ_lt (k_tunes _ (nat_lt a5 b5)).2.2.2.2) (Nat.le_of_ble_eq_true rfl) rfl lk_tl_90 ?_
      refine wp_aload_n d_tl_far_31 rfl 0 rfl ?_
      refine wp_getr d_tl_far_32 0 s_0 rfl (Nat.le_of_ble_eq_true rfl) (Nat.le_of_ble_eq_true rfl) rfl rfl lk_tl_10 ?_
      refine wp_getr d_tl_far_35 1 s_1 rfl (Nat.le_of_ble_eq_true rfl) (Nat.le_of_ble_eq_true rfl) rfl rfl lk_tl_86 ?_
      refine wp_iload_n d_tl_far_38 rfl 2 rfl ?_
      obtain ⟨⟨a6, b6⟩, h⟩ := h
      refine wp_aald (t := 1) d_tl_far_39 s_3 rfl (Nat.le_of_ble_eq_true rfl) a6 b6 (k_tunes _ (nat_lt a6 b6)).1 ?_
      refine wp_geti d_tl_far_40 1 (k_tunes _ (nat_lt a6 b6)).2.1 rfl (Nat.lt_of_succ_lt (k_tunes _ (nat_lt a6 b6)).2.2.2.2) (Nat.le_of_ble_eq_true rfl) rfl lk_tl_90 ?_
      refine wp_iadd d_tl_far_43 ?_
      refine wp_iconst d_tl_far_44 ⟨by decide, by decide⟩ ?_
      refine wp_aload_n d_tl_far_45 rfl 0 rfl ?_
      refine wp_getr d_tl_far_46 3 s_0 rfl (Nat.le_of_ble_eq_true rfl) (Nat.le_of_ble_eq_true rfl) rfl rfl lk_tl_33 ?_
      refine wp_aload_n d_tl_far_49 rfl 0 rfl ?_
      refine wp_getr d_tl_far_50 0 s_0 rfl (Nat.le_of_ble_eq_true rfl) (Nat.le_of_ble_eq_true rfl) rfl rfl lk_tl_10 ?_
      refine wp_getr d_tl_far_53 1 s_1 rfl (Nat.le_of_ble_eq_true rfl) (Nat.le_of_ble_eq_true rfl) rfl rfl lk_tl_86 ?_
      refine wp_iload_n d_tl_far_56 rfl 1 rfl ?_
      obtain ⟨⟨a7, b7⟩, h⟩ := h
      refine wp_aald (t := 1) d_tl_far_57 s_3 rfl (Nat.le_of_ble_eq_true rfl) a7 b7 (k_tunes _ (nat_lt a7 b7)).1 ?_
      refine wp_aload_n d_tl_far_58 rfl 0 rfl ?_
      refine wp_getr d_tl_far_59 0 s_0 rfl (Nat.le_of_ble_eq_true rfl) (Nat.le_of_ble_eq_true rfl) rfl rfl lk_tl_10 ?_
      refine wp_getr d_tl_far_62 1 s_1 rfl (Nat.le_of_ble_eq_true rfl) (Nat.le_of_ble_eq_true rfl) rfl rfl lk_tl_86 ?_
      refine wp_iload_n d_tl_far_65 rfl 2 rfl ?_
      obtain ⟨⟨a8, b8⟩, h⟩ := h
      refine wp_aald (t := 1) d_tl_far_66 s_3 rfl (Nat.le_of_ble_eq_true rfl) a8 b8 (k_tunes _ (nat_lt a8 b8)).1 ?_
      refine wp_callV [pR _, pR _] _ d_tl_far_67 jd_li_of lk_tl_221 rfl s_84 rfl (Nat.le_of_ble_eq_true rfl) (Nat.le_of_ble_eq_true rfl) rfl ?_
      refine clI_k h ?_
      intro x9 M3 h
      refine wp_imul d_tl_far_70 ?_
      refine wp_isub d_tl_far_71 ?_
      exact wp_iret d_tl_far_72 rfl ⟨Nat.le_of_ble_eq_true rfl, Nat.le_of_ble_eq_true rfl⟩ ⟨_, rfl, rfl, rfl, h⟩
    · have h := h.2 c4
      refine wp_bipush d_tl_far_16 ⟨by decide, by decide⟩ (by decide) ?_
      exact wp_iret d_tl_far_18 rfl ⟨Nat.le_of_ble_eq_true rfl, Nat.le_of_ble_eq_true rfl⟩ ⟨_, rfl, rfl, rfl, h⟩
set_option maxHeartbeats 8000000 in
theorem e_tl_nearest {G : GT} {M : MT} {P : Int → MT → Prop} (v1 : Int)
    (h : ClI G J_tl_isTune M [pR 0, pI v1] (fun x1 M1 => ((¬ x1 = 0 → WpI G J_tl_nearest 18 [(0, pR 0), (1, pI v1), (2, pI (-1)), (3, pI 0), (4, pI 0)] [] M1 P) ∧ (x1 = 0 → P (-2) M1)))) : ClI G J_tl_nearest M [pR 0, pI v1] P := by
  show Wp G J_tl_nearest 0 0 0 [(0, pR 0), (1, pI v1)] [] NN RF M _
  refine wp_aload_n d_tl_nearest_0 rfl 0 rfl ?_
  refine wp_iload_n d_tl_nearest_1 rfl 1 rfl ?_
  refine wp_callV [pI _] _ d_tl_nearest_2 jd_tl_isTune lk_tl_83 rfl s_0 rfl (Nat.le_of_ble_eq_true rfl) (Nat.le_of_ble_eq_true rfl) rfl ?_
  refine clI_k h ?_
  intro x1 M1 h
  refine wp_if_ne 11 d_tl_nearest_5 (by decide) (fun c2 => ?_) (fun c2 => ?_)
  · have h := h.1 c2
    refine wp_iconst d_tl_nearest_11 ⟨by decide, by decide⟩ ?_
    refine wp_istore_n (L2 := [(0, pR 0), (1, pI _), (2, pI _)]) d_tl_nearest_12 rfl (Nat.le_of_ble_eq_true rfl) [1, 2, 0] rfl ?_
    refine wp_iconst d_tl_nearest_13 ⟨by decide, by decide⟩ ?_
    refine wp_istore_n (L2 := [(0, pR 0), (1, pI _), (2, pI _), (3, pI _)]) d_tl_nearest_14 rfl (Nat.le_of_ble_eq_true rfl) [1, 2, 3, 0] rfl ?_
    refine wp_iconst d_tl_nearest_15 ⟨by decide, by decide⟩ ?_
    refine wp_istore (L2 := [(0, pR 0), (1, pI _), (2, pI _), (3, pI _), (4, pI _)]) d_tl_nearest_16 (Nat.le_of_ble_eq_true rfl) [1, 2, 3, 4, 0] rfl ?_
    exact h
  · have h := h.2 c2
    refine wp_bipush d_tl_nearest_8 ⟨by decide, by decide⟩ (by decide) ?_
    exact wp_iret d_tl_nearest_10 rfl ⟨Nat.le_of_ble_eq_true rfl, Nat.le_of_ble_eq_true rfl⟩ ⟨_, rfl, rfl, rfl, h⟩
set_option maxHeartbeats 8000000 in
theorem b_tl_nearest_18 {G : GT} {M : MT} {P : Int → MT → Prop} (v1 : Int) (v2 : Int) (v3 : Int) (v4 : Int)
    (h : ((M 1 4) ≤ v4 → P v2 M) ∧ (v4 < (M 1 4) → (v4 = v1 → WpI G J_tl_nearest 18 [(0, pR 0), (1, pI v1), (2, pI v2), (3, pI v3), (4, pI (w32 (v4 + 1)))] [] M P) ∧ (¬ v4 = v1 → ClI G J_tl_far M [pR 0, pI v1, pI v4] (fun x3 M1 => ((v2 = (-1) → WpI G J_tl_nearest 18 [(0, pR 0), (1, pI v1), (2, pI v4), (3, pI x3), (4, pI (w32 (v4 + 1)))] [] M1 P) ∧ (¬ v2 = (-1) → (v3 ≤ x3 → WpI G J_tl_nearest 18 [(0, pR 0), (1, pI v1), (2, pI v2), (3, pI v3), (4, pI (w32 (v4 + 1)))] [] M1 P) ∧ (x3 < v3 → WpI G J_tl_nearest 18 [(0, pR 0), (1, pI v1), (2, pI v4), (3, pI x3), (4, pI (w32 (v4 + 1)))] [] M1 P))))))) : WpI G J_tl_nearest 18 [(0, pR 0), (1, pI v1), (2, pI v2), (3, pI v3), (4, pI v4)] [] M P := by
  show Wp G J_tl_nearest 0 0 18 [(0, pR 0), (1, pI v1), (2, pI v2), (3, pI v3), (4, pI v4)] [] NN RF M _
  refine wp_iload d_tl_nearest_18 4 rfl ?_
  refine wp_aload_n d_tl_nearest_20 rfl 0 rfl ?_
  refine wp_getr d_tl_nearest_21 0 s_0 rfl (Nat.le_of_ble_eq_true rfl) (Nat.le_of_ble_eq_true rfl) rfl rfl lk_tl_10 ?_
  refine wp_geti d_tl_nearest_24 4 s_1 rfl (Nat.le_of_ble_eq_true rfl) (Nat.le_of_ble_eq_true rfl) rfl lk_tl_225 ?_
  refine wp_icmp_ge 68 d_tl_nearest_27 (by decide) (fun c1 => ?_) (fun c1 => ?_)
  · have h := h.1 c1
    refine wp_iload_n d_tl_nearest_68 rfl 2 rfl ?_
    exact wp_iret d_tl_nearest_69 rfl ⟨Nat.le_of_ble_eq_true rfl, Nat.le_of_ble_eq_true rfl⟩ ⟨_, rfl, rfl, rfl, h⟩
  · have h := h.2 c1
    refine wp_iload d_tl_nearest_30 4 rfl ?_
    refine wp_iload_n d_tl_nearest_32 rfl 1 rfl ?_
    refine wp_icmp_eq 62 d_tl_nearest_33 (by decide) (fun c2 => ?_) (fun c2 => ?_)
    · have h := h.1 c2
      refine wp_iinc (L2 := [(0, pR 0), (1, pI _), (2, pI _), (3, pI _), (4, pI _)]) d_tl_nearest_62 4 rfl (Nat.le_of_ble_eq_true rfl) [1, 2, 3, 4, 0] rfl ?_
      refine wp_goto 18 d_tl_nearest_65 (by decide) ?_
      exact h
    · have h := h.2 c2
      refine wp_aload_n d_tl_nearest_36 rfl 0 rfl ?_
      refine wp_iload_n d_tl_nearest_37 rfl 1 rfl ?_
      refine wp_iload d_tl_nearest_38 4 rfl ?_
      refine wp_callV [pI _, pI _] _ d_tl_nearest_40 jd_tl_far lk_tl_228 rfl s_0 rfl (Nat.le_of_ble_eq_true rfl) (Nat.le_of_ble_eq_true rfl) rfl ?_
      refine clI_k h ?_
      intro x3 M1 h
      refine wp_istore (L2 := [(0, pR 0), (1, pI _), (2, pI _), (3, pI _), (4, pI _), (5, pI _)]) d_tl_nearest_43 (Nat.le_of_ble_eq_true rfl) [1, 2, 3, 4, 5, 0] rfl ?_
      refine wp_iload_n d_tl_nearest_45 rfl 2 rfl ?_
      refine wp_iconst d_tl_nearest_46 ⟨by decide, by decide⟩ ?_
      refine wp_icmp_eq 56 d_tl_nearest_47 (by decide) (fun c4 => ?_) (fun c4 => ?_)
      · have h := h.1 c4
        refine wp_iload d_tl_nearest_56 4 rfl ?_
        refine wp_istore_n (L2 := [(0, pR 0), (1, pI _), (2, pI _), (3, pI _), (4, pI _), (5, pI _)]) d_tl_nearest_58 rfl (Nat.le_of_ble_eq_true rfl) [1, 2, 0, 3, 4, 5] rfl ?_
        refine wp_iload d_tl_nearest_59 5 rfl ?_
        refine wp_istore_n (L2 := [(0, pR 0), (1, pI _), (2, pI _), (3, pI _), (4, pI _), (5, pI _)]) d_tl_nearest_61 rfl (Nat.le_of_ble_eq_true rfl) [1, 2, 3, 0, 4, 5] rfl ?_
        refine wp_iinc (L2 := [(0, pR 0), (1, pI _), (2, pI _), (3, pI _), (4, pI _), (5, pI _)]) d_tl_nearest_62 4 rfl (Nat.le_of_ble_eq_true rfl) [1, 2, 3, 4, 0, 5] rfl ?_
        refine wp_goto 18 d_tl_nearest_65 (by decide) ?_
        refine wp_sub (L2 := [(0, pR 0), (1, pI _), (2, pI _), (3, pI _), (4, pI _)]) [0, 1, 2, 3, 4] rfl ?_
        exact h
      · have h := h.2 c4
        refine wp_iload d_tl_nearest_50 5 rfl ?_
        refine wp_iload_n d_tl_nearest_52 rfl 3 rfl ?_
        refine wp_icmp_ge 62 d_tl_nearest_53 (by decide) (fun c5 => ?_) (fun c5 => ?_)
        · have h := h.1 c5
          refine wp_iinc (L2 := [(0, pR 0), (1, pI _), (2, pI _), (3, pI _), (4, pI _), (5, pI _)]) d_tl_nearest_62 4 rfl (Nat.le_of_ble_eq_true rfl) [1, 2, 3, 4, 0, 5] rfl ?_
          refine wp_goto 18 d_tl_nearest_65 (by decide) ?_
          refine wp_sub (L2 := [(0, pR 0), (1, pI _), (2, pI _), (3, pI _), (4, pI _)]) [0, 1, 2, 3, 4] rfl ?_
          exact h
        · have h := h.2 c5
          refine wp_iload d_tl_nearest_56 4 rfl ?_
          refine wp_istore_n (L2 := [(0, pR 0), (1, pI _), (2, pI _), (3, pI _), (4, pI _), (5, pI _)]) d_tl_nearest_58 rfl (Nat.le_of_ble_eq_true rfl) [1, 2, 0, 3, 4, 5] rfl ?_
          refine wp_iload d_tl_nearest_59 5 rfl ?_
          refine wp_istore_n (L2 := [(0, pR 0), (1, pI _), (2, pI _), (3, pI _), (4, pI _), (5, pI _)]) d_tl_nearest_61 rfl (Nat.le_of_ble_eq_true rfl) [1, 2, 3, 0, 4, 5] rfl ?_
          refine wp_iinc (L2 := [(0, pR 0), (1, pI _), (2, pI _), (3, pI _), (4, pI _), (5, pI _)]) d_tl_nearest_62 4 rfl (Nat.le_of_ble_eq_true rfl) [1, 2, 3, 4, 0, 5] rfl ?_
          refine wp_goto 18 d_tl_nearest_65 (by decide) ?_
          refine wp_sub (L2 := [(0, pR 0), (1, pI _), (2, pI _), (3, pI _), (4, pI _)]) [0, 1, 2, 3, 4] rfl ?_
          exact h
set_option maxHeartbeats 8000000 in
theorem e_tl_mothers {G : GT} {M : MT} {P : Int → MT → Prop} (v1 : Int)
    (h : ClI G J_tl_isTune M [pR 0, pI v1] (fun x1 M1 => ((¬ x1 = 0 → WpI G J_tl_mothers 15 [(0, pR 0), (1, pI v1), (2, pI 0), (3, pI 0)] [] M1 P) ∧ (x1 = 0 → P (-2) M1)))) : ClI G J_tl_mothers M [pR 0, pI v1] P := by
  show Wp G J_tl_mothers 0 0 0 [(0, pR 0), (1, pI v1)] [] NN RF M _
  refine wp_aload_n d_tl_mothers_0 rfl 0 rfl ?_
  refine wp_iload_n d_tl_mothers_1 rfl 1 rfl ?_
  refine wp_callV [pI _] _ d_tl_mothers_2 jd_tl_isTune lk_tl_83 rfl s_0 rfl (Nat.le_of_ble_eq_true rfl) (Nat.le_of_ble_eq_true rfl) rfl ?_
  refine clI_k h ?_
  intro x1 M1 h
  refine wp_if_ne 11 d_tl_mothers_5 (by decide) (fun c2 => ?_) (fun c2 => ?_)
  · have h := h.1 c2
    refine wp_iconst d_tl_mothers_11 ⟨by decide, by decide⟩ ?_
    refine wp_istore_n (L2 := [(0, pR 0), (1, pI _), (2, pI _)]) d_tl_mothers_12 rfl (Nat.le_of_ble_eq_true rfl) [1, 2, 0] rfl ?_
    refine wp_iconst d_tl_mothers_13 ⟨by decide, by decide⟩ ?_
    refine wp_istore_n (L2 := [(0, pR 0), (1, pI _), (2, pI _), (3, pI _)]) d_tl_mothers_14 rfl (Nat.le_of_ble_eq_true rfl) [1, 2, 3, 0] rfl ?_
    exact h
  · have h := h.2 c2
    refine wp_bipush d_tl_mothers_8 ⟨by decide, by decide⟩ (by decide) ?_
    exact wp_iret d_tl_mothers_10 rfl ⟨Nat.le_of_ble_eq_true rfl, Nat.le_of_ble_eq_true rfl⟩ ⟨_, rfl, rfl, rfl, h⟩
set_option maxHeartbeats 8000000 in
theorem b_tl_mothers_15 {G : GT} {M : MT} {P : Int → MT → Prop} (v1 : Int) (v2 : Int) (v3 : Int)
    (h : ((M 1 4) ≤ v3 → P v2 M) ∧ (v3 < (M 1 4) → (0 ≤ v3 ∧ v3 < 6) ∧ ((v3 = v1 → WpI G J_tl_mothers 15 [(0, pR 0), (1, pI v1), (2, pI v2), (3, pI (w32 (v3 + 1)))] [] M P) ∧ (¬ v3 = v1 → (0 ≤ v1 ∧ v1 < 6) ∧ (ClI G J_li_of M [pR 84, pR (10 + 2 * v3.toNat), pR (10 + 2 * v1.toNat)] (fun x5 M1 => ((¬ x5 = (M1 (10 + 2 * v3.toNat) 1) → WpI G J_tl_mothers 15 [(0, pR 0), (1, pI v1), (2, pI v2), (3, pI (w32 (v3 + 1)))] [] M1 P) ∧ (x5 = (M1 (10 + 2 * v3.toNat) 1) → WpI G J_tl_mothers 15 [(0, pR 0), (1, pI v1), (2, pI (ior v2 (ishl 1 v3))), (3, pI (w32 (v3 + 1)))] [] M1 P)))))))) : WpI G J_tl_mothers 15 [(0, pR 0), (1, pI v1), (2, pI v2), (3, pI v3)] [] M P := by
  show Wp G J_tl_mothers 0 0 15 [(0, pR 0), (1, pI v1), (2, pI v2), (3, pI v3)] [] NN RF M _
  refine wp_iload_n d_tl_mothers_15 rfl 3 rfl ?_
  refine wp_aload_n d_tl_mothers_16 rfl 0 rfl ?_
  refine wp_getr d_tl_mothers_17 0 s_0 rfl (Nat.le_of_ble_eq_true rfl) (Nat.le_of_ble_eq_true rfl) rfl rfl lk_tl_10 ?_
  refine wp_geti d_tl_mothers_20 4 s_1 rfl (Nat.le_of_ble_eq_true rfl) (Nat.le_of_ble_eq_true rfl) rfl lk_tl_225 ?_
  refine wp_icmp_ge 80 d_tl_mothers_23 (by decide) (fun c1 => ?_) (fun c1 => ?_)
  · have h := h.1 c1
    refine wp_iload_n d_tl_mothers_80 rfl 2 rfl ?_
    exact wp_iret d_tl_mothers_81 rfl ⟨Nat.le_of_ble_eq_true rfl, Nat.le_of_ble_eq_true rfl⟩ ⟨_, rfl, rfl, rfl, h⟩
  · have h := h.2 c1
    refine wp_aload_n d_tl_mothers_26 rfl 0 rfl ?_
    refine wp_getr d_tl_mothers_27 0 s_0 rfl (Nat.le_of_ble_eq_true rfl) (Nat.le_of_ble_eq_true rfl) rfl rfl lk_tl_10 ?_
    refine wp_getr d_tl_mothers_30 1 s_1 rfl (Nat.le_of_ble_eq_true rfl) (Nat.le_of_ble_eq_true rfl) rfl rfl lk_tl_86 ?_
    refine wp_iload_n d_tl_mothers_33 rfl 3 rfl ?_
    obtain ⟨⟨a2, b2⟩, h⟩ := h
    refine wp_aald (t := 1) d_tl_mothers_34 s_3 rfl (Nat.le_of_ble_eq_true rfl) a2 b2 (k_tunes _ (nat_lt a2 b2)).1 ?_
    refine wp_astore (L2 := [(0, pR 0), (1, pI _), (2, pI _), (3, pI _), (4, pR _)]) d_tl_mothers_35 (Nat.le_of_ble_eq_true rfl) [1, 2, 3, 4, 0] rfl ?_
    refine wp_iload_n d_tl_mothers_37 rfl 3 rfl ?_
    refine wp_iload_n d_tl_mothers_38 rfl 1 rfl ?_
    refine wp_icmp_eq 74 d_tl_mothers_39 (by decide) (fun c3 => ?_) (fun c3 => ?_)
    · have h := h.1 c3
      refine wp_iinc (L2 := [(0, pR 0), (1, pI _), (2, pI _), (3, pI _), (4, pR _)]) d_tl_mothers_74 3 rfl (Nat.le_of_ble_eq_true rfl) [1, 2, 3, 0, 4] rfl ?_
      refine wp_goto 15 d_tl_mothers_77 (by decide) ?_
      refine wp_sub (L2 := [(0, pR 0), (1, pI _), (2, pI _), (3, pI _)]) [0, 1, 2, 3] rfl ?_
      exact h
    · have h := h.2 c3
      refine wp_aload_n d_tl_mothers_42 rfl 0 rfl ?_
      refine wp_getr d_tl_mothers_43 3 s_0 rfl (Nat.le_of_ble_eq_true rfl) (Nat.le_of_ble_eq_true rfl) rfl rfl lk_tl_33 ?_
      refine wp_aload d_tl_mothers_46 4 rfl ?_
      refine wp_aload_n d_tl_mothers_48 rfl 0 rfl ?_
      refine wp_getr d_tl_mothers_49 0 s_0 rfl (Nat.le_of_ble_eq_true rfl) (Nat.le_of_ble_eq_true rfl) rfl rfl lk_tl_10 ?_
      refine wp_getr d_tl_mothers_52 1 s_1 rfl (Nat.le_of_ble_eq_true rfl) (Nat.le_of_ble_eq_true rfl) rfl rfl lk_tl_86 ?_
      refine wp_iload_n d_tl_mothers_55 rfl 1 rfl ?_
      obtain ⟨⟨a4, b4⟩, h⟩ := h
      refine wp_aald (t := 1) d_tl_mothers_56 s_3 rfl (Nat.le_of_ble_eq_true rfl) a4 b4 (k_tunes _ (nat_lt a4 b4)).1 ?_
      refine wp_callV [pR _, pR _] _ d_tl_mothers_57 jd_li_of lk_tl_221 rfl s_84 rfl (Nat.le_of_ble_eq_true rfl) (Nat.le_of_ble_eq_true rfl) rfl ?_
      refine clI_k h ?_
      intro x5 M1 h
      refine wp_aload d_tl_mothers_60 4 rfl ?_
      refine wp_geti d_tl_mothers_62 1 (k_tunes _ (nat_lt a2 b2)).2.1 rfl (Nat.lt_of_succ_lt (k_tunes _ (nat_lt a2 b2)).2.2.2.2) (Nat.le_of_ble_eq_true rfl) rfl lk_tl_90 ?_
      refine wp_icmp_ne 74 d_tl_mothers_65 (by decide) (fun c6 => ?_) (fun c6 => ?_)
      · have h := h.1 c6
        refine wp_iinc (L2 := [(0, pR 0), (1, pI _), (2, pI _), (3, pI _), (4, pR _)]) d_tl_mothers_74 3 rfl (Nat.le_of_ble_eq_true rfl) [1, 2, 3, 0, 4] rfl ?_
        refine wp_goto 15 d_tl_mothers_77 (by decide) ?_
        refine wp_sub (L2 := [(0, pR 0), (1, pI _), (2, pI _), (3, pI _)]) [0, 1, 2, 3] rfl ?_
        exact h
      · have h := h.2 c6
        refine wp_iload_n d_tl_mothers_68 rfl 2 rfl ?_
        refine wp_iconst d_tl_mothers_69 ⟨by decide, by decide⟩ ?_
        refine wp_iload_n d_tl_mothers_70 rfl 3 rfl ?_
        refine wp_ishl d_tl_mothers_71 ?_
        refine wp_ior d_tl_mothers_72 ?_
        refine wp_istore_n (L2 := [(0, pR 0), (1, pI _), (2, pI _), (3, pI _), (4, pR _)]) d_tl_mothers_73 rfl (Nat.le_of_ble_eq_true rfl) [1, 2, 0, 3, 4] rfl ?_
        refine wp_iinc (L2 := [(0, pR 0), (1, pI _), (2, pI _), (3, pI _), (4, pR _)]) d_tl_mothers_74 3 rfl (Nat.le_of_ble_eq_true rfl) [1, 2, 3, 0, 4] rfl ?_
        refine wp_goto 15 d_tl_mothers_77 (by decide) ?_
        refine wp_sub (L2 := [(0, pR 0), (1, pI _), (2, pI _), (3, pI _)]) [0, 1, 2, 3] rfl ?_
        exact h
set_option maxHeartbeats 8000000 in
theorem e_tl_tells {G : GT} {M : MT} {P : Int → MT → Prop} (v1 : Int) (v2 : Int)
    (h : ClI G J_tl_isTune M [pR 0, pI v1] (fun x1 M1 => ((x1 = 0 → P (-2) M1) ∧ (¬ x1 = 0 → ClI G J_tl_within M1 [pI v2, pI 0, pI 1] (fun x3 M2 => ((¬ x3 = 0 → WpI G J_tl_tells 29 [(0, pR 0), (1, pI v1), (2, pI v2), (3, pI 13), (4, pI (-1)), (5, pI 0)] [] M2 P) ∧ (x3 = 0 → P (-2) M2))))))) : ClI G J_tl_tells M [pR 0, pI v1, pI v2] P := by
  show Wp G J_tl_tells 0 0 0 [(0, pR 0), (1, pI v1), (2, pI v2)] [] NN RF M _
  refine wp_aload_n d_tl_tells_0 rfl 0 rfl ?_
  refine wp_iload_n d_tl_tells_1 rfl 1 rfl ?_
  refine wp_callV [pI _] _ d_tl_tells_2 jd_tl_isTune lk_tl_83 rfl s_0 rfl (Nat.le_of_ble_eq_true rfl) (Nat.le_of_ble_eq_true rfl) rfl ?_
  refine clI_k h ?_
  intro x1 M1 h
  refine wp_if_eq 17 d_tl_tells_5 (by decide) (fun c2 => ?_) (fun c2 => ?_)
  · have h := h.1 c2
    refine wp_bipush d_tl_tells_17 ⟨by decide, by decide⟩ (by decide) ?_
    exact wp_iret d_tl_tells_19 rfl ⟨Nat.le_of_ble_eq_true rfl, Nat.le_of_ble_eq_true rfl⟩ ⟨_, rfl, rfl, rfl, h⟩
  · have h := h.2 c2
    refine wp_iload_n d_tl_tells_8 rfl 2 rfl ?_
    refine wp_iconst d_tl_tells_9 ⟨by decide, by decide⟩ ?_
    refine wp_iconst d_tl_tells_10 ⟨by decide, by decide⟩ ?_
    refine wp_callS [pI _, pI _, pI _] d_tl_tells_11 jd_tl_within lk_tl_59 rfl (Nat.le_of_ble_eq_true rfl) rfl ?_
    refine clI_k h ?_
    intro x3 M2 h
    refine wp_if_ne 20 d_tl_tells_14 (by decide) (fun c4 => ?_) (fun c4 => ?_)
    · have h := h.1 c4
      refine wp_bipush d_tl_tells_20 ⟨by decide, by decide⟩ (by decide) ?_
      refine wp_istore_n (L2 := [(0, pR 0), (1, pI _), (2, pI _), (3, pI _)]) d_tl_tells_22 rfl (Nat.le_of_ble_eq_true rfl) [1, 2, 3, 0] rfl ?_
      refine wp_iconst d_tl_tells_23 ⟨by decide, by decide⟩ ?_
      refine wp_istore (L2 := [(0, pR 0), (1, pI _), (2, pI _), (3, pI _), (4, pI _)]) d_tl_tells_24 (Nat.le_of_ble_eq_true rfl) [1, 2, 3, 4, 0] rfl ?_
      refine wp_iconst d_tl_tells_26 ⟨by decide, by decide⟩ ?_
      refine wp_istore (L2 := [(0, pR 0), (1, pI _), (2, pI _), (3, pI _), (4, pI _), (5, pI _)]) d_tl_tells_27 (Nat.le_of_ble_eq_true rfl) [1, 2, 3, 4, 5, 0] rfl ?_
      exact h
    · have h := h.2 c4
      refine wp_bipush d_tl_tells_17 ⟨by decide, by decide⟩ (by decide) ?_
      exact wp_iret d_tl_tells_19 rfl ⟨Nat.le_of_ble_eq_true rfl, Nat.le_of_ble_eq_true rfl⟩ ⟨_, rfl, rfl, rfl, h⟩
set_option maxHeartbeats 8000000 in
theorem b_tl_tells_29 {G : GT} {M : MT} {P : Int → MT → Prop} (v1 : Int) (v2 : Int) (v3 : Int) (v4 : Int) (v5 : Int)
    (h : (4096 ≤ v5 → (v4 = (-1) → P v4 M) ∧ (¬ v4 = (-1) → (¬ v2 = 1 → P v3 M) ∧ (v2 = 1 → P v4 M))) ∧ (v5 < 4096 → ClI G J_ji_bitCount M [pI v5] (fun x2 M1 => ((v3 ≤ x2 → WpI G J_tl_tells 29 [(0, pR 0), (1, pI v1), (2, pI v2), (3, pI v3), (4, pI v4), (5, pI (w32 (v5 + 1)))] [] M1 P) ∧ (x2 < v3 → ClI G J_tl_tellFromAll M1 [pR 0, pI v1, pI v5] (fun x4 M2 => ((x4 = 0 → WpI G J_tl_tells 29 [(0, pR 0), (1, pI v1), (2, pI v2), (3, pI v3), (4, pI v4), (5, pI (w32 (v5 + 1)))] [] M2 P) ∧ (¬ x4 = 0 → WpI G J_tl_tells 29 [(0, pR 0), (1, pI v1), (2, pI v2), (3, pI x2), (4, pI v5), (5, pI (w32 (v5 + 1)))] [] M2 P)))))))) : WpI G J_tl_tells 29 [(0, pR 0), (1, pI v1), (2, pI v2), (3, pI v3), (4, pI v4), (5, pI v5)] [] M P := by
  show Wp G J_tl_tells 0 0 29 [(0, pR 0), (1, pI v1), (2, pI v2), (3, pI v3), (4, pI v4), (5, pI v5)] [] NN RF M _
  refine wp_iload d_tl_tells_29 5 rfl ?_
  refine wp_sipush d_tl_tells_31 ⟨by decide, by decide⟩ (by decide) ?_
  refine wp_icmp_ge 73 d_tl_tells_34 (by decide) (fun c1 => ?_) (fun c1 => ?_)
  · have h := h.1 c1
    refine wp_iload d_tl_tells_73 4 rfl ?_
    refine wp_iconst d_tl_tells_75 ⟨by decide, by decide⟩ ?_
    refine wp_icmp_eq 84 d_tl_tells_76 (by decide) (fun c2 => ?_) (fun c2 => ?_)
    · have h := h.1 c2
      refine wp_iload d_tl_tells_84 4 rfl ?_
      refine wp_goto 90 d_tl_tells_86 (by decide) ?_
      exact wp_iret d_tl_tells_90 rfl ⟨Nat.le_of_ble_eq_true rfl, Nat.le_of_ble_eq_true rfl⟩ ⟨_, rfl, rfl, rfl, h⟩
    · have h := h.2 c2
      refine wp_iload_n d_tl_tells_79 rfl 2 rfl ?_
      refine wp_iconst d_tl_tells_80 ⟨by decide, by decide⟩ ?_
      refine wp_icmp_ne 89 d_tl_tells_81 (by decide) (fun c3 => ?_) (fun c3 => ?_)
      · have h := h.1 c3
        refine wp_iload_n d_tl_tells_89 rfl 3 rfl ?_
        exact wp_iret d_tl_tells_90 rfl ⟨Nat.le_of_ble_eq_true rfl, Nat.le_of_ble_eq_true rfl⟩ ⟨_, rfl, rfl, rfl, h⟩
      · have h := h.2 c3
        refine wp_iload d_tl_tells_84 4 rfl ?_
        refine wp_goto 90 d_tl_tells_86 (by decide) ?_
        exact wp_iret d_tl_tells_90 rfl ⟨Nat.le_of_ble_eq_true rfl, Nat.le_of_ble_eq_true rfl⟩ ⟨_, rfl, rfl, rfl, h⟩
  · have h := h.2 c1
    refine wp_iload d_tl_tells_37 5 rfl ?_
    refine wp_callS [pI _] d_tl_tells_39 jd_ji_bitCount lk_tl_231 rfl (Nat.le_of_ble_eq_true rfl) rfl ?_
    refine clI_k h ?_
    intro x2 M1 h
    refine wp_istore (L2 := [(0, pR 0), (1, pI _), (2, pI _), (3, pI _), (4, pI _), (5, pI _), (6, pI _)]) d_tl_tells_42 (Nat.le_of_ble_eq_true rfl) [1, 2, 3, 4, 5, 6, 0] rfl ?_
    refine wp_iload d_tl_tells_44 6 rfl ?_
    refine wp_iload_n d_tl_tells_46 rfl 3 rfl ?_
    refine wp_icmp_ge 67 d_tl_tells_47 (by decide) (fun c3 => ?_) (fun c3 => ?_)
    · have h := h.1 c3
      refine wp_iinc (L2 := [(0, pR 0), (1, pI _), (2, pI _), (3, pI _), (4, pI _), (5, pI _), (6, pI _)]) d_tl_tells_67 5 rfl (Nat.le_of_ble_eq_true rfl) [1, 2, 3, 4, 5, 0, 6] rfl ?_
      refine wp_goto 29 d_tl_tells_70 (by decide) ?_
      refine wp_sub (L2 := [(0, pR 0), (1, pI _), (2, pI _), (3, pI _), (4, pI _), (5, pI _)]) [0, 1, 2, 3, 4, 5] rfl ?_
      exact h
    · have h := h.2 c3
      refine wp_aload_n d_tl_tells_50 rfl 0 rfl ?_
      refine wp_iload_n d_tl_tells_51 rfl 1 rfl ?_
      refine wp_iload d_tl_tells_52 5 rfl ?_
      refine wp_callV [pI _, pI _] _ d_tl_tells_54 jd_tl_tellFromAll lk_tl_236 rfl s_0 rfl (Nat.le_of_ble_eq_true rfl) (Nat.le_of_ble_eq_true rfl) rfl ?_
      refine clI_k h ?_
      intro x4 M2 h
      refine wp_if_eq 67 d_tl_tells_57 (by decide) (fun c5 => ?_) (fun c5 => ?_)
      · have h := h.1 c5
        refine wp_iinc (L2 := [(0, pR 0), (1, pI _), (2, pI _), (3, pI _), (4, pI _), (5, pI _), (6, pI _)]) d_tl_tells_67 5 rfl (Nat.le_of_ble_eq_true rfl) [1, 2, 3, 4, 5, 0, 6] rfl ?_
        refine wp_goto 29 d_tl_tells_70 (by decide) ?_
        refine wp_sub (L2 := [(0, pR 0), (1, pI _), (2, pI _), (3, pI _), (4, pI _), (5, pI _)]) [0, 1, 2, 3, 4, 5] rfl ?_
        exact h
      · have h := h.2 c5
        refine wp_iload d_tl_tells_60 6 rfl ?_
        refine wp_istore_n (L2 := [(0, pR 0), (1, pI _), (2, pI _), (3, pI _), (4, pI _), (5, pI _), (6, pI _)]) d_tl_tells_62 rfl (Nat.le_of_ble_eq_true rfl) [1, 2, 3, 0, 4, 5, 6] rfl ?_
        refine wp_iload d_tl_tells_63 5 rfl ?_
        refine wp_istore (L2 := [(0, pR 0), (1, pI _), (2, pI _), (3, pI _), (4, pI _), (5, pI _), (6, pI _)]) d_tl_tells_65 (Nat.le_of_ble_eq_true rfl) [1, 2, 3, 4, 0, 5, 6] rfl ?_
        refine wp_iinc (L2 := [(0, pR 0), (1, pI _), (2, pI _), (3, pI _), (4, pI _), (5, pI _), (6, pI _)]) d_tl_tells_67 5 rfl (Nat.le_of_ble_eq_true rfl) [1, 2, 3, 4, 5, 0, 6] rfl ?_
        refine wp_goto 29 d_tl_tells_70 (by decide) ?_
        refine wp_sub (L2 := [(0, pR 0), (1, pI _), (2, pI _), (3, pI _), (4, pI _), (5, pI _)]) [0, 1, 2, 3, 4, 5] rfl ?_
        exact h
set_option maxHeartbeats 8000000 in
theorem e_tl_loses {G : GT} {M : MT} {P : Int → MT → Prop} (v1 : Int)
    (h : ClI G J_tl_isEar M [pI v1] (fun x1 M1 => ((x1 = 0 → P (-1002) M1) ∧ (¬ x1 = 0 → ClI G J_tl_interestBy M1 [pR 0, pI 0, pI 39] (fun x3 M2 => (ClI G J_tl_interestBy M2 [pR 0, pI v1, pI 39] (fun x4 M3 => (P (w32 (x3 - x4)) M3)))))))) : ClI G J_tl_loses M [pR 0, pI v1] P := by
  show Wp G J_tl_loses 0 0 0 [(0, pR 0), (1, pI v1)] [] NN RF M _
  refine wp_iload_n d_tl_loses_0 rfl 1 rfl ?_
  refine wp_callS [pI _] d_tl_loses_1 jd_tl_isEar lk_tl_159 rfl (Nat.le_of_ble_eq_true rfl) rfl ?_
  refine clI_k h ?_
  intro x1 M1 h
  refine wp_if_eq 25 d_tl_loses_4 (by decide) (fun c2 => ?_) (fun c2 => ?_)
  · have h := h.1 c2
    refine wp_sipush d_tl_loses_25 ⟨by decide, by decide⟩ (by decide) ?_
    exact wp_iret d_tl_loses_28 rfl ⟨Nat.le_of_ble_eq_true rfl, Nat.le_of_ble_eq_true rfl⟩ ⟨_, rfl, rfl, rfl, h⟩
  · have h := h.2 c2
    refine wp_aload_n d_tl_loses_7 rfl 0 rfl ?_
    refine wp_iconst d_tl_loses_8 ⟨by decide, by decide⟩ ?_
    refine wp_bipush d_tl_loses_9 ⟨by decide, by decide⟩ (by decide) ?_
    refine wp_callV [pI _, pI _] _ d_tl_loses_11 jd_tl_interestBy lk_tl_186 rfl s_0 rfl (Nat.le_of_ble_eq_true rfl) (Nat.le_of_ble_eq_true rfl) rfl ?_
    refine clI_k h ?_
    intro x3 M2 h
    refine wp_aload_n d_tl_loses_14 rfl 0 rfl ?_
    refine wp_iload_n d_tl_loses_15 rfl 1 rfl ?_
    refine wp_bipush d_tl_loses_16 ⟨by decide, by decide⟩ (by decide) ?_
    refine wp_callV [pI _, pI _] _ d_tl_loses_18 jd_tl_interestBy lk_tl_186 rfl s_0 rfl (Nat.le_of_ble_eq_true rfl) (Nat.le_of_ble_eq_true rfl) rfl ?_
    refine clI_k h ?_
    intro x4 M3 h
    refine wp_isub d_tl_loses_21 ?_
    refine wp_goto 28 d_tl_loses_22 (by decide) ?_
    exact wp_iret d_tl_loses_28 rfl ⟨Nat.le_of_ble_eq_true rfl, Nat.le_of_ble_eq_true rfl⟩ ⟨_, rfl, rfl, rfl, h⟩
set_option maxHeartbeats 8000000 in
theorem e_tl_best {G : GT} {M : MT} {P : Int → MT → Prop} (v1 : Int)
    (h : ClI G J_tl_within M [pI v1, pI 0, pI 240] (fun x1 M1 => ((¬ x1 = 0 → WpI G J_tl_best 17 [(0, pR 0), (1, pI v1), (2, pI 12)] [] M1 P) ∧ (x1 = 0 → P (-2) M1)))) : ClI G J_tl_best M [pR 0, pI v1] P := by
  show Wp G J_tl_best 0 0 0 [(0, pR 0), (1, pI v1)] [] NN RF M _
  refine wp_iload_n d_tl_best_0 rfl 1 rfl ?_
  refine wp_iconst d_tl_best_1 ⟨by decide, by decide⟩ ?_
  refine wp_sipush d_tl_best_2 ⟨by decide, by decide⟩ (by decide) ?_
  refine wp_callS [pI _, pI _, pI _] d_tl_best_5 jd_tl_within lk_tl_59 rfl (Nat.le_of_ble_eq_true rfl) rfl ?_
  refine clI_k h ?_
  intro x1 M1 h
  refine wp_if_ne 14 d_tl_best_8 (by decide) (fun c2 => ?_) (fun c2 => ?_)
  · have h := h.1 c2
    refine wp_bipush d_tl_best_14 ⟨by decide, by decide⟩ (by decide) ?_
    refine wp_istore_n (L2 := [(0, pR 0), (1, pI _), (2, pI _)]) d_tl_best_16 rfl (Nat.le_of_ble_eq_true rfl) [1, 2, 0] rfl ?_
    exact h
  · have h := h.2 c2
    refine wp_bipush d_tl_best_11 ⟨by decide, by decide⟩ (by decide) ?_
    exact wp_iret d_tl_best_13 rfl ⟨Nat.le_of_ble_eq_true rfl, Nat.le_of_ble_eq_true rfl⟩ ⟨_, rfl, rfl, rfl, h⟩
set_option maxHeartbeats 8000000 in
theorem b_tl_best_17 {G : GT} {M : MT} {P : Int → MT → Prop} (v1 : Int) (v2 : Int)
    (h : (v2 < 0 → P (-1) M) ∧ (0 ≤ v2 → ClI G J_tl_interestBy M [pR 0, pI v2, pI 39] (fun x2 M1 => ((x2 < v1 → WpI G J_tl_best 17 [(0, pR 0), (1, pI v1), (2, pI (w32 (v2 + (-1))))] [] M1 P) ∧ (v1 ≤ x2 → P v2 M1))))) : WpI G J_tl_best 17 [(0, pR 0), (1, pI v1), (2, pI v2)] [] M P := by
  show Wp G J_tl_best 0 0 17 [(0, pR 0), (1, pI v1), (2, pI v2)] [] NN RF M _
  refine wp_iload_n d_tl_best_17 rfl 2 rfl ?_
  refine wp_if_lt 40 d_tl_best_18 (by decide) (fun c1 => ?_) (fun c1 => ?_)
  · have h := h.1 c1
    refine wp_iconst d_tl_best_40 ⟨by decide, by decide⟩ ?_
    exact wp_iret d_tl_best_41 rfl ⟨Nat.le_of_ble_eq_true rfl, Nat.le_of_ble_eq_true rfl⟩ ⟨_, rfl, rfl, rfl, h⟩
  · have h := h.2 c1
    refine wp_aload_n d_tl_best_21 rfl 0 rfl ?_
    refine wp_iload_n d_tl_best_22 rfl 2 rfl ?_
    refine wp_bipush d_tl_best_23 ⟨by decide, by decide⟩ (by decide) ?_
    refine wp_callV [pI _, pI _] _ d_tl_best_25 jd_tl_interestBy lk_tl_186 rfl s_0 rfl (Nat.le_of_ble_eq_true rfl) (Nat.le_of_ble_eq_true rfl) rfl ?_
    refine clI_k h ?_
    intro x2 M1 h
    refine wp_iload_n d_tl_best_28 rfl 1 rfl ?_
    refine wp_icmp_lt 34 d_tl_best_29 (by decide) (fun c3 => ?_) (fun c3 => ?_)
    · have h := h.1 c3
      refine wp_iinc (L2 := [(0, pR 0), (1, pI _), (2, pI _)]) d_tl_best_34 2 rfl (Nat.le_of_ble_eq_true rfl) [1, 2, 0] rfl ?_
      refine wp_goto 17 d_tl_best_37 (by decide) ?_
      exact h
    · have h := h.2 c3
      refine wp_iload_n d_tl_best_32 rfl 2 rfl ?_
      exact wp_iret d_tl_best_33 rfl ⟨Nat.le_of_ble_eq_true rfl, Nat.le_of_ble_eq_true rfl⟩ ⟨_, rfl, rfl, rfl, h⟩
