set_option maxHeartbeats 8000000 in
theorem e_tl_hums {G : GT} {M : MT} {P : Int → MT → Prop} (v1 : Int) (v2 : Int) (v3 : Int) (v4 : Int) (v5 : Int) (v6 : Int)
    (h : ClI G J_tl_within M [pI v1, pI 0, pI 16] (fun x1 M1 => ((x1 = 0 → P (-9223372036854775806) M1) ∧ (¬ x1 = 0 → ClI G J_tl_isTune M1 [pR 0, pI v2] (fun x3 M2 => ((x3 = 0 → P (-9223372036854775806) M2) ∧ (¬ x3 = 0 → ClI G J_tl_isBorrower M2 [pR 0, pI v3] (fun x5 M3 => ((x5 = 0 → P (-9223372036854775806) M3) ∧ (¬ x5 = 0 → ClI G J_tl_within M3 [pI v4, pI 1, pI 9] (fun x7 M4 => ((x7 = 0 → P (-9223372036854775806) M4) ∧ (¬ x7 = 0 → ClI G J_tl_within M4 [pI v5, pI 1, pI 40] (fun x9 M5 => ((x9 = 0 → P (-9223372036854775806) M5) ∧ (¬ x9 = 0 → ClI G J_tl_within M5 [pI v6, pI 0, pI 1] (fun x11 M6 => ((¬ x11 = 0 → ClV G J_ch_weigh M6 [pR 86, pI v1, pI v4] (fun M7 => ((0 ≤ v2 ∧ v2 < 6) ∧ ((0 ≤ v3 ∧ v3 < 6) ∧ (ClL G J_ch_weightOf M7 [pR 86, pR (10 + 2 * v2.toNat), pR (22 + v3.toNat), pI v4, pI v5] (fun x15 M8 => (WpL G J_tl_hums 118 [(6, pI v6), (7, pL x15), (9, pI (w32 (4 * v4))), (10, pL (lshl 1 (w32 (4 * v4)))), (12, pI 0)] [] M8 P))))))) ∧ (x11 = 0 → P (-9223372036854775806) M6))))))))))))))))))) : ClL G J_tl_hums M [pR 0, pI v1, pI v2, pI v3, pI v4, pI v5, pI v6] P := by
  show Wp G J_tl_hums 0 0 0 [(0, pR 0), (1, pI v1), (2, pI v2), (3, pI v3), (4, pI v4), (5, pI v5), (6, pI v6)] [] NN RF M _
  refine wp_iload_n d_tl_hums_0 rfl 1 rfl ?_
  refine wp_iconst d_tl_hums_1 ⟨by decide, by decide⟩ ?_
  refine wp_bipush d_tl_hums_2 ⟨by decide, by decide⟩ (by decide) ?_
  refine wp_callS [pI _, pI _, pI _] d_tl_hums_4 jd_tl_within lk_tl_59 rfl (Nat.le_of_ble_eq_true rfl) rfl ?_
  refine clI_k h ?_
  intro x1 M1 h
  refine wp_if_eq 58 d_tl_hums_7 (by decide) (fun c2 => ?_) (fun c2 => ?_)
  · have h := h.1 c2
    refine wp_ldc2 lk_tl_240 d_tl_hums_58 ⟨by decide, by decide⟩ ?_
    exact wp_lret d_tl_hums_61 rfl ⟨Nat.le_of_ble_eq_true rfl, Nat.le_of_ble_eq_true rfl⟩ ⟨_, rfl, rfl, rfl, h⟩
  · have h := h.2 c2
    refine wp_aload_n d_tl_hums_10 rfl 0 rfl ?_
    refine wp_iload_n d_tl_hums_11 rfl 2 rfl ?_
    refine wp_callV [pI _] _ d_tl_hums_12 jd_tl_isTune lk_tl_83 rfl s_0 rfl (Nat.le_of_ble_eq_true rfl) (Nat.le_of_ble_eq_true rfl) rfl ?_
    refine clI_k h ?_
    intro x3 M2 h
    refine wp_if_eq 58 d_tl_hums_15 (by decide) (fun c4 => ?_) (fun c4 => ?_)
    · have h := h.1 c4
      refine wp_ldc2 lk_tl_240 d_tl_hums_58 ⟨by decide, by decide⟩ ?_
      exact wp_lret d_tl_hums_61 rfl ⟨Nat.le_of_ble_eq_true rfl, Nat.le_of_ble_eq_true rfl⟩ ⟨_, rfl, rfl, rfl, h⟩
    · have h := h.2 c4
      refine wp_aload_n d_tl_hums_18 rfl 0 rfl ?_
      refine wp_iload_n d_tl_hums_19 rfl 3 rfl ?_
      refine wp_callV [pI _] _ d_tl_hums_20 jd_tl_isBorrower lk_tl_97 rfl s_0 rfl (Nat.le_of_ble_eq_true rfl) (Nat.le_of_ble_eq_true rfl) rfl ?_
      refine clI_k h ?_
      intro x5 M3 h
      refine wp_if_eq 58 d_tl_hums_23 (by decide) (fun c6 => ?_) (fun c6 => ?_)
      · have h := h.1 c6
        refine wp_ldc2 lk_tl_240 d_tl_hums_58 ⟨by decide, by decide⟩ ?_
        exact wp_lret d_tl_hums_61 rfl ⟨Nat.le_of_ble_eq_true rfl, Nat.le_of_ble_eq_true rfl⟩ ⟨_, rfl, rfl, rfl, h⟩
      · have h := h.2 c6
        refine wp_iload d_tl_hums_26 4 rfl ?_
        refine wp_iconst d_tl_hums_28 ⟨by decide, by decide⟩ ?_
        refine wp_bipush d_tl_hums_29 ⟨by decide, by decide⟩ (by decide) ?_
        refine wp_callS [pI _, pI _, pI _] d_tl_hums_31 jd_tl_within lk_tl_59 rfl (Nat.le_of_ble_eq_true rfl) rfl ?_
        refine clI_k h ?_
        intro x7 M4 h
        refine wp_if_eq 58 d_tl_hums_34 (by decide) (fun c8 => ?_) (fun c8 => ?_)
        · have h := h.1 c8
          refine wp_ldc2 lk_tl_240 d_tl_hums_58 ⟨by decide, by decide⟩ ?_
          exact wp_lret d_tl_hums_61 rfl ⟨Nat.le_of_ble_eq_true rfl, Nat.le_of_ble_eq_true rfl⟩ ⟨_, rfl, rfl, rfl, h⟩
        · have h := h.2 c8
          refine wp_iload d_tl_hums_37 5 rfl ?_
          refine wp_iconst d_tl_hums_39 ⟨by decide, by decide⟩ ?_
          refine wp_bipush d_tl_hums_40 ⟨by decide, by decide⟩ (by decide) ?_
          refine wp_callS [pI _, pI _, pI _] d_tl_hums_42 jd_tl_within lk_tl_59 rfl (Nat.le_of_ble_eq_true rfl) rfl ?_
          refine clI_k h ?_
          intro x9 M5 h
          refine wp_if_eq 58 d_tl_hums_45 (by decide) (fun c10 => ?_) (fun c10 => ?_)
          · have h := h.1 c10
            refine wp_ldc2 lk_tl_240 d_tl_hums_58 ⟨by decide, by decide⟩ ?_
            exact wp_lret d_tl_hums_61 rfl ⟨Nat.le_of_ble_eq_true rfl, Nat.le_of_ble_eq_true rfl⟩ ⟨_, rfl, rfl, rfl, h⟩
          · have h := h.2 c10
            refine wp_iload d_tl_hums_48 6 rfl ?_
            refine wp_iconst d_tl_hums_50 ⟨by decide, by decide⟩ ?_
            refine wp_iconst d_tl_hums_51 ⟨by decide, by decide⟩ ?_
            refine wp_callS [pI _, pI _, pI _] d_tl_hums_52 jd_tl_within lk_tl_59 rfl (Nat.le_of_ble_eq_true rfl) rfl ?_
            refine clI_k h ?_
            intro x11 M6 h
            refine wp_if_ne 62 d_tl_hums_55 (by decide) (fun c12 => ?_) (fun c12 => ?_)
            · have h := h.1 c12
              refine wp_aload_n d_tl_hums_62 rfl 0 rfl ?_
              refine wp_getr d_tl_hums_63 4 s_0 rfl (Nat.le_of_ble_eq_true rfl) (Nat.le_of_ble_eq_true rfl) rfl rfl lk_tl_40 ?_
              refine wp_iload_n d_tl_hums_66 rfl 1 rfl ?_
              refine wp_iload d_tl_hums_67 4 rfl ?_
              refine wp_callV [pI _, pI _] _ d_tl_hums_69 jd_ch_weigh lk_tl_242 rfl s_86 rfl (Nat.le_of_ble_eq_true rfl) (Nat.le_of_ble_eq_true rfl) rfl ?_
              refine clV_k h ?_
              intro M7 h
              refine wp_aload_n d_tl_hums_72 rfl 0 rfl ?_
              refine wp_getr d_tl_hums_73 4 s_0 rfl (Nat.le_of_ble_eq_true rfl) (Nat.le_of_ble_eq_true rfl) rfl rfl lk_tl_40 ?_
              refine wp_aload_n d_tl_hums_76 rfl 0 rfl ?_
              refine wp_getr d_tl_hums_77 0 s_0 rfl (Nat.le_of_ble_eq_true rfl) (Nat.le_of_ble_eq_true rfl) rfl rfl lk_tl_10 ?_
              refine wp_getr d_tl_hums_80 1 s_1 rfl (Nat.le_of_ble_eq_true rfl) (Nat.le_of_ble_eq_true rfl) rfl rfl lk_tl_86 ?_
              refine wp_iload_n d_tl_hums_83 rfl 2 rfl ?_
              obtain ⟨⟨a13, b13⟩, h⟩ := h
              refine wp_aald (t := 1) d_tl_hums_84 s_3 rfl (Nat.le_of_ble_eq_true rfl) a13 b13 (k_tunes _ (nat_lt a13 b13)).1 ?_
              refine wp_aload_n d_tl_hums_85 rfl 0 rfl ?_
              refine wp_getr d_tl_hums_86 0 s_0 rfl (Nat.le_of_ble_eq_true rfl) (Nat.le_of_ble_eq_true rfl) rfl rfl lk_tl_10 ?_
              refine wp_getr d_tl_hums_89 2 s_1 rfl (Nat.le_of_ble_eq_true rfl) (Nat.le_of_ble_eq_true rfl) rfl rfl lk_tl_100 ?_
              refine wp_iload_n d_tl_hums_92 rfl 3 rfl ?_
              obtain ⟨⟨a14, b14⟩, h⟩ := h
              refine wp_aald (t := 2) d_tl_hums_93 s_4 rfl (Nat.le_of_ble_eq_true rfl) a14 b14 (k_borrowers _ (nat_lt a14 b14)).1 ?_
              refine wp_iload d_tl_hums_94 4 rfl ?_
              refine wp_iload d_tl_hums_96 5 rfl ?_
              refine wp_callV [pR _, pR _, pI _, pI _] _ d_tl_hums_98 jd_ch_weightOf lk_tl_246 rfl s_86 rfl (Nat.le_of_ble_eq_true rfl) (Nat.le_of_ble_eq_true rfl) rfl ?_
              refine clL_k h ?_
              intro x15 M8 h
              refine wp_lstore (L2 := [(0, pR 0), (1, pI _), (2, pI _), (3, pI _), (4, pI _), (5, pI _), (6, pI _), (7, pL _)]) d_tl_hums_101 (Nat.le_of_ble_eq_true rfl) [1, 2, 3, 4, 5, 6, 7, 0] rfl ?_
              refine wp_iconst d_tl_hums_103 ⟨by decide, by decide⟩ ?_
              refine wp_iload d_tl_hums_104 4 rfl ?_
              refine wp_imul d_tl_hums_106 ?_
              refine wp_istore (L2 := [(0, pR 0), (1, pI _), (2, pI _), (3, pI _), (4, pI _), (5, pI _), (6, pI _), (7, pL _), (9, pI _)]) d_tl_hums_107 (Nat.le_of_ble_eq_true rfl) [1, 2, 3, 4, 5, 6, 7, 8, 0] rfl ?_
              refine wp_lconst (v := 1) d_tl_hums_109 rfl ?_
              refine wp_iload d_tl_hums_110 8 rfl ?_
              refine wp_lshl d_tl_hums_112 ?_
              refine wp_lstore (L2 := [(0, pR 0), (1, pI _), (2, pI _), (3, pI _), (4, pI _), (5, pI _), (6, pI _), (7, pL _), (9, pI _), (10, pL _)]) d_tl_hums_113 (Nat.le_of_ble_eq_true rfl) [1, 2, 3, 4, 5, 6, 7, 8, 9, 0] rfl ?_
              refine wp_iconst d_tl_hums_115 ⟨by decide, by decide⟩ ?_
              refine wp_istore (L2 := [(0, pR 0), (1, pI _), (2, pI _), (3, pI _), (4, pI _), (5, pI _), (6, pI _), (7, pL _), (9, pI _), (10, pL _), (12, pI _)]) d_tl_hums_116 (Nat.le_of_ble_eq_true rfl) [1, 2, 3, 4, 5, 6, 7, 8, 9, 10, 0] rfl ?_
              refine wp_sub (L2 := [(6, pI _), (7, pL _), (9, pI _), (10, pL _), (12, pI _)]) [6, 7, 8, 9, 10] rfl ?_
              exact h
            · have h := h.2 c12
              refine wp_ldc2 lk_tl_240 d_tl_hums_58 ⟨by decide, by decide⟩ ?_
              exact wp_lret d_tl_hums_61 rfl ⟨Nat.le_of_ble_eq_true rfl, Nat.le_of_ble_eq_true rfl⟩ ⟨_, rfl, rfl, rfl, h⟩
set_option maxHeartbeats 8000000 in
theorem b_tl_hums_118 {G : GT} {M : MT} {P : Int → MT → Prop} (v6 : Int) (v7 : Int) (v9 : Int) (v10 : Int) (v12 : Int)
    (h : (v9 ≤ v12 → (¬ v6 = 0 → P v10 M) ∧ (v6 = 0 → P v7 M)) ∧ (v12 < v9 → (¬ (w64 (Int.tmod v7 2)) = 0 → (¬ v6 = 0 → P v10 M) ∧ (v6 = 0 → P v7 M)) ∧ ((w64 (Int.tmod v7 2)) = 0 → WpL G J_tl_hums 118 [(6, pI v6), (7, pL (w64 (Int.tdiv v7 2))), (9, pI v9), (10, pL (w64 (Int.tdiv v10 2))), (12, pI (w32 (v12 + 1)))] [] M P))) : WpL G J_tl_hums 118 [(6, pI v6), (7, pL v7), (9, pI v9), (10, pL v10), (12, pI v12)] [] M P := by
  show Wp G J_tl_hums 0 0 118 [(6, pI v6), (7, pL v7), (9, pI v9), (10, pL v10), (12, pI v12)] [] NN RF M _
  refine wp_iload d_tl_hums_118 4 rfl ?_
  refine wp_iload d_tl_hums_120 2 rfl ?_
  refine wp_icmp_ge 158 d_tl_hums_122 (by decide) (fun c1 => ?_) (fun c1 => ?_)
  · have h := h.1 c1
    refine wp_iload d_tl_hums_158 0 rfl ?_
    refine wp_if_ne 168 d_tl_hums_160 (by decide) (fun c2 => ?_) (fun c2 => ?_)
    · have h := h.1 c2
      refine wp_lload d_tl_hums_168 3 rfl ?_
      exact wp_lret d_tl_hums_170 rfl ⟨Nat.le_of_ble_eq_true rfl, Nat.le_of_ble_eq_true rfl⟩ ⟨_, rfl, rfl, rfl, h⟩
    · have h := h.2 c2
      refine wp_lload d_tl_hums_163 1 rfl ?_
      refine wp_goto 170 d_tl_hums_165 (by decide) ?_
      exact wp_lret d_tl_hums_170 rfl ⟨Nat.le_of_ble_eq_true rfl, Nat.le_of_ble_eq_true rfl⟩ ⟨_, rfl, rfl, rfl, h⟩
  · have h := h.2 c1
    refine wp_lload d_tl_hums_125 1 rfl ?_
    refine wp_ldc2 lk_tl_250 d_tl_hums_127 ⟨by decide, by decide⟩ ?_
    refine wp_lrem d_tl_hums_130 (by decide) ?_
    refine wp_lconst (v := 0) d_tl_hums_131 rfl ?_
    refine wp_lcmp d_tl_hums_132 ?_
    refine wp_if_ne 158 d_tl_hums_133 (by decide) (fun c2 => ?_) (fun c2 => ?_)
    · have h := h.1 (fun e => c2 ((lcm_eq _ _).mpr e))
      refine wp_iload d_tl_hums_158 0 rfl ?_
      refine wp_if_ne 168 d_tl_hums_160 (by decide) (fun c3 => ?_) (fun c3 => ?_)
      · have h := h.1 c3
        refine wp_lload d_tl_hums_168 3 rfl ?_
        exact wp_lret d_tl_hums_170 rfl ⟨Nat.le_of_ble_eq_true rfl, Nat.le_of_ble_eq_true rfl⟩ ⟨_, rfl, rfl, rfl, h⟩
      · have h := h.2 c3
        refine wp_lload d_tl_hums_163 1 rfl ?_
        refine wp_goto 170 d_tl_hums_165 (by decide) ?_
        exact wp_lret d_tl_hums_170 rfl ⟨Nat.le_of_ble_eq_true rfl, Nat.le_of_ble_eq_true rfl⟩ ⟨_, rfl, rfl, rfl, h⟩
    · have h := h.2 ((lcm_eq _ _).mp c2)
      refine wp_lload d_tl_hums_136 1 rfl ?_
      refine wp_ldc2 lk_tl_250 d_tl_hums_138 ⟨by decide, by decide⟩ ?_
      refine wp_ldiv d_tl_hums_141 (by decide) ?_
      refine wp_lstore (L2 := [(6, pI _), (7, pL _), (9, pI _), (10, pL _), (12, pI _)]) d_tl_hums_142 (Nat.le_of_ble_eq_true rfl) [1, 0, 2, 3, 4] rfl ?_
      refine wp_lload d_tl_hums_144 3 rfl ?_
      refine wp_ldc2 lk_tl_250 d_tl_hums_146 ⟨by decide, by decide⟩ ?_
      refine wp_ldiv d_tl_hums_149 (by decide) ?_
      refine wp_lstore (L2 := [(6, pI _), (7, pL _), (9, pI _), (10, pL _), (12, pI _)]) d_tl_hums_150 (Nat.le_of_ble_eq_true rfl) [1, 2, 3, 0, 4] rfl ?_
      refine wp_iinc (L2 := [(6, pI _), (7, pL _), (9, pI _), (10, pL _), (12, pI _)]) d_tl_hums_152 4 rfl (Nat.le_of_ble_eq_true rfl) [1, 2, 3, 4, 0] rfl ?_
      refine wp_goto 118 d_tl_hums_155 (by decide) ?_
      exact h
set_option maxHeartbeats 8000000 in
theorem e_tl_fair {G : GT} {M : MT} {P : Int → MT → Prop} (v1 : Int) (v2 : Int) (v3 : Int)
    (h : ClI G J_tl_within M [pI v2, pI 1, pI 40] (fun x1 M1 => ((x1 = 0 → P (-2) M1) ∧ (¬ x1 = 0 → ClI G J_tl_isTune M1 [pR 0, pI v3] (fun x3 M2 => ((x3 = 0 → P (-2) M2) ∧ (¬ x3 = 0 → ClI G J_ch_fairSize M2 [pR 86, pR 1, pI v1, pI v2, pI v3] (fun x5 M3 => (P x5 M3))))))))) : ClI G J_tl_fair M [pR 0, pI v1, pI v2, pI v3] P := by
  show Wp G J_tl_fair 0 0 0 [(0, pR 0), (1, pI v1), (2, pI v2), (3, pI v3)] [] NN RF M _
  refine wp_iload_n d_tl_fair_0 rfl 2 rfl ?_
  refine wp_iconst d_tl_fair_1 ⟨by decide, by decide⟩ ?_
  refine wp_bipush d_tl_fair_2 ⟨by decide, by decide⟩ (by decide) ?_
  refine wp_callS [pI _, pI _, pI _] d_tl_fair_4 jd_tl_within lk_tl_59 rfl (Nat.le_of_ble_eq_true rfl) rfl ?_
  refine clI_k h ?_
  intro x1 M1 h
  refine wp_if_eq 35 d_tl_fair_7 (by decide) (fun c2 => ?_) (fun c2 => ?_)
  · have h := h.1 c2
    refine wp_bipush d_tl_fair_35 ⟨by decide, by decide⟩ (by decide) ?_
    exact wp_iret d_tl_fair_37 rfl ⟨Nat.le_of_ble_eq_true rfl, Nat.le_of_ble_eq_true rfl⟩ ⟨_, rfl, rfl, rfl, h⟩
  · have h := h.2 c2
    refine wp_aload_n d_tl_fair_10 rfl 0 rfl ?_
    refine wp_iload_n d_tl_fair_11 rfl 3 rfl ?_
    refine wp_callV [pI _] _ d_tl_fair_12 jd_tl_isTune lk_tl_83 rfl s_0 rfl (Nat.le_of_ble_eq_true rfl) (Nat.le_of_ble_eq_true rfl) rfl ?_
    refine clI_k h ?_
    intro x3 M2 h
    refine wp_if_eq 35 d_tl_fair_15 (by decide) (fun c4 => ?_) (fun c4 => ?_)
    · have h := h.1 c4
      refine wp_bipush d_tl_fair_35 ⟨by decide, by decide⟩ (by decide) ?_
      exact wp_iret d_tl_fair_37 rfl ⟨Nat.le_of_ble_eq_true rfl, Nat.le_of_ble_eq_true rfl⟩ ⟨_, rfl, rfl, rfl, h⟩
    · have h := h.2 c4
      refine wp_aload_n d_tl_fair_18 rfl 0 rfl ?_
      refine wp_getr d_tl_fair_19 4 s_0 rfl (Nat.le_of_ble_eq_true rfl) (Nat.le_of_ble_eq_true rfl) rfl rfl lk_tl_40 ?_
      refine wp_aload_n d_tl_fair_22 rfl 0 rfl ?_
      refine wp_getr d_tl_fair_23 0 s_0 rfl (Nat.le_of_ble_eq_true rfl) (Nat.le_of_ble_eq_true rfl) rfl rfl lk_tl_10 ?_
      refine wp_iload_n d_tl_fair_26 rfl 1 rfl ?_
      refine wp_iload_n d_tl_fair_27 rfl 2 rfl ?_
      refine wp_iload_n d_tl_fair_28 rfl 3 rfl ?_
      refine wp_callV [pR _, pI _, pI _, pI _] _ d_tl_fair_29 jd_ch_fairSize lk_tl_252 rfl s_86 rfl (Nat.le_of_ble_eq_true rfl) (Nat.le_of_ble_eq_true rfl) rfl ?_
      refine clI_k h ?_
      intro x5 M3 h
      refine wp_goto 37 d_tl_fair_32 (by decide) ?_
      exact wp_iret d_tl_fair_37 rfl ⟨Nat.le_of_ble_eq_true rfl, Nat.le_of_ble_eq_true rfl⟩ ⟨_, rfl, rfl, rfl, h⟩
set_option maxHeartbeats 8000000 in
theorem e_tl_sheet {G : GT} {M : MT} {P : Int → MT → Prop} (v1 : Int) (v2 : Int) (v3 : Int)
    (h : ClI G J_tl_isSheet M [pI v1] (fun x1 M1 => ((x1 = 0 → P (-2) M1) ∧ (¬ x1 = 0 → ClI G J_tl_isForm M1 [pI v2] (fun x3 M2 => ((x3 = 0 → P (-2) M2) ∧ (¬ x3 = 0 → (v3 ≤ 60 → (0 ≤ v3 → (0 ≤ v1 ∧ v1 < 4) ∧ (ClV G J_sh_begin M2 [pR (93 + 2 * v1.toNat), pI v2, pI v3] (fun M3 => (P v3 M3)))) ∧ (v3 < 0 → ClI G J_tl_found M2 [pR 0, pI 5] (fun x7 M3 => (P x7 M3)))) ∧ (60 < v3 → P (-2) M2)))))))) : ClI G J_tl_sheet M [pR 0, pI v1, pI v2, pI v3] P := by
  show Wp G J_tl_sheet 0 0 0 [(0, pR 0), (1, pI v1), (2, pI v2), (3, pI v3)] [] NN RF M _
  refine wp_iload_n d_tl_sheet_0 rfl 1 rfl ?_
  refine wp_callS [pI _] d_tl_sheet_1 jd_tl_isSheet lk_tl_141 rfl (Nat.le_of_ble_eq_true rfl) rfl ?_
  refine clI_k h ?_
  intro x1 M1 h
  refine wp_if_eq 20 d_tl_sheet_4 (by decide) (fun c2 => ?_) (fun c2 => ?_)
  · have h := h.1 c2
    refine wp_bipush d_tl_sheet_20 ⟨by decide, by decide⟩ (by decide) ?_
    exact wp_iret d_tl_sheet_22 rfl ⟨Nat.le_of_ble_eq_true rfl, Nat.le_of_ble_eq_true rfl⟩ ⟨_, rfl, rfl, rfl, h⟩
  · have h := h.2 c2
    refine wp_iload_n d_tl_sheet_7 rfl 2 rfl ?_
    refine wp_callS [pI _] d_tl_sheet_8 jd_tl_isForm lk_tl_255 rfl (Nat.le_of_ble_eq_true rfl) rfl ?_
    refine clI_k h ?_
    intro x3 M2 h
    refine wp_if_eq 20 d_tl_sheet_11 (by decide) (fun c4 => ?_) (fun c4 => ?_)
    · have h := h.1 c4
      refine wp_bipush d_tl_sheet_20 ⟨by decide, by decide⟩ (by decide) ?_
      exact wp_iret d_tl_sheet_22 rfl ⟨Nat.le_of_ble_eq_true rfl, Nat.le_of_ble_eq_true rfl⟩ ⟨_, rfl, rfl, rfl, h⟩
    · have h := h.2 c4
      refine wp_iload_n d_tl_sheet_14 rfl 3 rfl ?_
      refine wp_bipush d_tl_sheet_15 ⟨by decide, by decide⟩ (by decide) ?_
      refine wp_icmp_le 23 d_tl_sheet_17 (by decide) (fun c5 => ?_) (fun c5 => ?_)
      · have h := h.1 c5
        refine wp_iload_n d_tl_sheet_23 rfl 3 rfl ?_
        refine wp_if_ge 33 d_tl_sheet_24 (by decide) (fun c6 => ?_) (fun c6 => ?_)
        · have h := h.1 c6
          refine wp_aload_n d_tl_sheet_33 rfl 0 rfl ?_
          refine wp_getr d_tl_sheet_34 5 s_0 rfl (Nat.le_of_ble_eq_true rfl) (Nat.le_of_ble_eq_true rfl) rfl rfl lk_tl_46 ?_
          refine wp_iload_n d_tl_sheet_37 rfl 1 rfl ?_
          obtain ⟨⟨a7, b7⟩, h⟩ := h
          refine wp_aald (t := 4) d_tl_sheet_38 s_92 rfl (Nat.le_of_ble_eq_true rfl) a7 b7 (k_sheets _ (nat_lt a7 b7)).1 ?_
          refine wp_iload_n d_tl_sheet_39 rfl 2 rfl ?_
          refine wp_iload_n d_tl_sheet_40 rfl 3 rfl ?_
          refine wp_callV [pI _, pI _] _ d_tl_sheet_41 jd_sh_begin lk_tl_258 rfl (k_sheets _ (nat_lt a7 b7)).2.1 rfl (Nat.lt_of_succ_lt (k_sheets _ (nat_lt a7 b7)).2.2.2.2) (Nat.le_of_ble_eq_true rfl) rfl ?_
          refine clV_k h ?_
          intro M3 h
          refine wp_iload_n d_tl_sheet_44 rfl 3 rfl ?_
          exact wp_iret d_tl_sheet_45 rfl ⟨Nat.le_of_ble_eq_true rfl, Nat.le_of_ble_eq_true rfl⟩ ⟨_, rfl, rfl, rfl, h⟩
        · have h := h.2 c6
          refine wp_aload_n d_tl_sheet_27 rfl 0 rfl ?_
          refine wp_iconst d_tl_sheet_28 ⟨by decide, by decide⟩ ?_
          refine wp_callV [pI _] _ d_tl_sheet_29 jd_tl_found lk_tl_148 rfl s_0 rfl (Nat.le_of_ble_eq_true rfl) (Nat.le_of_ble_eq_true rfl) rfl ?_
          refine clI_k h ?_
          intro x7 M3 h
          exact wp_iret d_tl_sheet_32 rfl ⟨Nat.le_of_ble_eq_true rfl, Nat.le_of_ble_eq_true rfl⟩ ⟨_, rfl, rfl, rfl, h⟩
      · have h := h.2 c5
        refine wp_bipush d_tl_sheet_20 ⟨by decide, by decide⟩ (by decide) ?_
        exact wp_iret d_tl_sheet_22 rfl ⟨Nat.le_of_ble_eq_true rfl, Nat.le_of_ble_eq_true rfl⟩ ⟨_, rfl, rfl, rfl, h⟩
set_option maxHeartbeats 8000000 in
theorem e_tl_lose {G : GT} {M : MT} {P : Int → MT → Prop} (v1 : Int)
    (h : ClI G J_tl_isSheet M [pI v1] (fun x1 M1 => ((¬ x1 = 0 → (0 ≤ v1 ∧ v1 < 4) ∧ (ClI G J_sh_isLost M1 [pR (93 + 2 * v1.toNat)] (fun x4 M2 => ((x4 = 0 → ∀ M3 : MT, M3 = mu M2 (93 + 2 * v1.toNat) 1 (-1) → (P (M3 (93 + 2 * v1.toNat) 2) M3)) ∧ (¬ x4 = 0 → ClI G J_tl_found M2 [pR 0, pI 1] (fun x6 M3 => (P x6 M3))))))) ∧ (x1 = 0 → P (-2) M1)))) : ClI G J_tl_lose M [pR 0, pI v1] P := by
  show Wp G J_tl_lose 0 0 0 [(0, pR 0), (1, pI v1)] [] NN RF M _
  refine wp_iload_n d_tl_lose_0 rfl 1 rfl ?_
  refine wp_callS [pI _] d_tl_lose_1 jd_tl_isSheet lk_tl_141 rfl (Nat.le_of_ble_eq_true rfl) rfl ?_
  refine clI_k h ?_
  intro x1 M1 h
  refine wp_if_ne 10 d_tl_lose_4 (by decide) (fun c2 => ?_) (fun c2 => ?_)
  · have h := h.1 c2
    refine wp_aload_n d_tl_lose_10 rfl 0 rfl ?_
    refine wp_getr d_tl_lose_11 5 s_0 rfl (Nat.le_of_ble_eq_true rfl) (Nat.le_of_ble_eq_true rfl) rfl rfl lk_tl_46 ?_
    refine wp_iload_n d_tl_lose_14 rfl 1 rfl ?_
    obtain ⟨⟨a3, b3⟩, h⟩ := h
    refine wp_aald (t := 4) d_tl_lose_15 s_92 rfl (Nat.le_of_ble_eq_true rfl) a3 b3 (k_sheets _ (nat_lt a3 b3)).1 ?_
    refine wp_astore_n (L2 := [(0, pR 0), (1, pI _), (2, pR _)]) d_tl_lose_16 rfl (Nat.le_of_ble_eq_true rfl) [1, 2, 0] rfl ?_
    refine wp_aload_n d_tl_lose_17 rfl 2 rfl ?_
    refine wp_callV [] _ d_tl_lose_18 jd_sh_isLost lk_tl_144 rfl (k_sheets _ (nat_lt a3 b3)).2.1 rfl (Nat.lt_of_succ_lt (k_sheets _ (nat_lt a3 b3)).2.2.2.2) (Nat.le_of_ble_eq_true rfl) rfl ?_
    refine clI_k h ?_
    intro x4 M2 h
    refine wp_if_eq 30 d_tl_lose_21 (by decide) (fun c5 => ?_) (fun c5 => ?_)
    · have h := h.1 c5
      refine wp_aload_n d_tl_lose_30 rfl 2 rfl ?_
      refine wp_iconst d_tl_lose_31 ⟨by decide, by decide⟩ ?_
      refine wp_puti d_tl_lose_32 1 (k_sheets _ (nat_lt a3 b3)).2.1 rfl (Nat.lt_of_succ_lt (k_sheets _ (nat_lt a3 b3)).2.2.2.2) (Nat.le_of_ble_eq_true rfl) (Or.inl rfl) rfl lk_tl_260 ?_
      have h := h _ rfl
      refine wp_aload_n d_tl_lose_35 rfl 2 rfl ?_
      refine wp_geti d_tl_lose_36 2 (k_sheets _ (nat_lt a3 b3)).2.1 rfl (Nat.lt_of_succ_lt (k_sheets _ (nat_lt a3 b3)).2.2.2.2) (Nat.le_of_ble_eq_true rfl) rfl lk_tl_151 ?_
      exact wp_iret d_tl_lose_39 rfl ⟨Nat.le_of_ble_eq_true rfl, Nat.le_of_ble_eq_true rfl⟩ ⟨_, rfl, rfl, rfl, h⟩
    · have h := h.2 c5
      refine wp_aload_n d_tl_lose_24 rfl 0 rfl ?_
      refine wp_iconst d_tl_lose_25 ⟨by decide, by decide⟩ ?_
      refine wp_callV [pI _] _ d_tl_lose_26 jd_tl_found lk_tl_148 rfl s_0 rfl (Nat.le_of_ble_eq_true rfl) (Nat.le_of_ble_eq_true rfl) rfl ?_
      refine clI_k h ?_
      intro x6 M3 h
      exact wp_iret d_tl_lose_29 rfl ⟨Nat.le_of_ble_eq_true rfl, Nat.le_of_ble_eq_true rfl⟩ ⟨_, rfl, rfl, rfl, h⟩
  · have h := h.2 c2
    refine wp_bipush d_tl_lose_7 ⟨by decide, by decide⟩ (by decide) ?_
    exact wp_iret d_tl_lose_9 rfl ⟨Nat.le_of_ble_eq_true rfl, Nat.le_of_ble_eq_true rfl⟩ ⟨_, rfl, rfl, rfl, h⟩
set_option maxHeartbeats 8000000 in
theorem e_tl_lay {G : GT} {M : MT} {P : Int → MT → Prop} (v1 : Int) (v2 : Int) (v3 : Int) (v4 : Int)
    (h : ClI G J_tl_refusalOfItem M [pR 0, pI v1, pI v2, pI v3] (fun x1 M1 => ((x1 = 0 → (0 ≤ v1 ∧ v1 < 4) ∧ (ClV G J_sh_put M1 [pR (93 + 2 * v1.toNat), pI v3, pI v4] (fun M2 => (P 1 M2)))) ∧ (¬ x1 = 0 → P x1 M1)))) : ClI G J_tl_lay M [pR 0, pI v1, pI v2, pI v3, pI v4] P := by
  show Wp G J_tl_lay 0 0 0 [(0, pR 0), (1, pI v1), (2, pI v2), (3, pI v3), (4, pI v4)] [] NN RF M _
  refine wp_aload_n d_tl_lay_0 rfl 0 rfl ?_
  refine wp_iload_n d_tl_lay_1 rfl 1 rfl ?_
  refine wp_iload_n d_tl_lay_2 rfl 2 rfl ?_
  refine wp_iload_n d_tl_lay_3 rfl 3 rfl ?_
  refine wp_callV [pI _, pI _, pI _] _ d_tl_lay_4 jd_tl_refusalOfItem lk_tl_263 rfl s_0 rfl (Nat.le_of_ble_eq_true rfl) (Nat.le_of_ble_eq_true rfl) rfl ?_
  refine clI_k h ?_
  intro x1 M1 h
  refine wp_istore (L2 := [(0, pR 0), (1, pI _), (2, pI _), (3, pI _), (4, pI _), (5, pI _)]) d_tl_lay_7 (Nat.le_of_ble_eq_true rfl) [1, 2, 3, 4, 5, 0] rfl ?_
  refine wp_iload d_tl_lay_9 5 rfl ?_
  refine wp_if_eq 17 d_tl_lay_11 (by decide) (fun c2 => ?_) (fun c2 => ?_)
  · have h := h.1 c2
    refine wp_aload_n d_tl_lay_17 rfl 0 rfl ?_
    refine wp_getr d_tl_lay_18 5 s_0 rfl (Nat.le_of_ble_eq_true rfl) (Nat.le_of_ble_eq_true rfl) rfl rfl lk_tl_46 ?_
    refine wp_iload_n d_tl_lay_21 rfl 1 rfl ?_
    obtain ⟨⟨a3, b3⟩, h⟩ := h
    refine wp_aald (t := 4) d_tl_lay_22 s_92 rfl (Nat.le_of_ble_eq_true rfl) a3 b3 (k_sheets _ (nat_lt a3 b3)).1 ?_
    refine wp_iload_n d_tl_lay_23 rfl 3 rfl ?_
    refine wp_iload d_tl_lay_24 4 rfl ?_
    refine wp_callV [pI _, pI _] _ d_tl_lay_26 jd_sh_put lk_tl_266 rfl (k_sheets _ (nat_lt a3 b3)).2.1 rfl (Nat.lt_of_succ_lt (k_sheets _ (nat_lt a3 b3)).2.2.2.2) (Nat.le_of_ble_eq_true rfl) rfl ?_
    refine clV_k h ?_
    intro M2 h
    refine wp_iconst d_tl_lay_29 ⟨by decide, by decide⟩ ?_
    exact wp_iret d_tl_lay_30 rfl ⟨Nat.le_of_ble_eq_true rfl, Nat.le_of_ble_eq_true rfl⟩ ⟨_, rfl, rfl, rfl, h⟩
  · have h := h.2 c2
    refine wp_iload d_tl_lay_14 5 rfl ?_
    exact wp_iret d_tl_lay_16 rfl ⟨Nat.le_of_ble_eq_true rfl, Nat.le_of_ble_eq_true rfl⟩ ⟨_, rfl, rfl, rfl, h⟩
set_option maxHeartbeats 8000000 in
theorem e_tl_get {G : GT} {M : MT} {P : Int → MT → Prop} (v1 : Int) (v2 : Int) (v3 : Int)
    (h : ClI G J_tl_refusalOfItem M [pR 0, pI v1, pI v2, pI v3] (fun x1 M1 => ((x1 = 0 → (0 ≤ v1 ∧ v1 < 4) ∧ ((0 ≤ v3 ∧ v3 < 60) ∧ (P (M1 ((93 + 2 * v1.toNat) + 1) (v3.toNat)) M1))) ∧ (¬ x1 = 0 → P (-2147483648) M1)))) : ClI G J_tl_get M [pR 0, pI v1, pI v2, pI v3] P := by
  show Wp G J_tl_get 0 0 0 [(0, pR 0), (1, pI v1), (2, pI v2), (3, pI v3)] [] NN RF M _
  refine wp_aload_n d_tl_get_0 rfl 0 rfl ?_
  refine wp_iload_n d_tl_get_1 rfl 1 rfl ?_
  refine wp_iload_n d_tl_get_2 rfl 2 rfl ?_
  refine wp_iload_n d_tl_get_3 rfl 3 rfl ?_
  refine wp_callV [pI _, pI _, pI _] _ d_tl_get_4 jd_tl_refusalOfItem lk_tl_263 rfl s_0 rfl (Nat.le_of_ble_eq_true rfl) (Nat.le_of_ble_eq_true rfl) rfl ?_
  refine clI_k h ?_
  intro x1 M1 h
  refine wp_if_eq 16 d_tl_get_7 (by decide) (fun c2 => ?_) (fun c2 => ?_)
  · have h := h.1 c2
    refine wp_aload_n d_tl_get_16 rfl 0 rfl ?_
    refine wp_getr d_tl_get_17 5 s_0 rfl (Nat.le_of_ble_eq_true rfl) (Nat.le_of_ble_eq_true rfl) rfl rfl lk_tl_46 ?_
    refine wp_iload_n d_tl_get_20 rfl 1 rfl ?_
    obtain ⟨⟨a3, b3⟩, h⟩ := h
    refine wp_aald (t := 4) d_tl_get_21 s_92 rfl (Nat.le_of_ble_eq_true rfl) a3 b3 (k_sheets _ (nat_lt a3 b3)).1 ?_
    refine wp_getr d_tl_get_22 0 (k_sheets _ (nat_lt a3 b3)).2.1 rfl (Nat.lt_of_succ_lt (k_sheets _ (nat_lt a3 b3)).2.2.2.2) (Nat.le_of_ble_eq_true rfl) rfl (k_sheets _ (nat_lt a3 b3)).2.2.2.1 lk_tl_152 ?_
    refine wp_iload_n d_tl_get_25 rfl 3 rfl ?_
    obtain ⟨⟨a4, b4⟩, h⟩ := h
    refine wp_iald d_tl_get_26 (k_sheets _ (nat_lt a3 b3)).2.2.1 (k_sheets _ (nat_lt a3 b3)).2.2.2.2 a4 b4 ?_
    exact wp_iret d_tl_get_27 rfl ⟨Nat.le_of_ble_eq_true rfl, Nat.le_of_ble_eq_true rfl⟩ ⟨_, rfl, rfl, rfl, h⟩
  · have h := h.2 c2
    refine wp_ldcw lk_tl_269 d_tl_get_10 ⟨by decide, by decide⟩ ?_
    refine wp_goto 27 d_tl_get_13 (by decide) ?_
    exact wp_iret d_tl_get_27 rfl ⟨Nat.le_of_ble_eq_true rfl, Nat.le_of_ble_eq_true rfl⟩ ⟨_, rfl, rfl, rfl, h⟩
set_option maxHeartbeats 8000000 in
theorem e_tl_copy {G : GT} {M : MT} {P : Int → MT → Prop} (v1 : Int) (v2 : Int) (v3 : Int) (v4 : Int) (v5 : Int)
    (h : ClI G J_tl_isSheet M [pI v1] (fun x1 M1 => ((x1 = 0 → P (-2) M1) ∧ (¬ x1 = 0 → ClI G J_tl_isSheet M1 [pI v3] (fun x3 M2 => ((¬ x3 = 0 → (0 ≤ v1 ∧ v1 < 4) ∧ ((0 ≤ v3 ∧ v3 < 4) ∧ (ClI G J_sh_isLost M2 [pR (93 + 2 * v1.toNat)] (fun x7 M3 => ((¬ x7 = 0 → ClI G J_tl_found M3 [pR 0, pI 1] (fun x9 M4 => (P x9 M4))) ∧ (x7 = 0 → ClI G J_sh_isLost M3 [pR (93 + 2 * v3.toNat)] (fun x9 M4 => ((x9 = 0 → ((M4 (93 + 2 * v1.toNat) 1) = (M4 (93 + 2 * v3.toNat) 1) → ClI G J_sh_hasSpan M4 [pR (93 + 2 * v1.toNat), pI v2, pI v5] (fun x12 M5 => ((x12 = 0 → ClI G J_tl_found M5 [pR 0, pI 2] (fun x14 M6 => (P x14 M6))) ∧ (¬ x12 = 0 → ClI G J_sh_hasSpan M5 [pR (93 + 2 * v3.toNat), pI v4, pI v5] (fun x14 M6 => ((¬ x14 = 0 → (((0 : Int) ≤ v2 ∧ (0 : Int) ≤ v4 ∧ (0 : Int) ≤ v5) ∧ v2 + v5 ≤ (60 : Int) ∧ v4 + v5 ≤ (60 : Int)) ∧ (∀ M7 : MT, M7 = mcp M6 ((93 + 2 * v1.toNat) + 1) ((93 + 2 * v3.toNat) + 1) v2 v4 v5 → (P 1 M7))) ∧ (x14 = 0 → ClI G J_tl_found M6 [pR 0, pI 2] (fun x16 M7 => (P x16 M7))))))))) ∧ (¬ (M4 (93 + 2 * v1.toNat) 1) = (M4 (93 + 2 * v3.toNat) 1) → ClI G J_tl_found M4 [pR 0, pI 4] (fun x12 M5 => (P x12 M5)))) ∧ (¬ x9 = 0 → ClI G J_tl_found M4 [pR 0, pI 1] (fun x11 M5 => (P x11 M5))))))))))) ∧ (x3 = 0 → P (-2) M2))))))) : ClI G J_tl_copy M [pR 0, pI v1, pI v2, pI v3, pI v4, pI v5] P := by
  show Wp G J_tl_copy 0 0 0 [(0, pR 0), (1, pI v1), (2, pI v2), (3, pI v3), (4, pI v4), (5, pI v5)] [] NN RF M _
  refine wp_iload_n d_tl_copy_0 rfl 1 rfl ?_
  refine wp_callS [pI _] d_tl_copy_1 jd_tl_isSheet lk_tl_141 rfl (Nat.le_of_ble_eq_true rfl) rfl ?_
  refine clI_k h ?_
  intro x1 M1 h
  refine wp_if_eq 14 d_tl_copy_4 (by decide) (fun c2 => ?_) (fun c2 => ?_)
  · have h := h.1 c2
    refine wp_bipush d_tl_copy_14 ⟨by decide, by decide⟩ (by decide) ?_
    exact wp_iret d_tl_copy_16 rfl ⟨Nat.le_of_ble_eq_true rfl, Nat.le_of_ble_eq_true rfl⟩ ⟨_, rfl, rfl, rfl, h⟩
  · have h := h.2 c2
    refine wp_iload_n d_tl_copy_7 rfl 3 rfl ?_
    refine wp_callS [pI _] d_tl_copy_8 jd_tl_isSheet lk_tl_141 rfl (Nat.le_of_ble_eq_true rfl) rfl ?_
    refine clI_k h ?_
    intro x3 M2 h
    refine wp_if_ne 17 d_tl_copy_11 (by decide) (fun c4 => ?_) (fun c4 => ?_)
    · have h := h.1 c4
      refine wp_aload_n d_tl_copy_17 rfl 0 rfl ?_
      refine wp_getr d_tl_copy_18 5 s_0 rfl (Nat.le_of_ble_eq_true rfl) (Nat.le_of_ble_eq_true rfl) rfl rfl lk_tl_46 ?_
      refine wp_iload_n d_tl_copy_21 rfl 1 rfl ?_
      obtain ⟨⟨a5, b5⟩, h⟩ := h
      refine wp_aald (t := 4) d_tl_copy_22 s_92 rfl (Nat.le_of_ble_eq_true rfl) a5 b5 (k_sheets _ (nat_lt a5 b5)).1 ?_
      refine wp_astore (L2 := [(0, pR 0), (1, pI _), (2, pI _), (3, pI _), (4, pI _), (5, pI _), (6, pR _)]) d_tl_copy_23 (Nat.le_of_ble_eq_true rfl) [1, 2, 3, 4, 5, 6, 0] rfl ?_
      refine wp_aload_n d_tl_copy_25 rfl 0 rfl ?_
      refine wp_getr d_tl_copy_26 5 s_0 rfl (Nat.le_of_ble_eq_true rfl) (Nat.le_of_ble_eq_true rfl) rfl rfl lk_tl_46 ?_
      refine wp_iload_n d_tl_copy_29 rfl 3 rfl ?_
      obtain ⟨⟨a6, b6⟩, h⟩ := h
      refine wp_aald (t := 4) d_tl_copy_30 s_92 rfl (Nat.le_of_ble_eq_true rfl) a6 b6 (k_sheets _ (nat_lt a6 b6)).1 ?_
      refine wp_astore (L2 := [(0, pR 0), (1, pI _), (2, pI _), (3, pI _), (4, pI _), (5, pI _), (6, pR _), (7, pR _)]) d_tl_copy_31 (Nat.le_of_ble_eq_true rfl) [1, 2, 3, 4, 5, 6, 7, 0] rfl ?_
      refine wp_aload d_tl_copy_33 6 rfl ?_
      refine wp_callV [] _ d_tl_copy_35 jd_sh_isLost lk_tl_144 rfl (k_sheets _ (nat_lt a5 b5)).2.1 rfl (Nat.lt_of_succ_lt (k_sheets _ (nat_lt a5 b5)).2.2.2.2) (Nat.le_of_ble_eq_true rfl) rfl ?_
      refine clI_k h ?_
      intro x7 M3 h
      refine wp_if_ne 49 d_tl_copy_38 (by decide) (fun c8 => ?_) (fun c8 => ?_)
      · have h := h.1 c8
        refine wp_aload_n d_tl_copy_49 rfl 0 rfl ?_
        refine wp_iconst d_tl_copy_50 ⟨by decide, by decide⟩ ?_
        refine wp_callV [pI _] _ d_tl_copy_51 jd_tl_found lk_tl_148 rfl s_0 rfl (Nat.le_of_ble_eq_true rfl) (Nat.le_of_ble_eq_true rfl) rfl ?_
        refine clI_k h ?_
        intro x9 M4 h
        exact wp_iret d_tl_copy_54 rfl ⟨Nat.le_of_ble_eq_true rfl, Nat.le_of_ble_eq_true rfl⟩ ⟨_, rfl, rfl, rfl, h⟩
      · have h := h.2 c8
        refine wp_aload d_tl_copy_41 7 rfl ?_
        refine wp_callV [] _ d_tl_copy_43 jd_sh_isLost lk_tl_144 rfl (k_sheets _ (nat_lt a6 b6)).2.1 rfl (Nat.lt_of_succ_lt (k_sheets _ (nat_lt a6 b6)).2.2.2.2) (Nat.le_of_ble_eq_true rfl) rfl ?_
        refine clI_k h ?_
        intro x9 M4 h
        refine wp_if_eq 55 d_tl_copy_46 (by decide) (fun c10 => ?_) (fun c10 => ?_)
        · have h := h.1 c10
          refine wp_aload d_tl_copy_55 6 rfl ?_
          refine wp_geti d_tl_copy_57 1 (k_sheets _ (nat_lt a5 b5)).2.1 rfl (Nat.lt_of_succ_lt (k_sheets _ (nat_lt a5 b5)).2.2.2.2) (Nat.le_of_ble_eq_true rfl) rfl lk_tl_260 ?_
          refine wp_aload d_tl_copy_60 7 rfl ?_
          refine wp_geti d_tl_copy_62 1 (k_sheets _ (nat_lt a6 b6)).2.1 rfl (Nat.lt_of_succ_lt (k_sheets _ (nat_lt a6 b6)).2.2.2.2) (Nat.le_of_ble_eq_true rfl) rfl lk_tl_260 ?_
          refine wp_icmp_eq 74 d_tl_copy_65 (by decide) (fun c11 => ?_) (fun c11 => ?_)
          · have h := h.1 c11
            refine wp_aload d_tl_copy_74 6 rfl ?_
            refine wp_iload_n d_tl_copy_76 rfl 2 rfl ?_
            refine wp_iload d_tl_copy_77 5 rfl ?_
            refine wp_callV [pI _, pI _] _ d_tl_copy_79 jd_sh_hasSpan lk_tl_270 rfl (k_sheets _ (nat_lt a5 b5)).2.1 rfl (Nat.lt_of_succ_lt (k_sheets _ (nat_lt a5 b5)).2.2.2.2) (Nat.le_of_ble_eq_true rfl) rfl ?_
            refine clI_k h ?_
            intro x12 M5 h
            refine wp_if_eq 97 d_tl_copy_82 (by decide) (fun c13 => ?_) (fun c13 => ?_)
            · have h := h.1 c13
              refine wp_aload_n d_tl_copy_97 rfl 0 rfl ?_
              refine wp_iconst d_tl_copy_98 ⟨by decide, by decide⟩ ?_
              refine wp_callV [pI _] _ d_tl_copy_99 jd_tl_found lk_tl_148 rfl s_0 rfl (Nat.le_of_ble_eq_true rfl) (Nat.le_of_ble_eq_true rfl) rfl ?_
              refine clI_k h ?_
              intro x14 M6 h
              exact wp_iret d_tl_copy_102 rfl ⟨Nat.le_of_ble_eq_true rfl, Nat.le_of_ble_eq_true rfl⟩ ⟨_, rfl, rfl, rfl, h⟩
            · have h := h.2 c13
              refine wp_aload d_tl_copy_85 7 rfl ?_
              refine wp_iload d_tl_copy_87 4 rfl ?_
              refine wp_iload d_tl_copy_89 5 rfl ?_
              refine wp_callV [pI _, pI _] _ d_tl_copy_91 jd_sh_hasSpan lk_tl_270 rfl (k_sheets _ (nat_lt a6 b6)).2.1 rfl (Nat.lt_of_succ_lt (k_sheets _ (nat_lt a6 b6)).2.2.2.2) (Nat.le_of_ble_eq_true rfl) rfl ?_
              refine clI_k h ?_
              intro x14 M6 h
              refine wp_if_ne 103 d_tl_copy_94 (by decide) (fun c15 => ?_) (fun c15 => ?_)
              · have h := h.1 c15
                refine wp_aload d_tl_copy_103 6 rfl ?_
                refine wp_getr d_tl_copy_105 0 (k_sheets _ (nat_lt a5 b5)).2.1 rfl (Nat.lt_of_succ_lt (k_sheets _ (nat_lt a5 b5)).2.2.2.2) (Nat.le_of_ble_eq_true rfl) rfl (k_sheets _ (nat_lt a5 b5)).2.2.2.1 lk_tl_152 ?_
                refine wp_iload_n d_tl_copy_108 rfl 2 rfl ?_
                refine wp_aload d_tl_copy_109 7 rfl ?_
                refine wp_getr d_tl_copy_111 0 (k_sheets _ (nat_lt a6 b6)).2.1 rfl (Nat.lt_of_succ_lt (k_sheets _ (nat_lt a6 b6)).2.2.2.2) (Nat.le_of_ble_eq_true rfl) rfl (k_sheets _ (nat_lt a6 b6)).2.2.2.1 lk_tl_152 ?_
                refine wp_iload d_tl_copy_114 4 rfl ?_
                refine wp_iload d_tl_copy_116 5 rfl ?_
                obtain ⟨⟨⟨a16, b16, e16⟩, x16, y16⟩, h⟩ := h
                refine wp_copy d_tl_copy_118 lk_tl_273 w_acn w_acs w_acy (k_sheets _ (nat_lt a5 b5)).2.2.1 (k_sheets _ (nat_lt a6 b6)).2.2.1 (k_sheets _ (nat_lt a5 b5)).2.2.2.2 (k_sheets _ (nat_lt a6 b6)).2.2.2.2 a16 b16 e16 x16 y16 (Nat.le_of_ble_eq_true rfl) (Nat.le_of_ble_eq_true rfl) ?_
                have h := h _ rfl
                refine wp_iconst d_tl_copy_121 ⟨by decide, by decide⟩ ?_
                exact wp_iret d_tl_copy_122 rfl ⟨Nat.le_of_ble_eq_true rfl, Nat.le_of_ble_eq_true rfl⟩ ⟨_, rfl, rfl, rfl, h⟩
              · have h := h.2 c15
                refine wp_aload_n d_tl_copy_97 rfl 0 rfl ?_
                refine wp_iconst d_tl_copy_98 ⟨by decide, by decide⟩ ?_
                refine wp_callV [pI _] _ d_tl_copy_99 jd_tl_found lk_tl_148 rfl s_0 rfl (Nat.le_of_ble_eq_true rfl) (Nat.le_of_ble_eq_true rfl) rfl ?_
                refine clI_k h ?_
                intro x16 M7 h
                exact wp_iret d_tl_copy_102 rfl ⟨Nat.le_of_ble_eq_true rfl, Nat.le_of_ble_eq_true rfl⟩ ⟨_, rfl, rfl, rfl, h⟩
          · have h := h.2 c11
            refine wp_aload_n d_tl_copy_68 rfl 0 rfl ?_
            refine wp_iconst d_tl_copy_69 ⟨by decide, by decide⟩ ?_
            refine wp_callV [pI _] _ d_tl_copy_70 jd_tl_found lk_tl_148 rfl s_0 rfl (Nat.le_of_ble_eq_true rfl) (Nat.le_of_ble_eq_true rfl) rfl ?_
            refine clI_k h ?_
            intro x12 M5 h
            exact wp_iret d_tl_copy_73 rfl ⟨Nat.le_of_ble_eq_true rfl, Nat.le_of_ble_eq_true rfl⟩ ⟨_, rfl, rfl, rfl, h⟩
        · have h := h.2 c10
          refine wp_aload_n d_tl_copy_49 rfl 0 rfl ?_
          refine wp_iconst d_tl_copy_50 ⟨by decide, by decide⟩ ?_
          refine wp_callV [pI _] _ d_tl_copy_51 jd_tl_found lk_tl_148 rfl s_0 rfl (Nat.le_of_ble_eq_true rfl) (Nat.le_of_ble_eq_true rfl) rfl ?_
          refine clI_k h ?_
          intro x11 M5 h
          exact wp_iret d_tl_copy_54 rfl ⟨Nat.le_of_ble_eq_true rfl, Nat.le_of_ble_eq_true rfl⟩ ⟨_, rfl, rfl, rfl, h⟩
    · have h := h.2 c4
      refine wp_bipush d_tl_copy_14 ⟨by decide, by decide⟩ (by decide) ?_
      exact wp_iret d_tl_copy_16 rfl ⟨Nat.le_of_ble_eq_true rfl, Nat.le_of_ble_eq_true rfl⟩ ⟨_, rfl, rfl, rfl, h⟩
set_option maxHeartbeats 8000000 in
theorem e_tl_write {G : GT} {M : MT} {P : Int → MT → Prop} (v1 : Int) (v2 : Int) (v3 : Int)
    (h : ClI G J_tl_isYear M [pI v1] (fun x1 M1 => ((x1 = 0 → P (-2) M1) ∧ (¬ x1 = 0 → ClI G J_tl_isTune M1 [pR 0, pI v2] (fun x3 M2 => ((x3 = 0 → P (-2) M2) ∧ (¬ x3 = 0 → ClI G J_tl_isSheet M2 [pI v3] (fun x5 M3 => ((¬ x5 = 0 → (0 ≤ v3 ∧ v3 < 4) ∧ (ClI G J_sh_isLost M3 [pR (93 + 2 * v3.toNat)] (fun x8 M4 => ((x8 = 0 → ClV G J_ye_live M4 [pR 40, pR 1, pI (M4 0 6), pR 84] (fun M5 => (ClI G J_ye_sizeOf M5 [pR 40, pI v1, pI v2] (fun x10 M6 => (WpI G J_tl_write 88 [(0, pR 0), (1, pI v1), (2, pI v2), (4, pR (93 + 2 * v3.toNat)), (5, pI (if x10 < (M5 (93 + 2 * v3.toNat) 2) then x10 else (M5 (93 + 2 * v3.toNat) 2))), (6, pI 0)] [] M6 P))))) ∧ (¬ x8 = 0 → ClI G J_tl_found M4 [pR 0, pI 1] (fun x10 M5 => (P x10 M5))))))) ∧ (x5 = 0 → P (-2) M3)))))))))) : ClI G J_tl_write M [pR 0, pI v1, pI v2, pI v3] P := by
  show Wp G J_tl_write 0 0 0 [(0, pR 0), (1, pI v1), (2, pI v2), (3, pI v3)] [] NN RF M _
  refine wp_iload_n d_tl_write_0 rfl 1 rfl ?_
  refine wp_callS [pI _] d_tl_write_1 jd_tl_isYear lk_tl_115 rfl (Nat.le_of_ble_eq_true rfl) rfl ?_
  refine clI_k h ?_
  intro x1 M1 h
  refine wp_if_eq 22 d_tl_write_4 (by decide) (fun c2 => ?_) (fun c2 => ?_)
  · have h := h.1 c2
    refine wp_bipush d_tl_write_22 ⟨by decide, by decide⟩ (by decide) ?_
    exact wp_iret d_tl_write_24 rfl ⟨Nat.le_of_ble_eq_true rfl, Nat.le_of_ble_eq_true rfl⟩ ⟨_, rfl, rfl, rfl, h⟩
  · have h := h.2 c2
    refine wp_aload_n d_tl_write_7 rfl 0 rfl ?_
    refine wp_iload_n d_tl_write_8 rfl 2 rfl ?_
    refine wp_callV [pI _] _ d_tl_write_9 jd_tl_isTune lk_tl_83 rfl s_0 rfl (Nat.le_of_ble_eq_true rfl) (Nat.le_of_ble_eq_true rfl) rfl ?_
    refine clI_k h ?_
    intro x3 M2 h
    refine wp_if_eq 22 d_tl_write_12 (by decide) (fun c4 => ?_) (fun c4 => ?_)
    · have h := h.1 c4
      refine wp_bipush d_tl_write_22 ⟨by decide, by decide⟩ (by decide) ?_
      exact wp_iret d_tl_write_24 rfl ⟨Nat.le_of_ble_eq_true rfl, Nat.le_of_ble_eq_true rfl⟩ ⟨_, rfl, rfl, rfl, h⟩
    · have h := h.2 c4
      refine wp_iload_n d_tl_write_15 rfl 3 rfl ?_
      refine wp_callS [pI _] d_tl_write_16 jd_tl_isSheet lk_tl_141 rfl (Nat.le_of_ble_eq_true rfl) rfl ?_
      refine clI_k h ?_
      intro x5 M3 h
      refine wp_if_ne 25 d_tl_write_19 (by decide) (fun c6 => ?_) (fun c6 => ?_)
      · have h := h.1 c6
        refine wp_aload_n d_tl_write_25 rfl 0 rfl ?_
        refine wp_getr d_tl_write_26 5 s_0 rfl (Nat.le_of_ble_eq_true rfl) (Nat.le_of_ble_eq_true rfl) rfl rfl lk_tl_46 ?_
        refine wp_iload_n d_tl_write_29 rfl 3 rfl ?_
        obtain ⟨⟨a7, b7⟩, h⟩ := h
        refine wp_aald (t := 4) d_tl_write_30 s_92 rfl (Nat.le_of_ble_eq_true rfl) a7 b7 (k_sheets _ (nat_lt a7 b7)).1 ?_
        refine wp_astore (L2 := [(0, pR 0), (1, pI _), (2, pI _), (3, pI _), (4, pR _)]) d_tl_write_31 (Nat.le_of_ble_eq_true rfl) [1, 2, 3, 4, 0] rfl ?_
        refine wp_aload d_tl_write_33 4 rfl ?_
        refine wp_callV [] _ d_tl_write_35 jd_sh_isLost lk_tl_144 rfl (k_sheets _ (nat_lt a7 b7)).2.1 rfl (Nat.lt_of_succ_lt (k_sheets _ (nat_lt a7 b7)).2.2.2.2) (Nat.le_of_ble_eq_true rfl) rfl ?_
        refine clI_k h ?_
        intro x8 M4 h
        refine wp_if_eq 47 d_tl_write_38 (by decide) (fun c9 => ?_) (fun c9 => ?_)
        · have h := h.1 c9
          refine wp_aload_n d_tl_write_47 rfl 0 rfl ?_
          refine wp_getr d_tl_write_48 1 s_0 rfl (Nat.le_of_ble_eq_true rfl) (Nat.le_of_ble_eq_true rfl) rfl rfl lk_tl_19 ?_
          refine wp_aload_n d_tl_write_51 rfl 0 rfl ?_
          refine wp_getr d_tl_write_52 0 s_0 rfl (Nat.le_of_ble_eq_true rfl) (Nat.le_of_ble_eq_true rfl) rfl rfl lk_tl_10 ?_
          refine wp_aload_n d_tl_write_55 rfl 0 rfl ?_
          refine wp_geti d_tl_write_56 6 s_0 rfl (Nat.le_of_ble_eq_true rfl) (Nat.le_of_ble_eq_true rfl) rfl lk_tl_51 ?_
          refine wp_aload_n d_tl_write_59 rfl 0 rfl ?_
          refine wp_getr d_tl_write_60 3 s_0 rfl (Nat.le_of_ble_eq_true rfl) (Nat.le_of_ble_eq_true rfl) rfl rfl lk_tl_33 ?_
          refine wp_callV [pR _, pI _, pR _] _ d_tl_write_63 jd_ye_live lk_tl_162 rfl s_40 rfl (Nat.le_of_ble_eq_true rfl) (Nat.le_of_ble_eq_true rfl) rfl ?_
          refine clV_k h ?_
          intro M5 h
          refine wp_aload d_tl_write_66 4 rfl ?_
          refine wp_geti d_tl_write_68 2 (k_sheets _ (nat_lt a7 b7)).2.1 rfl (Nat.lt_of_succ_lt (k_sheets _ (nat_lt a7 b7)).2.2.2.2) (Nat.le_of_ble_eq_true rfl) rfl lk_tl_151 ?_
          refine wp_aload_n d_tl_write_71 rfl 0 rfl ?_
          refine wp_getr d_tl_write_72 1 s_0 rfl (Nat.le_of_ble_eq_true rfl) (Nat.le_of_ble_eq_true rfl) rfl rfl lk_tl_19 ?_
          refine wp_iload_n d_tl_write_75 rfl 1 rfl ?_
          refine wp_iload_n d_tl_write_76 rfl 2 rfl ?_
          refine wp_callV [pI _, pI _] _ d_tl_write_77 jd_ye_sizeOf lk_tl_166 rfl s_40 rfl (Nat.le_of_ble_eq_true rfl) (Nat.le_of_ble_eq_true rfl) rfl ?_
          refine clI_k h ?_
          intro x10 M6 h
          refine wp_mmin d_tl_write_80 lk_tl_279 w_mmin w_mi w_mminc ⟨Nat.le_of_ble_eq_true rfl, Nat.le_of_ble_eq_true rfl⟩ (Nat.le_of_ble_eq_true rfl) (Nat.le_of_ble_eq_true rfl) ?_
          refine wp_istore (L2 := [(0, pR 0), (1, pI _), (2, pI _), (3, pI _), (4, pR _), (5, pI _)]) d_tl_write_83 (Nat.le_of_ble_eq_true rfl) [1, 2, 3, 4, 5, 0] rfl ?_
          refine wp_iconst d_tl_write_85 ⟨by decide, by decide⟩ ?_
          refine wp_istore (L2 := [(0, pR 0), (1, pI _), (2, pI _), (3, pI _), (4, pR _), (5, pI _), (6, pI _)]) d_tl_write_86 (Nat.le_of_ble_eq_true rfl) [1, 2, 3, 4, 5, 6, 0] rfl ?_
          refine wp_sub (L2 := [(0, pR 0), (1, pI _), (2, pI _), (4, pR _), (5, pI _), (6, pI _)]) [0, 1, 2, 4, 5, 6] rfl ?_
          exact h
        · have h := h.2 c9
          refine wp_aload_n d_tl_write_41 rfl 0 rfl ?_
          refine wp_iconst d_tl_write_42 ⟨by decide, by decide⟩ ?_
          refine wp_callV [pI _] _ d_tl_write_43 jd_tl_found lk_tl_148 rfl s_0 rfl (Nat.le_of_ble_eq_true rfl) (Nat.le_of_ble_eq_true rfl) rfl ?_
          refine clI_k h ?_
          intro x10 M5 h
          exact wp_iret d_tl_write_46 rfl ⟨Nat.le_of_ble_eq_true rfl, Nat.le_of_ble_eq_true rfl⟩ ⟨_, rfl, rfl, rfl, h⟩
      · have h := h.2 c6
        refine wp_bipush d_tl_write_22 ⟨by decide, by decide⟩ (by decide) ?_
        exact wp_iret d_tl_write_24 rfl ⟨Nat.le_of_ble_eq_true rfl, Nat.le_of_ble_eq_true rfl⟩ ⟨_, rfl, rfl, rfl, h⟩
set_option maxHeartbeats 8000000 in
theorem b_tl_write_88 {G : GT} {M : MT} {P : Int → MT → Prop} (v1 : Int) (v2 : Int) (o4 : Nat) (f4 : SE o4) (v5 : Int) (v6 : Int)
    (h : (v5 ≤ v6 → P v5 M) ∧ (v6 < v5 → ClI G J_ye_noteOf M [pR 40, pI v1, pI v2, pI v6] (fun x2 M1 => (ClV G J_sh_put M1 [pR o4, pI v6, pI x2] (fun M2 => (WpI G J_tl_write 88 [(0, pR 0), (1, pI v1), (2, pI v2), (4, pR o4), (5, pI v5), (6, pI (w32 (v6 + 1)))] [] M2 P)))))) : WpI G J_tl_write 88 [(0, pR 0), (1, pI v1), (2, pI v2), (4, pR o4), (5, pI v5), (6, pI v6)] [] M P := by
  show Wp G J_tl_write 0 0 88 [(0, pR 0), (1, pI v1), (2, pI v2), (4, pR o4), (5, pI v5), (6, pI v6)] [] NN RF M _
  refine wp_iload d_tl_write_88 5 rfl ?_
  refine wp_iload d_tl_write_90 4 rfl ?_
  refine wp_icmp_ge 119 d_tl_write_92 (by decide) (fun c1 => ?_) (fun c1 => ?_)
  · have h := h.1 c1
    refine wp_iload d_tl_write_119 4 rfl ?_
    exact wp_iret d_tl_write_121 rfl ⟨Nat.le_of_ble_eq_true rfl, Nat.le_of_ble_eq_true rfl⟩ ⟨_, rfl, rfl, rfl, h⟩
  · have h := h.2 c1
    refine wp_aload d_tl_write_95 3 rfl ?_
    refine wp_iload d_tl_write_97 5 rfl ?_
    refine wp_aload_n d_tl_write_99 rfl 0 rfl ?_
    refine wp_getr d_tl_write_100 1 s_0 rfl (Nat.le_of_ble_eq_true rfl) (Nat.le_of_ble_eq_true rfl) rfl rfl lk_tl_19 ?_
    refine wp_iload_n d_tl_write_103 rfl 1 rfl ?_
    refine wp_iload_n d_tl_write_104 rfl 2 rfl ?_
    refine wp_iload d_tl_write_105 5 rfl ?_
    refine wp_callV [pI _, pI _, pI _] _ d_tl_write_107 jd_ye_noteOf lk_tl_169 rfl s_40 rfl (Nat.le_of_ble_eq_true rfl) (Nat.le_of_ble_eq_true rfl) rfl ?_
    refine clI_k h ?_
    intro x2 M1 h
    refine wp_callV [pI _, pI _] _ d_tl_write_110 jd_sh_put lk_tl_266 rfl f4.1 rfl (Nat.lt_of_succ_lt f4.2.2.2) (Nat.le_of_ble_eq_true rfl) rfl ?_
    refine clV_k h ?_
    intro M2 h
    refine wp_iinc (L2 := [(0, pR 0), (1, pI _), (2, pI _), (4, pR _), (5, pI _), (6, pI _)]) d_tl_write_113 5 rfl (Nat.le_of_ble_eq_true rfl) [1, 2, 3, 4, 5, 0] rfl ?_
    refine wp_goto 88 d_tl_write_116 (by decide) ?_
    exact h
set_option maxHeartbeats 8000000 in
theorem e_tl_count {G : GT} {M : MT} {P : Int → MT → Prop} (v1 : Int)
    (h : (v1 = 0 → P (M 1 4) M) ∧ (v1 = 1 → P (M 1 5) M) ∧ (v1 = 2 → P (M 6 1) M) ∧ (v1 = 3 → P (M 8 1) M) ∧ (v1 = 4 → P (M 1 6) M) ∧ (v1 = 5 → ClV G J_ye_live M [pR 40, pR 1, pI (M 0 6), pR 84] (fun M1 => (ClI G J_bk_countingLoans M1 [pR 1] (fun x2 M2 => (P x2 M2))))) ∧ (v1 = 6 → P (M 0 6) M) ∧ (v1 = 7 → ClI G J_bk_toldNotes M [pR 1] (fun x2 M1 => (P x2 M1))) ∧ (v1 = 8 → P (M 0 7) M) ∧ ((v1 < 0 ∨ 8 < v1) → P (-2) M)) : ClI G J_tl_count M [pR 0, pI v1] P := by
  show Wp G J_tl_count 0 0 0 [(0, pR 0), (1, pI v1)] [] NN RF M _
  refine wp_iload_n d_tl_count_0 rfl 1 rfl ?_
  by_cases c1_0 : v1 = 0
  · refine wp_tabIn 52 d_tl_count_1 (by omega) (by omega) (by rw [c1_0]; rfl) (by decide) ?_
    have h := h.1 c1_0
    refine wp_aload_n d_tl_count_52 rfl 0 rfl ?_
    refine wp_getr d_tl_count_53 0 s_0 rfl (Nat.le_of_ble_eq_true rfl) (Nat.le_of_ble_eq_true rfl) rfl rfl lk_tl_10 ?_
    refine wp_geti d_tl_count_56 4 s_1 rfl (Nat.le_of_ble_eq_true rfl) (Nat.le_of_ble_eq_true rfl) rfl lk_tl_225 ?_
    exact wp_iret d_tl_count_59 rfl ⟨Nat.le_of_ble_eq_true rfl, Nat.le_of_ble_eq_true rfl⟩ ⟨_, rfl, rfl, rfl, h⟩
  replace h := h.2
  by_cases c1_1 : v1 = 1
  · refine wp_tabIn 60 d_tl_count_1 (by omega) (by omega) (by rw [c1_1]; rfl) (by decide) ?_
    have h := h.1 c1_1
    refine wp_aload_n d_tl_count_60 rfl 0 rfl ?_
    refine wp_getr d_tl_count_61 0 s_0 rfl (Nat.le_of_ble_eq_true rfl) (Nat.le_of_ble_eq_true rfl) rfl rfl lk_tl_10 ?_
    refine wp_geti d_tl_count_64 5 s_1 rfl (Nat.le_of_ble_eq_true rfl) (Nat.le_of_ble_eq_true rfl) rfl lk_tl_284 ?_
    exact wp_iret d_tl_count_67 rfl ⟨Nat.le_of_ble_eq_true rfl, Nat.le_of_ble_eq_true rfl⟩ ⟨_, rfl, rfl, rfl, h⟩
  replace h := h.2
  by_cases c1_2 : v1 = 2
  · refine wp_tabIn 68 d_tl_count_1 (by omega) (by omega) (by rw [c1_2]; rfl) (by decide) ?_
    have h := h.1 c1_2
    refine wp_aload_n d_tl_count_68 rfl 0 rfl ?_
    refine wp_getr d_tl_count_69 0 s_0 rfl (Nat.le_of_ble_eq_true rfl) (Nat.le_of_ble_eq_true rfl) rfl rfl lk_tl_10 ?_
    refine wp_getr d_tl_count_72 0 s_1 rfl (Nat.le_of_ble_eq_true rfl) (Nat.le_of_ble_eq_true rfl) rfl rfl lk_tl_63 ?_
    refine wp_iconst d_tl_count_75 ⟨by decide, by decide⟩ ?_
    refine wp_aald (t := 0) d_tl_count_76 s_2 rfl (Nat.le_of_ble_eq_true rfl) (by decide) (by decide) (r := 6) rfl ?_
    refine wp_geti d_tl_count_77 1 s_6 rfl (Nat.le_of_ble_eq_true rfl) (Nat.le_of_ble_eq_true rfl) rfl lk_tl_67 ?_
    exact wp_iret d_tl_count_80 rfl ⟨Nat.le_of_ble_eq_true rfl, Nat.le_of_ble_eq_true rfl⟩ ⟨_, rfl, rfl, rfl, h⟩
  replace h := h.2
  by_cases c1_3 : v1 = 3
  · refine wp_tabIn 81 d_tl_count_1 (by omega) (by omega) (by rw [c1_3]; rfl) (by decide) ?_
    have h := h.1 c1_3
    refine wp_aload_n d_tl_count_81 rfl 0 rfl ?_
    refine wp_getr d_tl_count_82 0 s_0 rfl (Nat.le_of_ble_eq_true rfl) (Nat.le_of_ble_eq_true rfl) rfl rfl lk_tl_10 ?_
    refine wp_getr d_tl_count_85 0 s_1 rfl (Nat.le_of_ble_eq_true rfl) (Nat.le_of_ble_eq_true rfl) rfl rfl lk_tl_63 ?_
    refine wp_iconst d_tl_count_88 ⟨by decide, by decide⟩ ?_
    refine wp_aald (t := 0) d_tl_count_89 s_2 rfl (Nat.le_of_ble_eq_true rfl) (by decide) (by decide) (r := 8) rfl ?_
    refine wp_geti d_tl_count_90 1 s_8 rfl (Nat.le_of_ble_eq_true rfl) (Nat.le_of_ble_eq_true rfl) rfl lk_tl_67 ?_
    exact wp_iret d_tl_count_93 rfl ⟨Nat.le_of_ble_eq_true rfl, Nat.le_of_ble_eq_true rfl⟩ ⟨_, rfl, rfl, rfl, h⟩
  replace h := h.2
  by_cases c1_4 : v1 = 4
  · refine wp_tabIn 94 d_tl_count_1 (by omega) (by omega) (by rw [c1_4]; rfl) (by decide) ?_
    have h := h.1 c1_4
    refine wp_aload_n d_tl_count_94 rfl 0 rfl ?_
    refine wp_getr d_tl_count_95 0 s_0 rfl (Nat.le_of_ble_eq_true rfl) (Nat.le_of_ble_eq_true rfl) rfl rfl lk_tl_10 ?_
    refine wp_geti d_tl_count_98 6 s_1 rfl (Nat.le_of_ble_eq_true rfl) (Nat.le_of_ble_eq_true rfl) rfl lk_tl_118 ?_
    exact wp_iret d_tl_count_101 rfl ⟨Nat.le_of_ble_eq_true rfl, Nat.le_of_ble_eq_true rfl⟩ ⟨_, rfl, rfl, rfl, h⟩
  replace h := h.2
  by_cases c1_5 : v1 = 5
  · refine wp_tabIn 102 d_tl_count_1 (by omega) (by omega) (by rw [c1_5]; rfl) (by decide) ?_
    have h := h.1 c1_5
    refine wp_aload_n d_tl_count_102 rfl 0 rfl ?_
    refine wp_getr d_tl_count_103 1 s_0 rfl (Nat.le_of_ble_eq_true rfl) (Nat.le_of_ble_eq_true rfl) rfl rfl lk_tl_19 ?_
    refine wp_aload_n d_tl_count_106 rfl 0 rfl ?_
    refine wp_getr d_tl_count_107 0 s_0 rfl (Nat.le_of_ble_eq_true rfl) (Nat.le_of_ble_eq_true rfl) rfl rfl lk_tl_10 ?_
    refine wp_aload_n d_tl_count_110 rfl 0 rfl ?_
    refine wp_geti d_tl_count_111 6 s_0 rfl (Nat.le_of_ble_eq_true rfl) (Nat.le_of_ble_eq_true rfl) rfl lk_tl_51 ?_
    refine wp_aload_n d_tl_count_114 rfl 0 rfl ?_
    refine wp_getr d_tl_count_115 3 s_0 rfl (Nat.le_of_ble_eq_true rfl) (Nat.le_of_ble_eq_true rfl) rfl rfl lk_tl_33 ?_
    refine wp_callV [pR _, pI _, pR _] _ d_tl_count_118 jd_ye_live lk_tl_162 rfl s_40 rfl (Nat.le_of_ble_eq_true rfl) (Nat.le_of_ble_eq_true rfl) rfl ?_
    refine clV_k h ?_
    intro M1 h
    refine wp_aload_n d_tl_count_121 rfl 0 rfl ?_
    refine wp_getr d_tl_count_122 0 s_0 rfl (Nat.le_of_ble_eq_true rfl) (Nat.le_of_ble_eq_true rfl) rfl rfl lk_tl_10 ?_
    refine wp_callV [] _ d_tl_count_125 jd_bk_countingLoans lk_tl_287 rfl s_1 rfl (Nat.le_of_ble_eq_true rfl) (Nat.le_of_ble_eq_true rfl) rfl ?_
    refine clI_k h ?_
    intro x2 M2 h
    exact wp_iret d_tl_count_128 rfl ⟨Nat.le_of_ble_eq_true rfl, Nat.le_of_ble_eq_true rfl⟩ ⟨_, rfl, rfl, rfl, h⟩
  replace h := h.2
  by_cases c1_6 : v1 = 6
  · refine wp_tabIn 129 d_tl_count_1 (by omega) (by omega) (by rw [c1_6]; rfl) (by decide) ?_
    have h := h.1 c1_6
    refine wp_aload_n d_tl_count_129 rfl 0 rfl ?_
    refine wp_geti d_tl_count_130 6 s_0 rfl (Nat.le_of_ble_eq_true rfl) (Nat.le_of_ble_eq_true rfl) rfl lk_tl_51 ?_
    exact wp_iret d_tl_count_133 rfl ⟨Nat.le_of_ble_eq_true rfl, Nat.le_of_ble_eq_true rfl⟩ ⟨_, rfl, rfl, rfl, h⟩
  replace h := h.2
  by_cases c1_7 : v1 = 7
  · refine wp_tabIn 134 d_tl_count_1 (by omega) (by omega) (by rw [c1_7]; rfl) (by decide) ?_
    have h := h.1 c1_7
    refine wp_aload_n d_tl_count_134 rfl 0 rfl ?_
    refine wp_getr d_tl_count_135 0 s_0 rfl (Nat.le_of_ble_eq_true rfl) (Nat.le_of_ble_eq_true rfl) rfl rfl lk_tl_10 ?_
    refine wp_callV [] _ d_tl_count_138 jd_bk_toldNotes lk_tl_290 rfl s_1 rfl (Nat.le_of_ble_eq_true rfl) (Nat.le_of_ble_eq_true rfl) rfl ?_
    refine clI_k h ?_
    intro x2 M1 h
    exact wp_iret d_tl_count_141 rfl ⟨Nat.le_of_ble_eq_true rfl, Nat.le_of_ble_eq_true rfl⟩ ⟨_, rfl, rfl, rfl, h⟩
  replace h := h.2
  by_cases c1_8 : v1 = 8
  · refine wp_tabIn 142 d_tl_count_1 (by omega) (by omega) (by rw [c1_8]; rfl) (by decide) ?_
    have h := h.1 c1_8
    refine wp_aload_n d_tl_count_142 rfl 0 rfl ?_
    refine wp_geti d_tl_count_143 7 s_0 rfl (Nat.le_of_ble_eq_true rfl) (Nat.le_of_ble_eq_true rfl) rfl lk_tl_293 ?_
    exact wp_iret d_tl_count_146 rfl ⟨Nat.le_of_ble_eq_true rfl, Nat.le_of_ble_eq_true rfl⟩ ⟨_, rfl, rfl, rfl, h⟩
  replace h := h.2
  have c1 : v1 < 0 ∨ 8 < v1 := by omega
  refine wp_tabOut 147 d_tl_count_1 c1 (by decide) ?_
  have h := h c1
  refine wp_bipush d_tl_count_147 ⟨by decide, by decide⟩ (by decide) ?_
  exact wp_iret d_tl_count_149 rfl ⟨Nat.le_of_ble_eq_true rfl, Nat.le_of_ble_eq_true rfl⟩ ⟨_, rfl, rfl, rfl, h⟩
set_option maxHeartbeats 8000000 in
theorem e_tl_digest {G : GT} {M : MT} {P : Int → MT → Prop} 
    (h : WpL G J_tl_digest 4 [(0, pR 0), (1, pL 17)] [] M P) : ClL G J_tl_digest M [pR 0] P := by
  show Wp G J_tl_digest 0 0 0 [(0, pR 0)] [] NN RF M _
  refine wp_ldc2 lk_tl_296 d_tl_digest_0 ⟨by decide, by decide⟩ ?_
  refine wp_lstore_n (L2 := [(0, pR 0), (1, pL _)]) d_tl_digest_3 rfl (Nat.le_of_ble_eq_true rfl) [1, 0] rfl ?_
  exact h
set_option maxHeartbeats 8000000 in
theorem b_tl_digest_4 {G : GT} {M : MT} {P : Int → MT → Prop} (v1 : Int)
    (h : WpL G J_tl_digest 6 [(0, pR 0), (1, pL v1), (3, pI 0)] [] M P) : WpL G J_tl_digest 4 [(0, pR 0), (1, pL v1)] [] M P := by
  show Wp G J_tl_digest 0 0 4 [(0, pR 0), (1, pL v1)] [] NN RF M _
  refine wp_iconst d_tl_digest_4 ⟨by decide, by decide⟩ ?_
  refine wp_istore_n (L2 := [(0, pR 0), (1, pL _), (3, pI _)]) d_tl_digest_5 rfl (Nat.le_of_ble_eq_true rfl) [1, 2, 0] rfl ?_
  exact h
set_option maxHeartbeats 8000000 in
theorem b_tl_digest_6 {G : GT} {M : MT} {P : Int → MT → Prop} (v1 : Int) (v3 : Int)
    (h : (8 ≤ v3 → WpL G J_tl_digest 33 [(0, pR 0), (1, pL v1), (3, pI 0)] [] M P) ∧ (v3 < 8 → ClI G J_tl_count M [pR 0, pI v3] (fun x2 M1 => (WpL G J_tl_digest 25 [(0, pR 0), (1, pL (w64 ((w64 (31 * v1)) + x2))), (3, pI v3)] [] M1 P)))) : WpL G J_tl_digest 6 [(0, pR 0), (1, pL v1), (3, pI v3)] [] M P := by
  show Wp G J_tl_digest 0 0 6 [(0, pR 0), (1, pL v1), (3, pI v3)] [] NN RF M _
  refine wp_iload_n d_tl_digest_6 rfl 2 rfl ?_
  refine wp_bipush d_tl_digest_7 ⟨by decide, by decide⟩ (by decide) ?_
  refine wp_icmp_ge 31 d_tl_digest_9 (by decide) (fun c1 => ?_) (fun c1 => ?_)
  · have h := h.1 c1
    refine wp_iconst d_tl_digest_31 ⟨by decide, by decide⟩ ?_
    refine wp_istore_n (L2 := [(0, pR 0), (1, pL _), (3, pI _)]) d_tl_digest_32 rfl (Nat.le_of_ble_eq_true rfl) [1, 2, 0] rfl ?_
    exact h
  · have h := h.2 c1
    refine wp_ldc2 lk_tl_298 d_tl_digest_12 ⟨by decide, by decide⟩ ?_
    refine wp_lload_n d_tl_digest_15 rfl 1 rfl ?_
    refine wp_lmul d_tl_digest_16 ?_
    refine wp_aload_n d_tl_digest_17 rfl 0 rfl ?_
    refine wp_iload_n d_tl_digest_18 rfl 2 rfl ?_
    refine wp_callV [pI _] _ d_tl_digest_19 jd_tl_count lk_tl_300 rfl s_0 rfl (Nat.le_of_ble_eq_true rfl) (Nat.le_of_ble_eq_true rfl) rfl ?_
    refine clI_k h ?_
    intro x2 M1 h
    refine wp_i2l d_tl_digest_22 ?_
    refine wp_ladd d_tl_digest_23 ?_
    refine wp_lstore_n (L2 := [(0, pR 0), (1, pL _), (3, pI _)]) d_tl_digest_24 rfl (Nat.le_of_ble_eq_true rfl) [1, 0, 2] rfl ?_
    exact h
set_option maxHeartbeats 8000000 in
theorem b_tl_digest_33 {G : GT} {M : MT} {P : Int → MT → Prop} (v1 : Int) (v3 : Int)
    (h : (2 ≤ v3 → WpL G J_tl_digest 59 [(0, pR 0), (1, pL v1), (3, pI 0)] [] M P) ∧ (v3 < 2 → ClI G J_tl_fault M [pR 0, pI v3] (fun x2 M1 => (WpL G J_tl_digest 51 [(0, pR 0), (1, pL (w64 ((w64 (31 * v1)) + x2))), (3, pI v3)] [] M1 P)))) : WpL G J_tl_digest 33 [(0, pR 0), (1, pL v1), (3, pI v3)] [] M P := by
  show Wp G J_tl_digest 0 0 33 [(0, pR 0), (1, pL v1), (3, pI v3)] [] NN RF M _
  refine wp_iload_n d_tl_digest_33 rfl 2 rfl ?_
  refine wp_iconst d_tl_digest_34 ⟨by decide, by decide⟩ ?_
  refine wp_icmp_ge 57 d_tl_digest_35 (by decide) (fun c1 => ?_) (fun c1 => ?_)
  · have h := h.1 c1
    refine wp_iconst d_tl_digest_57 ⟨by decide, by decide⟩ ?_
    refine wp_istore_n (L2 := [(0, pR 0), (1, pL _), (3, pI _)]) d_tl_digest_58 rfl (Nat.le_of_ble_eq_true rfl) [1, 2, 0] rfl ?_
    exact h
  · have h := h.2 c1
    refine wp_ldc2 lk_tl_298 d_tl_digest_38 ⟨by decide, by decide⟩ ?_
    refine wp_lload_n d_tl_digest_41 rfl 1 rfl ?_
    refine wp_lmul d_tl_digest_42 ?_
    refine wp_aload_n d_tl_digest_43 rfl 0 rfl ?_
    refine wp_iload_n d_tl_digest_44 rfl 2 rfl ?_
    refine wp_callV [pI _] _ d_tl_digest_45 jd_tl_fault lk_tl_303 rfl s_0 rfl (Nat.le_of_ble_eq_true rfl) (Nat.le_of_ble_eq_true rfl) rfl ?_
    refine clI_k h ?_
    intro x2 M1 h
    refine wp_i2l d_tl_digest_48 ?_
    refine wp_ladd d_tl_digest_49 ?_
    refine wp_lstore_n (L2 := [(0, pR 0), (1, pL _), (3, pI _)]) d_tl_digest_50 rfl (Nat.le_of_ble_eq_true rfl) [1, 0, 2] rfl ?_
    exact h
set_option maxHeartbeats 8000000 in
theorem b_tl_digest_25 {G : GT} {M : MT} {P : Int → MT → Prop} (v1 : Int) (v3 : Int)
    (h : WpL G J_tl_digest 6 [(0, pR 0), (1, pL v1), (3, pI (w32 (v3 + 1)))] [] M P) : WpL G J_tl_digest 25 [(0, pR 0), (1, pL v1), (3, pI v3)] [] M P := by
  show Wp G J_tl_digest 0 0 25 [(0, pR 0), (1, pL v1), (3, pI v3)] [] NN RF M _
  refine wp_iinc (L2 := [(0, pR 0), (1, pL _), (3, pI _)]) d_tl_digest_25 2 rfl (Nat.le_of_ble_eq_true rfl) [1, 2, 0] rfl ?_
  refine wp_goto 6 d_tl_digest_28 (by decide) ?_
  exact h
set_option maxHeartbeats 8000000 in
theorem b_tl_digest_59 {G : GT} {M : MT} {P : Int → MT → Prop} (v1 : Int) (v3 : Int)
    (h : ((M 1 4) ≤ v3 → WpL G J_tl_digest 90 [(0, pR 0), (1, pL v1), (3, pI 0)] [] M P) ∧ (v3 < (M 1 4) → ClL G J_tl_digestAlone M [pR 0, pL v1, pI v3] (fun x2 M1 => (ClL G J_tl_digestTogether M1 [pR 0, pL x2, pI v3] (fun x3 M2 => (WpL G J_tl_digest 82 [(0, pR 0), (1, pL x3), (3, pI v3)] [] M2 P)))))) : WpL G J_tl_digest 59 [(0, pR 0), (1, pL v1), (3, pI v3)] [] M P := by
  show Wp G J_tl_digest 0 0 59 [(0, pR 0), (1, pL v1), (3, pI v3)] [] NN RF M _
  refine wp_iload_n d_tl_digest_59 rfl 2 rfl ?_
  refine wp_aload_n d_tl_digest_60 rfl 0 rfl ?_
  refine wp_getr d_tl_digest_61 0 s_0 rfl (Nat.le_of_ble_eq_true rfl) (Nat.le_of_ble_eq_true rfl) rfl rfl lk_tl_10 ?_
  refine wp_geti d_tl_digest_64 4 s_1 rfl (Nat.le_of_ble_eq_true rfl) (Nat.le_of_ble_eq_true rfl) rfl lk_tl_225 ?_
  refine wp_icmp_ge 88 d_tl_digest_67 (by decide) (fun c1 => ?_) (fun c1 => ?_)
  · have h := h.1 c1
    refine wp_iconst d_tl_digest_88 ⟨by decide, by decide⟩ ?_
    refine wp_istore_n (L2 := [(0, pR 0), (1, pL _), (3, pI _)]) d_tl_digest_89 rfl (Nat.le_of_ble_eq_true rfl) [1, 2, 0] rfl ?_
    exact h
  · have h := h.2 c1
    refine wp_aload_n d_tl_digest_70 rfl 0 rfl ?_
    refine wp_aload_n d_tl_digest_71 rfl 0 rfl ?_
    refine wp_lload_n d_tl_digest_72 rfl 1 rfl ?_
    refine wp_iload_n d_tl_digest_73 rfl 2 rfl ?_
    refine wp_callV [pL _, pI _] _ d_tl_digest_74 jd_tl_digestAlone lk_tl_306 rfl s_0 rfl (Nat.le_of_ble_eq_true rfl) (Nat.le_of_ble_eq_true rfl) rfl ?_
    refine clL_k h ?_
    intro x2 M1 h
    refine wp_iload_n d_tl_digest_77 rfl 2 rfl ?_
    refine wp_callV [pL _, pI _] _ d_tl_digest_78 jd_tl_digestTogether lk_tl_310 rfl s_0 rfl (Nat.le_of_ble_eq_true rfl) (Nat.le_of_ble_eq_true rfl) rfl ?_
    refine clL_k h ?_
    intro x3 M2 h
    refine wp_lstore_n (L2 := [(0, pR 0), (1, pL _), (3, pI _)]) d_tl_digest_81 rfl (Nat.le_of_ble_eq_true rfl) [1, 0, 2] rfl ?_
    exact h
set_option maxHeartbeats 8000000 in
theorem b_tl_digest_51 {G : GT} {M : MT} {P : Int → MT → Prop} (v1 : Int) (v3 : Int)
    (h : WpL G J_tl_digest 33 [(0, pR 0), (1, pL v1), (3, pI (w32 (v3 + 1)))] [] M P) : WpL G J_tl_digest 51 [(0, pR 0), (1, pL v1), (3, pI v3)] [] M P := by
  show Wp G J_tl_digest 0 0 51 [(0, pR 0), (1, pL v1), (3, pI v3)] [] NN RF M _
  refine wp_iinc (L2 := [(0, pR 0), (1, pL _), (3, pI _)]) d_tl_digest_51 2 rfl (Nat.le_of_ble_eq_true rfl) [1, 2, 0] rfl ?_
  refine wp_goto 33 d_tl_digest_54 (by decide) ?_
  exact h
set_option maxHeartbeats 8000000 in
theorem b_tl_digest_90 {G : GT} {M : MT} {P : Int → MT → Prop} (v1 : Int) (v3 : Int)
    (h : ((M 1 5) ≤ v3 → WpL G J_tl_digest 139 [(0, pR 0), (1, pL v1), (3, pI 0)] [] M P) ∧ (v3 < (M 1 5) → WpL G J_tl_digest 104 [(0, pR 0), (1, pL v1), (3, pI v3), (4, pI 0)] [] M P)) : WpL G J_tl_digest 90 [(0, pR 0), (1, pL v1), (3, pI v3)] [] M P := by
  show Wp G J_tl_digest 0 0 90 [(0, pR 0), (1, pL v1), (3, pI v3)] [] NN RF M _
  refine wp_iload_n d_tl_digest_90 rfl 2 rfl ?_
  refine wp_aload_n d_tl_digest_91 rfl 0 rfl ?_
  refine wp_getr d_tl_digest_92 0 s_0 rfl (Nat.le_of_ble_eq_true rfl) (Nat.le_of_ble_eq_true rfl) rfl rfl lk_tl_10 ?_
  refine wp_geti d_tl_digest_95 5 s_1 rfl (Nat.le_of_ble_eq_true rfl) (Nat.le_of_ble_eq_true rfl) rfl lk_tl_284 ?_
  refine wp_icmp_ge 137 d_tl_digest_98 (by decide) (fun c1 => ?_) (fun c1 => ?_)
  · have h := h.1 c1
    refine wp_iconst d_tl_digest_137 ⟨by decide, by decide⟩ ?_
    refine wp_istore_n (L2 := [(0, pR 0), (1, pL _), (3, pI _)]) d_tl_digest_138 rfl (Nat.le_of_ble_eq_true rfl) [1, 2, 0] rfl ?_
    exact h
  · have h := h.2 c1
    refine wp_iconst d_tl_digest_101 ⟨by decide, by decide⟩ ?_
    refine wp_istore (L2 := [(0, pR 0), (1, pL _), (3, pI _), (4, pI _)]) d_tl_digest_102 (Nat.le_of_ble_eq_true rfl) [1, 2, 3, 0] rfl ?_
    exact h
set_option maxHeartbeats 8000000 in
theorem b_tl_digest_82 {G : GT} {M : MT} {P : Int → MT → Prop} (v1 : Int) (v3 : Int)
    (h : WpL G J_tl_digest 59 [(0, pR 0), (1, pL v1), (3, pI (w32 (v3 + 1)))] [] M P) : WpL G J_tl_digest 82 [(0, pR 0), (1, pL v1), (3, pI v3)] [] M P := by
  show Wp G J_tl_digest 0 0 82 [(0, pR 0), (1, pL v1), (3, pI v3)] [] NN RF M _
  refine wp_iinc (L2 := [(0, pR 0), (1, pL _), (3, pI _)]) d_tl_digest_82 2 rfl (Nat.le_of_ble_eq_true rfl) [1, 2, 0] rfl ?_
  refine wp_goto 59 d_tl_digest_85 (by decide) ?_
  exact h
set_option maxHeartbeats 8000000 in
theorem b_tl_digest_139 {G : GT} {M : MT} {P : Int → MT → Prop} (v1 : Int) (v3 : Int)
    (h : ((M 1 6) ≤ v3 → ClI G J_tl_interest M [pR 0, pI 0] (fun x2 M1 => (WpL G J_tl_digest 199 [(0, pR 0), (1, pL (w64 ((w64 (31 * v1)) + x2)))] [] M1 P))) ∧ (v3 < (M 1 6) → WpL G J_tl_digest 153 [(0, pR 0), (1, pL v1), (3, pI v3), (4, pI 0)] [] M P)) : WpL G J_tl_digest 139 [(0, pR 0), (1, pL v1), (3, pI v3)] [] M P := by
  show Wp G J_tl_digest 0 0 139 [(0, pR 0), (1, pL v1), (3, pI v3)] [] NN RF M _
  refine wp_iload_n d_tl_digest_139 rfl 2 rfl ?_
  refine wp_aload_n d_tl_digest_140 rfl 0 rfl ?_
  refine wp_getr d_tl_digest_141 0 s_0 rfl (Nat.le_of_ble_eq_true rfl) (Nat.le_of_ble_eq_true rfl) rfl rfl lk_tl_10 ?_
  refine wp_geti d_tl_digest_144 6 s_1 rfl (Nat.le_of_ble_eq_true rfl) (Nat.le_of_ble_eq_true rfl) rfl lk_tl_118 ?_
  refine wp_icmp_ge 186 d_tl_digest_147 (by decide) (fun c1 => ?_) (fun c1 => ?_)
  · have h := h.1 c1
    refine wp_ldc2 lk_tl_298 d_tl_digest_186 ⟨by decide, by decide⟩ ?_
    refine wp_lload_n d_tl_digest_189 rfl 1 rfl ?_
    refine wp_lmul d_tl_digest_190 ?_
    refine wp_aload_n d_tl_digest_191 rfl 0 rfl ?_
    refine wp_iconst d_tl_digest_192 ⟨by decide, by decide⟩ ?_
    refine wp_callV [pI _] _ d_tl_digest_193 jd_tl_interest lk_tl_318 rfl s_0 rfl (Nat.le_of_ble_eq_true rfl) (Nat.le_of_ble_eq_true rfl) rfl ?_
    refine clI_k h ?_
    intro x2 M1 h
    refine wp_i2l d_tl_digest_196 ?_
    refine wp_ladd d_tl_digest_197 ?_
    refine wp_lstore_n (L2 := [(0, pR 0), (1, pL _), (3, pI _)]) d_tl_digest_198 rfl (Nat.le_of_ble_eq_true rfl) [1, 0, 2] rfl ?_
    refine wp_sub (L2 := [(0, pR 0), (1, pL _)]) [0, 1] rfl ?_
    exact h
  · have h := h.2 c1
    refine wp_iconst d_tl_digest_150 ⟨by decide, by decide⟩ ?_
    refine wp_istore (L2 := [(0, pR 0), (1, pL _), (3, pI _), (4, pI _)]) d_tl_digest_151 (Nat.le_of_ble_eq_true rfl) [1, 2, 3, 0] rfl ?_
    exact h
set_option maxHeartbeats 8000000 in
theorem b_tl_digest_104 {G : GT} {M : MT} {P : Int → MT → Prop} (v1 : Int) (v3 : Int) (v4 : Int)
    (h : (3 ≤ v4 → WpL G J_tl_digest 90 [(0, pR 0), (1, pL v1), (3, pI (w32 (v3 + 1)))] [] M P) ∧ (v4 < 3 → ClI G J_tl_borrower M [pR 0, pI v3, pI v4] (fun x2 M1 => (WpL G J_tl_digest 125 [(0, pR 0), (1, pL (w64 ((w64 (31 * v1)) + x2))), (3, pI v3), (4, pI v4)] [] M1 P)))) : WpL G J_tl_digest 104 [(0, pR 0), (1, pL v1), (3, pI v3), (4, pI v4)] [] M P := by
  show Wp G J_tl_digest 0 0 104 [(0, pR 0), (1, pL v1), (3, pI v3), (4, pI v4)] [] NN RF M _
  refine wp_iload d_tl_digest_104 3 rfl ?_
  refine wp_iconst d_tl_digest_106 ⟨by decide, by decide⟩ ?_
  refine wp_icmp_ge 131 d_tl_digest_107 (by decide) (fun c1 => ?_) (fun c1 => ?_)
  · have h := h.1 c1
    refine wp_iinc (L2 := [(0, pR 0), (1, pL _), (3, pI _), (4, pI _)]) d_tl_digest_131 2 rfl (Nat.le_of_ble_eq_true rfl) [1, 2, 0, 3] rfl ?_
    refine wp_goto 90 d_tl_digest_134 (by decide) ?_
    refine wp_sub (L2 := [(0, pR 0), (1, pL _), (3, pI _)]) [0, 1, 2] rfl ?_
    exact h
  · have h := h.2 c1
    refine wp_ldc2 lk_tl_298 d_tl_digest_110 ⟨by decide, by decide⟩ ?_
    refine wp_lload_n d_tl_digest_113 rfl 1 rfl ?_
    refine wp_lmul d_tl_digest_114 ?_
    refine wp_aload_n d_tl_digest_115 rfl 0 rfl ?_
    refine wp_iload_n d_tl_digest_116 rfl 2 rfl ?_
    refine wp_iload d_tl_digest_117 3 rfl ?_
    refine wp_callV [pI _, pI _] _ d_tl_digest_119 jd_tl_borrower lk_tl_313 rfl s_0 rfl (Nat.le_of_ble_eq_true rfl) (Nat.le_of_ble_eq_true rfl) rfl ?_
    refine clI_k h ?_
    intro x2 M1 h
    refine wp_i2l d_tl_digest_122 ?_
    refine wp_ladd d_tl_digest_123 ?_
    refine wp_lstore_n (L2 := [(0, pR 0), (1, pL _), (3, pI _), (4, pI _)]) d_tl_digest_124 rfl (Nat.le_of_ble_eq_true rfl) [1, 0, 2, 3] rfl ?_
    exact h
set_option maxHeartbeats 8000000 in
theorem b_tl_digest_199 {G : GT} {M : MT} {P : Int → MT → Prop} (v1 : Int)
    (h : ClI G J_tl_interest M [pR 0, pI 9] (fun x1 M1 => (WpL G J_tl_digest 213 [(0, pR 0), (1, pL (w64 ((w64 (31 * v1)) + x1)))] [] M1 P))) : WpL G J_tl_digest 199 [(0, pR 0), (1, pL v1)] [] M P := by
  show Wp G J_tl_digest 0 0 199 [(0, pR 0), (1, pL v1)] [] NN RF M _
  refine wp_ldc2 lk_tl_298 d_tl_digest_199 ⟨by decide, by decide⟩ ?_
  refine wp_lload_n d_tl_digest_202 rfl 1 rfl ?_
  refine wp_lmul d_tl_digest_203 ?_
  refine wp_aload_n d_tl_digest_204 rfl 0 rfl ?_
  refine wp_bipush d_tl_digest_205 ⟨by decide, by decide⟩ (by decide) ?_
  refine wp_callV [pI _] _ d_tl_digest_207 jd_tl_interest lk_tl_318 rfl s_0 rfl (Nat.le_of_ble_eq_true rfl) (Nat.le_of_ble_eq_true rfl) rfl ?_
  refine clI_k h ?_
  intro x1 M1 h
  refine wp_i2l d_tl_digest_210 ?_
  refine wp_ladd d_tl_digest_211 ?_
  refine wp_lstore_n (L2 := [(0, pR 0), (1, pL _)]) d_tl_digest_212 rfl (Nat.le_of_ble_eq_true rfl) [1, 0] rfl ?_
  exact h
set_option maxHeartbeats 8000000 in
theorem b_tl_digest_153 {G : GT} {M : MT} {P : Int → MT → Prop} (v1 : Int) (v3 : Int) (v4 : Int)
    (h : (3 ≤ v4 → WpL G J_tl_digest 139 [(0, pR 0), (1, pL v1), (3, pI (w32 (v3 + 1)))] [] M P) ∧ (v4 < 3 → ClI G J_tl_came M [pR 0, pI v3, pI v4] (fun x2 M1 => (WpL G J_tl_digest 174 [(0, pR 0), (1, pL (w64 ((w64 (31 * v1)) + x2))), (3, pI v3), (4, pI v4)] [] M1 P)))) : WpL G J_tl_digest 153 [(0, pR 0), (1, pL v1), (3, pI v3), (4, pI v4)] [] M P := by
  show Wp G J_tl_digest 0 0 153 [(0, pR 0), (1, pL v1), (3, pI v3), (4, pI v4)] [] NN RF M _
  refine wp_iload d_tl_digest_153 3 rfl ?_
  refine wp_iconst d_tl_digest_155 ⟨by decide, by decide⟩ ?_
  refine wp_icmp_ge 180 d_tl_digest_156 (by decide) (fun c1 => ?_) (fun c1 => ?_)
  · have h := h.1 c1
    refine wp_iinc (L2 := [(0, pR 0), (1, pL _), (3, pI _), (4, pI _)]) d_tl_digest_180 2 rfl (Nat.le_of_ble_eq_true rfl) [1, 2, 0, 3] rfl ?_
    refine wp_goto 139 d_tl_digest_183 (by decide) ?_
    refine wp_sub (L2 := [(0, pR 0), (1, pL _), (3, pI _)]) [0, 1, 2] rfl ?_
    exact h
  · have h := h.2 c1
    refine wp_ldc2 lk_tl_298 d_tl_digest_159 ⟨by decide, by decide⟩ ?_
    refine wp_lload_n d_tl_digest_162 rfl 1 rfl ?_
    refine wp_lmul d_tl_digest_163 ?_
    refine wp_aload_n d_tl_digest_164 rfl 0 rfl ?_
    refine wp_iload_n d_tl_digest_165 rfl 2 rfl ?_
    refine wp_iload d_tl_digest_166 3 rfl ?_
    refine wp_callV [pI _, pI _] _ d_tl_digest_168 jd_tl_came lk_tl_315 rfl s_0 rfl (Nat.le_of_ble_eq_true rfl) (Nat.le_of_ble_eq_true rfl) rfl ?_
    refine clI_k h ?_
    intro x2 M1 h
    refine wp_i2l d_tl_digest_171 ?_
    refine wp_ladd d_tl_digest_172 ?_
    refine wp_lstore_n (L2 := [(0, pR 0), (1, pL _), (3, pI _), (4, pI _)]) d_tl_digest_173 rfl (Nat.le_of_ble_eq_true rfl) [1, 0, 2, 3] rfl ?_
    exact h
set_option maxHeartbeats 8000000 in
theorem b_tl_digest_125 {G : GT} {M : MT} {P : Int → MT → Prop} (v1 : Int) (v3 : Int) (v4 : Int)
    (h : WpL G J_tl_digest 104 [(0, pR 0), (1, pL v1), (3, pI v3), (4, pI (w32 (v4 + 1)))] [] M P) : WpL G J_tl_digest 125 [(0, pR 0), (1, pL v1), (3, pI v3), (4, pI v4)] [] M P := by
  show Wp G J_tl_digest 0 0 125 [(0, pR 0), (1, pL v1), (3, pI v3), (4, pI v4)] [] NN RF M _
  refine wp_iinc (L2 := [(0, pR 0), (1, pL _), (3, pI _), (4, pI _)]) d_tl_digest_125 3 rfl (Nat.le_of_ble_eq_true rfl) [1, 2, 3, 0] rfl ?_
  refine wp_goto 104 d_tl_digest_128 (by decide) ?_
  exact h
set_option maxHeartbeats 8000000 in
theorem b_tl_digest_213 {G : GT} {M : MT} {P : Int → MT → Prop} (v1 : Int)
    (h : ClI G J_tl_interest M [pR 0, pI 39] (fun x1 M1 => (WpL G J_tl_digest 227 [(0, pR 0), (1, pL (w64 ((w64 (31 * v1)) + x1)))] [] M1 P))) : WpL G J_tl_digest 213 [(0, pR 0), (1, pL v1)] [] M P := by
  show Wp G J_tl_digest 0 0 213 [(0, pR 0), (1, pL v1)] [] NN RF M _
  refine wp_ldc2 lk_tl_298 d_tl_digest_213 ⟨by decide, by decide⟩ ?_
  refine wp_lload_n d_tl_digest_216 rfl 1 rfl ?_
  refine wp_lmul d_tl_digest_217 ?_
  refine wp_aload_n d_tl_digest_218 rfl 0 rfl ?_
  refine wp_bipush d_tl_digest_219 ⟨by decide, by decide⟩ (by decide) ?_
  refine wp_callV [pI _] _ d_tl_digest_221 jd_tl_interest lk_tl_318 rfl s_0 rfl (Nat.le_of_ble_eq_true rfl) (Nat.le_of_ble_eq_true rfl) rfl ?_
  refine clI_k h ?_
  intro x1 M1 h
  refine wp_i2l d_tl_digest_224 ?_
  refine wp_ladd d_tl_digest_225 ?_
  refine wp_lstore_n (L2 := [(0, pR 0), (1, pL _)]) d_tl_digest_226 rfl (Nat.le_of_ble_eq_true rfl) [1, 0] rfl ?_
  exact h
set_option maxHeartbeats 8000000 in
theorem b_tl_digest_174 {G : GT} {M : MT} {P : Int → MT → Prop} (v1 : Int) (v3 : Int) (v4 : Int)
    (h : WpL G J_tl_digest 153 [(0, pR 0), (1, pL v1), (3, pI v3), (4, pI (w32 (v4 + 1)))] [] M P) : WpL G J_tl_digest 174 [(0, pR 0), (1, pL v1), (3, pI v3), (4, pI v4)] [] M P := by
  show Wp G J_tl_digest 0 0 174 [(0, pR 0), (1, pL v1), (3, pI v3), (4, pI v4)] [] NN RF M _
  refine wp_iinc (L2 := [(0, pR 0), (1, pL _), (3, pI _), (4, pI _)]) d_tl_digest_174 3 rfl (Nat.le_of_ble_eq_true rfl) [1, 2, 3, 0] rfl ?_
  refine wp_goto 153 d_tl_digest_177 (by decide) ?_
  exact h
set_option maxHeartbeats 8000000 in
theorem b_tl_digest_227 {G : GT} {M : MT} {P : Int → MT → Prop} (v1 : Int)
    (h : ClI G J_tl_home M [pR 0, pI 3] (fun x1 M1 => (WpL G J_tl_digest 240 [(0, pR 0), (1, pL (w64 ((w64 (31 * v1)) + x1)))] [] M1 P))) : WpL G J_tl_digest 227 [(0, pR 0), (1, pL v1)] [] M P := by
  show Wp G J_tl_digest 0 0 227 [(0, pR 0), (1, pL v1)] [] NN RF M _
  refine wp_ldc2 lk_tl_298 d_tl_digest_227 ⟨by decide, by decide⟩ ?_
  refine wp_lload_n d_tl_digest_230 rfl 1 rfl ?_
  refine wp_lmul d_tl_digest_231 ?_
  refine wp_aload_n d_tl_digest_232 rfl 0 rfl ?_
  refine wp_iconst d_tl_digest_233 ⟨by decide, by decide⟩ ?_
  refine wp_callV [pI _] _ d_tl_digest_234 jd_tl_home lk_tl_321 rfl s_0 rfl (Nat.le_of_ble_eq_true rfl) (Nat.le_of_ble_eq_true rfl) rfl ?_
  refine clI_k h ?_
  intro x1 M1 h
  refine wp_i2l d_tl_digest_237 ?_
  refine wp_ladd d_tl_digest_238 ?_
  refine wp_lstore_n (L2 := [(0, pR 0), (1, pL _)]) d_tl_digest_239 rfl (Nat.le_of_ble_eq_true rfl) [1, 0] rfl ?_
  exact h
set_option maxHeartbeats 8000000 in
theorem b_tl_digest_240 {G : GT} {M : MT} {P : Int → MT → Prop} (v1 : Int)
    (h : ClI G J_tl_loses M [pR 0, pI 9] (fun x1 M1 => (WpL G J_tl_digest 254 [(0, pR 0), (1, pL (w64 ((w64 (31 * v1)) + x1)))] [] M1 P))) : WpL G J_tl_digest 240 [(0, pR 0), (1, pL v1)] [] M P := by
  show Wp G J_tl_digest 0 0 240 [(0, pR 0), (1, pL v1)] [] NN RF M _
  refine wp_ldc2 lk_tl_298 d_tl_digest_240 ⟨by decide, by decide⟩ ?_
  refine wp_lload_n d_tl_digest_243 rfl 1 rfl ?_
  refine wp_lmul d_tl_digest_244 ?_
  refine wp_aload_n d_tl_digest_245 rfl 0 rfl ?_
  refine wp_bipush d_tl_digest_246 ⟨by decide, by decide⟩ (by decide) ?_
  refine wp_callV [pI _] _ d_tl_digest_248 jd_tl_loses lk_tl_324 rfl s_0 rfl (Nat.le_of_ble_eq_true rfl) (Nat.le_of_ble_eq_true rfl) rfl ?_
  refine clI_k h ?_
  intro x1 M1 h
  refine wp_i2l d_tl_digest_251 ?_
  refine wp_ladd d_tl_digest_252 ?_
  refine wp_lstore_n (L2 := [(0, pR 0), (1, pL _)]) d_tl_digest_253 rfl (Nat.le_of_ble_eq_true rfl) [1, 0] rfl ?_
  exact h
set_option maxHeartbeats 8000000 in
theorem b_tl_digest_254 {G : GT} {M : MT} {P : Int → MT → Prop} (v1 : Int)
    (h : ClI G J_tl_best M [pR 0, pI 1] (fun x1 M1 => (P (w64 ((w64 (31 * v1)) + x1)) M1))) : WpL G J_tl_digest 254 [(0, pR 0), (1, pL v1)] [] M P := by
  show Wp G J_tl_digest 0 0 254 [(0, pR 0), (1, pL v1)] [] NN RF M _
  refine wp_ldc2 lk_tl_298 d_tl_digest_254 ⟨by decide, by decide⟩ ?_
  refine wp_lload_n d_tl_digest_257 rfl 1 rfl ?_
  refine wp_lmul d_tl_digest_258 ?_
  refine wp_aload_n d_tl_digest_259 rfl 0 rfl ?_
  refine wp_iconst d_tl_digest_260 ⟨by decide, by decide⟩ ?_
  refine wp_callV [pI _] _ d_tl_digest_261 jd_tl_best lk_tl_327 rfl s_0 rfl (Nat.le_of_ble_eq_true rfl) (Nat.le_of_ble_eq_true rfl) rfl ?_
  refine clI_k h ?_
  intro x1 M1 h
  refine wp_i2l d_tl_digest_264 ?_
  refine wp_ladd d_tl_digest_265 ?_
  exact wp_lret d_tl_digest_266 rfl ⟨Nat.le_of_ble_eq_true rfl, Nat.le_of_ble_eq_true rfl⟩ ⟨_, rfl, rfl, rfl, h⟩
