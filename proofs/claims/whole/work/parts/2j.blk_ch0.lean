set_option maxHeartbeats 8000000 in
theorem e_ch_weigh {G : GT} {M : MT} {P : MT → Prop} (v1 : Int) (v2 : Int)
    (h : WpV G J_ch_weigh 2 [(0, pR 86), (1, pI v1), (2, pI v2), (3, pI 0)] [] M P) : ClV G J_ch_weigh M [pR 86, pI v1, pI v2] P := by
  show Wp G J_ch_weigh 0 0 0 [(0, pR 86), (1, pI v1), (2, pI v2)] [] NN RF M _
  refine wp_iconst d_ch_weigh_0 ⟨by decide, by decide⟩ ?_
  refine wp_istore_n (L2 := [(0, pR 86), (1, pI _), (2, pI _), (3, pI _)]) d_ch_weigh_1 rfl (Nat.le_of_ble_eq_true rfl) [1, 2, 3, 0] rfl ?_
  exact h
set_option maxHeartbeats 8000000 in
theorem b_ch_weigh_2 {G : GT} {M : MT} {P : MT → Prop} (v1 : Int) (v2 : Int) (v3 : Int)
    (h : (9 < v3 → WpV G J_ch_weigh 31 [(0, pR 86), (1, pI v1), (2, pI v2), (3, pI 0)] [] M P) ∧ (v3 ≤ 9 → (¬ v3 = 0 → (0 ≤ v3 ∧ v3 < 10) ∧ (∀ M1 : MT, M1 = mu M 91 (v3.toNat) 0 → (WpV G J_ch_weigh 2 [(0, pR 86), (1, pI v1), (2, pI v2), (3, pI (w32 (v3 + 1)))] [] M1 P))) ∧ (v3 = 0 → (0 ≤ v3 ∧ v3 < 10) ∧ (∀ M1 : MT, M1 = mu M 91 (v3.toNat) 1 → (WpV G J_ch_weigh 2 [(0, pR 86), (1, pI v1), (2, pI v2), (3, pI (w32 (v3 + 1)))] [] M1 P))))) : WpV G J_ch_weigh 2 [(0, pR 86), (1, pI v1), (2, pI v2), (3, pI v3)] [] M P := by
  show Wp G J_ch_weigh 0 0 2 [(0, pR 86), (1, pI v1), (2, pI v2), (3, pI v3)] [] NN RF M _
  refine wp_iload_n d_ch_weigh_2 rfl 3 rfl ?_
  refine wp_bipush d_ch_weigh_3 ⟨by decide, by decide⟩ (by decide) ?_
  refine wp_icmp_gt 29 d_ch_weigh_5 (by decide) (fun c1 => ?_) (fun c1 => ?_)
  · have h := h.1 c1
    refine wp_iconst d_ch_weigh_29 ⟨by decide, by decide⟩ ?_
    refine wp_istore_n (L2 := [(0, pR 86), (1, pI _), (2, pI _), (3, pI _)]) d_ch_weigh_30 rfl (Nat.le_of_ble_eq_true rfl) [1, 2, 3, 0] rfl ?_
    exact h
  · have h := h.2 c1
    refine wp_aload_n d_ch_weigh_8 rfl 0 rfl ?_
    refine wp_getr d_ch_weigh_9 2 s_86 rfl (Nat.le_of_ble_eq_true rfl) (Nat.le_of_ble_eq_true rfl) rfl rfl lk_ch_21 ?_
    refine wp_iload_n d_ch_weigh_12 rfl 3 rfl ?_
    refine wp_iload_n d_ch_weigh_13 rfl 3 rfl ?_
    refine wp_if_ne 21 d_ch_weigh_14 (by decide) (fun c2 => ?_) (fun c2 => ?_)
    · have h := h.1 c2
      refine wp_lconst (v := 0) d_ch_weigh_21 rfl ?_
      obtain ⟨⟨a3, b3⟩, h⟩ := h
      refine wp_last d_ch_weigh_22 s_91 (Nat.le_of_ble_eq_true rfl) a3 b3 ?_
      have h := h _ rfl
      refine wp_iinc (L2 := [(0, pR 86), (1, pI _), (2, pI _), (3, pI _)]) d_ch_weigh_23 3 rfl (Nat.le_of_ble_eq_true rfl) [1, 2, 3, 0] rfl ?_
      refine wp_goto 2 d_ch_weigh_26 (by decide) ?_
      exact h
    · have h := h.2 c2
      refine wp_lconst (v := 1) d_ch_weigh_17 rfl ?_
      refine wp_goto 22 d_ch_weigh_18 (by decide) ?_
      obtain ⟨⟨a3, b3⟩, h⟩ := h
      refine wp_last d_ch_weigh_22 s_91 (Nat.le_of_ble_eq_true rfl) a3 b3 ?_
      have h := h _ rfl
      refine wp_iinc (L2 := [(0, pR 86), (1, pI _), (2, pI _), (3, pI _)]) d_ch_weigh_23 3 rfl (Nat.le_of_ble_eq_true rfl) [1, 2, 3, 0] rfl ?_
      refine wp_goto 2 d_ch_weigh_26 (by decide) ?_
      exact h
set_option maxHeartbeats 8000000 in
theorem b_ch_weigh_31 {G : GT} {M : MT} {P : MT → Prop} (v1 : Int) (v2 : Int) (v3 : Int)
    (h : (v2 ≤ v3 → P M) ∧ (v3 < v2 → WpV G J_ch_weigh 40 [(0, pR 86), (1, pI v1), (2, pI v2), (3, pI v3), (4, pI 9)] [] M P)) : WpV G J_ch_weigh 31 [(0, pR 86), (1, pI v1), (2, pI v2), (3, pI v3)] [] M P := by
  show Wp G J_ch_weigh 0 0 31 [(0, pR 86), (1, pI v1), (2, pI v2), (3, pI v3)] [] NN RF M _
  refine wp_iload_n d_ch_weigh_31 rfl 3 rfl ?_
  refine wp_iload_n d_ch_weigh_32 rfl 2 rfl ?_
  refine wp_icmp_ge 104 d_ch_weigh_33 (by decide) (fun c1 => ?_) (fun c1 => ?_)
  · have h := h.1 c1
    exact wp_vret d_ch_weigh_104 rfl ⟨Nat.le_of_ble_eq_true rfl, Nat.le_of_ble_eq_true rfl⟩ ⟨rfl, rfl, rfl, h⟩
  · have h := h.2 c1
    refine wp_bipush d_ch_weigh_36 ⟨by decide, by decide⟩ (by decide) ?_
    refine wp_istore (L2 := [(0, pR 86), (1, pI _), (2, pI _), (3, pI _), (4, pI _)]) d_ch_weigh_38 (Nat.le_of_ble_eq_true rfl) [1, 2, 3, 4, 0] rfl ?_
    exact h
set_option maxHeartbeats 8000000 in
theorem b_ch_weigh_40 {G : GT} {M : MT} {P : MT → Prop} (v1 : Int) (v2 : Int) (v3 : Int) (v4 : Int)
    (h : (v4 ≤ 0 → ∀ M1 : MT, M1 = mu M 91 0 (w64 ((M 91 0) * (w32 (16 - v1)))) → (WpV G J_ch_weigh 31 [(0, pR 86), (1, pI v1), (2, pI v2), (3, pI (w32 (v3 + 1)))] [] M1 P)) ∧ (0 < v4 → (0 ≤ v4 ∧ v4 < 10) ∧ ((0 ≤ (w32 (v4 - 1)) ∧ (w32 (v4 - 1)) < 10) ∧ ((0 ≤ v4 ∧ v4 < 10) ∧ (∀ M1 : MT, M1 = mu M 91 (v4.toNat) (w64 ((w64 ((M 91 (v4.toNat)) * (w32 (16 - v1)))) + (w64 ((M 91 ((w32 (v4 - 1)).toNat)) * v1)))) → (WpV G J_ch_weigh 40 [(0, pR 86), (1, pI v1), (2, pI v2), (3, pI v3), (4, pI (w32 (v4 + (-1))))] [] M1 P)))))) : WpV G J_ch_weigh 40 [(0, pR 86), (1, pI v1), (2, pI v2), (3, pI v3), (4, pI v4)] [] M P := by
  show Wp G J_ch_weigh 0 0 40 [(0, pR 86), (1, pI v1), (2, pI v2), (3, pI v3), (4, pI v4)] [] NN RF M _
  refine wp_iload d_ch_weigh_40 4 rfl ?_
  refine wp_if_le 84 d_ch_weigh_42 (by decide) (fun c1 => ?_) (fun c1 => ?_)
  · have h := h.1 c1
    refine wp_aload_n d_ch_weigh_84 rfl 0 rfl ?_
    refine wp_getr d_ch_weigh_85 2 s_86 rfl (Nat.le_of_ble_eq_true rfl) (Nat.le_of_ble_eq_true rfl) rfl rfl lk_ch_21 ?_
    refine wp_iconst d_ch_weigh_88 ⟨by decide, by decide⟩ ?_
    refine wp_dup2 d_ch_weigh_89 rfl rfl ?_
    refine wp_lald d_ch_weigh_90 s_91 (Nat.le_of_ble_eq_true rfl) (by decide) (by decide) ?_
    refine wp_bipush d_ch_weigh_91 ⟨by decide, by decide⟩ (by decide) ?_
    refine wp_iload_n d_ch_weigh_93 rfl 1 rfl ?_
    refine wp_isub d_ch_weigh_94 ?_
    refine wp_i2l d_ch_weigh_95 ?_
    refine wp_lmul d_ch_weigh_96 ?_
    refine wp_last d_ch_weigh_97 s_91 (Nat.le_of_ble_eq_true rfl) (by decide) (by decide) ?_
    have h := h _ rfl
    refine wp_iinc (L2 := [(0, pR 86), (1, pI _), (2, pI _), (3, pI _), (4, pI _)]) d_ch_weigh_98 3 rfl (Nat.le_of_ble_eq_true rfl) [1, 2, 3, 0, 4] rfl ?_
    refine wp_goto 31 d_ch_weigh_101 (by decide) ?_
    refine wp_sub (L2 := [(0, pR 86), (1, pI _), (2, pI _), (3, pI _)]) [0, 1, 2, 3] rfl ?_
    exact h
  · have h := h.2 c1
    refine wp_aload_n d_ch_weigh_45 rfl 0 rfl ?_
    refine wp_getr d_ch_weigh_46 2 s_86 rfl (Nat.le_of_ble_eq_true rfl) (Nat.le_of_ble_eq_true rfl) rfl rfl lk_ch_21 ?_
    refine wp_iload d_ch_weigh_49 4 rfl ?_
    refine wp_aload_n d_ch_weigh_51 rfl 0 rfl ?_
    refine wp_getr d_ch_weigh_52 2 s_86 rfl (Nat.le_of_ble_eq_true rfl) (Nat.le_of_ble_eq_true rfl) rfl rfl lk_ch_21 ?_
    refine wp_iload d_ch_weigh_55 4 rfl ?_
    obtain ⟨⟨a2, b2⟩, h⟩ := h
    refine wp_lald d_ch_weigh_57 s_91 (Nat.le_of_ble_eq_true rfl) a2 b2 ?_
    refine wp_bipush d_ch_weigh_58 ⟨by decide, by decide⟩ (by decide) ?_
    refine wp_iload_n d_ch_weigh_60 rfl 1 rfl ?_
    refine wp_isub d_ch_weigh_61 ?_
    refine wp_i2l d_ch_weigh_62 ?_
    refine wp_lmul d_ch_weigh_63 ?_
    refine wp_aload_n d_ch_weigh_64 rfl 0 rfl ?_
    refine wp_getr d_ch_weigh_65 2 s_86 rfl (Nat.le_of_ble_eq_true rfl) (Nat.le_of_ble_eq_true rfl) rfl rfl lk_ch_21 ?_
    refine wp_iload d_ch_weigh_68 4 rfl ?_
    refine wp_iconst d_ch_weigh_70 ⟨by decide, by decide⟩ ?_
    refine wp_isub d_ch_weigh_71 ?_
    obtain ⟨⟨a3, b3⟩, h⟩ := h
    refine wp_lald d_ch_weigh_72 s_91 (Nat.le_of_ble_eq_true rfl) a3 b3 ?_
    refine wp_iload_n d_ch_weigh_73 rfl 1 rfl ?_
    refine wp_i2l d_ch_weigh_74 ?_
    refine wp_lmul d_ch_weigh_75 ?_
    refine wp_ladd d_ch_weigh_76 ?_
    obtain ⟨⟨a4, b4⟩, h⟩ := h
    refine wp_last d_ch_weigh_77 s_91 (Nat.le_of_ble_eq_true rfl) a4 b4 ?_
    have h := h _ rfl
    refine wp_iinc (L2 := [(0, pR 86), (1, pI _), (2, pI _), (3, pI _), (4, pI _)]) d_ch_weigh_78 4 rfl (Nat.le_of_ble_eq_true rfl) [1, 2, 3, 4, 0] rfl ?_
    refine wp_goto 40 d_ch_weigh_81 (by decide) ?_
    exact h
set_option maxHeartbeats 8000000 in
theorem e_ch_weightOf {G : GT} {M : MT} {P : Int → MT → Prop} (o1 : Nat) (f1 : TU o1) (o2 : Nat) (f2 : BO o2) (v3 : Int) (v4 : Int)
    (h : ClV G J_tu_become M [pR 87, pR o1] (fun M1 => (WpL G J_ch_weightOf 14 [(0, pR 86), (2, pR o2), (3, pI v3), (4, pI v4), (5, pL 0), (7, pI 0)] [] M1 P))) : ClL G J_ch_weightOf M [pR 86, pR o1, pR o2, pI v3, pI v4] P := by
  show Wp G J_ch_weightOf 0 0 0 [(0, pR 86), (1, pR o1), (2, pR o2), (3, pI v3), (4, pI v4)] [] NN RF M _
  refine wp_aload_n d_ch_weightOf_0 rfl 0 rfl ?_
  refine wp_getr d_ch_weightOf_1 0 s_86 rfl (Nat.le_of_ble_eq_true rfl) (Nat.le_of_ble_eq_true rfl) rfl rfl lk_ch_12 ?_
  refine wp_aload_n d_ch_weightOf_4 rfl 1 rfl ?_
  refine wp_callV [pR _] _ d_ch_weightOf_5 jd_tu_become lk_ch_25 rfl s_87 rfl (Nat.le_of_ble_eq_true rfl) (Nat.le_of_ble_eq_true rfl) rfl ?_
  refine clV_k h ?_
  intro M1 h
  refine wp_lconst (v := 0) d_ch_weightOf_8 rfl ?_
  refine wp_lstore (L2 := [(0, pR 86), (1, pR _), (2, pR _), (3, pI _), (4, pI _), (5, pL _)]) d_ch_weightOf_9 (Nat.le_of_ble_eq_true rfl) [1, 2, 3, 4, 5, 0] rfl ?_
  refine wp_iconst d_ch_weightOf_11 ⟨by decide, by decide⟩ ?_
  refine wp_istore (L2 := [(0, pR 86), (1, pR _), (2, pR _), (3, pI _), (4, pI _), (5, pL _), (7, pI _)]) d_ch_weightOf_12 (Nat.le_of_ble_eq_true rfl) [1, 2, 3, 4, 5, 6, 0] rfl ?_
  refine wp_sub (L2 := [(0, pR 86), (2, pR _), (3, pI _), (4, pI _), (5, pL _), (7, pI _)]) [0, 2, 3, 4, 5, 6] rfl ?_
  exact h
set_option maxHeartbeats 8000000 in
theorem b_ch_weightOf_14 {G : GT} {M : MT} {P : Int → MT → Prop} (o2 : Nat) (f2 : BO o2) (v3 : Int) (v4 : Int) (v5 : Int) (v7 : Int)
    (h : (v3 < v7 → P v5 M) ∧ (v7 ≤ v3 → (9 < v7 → P v5 M) ∧ (v7 ≤ 9 → ((M 87 1) < v4 → ClV G J_ch_hum M [pR 86, pR o2] (fun M1 => (WpL G J_ch_weightOf 14 [(0, pR 86), (2, pR o2), (3, pI v3), (4, pI v4), (5, pL v5), (7, pI (w32 (v7 + 1)))] [] M1 P))) ∧ (v4 ≤ (M 87 1) → (0 ≤ v7 ∧ v7 < 10) ∧ (ClV G J_ch_hum M [pR 86, pR o2] (fun M1 => (WpL G J_ch_weightOf 14 [(0, pR 86), (2, pR o2), (3, pI v3), (4, pI v4), (5, pL (w64 (v5 + (M 91 (v7.toNat))))), (7, pI (w32 (v7 + 1)))] [] M1 P))))))) : WpL G J_ch_weightOf 14 [(0, pR 86), (2, pR o2), (3, pI v3), (4, pI v4), (5, pL v5), (7, pI v7)] [] M P := by
  show Wp G J_ch_weightOf 0 0 14 [(0, pR 86), (2, pR o2), (3, pI v3), (4, pI v4), (5, pL v5), (7, pI v7)] [] NN RF M _
  refine wp_iload d_ch_weightOf_14 5 rfl ?_
  refine wp_iload_n d_ch_weightOf_16 rfl 2 rfl ?_
  refine wp_icmp_gt 62 d_ch_weightOf_17 (by decide) (fun c1 => ?_) (fun c1 => ?_)
  · have h := h.1 c1
    refine wp_lload d_ch_weightOf_62 4 rfl ?_
    exact wp_lret d_ch_weightOf_64 rfl ⟨Nat.le_of_ble_eq_true rfl, Nat.le_of_ble_eq_true rfl⟩ ⟨_, rfl, rfl, rfl, h⟩
  · have h := h.2 c1
    refine wp_iload d_ch_weightOf_20 5 rfl ?_
    refine wp_bipush d_ch_weightOf_22 ⟨by decide, by decide⟩ (by decide) ?_
    refine wp_icmp_gt 62 d_ch_weightOf_24 (by decide) (fun c2 => ?_) (fun c2 => ?_)
    · have h := h.1 c2
      refine wp_lload d_ch_weightOf_62 4 rfl ?_
      exact wp_lret d_ch_weightOf_64 rfl ⟨Nat.le_of_ble_eq_true rfl, Nat.le_of_ble_eq_true rfl⟩ ⟨_, rfl, rfl, rfl, h⟩
    · have h := h.2 c2
      refine wp_aload_n d_ch_weightOf_27 rfl 0 rfl ?_
      refine wp_getr d_ch_weightOf_28 0 s_86 rfl (Nat.le_of_ble_eq_true rfl) (Nat.le_of_ble_eq_true rfl) rfl rfl lk_ch_12 ?_
      refine wp_geti d_ch_weightOf_31 1 s_87 rfl (Nat.le_of_ble_eq_true rfl) (Nat.le_of_ble_eq_true rfl) rfl lk_ch_29 ?_
      refine wp_iload d_ch_weightOf_34 3 rfl ?_
      refine wp_icmp_lt 51 d_ch_weightOf_36 (by decide) (fun c3 => ?_) (fun c3 => ?_)
      · have h := h.1 c3
        refine wp_aload_n d_ch_weightOf_51 rfl 0 rfl ?_
        refine wp_aload_n d_ch_weightOf_52 rfl 1 rfl ?_
        refine wp_callV [pR _] _ d_ch_weightOf_53 jd_ch_hum lk_ch_33 rfl s_86 rfl (Nat.le_of_ble_eq_true rfl) (Nat.le_of_ble_eq_true rfl) rfl ?_
        refine clV_k h ?_
        intro M1 h
        refine wp_iinc (L2 := [(0, pR 86), (2, pR _), (3, pI _), (4, pI _), (5, pL _), (7, pI _)]) d_ch_weightOf_56 5 rfl (Nat.le_of_ble_eq_true rfl) [1, 2, 3, 4, 5, 0] rfl ?_
        refine wp_goto 14 d_ch_weightOf_59 (by decide) ?_
        exact h
      · have h := h.2 c3
        refine wp_lload d_ch_weightOf_39 4 rfl ?_
        refine wp_aload_n d_ch_weightOf_41 rfl 0 rfl ?_
        refine wp_getr d_ch_weightOf_42 2 s_86 rfl (Nat.le_of_ble_eq_true rfl) (Nat.le_of_ble_eq_true rfl) rfl rfl lk_ch_21 ?_
        refine wp_iload d_ch_weightOf_45 5 rfl ?_
        obtain ⟨⟨a4, b4⟩, h⟩ := h
        refine wp_lald d_ch_weightOf_47 s_91 (Nat.le_of_ble_eq_true rfl) a4 b4 ?_
        refine wp_ladd d_ch_weightOf_48 ?_
        refine wp_lstore (L2 := [(0, pR 86), (2, pR _), (3, pI _), (4, pI _), (5, pL _), (7, pI _)]) d_ch_weightOf_49 (Nat.le_of_ble_eq_true rfl) [1, 2, 3, 4, 0, 5] rfl ?_
        refine wp_aload_n d_ch_weightOf_51 rfl 0 rfl ?_
        refine wp_aload_n d_ch_weightOf_52 rfl 1 rfl ?_
        refine wp_callV [pR _] _ d_ch_weightOf_53 jd_ch_hum lk_ch_33 rfl s_86 rfl (Nat.le_of_ble_eq_true rfl) (Nat.le_of_ble_eq_true rfl) rfl ?_
        refine clV_k h ?_
        intro M1 h
        refine wp_iinc (L2 := [(0, pR 86), (2, pR _), (3, pI _), (4, pI _), (5, pL _), (7, pI _)]) d_ch_weightOf_56 5 rfl (Nat.le_of_ble_eq_true rfl) [1, 2, 3, 4, 5, 0] rfl ?_
        refine wp_goto 14 d_ch_weightOf_59 (by decide) ?_
        exact h
set_option maxHeartbeats 8000000 in
theorem e_ch_fairSize {G : GT} {M : MT} {P : Int → MT → Prop} (v2 : Int) (v3 : Int) (v4 : Int)
    (h : ∀ M1 : MT, M1 = mu M 86 3 v2 → ((0 ≤ v4 ∧ v4 < 6) ∧ (ClV G J_tu_become M1 [pR 87, pR (10 + 2 * v4.toNat)] (fun M2 => (WpI G J_ch_fairSize 22 [(0, pR 86), (1, pR 1), (3, pI v3), (4, pI v4), (5, pI 0)] [] M2 P))))) : ClI G J_ch_fairSize M [pR 86, pR 1, pI v2, pI v3, pI v4] P := by
  show Wp G J_ch_fairSize 0 0 0 [(0, pR 86), (1, pR 1), (2, pI v2), (3, pI v3), (4, pI v4)] [] NN RF M _
  refine wp_aload_n d_ch_fairSize_0 rfl 0 rfl ?_
  refine wp_iload_n d_ch_fairSize_1 rfl 2 rfl ?_
  refine wp_puti d_ch_fairSize_2 3 s_86 rfl (Nat.le_of_ble_eq_true rfl) (Nat.le_of_ble_eq_true rfl) (Or.inl rfl) rfl lk_ch_37 ?_
  have h := h _ rfl
  refine wp_aload_n d_ch_fairSize_5 rfl 0 rfl ?_
  refine wp_getr d_ch_fairSize_6 0 s_86 rfl (Nat.le_of_ble_eq_true rfl) (Nat.le_of_ble_eq_true rfl) rfl rfl lk_ch_12 ?_
  refine wp_aload_n d_ch_fairSize_9 rfl 1 rfl ?_
  refine wp_getr d_ch_fairSize_10 1 s_1 rfl (Nat.le_of_ble_eq_true rfl) (Nat.le_of_ble_eq_true rfl) rfl rfl lk_ch_40 ?_
  refine wp_iload d_ch_fairSize_13 4 rfl ?_
  obtain ⟨⟨a1, b1⟩, h⟩ := h
  refine wp_aald (t := 1) d_ch_fairSize_15 s_3 rfl (Nat.le_of_ble_eq_true rfl) a1 b1 (k_tunes _ (nat_lt a1 b1)).1 ?_
  refine wp_callV [pR _] _ d_ch_fairSize_16 jd_tu_become lk_ch_25 rfl s_87 rfl (Nat.le_of_ble_eq_true rfl) (Nat.le_of_ble_eq_true rfl) rfl ?_
  refine clV_k h ?_
  intro M2 h
  refine wp_iconst d_ch_fairSize_19 ⟨by decide, by decide⟩ ?_
  refine wp_istore (L2 := [(0, pR 86), (1, pR 1), (2, pI _), (3, pI _), (4, pI _), (5, pI _)]) d_ch_fairSize_20 (Nat.le_of_ble_eq_true rfl) [1, 2, 3, 4, 5, 0] rfl ?_
  refine wp_sub (L2 := [(0, pR 86), (1, pR 1), (3, pI _), (4, pI _), (5, pI _)]) [0, 1, 3, 4, 5] rfl ?_
  exact h
set_option maxHeartbeats 8000000 in
theorem b_ch_fairSize_22 {G : GT} {M : MT} {P : Int → MT → Prop} (v3 : Int) (v4 : Int) (v5 : Int)
    (h : (v3 ≤ v5 → P (M 87 1) M) ∧ (v5 < v3 → ((M 1 5) ≤ 0 → P (M 87 1) M) ∧ (0 < (M 1 5) → ClI G J_ch_lot M [pR 86, pI (M 1 4)] (fun x3 M1 => (ClI G J_ch_lot M1 [pR 86, pI (M1 1 5)] (fun x4 M2 => ((¬ x3 = v4 → WpI G J_ch_fairSize 22 [(0, pR 86), (1, pR 1), (3, pI v3), (4, pI v4), (5, pI (w32 (v5 + 1)))] [] M2 P) ∧ (x3 = v4 → (0 ≤ x4 ∧ x4 < 6) ∧ (ClV G J_ch_hum M2 [pR 86, pR (22 + x4.toNat)] (fun M3 => (WpI G J_ch_fairSize 22 [(0, pR 86), (1, pR 1), (3, pI v3), (4, pI v4), (5, pI (w32 (v5 + 1)))] [] M3 P))))))))))) : WpI G J_ch_fairSize 22 [(0, pR 86), (1, pR 1), (3, pI v3), (4, pI v4), (5, pI v5)] [] M P := by
  show Wp G J_ch_fairSize 0 0 22 [(0, pR 86), (1, pR 1), (3, pI v3), (4, pI v4), (5, pI v5)] [] NN RF M _
  refine wp_iload d_ch_fairSize_22 4 rfl ?_
  refine wp_iload_n d_ch_fairSize_24 rfl 2 rfl ?_
  refine wp_icmp_ge 79 d_ch_fairSize_25 (by decide) (fun c1 => ?_) (fun c1 => ?_)
  · have h := h.1 c1
    refine wp_aload_n d_ch_fairSize_79 rfl 0 rfl ?_
    refine wp_getr d_ch_fairSize_80 0 s_86 rfl (Nat.le_of_ble_eq_true rfl) (Nat.le_of_ble_eq_true rfl) rfl rfl lk_ch_12 ?_
    refine wp_geti d_ch_fairSize_83 1 s_87 rfl (Nat.le_of_ble_eq_true rfl) (Nat.le_of_ble_eq_true rfl) rfl lk_ch_29 ?_
    exact wp_iret d_ch_fairSize_86 rfl ⟨Nat.le_of_ble_eq_true rfl, Nat.le_of_ble_eq_true rfl⟩ ⟨_, rfl, rfl, rfl, h⟩
  · have h := h.2 c1
    refine wp_aload_n d_ch_fairSize_28 rfl 1 rfl ?_
    refine wp_geti d_ch_fairSize_29 5 s_1 rfl (Nat.le_of_ble_eq_true rfl) (Nat.le_of_ble_eq_true rfl) rfl lk_ch_46 ?_
    refine wp_if_le 79 d_ch_fairSize_32 (by decide) (fun c2 => ?_) (fun c2 => ?_)
    · have h := h.1 c2
      refine wp_aload_n d_ch_fairSize_79 rfl 0 rfl ?_
      refine wp_getr d_ch_fairSize_80 0 s_86 rfl (Nat.le_of_ble_eq_true rfl) (Nat.le_of_ble_eq_true rfl) rfl rfl lk_ch_12 ?_
      refine wp_geti d_ch_fairSize_83 1 s_87 rfl (Nat.le_of_ble_eq_true rfl) (Nat.le_of_ble_eq_true rfl) rfl lk_ch_29 ?_
      exact wp_iret d_ch_fairSize_86 rfl ⟨Nat.le_of_ble_eq_true rfl, Nat.le_of_ble_eq_true rfl⟩ ⟨_, rfl, rfl, rfl, h⟩
    · have h := h.2 c2
      refine wp_aload_n d_ch_fairSize_35 rfl 0 rfl ?_
      refine wp_aload_n d_ch_fairSize_36 rfl 1 rfl ?_
      refine wp_geti d_ch_fairSize_37 4 s_1 rfl (Nat.le_of_ble_eq_true rfl) (Nat.le_of_ble_eq_true rfl) rfl lk_ch_49 ?_
      refine wp_callV [pI _] _ d_ch_fairSize_40 jd_ch_lot lk_ch_52 rfl s_86 rfl (Nat.le_of_ble_eq_true rfl) (Nat.le_of_ble_eq_true rfl) rfl ?_
      refine clI_k h ?_
      intro x3 M1 h
      refine wp_istore (L2 := [(0, pR 86), (1, pR 1), (3, pI _), (4, pI _), (5, pI _), (6, pI _)]) d_ch_fairSize_43 (Nat.le_of_ble_eq_true rfl) [1, 2, 3, 4, 5, 0] rfl ?_
      refine wp_aload_n d_ch_fairSize_45 rfl 0 rfl ?_
      refine wp_aload_n d_ch_fairSize_46 rfl 1 rfl ?_
      refine wp_geti d_ch_fairSize_47 5 s_1 rfl (Nat.le_of_ble_eq_true rfl) (Nat.le_of_ble_eq_true rfl) rfl lk_ch_46 ?_
      refine wp_callV [pI _] _ d_ch_fairSize_50 jd_ch_lot lk_ch_52 rfl s_86 rfl (Nat.le_of_ble_eq_true rfl) (Nat.le_of_ble_eq_true rfl) rfl ?_
      refine clI_k h ?_
      intro x4 M2 h
      refine wp_istore (L2 := [(0, pR 86), (1, pR 1), (3, pI _), (4, pI _), (5, pI _), (6, pI _), (7, pI _)]) d_ch_fairSize_53 (Nat.le_of_ble_eq_true rfl) [1, 2, 3, 4, 5, 6, 0] rfl ?_
      refine wp_iload d_ch_fairSize_55 5 rfl ?_
      refine wp_iload d_ch_fairSize_57 3 rfl ?_
      refine wp_icmp_ne 73 d_ch_fairSize_59 (by decide) (fun c5 => ?_) (fun c5 => ?_)
      · have h := h.1 c5
        refine wp_iinc (L2 := [(0, pR 86), (1, pR 1), (3, pI _), (4, pI _), (5, pI _), (6, pI _), (7, pI _)]) d_ch_fairSize_73 4 rfl (Nat.le_of_ble_eq_true rfl) [1, 2, 3, 4, 0, 5, 6] rfl ?_
        refine wp_goto 22 d_ch_fairSize_76 (by decide) ?_
        refine wp_sub (L2 := [(0, pR 86), (1, pR 1), (3, pI _), (4, pI _), (5, pI _)]) [0, 1, 2, 3, 4] rfl ?_
        exact h
      · have h := h.2 c5
        refine wp_aload_n d_ch_fairSize_62 rfl 0 rfl ?_
        refine wp_aload_n d_ch_fairSize_63 rfl 1 rfl ?_
        refine wp_getr d_ch_fairSize_64 2 s_1 rfl (Nat.le_of_ble_eq_true rfl) (Nat.le_of_ble_eq_true rfl) rfl rfl lk_ch_56 ?_
        refine wp_iload d_ch_fairSize_67 6 rfl ?_
        obtain ⟨⟨a6, b6⟩, h⟩ := h
        refine wp_aald (t := 2) d_ch_fairSize_69 s_4 rfl (Nat.le_of_ble_eq_true rfl) a6 b6 (k_borrowers _ (nat_lt a6 b6)).1 ?_
        refine wp_callV [pR _] _ d_ch_fairSize_70 jd_ch_hum lk_ch_33 rfl s_86 rfl (Nat.le_of_ble_eq_true rfl) (Nat.le_of_ble_eq_true rfl) rfl ?_
        refine clV_k h ?_
        intro M3 h
        refine wp_iinc (L2 := [(0, pR 86), (1, pR 1), (3, pI _), (4, pI _), (5, pI _), (6, pI _), (7, pI _)]) d_ch_fairSize_73 4 rfl (Nat.le_of_ble_eq_true rfl) [1, 2, 3, 4, 0, 5, 6] rfl ?_
        refine wp_goto 22 d_ch_fairSize_76 (by decide) ?_
        refine wp_sub (L2 := [(0, pR 86), (1, pR 1), (3, pI _), (4, pI _), (5, pI _)]) [0, 1, 2, 3, 4] rfl ?_
        exact h
set_option maxHeartbeats 8000000 in
theorem e_ch_lot {G : GT} {M : MT} {P : Int → MT → Prop} (v1 : Int)
    (h : ∀ M1 : MT, M1 = mu M 86 3 (w32 ((w32 (1103515245 * (M 86 3))) + 12345)) → ((v1 ≤ 0 → P 0 M1) ∧ (0 < v1 → ¬ v1 = 0 ∧ (P (w32 (Int.tmod (iushr (M1 86 3) 16) v1)) M1)))) : ClI G J_ch_lot M [pR 86, pI v1] P := by
  show Wp G J_ch_lot 0 0 0 [(0, pR 86), (1, pI v1)] [] NN RF M _
  refine wp_aload_n d_ch_lot_0 rfl 0 rfl ?_
  refine wp_ldc lk_ch_60 d_ch_lot_1 ⟨by decide, by decide⟩ ?_
  refine wp_aload_n d_ch_lot_3 rfl 0 rfl ?_
  refine wp_geti d_ch_lot_4 3 s_86 rfl (Nat.le_of_ble_eq_true rfl) (Nat.le_of_ble_eq_true rfl) rfl lk_ch_37 ?_
  refine wp_imul d_ch_lot_7 ?_
  refine wp_sipush d_ch_lot_8 ⟨by decide, by decide⟩ (by decide) ?_
  refine wp_iadd d_ch_lot_11 ?_
  refine wp_puti d_ch_lot_12 3 s_86 rfl (Nat.le_of_ble_eq_true rfl) (Nat.le_of_ble_eq_true rfl) (Or.inl rfl) rfl lk_ch_37 ?_
  have h := h _ rfl
  refine wp_iload_n d_ch_lot_15 rfl 1 rfl ?_
  refine wp_if_le 31 d_ch_lot_16 (by decide) (fun c1 => ?_) (fun c1 => ?_)
  · have h := h.1 c1
    refine wp_iconst d_ch_lot_31 ⟨by decide, by decide⟩ ?_
    exact wp_iret d_ch_lot_32 rfl ⟨Nat.le_of_ble_eq_true rfl, Nat.le_of_ble_eq_true rfl⟩ ⟨_, rfl, rfl, rfl, h⟩
  · have h := h.2 c1
    refine wp_aload_n d_ch_lot_19 rfl 0 rfl ?_
    refine wp_geti d_ch_lot_20 3 s_86 rfl (Nat.le_of_ble_eq_true rfl) (Nat.le_of_ble_eq_true rfl) rfl lk_ch_37 ?_
    refine wp_bipush d_ch_lot_23 ⟨by decide, by decide⟩ (by decide) ?_
    refine wp_iushr d_ch_lot_25 ?_
    refine wp_iload_n d_ch_lot_26 rfl 1 rfl ?_
    obtain ⟨g2, h⟩ := h
    refine wp_irem d_ch_lot_27 g2 ?_
    refine wp_goto 32 d_ch_lot_28 (by decide) ?_
    exact wp_iret d_ch_lot_32 rfl ⟨Nat.le_of_ble_eq_true rfl, Nat.le_of_ble_eq_true rfl⟩ ⟨_, rfl, rfl, rfl, h⟩
set_option maxHeartbeats 8000000 in
theorem e_ch_hum {G : GT} {M : MT} {P : MT → Prop} (o1 : Nat) (f1 : BO o1)
    (h : ClV G J_tu_becomeHummed M [pR 89, pR 87, pR o1] (fun M1 => (ClV G J_tu_become M1 [pR 87, pR 89] (fun M2 => (P M2))))) : ClV G J_ch_hum M [pR 86, pR o1] P := by
  show Wp G J_ch_hum 0 0 0 [(0, pR 86), (1, pR o1)] [] NN RF M _
  refine wp_aload_n d_ch_hum_0 rfl 0 rfl ?_
  refine wp_getr d_ch_hum_1 1 s_86 rfl (Nat.le_of_ble_eq_true rfl) (Nat.le_of_ble_eq_true rfl) rfl rfl lk_ch_18 ?_
  refine wp_aload_n d_ch_hum_4 rfl 0 rfl ?_
  refine wp_getr d_ch_hum_5 0 s_86 rfl (Nat.le_of_ble_eq_true rfl) (Nat.le_of_ble_eq_true rfl) rfl rfl lk_ch_12 ?_
  refine wp_aload_n d_ch_hum_8 rfl 1 rfl ?_
  refine wp_callV [pR _, pR _] _ d_ch_hum_9 jd_tu_becomeHummed lk_ch_61 rfl s_89 rfl (Nat.le_of_ble_eq_true rfl) (Nat.le_of_ble_eq_true rfl) rfl ?_
  refine clV_k h ?_
  intro M1 h
  refine wp_aload_n d_ch_hum_12 rfl 0 rfl ?_
  refine wp_getr d_ch_hum_13 0 s_86 rfl (Nat.le_of_ble_eq_true rfl) (Nat.le_of_ble_eq_true rfl) rfl rfl lk_ch_12 ?_
  refine wp_aload_n d_ch_hum_16 rfl 0 rfl ?_
  refine wp_getr d_ch_hum_17 1 s_86 rfl (Nat.le_of_ble_eq_true rfl) (Nat.le_of_ble_eq_true rfl) rfl rfl lk_ch_18 ?_
  refine wp_callV [pR _] _ d_ch_hum_20 jd_tu_become lk_ch_25 rfl s_87 rfl (Nat.le_of_ble_eq_true rfl) (Nat.le_of_ble_eq_true rfl) rfl ?_
  refine clV_k h ?_
  intro M2 h
  exact wp_vret d_ch_hum_23 rfl ⟨Nat.le_of_ble_eq_true rfl, Nat.le_of_ble_eq_true rfl⟩ ⟨rfl, rfl, rfl, h⟩
