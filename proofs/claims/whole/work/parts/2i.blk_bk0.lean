set_option maxHeartbeats 8000000 in
theorem e_bk_readTunes {G : GT} {M : MT} {P : MT → Prop} 
    (h : WpV G J_bk_readTunes 9 [(0, pR 1), (1, pR 6), (2, pI 0)] [] M P) : ClV G J_bk_readTunes M [pR 1] P := by
  show Wp G J_bk_readTunes 0 0 0 [(0, pR 1)] [] NN RF M _
  refine wp_aload_n d_bk_readTunes_0 rfl 0 rfl ?_
  refine wp_getr d_bk_readTunes_1 0 s_1 rfl (Nat.le_of_ble_eq_true rfl) (Nat.le_of_ble_eq_true rfl) rfl rfl lk_bk_11 ?_
  refine wp_iconst d_bk_readTunes_4 ⟨by decide, by decide⟩ ?_
  refine wp_aald (t := 0) d_bk_readTunes_5 s_2 rfl (Nat.le_of_ble_eq_true rfl) (by decide) (by decide) (r := 6) rfl ?_
  refine wp_astore_n (L2 := [(0, pR 1), (1, pR 6)]) d_bk_readTunes_6 rfl (Nat.le_of_ble_eq_true rfl) [1, 0] rfl ?_
  refine wp_iconst d_bk_readTunes_7 ⟨by decide, by decide⟩ ?_
  refine wp_istore_n (L2 := [(0, pR 1), (1, pR 6), (2, pI _)]) d_bk_readTunes_8 rfl (Nat.le_of_ble_eq_true rfl) [1, 2, 0] rfl ?_
  exact h
set_option maxHeartbeats 8000000 in
theorem b_bk_readTunes_9 {G : GT} {M : MT} {P : MT → Prop} (v2 : Int)
    (h : (6 ≤ v2 → WpV G J_bk_readTunes 38 [(0, pR 1), (1, pR 6), (2, pI 0), (3, pI (-1)), (4, pI 0)] [] M P) ∧ (v2 < 6 → (0 ≤ v2 ∧ v2 < 6) ∧ (∀ M1 : MT, M1 = mu M (10 + 2 * v2.toNat) 1 0 → (WpV G J_bk_readTunes 9 [(0, pR 1), (1, pR 6), (2, pI (w32 (v2 + 1)))] [] M1 P)))) : WpV G J_bk_readTunes 9 [(0, pR 1), (1, pR 6), (2, pI v2)] [] M P := by
  show Wp G J_bk_readTunes 0 0 9 [(0, pR 1), (1, pR 6), (2, pI v2)] [] NN RF M _
  refine wp_iload_n d_bk_readTunes_9 rfl 2 rfl ?_
  refine wp_bipush d_bk_readTunes_10 ⟨by decide, by decide⟩ (by decide) ?_
  refine wp_icmp_ge 31 d_bk_readTunes_12 (by decide) (fun c1 => ?_) (fun c1 => ?_)
  · have h := h.1 c1
    refine wp_iconst d_bk_readTunes_31 ⟨by decide, by decide⟩ ?_
    refine wp_istore_n (L2 := [(0, pR 1), (1, pR 6), (2, pI _)]) d_bk_readTunes_32 rfl (Nat.le_of_ble_eq_true rfl) [1, 2, 0] rfl ?_
    refine wp_iconst d_bk_readTunes_33 ⟨by decide, by decide⟩ ?_
    refine wp_istore_n (L2 := [(0, pR 1), (1, pR 6), (2, pI _), (3, pI _)]) d_bk_readTunes_34 rfl (Nat.le_of_ble_eq_true rfl) [1, 2, 3, 0] rfl ?_
    refine wp_iconst d_bk_readTunes_35 ⟨by decide, by decide⟩ ?_
    refine wp_istore (L2 := [(0, pR 1), (1, pR 6), (2, pI _), (3, pI _), (4, pI _)]) d_bk_readTunes_36 (Nat.le_of_ble_eq_true rfl) [1, 2, 3, 4, 0] rfl ?_
    exact h
  · have h := h.2 c1
    refine wp_aload_n d_bk_readTunes_15 rfl 0 rfl ?_
    refine wp_getr d_bk_readTunes_16 1 s_1 rfl (Nat.le_of_ble_eq_true rfl) (Nat.le_of_ble_eq_true rfl) rfl rfl lk_bk_19 ?_
    refine wp_iload_n d_bk_readTunes_19 rfl 2 rfl ?_
    obtain ⟨⟨a2, b2⟩, h⟩ := h
    refine wp_aald (t := 1) d_bk_readTunes_20 s_3 rfl (Nat.le_of_ble_eq_true rfl) a2 b2 (k_tunes _ (nat_lt a2 b2)).1 ?_
    refine wp_iconst d_bk_readTunes_21 ⟨by decide, by decide⟩ ?_
    refine wp_puti d_bk_readTunes_22 1 (k_tunes _ (nat_lt a2 b2)).2.1 rfl (Nat.lt_of_succ_lt (k_tunes _ (nat_lt a2 b2)).2.2.2.2) (Nat.le_of_ble_eq_true rfl) (Or.inl rfl) rfl lk_bk_41 ?_
    have h := h _ rfl
    refine wp_iinc (L2 := [(0, pR 1), (1, pR 6), (2, pI _)]) d_bk_readTunes_25 2 rfl (Nat.le_of_ble_eq_true rfl) [1, 2, 0] rfl ?_
    refine wp_goto 9 d_bk_readTunes_28 (by decide) ?_
    exact h
set_option maxHeartbeats 8000000 in
theorem b_bk_readTunes_38 {G : GT} {M : MT} {P : MT → Prop} (v2 : Int) (v3 : Int) (v4 : Int)
    (h : ((M 6 1) ≤ v4 → WpV G J_bk_readTunes 146 [(0, pR 1), (1, pR 6), (2, pI v2), (3, pI v3)] [] M P) ∧ (v4 < (M 6 1) → (¬ v3 = (-1) → WpV G J_bk_readTunes 146 [(0, pR 1), (1, pR 6), (2, pI v2), (3, pI v3)] [] M P) ∧ (v3 = (-1) → (6 ≤ v2 → WpV G J_bk_readTunes 73 [(0, pR 1), (1, pR 6), (2, pI v2), (3, pI v3), (4, pI v4), (5, pI 0)] [] M P) ∧ (v2 < 6 → (0 ≤ v2 ∧ v2 < 6) ∧ (WpV G J_bk_readTunes 73 [(0, pR 1), (1, pR 6), (2, pI v2), (3, pI v3), (4, pI v4), (5, pI (M (10 + 2 * v2.toNat) 1))] [] M P))))) : WpV G J_bk_readTunes 38 [(0, pR 1), (1, pR 6), (2, pI v2), (3, pI v3), (4, pI v4)] [] M P := by
  show Wp G J_bk_readTunes 0 0 38 [(0, pR 1), (1, pR 6), (2, pI v2), (3, pI v3), (4, pI v4)] [] NN RF M _
  refine wp_iload d_bk_readTunes_38 4 rfl ?_
  refine wp_aload_n d_bk_readTunes_40 rfl 1 rfl ?_
  refine wp_geti d_bk_readTunes_41 1 s_6 rfl (Nat.le_of_ble_eq_true rfl) (Nat.le_of_ble_eq_true rfl) rfl lk_bk_45 ?_
  refine wp_icmp_ge 146 d_bk_readTunes_44 (by decide) (fun c1 => ?_) (fun c1 => ?_)
  · have h := h.1 c1
    refine wp_sub (L2 := [(0, pR 1), (1, pR 6), (2, pI _), (3, pI _)]) [0, 1, 2, 3] rfl ?_
    exact h
  · have h := h.2 c1
    refine wp_iload_n d_bk_readTunes_47 rfl 3 rfl ?_
    refine wp_iconst d_bk_readTunes_48 ⟨by decide, by decide⟩ ?_
    refine wp_icmp_ne 146 d_bk_readTunes_49 (by decide) (fun c2 => ?_) (fun c2 => ?_)
    · have h := h.1 c2
      refine wp_sub (L2 := [(0, pR 1), (1, pR 6), (2, pI _), (3, pI _)]) [0, 1, 2, 3] rfl ?_
      exact h
    · have h := h.2 c2
      refine wp_iload_n d_bk_readTunes_52 rfl 2 rfl ?_
      refine wp_bipush d_bk_readTunes_53 ⟨by decide, by decide⟩ (by decide) ?_
      refine wp_icmp_ge 70 d_bk_readTunes_55 (by decide) (fun c3 => ?_) (fun c3 => ?_)
      · have h := h.1 c3
        refine wp_iconst d_bk_readTunes_70 ⟨by decide, by decide⟩ ?_
        refine wp_istore (L2 := [(0, pR 1), (1, pR 6), (2, pI _), (3, pI _), (4, pI _), (5, pI _)]) d_bk_readTunes_71 (Nat.le_of_ble_eq_true rfl) [1, 2, 3, 4, 5, 0] rfl ?_
        exact h
      · have h := h.2 c3
        refine wp_aload_n d_bk_readTunes_58 rfl 0 rfl ?_
        refine wp_getr d_bk_readTunes_59 1 s_1 rfl (Nat.le_of_ble_eq_true rfl) (Nat.le_of_ble_eq_true rfl) rfl rfl lk_bk_19 ?_
        refine wp_iload_n d_bk_readTunes_62 rfl 2 rfl ?_
        obtain ⟨⟨a4, b4⟩, h⟩ := h
        refine wp_aald (t := 1) d_bk_readTunes_63 s_3 rfl (Nat.le_of_ble_eq_true rfl) a4 b4 (k_tunes _ (nat_lt a4 b4)).1 ?_
        refine wp_geti d_bk_readTunes_64 1 (k_tunes _ (nat_lt a4 b4)).2.1 rfl (Nat.lt_of_succ_lt (k_tunes _ (nat_lt a4 b4)).2.2.2.2) (Nat.le_of_ble_eq_true rfl) rfl lk_bk_41 ?_
        refine wp_goto 71 d_bk_readTunes_67 (by decide) ?_
        refine wp_istore (L2 := [(0, pR 1), (1, pR 6), (2, pI _), (3, pI _), (4, pI _), (5, pI _)]) d_bk_readTunes_71 (Nat.le_of_ble_eq_true rfl) [1, 2, 3, 4, 5, 0] rfl ?_
        exact h
set_option maxHeartbeats 8000000 in
theorem b_bk_readTunes_146 {G : GT} {M : MT} {P : MT → Prop} (v2 : Int) (v3 : Int)
    (h : (6 ≤ v2 → WpV G J_bk_readTunes 171 [(0, pR 1), (1, pR 6), (2, pI v2), (3, pI v3), (4, pI 0)] [] M P) ∧ (v2 < 6 → (0 ≤ v2 ∧ v2 < 6) ∧ (((M (10 + 2 * v2.toNat) 1) ≤ 0 → WpV G J_bk_readTunes 171 [(0, pR 1), (1, pR 6), (2, pI v2), (3, pI v3), (4, pI 0)] [] M P) ∧ (0 < (M (10 + 2 * v2.toNat) 1) → WpV G J_bk_readTunes 171 [(0, pR 1), (1, pR 6), (2, pI v2), (3, pI v3), (4, pI 1)] [] M P)))) : WpV G J_bk_readTunes 146 [(0, pR 1), (1, pR 6), (2, pI v2), (3, pI v3)] [] M P := by
  show Wp G J_bk_readTunes 0 0 146 [(0, pR 1), (1, pR 6), (2, pI v2), (3, pI v3)] [] NN RF M _
  refine wp_iload_n d_bk_readTunes_146 rfl 2 rfl ?_
  refine wp_bipush d_bk_readTunes_147 ⟨by decide, by decide⟩ (by decide) ?_
  refine wp_icmp_ge 168 d_bk_readTunes_149 (by decide) (fun c1 => ?_) (fun c1 => ?_)
  · have h := h.1 c1
    refine wp_iconst d_bk_readTunes_168 ⟨by decide, by decide⟩ ?_
    refine wp_istore (L2 := [(0, pR 1), (1, pR 6), (2, pI _), (3, pI _), (4, pI _)]) d_bk_readTunes_169 (Nat.le_of_ble_eq_true rfl) [1, 2, 3, 4, 0] rfl ?_
    exact h
  · have h := h.2 c1
    refine wp_aload_n d_bk_readTunes_152 rfl 0 rfl ?_
    refine wp_getr d_bk_readTunes_153 1 s_1 rfl (Nat.le_of_ble_eq_true rfl) (Nat.le_of_ble_eq_true rfl) rfl rfl lk_bk_19 ?_
    refine wp_iload_n d_bk_readTunes_156 rfl 2 rfl ?_
    obtain ⟨⟨a2, b2⟩, h⟩ := h
    refine wp_aald (t := 1) d_bk_readTunes_157 s_3 rfl (Nat.le_of_ble_eq_true rfl) a2 b2 (k_tunes _ (nat_lt a2 b2)).1 ?_
    refine wp_geti d_bk_readTunes_158 1 (k_tunes _ (nat_lt a2 b2)).2.1 rfl (Nat.lt_of_succ_lt (k_tunes _ (nat_lt a2 b2)).2.2.2.2) (Nat.le_of_ble_eq_true rfl) rfl lk_bk_41 ?_
    refine wp_if_le 168 d_bk_readTunes_161 (by decide) (fun c3 => ?_) (fun c3 => ?_)
    · have h := h.1 c3
      refine wp_iconst d_bk_readTunes_168 ⟨by decide, by decide⟩ ?_
      refine wp_istore (L2 := [(0, pR 1), (1, pR 6), (2, pI _), (3, pI _), (4, pI _)]) d_bk_readTunes_169 (Nat.le_of_ble_eq_true rfl) [1, 2, 3, 4, 0] rfl ?_
      exact h
    · have h := h.2 c3
      refine wp_iconst d_bk_readTunes_164 ⟨by decide, by decide⟩ ?_
      refine wp_goto 169 d_bk_readTunes_165 (by decide) ?_
      refine wp_istore (L2 := [(0, pR 1), (1, pR 6), (2, pI _), (3, pI _), (4, pI _)]) d_bk_readTunes_169 (Nat.le_of_ble_eq_true rfl) [1, 2, 3, 4, 0] rfl ?_
      exact h
set_option maxHeartbeats 8000000 in
theorem b_bk_readTunes_73 {G : GT} {M : MT} {P : MT → Prop} (v2 : Int) (v3 : Int) (v4 : Int) (v5 : Int)
    (h : ClI G J_tx_noteAt M [pR 6, pI v4] (fun x1 M1 => ((x1 = (-1) → WpV G J_bk_readTunes 114 [(0, pR 1), (1, pR 6), (2, pI v2), (3, pI v3), (4, pI v4), (5, pI v5)] [] M1 P) ∧ (¬ x1 = (-1) → (6 ≤ v2 → WpV G J_bk_readTunes 114 [(0, pR 1), (1, pR 6), (2, pI v2), (3, pI v3), (4, pI v4), (5, pI v5)] [] M1 P) ∧ (v2 < 6 → (12 ≤ v5 → WpV G J_bk_readTunes 114 [(0, pR 1), (1, pR 6), (2, pI v2), (3, pI v3), (4, pI v4), (5, pI v5)] [] M1 P) ∧ (v5 < 12 → (0 ≤ v2 ∧ v2 < 6) ∧ (ClV G J_tu_add M1 [pR (10 + 2 * v2.toNat), pI x1] (fun M2 => (WpV G J_bk_readTunes 140 [(0, pR 1), (1, pR 6), (2, pI v2), (3, pI v3), (4, pI v4)] [] M2 P))))))))) : WpV G J_bk_readTunes 73 [(0, pR 1), (1, pR 6), (2, pI v2), (3, pI v3), (4, pI v4), (5, pI v5)] [] M P := by
  show Wp G J_bk_readTunes 0 0 73 [(0, pR 1), (1, pR 6), (2, pI v2), (3, pI v3), (4, pI v4), (5, pI v5)] [] NN RF M _
  refine wp_aload_n d_bk_readTunes_73 rfl 1 rfl ?_
  refine wp_iload d_bk_readTunes_74 4 rfl ?_
  refine wp_callV [pI _] _ d_bk_readTunes_76 jd_tx_noteAt lk_bk_46 rfl s_6 rfl (Nat.le_of_ble_eq_true rfl) (Nat.le_of_ble_eq_true rfl) rfl ?_
  refine clI_k h ?_
  intro x1 M1 h
  refine wp_istore (L2 := [(0, pR 1), (1, pR 6), (2, pI _), (3, pI _), (4, pI _), (5, pI _), (6, pI _)]) d_bk_readTunes_79 (Nat.le_of_ble_eq_true rfl) [1, 2, 3, 4, 5, 6, 0] rfl ?_
  refine wp_iload d_bk_readTunes_81 6 rfl ?_
  refine wp_iconst d_bk_readTunes_83 ⟨by decide, by decide⟩ ?_
  refine wp_icmp_eq 114 d_bk_readTunes_84 (by decide) (fun c2 => ?_) (fun c2 => ?_)
  · have h := h.1 c2
    refine wp_sub (L2 := [(0, pR 1), (1, pR 6), (2, pI _), (3, pI _), (4, pI _), (5, pI _)]) [0, 1, 2, 3, 4, 5] rfl ?_
    exact h
  · have h := h.2 c2
    refine wp_iload_n d_bk_readTunes_87 rfl 2 rfl ?_
    refine wp_bipush d_bk_readTunes_88 ⟨by decide, by decide⟩ (by decide) ?_
    refine wp_icmp_ge 114 d_bk_readTunes_90 (by decide) (fun c3 => ?_) (fun c3 => ?_)
    · have h := h.1 c3
      refine wp_sub (L2 := [(0, pR 1), (1, pR 6), (2, pI _), (3, pI _), (4, pI _), (5, pI _)]) [0, 1, 2, 3, 4, 5] rfl ?_
      exact h
    · have h := h.2 c3
      refine wp_iload d_bk_readTunes_93 5 rfl ?_
      refine wp_bipush d_bk_readTunes_95 ⟨by decide, by decide⟩ (by decide) ?_
      refine wp_icmp_ge 114 d_bk_readTunes_97 (by decide) (fun c4 => ?_) (fun c4 => ?_)
      · have h := h.1 c4
        refine wp_sub (L2 := [(0, pR 1), (1, pR 6), (2, pI _), (3, pI _), (4, pI _), (5, pI _)]) [0, 1, 2, 3, 4, 5] rfl ?_
        exact h
      · have h := h.2 c4
        refine wp_aload_n d_bk_readTunes_100 rfl 0 rfl ?_
        refine wp_getr d_bk_readTunes_101 1 s_1 rfl (Nat.le_of_ble_eq_true rfl) (Nat.le_of_ble_eq_true rfl) rfl rfl lk_bk_19 ?_
        refine wp_iload_n d_bk_readTunes_104 rfl 2 rfl ?_
        obtain ⟨⟨a5, b5⟩, h⟩ := h
        refine wp_aald (t := 1) d_bk_readTunes_105 s_3 rfl (Nat.le_of_ble_eq_true rfl) a5 b5 (k_tunes _ (nat_lt a5 b5)).1 ?_
        refine wp_iload d_bk_readTunes_106 6 rfl ?_
        refine wp_callV [pI _] _ d_bk_readTunes_108 jd_tu_add lk_bk_50 rfl (k_tunes _ (nat_lt a5 b5)).2.1 rfl (Nat.lt_of_succ_lt (k_tunes _ (nat_lt a5 b5)).2.2.2.2) (Nat.le_of_ble_eq_true rfl) rfl ?_
        refine clV_k h ?_
        intro M2 h
        refine wp_goto 140 d_bk_readTunes_111 (by decide) ?_
        refine wp_sub (L2 := [(0, pR 1), (1, pR 6), (2, pI _), (3, pI _), (4, pI _)]) [0, 1, 2, 3, 4] rfl ?_
        exact h
set_option maxHeartbeats 8000000 in
theorem b_bk_readTunes_171 {G : GT} {M : MT} {P : MT → Prop} (v2 : Int) (v3 : Int) (v4 : Int)
    (h : (¬ v3 = (-1) → WpV G J_bk_readTunes 193 [(0, pR 1), (1, pR 6), (2, pI v2), (3, pI v3), (4, pI v4)] [] M P) ∧ (v3 = (-1) → ((M 6 1) ≤ 0 → WpV G J_bk_readTunes 193 [(0, pR 1), (1, pR 6), (2, pI v2), (3, pI v3), (4, pI v4)] [] M P) ∧ (0 < (M 6 1) → (¬ v4 = 0 → WpV G J_bk_readTunes 193 [(0, pR 1), (1, pR 6), (2, pI v2), (3, pI v3), (4, pI v4)] [] M P) ∧ (v4 = 0 → WpV G J_bk_readTunes 193 [(0, pR 1), (1, pR 6), (2, pI v2), (3, pI (M 6 1)), (4, pI v4)] [] M P)))) : WpV G J_bk_readTunes 171 [(0, pR 1), (1, pR 6), (2, pI v2), (3, pI v3), (4, pI v4)] [] M P := by
  show Wp G J_bk_readTunes 0 0 171 [(0, pR 1), (1, pR 6), (2, pI v2), (3, pI v3), (4, pI v4)] [] NN RF M _
  refine wp_iload_n d_bk_readTunes_171 rfl 3 rfl ?_
  refine wp_iconst d_bk_readTunes_172 ⟨by decide, by decide⟩ ?_
  refine wp_icmp_ne 193 d_bk_readTunes_173 (by decide) (fun c1 => ?_) (fun c1 => ?_)
  · have h := h.1 c1
    exact h
  · have h := h.2 c1
    refine wp_aload_n d_bk_readTunes_176 rfl 1 rfl ?_
    refine wp_geti d_bk_readTunes_177 1 s_6 rfl (Nat.le_of_ble_eq_true rfl) (Nat.le_of_ble_eq_true rfl) rfl lk_bk_45 ?_
    refine wp_if_le 193 d_bk_readTunes_180 (by decide) (fun c2 => ?_) (fun c2 => ?_)
    · have h := h.1 c2
      exact h
    · have h := h.2 c2
      refine wp_iload d_bk_readTunes_183 4 rfl ?_
      refine wp_if_ne 193 d_bk_readTunes_185 (by decide) (fun c3 => ?_) (fun c3 => ?_)
      · have h := h.1 c3
        exact h
      · have h := h.2 c3
        refine wp_aload_n d_bk_readTunes_188 rfl 1 rfl ?_
        refine wp_geti d_bk_readTunes_189 1 s_6 rfl (Nat.le_of_ble_eq_true rfl) (Nat.le_of_ble_eq_true rfl) rfl lk_bk_45 ?_
        refine wp_istore_n (L2 := [(0, pR 1), (1, pR 6), (2, pI _), (3, pI _), (4, pI _)]) d_bk_readTunes_192 rfl (Nat.le_of_ble_eq_true rfl) [1, 2, 3, 0, 4] rfl ?_
        exact h
set_option maxHeartbeats 8000000 in
theorem b_bk_readTunes_114 {G : GT} {M : MT} {P : MT → Prop} (v2 : Int) (v3 : Int) (v4 : Int) (v5 : Int)
    (h : (0 ≤ v4 ∧ v4 < 59) ∧ ((¬ (M 7 (v4.toNat)) = 59 → WpV G J_bk_readTunes 140 [(0, pR 1), (1, pR 6), (2, pI v2), (3, pI v4), (4, pI v4)] [] M P) ∧ ((M 7 (v4.toNat)) = 59 → (v5 ≤ 0 → WpV G J_bk_readTunes 140 [(0, pR 1), (1, pR 6), (2, pI v2), (3, pI v4), (4, pI v4)] [] M P) ∧ (0 < v5 → WpV G J_bk_readTunes 140 [(0, pR 1), (1, pR 6), (2, pI (w32 (v2 + 1))), (3, pI v3), (4, pI v4)] [] M P)))) : WpV G J_bk_readTunes 114 [(0, pR 1), (1, pR 6), (2, pI v2), (3, pI v3), (4, pI v4), (5, pI v5)] [] M P := by
  show Wp G J_bk_readTunes 0 0 114 [(0, pR 1), (1, pR 6), (2, pI v2), (3, pI v3), (4, pI v4), (5, pI v5)] [] NN RF M _
  refine wp_aload_n d_bk_readTunes_114 rfl 1 rfl ?_
  refine wp_getr d_bk_readTunes_115 0 s_6 rfl (Nat.le_of_ble_eq_true rfl) (Nat.le_of_ble_eq_true rfl) rfl rfl lk_bk_53 ?_
  refine wp_iload d_bk_readTunes_118 4 rfl ?_
  obtain ⟨⟨a1, b1⟩, h⟩ := h
  refine wp_iald d_bk_readTunes_120 s_7 (Nat.le_of_ble_eq_true rfl) a1 b1 ?_
  refine wp_bipush d_bk_readTunes_121 ⟨by decide, by decide⟩ (by decide) ?_
  refine wp_icmp_ne 137 d_bk_readTunes_123 (by decide) (fun c2 => ?_) (fun c2 => ?_)
  · have h := h.1 c2
    refine wp_iload d_bk_readTunes_137 4 rfl ?_
    refine wp_istore_n (L2 := [(0, pR 1), (1, pR 6), (2, pI _), (3, pI _), (4, pI _), (5, pI _)]) d_bk_readTunes_139 rfl (Nat.le_of_ble_eq_true rfl) [1, 2, 3, 0, 4, 5] rfl ?_
    refine wp_sub (L2 := [(0, pR 1), (1, pR 6), (2, pI _), (3, pI _), (4, pI _)]) [0, 1, 2, 3, 4] rfl ?_
    exact h
  · have h := h.2 c2
    refine wp_iload d_bk_readTunes_126 5 rfl ?_
    refine wp_if_le 137 d_bk_readTunes_128 (by decide) (fun c3 => ?_) (fun c3 => ?_)
    · have h := h.1 c3
      refine wp_iload d_bk_readTunes_137 4 rfl ?_
      refine wp_istore_n (L2 := [(0, pR 1), (1, pR 6), (2, pI _), (3, pI _), (4, pI _), (5, pI _)]) d_bk_readTunes_139 rfl (Nat.le_of_ble_eq_true rfl) [1, 2, 3, 0, 4, 5] rfl ?_
      refine wp_sub (L2 := [(0, pR 1), (1, pR 6), (2, pI _), (3, pI _), (4, pI _)]) [0, 1, 2, 3, 4] rfl ?_
      exact h
    · have h := h.2 c3
      refine wp_iinc (L2 := [(0, pR 1), (1, pR 6), (2, pI _), (3, pI _), (4, pI _), (5, pI _)]) d_bk_readTunes_131 2 rfl (Nat.le_of_ble_eq_true rfl) [1, 2, 0, 3, 4, 5] rfl ?_
      refine wp_goto 140 d_bk_readTunes_134 (by decide) ?_
      refine wp_sub (L2 := [(0, pR 1), (1, pR 6), (2, pI _), (3, pI _), (4, pI _)]) [0, 1, 2, 3, 4] rfl ?_
      exact h
set_option maxHeartbeats 8000000 in
theorem b_bk_readTunes_140 {G : GT} {M : MT} {P : MT → Prop} (v2 : Int) (v3 : Int) (v4 : Int)
    (h : WpV G J_bk_readTunes 38 [(0, pR 1), (1, pR 6), (2, pI v2), (3, pI v3), (4, pI (w32 (v4 + 1)))] [] M P) : WpV G J_bk_readTunes 140 [(0, pR 1), (1, pR 6), (2, pI v2), (3, pI v3), (4, pI v4)] [] M P := by
  show Wp G J_bk_readTunes 0 0 140 [(0, pR 1), (1, pR 6), (2, pI v2), (3, pI v3), (4, pI v4)] [] NN RF M _
  refine wp_iinc (L2 := [(0, pR 1), (1, pR 6), (2, pI _), (3, pI _), (4, pI _)]) d_bk_readTunes_140 4 rfl (Nat.le_of_ble_eq_true rfl) [1, 2, 3, 4, 0] rfl ?_
  refine wp_goto 38 d_bk_readTunes_143 (by decide) ?_
  exact h
set_option maxHeartbeats 8000000 in
theorem b_bk_readTunes_193 {G : GT} {M : MT} {P : MT → Prop} (v2 : Int) (v3 : Int) (v4 : Int)
    (h : ∀ M1 : MT, M1 = mu M 6 2 v3 → ((¬ v3 = (-1) → ∀ M2 : MT, M2 = mu M1 1 4 0 → (P M2)) ∧ (v3 = (-1) → (v4 = 0 → ∀ M2 : MT, M2 = mu M1 1 4 0 → (P M2)) ∧ (¬ v4 = 0 → ∀ M2 : MT, M2 = mu M1 1 4 (w32 (v2 + 1)) → (P M2))))) : WpV G J_bk_readTunes 193 [(0, pR 1), (1, pR 6), (2, pI v2), (3, pI v3), (4, pI v4)] [] M P := by
  show Wp G J_bk_readTunes 0 0 193 [(0, pR 1), (1, pR 6), (2, pI v2), (3, pI v3), (4, pI v4)] [] NN RF M _
  refine wp_aload_n d_bk_readTunes_193 rfl 1 rfl ?_
  refine wp_iload_n d_bk_readTunes_194 rfl 3 rfl ?_
  refine wp_puti d_bk_readTunes_195 2 s_6 rfl (Nat.le_of_ble_eq_true rfl) (Nat.le_of_ble_eq_true rfl) (Or.inl rfl) rfl lk_bk_57 ?_
  have h := h _ rfl
  refine wp_aload_n d_bk_readTunes_198 rfl 0 rfl ?_
  refine wp_iload_n d_bk_readTunes_199 rfl 3 rfl ?_
  refine wp_iconst d_bk_readTunes_200 ⟨by decide, by decide⟩ ?_
  refine wp_icmp_ne 215 d_bk_readTunes_201 (by decide) (fun c1 => ?_) (fun c1 => ?_)
  · have h := h.1 c1
    refine wp_iconst d_bk_readTunes_215 ⟨by decide, by decide⟩ ?_
    refine wp_puti d_bk_readTunes_216 4 s_1 rfl (Nat.le_of_ble_eq_true rfl) (Nat.le_of_ble_eq_true rfl) (Or.inl rfl) rfl lk_bk_60 ?_
    have h := h _ rfl
    exact wp_vret d_bk_readTunes_219 rfl ⟨Nat.le_of_ble_eq_true rfl, Nat.le_of_ble_eq_true rfl⟩ ⟨rfl, rfl, rfl, h⟩
  · have h := h.2 c1
    refine wp_iload d_bk_readTunes_204 4 rfl ?_
    refine wp_if_eq 215 d_bk_readTunes_206 (by decide) (fun c2 => ?_) (fun c2 => ?_)
    · have h := h.1 c2
      refine wp_iconst d_bk_readTunes_215 ⟨by decide, by decide⟩ ?_
      refine wp_puti d_bk_readTunes_216 4 s_1 rfl (Nat.le_of_ble_eq_true rfl) (Nat.le_of_ble_eq_true rfl) (Or.inl rfl) rfl lk_bk_60 ?_
      have h := h _ rfl
      exact wp_vret d_bk_readTunes_219 rfl ⟨Nat.le_of_ble_eq_true rfl, Nat.le_of_ble_eq_true rfl⟩ ⟨rfl, rfl, rfl, h⟩
    · have h := h.2 c2
      refine wp_iload_n d_bk_readTunes_209 rfl 2 rfl ?_
      refine wp_iconst d_bk_readTunes_210 ⟨by decide, by decide⟩ ?_
      refine wp_iadd d_bk_readTunes_211 ?_
      refine wp_goto 216 d_bk_readTunes_212 (by decide) ?_
      refine wp_puti d_bk_readTunes_216 4 s_1 rfl (Nat.le_of_ble_eq_true rfl) (Nat.le_of_ble_eq_true rfl) (Or.inl rfl) rfl lk_bk_60 ?_
      have h := h _ rfl
      exact wp_vret d_bk_readTunes_219 rfl ⟨Nat.le_of_ble_eq_true rfl, Nat.le_of_ble_eq_true rfl⟩ ⟨rfl, rfl, rfl, h⟩
set_option maxHeartbeats 8000000 in
theorem e_bk_readBorrowers {G : GT} {M : MT} {P : MT → Prop} 
    (h : WpV G J_bk_readBorrowers 11 [(0, pR 1), (1, pR 8), (2, pI (-1)), (3, pI 0)] [] M P) : ClV G J_bk_readBorrowers M [pR 1] P := by
  show Wp G J_bk_readBorrowers 0 0 0 [(0, pR 1)] [] NN RF M _
  refine wp_aload_n d_bk_readBorrowers_0 rfl 0 rfl ?_
  refine wp_getr d_bk_readBorrowers_1 0 s_1 rfl (Nat.le_of_ble_eq_true rfl) (Nat.le_of_ble_eq_true rfl) rfl rfl lk_bk_11 ?_
  refine wp_iconst d_bk_readBorrowers_4 ⟨by decide, by decide⟩ ?_
  refine wp_aald (t := 0) d_bk_readBorrowers_5 s_2 rfl (Nat.le_of_ble_eq_true rfl) (by decide) (by decide) (r := 8) rfl ?_
  refine wp_astore_n (L2 := [(0, pR 1), (1, pR 8)]) d_bk_readBorrowers_6 rfl (Nat.le_of_ble_eq_true rfl) [1, 0] rfl ?_
  refine wp_iconst d_bk_readBorrowers_7 ⟨by decide, by decide⟩ ?_
  refine wp_istore_n (L2 := [(0, pR 1), (1, pR 8), (2, pI _)]) d_bk_readBorrowers_8 rfl (Nat.le_of_ble_eq_true rfl) [1, 2, 0] rfl ?_
  refine wp_iconst d_bk_readBorrowers_9 ⟨by decide, by decide⟩ ?_
  refine wp_istore_n (L2 := [(0, pR 1), (1, pR 8), (2, pI _), (3, pI _)]) d_bk_readBorrowers_10 rfl (Nat.le_of_ble_eq_true rfl) [1, 2, 3, 0] rfl ?_
  exact h
set_option maxHeartbeats 8000000 in
theorem b_bk_readBorrowers_11 {G : GT} {M : MT} {P : MT → Prop} (v2 : Int) (v3 : Int)
    (h : ((M 8 1) ≤ v3 → WpV G J_bk_readBorrowers 45 [(0, pR 1), (1, pR 8), (2, pI v2)] [] M P) ∧ (v3 < (M 8 1) → (¬ v2 = (-1) → WpV G J_bk_readBorrowers 45 [(0, pR 1), (1, pR 8), (2, pI v2)] [] M P) ∧ (v2 = (-1) → ClI G J_bk_goesOn M [pR 1, pR 8, pI v3] (fun x3 M1 => ((x3 = 0 → WpV G J_bk_readBorrowers 11 [(0, pR 1), (1, pR 8), (2, pI v3), (3, pI (w32 (v3 + 1)))] [] M1 P) ∧ (¬ x3 = 0 → WpV G J_bk_readBorrowers 11 [(0, pR 1), (1, pR 8), (2, pI (-1)), (3, pI (w32 (v3 + 1)))] [] M1 P)))))) : WpV G J_bk_readBorrowers 11 [(0, pR 1), (1, pR 8), (2, pI v2), (3, pI v3)] [] M P := by
  show Wp G J_bk_readBorrowers 0 0 11 [(0, pR 1), (1, pR 8), (2, pI v2), (3, pI v3)] [] NN RF M _
  refine wp_iload_n d_bk_readBorrowers_11 rfl 3 rfl ?_
  refine wp_aload_n d_bk_readBorrowers_12 rfl 1 rfl ?_
  refine wp_geti d_bk_readBorrowers_13 1 s_8 rfl (Nat.le_of_ble_eq_true rfl) (Nat.le_of_ble_eq_true rfl) rfl lk_bk_45 ?_
  refine wp_icmp_ge 45 d_bk_readBorrowers_16 (by decide) (fun c1 => ?_) (fun c1 => ?_)
  · have h := h.1 c1
    refine wp_sub (L2 := [(0, pR 1), (1, pR 8), (2, pI _)]) [0, 1, 2] rfl ?_
    exact h
  · have h := h.2 c1
    refine wp_iload_n d_bk_readBorrowers_19 rfl 2 rfl ?_
    refine wp_iconst d_bk_readBorrowers_20 ⟨by decide, by decide⟩ ?_
    refine wp_icmp_ne 45 d_bk_readBorrowers_21 (by decide) (fun c2 => ?_) (fun c2 => ?_)
    · have h := h.1 c2
      refine wp_sub (L2 := [(0, pR 1), (1, pR 8), (2, pI _)]) [0, 1, 2] rfl ?_
      exact h
    · have h := h.2 c2
      refine wp_aload_n d_bk_readBorrowers_24 rfl 0 rfl ?_
      refine wp_aload_n d_bk_readBorrowers_25 rfl 1 rfl ?_
      refine wp_iload_n d_bk_readBorrowers_26 rfl 3 rfl ?_
      refine wp_callV [pR _, pI _] _ d_bk_readBorrowers_27 jd_bk_goesOn lk_bk_63 rfl s_1 rfl (Nat.le_of_ble_eq_true rfl) (Nat.le_of_ble_eq_true rfl) rfl ?_
      refine clI_k h ?_
      intro x3 M1 h
      refine wp_if_eq 37 d_bk_readBorrowers_30 (by decide) (fun c4 => ?_) (fun c4 => ?_)
      · have h := h.1 c4
        refine wp_iload_n d_bk_readBorrowers_37 rfl 3 rfl ?_
        refine wp_istore_n (L2 := [(0, pR 1), (1, pR 8), (2, pI _), (3, pI _)]) d_bk_readBorrowers_38 rfl (Nat.le_of_ble_eq_true rfl) [1, 2, 0, 3] rfl ?_
        refine wp_iinc (L2 := [(0, pR 1), (1, pR 8), (2, pI _), (3, pI _)]) d_bk_readBorrowers_39 3 rfl (Nat.le_of_ble_eq_true rfl) [1, 2, 3, 0] rfl ?_
        refine wp_goto 11 d_bk_readBorrowers_42 (by decide) ?_
        exact h
      · have h := h.2 c4
        refine wp_iconst d_bk_readBorrowers_33 ⟨by decide, by decide⟩ ?_
        refine wp_goto 38 d_bk_readBorrowers_34 (by decide) ?_
        refine wp_istore_n (L2 := [(0, pR 1), (1, pR 8), (2, pI _), (3, pI _)]) d_bk_readBorrowers_38 rfl (Nat.le_of_ble_eq_true rfl) [1, 2, 0, 3] rfl ?_
        refine wp_iinc (L2 := [(0, pR 1), (1, pR 8), (2, pI _), (3, pI _)]) d_bk_readBorrowers_39 3 rfl (Nat.le_of_ble_eq_true rfl) [1, 2, 3, 0] rfl ?_
        refine wp_goto 11 d_bk_readBorrowers_42 (by decide) ?_
        exact h
set_option maxHeartbeats 8000000 in
theorem b_bk_readBorrowers_45 {G : GT} {M : MT} {P : MT → Prop} (v2 : Int)
    (h : (¬ v2 = (-1) → WpV G J_bk_readBorrowers 72 [(0, pR 1), (1, pR 8), (2, pI v2)] [] M P) ∧ (v2 = (-1) → ((M 8 1) ≤ 0 → WpV G J_bk_readBorrowers 72 [(0, pR 1), (1, pR 8), (2, pI v2)] [] M P) ∧ (0 < (M 8 1) → ((w32 (Int.tmod (M 8 1) 4)) = 3 → WpV G J_bk_readBorrowers 72 [(0, pR 1), (1, pR 8), (2, pI v2)] [] M P) ∧ (¬ (w32 (Int.tmod (M 8 1) 4)) = 3 → WpV G J_bk_readBorrowers 72 [(0, pR 1), (1, pR 8), (2, pI (M 8 1))] [] M P)))) : WpV G J_bk_readBorrowers 45 [(0, pR 1), (1, pR 8), (2, pI v2)] [] M P := by
  show Wp G J_bk_readBorrowers 0 0 45 [(0, pR 1), (1, pR 8), (2, pI v2)] [] NN RF M _
  refine wp_iload_n d_bk_readBorrowers_45 rfl 2 rfl ?_
  refine wp_iconst d_bk_readBorrowers_46 ⟨by decide, by decide⟩ ?_
  refine wp_icmp_ne 72 d_bk_readBorrowers_47 (by decide) (fun c1 => ?_) (fun c1 => ?_)
  · have h := h.1 c1
    exact h
  · have h := h.2 c1
    refine wp_aload_n d_bk_readBorrowers_50 rfl 1 rfl ?_
    refine wp_geti d_bk_readBorrowers_51 1 s_8 rfl (Nat.le_of_ble_eq_true rfl) (Nat.le_of_ble_eq_true rfl) rfl lk_bk_45 ?_
    refine wp_if_le 72 d_bk_readBorrowers_54 (by decide) (fun c2 => ?_) (fun c2 => ?_)
    · have h := h.1 c2
      exact h
    · have h := h.2 c2
      refine wp_aload_n d_bk_readBorrowers_57 rfl 1 rfl ?_
      refine wp_geti d_bk_readBorrowers_58 1 s_8 rfl (Nat.le_of_ble_eq_true rfl) (Nat.le_of_ble_eq_true rfl) rfl lk_bk_45 ?_
      refine wp_iconst d_bk_readBorrowers_61 ⟨by decide, by decide⟩ ?_
      refine wp_irem d_bk_readBorrowers_62 (by decide) ?_
      refine wp_iconst d_bk_readBorrowers_63 ⟨by decide, by decide⟩ ?_
      refine wp_icmp_eq 72 d_bk_readBorrowers_64 (by decide) (fun c3 => ?_) (fun c3 => ?_)
      · have h := h.1 c3
        exact h
      · have h := h.2 c3
        refine wp_aload_n d_bk_readBorrowers_67 rfl 1 rfl ?_
        refine wp_geti d_bk_readBorrowers_68 1 s_8 rfl (Nat.le_of_ble_eq_true rfl) (Nat.le_of_ble_eq_true rfl) rfl lk_bk_45 ?_
        refine wp_istore_n (L2 := [(0, pR 1), (1, pR 8), (2, pI _)]) d_bk_readBorrowers_71 rfl (Nat.le_of_ble_eq_true rfl) [1, 2, 0] rfl ?_
        exact h
set_option maxHeartbeats 8000000 in
theorem b_bk_readBorrowers_72 {G : GT} {M : MT} {P : MT → Prop} (v2 : Int)
    (h : ∀ M1 : MT, M1 = mu M 8 2 v2 → ((¬ v2 = (-1) → ∀ M2 : MT, M2 = mu M1 1 5 0 → (P M2)) ∧ (v2 = (-1) → ∀ M2 : MT, M2 = mu M1 1 5 (w32 (Int.tdiv (w32 ((M1 8 1) + 1)) 4)) → (P M2)))) : WpV G J_bk_readBorrowers 72 [(0, pR 1), (1, pR 8), (2, pI v2)] [] M P := by
  show Wp G J_bk_readBorrowers 0 0 72 [(0, pR 1), (1, pR 8), (2, pI v2)] [] NN RF M _
  refine wp_aload_n d_bk_readBorrowers_72 rfl 1 rfl ?_
  refine wp_iload_n d_bk_readBorrowers_73 rfl 2 rfl ?_
  refine wp_puti d_bk_readBorrowers_74 2 s_8 rfl (Nat.le_of_ble_eq_true rfl) (Nat.le_of_ble_eq_true rfl) (Or.inl rfl) rfl lk_bk_57 ?_
  have h := h _ rfl
  refine wp_aload_n d_bk_readBorrowers_77 rfl 0 rfl ?_
  refine wp_iload_n d_bk_readBorrowers_78 rfl 2 rfl ?_
  refine wp_iconst d_bk_readBorrowers_79 ⟨by decide, by decide⟩ ?_
  refine wp_icmp_ne 94 d_bk_readBorrowers_80 (by decide) (fun c1 => ?_) (fun c1 => ?_)
  · have h := h.1 c1
    refine wp_iconst d_bk_readBorrowers_94 ⟨by decide, by decide⟩ ?_
    refine wp_puti d_bk_readBorrowers_95 5 s_1 rfl (Nat.le_of_ble_eq_true rfl) (Nat.le_of_ble_eq_true rfl) (Or.inl rfl) rfl lk_bk_67 ?_
    have h := h _ rfl
    exact wp_vret d_bk_readBorrowers_98 rfl ⟨Nat.le_of_ble_eq_true rfl, Nat.le_of_ble_eq_true rfl⟩ ⟨rfl, rfl, rfl, h⟩
  · have h := h.2 c1
    refine wp_aload_n d_bk_readBorrowers_83 rfl 1 rfl ?_
    refine wp_geti d_bk_readBorrowers_84 1 s_8 rfl (Nat.le_of_ble_eq_true rfl) (Nat.le_of_ble_eq_true rfl) rfl lk_bk_45 ?_
    refine wp_iconst d_bk_readBorrowers_87 ⟨by decide, by decide⟩ ?_
    refine wp_iadd d_bk_readBorrowers_88 ?_
    refine wp_iconst d_bk_readBorrowers_89 ⟨by decide, by decide⟩ ?_
    refine wp_idiv d_bk_readBorrowers_90 (by decide) ?_
    refine wp_goto 95 d_bk_readBorrowers_91 (by decide) ?_
    refine wp_puti d_bk_readBorrowers_95 5 s_1 rfl (Nat.le_of_ble_eq_true rfl) (Nat.le_of_ble_eq_true rfl) (Or.inl rfl) rfl lk_bk_67 ?_
    have h := h _ rfl
    exact wp_vret d_bk_readBorrowers_98 rfl ⟨Nat.le_of_ble_eq_true rfl, Nat.le_of_ble_eq_true rfl⟩ ⟨rfl, rfl, rfl, h⟩
set_option maxHeartbeats 8000000 in
theorem e_bk_goesOn {G : GT} {M : MT} {P : Int → MT → Prop} (v2 : Int)
    (h : ((w32 (Int.tdiv v2 4)) < 6 → (0 ≤ (w32 (Int.tdiv v2 4)) ∧ (w32 (Int.tdiv v2 4)) < 6) ∧ (((w32 (Int.tmod v2 4)) = 0 → ClI G J_tx_noteAt M [pR 8, pI v2] (fun x4 M1 => (∀ M2 : MT, M2 = mu M1 (22 + (w32 (Int.tdiv v2 4)).toNat) 0 x4 → (((M2 (22 + (w32 (Int.tdiv v2 4)).toNat) 0) = (-1) → P 0 M2) ∧ (¬ (M2 (22 + (w32 (Int.tdiv v2 4)).toNat) 0) = (-1) → P 1 M2))))) ∧ ((w32 (Int.tmod v2 4)) = 1 → (0 ≤ v2 ∧ v2 < 23) ∧ (ClI G J_js_indexOf1 M [pR 1000, pI (i2c (M 9 (v2.toNat)))] (fun x5 M1 => (∀ M2 : MT, M2 = mu M1 (22 + (w32 (Int.tdiv v2 4)).toNat) 1 x5 → (((M2 (22 + (w32 (Int.tdiv v2 4)).toNat) 1) = (-1) → P 0 M2) ∧ (¬ (M2 (22 + (w32 (Int.tdiv v2 4)).toNat) 1) = (-1) → P 1 M2)))))) ∧ ((w32 (Int.tmod v2 4)) = 2 → ClI G J_tx_noteAt M [pR 8, pI v2] (fun x4 M1 => (∀ M2 : MT, M2 = mu M1 (22 + (w32 (Int.tdiv v2 4)).toNat) 2 x4 → (((M2 (22 + (w32 (Int.tdiv v2 4)).toNat) 2) = (-1) → P 0 M2) ∧ (¬ (M2 (22 + (w32 (Int.tdiv v2 4)).toNat) 2) = (-1) → P 1 M2))))) ∧ (((w32 (Int.tmod v2 4)) < 0 ∨ 2 < (w32 (Int.tmod v2 4))) → (0 ≤ v2 ∧ v2 < 23) ∧ ((¬ (M 9 (v2.toNat)) = 59 → P 0 M) ∧ ((M 9 (v2.toNat)) = 59 → P 1 M))))) ∧ (6 ≤ (w32 (Int.tdiv v2 4)) → P 0 M)) : ClI G J_bk_goesOn M [pR 1, pR 8, pI v2] P := by
  show Wp G J_bk_goesOn 0 0 0 [(0, pR 1), (1, pR 8), (2, pI v2)] [] NN RF M _
  refine wp_iload_n d_bk_goesOn_0 rfl 2 rfl ?_
  refine wp_iconst d_bk_goesOn_1 ⟨by decide, by decide⟩ ?_
  refine wp_idiv d_bk_goesOn_2 (by decide) ?_
  refine wp_bipush d_bk_goesOn_3 ⟨by decide, by decide⟩ (by decide) ?_
  refine wp_icmp_lt 10 d_bk_goesOn_5 (by decide) (fun c1 => ?_) (fun c1 => ?_)
  · have h := h.1 c1
    refine wp_aload_n d_bk_goesOn_10 rfl 0 rfl ?_
    refine wp_getr d_bk_goesOn_11 2 s_1 rfl (Nat.le_of_ble_eq_true rfl) (Nat.le_of_ble_eq_true rfl) rfl rfl lk_bk_25 ?_
    refine wp_iload_n d_bk_goesOn_14 rfl 2 rfl ?_
    refine wp_iconst d_bk_goesOn_15 ⟨by decide, by decide⟩ ?_
    refine wp_idiv d_bk_goesOn_16 (by decide) ?_
    obtain ⟨⟨a2, b2⟩, h⟩ := h
    refine wp_aald (t := 2) d_bk_goesOn_17 s_4 rfl (Nat.le_of_ble_eq_true rfl) a2 b2 (k_borrowers _ (nat_lt a2 b2)).1 ?_
    refine wp_astore_n (L2 := [(0, pR 1), (1, pR 8), (2, pI _), (3, pR _)]) d_bk_goesOn_18 rfl (Nat.le_of_ble_eq_true rfl) [1, 2, 3, 0] rfl ?_
    refine wp_iload_n d_bk_goesOn_19 rfl 2 rfl ?_
    refine wp_iconst d_bk_goesOn_20 ⟨by decide, by decide⟩ ?_
    refine wp_irem d_bk_goesOn_21 (by decide) ?_
    by_cases c3_0 : (w32 (Int.tmod v2 4)) = 0
    · refine wp_tabIn 48 d_bk_goesOn_22 (by omega) (by omega) (by rw [c3_0]; rfl) (by decide) ?_
      have h := h.1 c3_0
      refine wp_aload_n d_bk_goesOn_48 rfl 3 rfl ?_
      refine wp_aload_n d_bk_goesOn_49 rfl 1 rfl ?_
      refine wp_iload_n d_bk_goesOn_50 rfl 2 rfl ?_
      refine wp_callV [pI _] _ d_bk_goesOn_51 jd_tx_noteAt lk_bk_46 rfl s_8 rfl (Nat.le_of_ble_eq_true rfl) (Nat.le_of_ble_eq_true rfl) rfl ?_
      refine clI_k h ?_
      intro x4 M1 h
      refine wp_puti d_bk_goesOn_54 0 (k_borrowers _ (nat_lt a2 b2)).2.1 rfl (k_borrowers _ (nat_lt a2 b2)).2.2 (Nat.le_of_ble_eq_true rfl) (Or.inl rfl) rfl lk_bk_70 ?_
      have h := h _ rfl
      refine wp_aload_n d_bk_goesOn_57 rfl 3 rfl ?_
      refine wp_geti d_bk_goesOn_58 0 (k_borrowers _ (nat_lt a2 b2)).2.1 rfl (k_borrowers _ (nat_lt a2 b2)).2.2 (Nat.le_of_ble_eq_true rfl) rfl lk_bk_70 ?_
      refine wp_iconst d_bk_goesOn_61 ⟨by decide, by decide⟩ ?_
      refine wp_icmp_eq 69 d_bk_goesOn_62 (by decide) (fun c5 => ?_) (fun c5 => ?_)
      · have h := h.1 c5
        refine wp_iconst d_bk_goesOn_69 ⟨by decide, by decide⟩ ?_
        exact wp_zret d_bk_goesOn_70 rfl ⟨Nat.le_of_ble_eq_true rfl, Nat.le_of_ble_eq_true rfl⟩ (by decide) ⟨_, rfl, rfl, rfl, h⟩
      · have h := h.2 c5
        refine wp_iconst d_bk_goesOn_65 ⟨by decide, by decide⟩ ?_
        refine wp_goto 70 d_bk_goesOn_66 (by decide) ?_
        exact wp_zret d_bk_goesOn_70 rfl ⟨Nat.le_of_ble_eq_true rfl, Nat.le_of_ble_eq_true rfl⟩ (by decide) ⟨_, rfl, rfl, rfl, h⟩
    replace h := h.2
    by_cases c3_1 : (w32 (Int.tmod v2 4)) = 1
    · refine wp_tabIn 71 d_bk_goesOn_22 (by omega) (by omega) (by rw [c3_1]; rfl) (by decide) ?_
      have h := h.1 c3_1
      refine wp_aload_n d_bk_goesOn_71 rfl 3 rfl ?_
      refine wp_ldcS d_bk_goesOn_72 rfl ?_
      refine wp_aload_n d_bk_goesOn_74 rfl 1 rfl ?_
      refine wp_getr d_bk_goesOn_75 0 s_8 rfl (Nat.le_of_ble_eq_true rfl) (Nat.le_of_ble_eq_true rfl) rfl rfl lk_bk_53 ?_
      refine wp_iload_n d_bk_goesOn_78 rfl 2 rfl ?_
      obtain ⟨⟨a4, b4⟩, h⟩ := h
      refine wp_iald d_bk_goesOn_79 s_9 (Nat.le_of_ble_eq_true rfl) a4 b4 ?_
      refine wp_i2c d_bk_goesOn_80 ?_
      refine wp_callVS [pI _] d_bk_goesOn_81 jd_js_indexOf1 rfl lk_bk_75 rfl (Nat.le_of_ble_eq_true rfl) rfl ?_
      refine clI_k h ?_
      intro x5 M1 h
      refine wp_puti d_bk_goesOn_84 1 (k_borrowers _ (nat_lt a2 b2)).2.1 rfl (k_borrowers _ (nat_lt a2 b2)).2.2 (Nat.le_of_ble_eq_true rfl) (Or.inl rfl) rfl lk_bk_80 ?_
      have h := h _ rfl
      refine wp_aload_n d_bk_goesOn_87 rfl 3 rfl ?_
      refine wp_geti d_bk_goesOn_88 1 (k_borrowers _ (nat_lt a2 b2)).2.1 rfl (k_borrowers _ (nat_lt a2 b2)).2.2 (Nat.le_of_ble_eq_true rfl) rfl lk_bk_80 ?_
      refine wp_iconst d_bk_goesOn_91 ⟨by decide, by decide⟩ ?_
      refine wp_icmp_eq 99 d_bk_goesOn_92 (by decide) (fun c6 => ?_) (fun c6 => ?_)
      · have h := h.1 c6
        refine wp_iconst d_bk_goesOn_99 ⟨by decide, by decide⟩ ?_
        exact wp_zret d_bk_goesOn_100 rfl ⟨Nat.le_of_ble_eq_true rfl, Nat.le_of_ble_eq_true rfl⟩ (by decide) ⟨_, rfl, rfl, rfl, h⟩
      · have h := h.2 c6
        refine wp_iconst d_bk_goesOn_95 ⟨by decide, by decide⟩ ?_
        refine wp_goto 100 d_bk_goesOn_96 (by decide) ?_
        exact wp_zret d_bk_goesOn_100 rfl ⟨Nat.le_of_ble_eq_true rfl, Nat.le_of_ble_eq_true rfl⟩ (by decide) ⟨_, rfl, rfl, rfl, h⟩
    replace h := h.2
    by_cases c3_2 : (w32 (Int.tmod v2 4)) = 2
    · refine wp_tabIn 101 d_bk_goesOn_22 (by omega) (by omega) (by rw [c3_2]; rfl) (by decide) ?_
      have h := h.1 c3_2
      refine wp_aload_n d_bk_goesOn_101 rfl 3 rfl ?_
      refine wp_aload_n d_bk_goesOn_102 rfl 1 rfl ?_
      refine wp_iload_n d_bk_goesOn_103 rfl 2 rfl ?_
      refine wp_callV [pI _] _ d_bk_goesOn_104 jd_tx_noteAt lk_bk_46 rfl s_8 rfl (Nat.le_of_ble_eq_true rfl) (Nat.le_of_ble_eq_true rfl) rfl ?_
      refine clI_k h ?_
      intro x4 M1 h
      refine wp_puti d_bk_goesOn_107 2 (k_borrowers _ (nat_lt a2 b2)).2.1 rfl (k_borrowers _ (nat_lt a2 b2)).2.2 (Nat.le_of_ble_eq_true rfl) (Or.inl rfl) rfl lk_bk_83 ?_
      have h := h _ rfl
      refine wp_aload_n d_bk_goesOn_110 rfl 3 rfl ?_
      refine wp_geti d_bk_goesOn_111 2 (k_borrowers _ (nat_lt a2 b2)).2.1 rfl (k_borrowers _ (nat_lt a2 b2)).2.2 (Nat.le_of_ble_eq_true rfl) rfl lk_bk_83 ?_
      refine wp_iconst d_bk_goesOn_114 ⟨by decide, by decide⟩ ?_
      refine wp_icmp_eq 122 d_bk_goesOn_115 (by decide) (fun c5 => ?_) (fun c5 => ?_)
      · have h := h.1 c5
        refine wp_iconst d_bk_goesOn_122 ⟨by decide, by decide⟩ ?_
        exact wp_zret d_bk_goesOn_123 rfl ⟨Nat.le_of_ble_eq_true rfl, Nat.le_of_ble_eq_true rfl⟩ (by decide) ⟨_, rfl, rfl, rfl, h⟩
      · have h := h.2 c5
        refine wp_iconst d_bk_goesOn_118 ⟨by decide, by decide⟩ ?_
        refine wp_goto 123 d_bk_goesOn_119 (by decide) ?_
        exact wp_zret d_bk_goesOn_123 rfl ⟨Nat.le_of_ble_eq_true rfl, Nat.le_of_ble_eq_true rfl⟩ (by decide) ⟨_, rfl, rfl, rfl, h⟩
    replace h := h.2
    have c3 : (w32 (Int.tmod v2 4)) < 0 ∨ 2 < (w32 (Int.tmod v2 4)) := by omega
    refine wp_tabOut 124 d_bk_goesOn_22 c3 (by decide) ?_
    have h := h c3
    refine wp_aload_n d_bk_goesOn_124 rfl 1 rfl ?_
    refine wp_getr d_bk_goesOn_125 0 s_8 rfl (Nat.le_of_ble_eq_true rfl) (Nat.le_of_ble_eq_true rfl) rfl rfl lk_bk_53 ?_
    refine wp_iload_n d_bk_goesOn_128 rfl 2 rfl ?_
    obtain ⟨⟨a4, b4⟩, h⟩ := h
    refine wp_iald d_bk_goesOn_129 s_9 (Nat.le_of_ble_eq_true rfl) a4 b4 ?_
    refine wp_bipush d_bk_goesOn_130 ⟨by decide, by decide⟩ (by decide) ?_
    refine wp_icmp_ne 139 d_bk_goesOn_132 (by decide) (fun c5 => ?_) (fun c5 => ?_)
    · have h := h.1 c5
      refine wp_iconst d_bk_goesOn_139 ⟨by decide, by decide⟩ ?_
      exact wp_zret d_bk_goesOn_140 rfl ⟨Nat.le_of_ble_eq_true rfl, Nat.le_of_ble_eq_true rfl⟩ (by decide) ⟨_, rfl, rfl, rfl, h⟩
    · have h := h.2 c5
      refine wp_iconst d_bk_goesOn_135 ⟨by decide, by decide⟩ ?_
      refine wp_goto 140 d_bk_goesOn_136 (by decide) ?_
      exact wp_zret d_bk_goesOn_140 rfl ⟨Nat.le_of_ble_eq_true rfl, Nat.le_of_ble_eq_true rfl⟩ (by decide) ⟨_, rfl, rfl, rfl, h⟩
  · have h := h.2 c1
    refine wp_iconst d_bk_goesOn_8 ⟨by decide, by decide⟩ ?_
    exact wp_zret d_bk_goesOn_9 rfl ⟨Nat.le_of_ble_eq_true rfl, Nat.le_of_ble_eq_true rfl⟩ (by decide) ⟨_, rfl, rfl, rfl, h⟩
set_option maxHeartbeats 8000000 in
theorem e_bk_toldNotes {G : GT} {M : MT} {P : Int → MT → Prop} 
    (h : WpI G J_bk_toldNotes 4 [(0, pR 1), (1, pI 0), (2, pI 0)] [] M P) : ClI G J_bk_toldNotes M [pR 1] P := by
  show Wp G J_bk_toldNotes 0 0 0 [(0, pR 1)] [] NN RF M _
  refine wp_iconst d_bk_toldNotes_0 ⟨by decide, by decide⟩ ?_
  refine wp_istore_n (L2 := [(0, pR 1), (1, pI _)]) d_bk_toldNotes_1 rfl (Nat.le_of_ble_eq_true rfl) [1, 0] rfl ?_
  refine wp_iconst d_bk_toldNotes_2 ⟨by decide, by decide⟩ ?_
  refine wp_istore_n (L2 := [(0, pR 1), (1, pI _), (2, pI _)]) d_bk_toldNotes_3 rfl (Nat.le_of_ble_eq_true rfl) [1, 2, 0] rfl ?_
  exact h
set_option maxHeartbeats 8000000 in
theorem b_bk_toldNotes_4 {G : GT} {M : MT} {P : Int → MT → Prop} (v1 : Int) (v2 : Int)
    (h : ((M 1 4) ≤ v2 → P v1 M) ∧ (v2 < (M 1 4) → (0 ≤ v2 ∧ v2 < 6) ∧ (WpI G J_bk_toldNotes 4 [(0, pR 1), (1, pI (w32 (v1 + (M (10 + 2 * v2.toNat) 1)))), (2, pI (w32 (v2 + 1)))] [] M P))) : WpI G J_bk_toldNotes 4 [(0, pR 1), (1, pI v1), (2, pI v2)] [] M P := by
  show Wp G J_bk_toldNotes 0 0 4 [(0, pR 1), (1, pI v1), (2, pI v2)] [] NN RF M _
  refine wp_iload_n d_bk_toldNotes_4 rfl 2 rfl ?_
  refine wp_aload_n d_bk_toldNotes_5 rfl 0 rfl ?_
  refine wp_geti d_bk_toldNotes_6 4 s_1 rfl (Nat.le_of_ble_eq_true rfl) (Nat.le_of_ble_eq_true rfl) rfl lk_bk_60 ?_
  refine wp_icmp_ge 30 d_bk_toldNotes_9 (by decide) (fun c1 => ?_) (fun c1 => ?_)
  · have h := h.1 c1
    refine wp_iload_n d_bk_toldNotes_30 rfl 1 rfl ?_
    exact wp_iret d_bk_toldNotes_31 rfl ⟨Nat.le_of_ble_eq_true rfl, Nat.le_of_ble_eq_true rfl⟩ ⟨_, rfl, rfl, rfl, h⟩
  · have h := h.2 c1
    refine wp_iload_n d_bk_toldNotes_12 rfl 1 rfl ?_
    refine wp_aload_n d_bk_toldNotes_13 rfl 0 rfl ?_
    refine wp_getr d_bk_toldNotes_14 1 s_1 rfl (Nat.le_of_ble_eq_true rfl) (Nat.le_of_ble_eq_true rfl) rfl rfl lk_bk_19 ?_
    refine wp_iload_n d_bk_toldNotes_17 rfl 2 rfl ?_
    obtain ⟨⟨a2, b2⟩, h⟩ := h
    refine wp_aald (t := 1) d_bk_toldNotes_18 s_3 rfl (Nat.le_of_ble_eq_true rfl) a2 b2 (k_tunes _ (nat_lt a2 b2)).1 ?_
    refine wp_geti d_bk_toldNotes_19 1 (k_tunes _ (nat_lt a2 b2)).2.1 rfl (Nat.lt_of_succ_lt (k_tunes _ (nat_lt a2 b2)).2.2.2.2) (Nat.le_of_ble_eq_true rfl) rfl lk_bk_41 ?_
    refine wp_iadd d_bk_toldNotes_22 ?_
    refine wp_istore_n (L2 := [(0, pR 1), (1, pI _), (2, pI _)]) d_bk_toldNotes_23 rfl (Nat.le_of_ble_eq_true rfl) [1, 0, 2] rfl ?_
    refine wp_iinc (L2 := [(0, pR 1), (1, pI _), (2, pI _)]) d_bk_toldNotes_24 2 rfl (Nat.le_of_ble_eq_true rfl) [1, 2, 0] rfl ?_
    refine wp_goto 4 d_bk_toldNotes_27 (by decide) ?_
    exact h
set_option maxHeartbeats 8000000 in
theorem e_bk_countingLoans {G : GT} {M : MT} {P : Int → MT → Prop} 
    (h : WpI G J_bk_countingLoans 4 [(0, pR 1), (1, pI 0), (2, pI 0)] [] M P) : ClI G J_bk_countingLoans M [pR 1] P := by
  show Wp G J_bk_countingLoans 0 0 0 [(0, pR 1)] [] NN RF M _
  refine wp_iconst d_bk_countingLoans_0 ⟨by decide, by decide⟩ ?_
  refine wp_istore_n (L2 := [(0, pR 1), (1, pI _)]) d_bk_countingLoans_1 rfl (Nat.le_of_ble_eq_true rfl) [1, 0] rfl ?_
  refine wp_iconst d_bk_countingLoans_2 ⟨by decide, by decide⟩ ?_
  refine wp_istore_n (L2 := [(0, pR 1), (1, pI _), (2, pI _)]) d_bk_countingLoans_3 rfl (Nat.le_of_ble_eq_true rfl) [1, 2, 0] rfl ?_
  exact h
set_option maxHeartbeats 8000000 in
theorem b_bk_countingLoans_4 {G : GT} {M : MT} {P : Int → MT → Prop} (v1 : Int) (v2 : Int)
    (h : ((M 1 6) ≤ v2 → P v1 M) ∧ (v2 < (M 1 6) → (0 ≤ v2 ∧ v2 < 12) ∧ (((M (28 + v2.toNat) 4) = 0 → WpI G J_bk_countingLoans 4 [(0, pR 1), (1, pI (w32 (v1 + 0))), (2, pI (w32 (v2 + 1)))] [] M P) ∧ (¬ (M (28 + v2.toNat) 4) = 0 → WpI G J_bk_countingLoans 4 [(0, pR 1), (1, pI (w32 (v1 + 1))), (2, pI (w32 (v2 + 1)))] [] M P)))) : WpI G J_bk_countingLoans 4 [(0, pR 1), (1, pI v1), (2, pI v2)] [] M P := by
  show Wp G J_bk_countingLoans 0 0 4 [(0, pR 1), (1, pI v1), (2, pI v2)] [] NN RF M _
  refine wp_iload_n d_bk_countingLoans_4 rfl 2 rfl ?_
  refine wp_aload_n d_bk_countingLoans_5 rfl 0 rfl ?_
  refine wp_geti d_bk_countingLoans_6 6 s_1 rfl (Nat.le_of_ble_eq_true rfl) (Nat.le_of_ble_eq_true rfl) rfl lk_bk_86 ?_
  refine wp_icmp_ge 38 d_bk_countingLoans_9 (by decide) (fun c1 => ?_) (fun c1 => ?_)
  · have h := h.1 c1
    refine wp_iload_n d_bk_countingLoans_38 rfl 1 rfl ?_
    exact wp_iret d_bk_countingLoans_39 rfl ⟨Nat.le_of_ble_eq_true rfl, Nat.le_of_ble_eq_true rfl⟩ ⟨_, rfl, rfl, rfl, h⟩
  · have h := h.2 c1
    refine wp_iload_n d_bk_countingLoans_12 rfl 1 rfl ?_
    refine wp_aload_n d_bk_countingLoans_13 rfl 0 rfl ?_
    refine wp_getr d_bk_countingLoans_14 3 s_1 rfl (Nat.le_of_ble_eq_true rfl) (Nat.le_of_ble_eq_true rfl) rfl rfl lk_bk_31 ?_
    refine wp_iload_n d_bk_countingLoans_17 rfl 2 rfl ?_
    obtain ⟨⟨a2, b2⟩, h⟩ := h
    refine wp_aald (t := 3) d_bk_countingLoans_18 s_5 rfl (Nat.le_of_ble_eq_true rfl) a2 b2 (k_loans _ (nat_lt a2 b2)).1 ?_
    refine wp_geti d_bk_countingLoans_19 4 (k_loans _ (nat_lt a2 b2)).2.1 rfl (k_loans _ (nat_lt a2 b2)).2.2 (Nat.le_of_ble_eq_true rfl) rfl lk_bk_89 ?_
    refine wp_if_eq 29 d_bk_countingLoans_22 (by decide) (fun c3 => ?_) (fun c3 => ?_)
    · have h := h.1 c3
      refine wp_iconst d_bk_countingLoans_29 ⟨by decide, by decide⟩ ?_
      refine wp_iadd d_bk_countingLoans_30 ?_
      refine wp_istore_n (L2 := [(0, pR 1), (1, pI _), (2, pI _)]) d_bk_countingLoans_31 rfl (Nat.le_of_ble_eq_true rfl) [1, 0, 2] rfl ?_
      refine wp_iinc (L2 := [(0, pR 1), (1, pI _), (2, pI _)]) d_bk_countingLoans_32 2 rfl (Nat.le_of_ble_eq_true rfl) [1, 2, 0] rfl ?_
      refine wp_goto 4 d_bk_countingLoans_35 (by decide) ?_
      exact h
    · have h := h.2 c3
      refine wp_iconst d_bk_countingLoans_25 ⟨by decide, by decide⟩ ?_
      refine wp_goto 30 d_bk_countingLoans_26 (by decide) ?_
      refine wp_iadd d_bk_countingLoans_30 ?_
      refine wp_istore_n (L2 := [(0, pR 1), (1, pI _), (2, pI _)]) d_bk_countingLoans_31 rfl (Nat.le_of_ble_eq_true rfl) [1, 0, 2] rfl ?_
      refine wp_iinc (L2 := [(0, pR 1), (1, pI _), (2, pI _)]) d_bk_countingLoans_32 2 rfl (Nat.le_of_ble_eq_true rfl) [1, 2, 0] rfl ?_
      refine wp_goto 4 d_bk_countingLoans_35 (by decide) ?_
      exact h
