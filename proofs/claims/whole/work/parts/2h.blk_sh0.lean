set_option maxHeartbeats 8000000 in
theorem e_sh_isLost {G : GT} {M : MT} {P : Int → MT → Prop} (o0 : Nat) (f0 : SE o0)
    (h : (¬ (M o0 1) = (-1) → P 0 M) ∧ ((M o0 1) = (-1) → P 1 M)) : ClI G J_sh_isLost M [pR o0] P := by
  show Wp G J_sh_isLost 0 0 0 [(0, pR o0)] [] NN RF M _
  refine wp_aload_n d_sh_isLost_0 rfl 0 rfl ?_
  refine wp_geti d_sh_isLost_1 1 f0.1 rfl (Nat.lt_of_succ_lt f0.2.2.2) (Nat.le_of_ble_eq_true rfl) rfl lk_sh_15 ?_
  refine wp_iconst d_sh_isLost_4 ⟨by decide, by decide⟩ ?_
  refine wp_icmp_ne 12 d_sh_isLost_5 (by decide) (fun c1 => ?_) (fun c1 => ?_)
  · have h := h.1 c1
    refine wp_iconst d_sh_isLost_12 ⟨by decide, by decide⟩ ?_
    exact wp_zret d_sh_isLost_13 rfl ⟨Nat.le_of_ble_eq_true rfl, Nat.le_of_ble_eq_true rfl⟩ (by decide) ⟨_, rfl, rfl, rfl, h⟩
  · have h := h.2 c1
    refine wp_iconst d_sh_isLost_8 ⟨by decide, by decide⟩ ?_
    refine wp_goto 13 d_sh_isLost_9 (by decide) ?_
    exact wp_zret d_sh_isLost_13 rfl ⟨Nat.le_of_ble_eq_true rfl, Nat.le_of_ble_eq_true rfl⟩ (by decide) ⟨_, rfl, rfl, rfl, h⟩
set_option maxHeartbeats 8000000 in
theorem e_sh_begin {G : GT} {M : MT} {P : MT → Prop} (o0 : Nat) (f0 : SE o0) (v1 : Int) (v2 : Int)
    (h : ∀ M1 : MT, M1 = mu M o0 1 v1 → (∀ M2 : MT, M2 = mu M1 o0 2 v2 → (WpV G J_sh_begin 12 [(0, pR o0), (3, pI 0)] [] M2 P))) : ClV G J_sh_begin M [pR o0, pI v1, pI v2] P := by
  show Wp G J_sh_begin 0 0 0 [(0, pR o0), (1, pI v1), (2, pI v2)] [] NN RF M _
  refine wp_aload_n d_sh_begin_0 rfl 0 rfl ?_
  refine wp_iload_n d_sh_begin_1 rfl 1 rfl ?_
  refine wp_puti d_sh_begin_2 1 f0.1 rfl (Nat.lt_of_succ_lt f0.2.2.2) (Nat.le_of_ble_eq_true rfl) (Or.inl rfl) rfl lk_sh_15 ?_
  have h := h _ rfl
  refine wp_aload_n d_sh_begin_5 rfl 0 rfl ?_
  refine wp_iload_n d_sh_begin_6 rfl 2 rfl ?_
  refine wp_puti d_sh_begin_7 2 f0.1 rfl (Nat.lt_of_succ_lt f0.2.2.2) (Nat.le_of_ble_eq_true rfl) (Or.inl rfl) rfl lk_sh_19 ?_
  have h := h _ rfl
  refine wp_iconst d_sh_begin_10 ⟨by decide, by decide⟩ ?_
  refine wp_istore_n (L2 := [(0, pR _), (1, pI _), (2, pI _), (3, pI _)]) d_sh_begin_11 rfl (Nat.le_of_ble_eq_true rfl) [1, 2, 3, 0] rfl ?_
  refine wp_sub (L2 := [(0, pR _), (3, pI _)]) [0, 3] rfl ?_
  exact h
set_option maxHeartbeats 8000000 in
theorem b_sh_begin_12 {G : GT} {M : MT} {P : MT → Prop} (o0 : Nat) (f0 : SE o0) (v3 : Int)
    (h : (60 ≤ v3 → P M) ∧ (v3 < 60 → (0 ≤ v3 ∧ v3 < 60) ∧ (∀ M1 : MT, M1 = mu M (o0 + 1) (v3.toNat) 0 → (WpV G J_sh_begin 12 [(0, pR o0), (3, pI (w32 (v3 + 1)))] [] M1 P)))) : WpV G J_sh_begin 12 [(0, pR o0), (3, pI v3)] [] M P := by
  show Wp G J_sh_begin 0 0 12 [(0, pR o0), (3, pI v3)] [] NN RF M _
  refine wp_iload_n d_sh_begin_12 rfl 1 rfl ?_
  refine wp_bipush d_sh_begin_13 ⟨by decide, by decide⟩ (by decide) ?_
  refine wp_icmp_ge 31 d_sh_begin_15 (by decide) (fun c1 => ?_) (fun c1 => ?_)
  · have h := h.1 c1
    exact wp_vret d_sh_begin_31 rfl ⟨Nat.le_of_ble_eq_true rfl, Nat.le_of_ble_eq_true rfl⟩ ⟨rfl, rfl, rfl, h⟩
  · have h := h.2 c1
    refine wp_aload_n d_sh_begin_18 rfl 0 rfl ?_
    refine wp_getr d_sh_begin_19 0 f0.1 rfl (Nat.lt_of_succ_lt f0.2.2.2) (Nat.le_of_ble_eq_true rfl) rfl f0.2.2.1 lk_sh_9 ?_
    refine wp_iload_n d_sh_begin_22 rfl 1 rfl ?_
    refine wp_iconst d_sh_begin_23 ⟨by decide, by decide⟩ ?_
    obtain ⟨⟨a2, b2⟩, h⟩ := h
    refine wp_iast d_sh_begin_24 f0.2.1 f0.2.2.2 a2 b2 ?_
    have h := h _ rfl
    refine wp_iinc (L2 := [(0, pR _), (3, pI _)]) d_sh_begin_25 1 rfl (Nat.le_of_ble_eq_true rfl) [1, 0] rfl ?_
    refine wp_goto 12 d_sh_begin_28 (by decide) ?_
    exact h
set_option maxHeartbeats 8000000 in
theorem e_sh_put {G : GT} {M : MT} {P : MT → Prop} (o0 : Nat) (f0 : SE o0) (v1 : Int) (v2 : Int)
    (h : (¬ (M o0 1) = 0 → (¬ (M o0 1) = 1 → (0 ≤ v1 ∧ v1 < 60) ∧ (∀ M1 : MT, M1 = mu M (o0 + 1) (v1.toNat) v2 → (P M1))) ∧ ((M o0 1) = 1 → (0 ≤ v1 ∧ v1 < 60) ∧ (∀ M1 : MT, M1 = mu M (o0 + 1) (v1.toNat) (i2s v2) → (P M1)))) ∧ ((M o0 1) = 0 → (0 ≤ v1 ∧ v1 < 60) ∧ (∀ M1 : MT, M1 = mu M (o0 + 1) (v1.toNat) (i2b v2) → (P M1)))) : ClV G J_sh_put M [pR o0, pI v1, pI v2] P := by
  show Wp G J_sh_put 0 0 0 [(0, pR o0), (1, pI v1), (2, pI v2)] [] NN RF M _
  refine wp_aload_n d_sh_put_0 rfl 0 rfl ?_
  refine wp_getr d_sh_put_1 0 f0.1 rfl (Nat.lt_of_succ_lt f0.2.2.2) (Nat.le_of_ble_eq_true rfl) rfl f0.2.2.1 lk_sh_9 ?_
  refine wp_iload_n d_sh_put_4 rfl 1 rfl ?_
  refine wp_aload_n d_sh_put_5 rfl 0 rfl ?_
  refine wp_geti d_sh_put_6 1 f0.1 rfl (Nat.lt_of_succ_lt f0.2.2.2) (Nat.le_of_ble_eq_true rfl) rfl lk_sh_15 ?_
  refine wp_if_ne 17 d_sh_put_9 (by decide) (fun c1 => ?_) (fun c1 => ?_)
  · have h := h.1 c1
    refine wp_aload_n d_sh_put_17 rfl 0 rfl ?_
    refine wp_geti d_sh_put_18 1 f0.1 rfl (Nat.lt_of_succ_lt f0.2.2.2) (Nat.le_of_ble_eq_true rfl) rfl lk_sh_15 ?_
    refine wp_iconst d_sh_put_21 ⟨by decide, by decide⟩ ?_
    refine wp_icmp_ne 30 d_sh_put_22 (by decide) (fun c2 => ?_) (fun c2 => ?_)
    · have h := h.1 c2
      refine wp_iload_n d_sh_put_30 rfl 2 rfl ?_
      obtain ⟨⟨a3, b3⟩, h⟩ := h
      refine wp_iast d_sh_put_31 f0.2.1 f0.2.2.2 a3 b3 ?_
      have h := h _ rfl
      exact wp_vret d_sh_put_32 rfl ⟨Nat.le_of_ble_eq_true rfl, Nat.le_of_ble_eq_true rfl⟩ ⟨rfl, rfl, rfl, h⟩
    · have h := h.2 c2
      refine wp_iload_n d_sh_put_25 rfl 2 rfl ?_
      refine wp_i2s d_sh_put_26 ?_
      refine wp_goto 31 d_sh_put_27 (by decide) ?_
      obtain ⟨⟨a3, b3⟩, h⟩ := h
      refine wp_iast d_sh_put_31 f0.2.1 f0.2.2.2 a3 b3 ?_
      have h := h _ rfl
      exact wp_vret d_sh_put_32 rfl ⟨Nat.le_of_ble_eq_true rfl, Nat.le_of_ble_eq_true rfl⟩ ⟨rfl, rfl, rfl, h⟩
  · have h := h.2 c1
    refine wp_iload_n d_sh_put_12 rfl 2 rfl ?_
    refine wp_i2b d_sh_put_13 ?_
    refine wp_goto 31 d_sh_put_14 (by decide) ?_
    obtain ⟨⟨a2, b2⟩, h⟩ := h
    refine wp_iast d_sh_put_31 f0.2.1 f0.2.2.2 a2 b2 ?_
    have h := h _ rfl
    exact wp_vret d_sh_put_32 rfl ⟨Nat.le_of_ble_eq_true rfl, Nat.le_of_ble_eq_true rfl⟩ ⟨rfl, rfl, rfl, h⟩
set_option maxHeartbeats 8000000 in
theorem e_sh_hasSpan {G : GT} {M : MT} {P : Int → MT → Prop} (o0 : Nat) (f0 : SE o0) (v1 : Int) (v2 : Int)
    (h : (v1 < 0 → P 0 M) ∧ (0 ≤ v1 → (v2 < 0 → P 0 M) ∧ (0 ≤ v2 → ((M o0 2) < v1 → P 0 M) ∧ (v1 ≤ (M o0 2) → ((w32 ((M o0 2) - v1)) < v2 → P 0 M) ∧ (v2 ≤ (w32 ((M o0 2) - v1)) → P 1 M))))) : ClI G J_sh_hasSpan M [pR o0, pI v1, pI v2] P := by
  show Wp G J_sh_hasSpan 0 0 0 [(0, pR o0), (1, pI v1), (2, pI v2)] [] NN RF M _
  refine wp_iload_n d_sh_hasSpan_0 rfl 1 rfl ?_
  refine wp_if_lt 30 d_sh_hasSpan_1 (by decide) (fun c1 => ?_) (fun c1 => ?_)
  · have h := h.1 c1
    refine wp_iconst d_sh_hasSpan_30 ⟨by decide, by decide⟩ ?_
    exact wp_zret d_sh_hasSpan_31 rfl ⟨Nat.le_of_ble_eq_true rfl, Nat.le_of_ble_eq_true rfl⟩ (by decide) ⟨_, rfl, rfl, rfl, h⟩
  · have h := h.2 c1
    refine wp_iload_n d_sh_hasSpan_4 rfl 2 rfl ?_
    refine wp_if_lt 30 d_sh_hasSpan_5 (by decide) (fun c2 => ?_) (fun c2 => ?_)
    · have h := h.1 c2
      refine wp_iconst d_sh_hasSpan_30 ⟨by decide, by decide⟩ ?_
      exact wp_zret d_sh_hasSpan_31 rfl ⟨Nat.le_of_ble_eq_true rfl, Nat.le_of_ble_eq_true rfl⟩ (by decide) ⟨_, rfl, rfl, rfl, h⟩
    · have h := h.2 c2
      refine wp_iload_n d_sh_hasSpan_8 rfl 1 rfl ?_
      refine wp_aload_n d_sh_hasSpan_9 rfl 0 rfl ?_
      refine wp_geti d_sh_hasSpan_10 2 f0.1 rfl (Nat.lt_of_succ_lt f0.2.2.2) (Nat.le_of_ble_eq_true rfl) rfl lk_sh_19 ?_
      refine wp_icmp_gt 30 d_sh_hasSpan_13 (by decide) (fun c3 => ?_) (fun c3 => ?_)
      · have h := h.1 c3
        refine wp_iconst d_sh_hasSpan_30 ⟨by decide, by decide⟩ ?_
        exact wp_zret d_sh_hasSpan_31 rfl ⟨Nat.le_of_ble_eq_true rfl, Nat.le_of_ble_eq_true rfl⟩ (by decide) ⟨_, rfl, rfl, rfl, h⟩
      · have h := h.2 c3
        refine wp_iload_n d_sh_hasSpan_16 rfl 2 rfl ?_
        refine wp_aload_n d_sh_hasSpan_17 rfl 0 rfl ?_
        refine wp_geti d_sh_hasSpan_18 2 f0.1 rfl (Nat.lt_of_succ_lt f0.2.2.2) (Nat.le_of_ble_eq_true rfl) rfl lk_sh_19 ?_
        refine wp_iload_n d_sh_hasSpan_21 rfl 1 rfl ?_
        refine wp_isub d_sh_hasSpan_22 ?_
        refine wp_icmp_gt 30 d_sh_hasSpan_23 (by decide) (fun c4 => ?_) (fun c4 => ?_)
        · have h := h.1 c4
          refine wp_iconst d_sh_hasSpan_30 ⟨by decide, by decide⟩ ?_
          exact wp_zret d_sh_hasSpan_31 rfl ⟨Nat.le_of_ble_eq_true rfl, Nat.le_of_ble_eq_true rfl⟩ (by decide) ⟨_, rfl, rfl, rfl, h⟩
        · have h := h.2 c4
          refine wp_iconst d_sh_hasSpan_26 ⟨by decide, by decide⟩ ?_
          refine wp_goto 31 d_sh_hasSpan_27 (by decide) ?_
          exact wp_zret d_sh_hasSpan_31 rfl ⟨Nat.le_of_ble_eq_true rfl, Nat.le_of_ble_eq_true rfl⟩ (by decide) ⟨_, rfl, rfl, rfl, h⟩
