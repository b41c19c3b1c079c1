set_option maxHeartbeats 8000000 in
theorem e_tu_at {G : GT} {M : MT} {P : Int → MT → Prop} (o0 : Nat) (f0 : TU o0) (v1 : Int)
    (h : (v1 < 0 → P (-1) M) ∧ (0 ≤ v1 → ((M o0 1) ≤ v1 → P (-1) M) ∧ (v1 < (M o0 1) → (0 ≤ v1 ∧ v1 < 40) ∧ (P (M (o0 + 1) (v1.toNat)) M)))) : ClI G J_tu_at M [pR o0, pI v1] P := by
  show Wp G J_tu_at 0 0 0 [(0, pR o0), (1, pI v1)] [] NN RF M _
  refine wp_iload_n d_tu_at_0 rfl 1 rfl ?_
  refine wp_if_lt 21 d_tu_at_1 (by decide) (fun c1 => ?_) (fun c1 => ?_)
  · have h := h.1 c1
    refine wp_iconst d_tu_at_21 ⟨by decide, by decide⟩ ?_
    exact wp_iret d_tu_at_22 rfl ⟨Nat.le_of_ble_eq_true rfl, Nat.le_of_ble_eq_true rfl⟩ ⟨_, rfl, rfl, rfl, h⟩
  · have h := h.2 c1
    refine wp_iload_n d_tu_at_4 rfl 1 rfl ?_
    refine wp_aload_n d_tu_at_5 rfl 0 rfl ?_
    refine wp_geti d_tu_at_6 1 f0.1 rfl (Nat.lt_of_succ_lt f0.2.2.2) (Nat.le_of_ble_eq_true rfl) rfl lk_tu_15 ?_
    refine wp_icmp_ge 21 d_tu_at_9 (by decide) (fun c2 => ?_) (fun c2 => ?_)
    · have h := h.1 c2
      refine wp_iconst d_tu_at_21 ⟨by decide, by decide⟩ ?_
      exact wp_iret d_tu_at_22 rfl ⟨Nat.le_of_ble_eq_true rfl, Nat.le_of_ble_eq_true rfl⟩ ⟨_, rfl, rfl, rfl, h⟩
    · have h := h.2 c2
      refine wp_aload_n d_tu_at_12 rfl 0 rfl ?_
      refine wp_getr d_tu_at_13 0 f0.1 rfl (Nat.lt_of_succ_lt f0.2.2.2) (Nat.le_of_ble_eq_true rfl) rfl f0.2.2.1 lk_tu_9 ?_
      refine wp_iload_n d_tu_at_16 rfl 1 rfl ?_
      obtain ⟨⟨a3, b3⟩, h⟩ := h
      refine wp_iald d_tu_at_17 f0.2.1 f0.2.2.2 a3 b3 ?_
      refine wp_goto 22 d_tu_at_18 (by decide) ?_
      exact wp_iret d_tu_at_22 rfl ⟨Nat.le_of_ble_eq_true rfl, Nat.le_of_ble_eq_true rfl⟩ ⟨_, rfl, rfl, rfl, h⟩
set_option maxHeartbeats 8000000 in
theorem e_tu_add {G : GT} {M : MT} {P : MT → Prop} (o0 : Nat) (f0 : TU o0) (v1 : Int)
    (h : (40 ≤ (M o0 1) → P M) ∧ ((M o0 1) < 40 → (0 ≤ (M o0 1) ∧ (M o0 1) < 40) ∧ (∀ M1 : MT, M1 = mu M (o0 + 1) ((M o0 1).toNat) v1 → (∀ M2 : MT, M2 = mu M1 o0 1 (w32 ((M1 o0 1) + 1)) → (P M2))))) : ClV G J_tu_add M [pR o0, pI v1] P := by
  show Wp G J_tu_add 0 0 0 [(0, pR o0), (1, pI v1)] [] NN RF M _
  refine wp_aload_n d_tu_add_0 rfl 0 rfl ?_
  refine wp_geti d_tu_add_1 1 f0.1 rfl (Nat.lt_of_succ_lt f0.2.2.2) (Nat.le_of_ble_eq_true rfl) rfl lk_tu_15 ?_
  refine wp_bipush d_tu_add_4 ⟨by decide, by decide⟩ (by decide) ?_
  refine wp_icmp_ge 29 d_tu_add_6 (by decide) (fun c1 => ?_) (fun c1 => ?_)
  · have h := h.1 c1
    exact wp_vret d_tu_add_29 rfl ⟨Nat.le_of_ble_eq_true rfl, Nat.le_of_ble_eq_true rfl⟩ ⟨rfl, rfl, rfl, h⟩
  · have h := h.2 c1
    refine wp_aload_n d_tu_add_9 rfl 0 rfl ?_
    refine wp_getr d_tu_add_10 0 f0.1 rfl (Nat.lt_of_succ_lt f0.2.2.2) (Nat.le_of_ble_eq_true rfl) rfl f0.2.2.1 lk_tu_9 ?_
    refine wp_aload_n d_tu_add_13 rfl 0 rfl ?_
    refine wp_geti d_tu_add_14 1 f0.1 rfl (Nat.lt_of_succ_lt f0.2.2.2) (Nat.le_of_ble_eq_true rfl) rfl lk_tu_15 ?_
    refine wp_iload_n d_tu_add_17 rfl 1 rfl ?_
    obtain ⟨⟨a2, b2⟩, h⟩ := h
    refine wp_iast d_tu_add_18 f0.2.1 f0.2.2.2 a2 b2 ?_
    have h := h _ rfl
    refine wp_aload_n d_tu_add_19 rfl 0 rfl ?_
    refine wp_dup d_tu_add_20 rfl ?_
    refine wp_geti d_tu_add_21 1 f0.1 rfl (Nat.lt_of_succ_lt f0.2.2.2) (Nat.le_of_ble_eq_true rfl) rfl lk_tu_15 ?_
    refine wp_iconst d_tu_add_24 ⟨by decide, by decide⟩ ?_
    refine wp_iadd d_tu_add_25 ?_
    refine wp_puti d_tu_add_26 1 f0.1 rfl (Nat.lt_of_succ_lt f0.2.2.2) (Nat.le_of_ble_eq_true rfl) (Or.inl rfl) rfl lk_tu_15 ?_
    have h := h _ rfl
    exact wp_vret d_tu_add_29 rfl ⟨Nat.le_of_ble_eq_true rfl, Nat.le_of_ble_eq_true rfl⟩ ⟨rfl, rfl, rfl, h⟩
set_option maxHeartbeats 8000000 in
theorem e_tu_become {G : GT} {M : MT} {P : MT → Prop} (o0 : Nat) (f0 : TU o0) (o1 : Nat) (f1 : TU o1)
    (h : (((0 : Int) ≤ 0 ∧ (0 : Int) ≤ 0 ∧ (0 : Int) ≤ (M o1 1)) ∧ 0 + (M o1 1) ≤ (40 : Int) ∧ 0 + (M o1 1) ≤ (40 : Int)) ∧ (∀ M1 : MT, M1 = mcp M (o1 + 1) (o0 + 1) 0 0 (M o1 1) → (∀ M2 : MT, M2 = mu M1 o0 1 (M1 o1 1) → (P M2)))) : ClV G J_tu_become M [pR o0, pR o1] P := by
  show Wp G J_tu_become 0 0 0 [(0, pR o0), (1, pR o1)] [] NN RF M _
  refine wp_aload_n d_tu_become_0 rfl 1 rfl ?_
  refine wp_getr d_tu_become_1 0 f1.1 rfl (Nat.lt_of_succ_lt f1.2.2.2) (Nat.le_of_ble_eq_true rfl) rfl f1.2.2.1 lk_tu_9 ?_
  refine wp_iconst d_tu_become_4 ⟨by decide, by decide⟩ ?_
  refine wp_aload_n d_tu_become_5 rfl 0 rfl ?_
  refine wp_getr d_tu_become_6 0 f0.1 rfl (Nat.lt_of_succ_lt f0.2.2.2) (Nat.le_of_ble_eq_true rfl) rfl f0.2.2.1 lk_tu_9 ?_
  refine wp_iconst d_tu_become_9 ⟨by decide, by decide⟩ ?_
  refine wp_aload_n d_tu_become_10 rfl 1 rfl ?_
  refine wp_geti d_tu_become_11 1 f1.1 rfl (Nat.lt_of_succ_lt f1.2.2.2) (Nat.le_of_ble_eq_true rfl) rfl lk_tu_15 ?_
  obtain ⟨⟨⟨a1, b1, e1⟩, x1, y1⟩, h⟩ := h
  refine wp_copy d_tu_become_14 lk_tu_19 w_acn w_acs w_acy f1.2.1 f0.2.1 f1.2.2.2 f0.2.2.2 a1 b1 e1 x1 y1 (Nat.le_of_ble_eq_true rfl) (Nat.le_of_ble_eq_true rfl) ?_
  have h := h _ rfl
  refine wp_aload_n d_tu_become_17 rfl 0 rfl ?_
  refine wp_aload_n d_tu_become_18 rfl 1 rfl ?_
  refine wp_geti d_tu_become_19 1 f1.1 rfl (Nat.lt_of_succ_lt f1.2.2.2) (Nat.le_of_ble_eq_true rfl) rfl lk_tu_15 ?_
  refine wp_puti d_tu_become_22 1 f0.1 rfl (Nat.lt_of_succ_lt f0.2.2.2) (Nat.le_of_ble_eq_true rfl) (Or.inl rfl) rfl lk_tu_15 ?_
  have h := h _ rfl
  exact wp_vret d_tu_become_25 rfl ⟨Nat.le_of_ble_eq_true rfl, Nat.le_of_ble_eq_true rfl⟩ ⟨rfl, rfl, rfl, h⟩
set_option maxHeartbeats 8000000 in
theorem e_tu_becomeHummed {G : GT} {M : MT} {P : MT → Prop} (o0 : Nat) (f0 : TU o0) (o1 : Nat) (f1 : TU o1) (o2 : Nat) (f2 : BO o2)
    (h : ∀ M1 : MT, M1 = mu M o0 1 0 → (WpV G J_tu_becomeHummed 7 [(0, pR o0), (1, pR o1), (2, pR o2), (3, pI 0)] [] M1 P)) : ClV G J_tu_becomeHummed M [pR o0, pR o1, pR o2] P := by
  show Wp G J_tu_becomeHummed 0 0 0 [(0, pR o0), (1, pR o1), (2, pR o2)] [] NN RF M _
  refine wp_aload_n d_tu_becomeHummed_0 rfl 0 rfl ?_
  refine wp_iconst d_tu_becomeHummed_1 ⟨by decide, by decide⟩ ?_
  refine wp_puti d_tu_becomeHummed_2 1 f0.1 rfl (Nat.lt_of_succ_lt f0.2.2.2) (Nat.le_of_ble_eq_true rfl) (Or.inl rfl) rfl lk_tu_15 ?_
  have h := h _ rfl
  refine wp_iconst d_tu_becomeHummed_5 ⟨by decide, by decide⟩ ?_
  refine wp_istore_n (L2 := [(0, pR _), (1, pR _), (2, pR _), (3, pI _)]) d_tu_becomeHummed_6 rfl (Nat.le_of_ble_eq_true rfl) [1, 2, 3, 0] rfl ?_
  exact h
set_option maxHeartbeats 8000000 in
theorem b_tu_becomeHummed_7 {G : GT} {M : MT} {P : MT → Prop} (o0 : Nat) (f0 : TU o0) (o1 : Nat) (f1 : TU o1) (o2 : Nat) (f2 : BO o2) (v3 : Int)
    (h : ((M o1 1) ≤ v3 → P M) ∧ (v3 < (M o1 1) → (0 ≤ v3 ∧ v3 < 40) ∧ ((¬ (M (o1 + 1) (v3.toNat)) = (M o2 0) → ClV G J_tu_add M [pR o0, pI (M (o1 + 1) (v3.toNat))] (fun M1 => (WpV G J_tu_becomeHummed 7 [(0, pR o0), (1, pR o1), (2, pR o2), (3, pI (w32 (v3 + 1)))] [] M1 P))) ∧ ((M (o1 + 1) (v3.toNat)) = (M o2 0) → (¬ (M o2 1) = 0 → ((M o2 1) = 1 → WpV G J_tu_becomeHummed 7 [(0, pR o0), (1, pR o1), (2, pR o2), (3, pI (w32 (v3 + 1)))] [] M P) ∧ (¬ (M o2 1) = 1 → ClV G J_tu_add M [pR o0, pI (M o2 2)] (fun M1 => (WpV G J_tu_becomeHummed 7 [(0, pR o0), (1, pR o1), (2, pR o2), (3, pI (w32 (v3 + 1)))] [] M1 P)))) ∧ ((M o2 1) = 0 → ClV G J_tu_add M [pR o0, pI (M (o1 + 1) (v3.toNat))] (fun M1 => (((M1 o2 1) = 1 → WpV G J_tu_becomeHummed 7 [(0, pR o0), (1, pR o1), (2, pR o2), (3, pI (w32 (v3 + 1)))] [] M1 P) ∧ (¬ (M1 o2 1) = 1 → ClV G J_tu_add M1 [pR o0, pI (M1 o2 2)] (fun M2 => (WpV G J_tu_becomeHummed 7 [(0, pR o0), (1, pR o1), (2, pR o2), (3, pI (w32 (v3 + 1)))] [] M2 P)))))))))) : WpV G J_tu_becomeHummed 7 [(0, pR o0), (1, pR o1), (2, pR o2), (3, pI v3)] [] M P := by
  show Wp G J_tu_becomeHummed 0 0 7 [(0, pR o0), (1, pR o1), (2, pR o2), (3, pI v3)] [] NN RF M _
  refine wp_iload_n d_tu_becomeHummed_7 rfl 3 rfl ?_
  refine wp_aload_n d_tu_becomeHummed_8 rfl 1 rfl ?_
  refine wp_geti d_tu_becomeHummed_9 1 f1.1 rfl (Nat.lt_of_succ_lt f1.2.2.2) (Nat.le_of_ble_eq_true rfl) rfl lk_tu_15 ?_
  refine wp_icmp_ge 84 d_tu_becomeHummed_12 (by decide) (fun c1 => ?_) (fun c1 => ?_)
  · have h := h.1 c1
    exact wp_vret d_tu_becomeHummed_84 rfl ⟨Nat.le_of_ble_eq_true rfl, Nat.le_of_ble_eq_true rfl⟩ ⟨rfl, rfl, rfl, h⟩
  · have h := h.2 c1
    refine wp_aload_n d_tu_becomeHummed_15 rfl 1 rfl ?_
    refine wp_getr d_tu_becomeHummed_16 0 f1.1 rfl (Nat.lt_of_succ_lt f1.2.2.2) (Nat.le_of_ble_eq_true rfl) rfl f1.2.2.1 lk_tu_9 ?_
    refine wp_iload_n d_tu_becomeHummed_19 rfl 3 rfl ?_
    obtain ⟨⟨a2, b2⟩, h⟩ := h
    refine wp_iald d_tu_becomeHummed_20 f1.2.1 f1.2.2.2 a2 b2 ?_
    refine wp_istore (L2 := [(0, pR _), (1, pR _), (2, pR _), (3, pI _), (4, pI _)]) d_tu_becomeHummed_21 (Nat.le_of_ble_eq_true rfl) [1, 2, 3, 4, 0] rfl ?_
    refine wp_iload d_tu_becomeHummed_23 4 rfl ?_
    refine wp_aload_n d_tu_becomeHummed_25 rfl 2 rfl ?_
    refine wp_geti d_tu_becomeHummed_26 0 f2.1 rfl f2.2 (Nat.le_of_ble_eq_true rfl) rfl lk_tu_25 ?_
    refine wp_icmp_ne 36 d_tu_becomeHummed_29 (by decide) (fun c3 => ?_) (fun c3 => ?_)
    · have h := h.1 c3
      refine wp_iconst d_tu_becomeHummed_36 ⟨by decide, by decide⟩ ?_
      refine wp_istore (L2 := [(0, pR _), (1, pR _), (2, pR _), (3, pI _), (4, pI _), (5, pI _)]) d_tu_becomeHummed_37 (Nat.le_of_ble_eq_true rfl) [1, 2, 3, 4, 5, 0] rfl ?_
      refine wp_iload d_tu_becomeHummed_39 5 rfl ?_
      refine wp_if_eq 51 d_tu_becomeHummed_41 (by decide) (fun _ => ?_) (fun e => absurd e (by decide))
      refine wp_aload_n d_tu_becomeHummed_51 rfl 0 rfl ?_
      refine wp_iload d_tu_becomeHummed_52 4 rfl ?_
      refine wp_callV [pI _] _ d_tu_becomeHummed_54 jd_tu_add lk_tu_33 rfl f0.1 rfl (Nat.lt_of_succ_lt f0.2.2.2) (Nat.le_of_ble_eq_true rfl) rfl ?_
      refine clV_k h ?_
      intro M1 h
      refine wp_iload d_tu_becomeHummed_57 5 rfl ?_
      refine wp_if_eq 78 d_tu_becomeHummed_59 (by decide) (fun _ => ?_) (fun e => absurd e (by decide))
      refine wp_iinc (L2 := [(0, pR _), (1, pR _), (2, pR _), (3, pI _), (4, pI _), (5, pI _)]) d_tu_becomeHummed_78 3 rfl (Nat.le_of_ble_eq_true rfl) [1, 2, 3, 0, 4, 5] rfl ?_
      refine wp_goto 7 d_tu_becomeHummed_81 (by decide) ?_
      refine wp_sub (L2 := [(0, pR _), (1, pR _), (2, pR _), (3, pI _)]) [0, 1, 2, 3] rfl ?_
      exact h
    · have h := h.2 c3
      refine wp_iconst d_tu_becomeHummed_32 ⟨by decide, by decide⟩ ?_
      refine wp_goto 37 d_tu_becomeHummed_33 (by decide) ?_
      refine wp_istore (L2 := [(0, pR _), (1, pR _), (2, pR _), (3, pI _), (4, pI _), (5, pI _)]) d_tu_becomeHummed_37 (Nat.le_of_ble_eq_true rfl) [1, 2, 3, 4, 5, 0] rfl ?_
      refine wp_iload d_tu_becomeHummed_39 5 rfl ?_
      refine wp_if_eq 51 d_tu_becomeHummed_41 (by decide) (fun e => absurd e (by decide)) (fun _ => ?_)
      refine wp_aload_n d_tu_becomeHummed_44 rfl 2 rfl ?_
      refine wp_geti d_tu_becomeHummed_45 1 f2.1 rfl f2.2 (Nat.le_of_ble_eq_true rfl) rfl lk_tu_30 ?_
      refine wp_if_ne 57 d_tu_becomeHummed_48 (by decide) (fun c4 => ?_) (fun c4 => ?_)
      · have h := h.1 c4
        refine wp_iload d_tu_becomeHummed_57 5 rfl ?_
        refine wp_if_eq 78 d_tu_becomeHummed_59 (by decide) (fun e => absurd e (by decide)) (fun _ => ?_)
        refine wp_aload_n d_tu_becomeHummed_62 rfl 2 rfl ?_
        refine wp_geti d_tu_becomeHummed_63 1 f2.1 rfl f2.2 (Nat.le_of_ble_eq_true rfl) rfl lk_tu_30 ?_
        refine wp_iconst d_tu_becomeHummed_66 ⟨by decide, by decide⟩ ?_
        refine wp_icmp_eq 78 d_tu_becomeHummed_67 (by decide) (fun c5 => ?_) (fun c5 => ?_)
        · have h := h.1 c5
          refine wp_iinc (L2 := [(0, pR _), (1, pR _), (2, pR _), (3, pI _), (4, pI _), (5, pI _)]) d_tu_becomeHummed_78 3 rfl (Nat.le_of_ble_eq_true rfl) [1, 2, 3, 0, 4, 5] rfl ?_
          refine wp_goto 7 d_tu_becomeHummed_81 (by decide) ?_
          refine wp_sub (L2 := [(0, pR _), (1, pR _), (2, pR _), (3, pI _)]) [0, 1, 2, 3] rfl ?_
          exact h
        · have h := h.2 c5
          refine wp_aload_n d_tu_becomeHummed_70 rfl 0 rfl ?_
          refine wp_aload_n d_tu_becomeHummed_71 rfl 2 rfl ?_
          refine wp_geti d_tu_becomeHummed_72 2 f2.1 rfl f2.2 (Nat.le_of_ble_eq_true rfl) rfl lk_tu_37 ?_
          refine wp_callV [pI _] _ d_tu_becomeHummed_75 jd_tu_add lk_tu_33 rfl f0.1 rfl (Nat.lt_of_succ_lt f0.2.2.2) (Nat.le_of_ble_eq_true rfl) rfl ?_
          refine clV_k h ?_
          intro M1 h
          refine wp_iinc (L2 := [(0, pR _), (1, pR _), (2, pR _), (3, pI _), (4, pI _), (5, pI _)]) d_tu_becomeHummed_78 3 rfl (Nat.le_of_ble_eq_true rfl) [1, 2, 3, 0, 4, 5] rfl ?_
          refine wp_goto 7 d_tu_becomeHummed_81 (by decide) ?_
          refine wp_sub (L2 := [(0, pR _), (1, pR _), (2, pR _), (3, pI _)]) [0, 1, 2, 3] rfl ?_
          exact h
      · have h := h.2 c4
        refine wp_aload_n d_tu_becomeHummed_51 rfl 0 rfl ?_
        refine wp_iload d_tu_becomeHummed_52 4 rfl ?_
        refine wp_callV [pI _] _ d_tu_becomeHummed_54 jd_tu_add lk_tu_33 rfl f0.1 rfl (Nat.lt_of_succ_lt f0.2.2.2) (Nat.le_of_ble_eq_true rfl) rfl ?_
        refine clV_k h ?_
        intro M1 h
        refine wp_iload d_tu_becomeHummed_57 5 rfl ?_
        refine wp_if_eq 78 d_tu_becomeHummed_59 (by decide) (fun e => absurd e (by decide)) (fun _ => ?_)
        refine wp_aload_n d_tu_becomeHummed_62 rfl 2 rfl ?_
        refine wp_geti d_tu_becomeHummed_63 1 f2.1 rfl f2.2 (Nat.le_of_ble_eq_true rfl) rfl lk_tu_30 ?_
        refine wp_iconst d_tu_becomeHummed_66 ⟨by decide, by decide⟩ ?_
        refine wp_icmp_eq 78 d_tu_becomeHummed_67 (by decide) (fun c5 => ?_) (fun c5 => ?_)
        · have h := h.1 c5
          refine wp_iinc (L2 := [(0, pR _), (1, pR _), (2, pR _), (3, pI _), (4, pI _), (5, pI _)]) d_tu_becomeHummed_78 3 rfl (Nat.le_of_ble_eq_true rfl) [1, 2, 3, 0, 4, 5] rfl ?_
          refine wp_goto 7 d_tu_becomeHummed_81 (by decide) ?_
          refine wp_sub (L2 := [(0, pR _), (1, pR _), (2, pR _), (3, pI _)]) [0, 1, 2, 3] rfl ?_
          exact h
        · have h := h.2 c5
          refine wp_aload_n d_tu_becomeHummed_70 rfl 0 rfl ?_
          refine wp_aload_n d_tu_becomeHummed_71 rfl 2 rfl ?_
          refine wp_geti d_tu_becomeHummed_72 2 f2.1 rfl f2.2 (Nat.le_of_ble_eq_true rfl) rfl lk_tu_37 ?_
          refine wp_callV [pI _] _ d_tu_becomeHummed_75 jd_tu_add lk_tu_33 rfl f0.1 rfl (Nat.lt_of_succ_lt f0.2.2.2) (Nat.le_of_ble_eq_true rfl) rfl ?_
          refine clV_k h ?_
          intro M2 h
          refine wp_iinc (L2 := [(0, pR _), (1, pR _), (2, pR _), (3, pI _), (4, pI _), (5, pI _)]) d_tu_becomeHummed_78 3 rfl (Nat.le_of_ble_eq_true rfl) [1, 2, 3, 0, 4, 5] rfl ?_
          refine wp_goto 7 d_tu_becomeHummed_81 (by decide) ?_
          refine wp_sub (L2 := [(0, pR _), (1, pR _), (2, pR _), (3, pI _)]) [0, 1, 2, 3] rfl ?_
          exact h
set_option maxHeartbeats 8000000 in
theorem e_tu_bits {G : GT} {M : MT} {P : Int → MT → Prop} (o0 : Nat) (f0 : TU o0)
    (h : WpI G J_tu_bits 4 [(0, pR o0), (1, pI 0), (2, pI 0)] [] M P) : ClI G J_tu_bits M [pR o0] P := by
  show Wp G J_tu_bits 0 0 0 [(0, pR o0)] [] NN RF M _
  refine wp_iconst d_tu_bits_0 ⟨by decide, by decide⟩ ?_
  refine wp_istore_n (L2 := [(0, pR _), (1, pI _)]) d_tu_bits_1 rfl (Nat.le_of_ble_eq_true rfl) [1, 0] rfl ?_
  refine wp_iconst d_tu_bits_2 ⟨by decide, by decide⟩ ?_
  refine wp_istore_n (L2 := [(0, pR _), (1, pI _), (2, pI _)]) d_tu_bits_3 rfl (Nat.le_of_ble_eq_true rfl) [1, 2, 0] rfl ?_
  exact h
set_option maxHeartbeats 8000000 in
theorem b_tu_bits_4 {G : GT} {M : MT} {P : Int → MT → Prop} (o0 : Nat) (f0 : TU o0) (v1 : Int) (v2 : Int)
    (h : ((M o0 1) ≤ v2 → P v1 M) ∧ (v2 < (M o0 1) → (0 ≤ v2 ∧ v2 < 40) ∧ (WpI G J_tu_bits 4 [(0, pR o0), (1, pI (ior v1 (ishl 1 (M (o0 + 1) (v2.toNat))))), (2, pI (w32 (v2 + 1)))] [] M P))) : WpI G J_tu_bits 4 [(0, pR o0), (1, pI v1), (2, pI v2)] [] M P := by
  show Wp G J_tu_bits 0 0 4 [(0, pR o0), (1, pI v1), (2, pI v2)] [] NN RF M _
  refine wp_iload_n d_tu_bits_4 rfl 2 rfl ?_
  refine wp_aload_n d_tu_bits_5 rfl 0 rfl ?_
  refine wp_geti d_tu_bits_6 1 f0.1 rfl (Nat.lt_of_succ_lt f0.2.2.2) (Nat.le_of_ble_eq_true rfl) rfl lk_tu_15 ?_
  refine wp_icmp_ge 29 d_tu_bits_9 (by decide) (fun c1 => ?_) (fun c1 => ?_)
  · have h := h.1 c1
    refine wp_iload_n d_tu_bits_29 rfl 1 rfl ?_
    exact wp_iret d_tu_bits_30 rfl ⟨Nat.le_of_ble_eq_true rfl, Nat.le_of_ble_eq_true rfl⟩ ⟨_, rfl, rfl, rfl, h⟩
  · have h := h.2 c1
    refine wp_iload_n d_tu_bits_12 rfl 1 rfl ?_
    refine wp_iconst d_tu_bits_13 ⟨by decide, by decide⟩ ?_
    refine wp_aload_n d_tu_bits_14 rfl 0 rfl ?_
    refine wp_getr d_tu_bits_15 0 f0.1 rfl (Nat.lt_of_succ_lt f0.2.2.2) (Nat.le_of_ble_eq_true rfl) rfl f0.2.2.1 lk_tu_9 ?_
    refine wp_iload_n d_tu_bits_18 rfl 2 rfl ?_
    obtain ⟨⟨a2, b2⟩, h⟩ := h
    refine wp_iald d_tu_bits_19 f0.2.1 f0.2.2.2 a2 b2 ?_
    refine wp_ishl d_tu_bits_20 ?_
    refine wp_ior d_tu_bits_21 ?_
    refine wp_istore_n (L2 := [(0, pR _), (1, pI _), (2, pI _)]) d_tu_bits_22 rfl (Nat.le_of_ble_eq_true rfl) [1, 0, 2] rfl ?_
    refine wp_iinc (L2 := [(0, pR _), (1, pI _), (2, pI _)]) d_tu_bits_23 2 rfl (Nat.le_of_ble_eq_true rfl) [1, 2, 0] rfl ?_
    refine wp_goto 4 d_tu_bits_26 (by decide) ?_
    exact h
set_option maxHeartbeats 8000000 in
theorem e_tu_isLike {G : GT} {M : MT} {P : Int → MT → Prop} (o0 : Nat) (f0 : TU o0) (o1 : Nat) (f1 : TU o1)
    (h : ((M o0 1) = (M o1 1) → WpI G J_tu_isLike 15 [(0, pR o0), (1, pR o1), (2, pI 0)] [] M P) ∧ (¬ (M o0 1) = (M o1 1) → P 0 M)) : ClI G J_tu_isLike M [pR o0, pR o1] P := by
  show Wp G J_tu_isLike 0 0 0 [(0, pR o0), (1, pR o1)] [] NN RF M _
  refine wp_aload_n d_tu_isLike_0 rfl 0 rfl ?_
  refine wp_geti d_tu_isLike_1 1 f0.1 rfl (Nat.lt_of_succ_lt f0.2.2.2) (Nat.le_of_ble_eq_true rfl) rfl lk_tu_15 ?_
  refine wp_aload_n d_tu_isLike_4 rfl 1 rfl ?_
  refine wp_geti d_tu_isLike_5 1 f1.1 rfl (Nat.lt_of_succ_lt f1.2.2.2) (Nat.le_of_ble_eq_true rfl) rfl lk_tu_15 ?_
  refine wp_icmp_eq 13 d_tu_isLike_8 (by decide) (fun c1 => ?_) (fun c1 => ?_)
  · have h := h.1 c1
    refine wp_iconst d_tu_isLike_13 ⟨by decide, by decide⟩ ?_
    refine wp_istore_n (L2 := [(0, pR _), (1, pR _), (2, pI _)]) d_tu_isLike_14 rfl (Nat.le_of_ble_eq_true rfl) [1, 2, 0] rfl ?_
    exact h
  · have h := h.2 c1
    refine wp_iconst d_tu_isLike_11 ⟨by decide, by decide⟩ ?_
    exact wp_zret d_tu_isLike_12 rfl ⟨Nat.le_of_ble_eq_true rfl, Nat.le_of_ble_eq_true rfl⟩ (by decide) ⟨_, rfl, rfl, rfl, h⟩
set_option maxHeartbeats 8000000 in
theorem b_tu_isLike_15 {G : GT} {M : MT} {P : Int → MT → Prop} (o0 : Nat) (f0 : TU o0) (o1 : Nat) (f1 : TU o1) (v2 : Int)
    (h : ((M o0 1) ≤ v2 → P 1 M) ∧ (v2 < (M o0 1) → (0 ≤ v2 ∧ v2 < 40) ∧ ((0 ≤ v2 ∧ v2 < 40) ∧ (((M (o0 + 1) (v2.toNat)) = (M (o1 + 1) (v2.toNat)) → WpI G J_tu_isLike 15 [(0, pR o0), (1, pR o1), (2, pI (w32 (v2 + 1)))] [] M P) ∧ (¬ (M (o0 + 1) (v2.toNat)) = (M (o1 + 1) (v2.toNat)) → P 0 M))))) : WpI G J_tu_isLike 15 [(0, pR o0), (1, pR o1), (2, pI v2)] [] M P := by
  show Wp G J_tu_isLike 0 0 15 [(0, pR o0), (1, pR o1), (2, pI v2)] [] NN RF M _
  refine wp_iload_n d_tu_isLike_15 rfl 2 rfl ?_
  refine wp_aload_n d_tu_isLike_16 rfl 0 rfl ?_
  refine wp_geti d_tu_isLike_17 1 f0.1 rfl (Nat.lt_of_succ_lt f0.2.2.2) (Nat.le_of_ble_eq_true rfl) rfl lk_tu_15 ?_
  refine wp_icmp_ge 46 d_tu_isLike_20 (by decide) (fun c1 => ?_) (fun c1 => ?_)
  · have h := h.1 c1
    refine wp_iconst d_tu_isLike_46 ⟨by decide, by decide⟩ ?_
    exact wp_zret d_tu_isLike_47 rfl ⟨Nat.le_of_ble_eq_true rfl, Nat.le_of_ble_eq_true rfl⟩ (by decide) ⟨_, rfl, rfl, rfl, h⟩
  · have h := h.2 c1
    refine wp_aload_n d_tu_isLike_23 rfl 0 rfl ?_
    refine wp_getr d_tu_isLike_24 0 f0.1 rfl (Nat.lt_of_succ_lt f0.2.2.2) (Nat.le_of_ble_eq_true rfl) rfl f0.2.2.1 lk_tu_9 ?_
    refine wp_iload_n d_tu_isLike_27 rfl 2 rfl ?_
    obtain ⟨⟨a2, b2⟩, h⟩ := h
    refine wp_iald d_tu_isLike_28 f0.2.1 f0.2.2.2 a2 b2 ?_
    refine wp_aload_n d_tu_isLike_29 rfl 1 rfl ?_
    refine wp_getr d_tu_isLike_30 0 f1.1 rfl (Nat.lt_of_succ_lt f1.2.2.2) (Nat.le_of_ble_eq_true rfl) rfl f1.2.2.1 lk_tu_9 ?_
    refine wp_iload_n d_tu_isLike_33 rfl 2 rfl ?_
    obtain ⟨⟨a3, b3⟩, h⟩ := h
    refine wp_iald d_tu_isLike_34 f1.2.1 f1.2.2.2 a3 b3 ?_
    refine wp_icmp_eq 40 d_tu_isLike_35 (by decide) (fun c4 => ?_) (fun c4 => ?_)
    · have h := h.1 c4
      refine wp_iinc (L2 := [(0, pR _), (1, pR _), (2, pI _)]) d_tu_isLike_40 2 rfl (Nat.le_of_ble_eq_true rfl) [1, 2, 0] rfl ?_
      refine wp_goto 15 d_tu_isLike_43 (by decide) ?_
      exact h
    · have h := h.2 c4
      refine wp_iconst d_tu_isLike_38 ⟨by decide, by decide⟩ ?_
      exact wp_zret d_tu_isLike_39 rfl ⟨Nat.le_of_ble_eq_true rfl, Nat.le_of_ble_eq_true rfl⟩ (by decide) ⟨_, rfl, rfl, rfl, h⟩
