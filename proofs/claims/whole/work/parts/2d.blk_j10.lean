set_option maxHeartbeats 8000000 in
theorem e_j1_canEncode {G : GT} {M : MT} {P : Int → MT → Prop} (v0 : Int)
    (h : (v0 < 0 → P 0 M) ∧ (0 ≤ v0 → (255 < v0 → P 0 M) ∧ (v0 ≤ 255 → P 1 M))) : ClI G J_j1_canEncode M [pI v0] P := by
  show Wp G J_j1_canEncode 0 0 0 [(0, pI v0)] [] NN RF M _
  refine wp_iload_n d_j1_canEncode_0 rfl 0 rfl ?_
  refine wp_if_lt 15 d_j1_canEncode_1 (by decide) (fun c1 => ?_) (fun c1 => ?_)
  · have h := h.1 c1
    refine wp_iconst d_j1_canEncode_15 ⟨by decide, by decide⟩ ?_
    exact wp_zret d_j1_canEncode_16 rfl ⟨Nat.le_of_ble_eq_true rfl, Nat.le_of_ble_eq_true rfl⟩ (by decide) ⟨_, rfl, rfl, rfl, h⟩
  · have h := h.2 c1
    refine wp_iload_n d_j1_canEncode_4 rfl 0 rfl ?_
    refine wp_sipush d_j1_canEncode_5 ⟨by decide, by decide⟩ (by decide) ?_
    refine wp_icmp_gt 15 d_j1_canEncode_8 (by decide) (fun c2 => ?_) (fun c2 => ?_)
    · have h := h.1 c2
      refine wp_iconst d_j1_canEncode_15 ⟨by decide, by decide⟩ ?_
      exact wp_zret d_j1_canEncode_16 rfl ⟨Nat.le_of_ble_eq_true rfl, Nat.le_of_ble_eq_true rfl⟩ (by decide) ⟨_, rfl, rfl, rfl, h⟩
    · have h := h.2 c2
      refine wp_iconst d_j1_canEncode_11 ⟨by decide, by decide⟩ ?_
      refine wp_goto 16 d_j1_canEncode_12 (by decide) ?_
      exact wp_zret d_j1_canEncode_16 rfl ⟨Nat.le_of_ble_eq_true rfl, Nat.le_of_ble_eq_true rfl⟩ (by decide) ⟨_, rfl, rfl, rfl, h⟩
set_option maxHeartbeats 8000000 in
theorem e_j1_indexOf3 {G : GT} {M : MT} {P : Int → MT → Prop} (v1 : Int) (v2 : Int) (v3 : Int)
    (h : ClI G J_j1_canEncode M [pI v1] (fun x1 M1 => ((¬ x1 = 0 → ((if v2 < 0 then 0 else v2) < (if 3 < v3 then 3 else v3) → ClI G J_j1_indexOfChar M1 [pR 1002, pI v1, pI (if v2 < 0 then 0 else v2), pI (if 3 < v3 then 3 else v3)] (fun x4 M2 => (P x4 M2))) ∧ ((if 3 < v3 then 3 else v3) ≤ (if v2 < 0 then 0 else v2) → P (-1) M1)) ∧ (x1 = 0 → P (-1) M1)))) : ClI G J_j1_indexOf3 M [pR 1002, pI v1, pI v2, pI v3] P := by
  show Wp G J_j1_indexOf3 0 0 0 [(0, pR 1002), (1, pI v1), (2, pI v2), (3, pI v3)] [] NN RF M _
  refine wp_iload_n d_j1_indexOf3_0 rfl 1 rfl ?_
  refine wp_callS [pI _] d_j1_indexOf3_1 jd_j1_canEncode lk_j1_88 rfl (Nat.le_of_ble_eq_true rfl) rfl ?_
  refine clI_k h ?_
  intro x1 M1 h
  refine wp_if_ne 9 d_j1_indexOf3_4 (by decide) (fun c2 => ?_) (fun c2 => ?_)
  · have h := h.1 c2
    refine wp_iload_n d_j1_indexOf3_9 rfl 2 rfl ?_
    refine wp_iconst d_j1_indexOf3_10 ⟨by decide, by decide⟩ ?_
    refine wp_mmax d_j1_indexOf3_11 lk_j1_92 w_mmax w_mi w_mmaxc ⟨Nat.le_of_ble_eq_true rfl, Nat.le_of_ble_eq_true rfl⟩ (Nat.le_of_ble_eq_true rfl) (Nat.le_of_ble_eq_true rfl) ?_
    refine wp_istore_n (L2 := [(0, pR 1002), (1, pI _), (2, pI _), (3, pI _)]) d_j1_indexOf3_14 rfl (Nat.le_of_ble_eq_true rfl) [1, 2, 0, 3] rfl ?_
    refine wp_iload_n d_j1_indexOf3_15 rfl 3 rfl ?_
    refine wp_aload_n d_j1_indexOf3_16 rfl 0 rfl ?_
    refine wp_tlen d_j1_indexOf3_17 ?_
    refine wp_mmin d_j1_indexOf3_18 lk_j1_38 w_mmin w_mi w_mminc ⟨Nat.le_of_ble_eq_true rfl, Nat.le_of_ble_eq_true rfl⟩ (Nat.le_of_ble_eq_true rfl) (Nat.le_of_ble_eq_true rfl) ?_
    refine wp_istore_n (L2 := [(0, pR 1002), (1, pI _), (2, pI _), (3, pI _)]) d_j1_indexOf3_21 rfl (Nat.le_of_ble_eq_true rfl) [1, 2, 3, 0] rfl ?_
    refine wp_iload_n d_j1_indexOf3_22 rfl 2 rfl ?_
    refine wp_iload_n d_j1_indexOf3_23 rfl 3 rfl ?_
    refine wp_icmp_lt 29 d_j1_indexOf3_24 (by decide) (fun c3 => ?_) (fun c3 => ?_)
    · have h := h.1 c3
      refine wp_aload_n d_j1_indexOf3_29 rfl 0 rfl ?_
      refine wp_iload_n d_j1_indexOf3_30 rfl 1 rfl ?_
      refine wp_iload_n d_j1_indexOf3_31 rfl 2 rfl ?_
      refine wp_iload_n d_j1_indexOf3_32 rfl 3 rfl ?_
      refine wp_callS [pR _, pI _, pI _, pI _] d_j1_indexOf3_33 jd_j1_indexOfChar lk_j1_95 rfl (Nat.le_of_ble_eq_true rfl) rfl ?_
      refine clI_k h ?_
      intro x4 M2 h
      exact wp_iret d_j1_indexOf3_36 rfl ⟨Nat.le_of_ble_eq_true rfl, Nat.le_of_ble_eq_true rfl⟩ ⟨_, rfl, rfl, rfl, h⟩
    · have h := h.2 c3
      refine wp_iconst d_j1_indexOf3_27 ⟨by decide, by decide⟩ ?_
      exact wp_iret d_j1_indexOf3_28 rfl ⟨Nat.le_of_ble_eq_true rfl, Nat.le_of_ble_eq_true rfl⟩ ⟨_, rfl, rfl, rfl, h⟩
  · have h := h.2 c2
    refine wp_iconst d_j1_indexOf3_7 ⟨by decide, by decide⟩ ?_
    exact wp_iret d_j1_indexOf3_8 rfl ⟨Nat.le_of_ble_eq_true rfl, Nat.le_of_ble_eq_true rfl⟩ ⟨_, rfl, rfl, rfl, h⟩
set_option maxHeartbeats 8000000 in
theorem e_j1_indexOfChar {G : GT} {M : MT} {P : Int → MT → Prop} (v1 : Int) (v2 : Int) (v3 : Int)
    (h : WpI G J_j1_indexOfChar 7 [(0, pR 1002), (3, pI v3), (4, pI (i2b v1)), (5, pI v2)] [] M P) : ClI G J_j1_indexOfChar M [pR 1002, pI v1, pI v2, pI v3] P := by
  show Wp G J_j1_indexOfChar 0 0 0 [(0, pR 1002), (1, pI v1), (2, pI v2), (3, pI v3)] [] NN RF M _
  refine wp_iload_n d_j1_indexOfChar_0 rfl 1 rfl ?_
  refine wp_i2b d_j1_indexOfChar_1 ?_
  refine wp_istore (L2 := [(0, pR 1002), (1, pI _), (2, pI _), (3, pI _), (4, pI _)]) d_j1_indexOfChar_2 (Nat.le_of_ble_eq_true rfl) [1, 2, 3, 4, 0] rfl ?_
  refine wp_iload_n d_j1_indexOfChar_4 rfl 2 rfl ?_
  refine wp_istore (L2 := [(0, pR 1002), (1, pI _), (2, pI _), (3, pI _), (4, pI _), (5, pI _)]) d_j1_indexOfChar_5 (Nat.le_of_ble_eq_true rfl) [1, 2, 3, 4, 5, 0] rfl ?_
  refine wp_sub (L2 := [(0, pR 1002), (3, pI _), (4, pI _), (5, pI _)]) [0, 3, 4, 5] rfl ?_
  exact h
set_option maxHeartbeats 8000000 in
theorem b_j1_indexOfChar_7 {G : GT} {M : MT} {P : Int → MT → Prop} (v3 : Int) (v4 : Int) (v5 : Int)
    (h : (v3 ≤ v5 → P (-1) M) ∧ (v5 < v3 → (0 ≤ v5 ∧ v5 < 3) ∧ ((¬ (sbyt v5.toNat) = v4 → WpI G J_j1_indexOfChar 7 [(0, pR 1002), (3, pI v3), (4, pI v4), (5, pI (w32 (v5 + 1)))] [] M P) ∧ ((sbyt v5.toNat) = v4 → P v5 M)))) : WpI G J_j1_indexOfChar 7 [(0, pR 1002), (3, pI v3), (4, pI v4), (5, pI v5)] [] M P := by
  show Wp G J_j1_indexOfChar 0 0 7 [(0, pR 1002), (3, pI v3), (4, pI v4), (5, pI v5)] [] NN RF M _
  refine wp_iload d_j1_indexOfChar_7 3 rfl ?_
  refine wp_iload_n d_j1_indexOfChar_9 rfl 1 rfl ?_
  refine wp_icmp_ge 31 d_j1_indexOfChar_10 (by decide) (fun c1 => ?_) (fun c1 => ?_)
  · have h := h.1 c1
    refine wp_iconst d_j1_indexOfChar_31 ⟨by decide, by decide⟩ ?_
    exact wp_iret d_j1_indexOfChar_32 rfl ⟨Nat.le_of_ble_eq_true rfl, Nat.le_of_ble_eq_true rfl⟩ ⟨_, rfl, rfl, rfl, h⟩
  · have h := h.2 c1
    refine wp_aload_n d_j1_indexOfChar_13 rfl 0 rfl ?_
    refine wp_iload d_j1_indexOfChar_14 3 rfl ?_
    obtain ⟨⟨a2, b2⟩, h⟩ := h
    refine wp_tb d_j1_indexOfChar_16 a2 b2 ?_
    refine wp_iload d_j1_indexOfChar_17 2 rfl ?_
    refine wp_icmp_ne 25 d_j1_indexOfChar_19 (by decide) (fun c3 => ?_) (fun c3 => ?_)
    · have h := h.1 c3
      refine wp_iinc (L2 := [(0, pR 1002), (3, pI _), (4, pI _), (5, pI _)]) d_j1_indexOfChar_25 3 rfl (Nat.le_of_ble_eq_true rfl) [1, 2, 3, 0] rfl ?_
      refine wp_goto 7 d_j1_indexOfChar_28 (by decide) ?_
      exact h
    · have h := h.2 c3
      refine wp_iload d_j1_indexOfChar_22 3 rfl ?_
      exact wp_iret d_j1_indexOfChar_24 rfl ⟨Nat.le_of_ble_eq_true rfl, Nat.le_of_ble_eq_true rfl⟩ ⟨_, rfl, rfl, rfl, h⟩
