set_option maxHeartbeats 8000000 in
theorem e_tx_noteAt {G : GT} {M : MT} {P : Int → MT → Prop} (o0 n0 : Nat) (f0 : TX o0 n0) (v1 : Int)
    (h : (0 ≤ v1 ∧ v1 < n0) ∧ (ClI G J_tl_within M [pI (M (o0 + 1) (v1.toNat)), pI 97, pI 103] (fun x2 M1 => ((x2 = 0 → P (-1) M1) ∧ (¬ x2 = 0 → (0 ≤ v1 ∧ v1 < n0) ∧ (P (w32 ((M1 (o0 + 1) (v1.toNat)) - 97)) M1)))))) : ClI G J_tx_noteAt M [pR o0, pI v1] P := by
  show Wp G J_tx_noteAt 0 0 0 [(0, pR o0), (1, pI v1)] [] NN RF M _
  refine wp_aload_n d_tx_noteAt_0 rfl 0 rfl ?_
  refine wp_getr d_tx_noteAt_1 0 f0.1 rfl (Nat.lt_of_succ_lt f0.2.2.2) (Nat.le_of_ble_eq_true rfl) rfl f0.2.2.1 lk_tx_15 ?_
  refine wp_iload_n d_tx_noteAt_4 rfl 1 rfl ?_
  obtain ⟨⟨a1, b1⟩, h⟩ := h
  refine wp_iald d_tx_noteAt_5 f0.2.1 f0.2.2.2 a1 b1 ?_
  refine wp_bipush d_tx_noteAt_6 ⟨by decide, by decide⟩ (by decide) ?_
  refine wp_bipush d_tx_noteAt_8 ⟨by decide, by decide⟩ (by decide) ?_
  refine wp_callSN [pI _, pI _, pI _] d_tx_noteAt_10 jd_tl_within lk_tx_19 rfl (Nat.le_of_ble_eq_true rfl) rfl ?_
  refine clI_k h ?_
  intro x2 M1 h
  refine wp_if_eq 28 d_tx_noteAt_13 (by decide) (fun c3 => ?_) (fun c3 => ?_)
  · have h := h.1 c3
    refine wp_iconst d_tx_noteAt_28 ⟨by decide, by decide⟩ ?_
    exact wp_iret d_tx_noteAt_29 rfl ⟨Nat.le_of_ble_eq_true rfl, Nat.le_of_ble_eq_true rfl⟩ ⟨_, rfl, rfl, rfl, h⟩
  · have h := h.2 c3
    refine wp_aload_n d_tx_noteAt_16 rfl 0 rfl ?_
    refine wp_getr d_tx_noteAt_17 0 f0.1 rfl (Nat.lt_of_succ_lt f0.2.2.2) (Nat.le_of_ble_eq_true rfl) rfl f0.2.2.1 lk_tx_15 ?_
    refine wp_iload_n d_tx_noteAt_20 rfl 1 rfl ?_
    obtain ⟨⟨a4, b4⟩, h⟩ := h
    refine wp_iald d_tx_noteAt_21 f0.2.1 f0.2.2.2 a4 b4 ?_
    refine wp_bipush d_tx_noteAt_22 ⟨by decide, by decide⟩ (by decide) ?_
    refine wp_isub d_tx_noteAt_24 ?_
    refine wp_goto 29 d_tx_noteAt_25 (by decide) ?_
    exact wp_iret d_tx_noteAt_29 rfl ⟨Nat.le_of_ble_eq_true rfl, Nat.le_of_ble_eq_true rfl⟩ ⟨_, rfl, rfl, rfl, h⟩
