set_option maxHeartbeats 8000000 in
theorem e_ye_forget {G : GT} {M : MT} {P : MT → Prop} 
    (h : ∀ M1 : MT, M1 = mu M 40 7 (-1) → (P M1)) : ClV G J_ye_forget M [pR 40] P := by
  show Wp G J_ye_forget 0 0 0 [(0, pR 40)] [] NN RF M _
  refine wp_aload_n d_ye_forget_0 rfl 0 rfl ?_
  refine wp_iconst d_ye_forget_1 ⟨by decide, by decide⟩ ?_
  refine wp_puti d_ye_forget_2 7 s_40 rfl (Nat.le_of_ble_eq_true rfl) (Nat.le_of_ble_eq_true rfl) (Or.inl rfl) rfl lk_ye_38 ?_
  have h := h _ rfl
  exact wp_vret d_ye_forget_5 rfl ⟨Nat.le_of_ble_eq_true rfl, Nat.le_of_ble_eq_true rfl⟩ ⟨rfl, rfl, rfl, h⟩
set_option maxHeartbeats 8000000 in
theorem e_ye_live {G : GT} {M : MT} {P : MT → Prop} (v2 : Int)
    (h : (¬ (M 40 7) = v2 → ClV G J_ye_begin M [pR 40, pR 1] (fun M1 => (WpV G J_ye_live 17 [(0, pR 40), (1, pR 1), (2, pI v2), (3, pR 84), (4, pI 0)] [] M1 P))) ∧ ((M 40 7) = v2 → P M)) : ClV G J_ye_live M [pR 40, pR 1, pI v2, pR 84] P := by
  show Wp G J_ye_live 0 0 0 [(0, pR 40), (1, pR 1), (2, pI v2), (3, pR 84)] [] NN RF M _
  refine wp_aload_n d_ye_live_0 rfl 0 rfl ?_
  refine wp_geti d_ye_live_1 7 s_40 rfl (Nat.le_of_ble_eq_true rfl) (Nat.le_of_ble_eq_true rfl) rfl lk_ye_38 ?_
  refine wp_iload_n d_ye_live_4 rfl 2 rfl ?_
  refine wp_icmp_ne 9 d_ye_live_5 (by decide) (fun c1 => ?_) (fun c1 => ?_)
  · have h := h.1 c1
    refine wp_aload_n d_ye_live_9 rfl 0 rfl ?_
    refine wp_aload_n d_ye_live_10 rfl 1 rfl ?_
    refine wp_callV [pR _] _ d_ye_live_11 jd_ye_begin lk_ye_42 rfl s_40 rfl (Nat.le_of_ble_eq_true rfl) (Nat.le_of_ble_eq_true rfl) rfl ?_
    refine clV_k h ?_
    intro M1 h
    refine wp_iconst d_ye_live_14 ⟨by decide, by decide⟩ ?_
    refine wp_istore (L2 := [(0, pR 40), (1, pR 1), (2, pI _), (3, pR 84), (4, pI _)]) d_ye_live_15 (Nat.le_of_ble_eq_true rfl) [1, 2, 3, 4, 0] rfl ?_
    exact h
  · have h := h.2 c1
    exact wp_vret d_ye_live_8 rfl ⟨Nat.le_of_ble_eq_true rfl, Nat.le_of_ble_eq_true rfl⟩ ⟨rfl, rfl, rfl, h⟩
set_option maxHeartbeats 8000000 in
theorem b_ye_live_17 {G : GT} {M : MT} {P : MT → Prop} (v2 : Int) (v4 : Int)
    (h : (40 ≤ v4 → ∀ M1 : MT, M1 = mu M 40 7 v2 → (P M1)) ∧ (v4 < 40 → ClV G J_ye_lendOut M [pR 40, pR 1, pI v4] (fun M1 => (ClV G J_ye_humLent M1 [pR 40, pR 1] (fun M2 => (ClV G J_ye_comeBack M2 [pR 40, pR 1, pI v4, pI v2, pR 84] (fun M3 => (ClV G J_ye_keep M3 [pR 40, pR 1, pI v4] (fun M4 => (WpV G J_ye_live 17 [(0, pR 40), (1, pR 1), (2, pI v2), (3, pR 84), (4, pI (w32 (v4 + 1)))] [] M4 P)))))))))) : WpV G J_ye_live 17 [(0, pR 40), (1, pR 1), (2, pI v2), (3, pR 84), (4, pI v4)] [] M P := by
  show Wp G J_ye_live 0 0 17 [(0, pR 40), (1, pR 1), (2, pI v2), (3, pR 84), (4, pI v4)] [] NN RF M _
  refine wp_iload d_ye_live_17 4 rfl ?_
  refine wp_bipush d_ye_live_19 ⟨by decide, by decide⟩ (by decide) ?_
  refine wp_icmp_ge 58 d_ye_live_21 (by decide) (fun c1 => ?_) (fun c1 => ?_)
  · have h := h.1 c1
    refine wp_aload_n d_ye_live_58 rfl 0 rfl ?_
    refine wp_iload_n d_ye_live_59 rfl 2 rfl ?_
    refine wp_puti d_ye_live_60 7 s_40 rfl (Nat.le_of_ble_eq_true rfl) (Nat.le_of_ble_eq_true rfl) (Or.inl rfl) rfl lk_ye_38 ?_
    have h := h _ rfl
    exact wp_vret d_ye_live_63 rfl ⟨Nat.le_of_ble_eq_true rfl, Nat.le_of_ble_eq_true rfl⟩ ⟨rfl, rfl, rfl, h⟩
  · have h := h.2 c1
    refine wp_aload_n d_ye_live_24 rfl 0 rfl ?_
    refine wp_aload_n d_ye_live_25 rfl 1 rfl ?_
    refine wp_iload d_ye_live_26 4 rfl ?_
    refine wp_callV [pR _, pI _] _ d_ye_live_28 jd_ye_lendOut lk_ye_46 rfl s_40 rfl (Nat.le_of_ble_eq_true rfl) (Nat.le_of_ble_eq_true rfl) rfl ?_
    refine clV_k h ?_
    intro M1 h
    refine wp_aload_n d_ye_live_31 rfl 0 rfl ?_
    refine wp_aload_n d_ye_live_32 rfl 1 rfl ?_
    refine wp_callV [pR _] _ d_ye_live_33 jd_ye_humLent lk_ye_50 rfl s_40 rfl (Nat.le_of_ble_eq_true rfl) (Nat.le_of_ble_eq_true rfl) rfl ?_
    refine clV_k h ?_
    intro M2 h
    refine wp_aload_n d_ye_live_36 rfl 0 rfl ?_
    refine wp_aload_n d_ye_live_37 rfl 1 rfl ?_
    refine wp_iload d_ye_live_38 4 rfl ?_
    refine wp_iload_n d_ye_live_40 rfl 2 rfl ?_
    refine wp_aload_n d_ye_live_41 rfl 3 rfl ?_
    refine wp_callV [pR _, pI _, pI _, pR _] _ d_ye_live_42 jd_ye_comeBack lk_ye_53 rfl s_40 rfl (Nat.le_of_ble_eq_true rfl) (Nat.le_of_ble_eq_true rfl) rfl ?_
    refine clV_k h ?_
    intro M3 h
    refine wp_aload_n d_ye_live_45 rfl 0 rfl ?_
    refine wp_aload_n d_ye_live_46 rfl 1 rfl ?_
    refine wp_iload d_ye_live_47 4 rfl ?_
    refine wp_callV [pR _, pI _] _ d_ye_live_49 jd_ye_keep lk_ye_57 rfl s_40 rfl (Nat.le_of_ble_eq_true rfl) (Nat.le_of_ble_eq_true rfl) rfl ?_
    refine clV_k h ?_
    intro M4 h
    refine wp_iinc (L2 := [(0, pR 40), (1, pR 1), (2, pI _), (3, pR 84), (4, pI _)]) d_ye_live_52 4 rfl (Nat.le_of_ble_eq_true rfl) [1, 2, 3, 4, 0] rfl ?_
    refine wp_goto 17 d_ye_live_55 (by decide) ?_
    exact h
set_option maxHeartbeats 8000000 in
theorem e_ye_sizeOf {G : GT} {M : MT} {P : Int → MT → Prop} (v1 : Int) (v2 : Int)
    (h : (0 ≤ (w32 ((w32 (v1 * 6)) + v2)) ∧ (w32 ((w32 (v1 * 6)) + v2)) < 240) ∧ (P (M 47 ((w32 ((w32 (v1 * 6)) + v2)).toNat)) M)) : ClI G J_ye_sizeOf M [pR 40, pI v1, pI v2] P := by
  show Wp G J_ye_sizeOf 0 0 0 [(0, pR 40), (1, pI v1), (2, pI v2)] [] NN RF M _
  refine wp_aload_n d_ye_sizeOf_0 rfl 0 rfl ?_
  refine wp_getr d_ye_sizeOf_1 5 s_40 rfl (Nat.le_of_ble_eq_true rfl) (Nat.le_of_ble_eq_true rfl) rfl rfl lk_ye_32 ?_
  refine wp_iload_n d_ye_sizeOf_4 rfl 1 rfl ?_
  refine wp_bipush d_ye_sizeOf_5 ⟨by decide, by decide⟩ (by decide) ?_
  refine wp_imul d_ye_sizeOf_7 ?_
  refine wp_iload_n d_ye_sizeOf_8 rfl 2 rfl ?_
  refine wp_iadd d_ye_sizeOf_9 ?_
  obtain ⟨⟨a1, b1⟩, h⟩ := h
  refine wp_iald d_ye_sizeOf_10 s_47 (Nat.le_of_ble_eq_true rfl) a1 b1 ?_
  exact wp_iret d_ye_sizeOf_11 rfl ⟨Nat.le_of_ble_eq_true rfl, Nat.le_of_ble_eq_true rfl⟩ ⟨_, rfl, rfl, rfl, h⟩
set_option maxHeartbeats 8000000 in
theorem e_ye_noteOf {G : GT} {M : MT} {P : Int → MT → Prop} (v1 : Int) (v2 : Int) (v3 : Int)
    (h : (v3 < 0 → P (-1) M) ∧ (0 ≤ v3 → (0 ≤ (w32 ((w32 (v1 * 6)) + v2)) ∧ (w32 ((w32 (v1 * 6)) + v2)) < 240) ∧ (((M 47 ((w32 ((w32 (v1 * 6)) + v2)).toNat)) ≤ v3 → P (-1) M) ∧ (v3 < (M 47 ((w32 ((w32 (v1 * 6)) + v2)).toNat)) → (0 ≤ (w32 ((w32 ((w32 ((w32 (v1 * 6)) + v2)) * 40)) + v3)) ∧ (w32 ((w32 ((w32 ((w32 (v1 * 6)) + v2)) * 40)) + v3)) < 9600) ∧ (P (M 46 ((w32 ((w32 ((w32 ((w32 (v1 * 6)) + v2)) * 40)) + v3)).toNat)) M))))) : ClI G J_ye_noteOf M [pR 40, pI v1, pI v2, pI v3] P := by
  show Wp G J_ye_noteOf 0 0 0 [(0, pR 40), (1, pI v1), (2, pI v2), (3, pI v3)] [] NN RF M _
  refine wp_iload_n d_ye_noteOf_0 rfl 1 rfl ?_
  refine wp_bipush d_ye_noteOf_1 ⟨by decide, by decide⟩ (by decide) ?_
  refine wp_imul d_ye_noteOf_3 ?_
  refine wp_iload_n d_ye_noteOf_4 rfl 2 rfl ?_
  refine wp_iadd d_ye_noteOf_5 ?_
  refine wp_istore (L2 := [(0, pR 40), (1, pI _), (2, pI _), (3, pI _), (4, pI _)]) d_ye_noteOf_6 (Nat.le_of_ble_eq_true rfl) [1, 2, 3, 4, 0] rfl ?_
  refine wp_iload_n d_ye_noteOf_8 rfl 3 rfl ?_
  refine wp_if_lt 38 d_ye_noteOf_9 (by decide) (fun c1 => ?_) (fun c1 => ?_)
  · have h := h.1 c1
    refine wp_iconst d_ye_noteOf_38 ⟨by decide, by decide⟩ ?_
    exact wp_iret d_ye_noteOf_39 rfl ⟨Nat.le_of_ble_eq_true rfl, Nat.le_of_ble_eq_true rfl⟩ ⟨_, rfl, rfl, rfl, h⟩
  · have h := h.2 c1
    refine wp_iload_n d_ye_noteOf_12 rfl 3 rfl ?_
    refine wp_aload_n d_ye_noteOf_13 rfl 0 rfl ?_
    refine wp_getr d_ye_noteOf_14 5 s_40 rfl (Nat.le_of_ble_eq_true rfl) (Nat.le_of_ble_eq_true rfl) rfl rfl lk_ye_32 ?_
    refine wp_iload d_ye_noteOf_17 4 rfl ?_
    obtain ⟨⟨a2, b2⟩, h⟩ := h
    refine wp_iald d_ye_noteOf_19 s_47 (Nat.le_of_ble_eq_true rfl) a2 b2 ?_
    refine wp_icmp_ge 38 d_ye_noteOf_20 (by decide) (fun c3 => ?_) (fun c3 => ?_)
    · have h := h.1 c3
      refine wp_iconst d_ye_noteOf_38 ⟨by decide, by decide⟩ ?_
      exact wp_iret d_ye_noteOf_39 rfl ⟨Nat.le_of_ble_eq_true rfl, Nat.le_of_ble_eq_true rfl⟩ ⟨_, rfl, rfl, rfl, h⟩
    · have h := h.2 c3
      refine wp_aload_n d_ye_noteOf_23 rfl 0 rfl ?_
      refine wp_getr d_ye_noteOf_24 4 s_40 rfl (Nat.le_of_ble_eq_true rfl) (Nat.le_of_ble_eq_true rfl) rfl rfl lk_ye_29 ?_
      refine wp_iload d_ye_noteOf_27 4 rfl ?_
      refine wp_bipush d_ye_noteOf_29 ⟨by decide, by decide⟩ (by decide) ?_
      refine wp_imul d_ye_noteOf_31 ?_
      refine wp_iload_n d_ye_noteOf_32 rfl 3 rfl ?_
      refine wp_iadd d_ye_noteOf_33 ?_
      obtain ⟨⟨a4, b4⟩, h⟩ := h
      refine wp_iald d_ye_noteOf_34 s_46 (Nat.le_of_ble_eq_true rfl) a4 b4 ?_
      refine wp_goto 39 d_ye_noteOf_35 (by decide) ?_
      exact wp_iret d_ye_noteOf_39 rfl ⟨Nat.le_of_ble_eq_true rfl, Nat.le_of_ble_eq_true rfl⟩ ⟨_, rfl, rfl, rfl, h⟩
set_option maxHeartbeats 8000000 in
theorem e_ye_holderOf {G : GT} {M : MT} {P : Int → MT → Prop} (v1 : Int) (v2 : Int)
    (h : (0 ≤ (w32 ((w32 (v1 * 6)) + v2)) ∧ (w32 ((w32 (v1 * 6)) + v2)) < 240) ∧ (P (M 48 ((w32 ((w32 (v1 * 6)) + v2)).toNat)) M)) : ClI G J_ye_holderOf M [pR 40, pI v1, pI v2] P := by
  show Wp G J_ye_holderOf 0 0 0 [(0, pR 40), (1, pI v1), (2, pI v2)] [] NN RF M _
  refine wp_aload_n d_ye_holderOf_0 rfl 0 rfl ?_
  refine wp_getr d_ye_holderOf_1 6 s_40 rfl (Nat.le_of_ble_eq_true rfl) (Nat.le_of_ble_eq_true rfl) rfl rfl lk_ye_35 ?_
  refine wp_iload_n d_ye_holderOf_4 rfl 1 rfl ?_
  refine wp_bipush d_ye_holderOf_5 ⟨by decide, by decide⟩ (by decide) ?_
  refine wp_imul d_ye_holderOf_7 ?_
  refine wp_iload_n d_ye_holderOf_8 rfl 2 rfl ?_
  refine wp_iadd d_ye_holderOf_9 ?_
  obtain ⟨⟨a1, b1⟩, h⟩ := h
  refine wp_iald d_ye_holderOf_10 s_48 (Nat.le_of_ble_eq_true rfl) a1 b1 ?_
  exact wp_iret d_ye_holderOf_11 rfl ⟨Nat.le_of_ble_eq_true rfl, Nat.le_of_ble_eq_true rfl⟩ ⟨_, rfl, rfl, rfl, h⟩
set_option maxHeartbeats 8000000 in
theorem e_ye_allAtBank {G : GT} {M : MT} {P : Int → MT → Prop} (v2 : Int)
    (h : WpI G J_ye_allAtBank 2 [(0, pR 40), (1, pR 1), (2, pI v2), (3, pI 0)] [] M P) : ClI G J_ye_allAtBank M [pR 40, pR 1, pI v2] P := by
  show Wp G J_ye_allAtBank 0 0 0 [(0, pR 40), (1, pR 1), (2, pI v2)] [] NN RF M _
  refine wp_iconst d_ye_allAtBank_0 ⟨by decide, by decide⟩ ?_
  refine wp_istore_n (L2 := [(0, pR 40), (1, pR 1), (2, pI _), (3, pI _)]) d_ye_allAtBank_1 rfl (Nat.le_of_ble_eq_true rfl) [1, 2, 3, 0] rfl ?_
  exact h
set_option maxHeartbeats 8000000 in
theorem b_ye_allAtBank_2 {G : GT} {M : MT} {P : Int → MT → Prop} (v2 : Int) (v3 : Int)
    (h : ((M 1 4) ≤ v3 → P 1 M) ∧ (v3 < (M 1 4) → ClI G J_ye_holderOf M [pR 40, pI v2, pI v3] (fun x2 M1 => ((x2 = (-1) → WpI G J_ye_allAtBank 2 [(0, pR 40), (1, pR 1), (2, pI v2), (3, pI (w32 (v3 + 1)))] [] M1 P) ∧ (¬ x2 = (-1) → P 0 M1))))) : WpI G J_ye_allAtBank 2 [(0, pR 40), (1, pR 1), (2, pI v2), (3, pI v3)] [] M P := by
  show Wp G J_ye_allAtBank 0 0 2 [(0, pR 40), (1, pR 1), (2, pI v2), (3, pI v3)] [] NN RF M _
  refine wp_iload_n d_ye_allAtBank_2 rfl 3 rfl ?_
  refine wp_aload_n d_ye_allAtBank_3 rfl 1 rfl ?_
  refine wp_geti d_ye_allAtBank_4 4 s_1 rfl (Nat.le_of_ble_eq_true rfl) (Nat.le_of_ble_eq_true rfl) rfl lk_ye_60 ?_
  refine wp_icmp_ge 28 d_ye_allAtBank_7 (by decide) (fun c1 => ?_) (fun c1 => ?_)
  · have h := h.1 c1
    refine wp_iconst d_ye_allAtBank_28 ⟨by decide, by decide⟩ ?_
    exact wp_zret d_ye_allAtBank_29 rfl ⟨Nat.le_of_ble_eq_true rfl, Nat.le_of_ble_eq_true rfl⟩ (by decide) ⟨_, rfl, rfl, rfl, h⟩
  · have h := h.2 c1
    refine wp_aload_n d_ye_allAtBank_10 rfl 0 rfl ?_
    refine wp_iload_n d_ye_allAtBank_11 rfl 2 rfl ?_
    refine wp_iload_n d_ye_allAtBank_12 rfl 3 rfl ?_
    refine wp_callV [pI _, pI _] _ d_ye_allAtBank_13 jd_ye_holderOf lk_ye_65 rfl s_40 rfl (Nat.le_of_ble_eq_true rfl) (Nat.le_of_ble_eq_true rfl) rfl ?_
    refine clI_k h ?_
    intro x2 M1 h
    refine wp_iconst d_ye_allAtBank_16 ⟨by decide, by decide⟩ ?_
    refine wp_icmp_eq 22 d_ye_allAtBank_17 (by decide) (fun c3 => ?_) (fun c3 => ?_)
    · have h := h.1 c3
      refine wp_iinc (L2 := [(0, pR 40), (1, pR 1), (2, pI _), (3, pI _)]) d_ye_allAtBank_22 3 rfl (Nat.le_of_ble_eq_true rfl) [1, 2, 3, 0] rfl ?_
      refine wp_goto 2 d_ye_allAtBank_25 (by decide) ?_
      exact h
    · have h := h.2 c3
      refine wp_iconst d_ye_allAtBank_20 ⟨by decide, by decide⟩ ?_
      exact wp_zret d_ye_allAtBank_21 rfl ⟨Nat.le_of_ble_eq_true rfl, Nat.le_of_ble_eq_true rfl⟩ (by decide) ⟨_, rfl, rfl, rfl, h⟩
set_option maxHeartbeats 8000000 in
theorem e_ye_begin {G : GT} {M : MT} {P : MT → Prop} 
    (h : WpV G J_ye_begin 2 [(0, pR 40), (1, pR 1), (2, pI 0)] [] M P) : ClV G J_ye_begin M [pR 40, pR 1] P := by
  show Wp G J_ye_begin 0 0 0 [(0, pR 40), (1, pR 1)] [] NN RF M _
  refine wp_iconst d_ye_begin_0 ⟨by decide, by decide⟩ ?_
  refine wp_istore_n (L2 := [(0, pR 40), (1, pR 1), (2, pI _)]) d_ye_begin_1 rfl (Nat.le_of_ble_eq_true rfl) [1, 2, 0] rfl ?_
  exact h
set_option maxHeartbeats 8000000 in
theorem b_ye_begin_2 {G : GT} {M : MT} {P : MT → Prop} (v2 : Int)
    (h : ((M 1 4) ≤ v2 → WpV G J_ye_begin 40 [(1, pR 1), (2, pI 0)] [] M P) ∧ (v2 < (M 1 4) → (0 ≤ v2 ∧ v2 < 6) ∧ ((0 ≤ v2 ∧ v2 < 6) ∧ (ClV G J_tu_become M [pR (49 + 4 * v2.toNat), pR (10 + 2 * v2.toNat)] (fun M1 => ((0 ≤ v2 ∧ v2 < 6) ∧ (∀ M2 : MT, M2 = mu M1 43 (v2.toNat) (-1) → (WpV G J_ye_begin 2 [(0, pR 40), (1, pR 1), (2, pI (w32 (v2 + 1)))] [] M2 P)))))))) : WpV G J_ye_begin 2 [(0, pR 40), (1, pR 1), (2, pI v2)] [] M P := by
  show Wp G J_ye_begin 0 0 2 [(0, pR 40), (1, pR 1), (2, pI v2)] [] NN RF M _
  refine wp_iload_n d_ye_begin_2 rfl 2 rfl ?_
  refine wp_aload_n d_ye_begin_3 rfl 1 rfl ?_
  refine wp_geti d_ye_begin_4 4 s_1 rfl (Nat.le_of_ble_eq_true rfl) (Nat.le_of_ble_eq_true rfl) rfl lk_ye_60 ?_
  refine wp_icmp_ge 38 d_ye_begin_7 (by decide) (fun c1 => ?_) (fun c1 => ?_)
  · have h := h.1 c1
    refine wp_iconst d_ye_begin_38 ⟨by decide, by decide⟩ ?_
    refine wp_istore_n (L2 := [(0, pR 40), (1, pR 1), (2, pI _)]) d_ye_begin_39 rfl (Nat.le_of_ble_eq_true rfl) [1, 2, 0] rfl ?_
    refine wp_sub (L2 := [(1, pR 1), (2, pI _)]) [1, 2] rfl ?_
    exact h
  · have h := h.2 c1
    refine wp_aload_n d_ye_begin_10 rfl 0 rfl ?_
    refine wp_getr d_ye_begin_11 0 s_40 rfl (Nat.le_of_ble_eq_true rfl) (Nat.le_of_ble_eq_true rfl) rfl rfl lk_ye_11 ?_
    refine wp_iload_n d_ye_begin_14 rfl 2 rfl ?_
    obtain ⟨⟨a2, b2⟩, h⟩ := h
    refine wp_aald (t := 1) d_ye_begin_15 s_41 rfl (Nat.le_of_ble_eq_true rfl) a2 b2 (k_now _ (nat_lt a2 b2)).1 ?_
    refine wp_aload_n d_ye_begin_16 rfl 1 rfl ?_
    refine wp_getr d_ye_begin_17 1 s_1 rfl (Nat.le_of_ble_eq_true rfl) (Nat.le_of_ble_eq_true rfl) rfl rfl lk_ye_69 ?_
    refine wp_iload_n d_ye_begin_20 rfl 2 rfl ?_
    obtain ⟨⟨a3, b3⟩, h⟩ := h
    refine wp_aald (t := 1) d_ye_begin_21 s_3 rfl (Nat.le_of_ble_eq_true rfl) a3 b3 (k_tunes _ (nat_lt a3 b3)).1 ?_
    refine wp_callV [pR _] _ d_ye_begin_22 jd_tu_become lk_ye_72 rfl (k_now _ (nat_lt a2 b2)).2.1 rfl (Nat.lt_of_succ_lt (k_now _ (nat_lt a2 b2)).2.2.2.2) (Nat.le_of_ble_eq_true rfl) rfl ?_
    refine clV_k h ?_
    intro M1 h
    refine wp_aload_n d_ye_begin_25 rfl 0 rfl ?_
    refine wp_getr d_ye_begin_26 2 s_40 rfl (Nat.le_of_ble_eq_true rfl) (Nat.le_of_ble_eq_true rfl) rfl rfl lk_ye_20 ?_
    refine wp_iload_n d_ye_begin_29 rfl 2 rfl ?_
    refine wp_iconst d_ye_begin_30 ⟨by decide, by decide⟩ ?_
    obtain ⟨⟨a4, b4⟩, h⟩ := h
    refine wp_iast d_ye_begin_31 s_43 (Nat.le_of_ble_eq_true rfl) a4 b4 ?_
    have h := h _ rfl
    refine wp_iinc (L2 := [(0, pR 40), (1, pR 1), (2, pI _)]) d_ye_begin_32 2 rfl (Nat.le_of_ble_eq_true rfl) [1, 2, 0] rfl ?_
    refine wp_goto 2 d_ye_begin_35 (by decide) ?_
    exact h
set_option maxHeartbeats 8000000 in
theorem b_ye_begin_40 {G : GT} {M : MT} {P : MT → Prop} (v2 : Int)
    (h : ((M 1 6) ≤ v2 → P M) ∧ (v2 < (M 1 6) → (0 ≤ v2 ∧ v2 < 12) ∧ (∀ M1 : MT, M1 = mu M (28 + v2.toNat) 4 0 → (∀ M2 : MT, M2 = mu M1 (28 + v2.toNat) 5 0 → (∀ M3 : MT, M3 = mu M2 (28 + v2.toNat) 6 0 → (WpV G J_ye_begin 40 [(1, pR 1), (2, pI (w32 (v2 + 1)))] [] M3 P)))))) : WpV G J_ye_begin 40 [(1, pR 1), (2, pI v2)] [] M P := by
  show Wp G J_ye_begin 0 0 40 [(1, pR 1), (2, pI v2)] [] NN RF M _
  refine wp_iload_n d_ye_begin_40 rfl 1 rfl ?_
  refine wp_aload_n d_ye_begin_41 rfl 0 rfl ?_
  refine wp_geti d_ye_begin_42 6 s_1 rfl (Nat.le_of_ble_eq_true rfl) (Nat.le_of_ble_eq_true rfl) rfl lk_ye_76 ?_
  refine wp_icmp_ge 76 d_ye_begin_45 (by decide) (fun c1 => ?_) (fun c1 => ?_)
  · have h := h.1 c1
    exact wp_vret d_ye_begin_76 rfl ⟨Nat.le_of_ble_eq_true rfl, Nat.le_of_ble_eq_true rfl⟩ ⟨rfl, rfl, rfl, h⟩
  · have h := h.2 c1
    refine wp_aload_n d_ye_begin_48 rfl 0 rfl ?_
    refine wp_getr d_ye_begin_49 3 s_1 rfl (Nat.le_of_ble_eq_true rfl) (Nat.le_of_ble_eq_true rfl) rfl rfl lk_ye_79 ?_
    refine wp_iload_n d_ye_begin_52 rfl 1 rfl ?_
    obtain ⟨⟨a2, b2⟩, h⟩ := h
    refine wp_aald (t := 3) d_ye_begin_53 s_5 rfl (Nat.le_of_ble_eq_true rfl) a2 b2 (k_loans _ (nat_lt a2 b2)).1 ?_
    refine wp_astore_n (L2 := [(1, pR 1), (2, pI _), (3, pR _)]) d_ye_begin_54 rfl (Nat.le_of_ble_eq_true rfl) [1, 2, 0] rfl ?_
    refine wp_aload_n d_ye_begin_55 rfl 2 rfl ?_
    refine wp_iconst d_ye_begin_56 ⟨by decide, by decide⟩ ?_
    refine wp_puti d_ye_begin_57 4 (k_loans _ (nat_lt a2 b2)).2.1 rfl (k_loans _ (nat_lt a2 b2)).2.2 (Nat.le_of_ble_eq_true rfl) (Or.inr ⟨rfl, by decide⟩) rfl lk_ye_83 ?_
    have h := h _ rfl
    refine wp_aload_n d_ye_begin_60 rfl 2 rfl ?_
    refine wp_iconst d_ye_begin_61 ⟨by decide, by decide⟩ ?_
    refine wp_puti d_ye_begin_62 5 (k_loans _ (nat_lt a2 b2)).2.1 rfl (k_loans _ (nat_lt a2 b2)).2.2 (Nat.le_of_ble_eq_true rfl) (Or.inr ⟨rfl, by decide⟩) rfl lk_ye_89 ?_
    have h := h _ rfl
    refine wp_aload_n d_ye_begin_65 rfl 2 rfl ?_
    refine wp_iconst d_ye_begin_66 ⟨by decide, by decide⟩ ?_
    refine wp_puti d_ye_begin_67 6 (k_loans _ (nat_lt a2 b2)).2.1 rfl (k_loans _ (nat_lt a2 b2)).2.2 (Nat.le_of_ble_eq_true rfl) (Or.inl rfl) rfl lk_ye_92 ?_
    have h := h _ rfl
    refine wp_iinc (L2 := [(1, pR 1), (2, pI _), (3, pR _)]) d_ye_begin_70 1 rfl (Nat.le_of_ble_eq_true rfl) [1, 0, 2] rfl ?_
    refine wp_goto 40 d_ye_begin_73 (by decide) ?_
    refine wp_sub (L2 := [(1, pR 1), (2, pI _)]) [0, 1] rfl ?_
    exact h
set_option maxHeartbeats 8000000 in
theorem e_ye_lendOut {G : GT} {M : MT} {P : MT → Prop} (v2 : Int)
    (h : WpV G J_ye_lendOut 2 [(0, pR 40), (1, pR 1), (2, pI v2), (3, pI 0)] [] M P) : ClV G J_ye_lendOut M [pR 40, pR 1, pI v2] P := by
  show Wp G J_ye_lendOut 0 0 0 [(0, pR 40), (1, pR 1), (2, pI v2)] [] NN RF M _
  refine wp_iconst d_ye_lendOut_0 ⟨by decide, by decide⟩ ?_
  refine wp_istore_n (L2 := [(0, pR 40), (1, pR 1), (2, pI _), (3, pI _)]) d_ye_lendOut_1 rfl (Nat.le_of_ble_eq_true rfl) [1, 2, 3, 0] rfl ?_
  exact h
set_option maxHeartbeats 8000000 in
theorem b_ye_lendOut_2 {G : GT} {M : MT} {P : MT → Prop} (v2 : Int) (v3 : Int)
    (h : ((M 1 6) ≤ v3 → P M) ∧ (v3 < (M 1 6) → (0 ≤ v3 ∧ v3 < 12) ∧ (((M 1 4) ≤ (M (28 + v3.toNat) 1) → (¬ (M (28 + v3.toNat) 0) = v2 → WpV G J_ye_lendOut 2 [(0, pR 40), (1, pR 1), (2, pI v2), (3, pI (w32 (v3 + 1)))] [] M P) ∧ ((M (28 + v3.toNat) 0) = v2 → WpV G J_ye_lendOut 2 [(0, pR 40), (1, pR 1), (2, pI v2), (3, pI (w32 (v3 + 1)))] [] M P)) ∧ ((M (28 + v3.toNat) 1) < (M 1 4) → ((M 1 5) ≤ (M (28 + v3.toNat) 2) → (¬ (M (28 + v3.toNat) 0) = v2 → WpV G J_ye_lendOut 2 [(0, pR 40), (1, pR 1), (2, pI v2), (3, pI (w32 (v3 + 1)))] [] M P) ∧ ((M (28 + v3.toNat) 0) = v2 → WpV G J_ye_lendOut 2 [(0, pR 40), (1, pR 1), (2, pI v2), (3, pI (w32 (v3 + 1)))] [] M P)) ∧ ((M (28 + v3.toNat) 2) < (M 1 5) → (¬ (M (28 + v3.toNat) 0) = v2 → WpV G J_ye_lendOut 2 [(0, pR 40), (1, pR 1), (2, pI v2), (3, pI (w32 (v3 + 1)))] [] M P) ∧ ((M (28 + v3.toNat) 0) = v2 → (0 ≤ (M (28 + v3.toNat) 1) ∧ (M (28 + v3.toNat) 1) < 6) ∧ ((¬ (M 43 ((M (28 + v3.toNat) 1).toNat)) = (-1) → WpV G J_ye_lendOut 2 [(0, pR 40), (1, pR 1), (2, pI v2), (3, pI (w32 (v3 + 1)))] [] M P) ∧ ((M 43 ((M (28 + v3.toNat) 1).toNat)) = (-1) → ∀ M1 : MT, M1 = mu M (28 + v3.toNat) 4 1 → ((0 ≤ (M1 (28 + v3.toNat) 1) ∧ (M1 (28 + v3.toNat) 1) < 6) ∧ (∀ M2 : MT, M2 = mu M1 43 ((M1 (28 + v3.toNat) 1).toNat) v3 → ((0 ≤ (M2 (28 + v3.toNat) 1) ∧ (M2 (28 + v3.toNat) 1) < 6) ∧ ((0 ≤ (M2 (28 + v3.toNat) 1) ∧ (M2 (28 + v3.toNat) 1) < 6) ∧ (ClV G J_tu_become M2 [pR (51 + 4 * (M2 (28 + v3.toNat) 1).toNat), pR (49 + 4 * (M2 (28 + v3.toNat) 1).toNat)] (fun M3 => (WpV G J_ye_lendOut 2 [(0, pR 40), (1, pR 1), (2, pI v2), (3, pI (w32 (v3 + 1)))] [] M3 P))))))))))))))) : WpV G J_ye_lendOut 2 [(0, pR 40), (1, pR 1), (2, pI v2), (3, pI v3)] [] M P := by
  show Wp G J_ye_lendOut 0 0 2 [(0, pR 40), (1, pR 1), (2, pI v2), (3, pI v3)] [] NN RF M _
  refine wp_iload_n d_ye_lendOut_2 rfl 3 rfl ?_
  refine wp_aload_n d_ye_lendOut_3 rfl 1 rfl ?_
  refine wp_geti d_ye_lendOut_4 6 s_1 rfl (Nat.le_of_ble_eq_true rfl) (Nat.le_of_ble_eq_true rfl) rfl lk_ye_76 ?_
  refine wp_icmp_ge 123 d_ye_lendOut_7 (by decide) (fun c1 => ?_) (fun c1 => ?_)
  · have h := h.1 c1
    exact wp_vret d_ye_lendOut_123 rfl ⟨Nat.le_of_ble_eq_true rfl, Nat.le_of_ble_eq_true rfl⟩ ⟨rfl, rfl, rfl, h⟩
  · have h := h.2 c1
    refine wp_aload_n d_ye_lendOut_10 rfl 1 rfl ?_
    refine wp_getr d_ye_lendOut_11 3 s_1 rfl (Nat.le_of_ble_eq_true rfl) (Nat.le_of_ble_eq_true rfl) rfl rfl lk_ye_79 ?_
    refine wp_iload_n d_ye_lendOut_14 rfl 3 rfl ?_
    obtain ⟨⟨a2, b2⟩, h⟩ := h
    refine wp_aald (t := 3) d_ye_lendOut_15 s_5 rfl (Nat.le_of_ble_eq_true rfl) a2 b2 (k_loans _ (nat_lt a2 b2)).1 ?_
    refine wp_astore (L2 := [(0, pR 40), (1, pR 1), (2, pI _), (3, pI _), (4, pR _)]) d_ye_lendOut_16 (Nat.le_of_ble_eq_true rfl) [1, 2, 3, 4, 0] rfl ?_
    refine wp_aload d_ye_lendOut_18 4 rfl ?_
    refine wp_geti d_ye_lendOut_20 1 (k_loans _ (nat_lt a2 b2)).2.1 rfl (k_loans _ (nat_lt a2 b2)).2.2 (Nat.le_of_ble_eq_true rfl) rfl lk_ye_95 ?_
    refine wp_aload_n d_ye_lendOut_23 rfl 1 rfl ?_
    refine wp_geti d_ye_lendOut_24 4 s_1 rfl (Nat.le_of_ble_eq_true rfl) (Nat.le_of_ble_eq_true rfl) rfl lk_ye_60 ?_
    refine wp_icmp_ge 46 d_ye_lendOut_27 (by decide) (fun c3 => ?_) (fun c3 => ?_)
    · have h := h.1 c3
      refine wp_iconst d_ye_lendOut_46 ⟨by decide, by decide⟩ ?_
      refine wp_istore (L2 := [(0, pR 40), (1, pR 1), (2, pI _), (3, pI _), (4, pR _), (5, pI _)]) d_ye_lendOut_47 (Nat.le_of_ble_eq_true rfl) [1, 2, 3, 4, 5, 0] rfl ?_
      refine wp_aload d_ye_lendOut_49 4 rfl ?_
      refine wp_geti d_ye_lendOut_51 0 (k_loans _ (nat_lt a2 b2)).2.1 rfl (k_loans _ (nat_lt a2 b2)).2.2 (Nat.le_of_ble_eq_true rfl) rfl lk_ye_104 ?_
      refine wp_iload_n d_ye_lendOut_54 rfl 2 rfl ?_
      refine wp_icmp_ne 117 d_ye_lendOut_55 (by decide) (fun c4 => ?_) (fun c4 => ?_)
      · have h := h.1 c4
        refine wp_iinc (L2 := [(0, pR 40), (1, pR 1), (2, pI _), (3, pI _), (4, pR _), (5, pI _)]) d_ye_lendOut_117 3 rfl (Nat.le_of_ble_eq_true rfl) [1, 2, 3, 0, 4, 5] rfl ?_
        refine wp_goto 2 d_ye_lendOut_120 (by decide) ?_
        refine wp_sub (L2 := [(0, pR 40), (1, pR 1), (2, pI _), (3, pI _)]) [0, 1, 2, 3] rfl ?_
        exact h
      · have h := h.2 c4
        refine wp_iload d_ye_lendOut_58 5 rfl ?_
        refine wp_if_eq 117 d_ye_lendOut_60 (by decide) (fun _ => ?_) (fun e => absurd e (by decide))
        refine wp_iinc (L2 := [(0, pR 40), (1, pR 1), (2, pI _), (3, pI _), (4, pR _), (5, pI _)]) d_ye_lendOut_117 3 rfl (Nat.le_of_ble_eq_true rfl) [1, 2, 3, 0, 4, 5] rfl ?_
        refine wp_goto 2 d_ye_lendOut_120 (by decide) ?_
        refine wp_sub (L2 := [(0, pR 40), (1, pR 1), (2, pI _), (3, pI _)]) [0, 1, 2, 3] rfl ?_
        exact h
    · have h := h.2 c3
      refine wp_aload d_ye_lendOut_30 4 rfl ?_
      refine wp_geti d_ye_lendOut_32 2 (k_loans _ (nat_lt a2 b2)).2.1 rfl (k_loans _ (nat_lt a2 b2)).2.2 (Nat.le_of_ble_eq_true rfl) rfl lk_ye_98 ?_
      refine wp_aload_n d_ye_lendOut_35 rfl 1 rfl ?_
      refine wp_geti d_ye_lendOut_36 5 s_1 rfl (Nat.le_of_ble_eq_true rfl) (Nat.le_of_ble_eq_true rfl) rfl lk_ye_101 ?_
      refine wp_icmp_ge 46 d_ye_lendOut_39 (by decide) (fun c4 => ?_) (fun c4 => ?_)
      · have h := h.1 c4
        refine wp_iconst d_ye_lendOut_46 ⟨by decide, by decide⟩ ?_
        refine wp_istore (L2 := [(0, pR 40), (1, pR 1), (2, pI _), (3, pI _), (4, pR _), (5, pI _)]) d_ye_lendOut_47 (Nat.le_of_ble_eq_true rfl) [1, 2, 3, 4, 5, 0] rfl ?_
        refine wp_aload d_ye_lendOut_49 4 rfl ?_
        refine wp_geti d_ye_lendOut_51 0 (k_loans _ (nat_lt a2 b2)).2.1 rfl (k_loans _ (nat_lt a2 b2)).2.2 (Nat.le_of_ble_eq_true rfl) rfl lk_ye_104 ?_
        refine wp_iload_n d_ye_lendOut_54 rfl 2 rfl ?_
        refine wp_icmp_ne 117 d_ye_lendOut_55 (by decide) (fun c5 => ?_) (fun c5 => ?_)
        · have h := h.1 c5
          refine wp_iinc (L2 := [(0, pR 40), (1, pR 1), (2, pI _), (3, pI _), (4, pR _), (5, pI _)]) d_ye_lendOut_117 3 rfl (Nat.le_of_ble_eq_true rfl) [1, 2, 3, 0, 4, 5] rfl ?_
          refine wp_goto 2 d_ye_lendOut_120 (by decide) ?_
          refine wp_sub (L2 := [(0, pR 40), (1, pR 1), (2, pI _), (3, pI _)]) [0, 1, 2, 3] rfl ?_
          exact h
        · have h := h.2 c5
          refine wp_iload d_ye_lendOut_58 5 rfl ?_
          refine wp_if_eq 117 d_ye_lendOut_60 (by decide) (fun _ => ?_) (fun e => absurd e (by decide))
          refine wp_iinc (L2 := [(0, pR 40), (1, pR 1), (2, pI _), (3, pI _), (4, pR _), (5, pI _)]) d_ye_lendOut_117 3 rfl (Nat.le_of_ble_eq_true rfl) [1, 2, 3, 0, 4, 5] rfl ?_
          refine wp_goto 2 d_ye_lendOut_120 (by decide) ?_
          refine wp_sub (L2 := [(0, pR 40), (1, pR 1), (2, pI _), (3, pI _)]) [0, 1, 2, 3] rfl ?_
          exact h
      · have h := h.2 c4
        refine wp_iconst d_ye_lendOut_42 ⟨by decide, by decide⟩ ?_
        refine wp_goto 47 d_ye_lendOut_43 (by decide) ?_
        refine wp_istore (L2 := [(0, pR 40), (1, pR 1), (2, pI _), (3, pI _), (4, pR _), (5, pI _)]) d_ye_lendOut_47 (Nat.le_of_ble_eq_true rfl) [1, 2, 3, 4, 5, 0] rfl ?_
        refine wp_aload d_ye_lendOut_49 4 rfl ?_
        refine wp_geti d_ye_lendOut_51 0 (k_loans _ (nat_lt a2 b2)).2.1 rfl (k_loans _ (nat_lt a2 b2)).2.2 (Nat.le_of_ble_eq_true rfl) rfl lk_ye_104 ?_
        refine wp_iload_n d_ye_lendOut_54 rfl 2 rfl ?_
        refine wp_icmp_ne 117 d_ye_lendOut_55 (by decide) (fun c5 => ?_) (fun c5 => ?_)
        · have h := h.1 c5
          refine wp_iinc (L2 := [(0, pR 40), (1, pR 1), (2, pI _), (3, pI _), (4, pR _), (5, pI _)]) d_ye_lendOut_117 3 rfl (Nat.le_of_ble_eq_true rfl) [1, 2, 3, 0, 4, 5] rfl ?_
          refine wp_goto 2 d_ye_lendOut_120 (by decide) ?_
          refine wp_sub (L2 := [(0, pR 40), (1, pR 1), (2, pI _), (3, pI _)]) [0, 1, 2, 3] rfl ?_
          exact h
        · have h := h.2 c5
          refine wp_iload d_ye_lendOut_58 5 rfl ?_
          refine wp_if_eq 117 d_ye_lendOut_60 (by decide) (fun e => absurd e (by decide)) (fun _ => ?_)
          refine wp_aload_n d_ye_lendOut_63 rfl 0 rfl ?_
          refine wp_getr d_ye_lendOut_64 2 s_40 rfl (Nat.le_of_ble_eq_true rfl) (Nat.le_of_ble_eq_true rfl) rfl rfl lk_ye_20 ?_
          refine wp_aload d_ye_lendOut_67 4 rfl ?_
          refine wp_geti d_ye_lendOut_69 1 (k_loans _ (nat_lt a2 b2)).2.1 rfl (k_loans _ (nat_lt a2 b2)).2.2 (Nat.le_of_ble_eq_true rfl) rfl lk_ye_95 ?_
          obtain ⟨⟨a6, b6⟩, h⟩ := h
          refine wp_iald d_ye_lendOut_72 s_43 (Nat.le_of_ble_eq_true rfl) a6 b6 ?_
          refine wp_iconst d_ye_lendOut_73 ⟨by decide, by decide⟩ ?_
          refine wp_icmp_ne 117 d_ye_lendOut_74 (by decide) (fun c7 => ?_) (fun c7 => ?_)
          · have h := h.1 c7
            refine wp_iinc (L2 := [(0, pR 40), (1, pR 1), (2, pI _), (3, pI _), (4, pR _), (5, pI _)]) d_ye_lendOut_117 3 rfl (Nat.le_of_ble_eq_true rfl) [1, 2, 3, 0, 4, 5] rfl ?_
            refine wp_goto 2 d_ye_lendOut_120 (by decide) ?_
            refine wp_sub (L2 := [(0, pR 40), (1, pR 1), (2, pI _), (3, pI _)]) [0, 1, 2, 3] rfl ?_
            exact h
          · have h := h.2 c7
            refine wp_aload d_ye_lendOut_77 4 rfl ?_
            refine wp_iconst d_ye_lendOut_79 ⟨by decide, by decide⟩ ?_
            refine wp_puti d_ye_lendOut_80 4 (k_loans _ (nat_lt a2 b2)).2.1 rfl (k_loans _ (nat_lt a2 b2)).2.2 (Nat.le_of_ble_eq_true rfl) (Or.inr ⟨rfl, by decide⟩) rfl lk_ye_83 ?_
            have h := h _ rfl
            refine wp_aload_n d_ye_lendOut_83 rfl 0 rfl ?_
            refine wp_getr d_ye_lendOut_84 2 s_40 rfl (Nat.le_of_ble_eq_true rfl) (Nat.le_of_ble_eq_true rfl) rfl rfl lk_ye_20 ?_
            refine wp_aload d_ye_lendOut_87 4 rfl ?_
            refine wp_geti d_ye_lendOut_89 1 (k_loans _ (nat_lt a2 b2)).2.1 rfl (k_loans _ (nat_lt a2 b2)).2.2 (Nat.le_of_ble_eq_true rfl) rfl lk_ye_95 ?_
            refine wp_iload_n d_ye_lendOut_92 rfl 3 rfl ?_
            obtain ⟨⟨a8, b8⟩, h⟩ := h
            refine wp_iast d_ye_lendOut_93 s_43 (Nat.le_of_ble_eq_true rfl) a8 b8 ?_
            have h := h _ rfl
            refine wp_aload_n d_ye_lendOut_94 rfl 0 rfl ?_
            refine wp_getr d_ye_lendOut_95 1 s_40 rfl (Nat.le_of_ble_eq_true rfl) (Nat.le_of_ble_eq_true rfl) rfl rfl lk_ye_17 ?_
            refine wp_aload d_ye_lendOut_98 4 rfl ?_
            refine wp_geti d_ye_lendOut_100 1 (k_loans _ (nat_lt a2 b2)).2.1 rfl (k_loans _ (nat_lt a2 b2)).2.2 (Nat.le_of_ble_eq_true rfl) rfl lk_ye_95 ?_
            obtain ⟨⟨a9, b9⟩, h⟩ := h
            refine wp_aald (t := 1) d_ye_lendOut_103 s_42 rfl (Nat.le_of_ble_eq_true rfl) a9 b9 (k_lent _ (nat_lt a9 b9)).1 ?_
            refine wp_aload_n d_ye_lendOut_104 rfl 0 rfl ?_
            refine wp_getr d_ye_lendOut_105 0 s_40 rfl (Nat.le_of_ble_eq_true rfl) (Nat.le_of_ble_eq_true rfl) rfl rfl lk_ye_11 ?_
            refine wp_aload d_ye_lendOut_108 4 rfl ?_
            refine wp_geti d_ye_lendOut_110 1 (k_loans _ (nat_lt a2 b2)).2.1 rfl (k_loans _ (nat_lt a2 b2)).2.2 (Nat.le_of_ble_eq_true rfl) rfl lk_ye_95 ?_
            obtain ⟨⟨a10, b10⟩, h⟩ := h
            refine wp_aald (t := 1) d_ye_lendOut_113 s_41 rfl (Nat.le_of_ble_eq_true rfl) a10 b10 (k_now _ (nat_lt a10 b10)).1 ?_
            refine wp_callV [pR _] _ d_ye_lendOut_114 jd_tu_become lk_ye_72 rfl (k_lent _ (nat_lt a9 b9)).2.1 rfl (Nat.lt_of_succ_lt (k_lent _ (nat_lt a9 b9)).2.2.2.2) (Nat.le_of_ble_eq_true rfl) rfl ?_
            refine clV_k h ?_
            intro M3 h
            refine wp_iinc (L2 := [(0, pR 40), (1, pR 1), (2, pI _), (3, pI _), (4, pR _), (5, pI _)]) d_ye_lendOut_117 3 rfl (Nat.le_of_ble_eq_true rfl) [1, 2, 3, 0, 4, 5] rfl ?_
            refine wp_goto 2 d_ye_lendOut_120 (by decide) ?_
            refine wp_sub (L2 := [(0, pR 40), (1, pR 1), (2, pI _), (3, pI _)]) [0, 1, 2, 3] rfl ?_
            exact h
set_option maxHeartbeats 8000000 in
theorem e_ye_humLent {G : GT} {M : MT} {P : MT → Prop} 
    (h : WpV G J_ye_humLent 2 [(0, pR 40), (1, pR 1), (2, pI 0)] [] M P) : ClV G J_ye_humLent M [pR 40, pR 1] P := by
  show Wp G J_ye_humLent 0 0 0 [(0, pR 40), (1, pR 1)] [] NN RF M _
  refine wp_iconst d_ye_humLent_0 ⟨by decide, by decide⟩ ?_
  refine wp_istore_n (L2 := [(0, pR 40), (1, pR 1), (2, pI _)]) d_ye_humLent_1 rfl (Nat.le_of_ble_eq_true rfl) [1, 2, 0] rfl ?_
  exact h
set_option maxHeartbeats 8000000 in
theorem b_ye_humLent_2 {G : GT} {M : MT} {P : MT → Prop} (v2 : Int)
    (h : ((M 1 4) ≤ v2 → P M) ∧ (v2 < (M 1 4) → (0 ≤ v2 ∧ v2 < 6) ∧ (((M 43 (v2.toNat)) = (-1) → WpV G J_ye_humLent 2 [(0, pR 40), (1, pR 1), (2, pI (w32 (v2 + 1)))] [] M P) ∧ (¬ (M 43 (v2.toNat)) = (-1) → (0 ≤ v2 ∧ v2 < 6) ∧ ((0 ≤ v2 ∧ v2 < 6) ∧ ((0 ≤ (M 43 (v2.toNat)) ∧ (M 43 (v2.toNat)) < 12) ∧ ((0 ≤ (M (28 + (M 43 (v2.toNat)).toNat) 2) ∧ (M (28 + (M 43 (v2.toNat)).toNat) 2) < 6) ∧ (ClV G J_tu_becomeHummed M [pR 44, pR (49 + 4 * v2.toNat), pR (22 + (M (28 + (M 43 (v2.toNat)).toNat) 2).toNat)] (fun M1 => ((0 ≤ v2 ∧ v2 < 6) ∧ (ClV G J_tu_become M1 [pR (49 + 4 * v2.toNat), pR 44] (fun M2 => (WpV G J_ye_humLent 2 [(0, pR 40), (1, pR 1), (2, pI (w32 (v2 + 1)))] [] M2 P))))))))))))) : WpV G J_ye_humLent 2 [(0, pR 40), (1, pR 1), (2, pI v2)] [] M P := by
  show Wp G J_ye_humLent 0 0 2 [(0, pR 40), (1, pR 1), (2, pI v2)] [] NN RF M _
  refine wp_iload_n d_ye_humLent_2 rfl 2 rfl ?_
  refine wp_aload_n d_ye_humLent_3 rfl 1 rfl ?_
  refine wp_geti d_ye_humLent_4 4 s_1 rfl (Nat.le_of_ble_eq_true rfl) (Nat.le_of_ble_eq_true rfl) rfl lk_ye_60 ?_
  refine wp_icmp_ge 71 d_ye_humLent_7 (by decide) (fun c1 => ?_) (fun c1 => ?_)
  · have h := h.1 c1
    exact wp_vret d_ye_humLent_71 rfl ⟨Nat.le_of_ble_eq_true rfl, Nat.le_of_ble_eq_true rfl⟩ ⟨rfl, rfl, rfl, h⟩
  · have h := h.2 c1
    refine wp_aload_n d_ye_humLent_10 rfl 0 rfl ?_
    refine wp_getr d_ye_humLent_11 2 s_40 rfl (Nat.le_of_ble_eq_true rfl) (Nat.le_of_ble_eq_true rfl) rfl rfl lk_ye_20 ?_
    refine wp_iload_n d_ye_humLent_14 rfl 2 rfl ?_
    obtain ⟨⟨a2, b2⟩, h⟩ := h
    refine wp_iald d_ye_humLent_15 s_43 (Nat.le_of_ble_eq_true rfl) a2 b2 ?_
    refine wp_iconst d_ye_humLent_16 ⟨by decide, by decide⟩ ?_
    refine wp_icmp_eq 65 d_ye_humLent_17 (by decide) (fun c3 => ?_) (fun c3 => ?_)
    · have h := h.1 c3
      refine wp_iinc (L2 := [(0, pR 40), (1, pR 1), (2, pI _)]) d_ye_humLent_65 2 rfl (Nat.le_of_ble_eq_true rfl) [1, 2, 0] rfl ?_
      refine wp_goto 2 d_ye_humLent_68 (by decide) ?_
      exact h
    · have h := h.2 c3
      refine wp_aload_n d_ye_humLent_20 rfl 0 rfl ?_
      refine wp_getr d_ye_humLent_21 3 s_40 rfl (Nat.le_of_ble_eq_true rfl) (Nat.le_of_ble_eq_true rfl) rfl rfl lk_ye_25 ?_
      refine wp_aload_n d_ye_humLent_24 rfl 0 rfl ?_
      refine wp_getr d_ye_humLent_25 0 s_40 rfl (Nat.le_of_ble_eq_true rfl) (Nat.le_of_ble_eq_true rfl) rfl rfl lk_ye_11 ?_
      refine wp_iload_n d_ye_humLent_28 rfl 2 rfl ?_
      obtain ⟨⟨a4, b4⟩, h⟩ := h
      refine wp_aald (t := 1) d_ye_humLent_29 s_41 rfl (Nat.le_of_ble_eq_true rfl) a4 b4 (k_now _ (nat_lt a4 b4)).1 ?_
      refine wp_aload_n d_ye_humLent_30 rfl 1 rfl ?_
      refine wp_getr d_ye_humLent_31 2 s_1 rfl (Nat.le_of_ble_eq_true rfl) (Nat.le_of_ble_eq_true rfl) rfl rfl lk_ye_107 ?_
      refine wp_aload_n d_ye_humLent_34 rfl 1 rfl ?_
      refine wp_getr d_ye_humLent_35 3 s_1 rfl (Nat.le_of_ble_eq_true rfl) (Nat.le_of_ble_eq_true rfl) rfl rfl lk_ye_79 ?_
      refine wp_aload_n d_ye_humLent_38 rfl 0 rfl ?_
      refine wp_getr d_ye_humLent_39 2 s_40 rfl (Nat.le_of_ble_eq_true rfl) (Nat.le_of_ble_eq_true rfl) rfl rfl lk_ye_20 ?_
      refine wp_iload_n d_ye_humLent_42 rfl 2 rfl ?_
      obtain ⟨⟨a5, b5⟩, h⟩ := h
      refine wp_iald d_ye_humLent_43 s_43 (Nat.le_of_ble_eq_true rfl) a5 b5 ?_
      obtain ⟨⟨a6, b6⟩, h⟩ := h
      refine wp_aald (t := 3) d_ye_humLent_44 s_5 rfl (Nat.le_of_ble_eq_true rfl) a6 b6 (k_loans _ (nat_lt a6 b6)).1 ?_
      refine wp_geti d_ye_humLent_45 2 (k_loans _ (nat_lt a6 b6)).2.1 rfl (k_loans _ (nat_lt a6 b6)).2.2 (Nat.le_of_ble_eq_true rfl) rfl lk_ye_98 ?_
      obtain ⟨⟨a7, b7⟩, h⟩ := h
      refine wp_aald (t := 2) d_ye_humLent_48 s_4 rfl (Nat.le_of_ble_eq_true rfl) a7 b7 (k_borrowers _ (nat_lt a7 b7)).1 ?_
      refine wp_callV [pR _, pR _] _ d_ye_humLent_49 jd_tu_becomeHummed lk_ye_111 rfl s_44 rfl (Nat.le_of_ble_eq_true rfl) (Nat.le_of_ble_eq_true rfl) rfl ?_
      refine clV_k h ?_
      intro M1 h
      refine wp_aload_n d_ye_humLent_52 rfl 0 rfl ?_
      refine wp_getr d_ye_humLent_53 0 s_40 rfl (Nat.le_of_ble_eq_true rfl) (Nat.le_of_ble_eq_true rfl) rfl rfl lk_ye_11 ?_
      refine wp_iload_n d_ye_humLent_56 rfl 2 rfl ?_
      obtain ⟨⟨a8, b8⟩, h⟩ := h
      refine wp_aald (t := 1) d_ye_humLent_57 s_41 rfl (Nat.le_of_ble_eq_true rfl) a8 b8 (k_now _ (nat_lt a8 b8)).1 ?_
      refine wp_aload_n d_ye_humLent_58 rfl 0 rfl ?_
      refine wp_getr d_ye_humLent_59 3 s_40 rfl (Nat.le_of_ble_eq_true rfl) (Nat.le_of_ble_eq_true rfl) rfl rfl lk_ye_25 ?_
      refine wp_callV [pR _] _ d_ye_humLent_62 jd_tu_become lk_ye_72 rfl (k_now _ (nat_lt a8 b8)).2.1 rfl (Nat.lt_of_succ_lt (k_now _ (nat_lt a8 b8)).2.2.2.2) (Nat.le_of_ble_eq_true rfl) rfl ?_
      refine clV_k h ?_
      intro M2 h
      refine wp_iinc (L2 := [(0, pR 40), (1, pR 1), (2, pI _)]) d_ye_humLent_65 2 rfl (Nat.le_of_ble_eq_true rfl) [1, 2, 0] rfl ?_
      refine wp_goto 2 d_ye_humLent_68 (by decide) ?_
      exact h
set_option maxHeartbeats 8000000 in
theorem e_ye_comeBack {G : GT} {M : MT} {P : MT → Prop} (v2 : Int) (v3 : Int)
    (h : WpV G J_ye_comeBack 3 [(0, pR 40), (1, pR 1), (2, pI v2), (3, pI v3), (4, pR 84), (5, pI 0)] [] M P) : ClV G J_ye_comeBack M [pR 40, pR 1, pI v2, pI v3, pR 84] P := by
  show Wp G J_ye_comeBack 0 0 0 [(0, pR 40), (1, pR 1), (2, pI v2), (3, pI v3), (4, pR 84)] [] NN RF M _
  refine wp_iconst d_ye_comeBack_0 ⟨by decide, by decide⟩ ?_
  refine wp_istore (L2 := [(0, pR 40), (1, pR 1), (2, pI _), (3, pI _), (4, pR 84), (5, pI _)]) d_ye_comeBack_1 (Nat.le_of_ble_eq_true rfl) [1, 2, 3, 4, 5, 0] rfl ?_
  exact h
set_option maxHeartbeats 8000000 in
theorem b_ye_comeBack_3 {G : GT} {M : MT} {P : MT → Prop} (v2 : Int) (v3 : Int) (v5 : Int)
    (h : ((M 1 4) ≤ v5 → P M) ∧ (v5 < (M 1 4) → (0 ≤ v5 ∧ v5 < 6) ∧ ((¬ (M 43 (v5.toNat)) = (-1) → (0 ≤ v5 ∧ v5 < 6) ∧ ((0 ≤ (M 43 (v5.toNat)) ∧ (M 43 (v5.toNat)) < 12) ∧ ((¬ (w32 ((w32 ((M (28 + (M 43 (v5.toNat)).toNat) 0) + (M (28 + (M 43 (v5.toNat)).toNat) 3))) - 1)) = v2 → WpV G J_ye_comeBack 3 [(0, pR 40), (1, pR 1), (2, pI v2), (3, pI v3), (4, pR 84), (5, pI (w32 (v5 + 1)))] [] M P) ∧ ((w32 ((w32 ((M (28 + (M 43 (v5.toNat)).toNat) 0) + (M (28 + (M 43 (v5.toNat)).toNat) 3))) - 1)) = v2 → (0 ≤ v5 ∧ v5 < 6) ∧ (∀ M1 : MT, M1 = mu M 43 (v5.toNat) (-1) → ((0 ≤ v5 ∧ v5 < 6) ∧ ((0 ≤ v5 ∧ v5 < 6) ∧ (∀ M2 : MT, M2 = mu M1 (28 + (M 43 (v5.toNat)).toNat) 6 (w32 ((M1 (49 + 4 * v5.toNat) 1) - (M1 (51 + 4 * v5.toNat) 1))) → ((0 ≤ v5 ∧ v5 < 6) ∧ ((0 ≤ v5 ∧ v5 < 6) ∧ (ClI G J_li_of M2 [pR 84, pR (51 + 4 * v5.toNat), pR (49 + 4 * v5.toNat)] (fun x12 M3 => ((v3 ≤ x12 → ∀ M4 : MT, M4 = mu M3 (28 + (M 43 (v5.toNat)).toNat) 5 0 → (((M4 (28 + (M 43 (v5.toNat)).toNat) 5) = 0 → WpV G J_ye_comeBack 3 [(0, pR 40), (1, pR 1), (2, pI v2), (3, pI v3), (4, pR 84), (5, pI (w32 (v5 + 1)))] [] M4 P) ∧ (¬ (M4 (28 + (M 43 (v5.toNat)).toNat) 5) = 0 → (0 ≤ v5 ∧ v5 < 6) ∧ ((0 ≤ v5 ∧ v5 < 6) ∧ (ClV G J_tu_become M4 [pR (49 + 4 * v5.toNat), pR (51 + 4 * v5.toNat)] (fun M5 => (WpV G J_ye_comeBack 3 [(0, pR 40), (1, pR 1), (2, pI v2), (3, pI v3), (4, pR 84), (5, pI (w32 (v5 + 1)))] [] M5 P))))))) ∧ (x12 < v3 → (0 ≤ v5 ∧ v5 < 6) ∧ (((M3 (51 + 4 * v5.toNat) 1) ≤ x12 → ∀ M4 : MT, M4 = mu M3 (28 + (M 43 (v5.toNat)).toNat) 5 0 → (((M4 (28 + (M 43 (v5.toNat)).toNat) 5) = 0 → WpV G J_ye_comeBack 3 [(0, pR 40), (1, pR 1), (2, pI v2), (3, pI v3), (4, pR 84), (5, pI (w32 (v5 + 1)))] [] M4 P) ∧ (¬ (M4 (28 + (M 43 (v5.toNat)).toNat) 5) = 0 → (0 ≤ v5 ∧ v5 < 6) ∧ ((0 ≤ v5 ∧ v5 < 6) ∧ (ClV G J_tu_become M4 [pR (49 + 4 * v5.toNat), pR (51 + 4 * v5.toNat)] (fun M5 => (WpV G J_ye_comeBack 3 [(0, pR 40), (1, pR 1), (2, pI v2), (3, pI v3), (4, pR 84), (5, pI (w32 (v5 + 1)))] [] M5 P))))))) ∧ (x12 < (M3 (51 + 4 * v5.toNat) 1) → ∀ M4 : MT, M4 = mu M3 (28 + (M 43 (v5.toNat)).toNat) 5 1 → (((M4 (28 + (M 43 (v5.toNat)).toNat) 5) = 0 → WpV G J_ye_comeBack 3 [(0, pR 40), (1, pR 1), (2, pI v2), (3, pI v3), (4, pR 84), (5, pI (w32 (v5 + 1)))] [] M4 P) ∧ (¬ (M4 (28 + (M 43 (v5.toNat)).toNat) 5) = 0 → (0 ≤ v5 ∧ v5 < 6) ∧ ((0 ≤ v5 ∧ v5 < 6) ∧ (ClV G J_tu_become M4 [pR (49 + 4 * v5.toNat), pR (51 + 4 * v5.toNat)] (fun M5 => (WpV G J_ye_comeBack 3 [(0, pR 40), (1, pR 1), (2, pI v2), (3, pI v3), (4, pR 84), (5, pI (w32 (v5 + 1)))] [] M5 P)))))))))))))))))))))) ∧ ((M 43 (v5.toNat)) = (-1) → WpV G J_ye_comeBack 3 [(0, pR 40), (1, pR 1), (2, pI v2), (3, pI v3), (4, pR 84), (5, pI (w32 (v5 + 1)))] [] M P)))) : WpV G J_ye_comeBack 3 [(0, pR 40), (1, pR 1), (2, pI v2), (3, pI v3), (4, pR 84), (5, pI v5)] [] M P := by
  show Wp G J_ye_comeBack 0 0 3 [(0, pR 40), (1, pR 1), (2, pI v2), (3, pI v3), (4, pR 84), (5, pI v5)] [] NN RF M _
  refine wp_iload d_ye_comeBack_3 5 rfl ?_
  refine wp_aload_n d_ye_comeBack_5 rfl 1 rfl ?_
  refine wp_geti d_ye_comeBack_6 4 s_1 rfl (Nat.le_of_ble_eq_true rfl) (Nat.le_of_ble_eq_true rfl) rfl lk_ye_60 ?_
  refine wp_icmp_ge 180 d_ye_comeBack_9 (by decide) (fun c1 => ?_) (fun c1 => ?_)
  · have h := h.1 c1
    exact wp_vret d_ye_comeBack_180 rfl ⟨Nat.le_of_ble_eq_true rfl, Nat.le_of_ble_eq_true rfl⟩ ⟨rfl, rfl, rfl, h⟩
  · have h := h.2 c1
    refine wp_aload_n d_ye_comeBack_12 rfl 0 rfl ?_
    refine wp_getr d_ye_comeBack_13 2 s_40 rfl (Nat.le_of_ble_eq_true rfl) (Nat.le_of_ble_eq_true rfl) rfl rfl lk_ye_20 ?_
    refine wp_iload d_ye_comeBack_16 5 rfl ?_
    obtain ⟨⟨a2, b2⟩, h⟩ := h
    refine wp_iald d_ye_comeBack_18 s_43 (Nat.le_of_ble_eq_true rfl) a2 b2 ?_
    refine wp_iconst d_ye_comeBack_19 ⟨by decide, by decide⟩ ?_
    refine wp_icmp_ne 27 d_ye_comeBack_20 (by decide) (fun c3 => ?_) (fun c3 => ?_)
    · have h := h.1 c3
      refine wp_aload_n d_ye_comeBack_27 rfl 1 rfl ?_
      refine wp_getr d_ye_comeBack_28 3 s_1 rfl (Nat.le_of_ble_eq_true rfl) (Nat.le_of_ble_eq_true rfl) rfl rfl lk_ye_79 ?_
      refine wp_aload_n d_ye_comeBack_31 rfl 0 rfl ?_
      refine wp_getr d_ye_comeBack_32 2 s_40 rfl (Nat.le_of_ble_eq_true rfl) (Nat.le_of_ble_eq_true rfl) rfl rfl lk_ye_20 ?_
      refine wp_iload d_ye_comeBack_35 5 rfl ?_
      obtain ⟨⟨a4, b4⟩, h⟩ := h
      refine wp_iald d_ye_comeBack_37 s_43 (Nat.le_of_ble_eq_true rfl) a4 b4 ?_
      obtain ⟨⟨a5, b5⟩, h⟩ := h
      refine wp_aald (t := 3) d_ye_comeBack_38 s_5 rfl (Nat.le_of_ble_eq_true rfl) a5 b5 (k_loans _ (nat_lt a5 b5)).1 ?_
      refine wp_astore (L2 := [(0, pR 40), (1, pR 1), (2, pI _), (3, pI _), (4, pR 84), (5, pI _), (6, pR _)]) d_ye_comeBack_39 (Nat.le_of_ble_eq_true rfl) [1, 2, 3, 4, 5, 6, 0] rfl ?_
      refine wp_aload d_ye_comeBack_41 6 rfl ?_
      refine wp_ifnull d_ye_comeBack_43 ?_
      refine wp_aload d_ye_comeBack_46 6 rfl ?_
      refine wp_geti d_ye_comeBack_48 0 (k_loans _ (nat_lt a5 b5)).2.1 rfl (k_loans _ (nat_lt a5 b5)).2.2 (Nat.le_of_ble_eq_true rfl) rfl lk_ye_104 ?_
      refine wp_aload d_ye_comeBack_51 6 rfl ?_
      refine wp_geti d_ye_comeBack_53 3 (k_loans _ (nat_lt a5 b5)).2.1 rfl (k_loans _ (nat_lt a5 b5)).2.2 (Nat.le_of_ble_eq_true rfl) rfl lk_ye_115 ?_
      refine wp_iadd d_ye_comeBack_56 ?_
      refine wp_iconst d_ye_comeBack_57 ⟨by decide, by decide⟩ ?_
      refine wp_isub d_ye_comeBack_58 ?_
      refine wp_iload_n d_ye_comeBack_59 rfl 2 rfl ?_
      refine wp_icmp_ne 174 d_ye_comeBack_60 (by decide) (fun c6 => ?_) (fun c6 => ?_)
      · have h := h.1 c6
        refine wp_iinc (L2 := [(0, pR 40), (1, pR 1), (2, pI _), (3, pI _), (4, pR 84), (5, pI _), (6, pR _)]) d_ye_comeBack_174 5 rfl (Nat.le_of_ble_eq_true rfl) [1, 2, 3, 4, 5, 0, 6] rfl ?_
        refine wp_goto 3 d_ye_comeBack_177 (by decide) ?_
        refine wp_sub (L2 := [(0, pR 40), (1, pR 1), (2, pI _), (3, pI _), (4, pR 84), (5, pI _)]) [0, 1, 2, 3, 4, 5] rfl ?_
        exact h
      · have h := h.2 c6
        refine wp_aload_n d_ye_comeBack_63 rfl 0 rfl ?_
        refine wp_getr d_ye_comeBack_64 2 s_40 rfl (Nat.le_of_ble_eq_true rfl) (Nat.le_of_ble_eq_true rfl) rfl rfl lk_ye_20 ?_
        refine wp_iload d_ye_comeBack_67 5 rfl ?_
        refine wp_iconst d_ye_comeBack_69 ⟨by decide, by decide⟩ ?_
        obtain ⟨⟨a7, b7⟩, h⟩ := h
        refine wp_iast d_ye_comeBack_70 s_43 (Nat.le_of_ble_eq_true rfl) a7 b7 ?_
        have h := h _ rfl
        refine wp_aload d_ye_comeBack_71 6 rfl ?_
        refine wp_aload_n d_ye_comeBack_73 rfl 0 rfl ?_
        refine wp_getr d_ye_comeBack_74 0 s_40 rfl (Nat.le_of_ble_eq_true rfl) (Nat.le_of_ble_eq_true rfl) rfl rfl lk_ye_11 ?_
        refine wp_iload d_ye_comeBack_77 5 rfl ?_
        obtain ⟨⟨a8, b8⟩, h⟩ := h
        refine wp_aald (t := 1) d_ye_comeBack_79 s_41 rfl (Nat.le_of_ble_eq_true rfl) a8 b8 (k_now _ (nat_lt a8 b8)).1 ?_
        refine wp_geti d_ye_comeBack_80 1 (k_now _ (nat_lt a8 b8)).2.1 rfl (Nat.lt_of_succ_lt (k_now _ (nat_lt a8 b8)).2.2.2.2) (Nat.le_of_ble_eq_true rfl) rfl lk_ye_118 ?_
        refine wp_aload_n d_ye_comeBack_83 rfl 0 rfl ?_
        refine wp_getr d_ye_comeBack_84 1 s_40 rfl (Nat.le_of_ble_eq_true rfl) (Nat.le_of_ble_eq_true rfl) rfl rfl lk_ye_17 ?_
        refine wp_iload d_ye_comeBack_87 5 rfl ?_
        obtain ⟨⟨a9, b9⟩, h⟩ := h
        refine wp_aald (t := 1) d_ye_comeBack_89 s_42 rfl (Nat.le_of_ble_eq_true rfl) a9 b9 (k_lent _ (nat_lt a9 b9)).1 ?_
        refine wp_geti d_ye_comeBack_90 1 (k_lent _ (nat_lt a9 b9)).2.1 rfl (Nat.lt_of_succ_lt (k_lent _ (nat_lt a9 b9)).2.2.2.2) (Nat.le_of_ble_eq_true rfl) rfl lk_ye_118 ?_
        refine wp_isub d_ye_comeBack_93 ?_
        refine wp_puti d_ye_comeBack_94 6 (k_loans _ (nat_lt a5 b5)).2.1 rfl (k_loans _ (nat_lt a5 b5)).2.2 (Nat.le_of_ble_eq_true rfl) (Or.inl rfl) rfl lk_ye_92 ?_
        have h := h _ rfl
        refine wp_aload d_ye_comeBack_97 4 rfl ?_
        refine wp_aload_n d_ye_comeBack_99 rfl 0 rfl ?_
        refine wp_getr d_ye_comeBack_100 1 s_40 rfl (Nat.le_of_ble_eq_true rfl) (Nat.le_of_ble_eq_true rfl) rfl rfl lk_ye_17 ?_
        refine wp_iload d_ye_comeBack_103 5 rfl ?_
        obtain ⟨⟨a10, b10⟩, h⟩ := h
        refine wp_aald (t := 1) d_ye_comeBack_105 s_42 rfl (Nat.le_of_ble_eq_true rfl) a10 b10 (k_lent _ (nat_lt a10 b10)).1 ?_
        refine wp_aload_n d_ye_comeBack_106 rfl 0 rfl ?_
        refine wp_getr d_ye_comeBack_107 0 s_40 rfl (Nat.le_of_ble_eq_true rfl) (Nat.le_of_ble_eq_true rfl) rfl rfl lk_ye_11 ?_
        refine wp_iload d_ye_comeBack_110 5 rfl ?_
        obtain ⟨⟨a11, b11⟩, h⟩ := h
        refine wp_aald (t := 1) d_ye_comeBack_112 s_41 rfl (Nat.le_of_ble_eq_true rfl) a11 b11 (k_now _ (nat_lt a11 b11)).1 ?_
        refine wp_callV [pR _, pR _] _ d_ye_comeBack_113 jd_li_of lk_ye_121 rfl s_84 rfl (Nat.le_of_ble_eq_true rfl) (Nat.le_of_ble_eq_true rfl) rfl ?_
        refine clI_k h ?_
        intro x12 M3 h
        refine wp_istore (L2 := [(0, pR 40), (1, pR 1), (2, pI _), (3, pI _), (4, pR 84), (5, pI _), (6, pR _), (7, pI _)]) d_ye_comeBack_116 (Nat.le_of_ble_eq_true rfl) [1, 2, 3, 4, 5, 6, 7, 0] rfl ?_
        refine wp_aload d_ye_comeBack_118 6 rfl ?_
        refine wp_iload d_ye_comeBack_120 7 rfl ?_
        refine wp_iload_n d_ye_comeBack_122 rfl 3 rfl ?_
        refine wp_icmp_ge 145 d_ye_comeBack_123 (by decide) (fun c13 => ?_) (fun c13 => ?_)
        · have h := h.1 c13
          refine wp_iconst d_ye_comeBack_145 ⟨by decide, by decide⟩ ?_
          refine wp_puti d_ye_comeBack_146 5 (k_loans _ (nat_lt a5 b5)).2.1 rfl (k_loans _ (nat_lt a5 b5)).2.2 (Nat.le_of_ble_eq_true rfl) (Or.inr ⟨rfl, by decide⟩) rfl lk_ye_89 ?_
          have h := h _ rfl
          refine wp_aload d_ye_comeBack_149 6 rfl ?_
          refine wp_geti d_ye_comeBack_151 5 (k_loans _ (nat_lt a5 b5)).2.1 rfl (k_loans _ (nat_lt a5 b5)).2.2 (Nat.le_of_ble_eq_true rfl) rfl lk_ye_89 ?_
          refine wp_if_eq 174 d_ye_comeBack_154 (by decide) (fun c14 => ?_) (fun c14 => ?_)
          · have h := h.1 c14
            refine wp_iinc (L2 := [(0, pR 40), (1, pR 1), (2, pI _), (3, pI _), (4, pR 84), (5, pI _), (6, pR _), (7, pI _)]) d_ye_comeBack_174 5 rfl (Nat.le_of_ble_eq_true rfl) [1, 2, 3, 4, 5, 0, 6, 7] rfl ?_
            refine wp_goto 3 d_ye_comeBack_177 (by decide) ?_
            refine wp_sub (L2 := [(0, pR 40), (1, pR 1), (2, pI _), (3, pI _), (4, pR 84), (5, pI _)]) [0, 1, 2, 3, 4, 5] rfl ?_
            exact h
          · have h := h.2 c14
            refine wp_aload_n d_ye_comeBack_157 rfl 0 rfl ?_
            refine wp_getr d_ye_comeBack_158 0 s_40 rfl (Nat.le_of_ble_eq_true rfl) (Nat.le_of_ble_eq_true rfl) rfl rfl lk_ye_11 ?_
            refine wp_iload d_ye_comeBack_161 5 rfl ?_
            obtain ⟨⟨a15, b15⟩, h⟩ := h
            refine wp_aald (t := 1) d_ye_comeBack_163 s_41 rfl (Nat.le_of_ble_eq_true rfl) a15 b15 (k_now _ (nat_lt a15 b15)).1 ?_
            refine wp_aload_n d_ye_comeBack_164 rfl 0 rfl ?_
            refine wp_getr d_ye_comeBack_165 1 s_40 rfl (Nat.le_of_ble_eq_true rfl) (Nat.le_of_ble_eq_true rfl) rfl rfl lk_ye_17 ?_
            refine wp_iload d_ye_comeBack_168 5 rfl ?_
            obtain ⟨⟨a16, b16⟩, h⟩ := h
            refine wp_aald (t := 1) d_ye_comeBack_170 s_42 rfl (Nat.le_of_ble_eq_true rfl) a16 b16 (k_lent _ (nat_lt a16 b16)).1 ?_
            refine wp_callV [pR _] _ d_ye_comeBack_171 jd_tu_become lk_ye_72 rfl (k_now _ (nat_lt a15 b15)).2.1 rfl (Nat.lt_of_succ_lt (k_now _ (nat_lt a15 b15)).2.2.2.2) (Nat.le_of_ble_eq_true rfl) rfl ?_
            refine clV_k h ?_
            intro M5 h
            refine wp_iinc (L2 := [(0, pR 40), (1, pR 1), (2, pI _), (3, pI _), (4, pR 84), (5, pI _), (6, pR _), (7, pI _)]) d_ye_comeBack_174 5 rfl (Nat.le_of_ble_eq_true rfl) [1, 2, 3, 4, 5, 0, 6, 7] rfl ?_
            refine wp_goto 3 d_ye_comeBack_177 (by decide) ?_
            refine wp_sub (L2 := [(0, pR 40), (1, pR 1), (2, pI _), (3, pI _), (4, pR 84), (5, pI _)]) [0, 1, 2, 3, 4, 5] rfl ?_
            exact h
        · have h := h.2 c13
          refine wp_iload d_ye_comeBack_126 7 rfl ?_
          refine wp_aload_n d_ye_comeBack_128 rfl 0 rfl ?_
          refine wp_getr d_ye_comeBack_129 1 s_40 rfl (Nat.le_of_ble_eq_true rfl) (Nat.le_of_ble_eq_true rfl) rfl rfl lk_ye_17 ?_
          refine wp_iload d_ye_comeBack_132 5 rfl ?_
          obtain ⟨⟨a14, b14⟩, h⟩ := h
          refine wp_aald (t := 1) d_ye_comeBack_134 s_42 rfl (Nat.le_of_ble_eq_true rfl) a14 b14 (k_lent _ (nat_lt a14 b14)).1 ?_
          refine wp_geti d_ye_comeBack_135 1 (k_lent _ (nat_lt a14 b14)).2.1 rfl (Nat.lt_of_succ_lt (k_lent _ (nat_lt a14 b14)).2.2.2.2) (Nat.le_of_ble_eq_true rfl) rfl lk_ye_118 ?_
          refine wp_icmp_ge 145 d_ye_comeBack_138 (by decide) (fun c15 => ?_) (fun c15 => ?_)
          · have h := h.1 c15
            refine wp_iconst d_ye_comeBack_145 ⟨by decide, by decide⟩ ?_
            refine wp_puti d_ye_comeBack_146 5 (k_loans _ (nat_lt a5 b5)).2.1 rfl (k_loans _ (nat_lt a5 b5)).2.2 (Nat.le_of_ble_eq_true rfl) (Or.inr ⟨rfl, by decide⟩) rfl lk_ye_89 ?_
            have h := h _ rfl
            refine wp_aload d_ye_comeBack_149 6 rfl ?_
            refine wp_geti d_ye_comeBack_151 5 (k_loans _ (nat_lt a5 b5)).2.1 rfl (k_loans _ (nat_lt a5 b5)).2.2 (Nat.le_of_ble_eq_true rfl) rfl lk_ye_89 ?_
            refine wp_if_eq 174 d_ye_comeBack_154 (by decide) (fun c16 => ?_) (fun c16 => ?_)
            · have h := h.1 c16
              refine wp_iinc (L2 := [(0, pR 40), (1, pR 1), (2, pI _), (3, pI _), (4, pR 84), (5, pI _), (6, pR _), (7, pI _)]) d_ye_comeBack_174 5 rfl (Nat.le_of_ble_eq_true rfl) [1, 2, 3, 4, 5, 0, 6, 7] rfl ?_
              refine wp_goto 3 d_ye_comeBack_177 (by decide) ?_
              refine wp_sub (L2 := [(0, pR 40), (1, pR 1), (2, pI _), (3, pI _), (4, pR 84), (5, pI _)]) [0, 1, 2, 3, 4, 5] rfl ?_
              exact h
            · have h := h.2 c16
              refine wp_aload_n d_ye_comeBack_157 rfl 0 rfl ?_
              refine wp_getr d_ye_comeBack_158 0 s_40 rfl (Nat.le_of_ble_eq_true rfl) (Nat.le_of_ble_eq_true rfl) rfl rfl lk_ye_11 ?_
              refine wp_iload d_ye_comeBack_161 5 rfl ?_
              obtain ⟨⟨a17, b17⟩, h⟩ := h
              refine wp_aald (t := 1) d_ye_comeBack_163 s_41 rfl (Nat.le_of_ble_eq_true rfl) a17 b17 (k_now _ (nat_lt a17 b17)).1 ?_
              refine wp_aload_n d_ye_comeBack_164 rfl 0 rfl ?_
              refine wp_getr d_ye_comeBack_165 1 s_40 rfl (Nat.le_of_ble_eq_true rfl) (Nat.le_of_ble_eq_true rfl) rfl rfl lk_ye_17 ?_
              refine wp_iload d_ye_comeBack_168 5 rfl ?_
              obtain ⟨⟨a18, b18⟩, h⟩ := h
              refine wp_aald (t := 1) d_ye_comeBack_170 s_42 rfl (Nat.le_of_ble_eq_true rfl) a18 b18 (k_lent _ (nat_lt a18 b18)).1 ?_
              refine wp_callV [pR _] _ d_ye_comeBack_171 jd_tu_become lk_ye_72 rfl (k_now _ (nat_lt a17 b17)).2.1 rfl (Nat.lt_of_succ_lt (k_now _ (nat_lt a17 b17)).2.2.2.2) (Nat.le_of_ble_eq_true rfl) rfl ?_
              refine clV_k h ?_
              intro M5 h
              refine wp_iinc (L2 := [(0, pR 40), (1, pR 1), (2, pI _), (3, pI _), (4, pR 84), (5, pI _), (6, pR _), (7, pI _)]) d_ye_comeBack_174 5 rfl (Nat.le_of_ble_eq_true rfl) [1, 2, 3, 4, 5, 0, 6, 7] rfl ?_
              refine wp_goto 3 d_ye_comeBack_177 (by decide) ?_
              refine wp_sub (L2 := [(0, pR 40), (1, pR 1), (2, pI _), (3, pI _), (4, pR 84), (5, pI _)]) [0, 1, 2, 3, 4, 5] rfl ?_
              exact h
          · have h := h.2 c15
            refine wp_iconst d_ye_comeBack_141 ⟨by decide, by decide⟩ ?_
            refine wp_goto 146 d_ye_comeBack_142 (by decide) ?_
            refine wp_puti d_ye_comeBack_146 5 (k_loans _ (nat_lt a5 b5)).2.1 rfl (k_loans _ (nat_lt a5 b5)).2.2 (Nat.le_of_ble_eq_true rfl) (Or.inr ⟨rfl, by decide⟩) rfl lk_ye_89 ?_
            have h := h _ rfl
            refine wp_aload d_ye_comeBack_149 6 rfl ?_
            refine wp_geti d_ye_comeBack_151 5 (k_loans _ (nat_lt a5 b5)).2.1 rfl (k_loans _ (nat_lt a5 b5)).2.2 (Nat.le_of_ble_eq_true rfl) rfl lk_ye_89 ?_
            refine wp_if_eq 174 d_ye_comeBack_154 (by decide) (fun c16 => ?_) (fun c16 => ?_)
            · have h := h.1 c16
              refine wp_iinc (L2 := [(0, pR 40), (1, pR 1), (2, pI _), (3, pI _), (4, pR 84), (5, pI _), (6, pR _), (7, pI _)]) d_ye_comeBack_174 5 rfl (Nat.le_of_ble_eq_true rfl) [1, 2, 3, 4, 5, 0, 6, 7] rfl ?_
              refine wp_goto 3 d_ye_comeBack_177 (by decide) ?_
              refine wp_sub (L2 := [(0, pR 40), (1, pR 1), (2, pI _), (3, pI _), (4, pR 84), (5, pI _)]) [0, 1, 2, 3, 4, 5] rfl ?_
              exact h
            · have h := h.2 c16
              refine wp_aload_n d_ye_comeBack_157 rfl 0 rfl ?_
              refine wp_getr d_ye_comeBack_158 0 s_40 rfl (Nat.le_of_ble_eq_true rfl) (Nat.le_of_ble_eq_true rfl) rfl rfl lk_ye_11 ?_
              refine wp_iload d_ye_comeBack_161 5 rfl ?_
              obtain ⟨⟨a17, b17⟩, h⟩ := h
              refine wp_aald (t := 1) d_ye_comeBack_163 s_41 rfl (Nat.le_of_ble_eq_true rfl) a17 b17 (k_now _ (nat_lt a17 b17)).1 ?_
              refine wp_aload_n d_ye_comeBack_164 rfl 0 rfl ?_
              refine wp_getr d_ye_comeBack_165 1 s_40 rfl (Nat.le_of_ble_eq_true rfl) (Nat.le_of_ble_eq_true rfl) rfl rfl lk_ye_17 ?_
              refine wp_iload d_ye_comeBack_168 5 rfl ?_
              obtain ⟨⟨a18, b18⟩, h⟩ := h
              refine wp_aald (t := 1) d_ye_comeBack_170 s_42 rfl (Nat.le_of_ble_eq_true rfl) a18 b18 (k_lent _ (nat_lt a18 b18)).1 ?_
              refine wp_callV [pR _] _ d_ye_comeBack_171 jd_tu_become lk_ye_72 rfl (k_now _ (nat_lt a17 b17)).2.1 rfl (Nat.lt_of_succ_lt (k_now _ (nat_lt a17 b17)).2.2.2.2) (Nat.le_of_ble_eq_true rfl) rfl ?_
              refine clV_k h ?_
              intro M5 h
              refine wp_iinc (L2 := [(0, pR 40), (1, pR 1), (2, pI _), (3, pI _), (4, pR 84), (5, pI _), (6, pR _), (7, pI _)]) d_ye_comeBack_174 5 rfl (Nat.le_of_ble_eq_true rfl) [1, 2, 3, 4, 5, 0, 6, 7] rfl ?_
              refine wp_goto 3 d_ye_comeBack_177 (by decide) ?_
              refine wp_sub (L2 := [(0, pR 40), (1, pR 1), (2, pI _), (3, pI _), (4, pR 84), (5, pI _)]) [0, 1, 2, 3, 4, 5] rfl ?_
              exact h
    · have h := h.2 c3
      refine wp_null d_ye_comeBack_23 ?_
      refine wp_goto 39 d_ye_comeBack_24 (by decide) ?_
      refine wp_astoreN (L2 := [(0, pR 40), (1, pR 1), (2, pI _), (3, pI _), (4, pR 84), (5, pI _), (6, pN)]) d_ye_comeBack_39 (Nat.le_of_ble_eq_true rfl) [1, 2, 3, 4, 5, 6, 0] rfl ?_
      refine wp_aloadN d_ye_comeBack_41 6 rfl ?_
      refine wp_ifnullN 174 d_ye_comeBack_43 (by decide) ?_
      refine wp_iinc (L2 := [(0, pR 40), (1, pR 1), (2, pI _), (3, pI _), (4, pR 84), (5, pI _), (6, pN)]) d_ye_comeBack_174 5 rfl (Nat.le_of_ble_eq_true rfl) [1, 2, 3, 4, 5, 0, 6] rfl ?_
      refine wp_goto 3 d_ye_comeBack_177 (by decide) ?_
      refine wp_sub (L2 := [(0, pR 40), (1, pR 1), (2, pI _), (3, pI _), (4, pR 84), (5, pI _)]) [0, 1, 2, 3, 4, 5] rfl ?_
      exact h
set_option maxHeartbeats 8000000 in
theorem e_ye_keep {G : GT} {M : MT} {P : MT → Prop} (v2 : Int)
    (h : WpV G J_ye_keep 2 [(0, pR 40), (1, pR 1), (2, pI v2), (3, pI 0)] [] M P) : ClV G J_ye_keep M [pR 40, pR 1, pI v2] P := by
  show Wp G J_ye_keep 0 0 0 [(0, pR 40), (1, pR 1), (2, pI v2)] [] NN RF M _
  refine wp_iconst d_ye_keep_0 ⟨by decide, by decide⟩ ?_
  refine wp_istore_n (L2 := [(0, pR 40), (1, pR 1), (2, pI _), (3, pI _)]) d_ye_keep_1 rfl (Nat.le_of_ble_eq_true rfl) [1, 2, 3, 0] rfl ?_
  exact h
set_option maxHeartbeats 8000000 in
theorem b_ye_keep_2 {G : GT} {M : MT} {P : MT → Prop} (v2 : Int) (v3 : Int)
    (h : ((M 1 4) ≤ v3 → P M) ∧ (v3 < (M 1 4) → (0 ≤ v3 ∧ v3 < 6) ∧ ((0 ≤ (w32 ((w32 (v2 * 6)) + v3)) ∧ (w32 ((w32 (v2 * 6)) + v3)) < 240) ∧ (∀ M1 : MT, M1 = mu M 47 ((w32 ((w32 (v2 * 6)) + v3)).toNat) (M (49 + 4 * v3.toNat) 1) → ((0 ≤ v3 ∧ v3 < 6) ∧ ((¬ (M1 43 (v3.toNat)) = (-1) → (0 ≤ v3 ∧ v3 < 6) ∧ ((0 ≤ (M1 43 (v3.toNat)) ∧ (M1 43 (v3.toNat)) < 12) ∧ ((0 ≤ (w32 ((w32 (v2 * 6)) + v3)) ∧ (w32 ((w32 (v2 * 6)) + v3)) < 240) ∧ (∀ M2 : MT, M2 = mu M1 48 ((w32 ((w32 (v2 * 6)) + v3)).toNat) (M1 (28 + (M1 43 (v3.toNat)).toNat) 2) → ((0 ≤ v3 ∧ v3 < 6) ∧ ((0 ≤ v3 ∧ v3 < 6) ∧ ((((0 : Int) ≤ 0 ∧ (0 : Int) ≤ (w32 ((w32 ((w32 (v2 * 6)) + v3)) * 40)) ∧ (0 : Int) ≤ (M2 (49 + 4 * v3.toNat) 1)) ∧ 0 + (M2 (49 + 4 * v3.toNat) 1) ≤ (40 : Int) ∧ (w32 ((w32 ((w32 (v2 * 6)) + v3)) * 40)) + (M2 (49 + 4 * v3.toNat) 1) ≤ (9600 : Int)) ∧ (∀ M3 : MT, M3 = mcp M2 ((49 + 4 * v3.toNat) + 1) 46 0 (w32 ((w32 ((w32 (v2 * 6)) + v3)) * 40)) (M2 (49 + 4 * v3.toNat) 1) → (WpV G J_ye_keep 2 [(0, pR 40), (1, pR 1), (2, pI v2), (3, pI (w32 (v3 + 1)))] [] M3 P))))))))) ∧ ((M1 43 (v3.toNat)) = (-1) → (0 ≤ (w32 ((w32 (v2 * 6)) + v3)) ∧ (w32 ((w32 (v2 * 6)) + v3)) < 240) ∧ (∀ M2 : MT, M2 = mu M1 48 ((w32 ((w32 (v2 * 6)) + v3)).toNat) (-1) → ((0 ≤ v3 ∧ v3 < 6) ∧ ((0 ≤ v3 ∧ v3 < 6) ∧ ((((0 : Int) ≤ 0 ∧ (0 : Int) ≤ (w32 ((w32 ((w32 (v2 * 6)) + v3)) * 40)) ∧ (0 : Int) ≤ (M2 (49 + 4 * v3.toNat) 1)) ∧ 0 + (M2 (49 + 4 * v3.toNat) 1) ≤ (40 : Int) ∧ (w32 ((w32 ((w32 (v2 * 6)) + v3)) * 40)) + (M2 (49 + 4 * v3.toNat) 1) ≤ (9600 : Int)) ∧ (∀ M3 : MT, M3 = mcp M2 ((49 + 4 * v3.toNat) + 1) 46 0 (w32 ((w32 ((w32 (v2 * 6)) + v3)) * 40)) (M2 (49 + 4 * v3.toNat) 1) → (WpV G J_ye_keep 2 [(0, pR 40), (1, pR 1), (2, pI v2), (3, pI (w32 (v3 + 1)))] [] M3 P))))))))))))) : WpV G J_ye_keep 2 [(0, pR 40), (1, pR 1), (2, pI v2), (3, pI v3)] [] M P := by
  show Wp G J_ye_keep 0 0 2 [(0, pR 40), (1, pR 1), (2, pI v2), (3, pI v3)] [] NN RF M _
  refine wp_iload_n d_ye_keep_2 rfl 3 rfl ?_
  refine wp_aload_n d_ye_keep_3 rfl 1 rfl ?_
  refine wp_geti d_ye_keep_4 4 s_1 rfl (Nat.le_of_ble_eq_true rfl) (Nat.le_of_ble_eq_true rfl) rfl lk_ye_60 ?_
  refine wp_icmp_ge 106 d_ye_keep_7 (by decide) (fun c1 => ?_) (fun c1 => ?_)
  · have h := h.1 c1
    exact wp_vret d_ye_keep_106 rfl ⟨Nat.le_of_ble_eq_true rfl, Nat.le_of_ble_eq_true rfl⟩ ⟨rfl, rfl, rfl, h⟩
  · have h := h.2 c1
    refine wp_iload_n d_ye_keep_10 rfl 2 rfl ?_
    refine wp_bipush d_ye_keep_11 ⟨by decide, by decide⟩ (by decide) ?_
    refine wp_imul d_ye_keep_13 ?_
    refine wp_iload_n d_ye_keep_14 rfl 3 rfl ?_
    refine wp_iadd d_ye_keep_15 ?_
    refine wp_istore (L2 := [(0, pR 40), (1, pR 1), (2, pI _), (3, pI _), (4, pI _)]) d_ye_keep_16 (Nat.le_of_ble_eq_true rfl) [1, 2, 3, 4, 0] rfl ?_
    refine wp_aload_n d_ye_keep_18 rfl 0 rfl ?_
    refine wp_getr d_ye_keep_19 5 s_40 rfl (Nat.le_of_ble_eq_true rfl) (Nat.le_of_ble_eq_true rfl) rfl rfl lk_ye_32 ?_
    refine wp_iload d_ye_keep_22 4 rfl ?_
    refine wp_aload_n d_ye_keep_24 rfl 0 rfl ?_
    refine wp_getr d_ye_keep_25 0 s_40 rfl (Nat.le_of_ble_eq_true rfl) (Nat.le_of_ble_eq_true rfl) rfl rfl lk_ye_11 ?_
    refine wp_iload_n d_ye_keep_28 rfl 3 rfl ?_
    obtain ⟨⟨a2, b2⟩, h⟩ := h
    refine wp_aald (t := 1) d_ye_keep_29 s_41 rfl (Nat.le_of_ble_eq_true rfl) a2 b2 (k_now _ (nat_lt a2 b2)).1 ?_
    refine wp_geti d_ye_keep_30 1 (k_now _ (nat_lt a2 b2)).2.1 rfl (Nat.lt_of_succ_lt (k_now _ (nat_lt a2 b2)).2.2.2.2) (Nat.le_of_ble_eq_true rfl) rfl lk_ye_118 ?_
    obtain ⟨⟨a3, b3⟩, h⟩ := h
    refine wp_iast d_ye_keep_33 s_47 (Nat.le_of_ble_eq_true rfl) a3 b3 ?_
    have h := h _ rfl
    refine wp_aload_n d_ye_keep_34 rfl 0 rfl ?_
    refine wp_getr d_ye_keep_35 6 s_40 rfl (Nat.le_of_ble_eq_true rfl) (Nat.le_of_ble_eq_true rfl) rfl rfl lk_ye_35 ?_
    refine wp_iload d_ye_keep_38 4 rfl ?_
    refine wp_aload_n d_ye_keep_40 rfl 0 rfl ?_
    refine wp_getr d_ye_keep_41 2 s_40 rfl (Nat.le_of_ble_eq_true rfl) (Nat.le_of_ble_eq_true rfl) rfl rfl lk_ye_20 ?_
    refine wp_iload_n d_ye_keep_44 rfl 3 rfl ?_
    obtain ⟨⟨a4, b4⟩, h⟩ := h
    refine wp_iald d_ye_keep_45 s_43 (Nat.le_of_ble_eq_true rfl) a4 b4 ?_
    refine wp_iconst d_ye_keep_46 ⟨by decide, by decide⟩ ?_
    refine wp_icmp_ne 54 d_ye_keep_47 (by decide) (fun c5 => ?_) (fun c5 => ?_)
    · have h := h.1 c5
      refine wp_aload_n d_ye_keep_54 rfl 1 rfl ?_
      refine wp_getr d_ye_keep_55 3 s_1 rfl (Nat.le_of_ble_eq_true rfl) (Nat.le_of_ble_eq_true rfl) rfl rfl lk_ye_79 ?_
      refine wp_aload_n d_ye_keep_58 rfl 0 rfl ?_
      refine wp_getr d_ye_keep_59 2 s_40 rfl (Nat.le_of_ble_eq_true rfl) (Nat.le_of_ble_eq_true rfl) rfl rfl lk_ye_20 ?_
      refine wp_iload_n d_ye_keep_62 rfl 3 rfl ?_
      obtain ⟨⟨a6, b6⟩, h⟩ := h
      refine wp_iald d_ye_keep_63 s_43 (Nat.le_of_ble_eq_true rfl) a6 b6 ?_
      obtain ⟨⟨a7, b7⟩, h⟩ := h
      refine wp_aald (t := 3) d_ye_keep_64 s_5 rfl (Nat.le_of_ble_eq_true rfl) a7 b7 (k_loans _ (nat_lt a7 b7)).1 ?_
      refine wp_geti d_ye_keep_65 2 (k_loans _ (nat_lt a7 b7)).2.1 rfl (k_loans _ (nat_lt a7 b7)).2.2 (Nat.le_of_ble_eq_true rfl) rfl lk_ye_98 ?_
      obtain ⟨⟨a8, b8⟩, h⟩ := h
      refine wp_iast d_ye_keep_68 s_48 (Nat.le_of_ble_eq_true rfl) a8 b8 ?_
      have h := h _ rfl
      refine wp_aload_n d_ye_keep_69 rfl 0 rfl ?_
      refine wp_getr d_ye_keep_70 0 s_40 rfl (Nat.le_of_ble_eq_true rfl) (Nat.le_of_ble_eq_true rfl) rfl rfl lk_ye_11 ?_
      refine wp_iload_n d_ye_keep_73 rfl 3 rfl ?_
      obtain ⟨⟨a9, b9⟩, h⟩ := h
      refine wp_aald (t := 1) d_ye_keep_74 s_41 rfl (Nat.le_of_ble_eq_true rfl) a9 b9 (k_now _ (nat_lt a9 b9)).1 ?_
      refine wp_getr d_ye_keep_75 0 (k_now _ (nat_lt a9 b9)).2.1 rfl (Nat.lt_of_succ_lt (k_now _ (nat_lt a9 b9)).2.2.2.2) (Nat.le_of_ble_eq_true rfl) rfl (k_now _ (nat_lt a9 b9)).2.2.2.1 lk_ye_127 ?_
      refine wp_iconst d_ye_keep_78 ⟨by decide, by decide⟩ ?_
      refine wp_aload_n d_ye_keep_79 rfl 0 rfl ?_
      refine wp_getr d_ye_keep_80 4 s_40 rfl (Nat.le_of_ble_eq_true rfl) (Nat.le_of_ble_eq_true rfl) rfl rfl lk_ye_29 ?_
      refine wp_iload d_ye_keep_83 4 rfl ?_
      refine wp_bipush d_ye_keep_85 ⟨by decide, by decide⟩ (by decide) ?_
      refine wp_imul d_ye_keep_87 ?_
      refine wp_aload_n d_ye_keep_88 rfl 0 rfl ?_
      refine wp_getr d_ye_keep_89 0 s_40 rfl (Nat.le_of_ble_eq_true rfl) (Nat.le_of_ble_eq_true rfl) rfl rfl lk_ye_11 ?_
      refine wp_iload_n d_ye_keep_92 rfl 3 rfl ?_
      obtain ⟨⟨a10, b10⟩, h⟩ := h
      refine wp_aald (t := 1) d_ye_keep_93 s_41 rfl (Nat.le_of_ble_eq_true rfl) a10 b10 (k_now _ (nat_lt a10 b10)).1 ?_
      refine wp_geti d_ye_keep_94 1 (k_now _ (nat_lt a10 b10)).2.1 rfl (Nat.lt_of_succ_lt (k_now _ (nat_lt a10 b10)).2.2.2.2) (Nat.le_of_ble_eq_true rfl) rfl lk_ye_118 ?_
      obtain ⟨⟨⟨a11, b11, e11⟩, x11, y11⟩, h⟩ := h
      refine wp_copy d_ye_keep_97 lk_ye_130 w_acn w_acs w_acy (k_now _ (nat_lt a9 b9)).2.2.1 s_46 (k_now _ (nat_lt a9 b9)).2.2.2.2 (Nat.le_of_ble_eq_true rfl) a11 b11 e11 x11 y11 (Nat.le_of_ble_eq_true rfl) (Nat.le_of_ble_eq_true rfl) ?_
      have h := h _ rfl
      refine wp_iinc (L2 := [(0, pR 40), (1, pR 1), (2, pI _), (3, pI _), (4, pI _)]) d_ye_keep_100 3 rfl (Nat.le_of_ble_eq_true rfl) [1, 2, 3, 0, 4] rfl ?_
      refine wp_goto 2 d_ye_keep_103 (by decide) ?_
      refine wp_sub (L2 := [(0, pR 40), (1, pR 1), (2, pI _), (3, pI _)]) [0, 1, 2, 3] rfl ?_
      exact h
    · have h := h.2 c5
      refine wp_iconst d_ye_keep_50 ⟨by decide, by decide⟩ ?_
      refine wp_goto 68 d_ye_keep_51 (by decide) ?_
      obtain ⟨⟨a6, b6⟩, h⟩ := h
      refine wp_iast d_ye_keep_68 s_48 (Nat.le_of_ble_eq_true rfl) a6 b6 ?_
      have h := h _ rfl
      refine wp_aload_n d_ye_keep_69 rfl 0 rfl ?_
      refine wp_getr d_ye_keep_70 0 s_40 rfl (Nat.le_of_ble_eq_true rfl) (Nat.le_of_ble_eq_true rfl) rfl rfl lk_ye_11 ?_
      refine wp_iload_n d_ye_keep_73 rfl 3 rfl ?_
      obtain ⟨⟨a7, b7⟩, h⟩ := h
      refine wp_aald (t := 1) d_ye_keep_74 s_41 rfl (Nat.le_of_ble_eq_true rfl) a7 b7 (k_now _ (nat_lt a7 b7)).1 ?_
      refine wp_getr d_ye_keep_75 0 (k_now _ (nat_lt a7 b7)).2.1 rfl (Nat.lt_of_succ_lt (k_now _ (nat_lt a7 b7)).2.2.2.2) (Nat.le_of_ble_eq_true rfl) rfl (k_now _ (nat_lt a7 b7)).2.2.2.1 lk_ye_127 ?_
      refine wp_iconst d_ye_keep_78 ⟨by decide, by decide⟩ ?_
      refine wp_aload_n d_ye_keep_79 rfl 0 rfl ?_
      refine wp_getr d_ye_keep_80 4 s_40 rfl (Nat.le_of_ble_eq_true rfl) (Nat.le_of_ble_eq_true rfl) rfl rfl lk_ye_29 ?_
      refine wp_iload d_ye_keep_83 4 rfl ?_
      refine wp_bipush d_ye_keep_85 ⟨by decide, by decide⟩ (by decide) ?_
      refine wp_imul d_ye_keep_87 ?_
      refine wp_aload_n d_ye_keep_88 rfl 0 rfl ?_
      refine wp_getr d_ye_keep_89 0 s_40 rfl (Nat.le_of_ble_eq_true rfl) (Nat.le_of_ble_eq_true rfl) rfl rfl lk_ye_11 ?_
      refine wp_iload_n d_ye_keep_92 rfl 3 rfl ?_
      obtain ⟨⟨a8, b8⟩, h⟩ := h
      refine wp_aald (t := 1) d_ye_keep_93 s_41 rfl (Nat.le_of_ble_eq_true rfl) a8 b8 (k_now _ (nat_lt a8 b8)).1 ?_
      refine wp_geti d_ye_keep_94 1 (k_now _ (nat_lt a8 b8)).2.1 rfl (Nat.lt_of_succ_lt (k_now _ (nat_lt a8 b8)).2.2.2.2) (Nat.le_of_ble_eq_true rfl) rfl lk_ye_118 ?_
      obtain ⟨⟨⟨a9, b9, e9⟩, x9, y9⟩, h⟩ := h
      refine wp_copy d_ye_keep_97 lk_ye_130 w_acn w_acs w_acy (k_now _ (nat_lt a7 b7)).2.2.1 s_46 (k_now _ (nat_lt a7 b7)).2.2.2.2 (Nat.le_of_ble_eq_true rfl) a9 b9 e9 x9 y9 (Nat.le_of_ble_eq_true rfl) (Nat.le_of_ble_eq_true rfl) ?_
      have h := h _ rfl
      refine wp_iinc (L2 := [(0, pR 40), (1, pR 1), (2, pI _), (3, pI _), (4, pI _)]) d_ye_keep_100 3 rfl (Nat.le_of_ble_eq_true rfl) [1, 2, 3, 0, 4] rfl ?_
      refine wp_goto 2 d_ye_keep_103 (by decide) ?_
      refine wp_sub (L2 := [(0, pR 40), (1, pR 1), (2, pI _), (3, pI _)]) [0, 1, 2, 3] rfl ?_
      exact h
