set_option maxHeartbeats 8000000 in
theorem e_li_of {G : GT} {M : MT} {P : Int → MT → Prop} (o1 : Nat) (f1 : TU o1) (o2 : Nat) (f2 : TU o2)
    (h : WpI G J_li_of 2 [(0, pR 84), (1, pR o1), (2, pR o2), (3, pI 0)] [] M P) : ClI G J_li_of M [pR 84, pR o1, pR o2] P := by
  show Wp G J_li_of 0 0 0 [(0, pR 84), (1, pR o1), (2, pR o2)] [] NN RF M _
  refine wp_iconst d_li_of_0 ⟨by decide, by decide⟩ ?_
  refine wp_istore_n (L2 := [(0, pR 84), (1, pR _), (2, pR _), (3, pI _)]) d_li_of_1 rfl (Nat.le_of_ble_eq_true rfl) [1, 2, 3, 0] rfl ?_
  exact h
set_option maxHeartbeats 8000000 in
theorem b_li_of_2 {G : GT} {M : MT} {P : Int → MT → Prop} (o1 : Nat) (f1 : TU o1) (o2 : Nat) (f2 : TU o2) (v3 : Int)
    (h : (7 ≤ v3 → WpI G J_li_of 23 [(0, pR 84), (1, pR o1), (2, pR o2), (3, pI 0)] [] M P) ∧ (v3 < 7 → (0 ≤ v3 ∧ v3 < 7) ∧ (∀ M1 : MT, M1 = mu M 85 (v3.toNat) 0 → (WpI G J_li_of 2 [(0, pR 84), (1, pR o1), (2, pR o2), (3, pI (w32 (v3 + 1)))] [] M1 P)))) : WpI G J_li_of 2 [(0, pR 84), (1, pR o1), (2, pR o2), (3, pI v3)] [] M P := by
  show Wp G J_li_of 0 0 2 [(0, pR 84), (1, pR o1), (2, pR o2), (3, pI v3)] [] NN RF M _
  refine wp_iload_n d_li_of_2 rfl 3 rfl ?_
  refine wp_bipush d_li_of_3 ⟨by decide, by decide⟩ (by decide) ?_
  refine wp_icmp_ge 21 d_li_of_5 (by decide) (fun c1 => ?_) (fun c1 => ?_)
  · have h := h.1 c1
    refine wp_iconst d_li_of_21 ⟨by decide, by decide⟩ ?_
    refine wp_istore_n (L2 := [(0, pR 84), (1, pR _), (2, pR _), (3, pI _)]) d_li_of_22 rfl (Nat.le_of_ble_eq_true rfl) [1, 2, 3, 0] rfl ?_
    exact h
  · have h := h.2 c1
    refine wp_aload_n d_li_of_8 rfl 0 rfl ?_
    refine wp_getr d_li_of_9 0 s_84 rfl (Nat.le_of_ble_eq_true rfl) (Nat.le_of_ble_eq_true rfl) rfl rfl lk_li_9 ?_
    refine wp_iload_n d_li_of_12 rfl 3 rfl ?_
    refine wp_lconst (v := 0) d_li_of_13 rfl ?_
    obtain ⟨⟨a2, b2⟩, h⟩ := h
    refine wp_last d_li_of_14 s_85 (Nat.le_of_ble_eq_true rfl) a2 b2 ?_
    have h := h _ rfl
    refine wp_iinc (L2 := [(0, pR 84), (1, pR _), (2, pR _), (3, pI _)]) d_li_of_15 3 rfl (Nat.le_of_ble_eq_true rfl) [1, 2, 3, 0] rfl ?_
    refine wp_goto 2 d_li_of_18 (by decide) ?_
    exact h
set_option maxHeartbeats 8000000 in
theorem b_li_of_23 {G : GT} {M : MT} {P : Int → MT → Prop} (o1 : Nat) (f1 : TU o1) (o2 : Nat) (f2 : TU o2) (v3 : Int)
    (h : ((M o1 1) ≤ v3 → WpI G J_li_of 61 [(0, pR 84), (1, pR o1), (2, pR o2), (3, pL (-1)), (5, pI 0)] [] M P) ∧ (v3 < (M o1 1) → (0 ≤ v3 ∧ v3 < 40) ∧ ((0 ≤ (M (o1 + 1) (v3.toNat)) ∧ (M (o1 + 1) (v3.toNat)) < 7) ∧ ((0 ≤ (M (o1 + 1) (v3.toNat)) ∧ (M (o1 + 1) (v3.toNat)) < 7) ∧ (∀ M1 : MT, M1 = mu M 85 ((M (o1 + 1) (v3.toNat)).toNat) (lor (M 85 ((M (o1 + 1) (v3.toNat)).toNat)) (lshl 1 v3)) → (WpI G J_li_of 23 [(0, pR 84), (1, pR o1), (2, pR o2), (3, pI (w32 (v3 + 1)))] [] M1 P)))))) : WpI G J_li_of 23 [(0, pR 84), (1, pR o1), (2, pR o2), (3, pI v3)] [] M P := by
  show Wp G J_li_of 0 0 23 [(0, pR 84), (1, pR o1), (2, pR o2), (3, pI v3)] [] NN RF M _
  refine wp_iload_n d_li_of_23 rfl 3 rfl ?_
  refine wp_aload_n d_li_of_24 rfl 1 rfl ?_
  refine wp_geti d_li_of_25 1 f1.1 rfl (Nat.lt_of_succ_lt f1.2.2.2) (Nat.le_of_ble_eq_true rfl) rfl lk_li_15 ?_
  refine wp_icmp_ge 54 d_li_of_28 (by decide) (fun c1 => ?_) (fun c1 => ?_)
  · have h := h.1 c1
    refine wp_ldc2 lk_li_25 d_li_of_54 ⟨by decide, by decide⟩ ?_
    refine wp_lstore_n (L2 := [(0, pR 84), (1, pR _), (2, pR _), (3, pL _)]) d_li_of_57 rfl (Nat.le_of_ble_eq_true rfl) [1, 2, 3, 0] rfl ?_
    refine wp_iconst d_li_of_58 ⟨by decide, by decide⟩ ?_
    refine wp_istore (L2 := [(0, pR 84), (1, pR _), (2, pR _), (3, pL _), (5, pI _)]) d_li_of_59 (Nat.le_of_ble_eq_true rfl) [1, 2, 3, 4, 0] rfl ?_
    exact h
  · have h := h.2 c1
    refine wp_aload_n d_li_of_31 rfl 0 rfl ?_
    refine wp_getr d_li_of_32 0 s_84 rfl (Nat.le_of_ble_eq_true rfl) (Nat.le_of_ble_eq_true rfl) rfl rfl lk_li_9 ?_
    refine wp_aload_n d_li_of_35 rfl 1 rfl ?_
    refine wp_getr d_li_of_36 0 f1.1 rfl (Nat.lt_of_succ_lt f1.2.2.2) (Nat.le_of_ble_eq_true rfl) rfl f1.2.2.1 lk_li_21 ?_
    refine wp_iload_n d_li_of_39 rfl 3 rfl ?_
    obtain ⟨⟨a2, b2⟩, h⟩ := h
    refine wp_iald d_li_of_40 f1.2.1 f1.2.2.2 a2 b2 ?_
    refine wp_dup2 d_li_of_41 rfl rfl ?_
    obtain ⟨⟨a3, b3⟩, h⟩ := h
    refine wp_lald d_li_of_42 s_85 (Nat.le_of_ble_eq_true rfl) a3 b3 ?_
    refine wp_lconst (v := 1) d_li_of_43 rfl ?_
    refine wp_iload_n d_li_of_44 rfl 3 rfl ?_
    refine wp_lshl d_li_of_45 ?_
    refine wp_lor d_li_of_46 ?_
    obtain ⟨⟨a4, b4⟩, h⟩ := h
    refine wp_last d_li_of_47 s_85 (Nat.le_of_ble_eq_true rfl) a4 b4 ?_
    have h := h _ rfl
    refine wp_iinc (L2 := [(0, pR 84), (1, pR _), (2, pR _), (3, pI _)]) d_li_of_48 3 rfl (Nat.le_of_ble_eq_true rfl) [1, 2, 3, 0] rfl ?_
    refine wp_goto 23 d_li_of_51 (by decide) ?_
    exact h
set_option maxHeartbeats 8000000 in
theorem b_li_of_61 {G : GT} {M : MT} {P : Int → MT → Prop} (o1 : Nat) (f1 : TU o1) (o2 : Nat) (f2 : TU o2) (v3 : Int) (v5 : Int)
    (h : ((M o2 1) ≤ v5 → ClI G J_jl_bitCount M [pL (land (lxor v3 (-1)) (w64 ((lshl 1 (M o1 1)) - 1)))] (fun x2 M1 => (P x2 M1))) ∧ (v5 < (M o2 1) → (0 ≤ v5 ∧ v5 < 40) ∧ ((0 ≤ (M (o2 + 1) (v5.toNat)) ∧ (M (o2 + 1) (v5.toNat)) < 7) ∧ (WpI G J_li_of 61 [(0, pR 84), (1, pR o1), (2, pR o2), (3, pL (lor (w64 (v3 + (land v3 (M 85 ((M (o2 + 1) (v5.toNat)).toNat))))) (w64 (v3 - (land v3 (M 85 ((M (o2 + 1) (v5.toNat)).toNat))))))), (5, pI (w32 (v5 + 1)))] [] M P)))) : WpI G J_li_of 61 [(0, pR 84), (1, pR o1), (2, pR o2), (3, pL v3), (5, pI v5)] [] M P := by
  show Wp G J_li_of 0 0 61 [(0, pR 84), (1, pR o1), (2, pR o2), (3, pL v3), (5, pI v5)] [] NN RF M _
  refine wp_iload d_li_of_61 4 rfl ?_
  refine wp_aload_n d_li_of_63 rfl 2 rfl ?_
  refine wp_geti d_li_of_64 1 f2.1 rfl (Nat.lt_of_succ_lt f2.2.2.2) (Nat.le_of_ble_eq_true rfl) rfl lk_li_15 ?_
  refine wp_icmp_ge 102 d_li_of_67 (by decide) (fun c1 => ?_) (fun c1 => ?_)
  · have h := h.1 c1
    refine wp_lload_n d_li_of_102 rfl 3 rfl ?_
    refine wp_ldc2 lk_li_25 d_li_of_103 ⟨by decide, by decide⟩ ?_
    refine wp_lxor d_li_of_106 ?_
    refine wp_lconst (v := 1) d_li_of_107 rfl ?_
    refine wp_aload_n d_li_of_108 rfl 1 rfl ?_
    refine wp_geti d_li_of_109 1 f1.1 rfl (Nat.lt_of_succ_lt f1.2.2.2) (Nat.le_of_ble_eq_true rfl) rfl lk_li_15 ?_
    refine wp_lshl d_li_of_112 ?_
    refine wp_lconst (v := 1) d_li_of_113 rfl ?_
    refine wp_lsub d_li_of_114 ?_
    refine wp_land d_li_of_115 ?_
    refine wp_callS [pL _] d_li_of_116 jd_jl_bitCount lk_li_27 rfl (Nat.le_of_ble_eq_true rfl) rfl ?_
    refine clI_k h ?_
    intro x2 M1 h
    exact wp_iret d_li_of_119 rfl ⟨Nat.le_of_ble_eq_true rfl, Nat.le_of_ble_eq_true rfl⟩ ⟨_, rfl, rfl, rfl, h⟩
  · have h := h.2 c1
    refine wp_lload_n d_li_of_70 rfl 3 rfl ?_
    refine wp_aload_n d_li_of_71 rfl 0 rfl ?_
    refine wp_getr d_li_of_72 0 s_84 rfl (Nat.le_of_ble_eq_true rfl) (Nat.le_of_ble_eq_true rfl) rfl rfl lk_li_9 ?_
    refine wp_aload_n d_li_of_75 rfl 2 rfl ?_
    refine wp_getr d_li_of_76 0 f2.1 rfl (Nat.lt_of_succ_lt f2.2.2.2) (Nat.le_of_ble_eq_true rfl) rfl f2.2.2.1 lk_li_21 ?_
    refine wp_iload d_li_of_79 4 rfl ?_
    obtain ⟨⟨a2, b2⟩, h⟩ := h
    refine wp_iald d_li_of_81 f2.2.1 f2.2.2.2 a2 b2 ?_
    obtain ⟨⟨a3, b3⟩, h⟩ := h
    refine wp_lald d_li_of_82 s_85 (Nat.le_of_ble_eq_true rfl) a3 b3 ?_
    refine wp_land d_li_of_83 ?_
    refine wp_lstore (L2 := [(0, pR 84), (1, pR _), (2, pR _), (3, pL _), (5, pI _), (6, pL _)]) d_li_of_84 (Nat.le_of_ble_eq_true rfl) [1, 2, 3, 4, 5, 0] rfl ?_
    refine wp_lload_n d_li_of_86 rfl 3 rfl ?_
    refine wp_lload d_li_of_87 5 rfl ?_
    refine wp_ladd d_li_of_89 ?_
    refine wp_lload_n d_li_of_90 rfl 3 rfl ?_
    refine wp_lload d_li_of_91 5 rfl ?_
    refine wp_lsub d_li_of_93 ?_
    refine wp_lor d_li_of_94 ?_
    refine wp_lstore_n (L2 := [(0, pR 84), (1, pR _), (2, pR _), (3, pL _), (5, pI _), (6, pL _)]) d_li_of_95 rfl (Nat.le_of_ble_eq_true rfl) [1, 2, 3, 0, 4, 5] rfl ?_
    refine wp_iinc (L2 := [(0, pR 84), (1, pR _), (2, pR _), (3, pL _), (5, pI _), (6, pL _)]) d_li_of_96 4 rfl (Nat.le_of_ble_eq_true rfl) [1, 2, 3, 4, 0, 5] rfl ?_
    refine wp_goto 61 d_li_of_99 (by decide) ?_
    refine wp_sub (L2 := [(0, pR 84), (1, pR _), (2, pR _), (3, pL _), (5, pI _)]) [0, 1, 2, 3, 4] rfl ?_
    exact h
