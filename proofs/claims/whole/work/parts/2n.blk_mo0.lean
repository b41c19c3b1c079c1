set_option maxHeartbeats 8000000 in
theorem e_mo_in {G : GT} {M : MT} {P : Int → MT → Prop} (v0 : Int) (v2 : Int) (v4 : Int)
    (h : (v0 < v2 → P 0 M) ∧ (v2 ≤ v0 → (v4 < v0 → P 0 M) ∧ (v0 ≤ v4 → P 1 M))) : ClI G J_mo_in M [pL v0, pL v2, pL v4] P := by
  show Wp G J_mo_in 0 0 0 [(0, pL v0), (2, pL v2), (4, pL v4)] [] NN RF M _
  refine wp_lload_n d_mo_in_0 rfl 0 rfl ?_
  refine wp_lload_n d_mo_in_1 rfl 1 rfl ?_
  refine wp_lcmp d_mo_in_2 ?_
  refine wp_if_lt 17 d_mo_in_3 (by decide) (fun c1 => ?_) (fun c1 => ?_)
  · have h := h.1 ((lcm_lt _ _).mp c1)
    refine wp_iconst d_mo_in_17 ⟨by decide, by decide⟩ ?_
    exact wp_zret d_mo_in_18 rfl ⟨Nat.le_of_ble_eq_true rfl, Nat.le_of_ble_eq_true rfl⟩ (by decide) ⟨_, rfl, rfl, rfl, h⟩
  · have h := h.2 ((lcm_ge _ _).mp c1)
    refine wp_lload_n d_mo_in_6 rfl 0 rfl ?_
    refine wp_lload d_mo_in_7 2 rfl ?_
    refine wp_lcmp d_mo_in_9 ?_
    refine wp_if_gt 17 d_mo_in_10 (by decide) (fun c2 => ?_) (fun c2 => ?_)
    · have h := h.1 ((lcm_gt _ _).mp c2)
      refine wp_iconst d_mo_in_17 ⟨by decide, by decide⟩ ?_
      exact wp_zret d_mo_in_18 rfl ⟨Nat.le_of_ble_eq_true rfl, Nat.le_of_ble_eq_true rfl⟩ (by decide) ⟨_, rfl, rfl, rfl, h⟩
    · have h := h.2 ((lcm_le _ _).mp c2)
      refine wp_iconst d_mo_in_13 ⟨by decide, by decide⟩ ?_
      refine wp_goto 18 d_mo_in_14 (by decide) ?_
      exact wp_zret d_mo_in_18 rfl ⟨Nat.le_of_ble_eq_true rfl, Nat.le_of_ble_eq_true rfl⟩ (by decide) ⟨_, rfl, rfl, rfl, h⟩
set_option maxHeartbeats 8000000 in
theorem e_mo_no {G : GT} {M : MT} {P : Int → MT → Prop} (v0 : Int)
    (h : P (w64 ((-9223372036854775808) - v0)) M) : ClL G J_mo_no M [pI v0] P := by
  show Wp G J_mo_no 0 0 0 [(0, pI v0)] [] NN RF M _
  refine wp_ldc2 lk_mo_77 d_mo_no_0 ⟨by decide, by decide⟩ ?_
  refine wp_iload_n d_mo_no_3 rfl 0 rfl ?_
  refine wp_i2l d_mo_no_4 ?_
  refine wp_lsub d_mo_no_5 ?_
  exact wp_lret d_mo_no_6 rfl ⟨Nat.le_of_ble_eq_true rfl, Nat.le_of_ble_eq_true rfl⟩ ⟨_, rfl, rfl, rfl, h⟩
set_option maxHeartbeats 8000000 in
theorem e_mo_isTwo {G : GT} {M : MT} {P : Int → MT → Prop} (v0 : Int)
    (h : ClI G J_mo_in M [pL v0, pL 0, pL 1] (fun x1 M1 => ((x1 = 0 ∨ x1 = 1) ∧ (P x1 M1)))) : ClI G J_mo_isTwo M [pI v0] P := by
  show Wp G J_mo_isTwo 0 0 0 [(0, pI v0)] [] NN RF M _
  refine wp_iload_n d_mo_isTwo_0 rfl 0 rfl ?_
  refine wp_i2l d_mo_isTwo_1 ?_
  refine wp_lconst (v := 0) d_mo_isTwo_2 rfl ?_
  refine wp_lconst (v := 1) d_mo_isTwo_3 rfl ?_
  refine wp_callS [pL _, pL _, pL _] d_mo_isTwo_4 jd_mo_in lk_mo_79 rfl (Nat.le_of_ble_eq_true rfl) rfl ?_
  refine clI_k h ?_
  intro x1 M1 h
  obtain ⟨g2, h⟩ := h
  exact wp_zret d_mo_isTwo_7 rfl ⟨Nat.le_of_ble_eq_true rfl, Nat.le_of_ble_eq_true rfl⟩ g2 ⟨_, rfl, rfl, rfl, h⟩
set_option maxHeartbeats 8000000 in
theorem e_mo_isIn {G : GT} {M : MT} {P : Int → MT → Prop} (v0 : Int) (v1 : Int)
    (h : (¬ (iand (ishr v0 v1) 1) = 1 → P 0 M) ∧ ((iand (ishr v0 v1) 1) = 1 → P 1 M)) : ClI G J_mo_isIn M [pI v0, pI v1] P := by
  show Wp G J_mo_isIn 0 0 0 [(0, pI v0), (1, pI v1)] [] NN RF M _
  refine wp_iload_n d_mo_isIn_0 rfl 0 rfl ?_
  refine wp_iload_n d_mo_isIn_1 rfl 1 rfl ?_
  refine wp_ishr d_mo_isIn_2 ?_
  refine wp_iconst d_mo_isIn_3 ⟨by decide, by decide⟩ ?_
  refine wp_iand d_mo_isIn_4 ?_
  refine wp_iconst d_mo_isIn_5 ⟨by decide, by decide⟩ ?_
  refine wp_icmp_ne 13 d_mo_isIn_6 (by decide) (fun c1 => ?_) (fun c1 => ?_)
  · have h := h.1 c1
    refine wp_iconst d_mo_isIn_13 ⟨by decide, by decide⟩ ?_
    exact wp_zret d_mo_isIn_14 rfl ⟨Nat.le_of_ble_eq_true rfl, Nat.le_of_ble_eq_true rfl⟩ (by decide) ⟨_, rfl, rfl, rfl, h⟩
  · have h := h.2 c1
    refine wp_iconst d_mo_isIn_9 ⟨by decide, by decide⟩ ?_
    refine wp_goto 14 d_mo_isIn_10 (by decide) ?_
    exact wp_zret d_mo_isIn_14 rfl ⟨Nat.le_of_ble_eq_true rfl, Nat.le_of_ble_eq_true rfl⟩ (by decide) ⟨_, rfl, rfl, rfl, h⟩
set_option maxHeartbeats 8000000 in
theorem e_mo_ones {G : GT} {M : MT} {P : Int → MT → Prop} (v0 : Int)
    (h : WpI G J_mo_ones 4 [(1, pI 0), (2, pI v0)] [] M P) : ClI G J_mo_ones M [pI v0] P := by
  show Wp G J_mo_ones 0 0 0 [(0, pI v0)] [] NN RF M _
  refine wp_iconst d_mo_ones_0 ⟨by decide, by decide⟩ ?_
  refine wp_istore_n (L2 := [(0, pI _), (1, pI _)]) d_mo_ones_1 rfl (Nat.le_of_ble_eq_true rfl) [1, 0] rfl ?_
  refine wp_iload_n d_mo_ones_2 rfl 0 rfl ?_
  refine wp_istore_n (L2 := [(0, pI _), (1, pI _), (2, pI _)]) d_mo_ones_3 rfl (Nat.le_of_ble_eq_true rfl) [1, 2, 0] rfl ?_
  refine wp_sub (L2 := [(1, pI _), (2, pI _)]) [1, 2] rfl ?_
  exact h
set_option maxHeartbeats 8000000 in
theorem b_mo_ones_4 {G : GT} {M : MT} {P : Int → MT → Prop} (v1 : Int) (v2 : Int)
    (h : (v2 = 0 → P v1 M) ∧ (¬ v2 = 0 → WpI G J_mo_ones 4 [(1, pI (w32 (v1 + 1))), (2, pI (iand v2 (w32 (v2 - 1))))] [] M P)) : WpI G J_mo_ones 4 [(1, pI v1), (2, pI v2)] [] M P := by
  show Wp G J_mo_ones 0 0 4 [(1, pI v1), (2, pI v2)] [] NN RF M _
  refine wp_iload_n d_mo_ones_4 rfl 1 rfl ?_
  refine wp_if_eq 20 d_mo_ones_5 (by decide) (fun c1 => ?_) (fun c1 => ?_)
  · have h := h.1 c1
    refine wp_iload_n d_mo_ones_20 rfl 0 rfl ?_
    exact wp_iret d_mo_ones_21 rfl ⟨Nat.le_of_ble_eq_true rfl, Nat.le_of_ble_eq_true rfl⟩ ⟨_, rfl, rfl, rfl, h⟩
  · have h := h.2 c1
    refine wp_iinc (L2 := [(1, pI _), (2, pI _)]) d_mo_ones_8 0 rfl (Nat.le_of_ble_eq_true rfl) [0, 1] rfl ?_
    refine wp_iload_n d_mo_ones_11 rfl 1 rfl ?_
    refine wp_iload_n d_mo_ones_12 rfl 1 rfl ?_
    refine wp_iconst d_mo_ones_13 ⟨by decide, by decide⟩ ?_
    refine wp_isub d_mo_ones_14 ?_
    refine wp_iand d_mo_ones_15 ?_
    refine wp_istore_n (L2 := [(1, pI _), (2, pI _)]) d_mo_ones_16 rfl (Nat.le_of_ble_eq_true rfl) [1, 0] rfl ?_
    refine wp_goto 4 d_mo_ones_17 (by decide) ?_
    exact h
set_option maxHeartbeats 8000000 in
theorem e_mo_lesser {G : GT} {M : MT} {P : Int → MT → Prop} (v0 : Int) (v1 : Int)
    (h : (v1 ≤ v0 → P v1 M) ∧ (v0 < v1 → P v0 M)) : ClI G J_mo_lesser M [pI v0, pI v1] P := by
  show Wp G J_mo_lesser 0 0 0 [(0, pI v0), (1, pI v1)] [] NN RF M _
  refine wp_iload_n d_mo_lesser_0 rfl 0 rfl ?_
  refine wp_iload_n d_mo_lesser_1 rfl 1 rfl ?_
  refine wp_icmp_ge 9 d_mo_lesser_2 (by decide) (fun c1 => ?_) (fun c1 => ?_)
  · have h := h.1 c1
    refine wp_iload_n d_mo_lesser_9 rfl 1 rfl ?_
    exact wp_iret d_mo_lesser_10 rfl ⟨Nat.le_of_ble_eq_true rfl, Nat.le_of_ble_eq_true rfl⟩ ⟨_, rfl, rfl, rfl, h⟩
  · have h := h.2 c1
    refine wp_iload_n d_mo_lesser_5 rfl 0 rfl ?_
    refine wp_goto 10 d_mo_lesser_6 (by decide) ?_
    exact wp_iret d_mo_lesser_10 rfl ⟨Nat.le_of_ble_eq_true rfl, Nat.le_of_ble_eq_true rfl⟩ ⟨_, rfl, rfl, rfl, h⟩
set_option maxHeartbeats 8000000 in
theorem e_mo_greater {G : GT} {M : MT} {P : Int → MT → Prop} (v0 : Int) (v1 : Int)
    (h : (v0 ≤ v1 → P v1 M) ∧ (v1 < v0 → P v0 M)) : ClI G J_mo_greater M [pI v0, pI v1] P := by
  show Wp G J_mo_greater 0 0 0 [(0, pI v0), (1, pI v1)] [] NN RF M _
  refine wp_iload_n d_mo_greater_0 rfl 0 rfl ?_
  refine wp_iload_n d_mo_greater_1 rfl 1 rfl ?_
  refine wp_icmp_le 9 d_mo_greater_2 (by decide) (fun c1 => ?_) (fun c1 => ?_)
  · have h := h.1 c1
    refine wp_iload_n d_mo_greater_9 rfl 1 rfl ?_
    exact wp_iret d_mo_greater_10 rfl ⟨Nat.le_of_ble_eq_true rfl, Nat.le_of_ble_eq_true rfl⟩ ⟨_, rfl, rfl, rfl, h⟩
  · have h := h.2 c1
    refine wp_iload_n d_mo_greater_5 rfl 0 rfl ?_
    refine wp_goto 10 d_mo_greater_6 (by decide) ?_
    exact wp_iret d_mo_greater_10 rfl ⟨Nat.le_of_ble_eq_true rfl, Nat.le_of_ble_eq_true rfl⟩ ⟨_, rfl, rfl, rfl, h⟩
set_option maxHeartbeats 8000000 in
theorem e_mo_part {G : GT} {M : MT} {P : Int → MT → Prop} (v0 : Int) (v2 : Int) (v4 : Int)
    (h : WpL G J_mo_part 6 [(0, pL v0), (2, pL v2), (4, pI v4), (5, pL v0), (7, pL v2)] [] M P) : ClL G J_mo_part M [pL v0, pL v2, pI v4] P := by
  show Wp G J_mo_part 0 0 0 [(0, pL v0), (2, pL v2), (4, pI v4)] [] NN RF M _
  refine wp_lload_n d_mo_part_0 rfl 0 rfl ?_
  refine wp_lstore (L2 := [(0, pL _), (2, pL _), (4, pI _), (5, pL _)]) d_mo_part_1 (Nat.le_of_ble_eq_true rfl) [1, 2, 3, 0] rfl ?_
  refine wp_lload_n d_mo_part_3 rfl 1 rfl ?_
  refine wp_lstore (L2 := [(0, pL _), (2, pL _), (4, pI _), (5, pL _), (7, pL _)]) d_mo_part_4 (Nat.le_of_ble_eq_true rfl) [1, 2, 3, 4, 0] rfl ?_
  exact h
set_option maxHeartbeats 8000000 in
theorem b_mo_part_6 {G : GT} {M : MT} {P : Int → MT → Prop} (v0 : Int) (v2 : Int) (v4 : Int) (v5 : Int) (v7 : Int)
    (h : (v7 = 0 → (¬ v4 = 0 → ¬ v5 = 0 ∧ (P (w64 (Int.tdiv v2 v5)) M)) ∧ (v4 = 0 → ¬ v5 = 0 ∧ (P (w64 (Int.tdiv v0 v5)) M))) ∧ (¬ v7 = 0 → ¬ v7 = 0 ∧ (WpL G J_mo_part 6 [(0, pL v0), (2, pL v2), (4, pI v4), (5, pL v7), (7, pL (w64 (Int.tmod v5 v7)))] [] M P))) : WpL G J_mo_part 6 [(0, pL v0), (2, pL v2), (4, pI v4), (5, pL v5), (7, pL v7)] [] M P := by
  show Wp G J_mo_part 0 0 6 [(0, pL v0), (2, pL v2), (4, pI v4), (5, pL v5), (7, pL v7)] [] NN RF M _
  refine wp_lload d_mo_part_6 4 rfl ?_
  refine wp_lconst (v := 0) d_mo_part_8 rfl ?_
  refine wp_lcmp d_mo_part_9 ?_
  refine wp_if_eq 31 d_mo_part_10 (by decide) (fun c1 => ?_) (fun c1 => ?_)
  · have h := h.1 ((lcm_eq _ _).mp c1)
    refine wp_iload d_mo_part_31 2 rfl ?_
    refine wp_if_ne 40 d_mo_part_33 (by decide) (fun c2 => ?_) (fun c2 => ?_)
    · have h := h.1 c2
      refine wp_lload_n d_mo_part_40 rfl 1 rfl ?_
      refine wp_lload d_mo_part_41 3 rfl ?_
      obtain ⟨g3, h⟩ := h
      refine wp_ldiv d_mo_part_43 g3 ?_
      exact wp_lret d_mo_part_44 rfl ⟨Nat.le_of_ble_eq_true rfl, Nat.le_of_ble_eq_true rfl⟩ ⟨_, rfl, rfl, rfl, h⟩
    · have h := h.2 c2
      refine wp_lload_n d_mo_part_36 rfl 0 rfl ?_
      refine wp_goto 41 d_mo_part_37 (by decide) ?_
      refine wp_lload d_mo_part_41 3 rfl ?_
      obtain ⟨g3, h⟩ := h
      refine wp_ldiv d_mo_part_43 g3 ?_
      exact wp_lret d_mo_part_44 rfl ⟨Nat.le_of_ble_eq_true rfl, Nat.le_of_ble_eq_true rfl⟩ ⟨_, rfl, rfl, rfl, h⟩
  · have h := h.2 (fun e => c1 ((lcm_eq _ _).mpr e))
    refine wp_lload d_mo_part_13 3 rfl ?_
    refine wp_lload d_mo_part_15 4 rfl ?_
    obtain ⟨g2, h⟩ := h
    refine wp_lrem d_mo_part_17 g2 ?_
    refine wp_lstore (L2 := [(0, pL _), (2, pL _), (4, pI _), (5, pL _), (7, pL _), (9, pL _)]) d_mo_part_18 (Nat.le_of_ble_eq_true rfl) [1, 2, 3, 4, 5, 0] rfl ?_
    refine wp_lload d_mo_part_20 4 rfl ?_
    refine wp_lstore (L2 := [(0, pL _), (2, pL _), (4, pI _), (5, pL _), (7, pL _), (9, pL _)]) d_mo_part_22 (Nat.le_of_ble_eq_true rfl) [1, 2, 3, 0, 4, 5] rfl ?_
    refine wp_lload d_mo_part_24 5 rfl ?_
    refine wp_lstore (L2 := [(0, pL _), (2, pL _), (4, pI _), (5, pL _), (7, pL _), (9, pL _)]) d_mo_part_26 (Nat.le_of_ble_eq_true rfl) [1, 2, 3, 4, 0, 5] rfl ?_
    refine wp_goto 6 d_mo_part_28 (by decide) ?_
    refine wp_sub (L2 := [(0, pL _), (2, pL _), (4, pI _), (5, pL _), (7, pL _)]) [0, 1, 2, 3, 4] rfl ?_
    exact h
set_option maxHeartbeats 8000000 in
theorem e_mo_finds {G : GT} {M : MT} {P : Int → MT → Prop} (v1 : Int)
    (h : ∀ M1 : MT, M1 = mu M 101 4 v1 → (P (w32 ((-10) - v1)) M1)) : ClI G J_mo_finds M [pR 101, pI v1] P := by
  show Wp G J_mo_finds 0 0 0 [(0, pR 101), (1, pI v1)] [] NN RF M _
  refine wp_aload_n d_mo_finds_0 rfl 0 rfl ?_
  refine wp_iload_n d_mo_finds_1 rfl 1 rfl ?_
  refine wp_puti d_mo_finds_2 4 s_101 rfl (Nat.le_of_ble_eq_true rfl) (Nat.le_of_ble_eq_true rfl) (Or.inl rfl) rfl lk_mo_83 ?_
  have h := h _ rfl
  refine wp_bipush d_mo_finds_5 ⟨by decide, by decide⟩ (by decide) ?_
  refine wp_iload_n d_mo_finds_7 rfl 1 rfl ?_
  refine wp_isub d_mo_finds_8 ?_
  exact wp_iret d_mo_finds_9 rfl ⟨Nat.le_of_ble_eq_true rfl, Nat.le_of_ble_eq_true rfl⟩ ⟨_, rfl, rfl, rfl, h⟩
set_option maxHeartbeats 8000000 in
theorem e_mo_isSheet {G : GT} {M : MT} {P : Int → MT → Prop} (v0 : Int)
    (h : ClI G J_mo_in M [pL v0, pL 0, pL 3] (fun x1 M1 => ((x1 = 0 ∨ x1 = 1) ∧ (P x1 M1)))) : ClI G J_mo_isSheet M [pI v0] P := by
  show Wp G J_mo_isSheet 0 0 0 [(0, pI v0)] [] NN RF M _
  refine wp_iload_n d_mo_isSheet_0 rfl 0 rfl ?_
  refine wp_i2l d_mo_isSheet_1 ?_
  refine wp_lconst (v := 0) d_mo_isSheet_2 rfl ?_
  refine wp_ldc2 lk_mo_86 d_mo_isSheet_3 ⟨by decide, by decide⟩ ?_
  refine wp_callS [pL _, pL _, pL _] d_mo_isSheet_6 jd_mo_in lk_mo_79 rfl (Nat.le_of_ble_eq_true rfl) rfl ?_
  refine clI_k h ?_
  intro x1 M1 h
  obtain ⟨g2, h⟩ := h
  exact wp_zret d_mo_isSheet_9 rfl ⟨Nat.le_of_ble_eq_true rfl, Nat.le_of_ble_eq_true rfl⟩ g2 ⟨_, rfl, rfl, rfl, h⟩
set_option maxHeartbeats 8000000 in
theorem e_mo_sheet {G : GT} {M : MT} {P : Int → MT → Prop} (v1 : Int) (v2 : Int) (v3 : Int)
    (h : ClI G J_mo_isSheet M [pI v1] (fun x1 M1 => ((x1 = 0 → P (-2) M1) ∧ (¬ x1 = 0 → ClI G J_mo_in M1 [pL v2, pL 0, pL 2] (fun x3 M2 => ((x3 = 0 → P (-2) M2) ∧ (¬ x3 = 0 → (v3 ≤ 60 → (0 ≤ v3 → (0 ≤ v1 ∧ v1 < 4) ∧ (∀ M3 : MT, M3 = mu M2 102 (v1.toNat) v2 → ((0 ≤ v1 ∧ v1 < 4) ∧ (∀ M4 : MT, M4 = mu M3 103 (v1.toNat) v3 → (WpI G J_mo_sheet 55 [(0, pR 101), (1, pI v1), (3, pI v3), (4, pI 0)] [] M4 P))))) ∧ (v3 < 0 → ClI G J_mo_finds M2 [pR 101, pI 5] (fun x7 M3 => (P x7 M3)))) ∧ (60 < v3 → P (-2) M2)))))))) : ClI G J_mo_sheet M [pR 101, pI v1, pI v2, pI v3] P := by
  show Wp G J_mo_sheet 0 0 0 [(0, pR 101), (1, pI v1), (2, pI v2), (3, pI v3)] [] NN RF M _
  refine wp_iload_n d_mo_sheet_0 rfl 1 rfl ?_
  refine wp_callS [pI _] d_mo_sheet_1 jd_mo_isSheet lk_mo_88 rfl (Nat.le_of_ble_eq_true rfl) rfl ?_
  refine clI_k h ?_
  intro x1 M1 h
  refine wp_if_eq 25 d_mo_sheet_4 (by decide) (fun c2 => ?_) (fun c2 => ?_)
  · have h := h.1 c2
    refine wp_bipush d_mo_sheet_25 ⟨by decide, by decide⟩ (by decide) ?_
    exact wp_iret d_mo_sheet_27 rfl ⟨Nat.le_of_ble_eq_true rfl, Nat.le_of_ble_eq_true rfl⟩ ⟨_, rfl, rfl, rfl, h⟩
  · have h := h.2 c2
    refine wp_iload_n d_mo_sheet_7 rfl 2 rfl ?_
    refine wp_i2l d_mo_sheet_8 ?_
    refine wp_lconst (v := 0) d_mo_sheet_9 rfl ?_
    refine wp_ldc2 lk_mo_92 d_mo_sheet_10 ⟨by decide, by decide⟩ ?_
    refine wp_callS [pL _, pL _, pL _] d_mo_sheet_13 jd_mo_in lk_mo_79 rfl (Nat.le_of_ble_eq_true rfl) rfl ?_
    refine clI_k h ?_
    intro x3 M2 h
    refine wp_if_eq 25 d_mo_sheet_16 (by decide) (fun c4 => ?_) (fun c4 => ?_)
    · have h := h.1 c4
      refine wp_bipush d_mo_sheet_25 ⟨by decide, by decide⟩ (by decide) ?_
      exact wp_iret d_mo_sheet_27 rfl ⟨Nat.le_of_ble_eq_true rfl, Nat.le_of_ble_eq_true rfl⟩ ⟨_, rfl, rfl, rfl, h⟩
    · have h := h.2 c4
      refine wp_iload_n d_mo_sheet_19 rfl 3 rfl ?_
      refine wp_bipush d_mo_sheet_20 ⟨by decide, by decide⟩ (by decide) ?_
      refine wp_icmp_le 28 d_mo_sheet_22 (by decide) (fun c5 => ?_) (fun c5 => ?_)
      · have h := h.1 c5
        refine wp_iload_n d_mo_sheet_28 rfl 3 rfl ?_
        refine wp_if_ge 38 d_mo_sheet_29 (by decide) (fun c6 => ?_) (fun c6 => ?_)
        · have h := h.1 c6
          refine wp_aload_n d_mo_sheet_38 rfl 0 rfl ?_
          refine wp_getr d_mo_sheet_39 0 s_101 rfl (Nat.le_of_ble_eq_true rfl) (Nat.le_of_ble_eq_true rfl) rfl rfl lk_mo_7 ?_
          refine wp_iload_n d_mo_sheet_42 rfl 1 rfl ?_
          refine wp_iload_n d_mo_sheet_43 rfl 2 rfl ?_
          obtain ⟨⟨a7, b7⟩, h⟩ := h
          refine wp_iast d_mo_sheet_44 s_102 (Nat.le_of_ble_eq_true rfl) a7 b7 ?_
          have h := h _ rfl
          refine wp_aload_n d_mo_sheet_45 rfl 0 rfl ?_
          refine wp_getr d_mo_sheet_46 1 s_101 rfl (Nat.le_of_ble_eq_true rfl) (Nat.le_of_ble_eq_true rfl) rfl rfl lk_mo_13 ?_
          refine wp_iload_n d_mo_sheet_49 rfl 1 rfl ?_
          refine wp_iload_n d_mo_sheet_50 rfl 3 rfl ?_
          obtain ⟨⟨a8, b8⟩, h⟩ := h
          refine wp_iast d_mo_sheet_51 s_103 (Nat.le_of_ble_eq_true rfl) a8 b8 ?_
          have h := h _ rfl
          refine wp_iconst d_mo_sheet_52 ⟨by decide, by decide⟩ ?_
          refine wp_istore (L2 := [(0, pR 101), (1, pI _), (2, pI _), (3, pI _), (4, pI _)]) d_mo_sheet_53 (Nat.le_of_ble_eq_true rfl) [1, 2, 3, 4, 0] rfl ?_
          refine wp_sub (L2 := [(0, pR 101), (1, pI _), (3, pI _), (4, pI _)]) [0, 1, 3, 4] rfl ?_
          exact h
        · have h := h.2 c6
          refine wp_aload_n d_mo_sheet_32 rfl 0 rfl ?_
          refine wp_iconst d_mo_sheet_33 ⟨by decide, by decide⟩ ?_
          refine wp_callV [pI _] _ d_mo_sheet_34 jd_mo_finds lk_mo_94 rfl s_101 rfl (Nat.le_of_ble_eq_true rfl) (Nat.le_of_ble_eq_true rfl) rfl ?_
          refine clI_k h ?_
          intro x7 M3 h
          exact wp_iret d_mo_sheet_37 rfl ⟨Nat.le_of_ble_eq_true rfl, Nat.le_of_ble_eq_true rfl⟩ ⟨_, rfl, rfl, rfl, h⟩
      · have h := h.2 c5
        refine wp_bipush d_mo_sheet_25 ⟨by decide, by decide⟩ (by decide) ?_
        exact wp_iret d_mo_sheet_27 rfl ⟨Nat.le_of_ble_eq_true rfl, Nat.le_of_ble_eq_true rfl⟩ ⟨_, rfl, rfl, rfl, h⟩
set_option maxHeartbeats 8000000 in
theorem b_mo_sheet_55 {G : GT} {M : MT} {P : Int → MT → Prop} (v1 : Int) (v3 : Int) (v4 : Int)
    (h : (v3 ≤ v4 → P v3 M) ∧ (v4 < v3 → (0 ≤ (w32 ((w32 (60 * v1)) + v4)) ∧ (w32 ((w32 (60 * v1)) + v4)) < 240) ∧ (∀ M1 : MT, M1 = mu M 104 ((w32 ((w32 (60 * v1)) + v4)).toNat) 0 → (WpI G J_mo_sheet 55 [(0, pR 101), (1, pI v1), (3, pI v3), (4, pI (w32 (v4 + 1)))] [] M1 P)))) : WpI G J_mo_sheet 55 [(0, pR 101), (1, pI v1), (3, pI v3), (4, pI v4)] [] M P := by
  show Wp G J_mo_sheet 0 0 55 [(0, pR 101), (1, pI v1), (3, pI v3), (4, pI v4)] [] NN RF M _
  refine wp_iload d_mo_sheet_55 3 rfl ?_
  refine wp_iload_n d_mo_sheet_57 rfl 2 rfl ?_
  refine wp_icmp_ge 80 d_mo_sheet_58 (by decide) (fun c1 => ?_) (fun c1 => ?_)
  · have h := h.1 c1
    refine wp_iload_n d_mo_sheet_80 rfl 2 rfl ?_
    exact wp_iret d_mo_sheet_81 rfl ⟨Nat.le_of_ble_eq_true rfl, Nat.le_of_ble_eq_true rfl⟩ ⟨_, rfl, rfl, rfl, h⟩
  · have h := h.2 c1
    refine wp_aload_n d_mo_sheet_61 rfl 0 rfl ?_
    refine wp_getr d_mo_sheet_62 2 s_101 rfl (Nat.le_of_ble_eq_true rfl) (Nat.le_of_ble_eq_true rfl) rfl rfl lk_mo_16 ?_
    refine wp_bipush d_mo_sheet_65 ⟨by decide, by decide⟩ (by decide) ?_
    refine wp_iload_n d_mo_sheet_67 rfl 1 rfl ?_
    refine wp_imul d_mo_sheet_68 ?_
    refine wp_iload d_mo_sheet_69 3 rfl ?_
    refine wp_iadd d_mo_sheet_71 ?_
    refine wp_iconst d_mo_sheet_72 ⟨by decide, by decide⟩ ?_
    obtain ⟨⟨a2, b2⟩, h⟩ := h
    refine wp_iast d_mo_sheet_73 s_104 (Nat.le_of_ble_eq_true rfl) a2 b2 ?_
    have h := h _ rfl
    refine wp_iinc (L2 := [(0, pR 101), (1, pI _), (3, pI _), (4, pI _)]) d_mo_sheet_74 3 rfl (Nat.le_of_ble_eq_true rfl) [1, 2, 3, 0] rfl ?_
    refine wp_goto 55 d_mo_sheet_77 (by decide) ?_
    exact h
set_option maxHeartbeats 8000000 in
theorem e_mo_lose {G : GT} {M : MT} {P : Int → MT → Prop} (v1 : Int)
    (h : ClI G J_mo_isSheet M [pI v1] (fun x1 M1 => ((¬ x1 = 0 → (0 ≤ v1 ∧ v1 < 4) ∧ ((0 ≤ (M1 102 (v1.toNat)) → (0 ≤ v1 ∧ v1 < 4) ∧ (∀ M2 : MT, M2 = mu M1 102 (v1.toNat) (-1) → ((0 ≤ v1 ∧ v1 < 4) ∧ (P (M2 103 (v1.toNat)) M2)))) ∧ ((M1 102 (v1.toNat)) < 0 → ClI G J_mo_finds M1 [pR 101, pI 1] (fun x5 M2 => (P x5 M2))))) ∧ (x1 = 0 → P (-2) M1)))) : ClI G J_mo_lose M [pR 101, pI v1] P := by
  show Wp G J_mo_lose 0 0 0 [(0, pR 101), (1, pI v1)] [] NN RF M _
  refine wp_iload_n d_mo_lose_0 rfl 1 rfl ?_
  refine wp_callS [pI _] d_mo_lose_1 jd_mo_isSheet lk_mo_88 rfl (Nat.le_of_ble_eq_true rfl) rfl ?_
  refine clI_k h ?_
  intro x1 M1 h
  refine wp_if_ne 10 d_mo_lose_4 (by decide) (fun c2 => ?_) (fun c2 => ?_)
  · have h := h.1 c2
    refine wp_aload_n d_mo_lose_10 rfl 0 rfl ?_
    refine wp_getr d_mo_lose_11 0 s_101 rfl (Nat.le_of_ble_eq_true rfl) (Nat.le_of_ble_eq_true rfl) rfl rfl lk_mo_7 ?_
    refine wp_iload_n d_mo_lose_14 rfl 1 rfl ?_
    obtain ⟨⟨a3, b3⟩, h⟩ := h
    refine wp_iald d_mo_lose_15 s_102 (Nat.le_of_ble_eq_true rfl) a3 b3 ?_
    refine wp_if_ge 25 d_mo_lose_16 (by decide) (fun c4 => ?_) (fun c4 => ?_)
    · have h := h.1 c4
      refine wp_aload_n d_mo_lose_25 rfl 0 rfl ?_
      refine wp_getr d_mo_lose_26 0 s_101 rfl (Nat.le_of_ble_eq_true rfl) (Nat.le_of_ble_eq_true rfl) rfl rfl lk_mo_7 ?_
      refine wp_iload_n d_mo_lose_29 rfl 1 rfl ?_
      refine wp_iconst d_mo_lose_30 ⟨by decide, by decide⟩ ?_
      obtain ⟨⟨a5, b5⟩, h⟩ := h
      refine wp_iast d_mo_lose_31 s_102 (Nat.le_of_ble_eq_true rfl) a5 b5 ?_
      have h := h _ rfl
      refine wp_aload_n d_mo_lose_32 rfl 0 rfl ?_
      refine wp_getr d_mo_lose_33 1 s_101 rfl (Nat.le_of_ble_eq_true rfl) (Nat.le_of_ble_eq_true rfl) rfl rfl lk_mo_13 ?_
      refine wp_iload_n d_mo_lose_36 rfl 1 rfl ?_
      obtain ⟨⟨a6, b6⟩, h⟩ := h
      refine wp_iald d_mo_lose_37 s_103 (Nat.le_of_ble_eq_true rfl) a6 b6 ?_
      exact wp_iret d_mo_lose_38 rfl ⟨Nat.le_of_ble_eq_true rfl, Nat.le_of_ble_eq_true rfl⟩ ⟨_, rfl, rfl, rfl, h⟩
    · have h := h.2 c4
      refine wp_aload_n d_mo_lose_19 rfl 0 rfl ?_
      refine wp_iconst d_mo_lose_20 ⟨by decide, by decide⟩ ?_
      refine wp_callV [pI _] _ d_mo_lose_21 jd_mo_finds lk_mo_94 rfl s_101 rfl (Nat.le_of_ble_eq_true rfl) (Nat.le_of_ble_eq_true rfl) rfl ?_
      refine clI_k h ?_
      intro x5 M2 h
      exact wp_iret d_mo_lose_24 rfl ⟨Nat.le_of_ble_eq_true rfl, Nat.le_of_ble_eq_true rfl⟩ ⟨_, rfl, rfl, rfl, h⟩
  · have h := h.2 c2
    refine wp_bipush d_mo_lose_7 ⟨by decide, by decide⟩ (by decide) ?_
    exact wp_iret d_mo_lose_9 rfl ⟨Nat.le_of_ble_eq_true rfl, Nat.le_of_ble_eq_true rfl⟩ ⟨_, rfl, rfl, rfl, h⟩
set_option maxHeartbeats 8000000 in
theorem e_mo_lacks {G : GT} {M : MT} {P : Int → MT → Prop} (v1 : Int) (v2 : Int) (v3 : Int)
    (h : (0 ≤ v1 ∧ v1 < 4) ∧ ((0 ≤ (M 102 (v1.toNat)) → (0 ≤ v1 ∧ v1 < 4) ∧ (((M 102 (v1.toNat)) = v2 → (0 ≤ v1 ∧ v1 < 4) ∧ (ClI G J_mo_in M [pL v3, pL 0, pL (w32 ((M 103 (v1.toNat)) - 1))] (fun x6 M1 => ((x6 = 0 → ClI G J_mo_finds M1 [pR 101, pI 2] (fun x8 M2 => (P x8 M2))) ∧ (¬ x6 = 0 → P 0 M1))))) ∧ (¬ (M 102 (v1.toNat)) = v2 → ClI G J_mo_finds M [pR 101, pI 3] (fun x5 M1 => (P x5 M1))))) ∧ ((M 102 (v1.toNat)) < 0 → ClI G J_mo_finds M [pR 101, pI 1] (fun x3 M1 => (P x3 M1))))) : ClI G J_mo_lacks M [pR 101, pI v1, pI v2, pI v3] P := by
  show Wp G J_mo_lacks 0 0 0 [(0, pR 101), (1, pI v1), (2, pI v2), (3, pI v3)] [] NN RF M _
  refine wp_aload_n d_mo_lacks_0 rfl 0 rfl ?_
  refine wp_getr d_mo_lacks_1 0 s_101 rfl (Nat.le_of_ble_eq_true rfl) (Nat.le_of_ble_eq_true rfl) rfl rfl lk_mo_7 ?_
  refine wp_iload_n d_mo_lacks_4 rfl 1 rfl ?_
  obtain ⟨⟨a1, b1⟩, h⟩ := h
  refine wp_iald d_mo_lacks_5 s_102 (Nat.le_of_ble_eq_true rfl) a1 b1 ?_
  refine wp_if_ge 15 d_mo_lacks_6 (by decide) (fun c2 => ?_) (fun c2 => ?_)
  · have h := h.1 c2
    refine wp_aload_n d_mo_lacks_15 rfl 0 rfl ?_
    refine wp_getr d_mo_lacks_16 0 s_101 rfl (Nat.le_of_ble_eq_true rfl) (Nat.le_of_ble_eq_true rfl) rfl rfl lk_mo_7 ?_
    refine wp_iload_n d_mo_lacks_19 rfl 1 rfl ?_
    obtain ⟨⟨a3, b3⟩, h⟩ := h
    refine wp_iald d_mo_lacks_20 s_102 (Nat.le_of_ble_eq_true rfl) a3 b3 ?_
    refine wp_iload_n d_mo_lacks_21 rfl 2 rfl ?_
    refine wp_icmp_eq 31 d_mo_lacks_22 (by decide) (fun c4 => ?_) (fun c4 => ?_)
    · have h := h.1 c4
      refine wp_iload_n d_mo_lacks_31 rfl 3 rfl ?_
      refine wp_i2l d_mo_lacks_32 ?_
      refine wp_lconst (v := 0) d_mo_lacks_33 rfl ?_
      refine wp_aload_n d_mo_lacks_34 rfl 0 rfl ?_
      refine wp_getr d_mo_lacks_35 1 s_101 rfl (Nat.le_of_ble_eq_true rfl) (Nat.le_of_ble_eq_true rfl) rfl rfl lk_mo_13 ?_
      refine wp_iload_n d_mo_lacks_38 rfl 1 rfl ?_
      obtain ⟨⟨a5, b5⟩, h⟩ := h
      refine wp_iald d_mo_lacks_39 s_103 (Nat.le_of_ble_eq_true rfl) a5 b5 ?_
      refine wp_iconst d_mo_lacks_40 ⟨by decide, by decide⟩ ?_
      refine wp_isub d_mo_lacks_41 ?_
      refine wp_i2l d_mo_lacks_42 ?_
      refine wp_callS [pL _, pL _, pL _] d_mo_lacks_43 jd_mo_in lk_mo_79 rfl (Nat.le_of_ble_eq_true rfl) rfl ?_
      refine clI_k h ?_
      intro x6 M1 h
      refine wp_if_eq 53 d_mo_lacks_46 (by decide) (fun c7 => ?_) (fun c7 => ?_)
      · have h := h.1 c7
        refine wp_aload_n d_mo_lacks_53 rfl 0 rfl ?_
        refine wp_iconst d_mo_lacks_54 ⟨by decide, by decide⟩ ?_
        refine wp_callV [pI _] _ d_mo_lacks_55 jd_mo_finds lk_mo_94 rfl s_101 rfl (Nat.le_of_ble_eq_true rfl) (Nat.le_of_ble_eq_true rfl) rfl ?_
        refine clI_k h ?_
        intro x8 M2 h
        exact wp_iret d_mo_lacks_58 rfl ⟨Nat.le_of_ble_eq_true rfl, Nat.le_of_ble_eq_true rfl⟩ ⟨_, rfl, rfl, rfl, h⟩
      · have h := h.2 c7
        refine wp_iconst d_mo_lacks_49 ⟨by decide, by decide⟩ ?_
        refine wp_goto 58 d_mo_lacks_50 (by decide) ?_
        exact wp_iret d_mo_lacks_58 rfl ⟨Nat.le_of_ble_eq_true rfl, Nat.le_of_ble_eq_true rfl⟩ ⟨_, rfl, rfl, rfl, h⟩
    · have h := h.2 c4
      refine wp_aload_n d_mo_lacks_25 rfl 0 rfl ?_
      refine wp_iconst d_mo_lacks_26 ⟨by decide, by decide⟩ ?_
      refine wp_callV [pI _] _ d_mo_lacks_27 jd_mo_finds lk_mo_94 rfl s_101 rfl (Nat.le_of_ble_eq_true rfl) (Nat.le_of_ble_eq_true rfl) rfl ?_
      refine clI_k h ?_
      intro x5 M1 h
      exact wp_iret d_mo_lacks_30 rfl ⟨Nat.le_of_ble_eq_true rfl, Nat.le_of_ble_eq_true rfl⟩ ⟨_, rfl, rfl, rfl, h⟩
  · have h := h.2 c2
    refine wp_aload_n d_mo_lacks_9 rfl 0 rfl ?_
    refine wp_iconst d_mo_lacks_10 ⟨by decide, by decide⟩ ?_
    refine wp_callV [pI _] _ d_mo_lacks_11 jd_mo_finds lk_mo_94 rfl s_101 rfl (Nat.le_of_ble_eq_true rfl) (Nat.le_of_ble_eq_true rfl) rfl ?_
    refine clI_k h ?_
    intro x3 M1 h
    exact wp_iret d_mo_lacks_14 rfl ⟨Nat.le_of_ble_eq_true rfl, Nat.le_of_ble_eq_true rfl⟩ ⟨_, rfl, rfl, rfl, h⟩
set_option maxHeartbeats 8000000 in
theorem e_mo_cut {G : GT} {M : MT} {P : Int → MT → Prop} (v0 : Int) (v1 : Int)
    (h : (¬ v0 = 0 → (¬ v0 = 1 → P v1 M) ∧ (v0 = 1 → P (i2s v1) M)) ∧ (v0 = 0 → P (i2b v1) M)) : ClI G J_mo_cut M [pI v0, pI v1] P := by
  show Wp G J_mo_cut 0 0 0 [(0, pI v0), (1, pI v1)] [] NN RF M _
  refine wp_iload_n d_mo_cut_0 rfl 0 rfl ?_
  refine wp_if_ne 9 d_mo_cut_1 (by decide) (fun c1 => ?_) (fun c1 => ?_)
  · have h := h.1 c1
    refine wp_iload_n d_mo_cut_9 rfl 0 rfl ?_
    refine wp_iconst d_mo_cut_10 ⟨by decide, by decide⟩ ?_
    refine wp_icmp_ne 19 d_mo_cut_11 (by decide) (fun c2 => ?_) (fun c2 => ?_)
    · have h := h.1 c2
      refine wp_iload_n d_mo_cut_19 rfl 1 rfl ?_
      exact wp_iret d_mo_cut_20 rfl ⟨Nat.le_of_ble_eq_true rfl, Nat.le_of_ble_eq_true rfl⟩ ⟨_, rfl, rfl, rfl, h⟩
    · have h := h.2 c2
      refine wp_iload_n d_mo_cut_14 rfl 1 rfl ?_
      refine wp_i2s d_mo_cut_15 ?_
      refine wp_goto 20 d_mo_cut_16 (by decide) ?_
      exact wp_iret d_mo_cut_20 rfl ⟨Nat.le_of_ble_eq_true rfl, Nat.le_of_ble_eq_true rfl⟩ ⟨_, rfl, rfl, rfl, h⟩
  · have h := h.2 c1
    refine wp_iload_n d_mo_cut_4 rfl 1 rfl ?_
    refine wp_i2b d_mo_cut_5 ?_
    refine wp_goto 20 d_mo_cut_6 (by decide) ?_
    exact wp_iret d_mo_cut_20 rfl ⟨Nat.le_of_ble_eq_true rfl, Nat.le_of_ble_eq_true rfl⟩ ⟨_, rfl, rfl, rfl, h⟩
set_option maxHeartbeats 8000000 in
theorem e_mo_lay {G : GT} {M : MT} {P : Int → MT → Prop} (v1 : Int) (v2 : Int) (v3 : Int) (v4 : Int)
    (h : ClI G J_mo_isSheet M [pI v1] (fun x1 M1 => ((x1 = 0 → P (-2) M1) ∧ (¬ x1 = 0 → ClI G J_mo_in M1 [pL v2, pL 0, pL 2] (fun x3 M2 => ((¬ x3 = 0 → ClI G J_mo_lacks M2 [pR 101, pI v1, pI v2, pI v3] (fun x5 M3 => ((x5 = 0 → ClI G J_mo_cut M3 [pI v2, pI v4] (fun x7 M4 => ((0 ≤ (w32 ((w32 (60 * v1)) + v3)) ∧ (w32 ((w32 (60 * v1)) + v3)) < 240) ∧ (∀ M5 : MT, M5 = mu M4 104 ((w32 ((w32 (60 * v1)) + v3)).toNat) x7 → (P 1 M5))))) ∧ (¬ x5 = 0 → P x5 M3)))) ∧ (x3 = 0 → P (-2) M2))))))) : ClI G J_mo_lay M [pR 101, pI v1, pI v2, pI v3, pI v4] P := by
  show Wp G J_mo_lay 0 0 0 [(0, pR 101), (1, pI v1), (2, pI v2), (3, pI v3), (4, pI v4)] [] NN RF M _
  refine wp_iload_n d_mo_lay_0 rfl 1 rfl ?_
  refine wp_callS [pI _] d_mo_lay_1 jd_mo_isSheet lk_mo_88 rfl (Nat.le_of_ble_eq_true rfl) rfl ?_
  refine clI_k h ?_
  intro x1 M1 h
  refine wp_if_eq 19 d_mo_lay_4 (by decide) (fun c2 => ?_) (fun c2 => ?_)
  · have h := h.1 c2
    refine wp_bipush d_mo_lay_19 ⟨by decide, by decide⟩ (by decide) ?_
    exact wp_iret d_mo_lay_21 rfl ⟨Nat.le_of_ble_eq_true rfl, Nat.le_of_ble_eq_true rfl⟩ ⟨_, rfl, rfl, rfl, h⟩
  · have h := h.2 c2
    refine wp_iload_n d_mo_lay_7 rfl 2 rfl ?_
    refine wp_i2l d_mo_lay_8 ?_
    refine wp_lconst (v := 0) d_mo_lay_9 rfl ?_
    refine wp_ldc2 lk_mo_92 d_mo_lay_10 ⟨by decide, by decide⟩ ?_
    refine wp_callS [pL _, pL _, pL _] d_mo_lay_13 jd_mo_in lk_mo_79 rfl (Nat.le_of_ble_eq_true rfl) rfl ?_
    refine clI_k h ?_
    intro x3 M2 h
    refine wp_if_ne 22 d_mo_lay_16 (by decide) (fun c4 => ?_) (fun c4 => ?_)
    · have h := h.1 c4
      refine wp_aload_n d_mo_lay_22 rfl 0 rfl ?_
      refine wp_iload_n d_mo_lay_23 rfl 1 rfl ?_
      refine wp_iload_n d_mo_lay_24 rfl 2 rfl ?_
      refine wp_iload_n d_mo_lay_25 rfl 3 rfl ?_
      refine wp_callV [pI _, pI _, pI _] _ d_mo_lay_26 jd_mo_lacks lk_mo_98 rfl s_101 rfl (Nat.le_of_ble_eq_true rfl) (Nat.le_of_ble_eq_true rfl) rfl ?_
      refine clI_k h ?_
      intro x5 M3 h
      refine wp_istore (L2 := [(0, pR 101), (1, pI _), (2, pI _), (3, pI _), (4, pI _), (5, pI _)]) d_mo_lay_29 (Nat.le_of_ble_eq_true rfl) [1, 2, 3, 4, 5, 0] rfl ?_
      refine wp_iload d_mo_lay_31 5 rfl ?_
      refine wp_if_eq 39 d_mo_lay_33 (by decide) (fun c6 => ?_) (fun c6 => ?_)
      · have h := h.1 c6
        refine wp_aload_n d_mo_lay_39 rfl 0 rfl ?_
        refine wp_getr d_mo_lay_40 2 s_101 rfl (Nat.le_of_ble_eq_true rfl) (Nat.le_of_ble_eq_true rfl) rfl rfl lk_mo_16 ?_
        refine wp_bipush d_mo_lay_43 ⟨by decide, by decide⟩ (by decide) ?_
        refine wp_iload_n d_mo_lay_45 rfl 1 rfl ?_
        refine wp_imul d_mo_lay_46 ?_
        refine wp_iload_n d_mo_lay_47 rfl 3 rfl ?_
        refine wp_iadd d_mo_lay_48 ?_
        refine wp_iload_n d_mo_lay_49 rfl 2 rfl ?_
        refine wp_iload d_mo_lay_50 4 rfl ?_
        refine wp_callS [pI _, pI _] d_mo_lay_52 jd_mo_cut lk_mo_102 rfl (Nat.le_of_ble_eq_true rfl) rfl ?_
        refine clI_k h ?_
        intro x7 M4 h
        obtain ⟨⟨a8, b8⟩, h⟩ := h
        refine wp_iast d_mo_lay_55 s_104 (Nat.le_of_ble_eq_true rfl) a8 b8 ?_
        have h := h _ rfl
        refine wp_iconst d_mo_lay_56 ⟨by decide, by decide⟩ ?_
        exact wp_iret d_mo_lay_57 rfl ⟨Nat.le_of_ble_eq_true rfl, Nat.le_of_ble_eq_true rfl⟩ ⟨_, rfl, rfl, rfl, h⟩
      · have h := h.2 c6
        refine wp_iload d_mo_lay_36 5 rfl ?_
        exact wp_iret d_mo_lay_38 rfl ⟨Nat.le_of_ble_eq_true rfl, Nat.le_of_ble_eq_true rfl⟩ ⟨_, rfl, rfl, rfl, h⟩
    · have h := h.2 c4
      refine wp_bipush d_mo_lay_19 ⟨by decide, by decide⟩ (by decide) ?_
      exact wp_iret d_mo_lay_21 rfl ⟨Nat.le_of_ble_eq_true rfl, Nat.le_of_ble_eq_true rfl⟩ ⟨_, rfl, rfl, rfl, h⟩
set_option maxHeartbeats 8000000 in
theorem e_mo_get {G : GT} {M : MT} {P : Int → MT → Prop} (v1 : Int) (v2 : Int) (v3 : Int)
    (h : ClI G J_mo_isSheet M [pI v1] (fun x1 M1 => ((x1 = 0 → P (-2147483648) M1) ∧ (¬ x1 = 0 → ClI G J_mo_in M1 [pL v2, pL 0, pL 2] (fun x3 M2 => ((x3 = 0 → P (-2147483648) M2) ∧ (¬ x3 = 0 → ClI G J_mo_lacks M2 [pR 101, pI v1, pI v2, pI v3] (fun x5 M3 => ((x5 = 0 → (0 ≤ (w32 ((w32 (60 * v1)) + v3)) ∧ (w32 ((w32 (60 * v1)) + v3)) < 240) ∧ (P (M3 104 ((w32 ((w32 (60 * v1)) + v3)).toNat)) M3)) ∧ (¬ x5 = 0 → P (-2147483648) M3)))))))))) : ClI G J_mo_get M [pR 101, pI v1, pI v2, pI v3] P := by
  show Wp G J_mo_get 0 0 0 [(0, pR 101), (1, pI v1), (2, pI v2), (3, pI v3)] [] NN RF M _
  refine wp_iload_n d_mo_get_0 rfl 1 rfl ?_
  refine wp_callS [pI _] d_mo_get_1 jd_mo_isSheet lk_mo_88 rfl (Nat.le_of_ble_eq_true rfl) rfl ?_
  refine clI_k h ?_
  intro x1 M1 h
  refine wp_if_eq 29 d_mo_get_4 (by decide) (fun c2 => ?_) (fun c2 => ?_)
  · have h := h.1 c2
    refine wp_ldc lk_mo_106 d_mo_get_29 ⟨by decide, by decide⟩ ?_
    exact wp_iret d_mo_get_31 rfl ⟨Nat.le_of_ble_eq_true rfl, Nat.le_of_ble_eq_true rfl⟩ ⟨_, rfl, rfl, rfl, h⟩
  · have h := h.2 c2
    refine wp_iload_n d_mo_get_7 rfl 2 rfl ?_
    refine wp_i2l d_mo_get_8 ?_
    refine wp_lconst (v := 0) d_mo_get_9 rfl ?_
    refine wp_ldc2 lk_mo_92 d_mo_get_10 ⟨by decide, by decide⟩ ?_
    refine wp_callS [pL _, pL _, pL _] d_mo_get_13 jd_mo_in lk_mo_79 rfl (Nat.le_of_ble_eq_true rfl) rfl ?_
    refine clI_k h ?_
    intro x3 M2 h
    refine wp_if_eq 29 d_mo_get_16 (by decide) (fun c4 => ?_) (fun c4 => ?_)
    · have h := h.1 c4
      refine wp_ldc lk_mo_106 d_mo_get_29 ⟨by decide, by decide⟩ ?_
      exact wp_iret d_mo_get_31 rfl ⟨Nat.le_of_ble_eq_true rfl, Nat.le_of_ble_eq_true rfl⟩ ⟨_, rfl, rfl, rfl, h⟩
    · have h := h.2 c4
      refine wp_aload_n d_mo_get_19 rfl 0 rfl ?_
      refine wp_iload_n d_mo_get_20 rfl 1 rfl ?_
      refine wp_iload_n d_mo_get_21 rfl 2 rfl ?_
      refine wp_iload_n d_mo_get_22 rfl 3 rfl ?_
      refine wp_callV [pI _, pI _, pI _] _ d_mo_get_23 jd_mo_lacks lk_mo_98 rfl s_101 rfl (Nat.le_of_ble_eq_true rfl) (Nat.le_of_ble_eq_true rfl) rfl ?_
      refine clI_k h ?_
      intro x5 M3 h
      refine wp_if_eq 32 d_mo_get_26 (by decide) (fun c6 => ?_) (fun c6 => ?_)
      · have h := h.1 c6
        refine wp_aload_n d_mo_get_32 rfl 0 rfl ?_
        refine wp_getr d_mo_get_33 2 s_101 rfl (Nat.le_of_ble_eq_true rfl) (Nat.le_of_ble_eq_true rfl) rfl rfl lk_mo_16 ?_
        refine wp_bipush d_mo_get_36 ⟨by decide, by decide⟩ (by decide) ?_
        refine wp_iload_n d_mo_get_38 rfl 1 rfl ?_
        refine wp_imul d_mo_get_39 ?_
        refine wp_iload_n d_mo_get_40 rfl 3 rfl ?_
        refine wp_iadd d_mo_get_41 ?_
        obtain ⟨⟨a7, b7⟩, h⟩ := h
        refine wp_iald d_mo_get_42 s_104 (Nat.le_of_ble_eq_true rfl) a7 b7 ?_
        exact wp_iret d_mo_get_43 rfl ⟨Nat.le_of_ble_eq_true rfl, Nat.le_of_ble_eq_true rfl⟩ ⟨_, rfl, rfl, rfl, h⟩
      · have h := h.2 c6
        refine wp_ldc lk_mo_106 d_mo_get_29 ⟨by decide, by decide⟩ ?_
        exact wp_iret d_mo_get_31 rfl ⟨Nat.le_of_ble_eq_true rfl, Nat.le_of_ble_eq_true rfl⟩ ⟨_, rfl, rfl, rfl, h⟩
set_option maxHeartbeats 8000000 in
theorem e_mo_copy {G : GT} {M : MT} {P : Int → MT → Prop} (v1 : Int) (v2 : Int) (v3 : Int) (v4 : Int) (v5 : Int)
    (h : ClI G J_mo_isSheet M [pI v1] (fun x1 M1 => ((x1 = 0 → P (-2) M1) ∧ (¬ x1 = 0 → ClI G J_mo_isSheet M1 [pI v3] (fun x3 M2 => ((¬ x3 = 0 → (0 ≤ v1 ∧ v1 < 4) ∧ (((M2 102 (v1.toNat)) < 0 → ClI G J_mo_finds M2 [pR 101, pI 1] (fun x7 M3 => (P x7 M3))) ∧ (0 ≤ (M2 102 (v1.toNat)) → (0 ≤ v3 ∧ v3 < 4) ∧ ((0 ≤ (M2 102 (v3.toNat)) → (0 ≤ v1 ∧ v1 < 4) ∧ ((0 ≤ v3 ∧ v3 < 4) ∧ (((M2 102 (v1.toNat)) = (M2 102 (v3.toNat)) → (v2 < 0 → ClI G J_mo_finds M2 [pR 101, pI 2] (fun x13 M3 => (P x13 M3))) ∧ (0 ≤ v2 → (v4 < 0 → ClI G J_mo_finds M2 [pR 101, pI 2] (fun x14 M3 => (P x14 M3))) ∧ (0 ≤ v4 → (v5 < 0 → ClI G J_mo_finds M2 [pR 101, pI 2] (fun x15 M3 => (P x15 M3))) ∧ (0 ≤ v5 → (0 ≤ v1 ∧ v1 < 4) ∧ (((M2 103 (v1.toNat)) < (w64 (v2 + v5)) → ClI G J_mo_finds M2 [pR 101, pI 2] (fun x17 M3 => (P x17 M3))) ∧ ((w64 (v2 + v5)) ≤ (M2 103 (v1.toNat)) → (0 ≤ v3 ∧ v3 < 4) ∧ (((w64 (v4 + v5)) ≤ (M2 103 (v3.toNat)) → WpI G J_mo_copy 120 [(0, pR 101), (1, pI v1), (2, pI v2), (3, pI v3), (4, pI v4), (5, pI v5), (6, pI 0)] [] M2 P) ∧ ((M2 103 (v3.toNat)) < (w64 (v4 + v5)) → ClI G J_mo_finds M2 [pR 101, pI 2] (fun x19 M3 => (P x19 M3)))))))))) ∧ (¬ (M2 102 (v1.toNat)) = (M2 102 (v3.toNat)) → ClI G J_mo_finds M2 [pR 101, pI 4] (fun x12 M3 => (P x12 M3)))))) ∧ ((M2 102 (v3.toNat)) < 0 → ClI G J_mo_finds M2 [pR 101, pI 1] (fun x9 M3 => (P x9 M3))))))) ∧ (x3 = 0 → P (-2) M2))))))) : ClI G J_mo_copy M [pR 101, pI v1, pI v2, pI v3, pI v4, pI v5] P := by
  show Wp G J_mo_copy 0 0 0 [(0, pR 101), (1, pI v1), (2, pI v2), (3, pI v3), (4, pI v4), (5, pI v5)] [] NN RF M _
  refine wp_iload_n d_mo_copy_0 rfl 1 rfl ?_
  refine wp_callS [pI _] d_mo_copy_1 jd_mo_isSheet lk_mo_88 rfl (Nat.le_of_ble_eq_true rfl) rfl ?_
  refine clI_k h ?_
  intro x1 M1 h
  refine wp_if_eq 14 d_mo_copy_4 (by decide) (fun c2 => ?_) (fun c2 => ?_)
  · have h := h.1 c2
    refine wp_bipush d_mo_copy_14 ⟨by decide, by decide⟩ (by decide) ?_
    exact wp_iret d_mo_copy_16 rfl ⟨Nat.le_of_ble_eq_true rfl, Nat.le_of_ble_eq_true rfl⟩ ⟨_, rfl, rfl, rfl, h⟩
  · have h := h.2 c2
    refine wp_iload_n d_mo_copy_7 rfl 3 rfl ?_
    refine wp_callS [pI _] d_mo_copy_8 jd_mo_isSheet lk_mo_88 rfl (Nat.le_of_ble_eq_true rfl) rfl ?_
    refine clI_k h ?_
    intro x3 M2 h
    refine wp_if_ne 17 d_mo_copy_11 (by decide) (fun c4 => ?_) (fun c4 => ?_)
    · have h := h.1 c4
      refine wp_aload_n d_mo_copy_17 rfl 0 rfl ?_
      refine wp_getr d_mo_copy_18 0 s_101 rfl (Nat.le_of_ble_eq_true rfl) (Nat.le_of_ble_eq_true rfl) rfl rfl lk_mo_7 ?_
      refine wp_iload_n d_mo_copy_21 rfl 1 rfl ?_
      obtain ⟨⟨a5, b5⟩, h⟩ := h
      refine wp_iald d_mo_copy_22 s_102 (Nat.le_of_ble_eq_true rfl) a5 b5 ?_
      refine wp_if_lt 35 d_mo_copy_23 (by decide) (fun c6 => ?_) (fun c6 => ?_)
      · have h := h.1 c6
        refine wp_aload_n d_mo_copy_35 rfl 0 rfl ?_
        refine wp_iconst d_mo_copy_36 ⟨by decide, by decide⟩ ?_
        refine wp_callV [pI _] _ d_mo_copy_37 jd_mo_finds lk_mo_94 rfl s_101 rfl (Nat.le_of_ble_eq_true rfl) (Nat.le_of_ble_eq_true rfl) rfl ?_
        refine clI_k h ?_
        intro x7 M3 h
        exact wp_iret d_mo_copy_40 rfl ⟨Nat.le_of_ble_eq_true rfl, Nat.le_of_ble_eq_true rfl⟩ ⟨_, rfl, rfl, rfl, h⟩
      · have h := h.2 c6
        refine wp_aload_n d_mo_copy_26 rfl 0 rfl ?_
        refine wp_getr d_mo_copy_27 0 s_101 rfl (Nat.le_of_ble_eq_true rfl) (Nat.le_of_ble_eq_true rfl) rfl rfl lk_mo_7 ?_
        refine wp_iload_n d_mo_copy_30 rfl 3 rfl ?_
        obtain ⟨⟨a7, b7⟩, h⟩ := h
        refine wp_iald d_mo_copy_31 s_102 (Nat.le_of_ble_eq_true rfl) a7 b7 ?_
        refine wp_if_ge 41 d_mo_copy_32 (by decide) (fun c8 => ?_) (fun c8 => ?_)
        · have h := h.1 c8
          refine wp_aload_n d_mo_copy_41 rfl 0 rfl ?_
          refine wp_getr d_mo_copy_42 0 s_101 rfl (Nat.le_of_ble_eq_true rfl) (Nat.le_of_ble_eq_true rfl) rfl rfl lk_mo_7 ?_
          refine wp_iload_n d_mo_copy_45 rfl 1 rfl ?_
          obtain ⟨⟨a9, b9⟩, h⟩ := h
          refine wp_iald d_mo_copy_46 s_102 (Nat.le_of_ble_eq_true rfl) a9 b9 ?_
          refine wp_aload_n d_mo_copy_47 rfl 0 rfl ?_
          refine wp_getr d_mo_copy_48 0 s_101 rfl (Nat.le_of_ble_eq_true rfl) (Nat.le_of_ble_eq_true rfl) rfl rfl lk_mo_7 ?_
          refine wp_iload_n d_mo_copy_51 rfl 3 rfl ?_
          obtain ⟨⟨a10, b10⟩, h⟩ := h
          refine wp_iald d_mo_copy_52 s_102 (Nat.le_of_ble_eq_true rfl) a10 b10 ?_
          refine wp_icmp_eq 62 d_mo_copy_53 (by decide) (fun c11 => ?_) (fun c11 => ?_)
          · have h := h.1 c11
            refine wp_iload_n d_mo_copy_62 rfl 2 rfl ?_
            refine wp_if_lt 111 d_mo_copy_63 (by decide) (fun c12 => ?_) (fun c12 => ?_)
            · have h := h.1 c12
              refine wp_aload_n d_mo_copy_111 rfl 0 rfl ?_
              refine wp_iconst d_mo_copy_112 ⟨by decide, by decide⟩ ?_
              refine wp_callV [pI _] _ d_mo_copy_113 jd_mo_finds lk_mo_94 rfl s_101 rfl (Nat.le_of_ble_eq_true rfl) (Nat.le_of_ble_eq_true rfl) rfl ?_
              refine clI_k h ?_
              intro x13 M3 h
              exact wp_iret d_mo_copy_116 rfl ⟨Nat.le_of_ble_eq_true rfl, Nat.le_of_ble_eq_true rfl⟩ ⟨_, rfl, rfl, rfl, h⟩
            · have h := h.2 c12
              refine wp_iload d_mo_copy_66 4 rfl ?_
              refine wp_if_lt 111 d_mo_copy_68 (by decide) (fun c13 => ?_) (fun c13 => ?_)
              · have h := h.1 c13
                refine wp_aload_n d_mo_copy_111 rfl 0 rfl ?_
                refine wp_iconst d_mo_copy_112 ⟨by decide, by decide⟩ ?_
                refine wp_callV [pI _] _ d_mo_copy_113 jd_mo_finds lk_mo_94 rfl s_101 rfl (Nat.le_of_ble_eq_true rfl) (Nat.le_of_ble_eq_true rfl) rfl ?_
                refine clI_k h ?_
                intro x14 M3 h
                exact wp_iret d_mo_copy_116 rfl ⟨Nat.le_of_ble_eq_true rfl, Nat.le_of_ble_eq_true rfl⟩ ⟨_, rfl, rfl, rfl, h⟩
              · have h := h.2 c13
                refine wp_iload d_mo_copy_71 5 rfl ?_
                refine wp_if_lt 111 d_mo_copy_73 (by decide) (fun c14 => ?_) (fun c14 => ?_)
                · have h := h.1 c14
                  refine wp_aload_n d_mo_copy_111 rfl 0 rfl ?_
                  refine wp_iconst d_mo_copy_112 ⟨by decide, by decide⟩ ?_
                  refine wp_callV [pI _] _ d_mo_copy_113 jd_mo_finds lk_mo_94 rfl s_101 rfl (Nat.le_of_ble_eq_true rfl) (Nat.le_of_ble_eq_true rfl) rfl ?_
                  refine clI_k h ?_
                  intro x15 M3 h
                  exact wp_iret d_mo_copy_116 rfl ⟨Nat.le_of_ble_eq_true rfl, Nat.le_of_ble_eq_true rfl⟩ ⟨_, rfl, rfl, rfl, h⟩
                · have h := h.2 c14
                  refine wp_iload_n d_mo_copy_76 rfl 2 rfl ?_
                  refine wp_i2l d_mo_copy_77 ?_
                  refine wp_iload d_mo_copy_78 5 rfl ?_
                  refine wp_i2l d_mo_copy_80 ?_
                  refine wp_ladd d_mo_copy_81 ?_
                  refine wp_aload_n d_mo_copy_82 rfl 0 rfl ?_
                  refine wp_getr d_mo_copy_83 1 s_101 rfl (Nat.le_of_ble_eq_true rfl) (Nat.le_of_ble_eq_true rfl) rfl rfl lk_mo_13 ?_
                  refine wp_iload_n d_mo_copy_86 rfl 1 rfl ?_
                  obtain ⟨⟨a15, b15⟩, h⟩ := h
                  refine wp_iald d_mo_copy_87 s_103 (Nat.le_of_ble_eq_true rfl) a15 b15 ?_
                  refine wp_i2l d_mo_copy_88 ?_
                  refine wp_lcmp d_mo_copy_89 ?_
                  refine wp_if_gt 111 d_mo_copy_90 (by decide) (fun c16 => ?_) (fun c16 => ?_)
                  · have h := h.1 ((lcm_gt _ _).mp c16)
                    refine wp_aload_n d_mo_copy_111 rfl 0 rfl ?_
                    refine wp_iconst d_mo_copy_112 ⟨by decide, by decide⟩ ?_
                    refine wp_callV [pI _] _ d_mo_copy_113 jd_mo_finds lk_mo_94 rfl s_101 rfl (Nat.le_of_ble_eq_true rfl) (Nat.le_of_ble_eq_true rfl) rfl ?_
                    refine clI_k h ?_
                    intro x17 M3 h
                    exact wp_iret d_mo_copy_116 rfl ⟨Nat.le_of_ble_eq_true rfl, Nat.le_of_ble_eq_true rfl⟩ ⟨_, rfl, rfl, rfl, h⟩
                  · have h := h.2 ((lcm_le _ _).mp c16)
                    refine wp_iload d_mo_copy_93 4 rfl ?_
                    refine wp_i2l d_mo_copy_95 ?_
                    refine wp_iload d_mo_copy_96 5 rfl ?_
                    refine wp_i2l d_mo_copy_98 ?_
                    refine wp_ladd d_mo_copy_99 ?_
                    refine wp_aload_n d_mo_copy_100 rfl 0 rfl ?_
                    refine wp_getr d_mo_copy_101 1 s_101 rfl (Nat.le_of_ble_eq_true rfl) (Nat.le_of_ble_eq_true rfl) rfl rfl lk_mo_13 ?_
                    refine wp_iload_n d_mo_copy_104 rfl 3 rfl ?_
                    obtain ⟨⟨a17, b17⟩, h⟩ := h
                    refine wp_iald d_mo_copy_105 s_103 (Nat.le_of_ble_eq_true rfl) a17 b17 ?_
                    refine wp_i2l d_mo_copy_106 ?_
                    refine wp_lcmp d_mo_copy_107 ?_
                    refine wp_if_le 117 d_mo_copy_108 (by decide) (fun c18 => ?_) (fun c18 => ?_)
                    · have h := h.1 ((lcm_le _ _).mp c18)
                      refine wp_iconst d_mo_copy_117 ⟨by decide, by decide⟩ ?_
                      refine wp_istore (L2 := [(0, pR 101), (1, pI _), (2, pI _), (3, pI _), (4, pI _), (5, pI _), (6, pI _)]) d_mo_copy_118 (Nat.le_of_ble_eq_true rfl) [1, 2, 3, 4, 5, 6, 0] rfl ?_
                      exact h
                    · have h := h.2 ((lcm_gt _ _).mp c18)
                      refine wp_aload_n d_mo_copy_111 rfl 0 rfl ?_
                      refine wp_iconst d_mo_copy_112 ⟨by decide, by decide⟩ ?_
                      refine wp_callV [pI _] _ d_mo_copy_113 jd_mo_finds lk_mo_94 rfl s_101 rfl (Nat.le_of_ble_eq_true rfl) (Nat.le_of_ble_eq_true rfl) rfl ?_
                      refine clI_k h ?_
                      intro x19 M3 h
                      exact wp_iret d_mo_copy_116 rfl ⟨Nat.le_of_ble_eq_true rfl, Nat.le_of_ble_eq_true rfl⟩ ⟨_, rfl, rfl, rfl, h⟩
          · have h := h.2 c11
            refine wp_aload_n d_mo_copy_56 rfl 0 rfl ?_
            refine wp_iconst d_mo_copy_57 ⟨by decide, by decide⟩ ?_
            refine wp_callV [pI _] _ d_mo_copy_58 jd_mo_finds lk_mo_94 rfl s_101 rfl (Nat.le_of_ble_eq_true rfl) (Nat.le_of_ble_eq_true rfl) rfl ?_
            refine clI_k h ?_
            intro x12 M3 h
            exact wp_iret d_mo_copy_61 rfl ⟨Nat.le_of_ble_eq_true rfl, Nat.le_of_ble_eq_true rfl⟩ ⟨_, rfl, rfl, rfl, h⟩
        · have h := h.2 c8
          refine wp_aload_n d_mo_copy_35 rfl 0 rfl ?_
          refine wp_iconst d_mo_copy_36 ⟨by decide, by decide⟩ ?_
          refine wp_callV [pI _] _ d_mo_copy_37 jd_mo_finds lk_mo_94 rfl s_101 rfl (Nat.le_of_ble_eq_true rfl) (Nat.le_of_ble_eq_true rfl) rfl ?_
          refine clI_k h ?_
          intro x9 M3 h
          exact wp_iret d_mo_copy_40 rfl ⟨Nat.le_of_ble_eq_true rfl, Nat.le_of_ble_eq_true rfl⟩ ⟨_, rfl, rfl, rfl, h⟩
    · have h := h.2 c4
      refine wp_bipush d_mo_copy_14 ⟨by decide, by decide⟩ (by decide) ?_
      exact wp_iret d_mo_copy_16 rfl ⟨Nat.le_of_ble_eq_true rfl, Nat.le_of_ble_eq_true rfl⟩ ⟨_, rfl, rfl, rfl, h⟩
set_option maxHeartbeats 8000000 in
theorem b_mo_copy_120 {G : GT} {M : MT} {P : Int → MT → Prop} (v1 : Int) (v2 : Int) (v3 : Int) (v4 : Int) (v5 : Int) (v6 : Int)
    (h : (v5 ≤ v6 → WpI G J_mo_copy 157 [(0, pR 101), (3, pI v3), (4, pI v4), (5, pI v5), (6, pI 0)] [] M P) ∧ (v6 < v5 → (0 ≤ (w32 ((w32 ((w32 (60 * v1)) + v2)) + v6)) ∧ (w32 ((w32 ((w32 (60 * v1)) + v2)) + v6)) < 240) ∧ ((0 ≤ v6 ∧ v6 < 60) ∧ (∀ M1 : MT, M1 = mu M 105 (v6.toNat) (M 104 ((w32 ((w32 ((w32 (60 * v1)) + v2)) + v6)).toNat)) → (WpI G J_mo_copy 120 [(0, pR 101), (1, pI v1), (2, pI v2), (3, pI v3), (4, pI v4), (5, pI v5), (6, pI (w32 (v6 + 1)))] [] M1 P))))) : WpI G J_mo_copy 120 [(0, pR 101), (1, pI v1), (2, pI v2), (3, pI v3), (4, pI v4), (5, pI v5), (6, pI v6)] [] M P := by
  show Wp G J_mo_copy 0 0 120 [(0, pR 101), (1, pI v1), (2, pI v2), (3, pI v3), (4, pI v4), (5, pI v5), (6, pI v6)] [] NN RF M _
  refine wp_iload d_mo_copy_120 6 rfl ?_
  refine wp_iload d_mo_copy_122 5 rfl ?_
  refine wp_icmp_ge 154 d_mo_copy_124 (by decide) (fun c1 => ?_) (fun c1 => ?_)
  · have h := h.1 c1
    refine wp_iconst d_mo_copy_154 ⟨by decide, by decide⟩ ?_
    refine wp_istore (L2 := [(0, pR 101), (1, pI _), (2, pI _), (3, pI _), (4, pI _), (5, pI _), (6, pI _)]) d_mo_copy_155 (Nat.le_of_ble_eq_true rfl) [1, 2, 3, 4, 5, 6, 0] rfl ?_
    refine wp_sub (L2 := [(0, pR 101), (3, pI _), (4, pI _), (5, pI _), (6, pI _)]) [0, 3, 4, 5, 6] rfl ?_
    exact h
  · have h := h.2 c1
    refine wp_aload_n d_mo_copy_127 rfl 0 rfl ?_
    refine wp_getr d_mo_copy_128 3 s_101 rfl (Nat.le_of_ble_eq_true rfl) (Nat.le_of_ble_eq_true rfl) rfl rfl lk_mo_19 ?_
    refine wp_iload d_mo_copy_131 6 rfl ?_
    refine wp_aload_n d_mo_copy_133 rfl 0 rfl ?_
    refine wp_getr d_mo_copy_134 2 s_101 rfl (Nat.le_of_ble_eq_true rfl) (Nat.le_of_ble_eq_true rfl) rfl rfl lk_mo_16 ?_
    refine wp_bipush d_mo_copy_137 ⟨by decide, by decide⟩ (by decide) ?_
    refine wp_iload_n d_mo_copy_139 rfl 1 rfl ?_
    refine wp_imul d_mo_copy_140 ?_
    refine wp_iload_n d_mo_copy_141 rfl 2 rfl ?_
    refine wp_iadd d_mo_copy_142 ?_
    refine wp_iload d_mo_copy_143 6 rfl ?_
    refine wp_iadd d_mo_copy_145 ?_
    obtain ⟨⟨a2, b2⟩, h⟩ := h
    refine wp_iald d_mo_copy_146 s_104 (Nat.le_of_ble_eq_true rfl) a2 b2 ?_
    obtain ⟨⟨a3, b3⟩, h⟩ := h
    refine wp_iast d_mo_copy_147 s_105 (Nat.le_of_ble_eq_true rfl) a3 b3 ?_
    have h := h _ rfl
    refine wp_iinc (L2 := [(0, pR 101), (1, pI _), (2, pI _), (3, pI _), (4, pI _), (5, pI _), (6, pI _)]) d_mo_copy_148 6 rfl (Nat.le_of_ble_eq_true rfl) [1, 2, 3, 4, 5, 6, 0] rfl ?_
    refine wp_goto 120 d_mo_copy_151 (by decide) ?_
    exact h
set_option maxHeartbeats 8000000 in
theorem b_mo_copy_157 {G : GT} {M : MT} {P : Int → MT → Prop} (v3 : Int) (v4 : Int) (v5 : Int) (v6 : Int)
    (h : (v5 ≤ v6 → P 1 M) ∧ (v6 < v5 → (0 ≤ v6 ∧ v6 < 60) ∧ ((0 ≤ (w32 ((w32 ((w32 (60 * v3)) + v4)) + v6)) ∧ (w32 ((w32 ((w32 (60 * v3)) + v4)) + v6)) < 240) ∧ (∀ M1 : MT, M1 = mu M 104 ((w32 ((w32 ((w32 (60 * v3)) + v4)) + v6)).toNat) (M 105 (v6.toNat)) → (WpI G J_mo_copy 157 [(0, pR 101), (3, pI v3), (4, pI v4), (5, pI v5), (6, pI (w32 (v6 + 1)))] [] M1 P))))) : WpI G J_mo_copy 157 [(0, pR 101), (3, pI v3), (4, pI v4), (5, pI v5), (6, pI v6)] [] M P := by
  show Wp G J_mo_copy 0 0 157 [(0, pR 101), (3, pI v3), (4, pI v4), (5, pI v5), (6, pI v6)] [] NN RF M _
  refine wp_iload d_mo_copy_157 4 rfl ?_
  refine wp_iload d_mo_copy_159 3 rfl ?_
  refine wp_icmp_ge 192 d_mo_copy_161 (by decide) (fun c1 => ?_) (fun c1 => ?_)
  · have h := h.1 c1
    refine wp_iconst d_mo_copy_192 ⟨by decide, by decide⟩ ?_
    exact wp_iret d_mo_copy_193 rfl ⟨Nat.le_of_ble_eq_true rfl, Nat.le_of_ble_eq_true rfl⟩ ⟨_, rfl, rfl, rfl, h⟩
  · have h := h.2 c1
    refine wp_aload_n d_mo_copy_164 rfl 0 rfl ?_
    refine wp_getr d_mo_copy_165 2 s_101 rfl (Nat.le_of_ble_eq_true rfl) (Nat.le_of_ble_eq_true rfl) rfl rfl lk_mo_16 ?_
    refine wp_bipush d_mo_copy_168 ⟨by decide, by decide⟩ (by decide) ?_
    refine wp_iload_n d_mo_copy_170 rfl 1 rfl ?_
    refine wp_imul d_mo_copy_171 ?_
    refine wp_iload d_mo_copy_172 2 rfl ?_
    refine wp_iadd d_mo_copy_174 ?_
    refine wp_iload d_mo_copy_175 4 rfl ?_
    refine wp_iadd d_mo_copy_177 ?_
    refine wp_aload_n d_mo_copy_178 rfl 0 rfl ?_
    refine wp_getr d_mo_copy_179 3 s_101 rfl (Nat.le_of_ble_eq_true rfl) (Nat.le_of_ble_eq_true rfl) rfl rfl lk_mo_19 ?_
    refine wp_iload d_mo_copy_182 4 rfl ?_
    obtain ⟨⟨a2, b2⟩, h⟩ := h
    refine wp_iald d_mo_copy_184 s_105 (Nat.le_of_ble_eq_true rfl) a2 b2 ?_
    obtain ⟨⟨a3, b3⟩, h⟩ := h
    refine wp_iast d_mo_copy_185 s_104 (Nat.le_of_ble_eq_true rfl) a3 b3 ?_
    have h := h _ rfl
    refine wp_iinc (L2 := [(0, pR 101), (3, pI _), (4, pI _), (5, pI _), (6, pI _)]) d_mo_copy_186 4 rfl (Nat.le_of_ble_eq_true rfl) [1, 2, 3, 4, 0] rfl ?_
    refine wp_goto 157 d_mo_copy_189 (by decide) ?_
    exact h
set_option maxHeartbeats 8000000 in
theorem e_mo_type {G : GT} {M : MT} {P : Int → MT → Prop} (v1 : Int) (v2 : Int)
    (h : ClI G J_mo_isTwo M [pI v1] (fun x1 M1 => ((x1 = 0 → P (-2) M1) ∧ (¬ x1 = 0 → ClI G J_mo_in M1 [pL v2, pL 0, pL 255] (fun x3 M2 => ((¬ x3 = 0 → (0 ≤ v1 ∧ v1 < 2) ∧ ((¬ v1 = 0 → (¬ (M2 107 (v1.toNat)) = 23 → (0 ≤ v1 ∧ v1 < 2) ∧ ((0 ≤ (w32 ((w32 (60 * v1)) + (M2 107 (v1.toNat)))) ∧ (w32 ((w32 (60 * v1)) + (M2 107 (v1.toNat)))) < 120) ∧ (∀ M3 : MT, M3 = mu M2 106 ((w32 ((w32 (60 * v1)) + (M2 107 (v1.toNat)))).toNat) v2 → ((0 ≤ v1 ∧ v1 < 2) ∧ ((0 ≤ v1 ∧ v1 < 2) ∧ (∀ M4 : MT, M4 = mu M3 107 (v1.toNat) (w32 ((M3 107 (v1.toNat)) + 1)) → ((0 ≤ v1 ∧ v1 < 2) ∧ (P (M4 107 (v1.toNat)) M4)))))))) ∧ ((M2 107 (v1.toNat)) = 23 → P (-4) M2)) ∧ (v1 = 0 → (¬ (M2 107 (v1.toNat)) = 59 → (0 ≤ v1 ∧ v1 < 2) ∧ ((0 ≤ (w32 ((w32 (60 * v1)) + (M2 107 (v1.toNat)))) ∧ (w32 ((w32 (60 * v1)) + (M2 107 (v1.toNat)))) < 120) ∧ (∀ M3 : MT, M3 = mu M2 106 ((w32 ((w32 (60 * v1)) + (M2 107 (v1.toNat)))).toNat) v2 → ((0 ≤ v1 ∧ v1 < 2) ∧ ((0 ≤ v1 ∧ v1 < 2) ∧ (∀ M4 : MT, M4 = mu M3 107 (v1.toNat) (w32 ((M3 107 (v1.toNat)) + 1)) → ((0 ≤ v1 ∧ v1 < 2) ∧ (P (M4 107 (v1.toNat)) M4)))))))) ∧ ((M2 107 (v1.toNat)) = 59 → P (-4) M2)))) ∧ (x3 = 0 → P (-2) M2))))))) : ClI G J_mo_type M [pR 101, pI v1, pI v2] P := by
  show Wp G J_mo_type 0 0 0 [(0, pR 101), (1, pI v1), (2, pI v2)] [] NN RF M _
  refine wp_iload_n d_mo_type_0 rfl 1 rfl ?_
  refine wp_callS [pI _] d_mo_type_1 jd_mo_isTwo lk_mo_107 rfl (Nat.le_of_ble_eq_true rfl) rfl ?_
  refine clI_k h ?_
  intro x1 M1 h
  refine wp_if_eq 19 d_mo_type_4 (by decide) (fun c2 => ?_) (fun c2 => ?_)
  · have h := h.1 c2
    refine wp_bipush d_mo_type_19 ⟨by decide, by decide⟩ (by decide) ?_
    exact wp_iret d_mo_type_21 rfl ⟨Nat.le_of_ble_eq_true rfl, Nat.le_of_ble_eq_true rfl⟩ ⟨_, rfl, rfl, rfl, h⟩
  · have h := h.2 c2
    refine wp_iload_n d_mo_type_7 rfl 2 rfl ?_
    refine wp_i2l d_mo_type_8 ?_
    refine wp_lconst (v := 0) d_mo_type_9 rfl ?_
    refine wp_ldc2 lk_mo_110 d_mo_type_10 ⟨by decide, by decide⟩ ?_
    refine wp_callS [pL _, pL _, pL _] d_mo_type_13 jd_mo_in lk_mo_79 rfl (Nat.le_of_ble_eq_true rfl) rfl ?_
    refine clI_k h ?_
    intro x3 M2 h
    refine wp_if_ne 22 d_mo_type_16 (by decide) (fun c4 => ?_) (fun c4 => ?_)
    · have h := h.1 c4
      refine wp_aload_n d_mo_type_22 rfl 0 rfl ?_
      refine wp_getr d_mo_type_23 6 s_101 rfl (Nat.le_of_ble_eq_true rfl) (Nat.le_of_ble_eq_true rfl) rfl rfl lk_mo_25 ?_
      refine wp_iload_n d_mo_type_26 rfl 1 rfl ?_
      obtain ⟨⟨a5, b5⟩, h⟩ := h
      refine wp_iald d_mo_type_27 s_107 (Nat.le_of_ble_eq_true rfl) a5 b5 ?_
      refine wp_iload_n d_mo_type_28 rfl 1 rfl ?_
      refine wp_if_ne 37 d_mo_type_29 (by decide) (fun c6 => ?_) (fun c6 => ?_)
      · have h := h.1 c6
        refine wp_bipush d_mo_type_37 ⟨by decide, by decide⟩ (by decide) ?_
        refine wp_icmp_ne 45 d_mo_type_39 (by decide) (fun c7 => ?_) (fun c7 => ?_)
        · have h := h.1 c7
          refine wp_aload_n d_mo_type_45 rfl 0 rfl ?_
          refine wp_getr d_mo_type_46 5 s_101 rfl (Nat.le_of_ble_eq_true rfl) (Nat.le_of_ble_eq_true rfl) rfl rfl lk_mo_22 ?_
          refine wp_bipush d_mo_type_49 ⟨by decide, by decide⟩ (by decide) ?_
          refine wp_iload_n d_mo_type_51 rfl 1 rfl ?_
          refine wp_imul d_mo_type_52 ?_
          refine wp_aload_n d_mo_type_53 rfl 0 rfl ?_
          refine wp_getr d_mo_type_54 6 s_101 rfl (Nat.le_of_ble_eq_true rfl) (Nat.le_of_ble_eq_true rfl) rfl rfl lk_mo_25 ?_
          refine wp_iload_n d_mo_type_57 rfl 1 rfl ?_
          obtain ⟨⟨a8, b8⟩, h⟩ := h
          refine wp_iald d_mo_type_58 s_107 (Nat.le_of_ble_eq_true rfl) a8 b8 ?_
          refine wp_iadd d_mo_type_59 ?_
          refine wp_iload_n d_mo_type_60 rfl 2 rfl ?_
          obtain ⟨⟨a9, b9⟩, h⟩ := h
          refine wp_iast d_mo_type_61 s_106 (Nat.le_of_ble_eq_true rfl) a9 b9 ?_
          have h := h _ rfl
          refine wp_aload_n d_mo_type_62 rfl 0 rfl ?_
          refine wp_getr d_mo_type_63 6 s_101 rfl (Nat.le_of_ble_eq_true rfl) (Nat.le_of_ble_eq_true rfl) rfl rfl lk_mo_25 ?_
          refine wp_iload_n d_mo_type_66 rfl 1 rfl ?_
          refine wp_dup2 d_mo_type_67 rfl rfl ?_
          obtain ⟨⟨a10, b10⟩, h⟩ := h
          refine wp_iald d_mo_type_68 s_107 (Nat.le_of_ble_eq_true rfl) a10 b10 ?_
          refine wp_iconst d_mo_type_69 ⟨by decide, by decide⟩ ?_
          refine wp_iadd d_mo_type_70 ?_
          obtain ⟨⟨a11, b11⟩, h⟩ := h
          refine wp_iast d_mo_type_71 s_107 (Nat.le_of_ble_eq_true rfl) a11 b11 ?_
          have h := h _ rfl
          refine wp_aload_n d_mo_type_72 rfl 0 rfl ?_
          refine wp_getr d_mo_type_73 6 s_101 rfl (Nat.le_of_ble_eq_true rfl) (Nat.le_of_ble_eq_true rfl) rfl rfl lk_mo_25 ?_
          refine wp_iload_n d_mo_type_76 rfl 1 rfl ?_
          obtain ⟨⟨a12, b12⟩, h⟩ := h
          refine wp_iald d_mo_type_77 s_107 (Nat.le_of_ble_eq_true rfl) a12 b12 ?_
          exact wp_iret d_mo_type_78 rfl ⟨Nat.le_of_ble_eq_true rfl, Nat.le_of_ble_eq_true rfl⟩ ⟨_, rfl, rfl, rfl, h⟩
        · have h := h.2 c7
          refine wp_bipush d_mo_type_42 ⟨by decide, by decide⟩ (by decide) ?_
          exact wp_iret d_mo_type_44 rfl ⟨Nat.le_of_ble_eq_true rfl, Nat.le_of_ble_eq_true rfl⟩ ⟨_, rfl, rfl, rfl, h⟩
      · have h := h.2 c6
        refine wp_bipush d_mo_type_32 ⟨by decide, by decide⟩ (by decide) ?_
        refine wp_goto 39 d_mo_type_34 (by decide) ?_
        refine wp_icmp_ne 45 d_mo_type_39 (by decide) (fun c7 => ?_) (fun c7 => ?_)
        · have h := h.1 c7
          refine wp_aload_n d_mo_type_45 rfl 0 rfl ?_
          refine wp_getr d_mo_type_46 5 s_101 rfl (Nat.le_of_ble_eq_true rfl) (Nat.le_of_ble_eq_true rfl) rfl rfl lk_mo_22 ?_
          refine wp_bipush d_mo_type_49 ⟨by decide, by decide⟩ (by decide) ?_
          refine wp_iload_n d_mo_type_51 rfl 1 rfl ?_
          refine wp_imul d_mo_type_52 ?_
          refine wp_aload_n d_mo_type_53 rfl 0 rfl ?_
          refine wp_getr d_mo_type_54 6 s_101 rfl (Nat.le_of_ble_eq_true rfl) (Nat.le_of_ble_eq_true rfl) rfl rfl lk_mo_25 ?_
          refine wp_iload_n d_mo_type_57 rfl 1 rfl ?_
          obtain ⟨⟨a8, b8⟩, h⟩ := h
          refine wp_iald d_mo_type_58 s_107 (Nat.le_of_ble_eq_true rfl) a8 b8 ?_
          refine wp_iadd d_mo_type_59 ?_
          refine wp_iload_n d_mo_type_60 rfl 2 rfl ?_
          obtain ⟨⟨a9, b9⟩, h⟩ := h
          refine wp_iast d_mo_type_61 s_106 (Nat.le_of_ble_eq_true rfl) a9 b9 ?_
          have h := h _ rfl
          refine wp_aload_n d_mo_type_62 rfl 0 rfl ?_
          refine wp_getr d_mo_type_63 6 s_101 rfl (Nat.le_of_ble_eq_true rfl) (Nat.le_of_ble_eq_true rfl) rfl rfl lk_mo_25 ?_
          refine wp_iload_n d_mo_type_66 rfl 1 rfl ?_
          refine wp_dup2 d_mo_type_67 rfl rfl ?_
          obtain ⟨⟨a10, b10⟩, h⟩ := h
          refine wp_iald d_mo_type_68 s_107 (Nat.le_of_ble_eq_true rfl) a10 b10 ?_
          refine wp_iconst d_mo_type_69 ⟨by decide, by decide⟩ ?_
          refine wp_iadd d_mo_type_70 ?_
          obtain ⟨⟨a11, b11⟩, h⟩ := h
          refine wp_iast d_mo_type_71 s_107 (Nat.le_of_ble_eq_true rfl) a11 b11 ?_
          have h := h _ rfl
          refine wp_aload_n d_mo_type_72 rfl 0 rfl ?_
          refine wp_getr d_mo_type_73 6 s_101 rfl (Nat.le_of_ble_eq_true rfl) (Nat.le_of_ble_eq_true rfl) rfl rfl lk_mo_25 ?_
          refine wp_iload_n d_mo_type_76 rfl 1 rfl ?_
          obtain ⟨⟨a12, b12⟩, h⟩ := h
          refine wp_iald d_mo_type_77 s_107 (Nat.le_of_ble_eq_true rfl) a12 b12 ?_
          exact wp_iret d_mo_type_78 rfl ⟨Nat.le_of_ble_eq_true rfl, Nat.le_of_ble_eq_true rfl⟩ ⟨_, rfl, rfl, rfl, h⟩
        · have h := h.2 c7
          refine wp_bipush d_mo_type_42 ⟨by decide, by decide⟩ (by decide) ?_
          exact wp_iret d_mo_type_44 rfl ⟨Nat.le_of_ble_eq_true rfl, Nat.le_of_ble_eq_true rfl⟩ ⟨_, rfl, rfl, rfl, h⟩
    · have h := h.2 c4
      refine wp_bipush d_mo_type_19 ⟨by decide, by decide⟩ (by decide) ?_
      exact wp_iret d_mo_type_21 rfl ⟨Nat.le_of_ble_eq_true rfl, Nat.le_of_ble_eq_true rfl⟩ ⟨_, rfl, rfl, rfl, h⟩
set_option maxHeartbeats 8000000 in
theorem e_mo_wipe {G : GT} {M : MT} {P : Int → MT → Prop} (v1 : Int)
    (h : ClI G J_mo_isTwo M [pI v1] (fun x1 M1 => ((¬ x1 = 0 → (0 ≤ v1 ∧ v1 < 2) ∧ ((0 ≤ v1 ∧ v1 < 2) ∧ (∀ M2 : MT, M2 = mu M1 107 (v1.toNat) 0 → (P (M1 107 (v1.toNat)) M2)))) ∧ (x1 = 0 → P (-2) M1)))) : ClI G J_mo_wipe M [pR 101, pI v1] P := by
  show Wp G J_mo_wipe 0 0 0 [(0, pR 101), (1, pI v1)] [] NN RF M _
  refine wp_iload_n d_mo_wipe_0 rfl 1 rfl ?_
  refine wp_callS [pI _] d_mo_wipe_1 jd_mo_isTwo lk_mo_107 rfl (Nat.le_of_ble_eq_true rfl) rfl ?_
  refine clI_k h ?_
  intro x1 M1 h
  refine wp_if_ne 10 d_mo_wipe_4 (by decide) (fun c2 => ?_) (fun c2 => ?_)
  · have h := h.1 c2
    refine wp_aload_n d_mo_wipe_10 rfl 0 rfl ?_
    refine wp_getr d_mo_wipe_11 6 s_101 rfl (Nat.le_of_ble_eq_true rfl) (Nat.le_of_ble_eq_true rfl) rfl rfl lk_mo_25 ?_
    refine wp_iload_n d_mo_wipe_14 rfl 1 rfl ?_
    obtain ⟨⟨a3, b3⟩, h⟩ := h
    refine wp_iald d_mo_wipe_15 s_107 (Nat.le_of_ble_eq_true rfl) a3 b3 ?_
    refine wp_istore_n (L2 := [(0, pR 101), (1, pI _), (2, pI _)]) d_mo_wipe_16 rfl (Nat.le_of_ble_eq_true rfl) [1, 2, 0] rfl ?_
    refine wp_aload_n d_mo_wipe_17 rfl 0 rfl ?_
    refine wp_getr d_mo_wipe_18 6 s_101 rfl (Nat.le_of_ble_eq_true rfl) (Nat.le_of_ble_eq_true rfl) rfl rfl lk_mo_25 ?_
    refine wp_iload_n d_mo_wipe_21 rfl 1 rfl ?_
    refine wp_iconst d_mo_wipe_22 ⟨by decide, by decide⟩ ?_
    obtain ⟨⟨a4, b4⟩, h⟩ := h
    refine wp_iast d_mo_wipe_23 s_107 (Nat.le_of_ble_eq_true rfl) a4 b4 ?_
    have h := h _ rfl
    refine wp_iload_n d_mo_wipe_24 rfl 2 rfl ?_
    exact wp_iret d_mo_wipe_25 rfl ⟨Nat.le_of_ble_eq_true rfl, Nat.le_of_ble_eq_true rfl⟩ ⟨_, rfl, rfl, rfl, h⟩
  · have h := h.2 c2
    refine wp_bipush d_mo_wipe_7 ⟨by decide, by decide⟩ (by decide) ?_
    exact wp_iret d_mo_wipe_9 rfl ⟨Nat.le_of_ble_eq_true rfl, Nat.le_of_ble_eq_true rfl⟩ ⟨_, rfl, rfl, rfl, h⟩
