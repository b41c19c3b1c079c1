set_option maxHeartbeats 8000000 in
theorem e_mo_lend {G : GT} {M : MT} {P : Int → MT → Prop} (v1 : Int) (v2 : Int) (v3 : Int)
    (h : ClV G J_mo_reads M [pR 101] (fun M1 => (ClI G J_mo_isTune M1 [pR 101, pI v1] (fun x1 M2 => ((x1 = 0 → P (-2) M2) ∧ (¬ x1 = 0 → ClI G J_mo_in M2 [pL v2, pL 0, pL 127] (fun x3 M3 => ((x3 = 0 → P (-2) M3) ∧ (¬ x3 = 0 → ClI G J_mo_in M3 [pL v3, pL (-1), pL 2] (fun x5 M4 => ((x5 = 0 → P (-2) M4) ∧ (¬ x5 = 0 → ClI G J_mo_lendOf M4 [pR 101, pI v1, pI v2, pI v3] (fun x7 M5 => (P x7 M5)))))))))))))) : ClI G J_mo_lend M [pR 101, pI v1, pI v2, pI v3] P := by
  show Wp G J_mo_lend 0 0 0 [(0, pR 101), (1, pI v1), (2, pI v2), (3, pI v3)] [] NN RF M _
  refine wp_aload_n d_mo_lend_0 rfl 0 rfl ?_
  refine wp_callV [] _ d_mo_lend_1 jd_mo_reads lk_mo_137 rfl s_101 rfl (Nat.le_of_ble_eq_true rfl) (Nat.le_of_ble_eq_true rfl) rfl ?_
  refine clV_k h ?_
  intro M1 h
  refine wp_aload_n d_mo_lend_4 rfl 0 rfl ?_
  refine wp_iload_n d_mo_lend_5 rfl 1 rfl ?_
  refine wp_callV [pI _] _ d_mo_lend_6 jd_mo_isTune lk_mo_140 rfl s_101 rfl (Nat.le_of_ble_eq_true rfl) (Nat.le_of_ble_eq_true rfl) rfl ?_
  refine clI_k h ?_
  intro x1 M2 h
  refine wp_if_eq 48 d_mo_lend_9 (by decide) (fun c2 => ?_) (fun c2 => ?_)
  · have h := h.1 c2
    refine wp_bipush d_mo_lend_48 ⟨by decide, by decide⟩ (by decide) ?_
    exact wp_iret d_mo_lend_50 rfl ⟨Nat.le_of_ble_eq_true rfl, Nat.le_of_ble_eq_true rfl⟩ ⟨_, rfl, rfl, rfl, h⟩
  · have h := h.2 c2
    refine wp_iload_n d_mo_lend_12 rfl 2 rfl ?_
    refine wp_i2l d_mo_lend_13 ?_
    refine wp_lconst (v := 0) d_mo_lend_14 rfl ?_
    refine wp_ldc2 lk_mo_226 d_mo_lend_15 ⟨by decide, by decide⟩ ?_
    refine wp_callS [pL _, pL _, pL _] d_mo_lend_18 jd_mo_in lk_mo_79 rfl (Nat.le_of_ble_eq_true rfl) rfl ?_
    refine clI_k h ?_
    intro x3 M3 h
    refine wp_if_eq 48 d_mo_lend_21 (by decide) (fun c4 => ?_) (fun c4 => ?_)
    · have h := h.1 c4
      refine wp_bipush d_mo_lend_48 ⟨by decide, by decide⟩ (by decide) ?_
      exact wp_iret d_mo_lend_50 rfl ⟨Nat.le_of_ble_eq_true rfl, Nat.le_of_ble_eq_true rfl⟩ ⟨_, rfl, rfl, rfl, h⟩
    · have h := h.2 c4
      refine wp_iload_n d_mo_lend_24 rfl 3 rfl ?_
      refine wp_i2l d_mo_lend_25 ?_
      refine wp_ldc2 lk_mo_143 d_mo_lend_26 ⟨by decide, by decide⟩ ?_
      refine wp_ldc2 lk_mo_92 d_mo_lend_29 ⟨by decide, by decide⟩ ?_
      refine wp_callS [pL _, pL _, pL _] d_mo_lend_32 jd_mo_in lk_mo_79 rfl (Nat.le_of_ble_eq_true rfl) rfl ?_
      refine clI_k h ?_
      intro x5 M4 h
      refine wp_if_eq 48 d_mo_lend_35 (by decide) (fun c6 => ?_) (fun c6 => ?_)
      · have h := h.1 c6
        refine wp_bipush d_mo_lend_48 ⟨by decide, by decide⟩ (by decide) ?_
        exact wp_iret d_mo_lend_50 rfl ⟨Nat.le_of_ble_eq_true rfl, Nat.le_of_ble_eq_true rfl⟩ ⟨_, rfl, rfl, rfl, h⟩
      · have h := h.2 c6
        refine wp_aload_n d_mo_lend_38 rfl 0 rfl ?_
        refine wp_iload_n d_mo_lend_39 rfl 1 rfl ?_
        refine wp_iload_n d_mo_lend_40 rfl 2 rfl ?_
        refine wp_iload_n d_mo_lend_41 rfl 3 rfl ?_
        refine wp_callV [pI _, pI _, pI _] _ d_mo_lend_42 jd_mo_lendOf lk_mo_228 rfl s_101 rfl (Nat.le_of_ble_eq_true rfl) (Nat.le_of_ble_eq_true rfl) rfl ?_
        refine clI_k h ?_
        intro x7 M5 h
        refine wp_goto 50 d_mo_lend_45 (by decide) ?_
        exact wp_iret d_mo_lend_50 rfl ⟨Nat.le_of_ble_eq_true rfl, Nat.le_of_ble_eq_true rfl⟩ ⟨_, rfl, rfl, rfl, h⟩
set_option maxHeartbeats 8000000 in
theorem e_mo_longestOf {G : GT} {M : MT} {P : Int → MT → Prop} (v1 : Int) (v2 : Int) (v3 : Int)
    (h : WpI G J_mo_longestOf 9 [(0, pR 101), (1, pI v1), (2, pI v2), (3, pI v3), (4, pI (-1)), (5, pI (-1)), (6, pI 0)] [] M P) : ClI G J_mo_longestOf M [pR 101, pI v1, pI v2, pI v3] P := by
  show Wp G J_mo_longestOf 0 0 0 [(0, pR 101), (1, pI v1), (2, pI v2), (3, pI v3)] [] NN RF M _
  refine wp_iconst d_mo_longestOf_0 ⟨by decide, by decide⟩ ?_
  refine wp_istore (L2 := [(0, pR 101), (1, pI _), (2, pI _), (3, pI _), (4, pI _)]) d_mo_longestOf_1 (Nat.le_of_ble_eq_true rfl) [1, 2, 3, 4, 0] rfl ?_
  refine wp_iconst d_mo_longestOf_3 ⟨by decide, by decide⟩ ?_
  refine wp_istore (L2 := [(0, pR 101), (1, pI _), (2, pI _), (3, pI _), (4, pI _), (5, pI _)]) d_mo_longestOf_4 (Nat.le_of_ble_eq_true rfl) [1, 2, 3, 4, 5, 0] rfl ?_
  refine wp_iconst d_mo_longestOf_6 ⟨by decide, by decide⟩ ?_
  refine wp_istore (L2 := [(0, pR 101), (1, pI _), (2, pI _), (3, pI _), (4, pI _), (5, pI _), (6, pI _)]) d_mo_longestOf_7 (Nat.le_of_ble_eq_true rfl) [1, 2, 3, 4, 5, 6, 0] rfl ?_
  exact h
set_option maxHeartbeats 8000000 in
theorem b_mo_longestOf_9 {G : GT} {M : MT} {P : Int → MT → Prop} (v1 : Int) (v2 : Int) (v3 : Int) (v4 : Int) (v5 : Int) (v6 : Int)
    (h : ClI G J_mo_codes M [pR 101, pI v2] (fun x1 M1 => ((x1 ≤ v6 → (¬ v4 = (-1) → (¬ v3 = (-1) → ClI G J_mo_figureOf M1 [pR 101, pI v4, pI v2, pI v3] (fun x5 M2 => (P x5 M2))) ∧ (v3 = (-1) → P v5 M1)) ∧ (v4 = (-1) → P (-1) M1)) ∧ (v6 < x1 → ClV G J_mo_turns M1 [pR 101, pI v1, pI v6, pI v2] (fun M2 => (((M2 113 6) ≤ v5 → ClI G J_mo_greater M2 [pI (M2 113 6), pI v5] (fun x4 M3 => (WpI G J_mo_longestOf 9 [(0, pR 101), (1, pI v1), (2, pI v2), (3, pI v3), (4, pI v4), (5, pI x4), (6, pI (w32 (v6 + 1)))] [] M3 P))) ∧ (v5 < (M2 113 6) → ClI G J_mo_greater M2 [pI (M2 113 6), pI v5] (fun x4 M3 => (WpI G J_mo_longestOf 9 [(0, pR 101), (1, pI v1), (2, pI v2), (3, pI v3), (4, pI v6), (5, pI x4), (6, pI (w32 (v6 + 1)))] [] M3 P))))))))) : WpI G J_mo_longestOf 9 [(0, pR 101), (1, pI v1), (2, pI v2), (3, pI v3), (4, pI v4), (5, pI v5), (6, pI v6)] [] M P := by
  show Wp G J_mo_longestOf 0 0 9 [(0, pR 101), (1, pI v1), (2, pI v2), (3, pI v3), (4, pI v4), (5, pI v5), (6, pI v6)] [] NN RF M _
  refine wp_iload d_mo_longestOf_9 6 rfl ?_
  refine wp_aload_n d_mo_longestOf_11 rfl 0 rfl ?_
  refine wp_iload_n d_mo_longestOf_12 rfl 2 rfl ?_
  refine wp_callV [pI _] _ d_mo_longestOf_13 jd_mo_codes lk_mo_216 rfl s_101 rfl (Nat.le_of_ble_eq_true rfl) (Nat.le_of_ble_eq_true rfl) rfl ?_
  refine clI_k h ?_
  intro x1 M1 h
  refine wp_icmp_ge 68 d_mo_longestOf_16 (by decide) (fun c2 => ?_) (fun c2 => ?_)
  · have h := h.1 c2
    refine wp_iload d_mo_longestOf_68 4 rfl ?_
    refine wp_iconst d_mo_longestOf_70 ⟨by decide, by decide⟩ ?_
    refine wp_icmp_ne 78 d_mo_longestOf_71 (by decide) (fun c3 => ?_) (fun c3 => ?_)
    · have h := h.1 c3
      refine wp_iload_n d_mo_longestOf_78 rfl 3 rfl ?_
      refine wp_iconst d_mo_longestOf_79 ⟨by decide, by decide⟩ ?_
      refine wp_icmp_ne 88 d_mo_longestOf_80 (by decide) (fun c4 => ?_) (fun c4 => ?_)
      · have h := h.1 c4
        refine wp_aload_n d_mo_longestOf_88 rfl 0 rfl ?_
        refine wp_iload d_mo_longestOf_89 4 rfl ?_
        refine wp_iload_n d_mo_longestOf_91 rfl 2 rfl ?_
        refine wp_iload_n d_mo_longestOf_92 rfl 3 rfl ?_
        refine wp_callV [pI _, pI _, pI _] _ d_mo_longestOf_93 jd_mo_figureOf lk_mo_213 rfl s_101 rfl (Nat.le_of_ble_eq_true rfl) (Nat.le_of_ble_eq_true rfl) rfl ?_
        refine clI_k h ?_
        intro x5 M2 h
        exact wp_iret d_mo_longestOf_96 rfl ⟨Nat.le_of_ble_eq_true rfl, Nat.le_of_ble_eq_true rfl⟩ ⟨_, rfl, rfl, rfl, h⟩
      · have h := h.2 c4
        refine wp_iload d_mo_longestOf_83 5 rfl ?_
        refine wp_goto 96 d_mo_longestOf_85 (by decide) ?_
        exact wp_iret d_mo_longestOf_96 rfl ⟨Nat.le_of_ble_eq_true rfl, Nat.le_of_ble_eq_true rfl⟩ ⟨_, rfl, rfl, rfl, h⟩
    · have h := h.2 c3
      refine wp_iconst d_mo_longestOf_74 ⟨by decide, by decide⟩ ?_
      refine wp_goto 96 d_mo_longestOf_75 (by decide) ?_
      exact wp_iret d_mo_longestOf_96 rfl ⟨Nat.le_of_ble_eq_true rfl, Nat.le_of_ble_eq_true rfl⟩ ⟨_, rfl, rfl, rfl, h⟩
  · have h := h.2 c2
    refine wp_aload_n d_mo_longestOf_19 rfl 0 rfl ?_
    refine wp_iload_n d_mo_longestOf_20 rfl 1 rfl ?_
    refine wp_iload d_mo_longestOf_21 6 rfl ?_
    refine wp_iload_n d_mo_longestOf_23 rfl 2 rfl ?_
    refine wp_callV [pI _, pI _, pI _] _ d_mo_longestOf_24 jd_mo_turns lk_mo_219 rfl s_101 rfl (Nat.le_of_ble_eq_true rfl) (Nat.le_of_ble_eq_true rfl) rfl ?_
    refine clV_k h ?_
    intro M2 h
    refine wp_aload_n d_mo_longestOf_27 rfl 0 rfl ?_
    refine wp_getr d_mo_longestOf_28 16 s_101 rfl (Nat.le_of_ble_eq_true rfl) (Nat.le_of_ble_eq_true rfl) rfl rfl lk_mo_43 ?_
    refine wp_bipush d_mo_longestOf_31 ⟨by decide, by decide⟩ (by decide) ?_
    refine wp_iald d_mo_longestOf_33 s_113 (Nat.le_of_ble_eq_true rfl) (by decide) (by decide) ?_
    refine wp_iload d_mo_longestOf_34 5 rfl ?_
    refine wp_icmp_le 44 d_mo_longestOf_36 (by decide) (fun c3 => ?_) (fun c3 => ?_)
    · have h := h.1 c3
      refine wp_iload d_mo_longestOf_44 4 rfl ?_
      refine wp_istore (L2 := [(0, pR 101), (1, pI _), (2, pI _), (3, pI _), (4, pI _), (5, pI _), (6, pI _)]) d_mo_longestOf_46 (Nat.le_of_ble_eq_true rfl) [1, 2, 3, 4, 0, 5, 6] rfl ?_
      refine wp_aload_n d_mo_longestOf_48 rfl 0 rfl ?_
      refine wp_getr d_mo_longestOf_49 16 s_101 rfl (Nat.le_of_ble_eq_true rfl) (Nat.le_of_ble_eq_true rfl) rfl rfl lk_mo_43 ?_
      refine wp_bipush d_mo_longestOf_52 ⟨by decide, by decide⟩ (by decide) ?_
      refine wp_iald d_mo_longestOf_54 s_113 (Nat.le_of_ble_eq_true rfl) (by decide) (by decide) ?_
      refine wp_iload d_mo_longestOf_55 5 rfl ?_
      refine wp_callS [pI _, pI _] d_mo_longestOf_57 jd_mo_greater lk_mo_168 rfl (Nat.le_of_ble_eq_true rfl) rfl ?_
      refine clI_k h ?_
      intro x4 M3 h
      refine wp_istore (L2 := [(0, pR 101), (1, pI _), (2, pI _), (3, pI _), (4, pI _), (5, pI _), (6, pI _)]) d_mo_longestOf_60 (Nat.le_of_ble_eq_true rfl) [1, 2, 3, 4, 5, 0, 6] rfl ?_
      refine wp_iinc (L2 := [(0, pR 101), (1, pI _), (2, pI _), (3, pI _), (4, pI _), (5, pI _), (6, pI _)]) d_mo_longestOf_62 6 rfl (Nat.le_of_ble_eq_true rfl) [1, 2, 3, 4, 5, 6, 0] rfl ?_
      refine wp_goto 9 d_mo_longestOf_65 (by decide) ?_
      exact h
    · have h := h.2 c3
      refine wp_iload d_mo_longestOf_39 6 rfl ?_
      refine wp_goto 46 d_mo_longestOf_41 (by decide) ?_
      refine wp_istore (L2 := [(0, pR 101), (1, pI _), (2, pI _), (3, pI _), (4, pI _), (5, pI _), (6, pI _)]) d_mo_longestOf_46 (Nat.le_of_ble_eq_true rfl) [1, 2, 3, 4, 0, 5, 6] rfl ?_
      refine wp_aload_n d_mo_longestOf_48 rfl 0 rfl ?_
      refine wp_getr d_mo_longestOf_49 16 s_101 rfl (Nat.le_of_ble_eq_true rfl) (Nat.le_of_ble_eq_true rfl) rfl rfl lk_mo_43 ?_
      refine wp_bipush d_mo_longestOf_52 ⟨by decide, by decide⟩ (by decide) ?_
      refine wp_iald d_mo_longestOf_54 s_113 (Nat.le_of_ble_eq_true rfl) (by decide) (by decide) ?_
      refine wp_iload d_mo_longestOf_55 5 rfl ?_
      refine wp_callS [pI _, pI _] d_mo_longestOf_57 jd_mo_greater lk_mo_168 rfl (Nat.le_of_ble_eq_true rfl) rfl ?_
      refine clI_k h ?_
      intro x4 M3 h
      refine wp_istore (L2 := [(0, pR 101), (1, pI _), (2, pI _), (3, pI _), (4, pI _), (5, pI _), (6, pI _)]) d_mo_longestOf_60 (Nat.le_of_ble_eq_true rfl) [1, 2, 3, 4, 5, 0, 6] rfl ?_
      refine wp_iinc (L2 := [(0, pR 101), (1, pI _), (2, pI _), (3, pI _), (4, pI _), (5, pI _), (6, pI _)]) d_mo_longestOf_62 6 rfl (Nat.le_of_ble_eq_true rfl) [1, 2, 3, 4, 5, 6, 0] rfl ?_
      refine wp_goto 9 d_mo_longestOf_65 (by decide) ?_
      exact h
set_option maxHeartbeats 8000000 in
theorem e_mo_longest {G : GT} {M : MT} {P : Int → MT → Prop} (v1 : Int) (v2 : Int) (v3 : Int)
    (h : ClV G J_mo_reads M [pR 101] (fun M1 => (ClI G J_mo_isTune M1 [pR 101, pI v1] (fun x1 M2 => ((x1 = 0 → P (-2) M2) ∧ (¬ x1 = 0 → ClI G J_mo_in M2 [pL v2, pL 1, pL 3] (fun x3 M3 => ((x3 = 0 → P (-2) M3) ∧ (¬ x3 = 0 → ClI G J_mo_in M3 [pL v3, pL (-1), pL (w32 (v2 - 1))] (fun x5 M4 => ((x5 = 0 → P (-2) M4) ∧ (¬ x5 = 0 → ClI G J_mo_longestOf M4 [pR 101, pI v1, pI v2, pI v3] (fun x7 M5 => (P x7 M5)))))))))))))) : ClI G J_mo_longest M [pR 101, pI v1, pI v2, pI v3] P := by
  show Wp G J_mo_longest 0 0 0 [(0, pR 101), (1, pI v1), (2, pI v2), (3, pI v3)] [] NN RF M _
  refine wp_aload_n d_mo_longest_0 rfl 0 rfl ?_
  refine wp_callV [] _ d_mo_longest_1 jd_mo_reads lk_mo_137 rfl s_101 rfl (Nat.le_of_ble_eq_true rfl) (Nat.le_of_ble_eq_true rfl) rfl ?_
  refine clV_k h ?_
  intro M1 h
  refine wp_aload_n d_mo_longest_4 rfl 0 rfl ?_
  refine wp_iload_n d_mo_longest_5 rfl 1 rfl ?_
  refine wp_callV [pI _] _ d_mo_longest_6 jd_mo_isTune lk_mo_140 rfl s_101 rfl (Nat.le_of_ble_eq_true rfl) (Nat.le_of_ble_eq_true rfl) rfl ?_
  refine clI_k h ?_
  intro x1 M2 h
  refine wp_if_eq 49 d_mo_longest_9 (by decide) (fun c2 => ?_) (fun c2 => ?_)
  · have h := h.1 c2
    refine wp_bipush d_mo_longest_49 ⟨by decide, by decide⟩ (by decide) ?_
    exact wp_iret d_mo_longest_51 rfl ⟨Nat.le_of_ble_eq_true rfl, Nat.le_of_ble_eq_true rfl⟩ ⟨_, rfl, rfl, rfl, h⟩
  · have h := h.2 c2
    refine wp_iload_n d_mo_longest_12 rfl 2 rfl ?_
    refine wp_i2l d_mo_longest_13 ?_
    refine wp_lconst (v := 1) d_mo_longest_14 rfl ?_
    refine wp_ldc2 lk_mo_86 d_mo_longest_15 ⟨by decide, by decide⟩ ?_
    refine wp_callS [pL _, pL _, pL _] d_mo_longest_18 jd_mo_in lk_mo_79 rfl (Nat.le_of_ble_eq_true rfl) rfl ?_
    refine clI_k h ?_
    intro x3 M3 h
    refine wp_if_eq 49 d_mo_longest_21 (by decide) (fun c4 => ?_) (fun c4 => ?_)
    · have h := h.1 c4
      refine wp_bipush d_mo_longest_49 ⟨by decide, by decide⟩ (by decide) ?_
      exact wp_iret d_mo_longest_51 rfl ⟨Nat.le_of_ble_eq_true rfl, Nat.le_of_ble_eq_true rfl⟩ ⟨_, rfl, rfl, rfl, h⟩
    · have h := h.2 c4
      refine wp_iload_n d_mo_longest_24 rfl 3 rfl ?_
      refine wp_i2l d_mo_longest_25 ?_
      refine wp_ldc2 lk_mo_143 d_mo_longest_26 ⟨by decide, by decide⟩ ?_
      refine wp_iload_n d_mo_longest_29 rfl 2 rfl ?_
      refine wp_iconst d_mo_longest_30 ⟨by decide, by decide⟩ ?_
      refine wp_isub d_mo_longest_31 ?_
      refine wp_i2l d_mo_longest_32 ?_
      refine wp_callS [pL _, pL _, pL _] d_mo_longest_33 jd_mo_in lk_mo_79 rfl (Nat.le_of_ble_eq_true rfl) rfl ?_
      refine clI_k h ?_
      intro x5 M4 h
      refine wp_if_eq 49 d_mo_longest_36 (by decide) (fun c6 => ?_) (fun c6 => ?_)
      · have h := h.1 c6
        refine wp_bipush d_mo_longest_49 ⟨by decide, by decide⟩ (by decide) ?_
        exact wp_iret d_mo_longest_51 rfl ⟨Nat.le_of_ble_eq_true rfl, Nat.le_of_ble_eq_true rfl⟩ ⟨_, rfl, rfl, rfl, h⟩
      · have h := h.2 c6
        refine wp_aload_n d_mo_longest_39 rfl 0 rfl ?_
        refine wp_iload_n d_mo_longest_40 rfl 1 rfl ?_
        refine wp_iload_n d_mo_longest_41 rfl 2 rfl ?_
        refine wp_iload_n d_mo_longest_42 rfl 3 rfl ?_
        refine wp_callV [pI _, pI _, pI _] _ d_mo_longest_43 jd_mo_longestOf lk_mo_231 rfl s_101 rfl (Nat.le_of_ble_eq_true rfl) (Nat.le_of_ble_eq_true rfl) rfl ?_
        refine clI_k h ?_
        intro x7 M5 h
        refine wp_goto 51 d_mo_longest_46 (by decide) ?_
        exact wp_iret d_mo_longest_51 rfl ⟨Nat.le_of_ble_eq_true rfl, Nat.le_of_ble_eq_true rfl⟩ ⟨_, rfl, rfl, rfl, h⟩
set_option maxHeartbeats 8000000 in
theorem e_mo_isNow {G : GT} {M : MT} {P : Int → MT → Prop} (v1 : Int)
    (h : (0 ≤ v1 ∧ v1 < 6) ∧ ((¬ (M 113 6) = (M 109 (v1.toNat)) → WpI G J_mo_isNow 24 [(0, pR 101), (1, pI v1), (2, pI 0), (3, pI 0)] [] M P) ∧ ((M 113 6) = (M 109 (v1.toNat)) → WpI G J_mo_isNow 24 [(0, pR 101), (1, pI v1), (2, pI 1), (3, pI 0)] [] M P))) : ClI G J_mo_isNow M [pR 101, pI v1] P := by
  show Wp G J_mo_isNow 0 0 0 [(0, pR 101), (1, pI v1)] [] NN RF M _
  refine wp_aload_n d_mo_isNow_0 rfl 0 rfl ?_
  refine wp_getr d_mo_isNow_1 16 s_101 rfl (Nat.le_of_ble_eq_true rfl) (Nat.le_of_ble_eq_true rfl) rfl rfl lk_mo_43 ?_
  refine wp_bipush d_mo_isNow_4 ⟨by decide, by decide⟩ (by decide) ?_
  refine wp_iald d_mo_isNow_6 s_113 (Nat.le_of_ble_eq_true rfl) (by decide) (by decide) ?_
  refine wp_aload_n d_mo_isNow_7 rfl 0 rfl ?_
  refine wp_getr d_mo_isNow_8 9 s_101 rfl (Nat.le_of_ble_eq_true rfl) (Nat.le_of_ble_eq_true rfl) rfl rfl lk_mo_31 ?_
  refine wp_iload_n d_mo_isNow_11 rfl 1 rfl ?_
  obtain ⟨⟨a1, b1⟩, h⟩ := h
  refine wp_iald d_mo_isNow_12 s_109 (Nat.le_of_ble_eq_true rfl) a1 b1 ?_
  refine wp_icmp_ne 20 d_mo_isNow_13 (by decide) (fun c2 => ?_) (fun c2 => ?_)
  · have h := h.1 c2
    refine wp_iconst d_mo_isNow_20 ⟨by decide, by decide⟩ ?_
    refine wp_istore_n (L2 := [(0, pR 101), (1, pI _), (2, pI _)]) d_mo_isNow_21 rfl (Nat.le_of_ble_eq_true rfl) [1, 2, 0] rfl ?_
    refine wp_iconst d_mo_isNow_22 ⟨by decide, by decide⟩ ?_
    refine wp_istore_n (L2 := [(0, pR 101), (1, pI _), (2, pI _), (3, pI _)]) d_mo_isNow_23 rfl (Nat.le_of_ble_eq_true rfl) [1, 2, 3, 0] rfl ?_
    exact h
  · have h := h.2 c2
    refine wp_iconst d_mo_isNow_16 ⟨by decide, by decide⟩ ?_
    refine wp_goto 21 d_mo_isNow_17 (by decide) ?_
    refine wp_istore_n (L2 := [(0, pR 101), (1, pI _), (2, pI _)]) d_mo_isNow_21 rfl (Nat.le_of_ble_eq_true rfl) [1, 2, 0] rfl ?_
    refine wp_iconst d_mo_isNow_22 ⟨by decide, by decide⟩ ?_
    refine wp_istore_n (L2 := [(0, pR 101), (1, pI _), (2, pI _), (3, pI _)]) d_mo_isNow_23 rfl (Nat.le_of_ble_eq_true rfl) [1, 2, 3, 0] rfl ?_
    exact h
set_option maxHeartbeats 8000000 in
theorem b_mo_isNow_24 {G : GT} {M : MT} {P : Int → MT → Prop} (v1 : Int) (v2 : Int) (v3 : Int)
    (h : (0 ≤ v1 ∧ v1 < 6) ∧ (((M 109 (v1.toNat)) ≤ v3 → (v2 = 0 ∨ v2 = 1) ∧ (P v2 M)) ∧ (v3 < (M 109 (v1.toNat)) → (v2 = 0 → (v2 = 0 ∨ v2 = 1) ∧ (P v2 M)) ∧ (¬ v2 = 0 → (0 ≤ (w32 (240 + v3)) ∧ (w32 (240 + v3)) < 280) ∧ ((0 ≤ (w32 ((w32 (40 * v1)) + v3)) ∧ (w32 ((w32 (40 * v1)) + v3)) < 240) ∧ ((¬ (M 112 ((w32 (240 + v3)).toNat)) = (M 108 ((w32 ((w32 (40 * v1)) + v3)).toNat)) → WpI G J_mo_isNow 24 [(0, pR 101), (1, pI v1), (2, pI 0), (3, pI (w32 (v3 + 1)))] [] M P) ∧ ((M 112 ((w32 (240 + v3)).toNat)) = (M 108 ((w32 ((w32 (40 * v1)) + v3)).toNat)) → WpI G J_mo_isNow 24 [(0, pR 101), (1, pI v1), (2, pI 1), (3, pI (w32 (v3 + 1)))] [] M P))))))) : WpI G J_mo_isNow 24 [(0, pR 101), (1, pI v1), (2, pI v2), (3, pI v3)] [] M P := by
  show Wp G J_mo_isNow 0 0 24 [(0, pR 101), (1, pI v1), (2, pI v2), (3, pI v3)] [] NN RF M _
  refine wp_iload_n d_mo_isNow_24 rfl 3 rfl ?_
  refine wp_aload_n d_mo_isNow_25 rfl 0 rfl ?_
  refine wp_getr d_mo_isNow_26 9 s_101 rfl (Nat.le_of_ble_eq_true rfl) (Nat.le_of_ble_eq_true rfl) rfl rfl lk_mo_31 ?_
  refine wp_iload_n d_mo_isNow_29 rfl 1 rfl ?_
  obtain ⟨⟨a1, b1⟩, h⟩ := h
  refine wp_iald d_mo_isNow_30 s_109 (Nat.le_of_ble_eq_true rfl) a1 b1 ?_
  refine wp_icmp_ge 74 d_mo_isNow_31 (by decide) (fun c2 => ?_) (fun c2 => ?_)
  · have h := h.1 c2
    refine wp_iload_n d_mo_isNow_74 rfl 2 rfl ?_
    obtain ⟨g3, h⟩ := h
    exact wp_zret d_mo_isNow_75 rfl ⟨Nat.le_of_ble_eq_true rfl, Nat.le_of_ble_eq_true rfl⟩ g3 ⟨_, rfl, rfl, rfl, h⟩
  · have h := h.2 c2
    refine wp_iload_n d_mo_isNow_34 rfl 2 rfl ?_
    refine wp_if_eq 74 d_mo_isNow_35 (by decide) (fun c3 => ?_) (fun c3 => ?_)
    · have h := h.1 c3
      refine wp_iload_n d_mo_isNow_74 rfl 2 rfl ?_
      obtain ⟨g4, h⟩ := h
      exact wp_zret d_mo_isNow_75 rfl ⟨Nat.le_of_ble_eq_true rfl, Nat.le_of_ble_eq_true rfl⟩ g4 ⟨_, rfl, rfl, rfl, h⟩
    · have h := h.2 c3
      refine wp_aload_n d_mo_isNow_38 rfl 0 rfl ?_
      refine wp_getr d_mo_isNow_39 15 s_101 rfl (Nat.le_of_ble_eq_true rfl) (Nat.le_of_ble_eq_true rfl) rfl rfl lk_mo_40 ?_
      refine wp_sipush d_mo_isNow_42 ⟨by decide, by decide⟩ (by decide) ?_
      refine wp_iload_n d_mo_isNow_45 rfl 3 rfl ?_
      refine wp_iadd d_mo_isNow_46 ?_
      obtain ⟨⟨a4, b4⟩, h⟩ := h
      refine wp_iald d_mo_isNow_47 s_112 (Nat.le_of_ble_eq_true rfl) a4 b4 ?_
      refine wp_aload_n d_mo_isNow_48 rfl 0 rfl ?_
      refine wp_getr d_mo_isNow_49 8 s_101 rfl (Nat.le_of_ble_eq_true rfl) (Nat.le_of_ble_eq_true rfl) rfl rfl lk_mo_28 ?_
      refine wp_bipush d_mo_isNow_52 ⟨by decide, by decide⟩ (by decide) ?_
      refine wp_iload_n d_mo_isNow_54 rfl 1 rfl ?_
      refine wp_imul d_mo_isNow_55 ?_
      refine wp_iload_n d_mo_isNow_56 rfl 3 rfl ?_
      refine wp_iadd d_mo_isNow_57 ?_
      obtain ⟨⟨a5, b5⟩, h⟩ := h
      refine wp_iald d_mo_isNow_58 s_108 (Nat.le_of_ble_eq_true rfl) a5 b5 ?_
      refine wp_icmp_ne 66 d_mo_isNow_59 (by decide) (fun c6 => ?_) (fun c6 => ?_)
      · have h := h.1 c6
        refine wp_iconst d_mo_isNow_66 ⟨by decide, by decide⟩ ?_
        refine wp_istore_n (L2 := [(0, pR 101), (1, pI _), (2, pI _), (3, pI _)]) d_mo_isNow_67 rfl (Nat.le_of_ble_eq_true rfl) [1, 2, 0, 3] rfl ?_
        refine wp_iinc (L2 := [(0, pR 101), (1, pI _), (2, pI _), (3, pI _)]) d_mo_isNow_68 3 rfl (Nat.le_of_ble_eq_true rfl) [1, 2, 3, 0] rfl ?_
        refine wp_goto 24 d_mo_isNow_71 (by decide) ?_
        exact h
      · have h := h.2 c6
        refine wp_iconst d_mo_isNow_62 ⟨by decide, by decide⟩ ?_
        refine wp_goto 67 d_mo_isNow_63 (by decide) ?_
        refine wp_istore_n (L2 := [(0, pR 101), (1, pI _), (2, pI _), (3, pI _)]) d_mo_isNow_67 rfl (Nat.le_of_ble_eq_true rfl) [1, 2, 0, 3] rfl ?_
        refine wp_iinc (L2 := [(0, pR 101), (1, pI _), (2, pI _), (3, pI _)]) d_mo_isNow_68 3 rfl (Nat.le_of_ble_eq_true rfl) [1, 2, 3, 0] rfl ?_
        refine wp_goto 24 d_mo_isNow_71 (by decide) ?_
        exact h
set_option maxHeartbeats 8000000 in
theorem e_mo_rowOf {G : GT} {M : MT} {P : Int → MT → Prop} (v1 : Int) (v2 : Int)
    (h : WpI G J_mo_rowOf 5 [(0, pR 101), (1, pI v1), (2, pI v2), (3, pI 0), (4, pI 0)] [] M P) : ClI G J_mo_rowOf M [pR 101, pI v1, pI v2] P := by
  show Wp G J_mo_rowOf 0 0 0 [(0, pR 101), (1, pI v1), (2, pI v2)] [] NN RF M _
  refine wp_iconst d_mo_rowOf_0 ⟨by decide, by decide⟩ ?_
  refine wp_istore_n (L2 := [(0, pR 101), (1, pI _), (2, pI _), (3, pI _)]) d_mo_rowOf_1 rfl (Nat.le_of_ble_eq_true rfl) [1, 2, 3, 0] rfl ?_
  refine wp_iconst d_mo_rowOf_2 ⟨by decide, by decide⟩ ?_
  refine wp_istore (L2 := [(0, pR 101), (1, pI _), (2, pI _), (3, pI _), (4, pI _)]) d_mo_rowOf_3 (Nat.le_of_ble_eq_true rfl) [1, 2, 3, 4, 0] rfl ?_
  exact h
set_option maxHeartbeats 8000000 in
theorem b_mo_rowOf_5 {G : GT} {M : MT} {P : Int → MT → Prop} (v1 : Int) (v2 : Int) (v3 : Int) (v4 : Int)
    (h : (v2 ≤ v4 → P v3 M) ∧ (v4 < v2 → ClI G J_mo_figureOf M [pR 101, pI v1, pI v2, pI v4] (fun x2 M1 => (WpI G J_mo_rowOf 5 [(0, pR 101), (1, pI v1), (2, pI v2), (3, pI (w32 ((w32 ((w32 (7 * v3)) + x2)) + 1))), (4, pI (w32 (v4 + 1)))] [] M1 P)))) : WpI G J_mo_rowOf 5 [(0, pR 101), (1, pI v1), (2, pI v2), (3, pI v3), (4, pI v4)] [] M P := by
  show Wp G J_mo_rowOf 0 0 5 [(0, pR 101), (1, pI v1), (2, pI v2), (3, pI v3), (4, pI v4)] [] NN RF M _
  refine wp_iload d_mo_rowOf_5 4 rfl ?_
  refine wp_iload_n d_mo_rowOf_7 rfl 2 rfl ?_
  refine wp_icmp_ge 33 d_mo_rowOf_8 (by decide) (fun c1 => ?_) (fun c1 => ?_)
  · have h := h.1 c1
    refine wp_iload_n d_mo_rowOf_33 rfl 3 rfl ?_
    exact wp_iret d_mo_rowOf_34 rfl ⟨Nat.le_of_ble_eq_true rfl, Nat.le_of_ble_eq_true rfl⟩ ⟨_, rfl, rfl, rfl, h⟩
  · have h := h.2 c1
    refine wp_bipush d_mo_rowOf_11 ⟨by decide, by decide⟩ (by decide) ?_
    refine wp_iload_n d_mo_rowOf_13 rfl 3 rfl ?_
    refine wp_imul d_mo_rowOf_14 ?_
    refine wp_aload_n d_mo_rowOf_15 rfl 0 rfl ?_
    refine wp_iload_n d_mo_rowOf_16 rfl 1 rfl ?_
    refine wp_iload_n d_mo_rowOf_17 rfl 2 rfl ?_
    refine wp_iload d_mo_rowOf_18 4 rfl ?_
    refine wp_callV [pI _, pI _, pI _] _ d_mo_rowOf_20 jd_mo_figureOf lk_mo_213 rfl s_101 rfl (Nat.le_of_ble_eq_true rfl) (Nat.le_of_ble_eq_true rfl) rfl ?_
    refine clI_k h ?_
    intro x2 M1 h
    refine wp_iadd d_mo_rowOf_23 ?_
    refine wp_iconst d_mo_rowOf_24 ⟨by decide, by decide⟩ ?_
    refine wp_iadd d_mo_rowOf_25 ?_
    refine wp_istore_n (L2 := [(0, pR 101), (1, pI _), (2, pI _), (3, pI _), (4, pI _)]) d_mo_rowOf_26 rfl (Nat.le_of_ble_eq_true rfl) [1, 2, 3, 0, 4] rfl ?_
    refine wp_iinc (L2 := [(0, pR 101), (1, pI _), (2, pI _), (3, pI _), (4, pI _)]) d_mo_rowOf_27 4 rfl (Nat.le_of_ble_eq_true rfl) [1, 2, 3, 4, 0] rfl ?_
    refine wp_goto 5 d_mo_rowOf_30 (by decide) ?_
    exact h
set_option maxHeartbeats 8000000 in
theorem e_mo_whoOf {G : GT} {M : MT} {P : Int → MT → Prop} (v1 : Int) (v2 : Int) (v3 : Int)
    (h : WpI G J_mo_whoOf 9 [(0, pR 101), (1, pI v1), (2, pI v2), (3, pI v3), (4, pI 0), (5, pI (-1)), (6, pI 0)] [] M P) : ClI G J_mo_whoOf M [pR 101, pI v1, pI v2, pI v3] P := by
  show Wp G J_mo_whoOf 0 0 0 [(0, pR 101), (1, pI v1), (2, pI v2), (3, pI v3)] [] NN RF M _
  refine wp_iconst d_mo_whoOf_0 ⟨by decide, by decide⟩ ?_
  refine wp_istore (L2 := [(0, pR 101), (1, pI _), (2, pI _), (3, pI _), (4, pI _)]) d_mo_whoOf_1 (Nat.le_of_ble_eq_true rfl) [1, 2, 3, 4, 0] rfl ?_
  refine wp_iconst d_mo_whoOf_3 ⟨by decide, by decide⟩ ?_
  refine wp_istore (L2 := [(0, pR 101), (1, pI _), (2, pI _), (3, pI _), (4, pI _), (5, pI _)]) d_mo_whoOf_4 (Nat.le_of_ble_eq_true rfl) [1, 2, 3, 4, 5, 0] rfl ?_
  refine wp_iconst d_mo_whoOf_6 ⟨by decide, by decide⟩ ?_
  refine wp_istore (L2 := [(0, pR 101), (1, pI _), (2, pI _), (3, pI _), (4, pI _), (5, pI _), (6, pI _)]) d_mo_whoOf_7 (Nat.le_of_ble_eq_true rfl) [1, 2, 3, 4, 5, 6, 0] rfl ?_
  exact h
set_option maxHeartbeats 8000000 in
theorem b_mo_whoOf_9 {G : GT} {M : MT} {P : Int → MT → Prop} (v1 : Int) (v2 : Int) (v3 : Int) (v4 : Int) (v5 : Int) (v6 : Int)
    (h : (4 ≤ v6 → (¬ v3 = 0 → P v5 M) ∧ (v3 = 0 → P v4 M)) ∧ (v6 < 4 → WpI G J_mo_whoOf 18 [(0, pR 101), (1, pI v1), (2, pI v2), (3, pI v3), (4, pI v4), (5, pI v5), (6, pI v6), (7, pI 0)] [] M P)) : WpI G J_mo_whoOf 9 [(0, pR 101), (1, pI v1), (2, pI v2), (3, pI v3), (4, pI v4), (5, pI v5), (6, pI v6)] [] M P := by
  show Wp G J_mo_whoOf 0 0 9 [(0, pR 101), (1, pI v1), (2, pI v2), (3, pI v3), (4, pI v4), (5, pI v5), (6, pI v6)] [] NN RF M _
  refine wp_iload d_mo_whoOf_9 6 rfl ?_
  refine wp_iconst d_mo_whoOf_11 ⟨by decide, by decide⟩ ?_
  refine wp_icmp_ge 81 d_mo_whoOf_12 (by decide) (fun c1 => ?_) (fun c1 => ?_)
  · have h := h.1 c1
    refine wp_iload_n d_mo_whoOf_81 rfl 3 rfl ?_
    refine wp_if_ne 90 d_mo_whoOf_82 (by decide) (fun c2 => ?_) (fun c2 => ?_)
    · have h := h.1 c2
      refine wp_iload d_mo_whoOf_90 5 rfl ?_
      exact wp_iret d_mo_whoOf_92 rfl ⟨Nat.le_of_ble_eq_true rfl, Nat.le_of_ble_eq_true rfl⟩ ⟨_, rfl, rfl, rfl, h⟩
    · have h := h.2 c2
      refine wp_iload d_mo_whoOf_85 4 rfl ?_
      refine wp_goto 92 d_mo_whoOf_87 (by decide) ?_
      exact wp_iret d_mo_whoOf_92 rfl ⟨Nat.le_of_ble_eq_true rfl, Nat.le_of_ble_eq_true rfl⟩ ⟨_, rfl, rfl, rfl, h⟩
  · have h := h.2 c1
    refine wp_iconst d_mo_whoOf_15 ⟨by decide, by decide⟩ ?_
    refine wp_istore (L2 := [(0, pR 101), (1, pI _), (2, pI _), (3, pI _), (4, pI _), (5, pI _), (6, pI _), (7, pI _)]) d_mo_whoOf_16 (Nat.le_of_ble_eq_true rfl) [1, 2, 3, 4, 5, 6, 7, 0] rfl ?_
    exact h
set_option maxHeartbeats 8000000 in
theorem b_mo_whoOf_18 {G : GT} {M : MT} {P : Int → MT → Prop} (v1 : Int) (v2 : Int) (v3 : Int) (v4 : Int) (v5 : Int) (v6 : Int) (v7 : Int)
    (h : ClI G J_mo_codes M [pR 101, pI v6] (fun x1 M1 => ((x1 ≤ v7 → WpI G J_mo_whoOf 9 [(0, pR 101), (1, pI v1), (2, pI v2), (3, pI v3), (4, pI v4), (5, pI v5), (6, pI (w32 (v6 + 1)))] [] M1 P) ∧ (v7 < x1 → ClV G J_mo_turns M1 [pR 101, pI v1, pI v7, pI v6] (fun M2 => (ClI G J_mo_isNow M2 [pR 101, pI v2] (fun x3 M3 => ((x3 = 0 → WpI G J_mo_whoOf 18 [(0, pR 101), (1, pI v1), (2, pI v2), (3, pI v3), (4, pI v4), (5, pI v5), (6, pI v6), (7, pI (w32 (v7 + 1)))] [] M3 P) ∧ (¬ x3 = 0 → (¬ v4 = 0 → WpI G J_mo_whoOf 18 [(0, pR 101), (1, pI v1), (2, pI v2), (3, pI v3), (4, pI (w32 (v4 + 1))), (5, pI v5), (6, pI v6), (7, pI (w32 (v7 + 1)))] [] M3 P) ∧ (v4 = 0 → ClI G J_mo_rowOf M3 [pR 101, pI v7, pI v6] (fun x6 M4 => (WpI G J_mo_whoOf 18 [(0, pR 101), (1, pI v1), (2, pI v2), (3, pI v3), (4, pI (w32 (v4 + 1))), (5, pI x6), (6, pI v6), (7, pI (w32 (v7 + 1)))] [] M4 P)))))))))))) : WpI G J_mo_whoOf 18 [(0, pR 101), (1, pI v1), (2, pI v2), (3, pI v3), (4, pI v4), (5, pI v5), (6, pI v6), (7, pI v7)] [] M P := by
  show Wp G J_mo_whoOf 0 0 18 [(0, pR 101), (1, pI v1), (2, pI v2), (3, pI v3), (4, pI v4), (5, pI v5), (6, pI v6), (7, pI v7)] [] NN RF M _
  refine wp_iload d_mo_whoOf_18 7 rfl ?_
  refine wp_aload_n d_mo_whoOf_20 rfl 0 rfl ?_
  refine wp_iload d_mo_whoOf_21 6 rfl ?_
  refine wp_callV [pI _] _ d_mo_whoOf_23 jd_mo_codes lk_mo_216 rfl s_101 rfl (Nat.le_of_ble_eq_true rfl) (Nat.le_of_ble_eq_true rfl) rfl ?_
  refine clI_k h ?_
  intro x1 M1 h
  refine wp_icmp_ge 75 d_mo_whoOf_26 (by decide) (fun c2 => ?_) (fun c2 => ?_)
  · have h := h.1 c2
    refine wp_iinc (L2 := [(0, pR 101), (1, pI _), (2, pI _), (3, pI _), (4, pI _), (5, pI _), (6, pI _), (7, pI _)]) d_mo_whoOf_75 6 rfl (Nat.le_of_ble_eq_true rfl) [1, 2, 3, 4, 5, 6, 0, 7] rfl ?_
    refine wp_goto 9 d_mo_whoOf_78 (by decide) ?_
    refine wp_sub (L2 := [(0, pR 101), (1, pI _), (2, pI _), (3, pI _), (4, pI _), (5, pI _), (6, pI _)]) [0, 1, 2, 3, 4, 5, 6] rfl ?_
    exact h
  · have h := h.2 c2
    refine wp_aload_n d_mo_whoOf_29 rfl 0 rfl ?_
    refine wp_iload_n d_mo_whoOf_30 rfl 1 rfl ?_
    refine wp_iload d_mo_whoOf_31 7 rfl ?_
    refine wp_iload d_mo_whoOf_33 6 rfl ?_
    refine wp_callV [pI _, pI _, pI _] _ d_mo_whoOf_35 jd_mo_turns lk_mo_219 rfl s_101 rfl (Nat.le_of_ble_eq_true rfl) (Nat.le_of_ble_eq_true rfl) rfl ?_
    refine clV_k h ?_
    intro M2 h
    refine wp_aload_n d_mo_whoOf_38 rfl 0 rfl ?_
    refine wp_iload_n d_mo_whoOf_39 rfl 2 rfl ?_
    refine wp_callV [pI _] _ d_mo_whoOf_40 jd_mo_isNow lk_mo_234 rfl s_101 rfl (Nat.le_of_ble_eq_true rfl) (Nat.le_of_ble_eq_true rfl) rfl ?_
    refine clI_k h ?_
    intro x3 M3 h
    refine wp_if_eq 69 d_mo_whoOf_43 (by decide) (fun c4 => ?_) (fun c4 => ?_)
    · have h := h.1 c4
      refine wp_iinc (L2 := [(0, pR 101), (1, pI _), (2, pI _), (3, pI _), (4, pI _), (5, pI _), (6, pI _), (7, pI _)]) d_mo_whoOf_69 7 rfl (Nat.le_of_ble_eq_true rfl) [1, 2, 3, 4, 5, 6, 7, 0] rfl ?_
      refine wp_goto 18 d_mo_whoOf_72 (by decide) ?_
      exact h
    · have h := h.2 c4
      refine wp_iload d_mo_whoOf_46 4 rfl ?_
      refine wp_if_ne 62 d_mo_whoOf_48 (by decide) (fun c5 => ?_) (fun c5 => ?_)
      · have h := h.1 c5
        refine wp_iload d_mo_whoOf_62 5 rfl ?_
        refine wp_istore (L2 := [(0, pR 101), (1, pI _), (2, pI _), (3, pI _), (4, pI _), (5, pI _), (6, pI _), (7, pI _)]) d_mo_whoOf_64 (Nat.le_of_ble_eq_true rfl) [1, 2, 3, 4, 5, 0, 6, 7] rfl ?_
        refine wp_iinc (L2 := [(0, pR 101), (1, pI _), (2, pI _), (3, pI _), (4, pI _), (5, pI _), (6, pI _), (7, pI _)]) d_mo_whoOf_66 4 rfl (Nat.le_of_ble_eq_true rfl) [1, 2, 3, 4, 0, 5, 6, 7] rfl ?_
        refine wp_iinc (L2 := [(0, pR 101), (1, pI _), (2, pI _), (3, pI _), (4, pI _), (5, pI _), (6, pI _), (7, pI _)]) d_mo_whoOf_69 7 rfl (Nat.le_of_ble_eq_true rfl) [1, 2, 3, 4, 5, 6, 7, 0] rfl ?_
        refine wp_goto 18 d_mo_whoOf_72 (by decide) ?_
        exact h
      · have h := h.2 c5
        refine wp_aload_n d_mo_whoOf_51 rfl 0 rfl ?_
        refine wp_iload d_mo_whoOf_52 7 rfl ?_
        refine wp_iload d_mo_whoOf_54 6 rfl ?_
        refine wp_callV [pI _, pI _] _ d_mo_whoOf_56 jd_mo_rowOf lk_mo_237 rfl s_101 rfl (Nat.le_of_ble_eq_true rfl) (Nat.le_of_ble_eq_true rfl) rfl ?_
        refine clI_k h ?_
        intro x6 M4 h
        refine wp_goto 64 d_mo_whoOf_59 (by decide) ?_
        refine wp_istore (L2 := [(0, pR 101), (1, pI _), (2, pI _), (3, pI _), (4, pI _), (5, pI _), (6, pI _), (7, pI _)]) d_mo_whoOf_64 (Nat.le_of_ble_eq_true rfl) [1, 2, 3, 4, 5, 0, 6, 7] rfl ?_
        refine wp_iinc (L2 := [(0, pR 101), (1, pI _), (2, pI _), (3, pI _), (4, pI _), (5, pI _), (6, pI _), (7, pI _)]) d_mo_whoOf_66 4 rfl (Nat.le_of_ble_eq_true rfl) [1, 2, 3, 4, 0, 5, 6, 7] rfl ?_
        refine wp_iinc (L2 := [(0, pR 101), (1, pI _), (2, pI _), (3, pI _), (4, pI _), (5, pI _), (6, pI _), (7, pI _)]) d_mo_whoOf_69 7 rfl (Nat.le_of_ble_eq_true rfl) [1, 2, 3, 4, 5, 6, 7, 0] rfl ?_
        refine wp_goto 18 d_mo_whoOf_72 (by decide) ?_
        exact h
set_option maxHeartbeats 8000000 in
theorem e_mo_who {G : GT} {M : MT} {P : Int → MT → Prop} (v1 : Int) (v2 : Int) (v3 : Int)
    (h : ClV G J_mo_reads M [pR 101] (fun M1 => (ClI G J_mo_isTune M1 [pR 101, pI v1] (fun x1 M2 => ((x1 = 0 → P (-2) M2) ∧ (¬ x1 = 0 → ClI G J_mo_isTune M2 [pR 101, pI v2] (fun x3 M3 => ((x3 = 0 → P (-2) M3) ∧ (¬ x3 = 0 → ClI G J_mo_isTwo M3 [pI v3] (fun x5 M4 => ((x5 = 0 → P (-2) M4) ∧ (¬ x5 = 0 → ClI G J_mo_whoOf M4 [pR 101, pI v1, pI v2, pI v3] (fun x7 M5 => (P x7 M5)))))))))))))) : ClI G J_mo_who M [pR 101, pI v1, pI v2, pI v3] P := by
  show Wp G J_mo_who 0 0 0 [(0, pR 101), (1, pI v1), (2, pI v2), (3, pI v3)] [] NN RF M _
  refine wp_aload_n d_mo_who_0 rfl 0 rfl ?_
  refine wp_callV [] _ d_mo_who_1 jd_mo_reads lk_mo_137 rfl s_101 rfl (Nat.le_of_ble_eq_true rfl) (Nat.le_of_ble_eq_true rfl) rfl ?_
  refine clV_k h ?_
  intro M1 h
  refine wp_aload_n d_mo_who_4 rfl 0 rfl ?_
  refine wp_iload_n d_mo_who_5 rfl 1 rfl ?_
  refine wp_callV [pI _] _ d_mo_who_6 jd_mo_isTune lk_mo_140 rfl s_101 rfl (Nat.le_of_ble_eq_true rfl) (Nat.le_of_ble_eq_true rfl) rfl ?_
  refine clI_k h ?_
  intro x1 M2 h
  refine wp_if_eq 37 d_mo_who_9 (by decide) (fun c2 => ?_) (fun c2 => ?_)
  · have h := h.1 c2
    refine wp_bipush d_mo_who_37 ⟨by decide, by decide⟩ (by decide) ?_
    exact wp_iret d_mo_who_39 rfl ⟨Nat.le_of_ble_eq_true rfl, Nat.le_of_ble_eq_true rfl⟩ ⟨_, rfl, rfl, rfl, h⟩
  · have h := h.2 c2
    refine wp_aload_n d_mo_who_12 rfl 0 rfl ?_
    refine wp_iload_n d_mo_who_13 rfl 2 rfl ?_
    refine wp_callV [pI _] _ d_mo_who_14 jd_mo_isTune lk_mo_140 rfl s_101 rfl (Nat.le_of_ble_eq_true rfl) (Nat.le_of_ble_eq_true rfl) rfl ?_
    refine clI_k h ?_
    intro x3 M3 h
    refine wp_if_eq 37 d_mo_who_17 (by decide) (fun c4 => ?_) (fun c4 => ?_)
    · have h := h.1 c4
      refine wp_bipush d_mo_who_37 ⟨by decide, by decide⟩ (by decide) ?_
      exact wp_iret d_mo_who_39 rfl ⟨Nat.le_of_ble_eq_true rfl, Nat.le_of_ble_eq_true rfl⟩ ⟨_, rfl, rfl, rfl, h⟩
    · have h := h.2 c4
      refine wp_iload_n d_mo_who_20 rfl 3 rfl ?_
      refine wp_callS [pI _] d_mo_who_21 jd_mo_isTwo lk_mo_107 rfl (Nat.le_of_ble_eq_true rfl) rfl ?_
      refine clI_k h ?_
      intro x5 M4 h
      refine wp_if_eq 37 d_mo_who_24 (by decide) (fun c6 => ?_) (fun c6 => ?_)
      · have h := h.1 c6
        refine wp_bipush d_mo_who_37 ⟨by decide, by decide⟩ (by decide) ?_
        exact wp_iret d_mo_who_39 rfl ⟨Nat.le_of_ble_eq_true rfl, Nat.le_of_ble_eq_true rfl⟩ ⟨_, rfl, rfl, rfl, h⟩
      · have h := h.2 c6
        refine wp_aload_n d_mo_who_27 rfl 0 rfl ?_
        refine wp_iload_n d_mo_who_28 rfl 1 rfl ?_
        refine wp_iload_n d_mo_who_29 rfl 2 rfl ?_
        refine wp_iload_n d_mo_who_30 rfl 3 rfl ?_
        refine wp_callV [pI _, pI _, pI _] _ d_mo_who_31 jd_mo_whoOf lk_mo_240 rfl s_101 rfl (Nat.le_of_ble_eq_true rfl) (Nat.le_of_ble_eq_true rfl) rfl ?_
        refine clI_k h ?_
        intro x7 M5 h
        refine wp_goto 39 d_mo_who_34 (by decide) ?_
        exact wp_iret d_mo_who_39 rfl ⟨Nat.le_of_ble_eq_true rfl, Nat.le_of_ble_eq_true rfl⟩ ⟨_, rfl, rfl, rfl, h⟩
set_option maxHeartbeats 8000000 in
theorem e_mo_commonBoth {G : GT} {M : MT} {P : Int → MT → Prop} (v1 : Int) (v2 : Int)
    (h : (0 ≤ v1 ∧ v1 < 6) ∧ ((0 ≤ v2 ∧ v2 < 6) ∧ (ClI G J_mo_commonOf M [pR 101, pR 108, pI (w32 (40 * v1)), pI (M 109 (v1.toNat)), pR 108, pI (w32 (40 * v2)), pI (M 109 (v2.toNat))] (fun x3 M1 => (P x3 M1))))) : ClI G J_mo_commonBoth M [pR 101, pI v1, pI v2] P := by
  show Wp G J_mo_commonBoth 0 0 0 [(0, pR 101), (1, pI v1), (2, pI v2)] [] NN RF M _
  refine wp_aload_n d_mo_commonBoth_0 rfl 0 rfl ?_
  refine wp_aload_n d_mo_commonBoth_1 rfl 0 rfl ?_
  refine wp_getr d_mo_commonBoth_2 8 s_101 rfl (Nat.le_of_ble_eq_true rfl) (Nat.le_of_ble_eq_true rfl) rfl rfl lk_mo_28 ?_
  refine wp_bipush d_mo_commonBoth_5 ⟨by decide, by decide⟩ (by decide) ?_
  refine wp_iload_n d_mo_commonBoth_7 rfl 1 rfl ?_
  refine wp_imul d_mo_commonBoth_8 ?_
  refine wp_aload_n d_mo_commonBoth_9 rfl 0 rfl ?_
  refine wp_getr d_mo_commonBoth_10 9 s_101 rfl (Nat.le_of_ble_eq_true rfl) (Nat.le_of_ble_eq_true rfl) rfl rfl lk_mo_31 ?_
  refine wp_iload_n d_mo_commonBoth_13 rfl 1 rfl ?_
  obtain ⟨⟨a1, b1⟩, h⟩ := h
  refine wp_iald d_mo_commonBoth_14 s_109 (Nat.le_of_ble_eq_true rfl) a1 b1 ?_
  refine wp_aload_n d_mo_commonBoth_15 rfl 0 rfl ?_
  refine wp_getr d_mo_commonBoth_16 8 s_101 rfl (Nat.le_of_ble_eq_true rfl) (Nat.le_of_ble_eq_true rfl) rfl rfl lk_mo_28 ?_
  refine wp_bipush d_mo_commonBoth_19 ⟨by decide, by decide⟩ (by decide) ?_
  refine wp_iload_n d_mo_commonBoth_21 rfl 2 rfl ?_
  refine wp_imul d_mo_commonBoth_22 ?_
  refine wp_aload_n d_mo_commonBoth_23 rfl 0 rfl ?_
  refine wp_getr d_mo_commonBoth_24 9 s_101 rfl (Nat.le_of_ble_eq_true rfl) (Nat.le_of_ble_eq_true rfl) rfl rfl lk_mo_31 ?_
  refine wp_iload_n d_mo_commonBoth_27 rfl 2 rfl ?_
  obtain ⟨⟨a2, b2⟩, h⟩ := h
  refine wp_iald d_mo_commonBoth_28 s_109 (Nat.le_of_ble_eq_true rfl) a2 b2 ?_
  refine wp_callV [pR _, pI _, pI _, pR _, pI _, pI _] _ d_mo_commonBoth_29 jd_mo_commonOf lk_mo_175 rfl s_101 rfl (Nat.le_of_ble_eq_true rfl) (Nat.le_of_ble_eq_true rfl) rfl ?_
  refine clI_k h ?_
  intro x3 M1 h
  exact wp_iret d_mo_commonBoth_32 rfl ⟨Nat.le_of_ble_eq_true rfl, Nat.le_of_ble_eq_true rfl⟩ ⟨_, rfl, rfl, rfl, h⟩
set_option maxHeartbeats 8000000 in
theorem e_mo_common {G : GT} {M : MT} {P : Int → MT → Prop} (v1 : Int) (v2 : Int)
    (h : ClV G J_mo_reads M [pR 101] (fun M1 => (ClI G J_mo_isTune M1 [pR 101, pI v1] (fun x1 M2 => ((x1 = 0 → P (-2) M2) ∧ (¬ x1 = 0 → ClI G J_mo_isTune M2 [pR 101, pI v2] (fun x3 M3 => ((x3 = 0 → P (-2) M3) ∧ (¬ x3 = 0 → ClI G J_mo_commonBoth M3 [pR 101, pI v1, pI v2] (fun x5 M4 => (P x5 M4))))))))))) : ClI G J_mo_common M [pR 101, pI v1, pI v2] P := by
  show Wp G J_mo_common 0 0 0 [(0, pR 101), (1, pI v1), (2, pI v2)] [] NN RF M _
  refine wp_aload_n d_mo_common_0 rfl 0 rfl ?_
  refine wp_callV [] _ d_mo_common_1 jd_mo_reads lk_mo_137 rfl s_101 rfl (Nat.le_of_ble_eq_true rfl) (Nat.le_of_ble_eq_true rfl) rfl ?_
  refine clV_k h ?_
  intro M1 h
  refine wp_aload_n d_mo_common_4 rfl 0 rfl ?_
  refine wp_iload_n d_mo_common_5 rfl 1 rfl ?_
  refine wp_callV [pI _] _ d_mo_common_6 jd_mo_isTune lk_mo_140 rfl s_101 rfl (Nat.le_of_ble_eq_true rfl) (Nat.le_of_ble_eq_true rfl) rfl ?_
  refine clI_k h ?_
  intro x1 M2 h
  refine wp_if_eq 29 d_mo_common_9 (by decide) (fun c2 => ?_) (fun c2 => ?_)
  · have h := h.1 c2
    refine wp_bipush d_mo_common_29 ⟨by decide, by decide⟩ (by decide) ?_
    exact wp_iret d_mo_common_31 rfl ⟨Nat.le_of_ble_eq_true rfl, Nat.le_of_ble_eq_true rfl⟩ ⟨_, rfl, rfl, rfl, h⟩
  · have h := h.2 c2
    refine wp_aload_n d_mo_common_12 rfl 0 rfl ?_
    refine wp_iload_n d_mo_common_13 rfl 2 rfl ?_
    refine wp_callV [pI _] _ d_mo_common_14 jd_mo_isTune lk_mo_140 rfl s_101 rfl (Nat.le_of_ble_eq_true rfl) (Nat.le_of_ble_eq_true rfl) rfl ?_
    refine clI_k h ?_
    intro x3 M3 h
    refine wp_if_eq 29 d_mo_common_17 (by decide) (fun c4 => ?_) (fun c4 => ?_)
    · have h := h.1 c4
      refine wp_bipush d_mo_common_29 ⟨by decide, by decide⟩ (by decide) ?_
      exact wp_iret d_mo_common_31 rfl ⟨Nat.le_of_ble_eq_true rfl, Nat.le_of_ble_eq_true rfl⟩ ⟨_, rfl, rfl, rfl, h⟩
    · have h := h.2 c4
      refine wp_aload_n d_mo_common_20 rfl 0 rfl ?_
      refine wp_iload_n d_mo_common_21 rfl 1 rfl ?_
      refine wp_iload_n d_mo_common_22 rfl 2 rfl ?_
      refine wp_callV [pI _, pI _] _ d_mo_common_23 jd_mo_commonBoth lk_mo_243 rfl s_101 rfl (Nat.le_of_ble_eq_true rfl) (Nat.le_of_ble_eq_true rfl) rfl ?_
      refine clI_k h ?_
      intro x5 M4 h
      refine wp_goto 31 d_mo_common_26 (by decide) ?_
      exact wp_iret d_mo_common_31 rfl ⟨Nat.le_of_ble_eq_true rfl, Nat.le_of_ble_eq_true rfl⟩ ⟨_, rfl, rfl, rfl, h⟩
set_option maxHeartbeats 8000000 in
theorem e_mo_farOf {G : GT} {M : MT} {P : Int → MT → Prop} (v1 : Int) (v2 : Int)
    (h : (0 ≤ v1 ∧ v1 < 6) ∧ ((0 ≤ v2 ∧ v2 < 6) ∧ (ClI G J_mo_commonBoth M [pR 101, pI v1, pI v2] (fun x3 M1 => (P (w32 ((w32 ((M 109 (v1.toNat)) + (M 109 (v2.toNat)))) - (w32 (2 * x3)))) M1))))) : ClI G J_mo_farOf M [pR 101, pI v1, pI v2] P := by
  show Wp G J_mo_farOf 0 0 0 [(0, pR 101), (1, pI v1), (2, pI v2)] [] NN RF M _
  refine wp_aload_n d_mo_farOf_0 rfl 0 rfl ?_
  refine wp_getr d_mo_farOf_1 9 s_101 rfl (Nat.le_of_ble_eq_true rfl) (Nat.le_of_ble_eq_true rfl) rfl rfl lk_mo_31 ?_
  refine wp_iload_n d_mo_farOf_4 rfl 1 rfl ?_
  obtain ⟨⟨a1, b1⟩, h⟩ := h
  refine wp_iald d_mo_farOf_5 s_109 (Nat.le_of_ble_eq_true rfl) a1 b1 ?_
  refine wp_aload_n d_mo_farOf_6 rfl 0 rfl ?_
  refine wp_getr d_mo_farOf_7 9 s_101 rfl (Nat.le_of_ble_eq_true rfl) (Nat.le_of_ble_eq_true rfl) rfl rfl lk_mo_31 ?_
  refine wp_iload_n d_mo_farOf_10 rfl 2 rfl ?_
  obtain ⟨⟨a2, b2⟩, h⟩ := h
  refine wp_iald d_mo_farOf_11 s_109 (Nat.le_of_ble_eq_true rfl) a2 b2 ?_
  refine wp_iadd d_mo_farOf_12 ?_
  refine wp_iconst d_mo_farOf_13 ⟨by decide, by decide⟩ ?_
  refine wp_aload_n d_mo_farOf_14 rfl 0 rfl ?_
  refine wp_iload_n d_mo_farOf_15 rfl 1 rfl ?_
  refine wp_iload_n d_mo_farOf_16 rfl 2 rfl ?_
  refine wp_callV [pI _, pI _] _ d_mo_farOf_17 jd_mo_commonBoth lk_mo_243 rfl s_101 rfl (Nat.le_of_ble_eq_true rfl) (Nat.le_of_ble_eq_true rfl) rfl ?_
  refine clI_k h ?_
  intro x3 M1 h
  refine wp_imul d_mo_farOf_20 ?_
  refine wp_isub d_mo_farOf_21 ?_
  exact wp_iret d_mo_farOf_22 rfl ⟨Nat.le_of_ble_eq_true rfl, Nat.le_of_ble_eq_true rfl⟩ ⟨_, rfl, rfl, rfl, h⟩
set_option maxHeartbeats 8000000 in
theorem e_mo_far {G : GT} {M : MT} {P : Int → MT → Prop} (v1 : Int) (v2 : Int)
    (h : ClV G J_mo_reads M [pR 101] (fun M1 => (ClI G J_mo_isTune M1 [pR 101, pI v1] (fun x1 M2 => ((x1 = 0 → P (-2) M2) ∧ (¬ x1 = 0 → ClI G J_mo_isTune M2 [pR 101, pI v2] (fun x3 M3 => ((x3 = 0 → P (-2) M3) ∧ (¬ x3 = 0 → ClI G J_mo_farOf M3 [pR 101, pI v1, pI v2] (fun x5 M4 => (P x5 M4))))))))))) : ClI G J_mo_far M [pR 101, pI v1, pI v2] P := by
  show Wp G J_mo_far 0 0 0 [(0, pR 101), (1, pI v1), (2, pI v2)] [] NN RF M _
  refine wp_aload_n d_mo_far_0 rfl 0 rfl ?_
  refine wp_callV [] _ d_mo_far_1 jd_mo_reads lk_mo_137 rfl s_101 rfl (Nat.le_of_ble_eq_true rfl) (Nat.le_of_ble_eq_true rfl) rfl ?_
  refine clV_k h ?_
  intro M1 h
  refine wp_aload_n d_mo_far_4 rfl 0 rfl ?_
  refine wp_iload_n d_mo_far_5 rfl 1 rfl ?_
  refine wp_callV [pI _] _ d_mo_far_6 jd_mo_isTune lk_mo_140 rfl s_101 rfl (Nat.le_of_ble_eq_true rfl) (Nat.le_of_ble_eq_true rfl) rfl ?_
  refine clI_k h ?_
  intro x1 M2 h
  refine wp_if_eq 29 d_mo_far_9 (by decide) (fun c2 => ?_) (fun c2 => ?_)
  · have h := h.1 c2
    refine wp_bipush d_mo_far_29 ⟨by decide, by decide⟩ (by decide) ?_
    exact wp_iret d_mo_far_31 rfl ⟨Nat.le_of_ble_eq_true rfl, Nat.le_of_ble_eq_true rfl⟩ ⟨_, rfl, rfl, rfl, h⟩
  · have h := h.2 c2
    refine wp_aload_n d_mo_far_12 rfl 0 rfl ?_
    refine wp_iload_n d_mo_far_13 rfl 2 rfl ?_
    refine wp_callV [pI _] _ d_mo_far_14 jd_mo_isTune lk_mo_140 rfl s_101 rfl (Nat.le_of_ble_eq_true rfl) (Nat.le_of_ble_eq_true rfl) rfl ?_
    refine clI_k h ?_
    intro x3 M3 h
    refine wp_if_eq 29 d_mo_far_17 (by decide) (fun c4 => ?_) (fun c4 => ?_)
    · have h := h.1 c4
      refine wp_bipush d_mo_far_29 ⟨by decide, by decide⟩ (by decide) ?_
      exact wp_iret d_mo_far_31 rfl ⟨Nat.le_of_ble_eq_true rfl, Nat.le_of_ble_eq_true rfl⟩ ⟨_, rfl, rfl, rfl, h⟩
    · have h := h.2 c4
      refine wp_aload_n d_mo_far_20 rfl 0 rfl ?_
      refine wp_iload_n d_mo_far_21 rfl 1 rfl ?_
      refine wp_iload_n d_mo_far_22 rfl 2 rfl ?_
      refine wp_callV [pI _, pI _] _ d_mo_far_23 jd_mo_farOf lk_mo_246 rfl s_101 rfl (Nat.le_of_ble_eq_true rfl) (Nat.le_of_ble_eq_true rfl) rfl ?_
      refine clI_k h ?_
      intro x5 M4 h
      refine wp_goto 31 d_mo_far_26 (by decide) ?_
      exact wp_iret d_mo_far_31 rfl ⟨Nat.le_of_ble_eq_true rfl, Nat.le_of_ble_eq_true rfl⟩ ⟨_, rfl, rfl, rfl, h⟩
set_option maxHeartbeats 8000000 in
theorem e_mo_nearestOf {G : GT} {M : MT} {P : Int → MT → Prop} (v1 : Int)
    (h : WpI G J_mo_nearestOf 4 [(0, pR 101), (1, pI v1), (2, pI (-1)), (3, pI 0)] [] M P) : ClI G J_mo_nearestOf M [pR 101, pI v1] P := by
  show Wp G J_mo_nearestOf 0 0 0 [(0, pR 101), (1, pI v1)] [] NN RF M _
  refine wp_iconst d_mo_nearestOf_0 ⟨by decide, by decide⟩ ?_
  refine wp_istore_n (L2 := [(0, pR 101), (1, pI _), (2, pI _)]) d_mo_nearestOf_1 rfl (Nat.le_of_ble_eq_true rfl) [1, 2, 0] rfl ?_
  refine wp_iconst d_mo_nearestOf_2 ⟨by decide, by decide⟩ ?_
  refine wp_istore_n (L2 := [(0, pR 101), (1, pI _), (2, pI _), (3, pI _)]) d_mo_nearestOf_3 rfl (Nat.le_of_ble_eq_true rfl) [1, 2, 3, 0] rfl ?_
  exact h
set_option maxHeartbeats 8000000 in
theorem b_mo_nearestOf_4 {G : GT} {M : MT} {P : Int → MT → Prop} (v1 : Int) (v2 : Int) (v3 : Int)
    (h : ((M 101 7) ≤ v3 → P v2 M) ∧ (v3 < (M 101 7) → (v3 = v1 → WpI G J_mo_nearestOf 4 [(0, pR 101), (1, pI v1), (2, pI v2), (3, pI (w32 (v3 + 1)))] [] M P) ∧ (¬ v3 = v1 → (v2 = (-1) → WpI G J_mo_nearestOf 4 [(0, pR 101), (1, pI v1), (2, pI v3), (3, pI (w32 (v3 + 1)))] [] M P) ∧ (¬ v2 = (-1) → ClI G J_mo_farOf M [pR 101, pI v1, pI v3] (fun x4 M1 => (ClI G J_mo_farOf M1 [pR 101, pI v1, pI v2] (fun x5 M2 => ((x5 ≤ x4 → WpI G J_mo_nearestOf 4 [(0, pR 101), (1, pI v1), (2, pI v2), (3, pI (w32 (v3 + 1)))] [] M2 P) ∧ (x4 < x5 → WpI G J_mo_nearestOf 4 [(0, pR 101), (1, pI v1), (2, pI v3), (3, pI (w32 (v3 + 1)))] [] M2 P))))))))) : WpI G J_mo_nearestOf 4 [(0, pR 101), (1, pI v1), (2, pI v2), (3, pI v3)] [] M P := by
  show Wp G J_mo_nearestOf 0 0 4 [(0, pR 101), (1, pI v1), (2, pI v2), (3, pI v3)] [] NN RF M _
  refine wp_iload_n d_mo_nearestOf_4 rfl 3 rfl ?_
  refine wp_aload_n d_mo_nearestOf_5 rfl 0 rfl ?_
  refine wp_geti d_mo_nearestOf_6 7 s_101 rfl (Nat.le_of_ble_eq_true rfl) (Nat.le_of_ble_eq_true rfl) rfl lk_mo_112 ?_
  refine wp_icmp_ge 49 d_mo_nearestOf_9 (by decide) (fun c1 => ?_) (fun c1 => ?_)
  · have h := h.1 c1
    refine wp_iload_n d_mo_nearestOf_49 rfl 2 rfl ?_
    exact wp_iret d_mo_nearestOf_50 rfl ⟨Nat.le_of_ble_eq_true rfl, Nat.le_of_ble_eq_true rfl⟩ ⟨_, rfl, rfl, rfl, h⟩
  · have h := h.2 c1
    refine wp_iload_n d_mo_nearestOf_12 rfl 3 rfl ?_
    refine wp_iload_n d_mo_nearestOf_13 rfl 1 rfl ?_
    refine wp_icmp_eq 41 d_mo_nearestOf_14 (by decide) (fun c2 => ?_) (fun c2 => ?_)
    · have h := h.1 c2
      refine wp_iload_n d_mo_nearestOf_41 rfl 2 rfl ?_
      refine wp_istore_n (L2 := [(0, pR 101), (1, pI _), (2, pI _), (3, pI _)]) d_mo_nearestOf_42 rfl (Nat.le_of_ble_eq_true rfl) [1, 2, 0, 3] rfl ?_
      refine wp_iinc (L2 := [(0, pR 101), (1, pI _), (2, pI _), (3, pI _)]) d_mo_nearestOf_43 3 rfl (Nat.le_of_ble_eq_true rfl) [1, 2, 3, 0] rfl ?_
      refine wp_goto 4 d_mo_nearestOf_46 (by decide) ?_
      exact h
    · have h := h.2 c2
      refine wp_iload_n d_mo_nearestOf_17 rfl 2 rfl ?_
      refine wp_iconst d_mo_nearestOf_18 ⟨by decide, by decide⟩ ?_
      refine wp_icmp_eq 37 d_mo_nearestOf_19 (by decide) (fun c3 => ?_) (fun c3 => ?_)
      · have h := h.1 c3
        refine wp_iload_n d_mo_nearestOf_37 rfl 3 rfl ?_
        refine wp_goto 42 d_mo_nearestOf_38 (by decide) ?_
        refine wp_istore_n (L2 := [(0, pR 101), (1, pI _), (2, pI _), (3, pI _)]) d_mo_nearestOf_42 rfl (Nat.le_of_ble_eq_true rfl) [1, 2, 0, 3] rfl ?_
        refine wp_iinc (L2 := [(0, pR 101), (1, pI _), (2, pI _), (3, pI _)]) d_mo_nearestOf_43 3 rfl (Nat.le_of_ble_eq_true rfl) [1, 2, 3, 0] rfl ?_
        refine wp_goto 4 d_mo_nearestOf_46 (by decide) ?_
        exact h
      · have h := h.2 c3
        refine wp_aload_n d_mo_nearestOf_22 rfl 0 rfl ?_
        refine wp_iload_n d_mo_nearestOf_23 rfl 1 rfl ?_
        refine wp_iload_n d_mo_nearestOf_24 rfl 3 rfl ?_
        refine wp_callV [pI _, pI _] _ d_mo_nearestOf_25 jd_mo_farOf lk_mo_246 rfl s_101 rfl (Nat.le_of_ble_eq_true rfl) (Nat.le_of_ble_eq_true rfl) rfl ?_
        refine clI_k h ?_
        intro x4 M1 h
        refine wp_aload_n d_mo_nearestOf_28 rfl 0 rfl ?_
        refine wp_iload_n d_mo_nearestOf_29 rfl 1 rfl ?_
        refine wp_iload_n d_mo_nearestOf_30 rfl 2 rfl ?_
        refine wp_callV [pI _, pI _] _ d_mo_nearestOf_31 jd_mo_farOf lk_mo_246 rfl s_101 rfl (Nat.le_of_ble_eq_true rfl) (Nat.le_of_ble_eq_true rfl) rfl ?_
        refine clI_k h ?_
        intro x5 M2 h
        refine wp_icmp_ge 41 d_mo_nearestOf_34 (by decide) (fun c6 => ?_) (fun c6 => ?_)
        · have h := h.1 c6
          refine wp_iload_n d_mo_nearestOf_41 rfl 2 rfl ?_
          refine wp_istore_n (L2 := [(0, pR 101), (1, pI _), (2, pI _), (3, pI _)]) d_mo_nearestOf_42 rfl (Nat.le_of_ble_eq_true rfl) [1, 2, 0, 3] rfl ?_
          refine wp_iinc (L2 := [(0, pR 101), (1, pI _), (2, pI _), (3, pI _)]) d_mo_nearestOf_43 3 rfl (Nat.le_of_ble_eq_true rfl) [1, 2, 3, 0] rfl ?_
          refine wp_goto 4 d_mo_nearestOf_46 (by decide) ?_
          exact h
        · have h := h.2 c6
          refine wp_iload_n d_mo_nearestOf_37 rfl 3 rfl ?_
          refine wp_goto 42 d_mo_nearestOf_38 (by decide) ?_
          refine wp_istore_n (L2 := [(0, pR 101), (1, pI _), (2, pI _), (3, pI _)]) d_mo_nearestOf_42 rfl (Nat.le_of_ble_eq_true rfl) [1, 2, 0, 3] rfl ?_
          refine wp_iinc (L2 := [(0, pR 101), (1, pI _), (2, pI _), (3, pI _)]) d_mo_nearestOf_43 3 rfl (Nat.le_of_ble_eq_true rfl) [1, 2, 3, 0] rfl ?_
          refine wp_goto 4 d_mo_nearestOf_46 (by decide) ?_
          exact h
set_option maxHeartbeats 8000000 in
theorem e_mo_nearest {G : GT} {M : MT} {P : Int → MT → Prop} (v1 : Int)
    (h : ClV G J_mo_reads M [pR 101] (fun M1 => (ClI G J_mo_isTune M1 [pR 101, pI v1] (fun x1 M2 => ((x1 = 0 → P (-2) M2) ∧ (¬ x1 = 0 → ClI G J_mo_nearestOf M2 [pR 101, pI v1] (fun x3 M3 => (P x3 M3)))))))) : ClI G J_mo_nearest M [pR 101, pI v1] P := by
  show Wp G J_mo_nearest 0 0 0 [(0, pR 101), (1, pI v1)] [] NN RF M _
  refine wp_aload_n d_mo_nearest_0 rfl 0 rfl ?_
  refine wp_callV [] _ d_mo_nearest_1 jd_mo_reads lk_mo_137 rfl s_101 rfl (Nat.le_of_ble_eq_true rfl) (Nat.le_of_ble_eq_true rfl) rfl ?_
  refine clV_k h ?_
  intro M1 h
  refine wp_aload_n d_mo_nearest_4 rfl 0 rfl ?_
  refine wp_iload_n d_mo_nearest_5 rfl 1 rfl ?_
  refine wp_callV [pI _] _ d_mo_nearest_6 jd_mo_isTune lk_mo_140 rfl s_101 rfl (Nat.le_of_ble_eq_true rfl) (Nat.le_of_ble_eq_true rfl) rfl ?_
  refine clI_k h ?_
  intro x1 M2 h
  refine wp_if_eq 20 d_mo_nearest_9 (by decide) (fun c2 => ?_) (fun c2 => ?_)
  · have h := h.1 c2
    refine wp_bipush d_mo_nearest_20 ⟨by decide, by decide⟩ (by decide) ?_
    exact wp_iret d_mo_nearest_22 rfl ⟨Nat.le_of_ble_eq_true rfl, Nat.le_of_ble_eq_true rfl⟩ ⟨_, rfl, rfl, rfl, h⟩
  · have h := h.2 c2
    refine wp_aload_n d_mo_nearest_12 rfl 0 rfl ?_
    refine wp_iload_n d_mo_nearest_13 rfl 1 rfl ?_
    refine wp_callV [pI _] _ d_mo_nearest_14 jd_mo_nearestOf lk_mo_249 rfl s_101 rfl (Nat.le_of_ble_eq_true rfl) (Nat.le_of_ble_eq_true rfl) rfl ?_
    refine clI_k h ?_
    intro x3 M3 h
    refine wp_goto 22 d_mo_nearest_17 (by decide) ?_
    exact wp_iret d_mo_nearest_22 rfl ⟨Nat.le_of_ble_eq_true rfl, Nat.le_of_ble_eq_true rfl⟩ ⟨_, rfl, rfl, rfl, h⟩
set_option maxHeartbeats 8000000 in
theorem e_mo_mothersOf {G : GT} {M : MT} {P : Int → MT → Prop} (v1 : Int)
    (h : WpI G J_mo_mothersOf 4 [(0, pR 101), (1, pI v1), (2, pI 0), (3, pI 0)] [] M P) : ClI G J_mo_mothersOf M [pR 101, pI v1] P := by
  show Wp G J_mo_mothersOf 0 0 0 [(0, pR 101), (1, pI v1)] [] NN RF M _
  refine wp_iconst d_mo_mothersOf_0 ⟨by decide, by decide⟩ ?_
  refine wp_istore_n (L2 := [(0, pR 101), (1, pI _), (2, pI _)]) d_mo_mothersOf_1 rfl (Nat.le_of_ble_eq_true rfl) [1, 2, 0] rfl ?_
  refine wp_iconst d_mo_mothersOf_2 ⟨by decide, by decide⟩ ?_
  refine wp_istore_n (L2 := [(0, pR 101), (1, pI _), (2, pI _), (3, pI _)]) d_mo_mothersOf_3 rfl (Nat.le_of_ble_eq_true rfl) [1, 2, 3, 0] rfl ?_
  exact h
set_option maxHeartbeats 8000000 in
theorem b_mo_mothersOf_4 {G : GT} {M : MT} {P : Int → MT → Prop} (v1 : Int) (v2 : Int) (v3 : Int)
    (h : ((M 101 7) ≤ v3 → P v2 M) ∧ (v3 < (M 101 7) → (v3 = v1 → WpI G J_mo_mothersOf 4 [(0, pR 101), (1, pI v1), (2, pI (ior v2 0)), (3, pI (w32 (v3 + 1)))] [] M P) ∧ (¬ v3 = v1 → ClI G J_mo_commonBoth M [pR 101, pI v3, pI v1] (fun x3 M1 => ((0 ≤ v3 ∧ v3 < 6) ∧ ((¬ x3 = (M1 109 (v3.toNat)) → WpI G J_mo_mothersOf 4 [(0, pR 101), (1, pI v1), (2, pI (ior v2 0)), (3, pI (w32 (v3 + 1)))] [] M1 P) ∧ (x3 = (M1 109 (v3.toNat)) → WpI G J_mo_mothersOf 4 [(0, pR 101), (1, pI v1), (2, pI (ior v2 (ishl 1 v3))), (3, pI (w32 (v3 + 1)))] [] M1 P))))))) : WpI G J_mo_mothersOf 4 [(0, pR 101), (1, pI v1), (2, pI v2), (3, pI v3)] [] M P := by
  show Wp G J_mo_mothersOf 0 0 4 [(0, pR 101), (1, pI v1), (2, pI v2), (3, pI v3)] [] NN RF M _
  refine wp_iload_n d_mo_mothersOf_4 rfl 3 rfl ?_
  refine wp_aload_n d_mo_mothersOf_5 rfl 0 rfl ?_
  refine wp_geti d_mo_mothersOf_6 7 s_101 rfl (Nat.le_of_ble_eq_true rfl) (Nat.le_of_ble_eq_true rfl) rfl lk_mo_112 ?_
  refine wp_icmp_ge 48 d_mo_mothersOf_9 (by decide) (fun c1 => ?_) (fun c1 => ?_)
  · have h := h.1 c1
    refine wp_iload_n d_mo_mothersOf_48 rfl 2 rfl ?_
    exact wp_iret d_mo_mothersOf_49 rfl ⟨Nat.le_of_ble_eq_true rfl, Nat.le_of_ble_eq_true rfl⟩ ⟨_, rfl, rfl, rfl, h⟩
  · have h := h.2 c1
    refine wp_iload_n d_mo_mothersOf_12 rfl 2 rfl ?_
    refine wp_iload_n d_mo_mothersOf_13 rfl 3 rfl ?_
    refine wp_iload_n d_mo_mothersOf_14 rfl 1 rfl ?_
    refine wp_icmp_eq 39 d_mo_mothersOf_15 (by decide) (fun c2 => ?_) (fun c2 => ?_)
    · have h := h.1 c2
      refine wp_iconst d_mo_mothersOf_39 ⟨by decide, by decide⟩ ?_
      refine wp_ior d_mo_mothersOf_40 ?_
      refine wp_istore_n (L2 := [(0, pR 101), (1, pI _), (2, pI _), (3, pI _)]) d_mo_mothersOf_41 rfl (Nat.le_of_ble_eq_true rfl) [1, 2, 0, 3] rfl ?_
      refine wp_iinc (L2 := [(0, pR 101), (1, pI _), (2, pI _), (3, pI _)]) d_mo_mothersOf_42 3 rfl (Nat.le_of_ble_eq_true rfl) [1, 2, 3, 0] rfl ?_
      refine wp_goto 4 d_mo_mothersOf_45 (by decide) ?_
      exact h
    · have h := h.2 c2
      refine wp_aload_n d_mo_mothersOf_18 rfl 0 rfl ?_
      refine wp_iload_n d_mo_mothersOf_19 rfl 3 rfl ?_
      refine wp_iload_n d_mo_mothersOf_20 rfl 1 rfl ?_
      refine wp_callV [pI _, pI _] _ d_mo_mothersOf_21 jd_mo_commonBoth lk_mo_243 rfl s_101 rfl (Nat.le_of_ble_eq_true rfl) (Nat.le_of_ble_eq_true rfl) rfl ?_
      refine clI_k h ?_
      intro x3 M1 h
      refine wp_aload_n d_mo_mothersOf_24 rfl 0 rfl ?_
      refine wp_getr d_mo_mothersOf_25 9 s_101 rfl (Nat.le_of_ble_eq_true rfl) (Nat.le_of_ble_eq_true rfl) rfl rfl lk_mo_31 ?_
      refine wp_iload_n d_mo_mothersOf_28 rfl 3 rfl ?_
      obtain ⟨⟨a4, b4⟩, h⟩ := h
      refine wp_iald d_mo_mothersOf_29 s_109 (Nat.le_of_ble_eq_true rfl) a4 b4 ?_
      refine wp_icmp_ne 39 d_mo_mothersOf_30 (by decide) (fun c5 => ?_) (fun c5 => ?_)
      · have h := h.1 c5
        refine wp_iconst d_mo_mothersOf_39 ⟨by decide, by decide⟩ ?_
        refine wp_ior d_mo_mothersOf_40 ?_
        refine wp_istore_n (L2 := [(0, pR 101), (1, pI _), (2, pI _), (3, pI _)]) d_mo_mothersOf_41 rfl (Nat.le_of_ble_eq_true rfl) [1, 2, 0, 3] rfl ?_
        refine wp_iinc (L2 := [(0, pR 101), (1, pI _), (2, pI _), (3, pI _)]) d_mo_mothersOf_42 3 rfl (Nat.le_of_ble_eq_true rfl) [1, 2, 3, 0] rfl ?_
        refine wp_goto 4 d_mo_mothersOf_45 (by decide) ?_
        exact h
      · have h := h.2 c5
        refine wp_iconst d_mo_mothersOf_33 ⟨by decide, by decide⟩ ?_
        refine wp_iload_n d_mo_mothersOf_34 rfl 3 rfl ?_
        refine wp_ishl d_mo_mothersOf_35 ?_
        refine wp_goto 40 d_mo_mothersOf_36 (by decide) ?_
        refine wp_ior d_mo_mothersOf_40 ?_
        refine wp_istore_n (L2 := [(0, pR 101), (1, pI _), (2, pI _), (3, pI _)]) d_mo_mothersOf_41 rfl (Nat.le_of_ble_eq_true rfl) [1, 2, 0, 3] rfl ?_
        refine wp_iinc (L2 := [(0, pR 101), (1, pI _), (2, pI _), (3, pI _)]) d_mo_mothersOf_42 3 rfl (Nat.le_of_ble_eq_true rfl) [1, 2, 3, 0] rfl ?_
        refine wp_goto 4 d_mo_mothersOf_45 (by decide) ?_
        exact h
set_option maxHeartbeats 8000000 in
theorem e_mo_mothers {G : GT} {M : MT} {P : Int → MT → Prop} (v1 : Int)
    (h : ClV G J_mo_reads M [pR 101] (fun M1 => (ClI G J_mo_isTune M1 [pR 101, pI v1] (fun x1 M2 => ((x1 = 0 → P (-2) M2) ∧ (¬ x1 = 0 → ClI G J_mo_mothersOf M2 [pR 101, pI v1] (fun x3 M3 => (P x3 M3)))))))) : ClI G J_mo_mothers M [pR 101, pI v1] P := by
  show Wp G J_mo_mothers 0 0 0 [(0, pR 101), (1, pI v1)] [] NN RF M _
  refine wp_aload_n d_mo_mothers_0 rfl 0 rfl ?_
  refine wp_callV [] _ d_mo_mothers_1 jd_mo_reads lk_mo_137 rfl s_101 rfl (Nat.le_of_ble_eq_true rfl) (Nat.le_of_ble_eq_true rfl) rfl ?_
  refine clV_k h ?_
  intro M1 h
  refine wp_aload_n d_mo_mothers_4 rfl 0 rfl ?_
  refine wp_iload_n d_mo_mothers_5 rfl 1 rfl ?_
  refine wp_callV [pI _] _ d_mo_mothers_6 jd_mo_isTune lk_mo_140 rfl s_101 rfl (Nat.le_of_ble_eq_true rfl) (Nat.le_of_ble_eq_true rfl) rfl ?_
  refine clI_k h ?_
  intro x1 M2 h
  refine wp_if_eq 20 d_mo_mothers_9 (by decide) (fun c2 => ?_) (fun c2 => ?_)
  · have h := h.1 c2
    refine wp_bipush d_mo_mothers_20 ⟨by decide, by decide⟩ (by decide) ?_
    exact wp_iret d_mo_mothers_22 rfl ⟨Nat.le_of_ble_eq_true rfl, Nat.le_of_ble_eq_true rfl⟩ ⟨_, rfl, rfl, rfl, h⟩
  · have h := h.2 c2
    refine wp_aload_n d_mo_mothers_12 rfl 0 rfl ?_
    refine wp_iload_n d_mo_mothers_13 rfl 1 rfl ?_
    refine wp_callV [pI _] _ d_mo_mothers_14 jd_mo_mothersOf lk_mo_252 rfl s_101 rfl (Nat.le_of_ble_eq_true rfl) (Nat.le_of_ble_eq_true rfl) rfl ?_
    refine clI_k h ?_
    intro x3 M3 h
    refine wp_goto 22 d_mo_mothers_17 (by decide) ?_
    exact wp_iret d_mo_mothers_22 rfl ⟨Nat.le_of_ble_eq_true rfl, Nat.le_of_ble_eq_true rfl⟩ ⟨_, rfl, rfl, rfl, h⟩
set_option maxHeartbeats 8000000 in
theorem e_mo_noteAt {G : GT} {M : MT} {P : Int → MT → Prop} (v1 : Int) (v2 : Int)
    (h : (0 ≤ v1 ∧ v1 < 6) ∧ (((M 109 (v1.toNat)) ≤ v2 → P (-1) M) ∧ (v2 < (M 109 (v1.toNat)) → (0 ≤ (w32 ((w32 (40 * v1)) + v2)) ∧ (w32 ((w32 (40 * v1)) + v2)) < 240) ∧ (P (M 108 ((w32 ((w32 (40 * v1)) + v2)).toNat)) M)))) : ClI G J_mo_noteAt M [pR 101, pI v1, pI v2] P := by
  show Wp G J_mo_noteAt 0 0 0 [(0, pR 101), (1, pI v1), (2, pI v2)] [] NN RF M _
  refine wp_iload_n d_mo_noteAt_0 rfl 2 rfl ?_
  refine wp_aload_n d_mo_noteAt_1 rfl 0 rfl ?_
  refine wp_getr d_mo_noteAt_2 9 s_101 rfl (Nat.le_of_ble_eq_true rfl) (Nat.le_of_ble_eq_true rfl) rfl rfl lk_mo_31 ?_
  refine wp_iload_n d_mo_noteAt_5 rfl 1 rfl ?_
  obtain ⟨⟨a1, b1⟩, h⟩ := h
  refine wp_iald d_mo_noteAt_6 s_109 (Nat.le_of_ble_eq_true rfl) a1 b1 ?_
  refine wp_icmp_ge 24 d_mo_noteAt_7 (by decide) (fun c2 => ?_) (fun c2 => ?_)
  · have h := h.1 c2
    refine wp_iconst d_mo_noteAt_24 ⟨by decide, by decide⟩ ?_
    exact wp_iret d_mo_noteAt_25 rfl ⟨Nat.le_of_ble_eq_true rfl, Nat.le_of_ble_eq_true rfl⟩ ⟨_, rfl, rfl, rfl, h⟩
  · have h := h.2 c2
    refine wp_aload_n d_mo_noteAt_10 rfl 0 rfl ?_
    refine wp_getr d_mo_noteAt_11 8 s_101 rfl (Nat.le_of_ble_eq_true rfl) (Nat.le_of_ble_eq_true rfl) rfl rfl lk_mo_28 ?_
    refine wp_bipush d_mo_noteAt_14 ⟨by decide, by decide⟩ (by decide) ?_
    refine wp_iload_n d_mo_noteAt_16 rfl 1 rfl ?_
    refine wp_imul d_mo_noteAt_17 ?_
    refine wp_iload_n d_mo_noteAt_18 rfl 2 rfl ?_
    refine wp_iadd d_mo_noteAt_19 ?_
    obtain ⟨⟨a3, b3⟩, h⟩ := h
    refine wp_iald d_mo_noteAt_20 s_108 (Nat.le_of_ble_eq_true rfl) a3 b3 ?_
    refine wp_goto 25 d_mo_noteAt_21 (by decide) ?_
    exact wp_iret d_mo_noteAt_25 rfl ⟨Nat.le_of_ble_eq_true rfl, Nat.le_of_ble_eq_true rfl⟩ ⟨_, rfl, rfl, rfl, h⟩
set_option maxHeartbeats 8000000 in
theorem e_mo_tellsOf {G : GT} {M : MT} {P : Int → MT → Prop} (v1 : Int)
    (h : WpI G J_mo_tellsOf 4 [(0, pR 101), (1, pI v1), (2, pI (-1)), (3, pI 0)] [] M P) : ClI G J_mo_tellsOf M [pR 101, pI v1] P := by
  show Wp G J_mo_tellsOf 0 0 0 [(0, pR 101), (1, pI v1)] [] NN RF M _
  refine wp_iconst d_mo_tellsOf_0 ⟨by decide, by decide⟩ ?_
  refine wp_istore_n (L2 := [(0, pR 101), (1, pI _), (2, pI _)]) d_mo_tellsOf_1 rfl (Nat.le_of_ble_eq_true rfl) [1, 2, 0] rfl ?_
  refine wp_iconst d_mo_tellsOf_2 ⟨by decide, by decide⟩ ?_
  refine wp_istore_n (L2 := [(0, pR 101), (1, pI _), (2, pI _), (3, pI _)]) d_mo_tellsOf_3 rfl (Nat.le_of_ble_eq_true rfl) [1, 2, 3, 0] rfl ?_
  exact h
set_option maxHeartbeats 8000000 in
theorem b_mo_tellsOf_4 {G : GT} {M : MT} {P : Int → MT → Prop} (v1 : Int) (v2 : Int) (v3 : Int)
    (h : (4096 ≤ v3 → P v2 M) ∧ (v3 < 4096 → (v2 = (-1) → WpI G J_mo_tellsOf 33 [(0, pR 101), (1, pI v1), (2, pI v2), (3, pI v3), (4, pI 1), (5, pI 0)] [] M P) ∧ (¬ v2 = (-1) → ClI G J_mo_ones M [pI v3] (fun x3 M1 => (ClI G J_mo_ones M1 [pI v2] (fun x4 M2 => ((x4 ≤ x3 → WpI G J_mo_tellsOf 4 [(0, pR 101), (1, pI v1), (2, pI v2), (3, pI (w32 (v3 + 1)))] [] M2 P) ∧ (x3 < x4 → WpI G J_mo_tellsOf 33 [(0, pR 101), (1, pI v1), (2, pI v2), (3, pI v3), (4, pI 1), (5, pI 0)] [] M2 P)))))))) : WpI G J_mo_tellsOf 4 [(0, pR 101), (1, pI v1), (2, pI v2), (3, pI v3)] [] M P := by
  show Wp G J_mo_tellsOf 0 0 4 [(0, pR 101), (1, pI v1), (2, pI v2), (3, pI v3)] [] NN RF M _
  refine wp_iload_n d_mo_tellsOf_4 rfl 3 rfl ?_
  refine wp_sipush d_mo_tellsOf_5 ⟨by decide, by decide⟩ (by decide) ?_
  refine wp_icmp_ge 142 d_mo_tellsOf_8 (by decide) (fun c1 => ?_) (fun c1 => ?_)
  · have h := h.1 c1
    refine wp_iload_n d_mo_tellsOf_142 rfl 2 rfl ?_
    exact wp_iret d_mo_tellsOf_143 rfl ⟨Nat.le_of_ble_eq_true rfl, Nat.le_of_ble_eq_true rfl⟩ ⟨_, rfl, rfl, rfl, h⟩
  · have h := h.2 c1
    refine wp_iload_n d_mo_tellsOf_11 rfl 2 rfl ?_
    refine wp_iconst d_mo_tellsOf_12 ⟨by decide, by decide⟩ ?_
    refine wp_icmp_eq 27 d_mo_tellsOf_13 (by decide) (fun c2 => ?_) (fun c2 => ?_)
    · have h := h.1 c2
      refine wp_iconst d_mo_tellsOf_27 ⟨by decide, by decide⟩ ?_
      refine wp_istore (L2 := [(0, pR 101), (1, pI _), (2, pI _), (3, pI _), (4, pI _)]) d_mo_tellsOf_28 (Nat.le_of_ble_eq_true rfl) [1, 2, 3, 4, 0] rfl ?_
      refine wp_iconst d_mo_tellsOf_30 ⟨by decide, by decide⟩ ?_
      refine wp_istore (L2 := [(0, pR 101), (1, pI _), (2, pI _), (3, pI _), (4, pI _), (5, pI _)]) d_mo_tellsOf_31 (Nat.le_of_ble_eq_true rfl) [1, 2, 3, 4, 5, 0] rfl ?_
      exact h
    · have h := h.2 c2
      refine wp_iload_n d_mo_tellsOf_16 rfl 3 rfl ?_
      refine wp_callS [pI _] d_mo_tellsOf_17 jd_mo_ones lk_mo_255 rfl (Nat.le_of_ble_eq_true rfl) rfl ?_
      refine clI_k h ?_
      intro x3 M1 h
      refine wp_iload_n d_mo_tellsOf_20 rfl 2 rfl ?_
      refine wp_callS [pI _] d_mo_tellsOf_21 jd_mo_ones lk_mo_255 rfl (Nat.le_of_ble_eq_true rfl) rfl ?_
      refine clI_k h ?_
      intro x4 M2 h
      refine wp_icmp_ge 136 d_mo_tellsOf_24 (by decide) (fun c5 => ?_) (fun c5 => ?_)
      · have h := h.1 c5
        refine wp_iinc (L2 := [(0, pR 101), (1, pI _), (2, pI _), (3, pI _)]) d_mo_tellsOf_136 3 rfl (Nat.le_of_ble_eq_true rfl) [1, 2, 3, 0] rfl ?_
        refine wp_goto 4 d_mo_tellsOf_139 (by decide) ?_
        exact h
      · have h := h.2 c5
        refine wp_iconst d_mo_tellsOf_27 ⟨by decide, by decide⟩ ?_
        refine wp_istore (L2 := [(0, pR 101), (1, pI _), (2, pI _), (3, pI _), (4, pI _)]) d_mo_tellsOf_28 (Nat.le_of_ble_eq_true rfl) [1, 2, 3, 4, 0] rfl ?_
        refine wp_iconst d_mo_tellsOf_30 ⟨by decide, by decide⟩ ?_
        refine wp_istore (L2 := [(0, pR 101), (1, pI _), (2, pI _), (3, pI _), (4, pI _), (5, pI _)]) d_mo_tellsOf_31 (Nat.le_of_ble_eq_true rfl) [1, 2, 3, 4, 5, 0] rfl ?_
        exact h
set_option maxHeartbeats 8000000 in
theorem b_mo_tellsOf_33 {G : GT} {M : MT} {P : Int → MT → Prop} (v1 : Int) (v2 : Int) (v3 : Int) (v4 : Int) (v5 : Int)
    (h : ((M 101 7) ≤ v5 → (v4 = 0 → WpI G J_mo_tellsOf 4 [(0, pR 101), (1, pI v1), (2, pI v2), (3, pI (w32 (v3 + 1)))] [] M P) ∧ (¬ v4 = 0 → WpI G J_mo_tellsOf 4 [(0, pR 101), (1, pI v1), (2, pI v3), (3, pI (w32 (v3 + 1)))] [] M P)) ∧ (v5 < (M 101 7) → (v4 = 0 → (v4 = 0 → WpI G J_mo_tellsOf 4 [(0, pR 101), (1, pI v1), (2, pI v2), (3, pI (w32 (v3 + 1)))] [] M P) ∧ (¬ v4 = 0 → WpI G J_mo_tellsOf 4 [(0, pR 101), (1, pI v1), (2, pI v3), (3, pI (w32 (v3 + 1)))] [] M P)) ∧ (¬ v4 = 0 → (¬ v5 = v1 → WpI G J_mo_tellsOf 63 [(0, pR 101), (1, pI v1), (2, pI v2), (3, pI v3), (5, pI v5), (6, pI 0), (7, pI 0)] [] M P) ∧ (v5 = v1 → WpI G J_mo_tellsOf 63 [(0, pR 101), (1, pI v1), (2, pI v2), (3, pI v3), (5, pI v5), (6, pI 1), (7, pI 0)] [] M P)))) : WpI G J_mo_tellsOf 33 [(0, pR 101), (1, pI v1), (2, pI v2), (3, pI v3), (4, pI v4), (5, pI v5)] [] M P := by
  show Wp G J_mo_tellsOf 0 0 33 [(0, pR 101), (1, pI v1), (2, pI v2), (3, pI v3), (4, pI v4), (5, pI v5)] [] NN RF M _
  refine wp_iload d_mo_tellsOf_33 5 rfl ?_
  refine wp_aload_n d_mo_tellsOf_35 rfl 0 rfl ?_
  refine wp_geti d_mo_tellsOf_36 7 s_101 rfl (Nat.le_of_ble_eq_true rfl) (Nat.le_of_ble_eq_true rfl) rfl lk_mo_112 ?_
  refine wp_icmp_ge 125 d_mo_tellsOf_39 (by decide) (fun c1 => ?_) (fun c1 => ?_)
  · have h := h.1 c1
    refine wp_iload d_mo_tellsOf_125 4 rfl ?_
    refine wp_if_eq 134 d_mo_tellsOf_127 (by decide) (fun c2 => ?_) (fun c2 => ?_)
    · have h := h.1 c2
      refine wp_iload_n d_mo_tellsOf_134 rfl 2 rfl ?_
      refine wp_istore_n (L2 := [(0, pR 101), (1, pI _), (2, pI _), (3, pI _), (4, pI _), (5, pI _)]) d_mo_tellsOf_135 rfl (Nat.le_of_ble_eq_true rfl) [1, 2, 0, 3, 4, 5] rfl ?_
      refine wp_iinc (L2 := [(0, pR 101), (1, pI _), (2, pI _), (3, pI _), (4, pI _), (5, pI _)]) d_mo_tellsOf_136 3 rfl (Nat.le_of_ble_eq_true rfl) [1, 2, 3, 0, 4, 5] rfl ?_
      refine wp_goto 4 d_mo_tellsOf_139 (by decide) ?_
      refine wp_sub (L2 := [(0, pR 101), (1, pI _), (2, pI _), (3, pI _)]) [0, 1, 2, 3] rfl ?_
      exact h
    · have h := h.2 c2
      refine wp_iload_n d_mo_tellsOf_130 rfl 3 rfl ?_
      refine wp_goto 135 d_mo_tellsOf_131 (by decide) ?_
      refine wp_istore_n (L2 := [(0, pR 101), (1, pI _), (2, pI _), (3, pI _), (4, pI _), (5, pI _)]) d_mo_tellsOf_135 rfl (Nat.le_of_ble_eq_true rfl) [1, 2, 0, 3, 4, 5] rfl ?_
      refine wp_iinc (L2 := [(0, pR 101), (1, pI _), (2, pI _), (3, pI _), (4, pI _), (5, pI _)]) d_mo_tellsOf_136 3 rfl (Nat.le_of_ble_eq_true rfl) [1, 2, 3, 0, 4, 5] rfl ?_
      refine wp_goto 4 d_mo_tellsOf_139 (by decide) ?_
      refine wp_sub (L2 := [(0, pR 101), (1, pI _), (2, pI _), (3, pI _)]) [0, 1, 2, 3] rfl ?_
      exact h
  · have h := h.2 c1
    refine wp_iload d_mo_tellsOf_42 4 rfl ?_
    refine wp_if_eq 125 d_mo_tellsOf_44 (by decide) (fun c2 => ?_) (fun c2 => ?_)
    · have h := h.1 c2
      refine wp_iload d_mo_tellsOf_125 4 rfl ?_
      refine wp_if_eq 134 d_mo_tellsOf_127 (by decide) (fun c3 => ?_) (fun c3 => ?_)
      · have h := h.1 c3
        refine wp_iload_n d_mo_tellsOf_134 rfl 2 rfl ?_
        refine wp_istore_n (L2 := [(0, pR 101), (1, pI _), (2, pI _), (3, pI _), (4, pI _), (5, pI _)]) d_mo_tellsOf_135 rfl (Nat.le_of_ble_eq_true rfl) [1, 2, 0, 3, 4, 5] rfl ?_
        refine wp_iinc (L2 := [(0, pR 101), (1, pI _), (2, pI _), (3, pI _), (4, pI _), (5, pI _)]) d_mo_tellsOf_136 3 rfl (Nat.le_of_ble_eq_true rfl) [1, 2, 3, 0, 4, 5] rfl ?_
        refine wp_goto 4 d_mo_tellsOf_139 (by decide) ?_
        refine wp_sub (L2 := [(0, pR 101), (1, pI _), (2, pI _), (3, pI _)]) [0, 1, 2, 3] rfl ?_
        exact h
      · have h := h.2 c3
        refine wp_iload_n d_mo_tellsOf_130 rfl 3 rfl ?_
        refine wp_goto 135 d_mo_tellsOf_131 (by decide) ?_
        refine wp_istore_n (L2 := [(0, pR 101), (1, pI _), (2, pI _), (3, pI _), (4, pI _), (5, pI _)]) d_mo_tellsOf_135 rfl (Nat.le_of_ble_eq_true rfl) [1, 2, 0, 3, 4, 5] rfl ?_
        refine wp_iinc (L2 := [(0, pR 101), (1, pI _), (2, pI _), (3, pI _), (4, pI _), (5, pI _)]) d_mo_tellsOf_136 3 rfl (Nat.le_of_ble_eq_true rfl) [1, 2, 3, 0, 4, 5] rfl ?_
        refine wp_goto 4 d_mo_tellsOf_139 (by decide) ?_
        refine wp_sub (L2 := [(0, pR 101), (1, pI _), (2, pI _), (3, pI _)]) [0, 1, 2, 3] rfl ?_
        exact h
    · have h := h.2 c2
      refine wp_iload d_mo_tellsOf_47 5 rfl ?_
      refine wp_iload_n d_mo_tellsOf_49 rfl 1 rfl ?_
      refine wp_icmp_ne 57 d_mo_tellsOf_50 (by decide) (fun c3 => ?_) (fun c3 => ?_)
      · have h := h.1 c3
        refine wp_iconst d_mo_tellsOf_57 ⟨by decide, by decide⟩ ?_
        refine wp_istore (L2 := [(0, pR 101), (1, pI _), (2, pI _), (3, pI _), (4, pI _), (5, pI _), (6, pI _)]) d_mo_tellsOf_58 (Nat.le_of_ble_eq_true rfl) [1, 2, 3, 4, 5, 6, 0] rfl ?_
        refine wp_iconst d_mo_tellsOf_60 ⟨by decide, by decide⟩ ?_
        refine wp_istore (L2 := [(0, pR 101), (1, pI _), (2, pI _), (3, pI _), (4, pI _), (5, pI _), (6, pI _), (7, pI _)]) d_mo_tellsOf_61 (Nat.le_of_ble_eq_true rfl) [1, 2, 3, 4, 5, 6, 7, 0] rfl ?_
        refine wp_sub (L2 := [(0, pR 101), (1, pI _), (2, pI _), (3, pI _), (5, pI _), (6, pI _), (7, pI _)]) [0, 1, 2, 3, 5, 6, 7] rfl ?_
        exact h
      · have h := h.2 c3
        refine wp_iconst d_mo_tellsOf_53 ⟨by decide, by decide⟩ ?_
        refine wp_goto 58 d_mo_tellsOf_54 (by decide) ?_
        refine wp_istore (L2 := [(0, pR 101), (1, pI _), (2, pI _), (3, pI _), (4, pI _), (5, pI _), (6, pI _)]) d_mo_tellsOf_58 (Nat.le_of_ble_eq_true rfl) [1, 2, 3, 4, 5, 6, 0] rfl ?_
        refine wp_iconst d_mo_tellsOf_60 ⟨by decide, by decide⟩ ?_
        refine wp_istore (L2 := [(0, pR 101), (1, pI _), (2, pI _), (3, pI _), (4, pI _), (5, pI _), (6, pI _), (7, pI _)]) d_mo_tellsOf_61 (Nat.le_of_ble_eq_true rfl) [1, 2, 3, 4, 5, 6, 7, 0] rfl ?_
        refine wp_sub (L2 := [(0, pR 101), (1, pI _), (2, pI _), (3, pI _), (5, pI _), (6, pI _), (7, pI _)]) [0, 1, 2, 3, 5, 6, 7] rfl ?_
        exact h
set_option maxHeartbeats 8000000 in
theorem b_mo_tellsOf_63 {G : GT} {M : MT} {P : Int → MT → Prop} (v1 : Int) (v2 : Int) (v3 : Int) (v5 : Int) (v6 : Int) (v7 : Int)
    (h : (12 ≤ v7 → WpI G J_mo_tellsOf 33 [(0, pR 101), (1, pI v1), (2, pI v2), (3, pI v3), (4, pI v6), (5, pI (w32 (v5 + 1)))] [] M P) ∧ (v7 < 12 → (¬ v6 = 0 → WpI G J_mo_tellsOf 33 [(0, pR 101), (1, pI v1), (2, pI v2), (3, pI v3), (4, pI v6), (5, pI (w32 (v5 + 1)))] [] M P) ∧ (v6 = 0 → ClI G J_mo_isIn M [pI v3, pI v7] (fun x3 M1 => ((x3 = 0 → WpI G J_mo_tellsOf 63 [(0, pR 101), (1, pI v1), (2, pI v2), (3, pI v3), (5, pI v5), (6, pI 0), (7, pI (w32 (v7 + 1)))] [] M1 P) ∧ (¬ x3 = 0 → ClI G J_mo_noteAt M1 [pR 101, pI v5, pI v7] (fun x5 M2 => (ClI G J_mo_noteAt M2 [pR 101, pI v1, pI v7] (fun x6 M3 => ((x5 = x6 → WpI G J_mo_tellsOf 63 [(0, pR 101), (1, pI v1), (2, pI v2), (3, pI v3), (5, pI v5), (6, pI 0), (7, pI (w32 (v7 + 1)))] [] M3 P) ∧ (¬ x5 = x6 → WpI G J_mo_tellsOf 63 [(0, pR 101), (1, pI v1), (2, pI v2), (3, pI v3), (5, pI v5), (6, pI 1), (7, pI (w32 (v7 + 1)))] [] M3 P))))))))))) : WpI G J_mo_tellsOf 63 [(0, pR 101), (1, pI v1), (2, pI v2), (3, pI v3), (5, pI v5), (6, pI v6), (7, pI v7)] [] M P := by
  show Wp G J_mo_tellsOf 0 0 63 [(0, pR 101), (1, pI v1), (2, pI v2), (3, pI v3), (5, pI v5), (6, pI v6), (7, pI v7)] [] NN RF M _
  refine wp_iload d_mo_tellsOf_63 6 rfl ?_
  refine wp_bipush d_mo_tellsOf_65 ⟨by decide, by decide⟩ (by decide) ?_
  refine wp_icmp_ge 115 d_mo_tellsOf_67 (by decide) (fun c1 => ?_) (fun c1 => ?_)
  · have h := h.1 c1
    refine wp_iload d_mo_tellsOf_115 5 rfl ?_
    refine wp_istore (L2 := [(0, pR 101), (1, pI _), (2, pI _), (3, pI _), (4, pI _), (5, pI _), (6, pI _), (7, pI _)]) d_mo_tellsOf_117 (Nat.le_of_ble_eq_true rfl) [1, 2, 3, 4, 0, 5, 6, 7] rfl ?_
    refine wp_iinc (L2 := [(0, pR 101), (1, pI _), (2, pI _), (3, pI _), (4, pI _), (5, pI _), (6, pI _), (7, pI _)]) d_mo_tellsOf_119 5 rfl (Nat.le_of_ble_eq_true rfl) [1, 2, 3, 4, 5, 0, 6, 7] rfl ?_
    refine wp_goto 33 d_mo_tellsOf_122 (by decide) ?_
    refine wp_sub (L2 := [(0, pR 101), (1, pI _), (2, pI _), (3, pI _), (4, pI _), (5, pI _)]) [0, 1, 2, 3, 4, 5] rfl ?_
    exact h
  · have h := h.2 c1
    refine wp_iload d_mo_tellsOf_70 5 rfl ?_
    refine wp_if_ne 115 d_mo_tellsOf_72 (by decide) (fun c2 => ?_) (fun c2 => ?_)
    · have h := h.1 c2
      refine wp_iload d_mo_tellsOf_115 5 rfl ?_
      refine wp_istore (L2 := [(0, pR 101), (1, pI _), (2, pI _), (3, pI _), (4, pI _), (5, pI _), (6, pI _), (7, pI _)]) d_mo_tellsOf_117 (Nat.le_of_ble_eq_true rfl) [1, 2, 3, 4, 0, 5, 6, 7] rfl ?_
      refine wp_iinc (L2 := [(0, pR 101), (1, pI _), (2, pI _), (3, pI _), (4, pI _), (5, pI _), (6, pI _), (7, pI _)]) d_mo_tellsOf_119 5 rfl (Nat.le_of_ble_eq_true rfl) [1, 2, 3, 4, 5, 0, 6, 7] rfl ?_
      refine wp_goto 33 d_mo_tellsOf_122 (by decide) ?_
      refine wp_sub (L2 := [(0, pR 101), (1, pI _), (2, pI _), (3, pI _), (4, pI _), (5, pI _)]) [0, 1, 2, 3, 4, 5] rfl ?_
      exact h
    · have h := h.2 c2
      refine wp_iload_n d_mo_tellsOf_75 rfl 3 rfl ?_
      refine wp_iload d_mo_tellsOf_76 6 rfl ?_
      refine wp_callS [pI _, pI _] d_mo_tellsOf_78 jd_mo_isIn lk_mo_258 rfl (Nat.le_of_ble_eq_true rfl) rfl ?_
      refine clI_k h ?_
      intro x3 M1 h
      refine wp_if_eq 106 d_mo_tellsOf_81 (by decide) (fun c4 => ?_) (fun c4 => ?_)
      · have h := h.1 c4
        refine wp_iconst d_mo_tellsOf_106 ⟨by decide, by decide⟩ ?_
        refine wp_istore (L2 := [(0, pR 101), (1, pI _), (2, pI _), (3, pI _), (5, pI _), (6, pI _), (7, pI _)]) d_mo_tellsOf_107 (Nat.le_of_ble_eq_true rfl) [1, 2, 3, 4, 5, 0, 6] rfl ?_
        refine wp_iinc (L2 := [(0, pR 101), (1, pI _), (2, pI _), (3, pI _), (5, pI _), (6, pI _), (7, pI _)]) d_mo_tellsOf_109 6 rfl (Nat.le_of_ble_eq_true rfl) [1, 2, 3, 4, 5, 6, 0] rfl ?_
        refine wp_goto 63 d_mo_tellsOf_112 (by decide) ?_
        exact h
      · have h := h.2 c4
        refine wp_aload_n d_mo_tellsOf_84 rfl 0 rfl ?_
        refine wp_iload d_mo_tellsOf_85 4 rfl ?_
        refine wp_iload d_mo_tellsOf_87 6 rfl ?_
        refine wp_callV [pI _, pI _] _ d_mo_tellsOf_89 jd_mo_noteAt lk_mo_262 rfl s_101 rfl (Nat.le_of_ble_eq_true rfl) (Nat.le_of_ble_eq_true rfl) rfl ?_
        refine clI_k h ?_
        intro x5 M2 h
        refine wp_aload_n d_mo_tellsOf_92 rfl 0 rfl ?_
        refine wp_iload_n d_mo_tellsOf_93 rfl 1 rfl ?_
        refine wp_iload d_mo_tellsOf_94 6 rfl ?_
        refine wp_callV [pI _, pI _] _ d_mo_tellsOf_96 jd_mo_noteAt lk_mo_262 rfl s_101 rfl (Nat.le_of_ble_eq_true rfl) (Nat.le_of_ble_eq_true rfl) rfl ?_
        refine clI_k h ?_
        intro x6 M3 h
        refine wp_icmp_eq 106 d_mo_tellsOf_99 (by decide) (fun c7 => ?_) (fun c7 => ?_)
        · have h := h.1 c7
          refine wp_iconst d_mo_tellsOf_106 ⟨by decide, by decide⟩ ?_
          refine wp_istore (L2 := [(0, pR 101), (1, pI _), (2, pI _), (3, pI _), (5, pI _), (6, pI _), (7, pI _)]) d_mo_tellsOf_107 (Nat.le_of_ble_eq_true rfl) [1, 2, 3, 4, 5, 0, 6] rfl ?_
          refine wp_iinc (L2 := [(0, pR 101), (1, pI _), (2, pI _), (3, pI _), (5, pI _), (6, pI _), (7, pI _)]) d_mo_tellsOf_109 6 rfl (Nat.le_of_ble_eq_true rfl) [1, 2, 3, 4, 5, 6, 0] rfl ?_
          refine wp_goto 63 d_mo_tellsOf_112 (by decide) ?_
          exact h
        · have h := h.2 c7
          refine wp_iconst d_mo_tellsOf_102 ⟨by decide, by decide⟩ ?_
          refine wp_goto 107 d_mo_tellsOf_103 (by decide) ?_
          refine wp_istore (L2 := [(0, pR 101), (1, pI _), (2, pI _), (3, pI _), (5, pI _), (6, pI _), (7, pI _)]) d_mo_tellsOf_107 (Nat.le_of_ble_eq_true rfl) [1, 2, 3, 4, 5, 0, 6] rfl ?_
          refine wp_iinc (L2 := [(0, pR 101), (1, pI _), (2, pI _), (3, pI _), (5, pI _), (6, pI _), (7, pI _)]) d_mo_tellsOf_109 6 rfl (Nat.le_of_ble_eq_true rfl) [1, 2, 3, 4, 5, 6, 0] rfl ?_
          refine wp_goto 63 d_mo_tellsOf_112 (by decide) ?_
          exact h
