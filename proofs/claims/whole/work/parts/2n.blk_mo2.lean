set_option maxHeartbeats 8000000 in
theorem e_mo_read {G : GT} {M : MT} {P : Int → MT → Prop} (v1 : Int)
    (h : ClI G J_mo_isSheet M [pI v1] (fun x1 M1 => ((¬ x1 = 0 → (0 ≤ v1 ∧ v1 < 4) ∧ ((0 ≤ (M1 102 (v1.toNat)) → WpI G J_mo_read 29 [(0, pR 101), (1, pI v1), (2, pI 0), (3, pI 1)] [] M1 P) ∧ ((M1 102 (v1.toNat)) < 0 → ClI G J_mo_finds M1 [pR 101, pI 1] (fun x5 M2 => (P x5 M2))))) ∧ (x1 = 0 → P (-2) M1)))) : ClI G J_mo_read M [pR 101, pI v1] P := by
  show Wp G J_mo_read 0 0 0 [(0, pR 101), (1, pI v1)] [] NN RF M _
  refine wp_iload_n d_mo_read_0 rfl 1 rfl ?_
  refine wp_callS [pI _] d_mo_read_1 jd_mo_isSheet lk_mo_88 rfl (Nat.le_of_ble_eq_true rfl) rfl ?_
  refine clI_k h ?_
  intro x1 M1 h
  refine wp_if_ne 10 d_mo_read_4 (by decide) (fun c2 => ?_) (fun c2 => ?_)
  · have h := h.1 c2
    refine wp_aload_n d_mo_read_10 rfl 0 rfl ?_
    refine wp_getr d_mo_read_11 0 s_101 rfl (Nat.le_of_ble_eq_true rfl) (Nat.le_of_ble_eq_true rfl) rfl rfl lk_mo_7 ?_
    refine wp_iload_n d_mo_read_14 rfl 1 rfl ?_
    obtain ⟨⟨a3, b3⟩, h⟩ := h
    refine wp_iald d_mo_read_15 s_102 (Nat.le_of_ble_eq_true rfl) a3 b3 ?_
    refine wp_if_ge 25 d_mo_read_16 (by decide) (fun c4 => ?_) (fun c4 => ?_)
    · have h := h.1 c4
      refine wp_iconst d_mo_read_25 ⟨by decide, by decide⟩ ?_
      refine wp_istore_n (L2 := [(0, pR 101), (1, pI _), (2, pI _)]) d_mo_read_26 rfl (Nat.le_of_ble_eq_true rfl) [1, 2, 0] rfl ?_
      refine wp_iconst d_mo_read_27 ⟨by decide, by decide⟩ ?_
      refine wp_istore_n (L2 := [(0, pR 101), (1, pI _), (2, pI _), (3, pI _)]) d_mo_read_28 rfl (Nat.le_of_ble_eq_true rfl) [1, 2, 3, 0] rfl ?_
      exact h
    · have h := h.2 c4
      refine wp_aload_n d_mo_read_19 rfl 0 rfl ?_
      refine wp_iconst d_mo_read_20 ⟨by decide, by decide⟩ ?_
      refine wp_callV [pI _] _ d_mo_read_21 jd_mo_finds lk_mo_94 rfl s_101 rfl (Nat.le_of_ble_eq_true rfl) (Nat.le_of_ble_eq_true rfl) rfl ?_
      refine clI_k h ?_
      intro x5 M2 h
      exact wp_iret d_mo_read_24 rfl ⟨Nat.le_of_ble_eq_true rfl, Nat.le_of_ble_eq_true rfl⟩ ⟨_, rfl, rfl, rfl, h⟩
  · have h := h.2 c2
    refine wp_bipush d_mo_read_7 ⟨by decide, by decide⟩ (by decide) ?_
    exact wp_iret d_mo_read_9 rfl ⟨Nat.le_of_ble_eq_true rfl, Nat.le_of_ble_eq_true rfl⟩ ⟨_, rfl, rfl, rfl, h⟩
set_option maxHeartbeats 8000000 in
theorem b_mo_read_29 {G : GT} {M : MT} {P : Int → MT → Prop} (v1 : Int) (v2 : Int) (v3 : Int)
    (h : (v3 = 0 → P v2 M) ∧ (¬ v3 = 0 → (0 ≤ v1 ∧ v1 < 4) ∧ (((M 103 (v1.toNat)) < (w32 ((w32 (4 * v2)) + 4)) → P v2 M) ∧ ((w32 ((w32 (4 * v2)) + 4)) ≤ (M 103 (v1.toNat)) → (0 ≤ (w32 ((w32 (60 * v1)) + (w32 (4 * v2)))) ∧ (w32 ((w32 (60 * v1)) + (w32 (4 * v2)))) < 240) ∧ ((0 ≤ (w32 ((w32 ((w32 (60 * v1)) + (w32 (4 * v2)))) + 1)) ∧ (w32 ((w32 ((w32 (60 * v1)) + (w32 (4 * v2)))) + 1)) < 240) ∧ ((0 ≤ (w32 ((w32 ((w32 (60 * v1)) + (w32 (4 * v2)))) + 2)) ∧ (w32 ((w32 ((w32 (60 * v1)) + (w32 (4 * v2)))) + 2)) < 240) ∧ ((0 ≤ (w32 ((w32 ((w32 (60 * v1)) + (w32 (4 * v2)))) + 3)) ∧ (w32 ((w32 ((w32 (60 * v1)) + (w32 (4 * v2)))) + 3)) < 240) ∧ (ClI G J_mo_loan M [pR 101, pI (M 104 ((w32 ((w32 (60 * v1)) + (w32 (4 * v2)))).toNat)), pI (M 104 ((w32 ((w32 ((w32 (60 * v1)) + (w32 (4 * v2)))) + 1)).toNat)), pI (M 104 ((w32 ((w32 ((w32 (60 * v1)) + (w32 (4 * v2)))) + 2)).toNat)), pI (M 104 ((w32 ((w32 ((w32 (60 * v1)) + (w32 (4 * v2)))) + 3)).toNat))] (fun x8 M1 => ((x8 < 0 → WpI G J_mo_read 29 [(0, pR 101), (1, pI v1), (2, pI (w32 (v2 + 0))), (3, pI 0)] [] M1 P) ∧ (0 ≤ x8 → WpI G J_mo_read 29 [(0, pR 101), (1, pI v1), (2, pI (w32 (v2 + 1))), (3, pI 1)] [] M1 P))))))))))) : WpI G J_mo_read 29 [(0, pR 101), (1, pI v1), (2, pI v2), (3, pI v3)] [] M P := by
  show Wp G J_mo_read 0 0 29 [(0, pR 101), (1, pI v1), (2, pI v2), (3, pI v3)] [] NN RF M _
  refine wp_iload_n d_mo_read_29 rfl 3 rfl ?_
  refine wp_if_eq 119 d_mo_read_30 (by decide) (fun c1 => ?_) (fun c1 => ?_)
  · have h := h.1 c1
    refine wp_iload_n d_mo_read_119 rfl 2 rfl ?_
    exact wp_iret d_mo_read_120 rfl ⟨Nat.le_of_ble_eq_true rfl, Nat.le_of_ble_eq_true rfl⟩ ⟨_, rfl, rfl, rfl, h⟩
  · have h := h.2 c1
    refine wp_iconst d_mo_read_33 ⟨by decide, by decide⟩ ?_
    refine wp_iload_n d_mo_read_34 rfl 2 rfl ?_
    refine wp_imul d_mo_read_35 ?_
    refine wp_iconst d_mo_read_36 ⟨by decide, by decide⟩ ?_
    refine wp_iadd d_mo_read_37 ?_
    refine wp_aload_n d_mo_read_38 rfl 0 rfl ?_
    refine wp_getr d_mo_read_39 1 s_101 rfl (Nat.le_of_ble_eq_true rfl) (Nat.le_of_ble_eq_true rfl) rfl rfl lk_mo_13 ?_
    refine wp_iload_n d_mo_read_42 rfl 1 rfl ?_
    obtain ⟨⟨a2, b2⟩, h⟩ := h
    refine wp_iald d_mo_read_43 s_103 (Nat.le_of_ble_eq_true rfl) a2 b2 ?_
    refine wp_icmp_gt 119 d_mo_read_44 (by decide) (fun c3 => ?_) (fun c3 => ?_)
    · have h := h.1 c3
      refine wp_iload_n d_mo_read_119 rfl 2 rfl ?_
      exact wp_iret d_mo_read_120 rfl ⟨Nat.le_of_ble_eq_true rfl, Nat.le_of_ble_eq_true rfl⟩ ⟨_, rfl, rfl, rfl, h⟩
    · have h := h.2 c3
      refine wp_bipush d_mo_read_47 ⟨by decide, by decide⟩ (by decide) ?_
      refine wp_iload_n d_mo_read_49 rfl 1 rfl ?_
      refine wp_imul d_mo_read_50 ?_
      refine wp_iconst d_mo_read_51 ⟨by decide, by decide⟩ ?_
      refine wp_iload_n d_mo_read_52 rfl 2 rfl ?_
      refine wp_imul d_mo_read_53 ?_
      refine wp_iadd d_mo_read_54 ?_
      refine wp_istore (L2 := [(0, pR 101), (1, pI _), (2, pI _), (3, pI _), (4, pI _)]) d_mo_read_55 (Nat.le_of_ble_eq_true rfl) [1, 2, 3, 4, 0] rfl ?_
      refine wp_aload_n d_mo_read_57 rfl 0 rfl ?_
      refine wp_aload_n d_mo_read_58 rfl 0 rfl ?_
      refine wp_getr d_mo_read_59 2 s_101 rfl (Nat.le_of_ble_eq_true rfl) (Nat.le_of_ble_eq_true rfl) rfl rfl lk_mo_16 ?_
      refine wp_iload d_mo_read_62 4 rfl ?_
      obtain ⟨⟨a4, b4⟩, h⟩ := h
      refine wp_iald d_mo_read_64 s_104 (Nat.le_of_ble_eq_true rfl) a4 b4 ?_
      refine wp_aload_n d_mo_read_65 rfl 0 rfl ?_
      refine wp_getr d_mo_read_66 2 s_101 rfl (Nat.le_of_ble_eq_true rfl) (Nat.le_of_ble_eq_true rfl) rfl rfl lk_mo_16 ?_
      refine wp_iload d_mo_read_69 4 rfl ?_
      refine wp_iconst d_mo_read_71 ⟨by decide, by decide⟩ ?_
      refine wp_iadd d_mo_read_72 ?_
      obtain ⟨⟨a5, b5⟩, h⟩ := h
      refine wp_iald d_mo_read_73 s_104 (Nat.le_of_ble_eq_true rfl) a5 b5 ?_
      refine wp_aload_n d_mo_read_74 rfl 0 rfl ?_
      refine wp_getr d_mo_read_75 2 s_101 rfl (Nat.le_of_ble_eq_true rfl) (Nat.le_of_ble_eq_true rfl) rfl rfl lk_mo_16 ?_
      refine wp_iload d_mo_read_78 4 rfl ?_
      refine wp_iconst d_mo_read_80 ⟨by decide, by decide⟩ ?_
      refine wp_iadd d_mo_read_81 ?_
      obtain ⟨⟨a6, b6⟩, h⟩ := h
      refine wp_iald d_mo_read_82 s_104 (Nat.le_of_ble_eq_true rfl) a6 b6 ?_
      refine wp_aload_n d_mo_read_83 rfl 0 rfl ?_
      refine wp_getr d_mo_read_84 2 s_101 rfl (Nat.le_of_ble_eq_true rfl) (Nat.le_of_ble_eq_true rfl) rfl rfl lk_mo_16 ?_
      refine wp_iload d_mo_read_87 4 rfl ?_
      refine wp_iconst d_mo_read_89 ⟨by decide, by decide⟩ ?_
      refine wp_iadd d_mo_read_90 ?_
      obtain ⟨⟨a7, b7⟩, h⟩ := h
      refine wp_iald d_mo_read_91 s_104 (Nat.le_of_ble_eq_true rfl) a7 b7 ?_
      refine wp_callV [pI _, pI _, pI _, pI _] _ d_mo_read_92 jd_mo_loan lk_mo_160 rfl s_101 rfl (Nat.le_of_ble_eq_true rfl) (Nat.le_of_ble_eq_true rfl) rfl ?_
      refine clI_k h ?_
      intro x8 M1 h
      refine wp_if_lt 102 d_mo_read_95 (by decide) (fun c9 => ?_) (fun c9 => ?_)
      · have h := h.1 c9
        refine wp_iconst d_mo_read_102 ⟨by decide, by decide⟩ ?_
        refine wp_istore_n (L2 := [(0, pR 101), (1, pI _), (2, pI _), (3, pI _), (4, pI _)]) d_mo_read_103 rfl (Nat.le_of_ble_eq_true rfl) [1, 2, 3, 0, 4] rfl ?_
        refine wp_iload_n d_mo_read_104 rfl 2 rfl ?_
        refine wp_iload_n d_mo_read_105 rfl 3 rfl ?_
        refine wp_if_eq 113 d_mo_read_106 (by decide) (fun _ => ?_) (fun e => absurd e (by decide))
        refine wp_iconst d_mo_read_113 ⟨by decide, by decide⟩ ?_
        refine wp_iadd d_mo_read_114 ?_
        refine wp_istore_n (L2 := [(0, pR 101), (1, pI _), (2, pI _), (3, pI _), (4, pI _)]) d_mo_read_115 rfl (Nat.le_of_ble_eq_true rfl) [1, 2, 0, 3, 4] rfl ?_
        refine wp_goto 29 d_mo_read_116 (by decide) ?_
        refine wp_sub (L2 := [(0, pR 101), (1, pI _), (2, pI _), (3, pI _)]) [0, 1, 2, 3] rfl ?_
        exact h
      · have h := h.2 c9
        refine wp_iconst d_mo_read_98 ⟨by decide, by decide⟩ ?_
        refine wp_goto 103 d_mo_read_99 (by decide) ?_
        refine wp_istore_n (L2 := [(0, pR 101), (1, pI _), (2, pI _), (3, pI _), (4, pI _)]) d_mo_read_103 rfl (Nat.le_of_ble_eq_true rfl) [1, 2, 3, 0, 4] rfl ?_
        refine wp_iload_n d_mo_read_104 rfl 2 rfl ?_
        refine wp_iload_n d_mo_read_105 rfl 3 rfl ?_
        refine wp_if_eq 113 d_mo_read_106 (by decide) (fun e => absurd e (by decide)) (fun _ => ?_)
        refine wp_iconst d_mo_read_109 ⟨by decide, by decide⟩ ?_
        refine wp_goto 114 d_mo_read_110 (by decide) ?_
        refine wp_iadd d_mo_read_114 ?_
        refine wp_istore_n (L2 := [(0, pR 101), (1, pI _), (2, pI _), (3, pI _), (4, pI _)]) d_mo_read_115 rfl (Nat.le_of_ble_eq_true rfl) [1, 2, 0, 3, 4] rfl ?_
        refine wp_goto 29 d_mo_read_116 (by decide) ?_
        refine wp_sub (L2 := [(0, pR 101), (1, pI _), (2, pI _), (3, pI _)]) [0, 1, 2, 3] rfl ?_
        exact h
set_option maxHeartbeats 8000000 in
theorem e_mo_ear {G : GT} {M : MT} {P : Int → MT → Prop} (v1 : Int)
    (h : ClI G J_mo_in M [pL v1, pL 0, pL 12] (fun x1 M1 => ((¬ x1 = 0 → ∀ M2 : MT, M2 = mu M1 101 14 v1 → (P (M1 101 14) M2)) ∧ (x1 = 0 → P (-2) M1)))) : ClI G J_mo_ear M [pR 101, pI v1] P := by
  show Wp G J_mo_ear 0 0 0 [(0, pR 101), (1, pI v1)] [] NN RF M _
  refine wp_iload_n d_mo_ear_0 rfl 1 rfl ?_
  refine wp_i2l d_mo_ear_1 ?_
  refine wp_lconst (v := 0) d_mo_ear_2 rfl ?_
  refine wp_ldc2 lk_mo_163 d_mo_ear_3 ⟨by decide, by decide⟩ ?_
  refine wp_callS [pL _, pL _, pL _] d_mo_ear_6 jd_mo_in lk_mo_79 rfl (Nat.le_of_ble_eq_true rfl) rfl ?_
  refine clI_k h ?_
  intro x1 M1 h
  refine wp_if_ne 15 d_mo_ear_9 (by decide) (fun c2 => ?_) (fun c2 => ?_)
  · have h := h.1 c2
    refine wp_aload_n d_mo_ear_15 rfl 0 rfl ?_
    refine wp_geti d_mo_ear_16 14 s_101 rfl (Nat.le_of_ble_eq_true rfl) (Nat.le_of_ble_eq_true rfl) rfl lk_mo_73 ?_
    refine wp_istore_n (L2 := [(0, pR 101), (1, pI _), (2, pI _)]) d_mo_ear_19 rfl (Nat.le_of_ble_eq_true rfl) [1, 2, 0] rfl ?_
    refine wp_aload_n d_mo_ear_20 rfl 0 rfl ?_
    refine wp_iload_n d_mo_ear_21 rfl 1 rfl ?_
    refine wp_puti d_mo_ear_22 14 s_101 rfl (Nat.le_of_ble_eq_true rfl) (Nat.le_of_ble_eq_true rfl) (Or.inl rfl) rfl lk_mo_73 ?_
    have h := h _ rfl
    refine wp_iload_n d_mo_ear_25 rfl 2 rfl ?_
    exact wp_iret d_mo_ear_26 rfl ⟨Nat.le_of_ble_eq_true rfl, Nat.le_of_ble_eq_true rfl⟩ ⟨_, rfl, rfl, rfl, h⟩
  · have h := h.2 c2
    refine wp_bipush d_mo_ear_12 ⟨by decide, by decide⟩ (by decide) ?_
    exact wp_iret d_mo_ear_14 rfl ⟨Nat.le_of_ble_eq_true rfl, Nat.le_of_ble_eq_true rfl⟩ ⟨_, rfl, rfl, rfl, h⟩
set_option maxHeartbeats 8000000 in
theorem e_mo_begins {G : GT} {M : MT} {P : MT → Prop} (v1 : Int) (v2 : Int)
    (h : WpV G J_mo_begins 2 [(0, pR 101), (1, pI v1), (2, pI v2), (3, pI 0)] [] M P) : ClV G J_mo_begins M [pR 101, pI v1, pI v2] P := by
  show Wp G J_mo_begins 0 0 0 [(0, pR 101), (1, pI v1), (2, pI v2)] [] NN RF M _
  refine wp_iconst d_mo_begins_0 ⟨by decide, by decide⟩ ?_
  refine wp_istore_n (L2 := [(0, pR 101), (1, pI _), (2, pI _), (3, pI _)]) d_mo_begins_1 rfl (Nat.le_of_ble_eq_true rfl) [1, 2, 3, 0] rfl ?_
  exact h
set_option maxHeartbeats 8000000 in
theorem b_mo_begins_2 {G : GT} {M : MT} {P : MT → Prop} (v1 : Int) (v2 : Int) (v3 : Int)
    (h : (0 ≤ v1 ∧ v1 < 6) ∧ (((M 109 (v1.toNat)) ≤ v3 → (0 ≤ v1 ∧ v1 < 6) ∧ ((0 ≤ v2 ∧ v2 < 7) ∧ (∀ M1 : MT, M1 = mu M 113 (v2.toNat) (M 109 (v1.toNat)) → (P M1)))) ∧ (v3 < (M 109 (v1.toNat)) → (0 ≤ (w32 ((w32 (40 * v1)) + v3)) ∧ (w32 ((w32 (40 * v1)) + v3)) < 240) ∧ ((0 ≤ (w32 ((w32 (40 * v2)) + v3)) ∧ (w32 ((w32 (40 * v2)) + v3)) < 280) ∧ (∀ M1 : MT, M1 = mu M 112 ((w32 ((w32 (40 * v2)) + v3)).toNat) (M 108 ((w32 ((w32 (40 * v1)) + v3)).toNat)) → (WpV G J_mo_begins 2 [(0, pR 101), (1, pI v1), (2, pI v2), (3, pI (w32 (v3 + 1)))] [] M1 P)))))) : WpV G J_mo_begins 2 [(0, pR 101), (1, pI v1), (2, pI v2), (3, pI v3)] [] M P := by
  show Wp G J_mo_begins 0 0 2 [(0, pR 101), (1, pI v1), (2, pI v2), (3, pI v3)] [] NN RF M _
  refine wp_iload_n d_mo_begins_2 rfl 3 rfl ?_
  refine wp_aload_n d_mo_begins_3 rfl 0 rfl ?_
  refine wp_getr d_mo_begins_4 9 s_101 rfl (Nat.le_of_ble_eq_true rfl) (Nat.le_of_ble_eq_true rfl) rfl rfl lk_mo_31 ?_
  refine wp_iload_n d_mo_begins_7 rfl 1 rfl ?_
  obtain ⟨⟨a1, b1⟩, h⟩ := h
  refine wp_iald d_mo_begins_8 s_109 (Nat.le_of_ble_eq_true rfl) a1 b1 ?_
  refine wp_icmp_ge 40 d_mo_begins_9 (by decide) (fun c2 => ?_) (fun c2 => ?_)
  · have h := h.1 c2
    refine wp_aload_n d_mo_begins_40 rfl 0 rfl ?_
    refine wp_getr d_mo_begins_41 16 s_101 rfl (Nat.le_of_ble_eq_true rfl) (Nat.le_of_ble_eq_true rfl) rfl rfl lk_mo_43 ?_
    refine wp_iload_n d_mo_begins_44 rfl 2 rfl ?_
    refine wp_aload_n d_mo_begins_45 rfl 0 rfl ?_
    refine wp_getr d_mo_begins_46 9 s_101 rfl (Nat.le_of_ble_eq_true rfl) (Nat.le_of_ble_eq_true rfl) rfl rfl lk_mo_31 ?_
    refine wp_iload_n d_mo_begins_49 rfl 1 rfl ?_
    obtain ⟨⟨a3, b3⟩, h⟩ := h
    refine wp_iald d_mo_begins_50 s_109 (Nat.le_of_ble_eq_true rfl) a3 b3 ?_
    obtain ⟨⟨a4, b4⟩, h⟩ := h
    refine wp_iast d_mo_begins_51 s_113 (Nat.le_of_ble_eq_true rfl) a4 b4 ?_
    have h := h _ rfl
    exact wp_vret d_mo_begins_52 rfl ⟨Nat.le_of_ble_eq_true rfl, Nat.le_of_ble_eq_true rfl⟩ ⟨rfl, rfl, rfl, h⟩
  · have h := h.2 c2
    refine wp_aload_n d_mo_begins_12 rfl 0 rfl ?_
    refine wp_getr d_mo_begins_13 15 s_101 rfl (Nat.le_of_ble_eq_true rfl) (Nat.le_of_ble_eq_true rfl) rfl rfl lk_mo_40 ?_
    refine wp_bipush d_mo_begins_16 ⟨by decide, by decide⟩ (by decide) ?_
    refine wp_iload_n d_mo_begins_18 rfl 2 rfl ?_
    refine wp_imul d_mo_begins_19 ?_
    refine wp_iload_n d_mo_begins_20 rfl 3 rfl ?_
    refine wp_iadd d_mo_begins_21 ?_
    refine wp_aload_n d_mo_begins_22 rfl 0 rfl ?_
    refine wp_getr d_mo_begins_23 8 s_101 rfl (Nat.le_of_ble_eq_true rfl) (Nat.le_of_ble_eq_true rfl) rfl rfl lk_mo_28 ?_
    refine wp_bipush d_mo_begins_26 ⟨by decide, by decide⟩ (by decide) ?_
    refine wp_iload_n d_mo_begins_28 rfl 1 rfl ?_
    refine wp_imul d_mo_begins_29 ?_
    refine wp_iload_n d_mo_begins_30 rfl 3 rfl ?_
    refine wp_iadd d_mo_begins_31 ?_
    obtain ⟨⟨a3, b3⟩, h⟩ := h
    refine wp_iald d_mo_begins_32 s_108 (Nat.le_of_ble_eq_true rfl) a3 b3 ?_
    obtain ⟨⟨a4, b4⟩, h⟩ := h
    refine wp_iast d_mo_begins_33 s_112 (Nat.le_of_ble_eq_true rfl) a4 b4 ?_
    have h := h _ rfl
    refine wp_iinc (L2 := [(0, pR 101), (1, pI _), (2, pI _), (3, pI _)]) d_mo_begins_34 3 rfl (Nat.le_of_ble_eq_true rfl) [1, 2, 3, 0] rfl ?_
    refine wp_goto 2 d_mo_begins_37 (by decide) ?_
    exact h
set_option maxHeartbeats 8000000 in
theorem e_mo_hummed {G : GT} {M : MT} {P : MT → Prop} (v1 : Int) (v2 : Int)
    (h : (0 ≤ (w32 (3 * v2)) ∧ (w32 (3 * v2)) < 18) ∧ ((0 ≤ (w32 ((w32 (3 * v2)) + 1)) ∧ (w32 ((w32 (3 * v2)) + 1)) < 18) ∧ ((0 ≤ (w32 ((w32 (3 * v2)) + 2)) ∧ (w32 ((w32 (3 * v2)) + 2)) < 18) ∧ (WpV G J_mo_hummed 39 [(0, pR 101), (1, pI v1), (3, pI 0), (4, pI (M 110 ((w32 (3 * v2)).toNat))), (5, pI (M 110 ((w32 ((w32 (3 * v2)) + 1)).toNat))), (6, pI (M 110 ((w32 ((w32 (3 * v2)) + 2)).toNat))), (7, pI 0)] [] M P)))) : ClV G J_mo_hummed M [pR 101, pI v1, pI v2] P := by
  show Wp G J_mo_hummed 0 0 0 [(0, pR 101), (1, pI v1), (2, pI v2)] [] NN RF M _
  refine wp_iconst d_mo_hummed_0 ⟨by decide, by decide⟩ ?_
  refine wp_istore_n (L2 := [(0, pR 101), (1, pI _), (2, pI _), (3, pI _)]) d_mo_hummed_1 rfl (Nat.le_of_ble_eq_true rfl) [1, 2, 3, 0] rfl ?_
  refine wp_aload_n d_mo_hummed_2 rfl 0 rfl ?_
  refine wp_getr d_mo_hummed_3 11 s_101 rfl (Nat.le_of_ble_eq_true rfl) (Nat.le_of_ble_eq_true rfl) rfl rfl lk_mo_34 ?_
  refine wp_iconst d_mo_hummed_6 ⟨by decide, by decide⟩ ?_
  refine wp_iload_n d_mo_hummed_7 rfl 2 rfl ?_
  refine wp_imul d_mo_hummed_8 ?_
  obtain ⟨⟨a1, b1⟩, h⟩ := h
  refine wp_iald d_mo_hummed_9 s_110 (Nat.le_of_ble_eq_true rfl) a1 b1 ?_
  refine wp_istore (L2 := [(0, pR 101), (1, pI _), (2, pI _), (3, pI _), (4, pI _)]) d_mo_hummed_10 (Nat.le_of_ble_eq_true rfl) [1, 2, 3, 4, 0] rfl ?_
  refine wp_aload_n d_mo_hummed_12 rfl 0 rfl ?_
  refine wp_getr d_mo_hummed_13 11 s_101 rfl (Nat.le_of_ble_eq_true rfl) (Nat.le_of_ble_eq_true rfl) rfl rfl lk_mo_34 ?_
  refine wp_iconst d_mo_hummed_16 ⟨by decide, by decide⟩ ?_
  refine wp_iload_n d_mo_hummed_17 rfl 2 rfl ?_
  refine wp_imul d_mo_hummed_18 ?_
  refine wp_iconst d_mo_hummed_19 ⟨by decide, by decide⟩ ?_
  refine wp_iadd d_mo_hummed_20 ?_
  obtain ⟨⟨a2, b2⟩, h⟩ := h
  refine wp_iald d_mo_hummed_21 s_110 (Nat.le_of_ble_eq_true rfl) a2 b2 ?_
  refine wp_istore (L2 := [(0, pR 101), (1, pI _), (2, pI _), (3, pI _), (4, pI _), (5, pI _)]) d_mo_hummed_22 (Nat.le_of_ble_eq_true rfl) [1, 2, 3, 4, 5, 0] rfl ?_
  refine wp_aload_n d_mo_hummed_24 rfl 0 rfl ?_
  refine wp_getr d_mo_hummed_25 11 s_101 rfl (Nat.le_of_ble_eq_true rfl) (Nat.le_of_ble_eq_true rfl) rfl rfl lk_mo_34 ?_
  refine wp_iconst d_mo_hummed_28 ⟨by decide, by decide⟩ ?_
  refine wp_iload_n d_mo_hummed_29 rfl 2 rfl ?_
  refine wp_imul d_mo_hummed_30 ?_
  refine wp_iconst d_mo_hummed_31 ⟨by decide, by decide⟩ ?_
  refine wp_iadd d_mo_hummed_32 ?_
  obtain ⟨⟨a3, b3⟩, h⟩ := h
  refine wp_iald d_mo_hummed_33 s_110 (Nat.le_of_ble_eq_true rfl) a3 b3 ?_
  refine wp_istore (L2 := [(0, pR 101), (1, pI _), (2, pI _), (3, pI _), (4, pI _), (5, pI _), (6, pI _)]) d_mo_hummed_34 (Nat.le_of_ble_eq_true rfl) [1, 2, 3, 4, 5, 6, 0] rfl ?_
  refine wp_iconst d_mo_hummed_36 ⟨by decide, by decide⟩ ?_
  refine wp_istore (L2 := [(0, pR 101), (1, pI _), (2, pI _), (3, pI _), (4, pI _), (5, pI _), (6, pI _), (7, pI _)]) d_mo_hummed_37 (Nat.le_of_ble_eq_true rfl) [1, 2, 3, 4, 5, 6, 7, 0] rfl ?_
  refine wp_sub (L2 := [(0, pR 101), (1, pI _), (3, pI _), (4, pI _), (5, pI _), (6, pI _), (7, pI _)]) [0, 1, 3, 4, 5, 6, 7] rfl ?_
  exact h
set_option maxHeartbeats 8000000 in
theorem b_mo_hummed_39 {G : GT} {M : MT} {P : MT → Prop} (v1 : Int) (v3 : Int) (v4 : Int) (v5 : Int) (v6 : Int) (v7 : Int)
    (h : (0 ≤ v1 ∧ v1 < 7) ∧ (((M 113 (v1.toNat)) ≤ v7 → ClI G J_mo_lesser M [pI v3, pI 40] (fun x3 M1 => ((0 ≤ v1 ∧ v1 < 7) ∧ (∀ M2 : MT, M2 = mu M1 113 (v1.toNat) x3 → (WpV G J_mo_hummed 158 [(0, pR 101), (1, pI v1), (7, pI 0)] [] M2 P))))) ∧ (v7 < (M 113 (v1.toNat)) → (0 ≤ (w32 ((w32 (40 * v1)) + v7)) ∧ (w32 ((w32 (40 * v1)) + v7)) < 280) ∧ ((¬ (M 112 ((w32 ((w32 (40 * v1)) + v7)).toNat)) = v4 → (0 ≤ v3 ∧ v3 < 80) ∧ (∀ M1 : MT, M1 = mu M 121 (v3.toNat) (M 112 ((w32 ((w32 (40 * v1)) + v7)).toNat)) → (WpV G J_mo_hummed 39 [(0, pR 101), (1, pI v1), (3, pI (w32 (v3 + 1))), (4, pI v4), (5, pI v5), (6, pI v6), (7, pI (w32 (v7 + 1)))] [] M1 P))) ∧ ((M 112 ((w32 ((w32 (40 * v1)) + v7)).toNat)) = v4 → (v5 = 1 → (¬ v5 = 0 → WpV G J_mo_hummed 39 [(0, pR 101), (1, pI v1), (3, pI v3), (4, pI v4), (5, pI v5), (6, pI v6), (7, pI (w32 (v7 + 1)))] [] M P) ∧ (v5 = 0 → (0 ≤ v3 ∧ v3 < 80) ∧ (∀ M1 : MT, M1 = mu M 121 (v3.toNat) v6 → (WpV G J_mo_hummed 39 [(0, pR 101), (1, pI v1), (3, pI (w32 (v3 + 1))), (4, pI v4), (5, pI v5), (6, pI v6), (7, pI (w32 (v7 + 1)))] [] M1 P)))) ∧ (¬ v5 = 1 → (¬ v5 = 2 → (0 ≤ v3 ∧ v3 < 80) ∧ (∀ M1 : MT, M1 = mu M 121 (v3.toNat) (M 112 ((w32 ((w32 (40 * v1)) + v7)).toNat)) → ((¬ v5 = 0 → WpV G J_mo_hummed 39 [(0, pR 101), (1, pI v1), (3, pI (w32 (v3 + 1))), (4, pI v4), (5, pI v5), (6, pI v6), (7, pI (w32 (v7 + 1)))] [] M1 P) ∧ (v5 = 0 → (0 ≤ (w32 (v3 + 1)) ∧ (w32 (v3 + 1)) < 80) ∧ (∀ M2 : MT, M2 = mu M1 121 ((w32 (v3 + 1)).toNat) v6 → (WpV G J_mo_hummed 39 [(0, pR 101), (1, pI v1), (3, pI (w32 ((w32 (v3 + 1)) + 1))), (4, pI v4), (5, pI v5), (6, pI v6), (7, pI (w32 (v7 + 1)))] [] M2 P)))))) ∧ (v5 = 2 → (0 ≤ v3 ∧ v3 < 80) ∧ (∀ M1 : MT, M1 = mu M 121 (v3.toNat) v6 → ((¬ v5 = 0 → WpV G J_mo_hummed 39 [(0, pR 101), (1, pI v1), (3, pI (w32 (v3 + 1))), (4, pI v4), (5, pI v5), (6, pI v6), (7, pI (w32 (v7 + 1)))] [] M1 P) ∧ (v5 = 0 → (0 ≤ (w32 (v3 + 1)) ∧ (w32 (v3 + 1)) < 80) ∧ (∀ M2 : MT, M2 = mu M1 121 ((w32 (v3 + 1)).toNat) v6 → (WpV G J_mo_hummed 39 [(0, pR 101), (1, pI v1), (3, pI (w32 ((w32 (v3 + 1)) + 1))), (4, pI v4), (5, pI v5), (6, pI v6), (7, pI (w32 (v7 + 1)))] [] M2 P)))))))))))) : WpV G J_mo_hummed 39 [(0, pR 101), (1, pI v1), (3, pI v3), (4, pI v4), (5, pI v5), (6, pI v6), (7, pI v7)] [] M P := by
  show Wp G J_mo_hummed 0 0 39 [(0, pR 101), (1, pI v1), (3, pI v3), (4, pI v4), (5, pI v5), (6, pI v6), (7, pI v7)] [] NN RF M _
  refine wp_iload d_mo_hummed_39 6 rfl ?_
  refine wp_aload_n d_mo_hummed_41 rfl 0 rfl ?_
  refine wp_getr d_mo_hummed_42 16 s_101 rfl (Nat.le_of_ble_eq_true rfl) (Nat.le_of_ble_eq_true rfl) rfl rfl lk_mo_43 ?_
  refine wp_iload_n d_mo_hummed_45 rfl 1 rfl ?_
  obtain ⟨⟨a1, b1⟩, h⟩ := h
  refine wp_iald d_mo_hummed_46 s_113 (Nat.le_of_ble_eq_true rfl) a1 b1 ?_
  refine wp_icmp_ge 143 d_mo_hummed_47 (by decide) (fun c2 => ?_) (fun c2 => ?_)
  · have h := h.1 c2
    refine wp_aload_n d_mo_hummed_143 rfl 0 rfl ?_
    refine wp_getr d_mo_hummed_144 16 s_101 rfl (Nat.le_of_ble_eq_true rfl) (Nat.le_of_ble_eq_true rfl) rfl rfl lk_mo_43 ?_
    refine wp_iload_n d_mo_hummed_147 rfl 1 rfl ?_
    refine wp_iload_n d_mo_hummed_148 rfl 2 rfl ?_
    refine wp_bipush d_mo_hummed_149 ⟨by decide, by decide⟩ (by decide) ?_
    refine wp_callS [pI _, pI _] d_mo_hummed_151 jd_mo_lesser lk_mo_165 rfl (Nat.le_of_ble_eq_true rfl) rfl ?_
    refine clI_k h ?_
    intro x3 M1 h
    obtain ⟨⟨a4, b4⟩, h⟩ := h
    refine wp_iast d_mo_hummed_154 s_113 (Nat.le_of_ble_eq_true rfl) a4 b4 ?_
    have h := h _ rfl
    refine wp_iconst d_mo_hummed_155 ⟨by decide, by decide⟩ ?_
    refine wp_istore (L2 := [(0, pR 101), (1, pI _), (3, pI _), (4, pI _), (5, pI _), (6, pI _), (7, pI _)]) d_mo_hummed_156 (Nat.le_of_ble_eq_true rfl) [1, 2, 3, 4, 5, 6, 0] rfl ?_
    refine wp_sub (L2 := [(0, pR 101), (1, pI _), (7, pI _)]) [0, 1, 6] rfl ?_
    exact h
  · have h := h.2 c2
    refine wp_aload_n d_mo_hummed_50 rfl 0 rfl ?_
    refine wp_getr d_mo_hummed_51 15 s_101 rfl (Nat.le_of_ble_eq_true rfl) (Nat.le_of_ble_eq_true rfl) rfl rfl lk_mo_40 ?_
    refine wp_bipush d_mo_hummed_54 ⟨by decide, by decide⟩ (by decide) ?_
    refine wp_iload_n d_mo_hummed_56 rfl 1 rfl ?_
    refine wp_imul d_mo_hummed_57 ?_
    refine wp_iload d_mo_hummed_58 6 rfl ?_
    refine wp_iadd d_mo_hummed_60 ?_
    obtain ⟨⟨a3, b3⟩, h⟩ := h
    refine wp_iald d_mo_hummed_61 s_112 (Nat.le_of_ble_eq_true rfl) a3 b3 ?_
    refine wp_istore (L2 := [(0, pR 101), (1, pI _), (3, pI _), (4, pI _), (5, pI _), (6, pI _), (7, pI _), (8, pI _)]) d_mo_hummed_62 (Nat.le_of_ble_eq_true rfl) [1, 2, 3, 4, 5, 6, 7, 0] rfl ?_
    refine wp_iload d_mo_hummed_64 7 rfl ?_
    refine wp_iload d_mo_hummed_66 3 rfl ?_
    refine wp_icmp_ne 75 d_mo_hummed_68 (by decide) (fun c4 => ?_) (fun c4 => ?_)
    · have h := h.1 c4
      refine wp_iconst d_mo_hummed_75 ⟨by decide, by decide⟩ ?_
      refine wp_istore (L2 := [(0, pR 101), (1, pI _), (3, pI _), (4, pI _), (5, pI _), (6, pI _), (7, pI _), (8, pI _), (9, pI _)]) d_mo_hummed_76 (Nat.le_of_ble_eq_true rfl) [1, 2, 3, 4, 5, 6, 7, 8, 0] rfl ?_
      refine wp_iload d_mo_hummed_78 8 rfl ?_
      refine wp_if_eq 89 d_mo_hummed_80 (by decide) (fun _ => ?_) (fun e => absurd e (by decide))
      refine wp_aload_n d_mo_hummed_89 rfl 0 rfl ?_
      refine wp_getr d_mo_hummed_90 24 s_101 rfl (Nat.le_of_ble_eq_true rfl) (Nat.le_of_ble_eq_true rfl) rfl rfl lk_mo_67 ?_
      refine wp_iload_n d_mo_hummed_93 rfl 2 rfl ?_
      refine wp_iload d_mo_hummed_94 8 rfl ?_
      refine wp_if_eq 110 d_mo_hummed_96 (by decide) (fun _ => ?_) (fun e => absurd e (by decide))
      refine wp_iload d_mo_hummed_110 7 rfl ?_
      obtain ⟨⟨a5, b5⟩, h⟩ := h
      refine wp_iast d_mo_hummed_112 s_121 (Nat.le_of_ble_eq_true rfl) a5 b5 ?_
      have h := h _ rfl
      refine wp_iinc (L2 := [(0, pR 101), (1, pI _), (3, pI _), (4, pI _), (5, pI _), (6, pI _), (7, pI _), (8, pI _), (9, pI _)]) d_mo_hummed_113 2 rfl (Nat.le_of_ble_eq_true rfl) [1, 2, 0, 3, 4, 5, 6, 7, 8] rfl ?_
      refine wp_iload d_mo_hummed_116 8 rfl ?_
      refine wp_if_eq 137 d_mo_hummed_118 (by decide) (fun _ => ?_) (fun e => absurd e (by decide))
      refine wp_iinc (L2 := [(0, pR 101), (1, pI _), (3, pI _), (4, pI _), (5, pI _), (6, pI _), (7, pI _), (8, pI _), (9, pI _)]) d_mo_hummed_137 6 rfl (Nat.le_of_ble_eq_true rfl) [1, 2, 3, 4, 5, 6, 0, 7, 8] rfl ?_
      refine wp_goto 39 d_mo_hummed_140 (by decide) ?_
      refine wp_sub (L2 := [(0, pR 101), (1, pI _), (3, pI _), (4, pI _), (5, pI _), (6, pI _), (7, pI _)]) [0, 1, 2, 3, 4, 5, 6] rfl ?_
      exact h
    · have h := h.2 c4
      refine wp_iconst d_mo_hummed_71 ⟨by decide, by decide⟩ ?_
      refine wp_goto 76 d_mo_hummed_72 (by decide) ?_
      refine wp_istore (L2 := [(0, pR 101), (1, pI _), (3, pI _), (4, pI _), (5, pI _), (6, pI _), (7, pI _), (8, pI _), (9, pI _)]) d_mo_hummed_76 (Nat.le_of_ble_eq_true rfl) [1, 2, 3, 4, 5, 6, 7, 8, 0] rfl ?_
      refine wp_iload d_mo_hummed_78 8 rfl ?_
      refine wp_if_eq 89 d_mo_hummed_80 (by decide) (fun e => absurd e (by decide)) (fun _ => ?_)
      refine wp_iload d_mo_hummed_83 4 rfl ?_
      refine wp_iconst d_mo_hummed_85 ⟨by decide, by decide⟩ ?_
      refine wp_icmp_eq 116 d_mo_hummed_86 (by decide) (fun c5 => ?_) (fun c5 => ?_)
      · have h := h.1 c5
        refine wp_iload d_mo_hummed_116 8 rfl ?_
        refine wp_if_eq 137 d_mo_hummed_118 (by decide) (fun e => absurd e (by decide)) (fun _ => ?_)
        refine wp_iload d_mo_hummed_121 4 rfl ?_
        refine wp_if_ne 137 d_mo_hummed_123 (by decide) (fun c6 => ?_) (fun c6 => ?_)
        · have h := h.1 c6
          refine wp_iinc (L2 := [(0, pR 101), (1, pI _), (3, pI _), (4, pI _), (5, pI _), (6, pI _), (7, pI _), (8, pI _), (9, pI _)]) d_mo_hummed_137 6 rfl (Nat.le_of_ble_eq_true rfl) [1, 2, 3, 4, 5, 6, 0, 7, 8] rfl ?_
          refine wp_goto 39 d_mo_hummed_140 (by decide) ?_
          refine wp_sub (L2 := [(0, pR 101), (1, pI _), (3, pI _), (4, pI _), (5, pI _), (6, pI _), (7, pI _)]) [0, 1, 2, 3, 4, 5, 6] rfl ?_
          exact h
        · have h := h.2 c6
          refine wp_aload_n d_mo_hummed_126 rfl 0 rfl ?_
          refine wp_getr d_mo_hummed_127 24 s_101 rfl (Nat.le_of_ble_eq_true rfl) (Nat.le_of_ble_eq_true rfl) rfl rfl lk_mo_67 ?_
          refine wp_iload_n d_mo_hummed_130 rfl 2 rfl ?_
          refine wp_iload d_mo_hummed_131 5 rfl ?_
          obtain ⟨⟨a7, b7⟩, h⟩ := h
          refine wp_iast d_mo_hummed_133 s_121 (Nat.le_of_ble_eq_true rfl) a7 b7 ?_
          have h := h _ rfl
          refine wp_iinc (L2 := [(0, pR 101), (1, pI _), (3, pI _), (4, pI _), (5, pI _), (6, pI _), (7, pI _), (8, pI _), (9, pI _)]) d_mo_hummed_134 2 rfl (Nat.le_of_ble_eq_true rfl) [1, 2, 0, 3, 4, 5, 6, 7, 8] rfl ?_
          refine wp_iinc (L2 := [(0, pR 101), (1, pI _), (3, pI _), (4, pI _), (5, pI _), (6, pI _), (7, pI _), (8, pI _), (9, pI _)]) d_mo_hummed_137 6 rfl (Nat.le_of_ble_eq_true rfl) [1, 2, 3, 4, 5, 6, 0, 7, 8] rfl ?_
          refine wp_goto 39 d_mo_hummed_140 (by decide) ?_
          refine wp_sub (L2 := [(0, pR 101), (1, pI _), (3, pI _), (4, pI _), (5, pI _), (6, pI _), (7, pI _)]) [0, 1, 2, 3, 4, 5, 6] rfl ?_
          exact h
      · have h := h.2 c5
        refine wp_aload_n d_mo_hummed_89 rfl 0 rfl ?_
        refine wp_getr d_mo_hummed_90 24 s_101 rfl (Nat.le_of_ble_eq_true rfl) (Nat.le_of_ble_eq_true rfl) rfl rfl lk_mo_67 ?_
        refine wp_iload_n d_mo_hummed_93 rfl 2 rfl ?_
        refine wp_iload d_mo_hummed_94 8 rfl ?_
        refine wp_if_eq 110 d_mo_hummed_96 (by decide) (fun e => absurd e (by decide)) (fun _ => ?_)
        refine wp_iload d_mo_hummed_99 4 rfl ?_
        refine wp_iconst d_mo_hummed_101 ⟨by decide, by decide⟩ ?_
        refine wp_icmp_ne 110 d_mo_hummed_102 (by decide) (fun c6 => ?_) (fun c6 => ?_)
        · have h := h.1 c6
          refine wp_iload d_mo_hummed_110 7 rfl ?_
          obtain ⟨⟨a7, b7⟩, h⟩ := h
          refine wp_iast d_mo_hummed_112 s_121 (Nat.le_of_ble_eq_true rfl) a7 b7 ?_
          have h := h _ rfl
          refine wp_iinc (L2 := [(0, pR 101), (1, pI _), (3, pI _), (4, pI _), (5, pI _), (6, pI _), (7, pI _), (8, pI _), (9, pI _)]) d_mo_hummed_113 2 rfl (Nat.le_of_ble_eq_true rfl) [1, 2, 0, 3, 4, 5, 6, 7, 8] rfl ?_
          refine wp_iload d_mo_hummed_116 8 rfl ?_
          refine wp_if_eq 137 d_mo_hummed_118 (by decide) (fun e => absurd e (by decide)) (fun _ => ?_)
          refine wp_iload d_mo_hummed_121 4 rfl ?_
          refine wp_if_ne 137 d_mo_hummed_123 (by decide) (fun c8 => ?_) (fun c8 => ?_)
          · have h := h.1 c8
            refine wp_iinc (L2 := [(0, pR 101), (1, pI _), (3, pI _), (4, pI _), (5, pI _), (6, pI _), (7, pI _), (8, pI _), (9, pI _)]) d_mo_hummed_137 6 rfl (Nat.le_of_ble_eq_true rfl) [1, 2, 3, 4, 5, 6, 0, 7, 8] rfl ?_
            refine wp_goto 39 d_mo_hummed_140 (by decide) ?_
            refine wp_sub (L2 := [(0, pR 101), (1, pI _), (3, pI _), (4, pI _), (5, pI _), (6, pI _), (7, pI _)]) [0, 1, 2, 3, 4, 5, 6] rfl ?_
            exact h
          · have h := h.2 c8
            refine wp_aload_n d_mo_hummed_126 rfl 0 rfl ?_
            refine wp_getr d_mo_hummed_127 24 s_101 rfl (Nat.le_of_ble_eq_true rfl) (Nat.le_of_ble_eq_true rfl) rfl rfl lk_mo_67 ?_
            refine wp_iload_n d_mo_hummed_130 rfl 2 rfl ?_
            refine wp_iload d_mo_hummed_131 5 rfl ?_
            obtain ⟨⟨a9, b9⟩, h⟩ := h
            refine wp_iast d_mo_hummed_133 s_121 (Nat.le_of_ble_eq_true rfl) a9 b9 ?_
            have h := h _ rfl
            refine wp_iinc (L2 := [(0, pR 101), (1, pI _), (3, pI _), (4, pI _), (5, pI _), (6, pI _), (7, pI _), (8, pI _), (9, pI _)]) d_mo_hummed_134 2 rfl (Nat.le_of_ble_eq_true rfl) [1, 2, 0, 3, 4, 5, 6, 7, 8] rfl ?_
            refine wp_iinc (L2 := [(0, pR 101), (1, pI _), (3, pI _), (4, pI _), (5, pI _), (6, pI _), (7, pI _), (8, pI _), (9, pI _)]) d_mo_hummed_137 6 rfl (Nat.le_of_ble_eq_true rfl) [1, 2, 3, 4, 5, 6, 0, 7, 8] rfl ?_
            refine wp_goto 39 d_mo_hummed_140 (by decide) ?_
            refine wp_sub (L2 := [(0, pR 101), (1, pI _), (3, pI _), (4, pI _), (5, pI _), (6, pI _), (7, pI _)]) [0, 1, 2, 3, 4, 5, 6] rfl ?_
            exact h
        · have h := h.2 c6
          refine wp_iload d_mo_hummed_105 5 rfl ?_
          refine wp_goto 112 d_mo_hummed_107 (by decide) ?_
          obtain ⟨⟨a7, b7⟩, h⟩ := h
          refine wp_iast d_mo_hummed_112 s_121 (Nat.le_of_ble_eq_true rfl) a7 b7 ?_
          have h := h _ rfl
          refine wp_iinc (L2 := [(0, pR 101), (1, pI _), (3, pI _), (4, pI _), (5, pI _), (6, pI _), (7, pI _), (8, pI _), (9, pI _)]) d_mo_hummed_113 2 rfl (Nat.le_of_ble_eq_true rfl) [1, 2, 0, 3, 4, 5, 6, 7, 8] rfl ?_
          refine wp_iload d_mo_hummed_116 8 rfl ?_
          refine wp_if_eq 137 d_mo_hummed_118 (by decide) (fun e => absurd e (by decide)) (fun _ => ?_)
          refine wp_iload d_mo_hummed_121 4 rfl ?_
          refine wp_if_ne 137 d_mo_hummed_123 (by decide) (fun c8 => ?_) (fun c8 => ?_)
          · have h := h.1 c8
            refine wp_iinc (L2 := [(0, pR 101), (1, pI _), (3, pI _), (4, pI _), (5, pI _), (6, pI _), (7, pI _), (8, pI _), (9, pI _)]) d_mo_hummed_137 6 rfl (Nat.le_of_ble_eq_true rfl) [1, 2, 3, 4, 5, 6, 0, 7, 8] rfl ?_
            refine wp_goto 39 d_mo_hummed_140 (by decide) ?_
            refine wp_sub (L2 := [(0, pR 101), (1, pI _), (3, pI _), (4, pI _), (5, pI _), (6, pI _), (7, pI _)]) [0, 1, 2, 3, 4, 5, 6] rfl ?_
            exact h
          · have h := h.2 c8
            refine wp_aload_n d_mo_hummed_126 rfl 0 rfl ?_
            refine wp_getr d_mo_hummed_127 24 s_101 rfl (Nat.le_of_ble_eq_true rfl) (Nat.le_of_ble_eq_true rfl) rfl rfl lk_mo_67 ?_
            refine wp_iload_n d_mo_hummed_130 rfl 2 rfl ?_
            refine wp_iload d_mo_hummed_131 5 rfl ?_
            obtain ⟨⟨a9, b9⟩, h⟩ := h
            refine wp_iast d_mo_hummed_133 s_121 (Nat.le_of_ble_eq_true rfl) a9 b9 ?_
            have h := h _ rfl
            refine wp_iinc (L2 := [(0, pR 101), (1, pI _), (3, pI _), (4, pI _), (5, pI _), (6, pI _), (7, pI _), (8, pI _), (9, pI _)]) d_mo_hummed_134 2 rfl (Nat.le_of_ble_eq_true rfl) [1, 2, 0, 3, 4, 5, 6, 7, 8] rfl ?_
            refine wp_iinc (L2 := [(0, pR 101), (1, pI _), (3, pI _), (4, pI _), (5, pI _), (6, pI _), (7, pI _), (8, pI _), (9, pI _)]) d_mo_hummed_137 6 rfl (Nat.le_of_ble_eq_true rfl) [1, 2, 3, 4, 5, 6, 0, 7, 8] rfl ?_
            refine wp_goto 39 d_mo_hummed_140 (by decide) ?_
            refine wp_sub (L2 := [(0, pR 101), (1, pI _), (3, pI _), (4, pI _), (5, pI _), (6, pI _), (7, pI _)]) [0, 1, 2, 3, 4, 5, 6] rfl ?_
            exact h
set_option maxHeartbeats 8000000 in
theorem b_mo_hummed_158 {G : GT} {M : MT} {P : MT → Prop} (v1 : Int) (v7 : Int)
    (h : (0 ≤ v1 ∧ v1 < 7) ∧ (((M 113 (v1.toNat)) ≤ v7 → P M) ∧ (v7 < (M 113 (v1.toNat)) → (0 ≤ v7 ∧ v7 < 80) ∧ ((0 ≤ (w32 ((w32 (40 * v1)) + v7)) ∧ (w32 ((w32 (40 * v1)) + v7)) < 280) ∧ (∀ M1 : MT, M1 = mu M 112 ((w32 ((w32 (40 * v1)) + v7)).toNat) (M 121 (v7.toNat)) → (WpV G J_mo_hummed 158 [(0, pR 101), (1, pI v1), (7, pI (w32 (v7 + 1)))] [] M1 P)))))) : WpV G J_mo_hummed 158 [(0, pR 101), (1, pI v1), (7, pI v7)] [] M P := by
  show Wp G J_mo_hummed 0 0 158 [(0, pR 101), (1, pI v1), (7, pI v7)] [] NN RF M _
  refine wp_iload d_mo_hummed_158 2 rfl ?_
  refine wp_aload_n d_mo_hummed_160 rfl 0 rfl ?_
  refine wp_getr d_mo_hummed_161 16 s_101 rfl (Nat.le_of_ble_eq_true rfl) (Nat.le_of_ble_eq_true rfl) rfl rfl lk_mo_43 ?_
  refine wp_iload_n d_mo_hummed_164 rfl 1 rfl ?_
  obtain ⟨⟨a1, b1⟩, h⟩ := h
  refine wp_iald d_mo_hummed_165 s_113 (Nat.le_of_ble_eq_true rfl) a1 b1 ?_
  refine wp_icmp_ge 194 d_mo_hummed_166 (by decide) (fun c2 => ?_) (fun c2 => ?_)
  · have h := h.1 c2
    exact wp_vret d_mo_hummed_194 rfl ⟨Nat.le_of_ble_eq_true rfl, Nat.le_of_ble_eq_true rfl⟩ ⟨rfl, rfl, rfl, h⟩
  · have h := h.2 c2
    refine wp_aload_n d_mo_hummed_169 rfl 0 rfl ?_
    refine wp_getr d_mo_hummed_170 15 s_101 rfl (Nat.le_of_ble_eq_true rfl) (Nat.le_of_ble_eq_true rfl) rfl rfl lk_mo_40 ?_
    refine wp_bipush d_mo_hummed_173 ⟨by decide, by decide⟩ (by decide) ?_
    refine wp_iload_n d_mo_hummed_175 rfl 1 rfl ?_
    refine wp_imul d_mo_hummed_176 ?_
    refine wp_iload d_mo_hummed_177 2 rfl ?_
    refine wp_iadd d_mo_hummed_179 ?_
    refine wp_aload_n d_mo_hummed_180 rfl 0 rfl ?_
    refine wp_getr d_mo_hummed_181 24 s_101 rfl (Nat.le_of_ble_eq_true rfl) (Nat.le_of_ble_eq_true rfl) rfl rfl lk_mo_67 ?_
    refine wp_iload d_mo_hummed_184 2 rfl ?_
    obtain ⟨⟨a3, b3⟩, h⟩ := h
    refine wp_iald d_mo_hummed_186 s_121 (Nat.le_of_ble_eq_true rfl) a3 b3 ?_
    obtain ⟨⟨a4, b4⟩, h⟩ := h
    refine wp_iast d_mo_hummed_187 s_112 (Nat.le_of_ble_eq_true rfl) a4 b4 ?_
    have h := h _ rfl
    refine wp_iinc (L2 := [(0, pR 101), (1, pI _), (7, pI _)]) d_mo_hummed_188 2 rfl (Nat.le_of_ble_eq_true rfl) [1, 2, 0] rfl ?_
    refine wp_goto 158 d_mo_hummed_191 (by decide) ?_
    exact h
set_option maxHeartbeats 8000000 in
theorem e_mo_commonOf {G : GT} {M : MT} {P : Int → MT → Prop} (o1 n1 : Nat) (f1 : AR o1 n1) (v2 : Int) (v3 : Int) (o4 n4 : Nat) (f4 : AR o4 n4) (v5 : Int) (v6 : Int)
    (h : WpI G J_mo_commonOf 3 [(0, pR 101), (1, pR o1), (2, pI v2), (3, pI v3), (4, pR o4), (5, pI v5), (6, pI v6), (7, pI 0)] [] M P) : ClI G J_mo_commonOf M [pR 101, pR o1, pI v2, pI v3, pR o4, pI v5, pI v6] P := by
  show Wp G J_mo_commonOf 0 0 0 [(0, pR 101), (1, pR o1), (2, pI v2), (3, pI v3), (4, pR o4), (5, pI v5), (6, pI v6)] [] NN RF M _
  refine wp_iconst d_mo_commonOf_0 ⟨by decide, by decide⟩ ?_
  refine wp_istore (L2 := [(0, pR 101), (1, pR _), (2, pI _), (3, pI _), (4, pR _), (5, pI _), (6, pI _), (7, pI _)]) d_mo_commonOf_1 (Nat.le_of_ble_eq_true rfl) [1, 2, 3, 4, 5, 6, 7, 0] rfl ?_
  exact h
set_option maxHeartbeats 8000000 in
theorem b_mo_commonOf_3 {G : GT} {M : MT} {P : Int → MT → Prop} (o1 n1 : Nat) (f1 : AR o1 n1) (v2 : Int) (v3 : Int) (o4 n4 : Nat) (f4 : AR o4 n4) (v5 : Int) (v6 : Int) (v7 : Int)
    (h : (v6 < v7 → WpI G J_mo_commonOf 27 [(0, pR 101), (1, pR o1), (2, pI v2), (3, pI v3), (4, pR o4), (5, pI v5), (6, pI v6), (7, pI 0)] [] M P) ∧ (v7 ≤ v6 → (0 ≤ v7 ∧ v7 < 41) ∧ (∀ M1 : MT, M1 = mu M 122 (v7.toNat) 0 → (WpI G J_mo_commonOf 3 [(0, pR 101), (1, pR o1), (2, pI v2), (3, pI v3), (4, pR o4), (5, pI v5), (6, pI v6), (7, pI (w32 (v7 + 1)))] [] M1 P)))) : WpI G J_mo_commonOf 3 [(0, pR 101), (1, pR o1), (2, pI v2), (3, pI v3), (4, pR o4), (5, pI v5), (6, pI v6), (7, pI v7)] [] M P := by
  show Wp G J_mo_commonOf 0 0 3 [(0, pR 101), (1, pR o1), (2, pI v2), (3, pI v3), (4, pR o4), (5, pI v5), (6, pI v6), (7, pI v7)] [] NN RF M _
  refine wp_iload d_mo_commonOf_3 7 rfl ?_
  refine wp_iload d_mo_commonOf_5 6 rfl ?_
  refine wp_icmp_gt 24 d_mo_commonOf_7 (by decide) (fun c1 => ?_) (fun c1 => ?_)
  · have h := h.1 c1
    refine wp_iconst d_mo_commonOf_24 ⟨by decide, by decide⟩ ?_
    refine wp_istore (L2 := [(0, pR 101), (1, pR _), (2, pI _), (3, pI _), (4, pR _), (5, pI _), (6, pI _), (7, pI _)]) d_mo_commonOf_25 (Nat.le_of_ble_eq_true rfl) [1, 2, 3, 4, 5, 6, 7, 0] rfl ?_
    exact h
  · have h := h.2 c1
    refine wp_aload_n d_mo_commonOf_10 rfl 0 rfl ?_
    refine wp_getr d_mo_commonOf_11 25 s_101 rfl (Nat.le_of_ble_eq_true rfl) (Nat.le_of_ble_eq_true rfl) rfl rfl lk_mo_70 ?_
    refine wp_iload d_mo_commonOf_14 7 rfl ?_
    refine wp_iconst d_mo_commonOf_16 ⟨by decide, by decide⟩ ?_
    obtain ⟨⟨a2, b2⟩, h⟩ := h
    refine wp_iast d_mo_commonOf_17 s_122 (Nat.le_of_ble_eq_true rfl) a2 b2 ?_
    have h := h _ rfl
    refine wp_iinc (L2 := [(0, pR 101), (1, pR _), (2, pI _), (3, pI _), (4, pR _), (5, pI _), (6, pI _), (7, pI _)]) d_mo_commonOf_18 7 rfl (Nat.le_of_ble_eq_true rfl) [1, 2, 3, 4, 5, 6, 7, 0] rfl ?_
    refine wp_goto 3 d_mo_commonOf_21 (by decide) ?_
    exact h
set_option maxHeartbeats 8000000 in
theorem b_mo_commonOf_27 {G : GT} {M : MT} {P : Int → MT → Prop} (o1 n1 : Nat) (f1 : AR o1 n1) (v2 : Int) (v3 : Int) (o4 n4 : Nat) (f4 : AR o4 n4) (v5 : Int) (v6 : Int) (v7 : Int)
    (h : (v3 ≤ v7 → (0 ≤ v6 ∧ v6 < 41) ∧ (P (M 122 (v6.toNat)) M)) ∧ (v7 < v3 → WpI G J_mo_commonOf 39 [(0, pR 101), (1, pR o1), (2, pI v2), (3, pI v3), (4, pR o4), (5, pI v5), (6, pI v6), (7, pI v7), (8, pI 0), (9, pI 1)] [] M P)) : WpI G J_mo_commonOf 27 [(0, pR 101), (1, pR o1), (2, pI v2), (3, pI v3), (4, pR o4), (5, pI v5), (6, pI v6), (7, pI v7)] [] M P := by
  show Wp G J_mo_commonOf 0 0 27 [(0, pR 101), (1, pR o1), (2, pI v2), (3, pI v3), (4, pR o4), (5, pI v5), (6, pI v6), (7, pI v7)] [] NN RF M _
  refine wp_iload d_mo_commonOf_27 7 rfl ?_
  refine wp_iload_n d_mo_commonOf_29 rfl 3 rfl ?_
  refine wp_icmp_ge 123 d_mo_commonOf_30 (by decide) (fun c1 => ?_) (fun c1 => ?_)
  · have h := h.1 c1
    refine wp_aload_n d_mo_commonOf_123 rfl 0 rfl ?_
    refine wp_getr d_mo_commonOf_124 25 s_101 rfl (Nat.le_of_ble_eq_true rfl) (Nat.le_of_ble_eq_true rfl) rfl rfl lk_mo_70 ?_
    refine wp_iload d_mo_commonOf_127 6 rfl ?_
    obtain ⟨⟨a2, b2⟩, h⟩ := h
    refine wp_iald d_mo_commonOf_129 s_122 (Nat.le_of_ble_eq_true rfl) a2 b2 ?_
    exact wp_iret d_mo_commonOf_130 rfl ⟨Nat.le_of_ble_eq_true rfl, Nat.le_of_ble_eq_true rfl⟩ ⟨_, rfl, rfl, rfl, h⟩
  · have h := h.2 c1
    refine wp_iconst d_mo_commonOf_33 ⟨by decide, by decide⟩ ?_
    refine wp_istore (L2 := [(0, pR 101), (1, pR _), (2, pI _), (3, pI _), (4, pR _), (5, pI _), (6, pI _), (7, pI _), (8, pI _)]) d_mo_commonOf_34 (Nat.le_of_ble_eq_true rfl) [1, 2, 3, 4, 5, 6, 7, 8, 0] rfl ?_
    refine wp_iconst d_mo_commonOf_36 ⟨by decide, by decide⟩ ?_
    refine wp_istore (L2 := [(0, pR 101), (1, pR _), (2, pI _), (3, pI _), (4, pR _), (5, pI _), (6, pI _), (7, pI _), (8, pI _), (9, pI _)]) d_mo_commonOf_37 (Nat.le_of_ble_eq_true rfl) [1, 2, 3, 4, 5, 6, 7, 8, 9, 0] rfl ?_
    exact h
set_option maxHeartbeats 8000000 in
theorem b_mo_commonOf_39 {G : GT} {M : MT} {P : Int → MT → Prop} (o1 n1 : Nat) (f1 : AR o1 n1) (v2 : Int) (v3 : Int) (o4 n4 : Nat) (f4 : AR o4 n4) (v5 : Int) (v6 : Int) (v7 : Int) (v8 : Int) (v9 : Int)
    (h : (v6 < v9 → WpI G J_mo_commonOf 27 [(0, pR 101), (1, pR o1), (2, pI v2), (3, pI v3), (4, pR o4), (5, pI v5), (6, pI v6), (7, pI (w32 (v7 + 1)))] [] M P) ∧ (v9 ≤ v6 → (0 ≤ v9 ∧ v9 < 41) ∧ ((0 ≤ (w32 (v2 + v7)) ∧ (w32 (v2 + v7)) < n1) ∧ ((0 ≤ (w32 ((w32 (v5 + v9)) - 1)) ∧ (w32 ((w32 (v5 + v9)) - 1)) < n4) ∧ ((¬ (M o1 ((w32 (v2 + v7)).toNat)) = (M o4 ((w32 ((w32 (v5 + v9)) - 1)).toNat)) → (0 ≤ v9 ∧ v9 < 41) ∧ ((0 ≤ (w32 (v9 - 1)) ∧ (w32 (v9 - 1)) < 41) ∧ (ClI G J_mo_greater M [pI (M 122 (v9.toNat)), pI (M 122 ((w32 (v9 - 1)).toNat))] (fun x8 M1 => ((0 ≤ v9 ∧ v9 < 41) ∧ (∀ M2 : MT, M2 = mu M1 122 (v9.toNat) x8 → (WpI G J_mo_commonOf 39 [(0, pR 101), (1, pR o1), (2, pI v2), (3, pI v3), (4, pR o4), (5, pI v5), (6, pI v6), (7, pI v7), (8, pI (M 122 (v9.toNat))), (9, pI (w32 (v9 + 1)))] [] M2 P))))))) ∧ ((M o1 ((w32 (v2 + v7)).toNat)) = (M o4 ((w32 ((w32 (v5 + v9)) - 1)).toNat)) → (0 ≤ v9 ∧ v9 < 41) ∧ (∀ M1 : MT, M1 = mu M 122 (v9.toNat) (w32 (v8 + 1)) → (WpI G J_mo_commonOf 39 [(0, pR 101), (1, pR o1), (2, pI v2), (3, pI v3), (4, pR o4), (5, pI v5), (6, pI v6), (7, pI v7), (8, pI (M 122 (v9.toNat))), (9, pI (w32 (v9 + 1)))] [] M1 P)))))))) : WpI G J_mo_commonOf 39 [(0, pR 101), (1, pR o1), (2, pI v2), (3, pI v3), (4, pR o4), (5, pI v5), (6, pI v6), (7, pI v7), (8, pI v8), (9, pI v9)] [] M P := by
  show Wp G J_mo_commonOf 0 0 39 [(0, pR 101), (1, pR o1), (2, pI v2), (3, pI v3), (4, pR o4), (5, pI v5), (6, pI v6), (7, pI v7), (8, pI v8), (9, pI v9)] [] NN RF M _
  refine wp_iload d_mo_commonOf_39 9 rfl ?_
  refine wp_iload d_mo_commonOf_41 6 rfl ?_
  refine wp_icmp_gt 117 d_mo_commonOf_43 (by decide) (fun c1 => ?_) (fun c1 => ?_)
  · have h := h.1 c1
    refine wp_iinc (L2 := [(0, pR 101), (1, pR _), (2, pI _), (3, pI _), (4, pR _), (5, pI _), (6, pI _), (7, pI _), (8, pI _), (9, pI _)]) d_mo_commonOf_117 7 rfl (Nat.le_of_ble_eq_true rfl) [1, 2, 3, 4, 5, 6, 7, 0, 8, 9] rfl ?_
    refine wp_goto 27 d_mo_commonOf_120 (by decide) ?_
    refine wp_sub (L2 := [(0, pR 101), (1, pR _), (2, pI _), (3, pI _), (4, pR _), (5, pI _), (6, pI _), (7, pI _)]) [0, 1, 2, 3, 4, 5, 6, 7] rfl ?_
    exact h
  · have h := h.2 c1
    refine wp_aload_n d_mo_commonOf_46 rfl 0 rfl ?_
    refine wp_getr d_mo_commonOf_47 25 s_101 rfl (Nat.le_of_ble_eq_true rfl) (Nat.le_of_ble_eq_true rfl) rfl rfl lk_mo_70 ?_
    refine wp_iload d_mo_commonOf_50 9 rfl ?_
    obtain ⟨⟨a2, b2⟩, h⟩ := h
    refine wp_iald d_mo_commonOf_52 s_122 (Nat.le_of_ble_eq_true rfl) a2 b2 ?_
    refine wp_istore (L2 := [(0, pR 101), (1, pR _), (2, pI _), (3, pI _), (4, pR _), (5, pI _), (6, pI _), (7, pI _), (8, pI _), (9, pI _), (10, pI _)]) d_mo_commonOf_53 (Nat.le_of_ble_eq_true rfl) [1, 2, 3, 4, 5, 6, 7, 8, 9, 10, 0] rfl ?_
    refine wp_aload_n d_mo_commonOf_55 rfl 0 rfl ?_
    refine wp_getr d_mo_commonOf_56 25 s_101 rfl (Nat.le_of_ble_eq_true rfl) (Nat.le_of_ble_eq_true rfl) rfl rfl lk_mo_70 ?_
    refine wp_iload d_mo_commonOf_59 9 rfl ?_
    refine wp_aload_n d_mo_commonOf_61 rfl 1 rfl ?_
    refine wp_iload_n d_mo_commonOf_62 rfl 2 rfl ?_
    refine wp_iload d_mo_commonOf_63 7 rfl ?_
    refine wp_iadd d_mo_commonOf_65 ?_
    obtain ⟨⟨a3, b3⟩, h⟩ := h
    refine wp_iald d_mo_commonOf_66 f1.1 f1.2 a3 b3 ?_
    refine wp_aload d_mo_commonOf_67 4 rfl ?_
    refine wp_iload d_mo_commonOf_69 5 rfl ?_
    refine wp_iload d_mo_commonOf_71 9 rfl ?_
    refine wp_iadd d_mo_commonOf_73 ?_
    refine wp_iconst d_mo_commonOf_74 ⟨by decide, by decide⟩ ?_
    refine wp_isub d_mo_commonOf_75 ?_
    obtain ⟨⟨a4, b4⟩, h⟩ := h
    refine wp_iald d_mo_commonOf_76 f4.1 f4.2 a4 b4 ?_
    refine wp_icmp_ne 87 d_mo_commonOf_77 (by decide) (fun c5 => ?_) (fun c5 => ?_)
    · have h := h.1 c5
      refine wp_aload_n d_mo_commonOf_87 rfl 0 rfl ?_
      refine wp_getr d_mo_commonOf_88 25 s_101 rfl (Nat.le_of_ble_eq_true rfl) (Nat.le_of_ble_eq_true rfl) rfl rfl lk_mo_70 ?_
      refine wp_iload d_mo_commonOf_91 9 rfl ?_
      obtain ⟨⟨a6, b6⟩, h⟩ := h
      refine wp_iald d_mo_commonOf_93 s_122 (Nat.le_of_ble_eq_true rfl) a6 b6 ?_
      refine wp_aload_n d_mo_commonOf_94 rfl 0 rfl ?_
      refine wp_getr d_mo_commonOf_95 25 s_101 rfl (Nat.le_of_ble_eq_true rfl) (Nat.le_of_ble_eq_true rfl) rfl rfl lk_mo_70 ?_
      refine wp_iload d_mo_commonOf_98 9 rfl ?_
      refine wp_iconst d_mo_commonOf_100 ⟨by decide, by decide⟩ ?_
      refine wp_isub d_mo_commonOf_101 ?_
      obtain ⟨⟨a7, b7⟩, h⟩ := h
      refine wp_iald d_mo_commonOf_102 s_122 (Nat.le_of_ble_eq_true rfl) a7 b7 ?_
      refine wp_callS [pI _, pI _] d_mo_commonOf_103 jd_mo_greater lk_mo_168 rfl (Nat.le_of_ble_eq_true rfl) rfl ?_
      refine clI_k h ?_
      intro x8 M1 h
      obtain ⟨⟨a9, b9⟩, h⟩ := h
      refine wp_iast d_mo_commonOf_106 s_122 (Nat.le_of_ble_eq_true rfl) a9 b9 ?_
      have h := h _ rfl
      refine wp_iload d_mo_commonOf_107 10 rfl ?_
      refine wp_istore (L2 := [(0, pR 101), (1, pR _), (2, pI _), (3, pI _), (4, pR _), (5, pI _), (6, pI _), (7, pI _), (8, pI _), (9, pI _), (10, pI _)]) d_mo_commonOf_109 (Nat.le_of_ble_eq_true rfl) [1, 2, 3, 4, 5, 6, 7, 8, 0, 9, 10] rfl ?_
      refine wp_iinc (L2 := [(0, pR 101), (1, pR _), (2, pI _), (3, pI _), (4, pR _), (5, pI _), (6, pI _), (7, pI _), (8, pI _), (9, pI _), (10, pI _)]) d_mo_commonOf_111 9 rfl (Nat.le_of_ble_eq_true rfl) [1, 2, 3, 4, 5, 6, 7, 8, 9, 0, 10] rfl ?_
      refine wp_goto 39 d_mo_commonOf_114 (by decide) ?_
      refine wp_sub (L2 := [(0, pR 101), (1, pR _), (2, pI _), (3, pI _), (4, pR _), (5, pI _), (6, pI _), (7, pI _), (8, pI _), (9, pI _)]) [0, 1, 2, 3, 4, 5, 6, 7, 8, 9] rfl ?_
      exact h
    · have h := h.2 c5
      refine wp_iload d_mo_commonOf_80 8 rfl ?_
      refine wp_iconst d_mo_commonOf_82 ⟨by decide, by decide⟩ ?_
      refine wp_iadd d_mo_commonOf_83 ?_
      refine wp_goto 106 d_mo_commonOf_84 (by decide) ?_
      obtain ⟨⟨a6, b6⟩, h⟩ := h
      refine wp_iast d_mo_commonOf_106 s_122 (Nat.le_of_ble_eq_true rfl) a6 b6 ?_
      have h := h _ rfl
      refine wp_iload d_mo_commonOf_107 10 rfl ?_
      refine wp_istore (L2 := [(0, pR 101), (1, pR _), (2, pI _), (3, pI _), (4, pR _), (5, pI _), (6, pI _), (7, pI _), (8, pI _), (9, pI _), (10, pI _)]) d_mo_commonOf_109 (Nat.le_of_ble_eq_true rfl) [1, 2, 3, 4, 5, 6, 7, 8, 0, 9, 10] rfl ?_
      refine wp_iinc (L2 := [(0, pR 101), (1, pR _), (2, pI _), (3, pI _), (4, pR _), (5, pI _), (6, pI _), (7, pI _), (8, pI _), (9, pI _), (10, pI _)]) d_mo_commonOf_111 9 rfl (Nat.le_of_ble_eq_true rfl) [1, 2, 3, 4, 5, 6, 7, 8, 9, 0, 10] rfl ?_
      refine wp_goto 39 d_mo_commonOf_114 (by decide) ?_
      refine wp_sub (L2 := [(0, pR 101), (1, pR _), (2, pI _), (3, pI _), (4, pR _), (5, pI _), (6, pI _), (7, pI _), (8, pI _), (9, pI _)]) [0, 1, 2, 3, 4, 5, 6, 7, 8, 9] rfl ?_
      exact h
set_option maxHeartbeats 8000000 in
theorem e_mo_startsAll {G : GT} {M : MT} {P : MT → Prop} 
    (h : WpV G J_mo_startsAll 2 [(0, pR 101), (1, pI 0)] [] M P) : ClV G J_mo_startsAll M [pR 101] P := by
  show Wp G J_mo_startsAll 0 0 0 [(0, pR 101)] [] NN RF M _
  refine wp_iconst d_mo_startsAll_0 ⟨by decide, by decide⟩ ?_
  refine wp_istore_n (L2 := [(0, pR 101), (1, pI _)]) d_mo_startsAll_1 rfl (Nat.le_of_ble_eq_true rfl) [1, 0] rfl ?_
  exact h
set_option maxHeartbeats 8000000 in
theorem b_mo_startsAll_2 {G : GT} {M : MT} {P : MT → Prop} (v1 : Int)
    (h : ((M 101 7) ≤ v1 → WpV G J_mo_startsAll 31 [(0, pR 101), (1, pI 0)] [] M P) ∧ (v1 < (M 101 7) → ClV G J_mo_begins M [pR 101, pI v1, pI v1] (fun M1 => ((0 ≤ v1 ∧ v1 < 6) ∧ (∀ M2 : MT, M2 = mu M1 116 (v1.toNat) (-1) → (WpV G J_mo_startsAll 2 [(0, pR 101), (1, pI (w32 (v1 + 1)))] [] M2 P)))))) : WpV G J_mo_startsAll 2 [(0, pR 101), (1, pI v1)] [] M P := by
  show Wp G J_mo_startsAll 0 0 2 [(0, pR 101), (1, pI v1)] [] NN RF M _
  refine wp_iload_n d_mo_startsAll_2 rfl 1 rfl ?_
  refine wp_aload_n d_mo_startsAll_3 rfl 0 rfl ?_
  refine wp_geti d_mo_startsAll_4 7 s_101 rfl (Nat.le_of_ble_eq_true rfl) (Nat.le_of_ble_eq_true rfl) rfl lk_mo_112 ?_
  refine wp_icmp_ge 29 d_mo_startsAll_7 (by decide) (fun c1 => ?_) (fun c1 => ?_)
  · have h := h.1 c1
    refine wp_iconst d_mo_startsAll_29 ⟨by decide, by decide⟩ ?_
    refine wp_istore_n (L2 := [(0, pR 101), (1, pI _)]) d_mo_startsAll_30 rfl (Nat.le_of_ble_eq_true rfl) [1, 0] rfl ?_
    exact h
  · have h := h.2 c1
    refine wp_aload_n d_mo_startsAll_10 rfl 0 rfl ?_
    refine wp_iload_n d_mo_startsAll_11 rfl 1 rfl ?_
    refine wp_iload_n d_mo_startsAll_12 rfl 1 rfl ?_
    refine wp_callV [pI _, pI _] _ d_mo_startsAll_13 jd_mo_begins lk_mo_171 rfl s_101 rfl (Nat.le_of_ble_eq_true rfl) (Nat.le_of_ble_eq_true rfl) rfl ?_
    refine clV_k h ?_
    intro M1 h
    refine wp_aload_n d_mo_startsAll_16 rfl 0 rfl ?_
    refine wp_getr d_mo_startsAll_17 19 s_101 rfl (Nat.le_of_ble_eq_true rfl) (Nat.le_of_ble_eq_true rfl) rfl rfl lk_mo_52 ?_
    refine wp_iload_n d_mo_startsAll_20 rfl 1 rfl ?_
    refine wp_iconst d_mo_startsAll_21 ⟨by decide, by decide⟩ ?_
    obtain ⟨⟨a2, b2⟩, h⟩ := h
    refine wp_iast d_mo_startsAll_22 s_116 (Nat.le_of_ble_eq_true rfl) a2 b2 ?_
    have h := h _ rfl
    refine wp_iinc (L2 := [(0, pR 101), (1, pI _)]) d_mo_startsAll_23 1 rfl (Nat.le_of_ble_eq_true rfl) [1, 0] rfl ?_
    refine wp_goto 2 d_mo_startsAll_26 (by decide) ?_
    exact h
set_option maxHeartbeats 8000000 in
theorem b_mo_startsAll_31 {G : GT} {M : MT} {P : MT → Prop} (v1 : Int)
    (h : (12 ≤ v1 → P M) ∧ (v1 < 12 → (0 ≤ v1 ∧ v1 < 12) ∧ (∀ M1 : MT, M1 = mu M 118 (v1.toNat) 0 → ((0 ≤ v1 ∧ v1 < 12) ∧ (∀ M2 : MT, M2 = mu M1 119 (v1.toNat) 0 → ((0 ≤ v1 ∧ v1 < 12) ∧ (∀ M3 : MT, M3 = mu M2 120 (v1.toNat) 0 → (WpV G J_mo_startsAll 31 [(0, pR 101), (1, pI (w32 (v1 + 1)))] [] M3 P)))))))) : WpV G J_mo_startsAll 31 [(0, pR 101), (1, pI v1)] [] M P := by
  show Wp G J_mo_startsAll 0 0 31 [(0, pR 101), (1, pI v1)] [] NN RF M _
  refine wp_iload_n d_mo_startsAll_31 rfl 1 rfl ?_
  refine wp_bipush d_mo_startsAll_32 ⟨by decide, by decide⟩ (by decide) ?_
  refine wp_icmp_ge 64 d_mo_startsAll_34 (by decide) (fun c1 => ?_) (fun c1 => ?_)
  · have h := h.1 c1
    exact wp_vret d_mo_startsAll_64 rfl ⟨Nat.le_of_ble_eq_true rfl, Nat.le_of_ble_eq_true rfl⟩ ⟨rfl, rfl, rfl, h⟩
  · have h := h.2 c1
    refine wp_aload_n d_mo_startsAll_37 rfl 0 rfl ?_
    refine wp_getr d_mo_startsAll_38 21 s_101 rfl (Nat.le_of_ble_eq_true rfl) (Nat.le_of_ble_eq_true rfl) rfl rfl lk_mo_58 ?_
    refine wp_iload_n d_mo_startsAll_41 rfl 1 rfl ?_
    refine wp_iconst d_mo_startsAll_42 ⟨by decide, by decide⟩ ?_
    obtain ⟨⟨a2, b2⟩, h⟩ := h
    refine wp_iast d_mo_startsAll_43 s_118 (Nat.le_of_ble_eq_true rfl) a2 b2 ?_
    have h := h _ rfl
    refine wp_aload_n d_mo_startsAll_44 rfl 0 rfl ?_
    refine wp_getr d_mo_startsAll_45 22 s_101 rfl (Nat.le_of_ble_eq_true rfl) (Nat.le_of_ble_eq_true rfl) rfl rfl lk_mo_61 ?_
    refine wp_iload_n d_mo_startsAll_48 rfl 1 rfl ?_
    refine wp_iconst d_mo_startsAll_49 ⟨by decide, by decide⟩ ?_
    obtain ⟨⟨a3, b3⟩, h⟩ := h
    refine wp_iast d_mo_startsAll_50 s_119 (Nat.le_of_ble_eq_true rfl) a3 b3 ?_
    have h := h _ rfl
    refine wp_aload_n d_mo_startsAll_51 rfl 0 rfl ?_
    refine wp_getr d_mo_startsAll_52 23 s_101 rfl (Nat.le_of_ble_eq_true rfl) (Nat.le_of_ble_eq_true rfl) rfl rfl lk_mo_64 ?_
    refine wp_iload_n d_mo_startsAll_55 rfl 1 rfl ?_
    refine wp_iconst d_mo_startsAll_56 ⟨by decide, by decide⟩ ?_
    obtain ⟨⟨a4, b4⟩, h⟩ := h
    refine wp_iast d_mo_startsAll_57 s_120 (Nat.le_of_ble_eq_true rfl) a4 b4 ?_
    have h := h _ rfl
    refine wp_iinc (L2 := [(0, pR 101), (1, pI _)]) d_mo_startsAll_58 1 rfl (Nat.le_of_ble_eq_true rfl) [1, 0] rfl ?_
    refine wp_goto 31 d_mo_startsAll_61 (by decide) ?_
    exact h
set_option maxHeartbeats 8000000 in
theorem e_mo_lends {G : GT} {M : MT} {P : MT → Prop} (v1 : Int)
    (h : (0 ≤ (w32 ((w32 (4 * v1)) + 1)) ∧ (w32 ((w32 (4 * v1)) + 1)) < 48) ∧ (ClI G J_mo_isTune M [pR 101, pI (M 111 ((w32 ((w32 (4 * v1)) + 1)).toNat))] (fun x2 M1 => ((x2 = 0 → P M1) ∧ (¬ x2 = 0 → (0 ≤ (w32 ((w32 (4 * v1)) + 2)) ∧ (w32 ((w32 (4 * v1)) + 2)) < 48) ∧ (ClI G J_mo_isBorrower M1 [pR 101, pI (M1 111 ((w32 ((w32 (4 * v1)) + 2)).toNat))] (fun x5 M2 => ((x5 = 0 → P M2) ∧ (¬ x5 = 0 → (0 ≤ (M 111 ((w32 ((w32 (4 * v1)) + 1)).toNat)) ∧ (M 111 ((w32 ((w32 (4 * v1)) + 1)).toNat)) < 6) ∧ (((M2 116 ((M 111 ((w32 ((w32 (4 * v1)) + 1)).toNat)).toNat)) = (-1) → (0 ≤ v1 ∧ v1 < 12) ∧ (∀ M3 : MT, M3 = mu M2 118 (v1.toNat) 1 → ((0 ≤ (w32 ((w32 (4 * v1)) + 2)) ∧ (w32 ((w32 (4 * v1)) + 2)) < 48) ∧ ((0 ≤ (M 111 ((w32 ((w32 (4 * v1)) + 1)).toNat)) ∧ (M 111 ((w32 ((w32 (4 * v1)) + 1)).toNat)) < 6) ∧ (∀ M4 : MT, M4 = mu M3 116 ((M 111 ((w32 ((w32 (4 * v1)) + 1)).toNat)).toNat) (M3 111 ((w32 ((w32 (4 * v1)) + 2)).toNat)) → ((0 ≤ (M 111 ((w32 ((w32 (4 * v1)) + 1)).toNat)) ∧ (M 111 ((w32 ((w32 (4 * v1)) + 1)).toNat)) < 6) ∧ (∀ M5 : MT, M5 = mu M4 117 ((M 111 ((w32 ((w32 (4 * v1)) + 1)).toNat)).toNat) v1 → (WpV G J_mo_lends 79 [(0, pR 101), (2, pI (M 111 ((w32 ((w32 (4 * v1)) + 1)).toNat))), (3, pI 0)] [] M5 P)))))))) ∧ (¬ (M2 116 ((M 111 ((w32 ((w32 (4 * v1)) + 1)).toNat)).toNat)) = (-1) → P M2))))))))))) : ClV G J_mo_lends M [pR 101, pI v1] P := by
  show Wp G J_mo_lends 0 0 0 [(0, pR 101), (1, pI v1)] [] NN RF M _
  refine wp_aload_n d_mo_lends_0 rfl 0 rfl ?_
  refine wp_getr d_mo_lends_1 13 s_101 rfl (Nat.le_of_ble_eq_true rfl) (Nat.le_of_ble_eq_true rfl) rfl rfl lk_mo_37 ?_
  refine wp_iconst d_mo_lends_4 ⟨by decide, by decide⟩ ?_
  refine wp_iload_n d_mo_lends_5 rfl 1 rfl ?_
  refine wp_imul d_mo_lends_6 ?_
  refine wp_iconst d_mo_lends_7 ⟨by decide, by decide⟩ ?_
  refine wp_iadd d_mo_lends_8 ?_
  obtain ⟨⟨a1, b1⟩, h⟩ := h
  refine wp_iald d_mo_lends_9 s_111 (Nat.le_of_ble_eq_true rfl) a1 b1 ?_
  refine wp_istore_n (L2 := [(0, pR 101), (1, pI _), (2, pI _)]) d_mo_lends_10 rfl (Nat.le_of_ble_eq_true rfl) [1, 2, 0] rfl ?_
  refine wp_aload_n d_mo_lends_11 rfl 0 rfl ?_
  refine wp_iload_n d_mo_lends_12 rfl 2 rfl ?_
  refine wp_callV [pI _] _ d_mo_lends_13 jd_mo_isTune lk_mo_140 rfl s_101 rfl (Nat.le_of_ble_eq_true rfl) (Nat.le_of_ble_eq_true rfl) rfl ?_
  refine clI_k h ?_
  intro x2 M1 h
  refine wp_if_eq 46 d_mo_lends_16 (by decide) (fun c3 => ?_) (fun c3 => ?_)
  · have h := h.1 c3
    exact wp_vret d_mo_lends_46 rfl ⟨Nat.le_of_ble_eq_true rfl, Nat.le_of_ble_eq_true rfl⟩ ⟨rfl, rfl, rfl, h⟩
  · have h := h.2 c3
    refine wp_aload_n d_mo_lends_19 rfl 0 rfl ?_
    refine wp_aload_n d_mo_lends_20 rfl 0 rfl ?_
    refine wp_getr d_mo_lends_21 13 s_101 rfl (Nat.le_of_ble_eq_true rfl) (Nat.le_of_ble_eq_true rfl) rfl rfl lk_mo_37 ?_
    refine wp_iconst d_mo_lends_24 ⟨by decide, by decide⟩ ?_
    refine wp_iload_n d_mo_lends_25 rfl 1 rfl ?_
    refine wp_imul d_mo_lends_26 ?_
    refine wp_iconst d_mo_lends_27 ⟨by decide, by decide⟩ ?_
    refine wp_iadd d_mo_lends_28 ?_
    obtain ⟨⟨a4, b4⟩, h⟩ := h
    refine wp_iald d_mo_lends_29 s_111 (Nat.le_of_ble_eq_true rfl) a4 b4 ?_
    refine wp_callV [pI _] _ d_mo_lends_30 jd_mo_isBorrower lk_mo_147 rfl s_101 rfl (Nat.le_of_ble_eq_true rfl) (Nat.le_of_ble_eq_true rfl) rfl ?_
    refine clI_k h ?_
    intro x5 M2 h
    refine wp_if_eq 46 d_mo_lends_33 (by decide) (fun c6 => ?_) (fun c6 => ?_)
    · have h := h.1 c6
      exact wp_vret d_mo_lends_46 rfl ⟨Nat.le_of_ble_eq_true rfl, Nat.le_of_ble_eq_true rfl⟩ ⟨rfl, rfl, rfl, h⟩
    · have h := h.2 c6
      refine wp_aload_n d_mo_lends_36 rfl 0 rfl ?_
      refine wp_getr d_mo_lends_37 19 s_101 rfl (Nat.le_of_ble_eq_true rfl) (Nat.le_of_ble_eq_true rfl) rfl rfl lk_mo_52 ?_
      refine wp_iload_n d_mo_lends_40 rfl 2 rfl ?_
      obtain ⟨⟨a7, b7⟩, h⟩ := h
      refine wp_iald d_mo_lends_41 s_116 (Nat.le_of_ble_eq_true rfl) a7 b7 ?_
      refine wp_iconst d_mo_lends_42 ⟨by decide, by decide⟩ ?_
      refine wp_icmp_eq 47 d_mo_lends_43 (by decide) (fun c8 => ?_) (fun c8 => ?_)
      · have h := h.1 c8
        refine wp_aload_n d_mo_lends_47 rfl 0 rfl ?_
        refine wp_getr d_mo_lends_48 21 s_101 rfl (Nat.le_of_ble_eq_true rfl) (Nat.le_of_ble_eq_true rfl) rfl rfl lk_mo_58 ?_
        refine wp_iload_n d_mo_lends_51 rfl 1 rfl ?_
        refine wp_iconst d_mo_lends_52 ⟨by decide, by decide⟩ ?_
        obtain ⟨⟨a9, b9⟩, h⟩ := h
        refine wp_iast d_mo_lends_53 s_118 (Nat.le_of_ble_eq_true rfl) a9 b9 ?_
        have h := h _ rfl
        refine wp_aload_n d_mo_lends_54 rfl 0 rfl ?_
        refine wp_getr d_mo_lends_55 19 s_101 rfl (Nat.le_of_ble_eq_true rfl) (Nat.le_of_ble_eq_true rfl) rfl rfl lk_mo_52 ?_
        refine wp_iload_n d_mo_lends_58 rfl 2 rfl ?_
        refine wp_aload_n d_mo_lends_59 rfl 0 rfl ?_
        refine wp_getr d_mo_lends_60 13 s_101 rfl (Nat.le_of_ble_eq_true rfl) (Nat.le_of_ble_eq_true rfl) rfl rfl lk_mo_37 ?_
        refine wp_iconst d_mo_lends_63 ⟨by decide, by decide⟩ ?_
        refine wp_iload_n d_mo_lends_64 rfl 1 rfl ?_
        refine wp_imul d_mo_lends_65 ?_
        refine wp_iconst d_mo_lends_66 ⟨by decide, by decide⟩ ?_
        refine wp_iadd d_mo_lends_67 ?_
        obtain ⟨⟨a10, b10⟩, h⟩ := h
        refine wp_iald d_mo_lends_68 s_111 (Nat.le_of_ble_eq_true rfl) a10 b10 ?_
        obtain ⟨⟨a11, b11⟩, h⟩ := h
        refine wp_iast d_mo_lends_69 s_116 (Nat.le_of_ble_eq_true rfl) a11 b11 ?_
        have h := h _ rfl
        refine wp_aload_n d_mo_lends_70 rfl 0 rfl ?_
        refine wp_getr d_mo_lends_71 20 s_101 rfl (Nat.le_of_ble_eq_true rfl) (Nat.le_of_ble_eq_true rfl) rfl rfl lk_mo_55 ?_
        refine wp_iload_n d_mo_lends_74 rfl 2 rfl ?_
        refine wp_iload_n d_mo_lends_75 rfl 1 rfl ?_
        obtain ⟨⟨a12, b12⟩, h⟩ := h
        refine wp_iast d_mo_lends_76 s_117 (Nat.le_of_ble_eq_true rfl) a12 b12 ?_
        have h := h _ rfl
        refine wp_iconst d_mo_lends_77 ⟨by decide, by decide⟩ ?_
        refine wp_istore_n (L2 := [(0, pR 101), (1, pI _), (2, pI _), (3, pI _)]) d_mo_lends_78 rfl (Nat.le_of_ble_eq_true rfl) [1, 2, 3, 0] rfl ?_
        refine wp_sub (L2 := [(0, pR 101), (2, pI _), (3, pI _)]) [0, 2, 3] rfl ?_
        exact h
      · have h := h.2 c8
        exact wp_vret d_mo_lends_46 rfl ⟨Nat.le_of_ble_eq_true rfl, Nat.le_of_ble_eq_true rfl⟩ ⟨rfl, rfl, rfl, h⟩
set_option maxHeartbeats 8000000 in
theorem b_mo_lends_79 {G : GT} {M : MT} {P : MT → Prop} (v2 : Int) (v3 : Int)
    (h : (0 ≤ v2 ∧ v2 < 7) ∧ (((M 113 (v2.toNat)) ≤ v3 → (0 ≤ v2 ∧ v2 < 7) ∧ ((0 ≤ v2 ∧ v2 < 6) ∧ (∀ M1 : MT, M1 = mu M 115 (v2.toNat) (M 113 (v2.toNat)) → (P M1)))) ∧ (v3 < (M 113 (v2.toNat)) → (0 ≤ (w32 ((w32 (40 * v2)) + v3)) ∧ (w32 ((w32 (40 * v2)) + v3)) < 280) ∧ ((0 ≤ (w32 ((w32 (40 * v2)) + v3)) ∧ (w32 ((w32 (40 * v2)) + v3)) < 240) ∧ (∀ M1 : MT, M1 = mu M 114 ((w32 ((w32 (40 * v2)) + v3)).toNat) (M 112 ((w32 ((w32 (40 * v2)) + v3)).toNat)) → (WpV G J_mo_lends 79 [(0, pR 101), (2, pI v2), (3, pI (w32 (v3 + 1)))] [] M1 P)))))) : WpV G J_mo_lends 79 [(0, pR 101), (2, pI v2), (3, pI v3)] [] M P := by
  show Wp G J_mo_lends 0 0 79 [(0, pR 101), (2, pI v2), (3, pI v3)] [] NN RF M _
  refine wp_iload_n d_mo_lends_79 rfl 2 rfl ?_
  refine wp_aload_n d_mo_lends_80 rfl 0 rfl ?_
  refine wp_getr d_mo_lends_81 16 s_101 rfl (Nat.le_of_ble_eq_true rfl) (Nat.le_of_ble_eq_true rfl) rfl rfl lk_mo_43 ?_
  refine wp_iload_n d_mo_lends_84 rfl 1 rfl ?_
  obtain ⟨⟨a1, b1⟩, h⟩ := h
  refine wp_iald d_mo_lends_85 s_113 (Nat.le_of_ble_eq_true rfl) a1 b1 ?_
  refine wp_icmp_ge 117 d_mo_lends_86 (by decide) (fun c2 => ?_) (fun c2 => ?_)
  · have h := h.1 c2
    refine wp_aload_n d_mo_lends_117 rfl 0 rfl ?_
    refine wp_getr d_mo_lends_118 18 s_101 rfl (Nat.le_of_ble_eq_true rfl) (Nat.le_of_ble_eq_true rfl) rfl rfl lk_mo_49 ?_
    refine wp_iload_n d_mo_lends_121 rfl 1 rfl ?_
    refine wp_aload_n d_mo_lends_122 rfl 0 rfl ?_
    refine wp_getr d_mo_lends_123 16 s_101 rfl (Nat.le_of_ble_eq_true rfl) (Nat.le_of_ble_eq_true rfl) rfl rfl lk_mo_43 ?_
    refine wp_iload_n d_mo_lends_126 rfl 1 rfl ?_
    obtain ⟨⟨a3, b3⟩, h⟩ := h
    refine wp_iald d_mo_lends_127 s_113 (Nat.le_of_ble_eq_true rfl) a3 b3 ?_
    obtain ⟨⟨a4, b4⟩, h⟩ := h
    refine wp_iast d_mo_lends_128 s_115 (Nat.le_of_ble_eq_true rfl) a4 b4 ?_
    have h := h _ rfl
    exact wp_vret d_mo_lends_129 rfl ⟨Nat.le_of_ble_eq_true rfl, Nat.le_of_ble_eq_true rfl⟩ ⟨rfl, rfl, rfl, h⟩
  · have h := h.2 c2
    refine wp_aload_n d_mo_lends_89 rfl 0 rfl ?_
    refine wp_getr d_mo_lends_90 17 s_101 rfl (Nat.le_of_ble_eq_true rfl) (Nat.le_of_ble_eq_true rfl) rfl rfl lk_mo_46 ?_
    refine wp_bipush d_mo_lends_93 ⟨by decide, by decide⟩ (by decide) ?_
    refine wp_iload_n d_mo_lends_95 rfl 1 rfl ?_
    refine wp_imul d_mo_lends_96 ?_
    refine wp_iload_n d_mo_lends_97 rfl 2 rfl ?_
    refine wp_iadd d_mo_lends_98 ?_
    refine wp_aload_n d_mo_lends_99 rfl 0 rfl ?_
    refine wp_getr d_mo_lends_100 15 s_101 rfl (Nat.le_of_ble_eq_true rfl) (Nat.le_of_ble_eq_true rfl) rfl rfl lk_mo_40 ?_
    refine wp_bipush d_mo_lends_103 ⟨by decide, by decide⟩ (by decide) ?_
    refine wp_iload_n d_mo_lends_105 rfl 1 rfl ?_
    refine wp_imul d_mo_lends_106 ?_
    refine wp_iload_n d_mo_lends_107 rfl 2 rfl ?_
    refine wp_iadd d_mo_lends_108 ?_
    obtain ⟨⟨a3, b3⟩, h⟩ := h
    refine wp_iald d_mo_lends_109 s_112 (Nat.le_of_ble_eq_true rfl) a3 b3 ?_
    obtain ⟨⟨a4, b4⟩, h⟩ := h
    refine wp_iast d_mo_lends_110 s_114 (Nat.le_of_ble_eq_true rfl) a4 b4 ?_
    have h := h _ rfl
    refine wp_iinc (L2 := [(0, pR 101), (2, pI _), (3, pI _)]) d_mo_lends_111 2 rfl (Nat.le_of_ble_eq_true rfl) [1, 2, 0] rfl ?_
    refine wp_goto 79 d_mo_lends_114 (by decide) ?_
    exact h
set_option maxHeartbeats 8000000 in
theorem e_mo_returns {G : GT} {M : MT} {P : MT → Prop} (v1 : Int) (v2 : Int)
    (h : (0 ≤ v1 ∧ v1 < 6) ∧ ((0 ≤ v1 ∧ v1 < 6) ∧ (∀ M1 : MT, M1 = mu M 116 (v1.toNat) (-1) → ((0 ≤ v1 ∧ v1 < 7) ∧ ((0 ≤ v1 ∧ v1 < 6) ∧ ((0 ≤ (M 117 (v1.toNat)) ∧ (M 117 (v1.toNat)) < 12) ∧ (∀ M2 : MT, M2 = mu M1 120 ((M 117 (v1.toNat)).toNat) (w32 ((M1 113 (v1.toNat)) - (M1 115 (v1.toNat)))) → ((0 ≤ v1 ∧ v1 < 7) ∧ ((0 ≤ v1 ∧ v1 < 6) ∧ (ClI G J_mo_commonOf M2 [pR 101, pR 112, pI (w32 (40 * v1)), pI (M2 113 (v1.toNat)), pR 114, pI (w32 (40 * v1)), pI (M2 115 (v1.toNat))] (fun x8 M3 => ((0 ≤ v1 ∧ v1 < 6) ∧ (ClI G J_mo_lesser M3 [pI v2, pI (M3 115 (v1.toNat))] (fun x10 M4 => ((x10 ≤ x8 → P M4) ∧ (x8 < x10 → (0 ≤ (M 117 (v1.toNat)) ∧ (M 117 (v1.toNat)) < 12) ∧ (∀ M5 : MT, M5 = mu M4 119 ((M 117 (v1.toNat)).toNat) 1 → (WpV G J_mo_returns 92 [(0, pR 101), (1, pI v1), (5, pI 0)] [] M5 P)))))))))))))))))) : ClV G J_mo_returns M [pR 101, pI v1, pI v2] P := by
  show Wp G J_mo_returns 0 0 0 [(0, pR 101), (1, pI v1), (2, pI v2)] [] NN RF M _
  refine wp_aload_n d_mo_returns_0 rfl 0 rfl ?_
  refine wp_getr d_mo_returns_1 20 s_101 rfl (Nat.le_of_ble_eq_true rfl) (Nat.le_of_ble_eq_true rfl) rfl rfl lk_mo_55 ?_
  refine wp_iload_n d_mo_returns_4 rfl 1 rfl ?_
  obtain ⟨⟨a1, b1⟩, h⟩ := h
  refine wp_iald d_mo_returns_5 s_117 (Nat.le_of_ble_eq_true rfl) a1 b1 ?_
  refine wp_istore_n (L2 := [(0, pR 101), (1, pI _), (2, pI _), (3, pI _)]) d_mo_returns_6 rfl (Nat.le_of_ble_eq_true rfl) [1, 2, 3, 0] rfl ?_
  refine wp_aload_n d_mo_returns_7 rfl 0 rfl ?_
  refine wp_getr d_mo_returns_8 19 s_101 rfl (Nat.le_of_ble_eq_true rfl) (Nat.le_of_ble_eq_true rfl) rfl rfl lk_mo_52 ?_
  refine wp_iload_n d_mo_returns_11 rfl 1 rfl ?_
  refine wp_iconst d_mo_returns_12 ⟨by decide, by decide⟩ ?_
  obtain ⟨⟨a2, b2⟩, h⟩ := h
  refine wp_iast d_mo_returns_13 s_116 (Nat.le_of_ble_eq_true rfl) a2 b2 ?_
  have h := h _ rfl
  refine wp_aload_n d_mo_returns_14 rfl 0 rfl ?_
  refine wp_getr d_mo_returns_15 23 s_101 rfl (Nat.le_of_ble_eq_true rfl) (Nat.le_of_ble_eq_true rfl) rfl rfl lk_mo_64 ?_
  refine wp_iload_n d_mo_returns_18 rfl 3 rfl ?_
  refine wp_aload_n d_mo_returns_19 rfl 0 rfl ?_
  refine wp_getr d_mo_returns_20 16 s_101 rfl (Nat.le_of_ble_eq_true rfl) (Nat.le_of_ble_eq_true rfl) rfl rfl lk_mo_43 ?_
  refine wp_iload_n d_mo_returns_23 rfl 1 rfl ?_
  obtain ⟨⟨a3, b3⟩, h⟩ := h
  refine wp_iald d_mo_returns_24 s_113 (Nat.le_of_ble_eq_true rfl) a3 b3 ?_
  refine wp_aload_n d_mo_returns_25 rfl 0 rfl ?_
  refine wp_getr d_mo_returns_26 18 s_101 rfl (Nat.le_of_ble_eq_true rfl) (Nat.le_of_ble_eq_true rfl) rfl rfl lk_mo_49 ?_
  refine wp_iload_n d_mo_returns_29 rfl 1 rfl ?_
  obtain ⟨⟨a4, b4⟩, h⟩ := h
  refine wp_iald d_mo_returns_30 s_115 (Nat.le_of_ble_eq_true rfl) a4 b4 ?_
  refine wp_isub d_mo_returns_31 ?_
  obtain ⟨⟨a5, b5⟩, h⟩ := h
  refine wp_iast d_mo_returns_32 s_120 (Nat.le_of_ble_eq_true rfl) a5 b5 ?_
  have h := h _ rfl
  refine wp_aload_n d_mo_returns_33 rfl 0 rfl ?_
  refine wp_aload_n d_mo_returns_34 rfl 0 rfl ?_
  refine wp_getr d_mo_returns_35 15 s_101 rfl (Nat.le_of_ble_eq_true rfl) (Nat.le_of_ble_eq_true rfl) rfl rfl lk_mo_40 ?_
  refine wp_bipush d_mo_returns_38 ⟨by decide, by decide⟩ (by decide) ?_
  refine wp_iload_n d_mo_returns_40 rfl 1 rfl ?_
  refine wp_imul d_mo_returns_41 ?_
  refine wp_aload_n d_mo_returns_42 rfl 0 rfl ?_
  refine wp_getr d_mo_returns_43 16 s_101 rfl (Nat.le_of_ble_eq_true rfl) (Nat.le_of_ble_eq_true rfl) rfl rfl lk_mo_43 ?_
  refine wp_iload_n d_mo_returns_46 rfl 1 rfl ?_
  obtain ⟨⟨a6, b6⟩, h⟩ := h
  refine wp_iald d_mo_returns_47 s_113 (Nat.le_of_ble_eq_true rfl) a6 b6 ?_
  refine wp_aload_n d_mo_returns_48 rfl 0 rfl ?_
  refine wp_getr d_mo_returns_49 17 s_101 rfl (Nat.le_of_ble_eq_true rfl) (Nat.le_of_ble_eq_true rfl) rfl rfl lk_mo_46 ?_
  refine wp_bipush d_mo_returns_52 ⟨by decide, by decide⟩ (by decide) ?_
  refine wp_iload_n d_mo_returns_54 rfl 1 rfl ?_
  refine wp_imul d_mo_returns_55 ?_
  refine wp_aload_n d_mo_returns_56 rfl 0 rfl ?_
  refine wp_getr d_mo_returns_57 18 s_101 rfl (Nat.le_of_ble_eq_true rfl) (Nat.le_of_ble_eq_true rfl) rfl rfl lk_mo_49 ?_
  refine wp_iload_n d_mo_returns_60 rfl 1 rfl ?_
  obtain ⟨⟨a7, b7⟩, h⟩ := h
  refine wp_iald d_mo_returns_61 s_115 (Nat.le_of_ble_eq_true rfl) a7 b7 ?_
  refine wp_callV [pR _, pI _, pI _, pR _, pI _, pI _] _ d_mo_returns_62 jd_mo_commonOf lk_mo_175 rfl s_101 rfl (Nat.le_of_ble_eq_true rfl) (Nat.le_of_ble_eq_true rfl) rfl ?_
  refine clI_k h ?_
  intro x8 M3 h
  refine wp_istore (L2 := [(0, pR 101), (1, pI _), (2, pI _), (3, pI _), (4, pI _)]) d_mo_returns_65 (Nat.le_of_ble_eq_true rfl) [1, 2, 3, 4, 0] rfl ?_
  refine wp_iload d_mo_returns_67 4 rfl ?_
  refine wp_iload_n d_mo_returns_69 rfl 2 rfl ?_
  refine wp_aload_n d_mo_returns_70 rfl 0 rfl ?_
  refine wp_getr d_mo_returns_71 18 s_101 rfl (Nat.le_of_ble_eq_true rfl) (Nat.le_of_ble_eq_true rfl) rfl rfl lk_mo_49 ?_
  refine wp_iload_n d_mo_returns_74 rfl 1 rfl ?_
  obtain ⟨⟨a9, b9⟩, h⟩ := h
  refine wp_iald d_mo_returns_75 s_115 (Nat.le_of_ble_eq_true rfl) a9 b9 ?_
  refine wp_callS [pI _, pI _] d_mo_returns_76 jd_mo_lesser lk_mo_165 rfl (Nat.le_of_ble_eq_true rfl) rfl ?_
  refine clI_k h ?_
  intro x10 M4 h
  refine wp_icmp_ge 145 d_mo_returns_79 (by decide) (fun c11 => ?_) (fun c11 => ?_)
  · have h := h.1 c11
    exact wp_vret d_mo_returns_145 rfl ⟨Nat.le_of_ble_eq_true rfl, Nat.le_of_ble_eq_true rfl⟩ ⟨rfl, rfl, rfl, h⟩
  · have h := h.2 c11
    refine wp_aload_n d_mo_returns_82 rfl 0 rfl ?_
    refine wp_getr d_mo_returns_83 22 s_101 rfl (Nat.le_of_ble_eq_true rfl) (Nat.le_of_ble_eq_true rfl) rfl rfl lk_mo_61 ?_
    refine wp_iload_n d_mo_returns_86 rfl 3 rfl ?_
    refine wp_iconst d_mo_returns_87 ⟨by decide, by decide⟩ ?_
    obtain ⟨⟨a12, b12⟩, h⟩ := h
    refine wp_iast d_mo_returns_88 s_119 (Nat.le_of_ble_eq_true rfl) a12 b12 ?_
    have h := h _ rfl
    refine wp_iconst d_mo_returns_89 ⟨by decide, by decide⟩ ?_
    refine wp_istore (L2 := [(0, pR 101), (1, pI _), (2, pI _), (3, pI _), (4, pI _), (5, pI _)]) d_mo_returns_90 (Nat.le_of_ble_eq_true rfl) [1, 2, 3, 4, 5, 0] rfl ?_
    refine wp_sub (L2 := [(0, pR 101), (1, pI _), (5, pI _)]) [0, 1, 5] rfl ?_
    exact h
set_option maxHeartbeats 8000000 in
theorem b_mo_returns_92 {G : GT} {M : MT} {P : MT → Prop} (v1 : Int) (v5 : Int)
    (h : (0 ≤ v1 ∧ v1 < 6) ∧ (((M 115 (v1.toNat)) ≤ v5 → (0 ≤ v1 ∧ v1 < 6) ∧ ((0 ≤ v1 ∧ v1 < 7) ∧ (∀ M1 : MT, M1 = mu M 113 (v1.toNat) (M 115 (v1.toNat)) → (P M1)))) ∧ (v5 < (M 115 (v1.toNat)) → (0 ≤ (w32 ((w32 (40 * v1)) + v5)) ∧ (w32 ((w32 (40 * v1)) + v5)) < 240) ∧ ((0 ≤ (w32 ((w32 (40 * v1)) + v5)) ∧ (w32 ((w32 (40 * v1)) + v5)) < 280) ∧ (∀ M1 : MT, M1 = mu M 112 ((w32 ((w32 (40 * v1)) + v5)).toNat) (M 114 ((w32 ((w32 (40 * v1)) + v5)).toNat)) → (WpV G J_mo_returns 92 [(0, pR 101), (1, pI v1), (5, pI (w32 (v5 + 1)))] [] M1 P)))))) : WpV G J_mo_returns 92 [(0, pR 101), (1, pI v1), (5, pI v5)] [] M P := by
  show Wp G J_mo_returns 0 0 92 [(0, pR 101), (1, pI v1), (5, pI v5)] [] NN RF M _
  refine wp_iload d_mo_returns_92 2 rfl ?_
  refine wp_aload_n d_mo_returns_94 rfl 0 rfl ?_
  refine wp_getr d_mo_returns_95 18 s_101 rfl (Nat.le_of_ble_eq_true rfl) (Nat.le_of_ble_eq_true rfl) rfl rfl lk_mo_49 ?_
  refine wp_iload_n d_mo_returns_98 rfl 1 rfl ?_
  obtain ⟨⟨a1, b1⟩, h⟩ := h
  refine wp_iald d_mo_returns_99 s_115 (Nat.le_of_ble_eq_true rfl) a1 b1 ?_
  refine wp_icmp_ge 133 d_mo_returns_100 (by decide) (fun c2 => ?_) (fun c2 => ?_)
  · have h := h.1 c2
    refine wp_aload_n d_mo_returns_133 rfl 0 rfl ?_
    refine wp_getr d_mo_returns_134 16 s_101 rfl (Nat.le_of_ble_eq_true rfl) (Nat.le_of_ble_eq_true rfl) rfl rfl lk_mo_43 ?_
    refine wp_iload_n d_mo_returns_137 rfl 1 rfl ?_
    refine wp_aload_n d_mo_returns_138 rfl 0 rfl ?_
    refine wp_getr d_mo_returns_139 18 s_101 rfl (Nat.le_of_ble_eq_true rfl) (Nat.le_of_ble_eq_true rfl) rfl rfl lk_mo_49 ?_
    refine wp_iload_n d_mo_returns_142 rfl 1 rfl ?_
    obtain ⟨⟨a3, b3⟩, h⟩ := h
    refine wp_iald d_mo_returns_143 s_115 (Nat.le_of_ble_eq_true rfl) a3 b3 ?_
    obtain ⟨⟨a4, b4⟩, h⟩ := h
    refine wp_iast d_mo_returns_144 s_113 (Nat.le_of_ble_eq_true rfl) a4 b4 ?_
    have h := h _ rfl
    exact wp_vret d_mo_returns_145 rfl ⟨Nat.le_of_ble_eq_true rfl, Nat.le_of_ble_eq_true rfl⟩ ⟨rfl, rfl, rfl, h⟩
  · have h := h.2 c2
    refine wp_aload_n d_mo_returns_103 rfl 0 rfl ?_
    refine wp_getr d_mo_returns_104 15 s_101 rfl (Nat.le_of_ble_eq_true rfl) (Nat.le_of_ble_eq_true rfl) rfl rfl lk_mo_40 ?_
    refine wp_bipush d_mo_returns_107 ⟨by decide, by decide⟩ (by decide) ?_
    refine wp_iload_n d_mo_returns_109 rfl 1 rfl ?_
    refine wp_imul d_mo_returns_110 ?_
    refine wp_iload d_mo_returns_111 2 rfl ?_
    refine wp_iadd d_mo_returns_113 ?_
    refine wp_aload_n d_mo_returns_114 rfl 0 rfl ?_
    refine wp_getr d_mo_returns_115 17 s_101 rfl (Nat.le_of_ble_eq_true rfl) (Nat.le_of_ble_eq_true rfl) rfl rfl lk_mo_46 ?_
    refine wp_bipush d_mo_returns_118 ⟨by decide, by decide⟩ (by decide) ?_
    refine wp_iload_n d_mo_returns_120 rfl 1 rfl ?_
    refine wp_imul d_mo_returns_121 ?_
    refine wp_iload d_mo_returns_122 2 rfl ?_
    refine wp_iadd d_mo_returns_124 ?_
    obtain ⟨⟨a3, b3⟩, h⟩ := h
    refine wp_iald d_mo_returns_125 s_114 (Nat.le_of_ble_eq_true rfl) a3 b3 ?_
    obtain ⟨⟨a4, b4⟩, h⟩ := h
    refine wp_iast d_mo_returns_126 s_112 (Nat.le_of_ble_eq_true rfl) a4 b4 ?_
    have h := h _ rfl
    refine wp_iinc (L2 := [(0, pR 101), (1, pI _), (5, pI _)]) d_mo_returns_127 2 rfl (Nat.le_of_ble_eq_true rfl) [1, 2, 0] rfl ?_
    refine wp_goto 92 d_mo_returns_130 (by decide) ?_
    exact h
