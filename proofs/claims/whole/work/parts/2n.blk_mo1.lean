set_option maxHeartbeats 8000000 in
theorem e_mo_undo {G : GT} {M : MT} {P : Int → MT → Prop} (v1 : Int)
    (h : ClI G J_mo_isTwo M [pI v1] (fun x1 M1 => ((¬ x1 = 0 → (0 ≤ v1 ∧ v1 < 2) ∧ ((¬ (M1 107 (v1.toNat)) = 0 → (0 ≤ v1 ∧ v1 < 2) ∧ ((0 ≤ v1 ∧ v1 < 2) ∧ (∀ M2 : MT, M2 = mu M1 107 (v1.toNat) (w32 ((M1 107 (v1.toNat)) - 1)) → ((0 ≤ v1 ∧ v1 < 2) ∧ (P (M2 107 (v1.toNat)) M2))))) ∧ ((M1 107 (v1.toNat)) = 0 → P (-3) M1))) ∧ (x1 = 0 → P (-2) M1)))) : ClI G J_mo_undo M [pR 101, pI v1] P := by
  show Wp G J_mo_undo 0 0 0 [(0, pR 101), (1, pI v1)] [] NN RF M _
  refine wp_iload_n d_mo_undo_0 rfl 1 rfl ?_
  refine wp_callS [pI _] d_mo_undo_1 jd_mo_isTwo lk_mo_107 rfl (Nat.le_of_ble_eq_true rfl) rfl ?_
  refine clI_k h ?_
  intro x1 M1 h
  refine wp_if_ne 10 d_mo_undo_4 (by decide) (fun c2 => ?_) (fun c2 => ?_)
  · have h := h.1 c2
    refine wp_aload_n d_mo_undo_10 rfl 0 rfl ?_
    refine wp_getr d_mo_undo_11 6 s_101 rfl (Nat.le_of_ble_eq_true rfl) (Nat.le_of_ble_eq_true rfl) rfl rfl lk_mo_25 ?_
    refine wp_iload_n d_mo_undo_14 rfl 1 rfl ?_
    obtain ⟨⟨a3, b3⟩, h⟩ := h
    refine wp_iald d_mo_undo_15 s_107 (Nat.le_of_ble_eq_true rfl) a3 b3 ?_
    refine wp_if_ne 22 d_mo_undo_16 (by decide) (fun c4 => ?_) (fun c4 => ?_)
    · have h := h.1 c4
      refine wp_aload_n d_mo_undo_22 rfl 0 rfl ?_
      refine wp_getr d_mo_undo_23 6 s_101 rfl (Nat.le_of_ble_eq_true rfl) (Nat.le_of_ble_eq_true rfl) rfl rfl lk_mo_25 ?_
      refine wp_iload_n d_mo_undo_26 rfl 1 rfl ?_
      refine wp_dup2 d_mo_undo_27 rfl rfl ?_
      obtain ⟨⟨a5, b5⟩, h⟩ := h
      refine wp_iald d_mo_undo_28 s_107 (Nat.le_of_ble_eq_true rfl) a5 b5 ?_
      refine wp_iconst d_mo_undo_29 ⟨by decide, by decide⟩ ?_
      refine wp_isub d_mo_undo_30 ?_
      obtain ⟨⟨a6, b6⟩, h⟩ := h
      refine wp_iast d_mo_undo_31 s_107 (Nat.le_of_ble_eq_true rfl) a6 b6 ?_
      have h := h _ rfl
      refine wp_aload_n d_mo_undo_32 rfl 0 rfl ?_
      refine wp_getr d_mo_undo_33 6 s_101 rfl (Nat.le_of_ble_eq_true rfl) (Nat.le_of_ble_eq_true rfl) rfl rfl lk_mo_25 ?_
      refine wp_iload_n d_mo_undo_36 rfl 1 rfl ?_
      obtain ⟨⟨a7, b7⟩, h⟩ := h
      refine wp_iald d_mo_undo_37 s_107 (Nat.le_of_ble_eq_true rfl) a7 b7 ?_
      exact wp_iret d_mo_undo_38 rfl ⟨Nat.le_of_ble_eq_true rfl, Nat.le_of_ble_eq_true rfl⟩ ⟨_, rfl, rfl, rfl, h⟩
    · have h := h.2 c4
      refine wp_bipush d_mo_undo_19 ⟨by decide, by decide⟩ (by decide) ?_
      exact wp_iret d_mo_undo_21 rfl ⟨Nat.le_of_ble_eq_true rfl, Nat.le_of_ble_eq_true rfl⟩ ⟨_, rfl, rfl, rfl, h⟩
  · have h := h.2 c2
    refine wp_bipush d_mo_undo_7 ⟨by decide, by decide⟩ (by decide) ?_
    exact wp_iret d_mo_undo_9 rfl ⟨Nat.le_of_ble_eq_true rfl, Nat.le_of_ble_eq_true rfl⟩ ⟨_, rfl, rfl, rfl, h⟩
set_option maxHeartbeats 8000000 in
theorem e_mo_tunesFault {G : GT} {M : MT} {P : Int → MT → Prop} (v1 : Int)
    (h : ∀ M1 : MT, M1 = mu M 101 7 0 → (P v1 M1)) : ClI G J_mo_tunesFault M [pR 101, pI v1] P := by
  show Wp G J_mo_tunesFault 0 0 0 [(0, pR 101), (1, pI v1)] [] NN RF M _
  refine wp_aload_n d_mo_tunesFault_0 rfl 0 rfl ?_
  refine wp_iconst d_mo_tunesFault_1 ⟨by decide, by decide⟩ ?_
  refine wp_puti d_mo_tunesFault_2 7 s_101 rfl (Nat.le_of_ble_eq_true rfl) (Nat.le_of_ble_eq_true rfl) (Or.inl rfl) rfl lk_mo_112 ?_
  have h := h _ rfl
  refine wp_iload_n d_mo_tunesFault_5 rfl 1 rfl ?_
  exact wp_iret d_mo_tunesFault_6 rfl ⟨Nat.le_of_ble_eq_true rfl, Nat.le_of_ble_eq_true rfl⟩ ⟨_, rfl, rfl, rfl, h⟩
set_option maxHeartbeats 8000000 in
theorem e_mo_readsTunes {G : GT} {M : MT} {P : Int → MT → Prop} 
    (h : ∀ M1 : MT, M1 = mu M 101 7 0 → (WpI G J_mo_readsTunes 9 [(0, pR 101), (1, pI 0), (2, pI 0)] [] M1 P)) : ClI G J_mo_readsTunes M [pR 101] P := by
  show Wp G J_mo_readsTunes 0 0 0 [(0, pR 101)] [] NN RF M _
  refine wp_aload_n d_mo_readsTunes_0 rfl 0 rfl ?_
  refine wp_iconst d_mo_readsTunes_1 ⟨by decide, by decide⟩ ?_
  refine wp_puti d_mo_readsTunes_2 7 s_101 rfl (Nat.le_of_ble_eq_true rfl) (Nat.le_of_ble_eq_true rfl) (Or.inl rfl) rfl lk_mo_112 ?_
  have h := h _ rfl
  refine wp_iconst d_mo_readsTunes_5 ⟨by decide, by decide⟩ ?_
  refine wp_istore_n (L2 := [(0, pR 101), (1, pI _)]) d_mo_readsTunes_6 rfl (Nat.le_of_ble_eq_true rfl) [1, 0] rfl ?_
  refine wp_iconst d_mo_readsTunes_7 ⟨by decide, by decide⟩ ?_
  refine wp_istore_n (L2 := [(0, pR 101), (1, pI _), (2, pI _)]) d_mo_readsTunes_8 rfl (Nat.le_of_ble_eq_true rfl) [1, 2, 0] rfl ?_
  exact h
set_option maxHeartbeats 8000000 in
theorem b_mo_readsTunes_9 {G : GT} {M : MT} {P : Int → MT → Prop} (v1 : Int) (v2 : Int)
    (h : ((M 107 0) ≤ v2 → (¬ v1 = 0 → (0 ≤ (M 101 7) ∧ (M 101 7) < 6) ∧ (∀ M1 : MT, M1 = mu M 109 ((M 101 7).toNat) v1 → (∀ M2 : MT, M2 = mu M1 101 7 (w32 ((M1 101 7) + 1)) → (P (-1) M2)))) ∧ (v1 = 0 → (¬ (M 107 0) = 0 → ClI G J_mo_tunesFault M [pR 101, pI (M 107 0)] (fun x4 M1 => (P x4 M1))) ∧ ((M 107 0) = 0 → P (-1) M))) ∧ (v2 < (M 107 0) → (0 ≤ v2 ∧ v2 < 120) ∧ ((¬ (M 106 (v2.toNat)) = 59 → ClI G J_mo_in M [pL (M 106 (v2.toNat)), pL 97, pL 103] (fun x4 M1 => ((x4 = 0 → ClI G J_mo_tunesFault M1 [pR 101, pI v2] (fun x6 M2 => (P x6 M2))) ∧ (¬ x4 = 0 → (v1 = 12 → ClI G J_mo_tunesFault M1 [pR 101, pI v2] (fun x7 M2 => (P x7 M2))) ∧ (¬ v1 = 12 → (¬ (M1 101 7) = 6 → (0 ≤ (w32 ((w32 (40 * (M1 101 7))) + v1)) ∧ (w32 ((w32 (40 * (M1 101 7))) + v1)) < 240) ∧ (∀ M2 : MT, M2 = mu M1 108 ((w32 ((w32 (40 * (M1 101 7))) + v1)).toNat) (w32 ((M 106 (v2.toNat)) - 97)) → (WpI G J_mo_readsTunes 9 [(0, pR 101), (1, pI (w32 (v1 + 1))), (2, pI (w32 (v2 + 1)))] [] M2 P))) ∧ ((M1 101 7) = 6 → ClI G J_mo_tunesFault M1 [pR 101, pI v2] (fun x8 M2 => (P x8 M2)))))))) ∧ ((M 106 (v2.toNat)) = 59 → (¬ v1 = 0 → (0 ≤ (M 101 7) ∧ (M 101 7) < 6) ∧ (∀ M1 : MT, M1 = mu M 109 ((M 101 7).toNat) v1 → (∀ M2 : MT, M2 = mu M1 101 7 (w32 ((M1 101 7) + 1)) → (WpI G J_mo_readsTunes 9 [(0, pR 101), (1, pI 0), (2, pI (w32 (v2 + 1)))] [] M2 P)))) ∧ (v1 = 0 → ClI G J_mo_tunesFault M [pR 101, pI v2] (fun x5 M1 => (P x5 M1))))))) : WpI G J_mo_readsTunes 9 [(0, pR 101), (1, pI v1), (2, pI v2)] [] M P := by
  show Wp G J_mo_readsTunes 0 0 9 [(0, pR 101), (1, pI v1), (2, pI v2)] [] NN RF M _
  refine wp_iload_n d_mo_readsTunes_9 rfl 2 rfl ?_
  refine wp_aload_n d_mo_readsTunes_10 rfl 0 rfl ?_
  refine wp_getr d_mo_readsTunes_11 6 s_101 rfl (Nat.le_of_ble_eq_true rfl) (Nat.le_of_ble_eq_true rfl) rfl rfl lk_mo_25 ?_
  refine wp_iconst d_mo_readsTunes_14 ⟨by decide, by decide⟩ ?_
  refine wp_iald d_mo_readsTunes_15 s_107 (Nat.le_of_ble_eq_true rfl) (by decide) (by decide) ?_
  refine wp_icmp_ge 129 d_mo_readsTunes_16 (by decide) (fun c1 => ?_) (fun c1 => ?_)
  · have h := h.1 c1
    refine wp_iload_n d_mo_readsTunes_129 rfl 1 rfl ?_
    refine wp_if_ne 157 d_mo_readsTunes_130 (by decide) (fun c2 => ?_) (fun c2 => ?_)
    · have h := h.1 c2
      refine wp_aload_n d_mo_readsTunes_157 rfl 0 rfl ?_
      refine wp_getr d_mo_readsTunes_158 9 s_101 rfl (Nat.le_of_ble_eq_true rfl) (Nat.le_of_ble_eq_true rfl) rfl rfl lk_mo_31 ?_
      refine wp_aload_n d_mo_readsTunes_161 rfl 0 rfl ?_
      refine wp_geti d_mo_readsTunes_162 7 s_101 rfl (Nat.le_of_ble_eq_true rfl) (Nat.le_of_ble_eq_true rfl) rfl lk_mo_112 ?_
      refine wp_iload_n d_mo_readsTunes_165 rfl 1 rfl ?_
      obtain ⟨⟨a3, b3⟩, h⟩ := h
      refine wp_iast d_mo_readsTunes_166 s_109 (Nat.le_of_ble_eq_true rfl) a3 b3 ?_
      have h := h _ rfl
      refine wp_aload_n d_mo_readsTunes_167 rfl 0 rfl ?_
      refine wp_dup d_mo_readsTunes_168 rfl ?_
      refine wp_geti d_mo_readsTunes_169 7 s_101 rfl (Nat.le_of_ble_eq_true rfl) (Nat.le_of_ble_eq_true rfl) rfl lk_mo_112 ?_
      refine wp_iconst d_mo_readsTunes_172 ⟨by decide, by decide⟩ ?_
      refine wp_iadd d_mo_readsTunes_173 ?_
      refine wp_puti d_mo_readsTunes_174 7 s_101 rfl (Nat.le_of_ble_eq_true rfl) (Nat.le_of_ble_eq_true rfl) (Or.inl rfl) rfl lk_mo_112 ?_
      have h := h _ rfl
      refine wp_iconst d_mo_readsTunes_177 ⟨by decide, by decide⟩ ?_
      exact wp_iret d_mo_readsTunes_178 rfl ⟨Nat.le_of_ble_eq_true rfl, Nat.le_of_ble_eq_true rfl⟩ ⟨_, rfl, rfl, rfl, h⟩
    · have h := h.2 c2
      refine wp_aload_n d_mo_readsTunes_133 rfl 0 rfl ?_
      refine wp_getr d_mo_readsTunes_134 6 s_101 rfl (Nat.le_of_ble_eq_true rfl) (Nat.le_of_ble_eq_true rfl) rfl rfl lk_mo_25 ?_
      refine wp_iconst d_mo_readsTunes_137 ⟨by decide, by decide⟩ ?_
      refine wp_iald d_mo_readsTunes_138 s_107 (Nat.le_of_ble_eq_true rfl) (by decide) (by decide) ?_
      refine wp_if_ne 146 d_mo_readsTunes_139 (by decide) (fun c3 => ?_) (fun c3 => ?_)
      · have h := h.1 c3
        refine wp_aload_n d_mo_readsTunes_146 rfl 0 rfl ?_
        refine wp_aload_n d_mo_readsTunes_147 rfl 0 rfl ?_
        refine wp_getr d_mo_readsTunes_148 6 s_101 rfl (Nat.le_of_ble_eq_true rfl) (Nat.le_of_ble_eq_true rfl) rfl rfl lk_mo_25 ?_
        refine wp_iconst d_mo_readsTunes_151 ⟨by decide, by decide⟩ ?_
        refine wp_iald d_mo_readsTunes_152 s_107 (Nat.le_of_ble_eq_true rfl) (by decide) (by decide) ?_
        refine wp_callV [pI _] _ d_mo_readsTunes_153 jd_mo_tunesFault lk_mo_115 rfl s_101 rfl (Nat.le_of_ble_eq_true rfl) (Nat.le_of_ble_eq_true rfl) rfl ?_
        refine clI_k h ?_
        intro x4 M1 h
        exact wp_iret d_mo_readsTunes_156 rfl ⟨Nat.le_of_ble_eq_true rfl, Nat.le_of_ble_eq_true rfl⟩ ⟨_, rfl, rfl, rfl, h⟩
      · have h := h.2 c3
        refine wp_iconst d_mo_readsTunes_142 ⟨by decide, by decide⟩ ?_
        refine wp_goto 156 d_mo_readsTunes_143 (by decide) ?_
        exact wp_iret d_mo_readsTunes_156 rfl ⟨Nat.le_of_ble_eq_true rfl, Nat.le_of_ble_eq_true rfl⟩ ⟨_, rfl, rfl, rfl, h⟩
  · have h := h.2 c1
    refine wp_aload_n d_mo_readsTunes_19 rfl 0 rfl ?_
    refine wp_getr d_mo_readsTunes_20 5 s_101 rfl (Nat.le_of_ble_eq_true rfl) (Nat.le_of_ble_eq_true rfl) rfl rfl lk_mo_22 ?_
    refine wp_iload_n d_mo_readsTunes_23 rfl 2 rfl ?_
    obtain ⟨⟨a2, b2⟩, h⟩ := h
    refine wp_iald d_mo_readsTunes_24 s_106 (Nat.le_of_ble_eq_true rfl) a2 b2 ?_
    refine wp_istore_n (L2 := [(0, pR 101), (1, pI _), (2, pI _), (3, pI _)]) d_mo_readsTunes_25 rfl (Nat.le_of_ble_eq_true rfl) [1, 2, 3, 0] rfl ?_
    refine wp_iload_n d_mo_readsTunes_26 rfl 3 rfl ?_
    refine wp_bipush d_mo_readsTunes_27 ⟨by decide, by decide⟩ (by decide) ?_
    refine wp_icmp_ne 67 d_mo_readsTunes_29 (by decide) (fun c3 => ?_) (fun c3 => ?_)
    · have h := h.1 c3
      refine wp_iload_n d_mo_readsTunes_67 rfl 3 rfl ?_
      refine wp_i2l d_mo_readsTunes_68 ?_
      refine wp_ldc2 lk_mo_118 d_mo_readsTunes_69 ⟨by decide, by decide⟩ ?_
      refine wp_ldc2 lk_mo_120 d_mo_readsTunes_72 ⟨by decide, by decide⟩ ?_
      refine wp_callS [pL _, pL _, pL _] d_mo_readsTunes_75 jd_mo_in lk_mo_79 rfl (Nat.le_of_ble_eq_true rfl) rfl ?_
      refine clI_k h ?_
      intro x4 M1 h
      refine wp_if_eq 96 d_mo_readsTunes_78 (by decide) (fun c5 => ?_) (fun c5 => ?_)
      · have h := h.1 c5
        refine wp_aload_n d_mo_readsTunes_96 rfl 0 rfl ?_
        refine wp_iload_n d_mo_readsTunes_97 rfl 2 rfl ?_
        refine wp_callV [pI _] _ d_mo_readsTunes_98 jd_mo_tunesFault lk_mo_115 rfl s_101 rfl (Nat.le_of_ble_eq_true rfl) (Nat.le_of_ble_eq_true rfl) rfl ?_
        refine clI_k h ?_
        intro x6 M2 h
        exact wp_iret d_mo_readsTunes_101 rfl ⟨Nat.le_of_ble_eq_true rfl, Nat.le_of_ble_eq_true rfl⟩ ⟨_, rfl, rfl, rfl, h⟩
      · have h := h.2 c5
        refine wp_iload_n d_mo_readsTunes_81 rfl 1 rfl ?_
        refine wp_bipush d_mo_readsTunes_82 ⟨by decide, by decide⟩ (by decide) ?_
        refine wp_icmp_eq 96 d_mo_readsTunes_84 (by decide) (fun c6 => ?_) (fun c6 => ?_)
        · have h := h.1 c6
          refine wp_aload_n d_mo_readsTunes_96 rfl 0 rfl ?_
          refine wp_iload_n d_mo_readsTunes_97 rfl 2 rfl ?_
          refine wp_callV [pI _] _ d_mo_readsTunes_98 jd_mo_tunesFault lk_mo_115 rfl s_101 rfl (Nat.le_of_ble_eq_true rfl) (Nat.le_of_ble_eq_true rfl) rfl ?_
          refine clI_k h ?_
          intro x7 M2 h
          exact wp_iret d_mo_readsTunes_101 rfl ⟨Nat.le_of_ble_eq_true rfl, Nat.le_of_ble_eq_true rfl⟩ ⟨_, rfl, rfl, rfl, h⟩
        · have h := h.2 c6
          refine wp_aload_n d_mo_readsTunes_87 rfl 0 rfl ?_
          refine wp_geti d_mo_readsTunes_88 7 s_101 rfl (Nat.le_of_ble_eq_true rfl) (Nat.le_of_ble_eq_true rfl) rfl lk_mo_112 ?_
          refine wp_bipush d_mo_readsTunes_91 ⟨by decide, by decide⟩ (by decide) ?_
          refine wp_icmp_ne 102 d_mo_readsTunes_93 (by decide) (fun c7 => ?_) (fun c7 => ?_)
          · have h := h.1 c7
            refine wp_aload_n d_mo_readsTunes_102 rfl 0 rfl ?_
            refine wp_getr d_mo_readsTunes_103 8 s_101 rfl (Nat.le_of_ble_eq_true rfl) (Nat.le_of_ble_eq_true rfl) rfl rfl lk_mo_28 ?_
            refine wp_bipush d_mo_readsTunes_106 ⟨by decide, by decide⟩ (by decide) ?_
            refine wp_aload_n d_mo_readsTunes_108 rfl 0 rfl ?_
            refine wp_geti d_mo_readsTunes_109 7 s_101 rfl (Nat.le_of_ble_eq_true rfl) (Nat.le_of_ble_eq_true rfl) rfl lk_mo_112 ?_
            refine wp_imul d_mo_readsTunes_112 ?_
            refine wp_iload_n d_mo_readsTunes_113 rfl 1 rfl ?_
            refine wp_iadd d_mo_readsTunes_114 ?_
            refine wp_iload_n d_mo_readsTunes_115 rfl 3 rfl ?_
            refine wp_bipush d_mo_readsTunes_116 ⟨by decide, by decide⟩ (by decide) ?_
            refine wp_isub d_mo_readsTunes_118 ?_
            obtain ⟨⟨a8, b8⟩, h⟩ := h
            refine wp_iast d_mo_readsTunes_119 s_108 (Nat.le_of_ble_eq_true rfl) a8 b8 ?_
            have h := h _ rfl
            refine wp_iinc (L2 := [(0, pR 101), (1, pI _), (2, pI _), (3, pI _)]) d_mo_readsTunes_120 1 rfl (Nat.le_of_ble_eq_true rfl) [1, 0, 2, 3] rfl ?_
            refine wp_iinc (L2 := [(0, pR 101), (1, pI _), (2, pI _), (3, pI _)]) d_mo_readsTunes_123 2 rfl (Nat.le_of_ble_eq_true rfl) [1, 2, 0, 3] rfl ?_
            refine wp_goto 9 d_mo_readsTunes_126 (by decide) ?_
            refine wp_sub (L2 := [(0, pR 101), (1, pI _), (2, pI _)]) [0, 1, 2] rfl ?_
            exact h
          · have h := h.2 c7
            refine wp_aload_n d_mo_readsTunes_96 rfl 0 rfl ?_
            refine wp_iload_n d_mo_readsTunes_97 rfl 2 rfl ?_
            refine wp_callV [pI _] _ d_mo_readsTunes_98 jd_mo_tunesFault lk_mo_115 rfl s_101 rfl (Nat.le_of_ble_eq_true rfl) (Nat.le_of_ble_eq_true rfl) rfl ?_
            refine clI_k h ?_
            intro x8 M2 h
            exact wp_iret d_mo_readsTunes_101 rfl ⟨Nat.le_of_ble_eq_true rfl, Nat.le_of_ble_eq_true rfl⟩ ⟨_, rfl, rfl, rfl, h⟩
    · have h := h.2 c3
      refine wp_iload_n d_mo_readsTunes_32 rfl 1 rfl ?_
      refine wp_if_ne 42 d_mo_readsTunes_33 (by decide) (fun c4 => ?_) (fun c4 => ?_)
      · have h := h.1 c4
        refine wp_aload_n d_mo_readsTunes_42 rfl 0 rfl ?_
        refine wp_getr d_mo_readsTunes_43 9 s_101 rfl (Nat.le_of_ble_eq_true rfl) (Nat.le_of_ble_eq_true rfl) rfl rfl lk_mo_31 ?_
        refine wp_aload_n d_mo_readsTunes_46 rfl 0 rfl ?_
        refine wp_geti d_mo_readsTunes_47 7 s_101 rfl (Nat.le_of_ble_eq_true rfl) (Nat.le_of_ble_eq_true rfl) rfl lk_mo_112 ?_
        refine wp_iload_n d_mo_readsTunes_50 rfl 1 rfl ?_
        obtain ⟨⟨a5, b5⟩, h⟩ := h
        refine wp_iast d_mo_readsTunes_51 s_109 (Nat.le_of_ble_eq_true rfl) a5 b5 ?_
        have h := h _ rfl
        refine wp_aload_n d_mo_readsTunes_52 rfl 0 rfl ?_
        refine wp_dup d_mo_readsTunes_53 rfl ?_
        refine wp_geti d_mo_readsTunes_54 7 s_101 rfl (Nat.le_of_ble_eq_true rfl) (Nat.le_of_ble_eq_true rfl) rfl lk_mo_112 ?_
        refine wp_iconst d_mo_readsTunes_57 ⟨by decide, by decide⟩ ?_
        refine wp_iadd d_mo_readsTunes_58 ?_
        refine wp_puti d_mo_readsTunes_59 7 s_101 rfl (Nat.le_of_ble_eq_true rfl) (Nat.le_of_ble_eq_true rfl) (Or.inl rfl) rfl lk_mo_112 ?_
        have h := h _ rfl
        refine wp_iconst d_mo_readsTunes_62 ⟨by decide, by decide⟩ ?_
        refine wp_istore_n (L2 := [(0, pR 101), (1, pI _), (2, pI _), (3, pI _)]) d_mo_readsTunes_63 rfl (Nat.le_of_ble_eq_true rfl) [1, 0, 2, 3] rfl ?_
        refine wp_goto 123 d_mo_readsTunes_64 (by decide) ?_
        refine wp_iinc (L2 := [(0, pR 101), (1, pI _), (2, pI _), (3, pI _)]) d_mo_readsTunes_123 2 rfl (Nat.le_of_ble_eq_true rfl) [1, 2, 0, 3] rfl ?_
        refine wp_goto 9 d_mo_readsTunes_126 (by decide) ?_
        refine wp_sub (L2 := [(0, pR 101), (1, pI _), (2, pI _)]) [0, 1, 2] rfl ?_
        exact h
      · have h := h.2 c4
        refine wp_aload_n d_mo_readsTunes_36 rfl 0 rfl ?_
        refine wp_iload_n d_mo_readsTunes_37 rfl 2 rfl ?_
        refine wp_callV [pI _] _ d_mo_readsTunes_38 jd_mo_tunesFault lk_mo_115 rfl s_101 rfl (Nat.le_of_ble_eq_true rfl) (Nat.le_of_ble_eq_true rfl) rfl ?_
        refine clI_k h ?_
        intro x5 M1 h
        exact wp_iret d_mo_readsTunes_41 rfl ⟨Nat.le_of_ble_eq_true rfl, Nat.le_of_ble_eq_true rfl⟩ ⟨_, rfl, rfl, rfl, h⟩
set_option maxHeartbeats 8000000 in
theorem e_mo_howOf {G : GT} {M : MT} {P : Int → MT → Prop} (v0 : Int)
    (h : (¬ v0 = 43 → (¬ v0 = 45 → (¬ v0 = 47 → P (-1) M) ∧ (v0 = 47 → P 2 M)) ∧ (v0 = 45 → P 1 M)) ∧ (v0 = 43 → P 0 M)) : ClI G J_mo_howOf M [pI v0] P := by
  show Wp G J_mo_howOf 0 0 0 [(0, pI v0)] [] NN RF M _
  refine wp_iload_n d_mo_howOf_0 rfl 0 rfl ?_
  refine wp_bipush d_mo_howOf_1 ⟨by decide, by decide⟩ (by decide) ?_
  refine wp_icmp_ne 10 d_mo_howOf_3 (by decide) (fun c1 => ?_) (fun c1 => ?_)
  · have h := h.1 c1
    refine wp_iload_n d_mo_howOf_10 rfl 0 rfl ?_
    refine wp_bipush d_mo_howOf_11 ⟨by decide, by decide⟩ (by decide) ?_
    refine wp_icmp_ne 20 d_mo_howOf_13 (by decide) (fun c2 => ?_) (fun c2 => ?_)
    · have h := h.1 c2
      refine wp_iload_n d_mo_howOf_20 rfl 0 rfl ?_
      refine wp_bipush d_mo_howOf_21 ⟨by decide, by decide⟩ (by decide) ?_
      refine wp_icmp_ne 30 d_mo_howOf_23 (by decide) (fun c3 => ?_) (fun c3 => ?_)
      · have h := h.1 c3
        refine wp_iconst d_mo_howOf_30 ⟨by decide, by decide⟩ ?_
        exact wp_iret d_mo_howOf_31 rfl ⟨Nat.le_of_ble_eq_true rfl, Nat.le_of_ble_eq_true rfl⟩ ⟨_, rfl, rfl, rfl, h⟩
      · have h := h.2 c3
        refine wp_iconst d_mo_howOf_26 ⟨by decide, by decide⟩ ?_
        refine wp_goto 31 d_mo_howOf_27 (by decide) ?_
        exact wp_iret d_mo_howOf_31 rfl ⟨Nat.le_of_ble_eq_true rfl, Nat.le_of_ble_eq_true rfl⟩ ⟨_, rfl, rfl, rfl, h⟩
    · have h := h.2 c2
      refine wp_iconst d_mo_howOf_16 ⟨by decide, by decide⟩ ?_
      refine wp_goto 31 d_mo_howOf_17 (by decide) ?_
      exact wp_iret d_mo_howOf_31 rfl ⟨Nat.le_of_ble_eq_true rfl, Nat.le_of_ble_eq_true rfl⟩ ⟨_, rfl, rfl, rfl, h⟩
  · have h := h.2 c1
    refine wp_iconst d_mo_howOf_6 ⟨by decide, by decide⟩ ?_
    refine wp_goto 31 d_mo_howOf_7 (by decide) ?_
    exact wp_iret d_mo_howOf_31 rfl ⟨Nat.le_of_ble_eq_true rfl, Nat.le_of_ble_eq_true rfl⟩ ⟨_, rfl, rfl, rfl, h⟩
set_option maxHeartbeats 8000000 in
theorem e_mo_readsBorrowers {G : GT} {M : MT} {P : Int → MT → Prop} 
    (h : ∀ M1 : MT, M1 = mu M 101 10 0 → (WpI G J_mo_readsBorrowers 14 [(0, pR 101), (1, pI (M1 107 1)), (2, pI 0)] [] M1 P)) : ClI G J_mo_readsBorrowers M [pR 101] P := by
  show Wp G J_mo_readsBorrowers 0 0 0 [(0, pR 101)] [] NN RF M _
  refine wp_aload_n d_mo_readsBorrowers_0 rfl 0 rfl ?_
  refine wp_iconst d_mo_readsBorrowers_1 ⟨by decide, by decide⟩ ?_
  refine wp_puti d_mo_readsBorrowers_2 10 s_101 rfl (Nat.le_of_ble_eq_true rfl) (Nat.le_of_ble_eq_true rfl) (Or.inl rfl) rfl lk_mo_122 ?_
  have h := h _ rfl
  refine wp_aload_n d_mo_readsBorrowers_5 rfl 0 rfl ?_
  refine wp_getr d_mo_readsBorrowers_6 6 s_101 rfl (Nat.le_of_ble_eq_true rfl) (Nat.le_of_ble_eq_true rfl) rfl rfl lk_mo_25 ?_
  refine wp_iconst d_mo_readsBorrowers_9 ⟨by decide, by decide⟩ ?_
  refine wp_iald d_mo_readsBorrowers_10 s_107 (Nat.le_of_ble_eq_true rfl) (by decide) (by decide) ?_
  refine wp_istore_n (L2 := [(0, pR 101), (1, pI _)]) d_mo_readsBorrowers_11 rfl (Nat.le_of_ble_eq_true rfl) [1, 0] rfl ?_
  refine wp_iconst d_mo_readsBorrowers_12 ⟨by decide, by decide⟩ ?_
  refine wp_istore_n (L2 := [(0, pR 101), (1, pI _), (2, pI _)]) d_mo_readsBorrowers_13 rfl (Nat.le_of_ble_eq_true rfl) [1, 2, 0] rfl ?_
  exact h
set_option maxHeartbeats 8000000 in
theorem b_mo_readsBorrowers_14 {G : GT} {M : MT} {P : Int → MT → Prop} (v1 : Int) (v2 : Int)
    (h : (v1 ≤ v2 → WpI G J_mo_readsBorrowers 157 [(0, pR 101), (1, pI v1)] [] M P) ∧ (v2 < v1 → (0 ≤ (w32 (60 + v2)) ∧ (w32 (60 + v2)) < 120) ∧ ((¬ (w32 (Int.tmod v2 4)) = 3 → (¬ (w32 (Int.tmod v2 4)) = 1 → ClI G J_mo_in M [pL (M 106 ((w32 (60 + v2)).toNat)), pL 97, pL 103] (fun x5 M1 => ((x5 = 0 → WpI G J_mo_readsBorrowers 91 [(0, pR 101), (1, pI v1), (2, pI v2), (4, pI (w32 (Int.tmod v2 4))), (5, pI (-1))] [] M1 P) ∧ (¬ x5 = 0 → WpI G J_mo_readsBorrowers 91 [(0, pR 101), (1, pI v1), (2, pI v2), (4, pI (w32 (Int.tmod v2 4))), (5, pI (w32 ((M 106 ((w32 (60 + v2)).toNat)) - 97)))] [] M1 P)))) ∧ ((w32 (Int.tmod v2 4)) = 1 → ClI G J_mo_howOf M [pI (M 106 ((w32 (60 + v2)).toNat))] (fun x5 M1 => (WpI G J_mo_readsBorrowers 91 [(0, pR 101), (1, pI v1), (2, pI v2), (4, pI (w32 (Int.tmod v2 4))), (5, pI x5)] [] M1 P)))) ∧ ((w32 (Int.tmod v2 4)) = 3 → (¬ (M 106 ((w32 (60 + v2)).toNat)) = 59 → WpI G J_mo_readsBorrowers 91 [(0, pR 101), (1, pI v1), (2, pI v2), (4, pI (w32 (Int.tmod v2 4))), (5, pI (-1))] [] M P) ∧ ((M 106 ((w32 (60 + v2)).toNat)) = 59 → WpI G J_mo_readsBorrowers 91 [(0, pR 101), (1, pI v1), (2, pI v2), (4, pI (w32 (Int.tmod v2 4))), (5, pI 0)] [] M P))))) : WpI G J_mo_readsBorrowers 14 [(0, pR 101), (1, pI v1), (2, pI v2)] [] M P := by
  show Wp G J_mo_readsBorrowers 0 0 14 [(0, pR 101), (1, pI v1), (2, pI v2)] [] NN RF M _
  refine wp_iload_n d_mo_readsBorrowers_14 rfl 2 rfl ?_
  refine wp_iload_n d_mo_readsBorrowers_15 rfl 1 rfl ?_
  refine wp_icmp_ge 157 d_mo_readsBorrowers_16 (by decide) (fun c1 => ?_) (fun c1 => ?_)
  · have h := h.1 c1
    refine wp_sub (L2 := [(0, pR 101), (1, pI _)]) [0, 1] rfl ?_
    exact h
  · have h := h.2 c1
    refine wp_aload_n d_mo_readsBorrowers_19 rfl 0 rfl ?_
    refine wp_getr d_mo_readsBorrowers_20 5 s_101 rfl (Nat.le_of_ble_eq_true rfl) (Nat.le_of_ble_eq_true rfl) rfl rfl lk_mo_22 ?_
    refine wp_bipush d_mo_readsBorrowers_23 ⟨by decide, by decide⟩ (by decide) ?_
    refine wp_iload_n d_mo_readsBorrowers_25 rfl 2 rfl ?_
    refine wp_iadd d_mo_readsBorrowers_26 ?_
    obtain ⟨⟨a2, b2⟩, h⟩ := h
    refine wp_iald d_mo_readsBorrowers_27 s_106 (Nat.le_of_ble_eq_true rfl) a2 b2 ?_
    refine wp_istore_n (L2 := [(0, pR 101), (1, pI _), (2, pI _), (3, pI _)]) d_mo_readsBorrowers_28 rfl (Nat.le_of_ble_eq_true rfl) [1, 2, 3, 0] rfl ?_
    refine wp_iload_n d_mo_readsBorrowers_29 rfl 2 rfl ?_
    refine wp_iconst d_mo_readsBorrowers_30 ⟨by decide, by decide⟩ ?_
    refine wp_irem d_mo_readsBorrowers_31 (by decide) ?_
    refine wp_istore (L2 := [(0, pR 101), (1, pI _), (2, pI _), (3, pI _), (4, pI _)]) d_mo_readsBorrowers_32 (Nat.le_of_ble_eq_true rfl) [1, 2, 3, 4, 0] rfl ?_
    refine wp_iload d_mo_readsBorrowers_34 4 rfl ?_
    refine wp_iconst d_mo_readsBorrowers_36 ⟨by decide, by decide⟩ ?_
    refine wp_icmp_ne 54 d_mo_readsBorrowers_37 (by decide) (fun c3 => ?_) (fun c3 => ?_)
    · have h := h.1 c3
      refine wp_iload d_mo_readsBorrowers_54 4 rfl ?_
      refine wp_iconst d_mo_readsBorrowers_56 ⟨by decide, by decide⟩ ?_
      refine wp_icmp_ne 67 d_mo_readsBorrowers_57 (by decide) (fun c4 => ?_) (fun c4 => ?_)
      · have h := h.1 c4
        refine wp_iload_n d_mo_readsBorrowers_67 rfl 3 rfl ?_
        refine wp_i2l d_mo_readsBorrowers_68 ?_
        refine wp_ldc2 lk_mo_118 d_mo_readsBorrowers_69 ⟨by decide, by decide⟩ ?_
        refine wp_ldc2 lk_mo_120 d_mo_readsBorrowers_72 ⟨by decide, by decide⟩ ?_
        refine wp_callS [pL _, pL _, pL _] d_mo_readsBorrowers_75 jd_mo_in lk_mo_79 rfl (Nat.le_of_ble_eq_true rfl) rfl ?_
        refine clI_k h ?_
        intro x5 M1 h
        refine wp_if_eq 88 d_mo_readsBorrowers_78 (by decide) (fun c6 => ?_) (fun c6 => ?_)
        · have h := h.1 c6
          refine wp_iconst d_mo_readsBorrowers_88 ⟨by decide, by decide⟩ ?_
          refine wp_istore (L2 := [(0, pR 101), (1, pI _), (2, pI _), (3, pI _), (4, pI _), (5, pI _)]) d_mo_readsBorrowers_89 (Nat.le_of_ble_eq_true rfl) [1, 2, 3, 4, 5, 0] rfl ?_
          refine wp_sub (L2 := [(0, pR 101), (1, pI _), (2, pI _), (4, pI _), (5, pI _)]) [0, 1, 2, 4, 5] rfl ?_
          exact h
        · have h := h.2 c6
          refine wp_iload_n d_mo_readsBorrowers_81 rfl 3 rfl ?_
          refine wp_bipush d_mo_readsBorrowers_82 ⟨by decide, by decide⟩ (by decide) ?_
          refine wp_isub d_mo_readsBorrowers_84 ?_
          refine wp_goto 89 d_mo_readsBorrowers_85 (by decide) ?_
          refine wp_istore (L2 := [(0, pR 101), (1, pI _), (2, pI _), (3, pI _), (4, pI _), (5, pI _)]) d_mo_readsBorrowers_89 (Nat.le_of_ble_eq_true rfl) [1, 2, 3, 4, 5, 0] rfl ?_
          refine wp_sub (L2 := [(0, pR 101), (1, pI _), (2, pI _), (4, pI _), (5, pI _)]) [0, 1, 2, 4, 5] rfl ?_
          exact h
      · have h := h.2 c4
        refine wp_iload_n d_mo_readsBorrowers_60 rfl 3 rfl ?_
        refine wp_callS [pI _] d_mo_readsBorrowers_61 jd_mo_howOf lk_mo_125 rfl (Nat.le_of_ble_eq_true rfl) rfl ?_
        refine clI_k h ?_
        intro x5 M1 h
        refine wp_goto 89 d_mo_readsBorrowers_64 (by decide) ?_
        refine wp_istore (L2 := [(0, pR 101), (1, pI _), (2, pI _), (3, pI _), (4, pI _), (5, pI _)]) d_mo_readsBorrowers_89 (Nat.le_of_ble_eq_true rfl) [1, 2, 3, 4, 5, 0] rfl ?_
        refine wp_sub (L2 := [(0, pR 101), (1, pI _), (2, pI _), (4, pI _), (5, pI _)]) [0, 1, 2, 4, 5] rfl ?_
        exact h
    · have h := h.2 c3
      refine wp_iload_n d_mo_readsBorrowers_40 rfl 3 rfl ?_
      refine wp_bipush d_mo_readsBorrowers_41 ⟨by decide, by decide⟩ (by decide) ?_
      refine wp_icmp_ne 50 d_mo_readsBorrowers_43 (by decide) (fun c4 => ?_) (fun c4 => ?_)
      · have h := h.1 c4
        refine wp_iconst d_mo_readsBorrowers_50 ⟨by decide, by decide⟩ ?_
        refine wp_goto 89 d_mo_readsBorrowers_51 (by decide) ?_
        refine wp_istore (L2 := [(0, pR 101), (1, pI _), (2, pI _), (3, pI _), (4, pI _), (5, pI _)]) d_mo_readsBorrowers_89 (Nat.le_of_ble_eq_true rfl) [1, 2, 3, 4, 5, 0] rfl ?_
        refine wp_sub (L2 := [(0, pR 101), (1, pI _), (2, pI _), (4, pI _), (5, pI _)]) [0, 1, 2, 4, 5] rfl ?_
        exact h
      · have h := h.2 c4
        refine wp_iconst d_mo_readsBorrowers_46 ⟨by decide, by decide⟩ ?_
        refine wp_goto 89 d_mo_readsBorrowers_47 (by decide) ?_
        refine wp_istore (L2 := [(0, pR 101), (1, pI _), (2, pI _), (3, pI _), (4, pI _), (5, pI _)]) d_mo_readsBorrowers_89 (Nat.le_of_ble_eq_true rfl) [1, 2, 3, 4, 5, 0] rfl ?_
        refine wp_sub (L2 := [(0, pR 101), (1, pI _), (2, pI _), (4, pI _), (5, pI _)]) [0, 1, 2, 4, 5] rfl ?_
        exact h
set_option maxHeartbeats 8000000 in
theorem b_mo_readsBorrowers_157 {G : GT} {M : MT} {P : Int → MT → Prop} (v1 : Int)
    (h : ((w32 (Int.tmod v1 4)) = 3 → P (-1) M) ∧ (¬ (w32 (Int.tmod v1 4)) = 3 → (v1 ≤ 0 → P (-1) M) ∧ (0 < v1 → ∀ M1 : MT, M1 = mu M 101 10 0 → (P v1 M1)))) : WpI G J_mo_readsBorrowers 157 [(0, pR 101), (1, pI v1)] [] M P := by
  show Wp G J_mo_readsBorrowers 0 0 157 [(0, pR 101), (1, pI v1)] [] NN RF M _
  refine wp_iload_n d_mo_readsBorrowers_157 rfl 1 rfl ?_
  refine wp_iconst d_mo_readsBorrowers_158 ⟨by decide, by decide⟩ ?_
  refine wp_irem d_mo_readsBorrowers_159 (by decide) ?_
  refine wp_iconst d_mo_readsBorrowers_160 ⟨by decide, by decide⟩ ?_
  refine wp_icmp_eq 175 d_mo_readsBorrowers_161 (by decide) (fun c1 => ?_) (fun c1 => ?_)
  · have h := h.1 c1
    refine wp_iconst d_mo_readsBorrowers_175 ⟨by decide, by decide⟩ ?_
    exact wp_iret d_mo_readsBorrowers_176 rfl ⟨Nat.le_of_ble_eq_true rfl, Nat.le_of_ble_eq_true rfl⟩ ⟨_, rfl, rfl, rfl, h⟩
  · have h := h.2 c1
    refine wp_iload_n d_mo_readsBorrowers_164 rfl 1 rfl ?_
    refine wp_if_le 175 d_mo_readsBorrowers_165 (by decide) (fun c2 => ?_) (fun c2 => ?_)
    · have h := h.1 c2
      refine wp_iconst d_mo_readsBorrowers_175 ⟨by decide, by decide⟩ ?_
      exact wp_iret d_mo_readsBorrowers_176 rfl ⟨Nat.le_of_ble_eq_true rfl, Nat.le_of_ble_eq_true rfl⟩ ⟨_, rfl, rfl, rfl, h⟩
    · have h := h.2 c2
      refine wp_aload_n d_mo_readsBorrowers_168 rfl 0 rfl ?_
      refine wp_iconst d_mo_readsBorrowers_169 ⟨by decide, by decide⟩ ?_
      refine wp_puti d_mo_readsBorrowers_170 10 s_101 rfl (Nat.le_of_ble_eq_true rfl) (Nat.le_of_ble_eq_true rfl) (Or.inl rfl) rfl lk_mo_122 ?_
      have h := h _ rfl
      refine wp_iload_n d_mo_readsBorrowers_173 rfl 1 rfl ?_
      exact wp_iret d_mo_readsBorrowers_174 rfl ⟨Nat.le_of_ble_eq_true rfl, Nat.le_of_ble_eq_true rfl⟩ ⟨_, rfl, rfl, rfl, h⟩
set_option maxHeartbeats 8000000 in
theorem b_mo_readsBorrowers_91 {G : GT} {M : MT} {P : Int → MT → Prop} (v1 : Int) (v2 : Int) (v4 : Int) (v5 : Int)
    (h : (v5 = (-1) → ∀ M1 : MT, M1 = mu M 101 10 0 → (P v2 M1)) ∧ (¬ v5 = (-1) → (¬ v2 = 24 → (3 ≤ v4 → (¬ v4 = 2 → ∀ M1 : MT, M1 = mu M 101 10 (w32 ((M 101 10) + 0)) → (WpI G J_mo_readsBorrowers 14 [(0, pR 101), (1, pI v1), (2, pI (w32 (v2 + 1)))] [] M1 P)) ∧ (v4 = 2 → ∀ M1 : MT, M1 = mu M 101 10 (w32 ((M 101 10) + 1)) → (WpI G J_mo_readsBorrowers 14 [(0, pR 101), (1, pI v1), (2, pI (w32 (v2 + 1)))] [] M1 P))) ∧ (v4 < 3 → (0 ≤ (w32 ((w32 (3 * (w32 (Int.tdiv v2 4)))) + v4)) ∧ (w32 ((w32 (3 * (w32 (Int.tdiv v2 4)))) + v4)) < 18) ∧ (∀ M1 : MT, M1 = mu M 110 ((w32 ((w32 (3 * (w32 (Int.tdiv v2 4)))) + v4)).toNat) v5 → ((¬ v4 = 2 → ∀ M2 : MT, M2 = mu M1 101 10 (w32 ((M1 101 10) + 0)) → (WpI G J_mo_readsBorrowers 14 [(0, pR 101), (1, pI v1), (2, pI (w32 (v2 + 1)))] [] M2 P)) ∧ (v4 = 2 → ∀ M2 : MT, M2 = mu M1 101 10 (w32 ((M1 101 10) + 1)) → (WpI G J_mo_readsBorrowers 14 [(0, pR 101), (1, pI v1), (2, pI (w32 (v2 + 1)))] [] M2 P)))))) ∧ (v2 = 24 → ∀ M1 : MT, M1 = mu M 101 10 0 → (P v2 M1)))) : WpI G J_mo_readsBorrowers 91 [(0, pR 101), (1, pI v1), (2, pI v2), (4, pI v4), (5, pI v5)] [] M P := by
  show Wp G J_mo_readsBorrowers 0 0 91 [(0, pR 101), (1, pI v1), (2, pI v2), (4, pI v4), (5, pI v5)] [] NN RF M _
  refine wp_iload d_mo_readsBorrowers_91 4 rfl ?_
  refine wp_iconst d_mo_readsBorrowers_93 ⟨by decide, by decide⟩ ?_
  refine wp_icmp_eq 103 d_mo_readsBorrowers_94 (by decide) (fun c1 => ?_) (fun c1 => ?_)
  · have h := h.1 c1
    refine wp_aload_n d_mo_readsBorrowers_103 rfl 0 rfl ?_
    refine wp_iconst d_mo_readsBorrowers_104 ⟨by decide, by decide⟩ ?_
    refine wp_puti d_mo_readsBorrowers_105 10 s_101 rfl (Nat.le_of_ble_eq_true rfl) (Nat.le_of_ble_eq_true rfl) (Or.inl rfl) rfl lk_mo_122 ?_
    have h := h _ rfl
    refine wp_iload_n d_mo_readsBorrowers_108 rfl 2 rfl ?_
    exact wp_iret d_mo_readsBorrowers_109 rfl ⟨Nat.le_of_ble_eq_true rfl, Nat.le_of_ble_eq_true rfl⟩ ⟨_, rfl, rfl, rfl, h⟩
  · have h := h.2 c1
    refine wp_iload_n d_mo_readsBorrowers_97 rfl 2 rfl ?_
    refine wp_bipush d_mo_readsBorrowers_98 ⟨by decide, by decide⟩ (by decide) ?_
    refine wp_icmp_ne 110 d_mo_readsBorrowers_100 (by decide) (fun c2 => ?_) (fun c2 => ?_)
    · have h := h.1 c2
      refine wp_iload d_mo_readsBorrowers_110 3 rfl ?_
      refine wp_iconst d_mo_readsBorrowers_112 ⟨by decide, by decide⟩ ?_
      refine wp_icmp_ge 131 d_mo_readsBorrowers_113 (by decide) (fun c3 => ?_) (fun c3 => ?_)
      · have h := h.1 c3
        refine wp_aload_n d_mo_readsBorrowers_131 rfl 0 rfl ?_
        refine wp_dup d_mo_readsBorrowers_132 rfl ?_
        refine wp_geti d_mo_readsBorrowers_133 10 s_101 rfl (Nat.le_of_ble_eq_true rfl) (Nat.le_of_ble_eq_true rfl) rfl lk_mo_122 ?_
        refine wp_iload d_mo_readsBorrowers_136 3 rfl ?_
        refine wp_iconst d_mo_readsBorrowers_138 ⟨by decide, by decide⟩ ?_
        refine wp_icmp_ne 146 d_mo_readsBorrowers_139 (by decide) (fun c4 => ?_) (fun c4 => ?_)
        · have h := h.1 c4
          refine wp_iconst d_mo_readsBorrowers_146 ⟨by decide, by decide⟩ ?_
          refine wp_iadd d_mo_readsBorrowers_147 ?_
          refine wp_puti d_mo_readsBorrowers_148 10 s_101 rfl (Nat.le_of_ble_eq_true rfl) (Nat.le_of_ble_eq_true rfl) (Or.inl rfl) rfl lk_mo_122 ?_
          have h := h _ rfl
          refine wp_iinc (L2 := [(0, pR 101), (1, pI _), (2, pI _), (4, pI _), (5, pI _)]) d_mo_readsBorrowers_151 2 rfl (Nat.le_of_ble_eq_true rfl) [1, 2, 0, 3, 4] rfl ?_
          refine wp_goto 14 d_mo_readsBorrowers_154 (by decide) ?_
          refine wp_sub (L2 := [(0, pR 101), (1, pI _), (2, pI _)]) [0, 1, 2] rfl ?_
          exact h
        · have h := h.2 c4
          refine wp_iconst d_mo_readsBorrowers_142 ⟨by decide, by decide⟩ ?_
          refine wp_goto 147 d_mo_readsBorrowers_143 (by decide) ?_
          refine wp_iadd d_mo_readsBorrowers_147 ?_
          refine wp_puti d_mo_readsBorrowers_148 10 s_101 rfl (Nat.le_of_ble_eq_true rfl) (Nat.le_of_ble_eq_true rfl) (Or.inl rfl) rfl lk_mo_122 ?_
          have h := h _ rfl
          refine wp_iinc (L2 := [(0, pR 101), (1, pI _), (2, pI _), (4, pI _), (5, pI _)]) d_mo_readsBorrowers_151 2 rfl (Nat.le_of_ble_eq_true rfl) [1, 2, 0, 3, 4] rfl ?_
          refine wp_goto 14 d_mo_readsBorrowers_154 (by decide) ?_
          refine wp_sub (L2 := [(0, pR 101), (1, pI _), (2, pI _)]) [0, 1, 2] rfl ?_
          exact h
      · have h := h.2 c3
        refine wp_aload_n d_mo_readsBorrowers_116 rfl 0 rfl ?_
        refine wp_getr d_mo_readsBorrowers_117 11 s_101 rfl (Nat.le_of_ble_eq_true rfl) (Nat.le_of_ble_eq_true rfl) rfl rfl lk_mo_34 ?_
        refine wp_iconst d_mo_readsBorrowers_120 ⟨by decide, by decide⟩ ?_
        refine wp_iload_n d_mo_readsBorrowers_121 rfl 2 rfl ?_
        refine wp_iconst d_mo_readsBorrowers_122 ⟨by decide, by decide⟩ ?_
        refine wp_idiv d_mo_readsBorrowers_123 (by decide) ?_
        refine wp_imul d_mo_readsBorrowers_124 ?_
        refine wp_iload d_mo_readsBorrowers_125 3 rfl ?_
        refine wp_iadd d_mo_readsBorrowers_127 ?_
        refine wp_iload d_mo_readsBorrowers_128 4 rfl ?_
        obtain ⟨⟨a4, b4⟩, h⟩ := h
        refine wp_iast d_mo_readsBorrowers_130 s_110 (Nat.le_of_ble_eq_true rfl) a4 b4 ?_
        have h := h _ rfl
        refine wp_aload_n d_mo_readsBorrowers_131 rfl 0 rfl ?_
        refine wp_dup d_mo_readsBorrowers_132 rfl ?_
        refine wp_geti d_mo_readsBorrowers_133 10 s_101 rfl (Nat.le_of_ble_eq_true rfl) (Nat.le_of_ble_eq_true rfl) rfl lk_mo_122 ?_
        refine wp_iload d_mo_readsBorrowers_136 3 rfl ?_
        refine wp_iconst d_mo_readsBorrowers_138 ⟨by decide, by decide⟩ ?_
        refine wp_icmp_ne 146 d_mo_readsBorrowers_139 (by decide) (fun c5 => ?_) (fun c5 => ?_)
        · have h := h.1 c5
          refine wp_iconst d_mo_readsBorrowers_146 ⟨by decide, by decide⟩ ?_
          refine wp_iadd d_mo_readsBorrowers_147 ?_
          refine wp_puti d_mo_readsBorrowers_148 10 s_101 rfl (Nat.le_of_ble_eq_true rfl) (Nat.le_of_ble_eq_true rfl) (Or.inl rfl) rfl lk_mo_122 ?_
          have h := h _ rfl
          refine wp_iinc (L2 := [(0, pR 101), (1, pI _), (2, pI _), (4, pI _), (5, pI _)]) d_mo_readsBorrowers_151 2 rfl (Nat.le_of_ble_eq_true rfl) [1, 2, 0, 3, 4] rfl ?_
          refine wp_goto 14 d_mo_readsBorrowers_154 (by decide) ?_
          refine wp_sub (L2 := [(0, pR 101), (1, pI _), (2, pI _)]) [0, 1, 2] rfl ?_
          exact h
        · have h := h.2 c5
          refine wp_iconst d_mo_readsBorrowers_142 ⟨by decide, by decide⟩ ?_
          refine wp_goto 147 d_mo_readsBorrowers_143 (by decide) ?_
          refine wp_iadd d_mo_readsBorrowers_147 ?_
          refine wp_puti d_mo_readsBorrowers_148 10 s_101 rfl (Nat.le_of_ble_eq_true rfl) (Nat.le_of_ble_eq_true rfl) (Or.inl rfl) rfl lk_mo_122 ?_
          have h := h _ rfl
          refine wp_iinc (L2 := [(0, pR 101), (1, pI _), (2, pI _), (4, pI _), (5, pI _)]) d_mo_readsBorrowers_151 2 rfl (Nat.le_of_ble_eq_true rfl) [1, 2, 0, 3, 4] rfl ?_
          refine wp_goto 14 d_mo_readsBorrowers_154 (by decide) ?_
          refine wp_sub (L2 := [(0, pR 101), (1, pI _), (2, pI _)]) [0, 1, 2] rfl ?_
          exact h
    · have h := h.2 c2
      refine wp_aload_n d_mo_readsBorrowers_103 rfl 0 rfl ?_
      refine wp_iconst d_mo_readsBorrowers_104 ⟨by decide, by decide⟩ ?_
      refine wp_puti d_mo_readsBorrowers_105 10 s_101 rfl (Nat.le_of_ble_eq_true rfl) (Nat.le_of_ble_eq_true rfl) (Or.inl rfl) rfl lk_mo_122 ?_
      have h := h _ rfl
      refine wp_iload_n d_mo_readsBorrowers_108 rfl 2 rfl ?_
      exact wp_iret d_mo_readsBorrowers_109 rfl ⟨Nat.le_of_ble_eq_true rfl, Nat.le_of_ble_eq_true rfl⟩ ⟨_, rfl, rfl, rfl, h⟩
set_option maxHeartbeats 8000000 in
theorem e_mo_reads {G : GT} {M : MT} {P : MT → Prop} 
    (h : ClI G J_mo_readsTunes M [pR 101] (fun x1 M1 => (ClI G J_mo_readsBorrowers M1 [pR 101] (fun x2 M2 => (P M2))))) : ClV G J_mo_reads M [pR 101] P := by
  show Wp G J_mo_reads 0 0 0 [(0, pR 101)] [] NN RF M _
  refine wp_aload_n d_mo_reads_0 rfl 0 rfl ?_
  refine wp_callV [] _ d_mo_reads_1 jd_mo_readsTunes lk_mo_128 rfl s_101 rfl (Nat.le_of_ble_eq_true rfl) (Nat.le_of_ble_eq_true rfl) rfl ?_
  refine clI_k h ?_
  intro x1 M1 h
  refine wp_pop d_mo_reads_4 rfl ?_
  refine wp_aload_n d_mo_reads_5 rfl 0 rfl ?_
  refine wp_callV [] _ d_mo_reads_6 jd_mo_readsBorrowers lk_mo_132 rfl s_101 rfl (Nat.le_of_ble_eq_true rfl) (Nat.le_of_ble_eq_true rfl) rfl ?_
  refine clI_k h ?_
  intro x2 M2 h
  refine wp_pop d_mo_reads_9 rfl ?_
  exact wp_vret d_mo_reads_10 rfl ⟨Nat.le_of_ble_eq_true rfl, Nat.le_of_ble_eq_true rfl⟩ ⟨rfl, rfl, rfl, h⟩
set_option maxHeartbeats 8000000 in
theorem e_mo_fault {G : GT} {M : MT} {P : Int → MT → Prop} (v1 : Int)
    (h : ClI G J_mo_isTwo M [pI v1] (fun x1 M1 => ((¬ x1 = 0 → (¬ v1 = 0 → ClI G J_mo_readsBorrowers M1 [pR 101] (fun x4 M2 => (P x4 M2))) ∧ (v1 = 0 → ClI G J_mo_readsTunes M1 [pR 101] (fun x4 M2 => (P x4 M2)))) ∧ (x1 = 0 → P (-2) M1)))) : ClI G J_mo_fault M [pR 101, pI v1] P := by
  show Wp G J_mo_fault 0 0 0 [(0, pR 101), (1, pI v1)] [] NN RF M _
  refine wp_iload_n d_mo_fault_0 rfl 1 rfl ?_
  refine wp_callS [pI _] d_mo_fault_1 jd_mo_isTwo lk_mo_107 rfl (Nat.le_of_ble_eq_true rfl) rfl ?_
  refine clI_k h ?_
  intro x1 M1 h
  refine wp_if_ne 12 d_mo_fault_4 (by decide) (fun c2 => ?_) (fun c2 => ?_)
  · have h := h.1 c2
    refine wp_iload_n d_mo_fault_12 rfl 1 rfl ?_
    refine wp_if_ne 23 d_mo_fault_13 (by decide) (fun c3 => ?_) (fun c3 => ?_)
    · have h := h.1 c3
      refine wp_aload_n d_mo_fault_23 rfl 0 rfl ?_
      refine wp_callV [] _ d_mo_fault_24 jd_mo_readsBorrowers lk_mo_132 rfl s_101 rfl (Nat.le_of_ble_eq_true rfl) (Nat.le_of_ble_eq_true rfl) rfl ?_
      refine clI_k h ?_
      intro x4 M2 h
      exact wp_iret d_mo_fault_27 rfl ⟨Nat.le_of_ble_eq_true rfl, Nat.le_of_ble_eq_true rfl⟩ ⟨_, rfl, rfl, rfl, h⟩
    · have h := h.2 c3
      refine wp_aload_n d_mo_fault_16 rfl 0 rfl ?_
      refine wp_callV [] _ d_mo_fault_17 jd_mo_readsTunes lk_mo_128 rfl s_101 rfl (Nat.le_of_ble_eq_true rfl) (Nat.le_of_ble_eq_true rfl) rfl ?_
      refine clI_k h ?_
      intro x4 M2 h
      refine wp_goto 27 d_mo_fault_20 (by decide) ?_
      exact wp_iret d_mo_fault_27 rfl ⟨Nat.le_of_ble_eq_true rfl, Nat.le_of_ble_eq_true rfl⟩ ⟨_, rfl, rfl, rfl, h⟩
  · have h := h.2 c2
    refine wp_bipush d_mo_fault_7 ⟨by decide, by decide⟩ (by decide) ?_
    refine wp_goto 27 d_mo_fault_9 (by decide) ?_
    exact wp_iret d_mo_fault_27 rfl ⟨Nat.le_of_ble_eq_true rfl, Nat.le_of_ble_eq_true rfl⟩ ⟨_, rfl, rfl, rfl, h⟩
set_option maxHeartbeats 8000000 in
theorem e_mo_isTune {G : GT} {M : MT} {P : Int → MT → Prop} (v1 : Int)
    (h : ClI G J_mo_in M [pL v1, pL 0, pL (w32 ((M 101 7) - 1))] (fun x1 M1 => ((x1 = 0 ∨ x1 = 1) ∧ (P x1 M1)))) : ClI G J_mo_isTune M [pR 101, pI v1] P := by
  show Wp G J_mo_isTune 0 0 0 [(0, pR 101), (1, pI v1)] [] NN RF M _
  refine wp_iload_n d_mo_isTune_0 rfl 1 rfl ?_
  refine wp_i2l d_mo_isTune_1 ?_
  refine wp_lconst (v := 0) d_mo_isTune_2 rfl ?_
  refine wp_aload_n d_mo_isTune_3 rfl 0 rfl ?_
  refine wp_geti d_mo_isTune_4 7 s_101 rfl (Nat.le_of_ble_eq_true rfl) (Nat.le_of_ble_eq_true rfl) rfl lk_mo_112 ?_
  refine wp_iconst d_mo_isTune_7 ⟨by decide, by decide⟩ ?_
  refine wp_isub d_mo_isTune_8 ?_
  refine wp_i2l d_mo_isTune_9 ?_
  refine wp_callS [pL _, pL _, pL _] d_mo_isTune_10 jd_mo_in lk_mo_79 rfl (Nat.le_of_ble_eq_true rfl) rfl ?_
  refine clI_k h ?_
  intro x1 M1 h
  obtain ⟨g2, h⟩ := h
  exact wp_zret d_mo_isTune_13 rfl ⟨Nat.le_of_ble_eq_true rfl, Nat.le_of_ble_eq_true rfl⟩ g2 ⟨_, rfl, rfl, rfl, h⟩
set_option maxHeartbeats 8000000 in
theorem e_mo_isBorrower {G : GT} {M : MT} {P : Int → MT → Prop} (v1 : Int)
    (h : ClI G J_mo_in M [pL v1, pL 0, pL (w32 ((M 101 10) - 1))] (fun x1 M1 => ((x1 = 0 ∨ x1 = 1) ∧ (P x1 M1)))) : ClI G J_mo_isBorrower M [pR 101, pI v1] P := by
  show Wp G J_mo_isBorrower 0 0 0 [(0, pR 101), (1, pI v1)] [] NN RF M _
  refine wp_iload_n d_mo_isBorrower_0 rfl 1 rfl ?_
  refine wp_i2l d_mo_isBorrower_1 ?_
  refine wp_lconst (v := 0) d_mo_isBorrower_2 rfl ?_
  refine wp_aload_n d_mo_isBorrower_3 rfl 0 rfl ?_
  refine wp_geti d_mo_isBorrower_4 10 s_101 rfl (Nat.le_of_ble_eq_true rfl) (Nat.le_of_ble_eq_true rfl) rfl lk_mo_122 ?_
  refine wp_iconst d_mo_isBorrower_7 ⟨by decide, by decide⟩ ?_
  refine wp_isub d_mo_isBorrower_8 ?_
  refine wp_i2l d_mo_isBorrower_9 ?_
  refine wp_callS [pL _, pL _, pL _] d_mo_isBorrower_10 jd_mo_in lk_mo_79 rfl (Nat.le_of_ble_eq_true rfl) rfl ?_
  refine clI_k h ?_
  intro x1 M1 h
  obtain ⟨g2, h⟩ := h
  exact wp_zret d_mo_isBorrower_13 rfl ⟨Nat.le_of_ble_eq_true rfl, Nat.le_of_ble_eq_true rfl⟩ g2 ⟨_, rfl, rfl, rfl, h⟩
set_option maxHeartbeats 8000000 in
theorem e_mo_isYear {G : GT} {M : MT} {P : Int → MT → Prop} (v0 : Int)
    (h : ClI G J_mo_in M [pL v0, pL 0, pL 39] (fun x1 M1 => ((x1 = 0 ∨ x1 = 1) ∧ (P x1 M1)))) : ClI G J_mo_isYear M [pI v0] P := by
  show Wp G J_mo_isYear 0 0 0 [(0, pI v0)] [] NN RF M _
  refine wp_iload_n d_mo_isYear_0 rfl 0 rfl ?_
  refine wp_i2l d_mo_isYear_1 ?_
  refine wp_lconst (v := 0) d_mo_isYear_2 rfl ?_
  refine wp_ldc2 lk_mo_135 d_mo_isYear_3 ⟨by decide, by decide⟩ ?_
  refine wp_callS [pL _, pL _, pL _] d_mo_isYear_6 jd_mo_in lk_mo_79 rfl (Nat.le_of_ble_eq_true rfl) rfl ?_
  refine clI_k h ?_
  intro x1 M1 h
  obtain ⟨g2, h⟩ := h
  exact wp_zret d_mo_isYear_9 rfl ⟨Nat.le_of_ble_eq_true rfl, Nat.le_of_ble_eq_true rfl⟩ g2 ⟨_, rfl, rfl, rfl, h⟩
set_option maxHeartbeats 8000000 in
theorem e_mo_tune {G : GT} {M : MT} {P : Int → MT → Prop} (v1 : Int) (v2 : Int)
    (h : ClV G J_mo_reads M [pR 101] (fun M1 => (ClI G J_mo_isTune M1 [pR 101, pI v1] (fun x1 M2 => ((x1 = 0 → P (-2) M2) ∧ (¬ x1 = 0 → ClI G J_mo_in M2 [pL v2, pL (-1), pL 11] (fun x3 M3 => ((¬ x3 = 0 → (¬ v2 = (-1) → (0 ≤ v1 ∧ v1 < 6) ∧ (((M3 109 (v1.toNat)) ≤ v2 → P (-1) M3) ∧ (v2 < (M3 109 (v1.toNat)) → (0 ≤ (w32 ((w32 (40 * v1)) + v2)) ∧ (w32 ((w32 (40 * v1)) + v2)) < 240) ∧ (P (M3 108 ((w32 ((w32 (40 * v1)) + v2)).toNat)) M3)))) ∧ (v2 = (-1) → (0 ≤ v1 ∧ v1 < 6) ∧ (P (M3 109 (v1.toNat)) M3))) ∧ (x3 = 0 → P (-2) M3))))))))) : ClI G J_mo_tune M [pR 101, pI v1, pI v2] P := by
  show Wp G J_mo_tune 0 0 0 [(0, pR 101), (1, pI v1), (2, pI v2)] [] NN RF M _
  refine wp_aload_n d_mo_tune_0 rfl 0 rfl ?_
  refine wp_callV [] _ d_mo_tune_1 jd_mo_reads lk_mo_137 rfl s_101 rfl (Nat.le_of_ble_eq_true rfl) (Nat.le_of_ble_eq_true rfl) rfl ?_
  refine clV_k h ?_
  intro M1 h
  refine wp_aload_n d_mo_tune_4 rfl 0 rfl ?_
  refine wp_iload_n d_mo_tune_5 rfl 1 rfl ?_
  refine wp_callV [pI _] _ d_mo_tune_6 jd_mo_isTune lk_mo_140 rfl s_101 rfl (Nat.le_of_ble_eq_true rfl) (Nat.le_of_ble_eq_true rfl) rfl ?_
  refine clI_k h ?_
  intro x1 M2 h
  refine wp_if_eq 26 d_mo_tune_9 (by decide) (fun c2 => ?_) (fun c2 => ?_)
  · have h := h.1 c2
    refine wp_bipush d_mo_tune_26 ⟨by decide, by decide⟩ (by decide) ?_
    refine wp_goto 70 d_mo_tune_28 (by decide) ?_
    exact wp_iret d_mo_tune_70 rfl ⟨Nat.le_of_ble_eq_true rfl, Nat.le_of_ble_eq_true rfl⟩ ⟨_, rfl, rfl, rfl, h⟩
  · have h := h.2 c2
    refine wp_iload_n d_mo_tune_12 rfl 2 rfl ?_
    refine wp_i2l d_mo_tune_13 ?_
    refine wp_ldc2 lk_mo_143 d_mo_tune_14 ⟨by decide, by decide⟩ ?_
    refine wp_ldc2 lk_mo_145 d_mo_tune_17 ⟨by decide, by decide⟩ ?_
    refine wp_callS [pL _, pL _, pL _] d_mo_tune_20 jd_mo_in lk_mo_79 rfl (Nat.le_of_ble_eq_true rfl) rfl ?_
    refine clI_k h ?_
    intro x3 M3 h
    refine wp_if_ne 31 d_mo_tune_23 (by decide) (fun c4 => ?_) (fun c4 => ?_)
    · have h := h.1 c4
      refine wp_iload_n d_mo_tune_31 rfl 2 rfl ?_
      refine wp_iconst d_mo_tune_32 ⟨by decide, by decide⟩ ?_
      refine wp_icmp_ne 45 d_mo_tune_33 (by decide) (fun c5 => ?_) (fun c5 => ?_)
      · have h := h.1 c5
        refine wp_iload_n d_mo_tune_45 rfl 2 rfl ?_
        refine wp_aload_n d_mo_tune_46 rfl 0 rfl ?_
        refine wp_getr d_mo_tune_47 9 s_101 rfl (Nat.le_of_ble_eq_true rfl) (Nat.le_of_ble_eq_true rfl) rfl rfl lk_mo_31 ?_
        refine wp_iload_n d_mo_tune_50 rfl 1 rfl ?_
        obtain ⟨⟨a6, b6⟩, h⟩ := h
        refine wp_iald d_mo_tune_51 s_109 (Nat.le_of_ble_eq_true rfl) a6 b6 ?_
        refine wp_icmp_ge 69 d_mo_tune_52 (by decide) (fun c7 => ?_) (fun c7 => ?_)
        · have h := h.1 c7
          refine wp_iconst d_mo_tune_69 ⟨by decide, by decide⟩ ?_
          exact wp_iret d_mo_tune_70 rfl ⟨Nat.le_of_ble_eq_true rfl, Nat.le_of_ble_eq_true rfl⟩ ⟨_, rfl, rfl, rfl, h⟩
        · have h := h.2 c7
          refine wp_aload_n d_mo_tune_55 rfl 0 rfl ?_
          refine wp_getr d_mo_tune_56 8 s_101 rfl (Nat.le_of_ble_eq_true rfl) (Nat.le_of_ble_eq_true rfl) rfl rfl lk_mo_28 ?_
          refine wp_bipush d_mo_tune_59 ⟨by decide, by decide⟩ (by decide) ?_
          refine wp_iload_n d_mo_tune_61 rfl 1 rfl ?_
          refine wp_imul d_mo_tune_62 ?_
          refine wp_iload_n d_mo_tune_63 rfl 2 rfl ?_
          refine wp_iadd d_mo_tune_64 ?_
          obtain ⟨⟨a8, b8⟩, h⟩ := h
          refine wp_iald d_mo_tune_65 s_108 (Nat.le_of_ble_eq_true rfl) a8 b8 ?_
          refine wp_goto 70 d_mo_tune_66 (by decide) ?_
          exact wp_iret d_mo_tune_70 rfl ⟨Nat.le_of_ble_eq_true rfl, Nat.le_of_ble_eq_true rfl⟩ ⟨_, rfl, rfl, rfl, h⟩
      · have h := h.2 c5
        refine wp_aload_n d_mo_tune_36 rfl 0 rfl ?_
        refine wp_getr d_mo_tune_37 9 s_101 rfl (Nat.le_of_ble_eq_true rfl) (Nat.le_of_ble_eq_true rfl) rfl rfl lk_mo_31 ?_
        refine wp_iload_n d_mo_tune_40 rfl 1 rfl ?_
        obtain ⟨⟨a6, b6⟩, h⟩ := h
        refine wp_iald d_mo_tune_41 s_109 (Nat.le_of_ble_eq_true rfl) a6 b6 ?_
        refine wp_goto 70 d_mo_tune_42 (by decide) ?_
        exact wp_iret d_mo_tune_70 rfl ⟨Nat.le_of_ble_eq_true rfl, Nat.le_of_ble_eq_true rfl⟩ ⟨_, rfl, rfl, rfl, h⟩
    · have h := h.2 c4
      refine wp_bipush d_mo_tune_26 ⟨by decide, by decide⟩ (by decide) ?_
      refine wp_goto 70 d_mo_tune_28 (by decide) ?_
      exact wp_iret d_mo_tune_70 rfl ⟨Nat.le_of_ble_eq_true rfl, Nat.le_of_ble_eq_true rfl⟩ ⟨_, rfl, rfl, rfl, h⟩
set_option maxHeartbeats 8000000 in
theorem e_mo_borrower {G : GT} {M : MT} {P : Int → MT → Prop} (v1 : Int) (v2 : Int)
    (h : ClV G J_mo_reads M [pR 101] (fun M1 => (ClI G J_mo_isBorrower M1 [pR 101, pI v1] (fun x1 M2 => ((x1 = 0 → P (-2) M2) ∧ (¬ x1 = 0 → ClI G J_mo_in M2 [pL v2, pL 0, pL 2] (fun x3 M3 => ((x3 = 0 → P (-2) M3) ∧ (¬ x3 = 0 → (0 ≤ (w32 ((w32 (3 * v1)) + v2)) ∧ (w32 ((w32 (3 * v1)) + v2)) < 18) ∧ (P (M3 110 ((w32 ((w32 (3 * v1)) + v2)).toNat)) M3)))))))))) : ClI G J_mo_borrower M [pR 101, pI v1, pI v2] P := by
  show Wp G J_mo_borrower 0 0 0 [(0, pR 101), (1, pI v1), (2, pI v2)] [] NN RF M _
  refine wp_aload_n d_mo_borrower_0 rfl 0 rfl ?_
  refine wp_callV [] _ d_mo_borrower_1 jd_mo_reads lk_mo_137 rfl s_101 rfl (Nat.le_of_ble_eq_true rfl) (Nat.le_of_ble_eq_true rfl) rfl ?_
  refine clV_k h ?_
  intro M1 h
  refine wp_aload_n d_mo_borrower_4 rfl 0 rfl ?_
  refine wp_iload_n d_mo_borrower_5 rfl 1 rfl ?_
  refine wp_callV [pI _] _ d_mo_borrower_6 jd_mo_isBorrower lk_mo_147 rfl s_101 rfl (Nat.le_of_ble_eq_true rfl) (Nat.le_of_ble_eq_true rfl) rfl ?_
  refine clI_k h ?_
  intro x1 M2 h
  refine wp_if_eq 37 d_mo_borrower_9 (by decide) (fun c2 => ?_) (fun c2 => ?_)
  · have h := h.1 c2
    refine wp_bipush d_mo_borrower_37 ⟨by decide, by decide⟩ (by decide) ?_
    exact wp_iret d_mo_borrower_39 rfl ⟨Nat.le_of_ble_eq_true rfl, Nat.le_of_ble_eq_true rfl⟩ ⟨_, rfl, rfl, rfl, h⟩
  · have h := h.2 c2
    refine wp_iload_n d_mo_borrower_12 rfl 2 rfl ?_
    refine wp_i2l d_mo_borrower_13 ?_
    refine wp_lconst (v := 0) d_mo_borrower_14 rfl ?_
    refine wp_ldc2 lk_mo_92 d_mo_borrower_15 ⟨by decide, by decide⟩ ?_
    refine wp_callS [pL _, pL _, pL _] d_mo_borrower_18 jd_mo_in lk_mo_79 rfl (Nat.le_of_ble_eq_true rfl) rfl ?_
    refine clI_k h ?_
    intro x3 M3 h
    refine wp_if_eq 37 d_mo_borrower_21 (by decide) (fun c4 => ?_) (fun c4 => ?_)
    · have h := h.1 c4
      refine wp_bipush d_mo_borrower_37 ⟨by decide, by decide⟩ (by decide) ?_
      exact wp_iret d_mo_borrower_39 rfl ⟨Nat.le_of_ble_eq_true rfl, Nat.le_of_ble_eq_true rfl⟩ ⟨_, rfl, rfl, rfl, h⟩
    · have h := h.2 c4
      refine wp_aload_n d_mo_borrower_24 rfl 0 rfl ?_
      refine wp_getr d_mo_borrower_25 11 s_101 rfl (Nat.le_of_ble_eq_true rfl) (Nat.le_of_ble_eq_true rfl) rfl rfl lk_mo_34 ?_
      refine wp_iconst d_mo_borrower_28 ⟨by decide, by decide⟩ ?_
      refine wp_iload_n d_mo_borrower_29 rfl 1 rfl ?_
      refine wp_imul d_mo_borrower_30 ?_
      refine wp_iload_n d_mo_borrower_31 rfl 2 rfl ?_
      refine wp_iadd d_mo_borrower_32 ?_
      obtain ⟨⟨a5, b5⟩, h⟩ := h
      refine wp_iald d_mo_borrower_33 s_110 (Nat.le_of_ble_eq_true rfl) a5 b5 ?_
      refine wp_goto 39 d_mo_borrower_34 (by decide) ?_
      exact wp_iret d_mo_borrower_39 rfl ⟨Nat.le_of_ble_eq_true rfl, Nat.le_of_ble_eq_true rfl⟩ ⟨_, rfl, rfl, rfl, h⟩
set_option maxHeartbeats 8000000 in
theorem e_mo_loan {G : GT} {M : MT} {P : Int → MT → Prop} (v1 : Int) (v2 : Int) (v3 : Int) (v4 : Int)
    (h : ClI G J_mo_isYear M [pI v1] (fun x1 M1 => ((x1 = 0 → P (-2) M1) ∧ (¬ x1 = 0 → ClI G J_mo_in M1 [pL v2, pL 0, pL 5] (fun x3 M2 => ((x3 = 0 → P (-2) M2) ∧ (¬ x3 = 0 → ClI G J_mo_in M2 [pL v3, pL 0, pL 5] (fun x5 M3 => ((x5 = 0 → P (-2) M3) ∧ (¬ x5 = 0 → ClI G J_mo_in M3 [pL v4, pL 1, pL 9] (fun x7 M4 => ((¬ x7 = 0 → (¬ (M4 101 12) = 12 → (0 ≤ (w32 (4 * (M4 101 12))) ∧ (w32 (4 * (M4 101 12))) < 48) ∧ (∀ M5 : MT, M5 = mu M4 111 ((w32 (4 * (M4 101 12))).toNat) v1 → ((0 ≤ (w32 ((w32 (4 * (M5 101 12))) + 1)) ∧ (w32 ((w32 (4 * (M5 101 12))) + 1)) < 48) ∧ (∀ M6 : MT, M6 = mu M5 111 ((w32 ((w32 (4 * (M5 101 12))) + 1)).toNat) v2 → ((0 ≤ (w32 ((w32 (4 * (M6 101 12))) + 2)) ∧ (w32 ((w32 (4 * (M6 101 12))) + 2)) < 48) ∧ (∀ M7 : MT, M7 = mu M6 111 ((w32 ((w32 (4 * (M6 101 12))) + 2)).toNat) v3 → ((0 ≤ (w32 ((w32 (4 * (M7 101 12))) + 3)) ∧ (w32 ((w32 (4 * (M7 101 12))) + 3)) < 48) ∧ (∀ M8 : MT, M8 = mu M7 111 ((w32 ((w32 (4 * (M7 101 12))) + 3)).toNat) v4 → (∀ M9 : MT, M9 = mu M8 101 12 (w32 ((M8 101 12) + 1)) → (P (M9 101 12) M9)))))))))) ∧ ((M4 101 12) = 12 → P (-4) M4)) ∧ (x7 = 0 → P (-2) M4))))))))))))) : ClI G J_mo_loan M [pR 101, pI v1, pI v2, pI v3, pI v4] P := by
  show Wp G J_mo_loan 0 0 0 [(0, pR 101), (1, pI v1), (2, pI v2), (3, pI v3), (4, pI v4)] [] NN RF M _
  refine wp_iload_n d_mo_loan_0 rfl 1 rfl ?_
  refine wp_callS [pI _] d_mo_loan_1 jd_mo_isYear lk_mo_150 rfl (Nat.le_of_ble_eq_true rfl) rfl ?_
  refine clI_k h ?_
  intro x1 M1 h
  refine wp_if_eq 44 d_mo_loan_4 (by decide) (fun c2 => ?_) (fun c2 => ?_)
  · have h := h.1 c2
    refine wp_bipush d_mo_loan_44 ⟨by decide, by decide⟩ (by decide) ?_
    exact wp_iret d_mo_loan_46 rfl ⟨Nat.le_of_ble_eq_true rfl, Nat.le_of_ble_eq_true rfl⟩ ⟨_, rfl, rfl, rfl, h⟩
  · have h := h.2 c2
    refine wp_iload_n d_mo_loan_7 rfl 2 rfl ?_
    refine wp_i2l d_mo_loan_8 ?_
    refine wp_lconst (v := 0) d_mo_loan_9 rfl ?_
    refine wp_ldc2 lk_mo_153 d_mo_loan_10 ⟨by decide, by decide⟩ ?_
    refine wp_callS [pL _, pL _, pL _] d_mo_loan_13 jd_mo_in lk_mo_79 rfl (Nat.le_of_ble_eq_true rfl) rfl ?_
    refine clI_k h ?_
    intro x3 M2 h
    refine wp_if_eq 44 d_mo_loan_16 (by decide) (fun c4 => ?_) (fun c4 => ?_)
    · have h := h.1 c4
      refine wp_bipush d_mo_loan_44 ⟨by decide, by decide⟩ (by decide) ?_
      exact wp_iret d_mo_loan_46 rfl ⟨Nat.le_of_ble_eq_true rfl, Nat.le_of_ble_eq_true rfl⟩ ⟨_, rfl, rfl, rfl, h⟩
    · have h := h.2 c4
      refine wp_iload_n d_mo_loan_19 rfl 3 rfl ?_
      refine wp_i2l d_mo_loan_20 ?_
      refine wp_lconst (v := 0) d_mo_loan_21 rfl ?_
      refine wp_ldc2 lk_mo_153 d_mo_loan_22 ⟨by decide, by decide⟩ ?_
      refine wp_callS [pL _, pL _, pL _] d_mo_loan_25 jd_mo_in lk_mo_79 rfl (Nat.le_of_ble_eq_true rfl) rfl ?_
      refine clI_k h ?_
      intro x5 M3 h
      refine wp_if_eq 44 d_mo_loan_28 (by decide) (fun c6 => ?_) (fun c6 => ?_)
      · have h := h.1 c6
        refine wp_bipush d_mo_loan_44 ⟨by decide, by decide⟩ (by decide) ?_
        exact wp_iret d_mo_loan_46 rfl ⟨Nat.le_of_ble_eq_true rfl, Nat.le_of_ble_eq_true rfl⟩ ⟨_, rfl, rfl, rfl, h⟩
      · have h := h.2 c6
        refine wp_iload d_mo_loan_31 4 rfl ?_
        refine wp_i2l d_mo_loan_33 ?_
        refine wp_lconst (v := 1) d_mo_loan_34 rfl ?_
        refine wp_ldc2 lk_mo_155 d_mo_loan_35 ⟨by decide, by decide⟩ ?_
        refine wp_callS [pL _, pL _, pL _] d_mo_loan_38 jd_mo_in lk_mo_79 rfl (Nat.le_of_ble_eq_true rfl) rfl ?_
        refine clI_k h ?_
        intro x7 M4 h
        refine wp_if_ne 47 d_mo_loan_41 (by decide) (fun c8 => ?_) (fun c8 => ?_)
        · have h := h.1 c8
          refine wp_aload_n d_mo_loan_47 rfl 0 rfl ?_
          refine wp_geti d_mo_loan_48 12 s_101 rfl (Nat.le_of_ble_eq_true rfl) (Nat.le_of_ble_eq_true rfl) rfl lk_mo_157 ?_
          refine wp_bipush d_mo_loan_51 ⟨by decide, by decide⟩ (by decide) ?_
          refine wp_icmp_ne 59 d_mo_loan_53 (by decide) (fun c9 => ?_) (fun c9 => ?_)
          · have h := h.1 c9
            refine wp_aload_n d_mo_loan_59 rfl 0 rfl ?_
            refine wp_getr d_mo_loan_60 13 s_101 rfl (Nat.le_of_ble_eq_true rfl) (Nat.le_of_ble_eq_true rfl) rfl rfl lk_mo_37 ?_
            refine wp_iconst d_mo_loan_63 ⟨by decide, by decide⟩ ?_
            refine wp_aload_n d_mo_loan_64 rfl 0 rfl ?_
            refine wp_geti d_mo_loan_65 12 s_101 rfl (Nat.le_of_ble_eq_true rfl) (Nat.le_of_ble_eq_true rfl) rfl lk_mo_157 ?_
            refine wp_imul d_mo_loan_68 ?_
            refine wp_iload_n d_mo_loan_69 rfl 1 rfl ?_
            obtain ⟨⟨a10, b10⟩, h⟩ := h
            refine wp_iast d_mo_loan_70 s_111 (Nat.le_of_ble_eq_true rfl) a10 b10 ?_
            have h := h _ rfl
            refine wp_aload_n d_mo_loan_71 rfl 0 rfl ?_
            refine wp_getr d_mo_loan_72 13 s_101 rfl (Nat.le_of_ble_eq_true rfl) (Nat.le_of_ble_eq_true rfl) rfl rfl lk_mo_37 ?_
            refine wp_iconst d_mo_loan_75 ⟨by decide, by decide⟩ ?_
            refine wp_aload_n d_mo_loan_76 rfl 0 rfl ?_
            refine wp_geti d_mo_loan_77 12 s_101 rfl (Nat.le_of_ble_eq_true rfl) (Nat.le_of_ble_eq_true rfl) rfl lk_mo_157 ?_
            refine wp_imul d_mo_loan_80 ?_
            refine wp_iconst d_mo_loan_81 ⟨by decide, by decide⟩ ?_
            refine wp_iadd d_mo_loan_82 ?_
            refine wp_iload_n d_mo_loan_83 rfl 2 rfl ?_
            obtain ⟨⟨a11, b11⟩, h⟩ := h
            refine wp_iast d_mo_loan_84 s_111 (Nat.le_of_ble_eq_true rfl) a11 b11 ?_
            have h := h _ rfl
            refine wp_aload_n d_mo_loan_85 rfl 0 rfl ?_
            refine wp_getr d_mo_loan_86 13 s_101 rfl (Nat.le_of_ble_eq_true rfl) (Nat.le_of_ble_eq_true rfl) rfl rfl lk_mo_37 ?_
            refine wp_iconst d_mo_loan_89 ⟨by decide, by decide⟩ ?_
            refine wp_aload_n d_mo_loan_90 rfl 0 rfl ?_
            refine wp_geti d_mo_loan_91 12 s_101 rfl (Nat.le_of_ble_eq_true rfl) (Nat.le_of_ble_eq_true rfl) rfl lk_mo_157 ?_
            refine wp_imul d_mo_loan_94 ?_
            refine wp_iconst d_mo_loan_95 ⟨by decide, by decide⟩ ?_
            refine wp_iadd d_mo_loan_96 ?_
            refine wp_iload_n d_mo_loan_97 rfl 3 rfl ?_
            obtain ⟨⟨a12, b12⟩, h⟩ := h
            refine wp_iast d_mo_loan_98 s_111 (Nat.le_of_ble_eq_true rfl) a12 b12 ?_
            have h := h _ rfl
            refine wp_aload_n d_mo_loan_99 rfl 0 rfl ?_
            refine wp_getr d_mo_loan_100 13 s_101 rfl (Nat.le_of_ble_eq_true rfl) (Nat.le_of_ble_eq_true rfl) rfl rfl lk_mo_37 ?_
            refine wp_iconst d_mo_loan_103 ⟨by decide, by decide⟩ ?_
            refine wp_aload_n d_mo_loan_104 rfl 0 rfl ?_
            refine wp_geti d_mo_loan_105 12 s_101 rfl (Nat.le_of_ble_eq_true rfl) (Nat.le_of_ble_eq_true rfl) rfl lk_mo_157 ?_
            refine wp_imul d_mo_loan_108 ?_
            refine wp_iconst d_mo_loan_109 ⟨by decide, by decide⟩ ?_
            refine wp_iadd d_mo_loan_110 ?_
            refine wp_iload d_mo_loan_111 4 rfl ?_
            obtain ⟨⟨a13, b13⟩, h⟩ := h
            refine wp_iast d_mo_loan_113 s_111 (Nat.le_of_ble_eq_true rfl) a13 b13 ?_
            have h := h _ rfl
            refine wp_aload_n d_mo_loan_114 rfl 0 rfl ?_
            refine wp_dup d_mo_loan_115 rfl ?_
            refine wp_geti d_mo_loan_116 12 s_101 rfl (Nat.le_of_ble_eq_true rfl) (Nat.le_of_ble_eq_true rfl) rfl lk_mo_157 ?_
            refine wp_iconst d_mo_loan_119 ⟨by decide, by decide⟩ ?_
            refine wp_iadd d_mo_loan_120 ?_
            refine wp_puti d_mo_loan_121 12 s_101 rfl (Nat.le_of_ble_eq_true rfl) (Nat.le_of_ble_eq_true rfl) (Or.inl rfl) rfl lk_mo_157 ?_
            have h := h _ rfl
            refine wp_aload_n d_mo_loan_124 rfl 0 rfl ?_
            refine wp_geti d_mo_loan_125 12 s_101 rfl (Nat.le_of_ble_eq_true rfl) (Nat.le_of_ble_eq_true rfl) rfl lk_mo_157 ?_
            exact wp_iret d_mo_loan_128 rfl ⟨Nat.le_of_ble_eq_true rfl, Nat.le_of_ble_eq_true rfl⟩ ⟨_, rfl, rfl, rfl, h⟩
          · have h := h.2 c9
            refine wp_bipush d_mo_loan_56 ⟨by decide, by decide⟩ (by decide) ?_
            exact wp_iret d_mo_loan_58 rfl ⟨Nat.le_of_ble_eq_true rfl, Nat.le_of_ble_eq_true rfl⟩ ⟨_, rfl, rfl, rfl, h⟩
        · have h := h.2 c8
          refine wp_bipush d_mo_loan_44 ⟨by decide, by decide⟩ (by decide) ?_
          exact wp_iret d_mo_loan_46 rfl ⟨Nat.le_of_ble_eq_true rfl, Nat.le_of_ble_eq_true rfl⟩ ⟨_, rfl, rfl, rfl, h⟩
set_option maxHeartbeats 8000000 in
theorem e_mo_back {G : GT} {M : MT} {P : Int → MT → Prop} 
    (h : (¬ (M 101 12) = 0 → ∀ M1 : MT, M1 = mu M 101 12 (w32 ((M 101 12) - 1)) → (P (M1 101 12) M1)) ∧ ((M 101 12) = 0 → P (-3) M)) : ClI G J_mo_back M [pR 101] P := by
  show Wp G J_mo_back 0 0 0 [(0, pR 101)] [] NN RF M _
  refine wp_aload_n d_mo_back_0 rfl 0 rfl ?_
  refine wp_geti d_mo_back_1 12 s_101 rfl (Nat.le_of_ble_eq_true rfl) (Nat.le_of_ble_eq_true rfl) rfl lk_mo_157 ?_
  refine wp_if_ne 10 d_mo_back_4 (by decide) (fun c1 => ?_) (fun c1 => ?_)
  · have h := h.1 c1
    refine wp_aload_n d_mo_back_10 rfl 0 rfl ?_
    refine wp_dup d_mo_back_11 rfl ?_
    refine wp_geti d_mo_back_12 12 s_101 rfl (Nat.le_of_ble_eq_true rfl) (Nat.le_of_ble_eq_true rfl) rfl lk_mo_157 ?_
    refine wp_iconst d_mo_back_15 ⟨by decide, by decide⟩ ?_
    refine wp_isub d_mo_back_16 ?_
    refine wp_puti d_mo_back_17 12 s_101 rfl (Nat.le_of_ble_eq_true rfl) (Nat.le_of_ble_eq_true rfl) (Or.inl rfl) rfl lk_mo_157 ?_
    have h := h _ rfl
    refine wp_aload_n d_mo_back_20 rfl 0 rfl ?_
    refine wp_geti d_mo_back_21 12 s_101 rfl (Nat.le_of_ble_eq_true rfl) (Nat.le_of_ble_eq_true rfl) rfl lk_mo_157 ?_
    exact wp_iret d_mo_back_24 rfl ⟨Nat.le_of_ble_eq_true rfl, Nat.le_of_ble_eq_true rfl⟩ ⟨_, rfl, rfl, rfl, h⟩
  · have h := h.2 c1
    refine wp_bipush d_mo_back_7 ⟨by decide, by decide⟩ (by decide) ?_
    exact wp_iret d_mo_back_9 rfl ⟨Nat.le_of_ble_eq_true rfl, Nat.le_of_ble_eq_true rfl⟩ ⟨_, rfl, rfl, rfl, h⟩
