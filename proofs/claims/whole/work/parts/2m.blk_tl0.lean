set_option maxHeartbeats 8000000 in
theorem e_tl_type {G : GT} {M : MT} {P : Int → MT → Prop} (v1 : Int) (v2 : Int)
    (h : ClI G J_tl_isText M [pI v1] (fun x1 M1 => ((x1 = 0 → P (-2) M1) ∧ (¬ x1 = 0 → ClI G J_tl_within M1 [pI v2, pI 0, pI 255] (fun x3 M2 => ((¬ x3 = 0 → (v1 = 0 ∨ v1 = 1) ∧ ((v1 = 0 → ((M2 6 1) < 59 → (0 ≤ (M2 6 1) ∧ (M2 6 1) < 59) ∧ (∀ M3 : MT, M3 = mu M2 7 ((M2 6 1).toNat) v2 → (ClI G J_tl_resized M3 [pR 0, pI v1, pI (w32 ((M3 6 1) + 1))] (fun x8 M4 => (P x8 M4))))) ∧ (59 ≤ (M2 6 1) → P (-4) M2)) ∧ (v1 = 1 → ((M2 8 1) < 23 → (0 ≤ (M2 8 1) ∧ (M2 8 1) < 23) ∧ (∀ M3 : MT, M3 = mu M2 9 ((M2 8 1).toNat) v2 → (ClI G J_tl_resized M3 [pR 0, pI v1, pI (w32 ((M3 8 1) + 1))] (fun x8 M4 => (P x8 M4))))) ∧ (23 ≤ (M2 8 1) → P (-4) M2)))) ∧ (x3 = 0 → P (-2) M2))))))) : ClI G J_tl_type M [pR 0, pI v1, pI v2] P := by
  show Wp G J_tl_type 0 0 0 [(0, pR 0), (1, pI v1), (2, pI v2)] [] NN RF M _
  refine wp_iload_n d_tl_type_0 rfl 1 rfl ?_
  refine wp_callS [pI _] d_tl_type_1 jd_tl_isText lk_tl_55 rfl (Nat.le_of_ble_eq_true rfl) rfl ?_
  refine clI_k h ?_
  intro x1 M1 h
  refine wp_if_eq 18 d_tl_type_4 (by decide) (fun c2 => ?_) (fun c2 => ?_)
  · have h := h.1 c2
    refine wp_bipush d_tl_type_18 ⟨by decide, by decide⟩ (by decide) ?_
    exact wp_iret d_tl_type_20 rfl ⟨Nat.le_of_ble_eq_true rfl, Nat.le_of_ble_eq_true rfl⟩ ⟨_, rfl, rfl, rfl, h⟩
  · have h := h.2 c2
    refine wp_iload_n d_tl_type_7 rfl 2 rfl ?_
    refine wp_iconst d_tl_type_8 ⟨by decide, by decide⟩ ?_
    refine wp_sipush d_tl_type_9 ⟨by decide, by decide⟩ (by decide) ?_
    refine wp_callS [pI _, pI _, pI _] d_tl_type_12 jd_tl_within lk_tl_59 rfl (Nat.le_of_ble_eq_true rfl) rfl ?_
    refine clI_k h ?_
    intro x3 M2 h
    refine wp_if_ne 21 d_tl_type_15 (by decide) (fun c4 => ?_) (fun c4 => ?_)
    · have h := h.1 c4
      refine wp_aload_n d_tl_type_21 rfl 0 rfl ?_
      refine wp_getr d_tl_type_22 0 s_0 rfl (Nat.le_of_ble_eq_true rfl) (Nat.le_of_ble_eq_true rfl) rfl rfl lk_tl_10 ?_
      refine wp_getr d_tl_type_25 0 s_1 rfl (Nat.le_of_ble_eq_true rfl) (Nat.le_of_ble_eq_true rfl) rfl rfl lk_tl_63 ?_
      refine wp_iload_n d_tl_type_28 rfl 1 rfl ?_
      obtain ⟨c5, h⟩ := h
      rcases c5 with c5 | c5
      · have h := h.1 c5
        refine wp_aald (t := 0) d_tl_type_29 s_2 rfl (Nat.le_of_ble_eq_true rfl) (by omega) (by omega) (r := 6) (by rw [c5]; rfl) ?_
        refine wp_astore_n (L2 := [(0, pR 0), (1, pI _), (2, pI _), (3, pR 6)]) d_tl_type_30 rfl (Nat.le_of_ble_eq_true rfl) [1, 2, 3, 0] rfl ?_
        refine wp_aload_n d_tl_type_31 rfl 3 rfl ?_
        refine wp_geti d_tl_type_32 1 s_6 rfl (Nat.le_of_ble_eq_true rfl) (Nat.le_of_ble_eq_true rfl) rfl lk_tl_67 ?_
        refine wp_aload_n d_tl_type_35 rfl 3 rfl ?_
        refine wp_getr d_tl_type_36 0 s_6 rfl (Nat.le_of_ble_eq_true rfl) (Nat.le_of_ble_eq_true rfl) rfl rfl lk_tl_72 ?_
        refine wp_alen d_tl_type_39 s_7 (Nat.le_of_ble_eq_true rfl) ⟨by decide, by decide⟩ ?_
        refine wp_icmp_lt 46 d_tl_type_40 (by decide) (fun c6 => ?_) (fun c6 => ?_)
        · have h := h.1 c6
          refine wp_aload_n d_tl_type_46 rfl 3 rfl ?_
          refine wp_getr d_tl_type_47 0 s_6 rfl (Nat.le_of_ble_eq_true rfl) (Nat.le_of_ble_eq_true rfl) rfl rfl lk_tl_72 ?_
          refine wp_aload_n d_tl_type_50 rfl 3 rfl ?_
          refine wp_geti d_tl_type_51 1 s_6 rfl (Nat.le_of_ble_eq_true rfl) (Nat.le_of_ble_eq_true rfl) rfl lk_tl_67 ?_
          refine wp_iload_n d_tl_type_54 rfl 2 rfl ?_
          obtain ⟨⟨a7, b7⟩, h⟩ := h
          refine wp_iast d_tl_type_55 s_7 (Nat.le_of_ble_eq_true rfl) a7 b7 ?_
          have h := h _ rfl
          refine wp_aload_n d_tl_type_56 rfl 0 rfl ?_
          refine wp_iload_n d_tl_type_57 rfl 1 rfl ?_
          refine wp_aload_n d_tl_type_58 rfl 3 rfl ?_
          refine wp_geti d_tl_type_59 1 s_6 rfl (Nat.le_of_ble_eq_true rfl) (Nat.le_of_ble_eq_true rfl) rfl lk_tl_67 ?_
          refine wp_iconst d_tl_type_62 ⟨by decide, by decide⟩ ?_
          refine wp_iadd d_tl_type_63 ?_
          refine wp_callV [pI _, pI _] _ d_tl_type_64 jd_tl_resized lk_tl_76 rfl s_0 rfl (Nat.le_of_ble_eq_true rfl) (Nat.le_of_ble_eq_true rfl) rfl ?_
          refine clI_k h ?_
          intro x8 M4 h
          exact wp_iret d_tl_type_67 rfl ⟨Nat.le_of_ble_eq_true rfl, Nat.le_of_ble_eq_true rfl⟩ ⟨_, rfl, rfl, rfl, h⟩
        · have h := h.2 c6
          refine wp_bipush d_tl_type_43 ⟨by decide, by decide⟩ (by decide) ?_
          exact wp_iret d_tl_type_45 rfl ⟨Nat.le_of_ble_eq_true rfl, Nat.le_of_ble_eq_true rfl⟩ ⟨_, rfl, rfl, rfl, h⟩
      · have h := h.2 c5
        refine wp_aald (t := 0) d_tl_type_29 s_2 rfl (Nat.le_of_ble_eq_true rfl) (by omega) (by omega) (r := 8) (by rw [c5]; rfl) ?_
        refine wp_astore_n (L2 := [(0, pR 0), (1, pI _), (2, pI _), (3, pR 8)]) d_tl_type_30 rfl (Nat.le_of_ble_eq_true rfl) [1, 2, 3, 0] rfl ?_
        refine wp_aload_n d_tl_type_31 rfl 3 rfl ?_
        refine wp_geti d_tl_type_32 1 s_8 rfl (Nat.le_of_ble_eq_true rfl) (Nat.le_of_ble_eq_true rfl) rfl lk_tl_67 ?_
        refine wp_aload_n d_tl_type_35 rfl 3 rfl ?_
        refine wp_getr d_tl_type_36 0 s_8 rfl (Nat.le_of_ble_eq_true rfl) (Nat.le_of_ble_eq_true rfl) rfl rfl lk_tl_72 ?_
        refine wp_alen d_tl_type_39 s_9 (Nat.le_of_ble_eq_true rfl) ⟨by decide, by decide⟩ ?_
        refine wp_icmp_lt 46 d_tl_type_40 (by decide) (fun c6 => ?_) (fun c6 => ?_)
        · have h := h.1 c6
          refine wp_aload_n d_tl_type_46 rfl 3 rfl ?_
          refine wp_getr d_tl_type_47 0 s_8 rfl (Nat.le_of_ble_eq_true rfl) (Nat.le_of_ble_eq_true rfl) rfl rfl lk_tl_72 ?_
          refine wp_aload_n d_tl_type_50 rfl 3 rfl ?_
          refine wp_geti d_tl_type_51 1 s_8 rfl (Nat.le_of_ble_eq_true rfl) (Nat.le_of_ble_eq_true rfl) rfl lk_tl_67 ?_
          refine wp_iload_n d_tl_type_54 rfl 2 rfl ?_
          obtain ⟨⟨a7, b7⟩, h⟩ := h
          refine wp_iast d_tl_type_55 s_9 (Nat.le_of_ble_eq_true rfl) a7 b7 ?_
          have h := h _ rfl
          refine wp_aload_n d_tl_type_56 rfl 0 rfl ?_
          refine wp_iload_n d_tl_type_57 rfl 1 rfl ?_
          refine wp_aload_n d_tl_type_58 rfl 3 rfl ?_
          refine wp_geti d_tl_type_59 1 s_8 rfl (Nat.le_of_ble_eq_true rfl) (Nat.le_of_ble_eq_true rfl) rfl lk_tl_67 ?_
          refine wp_iconst d_tl_type_62 ⟨by decide, by decide⟩ ?_
          refine wp_iadd d_tl_type_63 ?_
          refine wp_callV [pI _, pI _] _ d_tl_type_64 jd_tl_resized lk_tl_76 rfl s_0 rfl (Nat.le_of_ble_eq_true rfl) (Nat.le_of_ble_eq_true rfl) rfl ?_
          refine clI_k h ?_
          intro x8 M4 h
          exact wp_iret d_tl_type_67 rfl ⟨Nat.le_of_ble_eq_true rfl, Nat.le_of_ble_eq_true rfl⟩ ⟨_, rfl, rfl, rfl, h⟩
        · have h := h.2 c6
          refine wp_bipush d_tl_type_43 ⟨by decide, by decide⟩ (by decide) ?_
          exact wp_iret d_tl_type_45 rfl ⟨Nat.le_of_ble_eq_true rfl, Nat.le_of_ble_eq_true rfl⟩ ⟨_, rfl, rfl, rfl, h⟩
    · have h := h.2 c4
      refine wp_bipush d_tl_type_18 ⟨by decide, by decide⟩ (by decide) ?_
      exact wp_iret d_tl_type_20 rfl ⟨Nat.le_of_ble_eq_true rfl, Nat.le_of_ble_eq_true rfl⟩ ⟨_, rfl, rfl, rfl, h⟩
set_option maxHeartbeats 8000000 in
theorem e_tl_wipe {G : GT} {M : MT} {P : Int → MT → Prop} (v1 : Int)
    (h : ClI G J_tl_isText M [pI v1] (fun x1 M1 => ((¬ x1 = 0 → (v1 = 0 ∨ v1 = 1) ∧ ((v1 = 0 → ClI G J_tl_resized M1 [pR 0, pI v1, pI 0] (fun x4 M2 => (P (M1 6 1) M2))) ∧ (v1 = 1 → ClI G J_tl_resized M1 [pR 0, pI v1, pI 0] (fun x4 M2 => (P (M1 8 1) M2))))) ∧ (x1 = 0 → P (-2) M1)))) : ClI G J_tl_wipe M [pR 0, pI v1] P := by
  show Wp G J_tl_wipe 0 0 0 [(0, pR 0), (1, pI v1)] [] NN RF M _
  refine wp_iload_n d_tl_wipe_0 rfl 1 rfl ?_
  refine wp_callS [pI _] d_tl_wipe_1 jd_tl_isText lk_tl_55 rfl (Nat.le_of_ble_eq_true rfl) rfl ?_
  refine clI_k h ?_
  intro x1 M1 h
  refine wp_if_ne 10 d_tl_wipe_4 (by decide) (fun c2 => ?_) (fun c2 => ?_)
  · have h := h.1 c2
    refine wp_aload_n d_tl_wipe_10 rfl 0 rfl ?_
    refine wp_getr d_tl_wipe_11 0 s_0 rfl (Nat.le_of_ble_eq_true rfl) (Nat.le_of_ble_eq_true rfl) rfl rfl lk_tl_10 ?_
    refine wp_getr d_tl_wipe_14 0 s_1 rfl (Nat.le_of_ble_eq_true rfl) (Nat.le_of_ble_eq_true rfl) rfl rfl lk_tl_63 ?_
    refine wp_iload_n d_tl_wipe_17 rfl 1 rfl ?_
    obtain ⟨c3, h⟩ := h
    rcases c3 with c3 | c3
    · have h := h.1 c3
      refine wp_aald (t := 0) d_tl_wipe_18 s_2 rfl (Nat.le_of_ble_eq_true rfl) (by omega) (by omega) (r := 6) (by rw [c3]; rfl) ?_
      refine wp_geti d_tl_wipe_19 1 s_6 rfl (Nat.le_of_ble_eq_true rfl) (Nat.le_of_ble_eq_true rfl) rfl lk_tl_67 ?_
      refine wp_istore_n (L2 := [(0, pR 0), (1, pI _), (2, pI _)]) d_tl_wipe_22 rfl (Nat.le_of_ble_eq_true rfl) [1, 2, 0] rfl ?_
      refine wp_aload_n d_tl_wipe_23 rfl 0 rfl ?_
      refine wp_iload_n d_tl_wipe_24 rfl 1 rfl ?_
      refine wp_iconst d_tl_wipe_25 ⟨by decide, by decide⟩ ?_
      refine wp_callV [pI _, pI _] _ d_tl_wipe_26 jd_tl_resized lk_tl_76 rfl s_0 rfl (Nat.le_of_ble_eq_true rfl) (Nat.le_of_ble_eq_true rfl) rfl ?_
      refine clI_k h ?_
      intro x4 M2 h
      refine wp_pop d_tl_wipe_29 rfl ?_
      refine wp_iload_n d_tl_wipe_30 rfl 2 rfl ?_
      exact wp_iret d_tl_wipe_31 rfl ⟨Nat.le_of_ble_eq_true rfl, Nat.le_of_ble_eq_true rfl⟩ ⟨_, rfl, rfl, rfl, h⟩
    · have h := h.2 c3
      refine wp_aald (t := 0) d_tl_wipe_18 s_2 rfl (Nat.le_of_ble_eq_true rfl) (by omega) (by omega) (r := 8) (by rw [c3]; rfl) ?_
      refine wp_geti d_tl_wipe_19 1 s_8 rfl (Nat.le_of_ble_eq_true rfl) (Nat.le_of_ble_eq_true rfl) rfl lk_tl_67 ?_
      refine wp_istore_n (L2 := [(0, pR 0), (1, pI _), (2, pI _)]) d_tl_wipe_22 rfl (Nat.le_of_ble_eq_true rfl) [1, 2, 0] rfl ?_
      refine wp_aload_n d_tl_wipe_23 rfl 0 rfl ?_
      refine wp_iload_n d_tl_wipe_24 rfl 1 rfl ?_
      refine wp_iconst d_tl_wipe_25 ⟨by decide, by decide⟩ ?_
      refine wp_callV [pI _, pI _] _ d_tl_wipe_26 jd_tl_resized lk_tl_76 rfl s_0 rfl (Nat.le_of_ble_eq_true rfl) (Nat.le_of_ble_eq_true rfl) rfl ?_
      refine clI_k h ?_
      intro x4 M2 h
      refine wp_pop d_tl_wipe_29 rfl ?_
      refine wp_iload_n d_tl_wipe_30 rfl 2 rfl ?_
      exact wp_iret d_tl_wipe_31 rfl ⟨Nat.le_of_ble_eq_true rfl, Nat.le_of_ble_eq_true rfl⟩ ⟨_, rfl, rfl, rfl, h⟩
  · have h := h.2 c2
    refine wp_bipush d_tl_wipe_7 ⟨by decide, by decide⟩ (by decide) ?_
    exact wp_iret d_tl_wipe_9 rfl ⟨Nat.le_of_ble_eq_true rfl, Nat.le_of_ble_eq_true rfl⟩ ⟨_, rfl, rfl, rfl, h⟩
set_option maxHeartbeats 8000000 in
theorem e_tl_undo {G : GT} {M : MT} {P : Int → MT → Prop} (v1 : Int)
    (h : ClI G J_tl_isText M [pI v1] (fun x1 M1 => ((¬ x1 = 0 → (v1 = 0 ∨ v1 = 1) ∧ ((v1 = 0 → (¬ (M1 6 1) = 0 → ClI G J_tl_resized M1 [pR 0, pI v1, pI (w32 ((M1 6 1) - 1))] (fun x5 M2 => (P x5 M2))) ∧ ((M1 6 1) = 0 → P (-3) M1)) ∧ (v1 = 1 → (¬ (M1 8 1) = 0 → ClI G J_tl_resized M1 [pR 0, pI v1, pI (w32 ((M1 8 1) - 1))] (fun x5 M2 => (P x5 M2))) ∧ ((M1 8 1) = 0 → P (-3) M1)))) ∧ (x1 = 0 → P (-2) M1)))) : ClI G J_tl_undo M [pR 0, pI v1] P := by
  show Wp G J_tl_undo 0 0 0 [(0, pR 0), (1, pI v1)] [] NN RF M _
  refine wp_iload_n d_tl_undo_0 rfl 1 rfl ?_
  refine wp_callS [pI _] d_tl_undo_1 jd_tl_isText lk_tl_55 rfl (Nat.le_of_ble_eq_true rfl) rfl ?_
  refine clI_k h ?_
  intro x1 M1 h
  refine wp_if_ne 10 d_tl_undo_4 (by decide) (fun c2 => ?_) (fun c2 => ?_)
  · have h := h.1 c2
    refine wp_aload_n d_tl_undo_10 rfl 0 rfl ?_
    refine wp_getr d_tl_undo_11 0 s_0 rfl (Nat.le_of_ble_eq_true rfl) (Nat.le_of_ble_eq_true rfl) rfl rfl lk_tl_10 ?_
    refine wp_getr d_tl_undo_14 0 s_1 rfl (Nat.le_of_ble_eq_true rfl) (Nat.le_of_ble_eq_true rfl) rfl rfl lk_tl_63 ?_
    refine wp_iload_n d_tl_undo_17 rfl 1 rfl ?_
    obtain ⟨c3, h⟩ := h
    rcases c3 with c3 | c3
    · have h := h.1 c3
      refine wp_aald (t := 0) d_tl_undo_18 s_2 rfl (Nat.le_of_ble_eq_true rfl) (by omega) (by omega) (r := 6) (by rw [c3]; rfl) ?_
      refine wp_geti d_tl_undo_19 1 s_6 rfl (Nat.le_of_ble_eq_true rfl) (Nat.le_of_ble_eq_true rfl) rfl lk_tl_67 ?_
      refine wp_istore_n (L2 := [(0, pR 0), (1, pI _), (2, pI _)]) d_tl_undo_22 rfl (Nat.le_of_ble_eq_true rfl) [1, 2, 0] rfl ?_
      refine wp_iload_n d_tl_undo_23 rfl 2 rfl ?_
      refine wp_if_ne 32 d_tl_undo_24 (by decide) (fun c4 => ?_) (fun c4 => ?_)
      · have h := h.1 c4
        refine wp_aload_n d_tl_undo_32 rfl 0 rfl ?_
        refine wp_iload_n d_tl_undo_33 rfl 1 rfl ?_
        refine wp_iload_n d_tl_undo_34 rfl 2 rfl ?_
        refine wp_iconst d_tl_undo_35 ⟨by decide, by decide⟩ ?_
        refine wp_isub d_tl_undo_36 ?_
        refine wp_callV [pI _, pI _] _ d_tl_undo_37 jd_tl_resized lk_tl_76 rfl s_0 rfl (Nat.le_of_ble_eq_true rfl) (Nat.le_of_ble_eq_true rfl) rfl ?_
        refine clI_k h ?_
        intro x5 M2 h
        exact wp_iret d_tl_undo_40 rfl ⟨Nat.le_of_ble_eq_true rfl, Nat.le_of_ble_eq_true rfl⟩ ⟨_, rfl, rfl, rfl, h⟩
      · have h := h.2 c4
        refine wp_bipush d_tl_undo_27 ⟨by decide, by decide⟩ (by decide) ?_
        refine wp_goto 40 d_tl_undo_29 (by decide) ?_
        exact wp_iret d_tl_undo_40 rfl ⟨Nat.le_of_ble_eq_true rfl, Nat.le_of_ble_eq_true rfl⟩ ⟨_, rfl, rfl, rfl, h⟩
    · have h := h.2 c3
      refine wp_aald (t := 0) d_tl_undo_18 s_2 rfl (Nat.le_of_ble_eq_true rfl) (by omega) (by omega) (r := 8) (by rw [c3]; rfl) ?_
      refine wp_geti d_tl_undo_19 1 s_8 rfl (Nat.le_of_ble_eq_true rfl) (Nat.le_of_ble_eq_true rfl) rfl lk_tl_67 ?_
      refine wp_istore_n (L2 := [(0, pR 0), (1, pI _), (2, pI _)]) d_tl_undo_22 rfl (Nat.le_of_ble_eq_true rfl) [1, 2, 0] rfl ?_
      refine wp_iload_n d_tl_undo_23 rfl 2 rfl ?_
      refine wp_if_ne 32 d_tl_undo_24 (by decide) (fun c4 => ?_) (fun c4 => ?_)
      · have h := h.1 c4
        refine wp_aload_n d_tl_undo_32 rfl 0 rfl ?_
        refine wp_iload_n d_tl_undo_33 rfl 1 rfl ?_
        refine wp_iload_n d_tl_undo_34 rfl 2 rfl ?_
        refine wp_iconst d_tl_undo_35 ⟨by decide, by decide⟩ ?_
        refine wp_isub d_tl_undo_36 ?_
        refine wp_callV [pI _, pI _] _ d_tl_undo_37 jd_tl_resized lk_tl_76 rfl s_0 rfl (Nat.le_of_ble_eq_true rfl) (Nat.le_of_ble_eq_true rfl) rfl ?_
        refine clI_k h ?_
        intro x5 M2 h
        exact wp_iret d_tl_undo_40 rfl ⟨Nat.le_of_ble_eq_true rfl, Nat.le_of_ble_eq_true rfl⟩ ⟨_, rfl, rfl, rfl, h⟩
      · have h := h.2 c4
        refine wp_bipush d_tl_undo_27 ⟨by decide, by decide⟩ (by decide) ?_
        refine wp_goto 40 d_tl_undo_29 (by decide) ?_
        exact wp_iret d_tl_undo_40 rfl ⟨Nat.le_of_ble_eq_true rfl, Nat.le_of_ble_eq_true rfl⟩ ⟨_, rfl, rfl, rfl, h⟩
  · have h := h.2 c2
    refine wp_bipush d_tl_undo_7 ⟨by decide, by decide⟩ (by decide) ?_
    exact wp_iret d_tl_undo_9 rfl ⟨Nat.le_of_ble_eq_true rfl, Nat.le_of_ble_eq_true rfl⟩ ⟨_, rfl, rfl, rfl, h⟩
set_option maxHeartbeats 8000000 in
theorem e_tl_fault {G : GT} {M : MT} {P : Int → MT → Prop} (v1 : Int)
    (h : ClI G J_tl_isText M [pI v1] (fun x1 M1 => ((x1 = 0 → P (-2) M1) ∧ (¬ x1 = 0 → (v1 = 0 ∨ v1 = 1) ∧ ((v1 = 0 → P (M1 6 2) M1) ∧ (v1 = 1 → P (M1 8 2) M1)))))) : ClI G J_tl_fault M [pR 0, pI v1] P := by
  show Wp G J_tl_fault 0 0 0 [(0, pR 0), (1, pI v1)] [] NN RF M _
  refine wp_iload_n d_tl_fault_0 rfl 1 rfl ?_
  refine wp_callS [pI _] d_tl_fault_1 jd_tl_isText lk_tl_55 rfl (Nat.le_of_ble_eq_true rfl) rfl ?_
  refine clI_k h ?_
  intro x1 M1 h
  refine wp_if_eq 22 d_tl_fault_4 (by decide) (fun c2 => ?_) (fun c2 => ?_)
  · have h := h.1 c2
    refine wp_bipush d_tl_fault_22 ⟨by decide, by decide⟩ (by decide) ?_
    exact wp_iret d_tl_fault_24 rfl ⟨Nat.le_of_ble_eq_true rfl, Nat.le_of_ble_eq_true rfl⟩ ⟨_, rfl, rfl, rfl, h⟩
  · have h := h.2 c2
    refine wp_aload_n d_tl_fault_7 rfl 0 rfl ?_
    refine wp_getr d_tl_fault_8 0 s_0 rfl (Nat.le_of_ble_eq_true rfl) (Nat.le_of_ble_eq_true rfl) rfl rfl lk_tl_10 ?_
    refine wp_getr d_tl_fault_11 0 s_1 rfl (Nat.le_of_ble_eq_true rfl) (Nat.le_of_ble_eq_true rfl) rfl rfl lk_tl_63 ?_
    refine wp_iload_n d_tl_fault_14 rfl 1 rfl ?_
    obtain ⟨c3, h⟩ := h
    rcases c3 with c3 | c3
    · have h := h.1 c3
      refine wp_aald (t := 0) d_tl_fault_15 s_2 rfl (Nat.le_of_ble_eq_true rfl) (by omega) (by omega) (r := 6) (by rw [c3]; rfl) ?_
      refine wp_geti d_tl_fault_16 2 s_6 rfl (Nat.le_of_ble_eq_true rfl) (Nat.le_of_ble_eq_true rfl) rfl lk_tl_80 ?_
      refine wp_goto 24 d_tl_fault_19 (by decide) ?_
      exact wp_iret d_tl_fault_24 rfl ⟨Nat.le_of_ble_eq_true rfl, Nat.le_of_ble_eq_true rfl⟩ ⟨_, rfl, rfl, rfl, h⟩
    · have h := h.2 c3
      refine wp_aald (t := 0) d_tl_fault_15 s_2 rfl (Nat.le_of_ble_eq_true rfl) (by omega) (by omega) (r := 8) (by rw [c3]; rfl) ?_
      refine wp_geti d_tl_fault_16 2 s_8 rfl (Nat.le_of_ble_eq_true rfl) (Nat.le_of_ble_eq_true rfl) rfl lk_tl_80 ?_
      refine wp_goto 24 d_tl_fault_19 (by decide) ?_
      exact wp_iret d_tl_fault_24 rfl ⟨Nat.le_of_ble_eq_true rfl, Nat.le_of_ble_eq_true rfl⟩ ⟨_, rfl, rfl, rfl, h⟩
set_option maxHeartbeats 8000000 in
theorem e_tl_tune {G : GT} {M : MT} {P : Int → MT → Prop} (v1 : Int) (v2 : Int)
    (h : ClI G J_tl_isTune M [pR 0, pI v1] (fun x1 M1 => ((x1 = 0 → P (-2) M1) ∧ (¬ x1 = 0 → ClI G J_tl_within M1 [pI v2, pI (-1), pI 11] (fun x3 M2 => ((¬ x3 = 0 → (0 ≤ v1 ∧ v1 < 6) ∧ ((¬ v2 = (-1) → ClI G J_tu_at M2 [pR (10 + 2 * v1.toNat), pI v2] (fun x7 M3 => (P x7 M3))) ∧ (v2 = (-1) → P (M2 (10 + 2 * v1.toNat) 1) M2))) ∧ (x3 = 0 → P (-2) M2))))))) : ClI G J_tl_tune M [pR 0, pI v1, pI v2] P := by
  show Wp G J_tl_tune 0 0 0 [(0, pR 0), (1, pI v1), (2, pI v2)] [] NN RF M _
  refine wp_aload_n d_tl_tune_0 rfl 0 rfl ?_
  refine wp_iload_n d_tl_tune_1 rfl 1 rfl ?_
  refine wp_callV [pI _] _ d_tl_tune_2 jd_tl_isTune lk_tl_83 rfl s_0 rfl (Nat.le_of_ble_eq_true rfl) (Nat.le_of_ble_eq_true rfl) rfl ?_
  refine clI_k h ?_
  intro x1 M1 h
  refine wp_if_eq 18 d_tl_tune_5 (by decide) (fun c2 => ?_) (fun c2 => ?_)
  · have h := h.1 c2
    refine wp_bipush d_tl_tune_18 ⟨by decide, by decide⟩ (by decide) ?_
    exact wp_iret d_tl_tune_20 rfl ⟨Nat.le_of_ble_eq_true rfl, Nat.le_of_ble_eq_true rfl⟩ ⟨_, rfl, rfl, rfl, h⟩
  · have h := h.2 c2
    refine wp_iload_n d_tl_tune_8 rfl 2 rfl ?_
    refine wp_iconst d_tl_tune_9 ⟨by decide, by decide⟩ ?_
    refine wp_bipush d_tl_tune_10 ⟨by decide, by decide⟩ (by decide) ?_
    refine wp_callS [pI _, pI _, pI _] d_tl_tune_12 jd_tl_within lk_tl_59 rfl (Nat.le_of_ble_eq_true rfl) rfl ?_
    refine clI_k h ?_
    intro x3 M2 h
    refine wp_if_ne 21 d_tl_tune_15 (by decide) (fun c4 => ?_) (fun c4 => ?_)
    · have h := h.1 c4
      refine wp_aload_n d_tl_tune_21 rfl 0 rfl ?_
      refine wp_getr d_tl_tune_22 0 s_0 rfl (Nat.le_of_ble_eq_true rfl) (Nat.le_of_ble_eq_true rfl) rfl rfl lk_tl_10 ?_
      refine wp_getr d_tl_tune_25 1 s_1 rfl (Nat.le_of_ble_eq_true rfl) (Nat.le_of_ble_eq_true rfl) rfl rfl lk_tl_86 ?_
      refine wp_iload_n d_tl_tune_28 rfl 1 rfl ?_
      obtain ⟨⟨a5, b5⟩, h⟩ := h
      refine wp_aald (t := 1) d_tl_tune_29 s_3 rfl (Nat.le_of_ble_eq_true rfl) a5 b5 (k_tunes _ (nat_lt a5 b5)).1 ?_
      refine wp_astore_n (L2 := [(0, pR 0), (1, pI _), (2, pI _), (3, pR _)]) d_tl_tune_30 rfl (Nat.le_of_ble_eq_true rfl) [1, 2, 3, 0] rfl ?_
      refine wp_iload_n d_tl_tune_31 rfl 2 rfl ?_
      refine wp_iconst d_tl_tune_32 ⟨by decide, by decide⟩ ?_
      refine wp_icmp_ne 43 d_tl_tune_33 (by decide) (fun c6 => ?_) (fun c6 => ?_)
      · have h := h.1 c6
        refine wp_aload_n d_tl_tune_43 rfl 3 rfl ?_
        refine wp_iload_n d_tl_tune_44 rfl 2 rfl ?_
        refine wp_callV [pI _] _ d_tl_tune_45 jd_tu_at lk_tl_93 rfl (k_tunes _ (nat_lt a5 b5)).2.1 rfl (Nat.lt_of_succ_lt (k_tunes _ (nat_lt a5 b5)).2.2.2.2) (Nat.le_of_ble_eq_true rfl) rfl ?_
        refine clI_k h ?_
        intro x7 M3 h
        exact wp_iret d_tl_tune_48 rfl ⟨Nat.le_of_ble_eq_true rfl, Nat.le_of_ble_eq_true rfl⟩ ⟨_, rfl, rfl, rfl, h⟩
      · have h := h.2 c6
        refine wp_aload_n d_tl_tune_36 rfl 3 rfl ?_
        refine wp_geti d_tl_tune_37 1 (k_tunes _ (nat_lt a5 b5)).2.1 rfl (Nat.lt_of_succ_lt (k_tunes _ (nat_lt a5 b5)).2.2.2.2) (Nat.le_of_ble_eq_true rfl) rfl lk_tl_90 ?_
        refine wp_goto 48 d_tl_tune_40 (by decide) ?_
        exact wp_iret d_tl_tune_48 rfl ⟨Nat.le_of_ble_eq_true rfl, Nat.le_of_ble_eq_true rfl⟩ ⟨_, rfl, rfl, rfl, h⟩
    · have h := h.2 c4
      refine wp_bipush d_tl_tune_18 ⟨by decide, by decide⟩ (by decide) ?_
      exact wp_iret d_tl_tune_20 rfl ⟨Nat.le_of_ble_eq_true rfl, Nat.le_of_ble_eq_true rfl⟩ ⟨_, rfl, rfl, rfl, h⟩
set_option maxHeartbeats 8000000 in
theorem e_tl_borrower {G : GT} {M : MT} {P : Int → MT → Prop} (v1 : Int) (v2 : Int)
    (h : ClI G J_tl_isBorrower M [pR 0, pI v1] (fun x1 M1 => ((x1 = 0 → P (-2) M1) ∧ (¬ x1 = 0 → ClI G J_tl_within M1 [pI v2, pI 0, pI 2] (fun x3 M2 => ((¬ x3 = 0 → (0 ≤ v1 ∧ v1 < 6) ∧ ((¬ v2 = 0 → (¬ v2 = 1 → P (M2 (22 + v1.toNat) 2) M2) ∧ (v2 = 1 → P (M2 (22 + v1.toNat) 1) M2)) ∧ (v2 = 0 → P (M2 (22 + v1.toNat) 0) M2))) ∧ (x3 = 0 → P (-2) M2))))))) : ClI G J_tl_borrower M [pR 0, pI v1, pI v2] P := by
  show Wp G J_tl_borrower 0 0 0 [(0, pR 0), (1, pI v1), (2, pI v2)] [] NN RF M _
  refine wp_aload_n d_tl_borrower_0 rfl 0 rfl ?_
  refine wp_iload_n d_tl_borrower_1 rfl 1 rfl ?_
  refine wp_callV [pI _] _ d_tl_borrower_2 jd_tl_isBorrower lk_tl_97 rfl s_0 rfl (Nat.le_of_ble_eq_true rfl) (Nat.le_of_ble_eq_true rfl) rfl ?_
  refine clI_k h ?_
  intro x1 M1 h
  refine wp_if_eq 17 d_tl_borrower_5 (by decide) (fun c2 => ?_) (fun c2 => ?_)
  · have h := h.1 c2
    refine wp_bipush d_tl_borrower_17 ⟨by decide, by decide⟩ (by decide) ?_
    exact wp_iret d_tl_borrower_19 rfl ⟨Nat.le_of_ble_eq_true rfl, Nat.le_of_ble_eq_true rfl⟩ ⟨_, rfl, rfl, rfl, h⟩
  · have h := h.2 c2
    refine wp_iload_n d_tl_borrower_8 rfl 2 rfl ?_
    refine wp_iconst d_tl_borrower_9 ⟨by decide, by decide⟩ ?_
    refine wp_iconst d_tl_borrower_10 ⟨by decide, by decide⟩ ?_
    refine wp_callS [pI _, pI _, pI _] d_tl_borrower_11 jd_tl_within lk_tl_59 rfl (Nat.le_of_ble_eq_true rfl) rfl ?_
    refine clI_k h ?_
    intro x3 M2 h
    refine wp_if_ne 20 d_tl_borrower_14 (by decide) (fun c4 => ?_) (fun c4 => ?_)
    · have h := h.1 c4
      refine wp_aload_n d_tl_borrower_20 rfl 0 rfl ?_
      refine wp_getr d_tl_borrower_21 0 s_0 rfl (Nat.le_of_ble_eq_true rfl) (Nat.le_of_ble_eq_true rfl) rfl rfl lk_tl_10 ?_
      refine wp_getr d_tl_borrower_24 2 s_1 rfl (Nat.le_of_ble_eq_true rfl) (Nat.le_of_ble_eq_true rfl) rfl rfl lk_tl_100 ?_
      refine wp_iload_n d_tl_borrower_27 rfl 1 rfl ?_
      obtain ⟨⟨a5, b5⟩, h⟩ := h
      refine wp_aald (t := 2) d_tl_borrower_28 s_4 rfl (Nat.le_of_ble_eq_true rfl) a5 b5 (k_borrowers _ (nat_lt a5 b5)).1 ?_
      refine wp_astore_n (L2 := [(0, pR 0), (1, pI _), (2, pI _), (3, pR _)]) d_tl_borrower_29 rfl (Nat.le_of_ble_eq_true rfl) [1, 2, 3, 0] rfl ?_
      refine wp_iload_n d_tl_borrower_30 rfl 2 rfl ?_
      refine wp_if_ne 41 d_tl_borrower_31 (by decide) (fun c6 => ?_) (fun c6 => ?_)
      · have h := h.1 c6
        refine wp_iload_n d_tl_borrower_41 rfl 2 rfl ?_
        refine wp_iconst d_tl_borrower_42 ⟨by decide, by decide⟩ ?_
        refine wp_icmp_ne 53 d_tl_borrower_43 (by decide) (fun c7 => ?_) (fun c7 => ?_)
        · have h := h.1 c7
          refine wp_aload_n d_tl_borrower_53 rfl 3 rfl ?_
          refine wp_geti d_tl_borrower_54 2 (k_borrowers _ (nat_lt a5 b5)).2.1 rfl (k_borrowers _ (nat_lt a5 b5)).2.2 (Nat.le_of_ble_eq_true rfl) rfl lk_tl_112 ?_
          exact wp_iret d_tl_borrower_57 rfl ⟨Nat.le_of_ble_eq_true rfl, Nat.le_of_ble_eq_true rfl⟩ ⟨_, rfl, rfl, rfl, h⟩
        · have h := h.2 c7
          refine wp_aload_n d_tl_borrower_46 rfl 3 rfl ?_
          refine wp_geti d_tl_borrower_47 1 (k_borrowers _ (nat_lt a5 b5)).2.1 rfl (k_borrowers _ (nat_lt a5 b5)).2.2 (Nat.le_of_ble_eq_true rfl) rfl lk_tl_109 ?_
          refine wp_goto 57 d_tl_borrower_50 (by decide) ?_
          exact wp_iret d_tl_borrower_57 rfl ⟨Nat.le_of_ble_eq_true rfl, Nat.le_of_ble_eq_true rfl⟩ ⟨_, rfl, rfl, rfl, h⟩
      · have h := h.2 c6
        refine wp_aload_n d_tl_borrower_34 rfl 3 rfl ?_
        refine wp_geti d_tl_borrower_35 0 (k_borrowers _ (nat_lt a5 b5)).2.1 rfl (k_borrowers _ (nat_lt a5 b5)).2.2 (Nat.le_of_ble_eq_true rfl) rfl lk_tl_104 ?_
        refine wp_goto 57 d_tl_borrower_38 (by decide) ?_
        exact wp_iret d_tl_borrower_57 rfl ⟨Nat.le_of_ble_eq_true rfl, Nat.le_of_ble_eq_true rfl⟩ ⟨_, rfl, rfl, rfl, h⟩
    · have h := h.2 c4
      refine wp_bipush d_tl_borrower_17 ⟨by decide, by decide⟩ (by decide) ?_
      exact wp_iret d_tl_borrower_19 rfl ⟨Nat.le_of_ble_eq_true rfl, Nat.le_of_ble_eq_true rfl⟩ ⟨_, rfl, rfl, rfl, h⟩
set_option maxHeartbeats 8000000 in
theorem e_tl_loan {G : GT} {M : MT} {P : Int → MT → Prop} (v1 : Int) (v2 : Int) (v3 : Int) (v4 : Int)
    (h : ClI G J_tl_isYear M [pI v1] (fun x1 M1 => ((x1 = 0 → P (-2) M1) ∧ (¬ x1 = 0 → ClI G J_tl_within M1 [pI v2, pI 0, pI 5] (fun x3 M2 => ((x3 = 0 → P (-2) M2) ∧ (¬ x3 = 0 → ClI G J_tl_within M2 [pI v3, pI 0, pI 5] (fun x5 M3 => ((x5 = 0 → P (-2) M3) ∧ (¬ x5 = 0 → ClI G J_tl_within M3 [pI v4, pI 1, pI 9] (fun x7 M4 => ((¬ x7 = 0 → ((M4 1 6) < 12 → (0 ≤ (M4 1 6) ∧ (M4 1 6) < 12) ∧ (∀ M5 : MT, M5 = mu M4 (28 + (M4 1 6).toNat) 0 v1 → (∀ M6 : MT, M6 = mu M5 (28 + (M4 1 6).toNat) 1 v2 → (∀ M7 : MT, M7 = mu M6 (28 + (M4 1 6).toNat) 2 v3 → (∀ M8 : MT, M8 = mu M7 (28 + (M4 1 6).toNat) 3 v4 → (∀ M9 : MT, M9 = mu M8 1 6 (w32 ((M8 1 6) + 1)) → (ClV G J_ye_forget M9 [pR 40] (fun M10 => (P (M10 1 6) M10))))))))) ∧ (12 ≤ (M4 1 6) → P (-4) M4)) ∧ (x7 = 0 → P (-2) M4))))))))))))) : ClI G J_tl_loan M [pR 0, pI v1, pI v2, pI v3, pI v4] P := by
  show Wp G J_tl_loan 0 0 0 [(0, pR 0), (1, pI v1), (2, pI v2), (3, pI v3), (4, pI v4)] [] NN RF M _
  refine wp_iload_n d_tl_loan_0 rfl 1 rfl ?_
  refine wp_callS [pI _] d_tl_loan_1 jd_tl_isYear lk_tl_115 rfl (Nat.le_of_ble_eq_true rfl) rfl ?_
  refine clI_k h ?_
  intro x1 M1 h
  refine wp_if_eq 36 d_tl_loan_4 (by decide) (fun c2 => ?_) (fun c2 => ?_)
  · have h := h.1 c2
    refine wp_bipush d_tl_loan_36 ⟨by decide, by decide⟩ (by decide) ?_
    exact wp_iret d_tl_loan_38 rfl ⟨Nat.le_of_ble_eq_true rfl, Nat.le_of_ble_eq_true rfl⟩ ⟨_, rfl, rfl, rfl, h⟩
  · have h := h.2 c2
    refine wp_iload_n d_tl_loan_7 rfl 2 rfl ?_
    refine wp_iconst d_tl_loan_8 ⟨by decide, by decide⟩ ?_
    refine wp_iconst d_tl_loan_9 ⟨by decide, by decide⟩ ?_
    refine wp_callS [pI _, pI _, pI _] d_tl_loan_10 jd_tl_within lk_tl_59 rfl (Nat.le_of_ble_eq_true rfl) rfl ?_
    refine clI_k h ?_
    intro x3 M2 h
    refine wp_if_eq 36 d_tl_loan_13 (by decide) (fun c4 => ?_) (fun c4 => ?_)
    · have h := h.1 c4
      refine wp_bipush d_tl_loan_36 ⟨by decide, by decide⟩ (by decide) ?_
      exact wp_iret d_tl_loan_38 rfl ⟨Nat.le_of_ble_eq_true rfl, Nat.le_of_ble_eq_true rfl⟩ ⟨_, rfl, rfl, rfl, h⟩
    · have h := h.2 c4
      refine wp_iload_n d_tl_loan_16 rfl 3 rfl ?_
      refine wp_iconst d_tl_loan_17 ⟨by decide, by decide⟩ ?_
      refine wp_iconst d_tl_loan_18 ⟨by decide, by decide⟩ ?_
      refine wp_callS [pI _, pI _, pI _] d_tl_loan_19 jd_tl_within lk_tl_59 rfl (Nat.le_of_ble_eq_true rfl) rfl ?_
      refine clI_k h ?_
      intro x5 M3 h
      refine wp_if_eq 36 d_tl_loan_22 (by decide) (fun c6 => ?_) (fun c6 => ?_)
      · have h := h.1 c6
        refine wp_bipush d_tl_loan_36 ⟨by decide, by decide⟩ (by decide) ?_
        exact wp_iret d_tl_loan_38 rfl ⟨Nat.le_of_ble_eq_true rfl, Nat.le_of_ble_eq_true rfl⟩ ⟨_, rfl, rfl, rfl, h⟩
      · have h := h.2 c6
        refine wp_iload d_tl_loan_25 4 rfl ?_
        refine wp_iconst d_tl_loan_27 ⟨by decide, by decide⟩ ?_
        refine wp_bipush d_tl_loan_28 ⟨by decide, by decide⟩ (by decide) ?_
        refine wp_callS [pI _, pI _, pI _] d_tl_loan_30 jd_tl_within lk_tl_59 rfl (Nat.le_of_ble_eq_true rfl) rfl ?_
        refine clI_k h ?_
        intro x7 M4 h
        refine wp_if_ne 39 d_tl_loan_33 (by decide) (fun c8 => ?_) (fun c8 => ?_)
        · have h := h.1 c8
          refine wp_aload_n d_tl_loan_39 rfl 0 rfl ?_
          refine wp_getr d_tl_loan_40 0 s_0 rfl (Nat.le_of_ble_eq_true rfl) (Nat.le_of_ble_eq_true rfl) rfl rfl lk_tl_10 ?_
          refine wp_geti d_tl_loan_43 6 s_1 rfl (Nat.le_of_ble_eq_true rfl) (Nat.le_of_ble_eq_true rfl) rfl lk_tl_118 ?_
          refine wp_bipush d_tl_loan_46 ⟨by decide, by decide⟩ (by decide) ?_
          refine wp_icmp_lt 54 d_tl_loan_48 (by decide) (fun c9 => ?_) (fun c9 => ?_)
          · have h := h.1 c9
            refine wp_aload_n d_tl_loan_54 rfl 0 rfl ?_
            refine wp_getr d_tl_loan_55 0 s_0 rfl (Nat.le_of_ble_eq_true rfl) (Nat.le_of_ble_eq_true rfl) rfl rfl lk_tl_10 ?_
            refine wp_getr d_tl_loan_58 3 s_1 rfl (Nat.le_of_ble_eq_true rfl) (Nat.le_of_ble_eq_true rfl) rfl rfl lk_tl_121 ?_
            refine wp_aload_n d_tl_loan_61 rfl 0 rfl ?_
            refine wp_getr d_tl_loan_62 0 s_0 rfl (Nat.le_of_ble_eq_true rfl) (Nat.le_of_ble_eq_true rfl) rfl rfl lk_tl_10 ?_
            refine wp_geti d_tl_loan_65 6 s_1 rfl (Nat.le_of_ble_eq_true rfl) (Nat.le_of_ble_eq_true rfl) rfl lk_tl_118 ?_
            obtain ⟨⟨a10, b10⟩, h⟩ := h
            refine wp_aald (t := 3) d_tl_loan_68 s_5 rfl (Nat.le_of_ble_eq_true rfl) a10 b10 (k_loans _ (nat_lt a10 b10)).1 ?_
            refine wp_astore (L2 := [(0, pR 0), (1, pI _), (2, pI _), (3, pI _), (4, pI _), (5, pR _)]) d_tl_loan_69 (Nat.le_of_ble_eq_true rfl) [1, 2, 3, 4, 5, 0] rfl ?_
            refine wp_aload d_tl_loan_71 5 rfl ?_
            refine wp_iload_n d_tl_loan_73 rfl 1 rfl ?_
            refine wp_puti d_tl_loan_74 0 (k_loans _ (nat_lt a10 b10)).2.1 rfl (k_loans _ (nat_lt a10 b10)).2.2 (Nat.le_of_ble_eq_true rfl) (Or.inl rfl) rfl lk_tl_125 ?_
            have h := h _ rfl
            refine wp_aload d_tl_loan_77 5 rfl ?_
            refine wp_iload_n d_tl_loan_79 rfl 2 rfl ?_
            refine wp_puti d_tl_loan_80 1 (k_loans _ (nat_lt a10 b10)).2.1 rfl (k_loans _ (nat_lt a10 b10)).2.2 (Nat.le_of_ble_eq_true rfl) (Or.inl rfl) rfl lk_tl_130 ?_
            have h := h _ rfl
            refine wp_aload d_tl_loan_83 5 rfl ?_
            refine wp_iload_n d_tl_loan_85 rfl 3 rfl ?_
            refine wp_puti d_tl_loan_86 2 (k_loans _ (nat_lt a10 b10)).2.1 rfl (k_loans _ (nat_lt a10 b10)).2.2 (Nat.le_of_ble_eq_true rfl) (Or.inl rfl) rfl lk_tl_133 ?_
            have h := h _ rfl
            refine wp_aload d_tl_loan_89 5 rfl ?_
            refine wp_iload d_tl_loan_91 4 rfl ?_
            refine wp_puti d_tl_loan_93 3 (k_loans _ (nat_lt a10 b10)).2.1 rfl (k_loans _ (nat_lt a10 b10)).2.2 (Nat.le_of_ble_eq_true rfl) (Or.inl rfl) rfl lk_tl_136 ?_
            have h := h _ rfl
            refine wp_aload_n d_tl_loan_96 rfl 0 rfl ?_
            refine wp_getr d_tl_loan_97 0 s_0 rfl (Nat.le_of_ble_eq_true rfl) (Nat.le_of_ble_eq_true rfl) rfl rfl lk_tl_10 ?_
            refine wp_dup d_tl_loan_100 rfl ?_
            refine wp_geti d_tl_loan_101 6 s_1 rfl (Nat.le_of_ble_eq_true rfl) (Nat.le_of_ble_eq_true rfl) rfl lk_tl_118 ?_
            refine wp_iconst d_tl_loan_104 ⟨by decide, by decide⟩ ?_
            refine wp_iadd d_tl_loan_105 ?_
            refine wp_puti d_tl_loan_106 6 s_1 rfl (Nat.le_of_ble_eq_true rfl) (Nat.le_of_ble_eq_true rfl) (Or.inl rfl) rfl lk_tl_118 ?_
            have h := h _ rfl
            refine wp_aload_n d_tl_loan_109 rfl 0 rfl ?_
            refine wp_getr d_tl_loan_110 1 s_0 rfl (Nat.le_of_ble_eq_true rfl) (Nat.le_of_ble_eq_true rfl) rfl rfl lk_tl_19 ?_
            refine wp_callV [] _ d_tl_loan_113 jd_ye_forget lk_tl_138 rfl s_40 rfl (Nat.le_of_ble_eq_true rfl) (Nat.le_of_ble_eq_true rfl) rfl ?_
            refine clV_k h ?_
            intro M10 h
            refine wp_aload_n d_tl_loan_116 rfl 0 rfl ?_
            refine wp_getr d_tl_loan_117 0 s_0 rfl (Nat.le_of_ble_eq_true rfl) (Nat.le_of_ble_eq_true rfl) rfl rfl lk_tl_10 ?_
            refine wp_geti d_tl_loan_120 6 s_1 rfl (Nat.le_of_ble_eq_true rfl) (Nat.le_of_ble_eq_true rfl) rfl lk_tl_118 ?_
            exact wp_iret d_tl_loan_123 rfl ⟨Nat.le_of_ble_eq_true rfl, Nat.le_of_ble_eq_true rfl⟩ ⟨_, rfl, rfl, rfl, h⟩
          · have h := h.2 c9
            refine wp_bipush d_tl_loan_51 ⟨by decide, by decide⟩ (by decide) ?_
            exact wp_iret d_tl_loan_53 rfl ⟨Nat.le_of_ble_eq_true rfl, Nat.le_of_ble_eq_true rfl⟩ ⟨_, rfl, rfl, rfl, h⟩
        · have h := h.2 c8
          refine wp_bipush d_tl_loan_36 ⟨by decide, by decide⟩ (by decide) ?_
          exact wp_iret d_tl_loan_38 rfl ⟨Nat.le_of_ble_eq_true rfl, Nat.le_of_ble_eq_true rfl⟩ ⟨_, rfl, rfl, rfl, h⟩
set_option maxHeartbeats 8000000 in
theorem e_tl_back {G : GT} {M : MT} {P : Int → MT → Prop} 
    (h : (¬ (M 1 6) = 0 → ∀ M1 : MT, M1 = mu M 1 6 (w32 ((M 1 6) - 1)) → (ClV G J_ye_forget M1 [pR 40] (fun M2 => (P (M2 1 6) M2)))) ∧ ((M 1 6) = 0 → P (-3) M)) : ClI G J_tl_back M [pR 0] P := by
  show Wp G J_tl_back 0 0 0 [(0, pR 0)] [] NN RF M _
  refine wp_aload_n d_tl_back_0 rfl 0 rfl ?_
  refine wp_getr d_tl_back_1 0 s_0 rfl (Nat.le_of_ble_eq_true rfl) (Nat.le_of_ble_eq_true rfl) rfl rfl lk_tl_10 ?_
  refine wp_geti d_tl_back_4 6 s_1 rfl (Nat.le_of_ble_eq_true rfl) (Nat.le_of_ble_eq_true rfl) rfl lk_tl_118 ?_
  refine wp_if_ne 13 d_tl_back_7 (by decide) (fun c1 => ?_) (fun c1 => ?_)
  · have h := h.1 c1
    refine wp_aload_n d_tl_back_13 rfl 0 rfl ?_
    refine wp_getr d_tl_back_14 0 s_0 rfl (Nat.le_of_ble_eq_true rfl) (Nat.le_of_ble_eq_true rfl) rfl rfl lk_tl_10 ?_
    refine wp_dup d_tl_back_17 rfl ?_
    refine wp_geti d_tl_back_18 6 s_1 rfl (Nat.le_of_ble_eq_true rfl) (Nat.le_of_ble_eq_true rfl) rfl lk_tl_118 ?_
    refine wp_iconst d_tl_back_21 ⟨by decide, by decide⟩ ?_
    refine wp_isub d_tl_back_22 ?_
    refine wp_puti d_tl_back_23 6 s_1 rfl (Nat.le_of_ble_eq_true rfl) (Nat.le_of_ble_eq_true rfl) (Or.inl rfl) rfl lk_tl_118 ?_
    have h := h _ rfl
    refine wp_aload_n d_tl_back_26 rfl 0 rfl ?_
    refine wp_getr d_tl_back_27 1 s_0 rfl (Nat.le_of_ble_eq_true rfl) (Nat.le_of_ble_eq_true rfl) rfl rfl lk_tl_19 ?_
    refine wp_callV [] _ d_tl_back_30 jd_ye_forget lk_tl_138 rfl s_40 rfl (Nat.le_of_ble_eq_true rfl) (Nat.le_of_ble_eq_true rfl) rfl ?_
    refine clV_k h ?_
    intro M2 h
    refine wp_aload_n d_tl_back_33 rfl 0 rfl ?_
    refine wp_getr d_tl_back_34 0 s_0 rfl (Nat.le_of_ble_eq_true rfl) (Nat.le_of_ble_eq_true rfl) rfl rfl lk_tl_10 ?_
    refine wp_geti d_tl_back_37 6 s_1 rfl (Nat.le_of_ble_eq_true rfl) (Nat.le_of_ble_eq_true rfl) rfl lk_tl_118 ?_
    exact wp_iret d_tl_back_40 rfl ⟨Nat.le_of_ble_eq_true rfl, Nat.le_of_ble_eq_true rfl⟩ ⟨_, rfl, rfl, rfl, h⟩
  · have h := h.2 c1
    refine wp_bipush d_tl_back_10 ⟨by decide, by decide⟩ (by decide) ?_
    exact wp_iret d_tl_back_12 rfl ⟨Nat.le_of_ble_eq_true rfl, Nat.le_of_ble_eq_true rfl⟩ ⟨_, rfl, rfl, rfl, h⟩
set_option maxHeartbeats 8000000 in
theorem e_tl_read {G : GT} {M : MT} {P : Int → MT → Prop} (v1 : Int)
    (h : ClI G J_tl_isSheet M [pI v1] (fun x1 M1 => ((¬ x1 = 0 → (0 ≤ v1 ∧ v1 < 4) ∧ (ClI G J_sh_isLost M1 [pR (93 + 2 * v1.toNat)] (fun x4 M2 => ((x4 = 0 → WpI G J_tl_read 40 [(0, pR 0), (2, pR (93 + 2 * v1.toNat)), (3, pI (w32 (Int.tdiv (M2 (93 + 2 * v1.toNat) 2) 4))), (4, pI 0)] [] M2 P) ∧ (¬ x4 = 0 → ClI G J_tl_found M2 [pR 0, pI 1] (fun x6 M3 => (P x6 M3))))))) ∧ (x1 = 0 → P (-2) M1)))) : ClI G J_tl_read M [pR 0, pI v1] P := by
  show Wp G J_tl_read 0 0 0 [(0, pR 0), (1, pI v1)] [] NN RF M _
  refine wp_iload_n d_tl_read_0 rfl 1 rfl ?_
  refine wp_callS [pI _] d_tl_read_1 jd_tl_isSheet lk_tl_141 rfl (Nat.le_of_ble_eq_true rfl) rfl ?_
  refine clI_k h ?_
  intro x1 M1 h
  refine wp_if_ne 10 d_tl_read_4 (by decide) (fun c2 => ?_) (fun c2 => ?_)
  · have h := h.1 c2
    refine wp_aload_n d_tl_read_10 rfl 0 rfl ?_
    refine wp_getr d_tl_read_11 5 s_0 rfl (Nat.le_of_ble_eq_true rfl) (Nat.le_of_ble_eq_true rfl) rfl rfl lk_tl_46 ?_
    refine wp_iload_n d_tl_read_14 rfl 1 rfl ?_
    obtain ⟨⟨a3, b3⟩, h⟩ := h
    refine wp_aald (t := 4) d_tl_read_15 s_92 rfl (Nat.le_of_ble_eq_true rfl) a3 b3 (k_sheets _ (nat_lt a3 b3)).1 ?_
    refine wp_astore_n (L2 := [(0, pR 0), (1, pI _), (2, pR _)]) d_tl_read_16 rfl (Nat.le_of_ble_eq_true rfl) [1, 2, 0] rfl ?_
    refine wp_aload_n d_tl_read_17 rfl 2 rfl ?_
    refine wp_callV [] _ d_tl_read_18 jd_sh_isLost lk_tl_144 rfl (k_sheets _ (nat_lt a3 b3)).2.1 rfl (Nat.lt_of_succ_lt (k_sheets _ (nat_lt a3 b3)).2.2.2.2) (Nat.le_of_ble_eq_true rfl) rfl ?_
    refine clI_k h ?_
    intro x4 M2 h
    refine wp_if_eq 30 d_tl_read_21 (by decide) (fun c5 => ?_) (fun c5 => ?_)
    · have h := h.1 c5
      refine wp_aload_n d_tl_read_30 rfl 2 rfl ?_
      refine wp_geti d_tl_read_31 2 (k_sheets _ (nat_lt a3 b3)).2.1 rfl (Nat.lt_of_succ_lt (k_sheets _ (nat_lt a3 b3)).2.2.2.2) (Nat.le_of_ble_eq_true rfl) rfl lk_tl_151 ?_
      refine wp_iconst d_tl_read_34 ⟨by decide, by decide⟩ ?_
      refine wp_idiv d_tl_read_35 (by decide) ?_
      refine wp_istore_n (L2 := [(0, pR 0), (1, pI _), (2, pR _), (3, pI _)]) d_tl_read_36 rfl (Nat.le_of_ble_eq_true rfl) [1, 2, 3, 0] rfl ?_
      refine wp_iconst d_tl_read_37 ⟨by decide, by decide⟩ ?_
      refine wp_istore (L2 := [(0, pR 0), (1, pI _), (2, pR _), (3, pI _), (4, pI _)]) d_tl_read_38 (Nat.le_of_ble_eq_true rfl) [1, 2, 3, 4, 0] rfl ?_
      refine wp_sub (L2 := [(0, pR 0), (2, pR _), (3, pI _), (4, pI _)]) [0, 2, 3, 4] rfl ?_
      exact h
    · have h := h.2 c5
      refine wp_aload_n d_tl_read_24 rfl 0 rfl ?_
      refine wp_iconst d_tl_read_25 ⟨by decide, by decide⟩ ?_
      refine wp_callV [pI _] _ d_tl_read_26 jd_tl_found lk_tl_148 rfl s_0 rfl (Nat.le_of_ble_eq_true rfl) (Nat.le_of_ble_eq_true rfl) rfl ?_
      refine clI_k h ?_
      intro x6 M3 h
      exact wp_iret d_tl_read_29 rfl ⟨Nat.le_of_ble_eq_true rfl, Nat.le_of_ble_eq_true rfl⟩ ⟨_, rfl, rfl, rfl, h⟩
  · have h := h.2 c2
    refine wp_bipush d_tl_read_7 ⟨by decide, by decide⟩ (by decide) ?_
    exact wp_iret d_tl_read_9 rfl ⟨Nat.le_of_ble_eq_true rfl, Nat.le_of_ble_eq_true rfl⟩ ⟨_, rfl, rfl, rfl, h⟩
set_option maxHeartbeats 8000000 in
theorem b_tl_read_40 {G : GT} {M : MT} {P : Int → MT → Prop} (o2 : Nat) (f2 : SE o2) (v3 : Int) (v4 : Int)
    (h : (v3 ≤ v4 → P v3 M) ∧ (v4 < v3 → (0 ≤ (w32 (4 * v4)) ∧ (w32 (4 * v4)) < 60) ∧ ((0 ≤ (w32 ((w32 (4 * v4)) + 1)) ∧ (w32 ((w32 (4 * v4)) + 1)) < 60) ∧ ((0 ≤ (w32 ((w32 (4 * v4)) + 2)) ∧ (w32 ((w32 (4 * v4)) + 2)) < 60) ∧ ((0 ≤ (w32 ((w32 (4 * v4)) + 3)) ∧ (w32 ((w32 (4 * v4)) + 3)) < 60) ∧ (ClI G J_tl_loan M [pR 0, pI (M (o2 + 1) ((w32 (4 * v4)).toNat)), pI (M (o2 + 1) ((w32 ((w32 (4 * v4)) + 1)).toNat)), pI (M (o2 + 1) ((w32 ((w32 (4 * v4)) + 2)).toNat)), pI (M (o2 + 1) ((w32 ((w32 (4 * v4)) + 3)).toNat))] (fun x6 M1 => ((0 ≤ x6 → WpI G J_tl_read 40 [(0, pR 0), (2, pR o2), (3, pI v3), (4, pI (w32 (v4 + 1)))] [] M1 P) ∧ (x6 < 0 → P v4 M1))))))))) : WpI G J_tl_read 40 [(0, pR 0), (2, pR o2), (3, pI v3), (4, pI v4)] [] M P := by
  show Wp G J_tl_read 0 0 40 [(0, pR 0), (2, pR o2), (3, pI v3), (4, pI v4)] [] NN RF M _
  refine wp_iload d_tl_read_40 3 rfl ?_
  refine wp_iload_n d_tl_read_42 rfl 2 rfl ?_
  refine wp_icmp_ge 106 d_tl_read_43 (by decide) (fun c1 => ?_) (fun c1 => ?_)
  · have h := h.1 c1
    refine wp_iload_n d_tl_read_106 rfl 2 rfl ?_
    exact wp_iret d_tl_read_107 rfl ⟨Nat.le_of_ble_eq_true rfl, Nat.le_of_ble_eq_true rfl⟩ ⟨_, rfl, rfl, rfl, h⟩
  · have h := h.2 c1
    refine wp_iconst d_tl_read_46 ⟨by decide, by decide⟩ ?_
    refine wp_iload d_tl_read_47 3 rfl ?_
    refine wp_imul d_tl_read_49 ?_
    refine wp_istore (L2 := [(0, pR 0), (2, pR _), (3, pI _), (4, pI _), (5, pI _)]) d_tl_read_50 (Nat.le_of_ble_eq_true rfl) [1, 2, 3, 4, 0] rfl ?_
    refine wp_aload_n d_tl_read_52 rfl 0 rfl ?_
    refine wp_aload_n d_tl_read_53 rfl 1 rfl ?_
    refine wp_getr d_tl_read_54 0 f2.1 rfl (Nat.lt_of_succ_lt f2.2.2.2) (Nat.le_of_ble_eq_true rfl) rfl f2.2.2.1 lk_tl_152 ?_
    refine wp_iload d_tl_read_57 4 rfl ?_
    obtain ⟨⟨a2, b2⟩, h⟩ := h
    refine wp_iald d_tl_read_59 f2.2.1 f2.2.2.2 a2 b2 ?_
    refine wp_aload_n d_tl_read_60 rfl 1 rfl ?_
    refine wp_getr d_tl_read_61 0 f2.1 rfl (Nat.lt_of_succ_lt f2.2.2.2) (Nat.le_of_ble_eq_true rfl) rfl f2.2.2.1 lk_tl_152 ?_
    refine wp_iload d_tl_read_64 4 rfl ?_
    refine wp_iconst d_tl_read_66 ⟨by decide, by decide⟩ ?_
    refine wp_iadd d_tl_read_67 ?_
    obtain ⟨⟨a3, b3⟩, h⟩ := h
    refine wp_iald d_tl_read_68 f2.2.1 f2.2.2.2 a3 b3 ?_
    refine wp_aload_n d_tl_read_69 rfl 1 rfl ?_
    refine wp_getr d_tl_read_70 0 f2.1 rfl (Nat.lt_of_succ_lt f2.2.2.2) (Nat.le_of_ble_eq_true rfl) rfl f2.2.2.1 lk_tl_152 ?_
    refine wp_iload d_tl_read_73 4 rfl ?_
    refine wp_iconst d_tl_read_75 ⟨by decide, by decide⟩ ?_
    refine wp_iadd d_tl_read_76 ?_
    obtain ⟨⟨a4, b4⟩, h⟩ := h
    refine wp_iald d_tl_read_77 f2.2.1 f2.2.2.2 a4 b4 ?_
    refine wp_aload_n d_tl_read_78 rfl 1 rfl ?_
    refine wp_getr d_tl_read_79 0 f2.1 rfl (Nat.lt_of_succ_lt f2.2.2.2) (Nat.le_of_ble_eq_true rfl) rfl f2.2.2.1 lk_tl_152 ?_
    refine wp_iload d_tl_read_82 4 rfl ?_
    refine wp_iconst d_tl_read_84 ⟨by decide, by decide⟩ ?_
    refine wp_iadd d_tl_read_85 ?_
    obtain ⟨⟨a5, b5⟩, h⟩ := h
    refine wp_iald d_tl_read_86 f2.2.1 f2.2.2.2 a5 b5 ?_
    refine wp_callV [pI _, pI _, pI _, pI _] _ d_tl_read_87 jd_tl_loan lk_tl_155 rfl s_0 rfl (Nat.le_of_ble_eq_true rfl) (Nat.le_of_ble_eq_true rfl) rfl ?_
    refine clI_k h ?_
    intro x6 M1 h
    refine wp_istore (L2 := [(0, pR 0), (2, pR _), (3, pI _), (4, pI _), (5, pI _), (6, pI _)]) d_tl_read_90 (Nat.le_of_ble_eq_true rfl) [1, 2, 3, 4, 5, 0] rfl ?_
    refine wp_iload d_tl_read_92 5 rfl ?_
    refine wp_if_ge 100 d_tl_read_94 (by decide) (fun c7 => ?_) (fun c7 => ?_)
    · have h := h.1 c7
      refine wp_iinc (L2 := [(0, pR 0), (2, pR _), (3, pI _), (4, pI _), (5, pI _), (6, pI _)]) d_tl_read_100 3 rfl (Nat.le_of_ble_eq_true rfl) [1, 2, 3, 0, 4, 5] rfl ?_
      refine wp_goto 40 d_tl_read_103 (by decide) ?_
      refine wp_sub (L2 := [(0, pR 0), (2, pR _), (3, pI _), (4, pI _)]) [0, 1, 2, 3] rfl ?_
      exact h
    · have h := h.2 c7
      refine wp_iload d_tl_read_97 3 rfl ?_
      exact wp_iret d_tl_read_99 rfl ⟨Nat.le_of_ble_eq_true rfl, Nat.le_of_ble_eq_true rfl⟩ ⟨_, rfl, rfl, rfl, h⟩
set_option maxHeartbeats 8000000 in
theorem e_tl_ear {G : GT} {M : MT} {P : Int → MT → Prop} (v1 : Int)
    (h : ClI G J_tl_isEar M [pI v1] (fun x1 M1 => ((¬ x1 = 0 → ∀ M2 : MT, M2 = mu M1 0 6 v1 → (P (M1 0 6) M2)) ∧ (x1 = 0 → P (-2) M1)))) : ClI G J_tl_ear M [pR 0, pI v1] P := by
  show Wp G J_tl_ear 0 0 0 [(0, pR 0), (1, pI v1)] [] NN RF M _
  refine wp_iload_n d_tl_ear_0 rfl 1 rfl ?_
  refine wp_callS [pI _] d_tl_ear_1 jd_tl_isEar lk_tl_159 rfl (Nat.le_of_ble_eq_true rfl) rfl ?_
  refine clI_k h ?_
  intro x1 M1 h
  refine wp_if_ne 10 d_tl_ear_4 (by decide) (fun c2 => ?_) (fun c2 => ?_)
  · have h := h.1 c2
    refine wp_aload_n d_tl_ear_10 rfl 0 rfl ?_
    refine wp_geti d_tl_ear_11 6 s_0 rfl (Nat.le_of_ble_eq_true rfl) (Nat.le_of_ble_eq_true rfl) rfl lk_tl_51 ?_
    refine wp_istore_n (L2 := [(0, pR 0), (1, pI _), (2, pI _)]) d_tl_ear_14 rfl (Nat.le_of_ble_eq_true rfl) [1, 2, 0] rfl ?_
    refine wp_aload_n d_tl_ear_15 rfl 0 rfl ?_
    refine wp_iload_n d_tl_ear_16 rfl 1 rfl ?_
    refine wp_puti d_tl_ear_17 6 s_0 rfl (Nat.le_of_ble_eq_true rfl) (Nat.le_of_ble_eq_true rfl) (Or.inl rfl) rfl lk_tl_51 ?_
    have h := h _ rfl
    refine wp_iload_n d_tl_ear_20 rfl 2 rfl ?_
    exact wp_iret d_tl_ear_21 rfl ⟨Nat.le_of_ble_eq_true rfl, Nat.le_of_ble_eq_true rfl⟩ ⟨_, rfl, rfl, rfl, h⟩
  · have h := h.2 c2
    refine wp_bipush d_tl_ear_7 ⟨by decide, by decide⟩ (by decide) ?_
    exact wp_iret d_tl_ear_9 rfl ⟨Nat.le_of_ble_eq_true rfl, Nat.le_of_ble_eq_true rfl⟩ ⟨_, rfl, rfl, rfl, h⟩
set_option maxHeartbeats 8000000 in
theorem e_tl_notes {G : GT} {M : MT} {P : Int → MT → Prop} (v1 : Int) (v2 : Int) (v3 : Int)
    (h : ClI G J_tl_isYear M [pI v1] (fun x1 M1 => ((x1 = 0 → P (-2) M1) ∧ (¬ x1 = 0 → ClI G J_tl_isTune M1 [pR 0, pI v2] (fun x3 M2 => ((x3 = 0 → P (-2) M2) ∧ (¬ x3 = 0 → ClI G J_tl_within M2 [pI v3, pI (-1), pI 39] (fun x5 M3 => ((¬ x5 = 0 → ClV G J_ye_live M3 [pR 40, pR 1, pI (M3 0 6), pR 84] (fun M4 => ((¬ v3 = (-1) → ClI G J_ye_noteOf M4 [pR 40, pI v1, pI v2, pI v3] (fun x8 M5 => (P x8 M5))) ∧ (v3 = (-1) → ClI G J_ye_sizeOf M4 [pR 40, pI v1, pI v2] (fun x8 M5 => (P x8 M5)))))) ∧ (x5 = 0 → P (-2) M3)))))))))) : ClI G J_tl_notes M [pR 0, pI v1, pI v2, pI v3] P := by
  show Wp G J_tl_notes 0 0 0 [(0, pR 0), (1, pI v1), (2, pI v2), (3, pI v3)] [] NN RF M _
  refine wp_iload_n d_tl_notes_0 rfl 1 rfl ?_
  refine wp_callS [pI _] d_tl_notes_1 jd_tl_isYear lk_tl_115 rfl (Nat.le_of_ble_eq_true rfl) rfl ?_
  refine clI_k h ?_
  intro x1 M1 h
  refine wp_if_eq 25 d_tl_notes_4 (by decide) (fun c2 => ?_) (fun c2 => ?_)
  · have h := h.1 c2
    refine wp_bipush d_tl_notes_25 ⟨by decide, by decide⟩ (by decide) ?_
    exact wp_iret d_tl_notes_27 rfl ⟨Nat.le_of_ble_eq_true rfl, Nat.le_of_ble_eq_true rfl⟩ ⟨_, rfl, rfl, rfl, h⟩
  · have h := h.2 c2
    refine wp_aload_n d_tl_notes_7 rfl 0 rfl ?_
    refine wp_iload_n d_tl_notes_8 rfl 2 rfl ?_
    refine wp_callV [pI _] _ d_tl_notes_9 jd_tl_isTune lk_tl_83 rfl s_0 rfl (Nat.le_of_ble_eq_true rfl) (Nat.le_of_ble_eq_true rfl) rfl ?_
    refine clI_k h ?_
    intro x3 M2 h
    refine wp_if_eq 25 d_tl_notes_12 (by decide) (fun c4 => ?_) (fun c4 => ?_)
    · have h := h.1 c4
      refine wp_bipush d_tl_notes_25 ⟨by decide, by decide⟩ (by decide) ?_
      exact wp_iret d_tl_notes_27 rfl ⟨Nat.le_of_ble_eq_true rfl, Nat.le_of_ble_eq_true rfl⟩ ⟨_, rfl, rfl, rfl, h⟩
    · have h := h.2 c4
      refine wp_iload_n d_tl_notes_15 rfl 3 rfl ?_
      refine wp_iconst d_tl_notes_16 ⟨by decide, by decide⟩ ?_
      refine wp_bipush d_tl_notes_17 ⟨by decide, by decide⟩ (by decide) ?_
      refine wp_callS [pI _, pI _, pI _] d_tl_notes_19 jd_tl_within lk_tl_59 rfl (Nat.le_of_ble_eq_true rfl) rfl ?_
      refine clI_k h ?_
      intro x5 M3 h
      refine wp_if_ne 28 d_tl_notes_22 (by decide) (fun c6 => ?_) (fun c6 => ?_)
      · have h := h.1 c6
        refine wp_aload_n d_tl_notes_28 rfl 0 rfl ?_
        refine wp_getr d_tl_notes_29 1 s_0 rfl (Nat.le_of_ble_eq_true rfl) (Nat.le_of_ble_eq_true rfl) rfl rfl lk_tl_19 ?_
        refine wp_aload_n d_tl_notes_32 rfl 0 rfl ?_
        refine wp_getr d_tl_notes_33 0 s_0 rfl (Nat.le_of_ble_eq_true rfl) (Nat.le_of_ble_eq_true rfl) rfl rfl lk_tl_10 ?_
        refine wp_aload_n d_tl_notes_36 rfl 0 rfl ?_
        refine wp_geti d_tl_notes_37 6 s_0 rfl (Nat.le_of_ble_eq_true rfl) (Nat.le_of_ble_eq_true rfl) rfl lk_tl_51 ?_
        refine wp_aload_n d_tl_notes_40 rfl 0 rfl ?_
        refine wp_getr d_tl_notes_41 3 s_0 rfl (Nat.le_of_ble_eq_true rfl) (Nat.le_of_ble_eq_true rfl) rfl rfl lk_tl_33 ?_
        refine wp_callV [pR _, pI _, pR _] _ d_tl_notes_44 jd_ye_live lk_tl_162 rfl s_40 rfl (Nat.le_of_ble_eq_true rfl) (Nat.le_of_ble_eq_true rfl) rfl ?_
        refine clV_k h ?_
        intro M4 h
        refine wp_iload_n d_tl_notes_47 rfl 3 rfl ?_
        refine wp_iconst d_tl_notes_48 ⟨by decide, by decide⟩ ?_
        refine wp_icmp_ne 64 d_tl_notes_49 (by decide) (fun c7 => ?_) (fun c7 => ?_)
        · have h := h.1 c7
          refine wp_aload_n d_tl_notes_64 rfl 0 rfl ?_
          refine wp_getr d_tl_notes_65 1 s_0 rfl (Nat.le_of_ble_eq_true rfl) (Nat.le_of_ble_eq_true rfl) rfl rfl lk_tl_19 ?_
          refine wp_iload_n d_tl_notes_68 rfl 1 rfl ?_
          refine wp_iload_n d_tl_notes_69 rfl 2 rfl ?_
          refine wp_iload_n d_tl_notes_70 rfl 3 rfl ?_
          refine wp_callV [pI _, pI _, pI _] _ d_tl_notes_71 jd_ye_noteOf lk_tl_169 rfl s_40 rfl (Nat.le_of_ble_eq_true rfl) (Nat.le_of_ble_eq_true rfl) rfl ?_
          refine clI_k h ?_
          intro x8 M5 h
          exact wp_iret d_tl_notes_74 rfl ⟨Nat.le_of_ble_eq_true rfl, Nat.le_of_ble_eq_true rfl⟩ ⟨_, rfl, rfl, rfl, h⟩
        · have h := h.2 c7
          refine wp_aload_n d_tl_notes_52 rfl 0 rfl ?_
          refine wp_getr d_tl_notes_53 1 s_0 rfl (Nat.le_of_ble_eq_true rfl) (Nat.le_of_ble_eq_true rfl) rfl rfl lk_tl_19 ?_
          refine wp_iload_n d_tl_notes_56 rfl 1 rfl ?_
          refine wp_iload_n d_tl_notes_57 rfl 2 rfl ?_
          refine wp_callV [pI _, pI _] _ d_tl_notes_58 jd_ye_sizeOf lk_tl_166 rfl s_40 rfl (Nat.le_of_ble_eq_true rfl) (Nat.le_of_ble_eq_true rfl) rfl ?_
          refine clI_k h ?_
          intro x8 M5 h
          refine wp_goto 74 d_tl_notes_61 (by decide) ?_
          exact wp_iret d_tl_notes_74 rfl ⟨Nat.le_of_ble_eq_true rfl, Nat.le_of_ble_eq_true rfl⟩ ⟨_, rfl, rfl, rfl, h⟩
      · have h := h.2 c6
        refine wp_bipush d_tl_notes_25 ⟨by decide, by decide⟩ (by decide) ?_
        exact wp_iret d_tl_notes_27 rfl ⟨Nat.le_of_ble_eq_true rfl, Nat.le_of_ble_eq_true rfl⟩ ⟨_, rfl, rfl, rfl, h⟩
set_option maxHeartbeats 8000000 in
theorem e_tl_has {G : GT} {M : MT} {P : Int → MT → Prop} (v1 : Int) (v2 : Int)
    (h : ClI G J_tl_isYear M [pI v1] (fun x1 M1 => ((x1 = 0 → P (-2) M1) ∧ (¬ x1 = 0 → ClI G J_tl_isTune M1 [pR 0, pI v2] (fun x3 M2 => ((¬ x3 = 0 → ClV G J_ye_live M2 [pR 40, pR 1, pI (M2 0 6), pR 84] (fun M3 => (ClI G J_ye_holderOf M3 [pR 40, pI v1, pI v2] (fun x5 M4 => (P x5 M4))))) ∧ (x3 = 0 → P (-2) M2))))))) : ClI G J_tl_has M [pR 0, pI v1, pI v2] P := by
  show Wp G J_tl_has 0 0 0 [(0, pR 0), (1, pI v1), (2, pI v2)] [] NN RF M _
  refine wp_iload_n d_tl_has_0 rfl 1 rfl ?_
  refine wp_callS [pI _] d_tl_has_1 jd_tl_isYear lk_tl_115 rfl (Nat.le_of_ble_eq_true rfl) rfl ?_
  refine clI_k h ?_
  intro x1 M1 h
  refine wp_if_eq 15 d_tl_has_4 (by decide) (fun c2 => ?_) (fun c2 => ?_)
  · have h := h.1 c2
    refine wp_bipush d_tl_has_15 ⟨by decide, by decide⟩ (by decide) ?_
    exact wp_iret d_tl_has_17 rfl ⟨Nat.le_of_ble_eq_true rfl, Nat.le_of_ble_eq_true rfl⟩ ⟨_, rfl, rfl, rfl, h⟩
  · have h := h.2 c2
    refine wp_aload_n d_tl_has_7 rfl 0 rfl ?_
    refine wp_iload_n d_tl_has_8 rfl 2 rfl ?_
    refine wp_callV [pI _] _ d_tl_has_9 jd_tl_isTune lk_tl_83 rfl s_0 rfl (Nat.le_of_ble_eq_true rfl) (Nat.le_of_ble_eq_true rfl) rfl ?_
    refine clI_k h ?_
    intro x3 M2 h
    refine wp_if_ne 18 d_tl_has_12 (by decide) (fun c4 => ?_) (fun c4 => ?_)
    · have h := h.1 c4
      refine wp_aload_n d_tl_has_18 rfl 0 rfl ?_
      refine wp_getr d_tl_has_19 1 s_0 rfl (Nat.le_of_ble_eq_true rfl) (Nat.le_of_ble_eq_true rfl) rfl rfl lk_tl_19 ?_
      refine wp_aload_n d_tl_has_22 rfl 0 rfl ?_
      refine wp_getr d_tl_has_23 0 s_0 rfl (Nat.le_of_ble_eq_true rfl) (Nat.le_of_ble_eq_true rfl) rfl rfl lk_tl_10 ?_
      refine wp_aload_n d_tl_has_26 rfl 0 rfl ?_
      refine wp_geti d_tl_has_27 6 s_0 rfl (Nat.le_of_ble_eq_true rfl) (Nat.le_of_ble_eq_true rfl) rfl lk_tl_51 ?_
      refine wp_aload_n d_tl_has_30 rfl 0 rfl ?_
      refine wp_getr d_tl_has_31 3 s_0 rfl (Nat.le_of_ble_eq_true rfl) (Nat.le_of_ble_eq_true rfl) rfl rfl lk_tl_33 ?_
      refine wp_callV [pR _, pI _, pR _] _ d_tl_has_34 jd_ye_live lk_tl_162 rfl s_40 rfl (Nat.le_of_ble_eq_true rfl) (Nat.le_of_ble_eq_true rfl) rfl ?_
      refine clV_k h ?_
      intro M3 h
      refine wp_aload_n d_tl_has_37 rfl 0 rfl ?_
      refine wp_getr d_tl_has_38 1 s_0 rfl (Nat.le_of_ble_eq_true rfl) (Nat.le_of_ble_eq_true rfl) rfl rfl lk_tl_19 ?_
      refine wp_iload_n d_tl_has_41 rfl 1 rfl ?_
      refine wp_iload_n d_tl_has_42 rfl 2 rfl ?_
      refine wp_callV [pI _, pI _] _ d_tl_has_43 jd_ye_holderOf lk_tl_173 rfl s_40 rfl (Nat.le_of_ble_eq_true rfl) (Nat.le_of_ble_eq_true rfl) rfl ?_
      refine clI_k h ?_
      intro x5 M4 h
      exact wp_iret d_tl_has_46 rfl ⟨Nat.le_of_ble_eq_true rfl, Nat.le_of_ble_eq_true rfl⟩ ⟨_, rfl, rfl, rfl, h⟩
    · have h := h.2 c4
      refine wp_bipush d_tl_has_15 ⟨by decide, by decide⟩ (by decide) ?_
      exact wp_iret d_tl_has_17 rfl ⟨Nat.le_of_ble_eq_true rfl, Nat.le_of_ble_eq_true rfl⟩ ⟨_, rfl, rfl, rfl, h⟩
set_option maxHeartbeats 8000000 in
theorem e_tl_came {G : GT} {M : MT} {P : Int → MT → Prop} (v1 : Int) (v2 : Int)
    (h : ClI G J_tl_within M [pI v1, pI 0, pI (w32 ((M 1 6) - 1))] (fun x1 M1 => ((x1 = 0 → P (-1002) M1) ∧ (¬ x1 = 0 → ClI G J_tl_within M1 [pI v2, pI 0, pI 2] (fun x3 M2 => ((¬ x3 = 0 → ClV G J_ye_live M2 [pR 40, pR 1, pI (M2 0 6), pR 84] (fun M3 => ((0 ≤ v1 ∧ v1 < 12) ∧ ((¬ v2 = 2 → (¬ v2 = 0 → ((M3 (28 + v1.toNat) 5) = 0 → P 0 M3) ∧ (¬ (M3 (28 + v1.toNat) 5) = 0 → P 1 M3)) ∧ (v2 = 0 → ((M3 (28 + v1.toNat) 4) = 0 → P 0 M3) ∧ (¬ (M3 (28 + v1.toNat) 4) = 0 → P 1 M3))) ∧ (v2 = 2 → P (M3 (28 + v1.toNat) 6) M3))))) ∧ (x3 = 0 → P (-1002) M2))))))) : ClI G J_tl_came M [pR 0, pI v1, pI v2] P := by
  show Wp G J_tl_came 0 0 0 [(0, pR 0), (1, pI v1), (2, pI v2)] [] NN RF M _
  refine wp_iload_n d_tl_came_0 rfl 1 rfl ?_
  refine wp_iconst d_tl_came_1 ⟨by decide, by decide⟩ ?_
  refine wp_aload_n d_tl_came_2 rfl 0 rfl ?_
  refine wp_getr d_tl_came_3 0 s_0 rfl (Nat.le_of_ble_eq_true rfl) (Nat.le_of_ble_eq_true rfl) rfl rfl lk_tl_10 ?_
  refine wp_geti d_tl_came_6 6 s_1 rfl (Nat.le_of_ble_eq_true rfl) (Nat.le_of_ble_eq_true rfl) rfl lk_tl_118 ?_
  refine wp_iconst d_tl_came_9 ⟨by decide, by decide⟩ ?_
  refine wp_isub d_tl_came_10 ?_
  refine wp_callS [pI _, pI _, pI _] d_tl_came_11 jd_tl_within lk_tl_59 rfl (Nat.le_of_ble_eq_true rfl) rfl ?_
  refine clI_k h ?_
  intro x1 M1 h
  refine wp_if_eq 26 d_tl_came_14 (by decide) (fun c2 => ?_) (fun c2 => ?_)
  · have h := h.1 c2
    refine wp_sipush d_tl_came_26 ⟨by decide, by decide⟩ (by decide) ?_
    exact wp_iret d_tl_came_29 rfl ⟨Nat.le_of_ble_eq_true rfl, Nat.le_of_ble_eq_true rfl⟩ ⟨_, rfl, rfl, rfl, h⟩
  · have h := h.2 c2
    refine wp_iload_n d_tl_came_17 rfl 2 rfl ?_
    refine wp_iconst d_tl_came_18 ⟨by decide, by decide⟩ ?_
    refine wp_iconst d_tl_came_19 ⟨by decide, by decide⟩ ?_
    refine wp_callS [pI _, pI _, pI _] d_tl_came_20 jd_tl_within lk_tl_59 rfl (Nat.le_of_ble_eq_true rfl) rfl ?_
    refine clI_k h ?_
    intro x3 M2 h
    refine wp_if_ne 30 d_tl_came_23 (by decide) (fun c4 => ?_) (fun c4 => ?_)
    · have h := h.1 c4
      refine wp_aload_n d_tl_came_30 rfl 0 rfl ?_
      refine wp_getr d_tl_came_31 1 s_0 rfl (Nat.le_of_ble_eq_true rfl) (Nat.le_of_ble_eq_true rfl) rfl rfl lk_tl_19 ?_
      refine wp_aload_n d_tl_came_34 rfl 0 rfl ?_
      refine wp_getr d_tl_came_35 0 s_0 rfl (Nat.le_of_ble_eq_true rfl) (Nat.le_of_ble_eq_true rfl) rfl rfl lk_tl_10 ?_
      refine wp_aload_n d_tl_came_38 rfl 0 rfl ?_
      refine wp_geti d_tl_came_39 6 s_0 rfl (Nat.le_of_ble_eq_true rfl) (Nat.le_of_ble_eq_true rfl) rfl lk_tl_51 ?_
      refine wp_aload_n d_tl_came_42 rfl 0 rfl ?_
      refine wp_getr d_tl_came_43 3 s_0 rfl (Nat.le_of_ble_eq_true rfl) (Nat.le_of_ble_eq_true rfl) rfl rfl lk_tl_33 ?_
      refine wp_callV [pR _, pI _, pR _] _ d_tl_came_46 jd_ye_live lk_tl_162 rfl s_40 rfl (Nat.le_of_ble_eq_true rfl) (Nat.le_of_ble_eq_true rfl) rfl ?_
      refine clV_k h ?_
      intro M3 h
      refine wp_aload_n d_tl_came_49 rfl 0 rfl ?_
      refine wp_getr d_tl_came_50 0 s_0 rfl (Nat.le_of_ble_eq_true rfl) (Nat.le_of_ble_eq_true rfl) rfl rfl lk_tl_10 ?_
      refine wp_getr d_tl_came_53 3 s_1 rfl (Nat.le_of_ble_eq_true rfl) (Nat.le_of_ble_eq_true rfl) rfl rfl lk_tl_121 ?_
      refine wp_iload_n d_tl_came_56 rfl 1 rfl ?_
      obtain ⟨⟨a5, b5⟩, h⟩ := h
      refine wp_aald (t := 3) d_tl_came_57 s_5 rfl (Nat.le_of_ble_eq_true rfl) a5 b5 (k_loans _ (nat_lt a5 b5)).1 ?_
      refine wp_astore_n (L2 := [(0, pR 0), (1, pI _), (2, pI _), (3, pR _)]) d_tl_came_58 rfl (Nat.le_of_ble_eq_true rfl) [1, 2, 3, 0] rfl ?_
      refine wp_iload_n d_tl_came_59 rfl 2 rfl ?_
      refine wp_iconst d_tl_came_60 ⟨by decide, by decide⟩ ?_
      refine wp_icmp_ne 69 d_tl_came_61 (by decide) (fun c6 => ?_) (fun c6 => ?_)
      · have h := h.1 c6
        refine wp_iload_n d_tl_came_69 rfl 2 rfl ?_
        refine wp_if_ne 80 d_tl_came_70 (by decide) (fun c7 => ?_) (fun c7 => ?_)
        · have h := h.1 c7
          refine wp_aload_n d_tl_came_80 rfl 3 rfl ?_
          refine wp_geti d_tl_came_81 5 (k_loans _ (nat_lt a5 b5)).2.1 rfl (k_loans _ (nat_lt a5 b5)).2.2 (Nat.le_of_ble_eq_true rfl) rfl lk_tl_183 ?_
          refine wp_istore (L2 := [(0, pR 0), (1, pI _), (2, pI _), (3, pR _), (4, pI _)]) d_tl_came_84 (Nat.le_of_ble_eq_true rfl) [1, 2, 3, 4, 0] rfl ?_
          refine wp_iload d_tl_came_86 4 rfl ?_
          refine wp_if_eq 95 d_tl_came_88 (by decide) (fun c8 => ?_) (fun c8 => ?_)
          · have h := h.1 c8
            refine wp_iconst d_tl_came_95 ⟨by decide, by decide⟩ ?_
            exact wp_iret d_tl_came_96 rfl ⟨Nat.le_of_ble_eq_true rfl, Nat.le_of_ble_eq_true rfl⟩ ⟨_, rfl, rfl, rfl, h⟩
          · have h := h.2 c8
            refine wp_iconst d_tl_came_91 ⟨by decide, by decide⟩ ?_
            refine wp_goto 96 d_tl_came_92 (by decide) ?_
            exact wp_iret d_tl_came_96 rfl ⟨Nat.le_of_ble_eq_true rfl, Nat.le_of_ble_eq_true rfl⟩ ⟨_, rfl, rfl, rfl, h⟩
        · have h := h.2 c7
          refine wp_aload_n d_tl_came_73 rfl 3 rfl ?_
          refine wp_geti d_tl_came_74 4 (k_loans _ (nat_lt a5 b5)).2.1 rfl (k_loans _ (nat_lt a5 b5)).2.2 (Nat.le_of_ble_eq_true rfl) rfl lk_tl_179 ?_
          refine wp_goto 84 d_tl_came_77 (by decide) ?_
          refine wp_istore (L2 := [(0, pR 0), (1, pI _), (2, pI _), (3, pR _), (4, pI _)]) d_tl_came_84 (Nat.le_of_ble_eq_true rfl) [1, 2, 3, 4, 0] rfl ?_
          refine wp_iload d_tl_came_86 4 rfl ?_
          refine wp_if_eq 95 d_tl_came_88 (by decide) (fun c8 => ?_) (fun c8 => ?_)
          · have h := h.1 c8
            refine wp_iconst d_tl_came_95 ⟨by decide, by decide⟩ ?_
            exact wp_iret d_tl_came_96 rfl ⟨Nat.le_of_ble_eq_true rfl, Nat.le_of_ble_eq_true rfl⟩ ⟨_, rfl, rfl, rfl, h⟩
          · have h := h.2 c8
            refine wp_iconst d_tl_came_91 ⟨by decide, by decide⟩ ?_
            refine wp_goto 96 d_tl_came_92 (by decide) ?_
            exact wp_iret d_tl_came_96 rfl ⟨Nat.le_of_ble_eq_true rfl, Nat.le_of_ble_eq_true rfl⟩ ⟨_, rfl, rfl, rfl, h⟩
      · have h := h.2 c6
        refine wp_aload_n d_tl_came_64 rfl 3 rfl ?_
        refine wp_geti d_tl_came_65 6 (k_loans _ (nat_lt a5 b5)).2.1 rfl (k_loans _ (nat_lt a5 b5)).2.2 (Nat.le_of_ble_eq_true rfl) rfl lk_tl_176 ?_
        exact wp_iret d_tl_came_68 rfl ⟨Nat.le_of_ble_eq_true rfl, Nat.le_of_ble_eq_true rfl⟩ ⟨_, rfl, rfl, rfl, h⟩
    · have h := h.2 c4
      refine wp_sipush d_tl_came_26 ⟨by decide, by decide⟩ (by decide) ?_
      exact wp_iret d_tl_came_29 rfl ⟨Nat.le_of_ble_eq_true rfl, Nat.le_of_ble_eq_true rfl⟩ ⟨_, rfl, rfl, rfl, h⟩
set_option maxHeartbeats 8000000 in
theorem e_tl_interest {G : GT} {M : MT} {P : Int → MT → Prop} (v1 : Int)
    (h : ClI G J_tl_isYear M [pI v1] (fun x1 M1 => ((x1 = 0 → P (-1002) M1) ∧ (¬ x1 = 0 → ClI G J_tl_interestBy M1 [pR 0, pI (M1 0 6), pI v1] (fun x3 M2 => (P x3 M2)))))) : ClI G J_tl_interest M [pR 0, pI v1] P := by
  show Wp G J_tl_interest 0 0 0 [(0, pR 0), (1, pI v1)] [] NN RF M _
  refine wp_iload_n d_tl_interest_0 rfl 1 rfl ?_
  refine wp_callS [pI _] d_tl_interest_1 jd_tl_isYear lk_tl_115 rfl (Nat.le_of_ble_eq_true rfl) rfl ?_
  refine clI_k h ?_
  intro x1 M1 h
  refine wp_if_eq 19 d_tl_interest_4 (by decide) (fun c2 => ?_) (fun c2 => ?_)
  · have h := h.1 c2
    refine wp_sipush d_tl_interest_19 ⟨by decide, by decide⟩ (by decide) ?_
    exact wp_iret d_tl_interest_22 rfl ⟨Nat.le_of_ble_eq_true rfl, Nat.le_of_ble_eq_true rfl⟩ ⟨_, rfl, rfl, rfl, h⟩
  · have h := h.2 c2
    refine wp_aload_n d_tl_interest_7 rfl 0 rfl ?_
    refine wp_aload_n d_tl_interest_8 rfl 0 rfl ?_
    refine wp_geti d_tl_interest_9 6 s_0 rfl (Nat.le_of_ble_eq_true rfl) (Nat.le_of_ble_eq_true rfl) rfl lk_tl_51 ?_
    refine wp_iload_n d_tl_interest_12 rfl 1 rfl ?_
    refine wp_callV [pI _, pI _] _ d_tl_interest_13 jd_tl_interestBy lk_tl_186 rfl s_0 rfl (Nat.le_of_ble_eq_true rfl) (Nat.le_of_ble_eq_true rfl) rfl ?_
    refine clI_k h ?_
    intro x3 M2 h
    refine wp_goto 22 d_tl_interest_16 (by decide) ?_
    exact wp_iret d_tl_interest_22 rfl ⟨Nat.le_of_ble_eq_true rfl, Nat.le_of_ble_eq_true rfl⟩ ⟨_, rfl, rfl, rfl, h⟩
set_option maxHeartbeats 8000000 in
theorem e_tl_home {G : GT} {M : MT} {P : Int → MT → Prop} (v1 : Int)
    (h : ClI G J_tl_isYear M [pI v1] (fun x1 M1 => ((¬ x1 = 0 → ClV G J_ye_live M1 [pR 40, pR 1, pI (M1 0 6), pR 84] (fun M2 => (WpI G J_tl_home 31 [(0, pR 0), (2, pI v1)] [] M2 P))) ∧ (x1 = 0 → P (-2) M1)))) : ClI G J_tl_home M [pR 0, pI v1] P := by
  show Wp G J_tl_home 0 0 0 [(0, pR 0), (1, pI v1)] [] NN RF M _
  refine wp_iload_n d_tl_home_0 rfl 1 rfl ?_
  refine wp_callS [pI _] d_tl_home_1 jd_tl_isYear lk_tl_115 rfl (Nat.le_of_ble_eq_true rfl) rfl ?_
  refine clI_k h ?_
  intro x1 M1 h
  refine wp_if_ne 10 d_tl_home_4 (by decide) (fun c2 => ?_) (fun c2 => ?_)
  · have h := h.1 c2
    refine wp_aload_n d_tl_home_10 rfl 0 rfl ?_
    refine wp_getr d_tl_home_11 1 s_0 rfl (Nat.le_of_ble_eq_true rfl) (Nat.le_of_ble_eq_true rfl) rfl rfl lk_tl_19 ?_
    refine wp_aload_n d_tl_home_14 rfl 0 rfl ?_
    refine wp_getr d_tl_home_15 0 s_0 rfl (Nat.le_of_ble_eq_true rfl) (Nat.le_of_ble_eq_true rfl) rfl rfl lk_tl_10 ?_
    refine wp_aload_n d_tl_home_18 rfl 0 rfl ?_
    refine wp_geti d_tl_home_19 6 s_0 rfl (Nat.le_of_ble_eq_true rfl) (Nat.le_of_ble_eq_true rfl) rfl lk_tl_51 ?_
    refine wp_aload_n d_tl_home_22 rfl 0 rfl ?_
    refine wp_getr d_tl_home_23 3 s_0 rfl (Nat.le_of_ble_eq_true rfl) (Nat.le_of_ble_eq_true rfl) rfl rfl lk_tl_33 ?_
    refine wp_callV [pR _, pI _, pR _] _ d_tl_home_26 jd_ye_live lk_tl_162 rfl s_40 rfl (Nat.le_of_ble_eq_true rfl) (Nat.le_of_ble_eq_true rfl) rfl ?_
    refine clV_k h ?_
    intro M2 h
    refine wp_iload_n d_tl_home_29 rfl 1 rfl ?_
    refine wp_istore_n (L2 := [(0, pR 0), (1, pI _), (2, pI _)]) d_tl_home_30 rfl (Nat.le_of_ble_eq_true rfl) [1, 2, 0] rfl ?_
    refine wp_sub (L2 := [(0, pR 0), (2, pI _)]) [0, 2] rfl ?_
    exact h
  · have h := h.2 c2
    refine wp_bipush d_tl_home_7 ⟨by decide, by decide⟩ (by decide) ?_
    exact wp_iret d_tl_home_9 rfl ⟨Nat.le_of_ble_eq_true rfl, Nat.le_of_ble_eq_true rfl⟩ ⟨_, rfl, rfl, rfl, h⟩
set_option maxHeartbeats 8000000 in
theorem b_tl_home_31 {G : GT} {M : MT} {P : Int → MT → Prop} (v2 : Int)
    (h : (40 ≤ v2 → P (-1) M) ∧ (v2 < 40 → ClI G J_ye_allAtBank M [pR 40, pR 1, pI v2] (fun x2 M1 => ((x2 = 0 → WpI G J_tl_home 31 [(0, pR 0), (2, pI (w32 (v2 + 1)))] [] M1 P) ∧ (¬ x2 = 0 → P v2 M1))))) : WpI G J_tl_home 31 [(0, pR 0), (2, pI v2)] [] M P := by
  show Wp G J_tl_home 0 0 31 [(0, pR 0), (2, pI v2)] [] NN RF M _
  refine wp_iload_n d_tl_home_31 rfl 1 rfl ?_
  refine wp_bipush d_tl_home_32 ⟨by decide, by decide⟩ (by decide) ?_
  refine wp_icmp_ge 60 d_tl_home_34 (by decide) (fun c1 => ?_) (fun c1 => ?_)
  · have h := h.1 c1
    refine wp_iconst d_tl_home_60 ⟨by decide, by decide⟩ ?_
    exact wp_iret d_tl_home_61 rfl ⟨Nat.le_of_ble_eq_true rfl, Nat.le_of_ble_eq_true rfl⟩ ⟨_, rfl, rfl, rfl, h⟩
  · have h := h.2 c1
    refine wp_aload_n d_tl_home_37 rfl 0 rfl ?_
    refine wp_getr d_tl_home_38 1 s_0 rfl (Nat.le_of_ble_eq_true rfl) (Nat.le_of_ble_eq_true rfl) rfl rfl lk_tl_19 ?_
    refine wp_aload_n d_tl_home_41 rfl 0 rfl ?_
    refine wp_getr d_tl_home_42 0 s_0 rfl (Nat.le_of_ble_eq_true rfl) (Nat.le_of_ble_eq_true rfl) rfl rfl lk_tl_10 ?_
    refine wp_iload_n d_tl_home_45 rfl 1 rfl ?_
    refine wp_callV [pR _, pI _] _ d_tl_home_46 jd_ye_allAtBank lk_tl_189 rfl s_40 rfl (Nat.le_of_ble_eq_true rfl) (Nat.le_of_ble_eq_true rfl) rfl ?_
    refine clI_k h ?_
    intro x2 M1 h
    refine wp_if_eq 54 d_tl_home_49 (by decide) (fun c3 => ?_) (fun c3 => ?_)
    · have h := h.1 c3
      refine wp_iinc (L2 := [(0, pR 0), (2, pI _)]) d_tl_home_54 1 rfl (Nat.le_of_ble_eq_true rfl) [1, 0] rfl ?_
      refine wp_goto 31 d_tl_home_57 (by decide) ?_
      exact h
    · have h := h.2 c3
      refine wp_iload_n d_tl_home_52 rfl 1 rfl ?_
      exact wp_iret d_tl_home_53 rfl ⟨Nat.le_of_ble_eq_true rfl, Nat.le_of_ble_eq_true rfl⟩ ⟨_, rfl, rfl, rfl, h⟩
