set_option maxHeartbeats 8000000 in
theorem e_tr_begin {G : GT} {M : MT} {P : MT → Prop} (o1 : Nat) (f1 : TU o1)
    (h : ClV G J_tu_become M [pR (76 + 2 * 0), pR o1] (fun M1 => (∀ M2 : MT, M2 = mu M1 73 2 0 → (P M2)))) : ClV G J_tr_begin M [pR 73, pR o1] P := by
  show Wp G J_tr_begin 0 0 0 [(0, pR 73), (1, pR o1)] [] NN RF M _
  refine wp_aload_n d_tr_begin_0 rfl 0 rfl ?_
  refine wp_getr d_tr_begin_1 0 s_73 rfl (Nat.le_of_ble_eq_true rfl) (Nat.le_of_ble_eq_true rfl) rfl rfl lk_tr_11 ?_
  refine wp_iconst d_tr_begin_4 ⟨by decide, by decide⟩ ?_
  refine wp_aald (t := 1) d_tr_begin_5 s_74 rfl (Nat.le_of_ble_eq_true rfl) (by decide) (by decide) (k_hummed 0 (Nat.le_of_ble_eq_true rfl)).1 ?_
  refine wp_aload_n d_tr_begin_6 rfl 1 rfl ?_
  refine wp_callV [pR _] _ d_tr_begin_7 jd_tu_become lk_tr_22 rfl (k_hummed 0 (Nat.le_of_ble_eq_true rfl)).2.1 rfl (Nat.lt_of_succ_lt (k_hummed 0 (Nat.le_of_ble_eq_true rfl)).2.2.2.2) (Nat.le_of_ble_eq_true rfl) rfl ?_
  refine clV_k h ?_
  intro M1 h
  refine wp_aload_n d_tr_begin_10 rfl 0 rfl ?_
  refine wp_iconst d_tr_begin_11 ⟨by decide, by decide⟩ ?_
  refine wp_puti d_tr_begin_12 2 s_73 rfl (Nat.le_of_ble_eq_true rfl) (Nat.le_of_ble_eq_true rfl) (Or.inl rfl) rfl lk_tr_26 ?_
  have h := h _ rfl
  exact wp_vret d_tr_begin_15 rfl ⟨Nat.le_of_ble_eq_true rfl, Nat.le_of_ble_eq_true rfl⟩ ⟨rfl, rfl, rfl, h⟩
set_option maxHeartbeats 8000000 in
theorem e_tr_rowsOf {G : GT} {M : MT} {P : Int → MT → Prop} (v2 : Int)
    (h : WpI G J_tr_rowsOf 5 [(1, pR 1), (2, pI v2), (3, pI 1), (4, pI 0)] [] M P) : ClI G J_tr_rowsOf M [pR 73, pR 1, pI v2] P := by
  show Wp G J_tr_rowsOf 0 0 0 [(0, pR 73), (1, pR 1), (2, pI v2)] [] NN RF M _
  refine wp_iconst d_tr_rowsOf_0 ⟨by decide, by decide⟩ ?_
  refine wp_istore_n (L2 := [(0, pR 73), (1, pR 1), (2, pI _), (3, pI _)]) d_tr_rowsOf_1 rfl (Nat.le_of_ble_eq_true rfl) [1, 2, 3, 0] rfl ?_
  refine wp_iconst d_tr_rowsOf_2 ⟨by decide, by decide⟩ ?_
  refine wp_istore (L2 := [(0, pR 73), (1, pR 1), (2, pI _), (3, pI _), (4, pI _)]) d_tr_rowsOf_3 (Nat.le_of_ble_eq_true rfl) [1, 2, 3, 4, 0] rfl ?_
  refine wp_sub (L2 := [(1, pR 1), (2, pI _), (3, pI _), (4, pI _)]) [1, 2, 3, 4] rfl ?_
  exact h
set_option maxHeartbeats 8000000 in
theorem b_tr_rowsOf_5 {G : GT} {M : MT} {P : Int → MT → Prop} (v2 : Int) (v3 : Int) (v4 : Int)
    (h : (v2 ≤ v4 → P v3 M) ∧ (v4 < v2 → WpI G J_tr_rowsOf 5 [(1, pR 1), (2, pI v2), (3, pI (w32 (v3 * (M 1 5)))), (4, pI (w32 (v4 + 1)))] [] M P)) : WpI G J_tr_rowsOf 5 [(1, pR 1), (2, pI v2), (3, pI v3), (4, pI v4)] [] M P := by
  show Wp G J_tr_rowsOf 0 0 5 [(1, pR 1), (2, pI v2), (3, pI v3), (4, pI v4)] [] NN RF M _
  refine wp_iload d_tr_rowsOf_5 3 rfl ?_
  refine wp_iload_n d_tr_rowsOf_7 rfl 1 rfl ?_
  refine wp_icmp_ge 24 d_tr_rowsOf_8 (by decide) (fun c1 => ?_) (fun c1 => ?_)
  · have h := h.1 c1
    refine wp_iload_n d_tr_rowsOf_24 rfl 2 rfl ?_
    exact wp_iret d_tr_rowsOf_25 rfl ⟨Nat.le_of_ble_eq_true rfl, Nat.le_of_ble_eq_true rfl⟩ ⟨_, rfl, rfl, rfl, h⟩
  · have h := h.2 c1
    refine wp_iload_n d_tr_rowsOf_11 rfl 2 rfl ?_
    refine wp_aload_n d_tr_rowsOf_12 rfl 0 rfl ?_
    refine wp_geti d_tr_rowsOf_13 5 s_1 rfl (Nat.le_of_ble_eq_true rfl) (Nat.le_of_ble_eq_true rfl) rfl lk_tr_30 ?_
    refine wp_imul d_tr_rowsOf_16 ?_
    refine wp_istore_n (L2 := [(1, pR 1), (2, pI _), (3, pI _), (4, pI _)]) d_tr_rowsOf_17 rfl (Nat.le_of_ble_eq_true rfl) [1, 2, 0, 3] rfl ?_
    refine wp_iinc (L2 := [(1, pR 1), (2, pI _), (3, pI _), (4, pI _)]) d_tr_rowsOf_18 3 rfl (Nat.le_of_ble_eq_true rfl) [1, 2, 3, 0] rfl ?_
    refine wp_goto 5 d_tr_rowsOf_21 (by decide) ?_
    exact h
set_option maxHeartbeats 8000000 in
theorem e_tr_turnOf {G : GT} {M : MT} {P : Int → MT → Prop} (v2 : Int) (v3 : Int) (v4 : Int)
    (h : ClI G J_tr_rowsOf M [pR 73, pR 1, pI (w32 ((w32 (v2 - 1)) - v4))] (fun x1 M1 => ((v2 ≤ v4 → P (-1) M1) ∧ (v4 < v2 → ((M 1 5) ≤ 0 → P (-1) M1) ∧ (0 < (M 1 5) → (x1 ≤ 0 → P (-1) M1) ∧ (0 < x1 → ¬ x1 = 0 ∧ (¬ (M 1 5) = 0 ∧ (P (w32 (Int.tmod (w32 (Int.tdiv v3 x1)) (M 1 5))) M1)))))))) : ClI G J_tr_turnOf M [pR 73, pR 1, pI v2, pI v3, pI v4] P := by
  show Wp G J_tr_turnOf 0 0 0 [(0, pR 73), (1, pR 1), (2, pI v2), (3, pI v3), (4, pI v4)] [] NN RF M _
  refine wp_aload_n d_tr_turnOf_0 rfl 1 rfl ?_
  refine wp_geti d_tr_turnOf_1 5 s_1 rfl (Nat.le_of_ble_eq_true rfl) (Nat.le_of_ble_eq_true rfl) rfl lk_tr_30 ?_
  refine wp_istore (L2 := [(0, pR 73), (1, pR 1), (2, pI _), (3, pI _), (4, pI _), (5, pI _)]) d_tr_turnOf_4 (Nat.le_of_ble_eq_true rfl) [1, 2, 3, 4, 5, 0] rfl ?_
  refine wp_aload_n d_tr_turnOf_6 rfl 0 rfl ?_
  refine wp_aload_n d_tr_turnOf_7 rfl 1 rfl ?_
  refine wp_iload_n d_tr_turnOf_8 rfl 2 rfl ?_
  refine wp_iconst d_tr_turnOf_9 ⟨by decide, by decide⟩ ?_
  refine wp_isub d_tr_turnOf_10 ?_
  refine wp_iload d_tr_turnOf_11 4 rfl ?_
  refine wp_isub d_tr_turnOf_13 ?_
  refine wp_callV [pR _, pI _] _ d_tr_turnOf_14 jd_tr_rowsOf lk_tr_35 rfl s_73 rfl (Nat.le_of_ble_eq_true rfl) (Nat.le_of_ble_eq_true rfl) rfl ?_
  refine clI_k h ?_
  intro x1 M1 h
  refine wp_istore (L2 := [(0, pR 73), (1, pR 1), (2, pI _), (3, pI _), (4, pI _), (5, pI _), (6, pI _)]) d_tr_turnOf_17 (Nat.le_of_ble_eq_true rfl) [1, 2, 3, 4, 5, 6, 0] rfl ?_
  refine wp_iload d_tr_turnOf_19 4 rfl ?_
  refine wp_iload_n d_tr_turnOf_21 rfl 2 rfl ?_
  refine wp_icmp_ge 45 d_tr_turnOf_22 (by decide) (fun c2 => ?_) (fun c2 => ?_)
  · have h := h.1 c2
    refine wp_iconst d_tr_turnOf_45 ⟨by decide, by decide⟩ ?_
    exact wp_iret d_tr_turnOf_46 rfl ⟨Nat.le_of_ble_eq_true rfl, Nat.le_of_ble_eq_true rfl⟩ ⟨_, rfl, rfl, rfl, h⟩
  · have h := h.2 c2
    refine wp_iload d_tr_turnOf_25 5 rfl ?_
    refine wp_if_le 45 d_tr_turnOf_27 (by decide) (fun c3 => ?_) (fun c3 => ?_)
    · have h := h.1 c3
      refine wp_iconst d_tr_turnOf_45 ⟨by decide, by decide⟩ ?_
      exact wp_iret d_tr_turnOf_46 rfl ⟨Nat.le_of_ble_eq_true rfl, Nat.le_of_ble_eq_true rfl⟩ ⟨_, rfl, rfl, rfl, h⟩
    · have h := h.2 c3
      refine wp_iload d_tr_turnOf_30 6 rfl ?_
      refine wp_if_le 45 d_tr_turnOf_32 (by decide) (fun c4 => ?_) (fun c4 => ?_)
      · have h := h.1 c4
        refine wp_iconst d_tr_turnOf_45 ⟨by decide, by decide⟩ ?_
        exact wp_iret d_tr_turnOf_46 rfl ⟨Nat.le_of_ble_eq_true rfl, Nat.le_of_ble_eq_true rfl⟩ ⟨_, rfl, rfl, rfl, h⟩
      · have h := h.2 c4
        refine wp_iload_n d_tr_turnOf_35 rfl 3 rfl ?_
        refine wp_iload d_tr_turnOf_36 6 rfl ?_
        obtain ⟨g5, h⟩ := h
        refine wp_idiv d_tr_turnOf_38 g5 ?_
        refine wp_iload d_tr_turnOf_39 5 rfl ?_
        obtain ⟨g6, h⟩ := h
        refine wp_irem d_tr_turnOf_41 g6 ?_
        refine wp_goto 46 d_tr_turnOf_42 (by decide) ?_
        exact wp_iret d_tr_turnOf_46 rfl ⟨Nat.le_of_ble_eq_true rfl, Nat.le_of_ble_eq_true rfl⟩ ⟨_, rfl, rfl, rfl, h⟩
set_option maxHeartbeats 8000000 in
theorem e_tr_after {G : GT} {M : MT} {P : Nat → MT → Prop} (v2 : Int) (v3 : Int)
    (h : WpR G J_tr_after 3 [(0, pR 73), (1, pR 1), (2, pI v2), (3, pI v3), (4, pI 0)] [] M P) : ClR G J_tr_after M [pR 73, pR 1, pI v2, pI v3] P := by
  show Wp G J_tr_after 0 0 0 [(0, pR 73), (1, pR 1), (2, pI v2), (3, pI v3)] [] NN RF M _
  refine wp_iconst d_tr_after_0 ⟨by decide, by decide⟩ ?_
  refine wp_istore (L2 := [(0, pR 73), (1, pR 1), (2, pI _), (3, pI _), (4, pI _)]) d_tr_after_1 (Nat.le_of_ble_eq_true rfl) [1, 2, 3, 4, 0] rfl ?_
  exact h
set_option maxHeartbeats 8000000 in
theorem b_tr_after_3 {G : GT} {M : MT} {P : Nat → MT → Prop} (v2 : Int) (v3 : Int) (v4 : Int)
    (h : (v2 ≤ v4 → (0 ≤ v2 ∧ v2 < 4) ∧ (P (76 + 2 * v2.toNat) M)) ∧ (v4 < v2 → ClI G J_tr_turnOf M [pR 73, pR 1, pI v2, pI v3, pI v4] (fun x2 M1 => ((x2 = (-1) → WpR G J_tr_after 3 [(0, pR 73), (1, pR 1), (2, pI v2), (3, pI v3), (4, pI (w32 (v4 + 1)))] [] M1 P) ∧ (¬ x2 = (-1) → ((M1 73 2) ≤ v4 → (0 ≤ v4 ∧ v4 < 3) ∧ (∀ M2 : MT, M2 = mu M1 75 (v4.toNat) x2 → ((0 ≤ (w32 (v4 + 1)) ∧ (w32 (v4 + 1)) < 4) ∧ ((0 ≤ v4 ∧ v4 < 4) ∧ ((0 ≤ x2 ∧ x2 < 6) ∧ (ClV G J_tu_becomeHummed M2 [pR (76 + 2 * (w32 (v4 + 1)).toNat), pR (76 + 2 * v4.toNat), pR (22 + x2.toNat)] (fun M3 => (∀ M4 : MT, M4 = mu M3 73 2 (w32 (v4 + 1)) → (WpR G J_tr_after 3 [(0, pR 73), (1, pR 1), (2, pI v2), (3, pI v3), (4, pI (w32 (v4 + 1)))] [] M4 P))))))))) ∧ (v4 < (M1 73 2) → (0 ≤ v4 ∧ v4 < 3) ∧ (((M1 75 (v4.toNat)) = x2 → WpR G J_tr_after 3 [(0, pR 73), (1, pR 1), (2, pI v2), (3, pI v3), (4, pI (w32 (v4 + 1)))] [] M1 P) ∧ (¬ (M1 75 (v4.toNat)) = x2 → (0 ≤ v4 ∧ v4 < 3) ∧ (∀ M2 : MT, M2 = mu M1 75 (v4.toNat) x2 → ((0 ≤ (w32 (v4 + 1)) ∧ (w32 (v4 + 1)) < 4) ∧ ((0 ≤ v4 ∧ v4 < 4) ∧ ((0 ≤ x2 ∧ x2 < 6) ∧ (ClV G J_tu_becomeHummed M2 [pR (76 + 2 * (w32 (v4 + 1)).toNat), pR (76 + 2 * v4.toNat), pR (22 + x2.toNat)] (fun M3 => (∀ M4 : MT, M4 = mu M3 73 2 (w32 (v4 + 1)) → (WpR G J_tr_after 3 [(0, pR 73), (1, pR 1), (2, pI v2), (3, pI v3), (4, pI (w32 (v4 + 1)))] [] M4 P)))))))))))))))) : WpR G J_tr_after 3 [(0, pR 73), (1, pR 1), (2, pI v2), (3, pI v3), (4, pI v4)] [] M P := by
  show Wp G J_tr_after 0 0 3 [(0, pR 73), (1, pR 1), (2, pI v2), (3, pI v3), (4, pI v4)] [] NN RF M _
  refine wp_iload d_tr_after_3 4 rfl ?_
  refine wp_iload_n d_tr_after_5 rfl 2 rfl ?_
  refine wp_icmp_ge 96 d_tr_after_6 (by decide) (fun c1 => ?_) (fun c1 => ?_)
  · have h := h.1 c1
    refine wp_aload_n d_tr_after_96 rfl 0 rfl ?_
    refine wp_getr d_tr_after_97 0 s_73 rfl (Nat.le_of_ble_eq_true rfl) (Nat.le_of_ble_eq_true rfl) rfl rfl lk_tr_11 ?_
    refine wp_iload_n d_tr_after_100 rfl 2 rfl ?_
    obtain ⟨⟨a2, b2⟩, h⟩ := h
    refine wp_aald (t := 1) d_tr_after_101 s_74 rfl (Nat.le_of_ble_eq_true rfl) a2 b2 (k_hummed _ (nat_lt a2 b2)).1 ?_
    exact wp_aret d_tr_after_102 rfl ⟨Nat.le_of_ble_eq_true rfl, Nat.le_of_ble_eq_true rfl⟩ ⟨_, rfl, rfl, rfl, h⟩
  · have h := h.2 c1
    refine wp_aload_n d_tr_after_9 rfl 0 rfl ?_
    refine wp_aload_n d_tr_after_10 rfl 1 rfl ?_
    refine wp_iload_n d_tr_after_11 rfl 2 rfl ?_
    refine wp_iload_n d_tr_after_12 rfl 3 rfl ?_
    refine wp_iload d_tr_after_13 4 rfl ?_
    refine wp_callV [pR _, pI _, pI _, pI _] _ d_tr_after_15 jd_tr_turnOf lk_tr_39 rfl s_73 rfl (Nat.le_of_ble_eq_true rfl) (Nat.le_of_ble_eq_true rfl) rfl ?_
    refine clI_k h ?_
    intro x2 M1 h
    refine wp_istore (L2 := [(0, pR 73), (1, pR 1), (2, pI _), (3, pI _), (4, pI _), (5, pI _)]) d_tr_after_18 (Nat.le_of_ble_eq_true rfl) [1, 2, 3, 4, 5, 0] rfl ?_
    refine wp_iload d_tr_after_20 5 rfl ?_
    refine wp_iconst d_tr_after_22 ⟨by decide, by decide⟩ ?_
    refine wp_icmp_eq 90 d_tr_after_23 (by decide) (fun c3 => ?_) (fun c3 => ?_)
    · have h := h.1 c3
      refine wp_iinc (L2 := [(0, pR 73), (1, pR 1), (2, pI _), (3, pI _), (4, pI _), (5, pI _)]) d_tr_after_90 4 rfl (Nat.le_of_ble_eq_true rfl) [1, 2, 3, 4, 0, 5] rfl ?_
      refine wp_goto 3 d_tr_after_93 (by decide) ?_
      refine wp_sub (L2 := [(0, pR 73), (1, pR 1), (2, pI _), (3, pI _), (4, pI _)]) [0, 1, 2, 3, 4] rfl ?_
      exact h
    · have h := h.2 c3
      refine wp_iload d_tr_after_26 4 rfl ?_
      refine wp_aload_n d_tr_after_28 rfl 0 rfl ?_
      refine wp_geti d_tr_after_29 2 s_73 rfl (Nat.le_of_ble_eq_true rfl) (Nat.le_of_ble_eq_true rfl) rfl lk_tr_26 ?_
      refine wp_icmp_ge 47 d_tr_after_32 (by decide) (fun c4 => ?_) (fun c4 => ?_)
      · have h := h.1 c4
        refine wp_aload_n d_tr_after_47 rfl 0 rfl ?_
        refine wp_getr d_tr_after_48 1 s_73 rfl (Nat.le_of_ble_eq_true rfl) (Nat.le_of_ble_eq_true rfl) rfl rfl lk_tr_17 ?_
        refine wp_iload d_tr_after_51 4 rfl ?_
        refine wp_iload d_tr_after_53 5 rfl ?_
        obtain ⟨⟨a5, b5⟩, h⟩ := h
        refine wp_iast d_tr_after_55 s_75 (Nat.le_of_ble_eq_true rfl) a5 b5 ?_
        have h := h _ rfl
        refine wp_aload_n d_tr_after_56 rfl 0 rfl ?_
        refine wp_getr d_tr_after_57 0 s_73 rfl (Nat.le_of_ble_eq_true rfl) (Nat.le_of_ble_eq_true rfl) rfl rfl lk_tr_11 ?_
        refine wp_iload d_tr_after_60 4 rfl ?_
        refine wp_iconst d_tr_after_62 ⟨by decide, by decide⟩ ?_
        refine wp_iadd d_tr_after_63 ?_
        obtain ⟨⟨a6, b6⟩, h⟩ := h
        refine wp_aald (t := 1) d_tr_after_64 s_74 rfl (Nat.le_of_ble_eq_true rfl) a6 b6 (k_hummed _ (nat_lt a6 b6)).1 ?_
        refine wp_aload_n d_tr_after_65 rfl 0 rfl ?_
        refine wp_getr d_tr_after_66 0 s_73 rfl (Nat.le_of_ble_eq_true rfl) (Nat.le_of_ble_eq_true rfl) rfl rfl lk_tr_11 ?_
        refine wp_iload d_tr_after_69 4 rfl ?_
        obtain ⟨⟨a7, b7⟩, h⟩ := h
        refine wp_aald (t := 1) d_tr_after_71 s_74 rfl (Nat.le_of_ble_eq_true rfl) a7 b7 (k_hummed _ (nat_lt a7 b7)).1 ?_
        refine wp_aload_n d_tr_after_72 rfl 1 rfl ?_
        refine wp_getr d_tr_after_73 2 s_1 rfl (Nat.le_of_ble_eq_true rfl) (Nat.le_of_ble_eq_true rfl) rfl rfl lk_tr_43 ?_
        refine wp_iload d_tr_after_76 5 rfl ?_
        obtain ⟨⟨a8, b8⟩, h⟩ := h
        refine wp_aald (t := 2) d_tr_after_78 s_4 rfl (Nat.le_of_ble_eq_true rfl) a8 b8 (k_borrowers _ (nat_lt a8 b8)).1 ?_
        refine wp_callV [pR _, pR _] _ d_tr_after_79 jd_tu_becomeHummed lk_tr_47 rfl (k_hummed _ (nat_lt a6 b6)).2.1 rfl (Nat.lt_of_succ_lt (k_hummed _ (nat_lt a6 b6)).2.2.2.2) (Nat.le_of_ble_eq_true rfl) rfl ?_
        refine clV_k h ?_
        intro M3 h
        refine wp_aload_n d_tr_after_82 rfl 0 rfl ?_
        refine wp_iload d_tr_after_83 4 rfl ?_
        refine wp_iconst d_tr_after_85 ⟨by decide, by decide⟩ ?_
        refine wp_iadd d_tr_after_86 ?_
        refine wp_puti d_tr_after_87 2 s_73 rfl (Nat.le_of_ble_eq_true rfl) (Nat.le_of_ble_eq_true rfl) (Or.inl rfl) rfl lk_tr_26 ?_
        have h := h _ rfl
        refine wp_iinc (L2 := [(0, pR 73), (1, pR 1), (2, pI _), (3, pI _), (4, pI _), (5, pI _)]) d_tr_after_90 4 rfl (Nat.le_of_ble_eq_true rfl) [1, 2, 3, 4, 0, 5] rfl ?_
        refine wp_goto 3 d_tr_after_93 (by decide) ?_
        refine wp_sub (L2 := [(0, pR 73), (1, pR 1), (2, pI _), (3, pI _), (4, pI _)]) [0, 1, 2, 3, 4] rfl ?_
        exact h
      · have h := h.2 c4
        refine wp_aload_n d_tr_after_35 rfl 0 rfl ?_
        refine wp_getr d_tr_after_36 1 s_73 rfl (Nat.le_of_ble_eq_true rfl) (Nat.le_of_ble_eq_true rfl) rfl rfl lk_tr_17 ?_
        refine wp_iload d_tr_after_39 4 rfl ?_
        obtain ⟨⟨a5, b5⟩, h⟩ := h
        refine wp_iald d_tr_after_41 s_75 (Nat.le_of_ble_eq_true rfl) a5 b5 ?_
        refine wp_iload d_tr_after_42 5 rfl ?_
        refine wp_icmp_eq 90 d_tr_after_44 (by decide) (fun c6 => ?_) (fun c6 => ?_)
        · have h := h.1 c6
          refine wp_iinc (L2 := [(0, pR 73), (1, pR 1), (2, pI _), (3, pI _), (4, pI _), (5, pI _)]) d_tr_after_90 4 rfl (Nat.le_of_ble_eq_true rfl) [1, 2, 3, 4, 0, 5] rfl ?_
          refine wp_goto 3 d_tr_after_93 (by decide) ?_
          refine wp_sub (L2 := [(0, pR 73), (1, pR 1), (2, pI _), (3, pI _), (4, pI _)]) [0, 1, 2, 3, 4] rfl ?_
          exact h
        · have h := h.2 c6
          refine wp_aload_n d_tr_after_47 rfl 0 rfl ?_
          refine wp_getr d_tr_after_48 1 s_73 rfl (Nat.le_of_ble_eq_true rfl) (Nat.le_of_ble_eq_true rfl) rfl rfl lk_tr_17 ?_
          refine wp_iload d_tr_after_51 4 rfl ?_
          refine wp_iload d_tr_after_53 5 rfl ?_
          obtain ⟨⟨a7, b7⟩, h⟩ := h
          refine wp_iast d_tr_after_55 s_75 (Nat.le_of_ble_eq_true rfl) a7 b7 ?_
          have h := h _ rfl
          refine wp_aload_n d_tr_after_56 rfl 0 rfl ?_
          refine wp_getr d_tr_after_57 0 s_73 rfl (Nat.le_of_ble_eq_true rfl) (Nat.le_of_ble_eq_true rfl) rfl rfl lk_tr_11 ?_
          refine wp_iload d_tr_after_60 4 rfl ?_
          refine wp_iconst d_tr_after_62 ⟨by decide, by decide⟩ ?_
          refine wp_iadd d_tr_after_63 ?_
          obtain ⟨⟨a8, b8⟩, h⟩ := h
          refine wp_aald (t := 1) d_tr_after_64 s_74 rfl (Nat.le_of_ble_eq_true rfl) a8 b8 (k_hummed _ (nat_lt a8 b8)).1 ?_
          refine wp_aload_n d_tr_after_65 rfl 0 rfl ?_
          refine wp_getr d_tr_after_66 0 s_73 rfl (Nat.le_of_ble_eq_true rfl) (Nat.le_of_ble_eq_true rfl) rfl rfl lk_tr_11 ?_
          refine wp_iload d_tr_after_69 4 rfl ?_
          obtain ⟨⟨a9, b9⟩, h⟩ := h
          refine wp_aald (t := 1) d_tr_after_71 s_74 rfl (Nat.le_of_ble_eq_true rfl) a9 b9 (k_hummed _ (nat_lt a9 b9)).1 ?_
          refine wp_aload_n d_tr_after_72 rfl 1 rfl ?_
          refine wp_getr d_tr_after_73 2 s_1 rfl (Nat.le_of_ble_eq_true rfl) (Nat.le_of_ble_eq_true rfl) rfl rfl lk_tr_43 ?_
          refine wp_iload d_tr_after_76 5 rfl ?_
          obtain ⟨⟨a10, b10⟩, h⟩ := h
          refine wp_aald (t := 2) d_tr_after_78 s_4 rfl (Nat.le_of_ble_eq_true rfl) a10 b10 (k_borrowers _ (nat_lt a10 b10)).1 ?_
          refine wp_callV [pR _, pR _] _ d_tr_after_79 jd_tu_becomeHummed lk_tr_47 rfl (k_hummed _ (nat_lt a8 b8)).2.1 rfl (Nat.lt_of_succ_lt (k_hummed _ (nat_lt a8 b8)).2.2.2.2) (Nat.le_of_ble_eq_true rfl) rfl ?_
          refine clV_k h ?_
          intro M3 h
          refine wp_aload_n d_tr_after_82 rfl 0 rfl ?_
          refine wp_iload d_tr_after_83 4 rfl ?_
          refine wp_iconst d_tr_after_85 ⟨by decide, by decide⟩ ?_
          refine wp_iadd d_tr_after_86 ?_
          refine wp_puti d_tr_after_87 2 s_73 rfl (Nat.le_of_ble_eq_true rfl) (Nat.le_of_ble_eq_true rfl) (Or.inl rfl) rfl lk_tr_26 ?_
          have h := h _ rfl
          refine wp_iinc (L2 := [(0, pR 73), (1, pR 1), (2, pI _), (3, pI _), (4, pI _), (5, pI _)]) d_tr_after_90 4 rfl (Nat.le_of_ble_eq_true rfl) [1, 2, 3, 4, 0, 5] rfl ?_
          refine wp_goto 3 d_tr_after_93 (by decide) ?_
          refine wp_sub (L2 := [(0, pR 73), (1, pR 1), (2, pI _), (3, pI _), (4, pI _)]) [0, 1, 2, 3, 4] rfl ?_
          exact h
set_option maxHeartbeats 8000000 in
theorem e_tr_figures {G : GT} {M : MT} {P : Int → MT → Prop} (v2 : Int) (v3 : Int)
    (h : WpI G J_tr_figures 6 [(0, pR 73), (1, pR 1), (2, pI v2), (3, pI v3), (4, pI 0), (5, pI 0)] [] M P) : ClI G J_tr_figures M [pR 73, pR 1, pI v2, pI v3] P := by
  show Wp G J_tr_figures 0 0 0 [(0, pR 73), (1, pR 1), (2, pI v2), (3, pI v3)] [] NN RF M _
  refine wp_iconst d_tr_figures_0 ⟨by decide, by decide⟩ ?_
  refine wp_istore (L2 := [(0, pR 73), (1, pR 1), (2, pI _), (3, pI _), (4, pI _)]) d_tr_figures_1 (Nat.le_of_ble_eq_true rfl) [1, 2, 3, 4, 0] rfl ?_
  refine wp_iconst d_tr_figures_3 ⟨by decide, by decide⟩ ?_
  refine wp_istore (L2 := [(0, pR 73), (1, pR 1), (2, pI _), (3, pI _), (4, pI _), (5, pI _)]) d_tr_figures_4 (Nat.le_of_ble_eq_true rfl) [1, 2, 3, 4, 5, 0] rfl ?_
  exact h
set_option maxHeartbeats 8000000 in
theorem b_tr_figures_6 {G : GT} {M : MT} {P : Int → MT → Prop} (v2 : Int) (v3 : Int) (v4 : Int) (v5 : Int)
    (h : (v2 ≤ v5 → P v4 M) ∧ (v5 < v2 → ClI G J_tr_turnOf M [pR 73, pR 1, pI v2, pI v3, pI v5] (fun x2 M1 => (WpI G J_tr_figures 6 [(0, pR 73), (1, pR 1), (2, pI v2), (3, pI v3), (4, pI (w32 ((w32 ((w32 (v4 * 7)) + x2)) + 1))), (5, pI (w32 (v5 + 1)))] [] M1 P)))) : WpI G J_tr_figures 6 [(0, pR 73), (1, pR 1), (2, pI v2), (3, pI v3), (4, pI v4), (5, pI v5)] [] M P := by
  show Wp G J_tr_figures 0 0 6 [(0, pR 73), (1, pR 1), (2, pI v2), (3, pI v3), (4, pI v4), (5, pI v5)] [] NN RF M _
  refine wp_iload d_tr_figures_6 5 rfl ?_
  refine wp_iload_n d_tr_figures_8 rfl 2 rfl ?_
  refine wp_icmp_ge 37 d_tr_figures_9 (by decide) (fun c1 => ?_) (fun c1 => ?_)
  · have h := h.1 c1
    refine wp_iload d_tr_figures_37 4 rfl ?_
    exact wp_iret d_tr_figures_39 rfl ⟨Nat.le_of_ble_eq_true rfl, Nat.le_of_ble_eq_true rfl⟩ ⟨_, rfl, rfl, rfl, h⟩
  · have h := h.2 c1
    refine wp_iload d_tr_figures_12 4 rfl ?_
    refine wp_bipush d_tr_figures_14 ⟨by decide, by decide⟩ (by decide) ?_
    refine wp_imul d_tr_figures_16 ?_
    refine wp_aload_n d_tr_figures_17 rfl 0 rfl ?_
    refine wp_aload_n d_tr_figures_18 rfl 1 rfl ?_
    refine wp_iload_n d_tr_figures_19 rfl 2 rfl ?_
    refine wp_iload_n d_tr_figures_20 rfl 3 rfl ?_
    refine wp_iload d_tr_figures_21 5 rfl ?_
    refine wp_callV [pR _, pI _, pI _, pI _] _ d_tr_figures_23 jd_tr_turnOf lk_tr_39 rfl s_73 rfl (Nat.le_of_ble_eq_true rfl) (Nat.le_of_ble_eq_true rfl) rfl ?_
    refine clI_k h ?_
    intro x2 M1 h
    refine wp_iadd d_tr_figures_26 ?_
    refine wp_iconst d_tr_figures_27 ⟨by decide, by decide⟩ ?_
    refine wp_iadd d_tr_figures_28 ?_
    refine wp_istore (L2 := [(0, pR 73), (1, pR 1), (2, pI _), (3, pI _), (4, pI _), (5, pI _)]) d_tr_figures_29 (Nat.le_of_ble_eq_true rfl) [1, 2, 3, 4, 0, 5] rfl ?_
    refine wp_iinc (L2 := [(0, pR 73), (1, pR 1), (2, pI _), (3, pI _), (4, pI _), (5, pI _)]) d_tr_figures_31 5 rfl (Nat.le_of_ble_eq_true rfl) [1, 2, 3, 4, 5, 0] rfl ?_
    refine wp_goto 6 d_tr_figures_34 (by decide) ?_
    exact h
