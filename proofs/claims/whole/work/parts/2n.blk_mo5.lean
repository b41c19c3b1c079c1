set_option maxHeartbeats 8000000 in
theorem e_mo_tellsBits {G : GT} {M : MT} {P : Int → MT → Prop} (v0 : Int) (v1 : Int)
    (h : (v0 = (-1) → P v0 M) ∧ (¬ v0 = (-1) → (¬ v1 = 1 → ClI G J_mo_ones M [pI v0] (fun x3 M1 => (P x3 M1))) ∧ (v1 = 1 → P v0 M))) : ClI G J_mo_tellsBits M [pI v0, pI v1] P := by
  show Wp G J_mo_tellsBits 0 0 0 [(0, pI v0), (1, pI v1)] [] NN RF M _
  refine wp_iload_n d_mo_tellsBits_0 rfl 0 rfl ?_
  refine wp_iconst d_mo_tellsBits_1 ⟨by decide, by decide⟩ ?_
  refine wp_icmp_eq 10 d_mo_tellsBits_2 (by decide) (fun c1 => ?_) (fun c1 => ?_)
  · have h := h.1 c1
    refine wp_iload_n d_mo_tellsBits_10 rfl 0 rfl ?_
    refine wp_goto 18 d_mo_tellsBits_11 (by decide) ?_
    exact wp_iret d_mo_tellsBits_18 rfl ⟨Nat.le_of_ble_eq_true rfl, Nat.le_of_ble_eq_true rfl⟩ ⟨_, rfl, rfl, rfl, h⟩
  · have h := h.2 c1
    refine wp_iload_n d_mo_tellsBits_5 rfl 1 rfl ?_
    refine wp_iconst d_mo_tellsBits_6 ⟨by decide, by decide⟩ ?_
    refine wp_icmp_ne 14 d_mo_tellsBits_7 (by decide) (fun c2 => ?_) (fun c2 => ?_)
    · have h := h.1 c2
      refine wp_iload_n d_mo_tellsBits_14 rfl 0 rfl ?_
      refine wp_callS [pI _] d_mo_tellsBits_15 jd_mo_ones lk_mo_255 rfl (Nat.le_of_ble_eq_true rfl) rfl ?_
      refine clI_k h ?_
      intro x3 M1 h
      exact wp_iret d_mo_tellsBits_18 rfl ⟨Nat.le_of_ble_eq_true rfl, Nat.le_of_ble_eq_true rfl⟩ ⟨_, rfl, rfl, rfl, h⟩
    · have h := h.2 c2
      refine wp_iload_n d_mo_tellsBits_10 rfl 0 rfl ?_
      refine wp_goto 18 d_mo_tellsBits_11 (by decide) ?_
      exact wp_iret d_mo_tellsBits_18 rfl ⟨Nat.le_of_ble_eq_true rfl, Nat.le_of_ble_eq_true rfl⟩ ⟨_, rfl, rfl, rfl, h⟩
set_option maxHeartbeats 8000000 in
theorem e_mo_tells {G : GT} {M : MT} {P : Int → MT → Prop} (v1 : Int) (v2 : Int)
    (h : ClV G J_mo_reads M [pR 101] (fun M1 => (ClI G J_mo_isTune M1 [pR 101, pI v1] (fun x1 M2 => ((x1 = 0 → P (-2) M2) ∧ (¬ x1 = 0 → ClI G J_mo_isTwo M2 [pI v2] (fun x3 M3 => ((x3 = 0 → P (-2) M3) ∧ (¬ x3 = 0 → ClI G J_mo_tellsOf M3 [pR 101, pI v1] (fun x5 M4 => (ClI G J_mo_tellsBits M4 [pI x5, pI v2] (fun x6 M5 => (P x6 M5))))))))))))) : ClI G J_mo_tells M [pR 101, pI v1, pI v2] P := by
  show Wp G J_mo_tells 0 0 0 [(0, pR 101), (1, pI v1), (2, pI v2)] [] NN RF M _
  refine wp_aload_n d_mo_tells_0 rfl 0 rfl ?_
  refine wp_callV [] _ d_mo_tells_1 jd_mo_reads lk_mo_137 rfl s_101 rfl (Nat.le_of_ble_eq_true rfl) (Nat.le_of_ble_eq_true rfl) rfl ?_
  refine clV_k h ?_
  intro M1 h
  refine wp_aload_n d_mo_tells_4 rfl 0 rfl ?_
  refine wp_iload_n d_mo_tells_5 rfl 1 rfl ?_
  refine wp_callV [pI _] _ d_mo_tells_6 jd_mo_isTune lk_mo_140 rfl s_101 rfl (Nat.le_of_ble_eq_true rfl) (Nat.le_of_ble_eq_true rfl) rfl ?_
  refine clI_k h ?_
  intro x1 M2 h
  refine wp_if_eq 31 d_mo_tells_9 (by decide) (fun c2 => ?_) (fun c2 => ?_)
  · have h := h.1 c2
    refine wp_bipush d_mo_tells_31 ⟨by decide, by decide⟩ (by decide) ?_
    exact wp_iret d_mo_tells_33 rfl ⟨Nat.le_of_ble_eq_true rfl, Nat.le_of_ble_eq_true rfl⟩ ⟨_, rfl, rfl, rfl, h⟩
  · have h := h.2 c2
    refine wp_iload_n d_mo_tells_12 rfl 2 rfl ?_
    refine wp_callS [pI _] d_mo_tells_13 jd_mo_isTwo lk_mo_107 rfl (Nat.le_of_ble_eq_true rfl) rfl ?_
    refine clI_k h ?_
    intro x3 M3 h
    refine wp_if_eq 31 d_mo_tells_16 (by decide) (fun c4 => ?_) (fun c4 => ?_)
    · have h := h.1 c4
      refine wp_bipush d_mo_tells_31 ⟨by decide, by decide⟩ (by decide) ?_
      exact wp_iret d_mo_tells_33 rfl ⟨Nat.le_of_ble_eq_true rfl, Nat.le_of_ble_eq_true rfl⟩ ⟨_, rfl, rfl, rfl, h⟩
    · have h := h.2 c4
      refine wp_aload_n d_mo_tells_19 rfl 0 rfl ?_
      refine wp_iload_n d_mo_tells_20 rfl 1 rfl ?_
      refine wp_callV [pI _] _ d_mo_tells_21 jd_mo_tellsOf lk_mo_265 rfl s_101 rfl (Nat.le_of_ble_eq_true rfl) (Nat.le_of_ble_eq_true rfl) rfl ?_
      refine clI_k h ?_
      intro x5 M4 h
      refine wp_iload_n d_mo_tells_24 rfl 2 rfl ?_
      refine wp_callS [pI _, pI _] d_mo_tells_25 jd_mo_tellsBits lk_mo_268 rfl (Nat.le_of_ble_eq_true rfl) rfl ?_
      refine clI_k h ?_
      intro x6 M5 h
      refine wp_goto 33 d_mo_tells_28 (by decide) ?_
      exact wp_iret d_mo_tells_33 rfl ⟨Nat.le_of_ble_eq_true rfl, Nat.le_of_ble_eq_true rfl⟩ ⟨_, rfl, rfl, rfl, h⟩
set_option maxHeartbeats 8000000 in
theorem e_mo_losesOf {G : GT} {M : MT} {P : Int → MT → Prop} (v1 : Int)
    (h : ClI G J_mo_interestBy M [pR 101, pI 39, pI 0] (fun x1 M1 => (ClI G J_mo_interestBy M1 [pR 101, pI 39, pI v1] (fun x2 M2 => (P (w32 (x1 - x2)) M2))))) : ClI G J_mo_losesOf M [pR 101, pI v1] P := by
  show Wp G J_mo_losesOf 0 0 0 [(0, pR 101), (1, pI v1)] [] NN RF M _
  refine wp_aload_n d_mo_losesOf_0 rfl 0 rfl ?_
  refine wp_bipush d_mo_losesOf_1 ⟨by decide, by decide⟩ (by decide) ?_
  refine wp_iconst d_mo_losesOf_3 ⟨by decide, by decide⟩ ?_
  refine wp_callV [pI _, pI _] _ d_mo_losesOf_4 jd_mo_interestBy lk_mo_207 rfl s_101 rfl (Nat.le_of_ble_eq_true rfl) (Nat.le_of_ble_eq_true rfl) rfl ?_
  refine clI_k h ?_
  intro x1 M1 h
  refine wp_aload_n d_mo_losesOf_7 rfl 0 rfl ?_
  refine wp_bipush d_mo_losesOf_8 ⟨by decide, by decide⟩ (by decide) ?_
  refine wp_iload_n d_mo_losesOf_10 rfl 1 rfl ?_
  refine wp_callV [pI _, pI _] _ d_mo_losesOf_11 jd_mo_interestBy lk_mo_207 rfl s_101 rfl (Nat.le_of_ble_eq_true rfl) (Nat.le_of_ble_eq_true rfl) rfl ?_
  refine clI_k h ?_
  intro x2 M2 h
  refine wp_isub d_mo_losesOf_14 ?_
  exact wp_iret d_mo_losesOf_15 rfl ⟨Nat.le_of_ble_eq_true rfl, Nat.le_of_ble_eq_true rfl⟩ ⟨_, rfl, rfl, rfl, h⟩
set_option maxHeartbeats 8000000 in
theorem e_mo_loses {G : GT} {M : MT} {P : Int → MT → Prop} (v1 : Int)
    (h : ClV G J_mo_reads M [pR 101] (fun M1 => (ClI G J_mo_in M1 [pL v1, pL 0, pL 12] (fun x1 M2 => ((x1 = 0 → P (-1002) M2) ∧ (¬ x1 = 0 → ClI G J_mo_losesOf M2 [pR 101, pI v1] (fun x3 M3 => (P x3 M3)))))))) : ClI G J_mo_loses M [pR 101, pI v1] P := by
  show Wp G J_mo_loses 0 0 0 [(0, pR 101), (1, pI v1)] [] NN RF M _
  refine wp_aload_n d_mo_loses_0 rfl 0 rfl ?_
  refine wp_callV [] _ d_mo_loses_1 jd_mo_reads lk_mo_137 rfl s_101 rfl (Nat.le_of_ble_eq_true rfl) (Nat.le_of_ble_eq_true rfl) rfl ?_
  refine clV_k h ?_
  intro M1 h
  refine wp_iload_n d_mo_loses_4 rfl 1 rfl ?_
  refine wp_i2l d_mo_loses_5 ?_
  refine wp_lconst (v := 0) d_mo_loses_6 rfl ?_
  refine wp_ldc2 lk_mo_163 d_mo_loses_7 ⟨by decide, by decide⟩ ?_
  refine wp_callS [pL _, pL _, pL _] d_mo_loses_10 jd_mo_in lk_mo_79 rfl (Nat.le_of_ble_eq_true rfl) rfl ?_
  refine clI_k h ?_
  intro x1 M2 h
  refine wp_if_eq 24 d_mo_loses_13 (by decide) (fun c2 => ?_) (fun c2 => ?_)
  · have h := h.1 c2
    refine wp_sipush d_mo_loses_24 ⟨by decide, by decide⟩ (by decide) ?_
    exact wp_iret d_mo_loses_27 rfl ⟨Nat.le_of_ble_eq_true rfl, Nat.le_of_ble_eq_true rfl⟩ ⟨_, rfl, rfl, rfl, h⟩
  · have h := h.2 c2
    refine wp_aload_n d_mo_loses_16 rfl 0 rfl ?_
    refine wp_iload_n d_mo_loses_17 rfl 1 rfl ?_
    refine wp_callV [pI _] _ d_mo_loses_18 jd_mo_losesOf lk_mo_271 rfl s_101 rfl (Nat.le_of_ble_eq_true rfl) (Nat.le_of_ble_eq_true rfl) rfl ?_
    refine clI_k h ?_
    intro x3 M3 h
    refine wp_goto 27 d_mo_loses_21 (by decide) ?_
    exact wp_iret d_mo_loses_27 rfl ⟨Nat.le_of_ble_eq_true rfl, Nat.le_of_ble_eq_true rfl⟩ ⟨_, rfl, rfl, rfl, h⟩
set_option maxHeartbeats 8000000 in
theorem e_mo_bestOf {G : GT} {M : MT} {P : Int → MT → Prop} (v1 : Int)
    (h : WpI G J_mo_bestOf 3 [(0, pR 101), (1, pI v1), (2, pI 12)] [] M P) : ClI G J_mo_bestOf M [pR 101, pI v1] P := by
  show Wp G J_mo_bestOf 0 0 0 [(0, pR 101), (1, pI v1)] [] NN RF M _
  refine wp_bipush d_mo_bestOf_0 ⟨by decide, by decide⟩ (by decide) ?_
  refine wp_istore_n (L2 := [(0, pR 101), (1, pI _), (2, pI _)]) d_mo_bestOf_2 rfl (Nat.le_of_ble_eq_true rfl) [1, 2, 0] rfl ?_
  exact h
set_option maxHeartbeats 8000000 in
theorem b_mo_bestOf_3 {G : GT} {M : MT} {P : Int → MT → Prop} (v1 : Int) (v2 : Int)
    (h : (v2 < 0 → P (-1) M) ∧ (0 ≤ v2 → ClI G J_mo_interestBy M [pR 101, pI 39, pI v2] (fun x2 M1 => ((x2 < v1 → WpI G J_mo_bestOf 3 [(0, pR 101), (1, pI v1), (2, pI (w32 (v2 + (-1))))] [] M1 P) ∧ (v1 ≤ x2 → P v2 M1))))) : WpI G J_mo_bestOf 3 [(0, pR 101), (1, pI v1), (2, pI v2)] [] M P := by
  show Wp G J_mo_bestOf 0 0 3 [(0, pR 101), (1, pI v1), (2, pI v2)] [] NN RF M _
  refine wp_iload_n d_mo_bestOf_3 rfl 2 rfl ?_
  refine wp_if_lt 26 d_mo_bestOf_4 (by decide) (fun c1 => ?_) (fun c1 => ?_)
  · have h := h.1 c1
    refine wp_iconst d_mo_bestOf_26 ⟨by decide, by decide⟩ ?_
    exact wp_iret d_mo_bestOf_27 rfl ⟨Nat.le_of_ble_eq_true rfl, Nat.le_of_ble_eq_true rfl⟩ ⟨_, rfl, rfl, rfl, h⟩
  · have h := h.2 c1
    refine wp_aload_n d_mo_bestOf_7 rfl 0 rfl ?_
    refine wp_bipush d_mo_bestOf_8 ⟨by decide, by decide⟩ (by decide) ?_
    refine wp_iload_n d_mo_bestOf_10 rfl 2 rfl ?_
    refine wp_callV [pI _, pI _] _ d_mo_bestOf_11 jd_mo_interestBy lk_mo_207 rfl s_101 rfl (Nat.le_of_ble_eq_true rfl) (Nat.le_of_ble_eq_true rfl) rfl ?_
    refine clI_k h ?_
    intro x2 M1 h
    refine wp_iload_n d_mo_bestOf_14 rfl 1 rfl ?_
    refine wp_icmp_lt 20 d_mo_bestOf_15 (by decide) (fun c3 => ?_) (fun c3 => ?_)
    · have h := h.1 c3
      refine wp_iinc (L2 := [(0, pR 101), (1, pI _), (2, pI _)]) d_mo_bestOf_20 2 rfl (Nat.le_of_ble_eq_true rfl) [1, 2, 0] rfl ?_
      refine wp_goto 3 d_mo_bestOf_23 (by decide) ?_
      exact h
    · have h := h.2 c3
      refine wp_iload_n d_mo_bestOf_18 rfl 2 rfl ?_
      exact wp_iret d_mo_bestOf_19 rfl ⟨Nat.le_of_ble_eq_true rfl, Nat.le_of_ble_eq_true rfl⟩ ⟨_, rfl, rfl, rfl, h⟩
set_option maxHeartbeats 8000000 in
theorem e_mo_best {G : GT} {M : MT} {P : Int → MT → Prop} (v1 : Int)
    (h : ClV G J_mo_reads M [pR 101] (fun M1 => (ClI G J_mo_in M1 [pL v1, pL 0, pL 240] (fun x1 M2 => ((x1 = 0 → P (-2) M2) ∧ (¬ x1 = 0 → ClI G J_mo_bestOf M2 [pR 101, pI v1] (fun x3 M3 => (P x3 M3)))))))) : ClI G J_mo_best M [pR 101, pI v1] P := by
  show Wp G J_mo_best 0 0 0 [(0, pR 101), (1, pI v1)] [] NN RF M _
  refine wp_aload_n d_mo_best_0 rfl 0 rfl ?_
  refine wp_callV [] _ d_mo_best_1 jd_mo_reads lk_mo_137 rfl s_101 rfl (Nat.le_of_ble_eq_true rfl) (Nat.le_of_ble_eq_true rfl) rfl ?_
  refine clV_k h ?_
  intro M1 h
  refine wp_iload_n d_mo_best_4 rfl 1 rfl ?_
  refine wp_i2l d_mo_best_5 ?_
  refine wp_lconst (v := 0) d_mo_best_6 rfl ?_
  refine wp_ldc2 lk_mo_274 d_mo_best_7 ⟨by decide, by decide⟩ ?_
  refine wp_callS [pL _, pL _, pL _] d_mo_best_10 jd_mo_in lk_mo_79 rfl (Nat.le_of_ble_eq_true rfl) rfl ?_
  refine clI_k h ?_
  intro x1 M2 h
  refine wp_if_eq 24 d_mo_best_13 (by decide) (fun c2 => ?_) (fun c2 => ?_)
  · have h := h.1 c2
    refine wp_bipush d_mo_best_24 ⟨by decide, by decide⟩ (by decide) ?_
    exact wp_iret d_mo_best_26 rfl ⟨Nat.le_of_ble_eq_true rfl, Nat.le_of_ble_eq_true rfl⟩ ⟨_, rfl, rfl, rfl, h⟩
  · have h := h.2 c2
    refine wp_aload_n d_mo_best_16 rfl 0 rfl ?_
    refine wp_iload_n d_mo_best_17 rfl 1 rfl ?_
    refine wp_callV [pI _] _ d_mo_best_18 jd_mo_bestOf lk_mo_276 rfl s_101 rfl (Nat.le_of_ble_eq_true rfl) (Nat.le_of_ble_eq_true rfl) rfl ?_
    refine clI_k h ?_
    intro x3 M3 h
    refine wp_goto 26 d_mo_best_21 (by decide) ?_
    exact wp_iret d_mo_best_26 rfl ⟨Nat.le_of_ble_eq_true rfl, Nat.le_of_ble_eq_true rfl⟩ ⟨_, rfl, rfl, rfl, h⟩
set_option maxHeartbeats 8000000 in
theorem e_mo_humsOf {G : GT} {M : MT} {P : Int → MT → Prop} (v1 : Int) (v2 : Int) (v3 : Int) (v4 : Int) (v5 : Int) (v6 : Int)
    (h : WpL G J_mo_humsOf 9 [(0, pR 101), (1, pI v1), (2, pI v2), (3, pI v3), (4, pI v4), (5, pI v5), (6, pI v6), (7, pL 0), (9, pL 1), (11, pI 0)] [] M P) : ClL G J_mo_humsOf M [pR 101, pI v1, pI v2, pI v3, pI v4, pI v5, pI v6] P := by
  show Wp G J_mo_humsOf 0 0 0 [(0, pR 101), (1, pI v1), (2, pI v2), (3, pI v3), (4, pI v4), (5, pI v5), (6, pI v6)] [] NN RF M _
  refine wp_lconst (v := 0) d_mo_humsOf_0 rfl ?_
  refine wp_lstore (L2 := [(0, pR 101), (1, pI _), (2, pI _), (3, pI _), (4, pI _), (5, pI _), (6, pI _), (7, pL _)]) d_mo_humsOf_1 (Nat.le_of_ble_eq_true rfl) [1, 2, 3, 4, 5, 6, 7, 0] rfl ?_
  refine wp_lconst (v := 1) d_mo_humsOf_3 rfl ?_
  refine wp_lstore (L2 := [(0, pR 101), (1, pI _), (2, pI _), (3, pI _), (4, pI _), (5, pI _), (6, pI _), (7, pL _), (9, pL _)]) d_mo_humsOf_4 (Nat.le_of_ble_eq_true rfl) [1, 2, 3, 4, 5, 6, 7, 8, 0] rfl ?_
  refine wp_iconst d_mo_humsOf_6 ⟨by decide, by decide⟩ ?_
  refine wp_istore (L2 := [(0, pR 101), (1, pI _), (2, pI _), (3, pI _), (4, pI _), (5, pI _), (6, pI _), (7, pL _), (9, pL _), (11, pI _)]) d_mo_humsOf_7 (Nat.le_of_ble_eq_true rfl) [1, 2, 3, 4, 5, 6, 7, 8, 9, 0] rfl ?_
  exact h
set_option maxHeartbeats 8000000 in
theorem b_mo_humsOf_9 {G : GT} {M : MT} {P : Int → MT → Prop} (v1 : Int) (v2 : Int) (v3 : Int) (v4 : Int) (v5 : Int) (v6 : Int) (v7 : Int) (v9 : Int) (v11 : Int)
    (h : (v4 ≤ v11 → ClV G J_mo_begins M [pR 101, pI v2, pI 6] (fun M1 => (WpL G J_mo_humsOf 43 [(0, pR 101), (1, pI v1), (3, pI v3), (4, pI v4), (5, pI v5), (6, pI v6), (7, pL v7), (9, pL v9), (11, pL 1), (13, pI 0)] [] M1 P))) ∧ (v11 < v4 → WpL G J_mo_humsOf 9 [(0, pR 101), (1, pI v1), (2, pI v2), (3, pI v3), (4, pI v4), (5, pI v5), (6, pI v6), (7, pL v7), (9, pL (w64 (v9 * 16))), (11, pI (w32 (v11 + 1)))] [] M P)) : WpL G J_mo_humsOf 9 [(0, pR 101), (1, pI v1), (2, pI v2), (3, pI v3), (4, pI v4), (5, pI v5), (6, pI v6), (7, pL v7), (9, pL v9), (11, pI v11)] [] M P := by
  show Wp G J_mo_humsOf 0 0 9 [(0, pR 101), (1, pI v1), (2, pI v2), (3, pI v3), (4, pI v4), (5, pI v5), (6, pI v6), (7, pL v7), (9, pL v9), (11, pI v11)] [] NN RF M _
  refine wp_iload d_mo_humsOf_9 9 rfl ?_
  refine wp_iload d_mo_humsOf_11 4 rfl ?_
  refine wp_icmp_ge 30 d_mo_humsOf_13 (by decide) (fun c1 => ?_) (fun c1 => ?_)
  · have h := h.1 c1
    refine wp_lconst (v := 1) d_mo_humsOf_30 rfl ?_
    refine wp_lstore (L2 := [(0, pR 101), (1, pI _), (2, pI _), (3, pI _), (4, pI _), (5, pI _), (6, pI _), (7, pL _), (9, pL _), (11, pL _)]) d_mo_humsOf_31 (Nat.le_of_ble_eq_true rfl) [1, 2, 3, 4, 5, 6, 7, 8, 9, 0] rfl ?_
    refine wp_aload_n d_mo_humsOf_33 rfl 0 rfl ?_
    refine wp_iload_n d_mo_humsOf_34 rfl 2 rfl ?_
    refine wp_bipush d_mo_humsOf_35 ⟨by decide, by decide⟩ (by decide) ?_
    refine wp_callV [pI _, pI _] _ d_mo_humsOf_37 jd_mo_begins lk_mo_171 rfl s_101 rfl (Nat.le_of_ble_eq_true rfl) (Nat.le_of_ble_eq_true rfl) rfl ?_
    refine clV_k h ?_
    intro M1 h
    refine wp_iconst d_mo_humsOf_40 ⟨by decide, by decide⟩ ?_
    refine wp_istore (L2 := [(0, pR 101), (1, pI _), (2, pI _), (3, pI _), (4, pI _), (5, pI _), (6, pI _), (7, pL _), (9, pL _), (11, pL _), (13, pI _)]) d_mo_humsOf_41 (Nat.le_of_ble_eq_true rfl) [1, 2, 3, 4, 5, 6, 7, 8, 9, 10, 0] rfl ?_
    refine wp_sub (L2 := [(0, pR 101), (1, pI _), (3, pI _), (4, pI _), (5, pI _), (6, pI _), (7, pL _), (9, pL _), (11, pL _), (13, pI _)]) [0, 1, 3, 4, 5, 6, 7, 8, 9, 10] rfl ?_
    exact h
  · have h := h.2 c1
    refine wp_lload d_mo_humsOf_16 8 rfl ?_
    refine wp_ldc2 lk_mo_279 d_mo_humsOf_18 ⟨by decide, by decide⟩ ?_
    refine wp_lmul d_mo_humsOf_21 ?_
    refine wp_lstore (L2 := [(0, pR 101), (1, pI _), (2, pI _), (3, pI _), (4, pI _), (5, pI _), (6, pI _), (7, pL _), (9, pL _), (11, pI _)]) d_mo_humsOf_22 (Nat.le_of_ble_eq_true rfl) [1, 2, 3, 4, 5, 6, 7, 8, 0, 9] rfl ?_
    refine wp_iinc (L2 := [(0, pR 101), (1, pI _), (2, pI _), (3, pI _), (4, pI _), (5, pI _), (6, pI _), (7, pL _), (9, pL _), (11, pI _)]) d_mo_humsOf_24 9 rfl (Nat.le_of_ble_eq_true rfl) [1, 2, 3, 4, 5, 6, 7, 8, 9, 0] rfl ?_
    refine wp_goto 9 d_mo_humsOf_27 (by decide) ?_
    exact h
set_option maxHeartbeats 8000000 in
theorem b_mo_humsOf_43 {G : GT} {M : MT} {P : Int → MT → Prop} (v1 : Int) (v3 : Int) (v4 : Int) (v5 : Int) (v6 : Int) (v7 : Int) (v9 : Int) (v11 : Int) (v13 : Int)
    (h : (v4 < v13 → ClL G J_mo_part M [pL v7, pL v9, pI v6] (fun x2 M1 => (P x2 M1))) ∧ (v13 ≤ v4 → WpL G J_mo_humsOf 57 [(0, pR 101), (1, pI v1), (3, pI v3), (4, pI v4), (5, pI v5), (6, pI v6), (7, pL v7), (9, pL v9), (11, pL v11), (13, pI v13), (14, pL v11), (16, pI 0)] [] M P)) : WpL G J_mo_humsOf 43 [(0, pR 101), (1, pI v1), (3, pI v3), (4, pI v4), (5, pI v5), (6, pI v6), (7, pL v7), (9, pL v9), (11, pL v11), (13, pI v13)] [] M P := by
  show Wp G J_mo_humsOf 0 0 43 [(0, pR 101), (1, pI v1), (3, pI v3), (4, pI v4), (5, pI v5), (6, pI v6), (7, pL v7), (9, pL v9), (11, pL v11), (13, pI v13)] [] NN RF M _
  refine wp_iload d_mo_humsOf_43 9 rfl ?_
  refine wp_iload d_mo_humsOf_45 3 rfl ?_
  refine wp_icmp_gt 145 d_mo_humsOf_47 (by decide) (fun c1 => ?_) (fun c1 => ?_)
  · have h := h.1 c1
    refine wp_lload d_mo_humsOf_145 6 rfl ?_
    refine wp_lload d_mo_humsOf_147 7 rfl ?_
    refine wp_iload d_mo_humsOf_149 5 rfl ?_
    refine wp_callS [pL _, pL _, pI _] d_mo_humsOf_151 jd_mo_part lk_mo_281 rfl (Nat.le_of_ble_eq_true rfl) rfl ?_
    refine clL_k h ?_
    intro x2 M1 h
    exact wp_lret d_mo_humsOf_154 rfl ⟨Nat.le_of_ble_eq_true rfl, Nat.le_of_ble_eq_true rfl⟩ ⟨_, rfl, rfl, rfl, h⟩
  · have h := h.2 c1
    refine wp_lload d_mo_humsOf_50 8 rfl ?_
    refine wp_lstore (L2 := [(0, pR 101), (1, pI _), (3, pI _), (4, pI _), (5, pI _), (6, pI _), (7, pL _), (9, pL _), (11, pL _), (13, pI _), (14, pL _)]) d_mo_humsOf_52 (Nat.le_of_ble_eq_true rfl) [1, 2, 3, 4, 5, 6, 7, 8, 9, 10, 0] rfl ?_
    refine wp_iconst d_mo_humsOf_54 ⟨by decide, by decide⟩ ?_
    refine wp_istore (L2 := [(0, pR 101), (1, pI _), (3, pI _), (4, pI _), (5, pI _), (6, pI _), (7, pL _), (9, pL _), (11, pL _), (13, pI _), (14, pL _), (16, pI _)]) d_mo_humsOf_55 (Nat.le_of_ble_eq_true rfl) [1, 2, 3, 4, 5, 6, 7, 8, 9, 10, 11, 0] rfl ?_
    exact h
set_option maxHeartbeats 8000000 in
theorem b_mo_humsOf_57 {G : GT} {M : MT} {P : Int → MT → Prop} (v1 : Int) (v3 : Int) (v4 : Int) (v5 : Int) (v6 : Int) (v7 : Int) (v9 : Int) (v11 : Int) (v13 : Int) (v14 : Int) (v16 : Int)
    (h : (v4 ≤ v16 → ((M 113 6) < v5 → ¬ (w32 (v13 + 1)) = 0 ∧ (ClV G J_mo_hummed M [pR 101, pI 6, pI v3] (fun M1 => (WpL G J_mo_humsOf 43 [(0, pR 101), (1, pI v1), (3, pI v3), (4, pI v4), (5, pI v5), (6, pI v6), (7, pL (w64 (v7 + 0))), (9, pL v9), (11, pL (w64 (Int.tdiv (w64 (v11 * (w32 (v4 - v13)))) (w32 (v13 + 1))))), (13, pI (w32 (v13 + 1)))] [] M1 P)))) ∧ (v5 ≤ (M 113 6) → ¬ (w32 (v13 + 1)) = 0 ∧ (ClV G J_mo_hummed M [pR 101, pI 6, pI v3] (fun M1 => (WpL G J_mo_humsOf 43 [(0, pR 101), (1, pI v1), (3, pI v3), (4, pI v4), (5, pI v5), (6, pI v6), (7, pL (w64 (v7 + v14))), (9, pL v9), (11, pL (w64 (Int.tdiv (w64 (v11 * (w32 (v4 - v13)))) (w32 (v13 + 1))))), (13, pI (w32 (v13 + 1)))] [] M1 P))))) ∧ (v16 < v4 → (v13 ≤ v16 → WpL G J_mo_humsOf 57 [(0, pR 101), (1, pI v1), (3, pI v3), (4, pI v4), (5, pI v5), (6, pI v6), (7, pL v7), (9, pL v9), (11, pL v11), (13, pI v13), (14, pL (w64 (v14 * (w32 (16 - v1))))), (16, pI (w32 (v16 + 1)))] [] M P) ∧ (v16 < v13 → WpL G J_mo_humsOf 57 [(0, pR 101), (1, pI v1), (3, pI v3), (4, pI v4), (5, pI v5), (6, pI v6), (7, pL v7), (9, pL v9), (11, pL v11), (13, pI v13), (14, pL (w64 (v14 * v1))), (16, pI (w32 (v16 + 1)))] [] M P))) : WpL G J_mo_humsOf 57 [(0, pR 101), (1, pI v1), (3, pI v3), (4, pI v4), (5, pI v5), (6, pI v6), (7, pL v7), (9, pL v9), (11, pL v11), (13, pI v13), (14, pL v14), (16, pI v16)] [] M P := by
  show Wp G J_mo_humsOf 0 0 57 [(0, pR 101), (1, pI v1), (3, pI v3), (4, pI v4), (5, pI v5), (6, pI v6), (7, pL v7), (9, pL v9), (11, pL v11), (13, pI v13), (14, pL v14), (16, pI v16)] [] NN RF M _
  refine wp_iload d_mo_humsOf_57 11 rfl ?_
  refine wp_iload d_mo_humsOf_59 3 rfl ?_
  refine wp_icmp_ge 92 d_mo_humsOf_61 (by decide) (fun c1 => ?_) (fun c1 => ?_)
  · have h := h.1 c1
    refine wp_lload d_mo_humsOf_92 6 rfl ?_
    refine wp_aload_n d_mo_humsOf_94 rfl 0 rfl ?_
    refine wp_getr d_mo_humsOf_95 16 s_101 rfl (Nat.le_of_ble_eq_true rfl) (Nat.le_of_ble_eq_true rfl) rfl rfl lk_mo_43 ?_
    refine wp_bipush d_mo_humsOf_98 ⟨by decide, by decide⟩ (by decide) ?_
    refine wp_iald d_mo_humsOf_100 s_113 (Nat.le_of_ble_eq_true rfl) (by decide) (by decide) ?_
    refine wp_iload d_mo_humsOf_101 4 rfl ?_
    refine wp_icmp_lt 111 d_mo_humsOf_103 (by decide) (fun c2 => ?_) (fun c2 => ?_)
    · have h := h.1 c2
      refine wp_lconst (v := 0) d_mo_humsOf_111 rfl ?_
      refine wp_ladd d_mo_humsOf_112 ?_
      refine wp_lstore (L2 := [(0, pR 101), (1, pI _), (3, pI _), (4, pI _), (5, pI _), (6, pI _), (7, pL _), (9, pL _), (11, pL _), (13, pI _), (14, pL _), (16, pI _)]) d_mo_humsOf_113 (Nat.le_of_ble_eq_true rfl) [1, 2, 3, 4, 5, 6, 0, 7, 8, 9, 10, 11] rfl ?_
      refine wp_lload d_mo_humsOf_115 8 rfl ?_
      refine wp_iload d_mo_humsOf_117 3 rfl ?_
      refine wp_iload d_mo_humsOf_119 9 rfl ?_
      refine wp_isub d_mo_humsOf_121 ?_
      refine wp_i2l d_mo_humsOf_122 ?_
      refine wp_lmul d_mo_humsOf_123 ?_
      refine wp_iload d_mo_humsOf_124 9 rfl ?_
      refine wp_iconst d_mo_humsOf_126 ⟨by decide, by decide⟩ ?_
      refine wp_iadd d_mo_humsOf_127 ?_
      refine wp_i2l d_mo_humsOf_128 ?_
      obtain ⟨g3, h⟩ := h
      refine wp_ldiv d_mo_humsOf_129 g3 ?_
      refine wp_lstore (L2 := [(0, pR 101), (1, pI _), (3, pI _), (4, pI _), (5, pI _), (6, pI _), (7, pL _), (9, pL _), (11, pL _), (13, pI _), (14, pL _), (16, pI _)]) d_mo_humsOf_130 (Nat.le_of_ble_eq_true rfl) [1, 2, 3, 4, 5, 6, 7, 8, 0, 9, 10, 11] rfl ?_
      refine wp_aload_n d_mo_humsOf_132 rfl 0 rfl ?_
      refine wp_bipush d_mo_humsOf_133 ⟨by decide, by decide⟩ (by decide) ?_
      refine wp_iload_n d_mo_humsOf_135 rfl 2 rfl ?_
      refine wp_callV [pI _, pI _] _ d_mo_humsOf_136 jd_mo_hummed lk_mo_183 rfl s_101 rfl (Nat.le_of_ble_eq_true rfl) (Nat.le_of_ble_eq_true rfl) rfl ?_
      refine clV_k h ?_
      intro M1 h
      refine wp_iinc (L2 := [(0, pR 101), (1, pI _), (3, pI _), (4, pI _), (5, pI _), (6, pI _), (7, pL _), (9, pL _), (11, pL _), (13, pI _), (14, pL _), (16, pI _)]) d_mo_humsOf_139 9 rfl (Nat.le_of_ble_eq_true rfl) [1, 2, 3, 4, 5, 6, 7, 8, 9, 0, 10, 11] rfl ?_
      refine wp_goto 43 d_mo_humsOf_142 (by decide) ?_
      refine wp_sub (L2 := [(0, pR 101), (1, pI _), (3, pI _), (4, pI _), (5, pI _), (6, pI _), (7, pL _), (9, pL _), (11, pL _), (13, pI _)]) [0, 1, 2, 3, 4, 5, 6, 7, 8, 9] rfl ?_
      exact h
    · have h := h.2 c2
      refine wp_lload d_mo_humsOf_106 10 rfl ?_
      refine wp_goto 112 d_mo_humsOf_108 (by decide) ?_
      refine wp_ladd d_mo_humsOf_112 ?_
      refine wp_lstore (L2 := [(0, pR 101), (1, pI _), (3, pI _), (4, pI _), (5, pI _), (6, pI _), (7, pL _), (9, pL _), (11, pL _), (13, pI _), (14, pL _), (16, pI _)]) d_mo_humsOf_113 (Nat.le_of_ble_eq_true rfl) [1, 2, 3, 4, 5, 6, 0, 7, 8, 9, 10, 11] rfl ?_
      refine wp_lload d_mo_humsOf_115 8 rfl ?_
      refine wp_iload d_mo_humsOf_117 3 rfl ?_
      refine wp_iload d_mo_humsOf_119 9 rfl ?_
      refine wp_isub d_mo_humsOf_121 ?_
      refine wp_i2l d_mo_humsOf_122 ?_
      refine wp_lmul d_mo_humsOf_123 ?_
      refine wp_iload d_mo_humsOf_124 9 rfl ?_
      refine wp_iconst d_mo_humsOf_126 ⟨by decide, by decide⟩ ?_
      refine wp_iadd d_mo_humsOf_127 ?_
      refine wp_i2l d_mo_humsOf_128 ?_
      obtain ⟨g3, h⟩ := h
      refine wp_ldiv d_mo_humsOf_129 g3 ?_
      refine wp_lstore (L2 := [(0, pR 101), (1, pI _), (3, pI _), (4, pI _), (5, pI _), (6, pI _), (7, pL _), (9, pL _), (11, pL _), (13, pI _), (14, pL _), (16, pI _)]) d_mo_humsOf_130 (Nat.le_of_ble_eq_true rfl) [1, 2, 3, 4, 5, 6, 7, 8, 0, 9, 10, 11] rfl ?_
      refine wp_aload_n d_mo_humsOf_132 rfl 0 rfl ?_
      refine wp_bipush d_mo_humsOf_133 ⟨by decide, by decide⟩ (by decide) ?_
      refine wp_iload_n d_mo_humsOf_135 rfl 2 rfl ?_
      refine wp_callV [pI _, pI _] _ d_mo_humsOf_136 jd_mo_hummed lk_mo_183 rfl s_101 rfl (Nat.le_of_ble_eq_true rfl) (Nat.le_of_ble_eq_true rfl) rfl ?_
      refine clV_k h ?_
      intro M1 h
      refine wp_iinc (L2 := [(0, pR 101), (1, pI _), (3, pI _), (4, pI _), (5, pI _), (6, pI _), (7, pL _), (9, pL _), (11, pL _), (13, pI _), (14, pL _), (16, pI _)]) d_mo_humsOf_139 9 rfl (Nat.le_of_ble_eq_true rfl) [1, 2, 3, 4, 5, 6, 7, 8, 9, 0, 10, 11] rfl ?_
      refine wp_goto 43 d_mo_humsOf_142 (by decide) ?_
      refine wp_sub (L2 := [(0, pR 101), (1, pI _), (3, pI _), (4, pI _), (5, pI _), (6, pI _), (7, pL _), (9, pL _), (11, pL _), (13, pI _)]) [0, 1, 2, 3, 4, 5, 6, 7, 8, 9] rfl ?_
      exact h
  · have h := h.2 c1
    refine wp_lload d_mo_humsOf_64 10 rfl ?_
    refine wp_iload d_mo_humsOf_66 11 rfl ?_
    refine wp_iload d_mo_humsOf_68 9 rfl ?_
    refine wp_icmp_ge 78 d_mo_humsOf_70 (by decide) (fun c2 => ?_) (fun c2 => ?_)
    · have h := h.1 c2
      refine wp_bipush d_mo_humsOf_78 ⟨by decide, by decide⟩ (by decide) ?_
      refine wp_iload_n d_mo_humsOf_80 rfl 1 rfl ?_
      refine wp_isub d_mo_humsOf_81 ?_
      refine wp_i2l d_mo_humsOf_82 ?_
      refine wp_lmul d_mo_humsOf_83 ?_
      refine wp_lstore (L2 := [(0, pR 101), (1, pI _), (3, pI _), (4, pI _), (5, pI _), (6, pI _), (7, pL _), (9, pL _), (11, pL _), (13, pI _), (14, pL _), (16, pI _)]) d_mo_humsOf_84 (Nat.le_of_ble_eq_true rfl) [1, 2, 3, 4, 5, 6, 7, 8, 9, 10, 0, 11] rfl ?_
      refine wp_iinc (L2 := [(0, pR 101), (1, pI _), (3, pI _), (4, pI _), (5, pI _), (6, pI _), (7, pL _), (9, pL _), (11, pL _), (13, pI _), (14, pL _), (16, pI _)]) d_mo_humsOf_86 11 rfl (Nat.le_of_ble_eq_true rfl) [1, 2, 3, 4, 5, 6, 7, 8, 9, 10, 11, 0] rfl ?_
      refine wp_goto 57 d_mo_humsOf_89 (by decide) ?_
      exact h
    · have h := h.2 c2
      refine wp_iload_n d_mo_humsOf_73 rfl 1 rfl ?_
      refine wp_i2l d_mo_humsOf_74 ?_
      refine wp_goto 83 d_mo_humsOf_75 (by decide) ?_
      refine wp_lmul d_mo_humsOf_83 ?_
      refine wp_lstore (L2 := [(0, pR 101), (1, pI _), (3, pI _), (4, pI _), (5, pI _), (6, pI _), (7, pL _), (9, pL _), (11, pL _), (13, pI _), (14, pL _), (16, pI _)]) d_mo_humsOf_84 (Nat.le_of_ble_eq_true rfl) [1, 2, 3, 4, 5, 6, 7, 8, 9, 10, 0, 11] rfl ?_
      refine wp_iinc (L2 := [(0, pR 101), (1, pI _), (3, pI _), (4, pI _), (5, pI _), (6, pI _), (7, pL _), (9, pL _), (11, pL _), (13, pI _), (14, pL _), (16, pI _)]) d_mo_humsOf_86 11 rfl (Nat.le_of_ble_eq_true rfl) [1, 2, 3, 4, 5, 6, 7, 8, 9, 10, 11, 0] rfl ?_
      refine wp_goto 57 d_mo_humsOf_89 (by decide) ?_
      exact h
set_option maxHeartbeats 8000000 in
theorem e_mo_hums {G : GT} {M : MT} {P : Int → MT → Prop} (v1 : Int) (v2 : Int) (v3 : Int) (v4 : Int) (v5 : Int) (v6 : Int)
    (h : ClV G J_mo_reads M [pR 101] (fun M1 => (ClI G J_mo_in M1 [pL v1, pL 0, pL 16] (fun x1 M2 => ((x1 = 0 → ClL G J_mo_no M2 [pI (-2)] (fun x3 M3 => (P x3 M3))) ∧ (¬ x1 = 0 → ClI G J_mo_isTune M2 [pR 101, pI v2] (fun x3 M3 => ((x3 = 0 → ClL G J_mo_no M3 [pI (-2)] (fun x5 M4 => (P x5 M4))) ∧ (¬ x3 = 0 → ClI G J_mo_isBorrower M3 [pR 101, pI v3] (fun x5 M4 => ((x5 = 0 → ClL G J_mo_no M4 [pI (-2)] (fun x7 M5 => (P x7 M5))) ∧ (¬ x5 = 0 → ClI G J_mo_in M4 [pL v4, pL 1, pL 9] (fun x7 M5 => ((x7 = 0 → ClL G J_mo_no M5 [pI (-2)] (fun x9 M6 => (P x9 M6))) ∧ (¬ x7 = 0 → ClI G J_mo_in M5 [pL v5, pL 1, pL 40] (fun x9 M6 => ((x9 = 0 → ClL G J_mo_no M6 [pI (-2)] (fun x11 M7 => (P x11 M7))) ∧ (¬ x9 = 0 → ClI G J_mo_isTwo M6 [pI v6] (fun x11 M7 => ((x11 = 0 → ClL G J_mo_no M7 [pI (-2)] (fun x13 M8 => (P x13 M8))) ∧ (¬ x11 = 0 → ClL G J_mo_humsOf M7 [pR 101, pI v1, pI v2, pI v3, pI v4, pI v5, pI v6] (fun x13 M8 => (P x13 M8))))))))))))))))))))))) : ClL G J_mo_hums M [pR 101, pI v1, pI v2, pI v3, pI v4, pI v5, pI v6] P := by
  show Wp G J_mo_hums 0 0 0 [(0, pR 101), (1, pI v1), (2, pI v2), (3, pI v3), (4, pI v4), (5, pI v5), (6, pI v6)] [] NN RF M _
  refine wp_aload_n d_mo_hums_0 rfl 0 rfl ?_
  refine wp_callV [] _ d_mo_hums_1 jd_mo_reads lk_mo_137 rfl s_101 rfl (Nat.le_of_ble_eq_true rfl) (Nat.le_of_ble_eq_true rfl) rfl ?_
  refine clV_k h ?_
  intro M1 h
  refine wp_iload_n d_mo_hums_4 rfl 1 rfl ?_
  refine wp_i2l d_mo_hums_5 ?_
  refine wp_lconst (v := 0) d_mo_hums_6 rfl ?_
  refine wp_ldc2 lk_mo_279 d_mo_hums_7 ⟨by decide, by decide⟩ ?_
  refine wp_callS [pL _, pL _, pL _] d_mo_hums_10 jd_mo_in lk_mo_79 rfl (Nat.le_of_ble_eq_true rfl) rfl ?_
  refine clI_k h ?_
  intro x1 M2 h
  refine wp_if_eq 70 d_mo_hums_13 (by decide) (fun c2 => ?_) (fun c2 => ?_)
  · have h := h.1 c2
    refine wp_iconst d_mo_hums_70 ⟨by decide, by decide⟩ ?_
    refine wp_istore (L2 := [(0, pR 101), (1, pI _), (2, pI _), (3, pI _), (4, pI _), (5, pI _), (6, pI _), (7, pI _)]) d_mo_hums_71 (Nat.le_of_ble_eq_true rfl) [1, 2, 3, 4, 5, 6, 7, 0] rfl ?_
    refine wp_iload d_mo_hums_73 7 rfl ?_
    refine wp_if_eq 94 d_mo_hums_75 (by decide) (fun _ => ?_) (fun e => absurd e (by decide))
    refine wp_bipush d_mo_hums_94 ⟨by decide, by decide⟩ (by decide) ?_
    refine wp_callS [pI _] d_mo_hums_96 jd_mo_no lk_mo_291 rfl (Nat.le_of_ble_eq_true rfl) rfl ?_
    refine clL_k h ?_
    intro x3 M3 h
    exact wp_lret d_mo_hums_99 rfl ⟨Nat.le_of_ble_eq_true rfl, Nat.le_of_ble_eq_true rfl⟩ ⟨_, rfl, rfl, rfl, h⟩
  · have h := h.2 c2
    refine wp_aload_n d_mo_hums_16 rfl 0 rfl ?_
    refine wp_iload_n d_mo_hums_17 rfl 2 rfl ?_
    refine wp_callV [pI _] _ d_mo_hums_18 jd_mo_isTune lk_mo_140 rfl s_101 rfl (Nat.le_of_ble_eq_true rfl) (Nat.le_of_ble_eq_true rfl) rfl ?_
    refine clI_k h ?_
    intro x3 M3 h
    refine wp_if_eq 70 d_mo_hums_21 (by decide) (fun c4 => ?_) (fun c4 => ?_)
    · have h := h.1 c4
      refine wp_iconst d_mo_hums_70 ⟨by decide, by decide⟩ ?_
      refine wp_istore (L2 := [(0, pR 101), (1, pI _), (2, pI _), (3, pI _), (4, pI _), (5, pI _), (6, pI _), (7, pI _)]) d_mo_hums_71 (Nat.le_of_ble_eq_true rfl) [1, 2, 3, 4, 5, 6, 7, 0] rfl ?_
      refine wp_iload d_mo_hums_73 7 rfl ?_
      refine wp_if_eq 94 d_mo_hums_75 (by decide) (fun _ => ?_) (fun e => absurd e (by decide))
      refine wp_bipush d_mo_hums_94 ⟨by decide, by decide⟩ (by decide) ?_
      refine wp_callS [pI _] d_mo_hums_96 jd_mo_no lk_mo_291 rfl (Nat.le_of_ble_eq_true rfl) rfl ?_
      refine clL_k h ?_
      intro x5 M4 h
      exact wp_lret d_mo_hums_99 rfl ⟨Nat.le_of_ble_eq_true rfl, Nat.le_of_ble_eq_true rfl⟩ ⟨_, rfl, rfl, rfl, h⟩
    · have h := h.2 c4
      refine wp_aload_n d_mo_hums_24 rfl 0 rfl ?_
      refine wp_iload_n d_mo_hums_25 rfl 3 rfl ?_
      refine wp_callV [pI _] _ d_mo_hums_26 jd_mo_isBorrower lk_mo_147 rfl s_101 rfl (Nat.le_of_ble_eq_true rfl) (Nat.le_of_ble_eq_true rfl) rfl ?_
      refine clI_k h ?_
      intro x5 M4 h
      refine wp_if_eq 70 d_mo_hums_29 (by decide) (fun c6 => ?_) (fun c6 => ?_)
      · have h := h.1 c6
        refine wp_iconst d_mo_hums_70 ⟨by decide, by decide⟩ ?_
        refine wp_istore (L2 := [(0, pR 101), (1, pI _), (2, pI _), (3, pI _), (4, pI _), (5, pI _), (6, pI _), (7, pI _)]) d_mo_hums_71 (Nat.le_of_ble_eq_true rfl) [1, 2, 3, 4, 5, 6, 7, 0] rfl ?_
        refine wp_iload d_mo_hums_73 7 rfl ?_
        refine wp_if_eq 94 d_mo_hums_75 (by decide) (fun _ => ?_) (fun e => absurd e (by decide))
        refine wp_bipush d_mo_hums_94 ⟨by decide, by decide⟩ (by decide) ?_
        refine wp_callS [pI _] d_mo_hums_96 jd_mo_no lk_mo_291 rfl (Nat.le_of_ble_eq_true rfl) rfl ?_
        refine clL_k h ?_
        intro x7 M5 h
        exact wp_lret d_mo_hums_99 rfl ⟨Nat.le_of_ble_eq_true rfl, Nat.le_of_ble_eq_true rfl⟩ ⟨_, rfl, rfl, rfl, h⟩
      · have h := h.2 c6
        refine wp_iload d_mo_hums_32 4 rfl ?_
        refine wp_i2l d_mo_hums_34 ?_
        refine wp_lconst (v := 1) d_mo_hums_35 rfl ?_
        refine wp_ldc2 lk_mo_155 d_mo_hums_36 ⟨by decide, by decide⟩ ?_
        refine wp_callS [pL _, pL _, pL _] d_mo_hums_39 jd_mo_in lk_mo_79 rfl (Nat.le_of_ble_eq_true rfl) rfl ?_
        refine clI_k h ?_
        intro x7 M5 h
        refine wp_if_eq 70 d_mo_hums_42 (by decide) (fun c8 => ?_) (fun c8 => ?_)
        · have h := h.1 c8
          refine wp_iconst d_mo_hums_70 ⟨by decide, by decide⟩ ?_
          refine wp_istore (L2 := [(0, pR 101), (1, pI _), (2, pI _), (3, pI _), (4, pI _), (5, pI _), (6, pI _), (7, pI _)]) d_mo_hums_71 (Nat.le_of_ble_eq_true rfl) [1, 2, 3, 4, 5, 6, 7, 0] rfl ?_
          refine wp_iload d_mo_hums_73 7 rfl ?_
          refine wp_if_eq 94 d_mo_hums_75 (by decide) (fun _ => ?_) (fun e => absurd e (by decide))
          refine wp_bipush d_mo_hums_94 ⟨by decide, by decide⟩ (by decide) ?_
          refine wp_callS [pI _] d_mo_hums_96 jd_mo_no lk_mo_291 rfl (Nat.le_of_ble_eq_true rfl) rfl ?_
          refine clL_k h ?_
          intro x9 M6 h
          exact wp_lret d_mo_hums_99 rfl ⟨Nat.le_of_ble_eq_true rfl, Nat.le_of_ble_eq_true rfl⟩ ⟨_, rfl, rfl, rfl, h⟩
        · have h := h.2 c8
          refine wp_iload d_mo_hums_45 5 rfl ?_
          refine wp_i2l d_mo_hums_47 ?_
          refine wp_lconst (v := 1) d_mo_hums_48 rfl ?_
          refine wp_ldc2 lk_mo_285 d_mo_hums_49 ⟨by decide, by decide⟩ ?_
          refine wp_callS [pL _, pL _, pL _] d_mo_hums_52 jd_mo_in lk_mo_79 rfl (Nat.le_of_ble_eq_true rfl) rfl ?_
          refine clI_k h ?_
          intro x9 M6 h
          refine wp_if_eq 70 d_mo_hums_55 (by decide) (fun c10 => ?_) (fun c10 => ?_)
          · have h := h.1 c10
            refine wp_iconst d_mo_hums_70 ⟨by decide, by decide⟩ ?_
            refine wp_istore (L2 := [(0, pR 101), (1, pI _), (2, pI _), (3, pI _), (4, pI _), (5, pI _), (6, pI _), (7, pI _)]) d_mo_hums_71 (Nat.le_of_ble_eq_true rfl) [1, 2, 3, 4, 5, 6, 7, 0] rfl ?_
            refine wp_iload d_mo_hums_73 7 rfl ?_
            refine wp_if_eq 94 d_mo_hums_75 (by decide) (fun _ => ?_) (fun e => absurd e (by decide))
            refine wp_bipush d_mo_hums_94 ⟨by decide, by decide⟩ (by decide) ?_
            refine wp_callS [pI _] d_mo_hums_96 jd_mo_no lk_mo_291 rfl (Nat.le_of_ble_eq_true rfl) rfl ?_
            refine clL_k h ?_
            intro x11 M7 h
            exact wp_lret d_mo_hums_99 rfl ⟨Nat.le_of_ble_eq_true rfl, Nat.le_of_ble_eq_true rfl⟩ ⟨_, rfl, rfl, rfl, h⟩
          · have h := h.2 c10
            refine wp_iload d_mo_hums_58 6 rfl ?_
            refine wp_callS [pI _] d_mo_hums_60 jd_mo_isTwo lk_mo_107 rfl (Nat.le_of_ble_eq_true rfl) rfl ?_
            refine clI_k h ?_
            intro x11 M7 h
            refine wp_if_eq 70 d_mo_hums_63 (by decide) (fun c12 => ?_) (fun c12 => ?_)
            · have h := h.1 c12
              refine wp_iconst d_mo_hums_70 ⟨by decide, by decide⟩ ?_
              refine wp_istore (L2 := [(0, pR 101), (1, pI _), (2, pI _), (3, pI _), (4, pI _), (5, pI _), (6, pI _), (7, pI _)]) d_mo_hums_71 (Nat.le_of_ble_eq_true rfl) [1, 2, 3, 4, 5, 6, 7, 0] rfl ?_
              refine wp_iload d_mo_hums_73 7 rfl ?_
              refine wp_if_eq 94 d_mo_hums_75 (by decide) (fun _ => ?_) (fun e => absurd e (by decide))
              refine wp_bipush d_mo_hums_94 ⟨by decide, by decide⟩ (by decide) ?_
              refine wp_callS [pI _] d_mo_hums_96 jd_mo_no lk_mo_291 rfl (Nat.le_of_ble_eq_true rfl) rfl ?_
              refine clL_k h ?_
              intro x13 M8 h
              exact wp_lret d_mo_hums_99 rfl ⟨Nat.le_of_ble_eq_true rfl, Nat.le_of_ble_eq_true rfl⟩ ⟨_, rfl, rfl, rfl, h⟩
            · have h := h.2 c12
              refine wp_iconst d_mo_hums_66 ⟨by decide, by decide⟩ ?_
              refine wp_goto 71 d_mo_hums_67 (by decide) ?_
              refine wp_istore (L2 := [(0, pR 101), (1, pI _), (2, pI _), (3, pI _), (4, pI _), (5, pI _), (6, pI _), (7, pI _)]) d_mo_hums_71 (Nat.le_of_ble_eq_true rfl) [1, 2, 3, 4, 5, 6, 7, 0] rfl ?_
              refine wp_iload d_mo_hums_73 7 rfl ?_
              refine wp_if_eq 94 d_mo_hums_75 (by decide) (fun e => absurd e (by decide)) (fun _ => ?_)
              refine wp_aload_n d_mo_hums_78 rfl 0 rfl ?_
              refine wp_iload_n d_mo_hums_79 rfl 1 rfl ?_
              refine wp_iload_n d_mo_hums_80 rfl 2 rfl ?_
              refine wp_iload_n d_mo_hums_81 rfl 3 rfl ?_
              refine wp_iload d_mo_hums_82 4 rfl ?_
              refine wp_iload d_mo_hums_84 5 rfl ?_
              refine wp_iload d_mo_hums_86 6 rfl ?_
              refine wp_callV [pI _, pI _, pI _, pI _, pI _, pI _] _ d_mo_hums_88 jd_mo_humsOf lk_mo_287 rfl s_101 rfl (Nat.le_of_ble_eq_true rfl) (Nat.le_of_ble_eq_true rfl) rfl ?_
              refine clL_k h ?_
              intro x13 M8 h
              refine wp_goto 99 d_mo_hums_91 (by decide) ?_
              exact wp_lret d_mo_hums_99 rfl ⟨Nat.le_of_ble_eq_true rfl, Nat.le_of_ble_eq_true rfl⟩ ⟨_, rfl, rfl, rfl, h⟩
set_option maxHeartbeats 8000000 in
theorem e_mo_fairOf {G : GT} {M : MT} {P : Int → MT → Prop} (v1 : Int) (v2 : Int) (v3 : Int)
    (h : ClV G J_mo_startsAll M [pR 101] (fun M1 => (WpI G J_mo_fairOf 10 [(0, pR 101), (2, pI v2), (3, pI v3), (4, pI v1), (5, pI 0)] [] M1 P))) : ClI G J_mo_fairOf M [pR 101, pI v1, pI v2, pI v3] P := by
  show Wp G J_mo_fairOf 0 0 0 [(0, pR 101), (1, pI v1), (2, pI v2), (3, pI v3)] [] NN RF M _
  refine wp_iload_n d_mo_fairOf_0 rfl 1 rfl ?_
  refine wp_istore (L2 := [(0, pR 101), (1, pI _), (2, pI _), (3, pI _), (4, pI _)]) d_mo_fairOf_1 (Nat.le_of_ble_eq_true rfl) [1, 2, 3, 4, 0] rfl ?_
  refine wp_aload_n d_mo_fairOf_3 rfl 0 rfl ?_
  refine wp_callV [] _ d_mo_fairOf_4 jd_mo_startsAll lk_mo_189 rfl s_101 rfl (Nat.le_of_ble_eq_true rfl) (Nat.le_of_ble_eq_true rfl) rfl ?_
  refine clV_k h ?_
  intro M1 h
  refine wp_iconst d_mo_fairOf_7 ⟨by decide, by decide⟩ ?_
  refine wp_istore (L2 := [(0, pR 101), (1, pI _), (2, pI _), (3, pI _), (4, pI _), (5, pI _)]) d_mo_fairOf_8 (Nat.le_of_ble_eq_true rfl) [1, 2, 3, 4, 5, 0] rfl ?_
  refine wp_sub (L2 := [(0, pR 101), (2, pI _), (3, pI _), (4, pI _), (5, pI _)]) [0, 2, 3, 4, 5] rfl ?_
  exact h
set_option maxHeartbeats 8000000 in
theorem b_mo_fairOf_10 {G : GT} {M : MT} {P : Int → MT → Prop} (v2 : Int) (v3 : Int) (v4 : Int) (v5 : Int)
    (h : (v2 ≤ v5 → (0 ≤ v3 ∧ v3 < 7) ∧ (P (M 113 (v3.toNat)) M)) ∧ (v5 < v2 → ((M 101 10) ≤ 0 → (0 ≤ v3 ∧ v3 < 7) ∧ (P (M 113 (v3.toNat)) M)) ∧ (0 < (M 101 10) → ¬ (M 101 7) = 0 ∧ (¬ (M 101 10) = 0 ∧ (ClV G J_mo_hummed M [pR 101, pI (w32 (Int.tmod (iushr (w32 ((w32 (1103515245 * v4)) + 12345)) 16) (M 101 7))), pI (w32 (Int.tmod (iushr (w32 ((w32 (1103515245 * (w32 ((w32 (1103515245 * v4)) + 12345)))) + 12345)) 16) (M 101 10)))] (fun M1 => (WpI G J_mo_fairOf 10 [(0, pR 101), (2, pI v2), (3, pI v3), (4, pI (w32 ((w32 (1103515245 * (w32 ((w32 (1103515245 * v4)) + 12345)))) + 12345))), (5, pI (w32 (v5 + 1)))] [] M1 P))))))) : WpI G J_mo_fairOf 10 [(0, pR 101), (2, pI v2), (3, pI v3), (4, pI v4), (5, pI v5)] [] M P := by
  show Wp G J_mo_fairOf 0 0 10 [(0, pR 101), (2, pI v2), (3, pI v3), (4, pI v4), (5, pI v5)] [] NN RF M _
  refine wp_iload d_mo_fairOf_10 4 rfl ?_
  refine wp_iload_n d_mo_fairOf_12 rfl 1 rfl ?_
  refine wp_icmp_ge 81 d_mo_fairOf_13 (by decide) (fun c1 => ?_) (fun c1 => ?_)
  · have h := h.1 c1
    refine wp_aload_n d_mo_fairOf_81 rfl 0 rfl ?_
    refine wp_getr d_mo_fairOf_82 16 s_101 rfl (Nat.le_of_ble_eq_true rfl) (Nat.le_of_ble_eq_true rfl) rfl rfl lk_mo_43 ?_
    refine wp_iload_n d_mo_fairOf_85 rfl 2 rfl ?_
    obtain ⟨⟨a2, b2⟩, h⟩ := h
    refine wp_iald d_mo_fairOf_86 s_113 (Nat.le_of_ble_eq_true rfl) a2 b2 ?_
    exact wp_iret d_mo_fairOf_87 rfl ⟨Nat.le_of_ble_eq_true rfl, Nat.le_of_ble_eq_true rfl⟩ ⟨_, rfl, rfl, rfl, h⟩
  · have h := h.2 c1
    refine wp_aload_n d_mo_fairOf_16 rfl 0 rfl ?_
    refine wp_geti d_mo_fairOf_17 10 s_101 rfl (Nat.le_of_ble_eq_true rfl) (Nat.le_of_ble_eq_true rfl) rfl lk_mo_122 ?_
    refine wp_if_le 81 d_mo_fairOf_20 (by decide) (fun c2 => ?_) (fun c2 => ?_)
    · have h := h.1 c2
      refine wp_aload_n d_mo_fairOf_81 rfl 0 rfl ?_
      refine wp_getr d_mo_fairOf_82 16 s_101 rfl (Nat.le_of_ble_eq_true rfl) (Nat.le_of_ble_eq_true rfl) rfl rfl lk_mo_43 ?_
      refine wp_iload_n d_mo_fairOf_85 rfl 2 rfl ?_
      obtain ⟨⟨a3, b3⟩, h⟩ := h
      refine wp_iald d_mo_fairOf_86 s_113 (Nat.le_of_ble_eq_true rfl) a3 b3 ?_
      exact wp_iret d_mo_fairOf_87 rfl ⟨Nat.le_of_ble_eq_true rfl, Nat.le_of_ble_eq_true rfl⟩ ⟨_, rfl, rfl, rfl, h⟩
    · have h := h.2 c2
      refine wp_ldcw lk_mo_295 d_mo_fairOf_23 ⟨by decide, by decide⟩ ?_
      refine wp_iload d_mo_fairOf_26 3 rfl ?_
      refine wp_imul d_mo_fairOf_28 ?_
      refine wp_sipush d_mo_fairOf_29 ⟨by decide, by decide⟩ (by decide) ?_
      refine wp_iadd d_mo_fairOf_32 ?_
      refine wp_istore (L2 := [(0, pR 101), (2, pI _), (3, pI _), (4, pI _), (5, pI _)]) d_mo_fairOf_33 (Nat.le_of_ble_eq_true rfl) [1, 2, 3, 0, 4] rfl ?_
      refine wp_iload d_mo_fairOf_35 3 rfl ?_
      refine wp_bipush d_mo_fairOf_37 ⟨by decide, by decide⟩ (by decide) ?_
      refine wp_iushr d_mo_fairOf_39 ?_
      refine wp_aload_n d_mo_fairOf_40 rfl 0 rfl ?_
      refine wp_geti d_mo_fairOf_41 7 s_101 rfl (Nat.le_of_ble_eq_true rfl) (Nat.le_of_ble_eq_true rfl) rfl lk_mo_112 ?_
      obtain ⟨g3, h⟩ := h
      refine wp_irem d_mo_fairOf_44 g3 ?_
      refine wp_istore (L2 := [(0, pR 101), (2, pI _), (3, pI _), (4, pI _), (5, pI _), (6, pI _)]) d_mo_fairOf_45 (Nat.le_of_ble_eq_true rfl) [1, 2, 3, 4, 5, 0] rfl ?_
      refine wp_ldcw lk_mo_295 d_mo_fairOf_47 ⟨by decide, by decide⟩ ?_
      refine wp_iload d_mo_fairOf_50 3 rfl ?_
      refine wp_imul d_mo_fairOf_52 ?_
      refine wp_sipush d_mo_fairOf_53 ⟨by decide, by decide⟩ (by decide) ?_
      refine wp_iadd d_mo_fairOf_56 ?_
      refine wp_istore (L2 := [(0, pR 101), (2, pI _), (3, pI _), (4, pI _), (5, pI _), (6, pI _)]) d_mo_fairOf_57 (Nat.le_of_ble_eq_true rfl) [1, 2, 3, 0, 4, 5] rfl ?_
      refine wp_aload_n d_mo_fairOf_59 rfl 0 rfl ?_
      refine wp_iload d_mo_fairOf_60 5 rfl ?_
      refine wp_iload d_mo_fairOf_62 3 rfl ?_
      refine wp_bipush d_mo_fairOf_64 ⟨by decide, by decide⟩ (by decide) ?_
      refine wp_iushr d_mo_fairOf_66 ?_
      refine wp_aload_n d_mo_fairOf_67 rfl 0 rfl ?_
      refine wp_geti d_mo_fairOf_68 10 s_101 rfl (Nat.le_of_ble_eq_true rfl) (Nat.le_of_ble_eq_true rfl) rfl lk_mo_122 ?_
      obtain ⟨g4, h⟩ := h
      refine wp_irem d_mo_fairOf_71 g4 ?_
      refine wp_callV [pI _, pI _] _ d_mo_fairOf_72 jd_mo_hummed lk_mo_183 rfl s_101 rfl (Nat.le_of_ble_eq_true rfl) (Nat.le_of_ble_eq_true rfl) rfl ?_
      refine clV_k h ?_
      intro M1 h
      refine wp_iinc (L2 := [(0, pR 101), (2, pI _), (3, pI _), (4, pI _), (5, pI _), (6, pI _)]) d_mo_fairOf_75 4 rfl (Nat.le_of_ble_eq_true rfl) [1, 2, 3, 4, 0, 5] rfl ?_
      refine wp_goto 10 d_mo_fairOf_78 (by decide) ?_
      refine wp_sub (L2 := [(0, pR 101), (2, pI _), (3, pI _), (4, pI _), (5, pI _)]) [0, 1, 2, 3, 4] rfl ?_
      exact h
set_option maxHeartbeats 8000000 in
theorem e_mo_fair {G : GT} {M : MT} {P : Int → MT → Prop} (v1 : Int) (v2 : Int) (v3 : Int)
    (h : ClV G J_mo_reads M [pR 101] (fun M1 => (ClI G J_mo_in M1 [pL v2, pL 1, pL 40] (fun x1 M2 => ((x1 = 0 → P (-2) M2) ∧ (¬ x1 = 0 → ClI G J_mo_isTune M2 [pR 101, pI v3] (fun x3 M3 => ((x3 = 0 → P (-2) M3) ∧ (¬ x3 = 0 → ClI G J_mo_fairOf M3 [pR 101, pI v1, pI v2, pI v3] (fun x5 M4 => (P x5 M4))))))))))) : ClI G J_mo_fair M [pR 101, pI v1, pI v2, pI v3] P := by
  show Wp G J_mo_fair 0 0 0 [(0, pR 101), (1, pI v1), (2, pI v2), (3, pI v3)] [] NN RF M _
  refine wp_aload_n d_mo_fair_0 rfl 0 rfl ?_
  refine wp_callV [] _ d_mo_fair_1 jd_mo_reads lk_mo_137 rfl s_101 rfl (Nat.le_of_ble_eq_true rfl) (Nat.le_of_ble_eq_true rfl) rfl ?_
  refine clV_k h ?_
  intro M1 h
  refine wp_iload_n d_mo_fair_4 rfl 2 rfl ?_
  refine wp_i2l d_mo_fair_5 ?_
  refine wp_lconst (v := 1) d_mo_fair_6 rfl ?_
  refine wp_ldc2 lk_mo_285 d_mo_fair_7 ⟨by decide, by decide⟩ ?_
  refine wp_callS [pL _, pL _, pL _] d_mo_fair_10 jd_mo_in lk_mo_79 rfl (Nat.le_of_ble_eq_true rfl) rfl ?_
  refine clI_k h ?_
  intro x1 M2 h
  refine wp_if_eq 34 d_mo_fair_13 (by decide) (fun c2 => ?_) (fun c2 => ?_)
  · have h := h.1 c2
    refine wp_bipush d_mo_fair_34 ⟨by decide, by decide⟩ (by decide) ?_
    exact wp_iret d_mo_fair_36 rfl ⟨Nat.le_of_ble_eq_true rfl, Nat.le_of_ble_eq_true rfl⟩ ⟨_, rfl, rfl, rfl, h⟩
  · have h := h.2 c2
    refine wp_aload_n d_mo_fair_16 rfl 0 rfl ?_
    refine wp_iload_n d_mo_fair_17 rfl 3 rfl ?_
    refine wp_callV [pI _] _ d_mo_fair_18 jd_mo_isTune lk_mo_140 rfl s_101 rfl (Nat.le_of_ble_eq_true rfl) (Nat.le_of_ble_eq_true rfl) rfl ?_
    refine clI_k h ?_
    intro x3 M3 h
    refine wp_if_eq 34 d_mo_fair_21 (by decide) (fun c4 => ?_) (fun c4 => ?_)
    · have h := h.1 c4
      refine wp_bipush d_mo_fair_34 ⟨by decide, by decide⟩ (by decide) ?_
      exact wp_iret d_mo_fair_36 rfl ⟨Nat.le_of_ble_eq_true rfl, Nat.le_of_ble_eq_true rfl⟩ ⟨_, rfl, rfl, rfl, h⟩
    · have h := h.2 c4
      refine wp_aload_n d_mo_fair_24 rfl 0 rfl ?_
      refine wp_iload_n d_mo_fair_25 rfl 1 rfl ?_
      refine wp_iload_n d_mo_fair_26 rfl 2 rfl ?_
      refine wp_iload_n d_mo_fair_27 rfl 3 rfl ?_
      refine wp_callV [pI _, pI _, pI _] _ d_mo_fair_28 jd_mo_fairOf lk_mo_296 rfl s_101 rfl (Nat.le_of_ble_eq_true rfl) (Nat.le_of_ble_eq_true rfl) rfl ?_
      refine clI_k h ?_
      intro x5 M4 h
      refine wp_goto 36 d_mo_fair_31 (by decide) ?_
      exact wp_iret d_mo_fair_36 rfl ⟨Nat.le_of_ble_eq_true rfl, Nat.le_of_ble_eq_true rfl⟩ ⟨_, rfl, rfl, rfl, h⟩
set_option maxHeartbeats 8000000 in
theorem e_mo_write {G : GT} {M : MT} {P : Int → MT → Prop} (v1 : Int) (v2 : Int) (v3 : Int)
    (h : ClV G J_mo_reads M [pR 101] (fun M1 => (ClI G J_mo_isYear M1 [pI v1] (fun x1 M2 => ((x1 = 0 → P (-2) M2) ∧ (¬ x1 = 0 → ClI G J_mo_isTune M2 [pR 101, pI v2] (fun x3 M3 => ((x3 = 0 → P (-2) M3) ∧ (¬ x3 = 0 → ClI G J_mo_isSheet M3 [pI v3] (fun x5 M4 => ((¬ x5 = 0 → (0 ≤ v3 ∧ v3 < 4) ∧ ((0 ≤ (M4 102 (v3.toNat)) → ClV G J_mo_lives M4 [pR 101, pI v1, pI (M4 101 14)] (fun M5 => ((0 ≤ v3 ∧ v3 < 4) ∧ ((0 ≤ v2 ∧ v2 < 7) ∧ (ClI G J_mo_lesser M5 [pI (M5 103 (v3.toNat)), pI (M5 113 (v2.toNat))] (fun x11 M6 => (WpI G J_mo_write 73 [(0, pR 101), (2, pI v2), (3, pI v3), (4, pI x11), (5, pI 0)] [] M6 P))))))) ∧ ((M4 102 (v3.toNat)) < 0 → ClI G J_mo_finds M4 [pR 101, pI 1] (fun x9 M5 => (P x9 M5))))) ∧ (x5 = 0 → P (-2) M4)))))))))))) : ClI G J_mo_write M [pR 101, pI v1, pI v2, pI v3] P := by
  show Wp G J_mo_write 0 0 0 [(0, pR 101), (1, pI v1), (2, pI v2), (3, pI v3)] [] NN RF M _
  refine wp_aload_n d_mo_write_0 rfl 0 rfl ?_
  refine wp_callV [] _ d_mo_write_1 jd_mo_reads lk_mo_137 rfl s_101 rfl (Nat.le_of_ble_eq_true rfl) (Nat.le_of_ble_eq_true rfl) rfl ?_
  refine clV_k h ?_
  intro M1 h
  refine wp_iload_n d_mo_write_4 rfl 1 rfl ?_
  refine wp_callS [pI _] d_mo_write_5 jd_mo_isYear lk_mo_150 rfl (Nat.le_of_ble_eq_true rfl) rfl ?_
  refine clI_k h ?_
  intro x1 M2 h
  refine wp_if_eq 26 d_mo_write_8 (by decide) (fun c2 => ?_) (fun c2 => ?_)
  · have h := h.1 c2
    refine wp_bipush d_mo_write_26 ⟨by decide, by decide⟩ (by decide) ?_
    exact wp_iret d_mo_write_28 rfl ⟨Nat.le_of_ble_eq_true rfl, Nat.le_of_ble_eq_true rfl⟩ ⟨_, rfl, rfl, rfl, h⟩
  · have h := h.2 c2
    refine wp_aload_n d_mo_write_11 rfl 0 rfl ?_
    refine wp_iload_n d_mo_write_12 rfl 2 rfl ?_
    refine wp_callV [pI _] _ d_mo_write_13 jd_mo_isTune lk_mo_140 rfl s_101 rfl (Nat.le_of_ble_eq_true rfl) (Nat.le_of_ble_eq_true rfl) rfl ?_
    refine clI_k h ?_
    intro x3 M3 h
    refine wp_if_eq 26 d_mo_write_16 (by decide) (fun c4 => ?_) (fun c4 => ?_)
    · have h := h.1 c4
      refine wp_bipush d_mo_write_26 ⟨by decide, by decide⟩ (by decide) ?_
      exact wp_iret d_mo_write_28 rfl ⟨Nat.le_of_ble_eq_true rfl, Nat.le_of_ble_eq_true rfl⟩ ⟨_, rfl, rfl, rfl, h⟩
    · have h := h.2 c4
      refine wp_iload_n d_mo_write_19 rfl 3 rfl ?_
      refine wp_callS [pI _] d_mo_write_20 jd_mo_isSheet lk_mo_88 rfl (Nat.le_of_ble_eq_true rfl) rfl ?_
      refine clI_k h ?_
      intro x5 M4 h
      refine wp_if_ne 29 d_mo_write_23 (by decide) (fun c6 => ?_) (fun c6 => ?_)
      · have h := h.1 c6
        refine wp_aload_n d_mo_write_29 rfl 0 rfl ?_
        refine wp_getr d_mo_write_30 0 s_101 rfl (Nat.le_of_ble_eq_true rfl) (Nat.le_of_ble_eq_true rfl) rfl rfl lk_mo_7 ?_
        refine wp_iload_n d_mo_write_33 rfl 3 rfl ?_
        obtain ⟨⟨a7, b7⟩, h⟩ := h
        refine wp_iald d_mo_write_34 s_102 (Nat.le_of_ble_eq_true rfl) a7 b7 ?_
        refine wp_if_ge 44 d_mo_write_35 (by decide) (fun c8 => ?_) (fun c8 => ?_)
        · have h := h.1 c8
          refine wp_aload_n d_mo_write_44 rfl 0 rfl ?_
          refine wp_iload_n d_mo_write_45 rfl 1 rfl ?_
          refine wp_aload_n d_mo_write_46 rfl 0 rfl ?_
          refine wp_geti d_mo_write_47 14 s_101 rfl (Nat.le_of_ble_eq_true rfl) (Nat.le_of_ble_eq_true rfl) rfl lk_mo_73 ?_
          refine wp_callV [pI _, pI _] _ d_mo_write_50 jd_mo_lives lk_mo_195 rfl s_101 rfl (Nat.le_of_ble_eq_true rfl) (Nat.le_of_ble_eq_true rfl) rfl ?_
          refine clV_k h ?_
          intro M5 h
          refine wp_aload_n d_mo_write_53 rfl 0 rfl ?_
          refine wp_getr d_mo_write_54 1 s_101 rfl (Nat.le_of_ble_eq_true rfl) (Nat.le_of_ble_eq_true rfl) rfl rfl lk_mo_13 ?_
          refine wp_iload_n d_mo_write_57 rfl 3 rfl ?_
          obtain ⟨⟨a9, b9⟩, h⟩ := h
          refine wp_iald d_mo_write_58 s_103 (Nat.le_of_ble_eq_true rfl) a9 b9 ?_
          refine wp_aload_n d_mo_write_59 rfl 0 rfl ?_
          refine wp_getr d_mo_write_60 16 s_101 rfl (Nat.le_of_ble_eq_true rfl) (Nat.le_of_ble_eq_true rfl) rfl rfl lk_mo_43 ?_
          refine wp_iload_n d_mo_write_63 rfl 2 rfl ?_
          obtain ⟨⟨a10, b10⟩, h⟩ := h
          refine wp_iald d_mo_write_64 s_113 (Nat.le_of_ble_eq_true rfl) a10 b10 ?_
          refine wp_callS [pI _, pI _] d_mo_write_65 jd_mo_lesser lk_mo_165 rfl (Nat.le_of_ble_eq_true rfl) rfl ?_
          refine clI_k h ?_
          intro x11 M6 h
          refine wp_istore (L2 := [(0, pR 101), (1, pI _), (2, pI _), (3, pI _), (4, pI _)]) d_mo_write_68 (Nat.le_of_ble_eq_true rfl) [1, 2, 3, 4, 0] rfl ?_
          refine wp_iconst d_mo_write_70 ⟨by decide, by decide⟩ ?_
          refine wp_istore (L2 := [(0, pR 101), (1, pI _), (2, pI _), (3, pI _), (4, pI _), (5, pI _)]) d_mo_write_71 (Nat.le_of_ble_eq_true rfl) [1, 2, 3, 4, 5, 0] rfl ?_
          refine wp_sub (L2 := [(0, pR 101), (2, pI _), (3, pI _), (4, pI _), (5, pI _)]) [0, 2, 3, 4, 5] rfl ?_
          exact h
        · have h := h.2 c8
          refine wp_aload_n d_mo_write_38 rfl 0 rfl ?_
          refine wp_iconst d_mo_write_39 ⟨by decide, by decide⟩ ?_
          refine wp_callV [pI _] _ d_mo_write_40 jd_mo_finds lk_mo_94 rfl s_101 rfl (Nat.le_of_ble_eq_true rfl) (Nat.le_of_ble_eq_true rfl) rfl ?_
          refine clI_k h ?_
          intro x9 M5 h
          exact wp_iret d_mo_write_43 rfl ⟨Nat.le_of_ble_eq_true rfl, Nat.le_of_ble_eq_true rfl⟩ ⟨_, rfl, rfl, rfl, h⟩
      · have h := h.2 c6
        refine wp_bipush d_mo_write_26 ⟨by decide, by decide⟩ (by decide) ?_
        exact wp_iret d_mo_write_28 rfl ⟨Nat.le_of_ble_eq_true rfl, Nat.le_of_ble_eq_true rfl⟩ ⟨_, rfl, rfl, rfl, h⟩
set_option maxHeartbeats 8000000 in
theorem b_mo_write_73 {G : GT} {M : MT} {P : Int → MT → Prop} (v2 : Int) (v3 : Int) (v4 : Int) (v5 : Int)
    (h : (v4 ≤ v5 → P v4 M) ∧ (v5 < v4 → (0 ≤ v3 ∧ v3 < 4) ∧ ((0 ≤ (w32 ((w32 (40 * v2)) + v5)) ∧ (w32 ((w32 (40 * v2)) + v5)) < 280) ∧ (ClI G J_mo_cut M [pI (M 102 (v3.toNat)), pI (M 112 ((w32 ((w32 (40 * v2)) + v5)).toNat))] (fun x4 M1 => ((0 ≤ (w32 ((w32 (60 * v3)) + v5)) ∧ (w32 ((w32 (60 * v3)) + v5)) < 240) ∧ (∀ M2 : MT, M2 = mu M1 104 ((w32 ((w32 (60 * v3)) + v5)).toNat) x4 → (WpI G J_mo_write 73 [(0, pR 101), (2, pI v2), (3, pI v3), (4, pI v4), (5, pI (w32 (v5 + 1)))] [] M2 P)))))))) : WpI G J_mo_write 73 [(0, pR 101), (2, pI v2), (3, pI v3), (4, pI v4), (5, pI v5)] [] M P := by
  show Wp G J_mo_write 0 0 73 [(0, pR 101), (2, pI v2), (3, pI v3), (4, pI v4), (5, pI v5)] [] NN RF M _
  refine wp_iload d_mo_write_73 4 rfl ?_
  refine wp_iload d_mo_write_75 3 rfl ?_
  refine wp_icmp_ge 119 d_mo_write_77 (by decide) (fun c1 => ?_) (fun c1 => ?_)
  · have h := h.1 c1
    refine wp_iload d_mo_write_119 3 rfl ?_
    exact wp_iret d_mo_write_121 rfl ⟨Nat.le_of_ble_eq_true rfl, Nat.le_of_ble_eq_true rfl⟩ ⟨_, rfl, rfl, rfl, h⟩
  · have h := h.2 c1
    refine wp_aload_n d_mo_write_80 rfl 0 rfl ?_
    refine wp_getr d_mo_write_81 2 s_101 rfl (Nat.le_of_ble_eq_true rfl) (Nat.le_of_ble_eq_true rfl) rfl rfl lk_mo_16 ?_
    refine wp_bipush d_mo_write_84 ⟨by decide, by decide⟩ (by decide) ?_
    refine wp_iload_n d_mo_write_86 rfl 2 rfl ?_
    refine wp_imul d_mo_write_87 ?_
    refine wp_iload d_mo_write_88 4 rfl ?_
    refine wp_iadd d_mo_write_90 ?_
    refine wp_aload_n d_mo_write_91 rfl 0 rfl ?_
    refine wp_getr d_mo_write_92 0 s_101 rfl (Nat.le_of_ble_eq_true rfl) (Nat.le_of_ble_eq_true rfl) rfl rfl lk_mo_7 ?_
    refine wp_iload_n d_mo_write_95 rfl 2 rfl ?_
    obtain ⟨⟨a2, b2⟩, h⟩ := h
    refine wp_iald d_mo_write_96 s_102 (Nat.le_of_ble_eq_true rfl) a2 b2 ?_
    refine wp_aload_n d_mo_write_97 rfl 0 rfl ?_
    refine wp_getr d_mo_write_98 15 s_101 rfl (Nat.le_of_ble_eq_true rfl) (Nat.le_of_ble_eq_true rfl) rfl rfl lk_mo_40 ?_
    refine wp_bipush d_mo_write_101 ⟨by decide, by decide⟩ (by decide) ?_
    refine wp_iload_n d_mo_write_103 rfl 1 rfl ?_
    refine wp_imul d_mo_write_104 ?_
    refine wp_iload d_mo_write_105 4 rfl ?_
    refine wp_iadd d_mo_write_107 ?_
    obtain ⟨⟨a3, b3⟩, h⟩ := h
    refine wp_iald d_mo_write_108 s_112 (Nat.le_of_ble_eq_true rfl) a3 b3 ?_
    refine wp_callS [pI _, pI _] d_mo_write_109 jd_mo_cut lk_mo_102 rfl (Nat.le_of_ble_eq_true rfl) rfl ?_
    refine clI_k h ?_
    intro x4 M1 h
    obtain ⟨⟨a5, b5⟩, h⟩ := h
    refine wp_iast d_mo_write_112 s_104 (Nat.le_of_ble_eq_true rfl) a5 b5 ?_
    have h := h _ rfl
    refine wp_iinc (L2 := [(0, pR 101), (2, pI _), (3, pI _), (4, pI _), (5, pI _)]) d_mo_write_113 4 rfl (Nat.le_of_ble_eq_true rfl) [1, 2, 3, 4, 0] rfl ?_
    refine wp_goto 73 d_mo_write_116 (by decide) ?_
    exact h
set_option maxHeartbeats 8000000 in
theorem e_mo_count {G : GT} {M : MT} {P : Int → MT → Prop} (v1 : Int)
    (h : ClV G J_mo_reads M [pR 101] (fun M1 => ((v1 = 0 → P (M1 101 7) M1) ∧ (v1 = 1 → P (M1 101 10) M1) ∧ (v1 = 2 → (0 ≤ (w32 (v1 - 2)) ∧ (w32 (v1 - 2)) < 2) ∧ (P (M1 107 ((w32 (v1 - 2)).toNat)) M1)) ∧ (v1 = 3 → (0 ≤ (w32 (v1 - 2)) ∧ (w32 (v1 - 2)) < 2) ∧ (P (M1 107 ((w32 (v1 - 2)).toNat)) M1)) ∧ (v1 = 4 → P (M1 101 12) M1) ∧ (v1 = 5 → ClV G J_mo_lives M1 [pR 101, pI 39, pI (M1 101 14)] (fun M2 => (WpI G J_mo_count 92 [(0, pR 101), (2, pI 0), (3, pI 0)] [] M2 P))) ∧ (v1 = 6 → P (M1 101 14) M1) ∧ (v1 = 7 → WpI G J_mo_count 124 [(0, pR 101), (2, pI 0), (3, pI 0)] [] M1 P) ∧ (v1 = 8 → P (M1 101 4) M1) ∧ ((v1 < 0 ∨ 8 < v1) → P (-2) M1)))) : ClI G J_mo_count M [pR 101, pI v1] P := by
  show Wp G J_mo_count 0 0 0 [(0, pR 101), (1, pI v1)] [] NN RF M _
  refine wp_iconst d_mo_count_0 ⟨by decide, by decide⟩ ?_
  refine wp_istore_n (L2 := [(0, pR 101), (1, pI _), (2, pI _)]) d_mo_count_1 rfl (Nat.le_of_ble_eq_true rfl) [1, 2, 0] rfl ?_
  refine wp_aload_n d_mo_count_2 rfl 0 rfl ?_
  refine wp_callV [] _ d_mo_count_3 jd_mo_reads lk_mo_137 rfl s_101 rfl (Nat.le_of_ble_eq_true rfl) (Nat.le_of_ble_eq_true rfl) rfl ?_
  refine clV_k h ?_
  intro M1 h
  refine wp_iload_n d_mo_count_6 rfl 1 rfl ?_
  by_cases c1_0 : v1 = 0
  · refine wp_tabIn 56 d_mo_count_7 (by omega) (by omega) (by rw [c1_0]; rfl) (by decide) ?_
    have h := h.1 c1_0
    refine wp_aload_n d_mo_count_56 rfl 0 rfl ?_
    refine wp_geti d_mo_count_57 7 s_101 rfl (Nat.le_of_ble_eq_true rfl) (Nat.le_of_ble_eq_true rfl) rfl lk_mo_112 ?_
    exact wp_iret d_mo_count_60 rfl ⟨Nat.le_of_ble_eq_true rfl, Nat.le_of_ble_eq_true rfl⟩ ⟨_, rfl, rfl, rfl, h⟩
  replace h := h.2
  by_cases c1_1 : v1 = 1
  · refine wp_tabIn 61 d_mo_count_7 (by omega) (by omega) (by rw [c1_1]; rfl) (by decide) ?_
    have h := h.1 c1_1
    refine wp_aload_n d_mo_count_61 rfl 0 rfl ?_
    refine wp_geti d_mo_count_62 10 s_101 rfl (Nat.le_of_ble_eq_true rfl) (Nat.le_of_ble_eq_true rfl) rfl lk_mo_122 ?_
    exact wp_iret d_mo_count_65 rfl ⟨Nat.le_of_ble_eq_true rfl, Nat.le_of_ble_eq_true rfl⟩ ⟨_, rfl, rfl, rfl, h⟩
  replace h := h.2
  by_cases c1_2 : v1 = 2
  · refine wp_tabIn 66 d_mo_count_7 (by omega) (by omega) (by rw [c1_2]; rfl) (by decide) ?_
    have h := h.1 c1_2
    refine wp_aload_n d_mo_count_66 rfl 0 rfl ?_
    refine wp_getr d_mo_count_67 6 s_101 rfl (Nat.le_of_ble_eq_true rfl) (Nat.le_of_ble_eq_true rfl) rfl rfl lk_mo_25 ?_
    refine wp_iload_n d_mo_count_70 rfl 1 rfl ?_
    refine wp_iconst d_mo_count_71 ⟨by decide, by decide⟩ ?_
    refine wp_isub d_mo_count_72 ?_
    obtain ⟨⟨a2, b2⟩, h⟩ := h
    refine wp_iald d_mo_count_73 s_107 (Nat.le_of_ble_eq_true rfl) a2 b2 ?_
    exact wp_iret d_mo_count_74 rfl ⟨Nat.le_of_ble_eq_true rfl, Nat.le_of_ble_eq_true rfl⟩ ⟨_, rfl, rfl, rfl, h⟩
  replace h := h.2
  by_cases c1_3 : v1 = 3
  · refine wp_tabIn 66 d_mo_count_7 (by omega) (by omega) (by rw [c1_3]; rfl) (by decide) ?_
    have h := h.1 c1_3
    refine wp_aload_n d_mo_count_66 rfl 0 rfl ?_
    refine wp_getr d_mo_count_67 6 s_101 rfl (Nat.le_of_ble_eq_true rfl) (Nat.le_of_ble_eq_true rfl) rfl rfl lk_mo_25 ?_
    refine wp_iload_n d_mo_count_70 rfl 1 rfl ?_
    refine wp_iconst d_mo_count_71 ⟨by decide, by decide⟩ ?_
    refine wp_isub d_mo_count_72 ?_
    obtain ⟨⟨a2, b2⟩, h⟩ := h
    refine wp_iald d_mo_count_73 s_107 (Nat.le_of_ble_eq_true rfl) a2 b2 ?_
    exact wp_iret d_mo_count_74 rfl ⟨Nat.le_of_ble_eq_true rfl, Nat.le_of_ble_eq_true rfl⟩ ⟨_, rfl, rfl, rfl, h⟩
  replace h := h.2
  by_cases c1_4 : v1 = 4
  · refine wp_tabIn 75 d_mo_count_7 (by omega) (by omega) (by rw [c1_4]; rfl) (by decide) ?_
    have h := h.1 c1_4
    refine wp_aload_n d_mo_count_75 rfl 0 rfl ?_
    refine wp_geti d_mo_count_76 12 s_101 rfl (Nat.le_of_ble_eq_true rfl) (Nat.le_of_ble_eq_true rfl) rfl lk_mo_157 ?_
    exact wp_iret d_mo_count_79 rfl ⟨Nat.le_of_ble_eq_true rfl, Nat.le_of_ble_eq_true rfl⟩ ⟨_, rfl, rfl, rfl, h⟩
  replace h := h.2
  by_cases c1_5 : v1 = 5
  · refine wp_tabIn 80 d_mo_count_7 (by omega) (by omega) (by rw [c1_5]; rfl) (by decide) ?_
    have h := h.1 c1_5
    refine wp_aload_n d_mo_count_80 rfl 0 rfl ?_
    refine wp_bipush d_mo_count_81 ⟨by decide, by decide⟩ (by decide) ?_
    refine wp_aload_n d_mo_count_83 rfl 0 rfl ?_
    refine wp_geti d_mo_count_84 14 s_101 rfl (Nat.le_of_ble_eq_true rfl) (Nat.le_of_ble_eq_true rfl) rfl lk_mo_73 ?_
    refine wp_callV [pI _, pI _] _ d_mo_count_87 jd_mo_lives lk_mo_195 rfl s_101 rfl (Nat.le_of_ble_eq_true rfl) (Nat.le_of_ble_eq_true rfl) rfl ?_
    refine clV_k h ?_
    intro M2 h
    refine wp_iconst d_mo_count_90 ⟨by decide, by decide⟩ ?_
    refine wp_istore_n (L2 := [(0, pR 101), (1, pI _), (2, pI _), (3, pI _)]) d_mo_count_91 rfl (Nat.le_of_ble_eq_true rfl) [1, 2, 3, 0] rfl ?_
    refine wp_sub (L2 := [(0, pR 101), (2, pI _), (3, pI _)]) [0, 2, 3] rfl ?_
    exact h
  replace h := h.2
  by_cases c1_6 : v1 = 6
  · refine wp_tabIn 117 d_mo_count_7 (by omega) (by omega) (by rw [c1_6]; rfl) (by decide) ?_
    have h := h.1 c1_6
    refine wp_aload_n d_mo_count_117 rfl 0 rfl ?_
    refine wp_geti d_mo_count_118 14 s_101 rfl (Nat.le_of_ble_eq_true rfl) (Nat.le_of_ble_eq_true rfl) rfl lk_mo_73 ?_
    exact wp_iret d_mo_count_121 rfl ⟨Nat.le_of_ble_eq_true rfl, Nat.le_of_ble_eq_true rfl⟩ ⟨_, rfl, rfl, rfl, h⟩
  replace h := h.2
  by_cases c1_7 : v1 = 7
  · refine wp_tabIn 122 d_mo_count_7 (by omega) (by omega) (by rw [c1_7]; rfl) (by decide) ?_
    have h := h.1 c1_7
    refine wp_iconst d_mo_count_122 ⟨by decide, by decide⟩ ?_
    refine wp_istore_n (L2 := [(0, pR 101), (1, pI _), (2, pI _), (3, pI _)]) d_mo_count_123 rfl (Nat.le_of_ble_eq_true rfl) [1, 2, 3, 0] rfl ?_
    refine wp_sub (L2 := [(0, pR 101), (2, pI _), (3, pI _)]) [0, 2, 3] rfl ?_
    exact h
  replace h := h.2
  by_cases c1_8 : v1 = 8
  · refine wp_tabIn 149 d_mo_count_7 (by omega) (by omega) (by rw [c1_8]; rfl) (by decide) ?_
    have h := h.1 c1_8
    refine wp_aload_n d_mo_count_149 rfl 0 rfl ?_
    refine wp_geti d_mo_count_150 4 s_101 rfl (Nat.le_of_ble_eq_true rfl) (Nat.le_of_ble_eq_true rfl) rfl lk_mo_83 ?_
    exact wp_iret d_mo_count_153 rfl ⟨Nat.le_of_ble_eq_true rfl, Nat.le_of_ble_eq_true rfl⟩ ⟨_, rfl, rfl, rfl, h⟩
  replace h := h.2
  have c1 : v1 < 0 ∨ 8 < v1 := by omega
  refine wp_tabOut 154 d_mo_count_7 c1 (by decide) ?_
  have h := h c1
  refine wp_bipush d_mo_count_154 ⟨by decide, by decide⟩ (by decide) ?_
  exact wp_iret d_mo_count_156 rfl ⟨Nat.le_of_ble_eq_true rfl, Nat.le_of_ble_eq_true rfl⟩ ⟨_, rfl, rfl, rfl, h⟩
set_option maxHeartbeats 8000000 in
theorem b_mo_count_92 {G : GT} {M : MT} {P : Int → MT → Prop} (v2 : Int) (v3 : Int)
    (h : ((M 101 12) ≤ v3 → P v2 M) ∧ (v3 < (M 101 12) → (0 ≤ v3 ∧ v3 < 12) ∧ (WpI G J_mo_count 92 [(0, pR 101), (2, pI (w32 (v2 + (M 118 (v3.toNat))))), (3, pI (w32 (v3 + 1)))] [] M P))) : WpI G J_mo_count 92 [(0, pR 101), (2, pI v2), (3, pI v3)] [] M P := by
  show Wp G J_mo_count 0 0 92 [(0, pR 101), (2, pI v2), (3, pI v3)] [] NN RF M _
  refine wp_iload_n d_mo_count_92 rfl 2 rfl ?_
  refine wp_aload_n d_mo_count_93 rfl 0 rfl ?_
  refine wp_geti d_mo_count_94 12 s_101 rfl (Nat.le_of_ble_eq_true rfl) (Nat.le_of_ble_eq_true rfl) rfl lk_mo_157 ?_
  refine wp_icmp_ge 115 d_mo_count_97 (by decide) (fun c1 => ?_) (fun c1 => ?_)
  · have h := h.1 c1
    refine wp_iload_n d_mo_count_115 rfl 1 rfl ?_
    exact wp_iret d_mo_count_116 rfl ⟨Nat.le_of_ble_eq_true rfl, Nat.le_of_ble_eq_true rfl⟩ ⟨_, rfl, rfl, rfl, h⟩
  · have h := h.2 c1
    refine wp_iload_n d_mo_count_100 rfl 1 rfl ?_
    refine wp_aload_n d_mo_count_101 rfl 0 rfl ?_
    refine wp_getr d_mo_count_102 21 s_101 rfl (Nat.le_of_ble_eq_true rfl) (Nat.le_of_ble_eq_true rfl) rfl rfl lk_mo_58 ?_
    refine wp_iload_n d_mo_count_105 rfl 2 rfl ?_
    obtain ⟨⟨a2, b2⟩, h⟩ := h
    refine wp_iald d_mo_count_106 s_118 (Nat.le_of_ble_eq_true rfl) a2 b2 ?_
    refine wp_iadd d_mo_count_107 ?_
    refine wp_istore_n (L2 := [(0, pR 101), (2, pI _), (3, pI _)]) d_mo_count_108 rfl (Nat.le_of_ble_eq_true rfl) [1, 0, 2] rfl ?_
    refine wp_iinc (L2 := [(0, pR 101), (2, pI _), (3, pI _)]) d_mo_count_109 2 rfl (Nat.le_of_ble_eq_true rfl) [1, 2, 0] rfl ?_
    refine wp_goto 92 d_mo_count_112 (by decide) ?_
    exact h
set_option maxHeartbeats 8000000 in
theorem b_mo_count_124 {G : GT} {M : MT} {P : Int → MT → Prop} (v2 : Int) (v3 : Int)
    (h : ((M 101 7) ≤ v3 → P v2 M) ∧ (v3 < (M 101 7) → (0 ≤ v3 ∧ v3 < 6) ∧ (WpI G J_mo_count 124 [(0, pR 101), (2, pI (w32 (v2 + (M 109 (v3.toNat))))), (3, pI (w32 (v3 + 1)))] [] M P))) : WpI G J_mo_count 124 [(0, pR 101), (2, pI v2), (3, pI v3)] [] M P := by
  show Wp G J_mo_count 0 0 124 [(0, pR 101), (2, pI v2), (3, pI v3)] [] NN RF M _
  refine wp_iload_n d_mo_count_124 rfl 2 rfl ?_
  refine wp_aload_n d_mo_count_125 rfl 0 rfl ?_
  refine wp_geti d_mo_count_126 7 s_101 rfl (Nat.le_of_ble_eq_true rfl) (Nat.le_of_ble_eq_true rfl) rfl lk_mo_112 ?_
  refine wp_icmp_ge 147 d_mo_count_129 (by decide) (fun c1 => ?_) (fun c1 => ?_)
  · have h := h.1 c1
    refine wp_iload_n d_mo_count_147 rfl 1 rfl ?_
    exact wp_iret d_mo_count_148 rfl ⟨Nat.le_of_ble_eq_true rfl, Nat.le_of_ble_eq_true rfl⟩ ⟨_, rfl, rfl, rfl, h⟩
  · have h := h.2 c1
    refine wp_iload_n d_mo_count_132 rfl 1 rfl ?_
    refine wp_aload_n d_mo_count_133 rfl 0 rfl ?_
    refine wp_getr d_mo_count_134 9 s_101 rfl (Nat.le_of_ble_eq_true rfl) (Nat.le_of_ble_eq_true rfl) rfl rfl lk_mo_31 ?_
    refine wp_iload_n d_mo_count_137 rfl 2 rfl ?_
    obtain ⟨⟨a2, b2⟩, h⟩ := h
    refine wp_iald d_mo_count_138 s_109 (Nat.le_of_ble_eq_true rfl) a2 b2 ?_
    refine wp_iadd d_mo_count_139 ?_
    refine wp_istore_n (L2 := [(0, pR 101), (2, pI _), (3, pI _)]) d_mo_count_140 rfl (Nat.le_of_ble_eq_true rfl) [1, 0, 2] rfl ?_
    refine wp_iinc (L2 := [(0, pR 101), (2, pI _), (3, pI _)]) d_mo_count_141 2 rfl (Nat.le_of_ble_eq_true rfl) [1, 2, 0] rfl ?_
    refine wp_goto 124 d_mo_count_144 (by decide) ?_
    exact h
set_option maxHeartbeats 8000000 in
theorem e_mo_tellsTune {G : GT} {M : MT} {P : Int → MT → Prop} (v1 : Int) (v3 : Int)
    (h : (0 ≤ v3 ∧ v3 < 6) ∧ (WpL G J_mo_tellsTune 15 [(0, pR 101), (3, pI v3), (4, pL (w64 ((w64 (31 * v1)) + (M 109 (v3.toNat)))))] [] M P)) : ClL G J_mo_tellsTune M [pR 101, pL v1, pI v3] P := by
  show Wp G J_mo_tellsTune 0 0 0 [(0, pR 101), (1, pL v1), (3, pI v3)] [] NN RF M _
  refine wp_ldc2 lk_mo_299 d_mo_tellsTune_0 ⟨by decide, by decide⟩ ?_
  refine wp_lload_n d_mo_tellsTune_3 rfl 1 rfl ?_
  refine wp_lmul d_mo_tellsTune_4 ?_
  refine wp_aload_n d_mo_tellsTune_5 rfl 0 rfl ?_
  refine wp_getr d_mo_tellsTune_6 9 s_101 rfl (Nat.le_of_ble_eq_true rfl) (Nat.le_of_ble_eq_true rfl) rfl rfl lk_mo_31 ?_
  refine wp_iload_n d_mo_tellsTune_9 rfl 2 rfl ?_
  obtain ⟨⟨a1, b1⟩, h⟩ := h
  refine wp_iald d_mo_tellsTune_10 s_109 (Nat.le_of_ble_eq_true rfl) a1 b1 ?_
  refine wp_i2l d_mo_tellsTune_11 ?_
  refine wp_ladd d_mo_tellsTune_12 ?_
  refine wp_lstore (L2 := [(0, pR 101), (1, pL _), (3, pI _), (4, pL _)]) d_mo_tellsTune_13 (Nat.le_of_ble_eq_true rfl) [1, 2, 3, 0] rfl ?_
  refine wp_sub (L2 := [(0, pR 101), (3, pI _), (4, pL _)]) [0, 2, 3] rfl ?_
  exact h
set_option maxHeartbeats 8000000 in
theorem b_mo_tellsTune_15 {G : GT} {M : MT} {P : Int → MT → Prop} (v3 : Int) (v4 : Int)
    (h : ClI G J_mo_notesOf M [pR 101, pI 5, pI v3, pI (-1)] (fun x1 M1 => (WpL G J_mo_tellsTune 32 [(0, pR 101), (3, pI v3), (4, pL (w64 ((w64 (31 * v4)) + x1)))] [] M1 P))) : WpL G J_mo_tellsTune 15 [(0, pR 101), (3, pI v3), (4, pL v4)] [] M P := by
  show Wp G J_mo_tellsTune 0 0 15 [(0, pR 101), (3, pI v3), (4, pL v4)] [] NN RF M _
  refine wp_ldc2 lk_mo_299 d_mo_tellsTune_15 ⟨by decide, by decide⟩ ?_
  refine wp_lload d_mo_tellsTune_18 2 rfl ?_
  refine wp_lmul d_mo_tellsTune_20 ?_
  refine wp_aload_n d_mo_tellsTune_21 rfl 0 rfl ?_
  refine wp_iconst d_mo_tellsTune_22 ⟨by decide, by decide⟩ ?_
  refine wp_iload_n d_mo_tellsTune_23 rfl 1 rfl ?_
  refine wp_iconst d_mo_tellsTune_24 ⟨by decide, by decide⟩ ?_
  refine wp_callV [pI _, pI _, pI _] _ d_mo_tellsTune_25 jd_mo_notesOf lk_mo_198 rfl s_101 rfl (Nat.le_of_ble_eq_true rfl) (Nat.le_of_ble_eq_true rfl) rfl ?_
  refine clI_k h ?_
  intro x1 M1 h
  refine wp_i2l d_mo_tellsTune_28 ?_
  refine wp_ladd d_mo_tellsTune_29 ?_
  refine wp_lstore (L2 := [(0, pR 101), (3, pI _), (4, pL _)]) d_mo_tellsTune_30 (Nat.le_of_ble_eq_true rfl) [1, 2, 0] rfl ?_
  exact h
set_option maxHeartbeats 8000000 in
theorem b_mo_tellsTune_32 {G : GT} {M : MT} {P : Int → MT → Prop} (v3 : Int) (v4 : Int)
    (h : ClI G J_mo_notesOf M [pR 101, pI 39, pI v3, pI (-1)] (fun x1 M1 => (WpL G J_mo_tellsTune 50 [(0, pR 101), (3, pI v3), (4, pL (w64 ((w64 (31 * v4)) + x1)))] [] M1 P))) : WpL G J_mo_tellsTune 32 [(0, pR 101), (3, pI v3), (4, pL v4)] [] M P := by
  show Wp G J_mo_tellsTune 0 0 32 [(0, pR 101), (3, pI v3), (4, pL v4)] [] NN RF M _
  refine wp_ldc2 lk_mo_299 d_mo_tellsTune_32 ⟨by decide, by decide⟩ ?_
  refine wp_lload d_mo_tellsTune_35 2 rfl ?_
  refine wp_lmul d_mo_tellsTune_37 ?_
  refine wp_aload_n d_mo_tellsTune_38 rfl 0 rfl ?_
  refine wp_bipush d_mo_tellsTune_39 ⟨by decide, by decide⟩ (by decide) ?_
  refine wp_iload_n d_mo_tellsTune_41 rfl 1 rfl ?_
  refine wp_iconst d_mo_tellsTune_42 ⟨by decide, by decide⟩ ?_
  refine wp_callV [pI _, pI _, pI _] _ d_mo_tellsTune_43 jd_mo_notesOf lk_mo_198 rfl s_101 rfl (Nat.le_of_ble_eq_true rfl) (Nat.le_of_ble_eq_true rfl) rfl ?_
  refine clI_k h ?_
  intro x1 M1 h
  refine wp_i2l d_mo_tellsTune_46 ?_
  refine wp_ladd d_mo_tellsTune_47 ?_
  refine wp_lstore (L2 := [(0, pR 101), (3, pI _), (4, pL _)]) d_mo_tellsTune_48 (Nat.le_of_ble_eq_true rfl) [1, 2, 0] rfl ?_
  exact h
set_option maxHeartbeats 8000000 in
theorem b_mo_tellsTune_50 {G : GT} {M : MT} {P : Int → MT → Prop} (v3 : Int) (v4 : Int)
    (h : ClI G J_mo_notesOf M [pR 101, pI 5, pI v3, pI 2] (fun x1 M1 => (WpL G J_mo_tellsTune 67 [(0, pR 101), (3, pI v3), (4, pL (w64 ((w64 (31 * v4)) + x1)))] [] M1 P))) : WpL G J_mo_tellsTune 50 [(0, pR 101), (3, pI v3), (4, pL v4)] [] M P := by
  show Wp G J_mo_tellsTune 0 0 50 [(0, pR 101), (3, pI v3), (4, pL v4)] [] NN RF M _
  refine wp_ldc2 lk_mo_299 d_mo_tellsTune_50 ⟨by decide, by decide⟩ ?_
  refine wp_lload d_mo_tellsTune_53 2 rfl ?_
  refine wp_lmul d_mo_tellsTune_55 ?_
  refine wp_aload_n d_mo_tellsTune_56 rfl 0 rfl ?_
  refine wp_iconst d_mo_tellsTune_57 ⟨by decide, by decide⟩ ?_
  refine wp_iload_n d_mo_tellsTune_58 rfl 1 rfl ?_
  refine wp_iconst d_mo_tellsTune_59 ⟨by decide, by decide⟩ ?_
  refine wp_callV [pI _, pI _, pI _] _ d_mo_tellsTune_60 jd_mo_notesOf lk_mo_198 rfl s_101 rfl (Nat.le_of_ble_eq_true rfl) (Nat.le_of_ble_eq_true rfl) rfl ?_
  refine clI_k h ?_
  intro x1 M1 h
  refine wp_i2l d_mo_tellsTune_63 ?_
  refine wp_ladd d_mo_tellsTune_64 ?_
  refine wp_lstore (L2 := [(0, pR 101), (3, pI _), (4, pL _)]) d_mo_tellsTune_65 (Nat.le_of_ble_eq_true rfl) [1, 2, 0] rfl ?_
  exact h
set_option maxHeartbeats 8000000 in
theorem b_mo_tellsTune_67 {G : GT} {M : MT} {P : Int → MT → Prop} (v3 : Int) (v4 : Int)
    (h : ClI G J_mo_hasOf M [pR 101, pI 5, pI v3] (fun x1 M1 => (WpL G J_mo_tellsTune 83 [(0, pR 101), (3, pI v3), (4, pL (w64 ((w64 (31 * v4)) + x1)))] [] M1 P))) : WpL G J_mo_tellsTune 67 [(0, pR 101), (3, pI v3), (4, pL v4)] [] M P := by
  show Wp G J_mo_tellsTune 0 0 67 [(0, pR 101), (3, pI v3), (4, pL v4)] [] NN RF M _
  refine wp_ldc2 lk_mo_299 d_mo_tellsTune_67 ⟨by decide, by decide⟩ ?_
  refine wp_lload d_mo_tellsTune_70 2 rfl ?_
  refine wp_lmul d_mo_tellsTune_72 ?_
  refine wp_aload_n d_mo_tellsTune_73 rfl 0 rfl ?_
  refine wp_iconst d_mo_tellsTune_74 ⟨by decide, by decide⟩ ?_
  refine wp_iload_n d_mo_tellsTune_75 rfl 1 rfl ?_
  refine wp_callV [pI _, pI _] _ d_mo_tellsTune_76 jd_mo_hasOf lk_mo_201 rfl s_101 rfl (Nat.le_of_ble_eq_true rfl) (Nat.le_of_ble_eq_true rfl) rfl ?_
  refine clI_k h ?_
  intro x1 M1 h
  refine wp_i2l d_mo_tellsTune_79 ?_
  refine wp_ladd d_mo_tellsTune_80 ?_
  refine wp_lstore (L2 := [(0, pR 101), (3, pI _), (4, pL _)]) d_mo_tellsTune_81 (Nat.le_of_ble_eq_true rfl) [1, 2, 0] rfl ?_
  exact h
set_option maxHeartbeats 8000000 in
theorem b_mo_tellsTune_83 {G : GT} {M : MT} {P : Int → MT → Prop} (v3 : Int) (v4 : Int)
    (h : ClI G J_mo_lendOf M [pR 101, pI v3, pI 9, pI (-1)] (fun x1 M1 => (WpL G J_mo_tellsTune 101 [(0, pR 101), (3, pI v3), (4, pL (w64 ((w64 (31 * v4)) + x1)))] [] M1 P))) : WpL G J_mo_tellsTune 83 [(0, pR 101), (3, pI v3), (4, pL v4)] [] M P := by
  show Wp G J_mo_tellsTune 0 0 83 [(0, pR 101), (3, pI v3), (4, pL v4)] [] NN RF M _
  refine wp_ldc2 lk_mo_299 d_mo_tellsTune_83 ⟨by decide, by decide⟩ ?_
  refine wp_lload d_mo_tellsTune_86 2 rfl ?_
  refine wp_lmul d_mo_tellsTune_88 ?_
  refine wp_aload_n d_mo_tellsTune_89 rfl 0 rfl ?_
  refine wp_iload_n d_mo_tellsTune_90 rfl 1 rfl ?_
  refine wp_bipush d_mo_tellsTune_91 ⟨by decide, by decide⟩ (by decide) ?_
  refine wp_iconst d_mo_tellsTune_93 ⟨by decide, by decide⟩ ?_
  refine wp_callV [pI _, pI _, pI _] _ d_mo_tellsTune_94 jd_mo_lendOf lk_mo_228 rfl s_101 rfl (Nat.le_of_ble_eq_true rfl) (Nat.le_of_ble_eq_true rfl) rfl ?_
  refine clI_k h ?_
  intro x1 M1 h
  refine wp_i2l d_mo_tellsTune_97 ?_
  refine wp_ladd d_mo_tellsTune_98 ?_
  refine wp_lstore (L2 := [(0, pR 101), (3, pI _), (4, pL _)]) d_mo_tellsTune_99 (Nat.le_of_ble_eq_true rfl) [1, 2, 0] rfl ?_
  exact h
set_option maxHeartbeats 8000000 in
theorem b_mo_tellsTune_101 {G : GT} {M : MT} {P : Int → MT → Prop} (v3 : Int) (v4 : Int)
    (h : ClI G J_mo_lendOf M [pR 101, pI v3, pI 9, pI 0] (fun x1 M1 => (WpL G J_mo_tellsTune 119 [(0, pR 101), (3, pI v3), (4, pL (w64 ((w64 (31 * v4)) + x1)))] [] M1 P))) : WpL G J_mo_tellsTune 101 [(0, pR 101), (3, pI v3), (4, pL v4)] [] M P := by
  show Wp G J_mo_tellsTune 0 0 101 [(0, pR 101), (3, pI v3), (4, pL v4)] [] NN RF M _
  refine wp_ldc2 lk_mo_299 d_mo_tellsTune_101 ⟨by decide, by decide⟩ ?_
  refine wp_lload d_mo_tellsTune_104 2 rfl ?_
  refine wp_lmul d_mo_tellsTune_106 ?_
  refine wp_aload_n d_mo_tellsTune_107 rfl 0 rfl ?_
  refine wp_iload_n d_mo_tellsTune_108 rfl 1 rfl ?_
  refine wp_bipush d_mo_tellsTune_109 ⟨by decide, by decide⟩ (by decide) ?_
  refine wp_iconst d_mo_tellsTune_111 ⟨by decide, by decide⟩ ?_
  refine wp_callV [pI _, pI _, pI _] _ d_mo_tellsTune_112 jd_mo_lendOf lk_mo_228 rfl s_101 rfl (Nat.le_of_ble_eq_true rfl) (Nat.le_of_ble_eq_true rfl) rfl ?_
  refine clI_k h ?_
  intro x1 M1 h
  refine wp_i2l d_mo_tellsTune_115 ?_
  refine wp_ladd d_mo_tellsTune_116 ?_
  refine wp_lstore (L2 := [(0, pR 101), (3, pI _), (4, pL _)]) d_mo_tellsTune_117 (Nat.le_of_ble_eq_true rfl) [1, 2, 0] rfl ?_
  exact h
set_option maxHeartbeats 8000000 in
theorem b_mo_tellsTune_119 {G : GT} {M : MT} {P : Int → MT → Prop} (v3 : Int) (v4 : Int)
    (h : ClI G J_mo_longestOf M [pR 101, pI v3, pI 3, pI (-1)] (fun x1 M1 => (WpL G J_mo_tellsTune 136 [(0, pR 101), (3, pI v3), (4, pL (w64 ((w64 (31 * v4)) + x1)))] [] M1 P))) : WpL G J_mo_tellsTune 119 [(0, pR 101), (3, pI v3), (4, pL v4)] [] M P := by
  show Wp G J_mo_tellsTune 0 0 119 [(0, pR 101), (3, pI v3), (4, pL v4)] [] NN RF M _
  refine wp_ldc2 lk_mo_299 d_mo_tellsTune_119 ⟨by decide, by decide⟩ ?_
  refine wp_lload d_mo_tellsTune_122 2 rfl ?_
  refine wp_lmul d_mo_tellsTune_124 ?_
  refine wp_aload_n d_mo_tellsTune_125 rfl 0 rfl ?_
  refine wp_iload_n d_mo_tellsTune_126 rfl 1 rfl ?_
  refine wp_iconst d_mo_tellsTune_127 ⟨by decide, by decide⟩ ?_
  refine wp_iconst d_mo_tellsTune_128 ⟨by decide, by decide⟩ ?_
  refine wp_callV [pI _, pI _, pI _] _ d_mo_tellsTune_129 jd_mo_longestOf lk_mo_231 rfl s_101 rfl (Nat.le_of_ble_eq_true rfl) (Nat.le_of_ble_eq_true rfl) rfl ?_
  refine clI_k h ?_
  intro x1 M1 h
  refine wp_i2l d_mo_tellsTune_132 ?_
  refine wp_ladd d_mo_tellsTune_133 ?_
  refine wp_lstore (L2 := [(0, pR 101), (3, pI _), (4, pL _)]) d_mo_tellsTune_134 (Nat.le_of_ble_eq_true rfl) [1, 2, 0] rfl ?_
  exact h
set_option maxHeartbeats 8000000 in
theorem b_mo_tellsTune_136 {G : GT} {M : MT} {P : Int → MT → Prop} (v3 : Int) (v4 : Int)
    (h : ClI G J_mo_longestOf M [pR 101, pI v3, pI 3, pI 0] (fun x1 M1 => (WpL G J_mo_tellsTune 153 [(0, pR 101), (3, pI v3), (4, pL (w64 ((w64 (31 * v4)) + x1)))] [] M1 P))) : WpL G J_mo_tellsTune 136 [(0, pR 101), (3, pI v3), (4, pL v4)] [] M P := by
  show Wp G J_mo_tellsTune 0 0 136 [(0, pR 101), (3, pI v3), (4, pL v4)] [] NN RF M _
  refine wp_ldc2 lk_mo_299 d_mo_tellsTune_136 ⟨by decide, by decide⟩ ?_
  refine wp_lload d_mo_tellsTune_139 2 rfl ?_
  refine wp_lmul d_mo_tellsTune_141 ?_
  refine wp_aload_n d_mo_tellsTune_142 rfl 0 rfl ?_
  refine wp_iload_n d_mo_tellsTune_143 rfl 1 rfl ?_
  refine wp_iconst d_mo_tellsTune_144 ⟨by decide, by decide⟩ ?_
  refine wp_iconst d_mo_tellsTune_145 ⟨by decide, by decide⟩ ?_
  refine wp_callV [pI _, pI _, pI _] _ d_mo_tellsTune_146 jd_mo_longestOf lk_mo_231 rfl s_101 rfl (Nat.le_of_ble_eq_true rfl) (Nat.le_of_ble_eq_true rfl) rfl ?_
  refine clI_k h ?_
  intro x1 M1 h
  refine wp_i2l d_mo_tellsTune_149 ?_
  refine wp_ladd d_mo_tellsTune_150 ?_
  refine wp_lstore (L2 := [(0, pR 101), (3, pI _), (4, pL _)]) d_mo_tellsTune_151 (Nat.le_of_ble_eq_true rfl) [1, 2, 0] rfl ?_
  exact h
set_option maxHeartbeats 8000000 in
theorem b_mo_tellsTune_153 {G : GT} {M : MT} {P : Int → MT → Prop} (v3 : Int) (v4 : Int)
    (h : ClI G J_mo_whoOf M [pR 101, pI 0, pI v3, pI 0] (fun x1 M1 => (WpL G J_mo_tellsTune 170 [(0, pR 101), (3, pI v3), (4, pL (w64 ((w64 (31 * v4)) + x1)))] [] M1 P))) : WpL G J_mo_tellsTune 153 [(0, pR 101), (3, pI v3), (4, pL v4)] [] M P := by
  show Wp G J_mo_tellsTune 0 0 153 [(0, pR 101), (3, pI v3), (4, pL v4)] [] NN RF M _
  refine wp_ldc2 lk_mo_299 d_mo_tellsTune_153 ⟨by decide, by decide⟩ ?_
  refine wp_lload d_mo_tellsTune_156 2 rfl ?_
  refine wp_lmul d_mo_tellsTune_158 ?_
  refine wp_aload_n d_mo_tellsTune_159 rfl 0 rfl ?_
  refine wp_iconst d_mo_tellsTune_160 ⟨by decide, by decide⟩ ?_
  refine wp_iload_n d_mo_tellsTune_161 rfl 1 rfl ?_
  refine wp_iconst d_mo_tellsTune_162 ⟨by decide, by decide⟩ ?_
  refine wp_callV [pI _, pI _, pI _] _ d_mo_tellsTune_163 jd_mo_whoOf lk_mo_240 rfl s_101 rfl (Nat.le_of_ble_eq_true rfl) (Nat.le_of_ble_eq_true rfl) rfl ?_
  refine clI_k h ?_
  intro x1 M1 h
  refine wp_i2l d_mo_tellsTune_166 ?_
  refine wp_ladd d_mo_tellsTune_167 ?_
  refine wp_lstore (L2 := [(0, pR 101), (3, pI _), (4, pL _)]) d_mo_tellsTune_168 (Nat.le_of_ble_eq_true rfl) [1, 2, 0] rfl ?_
  exact h
set_option maxHeartbeats 8000000 in
theorem b_mo_tellsTune_170 {G : GT} {M : MT} {P : Int → MT → Prop} (v3 : Int) (v4 : Int)
    (h : ClI G J_mo_whoOf M [pR 101, pI 0, pI v3, pI 1] (fun x1 M1 => (WpL G J_mo_tellsTune 187 [(0, pR 101), (3, pI v3), (4, pL (w64 ((w64 (31 * v4)) + x1)))] [] M1 P))) : WpL G J_mo_tellsTune 170 [(0, pR 101), (3, pI v3), (4, pL v4)] [] M P := by
  show Wp G J_mo_tellsTune 0 0 170 [(0, pR 101), (3, pI v3), (4, pL v4)] [] NN RF M _
  refine wp_ldc2 lk_mo_299 d_mo_tellsTune_170 ⟨by decide, by decide⟩ ?_
  refine wp_lload d_mo_tellsTune_173 2 rfl ?_
  refine wp_lmul d_mo_tellsTune_175 ?_
  refine wp_aload_n d_mo_tellsTune_176 rfl 0 rfl ?_
  refine wp_iconst d_mo_tellsTune_177 ⟨by decide, by decide⟩ ?_
  refine wp_iload_n d_mo_tellsTune_178 rfl 1 rfl ?_
  refine wp_iconst d_mo_tellsTune_179 ⟨by decide, by decide⟩ ?_
  refine wp_callV [pI _, pI _, pI _] _ d_mo_tellsTune_180 jd_mo_whoOf lk_mo_240 rfl s_101 rfl (Nat.le_of_ble_eq_true rfl) (Nat.le_of_ble_eq_true rfl) rfl ?_
  refine clI_k h ?_
  intro x1 M1 h
  refine wp_i2l d_mo_tellsTune_183 ?_
  refine wp_ladd d_mo_tellsTune_184 ?_
  refine wp_lstore (L2 := [(0, pR 101), (3, pI _), (4, pL _)]) d_mo_tellsTune_185 (Nat.le_of_ble_eq_true rfl) [1, 2, 0] rfl ?_
  exact h
set_option maxHeartbeats 8000000 in
theorem b_mo_tellsTune_187 {G : GT} {M : MT} {P : Int → MT → Prop} (v3 : Int) (v4 : Int)
    (h : ClI G J_mo_farOf M [pR 101, pI 0, pI v3] (fun x1 M1 => (WpL G J_mo_tellsTune 203 [(0, pR 101), (3, pI v3), (4, pL (w64 ((w64 (31 * v4)) + x1)))] [] M1 P))) : WpL G J_mo_tellsTune 187 [(0, pR 101), (3, pI v3), (4, pL v4)] [] M P := by
  show Wp G J_mo_tellsTune 0 0 187 [(0, pR 101), (3, pI v3), (4, pL v4)] [] NN RF M _
  refine wp_ldc2 lk_mo_299 d_mo_tellsTune_187 ⟨by decide, by decide⟩ ?_
  refine wp_lload d_mo_tellsTune_190 2 rfl ?_
  refine wp_lmul d_mo_tellsTune_192 ?_
  refine wp_aload_n d_mo_tellsTune_193 rfl 0 rfl ?_
  refine wp_iconst d_mo_tellsTune_194 ⟨by decide, by decide⟩ ?_
  refine wp_iload_n d_mo_tellsTune_195 rfl 1 rfl ?_
  refine wp_callV [pI _, pI _] _ d_mo_tellsTune_196 jd_mo_farOf lk_mo_246 rfl s_101 rfl (Nat.le_of_ble_eq_true rfl) (Nat.le_of_ble_eq_true rfl) rfl ?_
  refine clI_k h ?_
  intro x1 M1 h
  refine wp_i2l d_mo_tellsTune_199 ?_
  refine wp_ladd d_mo_tellsTune_200 ?_
  refine wp_lstore (L2 := [(0, pR 101), (3, pI _), (4, pL _)]) d_mo_tellsTune_201 (Nat.le_of_ble_eq_true rfl) [1, 2, 0] rfl ?_
  exact h
set_option maxHeartbeats 8000000 in
theorem b_mo_tellsTune_203 {G : GT} {M : MT} {P : Int → MT → Prop} (v3 : Int) (v4 : Int)
    (h : ClI G J_mo_nearestOf M [pR 101, pI v3] (fun x1 M1 => (WpL G J_mo_tellsTune 218 [(0, pR 101), (3, pI v3), (4, pL (w64 ((w64 (31 * v4)) + x1)))] [] M1 P))) : WpL G J_mo_tellsTune 203 [(0, pR 101), (3, pI v3), (4, pL v4)] [] M P := by
  show Wp G J_mo_tellsTune 0 0 203 [(0, pR 101), (3, pI v3), (4, pL v4)] [] NN RF M _
  refine wp_ldc2 lk_mo_299 d_mo_tellsTune_203 ⟨by decide, by decide⟩ ?_
  refine wp_lload d_mo_tellsTune_206 2 rfl ?_
  refine wp_lmul d_mo_tellsTune_208 ?_
  refine wp_aload_n d_mo_tellsTune_209 rfl 0 rfl ?_
  refine wp_iload_n d_mo_tellsTune_210 rfl 1 rfl ?_
  refine wp_callV [pI _] _ d_mo_tellsTune_211 jd_mo_nearestOf lk_mo_249 rfl s_101 rfl (Nat.le_of_ble_eq_true rfl) (Nat.le_of_ble_eq_true rfl) rfl ?_
  refine clI_k h ?_
  intro x1 M1 h
  refine wp_i2l d_mo_tellsTune_214 ?_
  refine wp_ladd d_mo_tellsTune_215 ?_
  refine wp_lstore (L2 := [(0, pR 101), (3, pI _), (4, pL _)]) d_mo_tellsTune_216 (Nat.le_of_ble_eq_true rfl) [1, 2, 0] rfl ?_
  exact h
set_option maxHeartbeats 8000000 in
theorem b_mo_tellsTune_218 {G : GT} {M : MT} {P : Int → MT → Prop} (v3 : Int) (v4 : Int)
    (h : ClI G J_mo_mothersOf M [pR 101, pI v3] (fun x1 M1 => (WpL G J_mo_tellsTune 233 [(0, pR 101), (3, pI v3), (4, pL (w64 ((w64 (31 * v4)) + x1)))] [] M1 P))) : WpL G J_mo_tellsTune 218 [(0, pR 101), (3, pI v3), (4, pL v4)] [] M P := by
  show Wp G J_mo_tellsTune 0 0 218 [(0, pR 101), (3, pI v3), (4, pL v4)] [] NN RF M _
  refine wp_ldc2 lk_mo_299 d_mo_tellsTune_218 ⟨by decide, by decide⟩ ?_
  refine wp_lload d_mo_tellsTune_221 2 rfl ?_
  refine wp_lmul d_mo_tellsTune_223 ?_
  refine wp_aload_n d_mo_tellsTune_224 rfl 0 rfl ?_
  refine wp_iload_n d_mo_tellsTune_225 rfl 1 rfl ?_
  refine wp_callV [pI _] _ d_mo_tellsTune_226 jd_mo_mothersOf lk_mo_252 rfl s_101 rfl (Nat.le_of_ble_eq_true rfl) (Nat.le_of_ble_eq_true rfl) rfl ?_
  refine clI_k h ?_
  intro x1 M1 h
  refine wp_i2l d_mo_tellsTune_229 ?_
  refine wp_ladd d_mo_tellsTune_230 ?_
  refine wp_lstore (L2 := [(0, pR 101), (3, pI _), (4, pL _)]) d_mo_tellsTune_231 (Nat.le_of_ble_eq_true rfl) [1, 2, 0] rfl ?_
  exact h
set_option maxHeartbeats 8000000 in
theorem b_mo_tellsTune_233 {G : GT} {M : MT} {P : Int → MT → Prop} (v3 : Int) (v4 : Int)
    (h : ClI G J_mo_tellsOf M [pR 101, pI v3] (fun x1 M1 => (ClI G J_mo_tellsBits M1 [pI x1, pI 0] (fun x2 M2 => (WpL G J_mo_tellsTune 256 [(0, pR 101), (3, pI v3), (4, pL (w64 ((w64 (31 * v4)) + x2))), (6, pI x1)] [] M2 P))))) : WpL G J_mo_tellsTune 233 [(0, pR 101), (3, pI v3), (4, pL v4)] [] M P := by
  show Wp G J_mo_tellsTune 0 0 233 [(0, pR 101), (3, pI v3), (4, pL v4)] [] NN RF M _
  refine wp_aload_n d_mo_tellsTune_233 rfl 0 rfl ?_
  refine wp_iload_n d_mo_tellsTune_234 rfl 1 rfl ?_
  refine wp_callV [pI _] _ d_mo_tellsTune_235 jd_mo_tellsOf lk_mo_265 rfl s_101 rfl (Nat.le_of_ble_eq_true rfl) (Nat.le_of_ble_eq_true rfl) rfl ?_
  refine clI_k h ?_
  intro x1 M1 h
  refine wp_istore (L2 := [(0, pR 101), (3, pI _), (4, pL _), (6, pI _)]) d_mo_tellsTune_238 (Nat.le_of_ble_eq_true rfl) [1, 2, 3, 0] rfl ?_
  refine wp_ldc2 lk_mo_299 d_mo_tellsTune_240 ⟨by decide, by decide⟩ ?_
  refine wp_lload d_mo_tellsTune_243 2 rfl ?_
  refine wp_lmul d_mo_tellsTune_245 ?_
  refine wp_iload d_mo_tellsTune_246 3 rfl ?_
  refine wp_iconst d_mo_tellsTune_248 ⟨by decide, by decide⟩ ?_
  refine wp_callS [pI _, pI _] d_mo_tellsTune_249 jd_mo_tellsBits lk_mo_268 rfl (Nat.le_of_ble_eq_true rfl) rfl ?_
  refine clI_k h ?_
  intro x2 M2 h
  refine wp_i2l d_mo_tellsTune_252 ?_
  refine wp_ladd d_mo_tellsTune_253 ?_
  refine wp_lstore (L2 := [(0, pR 101), (3, pI _), (4, pL _), (6, pI _)]) d_mo_tellsTune_254 (Nat.le_of_ble_eq_true rfl) [1, 2, 0, 3] rfl ?_
  exact h
set_option maxHeartbeats 8000000 in
theorem b_mo_tellsTune_256 {G : GT} {M : MT} {P : Int → MT → Prop} (v3 : Int) (v4 : Int) (v6 : Int)
    (h : ClI G J_mo_tellsBits M [pI v6, pI 1] (fun x1 M1 => (WpL G J_mo_tellsTune 272 [(0, pR 101), (3, pI v3), (4, pL (w64 ((w64 (31 * v4)) + x1)))] [] M1 P))) : WpL G J_mo_tellsTune 256 [(0, pR 101), (3, pI v3), (4, pL v4), (6, pI v6)] [] M P := by
  show Wp G J_mo_tellsTune 0 0 256 [(0, pR 101), (3, pI v3), (4, pL v4), (6, pI v6)] [] NN RF M _
  refine wp_ldc2 lk_mo_299 d_mo_tellsTune_256 ⟨by decide, by decide⟩ ?_
  refine wp_lload d_mo_tellsTune_259 2 rfl ?_
  refine wp_lmul d_mo_tellsTune_261 ?_
  refine wp_iload d_mo_tellsTune_262 3 rfl ?_
  refine wp_iconst d_mo_tellsTune_264 ⟨by decide, by decide⟩ ?_
  refine wp_callS [pI _, pI _] d_mo_tellsTune_265 jd_mo_tellsBits lk_mo_268 rfl (Nat.le_of_ble_eq_true rfl) rfl ?_
  refine clI_k h ?_
  intro x1 M1 h
  refine wp_i2l d_mo_tellsTune_268 ?_
  refine wp_ladd d_mo_tellsTune_269 ?_
  refine wp_lstore (L2 := [(0, pR 101), (3, pI _), (4, pL _), (6, pI _)]) d_mo_tellsTune_270 (Nat.le_of_ble_eq_true rfl) [1, 2, 0, 3] rfl ?_
  refine wp_sub (L2 := [(0, pR 101), (3, pI _), (4, pL _)]) [0, 1, 2] rfl ?_
  exact h
set_option maxHeartbeats 8000000 in
theorem b_mo_tellsTune_272 {G : GT} {M : MT} {P : Int → MT → Prop} (v3 : Int) (v4 : Int)
    (h : ClI G J_mo_fairOf M [pR 101, pI 7, pI 9, pI v3] (fun x1 M1 => (WpL G J_mo_tellsTune 291 [(0, pR 101), (3, pI v3), (4, pL (w64 ((w64 (31 * v4)) + x1)))] [] M1 P))) : WpL G J_mo_tellsTune 272 [(0, pR 101), (3, pI v3), (4, pL v4)] [] M P := by
  show Wp G J_mo_tellsTune 0 0 272 [(0, pR 101), (3, pI v3), (4, pL v4)] [] NN RF M _
  refine wp_ldc2 lk_mo_299 d_mo_tellsTune_272 ⟨by decide, by decide⟩ ?_
  refine wp_lload d_mo_tellsTune_275 2 rfl ?_
  refine wp_lmul d_mo_tellsTune_277 ?_
  refine wp_aload_n d_mo_tellsTune_278 rfl 0 rfl ?_
  refine wp_bipush d_mo_tellsTune_279 ⟨by decide, by decide⟩ (by decide) ?_
  refine wp_bipush d_mo_tellsTune_281 ⟨by decide, by decide⟩ (by decide) ?_
  refine wp_iload_n d_mo_tellsTune_283 rfl 1 rfl ?_
  refine wp_callV [pI _, pI _, pI _] _ d_mo_tellsTune_284 jd_mo_fairOf lk_mo_296 rfl s_101 rfl (Nat.le_of_ble_eq_true rfl) (Nat.le_of_ble_eq_true rfl) rfl ?_
  refine clI_k h ?_
  intro x1 M1 h
  refine wp_i2l d_mo_tellsTune_287 ?_
  refine wp_ladd d_mo_tellsTune_288 ?_
  refine wp_lstore (L2 := [(0, pR 101), (3, pI _), (4, pL _)]) d_mo_tellsTune_289 (Nat.le_of_ble_eq_true rfl) [1, 2, 0] rfl ?_
  exact h
set_option maxHeartbeats 8000000 in
theorem b_mo_tellsTune_291 {G : GT} {M : MT} {P : Int → MT → Prop} (v3 : Int) (v4 : Int)
    (h : ClL G J_mo_hums M [pR 101, pI 5, pI v3, pI 0, pI 4, pI 9, pI 0] (fun x1 M1 => (WpL G J_mo_tellsTune 311 [(0, pR 101), (3, pI v3), (4, pL (w64 ((w64 (31 * v4)) + x1)))] [] M1 P))) : WpL G J_mo_tellsTune 291 [(0, pR 101), (3, pI v3), (4, pL v4)] [] M P := by
  show Wp G J_mo_tellsTune 0 0 291 [(0, pR 101), (3, pI v3), (4, pL v4)] [] NN RF M _
  refine wp_ldc2 lk_mo_299 d_mo_tellsTune_291 ⟨by decide, by decide⟩ ?_
  refine wp_lload d_mo_tellsTune_294 2 rfl ?_
  refine wp_lmul d_mo_tellsTune_296 ?_
  refine wp_aload_n d_mo_tellsTune_297 rfl 0 rfl ?_
  refine wp_iconst d_mo_tellsTune_298 ⟨by decide, by decide⟩ ?_
  refine wp_iload_n d_mo_tellsTune_299 rfl 1 rfl ?_
  refine wp_iconst d_mo_tellsTune_300 ⟨by decide, by decide⟩ ?_
  refine wp_iconst d_mo_tellsTune_301 ⟨by decide, by decide⟩ ?_
  refine wp_bipush d_mo_tellsTune_302 ⟨by decide, by decide⟩ (by decide) ?_
  refine wp_iconst d_mo_tellsTune_304 ⟨by decide, by decide⟩ ?_
  refine wp_callV [pI _, pI _, pI _, pI _, pI _, pI _] _ d_mo_tellsTune_305 jd_mo_hums lk_mo_301 rfl s_101 rfl (Nat.le_of_ble_eq_true rfl) (Nat.le_of_ble_eq_true rfl) rfl ?_
  refine clL_k h ?_
  intro x1 M1 h
  refine wp_ladd d_mo_tellsTune_308 ?_
  refine wp_lstore (L2 := [(0, pR 101), (3, pI _), (4, pL _)]) d_mo_tellsTune_309 (Nat.le_of_ble_eq_true rfl) [1, 2, 0] rfl ?_
  exact h
set_option maxHeartbeats 8000000 in
theorem b_mo_tellsTune_311 {G : GT} {M : MT} {P : Int → MT → Prop} (v3 : Int) (v4 : Int)
    (h : ClL G J_mo_hums M [pR 101, pI 5, pI v3, pI 0, pI 4, pI 9, pI 1] (fun x1 M1 => (P (w64 ((w64 (31 * v4)) + x1)) M1))) : WpL G J_mo_tellsTune 311 [(0, pR 101), (3, pI v3), (4, pL v4)] [] M P := by
  show Wp G J_mo_tellsTune 0 0 311 [(0, pR 101), (3, pI v3), (4, pL v4)] [] NN RF M _
  refine wp_ldc2 lk_mo_299 d_mo_tellsTune_311 ⟨by decide, by decide⟩ ?_
  refine wp_lload d_mo_tellsTune_314 2 rfl ?_
  refine wp_lmul d_mo_tellsTune_316 ?_
  refine wp_aload_n d_mo_tellsTune_317 rfl 0 rfl ?_
  refine wp_iconst d_mo_tellsTune_318 ⟨by decide, by decide⟩ ?_
  refine wp_iload_n d_mo_tellsTune_319 rfl 1 rfl ?_
  refine wp_iconst d_mo_tellsTune_320 ⟨by decide, by decide⟩ ?_
  refine wp_iconst d_mo_tellsTune_321 ⟨by decide, by decide⟩ ?_
  refine wp_bipush d_mo_tellsTune_322 ⟨by decide, by decide⟩ (by decide) ?_
  refine wp_iconst d_mo_tellsTune_324 ⟨by decide, by decide⟩ ?_
  refine wp_callV [pI _, pI _, pI _, pI _, pI _, pI _] _ d_mo_tellsTune_325 jd_mo_hums lk_mo_301 rfl s_101 rfl (Nat.le_of_ble_eq_true rfl) (Nat.le_of_ble_eq_true rfl) rfl ?_
  refine clL_k h ?_
  intro x1 M1 h
  refine wp_ladd d_mo_tellsTune_328 ?_
  exact wp_lret d_mo_tellsTune_329 rfl ⟨Nat.le_of_ble_eq_true rfl, Nat.le_of_ble_eq_true rfl⟩ ⟨_, rfl, rfl, rfl, h⟩
