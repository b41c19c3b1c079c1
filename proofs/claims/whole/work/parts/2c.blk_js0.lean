set_option maxHeartbeats 8000000 in
theorem e_js_length {G : GT} {M : MT} {P : Int → MT → Prop} 
    (h : ClI G J_js_coder M [pR 1000] (fun x1 M1 => (P (ishr 3 x1) M1))) : ClI G J_js_length M [pR 1000] P := by
  show Wp G J_js_length 0 0 0 [(0, pR 1000)] [] NN RF M _
  refine wp_aload_n d_js_length_0 rfl 0 rfl ?_
  refine wp_getvalue d_js_length_1 lk_js_9 ?_
  refine wp_tlen d_js_length_4 ?_
  refine wp_aload_n d_js_length_5 rfl 0 rfl ?_
  refine wp_callVS [] d_js_length_6 jd_js_coder rfl lk_js_335 rfl (Nat.le_of_ble_eq_true rfl) rfl ?_
  refine clI_k h ?_
  intro x1 M1 h
  refine wp_ishr d_js_length_9 ?_
  exact wp_iret d_js_length_10 rfl ⟨Nat.le_of_ble_eq_true rfl, Nat.le_of_ble_eq_true rfl⟩ ⟨_, rfl, rfl, rfl, h⟩
set_option maxHeartbeats 8000000 in
theorem e_js_indexOf1 {G : GT} {M : MT} {P : Int → MT → Prop} (v1 : Int)
    (h : ClI G J_js_indexOf2 M [pR 1000, pI v1, pI 0] (fun x1 M1 => (P x1 M1))) : ClI G J_js_indexOf1 M [pR 1000, pI v1] P := by
  show Wp G J_js_indexOf1 0 0 0 [(0, pR 1000), (1, pI v1)] [] NN RF M _
  refine wp_aload_n d_js_indexOf1_0 rfl 0 rfl ?_
  refine wp_iload_n d_js_indexOf1_1 rfl 1 rfl ?_
  refine wp_iconst d_js_indexOf1_2 ⟨by decide, by decide⟩ ?_
  refine wp_callVS [pI _, pI _] d_js_indexOf1_3 jd_js_indexOf2 rfl lk_js_633 rfl (Nat.le_of_ble_eq_true rfl) rfl ?_
  refine clI_k h ?_
  intro x1 M1 h
  exact wp_iret d_js_indexOf1_6 rfl ⟨Nat.le_of_ble_eq_true rfl, Nat.le_of_ble_eq_true rfl⟩ ⟨_, rfl, rfl, rfl, h⟩
set_option maxHeartbeats 8000000 in
theorem e_js_indexOf2 {G : GT} {M : MT} {P : Int → MT → Prop} (v1 : Int) (v2 : Int)
    (h : ClI G J_js_isLatin1 M [pR 1000] (fun x1 M1 => ((x1 = 0 → ClI G J_js_length M1 [pR 1000] (fun x3 M2 => (False))) ∧ (¬ x1 = 0 → ClI G J_js_length M1 [pR 1000] (fun x3 M2 => (ClI G J_j1_indexOf3 M2 [pR 1002, pI v1, pI v2, pI x3] (fun x4 M3 => (P x4 M3)))))))) : ClI G J_js_indexOf2 M [pR 1000, pI v1, pI v2] P := by
  show Wp G J_js_indexOf2 0 0 0 [(0, pR 1000), (1, pI v1), (2, pI v2)] [] NN RF M _
  refine wp_aload_n d_js_indexOf2_0 rfl 0 rfl ?_
  refine wp_callVS [] d_js_indexOf2_1 jd_js_isLatin1 rfl lk_js_492 rfl (Nat.le_of_ble_eq_true rfl) rfl ?_
  refine clI_k h ?_
  intro x1 M1 h
  refine wp_if_eq 23 d_js_indexOf2_4 (by decide) (fun c2 => ?_) (fun c2 => ?_)
  · have h := h.1 c2
    refine wp_aload_n d_js_indexOf2_23 rfl 0 rfl ?_
    refine wp_getvalue d_js_indexOf2_24 lk_js_9 ?_
    refine wp_iload_n d_js_indexOf2_27 rfl 1 rfl ?_
    refine wp_iload_n d_js_indexOf2_28 rfl 2 rfl ?_
    refine wp_aload_n d_js_indexOf2_29 rfl 0 rfl ?_
    refine wp_callVS [] d_js_indexOf2_30 jd_js_length rfl lk_js_505 rfl (Nat.le_of_ble_eq_true rfl) rfl ?_
    refine clI_k h ?_
    intro x3 M2 h
    exact h.elim
  · have h := h.2 c2
    refine wp_aload_n d_js_indexOf2_7 rfl 0 rfl ?_
    refine wp_getvalue d_js_indexOf2_8 lk_js_9 ?_
    refine wp_iload_n d_js_indexOf2_11 rfl 1 rfl ?_
    refine wp_iload_n d_js_indexOf2_12 rfl 2 rfl ?_
    refine wp_aload_n d_js_indexOf2_13 rfl 0 rfl ?_
    refine wp_callVS [] d_js_indexOf2_14 jd_js_length rfl lk_js_505 rfl (Nat.le_of_ble_eq_true rfl) rfl ?_
    refine clI_k h ?_
    intro x3 M2 h
    refine wp_callS [pR _, pI _, pI _, pI _] d_js_indexOf2_17 jd_j1_indexOf3 lk_js_637 rfl (Nat.le_of_ble_eq_true rfl) rfl ?_
    refine clI_k h ?_
    intro x4 M3 h
    refine wp_goto 36 d_js_indexOf2_20 (by decide) ?_
    exact wp_iret d_js_indexOf2_36 rfl ⟨Nat.le_of_ble_eq_true rfl, Nat.le_of_ble_eq_true rfl⟩ ⟨_, rfl, rfl, rfl, h⟩
set_option maxHeartbeats 8000000 in
theorem e_js_coder {G : GT} {M : MT} {P : Int → MT → Prop} 
    (h : P 0 M) : ClI G J_js_coder M [pR 1000] P := by
  show Wp G J_js_coder 0 0 0 [(0, pR 1000)] [] NN RF M _
  refine wp_getsCS d_js_coder_0 lk_js_38 ?_
  refine wp_if_eq 13 d_js_coder_3 (by decide) (fun e => absurd e (by decide)) (fun _ => ?_)
  refine wp_aload_n d_js_coder_6 rfl 0 rfl ?_
  refine wp_getcoder d_js_coder_7 lk_js_15 ?_
  refine wp_goto 14 d_js_coder_10 (by decide) ?_
  exact wp_bret0 d_js_coder_14 rfl ⟨Nat.le_of_ble_eq_true rfl, Nat.le_of_ble_eq_true rfl⟩ ⟨_, rfl, rfl, rfl, h⟩
set_option maxHeartbeats 8000000 in
theorem e_js_isLatin1 {G : GT} {M : MT} {P : Int → MT → Prop} 
    (h : P 1 M) : ClI G J_js_isLatin1 M [pR 1000] P := by
  show Wp G J_js_isLatin1 0 0 0 [(0, pR 1000)] [] NN RF M _
  refine wp_getsCS d_js_isLatin1_0 lk_js_38 ?_
  refine wp_if_eq 17 d_js_isLatin1_3 (by decide) (fun e => absurd e (by decide)) (fun _ => ?_)
  refine wp_aload_n d_js_isLatin1_6 rfl 0 rfl ?_
  refine wp_getcoder d_js_isLatin1_7 lk_js_15 ?_
  refine wp_if_ne 17 d_js_isLatin1_10 (by decide) (fun e => absurd e (by decide)) (fun _ => ?_)
  refine wp_iconst d_js_isLatin1_13 ⟨by decide, by decide⟩ ?_
  refine wp_goto 18 d_js_isLatin1_14 (by decide) ?_
  exact wp_zret d_js_isLatin1_18 rfl ⟨Nat.le_of_ble_eq_true rfl, Nat.le_of_ble_eq_true rfl⟩ (by decide) ⟨_, rfl, rfl, rfl, h⟩
