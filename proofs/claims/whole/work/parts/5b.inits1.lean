/-! the constructors of the parts -/
set_option maxHeartbeats 8000000 in
set_option maxRecDepth 4000 in
theorem i_li {G : GT} {R : RT} {M : MT} {Q : QT} (hR : ∀ k, R 84 k = none) (hM : ∀ k, M 84 k = 0) (hq : ∀ R' M', OL 84 R M R' M' → CK 84 86 R' M' → Q none 86 R' M') : Cl G J_li_init [pR 84] (84 + 1) R M Q := by
  have b0 := BU.start (a := 84) hR hM
  show Wp G J_li_init 0 0 0 [(0, pR 84)] [] (84 + 1) R M Q
  refine wp_aload_n d_li_init_0 rfl 0 rfl ?_
  refine wp_objInit d_li_init_1 lk_li_3 (Nat.le_of_ble_eq_true rfl) (Nat.le_of_ble_eq_true rfl) w_oin w_oco ?_
  refine wp_aload_n d_li_init_4 rfl 0 rfl ?_
  refine wp_bipush d_li_init_5 ⟨by decide, by decide⟩ (by decide) ?_
  refine wp_newal (N := 7) d_li_init_7 rfl rfl (Nat.le_of_ble_eq_true rfl) (Nat.le_of_ble_eq_true rfl) w_arr_long ⟨Nat.le_of_ble_eq_true rfl, Nat.le_of_ble_eq_true rfl⟩ ?_
  have b1 := b0.arr (Nat.le_of_ble_eq_true rfl) (rf_no (by decide)) (MI_0 (by decide))
  refine wp_putr d_li_init_9 0 rfl rfl (Nat.le_of_ble_eq_true rfl) (Nat.le_of_ble_eq_true rfl) (Nat.le_of_ble_eq_true rfl) rfl (fun _ => ⟨rfl, rfl⟩) rfl rfl rfl lk_li_9 ?_
  have b2 := b1.put 84 0 85 (List.mem_of_getElem? (i := 0) rfl) rfl rfl
  refine wp_vret d_li_init_12 rfl ⟨Nat.le_of_ble_eq_true rfl, Nat.le_of_ble_eq_true rfl⟩ ?_
  have f := b2.fin ?_
  · exact hq _ _ f.1 f.2
  intro q hq2 k
  simp only [List.mem_cons, List.not_mem_nil, or_false] at hq2
  rcases hq2 with rfl
  · refine ⟨fun hk => ?_, ?_⟩
    · have hk2 : 1 ≤ k := hk
      exact rf_hi84 k hk2
    · exact ((MI_0 (by decide) k).symm)
set_option maxHeartbeats 8000000 in
set_option maxRecDepth 4000 in
theorem i_ch {G : GT} {R : RT} {M : MT} {Q : QT} (hR : ∀ k, R 86 k = none) (hM : ∀ k, M 86 k = 0) (hq : ∀ R' M', OL 86 R M R' M' → CK 86 92 R' M' → Q none 92 R' M') : Cl G J_ch_init [pR 86] (86 + 1) R M Q := by
  have b0 := BU.start (a := 86) hR hM
  show Wp G J_ch_init 0 0 0 [(0, pR 86)] [] (86 + 1) R M Q
  refine wp_aload_n d_ch_init_0 rfl 0 rfl ?_
  refine wp_objInit d_ch_init_1 lk_ch_3 (Nat.le_of_ble_eq_true rfl) (Nat.le_of_ble_eq_true rfl) w_oin w_oco ?_
  refine wp_aload_n d_ch_init_4 rfl 0 rfl ?_
  refine wp_new d_ch_init_5 rfl rfl (Nat.le_of_ble_eq_true rfl) lk_ch_9 wx_tu wi_tu ⟨Nat.le_of_ble_eq_true rfl, Nat.le_of_ble_eq_true rfl⟩ ?_
  refine wp_dup d_ch_init_8 rfl ?_
  refine wp_callIN [] 87 d_ch_init_9 jd_tu_init rfl lk_ch_11 rfl (Nat.le_of_ble_eq_true rfl) rfl ?_
  refine i_tu 87 rfl rfl (Nat.le_of_ble_eq_true rfl) (MI_0 (by decide)) (MI_0 (by decide)) (rz_eq _ _) (mz_eq _ _) (fun R1 M1 o1 c1 => ?_)
  have b1 := b0.call o1 c1 (Nat.le_of_ble_eq_true rfl) (Nat.le_of_ble_eq_true rfl)
  refine wp_putr d_ch_init_12 0 rfl rfl (Nat.le_of_ble_eq_true rfl) (Nat.le_of_ble_eq_true rfl) (Nat.le_of_ble_eq_true rfl) rfl (fun _ => ⟨rfl, rfl⟩) rfl rfl rfl lk_ch_12 ?_
  have b2 := b1.put 86 0 87 (List.mem_of_getElem? (i := 0) rfl) rfl rfl
  refine wp_aload_n d_ch_init_15 rfl 0 rfl ?_
  refine wp_new d_ch_init_16 rfl rfl (Nat.le_of_ble_eq_true rfl) lk_ch_9 wx_tu wi_tu ⟨Nat.le_of_ble_eq_true rfl, Nat.le_of_ble_eq_true rfl⟩ ?_
  refine wp_dup d_ch_init_19 rfl ?_
  refine wp_callIN [] 89 d_ch_init_20 jd_tu_init rfl lk_ch_11 rfl (Nat.le_of_ble_eq_true rfl) rfl ?_
  refine i_tu 89 rfl rfl (Nat.le_of_ble_eq_true rfl) (MI_0 (by decide)) (MI_0 (by decide)) (rz_eq _ _) (mz_eq _ _) (fun R2 M2 o2 c2 => ?_)
  have b3 := b2.call o2 c2 (Nat.le_of_ble_eq_true rfl) (Nat.le_of_ble_eq_true rfl)
  refine wp_putr d_ch_init_23 1 rfl rfl (Nat.le_of_ble_eq_true rfl) (Nat.le_of_ble_eq_true rfl) (Nat.le_of_ble_eq_true rfl) rfl (fun _ => ⟨rfl, rfl⟩) rfl rfl rfl lk_ch_18 ?_
  have b4 := b3.put 86 1 89 (List.mem_of_getElem? (i := 0) rfl) rfl rfl
  refine wp_aload_n d_ch_init_26 rfl 0 rfl ?_
  refine wp_bipush d_ch_init_27 ⟨by decide, by decide⟩ (by decide) ?_
  refine wp_newal (N := 10) d_ch_init_29 rfl rfl (Nat.le_of_ble_eq_true rfl) (Nat.le_of_ble_eq_true rfl) w_arr_long ⟨Nat.le_of_ble_eq_true rfl, Nat.le_of_ble_eq_true rfl⟩ ?_
  have b5 := b4.arr (Nat.le_of_ble_eq_true rfl) (rf_no (by decide)) (MI_0 (by decide))
  refine wp_putr d_ch_init_31 2 rfl rfl (Nat.le_of_ble_eq_true rfl) (Nat.le_of_ble_eq_true rfl) (Nat.le_of_ble_eq_true rfl) rfl (fun _ => ⟨rfl, rfl⟩) rfl rfl rfl lk_ch_21 ?_
  have b6 := b5.put 86 2 91 (List.mem_of_getElem? (i := 0) rfl) rfl rfl
  refine wp_vret d_ch_init_34 rfl ⟨Nat.le_of_ble_eq_true rfl, Nat.le_of_ble_eq_true rfl⟩ ?_
  have f := b6.fin ?_
  · exact hq _ _ f.1 f.2
  intro q hq2 k
  simp only [List.mem_cons, List.not_mem_nil, or_false] at hq2
  rcases hq2 with rfl
  · refine ⟨fun hk => ?_, ?_⟩
    · have hk2 : 3 ≤ k := hk
      exact rf_hi86 k hk2
    · exact ((MI_0 (by decide) k).symm)
set_option maxHeartbeats 8000000 in
set_option maxRecDepth 4000 in
theorem i_tr {G : GT} {R : RT} {M : MT} {Q : QT} (hR : ∀ k, R 73 k = none) (hM : ∀ k, M 73 k = 0) (hq : ∀ R' M', OL 73 R M R' M' → CK 73 84 R' M' → Q none 84 R' M') : Cl G J_tr_init [pR 73] (73 + 1) R M Q := by
  have b0 := BU.start (a := 73) hR hM
  show Wp G J_tr_init 0 0 0 [(0, pR 73)] [] (73 + 1) R M Q
  refine wp_aload_n d_tr_init_0 rfl 0 rfl ?_
  refine wp_objInit d_tr_init_1 lk_tr_3 (Nat.le_of_ble_eq_true rfl) (Nat.le_of_ble_eq_true rfl) w_oin w_oco ?_
  refine wp_aload_n d_tr_init_4 rfl 0 rfl ?_
  refine wp_iconst d_tr_init_5 ⟨by decide, by decide⟩ ?_
  refine wp_newq (t := 1) (N := 4) d_tr_init_6 rfl rfl rfl (Nat.le_of_ble_eq_true rfl) (Nat.le_of_ble_eq_true rfl) lk_tr_9 (fun U h => h.2.1.2.1) ⟨Nat.le_of_ble_eq_true rfl, Nat.le_of_ble_eq_true rfl⟩ ?_
  have b1 := b0.arrP (Nat.le_of_ble_eq_true rfl) rfl (fun _ => rfl)
  refine wp_putr d_tr_init_9 0 rfl rfl (Nat.le_of_ble_eq_true rfl) (Nat.le_of_ble_eq_true rfl) (Nat.le_of_ble_eq_true rfl) rfl (fun _ => ⟨rfl, rfl⟩) rfl rfl rfl lk_tr_11 ?_
  have b2 := b1.put 73 0 74 (List.mem_of_getElem? (i := 1) rfl) rfl rfl
  refine wp_aload_n d_tr_init_12 rfl 0 rfl ?_
  refine wp_iconst d_tr_init_13 ⟨by decide, by decide⟩ ?_
  refine wp_newai (N := 3) d_tr_init_14 rfl rfl (Nat.le_of_ble_eq_true rfl) (Nat.le_of_ble_eq_true rfl) w_arr_int ⟨Nat.le_of_ble_eq_true rfl, Nat.le_of_ble_eq_true rfl⟩ ?_
  have b3 := b2.arr (Nat.le_of_ble_eq_true rfl) (rf_no (by decide)) (MI_0 (by decide))
  refine wp_putr d_tr_init_16 1 rfl rfl (Nat.le_of_ble_eq_true rfl) (Nat.le_of_ble_eq_true rfl) (Nat.le_of_ble_eq_true rfl) rfl (fun _ => ⟨rfl, rfl⟩) rfl rfl rfl lk_tr_17 ?_
  have b4 := b3.put 73 1 75 (List.mem_of_getElem? (i := 1) rfl) rfl rfl
  refine wp_iconst d_tr_init_19 ⟨by decide, by decide⟩ ?_
  refine wp_istore_n (L2 := [(0, pR 73), (1, pI 0)]) d_tr_init_20 rfl (Nat.le_of_ble_eq_true rfl) [1, 0] rfl ?_
  refine wp_iload_n d_tr_init_21 rfl 1 rfl ?_
  refine wp_iconst d_tr_init_22 ⟨by decide, by decide⟩ ?_
  refine wp_icmp_gt 45 d_tr_init_23 (by decide) (fun e => absurd e (by decide)) (fun _ => ?_)
  refine wp_aload_n d_tr_init_26 rfl 0 rfl ?_
  refine wp_getr d_tr_init_27 0 rfl rfl (Nat.le_of_ble_eq_true rfl) (Nat.le_of_ble_eq_true rfl) rfl (b4.ref (r := 74) (List.mem_of_getElem? (i := 1) rfl) (Nat.le_of_ble_eq_true rfl) rfl) lk_tr_11 ?_
  refine wp_iload_n d_tr_init_30 rfl 1 rfl ?_
  refine wp_new d_tr_init_31 rfl rfl (Nat.le_of_ble_eq_true rfl) lk_tr_9 wx_tu wi_tu ⟨Nat.le_of_ble_eq_true rfl, Nat.le_of_ble_eq_true rfl⟩ ?_
  refine wp_dup d_tr_init_34 rfl ?_
  refine wp_callIN [] 76 d_tr_init_35 jd_tu_init rfl lk_tr_21 rfl (Nat.le_of_ble_eq_true rfl) rfl ?_
  refine i_tu 76 rfl rfl (Nat.le_of_ble_eq_true rfl) (MI_0 (by decide)) (MI_0 (by decide)) (rz_eq _ _) (mz_eq _ _) (fun R1 M1 o1 c1 => ?_)
  have b5 := b4.call o1 c1 (Nat.le_of_ble_eq_true rfl) (Nat.le_of_ble_eq_true rfl)
  refine wp_aast (t := 1) d_tr_init_38 rfl rfl rfl rfl (Nat.le_of_ble_eq_true rfl) (Nat.le_of_ble_eq_true rfl) (by decide) (by decide) ?_
  have b6 := b5.put 74 0 76 (List.mem_of_getElem? (i := 0) rfl) rfl rfl
  refine wp_iinc (L2 := [(0, pR 73), (1, pI 1)]) d_tr_init_39 1 rfl (Nat.le_of_ble_eq_true rfl) [1, 0] rfl ?_
  refine wp_goto 21 d_tr_init_42 (by decide) ?_
  refine wp_iload_n d_tr_init_21 rfl 1 rfl ?_
  refine wp_iconst d_tr_init_22 ⟨by decide, by decide⟩ ?_
  refine wp_icmp_gt 45 d_tr_init_23 (by decide) (fun e => absurd e (by decide)) (fun _ => ?_)
  refine wp_aload_n d_tr_init_26 rfl 0 rfl ?_
  refine wp_getr d_tr_init_27 0 rfl rfl (Nat.le_of_ble_eq_true rfl) (Nat.le_of_ble_eq_true rfl) rfl (b6.ref (r := 74) (List.mem_of_getElem? (i := 1) rfl) (Nat.le_of_ble_eq_true rfl) rfl) lk_tr_11 ?_
  refine wp_iload_n d_tr_init_30 rfl 1 rfl ?_
  refine wp_new d_tr_init_31 rfl rfl (Nat.le_of_ble_eq_true rfl) lk_tr_9 wx_tu wi_tu ⟨Nat.le_of_ble_eq_true rfl, Nat.le_of_ble_eq_true rfl⟩ ?_
  refine wp_dup d_tr_init_34 rfl ?_
  refine wp_callIN [] 78 d_tr_init_35 jd_tu_init rfl lk_tr_21 rfl (Nat.le_of_ble_eq_true rfl) rfl ?_
  refine i_tu 78 rfl rfl (Nat.le_of_ble_eq_true rfl) (MI_0 (by decide)) (MI_0 (by decide)) (rz_eq _ _) (mz_eq _ _) (fun R2 M2 o2 c2 => ?_)
  have b7 := b6.call o2 c2 (Nat.le_of_ble_eq_true rfl) (Nat.le_of_ble_eq_true rfl)
  refine wp_aast (t := 1) d_tr_init_38 rfl rfl rfl rfl (Nat.le_of_ble_eq_true rfl) (Nat.le_of_ble_eq_true rfl) (by decide) (by decide) ?_
  have b8 := b7.put 74 1 78 (List.mem_of_getElem? (i := 0) rfl) rfl rfl
  refine wp_iinc (L2 := [(0, pR 73), (1, pI 2)]) d_tr_init_39 1 rfl (Nat.le_of_ble_eq_true rfl) [1, 0] rfl ?_
  refine wp_goto 21 d_tr_init_42 (by decide) ?_
  refine wp_iload_n d_tr_init_21 rfl 1 rfl ?_
  refine wp_iconst d_tr_init_22 ⟨by decide, by decide⟩ ?_
  refine wp_icmp_gt 45 d_tr_init_23 (by decide) (fun e => absurd e (by decide)) (fun _ => ?_)
  refine wp_aload_n d_tr_init_26 rfl 0 rfl ?_
  refine wp_getr d_tr_init_27 0 rfl rfl (Nat.le_of_ble_eq_true rfl) (Nat.le_of_ble_eq_true rfl) rfl (b8.ref (r := 74) (List.mem_of_getElem? (i := 1) rfl) (Nat.le_of_ble_eq_true rfl) rfl) lk_tr_11 ?_
  refine wp_iload_n d_tr_init_30 rfl 1 rfl ?_
  refine wp_new d_tr_init_31 rfl rfl (Nat.le_of_ble_eq_true rfl) lk_tr_9 wx_tu wi_tu ⟨Nat.le_of_ble_eq_true rfl, Nat.le_of_ble_eq_true rfl⟩ ?_
  refine wp_dup d_tr_init_34 rfl ?_
  refine wp_callIN [] 80 d_tr_init_35 jd_tu_init rfl lk_tr_21 rfl (Nat.le_of_ble_eq_true rfl) rfl ?_
  refine i_tu 80 rfl rfl (Nat.le_of_ble_eq_true rfl) (MI_0 (by decide)) (MI_0 (by decide)) (rz_eq _ _) (mz_eq _ _) (fun R3 M3 o3 c3 => ?_)
  have b9 := b8.call o3 c3 (Nat.le_of_ble_eq_true rfl) (Nat.le_of_ble_eq_true rfl)
  refine wp_aast (t := 1) d_tr_init_38 rfl rfl rfl rfl (Nat.le_of_ble_eq_true rfl) (Nat.le_of_ble_eq_true rfl) (by decide) (by decide) ?_
  have b10 := b9.put 74 2 80 (List.mem_of_getElem? (i := 0) rfl) rfl rfl
  refine wp_iinc (L2 := [(0, pR 73), (1, pI 3)]) d_tr_init_39 1 rfl (Nat.le_of_ble_eq_true rfl) [1, 0] rfl ?_
  refine wp_goto 21 d_tr_init_42 (by decide) ?_
  refine wp_iload_n d_tr_init_21 rfl 1 rfl ?_
  refine wp_iconst d_tr_init_22 ⟨by decide, by decide⟩ ?_
  refine wp_icmp_gt 45 d_tr_init_23 (by decide) (fun e => absurd e (by decide)) (fun _ => ?_)
  refine wp_aload_n d_tr_init_26 rfl 0 rfl ?_
  refine wp_getr d_tr_init_27 0 rfl rfl (Nat.le_of_ble_eq_true rfl) (Nat.le_of_ble_eq_true rfl) rfl (b10.ref (r := 74) (List.mem_of_getElem? (i := 1) rfl) (Nat.le_of_ble_eq_true rfl) rfl) lk_tr_11 ?_
  refine wp_iload_n d_tr_init_30 rfl 1 rfl ?_
  refine wp_new d_tr_init_31 rfl rfl (Nat.le_of_ble_eq_true rfl) lk_tr_9 wx_tu wi_tu ⟨Nat.le_of_ble_eq_true rfl, Nat.le_of_ble_eq_true rfl⟩ ?_
  refine wp_dup d_tr_init_34 rfl ?_
  refine wp_callIN [] 82 d_tr_init_35 jd_tu_init rfl lk_tr_21 rfl (Nat.le_of_ble_eq_true rfl) rfl ?_
  refine i_tu 82 rfl rfl (Nat.le_of_ble_eq_true rfl) (MI_0 (by decide)) (MI_0 (by decide)) (rz_eq _ _) (mz_eq _ _) (fun R4 M4 o4 c4 => ?_)
  have b11 := b10.call o4 c4 (Nat.le_of_ble_eq_true rfl) (Nat.le_of_ble_eq_true rfl)
  refine wp_aast (t := 1) d_tr_init_38 rfl rfl rfl rfl (Nat.le_of_ble_eq_true rfl) (Nat.le_of_ble_eq_true rfl) (by decide) (by decide) ?_
  have b12 := b11.put 74 3 82 (List.mem_of_getElem? (i := 0) rfl) rfl rfl
  refine wp_iinc (L2 := [(0, pR 73), (1, pI 4)]) d_tr_init_39 1 rfl (Nat.le_of_ble_eq_true rfl) [1, 0] rfl ?_
  refine wp_goto 21 d_tr_init_42 (by decide) ?_
  refine wp_iload_n d_tr_init_21 rfl 1 rfl ?_
  refine wp_iconst d_tr_init_22 ⟨by decide, by decide⟩ ?_
  refine wp_icmp_gt 45 d_tr_init_23 (by decide) (fun _ => ?_) (fun e => absurd e (by decide))
  refine wp_vret d_tr_init_45 rfl ⟨Nat.le_of_ble_eq_true rfl, Nat.le_of_ble_eq_true rfl⟩ ?_
  have f := b12.fin ?_
  · exact hq _ _ f.1 f.2
  intro q hq2 k
  simp only [List.mem_cons, List.not_mem_nil, or_false] at hq2
  rcases hq2 with rfl | rfl
  · refine ⟨fun hk => ?_, ?_⟩
    · have hk2 : 4 ≤ k := hk
      exact rf_hi74 k hk2
    · exact ((MI_0 (by decide) k).symm)
  · refine ⟨fun hk => ?_, ?_⟩
    · have hk2 : 2 ≤ k := hk
      exact rf_hi73 k hk2
    · exact ((MI_0 (by decide) k).symm)
set_option maxHeartbeats 8000000 in
set_option maxRecDepth 4000 in
theorem i_ye {G : GT} {R : RT} {M : MT} {Q : QT} (hR : ∀ k, R 40 k = none) (hM : ∀ k, M 40 k = 0) (hq : ∀ R' M', OL 40 R M R' M' → CK 40 73 R' M' → Q none 73 R' M') : Cl G J_ye_init [pR 40] (40 + 1) R M Q := by
  have b0 := BU.start (a := 40) hR hM
  show Wp G J_ye_init 0 0 0 [(0, pR 40)] [] (40 + 1) R M Q
  refine wp_aload_n d_ye_init_0 rfl 0 rfl ?_
  refine wp_objInit d_ye_init_1 lk_ye_3 (Nat.le_of_ble_eq_true rfl) (Nat.le_of_ble_eq_true rfl) w_oin w_oco ?_
  refine wp_aload_n d_ye_init_4 rfl 0 rfl ?_
  refine wp_bipush d_ye_init_5 ⟨by decide, by decide⟩ (by decide) ?_
  refine wp_newq (t := 1) (N := 6) d_ye_init_7 rfl rfl rfl (Nat.le_of_ble_eq_true rfl) (Nat.le_of_ble_eq_true rfl) lk_ye_9 (fun U h => h.2.1.2.1) ⟨Nat.le_of_ble_eq_true rfl, Nat.le_of_ble_eq_true rfl⟩ ?_
  have b1 := b0.arrP (Nat.le_of_ble_eq_true rfl) rfl (fun _ => rfl)
  refine wp_putr d_ye_init_10 0 rfl rfl (Nat.le_of_ble_eq_true rfl) (Nat.le_of_ble_eq_true rfl) (Nat.le_of_ble_eq_true rfl) rfl (fun _ => ⟨rfl, rfl⟩) rfl rfl rfl lk_ye_11 ?_
  have b2 := b1.put 40 0 41 (List.mem_of_getElem? (i := 1) rfl) rfl rfl
  refine wp_aload_n d_ye_init_13 rfl 0 rfl ?_
  refine wp_bipush d_ye_init_14 ⟨by decide, by decide⟩ (by decide) ?_
  refine wp_newq (t := 1) (N := 6) d_ye_init_16 rfl rfl rfl (Nat.le_of_ble_eq_true rfl) (Nat.le_of_ble_eq_true rfl) lk_ye_9 (fun U h => h.2.1.2.1) ⟨Nat.le_of_ble_eq_true rfl, Nat.le_of_ble_eq_true rfl⟩ ?_
  have b3 := b2.arrP (Nat.le_of_ble_eq_true rfl) rfl (fun _ => rfl)
  refine wp_putr d_ye_init_19 1 rfl rfl (Nat.le_of_ble_eq_true rfl) (Nat.le_of_ble_eq_true rfl) (Nat.le_of_ble_eq_true rfl) rfl (fun _ => ⟨rfl, rfl⟩) rfl rfl rfl lk_ye_17 ?_
  have b4 := b3.put 40 1 42 (List.mem_of_getElem? (i := 2) rfl) rfl rfl
  refine wp_aload_n d_ye_init_22 rfl 0 rfl ?_
  refine wp_bipush d_ye_init_23 ⟨by decide, by decide⟩ (by decide) ?_
  refine wp_newai (N := 6) d_ye_init_25 rfl rfl (Nat.le_of_ble_eq_true rfl) (Nat.le_of_ble_eq_true rfl) w_arr_int ⟨Nat.le_of_ble_eq_true rfl, Nat.le_of_ble_eq_true rfl⟩ ?_
  have b5 := b4.arr (Nat.le_of_ble_eq_true rfl) (rf_no (by decide)) (MI_0 (by decide))
  refine wp_putr d_ye_init_27 2 rfl rfl (Nat.le_of_ble_eq_true rfl) (Nat.le_of_ble_eq_true rfl) (Nat.le_of_ble_eq_true rfl) rfl (fun _ => ⟨rfl, rfl⟩) rfl rfl rfl lk_ye_20 ?_
  have b6 := b5.put 40 2 43 (List.mem_of_getElem? (i := 2) rfl) rfl rfl
  refine wp_aload_n d_ye_init_30 rfl 0 rfl ?_
  refine wp_new d_ye_init_31 rfl rfl (Nat.le_of_ble_eq_true rfl) lk_ye_9 wx_tu wi_tu ⟨Nat.le_of_ble_eq_true rfl, Nat.le_of_ble_eq_true rfl⟩ ?_
  refine wp_dup d_ye_init_34 rfl ?_
  refine wp_callIN [] 44 d_ye_init_35 jd_tu_init rfl lk_ye_24 rfl (Nat.le_of_ble_eq_true rfl) rfl ?_
  refine i_tu 44 rfl rfl (Nat.le_of_ble_eq_true rfl) (MI_0 (by decide)) (MI_0 (by decide)) (rz_eq _ _) (mz_eq _ _) (fun R1 M1 o1 c1 => ?_)
  have b7 := b6.call o1 c1 (Nat.le_of_ble_eq_true rfl) (Nat.le_of_ble_eq_true rfl)
  refine wp_putr d_ye_init_38 3 rfl rfl (Nat.le_of_ble_eq_true rfl) (Nat.le_of_ble_eq_true rfl) (Nat.le_of_ble_eq_true rfl) rfl (fun _ => ⟨rfl, rfl⟩) rfl rfl rfl lk_ye_25 ?_
  have b8 := b7.put 40 3 44 (List.mem_of_getElem? (i := 2) rfl) rfl rfl
  refine wp_aload_n d_ye_init_41 rfl 0 rfl ?_
  refine wp_sipush d_ye_init_42 ⟨by decide, by decide⟩ (by decide) ?_
  refine wp_newai (N := 9600) d_ye_init_45 rfl rfl (Nat.le_of_ble_eq_true rfl) (Nat.le_of_ble_eq_true rfl) w_arr_int ⟨Nat.le_of_ble_eq_true rfl, Nat.le_of_ble_eq_true rfl⟩ ?_
  have b9 := b8.arr (Nat.le_of_ble_eq_true rfl) (rf_no (by decide)) (MI_0 (by decide))
  refine wp_putr d_ye_init_47 4 rfl rfl (Nat.le_of_ble_eq_true rfl) (Nat.le_of_ble_eq_true rfl) (Nat.le_of_ble_eq_true rfl) rfl (fun _ => ⟨rfl, rfl⟩) rfl rfl rfl lk_ye_29 ?_
  have b10 := b9.put 40 4 46 (List.mem_of_getElem? (i := 2) rfl) rfl rfl
  refine wp_aload_n d_ye_init_50 rfl 0 rfl ?_
  refine wp_sipush d_ye_init_51 ⟨by decide, by decide⟩ (by decide) ?_
  refine wp_newai (N := 240) d_ye_init_54 rfl rfl (Nat.le_of_ble_eq_true rfl) (Nat.le_of_ble_eq_true rfl) w_arr_int ⟨Nat.le_of_ble_eq_true rfl, Nat.le_of_ble_eq_true rfl⟩ ?_
  have b11 := b10.arr (Nat.le_of_ble_eq_true rfl) (rf_no (by decide)) (MI_0 (by decide))
  refine wp_putr d_ye_init_56 5 rfl rfl (Nat.le_of_ble_eq_true rfl) (Nat.le_of_ble_eq_true rfl) (Nat.le_of_ble_eq_true rfl) rfl (fun _ => ⟨rfl, rfl⟩) rfl rfl rfl lk_ye_32 ?_
  have b12 := b11.put 40 5 47 (List.mem_of_getElem? (i := 2) rfl) rfl rfl
  refine wp_aload_n d_ye_init_59 rfl 0 rfl ?_
  refine wp_sipush d_ye_init_60 ⟨by decide, by decide⟩ (by decide) ?_
  refine wp_newai (N := 240) d_ye_init_63 rfl rfl (Nat.le_of_ble_eq_true rfl) (Nat.le_of_ble_eq_true rfl) w_arr_int ⟨Nat.le_of_ble_eq_true rfl, Nat.le_of_ble_eq_true rfl⟩ ?_
  have b13 := b12.arr (Nat.le_of_ble_eq_true rfl) (rf_no (by decide)) (MI_0 (by decide))
  refine wp_putr d_ye_init_65 6 rfl rfl (Nat.le_of_ble_eq_true rfl) (Nat.le_of_ble_eq_true rfl) (Nat.le_of_ble_eq_true rfl) rfl (fun _ => ⟨rfl, rfl⟩) rfl rfl rfl lk_ye_35 ?_
  have b14 := b13.put 40 6 48 (List.mem_of_getElem? (i := 2) rfl) rfl rfl
  refine wp_aload_n d_ye_init_68 rfl 0 rfl ?_
  refine wp_iconst d_ye_init_69 ⟨by decide, by decide⟩ ?_
  refine wp_puti d_ye_init_70 7 rfl rfl (Nat.le_of_ble_eq_true rfl) (Nat.le_of_ble_eq_true rfl) (Or.inl rfl) rfl lk_ye_38 ?_
  have b15 := b14.num 40 7 (-1) (List.mem_of_getElem? (i := 2) rfl)
  refine wp_iconst d_ye_init_73 ⟨by decide, by decide⟩ ?_
  refine wp_istore_n (L2 := [(0, pR 40), (1, pI 0)]) d_ye_init_74 rfl (Nat.le_of_ble_eq_true rfl) [1, 0] rfl ?_
  refine wp_iload_n d_ye_init_75 rfl 1 rfl ?_
  refine wp_bipush d_ye_init_76 ⟨by decide, by decide⟩ (by decide) ?_
  refine wp_icmp_ge 113 d_ye_init_78 (by decide) (fun e => absurd e (by decide)) (fun _ => ?_)
  refine wp_aload_n d_ye_init_81 rfl 0 rfl ?_
  refine wp_getr d_ye_init_82 0 rfl rfl (Nat.le_of_ble_eq_true rfl) (Nat.le_of_ble_eq_true rfl) rfl (b15.ref (r := 41) (List.mem_of_getElem? (i := 2) rfl) (Nat.le_of_ble_eq_true rfl) rfl) lk_ye_11 ?_
  refine wp_iload_n d_ye_init_85 rfl 1 rfl ?_
  refine wp_new d_ye_init_86 rfl rfl (Nat.le_of_ble_eq_true rfl) lk_ye_9 wx_tu wi_tu ⟨Nat.le_of_ble_eq_true rfl, Nat.le_of_ble_eq_true rfl⟩ ?_
  refine wp_dup d_ye_init_89 rfl ?_
  refine wp_callIN [] 49 d_ye_init_90 jd_tu_init rfl lk_ye_24 rfl (Nat.le_of_ble_eq_true rfl) rfl ?_
  refine i_tu 49 rfl rfl (Nat.le_of_ble_eq_true rfl) (MI_0 (by decide)) (MI_0 (by decide)) (rz_eq _ _) (mz_eq _ _) (fun R2 M2 o2 c2 => ?_)
  have b16 := b15.call o2 c2 (Nat.le_of_ble_eq_true rfl) (Nat.le_of_ble_eq_true rfl)
  refine wp_aast (t := 1) d_ye_init_93 rfl rfl rfl rfl (Nat.le_of_ble_eq_true rfl) (Nat.le_of_ble_eq_true rfl) (by decide) (by decide) ?_
  have b17 := b16.put 41 0 49 (List.mem_of_getElem? (i := 1) rfl) rfl rfl
  refine wp_aload_n d_ye_init_94 rfl 0 rfl ?_
  refine wp_getr d_ye_init_95 1 rfl rfl (Nat.le_of_ble_eq_true rfl) (Nat.le_of_ble_eq_true rfl) rfl (b17.ref (r := 42) (List.mem_of_getElem? (i := 2) rfl) (Nat.le_of_ble_eq_true rfl) rfl) lk_ye_17 ?_
  refine wp_iload_n d_ye_init_98 rfl 1 rfl ?_
  refine wp_new d_ye_init_99 rfl rfl (Nat.le_of_ble_eq_true rfl) lk_ye_9 wx_tu wi_tu ⟨Nat.le_of_ble_eq_true rfl, Nat.le_of_ble_eq_true rfl⟩ ?_
  refine wp_dup d_ye_init_102 rfl ?_
  refine wp_callIN [] 51 d_ye_init_103 jd_tu_init rfl lk_ye_24 rfl (Nat.le_of_ble_eq_true rfl) rfl ?_
  refine i_tu 51 rfl rfl (Nat.le_of_ble_eq_true rfl) (MI_0 (by decide)) (MI_0 (by decide)) (rz_eq _ _) (mz_eq _ _) (fun R3 M3 o3 c3 => ?_)
  have b18 := b17.call o3 c3 (Nat.le_of_ble_eq_true rfl) (Nat.le_of_ble_eq_true rfl)
  refine wp_aast (t := 1) d_ye_init_106 rfl rfl rfl rfl (Nat.le_of_ble_eq_true rfl) (Nat.le_of_ble_eq_true rfl) (by decide) (by decide) ?_
  have b19 := b18.put 42 0 51 (List.mem_of_getElem? (i := 0) rfl) rfl rfl
  refine wp_iinc (L2 := [(0, pR 40), (1, pI 1)]) d_ye_init_107 1 rfl (Nat.le_of_ble_eq_true rfl) [1, 0] rfl ?_
  refine wp_goto 75 d_ye_init_110 (by decide) ?_
  refine wp_iload_n d_ye_init_75 rfl 1 rfl ?_
  refine wp_bipush d_ye_init_76 ⟨by decide, by decide⟩ (by decide) ?_
  refine wp_icmp_ge 113 d_ye_init_78 (by decide) (fun e => absurd e (by decide)) (fun _ => ?_)
  refine wp_aload_n d_ye_init_81 rfl 0 rfl ?_
  refine wp_getr d_ye_init_82 0 rfl rfl (Nat.le_of_ble_eq_true rfl) (Nat.le_of_ble_eq_true rfl) rfl (b19.ref (r := 41) (List.mem_of_getElem? (i := 2) rfl) (Nat.le_of_ble_eq_true rfl) rfl) lk_ye_11 ?_
  refine wp_iload_n d_ye_init_85 rfl 1 rfl ?_
  refine wp_new d_ye_init_86 rfl rfl (Nat.le_of_ble_eq_true rfl) lk_ye_9 wx_tu wi_tu ⟨Nat.le_of_ble_eq_true rfl, Nat.le_of_ble_eq_true rfl⟩ ?_
  refine wp_dup d_ye_init_89 rfl ?_
  refine wp_callIN [] 53 d_ye_init_90 jd_tu_init rfl lk_ye_24 rfl (Nat.le_of_ble_eq_true rfl) rfl ?_
  refine i_tu 53 rfl rfl (Nat.le_of_ble_eq_true rfl) (MI_0 (by decide)) (MI_0 (by decide)) (rz_eq _ _) (mz_eq _ _) (fun R4 M4 o4 c4 => ?_)
  have b20 := b19.call o4 c4 (Nat.le_of_ble_eq_true rfl) (Nat.le_of_ble_eq_true rfl)
  refine wp_aast (t := 1) d_ye_init_93 rfl rfl rfl rfl (Nat.le_of_ble_eq_true rfl) (Nat.le_of_ble_eq_true rfl) (by decide) (by decide) ?_
  have b21 := b20.put 41 1 53 (List.mem_of_getElem? (i := 1) rfl) rfl rfl
  refine wp_aload_n d_ye_init_94 rfl 0 rfl ?_
  refine wp_getr d_ye_init_95 1 rfl rfl (Nat.le_of_ble_eq_true rfl) (Nat.le_of_ble_eq_true rfl) rfl (b21.ref (r := 42) (List.mem_of_getElem? (i := 2) rfl) (Nat.le_of_ble_eq_true rfl) rfl) lk_ye_17 ?_
  refine wp_iload_n d_ye_init_98 rfl 1 rfl ?_
  refine wp_new d_ye_init_99 rfl rfl (Nat.le_of_ble_eq_true rfl) lk_ye_9 wx_tu wi_tu ⟨Nat.le_of_ble_eq_true rfl, Nat.le_of_ble_eq_true rfl⟩ ?_
  refine wp_dup d_ye_init_102 rfl ?_
  refine wp_callIN [] 55 d_ye_init_103 jd_tu_init rfl lk_ye_24 rfl (Nat.le_of_ble_eq_true rfl) rfl ?_
  refine i_tu 55 rfl rfl (Nat.le_of_ble_eq_true rfl) (MI_0 (by decide)) (MI_0 (by decide)) (rz_eq _ _) (mz_eq _ _) (fun R5 M5 o5 c5 => ?_)
  have b22 := b21.call o5 c5 (Nat.le_of_ble_eq_true rfl) (Nat.le_of_ble_eq_true rfl)
  refine wp_aast (t := 1) d_ye_init_106 rfl rfl rfl rfl (Nat.le_of_ble_eq_true rfl) (Nat.le_of_ble_eq_true rfl) (by decide) (by decide) ?_
  have b23 := b22.put 42 1 55 (List.mem_of_getElem? (i := 0) rfl) rfl rfl
  refine wp_iinc (L2 := [(0, pR 40), (1, pI 2)]) d_ye_init_107 1 rfl (Nat.le_of_ble_eq_true rfl) [1, 0] rfl ?_
  refine wp_goto 75 d_ye_init_110 (by decide) ?_
  refine wp_iload_n d_ye_init_75 rfl 1 rfl ?_
  refine wp_bipush d_ye_init_76 ⟨by decide, by decide⟩ (by decide) ?_
  refine wp_icmp_ge 113 d_ye_init_78 (by decide) (fun e => absurd e (by decide)) (fun _ => ?_)
  refine wp_aload_n d_ye_init_81 rfl 0 rfl ?_
  refine wp_getr d_ye_init_82 0 rfl rfl (Nat.le_of_ble_eq_true rfl) (Nat.le_of_ble_eq_true rfl) rfl (b23.ref (r := 41) (List.mem_of_getElem? (i := 2) rfl) (Nat.le_of_ble_eq_true rfl) rfl) lk_ye_11 ?_
  refine wp_iload_n d_ye_init_85 rfl 1 rfl ?_
  refine wp_new d_ye_init_86 rfl rfl (Nat.le_of_ble_eq_true rfl) lk_ye_9 wx_tu wi_tu ⟨Nat.le_of_ble_eq_true rfl, Nat.le_of_ble_eq_true rfl⟩ ?_
  refine wp_dup d_ye_init_89 rfl ?_
  refine wp_callIN [] 57 d_ye_init_90 jd_tu_init rfl lk_ye_24 rfl (Nat.le_of_ble_eq_true rfl) rfl ?_
  refine i_tu 57 rfl rfl (Nat.le_of_ble_eq_true rfl) (MI_0 (by decide)) (MI_0 (by decide)) (rz_eq _ _) (mz_eq _ _) (fun R6 M6 o6 c6 => ?_)
  have b24 := b23.call o6 c6 (Nat.le_of_ble_eq_true rfl) (Nat.le_of_ble_eq_true rfl)
  refine wp_aast (t := 1) d_ye_init_93 rfl rfl rfl rfl (Nat.le_of_ble_eq_true rfl) (Nat.le_of_ble_eq_true rfl) (by decide) (by decide) ?_
  have b25 := b24.put 41 2 57 (List.mem_of_getElem? (i := 1) rfl) rfl rfl
  refine wp_aload_n d_ye_init_94 rfl 0 rfl ?_
  refine wp_getr d_ye_init_95 1 rfl rfl (Nat.le_of_ble_eq_true rfl) (Nat.le_of_ble_eq_true rfl) rfl (b25.ref (r := 42) (List.mem_of_getElem? (i := 2) rfl) (Nat.le_of_ble_eq_true rfl) rfl) lk_ye_17 ?_
  refine wp_iload_n d_ye_init_98 rfl 1 rfl ?_
  refine wp_new d_ye_init_99 rfl rfl (Nat.le_of_ble_eq_true rfl) lk_ye_9 wx_tu wi_tu ⟨Nat.le_of_ble_eq_true rfl, Nat.le_of_ble_eq_true rfl⟩ ?_
  refine wp_dup d_ye_init_102 rfl ?_
  refine wp_callIN [] 59 d_ye_init_103 jd_tu_init rfl lk_ye_24 rfl (Nat.le_of_ble_eq_true rfl) rfl ?_
  refine i_tu 59 rfl rfl (Nat.le_of_ble_eq_true rfl) (MI_0 (by decide)) (MI_0 (by decide)) (rz_eq _ _) (mz_eq _ _) (fun R7 M7 o7 c7 => ?_)
  have b26 := b25.call o7 c7 (Nat.le_of_ble_eq_true rfl) (Nat.le_of_ble_eq_true rfl)
  refine wp_aast (t := 1) d_ye_init_106 rfl rfl rfl rfl (Nat.le_of_ble_eq_true rfl) (Nat.le_of_ble_eq_true rfl) (by decide) (by decide) ?_
  have b27 := b26.put 42 2 59 (List.mem_of_getElem? (i := 0) rfl) rfl rfl
  refine wp_iinc (L2 := [(0, pR 40), (1, pI 3)]) d_ye_init_107 1 rfl (Nat.le_of_ble_eq_true rfl) [1, 0] rfl ?_
  refine wp_goto 75 d_ye_init_110 (by decide) ?_
  refine wp_iload_n d_ye_init_75 rfl 1 rfl ?_
  refine wp_bipush d_ye_init_76 ⟨by decide, by decide⟩ (by decide) ?_
  refine wp_icmp_ge 113 d_ye_init_78 (by decide) (fun e => absurd e (by decide)) (fun _ => ?_)
  refine wp_aload_n d_ye_init_81 rfl 0 rfl ?_
  refine wp_getr d_ye_init_82 0 rfl rfl (Nat.le_of_ble_eq_true rfl) (Nat.le_of_ble_eq_true rfl) rfl (b27.ref (r := 41) (List.mem_of_getElem? (i := 2) rfl) (Nat.le_of_ble_eq_true rfl) rfl) lk_ye_11 ?_
  refine wp_iload_n d_ye_init_85 rfl 1 rfl ?_
  refine wp_new d_ye_init_86 rfl rfl (Nat.le_of_ble_eq_true rfl) lk_ye_9 wx_tu wi_tu ⟨Nat.le_of_ble_eq_true rfl, Nat.le_of_ble_eq_true rfl⟩ ?_
  refine wp_dup d_ye_init_89 rfl ?_
  refine wp_callIN [] 61 d_ye_init_90 jd_tu_init rfl lk_ye_24 rfl (Nat.le_of_ble_eq_true rfl) rfl ?_
  refine i_tu 61 rfl rfl (Nat.le_of_ble_eq_true rfl) (MI_0 (by decide)) (MI_0 (by decide)) (rz_eq _ _) (mz_eq _ _) (fun R8 M8 o8 c8 => ?_)
  have b28 := b27.call o8 c8 (Nat.le_of_ble_eq_true rfl) (Nat.le_of_ble_eq_true rfl)
  refine wp_aast (t := 1) d_ye_init_93 rfl rfl rfl rfl (Nat.le_of_ble_eq_true rfl) (Nat.le_of_ble_eq_true rfl) (by decide) (by decide) ?_
  have b29 := b28.put 41 3 61 (List.mem_of_getElem? (i := 1) rfl) rfl rfl
  refine wp_aload_n d_ye_init_94 rfl 0 rfl ?_
  refine wp_getr d_ye_init_95 1 rfl rfl (Nat.le_of_ble_eq_true rfl) (Nat.le_of_ble_eq_true rfl) rfl (b29.ref (r := 42) (List.mem_of_getElem? (i := 2) rfl) (Nat.le_of_ble_eq_true rfl) rfl) lk_ye_17 ?_
  refine wp_iload_n d_ye_init_98 rfl 1 rfl ?_
  refine wp_new d_ye_init_99 rfl rfl (Nat.le_of_ble_eq_true rfl) lk_ye_9 wx_tu wi_tu ⟨Nat.le_of_ble_eq_true rfl, Nat.le_of_ble_eq_true rfl⟩ ?_
  refine wp_dup d_ye_init_102 rfl ?_
  refine wp_callIN [] 63 d_ye_init_103 jd_tu_init rfl lk_ye_24 rfl (Nat.le_of_ble_eq_true rfl) rfl ?_
  refine i_tu 63 rfl rfl (Nat.le_of_ble_eq_true rfl) (MI_0 (by decide)) (MI_0 (by decide)) (rz_eq _ _) (mz_eq _ _) (fun R9 M9 o9 c9 => ?_)
  have b30 := b29.call o9 c9 (Nat.le_of_ble_eq_true rfl) (Nat.le_of_ble_eq_true rfl)
  refine wp_aast (t := 1) d_ye_init_106 rfl rfl rfl rfl (Nat.le_of_ble_eq_true rfl) (Nat.le_of_ble_eq_true rfl) (by decide) (by decide) ?_
  have b31 := b30.put 42 3 63 (List.mem_of_getElem? (i := 0) rfl) rfl rfl
  refine wp_iinc (L2 := [(0, pR 40), (1, pI 4)]) d_ye_init_107 1 rfl (Nat.le_of_ble_eq_true rfl) [1, 0] rfl ?_
  refine wp_goto 75 d_ye_init_110 (by decide) ?_
  refine wp_iload_n d_ye_init_75 rfl 1 rfl ?_
  refine wp_bipush d_ye_init_76 ⟨by decide, by decide⟩ (by decide) ?_
  refine wp_icmp_ge 113 d_ye_init_78 (by decide) (fun e => absurd e (by decide)) (fun _ => ?_)
  refine wp_aload_n d_ye_init_81 rfl 0 rfl ?_
  refine wp_getr d_ye_init_82 0 rfl rfl (Nat.le_of_ble_eq_true rfl) (Nat.le_of_ble_eq_true rfl) rfl (b31.ref (r := 41) (List.mem_of_getElem? (i := 2) rfl) (Nat.le_of_ble_eq_true rfl) rfl) lk_ye_11 ?_
  refine wp_iload_n d_ye_init_85 rfl 1 rfl ?_
  refine wp_new d_ye_init_86 rfl rfl (Nat.le_of_ble_eq_true rfl) lk_ye_9 wx_tu wi_tu ⟨Nat.le_of_ble_eq_true rfl, Nat.le_of_ble_eq_true rfl⟩ ?_
  refine wp_dup d_ye_init_89 rfl ?_
  refine wp_callIN [] 65 d_ye_init_90 jd_tu_init rfl lk_ye_24 rfl (Nat.le_of_ble_eq_true rfl) rfl ?_
  refine i_tu 65 rfl rfl (Nat.le_of_ble_eq_true rfl) (MI_0 (by decide)) (MI_0 (by decide)) (rz_eq _ _) (mz_eq _ _) (fun R10 M10 o10 c10 => ?_)
  have b32 := b31.call o10 c10 (Nat.le_of_ble_eq_true rfl) (Nat.le_of_ble_eq_true rfl)
  refine wp_aast (t := 1) d_ye_init_93 rfl rfl rfl rfl (Nat.le_of_ble_eq_true rfl) (Nat.le_of_ble_eq_true rfl) (by decide) (by decide) ?_
  have b33 := b32.put 41 4 65 (List.mem_of_getElem? (i := 1) rfl) rfl rfl
  refine wp_aload_n d_ye_init_94 rfl 0 rfl ?_
  refine wp_getr d_ye_init_95 1 rfl rfl (Nat.le_of_ble_eq_true rfl) (Nat.le_of_ble_eq_true rfl) rfl (b33.ref (r := 42) (List.mem_of_getElem? (i := 2) rfl) (Nat.le_of_ble_eq_true rfl) rfl) lk_ye_17 ?_
  refine wp_iload_n d_ye_init_98 rfl 1 rfl ?_
  refine wp_new d_ye_init_99 rfl rfl (Nat.le_of_ble_eq_true rfl) lk_ye_9 wx_tu wi_tu ⟨Nat.le_of_ble_eq_true rfl, Nat.le_of_ble_eq_true rfl⟩ ?_
  refine wp_dup d_ye_init_102 rfl ?_
  refine wp_callIN [] 67 d_ye_init_103 jd_tu_init rfl lk_ye_24 rfl (Nat.le_of_ble_eq_true rfl) rfl ?_
  refine i_tu 67 rfl rfl (Nat.le_of_ble_eq_true rfl) (MI_0 (by decide)) (MI_0 (by decide)) (rz_eq _ _) (mz_eq _ _) (fun R11 M11 o11 c11 => ?_)
  have b34 := b33.call o11 c11 (Nat.le_of_ble_eq_true rfl) (Nat.le_of_ble_eq_true rfl)
  refine wp_aast (t := 1) d_ye_init_106 rfl rfl rfl rfl (Nat.le_of_ble_eq_true rfl) (Nat.le_of_ble_eq_true rfl) (by decide) (by decide) ?_
  have b35 := b34.put 42 4 67 (List.mem_of_getElem? (i := 0) rfl) rfl rfl
  refine wp_iinc (L2 := [(0, pR 40), (1, pI 5)]) d_ye_init_107 1 rfl (Nat.le_of_ble_eq_true rfl) [1, 0] rfl ?_
  refine wp_goto 75 d_ye_init_110 (by decide) ?_
  refine wp_iload_n d_ye_init_75 rfl 1 rfl ?_
  refine wp_bipush d_ye_init_76 ⟨by decide, by decide⟩ (by decide) ?_
  refine wp_icmp_ge 113 d_ye_init_78 (by decide) (fun e => absurd e (by decide)) (fun _ => ?_)
  refine wp_aload_n d_ye_init_81 rfl 0 rfl ?_
  refine wp_getr d_ye_init_82 0 rfl rfl (Nat.le_of_ble_eq_true rfl) (Nat.le_of_ble_eq_true rfl) rfl (b35.ref (r := 41) (List.mem_of_getElem? (i := 2) rfl) (Nat.le_of_ble_eq_true rfl) rfl) lk_ye_11 ?_
  refine wp_iload_n d_ye_init_85 rfl 1 rfl ?_
  refine wp_new d_ye_init_86 rfl rfl (Nat.le_of_ble_eq_true rfl) lk_ye_9 wx_tu wi_tu ⟨Nat.le_of_ble_eq_true rfl, Nat.le_of_ble_eq_true rfl⟩ ?_
  refine wp_dup d_ye_init_89 rfl ?_
  refine wp_callIN [] 69 d_ye_init_90 jd_tu_init rfl lk_ye_24 rfl (Nat.le_of_ble_eq_true rfl) rfl ?_
  refine i_tu 69 rfl rfl (Nat.le_of_ble_eq_true rfl) (MI_0 (by decide)) (MI_0 (by decide)) (rz_eq _ _) (mz_eq _ _) (fun R12 M12 o12 c12 => ?_)
  have b36 := b35.call o12 c12 (Nat.le_of_ble_eq_true rfl) (Nat.le_of_ble_eq_true rfl)
  refine wp_aast (t := 1) d_ye_init_93 rfl rfl rfl rfl (Nat.le_of_ble_eq_true rfl) (Nat.le_of_ble_eq_true rfl) (by decide) (by decide) ?_
  have b37 := b36.put 41 5 69 (List.mem_of_getElem? (i := 1) rfl) rfl rfl
  refine wp_aload_n d_ye_init_94 rfl 0 rfl ?_
  refine wp_getr d_ye_init_95 1 rfl rfl (Nat.le_of_ble_eq_true rfl) (Nat.le_of_ble_eq_true rfl) rfl (b37.ref (r := 42) (List.mem_of_getElem? (i := 2) rfl) (Nat.le_of_ble_eq_true rfl) rfl) lk_ye_17 ?_
  refine wp_iload_n d_ye_init_98 rfl 1 rfl ?_
  refine wp_new d_ye_init_99 rfl rfl (Nat.le_of_ble_eq_true rfl) lk_ye_9 wx_tu wi_tu ⟨Nat.le_of_ble_eq_true rfl, Nat.le_of_ble_eq_true rfl⟩ ?_
  refine wp_dup d_ye_init_102 rfl ?_
  refine wp_callIN [] 71 d_ye_init_103 jd_tu_init rfl lk_ye_24 rfl (Nat.le_of_ble_eq_true rfl) rfl ?_
  refine i_tu 71 rfl rfl (Nat.le_of_ble_eq_true rfl) (MI_0 (by decide)) (MI_0 (by decide)) (rz_eq _ _) (mz_eq _ _) (fun R13 M13 o13 c13 => ?_)
  have b38 := b37.call o13 c13 (Nat.le_of_ble_eq_true rfl) (Nat.le_of_ble_eq_true rfl)
  refine wp_aast (t := 1) d_ye_init_106 rfl rfl rfl rfl (Nat.le_of_ble_eq_true rfl) (Nat.le_of_ble_eq_true rfl) (by decide) (by decide) ?_
  have b39 := b38.put 42 5 71 (List.mem_of_getElem? (i := 0) rfl) rfl rfl
  refine wp_iinc (L2 := [(0, pR 40), (1, pI 6)]) d_ye_init_107 1 rfl (Nat.le_of_ble_eq_true rfl) [1, 0] rfl ?_
  refine wp_goto 75 d_ye_init_110 (by decide) ?_
  refine wp_iload_n d_ye_init_75 rfl 1 rfl ?_
  refine wp_bipush d_ye_init_76 ⟨by decide, by decide⟩ (by decide) ?_
  refine wp_icmp_ge 113 d_ye_init_78 (by decide) (fun _ => ?_) (fun e => absurd e (by decide))
  refine wp_vret d_ye_init_113 rfl ⟨Nat.le_of_ble_eq_true rfl, Nat.le_of_ble_eq_true rfl⟩ ?_
  have f := b39.fin ?_
  · exact hq _ _ f.1 f.2
  intro q hq2 k
  simp only [List.mem_cons, List.not_mem_nil, or_false] at hq2
  rcases hq2 with rfl | rfl | rfl
  · refine ⟨fun hk => ?_, ?_⟩
    · have hk2 : 6 ≤ k := hk
      exact rf_hi42 k hk2
    · exact ((MI_0 (by decide) k).symm)
  · refine ⟨fun hk => ?_, ?_⟩
    · have hk2 : 6 ≤ k := hk
      exact rf_hi41 k hk2
    · exact ((MI_0 (by decide) k).symm)
  · refine ⟨fun hk => ?_, ?_⟩
    · have hk2 : 7 ≤ k := hk
      exact rf_hi40 k hk2
    · unfold MI
      by_cases e7 : k = 7
      · subst e7; rfl
      · simp [mu, E0, e7] <;> omega
