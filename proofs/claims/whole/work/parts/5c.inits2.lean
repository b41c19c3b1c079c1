/-! the constructors of book, bank and model -/
set_option maxHeartbeats 8000000 in
set_option maxRecDepth 4000 in
theorem i_bk {G : GT} {R : RT} {M : MT} {Q : QT} (hR : ∀ k, R 1 k = none) (hM : ∀ k, M 1 k = 0) (hq : ∀ R' M', OL 1 R M R' M' → CK 1 40 R' M' → Q none 40 R' M') : Cl G J_bk_init [pR 1] (1 + 1) R M Q := by
  have b0 := BU.start (a := 1) hR hM
  show Wp G J_bk_init 0 0 0 [(0, pR 1)] [] (1 + 1) R M Q
  refine wp_aload_n d_bk_init_0 rfl 0 rfl ?_
  refine wp_objInit d_bk_init_1 lk_bk_3 (Nat.le_of_ble_eq_true rfl) (Nat.le_of_ble_eq_true rfl) w_oin w_oco ?_
  refine wp_aload_n d_bk_init_4 rfl 0 rfl ?_
  refine wp_iconst d_bk_init_5 ⟨by decide, by decide⟩ ?_
  refine wp_newq (t := 0) (N := 2) d_bk_init_6 rfl rfl rfl (Nat.le_of_ble_eq_true rfl) (Nat.le_of_ble_eq_true rfl) lk_bk_9 (fun U h => h.2.1.1) ⟨Nat.le_of_ble_eq_true rfl, Nat.le_of_ble_eq_true rfl⟩ ?_
  have b1 := b0.arrP (Nat.le_of_ble_eq_true rfl) rfl (fun _ => rfl)
  refine wp_putr d_bk_init_9 0 rfl rfl (Nat.le_of_ble_eq_true rfl) (Nat.le_of_ble_eq_true rfl) (Nat.le_of_ble_eq_true rfl) rfl (fun _ => ⟨rfl, rfl⟩) rfl rfl rfl lk_bk_11 ?_
  have b2 := b1.put 1 0 2 (List.mem_of_getElem? (i := 1) rfl) rfl rfl
  refine wp_aload_n d_bk_init_12 rfl 0 rfl ?_
  refine wp_bipush d_bk_init_13 ⟨by decide, by decide⟩ (by decide) ?_
  refine wp_newq (t := 1) (N := 6) d_bk_init_15 rfl rfl rfl (Nat.le_of_ble_eq_true rfl) (Nat.le_of_ble_eq_true rfl) lk_bk_17 (fun U h => h.2.1.2.1) ⟨Nat.le_of_ble_eq_true rfl, Nat.le_of_ble_eq_true rfl⟩ ?_
  have b3 := b2.arrP (Nat.le_of_ble_eq_true rfl) rfl (fun _ => rfl)
  refine wp_putr d_bk_init_18 1 rfl rfl (Nat.le_of_ble_eq_true rfl) (Nat.le_of_ble_eq_true rfl) (Nat.le_of_ble_eq_true rfl) rfl (fun _ => ⟨rfl, rfl⟩) rfl rfl rfl lk_bk_19 ?_
  have b4 := b3.put 1 1 3 (List.mem_of_getElem? (i := 2) rfl) rfl rfl
  refine wp_aload_n d_bk_init_21 rfl 0 rfl ?_
  refine wp_bipush d_bk_init_22 ⟨by decide, by decide⟩ (by decide) ?_
  refine wp_newq (t := 2) (N := 6) d_bk_init_24 rfl rfl rfl (Nat.le_of_ble_eq_true rfl) (Nat.le_of_ble_eq_true rfl) lk_bk_23 (fun U h => h.2.1.2.2.1) ⟨Nat.le_of_ble_eq_true rfl, Nat.le_of_ble_eq_true rfl⟩ ?_
  have b5 := b4.arrP (Nat.le_of_ble_eq_true rfl) rfl (fun _ => rfl)
  refine wp_putr d_bk_init_27 2 rfl rfl (Nat.le_of_ble_eq_true rfl) (Nat.le_of_ble_eq_true rfl) (Nat.le_of_ble_eq_true rfl) rfl (fun _ => ⟨rfl, rfl⟩) rfl rfl rfl lk_bk_25 ?_
  have b6 := b5.put 1 2 4 (List.mem_of_getElem? (i := 3) rfl) rfl rfl
  refine wp_aload_n d_bk_init_30 rfl 0 rfl ?_
  refine wp_bipush d_bk_init_31 ⟨by decide, by decide⟩ (by decide) ?_
  refine wp_newq (t := 3) (N := 12) d_bk_init_33 rfl rfl rfl (Nat.le_of_ble_eq_true rfl) (Nat.le_of_ble_eq_true rfl) lk_bk_29 (fun U h => h.2.1.2.2.2.1) ⟨Nat.le_of_ble_eq_true rfl, Nat.le_of_ble_eq_true rfl⟩ ?_
  have b7 := b6.arrP (Nat.le_of_ble_eq_true rfl) rfl (fun _ => rfl)
  refine wp_putr d_bk_init_36 3 rfl rfl (Nat.le_of_ble_eq_true rfl) (Nat.le_of_ble_eq_true rfl) (Nat.le_of_ble_eq_true rfl) rfl (fun _ => ⟨rfl, rfl⟩) rfl rfl rfl lk_bk_31 ?_
  have b8 := b7.put 1 3 5 (List.mem_of_getElem? (i := 4) rfl) rfl rfl
  refine wp_aload_n d_bk_init_39 rfl 0 rfl ?_
  refine wp_getr d_bk_init_40 0 rfl rfl (Nat.le_of_ble_eq_true rfl) (Nat.le_of_ble_eq_true rfl) rfl (b8.ref (r := 2) (List.mem_of_getElem? (i := 4) rfl) (Nat.le_of_ble_eq_true rfl) rfl) lk_bk_11 ?_
  refine wp_iconst d_bk_init_43 ⟨by decide, by decide⟩ ?_
  refine wp_new d_bk_init_44 rfl rfl (Nat.le_of_ble_eq_true rfl) lk_bk_9 wx_tx wi_tx ⟨Nat.le_of_ble_eq_true rfl, Nat.le_of_ble_eq_true rfl⟩ ?_
  refine wp_dup d_bk_init_47 rfl ?_
  refine wp_bipush d_bk_init_48 ⟨by decide, by decide⟩ (by decide) ?_
  refine wp_callI [pI 59] 6 d_bk_init_50 jd_tx_init rfl lk_bk_35 rfl (Nat.le_of_ble_eq_true rfl) rfl ?_
  refine i_tx 6 59 (Nat.le_of_ble_eq_true rfl) rfl rfl (Nat.le_of_ble_eq_true rfl) mi_tx6 (MI_0 (by decide)) (rz_eq _ _) (mz_eq _ _) (fun R1 M1 o1 c1 => ?_)
  have b9 := b8.call o1 c1 (Nat.le_of_ble_eq_true rfl) (Nat.le_of_ble_eq_true rfl)
  refine wp_aast (t := 0) d_bk_init_53 rfl rfl rfl rfl (Nat.le_of_ble_eq_true rfl) (Nat.le_of_ble_eq_true rfl) (by decide) (by decide) ?_
  have b10 := b9.put 2 0 6 (List.mem_of_getElem? (i := 3) rfl) rfl rfl
  refine wp_aload_n d_bk_init_54 rfl 0 rfl ?_
  refine wp_getr d_bk_init_55 0 rfl rfl (Nat.le_of_ble_eq_true rfl) (Nat.le_of_ble_eq_true rfl) rfl (b10.ref (r := 2) (List.mem_of_getElem? (i := 4) rfl) (Nat.le_of_ble_eq_true rfl) rfl) lk_bk_11 ?_
  refine wp_iconst d_bk_init_58 ⟨by decide, by decide⟩ ?_
  refine wp_new d_bk_init_59 rfl rfl (Nat.le_of_ble_eq_true rfl) lk_bk_9 wx_tx wi_tx ⟨Nat.le_of_ble_eq_true rfl, Nat.le_of_ble_eq_true rfl⟩ ?_
  refine wp_dup d_bk_init_62 rfl ?_
  refine wp_bipush d_bk_init_63 ⟨by decide, by decide⟩ (by decide) ?_
  refine wp_callI [pI 23] 8 d_bk_init_65 jd_tx_init rfl lk_bk_35 rfl (Nat.le_of_ble_eq_true rfl) rfl ?_
  refine i_tx 8 23 (Nat.le_of_ble_eq_true rfl) rfl rfl (Nat.le_of_ble_eq_true rfl) mi_tx8 (MI_0 (by decide)) (rz_eq _ _) (mz_eq _ _) (fun R2 M2 o2 c2 => ?_)
  have b11 := b10.call o2 c2 (Nat.le_of_ble_eq_true rfl) (Nat.le_of_ble_eq_true rfl)
  refine wp_aast (t := 0) d_bk_init_68 rfl rfl rfl rfl (Nat.le_of_ble_eq_true rfl) (Nat.le_of_ble_eq_true rfl) (by decide) (by decide) ?_
  have b12 := b11.put 2 1 8 (List.mem_of_getElem? (i := 3) rfl) rfl rfl
  refine wp_iconst d_bk_init_69 ⟨by decide, by decide⟩ ?_
  refine wp_istore_n (L2 := [(0, pR 1), (1, pI 0)]) d_bk_init_70 rfl (Nat.le_of_ble_eq_true rfl) [1, 0] rfl ?_
  refine wp_iload_n d_bk_init_71 rfl 1 rfl ?_
  refine wp_bipush d_bk_init_72 ⟨by decide, by decide⟩ (by decide) ?_
  refine wp_icmp_ge 96 d_bk_init_74 (by decide) (fun e => absurd e (by decide)) (fun _ => ?_)
  refine wp_aload_n d_bk_init_77 rfl 0 rfl ?_
  refine wp_getr d_bk_init_78 1 rfl rfl (Nat.le_of_ble_eq_true rfl) (Nat.le_of_ble_eq_true rfl) rfl (b12.ref (r := 3) (List.mem_of_getElem? (i := 4) rfl) (Nat.le_of_ble_eq_true rfl) rfl) lk_bk_19 ?_
  refine wp_iload_n d_bk_init_81 rfl 1 rfl ?_
  refine wp_new d_bk_init_82 rfl rfl (Nat.le_of_ble_eq_true rfl) lk_bk_17 wx_tu wi_tu ⟨Nat.le_of_ble_eq_true rfl, Nat.le_of_ble_eq_true rfl⟩ ?_
  refine wp_dup d_bk_init_85 rfl ?_
  refine wp_callIN [] 10 d_bk_init_86 jd_tu_init rfl lk_bk_38 rfl (Nat.le_of_ble_eq_true rfl) rfl ?_
  refine i_tu 10 rfl rfl (Nat.le_of_ble_eq_true rfl) (MI_0 (by decide)) (MI_0 (by decide)) (rz_eq _ _) (mz_eq _ _) (fun R3 M3 o3 c3 => ?_)
  have b13 := b12.call o3 c3 (Nat.le_of_ble_eq_true rfl) (Nat.le_of_ble_eq_true rfl)
  refine wp_aast (t := 1) d_bk_init_89 rfl rfl rfl rfl (Nat.le_of_ble_eq_true rfl) (Nat.le_of_ble_eq_true rfl) (by decide) (by decide) ?_
  have b14 := b13.put 3 0 10 (List.mem_of_getElem? (i := 2) rfl) rfl rfl
  refine wp_iinc (L2 := [(0, pR 1), (1, pI 1)]) d_bk_init_90 1 rfl (Nat.le_of_ble_eq_true rfl) [1, 0] rfl ?_
  refine wp_goto 71 d_bk_init_93 (by decide) ?_
  refine wp_iload_n d_bk_init_71 rfl 1 rfl ?_
  refine wp_bipush d_bk_init_72 ⟨by decide, by decide⟩ (by decide) ?_
  refine wp_icmp_ge 96 d_bk_init_74 (by decide) (fun e => absurd e (by decide)) (fun _ => ?_)
  refine wp_aload_n d_bk_init_77 rfl 0 rfl ?_
  refine wp_getr d_bk_init_78 1 rfl rfl (Nat.le_of_ble_eq_true rfl) (Nat.le_of_ble_eq_true rfl) rfl (b14.ref (r := 3) (List.mem_of_getElem? (i := 4) rfl) (Nat.le_of_ble_eq_true rfl) rfl) lk_bk_19 ?_
  refine wp_iload_n d_bk_init_81 rfl 1 rfl ?_
  refine wp_new d_bk_init_82 rfl rfl (Nat.le_of_ble_eq_true rfl) lk_bk_17 wx_tu wi_tu ⟨Nat.le_of_ble_eq_true rfl, Nat.le_of_ble_eq_true rfl⟩ ?_
  refine wp_dup d_bk_init_85 rfl ?_
  refine wp_callIN [] 12 d_bk_init_86 jd_tu_init rfl lk_bk_38 rfl (Nat.le_of_ble_eq_true rfl) rfl ?_
  refine i_tu 12 rfl rfl (Nat.le_of_ble_eq_true rfl) (MI_0 (by decide)) (MI_0 (by decide)) (rz_eq _ _) (mz_eq _ _) (fun R4 M4 o4 c4 => ?_)
  have b15 := b14.call o4 c4 (Nat.le_of_ble_eq_true rfl) (Nat.le_of_ble_eq_true rfl)
  refine wp_aast (t := 1) d_bk_init_89 rfl rfl rfl rfl (Nat.le_of_ble_eq_true rfl) (Nat.le_of_ble_eq_true rfl) (by decide) (by decide) ?_
  have b16 := b15.put 3 1 12 (List.mem_of_getElem? (i := 2) rfl) rfl rfl
  refine wp_iinc (L2 := [(0, pR 1), (1, pI 2)]) d_bk_init_90 1 rfl (Nat.le_of_ble_eq_true rfl) [1, 0] rfl ?_
  refine wp_goto 71 d_bk_init_93 (by decide) ?_
  refine wp_iload_n d_bk_init_71 rfl 1 rfl ?_
  refine wp_bipush d_bk_init_72 ⟨by decide, by decide⟩ (by decide) ?_
  refine wp_icmp_ge 96 d_bk_init_74 (by decide) (fun e => absurd e (by decide)) (fun _ => ?_)
  refine wp_aload_n d_bk_init_77 rfl 0 rfl ?_
  refine wp_getr d_bk_init_78 1 rfl rfl (Nat.le_of_ble_eq_true rfl) (Nat.le_of_ble_eq_true rfl) rfl (b16.ref (r := 3) (List.mem_of_getElem? (i := 4) rfl) (Nat.le_of_ble_eq_true rfl) rfl) lk_bk_19 ?_
  refine wp_iload_n d_bk_init_81 rfl 1 rfl ?_
  refine wp_new d_bk_init_82 rfl rfl (Nat.le_of_ble_eq_true rfl) lk_bk_17 wx_tu wi_tu ⟨Nat.le_of_ble_eq_true rfl, Nat.le_of_ble_eq_true rfl⟩ ?_
  refine wp_dup d_bk_init_85 rfl ?_
  refine wp_callIN [] 14 d_bk_init_86 jd_tu_init rfl lk_bk_38 rfl (Nat.le_of_ble_eq_true rfl) rfl ?_
  refine i_tu 14 rfl rfl (Nat.le_of_ble_eq_true rfl) (MI_0 (by decide)) (MI_0 (by decide)) (rz_eq _ _) (mz_eq _ _) (fun R5 M5 o5 c5 => ?_)
  have b17 := b16.call o5 c5 (Nat.le_of_ble_eq_true rfl) (Nat.le_of_ble_eq_true rfl)
  refine wp_aast (t := 1) d_bk_init_89 rfl rfl rfl rfl (Nat.le_of_ble_eq_true rfl) (Nat.le_of_ble_eq_true rfl) (by decide) (by decide) ?_
  have b18 := b17.put 3 2 14 (List.mem_of_getElem? (i := 2) rfl) rfl rfl
  refine wp_iinc (L2 := [(0, pR 1), (1, pI 3)]) d_bk_init_90 1 rfl (Nat.le_of_ble_eq_true rfl) [1, 0] rfl ?_
  refine wp_goto 71 d_bk_init_93 (by decide) ?_
  refine wp_iload_n d_bk_init_71 rfl 1 rfl ?_
  refine wp_bipush d_bk_init_72 ⟨by decide, by decide⟩ (by decide) ?_
  refine wp_icmp_ge 96 d_bk_init_74 (by decide) (fun e => absurd e (by decide)) (fun _ => ?_)
  refine wp_aload_n d_bk_init_77 rfl 0 rfl ?_
  refine wp_getr d_bk_init_78 1 rfl rfl (Nat.le_of_ble_eq_true rfl) (Nat.le_of_ble_eq_true rfl) rfl (b18.ref (r := 3) (List.mem_of_getElem? (i := 4) rfl) (Nat.le_of_ble_eq_true rfl) rfl) lk_bk_19 ?_
  refine wp_iload_n d_bk_init_81 rfl 1 rfl ?_
  refine wp_new d_bk_init_82 rfl rfl (Nat.le_of_ble_eq_true rfl) lk_bk_17 wx_tu wi_tu ⟨Nat.le_of_ble_eq_true rfl, Nat.le_of_ble_eq_true rfl⟩ ?_
  refine wp_dup d_bk_init_85 rfl ?_
  refine wp_callIN [] 16 d_bk_init_86 jd_tu_init rfl lk_bk_38 rfl (Nat.le_of_ble_eq_true rfl) rfl ?_
  refine i_tu 16 rfl rfl (Nat.le_of_ble_eq_true rfl) (MI_0 (by decide)) (MI_0 (by decide)) (rz_eq _ _) (mz_eq _ _) (fun R6 M6 o6 c6 => ?_)
  have b19 := b18.call o6 c6 (Nat.le_of_ble_eq_true rfl) (Nat.le_of_ble_eq_true rfl)
  refine wp_aast (t := 1) d_bk_init_89 rfl rfl rfl rfl (Nat.le_of_ble_eq_true rfl) (Nat.le_of_ble_eq_true rfl) (by decide) (by decide) ?_
  have b20 := b19.put 3 3 16 (List.mem_of_getElem? (i := 2) rfl) rfl rfl
  refine wp_iinc (L2 := [(0, pR 1), (1, pI 4)]) d_bk_init_90 1 rfl (Nat.le_of_ble_eq_true rfl) [1, 0] rfl ?_
  refine wp_goto 71 d_bk_init_93 (by decide) ?_
  refine wp_iload_n d_bk_init_71 rfl 1 rfl ?_
  refine wp_bipush d_bk_init_72 ⟨by decide, by decide⟩ (by decide) ?_
  refine wp_icmp_ge 96 d_bk_init_74 (by decide) (fun e => absurd e (by decide)) (fun _ => ?_)
  refine wp_aload_n d_bk_init_77 rfl 0 rfl ?_
  refine wp_getr d_bk_init_78 1 rfl rfl (Nat.le_of_ble_eq_true rfl) (Nat.le_of_ble_eq_true rfl) rfl (b20.ref (r := 3) (List.mem_of_getElem? (i := 4) rfl) (Nat.le_of_ble_eq_true rfl) rfl) lk_bk_19 ?_
  refine wp_iload_n d_bk_init_81 rfl 1 rfl ?_
  refine wp_new d_bk_init_82 rfl rfl (Nat.le_of_ble_eq_true rfl) lk_bk_17 wx_tu wi_tu ⟨Nat.le_of_ble_eq_true rfl, Nat.le_of_ble_eq_true rfl⟩ ?_
  refine wp_dup d_bk_init_85 rfl ?_
  refine wp_callIN [] 18 d_bk_init_86 jd_tu_init rfl lk_bk_38 rfl (Nat.le_of_ble_eq_true rfl) rfl ?_
  refine i_tu 18 rfl rfl (Nat.le_of_ble_eq_true rfl) (MI_0 (by decide)) (MI_0 (by decide)) (rz_eq _ _) (mz_eq _ _) (fun R7 M7 o7 c7 => ?_)
  have b21 := b20.call o7 c7 (Nat.le_of_ble_eq_true rfl) (Nat.le_of_ble_eq_true rfl)
  refine wp_aast (t := 1) d_bk_init_89 rfl rfl rfl rfl (Nat.le_of_ble_eq_true rfl) (Nat.le_of_ble_eq_true rfl) (by decide) (by decide) ?_
  have b22 := b21.put 3 4 18 (List.mem_of_getElem? (i := 2) rfl) rfl rfl
  refine wp_iinc (L2 := [(0, pR 1), (1, pI 5)]) d_bk_init_90 1 rfl (Nat.le_of_ble_eq_true rfl) [1, 0] rfl ?_
  refine wp_goto 71 d_bk_init_93 (by decide) ?_
  refine wp_iload_n d_bk_init_71 rfl 1 rfl ?_
  refine wp_bipush d_bk_init_72 ⟨by decide, by decide⟩ (by decide) ?_
  refine wp_icmp_ge 96 d_bk_init_74 (by decide) (fun e => absurd e (by decide)) (fun _ => ?_)
  refine wp_aload_n d_bk_init_77 rfl 0 rfl ?_
  refine wp_getr d_bk_init_78 1 rfl rfl (Nat.le_of_ble_eq_true rfl) (Nat.le_of_ble_eq_true rfl) rfl (b22.ref (r := 3) (List.mem_of_getElem? (i := 4) rfl) (Nat.le_of_ble_eq_true rfl) rfl) lk_bk_19 ?_
  refine wp_iload_n d_bk_init_81 rfl 1 rfl ?_
  refine wp_new d_bk_init_82 rfl rfl (Nat.le_of_ble_eq_true rfl) lk_bk_17 wx_tu wi_tu ⟨Nat.le_of_ble_eq_true rfl, Nat.le_of_ble_eq_true rfl⟩ ?_
  refine wp_dup d_bk_init_85 rfl ?_
  refine wp_callIN [] 20 d_bk_init_86 jd_tu_init rfl lk_bk_38 rfl (Nat.le_of_ble_eq_true rfl) rfl ?_
  refine i_tu 20 rfl rfl (Nat.le_of_ble_eq_true rfl) (MI_0 (by decide)) (MI_0 (by decide)) (rz_eq _ _) (mz_eq _ _) (fun R8 M8 o8 c8 => ?_)
  have b23 := b22.call o8 c8 (Nat.le_of_ble_eq_true rfl) (Nat.le_of_ble_eq_true rfl)
  refine wp_aast (t := 1) d_bk_init_89 rfl rfl rfl rfl (Nat.le_of_ble_eq_true rfl) (Nat.le_of_ble_eq_true rfl) (by decide) (by decide) ?_
  have b24 := b23.put 3 5 20 (List.mem_of_getElem? (i := 2) rfl) rfl rfl
  refine wp_iinc (L2 := [(0, pR 1), (1, pI 6)]) d_bk_init_90 1 rfl (Nat.le_of_ble_eq_true rfl) [1, 0] rfl ?_
  refine wp_goto 71 d_bk_init_93 (by decide) ?_
  refine wp_iload_n d_bk_init_71 rfl 1 rfl ?_
  refine wp_bipush d_bk_init_72 ⟨by decide, by decide⟩ (by decide) ?_
  refine wp_icmp_ge 96 d_bk_init_74 (by decide) (fun _ => ?_) (fun e => absurd e (by decide))
  refine wp_iconst d_bk_init_96 ⟨by decide, by decide⟩ ?_
  refine wp_istore_n (L2 := [(0, pR 1), (1, pI 0)]) d_bk_init_97 rfl (Nat.le_of_ble_eq_true rfl) [1, 0] rfl ?_
  refine wp_iload_n d_bk_init_98 rfl 1 rfl ?_
  refine wp_bipush d_bk_init_99 ⟨by decide, by decide⟩ (by decide) ?_
  refine wp_icmp_ge 123 d_bk_init_101 (by decide) (fun e => absurd e (by decide)) (fun _ => ?_)
  refine wp_aload_n d_bk_init_104 rfl 0 rfl ?_
  refine wp_getr d_bk_init_105 2 rfl rfl (Nat.le_of_ble_eq_true rfl) (Nat.le_of_ble_eq_true rfl) rfl (b24.ref (r := 4) (List.mem_of_getElem? (i := 4) rfl) (Nat.le_of_ble_eq_true rfl) rfl) lk_bk_25 ?_
  refine wp_iload_n d_bk_init_108 rfl 1 rfl ?_
  refine wp_new d_bk_init_109 rfl rfl (Nat.le_of_ble_eq_true rfl) lk_bk_23 wx_bo wi_bo ⟨Nat.le_of_ble_eq_true rfl, Nat.le_of_ble_eq_true rfl⟩ ?_
  refine wp_dup d_bk_init_112 rfl ?_
  refine wp_callIN [] 22 d_bk_init_113 jd_bo_init rfl lk_bk_39 rfl (Nat.le_of_ble_eq_true rfl) rfl ?_
  refine i_bo 22 rfl (MI_0 (by decide)) (rz_eq _ _) (mz_eq _ _) (fun R9 M9 o9 c9 => ?_)
  have b25 := b24.call o9 c9 (Nat.le_of_ble_eq_true rfl) (Nat.le_of_ble_eq_true rfl)
  refine wp_aast (t := 2) d_bk_init_116 rfl rfl rfl rfl (Nat.le_of_ble_eq_true rfl) (Nat.le_of_ble_eq_true rfl) (by decide) (by decide) ?_
  have b26 := b25.put 4 0 22 (List.mem_of_getElem? (i := 1) rfl) rfl rfl
  refine wp_iinc (L2 := [(0, pR 1), (1, pI 1)]) d_bk_init_117 1 rfl (Nat.le_of_ble_eq_true rfl) [1, 0] rfl ?_
  refine wp_goto 98 d_bk_init_120 (by decide) ?_
  refine wp_iload_n d_bk_init_98 rfl 1 rfl ?_
  refine wp_bipush d_bk_init_99 ⟨by decide, by decide⟩ (by decide) ?_
  refine wp_icmp_ge 123 d_bk_init_101 (by decide) (fun e => absurd e (by decide)) (fun _ => ?_)
  refine wp_aload_n d_bk_init_104 rfl 0 rfl ?_
  refine wp_getr d_bk_init_105 2 rfl rfl (Nat.le_of_ble_eq_true rfl) (Nat.le_of_ble_eq_true rfl) rfl (b26.ref (r := 4) (List.mem_of_getElem? (i := 4) rfl) (Nat.le_of_ble_eq_true rfl) rfl) lk_bk_25 ?_
  refine wp_iload_n d_bk_init_108 rfl 1 rfl ?_
  refine wp_new d_bk_init_109 rfl rfl (Nat.le_of_ble_eq_true rfl) lk_bk_23 wx_bo wi_bo ⟨Nat.le_of_ble_eq_true rfl, Nat.le_of_ble_eq_true rfl⟩ ?_
  refine wp_dup d_bk_init_112 rfl ?_
  refine wp_callIN [] 23 d_bk_init_113 jd_bo_init rfl lk_bk_39 rfl (Nat.le_of_ble_eq_true rfl) rfl ?_
  refine i_bo 23 rfl (MI_0 (by decide)) (rz_eq _ _) (mz_eq _ _) (fun R10 M10 o10 c10 => ?_)
  have b27 := b26.call o10 c10 (Nat.le_of_ble_eq_true rfl) (Nat.le_of_ble_eq_true rfl)
  refine wp_aast (t := 2) d_bk_init_116 rfl rfl rfl rfl (Nat.le_of_ble_eq_true rfl) (Nat.le_of_ble_eq_true rfl) (by decide) (by decide) ?_
  have b28 := b27.put 4 1 23 (List.mem_of_getElem? (i := 1) rfl) rfl rfl
  refine wp_iinc (L2 := [(0, pR 1), (1, pI 2)]) d_bk_init_117 1 rfl (Nat.le_of_ble_eq_true rfl) [1, 0] rfl ?_
  refine wp_goto 98 d_bk_init_120 (by decide) ?_
  refine wp_iload_n d_bk_init_98 rfl 1 rfl ?_
  refine wp_bipush d_bk_init_99 ⟨by decide, by decide⟩ (by decide) ?_
  refine wp_icmp_ge 123 d_bk_init_101 (by decide) (fun e => absurd e (by decide)) (fun _ => ?_)
  refine wp_aload_n d_bk_init_104 rfl 0 rfl ?_
  refine wp_getr d_bk_init_105 2 rfl rfl (Nat.le_of_ble_eq_true rfl) (Nat.le_of_ble_eq_true rfl) rfl (b28.ref (r := 4) (List.mem_of_getElem? (i := 4) rfl) (Nat.le_of_ble_eq_true rfl) rfl) lk_bk_25 ?_
  refine wp_iload_n d_bk_init_108 rfl 1 rfl ?_
  refine wp_new d_bk_init_109 rfl rfl (Nat.le_of_ble_eq_true rfl) lk_bk_23 wx_bo wi_bo ⟨Nat.le_of_ble_eq_true rfl, Nat.le_of_ble_eq_true rfl⟩ ?_
  refine wp_dup d_bk_init_112 rfl ?_
  refine wp_callIN [] 24 d_bk_init_113 jd_bo_init rfl lk_bk_39 rfl (Nat.le_of_ble_eq_true rfl) rfl ?_
  refine i_bo 24 rfl (MI_0 (by decide)) (rz_eq _ _) (mz_eq _ _) (fun R11 M11 o11 c11 => ?_)
  have b29 := b28.call o11 c11 (Nat.le_of_ble_eq_true rfl) (Nat.le_of_ble_eq_true rfl)
  refine wp_aast (t := 2) d_bk_init_116 rfl rfl rfl rfl (Nat.le_of_ble_eq_true rfl) (Nat.le_of_ble_eq_true rfl) (by decide) (by decide) ?_
  have b30 := b29.put 4 2 24 (List.mem_of_getElem? (i := 1) rfl) rfl rfl
  refine wp_iinc (L2 := [(0, pR 1), (1, pI 3)]) d_bk_init_117 1 rfl (Nat.le_of_ble_eq_true rfl) [1, 0] rfl ?_
  refine wp_goto 98 d_bk_init_120 (by decide) ?_
  refine wp_iload_n d_bk_init_98 rfl 1 rfl ?_
  refine wp_bipush d_bk_init_99 ⟨by decide, by decide⟩ (by decide) ?_
  refine wp_icmp_ge 123 d_bk_init_101 (by decide) (fun e => absurd e (by decide)) (fun _ => ?_)
  refine wp_aload_n d_bk_init_104 rfl 0 rfl ?_
  refine wp_getr d_bk_init_105 2 rfl rfl (Nat.le_of_ble_eq_true rfl) (Nat.le_of_ble_eq_true rfl) rfl (b30.ref (r := 4) (List.mem_of_getElem? (i := 4) rfl) (Nat.le_of_ble_eq_true rfl) rfl) lk_bk_25 ?_
  refine wp_iload_n d_bk_init_108 rfl 1 rfl ?_
  refine wp_new d_bk_init_109 rfl rfl (Nat.le_of_ble_eq_true rfl) lk_bk_23 wx_bo wi_bo ⟨Nat.le_of_ble_eq_true rfl, Nat.le_of_ble_eq_true rfl⟩ ?_
  refine wp_dup d_bk_init_112 rfl ?_
  refine wp_callIN [] 25 d_bk_init_113 jd_bo_init rfl lk_bk_39 rfl (Nat.le_of_ble_eq_true rfl) rfl ?_
  refine i_bo 25 rfl (MI_0 (by decide)) (rz_eq _ _) (mz_eq _ _) (fun R12 M12 o12 c12 => ?_)
  have b31 := b30.call o12 c12 (Nat.le_of_ble_eq_true rfl) (Nat.le_of_ble_eq_true rfl)
  refine wp_aast (t := 2) d_bk_init_116 rfl rfl rfl rfl (Nat.le_of_ble_eq_true rfl) (Nat.le_of_ble_eq_true rfl) (by decide) (by decide) ?_
  have b32 := b31.put 4 3 25 (List.mem_of_getElem? (i := 1) rfl) rfl rfl
  refine wp_iinc (L2 := [(0, pR 1), (1, pI 4)]) d_bk_init_117 1 rfl (Nat.le_of_ble_eq_true rfl) [1, 0] rfl ?_
  refine wp_goto 98 d_bk_init_120 (by decide) ?_
  refine wp_iload_n d_bk_init_98 rfl 1 rfl ?_
  refine wp_bipush d_bk_init_99 ⟨by decide, by decide⟩ (by decide) ?_
  refine wp_icmp_ge 123 d_bk_init_101 (by decide) (fun e => absurd e (by decide)) (fun _ => ?_)
  refine wp_aload_n d_bk_init_104 rfl 0 rfl ?_
  refine wp_getr d_bk_init_105 2 rfl rfl (Nat.le_of_ble_eq_true rfl) (Nat.le_of_ble_eq_true rfl) rfl (b32.ref (r := 4) (List.mem_of_getElem? (i := 4) rfl) (Nat.le_of_ble_eq_true rfl) rfl) lk_bk_25 ?_
  refine wp_iload_n d_bk_init_108 rfl 1 rfl ?_
  refine wp_new d_bk_init_109 rfl rfl (Nat.le_of_ble_eq_true rfl) lk_bk_23 wx_bo wi_bo ⟨Nat.le_of_ble_eq_true rfl, Nat.le_of_ble_eq_true rfl⟩ ?_
  refine wp_dup d_bk_init_112 rfl ?_
  refine wp_callIN [] 26 d_bk_init_113 jd_bo_init rfl lk_bk_39 rfl (Nat.le_of_ble_eq_true rfl) rfl ?_
  refine i_bo 26 rfl (MI_0 (by decide)) (rz_eq _ _) (mz_eq _ _) (fun R13 M13 o13 c13 => ?_)
  have b33 := b32.call o13 c13 (Nat.le_of_ble_eq_true rfl) (Nat.le_of_ble_eq_true rfl)
  refine wp_aast (t := 2) d_bk_init_116 rfl rfl rfl rfl (Nat.le_of_ble_eq_true rfl) (Nat.le_of_ble_eq_true rfl) (by decide) (by decide) ?_
  have b34 := b33.put 4 4 26 (List.mem_of_getElem? (i := 1) rfl) rfl rfl
  refine wp_iinc (L2 := [(0, pR 1), (1, pI 5)]) d_bk_init_117 1 rfl (Nat.le_of_ble_eq_true rfl) [1, 0] rfl ?_
  refine wp_goto 98 d_bk_init_120 (by decide) ?_
  refine wp_iload_n d_bk_init_98 rfl 1 rfl ?_
  refine wp_bipush d_bk_init_99 ⟨by decide, by decide⟩ (by decide) ?_
  refine wp_icmp_ge 123 d_bk_init_101 (by decide) (fun e => absurd e (by decide)) (fun _ => ?_)
  refine wp_aload_n d_bk_init_104 rfl 0 rfl ?_
  refine wp_getr d_bk_init_105 2 rfl rfl (Nat.le_of_ble_eq_true rfl) (Nat.le_of_ble_eq_true rfl) rfl (b34.ref (r := 4) (List.mem_of_getElem? (i := 4) rfl) (Nat.le_of_ble_eq_true rfl) rfl) lk_bk_25 ?_
  refine wp_iload_n d_bk_init_108 rfl 1 rfl ?_
  refine wp_new d_bk_init_109 rfl rfl (Nat.le_of_ble_eq_true rfl) lk_bk_23 wx_bo wi_bo ⟨Nat.le_of_ble_eq_true rfl, Nat.le_of_ble_eq_true rfl⟩ ?_
  refine wp_dup d_bk_init_112 rfl ?_
  refine wp_callIN [] 27 d_bk_init_113 jd_bo_init rfl lk_bk_39 rfl (Nat.le_of_ble_eq_true rfl) rfl ?_
  refine i_bo 27 rfl (MI_0 (by decide)) (rz_eq _ _) (mz_eq _ _) (fun R14 M14 o14 c14 => ?_)
  have b35 := b34.call o14 c14 (Nat.le_of_ble_eq_true rfl) (Nat.le_of_ble_eq_true rfl)
  refine wp_aast (t := 2) d_bk_init_116 rfl rfl rfl rfl (Nat.le_of_ble_eq_true rfl) (Nat.le_of_ble_eq_true rfl) (by decide) (by decide) ?_
  have b36 := b35.put 4 5 27 (List.mem_of_getElem? (i := 1) rfl) rfl rfl
  refine wp_iinc (L2 := [(0, pR 1), (1, pI 6)]) d_bk_init_117 1 rfl (Nat.le_of_ble_eq_true rfl) [1, 0] rfl ?_
  refine wp_goto 98 d_bk_init_120 (by decide) ?_
  refine wp_iload_n d_bk_init_98 rfl 1 rfl ?_
  refine wp_bipush d_bk_init_99 ⟨by decide, by decide⟩ (by decide) ?_
  refine wp_icmp_ge 123 d_bk_init_101 (by decide) (fun _ => ?_) (fun e => absurd e (by decide))
  refine wp_iconst d_bk_init_123 ⟨by decide, by decide⟩ ?_
  refine wp_istore_n (L2 := [(0, pR 1), (1, pI 0)]) d_bk_init_124 rfl (Nat.le_of_ble_eq_true rfl) [1, 0] rfl ?_
  refine wp_iload_n d_bk_init_125 rfl 1 rfl ?_
  refine wp_bipush d_bk_init_126 ⟨by decide, by decide⟩ (by decide) ?_
  refine wp_icmp_ge 150 d_bk_init_128 (by decide) (fun e => absurd e (by decide)) (fun _ => ?_)
  refine wp_aload_n d_bk_init_131 rfl 0 rfl ?_
  refine wp_getr d_bk_init_132 3 rfl rfl (Nat.le_of_ble_eq_true rfl) (Nat.le_of_ble_eq_true rfl) rfl (b36.ref (r := 5) (List.mem_of_getElem? (i := 4) rfl) (Nat.le_of_ble_eq_true rfl) rfl) lk_bk_31 ?_
  refine wp_iload_n d_bk_init_135 rfl 1 rfl ?_
  refine wp_new d_bk_init_136 rfl rfl (Nat.le_of_ble_eq_true rfl) lk_bk_29 wx_lo wi_lo ⟨Nat.le_of_ble_eq_true rfl, Nat.le_of_ble_eq_true rfl⟩ ?_
  refine wp_dup d_bk_init_139 rfl ?_
  refine wp_callIN [] 28 d_bk_init_140 jd_lo_init rfl lk_bk_40 rfl (Nat.le_of_ble_eq_true rfl) rfl ?_
  refine i_lo 28 rfl (MI_0 (by decide)) (rz_eq _ _) (mz_eq _ _) (fun R15 M15 o15 c15 => ?_)
  have b37 := b36.call o15 c15 (Nat.le_of_ble_eq_true rfl) (Nat.le_of_ble_eq_true rfl)
  refine wp_aast (t := 3) d_bk_init_143 rfl rfl rfl rfl (Nat.le_of_ble_eq_true rfl) (Nat.le_of_ble_eq_true rfl) (by decide) (by decide) ?_
  have b38 := b37.put 5 0 28 (List.mem_of_getElem? (i := 0) rfl) rfl rfl
  refine wp_iinc (L2 := [(0, pR 1), (1, pI 1)]) d_bk_init_144 1 rfl (Nat.le_of_ble_eq_true rfl) [1, 0] rfl ?_
  refine wp_goto 125 d_bk_init_147 (by decide) ?_
  refine wp_iload_n d_bk_init_125 rfl 1 rfl ?_
  refine wp_bipush d_bk_init_126 ⟨by decide, by decide⟩ (by decide) ?_
  refine wp_icmp_ge 150 d_bk_init_128 (by decide) (fun e => absurd e (by decide)) (fun _ => ?_)
  refine wp_aload_n d_bk_init_131 rfl 0 rfl ?_
  refine wp_getr d_bk_init_132 3 rfl rfl (Nat.le_of_ble_eq_true rfl) (Nat.le_of_ble_eq_true rfl) rfl (b38.ref (r := 5) (List.mem_of_getElem? (i := 4) rfl) (Nat.le_of_ble_eq_true rfl) rfl) lk_bk_31 ?_
  refine wp_iload_n d_bk_init_135 rfl 1 rfl ?_
  refine wp_new d_bk_init_136 rfl rfl (Nat.le_of_ble_eq_true rfl) lk_bk_29 wx_lo wi_lo ⟨Nat.le_of_ble_eq_true rfl, Nat.le_of_ble_eq_true rfl⟩ ?_
  refine wp_dup d_bk_init_139 rfl ?_
  refine wp_callIN [] 29 d_bk_init_140 jd_lo_init rfl lk_bk_40 rfl (Nat.le_of_ble_eq_true rfl) rfl ?_
  refine i_lo 29 rfl (MI_0 (by decide)) (rz_eq _ _) (mz_eq _ _) (fun R16 M16 o16 c16 => ?_)
  have b39 := b38.call o16 c16 (Nat.le_of_ble_eq_true rfl) (Nat.le_of_ble_eq_true rfl)
  refine wp_aast (t := 3) d_bk_init_143 rfl rfl rfl rfl (Nat.le_of_ble_eq_true rfl) (Nat.le_of_ble_eq_true rfl) (by decide) (by decide) ?_
  have b40 := b39.put 5 1 29 (List.mem_of_getElem? (i := 0) rfl) rfl rfl
  refine wp_iinc (L2 := [(0, pR 1), (1, pI 2)]) d_bk_init_144 1 rfl (Nat.le_of_ble_eq_true rfl) [1, 0] rfl ?_
  refine wp_goto 125 d_bk_init_147 (by decide) ?_
  refine wp_iload_n d_bk_init_125 rfl 1 rfl ?_
  refine wp_bipush d_bk_init_126 ⟨by decide, by decide⟩ (by decide) ?_
  refine wp_icmp_ge 150 d_bk_init_128 (by decide) (fun e => absurd e (by decide)) (fun _ => ?_)
  refine wp_aload_n d_bk_init_131 rfl 0 rfl ?_
  refine wp_getr d_bk_init_132 3 rfl rfl (Nat.le_of_ble_eq_true rfl) (Nat.le_of_ble_eq_true rfl) rfl (b40.ref (r := 5) (List.mem_of_getElem? (i := 4) rfl) (Nat.le_of_ble_eq_true rfl) rfl) lk_bk_31 ?_
  refine wp_iload_n d_bk_init_135 rfl 1 rfl ?_
  refine wp_new d_bk_init_136 rfl rfl (Nat.le_of_ble_eq_true rfl) lk_bk_29 wx_lo wi_lo ⟨Nat.le_of_ble_eq_true rfl, Nat.le_of_ble_eq_true rfl⟩ ?_
  refine wp_dup d_bk_init_139 rfl ?_
  refine wp_callIN [] 30 d_bk_init_140 jd_lo_init rfl lk_bk_40 rfl (Nat.le_of_ble_eq_true rfl) rfl ?_
  refine i_lo 30 rfl (MI_0 (by decide)) (rz_eq _ _) (mz_eq _ _) (fun R17 M17 o17 c17 => ?_)
  have b41 := b40.call o17 c17 (Nat.le_of_ble_eq_true rfl) (Nat.le_of_ble_eq_true rfl)
  refine wp_aast (t := 3) d_bk_init_143 rfl rfl rfl rfl (Nat.le_of_ble_eq_true rfl) (Nat.le_of_ble_eq_true rfl) (by decide) (by decide) ?_
  have b42 := b41.put 5 2 30 (List.mem_of_getElem? (i := 0) rfl) rfl rfl
  refine wp_iinc (L2 := [(0, pR 1), (1, pI 3)]) d_bk_init_144 1 rfl (Nat.le_of_ble_eq_true rfl) [1, 0] rfl ?_
  refine wp_goto 125 d_bk_init_147 (by decide) ?_
  refine wp_iload_n d_bk_init_125 rfl 1 rfl ?_
  refine wp_bipush d_bk_init_126 ⟨by decide, by decide⟩ (by decide) ?_
  refine wp_icmp_ge 150 d_bk_init_128 (by decide) (fun e => absurd e (by decide)) (fun _ => ?_)
  refine wp_aload_n d_bk_init_131 rfl 0 rfl ?_
  refine wp_getr d_bk_init_132 3 rfl rfl (Nat.le_of_ble_eq_true rfl) (Nat.le_of_ble_eq_true rfl) rfl (b42.ref (r := 5) (List.mem_of_getElem? (i := 4) rfl) (Nat.le_of_ble_eq_true rfl) rfl) lk_bk_31 ?_
  refine wp_iload_n d_bk_init_135 rfl 1 rfl ?_
  refine wp_new d_bk_init_136 rfl rfl (Nat.le_of_ble_eq_true rfl) lk_bk_29 wx_lo wi_lo ⟨Nat.le_of_ble_eq_true rfl, Nat.le_of_ble_eq_true rfl⟩ ?_
  refine wp_dup d_bk_init_139 rfl ?_
  refine wp_callIN [] 31 d_bk_init_140 jd_lo_init rfl lk_bk_40 rfl (Nat.le_of_ble_eq_true rfl) rfl ?_
  refine i_lo 31 rfl (MI_0 (by decide)) (rz_eq _ _) (mz_eq _ _) (fun R18 M18 o18 c18 => ?_)
  have b43 := b42.call o18 c18 (Nat.le_of_ble_eq_true rfl) (Nat.le_of_ble_eq_true rfl)
  refine wp_aast (t := 3) d_bk_init_143 rfl rfl rfl rfl (Nat.le_of_ble_eq_true rfl) (Nat.le_of_ble_eq_true rfl) (by decide) (by decide) ?_
  have b44 := b43.put 5 3 31 (List.mem_of_getElem? (i := 0) rfl) rfl rfl
  refine wp_iinc (L2 := [(0, pR 1), (1, pI 4)]) d_bk_init_144 1 rfl (Nat.le_of_ble_eq_true rfl) [1, 0] rfl ?_
  refine wp_goto 125 d_bk_init_147 (by decide) ?_
  refine wp_iload_n d_bk_init_125 rfl 1 rfl ?_
  refine wp_bipush d_bk_init_126 ⟨by decide, by decide⟩ (by decide) ?_
  refine wp_icmp_ge 150 d_bk_init_128 (by decide) (fun e => absurd e (by decide)) (fun _ => ?_)
  refine wp_aload_n d_bk_init_131 rfl 0 rfl ?_
  refine wp_getr d_bk_init_132 3 rfl rfl (Nat.le_of_ble_eq_true rfl) (Nat.le_of_ble_eq_true rfl) rfl (b44.ref (r := 5) (List.mem_of_getElem? (i := 4) rfl) (Nat.le_of_ble_eq_true rfl) rfl) lk_bk_31 ?_
  refine wp_iload_n d_bk_init_135 rfl 1 rfl ?_
  refine wp_new d_bk_init_136 rfl rfl (Nat.le_of_ble_eq_true rfl) lk_bk_29 wx_lo wi_lo ⟨Nat.le_of_ble_eq_true rfl, Nat.le_of_ble_eq_true rfl⟩ ?_
  refine wp_dup d_bk_init_139 rfl ?_
  refine wp_callIN [] 32 d_bk_init_140 jd_lo_init rfl lk_bk_40 rfl (Nat.le_of_ble_eq_true rfl) rfl ?_
  refine i_lo 32 rfl (MI_0 (by decide)) (rz_eq _ _) (mz_eq _ _) (fun R19 M19 o19 c19 => ?_)
  have b45 := b44.call o19 c19 (Nat.le_of_ble_eq_true rfl) (Nat.le_of_ble_eq_true rfl)
  refine wp_aast (t := 3) d_bk_init_143 rfl rfl rfl rfl (Nat.le_of_ble_eq_true rfl) (Nat.le_of_ble_eq_true rfl) (by decide) (by decide) ?_
  have b46 := b45.put 5 4 32 (List.mem_of_getElem? (i := 0) rfl) rfl rfl
  refine wp_iinc (L2 := [(0, pR 1), (1, pI 5)]) d_bk_init_144 1 rfl (Nat.le_of_ble_eq_true rfl) [1, 0] rfl ?_
  refine wp_goto 125 d_bk_init_147 (by decide) ?_
  refine wp_iload_n d_bk_init_125 rfl 1 rfl ?_
  refine wp_bipush d_bk_init_126 ⟨by decide, by decide⟩ (by decide) ?_
  refine wp_icmp_ge 150 d_bk_init_128 (by decide) (fun e => absurd e (by decide)) (fun _ => ?_)
  refine wp_aload_n d_bk_init_131 rfl 0 rfl ?_
  refine wp_getr d_bk_init_132 3 rfl rfl (Nat.le_of_ble_eq_true rfl) (Nat.le_of_ble_eq_true rfl) rfl (b46.ref (r := 5) (List.mem_of_getElem? (i := 4) rfl) (Nat.le_of_ble_eq_true rfl) rfl) lk_bk_31 ?_
  refine wp_iload_n d_bk_init_135 rfl 1 rfl ?_
  refine wp_new d_bk_init_136 rfl rfl (Nat.le_of_ble_eq_true rfl) lk_bk_29 wx_lo wi_lo ⟨Nat.le_of_ble_eq_true rfl, Nat.le_of_ble_eq_true rfl⟩ ?_
  refine wp_dup d_bk_init_139 rfl ?_
  refine wp_callIN [] 33 d_bk_init_140 jd_lo_init rfl lk_bk_40 rfl (Nat.le_of_ble_eq_true rfl) rfl ?_
  refine i_lo 33 rfl (MI_0 (by decide)) (rz_eq _ _) (mz_eq _ _) (fun R20 M20 o20 c20 => ?_)
  have b47 := b46.call o20 c20 (Nat.le_of_ble_eq_true rfl) (Nat.le_of_ble_eq_true rfl)
  refine wp_aast (t := 3) d_bk_init_143 rfl rfl rfl rfl (Nat.le_of_ble_eq_true rfl) (Nat.le_of_ble_eq_true rfl) (by decide) (by decide) ?_
  have b48 := b47.put 5 5 33 (List.mem_of_getElem? (i := 0) rfl) rfl rfl
  refine wp_iinc (L2 := [(0, pR 1), (1, pI 6)]) d_bk_init_144 1 rfl (Nat.le_of_ble_eq_true rfl) [1, 0] rfl ?_
  refine wp_goto 125 d_bk_init_147 (by decide) ?_
  refine wp_iload_n d_bk_init_125 rfl 1 rfl ?_
  refine wp_bipush d_bk_init_126 ⟨by decide, by decide⟩ (by decide) ?_
  refine wp_icmp_ge 150 d_bk_init_128 (by decide) (fun e => absurd e (by decide)) (fun _ => ?_)
  refine wp_aload_n d_bk_init_131 rfl 0 rfl ?_
  refine wp_getr d_bk_init_132 3 rfl rfl (Nat.le_of_ble_eq_true rfl) (Nat.le_of_ble_eq_true rfl) rfl (b48.ref (r := 5) (List.mem_of_getElem? (i := 4) rfl) (Nat.le_of_ble_eq_true rfl) rfl) lk_bk_31 ?_
  refine wp_iload_n d_bk_init_135 rfl 1 rfl ?_
  refine wp_new d_bk_init_136 rfl rfl (Nat.le_of_ble_eq_true rfl) lk_bk_29 wx_lo wi_lo ⟨Nat.le_of_ble_eq_true rfl, Nat.le_of_ble_eq_true rfl⟩ ?_
  refine wp_dup d_bk_init_139 rfl ?_
  refine wp_callIN [] 34 d_bk_init_140 jd_lo_init rfl lk_bk_40 rfl (Nat.le_of_ble_eq_true rfl) rfl ?_
  refine i_lo 34 rfl (MI_0 (by decide)) (rz_eq _ _) (mz_eq _ _) (fun R21 M21 o21 c21 => ?_)
  have b49 := b48.call o21 c21 (Nat.le_of_ble_eq_true rfl) (Nat.le_of_ble_eq_true rfl)
  refine wp_aast (t := 3) d_bk_init_143 rfl rfl rfl rfl (Nat.le_of_ble_eq_true rfl) (Nat.le_of_ble_eq_true rfl) (by decide) (by decide) ?_
  have b50 := b49.put 5 6 34 (List.mem_of_getElem? (i := 0) rfl) rfl rfl
  refine wp_iinc (L2 := [(0, pR 1), (1, pI 7)]) d_bk_init_144 1 rfl (Nat.le_of_ble_eq_true rfl) [1, 0] rfl ?_
  refine wp_goto 125 d_bk_init_147 (by decide) ?_
  refine wp_iload_n d_bk_init_125 rfl 1 rfl ?_
  refine wp_bipush d_bk_init_126 ⟨by decide, by decide⟩ (by decide) ?_
  refine wp_icmp_ge 150 d_bk_init_128 (by decide) (fun e => absurd e (by decide)) (fun _ => ?_)
  refine wp_aload_n d_bk_init_131 rfl 0 rfl ?_
  refine wp_getr d_bk_init_132 3 rfl rfl (Nat.le_of_ble_eq_true rfl) (Nat.le_of_ble_eq_true rfl) rfl (b50.ref (r := 5) (List.mem_of_getElem? (i := 4) rfl) (Nat.le_of_ble_eq_true rfl) rfl) lk_bk_31 ?_
  refine wp_iload_n d_bk_init_135 rfl 1 rfl ?_
  refine wp_new d_bk_init_136 rfl rfl (Nat.le_of_ble_eq_true rfl) lk_bk_29 wx_lo wi_lo ⟨Nat.le_of_ble_eq_true rfl, Nat.le_of_ble_eq_true rfl⟩ ?_
  refine wp_dup d_bk_init_139 rfl ?_
  refine wp_callIN [] 35 d_bk_init_140 jd_lo_init rfl lk_bk_40 rfl (Nat.le_of_ble_eq_true rfl) rfl ?_
  refine i_lo 35 rfl (MI_0 (by decide)) (rz_eq _ _) (mz_eq _ _) (fun R22 M22 o22 c22 => ?_)
  have b51 := b50.call o22 c22 (Nat.le_of_ble_eq_true rfl) (Nat.le_of_ble_eq_true rfl)
  refine wp_aast (t := 3) d_bk_init_143 rfl rfl rfl rfl (Nat.le_of_ble_eq_true rfl) (Nat.le_of_ble_eq_true rfl) (by decide) (by decide) ?_
  have b52 := b51.put 5 7 35 (List.mem_of_getElem? (i := 0) rfl) rfl rfl
  refine wp_iinc (L2 := [(0, pR 1), (1, pI 8)]) d_bk_init_144 1 rfl (Nat.le_of_ble_eq_true rfl) [1, 0] rfl ?_
  refine wp_goto 125 d_bk_init_147 (by decide) ?_
  refine wp_iload_n d_bk_init_125 rfl 1 rfl ?_
  refine wp_bipush d_bk_init_126 ⟨by decide, by decide⟩ (by decide) ?_
  refine wp_icmp_ge 150 d_bk_init_128 (by decide) (fun e => absurd e (by decide)) (fun _ => ?_)
  refine wp_aload_n d_bk_init_131 rfl 0 rfl ?_
  refine wp_getr d_bk_init_132 3 rfl rfl (Nat.le_of_ble_eq_true rfl) (Nat.le_of_ble_eq_true rfl) rfl (b52.ref (r := 5) (List.mem_of_getElem? (i := 4) rfl) (Nat.le_of_ble_eq_true rfl) rfl) lk_bk_31 ?_
  refine wp_iload_n d_bk_init_135 rfl 1 rfl ?_
  refine wp_new d_bk_init_136 rfl rfl (Nat.le_of_ble_eq_true rfl) lk_bk_29 wx_lo wi_lo ⟨Nat.le_of_ble_eq_true rfl, Nat.le_of_ble_eq_true rfl⟩ ?_
  refine wp_dup d_bk_init_139 rfl ?_
  refine wp_callIN [] 36 d_bk_init_140 jd_lo_init rfl lk_bk_40 rfl (Nat.le_of_ble_eq_true rfl) rfl ?_
  refine i_lo 36 rfl (MI_0 (by decide)) (rz_eq _ _) (mz_eq _ _) (fun R23 M23 o23 c23 => ?_)
  have b53 := b52.call o23 c23 (Nat.le_of_ble_eq_true rfl) (Nat.le_of_ble_eq_true rfl)
  refine wp_aast (t := 3) d_bk_init_143 rfl rfl rfl rfl (Nat.le_of_ble_eq_true rfl) (Nat.le_of_ble_eq_true rfl) (by decide) (by decide) ?_
  have b54 := b53.put 5 8 36 (List.mem_of_getElem? (i := 0) rfl) rfl rfl
  refine wp_iinc (L2 := [(0, pR 1), (1, pI 9)]) d_bk_init_144 1 rfl (Nat.le_of_ble_eq_true rfl) [1, 0] rfl ?_
  refine wp_goto 125 d_bk_init_147 (by decide) ?_
  refine wp_iload_n d_bk_init_125 rfl 1 rfl ?_
  refine wp_bipush d_bk_init_126 ⟨by decide, by decide⟩ (by decide) ?_
  refine wp_icmp_ge 150 d_bk_init_128 (by decide) (fun e => absurd e (by decide)) (fun _ => ?_)
  refine wp_aload_n d_bk_init_131 rfl 0 rfl ?_
  refine wp_getr d_bk_init_132 3 rfl rfl (Nat.le_of_ble_eq_true rfl) (Nat.le_of_ble_eq_true rfl) rfl (b54.ref (r := 5) (List.mem_of_getElem? (i := 4) rfl) (Nat.le_of_ble_eq_true rfl) rfl) lk_bk_31 ?_
  refine wp_iload_n d_bk_init_135 rfl 1 rfl ?_
  refine wp_new d_bk_init_136 rfl rfl (Nat.le_of_ble_eq_true rfl) lk_bk_29 wx_lo wi_lo ⟨Nat.le_of_ble_eq_true rfl, Nat.le_of_ble_eq_true rfl⟩ ?_
  refine wp_dup d_bk_init_139 rfl ?_
  refine wp_callIN [] 37 d_bk_init_140 jd_lo_init rfl lk_bk_40 rfl (Nat.le_of_ble_eq_true rfl) rfl ?_
  refine i_lo 37 rfl (MI_0 (by decide)) (rz_eq _ _) (mz_eq _ _) (fun R24 M24 o24 c24 => ?_)
  have b55 := b54.call o24 c24 (Nat.le_of_ble_eq_true rfl) (Nat.le_of_ble_eq_true rfl)
  refine wp_aast (t := 3) d_bk_init_143 rfl rfl rfl rfl (Nat.le_of_ble_eq_true rfl) (Nat.le_of_ble_eq_true rfl) (by decide) (by decide) ?_
  have b56 := b55.put 5 9 37 (List.mem_of_getElem? (i := 0) rfl) rfl rfl
  refine wp_iinc (L2 := [(0, pR 1), (1, pI 10)]) d_bk_init_144 1 rfl (Nat.le_of_ble_eq_true rfl) [1, 0] rfl ?_
  refine wp_goto 125 d_bk_init_147 (by decide) ?_
  refine wp_iload_n d_bk_init_125 rfl 1 rfl ?_
  refine wp_bipush d_bk_init_126 ⟨by decide, by decide⟩ (by decide) ?_
  refine wp_icmp_ge 150 d_bk_init_128 (by decide) (fun e => absurd e (by decide)) (fun _ => ?_)
  refine wp_aload_n d_bk_init_131 rfl 0 rfl ?_
  refine wp_getr d_bk_init_132 3 rfl rfl (Nat.le_of_ble_eq_true rfl) (Nat.le_of_ble_eq_true rfl) rfl (b56.ref (r := 5) (List.mem_of_getElem? (i := 4) rfl) (Nat.le_of_ble_eq_true rfl) rfl) lk_bk_31 ?_
  refine wp_iload_n d_bk_init_135 rfl 1 rfl ?_
  refine wp_new d_bk_init_136 rfl rfl (Nat.le_of_ble_eq_true rfl) lk_bk_29 wx_lo wi_lo ⟨Nat.le_of_ble_eq_true rfl, Nat.le_of_ble_eq_true rfl⟩ ?_
  refine wp_dup d_bk_init_139 rfl ?_
  refine wp_callIN [] 38 d_bk_init_140 jd_lo_init rfl lk_bk_40 rfl (Nat.le_of_ble_eq_true rfl) rfl ?_
  refine i_lo 38 rfl (MI_0 (by decide)) (rz_eq _ _) (mz_eq _ _) (fun R25 M25 o25 c25 => ?_)
  have b57 := b56.call o25 c25 (Nat.le_of_ble_eq_true rfl) (Nat.le_of_ble_eq_true rfl)
  refine wp_aast (t := 3) d_bk_init_143 rfl rfl rfl rfl (Nat.le_of_ble_eq_true rfl) (Nat.le_of_ble_eq_true rfl) (by decide) (by decide) ?_
  have b58 := b57.put 5 10 38 (List.mem_of_getElem? (i := 0) rfl) rfl rfl
  refine wp_iinc (L2 := [(0, pR 1), (1, pI 11)]) d_bk_init_144 1 rfl (Nat.le_of_ble_eq_true rfl) [1, 0] rfl ?_
  refine wp_goto 125 d_bk_init_147 (by decide) ?_
  refine wp_iload_n d_bk_init_125 rfl 1 rfl ?_
  refine wp_bipush d_bk_init_126 ⟨by decide, by decide⟩ (by decide) ?_
  refine wp_icmp_ge 150 d_bk_init_128 (by decide) (fun e => absurd e (by decide)) (fun _ => ?_)
  refine wp_aload_n d_bk_init_131 rfl 0 rfl ?_
  refine wp_getr d_bk_init_132 3 rfl rfl (Nat.le_of_ble_eq_true rfl) (Nat.le_of_ble_eq_true rfl) rfl (b58.ref (r := 5) (List.mem_of_getElem? (i := 4) rfl) (Nat.le_of_ble_eq_true rfl) rfl) lk_bk_31 ?_
  refine wp_iload_n d_bk_init_135 rfl 1 rfl ?_
  refine wp_new d_bk_init_136 rfl rfl (Nat.le_of_ble_eq_true rfl) lk_bk_29 wx_lo wi_lo ⟨Nat.le_of_ble_eq_true rfl, Nat.le_of_ble_eq_true rfl⟩ ?_
  refine wp_dup d_bk_init_139 rfl ?_
  refine wp_callIN [] 39 d_bk_init_140 jd_lo_init rfl lk_bk_40 rfl (Nat.le_of_ble_eq_true rfl) rfl ?_
  refine i_lo 39 rfl (MI_0 (by decide)) (rz_eq _ _) (mz_eq _ _) (fun R26 M26 o26 c26 => ?_)
  have b59 := b58.call o26 c26 (Nat.le_of_ble_eq_true rfl) (Nat.le_of_ble_eq_true rfl)
  refine wp_aast (t := 3) d_bk_init_143 rfl rfl rfl rfl (Nat.le_of_ble_eq_true rfl) (Nat.le_of_ble_eq_true rfl) (by decide) (by decide) ?_
  have b60 := b59.put 5 11 39 (List.mem_of_getElem? (i := 0) rfl) rfl rfl
  refine wp_iinc (L2 := [(0, pR 1), (1, pI 12)]) d_bk_init_144 1 rfl (Nat.le_of_ble_eq_true rfl) [1, 0] rfl ?_
  refine wp_goto 125 d_bk_init_147 (by decide) ?_
  refine wp_iload_n d_bk_init_125 rfl 1 rfl ?_
  refine wp_bipush d_bk_init_126 ⟨by decide, by decide⟩ (by decide) ?_
  refine wp_icmp_ge 150 d_bk_init_128 (by decide) (fun _ => ?_) (fun e => absurd e (by decide))
  refine wp_vret d_bk_init_150 rfl ⟨Nat.le_of_ble_eq_true rfl, Nat.le_of_ble_eq_true rfl⟩ ?_
  have f := b60.fin ?_
  · exact hq _ _ f.1 f.2
  intro q hq2 k
  simp only [List.mem_cons, List.not_mem_nil, or_false] at hq2
  rcases hq2 with rfl | rfl | rfl | rfl | rfl
  · refine ⟨fun hk => ?_, ?_⟩
    · have hk2 : 12 ≤ k := hk
      exact rf_hi5 k hk2
    · exact ((MI_0 (by decide) k).symm)
  · refine ⟨fun hk => ?_, ?_⟩
    · have hk2 : 6 ≤ k := hk
      exact rf_hi4 k hk2
    · exact ((MI_0 (by decide) k).symm)
  · refine ⟨fun hk => ?_, ?_⟩
    · have hk2 : 6 ≤ k := hk
      exact rf_hi3 k hk2
    · exact ((MI_0 (by decide) k).symm)
  · refine ⟨fun hk => ?_, ?_⟩
    · have hk2 : 2 ≤ k := hk
      exact rf_hi2 k hk2
    · exact ((MI_0 (by decide) k).symm)
  · refine ⟨fun hk => ?_, ?_⟩
    · have hk2 : 4 ≤ k := hk
      exact rf_hi1 k hk2
    · exact ((MI_0 (by decide) k).symm)
set_option maxHeartbeats 8000000 in
set_option maxRecDepth 4000 in
theorem i_tl {G : GT} {R : RT} {M : MT} {Q : QT} (hR : ∀ k, R 0 k = none) (hM : ∀ k, M 0 k = 0) (hq : ∀ R' M', OL 0 R M R' M' → CK 0 101 R' M' → Q none 101 R' M') : Cl G J_tl_init [pR 0] (0 + 1) R M Q := by
  have b0 := BU.start (a := 0) hR hM
  show Wp G J_tl_init 0 0 0 [(0, pR 0)] [] (0 + 1) R M Q
  refine wp_aload_n d_tl_init_0 rfl 0 rfl ?_
  refine wp_objInit d_tl_init_1 lk_tl_1 (Nat.le_of_ble_eq_true rfl) (Nat.le_of_ble_eq_true rfl) w_oin w_oco ?_
  refine wp_aload_n d_tl_init_4 rfl 0 rfl ?_
  refine wp_new d_tl_init_5 rfl rfl (Nat.le_of_ble_eq_true rfl) lk_tl_7 wx_bk wi_bk ⟨Nat.le_of_ble_eq_true rfl, Nat.le_of_ble_eq_true rfl⟩ ?_
  refine wp_dup d_tl_init_8 rfl ?_
  refine wp_callI [] 1 d_tl_init_9 jd_bk_init rfl lk_tl_9 rfl (Nat.le_of_ble_eq_true rfl) rfl ?_
  refine i_bk (rz_eq _ _) (mz_eq _ _) (fun R1 M1 o1 c1 => ?_)
  have b1 := b0.call o1 c1 (Nat.le_of_ble_eq_true rfl) (Nat.le_of_ble_eq_true rfl)
  refine wp_putr d_tl_init_12 0 rfl rfl (Nat.le_of_ble_eq_true rfl) (Nat.le_of_ble_eq_true rfl) (Nat.le_of_ble_eq_true rfl) rfl (fun _ => ⟨rfl, rfl⟩) rfl rfl rfl lk_tl_10 ?_
  have b2 := b1.put 0 0 1 (List.mem_of_getElem? (i := 0) rfl) rfl rfl
  refine wp_aload_n d_tl_init_15 rfl 0 rfl ?_
  refine wp_new d_tl_init_16 rfl rfl (Nat.le_of_ble_eq_true rfl) lk_tl_16 wx_ye wi_ye ⟨Nat.le_of_ble_eq_true rfl, Nat.le_of_ble_eq_true rfl⟩ ?_
  refine wp_dup d_tl_init_19 rfl ?_
  refine wp_callI [] 40 d_tl_init_20 jd_ye_init rfl lk_tl_18 rfl (Nat.le_of_ble_eq_true rfl) rfl ?_
  refine i_ye (rz_eq _ _) (mz_eq _ _) (fun R2 M2 o2 c2 => ?_)
  have b3 := b2.call o2 c2 (Nat.le_of_ble_eq_true rfl) (Nat.le_of_ble_eq_true rfl)
  refine wp_putr d_tl_init_23 1 rfl rfl (Nat.le_of_ble_eq_true rfl) (Nat.le_of_ble_eq_true rfl) (Nat.le_of_ble_eq_true rfl) rfl (fun _ => ⟨rfl, rfl⟩) rfl rfl rfl lk_tl_19 ?_
  have b4 := b3.put 0 1 40 (List.mem_of_getElem? (i := 0) rfl) rfl rfl
  refine wp_aload_n d_tl_init_26 rfl 0 rfl ?_
  refine wp_new d_tl_init_27 rfl rfl (Nat.le_of_ble_eq_true rfl) lk_tl_23 wx_tr wi_tr ⟨Nat.le_of_ble_eq_true rfl, Nat.le_of_ble_eq_true rfl⟩ ?_
  refine wp_dup d_tl_init_30 rfl ?_
  refine wp_callI [] 73 d_tl_init_31 jd_tr_init rfl lk_tl_25 rfl (Nat.le_of_ble_eq_true rfl) rfl ?_
  refine i_tr (rz_eq _ _) (mz_eq _ _) (fun R3 M3 o3 c3 => ?_)
  have b5 := b4.call o3 c3 (Nat.le_of_ble_eq_true rfl) (Nat.le_of_ble_eq_true rfl)
  refine wp_putr d_tl_init_34 2 rfl rfl (Nat.le_of_ble_eq_true rfl) (Nat.le_of_ble_eq_true rfl) (Nat.le_of_ble_eq_true rfl) rfl (fun _ => ⟨rfl, rfl⟩) rfl rfl rfl lk_tl_26 ?_
  have b6 := b5.put 0 2 73 (List.mem_of_getElem? (i := 0) rfl) rfl rfl
  refine wp_aload_n d_tl_init_37 rfl 0 rfl ?_
  refine wp_new d_tl_init_38 rfl rfl (Nat.le_of_ble_eq_true rfl) lk_tl_30 wx_li wi_li ⟨Nat.le_of_ble_eq_true rfl, Nat.le_of_ble_eq_true rfl⟩ ?_
  refine wp_dup d_tl_init_41 rfl ?_
  refine wp_callIN [] 84 d_tl_init_42 jd_li_init rfl lk_tl_32 rfl (Nat.le_of_ble_eq_true rfl) rfl ?_
  refine i_li (rz_eq _ _) (mz_eq _ _) (fun R4 M4 o4 c4 => ?_)
  have b7 := b6.call o4 c4 (Nat.le_of_ble_eq_true rfl) (Nat.le_of_ble_eq_true rfl)
  refine wp_putr d_tl_init_45 3 rfl rfl (Nat.le_of_ble_eq_true rfl) (Nat.le_of_ble_eq_true rfl) (Nat.le_of_ble_eq_true rfl) rfl (fun _ => ⟨rfl, rfl⟩) rfl rfl rfl lk_tl_33 ?_
  have b8 := b7.put 0 3 84 (List.mem_of_getElem? (i := 0) rfl) rfl rfl
  refine wp_aload_n d_tl_init_48 rfl 0 rfl ?_
  refine wp_new d_tl_init_49 rfl rfl (Nat.le_of_ble_eq_true rfl) lk_tl_37 wx_ch wi_ch ⟨Nat.le_of_ble_eq_true rfl, Nat.le_of_ble_eq_true rfl⟩ ?_
  refine wp_dup d_tl_init_52 rfl ?_
  refine wp_callIN [] 86 d_tl_init_53 jd_ch_init rfl lk_tl_39 rfl (Nat.le_of_ble_eq_true rfl) rfl ?_
  refine i_ch (rz_eq _ _) (mz_eq _ _) (fun R5 M5 o5 c5 => ?_)
  have b9 := b8.call o5 c5 (Nat.le_of_ble_eq_true rfl) (Nat.le_of_ble_eq_true rfl)
  refine wp_putr d_tl_init_56 4 rfl rfl (Nat.le_of_ble_eq_true rfl) (Nat.le_of_ble_eq_true rfl) (Nat.le_of_ble_eq_true rfl) rfl (fun _ => ⟨rfl, rfl⟩) rfl rfl rfl lk_tl_40 ?_
  have b10 := b9.put 0 4 86 (List.mem_of_getElem? (i := 0) rfl) rfl rfl
  refine wp_aload_n d_tl_init_59 rfl 0 rfl ?_
  refine wp_iconst d_tl_init_60 ⟨by decide, by decide⟩ ?_
  refine wp_newq (t := 4) (N := 4) d_tl_init_61 rfl rfl rfl (Nat.le_of_ble_eq_true rfl) (Nat.le_of_ble_eq_true rfl) lk_tl_44 (fun U h => h.2.1.2.2.2.2) ⟨Nat.le_of_ble_eq_true rfl, Nat.le_of_ble_eq_true rfl⟩ ?_
  have b11 := b10.arrP (Nat.le_of_ble_eq_true rfl) rfl (fun _ => rfl)
  refine wp_putr d_tl_init_64 5 rfl rfl (Nat.le_of_ble_eq_true rfl) (Nat.le_of_ble_eq_true rfl) (Nat.le_of_ble_eq_true rfl) rfl (fun _ => ⟨rfl, rfl⟩) rfl rfl rfl lk_tl_46 ?_
  have b12 := b11.put 0 5 92 (List.mem_of_getElem? (i := 1) rfl) rfl rfl
  refine wp_iconst d_tl_init_67 ⟨by decide, by decide⟩ ?_
  refine wp_istore_n (L2 := [(0, pR 0), (1, pI 0)]) d_tl_init_68 rfl (Nat.le_of_ble_eq_true rfl) [1, 0] rfl ?_
  refine wp_iload_n d_tl_init_69 rfl 1 rfl ?_
  refine wp_iconst d_tl_init_70 ⟨by decide, by decide⟩ ?_
  refine wp_icmp_ge 93 d_tl_init_71 (by decide) (fun e => absurd e (by decide)) (fun _ => ?_)
  refine wp_aload_n d_tl_init_74 rfl 0 rfl ?_
  refine wp_getr d_tl_init_75 5 rfl rfl (Nat.le_of_ble_eq_true rfl) (Nat.le_of_ble_eq_true rfl) rfl (b12.ref (r := 92) (List.mem_of_getElem? (i := 1) rfl) (Nat.le_of_ble_eq_true rfl) rfl) lk_tl_46 ?_
  refine wp_iload_n d_tl_init_78 rfl 1 rfl ?_
  refine wp_new d_tl_init_79 rfl rfl (Nat.le_of_ble_eq_true rfl) lk_tl_44 wx_sh wi_sh ⟨Nat.le_of_ble_eq_true rfl, Nat.le_of_ble_eq_true rfl⟩ ?_
  refine wp_dup d_tl_init_82 rfl ?_
  refine wp_callIN [] 93 d_tl_init_83 jd_sh_init rfl lk_tl_50 rfl (Nat.le_of_ble_eq_true rfl) rfl ?_
  refine i_sh 93 rfl rfl (Nat.le_of_ble_eq_true rfl) mi_sh93 (MI_0 (by decide)) (rz_eq _ _) (mz_eq _ _) (fun R6 M6 o6 c6 => ?_)
  have b13 := b12.call o6 c6 (Nat.le_of_ble_eq_true rfl) (Nat.le_of_ble_eq_true rfl)
  refine wp_aast (t := 4) d_tl_init_86 rfl rfl rfl rfl (Nat.le_of_ble_eq_true rfl) (Nat.le_of_ble_eq_true rfl) (by decide) (by decide) ?_
  have b14 := b13.put 92 0 93 (List.mem_of_getElem? (i := 0) rfl) rfl rfl
  refine wp_iinc (L2 := [(0, pR 0), (1, pI 1)]) d_tl_init_87 1 rfl (Nat.le_of_ble_eq_true rfl) [1, 0] rfl ?_
  refine wp_goto 69 d_tl_init_90 (by decide) ?_
  refine wp_iload_n d_tl_init_69 rfl 1 rfl ?_
  refine wp_iconst d_tl_init_70 ⟨by decide, by decide⟩ ?_
  refine wp_icmp_ge 93 d_tl_init_71 (by decide) (fun e => absurd e (by decide)) (fun _ => ?_)
  refine wp_aload_n d_tl_init_74 rfl 0 rfl ?_
  refine wp_getr d_tl_init_75 5 rfl rfl (Nat.le_of_ble_eq_true rfl) (Nat.le_of_ble_eq_true rfl) rfl (b14.ref (r := 92) (List.mem_of_getElem? (i := 1) rfl) (Nat.le_of_ble_eq_true rfl) rfl) lk_tl_46 ?_
  refine wp_iload_n d_tl_init_78 rfl 1 rfl ?_
  refine wp_new d_tl_init_79 rfl rfl (Nat.le_of_ble_eq_true rfl) lk_tl_44 wx_sh wi_sh ⟨Nat.le_of_ble_eq_true rfl, Nat.le_of_ble_eq_true rfl⟩ ?_
  refine wp_dup d_tl_init_82 rfl ?_
  refine wp_callIN [] 95 d_tl_init_83 jd_sh_init rfl lk_tl_50 rfl (Nat.le_of_ble_eq_true rfl) rfl ?_
  refine i_sh 95 rfl rfl (Nat.le_of_ble_eq_true rfl) mi_sh95 (MI_0 (by decide)) (rz_eq _ _) (mz_eq _ _) (fun R7 M7 o7 c7 => ?_)
  have b15 := b14.call o7 c7 (Nat.le_of_ble_eq_true rfl) (Nat.le_of_ble_eq_true rfl)
  refine wp_aast (t := 4) d_tl_init_86 rfl rfl rfl rfl (Nat.le_of_ble_eq_true rfl) (Nat.le_of_ble_eq_true rfl) (by decide) (by decide) ?_
  have b16 := b15.put 92 1 95 (List.mem_of_getElem? (i := 0) rfl) rfl rfl
  refine wp_iinc (L2 := [(0, pR 0), (1, pI 2)]) d_tl_init_87 1 rfl (Nat.le_of_ble_eq_true rfl) [1, 0] rfl ?_
  refine wp_goto 69 d_tl_init_90 (by decide) ?_
  refine wp_iload_n d_tl_init_69 rfl 1 rfl ?_
  refine wp_iconst d_tl_init_70 ⟨by decide, by decide⟩ ?_
  refine wp_icmp_ge 93 d_tl_init_71 (by decide) (fun e => absurd e (by decide)) (fun _ => ?_)
  refine wp_aload_n d_tl_init_74 rfl 0 rfl ?_
  refine wp_getr d_tl_init_75 5 rfl rfl (Nat.le_of_ble_eq_true rfl) (Nat.le_of_ble_eq_true rfl) rfl (b16.ref (r := 92) (List.mem_of_getElem? (i := 1) rfl) (Nat.le_of_ble_eq_true rfl) rfl) lk_tl_46 ?_
  refine wp_iload_n d_tl_init_78 rfl 1 rfl ?_
  refine wp_new d_tl_init_79 rfl rfl (Nat.le_of_ble_eq_true rfl) lk_tl_44 wx_sh wi_sh ⟨Nat.le_of_ble_eq_true rfl, Nat.le_of_ble_eq_true rfl⟩ ?_
  refine wp_dup d_tl_init_82 rfl ?_
  refine wp_callIN [] 97 d_tl_init_83 jd_sh_init rfl lk_tl_50 rfl (Nat.le_of_ble_eq_true rfl) rfl ?_
  refine i_sh 97 rfl rfl (Nat.le_of_ble_eq_true rfl) mi_sh97 (MI_0 (by decide)) (rz_eq _ _) (mz_eq _ _) (fun R8 M8 o8 c8 => ?_)
  have b17 := b16.call o8 c8 (Nat.le_of_ble_eq_true rfl) (Nat.le_of_ble_eq_true rfl)
  refine wp_aast (t := 4) d_tl_init_86 rfl rfl rfl rfl (Nat.le_of_ble_eq_true rfl) (Nat.le_of_ble_eq_true rfl) (by decide) (by decide) ?_
  have b18 := b17.put 92 2 97 (List.mem_of_getElem? (i := 0) rfl) rfl rfl
  refine wp_iinc (L2 := [(0, pR 0), (1, pI 3)]) d_tl_init_87 1 rfl (Nat.le_of_ble_eq_true rfl) [1, 0] rfl ?_
  refine wp_goto 69 d_tl_init_90 (by decide) ?_
  refine wp_iload_n d_tl_init_69 rfl 1 rfl ?_
  refine wp_iconst d_tl_init_70 ⟨by decide, by decide⟩ ?_
  refine wp_icmp_ge 93 d_tl_init_71 (by decide) (fun e => absurd e (by decide)) (fun _ => ?_)
  refine wp_aload_n d_tl_init_74 rfl 0 rfl ?_
  refine wp_getr d_tl_init_75 5 rfl rfl (Nat.le_of_ble_eq_true rfl) (Nat.le_of_ble_eq_true rfl) rfl (b18.ref (r := 92) (List.mem_of_getElem? (i := 1) rfl) (Nat.le_of_ble_eq_true rfl) rfl) lk_tl_46 ?_
  refine wp_iload_n d_tl_init_78 rfl 1 rfl ?_
  refine wp_new d_tl_init_79 rfl rfl (Nat.le_of_ble_eq_true rfl) lk_tl_44 wx_sh wi_sh ⟨Nat.le_of_ble_eq_true rfl, Nat.le_of_ble_eq_true rfl⟩ ?_
  refine wp_dup d_tl_init_82 rfl ?_
  refine wp_callIN [] 99 d_tl_init_83 jd_sh_init rfl lk_tl_50 rfl (Nat.le_of_ble_eq_true rfl) rfl ?_
  refine i_sh 99 rfl rfl (Nat.le_of_ble_eq_true rfl) mi_sh99 (MI_0 (by decide)) (rz_eq _ _) (mz_eq _ _) (fun R9 M9 o9 c9 => ?_)
  have b19 := b18.call o9 c9 (Nat.le_of_ble_eq_true rfl) (Nat.le_of_ble_eq_true rfl)
  refine wp_aast (t := 4) d_tl_init_86 rfl rfl rfl rfl (Nat.le_of_ble_eq_true rfl) (Nat.le_of_ble_eq_true rfl) (by decide) (by decide) ?_
  have b20 := b19.put 92 3 99 (List.mem_of_getElem? (i := 0) rfl) rfl rfl
  refine wp_iinc (L2 := [(0, pR 0), (1, pI 4)]) d_tl_init_87 1 rfl (Nat.le_of_ble_eq_true rfl) [1, 0] rfl ?_
  refine wp_goto 69 d_tl_init_90 (by decide) ?_
  refine wp_iload_n d_tl_init_69 rfl 1 rfl ?_
  refine wp_iconst d_tl_init_70 ⟨by decide, by decide⟩ ?_
  refine wp_icmp_ge 93 d_tl_init_71 (by decide) (fun _ => ?_) (fun e => absurd e (by decide))
  refine wp_aload_n d_tl_init_93 rfl 0 rfl ?_
  refine wp_iconst d_tl_init_94 ⟨by decide, by decide⟩ ?_
  refine wp_puti d_tl_init_95 6 rfl rfl (Nat.le_of_ble_eq_true rfl) (Nat.le_of_ble_eq_true rfl) (Or.inl rfl) rfl lk_tl_51 ?_
  have b21 := b20.num 0 6 2 (List.mem_of_getElem? (i := 1) rfl)
  refine wp_vret d_tl_init_98 rfl ⟨Nat.le_of_ble_eq_true rfl, Nat.le_of_ble_eq_true rfl⟩ ?_
  have f := b21.fin ?_
  · exact hq _ _ f.1 f.2
  intro q hq2 k
  simp only [List.mem_cons, List.not_mem_nil, or_false] at hq2
  rcases hq2 with rfl | rfl
  · refine ⟨fun hk => ?_, ?_⟩
    · have hk2 : 4 ≤ k := hk
      exact rf_hi92 k hk2
    · exact ((MI_0 (by decide) k).symm)
  · refine ⟨fun hk => ?_, ?_⟩
    · have hk2 : 6 ≤ k := hk
      exact rf_hi0 k hk2
    · unfold MI
      by_cases e6 : k = 6
      · subst e6; rfl
      · simp [mu, E0, e6] <;> omega
set_option maxHeartbeats 8000000 in
set_option maxRecDepth 4000 in
theorem i_mo {G : GT} {R : RT} {M : MT} {Q : QT} (hR : ∀ k, R 101 k = none) (hM : ∀ k, M 101 k = 0) (hq : ∀ R' M', OL 101 R M R' M' → CK 101 123 R' M' → Q none 123 R' M') : Cl G J_mo_init [pR 101] (101 + 1) R M Q := by
  have b0 := BU.start (a := 101) hR hM
  show Wp G J_mo_init 0 0 0 [(0, pR 101)] [] (101 + 1) R M Q
  refine wp_aload_n d_mo_init_0 rfl 0 rfl ?_
  refine wp_objInit d_mo_init_1 lk_mo_1 (Nat.le_of_ble_eq_true rfl) (Nat.le_of_ble_eq_true rfl) w_oin w_oco ?_
  refine wp_aload_n d_mo_init_4 rfl 0 rfl ?_
  refine wp_iconst d_mo_init_5 ⟨by decide, by decide⟩ ?_
  refine wp_newai (N := 4) d_mo_init_6 rfl rfl (Nat.le_of_ble_eq_true rfl) (Nat.le_of_ble_eq_true rfl) w_arr_int ⟨Nat.le_of_ble_eq_true rfl, Nat.le_of_ble_eq_true rfl⟩ ?_
  have b1 := b0.arrP (Nat.le_of_ble_eq_true rfl) rfl (fun _ => rfl)
  refine wp_putr d_mo_init_8 0 rfl rfl (Nat.le_of_ble_eq_true rfl) (Nat.le_of_ble_eq_true rfl) (Nat.le_of_ble_eq_true rfl) rfl (fun _ => ⟨rfl, rfl⟩) rfl rfl rfl lk_mo_7 ?_
  have b2 := b1.put 101 0 102 (List.mem_of_getElem? (i := 1) rfl) rfl rfl
  refine wp_aload_n d_mo_init_11 rfl 0 rfl ?_
  refine wp_iconst d_mo_init_12 ⟨by decide, by decide⟩ ?_
  refine wp_newai (N := 4) d_mo_init_13 rfl rfl (Nat.le_of_ble_eq_true rfl) (Nat.le_of_ble_eq_true rfl) w_arr_int ⟨Nat.le_of_ble_eq_true rfl, Nat.le_of_ble_eq_true rfl⟩ ?_
  have b3 := b2.arr (Nat.le_of_ble_eq_true rfl) (rf_no (by decide)) (MI_0 (by decide))
  refine wp_putr d_mo_init_15 1 rfl rfl (Nat.le_of_ble_eq_true rfl) (Nat.le_of_ble_eq_true rfl) (Nat.le_of_ble_eq_true rfl) rfl (fun _ => ⟨rfl, rfl⟩) rfl rfl rfl lk_mo_13 ?_
  have b4 := b3.put 101 1 103 (List.mem_of_getElem? (i := 1) rfl) rfl rfl
  refine wp_aload_n d_mo_init_18 rfl 0 rfl ?_
  refine wp_sipush d_mo_init_19 ⟨by decide, by decide⟩ (by decide) ?_
  refine wp_newai (N := 240) d_mo_init_22 rfl rfl (Nat.le_of_ble_eq_true rfl) (Nat.le_of_ble_eq_true rfl) w_arr_int ⟨Nat.le_of_ble_eq_true rfl, Nat.le_of_ble_eq_true rfl⟩ ?_
  have b5 := b4.arr (Nat.le_of_ble_eq_true rfl) (rf_no (by decide)) (MI_0 (by decide))
  refine wp_putr d_mo_init_24 2 rfl rfl (Nat.le_of_ble_eq_true rfl) (Nat.le_of_ble_eq_true rfl) (Nat.le_of_ble_eq_true rfl) rfl (fun _ => ⟨rfl, rfl⟩) rfl rfl rfl lk_mo_16 ?_
  have b6 := b5.put 101 2 104 (List.mem_of_getElem? (i := 1) rfl) rfl rfl
  refine wp_aload_n d_mo_init_27 rfl 0 rfl ?_
  refine wp_bipush d_mo_init_28 ⟨by decide, by decide⟩ (by decide) ?_
  refine wp_newai (N := 60) d_mo_init_30 rfl rfl (Nat.le_of_ble_eq_true rfl) (Nat.le_of_ble_eq_true rfl) w_arr_int ⟨Nat.le_of_ble_eq_true rfl, Nat.le_of_ble_eq_true rfl⟩ ?_
  have b7 := b6.arr (Nat.le_of_ble_eq_true rfl) (rf_no (by decide)) (MI_0 (by decide))
  refine wp_putr d_mo_init_32 3 rfl rfl (Nat.le_of_ble_eq_true rfl) (Nat.le_of_ble_eq_true rfl) (Nat.le_of_ble_eq_true rfl) rfl (fun _ => ⟨rfl, rfl⟩) rfl rfl rfl lk_mo_19 ?_
  have b8 := b7.put 101 3 105 (List.mem_of_getElem? (i := 1) rfl) rfl rfl
  refine wp_aload_n d_mo_init_35 rfl 0 rfl ?_
  refine wp_bipush d_mo_init_36 ⟨by decide, by decide⟩ (by decide) ?_
  refine wp_newai (N := 120) d_mo_init_38 rfl rfl (Nat.le_of_ble_eq_true rfl) (Nat.le_of_ble_eq_true rfl) w_arr_int ⟨Nat.le_of_ble_eq_true rfl, Nat.le_of_ble_eq_true rfl⟩ ?_
  have b9 := b8.arr (Nat.le_of_ble_eq_true rfl) (rf_no (by decide)) (MI_0 (by decide))
  have b10 := b9.skip 101 4 (List.mem_of_getElem? (i := 1) rfl) rfl rfl
  refine wp_putr d_mo_init_40 5 rfl rfl (Nat.le_of_ble_eq_true rfl) (Nat.le_of_ble_eq_true rfl) (Nat.le_of_ble_eq_true rfl) rfl (fun _ => ⟨rfl, rfl⟩) rfl rfl rfl lk_mo_22 ?_
  have b11 := b10.put 101 5 106 (List.mem_of_getElem? (i := 1) rfl) rfl rfl
  refine wp_aload_n d_mo_init_43 rfl 0 rfl ?_
  refine wp_iconst d_mo_init_44 ⟨by decide, by decide⟩ ?_
  refine wp_newai (N := 2) d_mo_init_45 rfl rfl (Nat.le_of_ble_eq_true rfl) (Nat.le_of_ble_eq_true rfl) w_arr_int ⟨Nat.le_of_ble_eq_true rfl, Nat.le_of_ble_eq_true rfl⟩ ?_
  have b12 := b11.arr (Nat.le_of_ble_eq_true rfl) (rf_no (by decide)) (MI_0 (by decide))
  refine wp_putr d_mo_init_47 6 rfl rfl (Nat.le_of_ble_eq_true rfl) (Nat.le_of_ble_eq_true rfl) (Nat.le_of_ble_eq_true rfl) rfl (fun _ => ⟨rfl, rfl⟩) rfl rfl rfl lk_mo_25 ?_
  have b13 := b12.put 101 6 107 (List.mem_of_getElem? (i := 1) rfl) rfl rfl
  refine wp_aload_n d_mo_init_50 rfl 0 rfl ?_
  refine wp_sipush d_mo_init_51 ⟨by decide, by decide⟩ (by decide) ?_
  refine wp_newai (N := 240) d_mo_init_54 rfl rfl (Nat.le_of_ble_eq_true rfl) (Nat.le_of_ble_eq_true rfl) w_arr_int ⟨Nat.le_of_ble_eq_true rfl, Nat.le_of_ble_eq_true rfl⟩ ?_
  have b14 := b13.arr (Nat.le_of_ble_eq_true rfl) (rf_no (by decide)) (MI_0 (by decide))
  have b15 := b14.skip 101 7 (List.mem_of_getElem? (i := 1) rfl) rfl rfl
  refine wp_putr d_mo_init_56 8 rfl rfl (Nat.le_of_ble_eq_true rfl) (Nat.le_of_ble_eq_true rfl) (Nat.le_of_ble_eq_true rfl) rfl (fun _ => ⟨rfl, rfl⟩) rfl rfl rfl lk_mo_28 ?_
  have b16 := b15.put 101 8 108 (List.mem_of_getElem? (i := 1) rfl) rfl rfl
  refine wp_aload_n d_mo_init_59 rfl 0 rfl ?_
  refine wp_bipush d_mo_init_60 ⟨by decide, by decide⟩ (by decide) ?_
  refine wp_newai (N := 6) d_mo_init_62 rfl rfl (Nat.le_of_ble_eq_true rfl) (Nat.le_of_ble_eq_true rfl) w_arr_int ⟨Nat.le_of_ble_eq_true rfl, Nat.le_of_ble_eq_true rfl⟩ ?_
  have b17 := b16.arr (Nat.le_of_ble_eq_true rfl) (rf_no (by decide)) (MI_0 (by decide))
  refine wp_putr d_mo_init_64 9 rfl rfl (Nat.le_of_ble_eq_true rfl) (Nat.le_of_ble_eq_true rfl) (Nat.le_of_ble_eq_true rfl) rfl (fun _ => ⟨rfl, rfl⟩) rfl rfl rfl lk_mo_31 ?_
  have b18 := b17.put 101 9 109 (List.mem_of_getElem? (i := 1) rfl) rfl rfl
  refine wp_aload_n d_mo_init_67 rfl 0 rfl ?_
  refine wp_bipush d_mo_init_68 ⟨by decide, by decide⟩ (by decide) ?_
  refine wp_newai (N := 18) d_mo_init_70 rfl rfl (Nat.le_of_ble_eq_true rfl) (Nat.le_of_ble_eq_true rfl) w_arr_int ⟨Nat.le_of_ble_eq_true rfl, Nat.le_of_ble_eq_true rfl⟩ ?_
  have b19 := b18.arr (Nat.le_of_ble_eq_true rfl) (rf_no (by decide)) (MI_0 (by decide))
  have b20 := b19.skip 101 10 (List.mem_of_getElem? (i := 1) rfl) rfl rfl
  refine wp_putr d_mo_init_72 11 rfl rfl (Nat.le_of_ble_eq_true rfl) (Nat.le_of_ble_eq_true rfl) (Nat.le_of_ble_eq_true rfl) rfl (fun _ => ⟨rfl, rfl⟩) rfl rfl rfl lk_mo_34 ?_
  have b21 := b20.put 101 11 110 (List.mem_of_getElem? (i := 1) rfl) rfl rfl
  refine wp_aload_n d_mo_init_75 rfl 0 rfl ?_
  refine wp_bipush d_mo_init_76 ⟨by decide, by decide⟩ (by decide) ?_
  refine wp_newai (N := 48) d_mo_init_78 rfl rfl (Nat.le_of_ble_eq_true rfl) (Nat.le_of_ble_eq_true rfl) w_arr_int ⟨Nat.le_of_ble_eq_true rfl, Nat.le_of_ble_eq_true rfl⟩ ?_
  have b22 := b21.arr (Nat.le_of_ble_eq_true rfl) (rf_no (by decide)) (MI_0 (by decide))
  have b23 := b22.skip 101 12 (List.mem_of_getElem? (i := 1) rfl) rfl rfl
  refine wp_putr d_mo_init_80 13 rfl rfl (Nat.le_of_ble_eq_true rfl) (Nat.le_of_ble_eq_true rfl) (Nat.le_of_ble_eq_true rfl) rfl (fun _ => ⟨rfl, rfl⟩) rfl rfl rfl lk_mo_37 ?_
  have b24 := b23.put 101 13 111 (List.mem_of_getElem? (i := 1) rfl) rfl rfl
  refine wp_aload_n d_mo_init_83 rfl 0 rfl ?_
  refine wp_sipush d_mo_init_84 ⟨by decide, by decide⟩ (by decide) ?_
  refine wp_newai (N := 280) d_mo_init_87 rfl rfl (Nat.le_of_ble_eq_true rfl) (Nat.le_of_ble_eq_true rfl) w_arr_int ⟨Nat.le_of_ble_eq_true rfl, Nat.le_of_ble_eq_true rfl⟩ ?_
  have b25 := b24.arr (Nat.le_of_ble_eq_true rfl) (rf_no (by decide)) (MI_0 (by decide))
  have b26 := b25.skip 101 14 (List.mem_of_getElem? (i := 1) rfl) rfl rfl
  refine wp_putr d_mo_init_89 15 rfl rfl (Nat.le_of_ble_eq_true rfl) (Nat.le_of_ble_eq_true rfl) (Nat.le_of_ble_eq_true rfl) rfl (fun _ => ⟨rfl, rfl⟩) rfl rfl rfl lk_mo_40 ?_
  have b27 := b26.put 101 15 112 (List.mem_of_getElem? (i := 1) rfl) rfl rfl
  refine wp_aload_n d_mo_init_92 rfl 0 rfl ?_
  refine wp_bipush d_mo_init_93 ⟨by decide, by decide⟩ (by decide) ?_
  refine wp_newai (N := 7) d_mo_init_95 rfl rfl (Nat.le_of_ble_eq_true rfl) (Nat.le_of_ble_eq_true rfl) w_arr_int ⟨Nat.le_of_ble_eq_true rfl, Nat.le_of_ble_eq_true rfl⟩ ?_
  have b28 := b27.arr (Nat.le_of_ble_eq_true rfl) (rf_no (by decide)) (MI_0 (by decide))
  refine wp_putr d_mo_init_97 16 rfl rfl (Nat.le_of_ble_eq_true rfl) (Nat.le_of_ble_eq_true rfl) (Nat.le_of_ble_eq_true rfl) rfl (fun _ => ⟨rfl, rfl⟩) rfl rfl rfl lk_mo_43 ?_
  have b29 := b28.put 101 16 113 (List.mem_of_getElem? (i := 1) rfl) rfl rfl
  refine wp_aload_n d_mo_init_100 rfl 0 rfl ?_
  refine wp_sipush d_mo_init_101 ⟨by decide, by decide⟩ (by decide) ?_
  refine wp_newai (N := 240) d_mo_init_104 rfl rfl (Nat.le_of_ble_eq_true rfl) (Nat.le_of_ble_eq_true rfl) w_arr_int ⟨Nat.le_of_ble_eq_true rfl, Nat.le_of_ble_eq_true rfl⟩ ?_
  have b30 := b29.arr (Nat.le_of_ble_eq_true rfl) (rf_no (by decide)) (MI_0 (by decide))
  refine wp_putr d_mo_init_106 17 rfl rfl (Nat.le_of_ble_eq_true rfl) (Nat.le_of_ble_eq_true rfl) (Nat.le_of_ble_eq_true rfl) rfl (fun _ => ⟨rfl, rfl⟩) rfl rfl rfl lk_mo_46 ?_
  have b31 := b30.put 101 17 114 (List.mem_of_getElem? (i := 1) rfl) rfl rfl
  refine wp_aload_n d_mo_init_109 rfl 0 rfl ?_
  refine wp_bipush d_mo_init_110 ⟨by decide, by decide⟩ (by decide) ?_
  refine wp_newai (N := 6) d_mo_init_112 rfl rfl (Nat.le_of_ble_eq_true rfl) (Nat.le_of_ble_eq_true rfl) w_arr_int ⟨Nat.le_of_ble_eq_true rfl, Nat.le_of_ble_eq_true rfl⟩ ?_
  have b32 := b31.arr (Nat.le_of_ble_eq_true rfl) (rf_no (by decide)) (MI_0 (by decide))
  refine wp_putr d_mo_init_114 18 rfl rfl (Nat.le_of_ble_eq_true rfl) (Nat.le_of_ble_eq_true rfl) (Nat.le_of_ble_eq_true rfl) rfl (fun _ => ⟨rfl, rfl⟩) rfl rfl rfl lk_mo_49 ?_
  have b33 := b32.put 101 18 115 (List.mem_of_getElem? (i := 1) rfl) rfl rfl
  refine wp_aload_n d_mo_init_117 rfl 0 rfl ?_
  refine wp_bipush d_mo_init_118 ⟨by decide, by decide⟩ (by decide) ?_
  refine wp_newai (N := 6) d_mo_init_120 rfl rfl (Nat.le_of_ble_eq_true rfl) (Nat.le_of_ble_eq_true rfl) w_arr_int ⟨Nat.le_of_ble_eq_true rfl, Nat.le_of_ble_eq_true rfl⟩ ?_
  have b34 := b33.arr (Nat.le_of_ble_eq_true rfl) (rf_no (by decide)) (MI_0 (by decide))
  refine wp_putr d_mo_init_122 19 rfl rfl (Nat.le_of_ble_eq_true rfl) (Nat.le_of_ble_eq_true rfl) (Nat.le_of_ble_eq_true rfl) rfl (fun _ => ⟨rfl, rfl⟩) rfl rfl rfl lk_mo_52 ?_
  have b35 := b34.put 101 19 116 (List.mem_of_getElem? (i := 1) rfl) rfl rfl
  refine wp_aload_n d_mo_init_125 rfl 0 rfl ?_
  refine wp_bipush d_mo_init_126 ⟨by decide, by decide⟩ (by decide) ?_
  refine wp_newai (N := 6) d_mo_init_128 rfl rfl (Nat.le_of_ble_eq_true rfl) (Nat.le_of_ble_eq_true rfl) w_arr_int ⟨Nat.le_of_ble_eq_true rfl, Nat.le_of_ble_eq_true rfl⟩ ?_
  have b36 := b35.arr (Nat.le_of_ble_eq_true rfl) (rf_no (by decide)) (MI_0 (by decide))
  refine wp_putr d_mo_init_130 20 rfl rfl (Nat.le_of_ble_eq_true rfl) (Nat.le_of_ble_eq_true rfl) (Nat.le_of_ble_eq_true rfl) rfl (fun _ => ⟨rfl, rfl⟩) rfl rfl rfl lk_mo_55 ?_
  have b37 := b36.put 101 20 117 (List.mem_of_getElem? (i := 1) rfl) rfl rfl
  refine wp_aload_n d_mo_init_133 rfl 0 rfl ?_
  refine wp_bipush d_mo_init_134 ⟨by decide, by decide⟩ (by decide) ?_
  refine wp_newai (N := 12) d_mo_init_136 rfl rfl (Nat.le_of_ble_eq_true rfl) (Nat.le_of_ble_eq_true rfl) w_arr_int ⟨Nat.le_of_ble_eq_true rfl, Nat.le_of_ble_eq_true rfl⟩ ?_
  have b38 := b37.arr (Nat.le_of_ble_eq_true rfl) (rf_no (by decide)) (MI_0 (by decide))
  refine wp_putr d_mo_init_138 21 rfl rfl (Nat.le_of_ble_eq_true rfl) (Nat.le_of_ble_eq_true rfl) (Nat.le_of_ble_eq_true rfl) rfl (fun _ => ⟨rfl, rfl⟩) rfl rfl rfl lk_mo_58 ?_
  have b39 := b38.put 101 21 118 (List.mem_of_getElem? (i := 1) rfl) rfl rfl
  refine wp_aload_n d_mo_init_141 rfl 0 rfl ?_
  refine wp_bipush d_mo_init_142 ⟨by decide, by decide⟩ (by decide) ?_
  refine wp_newai (N := 12) d_mo_init_144 rfl rfl (Nat.le_of_ble_eq_true rfl) (Nat.le_of_ble_eq_true rfl) w_arr_int ⟨Nat.le_of_ble_eq_true rfl, Nat.le_of_ble_eq_true rfl⟩ ?_
  have b40 := b39.arr (Nat.le_of_ble_eq_true rfl) (rf_no (by decide)) (MI_0 (by decide))
  refine wp_putr d_mo_init_146 22 rfl rfl (Nat.le_of_ble_eq_true rfl) (Nat.le_of_ble_eq_true rfl) (Nat.le_of_ble_eq_true rfl) rfl (fun _ => ⟨rfl, rfl⟩) rfl rfl rfl lk_mo_61 ?_
  have b41 := b40.put 101 22 119 (List.mem_of_getElem? (i := 1) rfl) rfl rfl
  refine wp_aload_n d_mo_init_149 rfl 0 rfl ?_
  refine wp_bipush d_mo_init_150 ⟨by decide, by decide⟩ (by decide) ?_
  refine wp_newai (N := 12) d_mo_init_152 rfl rfl (Nat.le_of_ble_eq_true rfl) (Nat.le_of_ble_eq_true rfl) w_arr_int ⟨Nat.le_of_ble_eq_true rfl, Nat.le_of_ble_eq_true rfl⟩ ?_
  have b42 := b41.arr (Nat.le_of_ble_eq_true rfl) (rf_no (by decide)) (MI_0 (by decide))
  refine wp_putr d_mo_init_154 23 rfl rfl (Nat.le_of_ble_eq_true rfl) (Nat.le_of_ble_eq_true rfl) (Nat.le_of_ble_eq_true rfl) rfl (fun _ => ⟨rfl, rfl⟩) rfl rfl rfl lk_mo_64 ?_
  have b43 := b42.put 101 23 120 (List.mem_of_getElem? (i := 1) rfl) rfl rfl
  refine wp_aload_n d_mo_init_157 rfl 0 rfl ?_
  refine wp_bipush d_mo_init_158 ⟨by decide, by decide⟩ (by decide) ?_
  refine wp_newai (N := 80) d_mo_init_160 rfl rfl (Nat.le_of_ble_eq_true rfl) (Nat.le_of_ble_eq_true rfl) w_arr_int ⟨Nat.le_of_ble_eq_true rfl, Nat.le_of_ble_eq_true rfl⟩ ?_
  have b44 := b43.arr (Nat.le_of_ble_eq_true rfl) (rf_no (by decide)) (MI_0 (by decide))
  refine wp_putr d_mo_init_162 24 rfl rfl (Nat.le_of_ble_eq_true rfl) (Nat.le_of_ble_eq_true rfl) (Nat.le_of_ble_eq_true rfl) rfl (fun _ => ⟨rfl, rfl⟩) rfl rfl rfl lk_mo_67 ?_
  have b45 := b44.put 101 24 121 (List.mem_of_getElem? (i := 1) rfl) rfl rfl
  refine wp_aload_n d_mo_init_165 rfl 0 rfl ?_
  refine wp_bipush d_mo_init_166 ⟨by decide, by decide⟩ (by decide) ?_
  refine wp_newai (N := 41) d_mo_init_168 rfl rfl (Nat.le_of_ble_eq_true rfl) (Nat.le_of_ble_eq_true rfl) w_arr_int ⟨Nat.le_of_ble_eq_true rfl, Nat.le_of_ble_eq_true rfl⟩ ?_
  have b46 := b45.arr (Nat.le_of_ble_eq_true rfl) (rf_no (by decide)) (MI_0 (by decide))
  refine wp_putr d_mo_init_170 25 rfl rfl (Nat.le_of_ble_eq_true rfl) (Nat.le_of_ble_eq_true rfl) (Nat.le_of_ble_eq_true rfl) rfl (fun _ => ⟨rfl, rfl⟩) rfl rfl rfl lk_mo_70 ?_
  have b47 := b46.put 101 25 122 (List.mem_of_getElem? (i := 1) rfl) rfl rfl
  refine wp_iconst d_mo_init_173 ⟨by decide, by decide⟩ ?_
  refine wp_istore_n (L2 := [(0, pR 101), (1, pI 0)]) d_mo_init_174 rfl (Nat.le_of_ble_eq_true rfl) [1, 0] rfl ?_
  refine wp_iload_n d_mo_init_175 rfl 1 rfl ?_
  refine wp_iconst d_mo_init_176 ⟨by decide, by decide⟩ ?_
  refine wp_icmp_ge 193 d_mo_init_177 (by decide) (fun e => absurd e (by decide)) (fun _ => ?_)
  refine wp_aload_n d_mo_init_180 rfl 0 rfl ?_
  refine wp_getr d_mo_init_181 0 rfl rfl (Nat.le_of_ble_eq_true rfl) (Nat.le_of_ble_eq_true rfl) rfl (b47.ref (r := 102) (List.mem_of_getElem? (i := 1) rfl) (Nat.le_of_ble_eq_true rfl) rfl) lk_mo_7 ?_
  refine wp_iload_n d_mo_init_184 rfl 1 rfl ?_
  refine wp_iconst d_mo_init_185 ⟨by decide, by decide⟩ ?_
  refine wp_iast d_mo_init_186 rfl (Nat.le_of_ble_eq_true rfl) (by decide) (by decide) ?_
  have b48 := b47.num 102 0 (-1) (List.mem_of_getElem? (i := 0) rfl)
  refine wp_iinc (L2 := [(0, pR 101), (1, pI 1)]) d_mo_init_187 1 rfl (Nat.le_of_ble_eq_true rfl) [1, 0] rfl ?_
  refine wp_goto 175 d_mo_init_190 (by decide) ?_
  refine wp_iload_n d_mo_init_175 rfl 1 rfl ?_
  refine wp_iconst d_mo_init_176 ⟨by decide, by decide⟩ ?_
  refine wp_icmp_ge 193 d_mo_init_177 (by decide) (fun e => absurd e (by decide)) (fun _ => ?_)
  refine wp_aload_n d_mo_init_180 rfl 0 rfl ?_
  refine wp_getr d_mo_init_181 0 rfl rfl (Nat.le_of_ble_eq_true rfl) (Nat.le_of_ble_eq_true rfl) rfl (b48.ref (r := 102) (List.mem_of_getElem? (i := 1) rfl) (Nat.le_of_ble_eq_true rfl) rfl) lk_mo_7 ?_
  refine wp_iload_n d_mo_init_184 rfl 1 rfl ?_
  refine wp_iconst d_mo_init_185 ⟨by decide, by decide⟩ ?_
  refine wp_iast d_mo_init_186 rfl (Nat.le_of_ble_eq_true rfl) (by decide) (by decide) ?_
  have b49 := b48.num 102 1 (-1) (List.mem_of_getElem? (i := 0) rfl)
  refine wp_iinc (L2 := [(0, pR 101), (1, pI 2)]) d_mo_init_187 1 rfl (Nat.le_of_ble_eq_true rfl) [1, 0] rfl ?_
  refine wp_goto 175 d_mo_init_190 (by decide) ?_
  refine wp_iload_n d_mo_init_175 rfl 1 rfl ?_
  refine wp_iconst d_mo_init_176 ⟨by decide, by decide⟩ ?_
  refine wp_icmp_ge 193 d_mo_init_177 (by decide) (fun e => absurd e (by decide)) (fun _ => ?_)
  refine wp_aload_n d_mo_init_180 rfl 0 rfl ?_
  refine wp_getr d_mo_init_181 0 rfl rfl (Nat.le_of_ble_eq_true rfl) (Nat.le_of_ble_eq_true rfl) rfl (b49.ref (r := 102) (List.mem_of_getElem? (i := 1) rfl) (Nat.le_of_ble_eq_true rfl) rfl) lk_mo_7 ?_
  refine wp_iload_n d_mo_init_184 rfl 1 rfl ?_
  refine wp_iconst d_mo_init_185 ⟨by decide, by decide⟩ ?_
  refine wp_iast d_mo_init_186 rfl (Nat.le_of_ble_eq_true rfl) (by decide) (by decide) ?_
  have b50 := b49.num 102 2 (-1) (List.mem_of_getElem? (i := 0) rfl)
  refine wp_iinc (L2 := [(0, pR 101), (1, pI 3)]) d_mo_init_187 1 rfl (Nat.le_of_ble_eq_true rfl) [1, 0] rfl ?_
  refine wp_goto 175 d_mo_init_190 (by decide) ?_
  refine wp_iload_n d_mo_init_175 rfl 1 rfl ?_
  refine wp_iconst d_mo_init_176 ⟨by decide, by decide⟩ ?_
  refine wp_icmp_ge 193 d_mo_init_177 (by decide) (fun e => absurd e (by decide)) (fun _ => ?_)
  refine wp_aload_n d_mo_init_180 rfl 0 rfl ?_
  refine wp_getr d_mo_init_181 0 rfl rfl (Nat.le_of_ble_eq_true rfl) (Nat.le_of_ble_eq_true rfl) rfl (b50.ref (r := 102) (List.mem_of_getElem? (i := 1) rfl) (Nat.le_of_ble_eq_true rfl) rfl) lk_mo_7 ?_
  refine wp_iload_n d_mo_init_184 rfl 1 rfl ?_
  refine wp_iconst d_mo_init_185 ⟨by decide, by decide⟩ ?_
  refine wp_iast d_mo_init_186 rfl (Nat.le_of_ble_eq_true rfl) (by decide) (by decide) ?_
  have b51 := b50.num 102 3 (-1) (List.mem_of_getElem? (i := 0) rfl)
  refine wp_iinc (L2 := [(0, pR 101), (1, pI 4)]) d_mo_init_187 1 rfl (Nat.le_of_ble_eq_true rfl) [1, 0] rfl ?_
  refine wp_goto 175 d_mo_init_190 (by decide) ?_
  refine wp_iload_n d_mo_init_175 rfl 1 rfl ?_
  refine wp_iconst d_mo_init_176 ⟨by decide, by decide⟩ ?_
  refine wp_icmp_ge 193 d_mo_init_177 (by decide) (fun _ => ?_) (fun e => absurd e (by decide))
  refine wp_aload_n d_mo_init_193 rfl 0 rfl ?_
  refine wp_iconst d_mo_init_194 ⟨by decide, by decide⟩ ?_
  refine wp_puti d_mo_init_195 14 rfl rfl (Nat.le_of_ble_eq_true rfl) (Nat.le_of_ble_eq_true rfl) (Or.inl rfl) rfl lk_mo_73 ?_
  have b52 := b51.num 101 14 2 (List.mem_of_getElem? (i := 1) rfl)
  refine wp_vret d_mo_init_198 rfl ⟨Nat.le_of_ble_eq_true rfl, Nat.le_of_ble_eq_true rfl⟩ ?_
  have f := b52.fin ?_
  · exact hq _ _ f.1 f.2
  intro q hq2 k
  simp only [List.mem_cons, List.not_mem_nil, or_false] at hq2
  rcases hq2 with rfl | rfl
  · refine ⟨fun hk => ?_, ?_⟩
    · have hk2 : 0 ≤ k := hk
      exact rf_hi102 k hk2
    · unfold MI
      by_cases e0 : k = 0
      · subst e0; rfl
      by_cases e1 : k = 1
      · subst e1; rfl
      by_cases e2 : k = 2
      · subst e2; rfl
      by_cases e3 : k = 3
      · subst e3; rfl
      · simp [mu, E0, e0, e1, e2, e3] <;> omega
  · refine ⟨fun hk => ?_, ?_⟩
    · have hk2 : 26 ≤ k := hk
      exact rf_hi101 k hk2
    · unfold MI
      by_cases e14 : k = 14
      · subst e14; rfl
      · simp [mu, E0, e14] <;> omega
