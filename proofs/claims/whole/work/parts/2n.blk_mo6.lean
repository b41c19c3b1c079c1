set_option maxHeartbeats 8000000 in
theorem e_mo_digest {G : GT} {M : MT} {P : Int → MT → Prop} 
    (h : WpL G J_mo_digest 4 [(0, pR 101), (1, pL 17)] [] M P) : ClL G J_mo_digest M [pR 101] P := by
  show Wp G J_mo_digest 0 0 0 [(0, pR 101)] [] NN RF M _
  refine wp_ldc2 lk_mo_304 d_mo_digest_0 ⟨by decide, by decide⟩ ?_
  refine wp_lstore_n (L2 := [(0, pR 101), (1, pL _)]) d_mo_digest_3 rfl (Nat.le_of_ble_eq_true rfl) [1, 0] rfl ?_
  exact h
set_option maxHeartbeats 8000000 in
theorem b_mo_digest_4 {G : GT} {M : MT} {P : Int → MT → Prop} (v1 : Int)
    (h : WpL G J_mo_digest 6 [(0, pR 101), (1, pL v1), (3, pI 0)] [] M P) : WpL G J_mo_digest 4 [(0, pR 101), (1, pL v1)] [] M P := by
  show Wp G J_mo_digest 0 0 4 [(0, pR 101), (1, pL v1)] [] NN RF M _
  refine wp_iconst d_mo_digest_4 ⟨by decide, by decide⟩ ?_
  refine wp_istore_n (L2 := [(0, pR 101), (1, pL _), (3, pI _)]) d_mo_digest_5 rfl (Nat.le_of_ble_eq_true rfl) [1, 2, 0] rfl ?_
  exact h
set_option maxHeartbeats 8000000 in
theorem b_mo_digest_6 {G : GT} {M : MT} {P : Int → MT → Prop} (v1 : Int) (v3 : Int)
    (h : (8 ≤ v3 → ClI G J_mo_readsTunes M [pR 101] (fun x2 M1 => (WpL G J_mo_digest 43 [(0, pR 101), (1, pL (w64 ((w64 (31 * v1)) + x2)))] [] M1 P))) ∧ (v3 < 8 → ClI G J_mo_count M [pR 101, pI v3] (fun x2 M1 => (WpL G J_mo_digest 25 [(0, pR 101), (1, pL (w64 ((w64 (31 * v1)) + x2))), (3, pI v3)] [] M1 P)))) : WpL G J_mo_digest 6 [(0, pR 101), (1, pL v1), (3, pI v3)] [] M P := by
  show Wp G J_mo_digest 0 0 6 [(0, pR 101), (1, pL v1), (3, pI v3)] [] NN RF M _
  refine wp_iload_n d_mo_digest_6 rfl 2 rfl ?_
  refine wp_bipush d_mo_digest_7 ⟨by decide, by decide⟩ (by decide) ?_
  refine wp_icmp_ge 31 d_mo_digest_9 (by decide) (fun c1 => ?_) (fun c1 => ?_)
  · have h := h.1 c1
    refine wp_ldc2 lk_mo_299 d_mo_digest_31 ⟨by decide, by decide⟩ ?_
    refine wp_lload_n d_mo_digest_34 rfl 1 rfl ?_
    refine wp_lmul d_mo_digest_35 ?_
    refine wp_aload_n d_mo_digest_36 rfl 0 rfl ?_
    refine wp_callV [] _ d_mo_digest_37 jd_mo_readsTunes lk_mo_128 rfl s_101 rfl (Nat.le_of_ble_eq_true rfl) (Nat.le_of_ble_eq_true rfl) rfl ?_
    refine clI_k h ?_
    intro x2 M1 h
    refine wp_i2l d_mo_digest_40 ?_
    refine wp_ladd d_mo_digest_41 ?_
    refine wp_lstore_n (L2 := [(0, pR 101), (1, pL _), (3, pI _)]) d_mo_digest_42 rfl (Nat.le_of_ble_eq_true rfl) [1, 0, 2] rfl ?_
    refine wp_sub (L2 := [(0, pR 101), (1, pL _)]) [0, 1] rfl ?_
    exact h
  · have h := h.2 c1
    refine wp_ldc2 lk_mo_299 d_mo_digest_12 ⟨by decide, by decide⟩ ?_
    refine wp_lload_n d_mo_digest_15 rfl 1 rfl ?_
    refine wp_lmul d_mo_digest_16 ?_
    refine wp_aload_n d_mo_digest_17 rfl 0 rfl ?_
    refine wp_iload_n d_mo_digest_18 rfl 2 rfl ?_
    refine wp_callV [pI _] _ d_mo_digest_19 jd_mo_count lk_mo_306 rfl s_101 rfl (Nat.le_of_ble_eq_true rfl) (Nat.le_of_ble_eq_true rfl) rfl ?_
    refine clI_k h ?_
    intro x2 M1 h
    refine wp_i2l d_mo_digest_22 ?_
    refine wp_ladd d_mo_digest_23 ?_
    refine wp_lstore_n (L2 := [(0, pR 101), (1, pL _), (3, pI _)]) d_mo_digest_24 rfl (Nat.le_of_ble_eq_true rfl) [1, 0, 2] rfl ?_
    exact h
set_option maxHeartbeats 8000000 in
theorem b_mo_digest_43 {G : GT} {M : MT} {P : Int → MT → Prop} (v1 : Int)
    (h : ClI G J_mo_readsBorrowers M [pR 101] (fun x1 M1 => (WpL G J_mo_digest 55 [(0, pR 101), (1, pL (w64 ((w64 (31 * v1)) + x1)))] [] M1 P))) : WpL G J_mo_digest 43 [(0, pR 101), (1, pL v1)] [] M P := by
  show Wp G J_mo_digest 0 0 43 [(0, pR 101), (1, pL v1)] [] NN RF M _
  refine wp_ldc2 lk_mo_299 d_mo_digest_43 ⟨by decide, by decide⟩ ?_
  refine wp_lload_n d_mo_digest_46 rfl 1 rfl ?_
  refine wp_lmul d_mo_digest_47 ?_
  refine wp_aload_n d_mo_digest_48 rfl 0 rfl ?_
  refine wp_callV [] _ d_mo_digest_49 jd_mo_readsBorrowers lk_mo_132 rfl s_101 rfl (Nat.le_of_ble_eq_true rfl) (Nat.le_of_ble_eq_true rfl) rfl ?_
  refine clI_k h ?_
  intro x1 M1 h
  refine wp_i2l d_mo_digest_52 ?_
  refine wp_ladd d_mo_digest_53 ?_
  refine wp_lstore_n (L2 := [(0, pR 101), (1, pL _)]) d_mo_digest_54 rfl (Nat.le_of_ble_eq_true rfl) [1, 0] rfl ?_
  exact h
set_option maxHeartbeats 8000000 in
theorem b_mo_digest_25 {G : GT} {M : MT} {P : Int → MT → Prop} (v1 : Int) (v3 : Int)
    (h : WpL G J_mo_digest 6 [(0, pR 101), (1, pL v1), (3, pI (w32 (v3 + 1)))] [] M P) : WpL G J_mo_digest 25 [(0, pR 101), (1, pL v1), (3, pI v3)] [] M P := by
  show Wp G J_mo_digest 0 0 25 [(0, pR 101), (1, pL v1), (3, pI v3)] [] NN RF M _
  refine wp_iinc (L2 := [(0, pR 101), (1, pL _), (3, pI _)]) d_mo_digest_25 2 rfl (Nat.le_of_ble_eq_true rfl) [1, 2, 0] rfl ?_
  refine wp_goto 6 d_mo_digest_28 (by decide) ?_
  exact h
set_option maxHeartbeats 8000000 in
theorem b_mo_digest_55 {G : GT} {M : MT} {P : Int → MT → Prop} (v1 : Int)
    (h : WpL G J_mo_digest 57 [(0, pR 101), (1, pL v1), (3, pI 0)] [] M P) : WpL G J_mo_digest 55 [(0, pR 101), (1, pL v1)] [] M P := by
  show Wp G J_mo_digest 0 0 55 [(0, pR 101), (1, pL v1)] [] NN RF M _
  refine wp_iconst d_mo_digest_55 ⟨by decide, by decide⟩ ?_
  refine wp_istore_n (L2 := [(0, pR 101), (1, pL _), (3, pI _)]) d_mo_digest_56 rfl (Nat.le_of_ble_eq_true rfl) [1, 2, 0] rfl ?_
  exact h
set_option maxHeartbeats 8000000 in
theorem b_mo_digest_57 {G : GT} {M : MT} {P : Int → MT → Prop} (v1 : Int) (v3 : Int)
    (h : ((M 101 7) ≤ v3 → WpL G J_mo_digest 80 [(0, pR 101), (1, pL v1), (3, pI 0)] [] M P) ∧ (v3 < (M 101 7) → ClL G J_mo_tellsTune M [pR 101, pL v1, pI v3] (fun x2 M1 => (WpL G J_mo_digest 72 [(0, pR 101), (1, pL x2), (3, pI v3)] [] M1 P)))) : WpL G J_mo_digest 57 [(0, pR 101), (1, pL v1), (3, pI v3)] [] M P := by
  show Wp G J_mo_digest 0 0 57 [(0, pR 101), (1, pL v1), (3, pI v3)] [] NN RF M _
  refine wp_iload_n d_mo_digest_57 rfl 2 rfl ?_
  refine wp_aload_n d_mo_digest_58 rfl 0 rfl ?_
  refine wp_geti d_mo_digest_59 7 s_101 rfl (Nat.le_of_ble_eq_true rfl) (Nat.le_of_ble_eq_true rfl) rfl lk_mo_112 ?_
  refine wp_icmp_ge 78 d_mo_digest_62 (by decide) (fun c1 => ?_) (fun c1 => ?_)
  · have h := h.1 c1
    refine wp_iconst d_mo_digest_78 ⟨by decide, by decide⟩ ?_
    refine wp_istore_n (L2 := [(0, pR 101), (1, pL _), (3, pI _)]) d_mo_digest_79 rfl (Nat.le_of_ble_eq_true rfl) [1, 2, 0] rfl ?_
    exact h
  · have h := h.2 c1
    refine wp_aload_n d_mo_digest_65 rfl 0 rfl ?_
    refine wp_lload_n d_mo_digest_66 rfl 1 rfl ?_
    refine wp_iload_n d_mo_digest_67 rfl 2 rfl ?_
    refine wp_callV [pL _, pI _] _ d_mo_digest_68 jd_mo_tellsTune lk_mo_309 rfl s_101 rfl (Nat.le_of_ble_eq_true rfl) (Nat.le_of_ble_eq_true rfl) rfl ?_
    refine clL_k h ?_
    intro x2 M1 h
    refine wp_lstore_n (L2 := [(0, pR 101), (1, pL _), (3, pI _)]) d_mo_digest_71 rfl (Nat.le_of_ble_eq_true rfl) [1, 0, 2] rfl ?_
    exact h
set_option maxHeartbeats 8000000 in
theorem b_mo_digest_80 {G : GT} {M : MT} {P : Int → MT → Prop} (v1 : Int) (v3 : Int)
    (h : ((M 101 10) ≤ v3 → WpL G J_mo_digest 130 [(0, pR 101), (1, pL v1), (3, pI 0)] [] M P) ∧ (v3 < (M 101 10) → WpL G J_mo_digest 91 [(0, pR 101), (1, pL v1), (3, pI v3), (4, pI 0)] [] M P)) : WpL G J_mo_digest 80 [(0, pR 101), (1, pL v1), (3, pI v3)] [] M P := by
  show Wp G J_mo_digest 0 0 80 [(0, pR 101), (1, pL v1), (3, pI v3)] [] NN RF M _
  refine wp_iload_n d_mo_digest_80 rfl 2 rfl ?_
  refine wp_aload_n d_mo_digest_81 rfl 0 rfl ?_
  refine wp_geti d_mo_digest_82 10 s_101 rfl (Nat.le_of_ble_eq_true rfl) (Nat.le_of_ble_eq_true rfl) rfl lk_mo_122 ?_
  refine wp_icmp_ge 128 d_mo_digest_85 (by decide) (fun c1 => ?_) (fun c1 => ?_)
  · have h := h.1 c1
    refine wp_iconst d_mo_digest_128 ⟨by decide, by decide⟩ ?_
    refine wp_istore_n (L2 := [(0, pR 101), (1, pL _), (3, pI _)]) d_mo_digest_129 rfl (Nat.le_of_ble_eq_true rfl) [1, 2, 0] rfl ?_
    exact h
  · have h := h.2 c1
    refine wp_iconst d_mo_digest_88 ⟨by decide, by decide⟩ ?_
    refine wp_istore (L2 := [(0, pR 101), (1, pL _), (3, pI _), (4, pI _)]) d_mo_digest_89 (Nat.le_of_ble_eq_true rfl) [1, 2, 3, 0] rfl ?_
    exact h
set_option maxHeartbeats 8000000 in
theorem b_mo_digest_72 {G : GT} {M : MT} {P : Int → MT → Prop} (v1 : Int) (v3 : Int)
    (h : WpL G J_mo_digest 57 [(0, pR 101), (1, pL v1), (3, pI (w32 (v3 + 1)))] [] M P) : WpL G J_mo_digest 72 [(0, pR 101), (1, pL v1), (3, pI v3)] [] M P := by
  show Wp G J_mo_digest 0 0 72 [(0, pR 101), (1, pL v1), (3, pI v3)] [] NN RF M _
  refine wp_iinc (L2 := [(0, pR 101), (1, pL _), (3, pI _)]) d_mo_digest_72 2 rfl (Nat.le_of_ble_eq_true rfl) [1, 2, 0] rfl ?_
  refine wp_goto 57 d_mo_digest_75 (by decide) ?_
  exact h
set_option maxHeartbeats 8000000 in
theorem b_mo_digest_130 {G : GT} {M : MT} {P : Int → MT → Prop} (v1 : Int) (v3 : Int)
    (h : ((M 101 12) ≤ v3 → ClI G J_mo_interestBy M [pR 101, pI 0, pI (M 101 14)] (fun x2 M1 => (WpL G J_mo_digest 191 [(0, pR 101), (1, pL (w64 ((w64 (31 * v1)) + x2)))] [] M1 P))) ∧ (v3 < (M 101 12) → WpL G J_mo_digest 141 [(0, pR 101), (1, pL v1), (3, pI v3), (4, pI 0)] [] M P)) : WpL G J_mo_digest 130 [(0, pR 101), (1, pL v1), (3, pI v3)] [] M P := by
  show Wp G J_mo_digest 0 0 130 [(0, pR 101), (1, pL v1), (3, pI v3)] [] NN RF M _
  refine wp_iload_n d_mo_digest_130 rfl 2 rfl ?_
  refine wp_aload_n d_mo_digest_131 rfl 0 rfl ?_
  refine wp_geti d_mo_digest_132 12 s_101 rfl (Nat.le_of_ble_eq_true rfl) (Nat.le_of_ble_eq_true rfl) rfl lk_mo_157 ?_
  refine wp_icmp_ge 174 d_mo_digest_135 (by decide) (fun c1 => ?_) (fun c1 => ?_)
  · have h := h.1 c1
    refine wp_ldc2 lk_mo_299 d_mo_digest_174 ⟨by decide, by decide⟩ ?_
    refine wp_lload_n d_mo_digest_177 rfl 1 rfl ?_
    refine wp_lmul d_mo_digest_178 ?_
    refine wp_aload_n d_mo_digest_179 rfl 0 rfl ?_
    refine wp_iconst d_mo_digest_180 ⟨by decide, by decide⟩ ?_
    refine wp_aload_n d_mo_digest_181 rfl 0 rfl ?_
    refine wp_geti d_mo_digest_182 14 s_101 rfl (Nat.le_of_ble_eq_true rfl) (Nat.le_of_ble_eq_true rfl) rfl lk_mo_73 ?_
    refine wp_callV [pI _, pI _] _ d_mo_digest_185 jd_mo_interestBy lk_mo_207 rfl s_101 rfl (Nat.le_of_ble_eq_true rfl) (Nat.le_of_ble_eq_true rfl) rfl ?_
    refine clI_k h ?_
    intro x2 M1 h
    refine wp_i2l d_mo_digest_188 ?_
    refine wp_ladd d_mo_digest_189 ?_
    refine wp_lstore_n (L2 := [(0, pR 101), (1, pL _), (3, pI _)]) d_mo_digest_190 rfl (Nat.le_of_ble_eq_true rfl) [1, 0, 2] rfl ?_
    refine wp_sub (L2 := [(0, pR 101), (1, pL _)]) [0, 1] rfl ?_
    exact h
  · have h := h.2 c1
    refine wp_iconst d_mo_digest_138 ⟨by decide, by decide⟩ ?_
    refine wp_istore (L2 := [(0, pR 101), (1, pL _), (3, pI _), (4, pI _)]) d_mo_digest_139 (Nat.le_of_ble_eq_true rfl) [1, 2, 3, 0] rfl ?_
    exact h
set_option maxHeartbeats 8000000 in
theorem b_mo_digest_91 {G : GT} {M : MT} {P : Int → MT → Prop} (v1 : Int) (v3 : Int) (v4 : Int)
    (h : (3 ≤ v4 → WpL G J_mo_digest 80 [(0, pR 101), (1, pL v1), (3, pI (w32 (v3 + 1)))] [] M P) ∧ (v4 < 3 → (0 ≤ (w32 ((w32 (3 * v3)) + v4)) ∧ (w32 ((w32 (3 * v3)) + v4)) < 18) ∧ (WpL G J_mo_digest 116 [(0, pR 101), (1, pL (w64 ((w64 (31 * v1)) + (M 110 ((w32 ((w32 (3 * v3)) + v4)).toNat))))), (3, pI v3), (4, pI v4)] [] M P))) : WpL G J_mo_digest 91 [(0, pR 101), (1, pL v1), (3, pI v3), (4, pI v4)] [] M P := by
  show Wp G J_mo_digest 0 0 91 [(0, pR 101), (1, pL v1), (3, pI v3), (4, pI v4)] [] NN RF M _
  refine wp_iload d_mo_digest_91 3 rfl ?_
  refine wp_iconst d_mo_digest_93 ⟨by decide, by decide⟩ ?_
  refine wp_icmp_ge 122 d_mo_digest_94 (by decide) (fun c1 => ?_) (fun c1 => ?_)
  · have h := h.1 c1
    refine wp_iinc (L2 := [(0, pR 101), (1, pL _), (3, pI _), (4, pI _)]) d_mo_digest_122 2 rfl (Nat.le_of_ble_eq_true rfl) [1, 2, 0, 3] rfl ?_
    refine wp_goto 80 d_mo_digest_125 (by decide) ?_
    refine wp_sub (L2 := [(0, pR 101), (1, pL _), (3, pI _)]) [0, 1, 2] rfl ?_
    exact h
  · have h := h.2 c1
    refine wp_ldc2 lk_mo_299 d_mo_digest_97 ⟨by decide, by decide⟩ ?_
    refine wp_lload_n d_mo_digest_100 rfl 1 rfl ?_
    refine wp_lmul d_mo_digest_101 ?_
    refine wp_aload_n d_mo_digest_102 rfl 0 rfl ?_
    refine wp_getr d_mo_digest_103 11 s_101 rfl (Nat.le_of_ble_eq_true rfl) (Nat.le_of_ble_eq_true rfl) rfl rfl lk_mo_34 ?_
    refine wp_iconst d_mo_digest_106 ⟨by decide, by decide⟩ ?_
    refine wp_iload_n d_mo_digest_107 rfl 2 rfl ?_
    refine wp_imul d_mo_digest_108 ?_
    refine wp_iload d_mo_digest_109 3 rfl ?_
    refine wp_iadd d_mo_digest_111 ?_
    obtain ⟨⟨a2, b2⟩, h⟩ := h
    refine wp_iald d_mo_digest_112 s_110 (Nat.le_of_ble_eq_true rfl) a2 b2 ?_
    refine wp_i2l d_mo_digest_113 ?_
    refine wp_ladd d_mo_digest_114 ?_
    refine wp_lstore_n (L2 := [(0, pR 101), (1, pL _), (3, pI _), (4, pI _)]) d_mo_digest_115 rfl (Nat.le_of_ble_eq_true rfl) [1, 0, 2, 3] rfl ?_
    exact h
set_option maxHeartbeats 8000000 in
theorem b_mo_digest_191 {G : GT} {M : MT} {P : Int → MT → Prop} (v1 : Int)
    (h : ClI G J_mo_interestBy M [pR 101, pI 9, pI (M 101 14)] (fun x1 M1 => (WpL G J_mo_digest 209 [(0, pR 101), (1, pL (w64 ((w64 (31 * v1)) + x1)))] [] M1 P))) : WpL G J_mo_digest 191 [(0, pR 101), (1, pL v1)] [] M P := by
  show Wp G J_mo_digest 0 0 191 [(0, pR 101), (1, pL v1)] [] NN RF M _
  refine wp_ldc2 lk_mo_299 d_mo_digest_191 ⟨by decide, by decide⟩ ?_
  refine wp_lload_n d_mo_digest_194 rfl 1 rfl ?_
  refine wp_lmul d_mo_digest_195 ?_
  refine wp_aload_n d_mo_digest_196 rfl 0 rfl ?_
  refine wp_bipush d_mo_digest_197 ⟨by decide, by decide⟩ (by decide) ?_
  refine wp_aload_n d_mo_digest_199 rfl 0 rfl ?_
  refine wp_geti d_mo_digest_200 14 s_101 rfl (Nat.le_of_ble_eq_true rfl) (Nat.le_of_ble_eq_true rfl) rfl lk_mo_73 ?_
  refine wp_callV [pI _, pI _] _ d_mo_digest_203 jd_mo_interestBy lk_mo_207 rfl s_101 rfl (Nat.le_of_ble_eq_true rfl) (Nat.le_of_ble_eq_true rfl) rfl ?_
  refine clI_k h ?_
  intro x1 M1 h
  refine wp_i2l d_mo_digest_206 ?_
  refine wp_ladd d_mo_digest_207 ?_
  refine wp_lstore_n (L2 := [(0, pR 101), (1, pL _)]) d_mo_digest_208 rfl (Nat.le_of_ble_eq_true rfl) [1, 0] rfl ?_
  exact h
set_option maxHeartbeats 8000000 in
theorem b_mo_digest_141 {G : GT} {M : MT} {P : Int → MT → Prop} (v1 : Int) (v3 : Int) (v4 : Int)
    (h : (3 ≤ v4 → WpL G J_mo_digest 130 [(0, pR 101), (1, pL v1), (3, pI (w32 (v3 + 1)))] [] M P) ∧ (v4 < 3 → ClI G J_mo_cameOf M [pR 101, pI v3, pI v4] (fun x2 M1 => (WpL G J_mo_digest 162 [(0, pR 101), (1, pL (w64 ((w64 (31 * v1)) + x2))), (3, pI v3), (4, pI v4)] [] M1 P)))) : WpL G J_mo_digest 141 [(0, pR 101), (1, pL v1), (3, pI v3), (4, pI v4)] [] M P := by
  show Wp G J_mo_digest 0 0 141 [(0, pR 101), (1, pL v1), (3, pI v3), (4, pI v4)] [] NN RF M _
  refine wp_iload d_mo_digest_141 3 rfl ?_
  refine wp_iconst d_mo_digest_143 ⟨by decide, by decide⟩ ?_
  refine wp_icmp_ge 168 d_mo_digest_144 (by decide) (fun c1 => ?_) (fun c1 => ?_)
  · have h := h.1 c1
    refine wp_iinc (L2 := [(0, pR 101), (1, pL _), (3, pI _), (4, pI _)]) d_mo_digest_168 2 rfl (Nat.le_of_ble_eq_true rfl) [1, 2, 0, 3] rfl ?_
    refine wp_goto 130 d_mo_digest_171 (by decide) ?_
    refine wp_sub (L2 := [(0, pR 101), (1, pL _), (3, pI _)]) [0, 1, 2] rfl ?_
    exact h
  · have h := h.2 c1
    refine wp_ldc2 lk_mo_299 d_mo_digest_147 ⟨by decide, by decide⟩ ?_
    refine wp_lload_n d_mo_digest_150 rfl 1 rfl ?_
    refine wp_lmul d_mo_digest_151 ?_
    refine wp_aload_n d_mo_digest_152 rfl 0 rfl ?_
    refine wp_iload_n d_mo_digest_153 rfl 2 rfl ?_
    refine wp_iload d_mo_digest_154 3 rfl ?_
    refine wp_callV [pI _, pI _] _ d_mo_digest_156 jd_mo_cameOf lk_mo_204 rfl s_101 rfl (Nat.le_of_ble_eq_true rfl) (Nat.le_of_ble_eq_true rfl) rfl ?_
    refine clI_k h ?_
    intro x2 M1 h
    refine wp_i2l d_mo_digest_159 ?_
    refine wp_ladd d_mo_digest_160 ?_
    refine wp_lstore_n (L2 := [(0, pR 101), (1, pL _), (3, pI _), (4, pI _)]) d_mo_digest_161 rfl (Nat.le_of_ble_eq_true rfl) [1, 0, 2, 3] rfl ?_
    exact h
set_option maxHeartbeats 8000000 in
theorem b_mo_digest_116 {G : GT} {M : MT} {P : Int → MT → Prop} (v1 : Int) (v3 : Int) (v4 : Int)
    (h : WpL G J_mo_digest 91 [(0, pR 101), (1, pL v1), (3, pI v3), (4, pI (w32 (v4 + 1)))] [] M P) : WpL G J_mo_digest 116 [(0, pR 101), (1, pL v1), (3, pI v3), (4, pI v4)] [] M P := by
  show Wp G J_mo_digest 0 0 116 [(0, pR 101), (1, pL v1), (3, pI v3), (4, pI v4)] [] NN RF M _
  refine wp_iinc (L2 := [(0, pR 101), (1, pL _), (3, pI _), (4, pI _)]) d_mo_digest_116 3 rfl (Nat.le_of_ble_eq_true rfl) [1, 2, 3, 0] rfl ?_
  refine wp_goto 91 d_mo_digest_119 (by decide) ?_
  exact h
set_option maxHeartbeats 8000000 in
theorem b_mo_digest_209 {G : GT} {M : MT} {P : Int → MT → Prop} (v1 : Int)
    (h : ClI G J_mo_interestBy M [pR 101, pI 39, pI (M 101 14)] (fun x1 M1 => (WpL G J_mo_digest 227 [(0, pR 101), (1, pL (w64 ((w64 (31 * v1)) + x1)))] [] M1 P))) : WpL G J_mo_digest 209 [(0, pR 101), (1, pL v1)] [] M P := by
  show Wp G J_mo_digest 0 0 209 [(0, pR 101), (1, pL v1)] [] NN RF M _
  refine wp_ldc2 lk_mo_299 d_mo_digest_209 ⟨by decide, by decide⟩ ?_
  refine wp_lload_n d_mo_digest_212 rfl 1 rfl ?_
  refine wp_lmul d_mo_digest_213 ?_
  refine wp_aload_n d_mo_digest_214 rfl 0 rfl ?_
  refine wp_bipush d_mo_digest_215 ⟨by decide, by decide⟩ (by decide) ?_
  refine wp_aload_n d_mo_digest_217 rfl 0 rfl ?_
  refine wp_geti d_mo_digest_218 14 s_101 rfl (Nat.le_of_ble_eq_true rfl) (Nat.le_of_ble_eq_true rfl) rfl lk_mo_73 ?_
  refine wp_callV [pI _, pI _] _ d_mo_digest_221 jd_mo_interestBy lk_mo_207 rfl s_101 rfl (Nat.le_of_ble_eq_true rfl) (Nat.le_of_ble_eq_true rfl) rfl ?_
  refine clI_k h ?_
  intro x1 M1 h
  refine wp_i2l d_mo_digest_224 ?_
  refine wp_ladd d_mo_digest_225 ?_
  refine wp_lstore_n (L2 := [(0, pR 101), (1, pL _)]) d_mo_digest_226 rfl (Nat.le_of_ble_eq_true rfl) [1, 0] rfl ?_
  exact h
set_option maxHeartbeats 8000000 in
theorem b_mo_digest_162 {G : GT} {M : MT} {P : Int → MT → Prop} (v1 : Int) (v3 : Int) (v4 : Int)
    (h : WpL G J_mo_digest 141 [(0, pR 101), (1, pL v1), (3, pI v3), (4, pI (w32 (v4 + 1)))] [] M P) : WpL G J_mo_digest 162 [(0, pR 101), (1, pL v1), (3, pI v3), (4, pI v4)] [] M P := by
  show Wp G J_mo_digest 0 0 162 [(0, pR 101), (1, pL v1), (3, pI v3), (4, pI v4)] [] NN RF M _
  refine wp_iinc (L2 := [(0, pR 101), (1, pL _), (3, pI _), (4, pI _)]) d_mo_digest_162 3 rfl (Nat.le_of_ble_eq_true rfl) [1, 2, 3, 0] rfl ?_
  refine wp_goto 141 d_mo_digest_165 (by decide) ?_
  exact h
set_option maxHeartbeats 8000000 in
theorem b_mo_digest_227 {G : GT} {M : MT} {P : Int → MT → Prop} (v1 : Int)
    (h : ClI G J_mo_homeOf M [pR 101, pI 3] (fun x1 M1 => (WpL G J_mo_digest 240 [(0, pR 101), (1, pL (w64 ((w64 (31 * v1)) + x1)))] [] M1 P))) : WpL G J_mo_digest 227 [(0, pR 101), (1, pL v1)] [] M P := by
  show Wp G J_mo_digest 0 0 227 [(0, pR 101), (1, pL v1)] [] NN RF M _
  refine wp_ldc2 lk_mo_299 d_mo_digest_227 ⟨by decide, by decide⟩ ?_
  refine wp_lload_n d_mo_digest_230 rfl 1 rfl ?_
  refine wp_lmul d_mo_digest_231 ?_
  refine wp_aload_n d_mo_digest_232 rfl 0 rfl ?_
  refine wp_iconst d_mo_digest_233 ⟨by decide, by decide⟩ ?_
  refine wp_callV [pI _] _ d_mo_digest_234 jd_mo_homeOf lk_mo_210 rfl s_101 rfl (Nat.le_of_ble_eq_true rfl) (Nat.le_of_ble_eq_true rfl) rfl ?_
  refine clI_k h ?_
  intro x1 M1 h
  refine wp_i2l d_mo_digest_237 ?_
  refine wp_ladd d_mo_digest_238 ?_
  refine wp_lstore_n (L2 := [(0, pR 101), (1, pL _)]) d_mo_digest_239 rfl (Nat.le_of_ble_eq_true rfl) [1, 0] rfl ?_
  exact h
set_option maxHeartbeats 8000000 in
theorem b_mo_digest_240 {G : GT} {M : MT} {P : Int → MT → Prop} (v1 : Int)
    (h : ClI G J_mo_losesOf M [pR 101, pI 9] (fun x1 M1 => (WpL G J_mo_digest 254 [(0, pR 101), (1, pL (w64 ((w64 (31 * v1)) + x1)))] [] M1 P))) : WpL G J_mo_digest 240 [(0, pR 101), (1, pL v1)] [] M P := by
  show Wp G J_mo_digest 0 0 240 [(0, pR 101), (1, pL v1)] [] NN RF M _
  refine wp_ldc2 lk_mo_299 d_mo_digest_240 ⟨by decide, by decide⟩ ?_
  refine wp_lload_n d_mo_digest_243 rfl 1 rfl ?_
  refine wp_lmul d_mo_digest_244 ?_
  refine wp_aload_n d_mo_digest_245 rfl 0 rfl ?_
  refine wp_bipush d_mo_digest_246 ⟨by decide, by decide⟩ (by decide) ?_
  refine wp_callV [pI _] _ d_mo_digest_248 jd_mo_losesOf lk_mo_271 rfl s_101 rfl (Nat.le_of_ble_eq_true rfl) (Nat.le_of_ble_eq_true rfl) rfl ?_
  refine clI_k h ?_
  intro x1 M1 h
  refine wp_i2l d_mo_digest_251 ?_
  refine wp_ladd d_mo_digest_252 ?_
  refine wp_lstore_n (L2 := [(0, pR 101), (1, pL _)]) d_mo_digest_253 rfl (Nat.le_of_ble_eq_true rfl) [1, 0] rfl ?_
  exact h
set_option maxHeartbeats 8000000 in
theorem b_mo_digest_254 {G : GT} {M : MT} {P : Int → MT → Prop} (v1 : Int)
    (h : ClI G J_mo_bestOf M [pR 101, pI 1] (fun x1 M1 => (P (w64 ((w64 (31 * v1)) + x1)) M1))) : WpL G J_mo_digest 254 [(0, pR 101), (1, pL v1)] [] M P := by
  show Wp G J_mo_digest 0 0 254 [(0, pR 101), (1, pL v1)] [] NN RF M _
  refine wp_ldc2 lk_mo_299 d_mo_digest_254 ⟨by decide, by decide⟩ ?_
  refine wp_lload_n d_mo_digest_257 rfl 1 rfl ?_
  refine wp_lmul d_mo_digest_258 ?_
  refine wp_aload_n d_mo_digest_259 rfl 0 rfl ?_
  refine wp_iconst d_mo_digest_260 ⟨by decide, by decide⟩ ?_
  refine wp_callV [pI _] _ d_mo_digest_261 jd_mo_bestOf lk_mo_276 rfl s_101 rfl (Nat.le_of_ble_eq_true rfl) (Nat.le_of_ble_eq_true rfl) rfl ?_
  refine clI_k h ?_
  intro x1 M1 h
  refine wp_i2l d_mo_digest_264 ?_
  refine wp_ladd d_mo_digest_265 ?_
  exact wp_lret d_mo_digest_266 rfl ⟨Nat.le_of_ble_eq_true rfl, Nat.le_of_ble_eq_true rfl⟩ ⟨_, rfl, rfl, rfl, h⟩
