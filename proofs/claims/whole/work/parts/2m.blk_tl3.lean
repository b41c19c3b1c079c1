set_option maxHeartbeats 8000000 in
theorem e_tl_digestAlone {G : GT} {M : MT} {P : Int → MT → Prop} (v1 : Int) (v3 : Int)
    (h : ClI G J_tl_tune M [pR 0, pI v3, pI (-1)] (fun x1 M1 => (WpL G J_tl_digestAlone 15 [(0, pR 0), (3, pI v3), (4, pL (w64 ((w64 (31 * v1)) + x1)))] [] M1 P))) : ClL G J_tl_digestAlone M [pR 0, pL v1, pI v3] P := by
  show Wp G J_tl_digestAlone 0 0 0 [(0, pR 0), (1, pL v1), (3, pI v3)] [] NN RF M _
  refine wp_ldc2 lk_tl_298 d_tl_digestAlone_0 ⟨by decide, by decide⟩ ?_
  refine wp_lload_n d_tl_digestAlone_3 rfl 1 rfl ?_
  refine wp_lmul d_tl_digestAlone_4 ?_
  refine wp_aload_n d_tl_digestAlone_5 rfl 0 rfl ?_
  refine wp_iload_n d_tl_digestAlone_6 rfl 2 rfl ?_
  refine wp_iconst d_tl_digestAlone_7 ⟨by decide, by decide⟩ ?_
  refine wp_callV [pI _, pI _] _ d_tl_digestAlone_8 jd_tl_tune lk_tl_330 rfl s_0 rfl (Nat.le_of_ble_eq_true rfl) (Nat.le_of_ble_eq_true rfl) rfl ?_
  refine clI_k h ?_
  intro x1 M1 h
  refine wp_i2l d_tl_digestAlone_11 ?_
  refine wp_ladd d_tl_digestAlone_12 ?_
  refine wp_lstore (L2 := [(0, pR 0), (1, pL _), (3, pI _), (4, pL _)]) d_tl_digestAlone_13 (Nat.le_of_ble_eq_true rfl) [1, 2, 3, 0] rfl ?_
  refine wp_sub (L2 := [(0, pR 0), (3, pI _), (4, pL _)]) [0, 2, 3] rfl ?_
  exact h
set_option maxHeartbeats 8000000 in
theorem b_tl_digestAlone_15 {G : GT} {M : MT} {P : Int → MT → Prop} (v3 : Int) (v4 : Int)
    (h : ClI G J_tl_notes M [pR 0, pI 5, pI v3, pI (-1)] (fun x1 M1 => (WpL G J_tl_digestAlone 32 [(0, pR 0), (3, pI v3), (4, pL (w64 ((w64 (31 * v4)) + x1)))] [] M1 P))) : WpL G J_tl_digestAlone 15 [(0, pR 0), (3, pI v3), (4, pL v4)] [] M P := by
  show Wp G J_tl_digestAlone 0 0 15 [(0, pR 0), (3, pI v3), (4, pL v4)] [] NN RF M _
  refine wp_ldc2 lk_tl_298 d_tl_digestAlone_15 ⟨by decide, by decide⟩ ?_
  refine wp_lload d_tl_digestAlone_18 2 rfl ?_
  refine wp_lmul d_tl_digestAlone_20 ?_
  refine wp_aload_n d_tl_digestAlone_21 rfl 0 rfl ?_
  refine wp_iconst d_tl_digestAlone_22 ⟨by decide, by decide⟩ ?_
  refine wp_iload_n d_tl_digestAlone_23 rfl 1 rfl ?_
  refine wp_iconst d_tl_digestAlone_24 ⟨by decide, by decide⟩ ?_
  refine wp_callV [pI _, pI _, pI _] _ d_tl_digestAlone_25 jd_tl_notes lk_tl_332 rfl s_0 rfl (Nat.le_of_ble_eq_true rfl) (Nat.le_of_ble_eq_true rfl) rfl ?_
  refine clI_k h ?_
  intro x1 M1 h
  refine wp_i2l d_tl_digestAlone_28 ?_
  refine wp_ladd d_tl_digestAlone_29 ?_
  refine wp_lstore (L2 := [(0, pR 0), (3, pI _), (4, pL _)]) d_tl_digestAlone_30 (Nat.le_of_ble_eq_true rfl) [1, 2, 0] rfl ?_
  exact h
set_option maxHeartbeats 8000000 in
theorem b_tl_digestAlone_32 {G : GT} {M : MT} {P : Int → MT → Prop} (v3 : Int) (v4 : Int)
    (h : ClI G J_tl_notes M [pR 0, pI 39, pI v3, pI (-1)] (fun x1 M1 => (WpL G J_tl_digestAlone 50 [(0, pR 0), (3, pI v3), (4, pL (w64 ((w64 (31 * v4)) + x1)))] [] M1 P))) : WpL G J_tl_digestAlone 32 [(0, pR 0), (3, pI v3), (4, pL v4)] [] M P := by
  show Wp G J_tl_digestAlone 0 0 32 [(0, pR 0), (3, pI v3), (4, pL v4)] [] NN RF M _
  refine wp_ldc2 lk_tl_298 d_tl_digestAlone_32 ⟨by decide, by decide⟩ ?_
  refine wp_lload d_tl_digestAlone_35 2 rfl ?_
  refine wp_lmul d_tl_digestAlone_37 ?_
  refine wp_aload_n d_tl_digestAlone_38 rfl 0 rfl ?_
  refine wp_bipush d_tl_digestAlone_39 ⟨by decide, by decide⟩ (by decide) ?_
  refine wp_iload_n d_tl_digestAlone_41 rfl 1 rfl ?_
  refine wp_iconst d_tl_digestAlone_42 ⟨by decide, by decide⟩ ?_
  refine wp_callV [pI _, pI _, pI _] _ d_tl_digestAlone_43 jd_tl_notes lk_tl_332 rfl s_0 rfl (Nat.le_of_ble_eq_true rfl) (Nat.le_of_ble_eq_true rfl) rfl ?_
  refine clI_k h ?_
  intro x1 M1 h
  refine wp_i2l d_tl_digestAlone_46 ?_
  refine wp_ladd d_tl_digestAlone_47 ?_
  refine wp_lstore (L2 := [(0, pR 0), (3, pI _), (4, pL _)]) d_tl_digestAlone_48 (Nat.le_of_ble_eq_true rfl) [1, 2, 0] rfl ?_
  exact h
set_option maxHeartbeats 8000000 in
theorem b_tl_digestAlone_50 {G : GT} {M : MT} {P : Int → MT → Prop} (v3 : Int) (v4 : Int)
    (h : ClI G J_tl_notes M [pR 0, pI 5, pI v3, pI 2] (fun x1 M1 => (WpL G J_tl_digestAlone 67 [(0, pR 0), (3, pI v3), (4, pL (w64 ((w64 (31 * v4)) + x1)))] [] M1 P))) : WpL G J_tl_digestAlone 50 [(0, pR 0), (3, pI v3), (4, pL v4)] [] M P := by
  show Wp G J_tl_digestAlone 0 0 50 [(0, pR 0), (3, pI v3), (4, pL v4)] [] NN RF M _
  refine wp_ldc2 lk_tl_298 d_tl_digestAlone_50 ⟨by decide, by decide⟩ ?_
  refine wp_lload d_tl_digestAlone_53 2 rfl ?_
  refine wp_lmul d_tl_digestAlone_55 ?_
  refine wp_aload_n d_tl_digestAlone_56 rfl 0 rfl ?_
  refine wp_iconst d_tl_digestAlone_57 ⟨by decide, by decide⟩ ?_
  refine wp_iload_n d_tl_digestAlone_58 rfl 1 rfl ?_
  refine wp_iconst d_tl_digestAlone_59 ⟨by decide, by decide⟩ ?_
  refine wp_callV [pI _, pI _, pI _] _ d_tl_digestAlone_60 jd_tl_notes lk_tl_332 rfl s_0 rfl (Nat.le_of_ble_eq_true rfl) (Nat.le_of_ble_eq_true rfl) rfl ?_
  refine clI_k h ?_
  intro x1 M1 h
  refine wp_i2l d_tl_digestAlone_63 ?_
  refine wp_ladd d_tl_digestAlone_64 ?_
  refine wp_lstore (L2 := [(0, pR 0), (3, pI _), (4, pL _)]) d_tl_digestAlone_65 (Nat.le_of_ble_eq_true rfl) [1, 2, 0] rfl ?_
  exact h
set_option maxHeartbeats 8000000 in
theorem b_tl_digestAlone_67 {G : GT} {M : MT} {P : Int → MT → Prop} (v3 : Int) (v4 : Int)
    (h : ClI G J_tl_has M [pR 0, pI 5, pI v3] (fun x1 M1 => (WpL G J_tl_digestAlone 83 [(0, pR 0), (3, pI v3), (4, pL (w64 ((w64 (31 * v4)) + x1)))] [] M1 P))) : WpL G J_tl_digestAlone 67 [(0, pR 0), (3, pI v3), (4, pL v4)] [] M P := by
  show Wp G J_tl_digestAlone 0 0 67 [(0, pR 0), (3, pI v3), (4, pL v4)] [] NN RF M _
  refine wp_ldc2 lk_tl_298 d_tl_digestAlone_67 ⟨by decide, by decide⟩ ?_
  refine wp_lload d_tl_digestAlone_70 2 rfl ?_
  refine wp_lmul d_tl_digestAlone_72 ?_
  refine wp_aload_n d_tl_digestAlone_73 rfl 0 rfl ?_
  refine wp_iconst d_tl_digestAlone_74 ⟨by decide, by decide⟩ ?_
  refine wp_iload_n d_tl_digestAlone_75 rfl 1 rfl ?_
  refine wp_callV [pI _, pI _] _ d_tl_digestAlone_76 jd_tl_has lk_tl_335 rfl s_0 rfl (Nat.le_of_ble_eq_true rfl) (Nat.le_of_ble_eq_true rfl) rfl ?_
  refine clI_k h ?_
  intro x1 M1 h
  refine wp_i2l d_tl_digestAlone_79 ?_
  refine wp_ladd d_tl_digestAlone_80 ?_
  refine wp_lstore (L2 := [(0, pR 0), (3, pI _), (4, pL _)]) d_tl_digestAlone_81 (Nat.le_of_ble_eq_true rfl) [1, 2, 0] rfl ?_
  exact h
set_option maxHeartbeats 8000000 in
theorem b_tl_digestAlone_83 {G : GT} {M : MT} {P : Int → MT → Prop} (v3 : Int) (v4 : Int)
    (h : ClI G J_tl_lend M [pR 0, pI v3, pI 9, pI (-1)] (fun x1 M1 => (WpL G J_tl_digestAlone 101 [(0, pR 0), (3, pI v3), (4, pL (w64 ((w64 (31 * v4)) + x1)))] [] M1 P))) : WpL G J_tl_digestAlone 83 [(0, pR 0), (3, pI v3), (4, pL v4)] [] M P := by
  show Wp G J_tl_digestAlone 0 0 83 [(0, pR 0), (3, pI v3), (4, pL v4)] [] NN RF M _
  refine wp_ldc2 lk_tl_298 d_tl_digestAlone_83 ⟨by decide, by decide⟩ ?_
  refine wp_lload d_tl_digestAlone_86 2 rfl ?_
  refine wp_lmul d_tl_digestAlone_88 ?_
  refine wp_aload_n d_tl_digestAlone_89 rfl 0 rfl ?_
  refine wp_iload_n d_tl_digestAlone_90 rfl 1 rfl ?_
  refine wp_bipush d_tl_digestAlone_91 ⟨by decide, by decide⟩ (by decide) ?_
  refine wp_iconst d_tl_digestAlone_93 ⟨by decide, by decide⟩ ?_
  refine wp_callV [pI _, pI _, pI _] _ d_tl_digestAlone_94 jd_tl_lend lk_tl_338 rfl s_0 rfl (Nat.le_of_ble_eq_true rfl) (Nat.le_of_ble_eq_true rfl) rfl ?_
  refine clI_k h ?_
  intro x1 M1 h
  refine wp_i2l d_tl_digestAlone_97 ?_
  refine wp_ladd d_tl_digestAlone_98 ?_
  refine wp_lstore (L2 := [(0, pR 0), (3, pI _), (4, pL _)]) d_tl_digestAlone_99 (Nat.le_of_ble_eq_true rfl) [1, 2, 0] rfl ?_
  exact h
set_option maxHeartbeats 8000000 in
theorem b_tl_digestAlone_101 {G : GT} {M : MT} {P : Int → MT → Prop} (v3 : Int) (v4 : Int)
    (h : ClI G J_tl_lend M [pR 0, pI v3, pI 9, pI 0] (fun x1 M1 => (WpL G J_tl_digestAlone 119 [(0, pR 0), (3, pI v3), (4, pL (w64 ((w64 (31 * v4)) + x1)))] [] M1 P))) : WpL G J_tl_digestAlone 101 [(0, pR 0), (3, pI v3), (4, pL v4)] [] M P := by
  show Wp G J_tl_digestAlone 0 0 101 [(0, pR 0), (3, pI v3), (4, pL v4)] [] NN RF M _
  refine wp_ldc2 lk_tl_298 d_tl_digestAlone_101 ⟨by decide, by decide⟩ ?_
  refine wp_lload d_tl_digestAlone_104 2 rfl ?_
  refine wp_lmul d_tl_digestAlone_106 ?_
  refine wp_aload_n d_tl_digestAlone_107 rfl 0 rfl ?_
  refine wp_iload_n d_tl_digestAlone_108 rfl 1 rfl ?_
  refine wp_bipush d_tl_digestAlone_109 ⟨by decide, by decide⟩ (by decide) ?_
  refine wp_iconst d_tl_digestAlone_111 ⟨by decide, by decide⟩ ?_
  refine wp_callV [pI _, pI _, pI _] _ d_tl_digestAlone_112 jd_tl_lend lk_tl_338 rfl s_0 rfl (Nat.le_of_ble_eq_true rfl) (Nat.le_of_ble_eq_true rfl) rfl ?_
  refine clI_k h ?_
  intro x1 M1 h
  refine wp_i2l d_tl_digestAlone_115 ?_
  refine wp_ladd d_tl_digestAlone_116 ?_
  refine wp_lstore (L2 := [(0, pR 0), (3, pI _), (4, pL _)]) d_tl_digestAlone_117 (Nat.le_of_ble_eq_true rfl) [1, 2, 0] rfl ?_
  exact h
set_option maxHeartbeats 8000000 in
theorem b_tl_digestAlone_119 {G : GT} {M : MT} {P : Int → MT → Prop} (v3 : Int) (v4 : Int)
    (h : ClI G J_tl_longest M [pR 0, pI v3, pI 3, pI (-1)] (fun x1 M1 => (WpL G J_tl_digestAlone 136 [(0, pR 0), (3, pI v3), (4, pL (w64 ((w64 (31 * v4)) + x1)))] [] M1 P))) : WpL G J_tl_digestAlone 119 [(0, pR 0), (3, pI v3), (4, pL v4)] [] M P := by
  show Wp G J_tl_digestAlone 0 0 119 [(0, pR 0), (3, pI v3), (4, pL v4)] [] NN RF M _
  refine wp_ldc2 lk_tl_298 d_tl_digestAlone_119 ⟨by decide, by decide⟩ ?_
  refine wp_lload d_tl_digestAlone_122 2 rfl ?_
  refine wp_lmul d_tl_digestAlone_124 ?_
  refine wp_aload_n d_tl_digestAlone_125 rfl 0 rfl ?_
  refine wp_iload_n d_tl_digestAlone_126 rfl 1 rfl ?_
  refine wp_iconst d_tl_digestAlone_127 ⟨by decide, by decide⟩ ?_
  refine wp_iconst d_tl_digestAlone_128 ⟨by decide, by decide⟩ ?_
  refine wp_callV [pI _, pI _, pI _] _ d_tl_digestAlone_129 jd_tl_longest lk_tl_341 rfl s_0 rfl (Nat.le_of_ble_eq_true rfl) (Nat.le_of_ble_eq_true rfl) rfl ?_
  refine clI_k h ?_
  intro x1 M1 h
  refine wp_i2l d_tl_digestAlone_132 ?_
  refine wp_ladd d_tl_digestAlone_133 ?_
  refine wp_lstore (L2 := [(0, pR 0), (3, pI _), (4, pL _)]) d_tl_digestAlone_134 (Nat.le_of_ble_eq_true rfl) [1, 2, 0] rfl ?_
  exact h
set_option maxHeartbeats 8000000 in
theorem b_tl_digestAlone_136 {G : GT} {M : MT} {P : Int → MT → Prop} (v3 : Int) (v4 : Int)
    (h : ClI G J_tl_longest M [pR 0, pI v3, pI 3, pI 0] (fun x1 M1 => (P (w64 ((w64 (31 * v4)) + x1)) M1))) : WpL G J_tl_digestAlone 136 [(0, pR 0), (3, pI v3), (4, pL v4)] [] M P := by
  show Wp G J_tl_digestAlone 0 0 136 [(0, pR 0), (3, pI v3), (4, pL v4)] [] NN RF M _
  refine wp_ldc2 lk_tl_298 d_tl_digestAlone_136 ⟨by decide, by decide⟩ ?_
  refine wp_lload d_tl_digestAlone_139 2 rfl ?_
  refine wp_lmul d_tl_digestAlone_141 ?_
  refine wp_aload_n d_tl_digestAlone_142 rfl 0 rfl ?_
  refine wp_iload_n d_tl_digestAlone_143 rfl 1 rfl ?_
  refine wp_iconst d_tl_digestAlone_144 ⟨by decide, by decide⟩ ?_
  refine wp_iconst d_tl_digestAlone_145 ⟨by decide, by decide⟩ ?_
  refine wp_callV [pI _, pI _, pI _] _ d_tl_digestAlone_146 jd_tl_longest lk_tl_341 rfl s_0 rfl (Nat.le_of_ble_eq_true rfl) (Nat.le_of_ble_eq_true rfl) rfl ?_
  refine clI_k h ?_
  intro x1 M1 h
  refine wp_i2l d_tl_digestAlone_149 ?_
  refine wp_ladd d_tl_digestAlone_150 ?_
  exact wp_lret d_tl_digestAlone_151 rfl ⟨Nat.le_of_ble_eq_true rfl, Nat.le_of_ble_eq_true rfl⟩ ⟨_, rfl, rfl, rfl, h⟩
set_option maxHeartbeats 8000000 in
theorem e_tl_digestTogether {G : GT} {M : MT} {P : Int → MT → Prop} (v1 : Int) (v3 : Int)
    (h : ClI G J_tl_who M [pR 0, pI 0, pI v3, pI 0] (fun x1 M1 => (WpL G J_tl_digestTogether 16 [(0, pR 0), (3, pI v3), (4, pL (w64 ((w64 (31 * v1)) + x1)))] [] M1 P))) : ClL G J_tl_digestTogether M [pR 0, pL v1, pI v3] P := by
  show Wp G J_tl_digestTogether 0 0 0 [(0, pR 0), (1, pL v1), (3, pI v3)] [] NN RF M _
  refine wp_ldc2 lk_tl_298 d_tl_digestTogether_0 ⟨by decide, by decide⟩ ?_
  refine wp_lload_n d_tl_digestTogether_3 rfl 1 rfl ?_
  refine wp_lmul d_tl_digestTogether_4 ?_
  refine wp_aload_n d_tl_digestTogether_5 rfl 0 rfl ?_
  refine wp_iconst d_tl_digestTogether_6 ⟨by decide, by decide⟩ ?_
  refine wp_iload_n d_tl_digestTogether_7 rfl 2 rfl ?_
  refine wp_iconst d_tl_digestTogether_8 ⟨by decide, by decide⟩ ?_
  refine wp_callV [pI _, pI _, pI _] _ d_tl_digestTogether_9 jd_tl_who lk_tl_344 rfl s_0 rfl (Nat.le_of_ble_eq_true rfl) (Nat.le_of_ble_eq_true rfl) rfl ?_
  refine clI_k h ?_
  intro x1 M1 h
  refine wp_i2l d_tl_digestTogether_12 ?_
  refine wp_ladd d_tl_digestTogether_13 ?_
  refine wp_lstore (L2 := [(0, pR 0), (1, pL _), (3, pI _), (4, pL _)]) d_tl_digestTogether_14 (Nat.le_of_ble_eq_true rfl) [1, 2, 3, 0] rfl ?_
  refine wp_sub (L2 := [(0, pR 0), (3, pI _), (4, pL _)]) [0, 2, 3] rfl ?_
  exact h
set_option maxHeartbeats 8000000 in
theorem b_tl_digestTogether_16 {G : GT} {M : MT} {P : Int → MT → Prop} (v3 : Int) (v4 : Int)
    (h : ClI G J_tl_who M [pR 0, pI 0, pI v3, pI 1] (fun x1 M1 => (WpL G J_tl_digestTogether 33 [(0, pR 0), (3, pI v3), (4, pL (w64 ((w64 (31 * v4)) + x1)))] [] M1 P))) : WpL G J_tl_digestTogether 16 [(0, pR 0), (3, pI v3), (4, pL v4)] [] M P := by
  show Wp G J_tl_digestTogether 0 0 16 [(0, pR 0), (3, pI v3), (4, pL v4)] [] NN RF M _
  refine wp_ldc2 lk_tl_298 d_tl_digestTogether_16 ⟨by decide, by decide⟩ ?_
  refine wp_lload d_tl_digestTogether_19 2 rfl ?_
  refine wp_lmul d_tl_digestTogether_21 ?_
  refine wp_aload_n d_tl_digestTogether_22 rfl 0 rfl ?_
  refine wp_iconst d_tl_digestTogether_23 ⟨by decide, by decide⟩ ?_
  refine wp_iload_n d_tl_digestTogether_24 rfl 1 rfl ?_
  refine wp_iconst d_tl_digestTogether_25 ⟨by decide, by decide⟩ ?_
  refine wp_callV [pI _, pI _, pI _] _ d_tl_digestTogether_26 jd_tl_who lk_tl_344 rfl s_0 rfl (Nat.le_of_ble_eq_true rfl) (Nat.le_of_ble_eq_true rfl) rfl ?_
  refine clI_k h ?_
  intro x1 M1 h
  refine wp_i2l d_tl_digestTogether_29 ?_
  refine wp_ladd d_tl_digestTogether_30 ?_
  refine wp_lstore (L2 := [(0, pR 0), (3, pI _), (4, pL _)]) d_tl_digestTogether_31 (Nat.le_of_ble_eq_true rfl) [1, 2, 0] rfl ?_
  exact h
set_option maxHeartbeats 8000000 in
theorem b_tl_digestTogether_33 {G : GT} {M : MT} {P : Int → MT → Prop} (v3 : Int) (v4 : Int)
    (h : ClI G J_tl_far M [pR 0, pI 0, pI v3] (fun x1 M1 => (WpL G J_tl_digestTogether 49 [(0, pR 0), (3, pI v3), (4, pL (w64 ((w64 (31 * v4)) + x1)))] [] M1 P))) : WpL G J_tl_digestTogether 33 [(0, pR 0), (3, pI v3), (4, pL v4)] [] M P := by
  show Wp G J_tl_digestTogether 0 0 33 [(0, pR 0), (3, pI v3), (4, pL v4)] [] NN RF M _
  refine wp_ldc2 lk_tl_298 d_tl_digestTogether_33 ⟨by decide, by decide⟩ ?_
  refine wp_lload d_tl_digestTogether_36 2 rfl ?_
  refine wp_lmul d_tl_digestTogether_38 ?_
  refine wp_aload_n d_tl_digestTogether_39 rfl 0 rfl ?_
  refine wp_iconst d_tl_digestTogether_40 ⟨by decide, by decide⟩ ?_
  refine wp_iload_n d_tl_digestTogether_41 rfl 1 rfl ?_
  refine wp_callV [pI _, pI _] _ d_tl_digestTogether_42 jd_tl_far lk_tl_228 rfl s_0 rfl (Nat.le_of_ble_eq_true rfl) (Nat.le_of_ble_eq_true rfl) rfl ?_
  refine clI_k h ?_
  intro x1 M1 h
  refine wp_i2l d_tl_digestTogether_45 ?_
  refine wp_ladd d_tl_digestTogether_46 ?_
  refine wp_lstore (L2 := [(0, pR 0), (3, pI _), (4, pL _)]) d_tl_digestTogether_47 (Nat.le_of_ble_eq_true rfl) [1, 2, 0] rfl ?_
  exact h
set_option maxHeartbeats 8000000 in
theorem b_tl_digestTogether_49 {G : GT} {M : MT} {P : Int → MT → Prop} (v3 : Int) (v4 : Int)
    (h : ClI G J_tl_nearest M [pR 0, pI v3] (fun x1 M1 => (WpL G J_tl_digestTogether 64 [(0, pR 0), (3, pI v3), (4, pL (w64 ((w64 (31 * v4)) + x1)))] [] M1 P))) : WpL G J_tl_digestTogether 49 [(0, pR 0), (3, pI v3), (4, pL v4)] [] M P := by
  show Wp G J_tl_digestTogether 0 0 49 [(0, pR 0), (3, pI v3), (4, pL v4)] [] NN RF M _
  refine wp_ldc2 lk_tl_298 d_tl_digestTogether_49 ⟨by decide, by decide⟩ ?_
  refine wp_lload d_tl_digestTogether_52 2 rfl ?_
  refine wp_lmul d_tl_digestTogether_54 ?_
  refine wp_aload_n d_tl_digestTogether_55 rfl 0 rfl ?_
  refine wp_iload_n d_tl_digestTogether_56 rfl 1 rfl ?_
  refine wp_callV [pI _] _ d_tl_digestTogether_57 jd_tl_nearest lk_tl_347 rfl s_0 rfl (Nat.le_of_ble_eq_true rfl) (Nat.le_of_ble_eq_true rfl) rfl ?_
  refine clI_k h ?_
  intro x1 M1 h
  refine wp_i2l d_tl_digestTogether_60 ?_
  refine wp_ladd d_tl_digestTogether_61 ?_
  refine wp_lstore (L2 := [(0, pR 0), (3, pI _), (4, pL _)]) d_tl_digestTogether_62 (Nat.le_of_ble_eq_true rfl) [1, 2, 0] rfl ?_
  exact h
set_option maxHeartbeats 8000000 in
theorem b_tl_digestTogether_64 {G : GT} {M : MT} {P : Int → MT → Prop} (v3 : Int) (v4 : Int)
    (h : ClI G J_tl_mothers M [pR 0, pI v3] (fun x1 M1 => (WpL G J_tl_digestTogether 79 [(0, pR 0), (3, pI v3), (4, pL (w64 ((w64 (31 * v4)) + x1)))] [] M1 P))) : WpL G J_tl_digestTogether 64 [(0, pR 0), (3, pI v3), (4, pL v4)] [] M P := by
  show Wp G J_tl_digestTogether 0 0 64 [(0, pR 0), (3, pI v3), (4, pL v4)] [] NN RF M _
  refine wp_ldc2 lk_tl_298 d_tl_digestTogether_64 ⟨by decide, by decide⟩ ?_
  refine wp_lload d_tl_digestTogether_67 2 rfl ?_
  refine wp_lmul d_tl_digestTogether_69 ?_
  refine wp_aload_n d_tl_digestTogether_70 rfl 0 rfl ?_
  refine wp_iload_n d_tl_digestTogether_71 rfl 1 rfl ?_
  refine wp_callV [pI _] _ d_tl_digestTogether_72 jd_tl_mothers lk_tl_350 rfl s_0 rfl (Nat.le_of_ble_eq_true rfl) (Nat.le_of_ble_eq_true rfl) rfl ?_
  refine clI_k h ?_
  intro x1 M1 h
  refine wp_i2l d_tl_digestTogether_75 ?_
  refine wp_ladd d_tl_digestTogether_76 ?_
  refine wp_lstore (L2 := [(0, pR 0), (3, pI _), (4, pL _)]) d_tl_digestTogether_77 (Nat.le_of_ble_eq_true rfl) [1, 2, 0] rfl ?_
  exact h
set_option maxHeartbeats 8000000 in
theorem b_tl_digestTogether_79 {G : GT} {M : MT} {P : Int → MT → Prop} (v3 : Int) (v4 : Int)
    (h : ClI G J_tl_tells M [pR 0, pI v3, pI 0] (fun x1 M1 => (WpL G J_tl_digestTogether 95 [(0, pR 0), (3, pI v3), (4, pL (w64 ((w64 (31 * v4)) + x1)))] [] M1 P))) : WpL G J_tl_digestTogether 79 [(0, pR 0), (3, pI v3), (4, pL v4)] [] M P := by
  show Wp G J_tl_digestTogether 0 0 79 [(0, pR 0), (3, pI v3), (4, pL v4)] [] NN RF M _
  refine wp_ldc2 lk_tl_298 d_tl_digestTogether_79 ⟨by decide, by decide⟩ ?_
  refine wp_lload d_tl_digestTogether_82 2 rfl ?_
  refine wp_lmul d_tl_digestTogether_84 ?_
  refine wp_aload_n d_tl_digestTogether_85 rfl 0 rfl ?_
  refine wp_iload_n d_tl_digestTogether_86 rfl 1 rfl ?_
  refine wp_iconst d_tl_digestTogether_87 ⟨by decide, by decide⟩ ?_
  refine wp_callV [pI _, pI _] _ d_tl_digestTogether_88 jd_tl_tells lk_tl_353 rfl s_0 rfl (Nat.le_of_ble_eq_true rfl) (Nat.le_of_ble_eq_true rfl) rfl ?_
  refine clI_k h ?_
  intro x1 M1 h
  refine wp_i2l d_tl_digestTogether_91 ?_
  refine wp_ladd d_tl_digestTogether_92 ?_
  refine wp_lstore (L2 := [(0, pR 0), (3, pI _), (4, pL _)]) d_tl_digestTogether_93 (Nat.le_of_ble_eq_true rfl) [1, 2, 0] rfl ?_
  exact h
set_option maxHeartbeats 8000000 in
theorem b_tl_digestTogether_95 {G : GT} {M : MT} {P : Int → MT → Prop} (v3 : Int) (v4 : Int)
    (h : ClI G J_tl_tells M [pR 0, pI v3, pI 1] (fun x1 M1 => (WpL G J_tl_digestTogether 111 [(0, pR 0), (3, pI v3), (4, pL (w64 ((w64 (31 * v4)) + x1)))] [] M1 P))) : WpL G J_tl_digestTogether 95 [(0, pR 0), (3, pI v3), (4, pL v4)] [] M P := by
  show Wp G J_tl_digestTogether 0 0 95 [(0, pR 0), (3, pI v3), (4, pL v4)] [] NN RF M _
  refine wp_ldc2 lk_tl_298 d_tl_digestTogether_95 ⟨by decide, by decide⟩ ?_
  refine wp_lload d_tl_digestTogether_98 2 rfl ?_
  refine wp_lmul d_tl_digestTogether_100 ?_
  refine wp_aload_n d_tl_digestTogether_101 rfl 0 rfl ?_
  refine wp_iload_n d_tl_digestTogether_102 rfl 1 rfl ?_
  refine wp_iconst d_tl_digestTogether_103 ⟨by decide, by decide⟩ ?_
  refine wp_callV [pI _, pI _] _ d_tl_digestTogether_104 jd_tl_tells lk_tl_353 rfl s_0 rfl (Nat.le_of_ble_eq_true rfl) (Nat.le_of_ble_eq_true rfl) rfl ?_
  refine clI_k h ?_
  intro x1 M1 h
  refine wp_i2l d_tl_digestTogether_107 ?_
  refine wp_ladd d_tl_digestTogether_108 ?_
  refine wp_lstore (L2 := [(0, pR 0), (3, pI _), (4, pL _)]) d_tl_digestTogether_109 (Nat.le_of_ble_eq_true rfl) [1, 2, 0] rfl ?_
  exact h
set_option maxHeartbeats 8000000 in
theorem b_tl_digestTogether_111 {G : GT} {M : MT} {P : Int → MT → Prop} (v3 : Int) (v4 : Int)
    (h : ClI G J_tl_fair M [pR 0, pI 7, pI 9, pI v3] (fun x1 M1 => (WpL G J_tl_digestTogether 130 [(0, pR 0), (3, pI v3), (4, pL (w64 ((w64 (31 * v4)) + x1)))] [] M1 P))) : WpL G J_tl_digestTogether 111 [(0, pR 0), (3, pI v3), (4, pL v4)] [] M P := by
  show Wp G J_tl_digestTogether 0 0 111 [(0, pR 0), (3, pI v3), (4, pL v4)] [] NN RF M _
  refine wp_ldc2 lk_tl_298 d_tl_digestTogether_111 ⟨by decide, by decide⟩ ?_
  refine wp_lload d_tl_digestTogether_114 2 rfl ?_
  refine wp_lmul d_tl_digestTogether_116 ?_
  refine wp_aload_n d_tl_digestTogether_117 rfl 0 rfl ?_
  refine wp_bipush d_tl_digestTogether_118 ⟨by decide, by decide⟩ (by decide) ?_
  refine wp_bipush d_tl_digestTogether_120 ⟨by decide, by decide⟩ (by decide) ?_
  refine wp_iload_n d_tl_digestTogether_122 rfl 1 rfl ?_
  refine wp_callV [pI _, pI _, pI _] _ d_tl_digestTogether_123 jd_tl_fair lk_tl_356 rfl s_0 rfl (Nat.le_of_ble_eq_true rfl) (Nat.le_of_ble_eq_true rfl) rfl ?_
  refine clI_k h ?_
  intro x1 M1 h
  refine wp_i2l d_tl_digestTogether_126 ?_
  refine wp_ladd d_tl_digestTogether_127 ?_
  refine wp_lstore (L2 := [(0, pR 0), (3, pI _), (4, pL _)]) d_tl_digestTogether_128 (Nat.le_of_ble_eq_true rfl) [1, 2, 0] rfl ?_
  exact h
set_option maxHeartbeats 8000000 in
theorem b_tl_digestTogether_130 {G : GT} {M : MT} {P : Int → MT → Prop} (v3 : Int) (v4 : Int)
    (h : ClL G J_tl_hums M [pR 0, pI 5, pI v3, pI 0, pI 4, pI 9, pI 0] (fun x1 M1 => (WpL G J_tl_digestTogether 150 [(0, pR 0), (3, pI v3), (4, pL (w64 ((w64 (31 * v4)) + x1)))] [] M1 P))) : WpL G J_tl_digestTogether 130 [(0, pR 0), (3, pI v3), (4, pL v4)] [] M P := by
  show Wp G J_tl_digestTogether 0 0 130 [(0, pR 0), (3, pI v3), (4, pL v4)] [] NN RF M _
  refine wp_ldc2 lk_tl_298 d_tl_digestTogether_130 ⟨by decide, by decide⟩ ?_
  refine wp_lload d_tl_digestTogether_133 2 rfl ?_
  refine wp_lmul d_tl_digestTogether_135 ?_
  refine wp_aload_n d_tl_digestTogether_136 rfl 0 rfl ?_
  refine wp_iconst d_tl_digestTogether_137 ⟨by decide, by decide⟩ ?_
  refine wp_iload_n d_tl_digestTogether_138 rfl 1 rfl ?_
  refine wp_iconst d_tl_digestTogether_139 ⟨by decide, by decide⟩ ?_
  refine wp_iconst d_tl_digestTogether_140 ⟨by decide, by decide⟩ ?_
  refine wp_bipush d_tl_digestTogether_141 ⟨by decide, by decide⟩ (by decide) ?_
  refine wp_iconst d_tl_digestTogether_143 ⟨by decide, by decide⟩ ?_
  refine wp_callV [pI _, pI _, pI _, pI _, pI _, pI _] _ d_tl_digestTogether_144 jd_tl_hums lk_tl_359 rfl s_0 rfl (Nat.le_of_ble_eq_true rfl) (Nat.le_of_ble_eq_true rfl) rfl ?_
  refine clL_k h ?_
  intro x1 M1 h
  refine wp_ladd d_tl_digestTogether_147 ?_
  refine wp_lstore (L2 := [(0, pR 0), (3, pI _), (4, pL _)]) d_tl_digestTogether_148 (Nat.le_of_ble_eq_true rfl) [1, 2, 0] rfl ?_
  exact h
set_option maxHeartbeats 8000000 in
theorem b_tl_digestTogether_150 {G : GT} {M : MT} {P : Int → MT → Prop} (v3 : Int) (v4 : Int)
    (h : ClL G J_tl_hums M [pR 0, pI 5, pI v3, pI 0, pI 4, pI 9, pI 1] (fun x1 M1 => (P (w64 ((w64 (31 * v4)) + x1)) M1))) : WpL G J_tl_digestTogether 150 [(0, pR 0), (3, pI v3), (4, pL v4)] [] M P := by
  show Wp G J_tl_digestTogether 0 0 150 [(0, pR 0), (3, pI v3), (4, pL v4)] [] NN RF M _
  refine wp_ldc2 lk_tl_298 d_tl_digestTogether_150 ⟨by decide, by decide⟩ ?_
  refine wp_lload d_tl_digestTogether_153 2 rfl ?_
  refine wp_lmul d_tl_digestTogether_155 ?_
  refine wp_aload_n d_tl_digestTogether_156 rfl 0 rfl ?_
  refine wp_iconst d_tl_digestTogether_157 ⟨by decide, by decide⟩ ?_
  refine wp_iload_n d_tl_digestTogether_158 rfl 1 rfl ?_
  refine wp_iconst d_tl_digestTogether_159 ⟨by decide, by decide⟩ ?_
  refine wp_iconst d_tl_digestTogether_160 ⟨by decide, by decide⟩ ?_
  refine wp_bipush d_tl_digestTogether_161 ⟨by decide, by decide⟩ (by decide) ?_
  refine wp_iconst d_tl_digestTogether_163 ⟨by decide, by decide⟩ ?_
  refine wp_callV [pI _, pI _, pI _, pI _, pI _, pI _] _ d_tl_digestTogether_164 jd_tl_hums lk_tl_359 rfl s_0 rfl (Nat.le_of_ble_eq_true rfl) (Nat.le_of_ble_eq_true rfl) rfl ?_
  refine clL_k h ?_
  intro x1 M1 h
  refine wp_ladd d_tl_digestTogether_167 ?_
  exact wp_lret d_tl_digestTogether_168 rfl ⟨Nat.le_of_ble_eq_true rfl, Nat.le_of_ble_eq_true rfl⟩ ⟨_, rfl, rfl, rfl, h⟩
set_option maxHeartbeats 8000000 in
theorem e_tl_within {G : GT} {M : MT} {P : Int → MT → Prop} (v0 : Int) (v1 : Int) (v2 : Int)
    (h : (v0 < v1 → P 0 M) ∧ (v1 ≤ v0 → (v2 < v0 → P 0 M) ∧ (v0 ≤ v2 → P 1 M))) : ClI G J_tl_within M [pI v0, pI v1, pI v2] P := by
  show Wp G J_tl_within 0 0 0 [(0, pI v0), (1, pI v1), (2, pI v2)] [] NN RF M _
  refine wp_iload_n d_tl_within_0 rfl 0 rfl ?_
  refine wp_iload_n d_tl_within_1 rfl 1 rfl ?_
  refine wp_icmp_lt 14 d_tl_within_2 (by decide) (fun c1 => ?_) (fun c1 => ?_)
  · have h := h.1 c1
    refine wp_iconst d_tl_within_14 ⟨by decide, by decide⟩ ?_
    exact wp_zret d_tl_within_15 rfl ⟨Nat.le_of_ble_eq_true rfl, Nat.le_of_ble_eq_true rfl⟩ (by decide) ⟨_, rfl, rfl, rfl, h⟩
  · have h := h.2 c1
    refine wp_iload_n d_tl_within_5 rfl 0 rfl ?_
    refine wp_iload_n d_tl_within_6 rfl 2 rfl ?_
    refine wp_icmp_gt 14 d_tl_within_7 (by decide) (fun c2 => ?_) (fun c2 => ?_)
    · have h := h.1 c2
      refine wp_iconst d_tl_within_14 ⟨by decide, by decide⟩ ?_
      exact wp_zret d_tl_within_15 rfl ⟨Nat.le_of_ble_eq_true rfl, Nat.le_of_ble_eq_true rfl⟩ (by decide) ⟨_, rfl, rfl, rfl, h⟩
    · have h := h.2 c2
      refine wp_iconst d_tl_within_10 ⟨by decide, by decide⟩ ?_
      refine wp_goto 15 d_tl_within_11 (by decide) ?_
      exact wp_zret d_tl_within_15 rfl ⟨Nat.le_of_ble_eq_true rfl, Nat.le_of_ble_eq_true rfl⟩ (by decide) ⟨_, rfl, rfl, rfl, h⟩
set_option maxHeartbeats 8000000 in
theorem e_tl_isText {G : GT} {M : MT} {P : Int → MT → Prop} (v0 : Int)
    (h : ClI G J_tl_within M [pI v0, pI 0, pI 1] (fun x1 M1 => ((x1 = 0 ∨ x1 = 1) ∧ (P x1 M1)))) : ClI G J_tl_isText M [pI v0] P := by
  show Wp G J_tl_isText 0 0 0 [(0, pI v0)] [] NN RF M _
  refine wp_iload_n d_tl_isText_0 rfl 0 rfl ?_
  refine wp_iconst d_tl_isText_1 ⟨by decide, by decide⟩ ?_
  refine wp_iconst d_tl_isText_2 ⟨by decide, by decide⟩ ?_
  refine wp_callS [pI _, pI _, pI _] d_tl_isText_3 jd_tl_within lk_tl_59 rfl (Nat.le_of_ble_eq_true rfl) rfl ?_
  refine clI_k h ?_
  intro x1 M1 h
  obtain ⟨g2, h⟩ := h
  exact wp_zret d_tl_isText_6 rfl ⟨Nat.le_of_ble_eq_true rfl, Nat.le_of_ble_eq_true rfl⟩ g2 ⟨_, rfl, rfl, rfl, h⟩
set_option maxHeartbeats 8000000 in
theorem e_tl_isYear {G : GT} {M : MT} {P : Int → MT → Prop} (v0 : Int)
    (h : ClI G J_tl_within M [pI v0, pI 0, pI 39] (fun x1 M1 => ((x1 = 0 ∨ x1 = 1) ∧ (P x1 M1)))) : ClI G J_tl_isYear M [pI v0] P := by
  show Wp G J_tl_isYear 0 0 0 [(0, pI v0)] [] NN RF M _
  refine wp_iload_n d_tl_isYear_0 rfl 0 rfl ?_
  refine wp_iconst d_tl_isYear_1 ⟨by decide, by decide⟩ ?_
  refine wp_bipush d_tl_isYear_2 ⟨by decide, by decide⟩ (by decide) ?_
  refine wp_callS [pI _, pI _, pI _] d_tl_isYear_4 jd_tl_within lk_tl_59 rfl (Nat.le_of_ble_eq_true rfl) rfl ?_
  refine clI_k h ?_
  intro x1 M1 h
  obtain ⟨g2, h⟩ := h
  exact wp_zret d_tl_isYear_7 rfl ⟨Nat.le_of_ble_eq_true rfl, Nat.le_of_ble_eq_true rfl⟩ g2 ⟨_, rfl, rfl, rfl, h⟩
set_option maxHeartbeats 8000000 in
theorem e_tl_isEar {G : GT} {M : MT} {P : Int → MT → Prop} (v0 : Int)
    (h : ClI G J_tl_within M [pI v0, pI 0, pI 12] (fun x1 M1 => ((x1 = 0 ∨ x1 = 1) ∧ (P x1 M1)))) : ClI G J_tl_isEar M [pI v0] P := by
  show Wp G J_tl_isEar 0 0 0 [(0, pI v0)] [] NN RF M _
  refine wp_iload_n d_tl_isEar_0 rfl 0 rfl ?_
  refine wp_iconst d_tl_isEar_1 ⟨by decide, by decide⟩ ?_
  refine wp_bipush d_tl_isEar_2 ⟨by decide, by decide⟩ (by decide) ?_
  refine wp_callS [pI _, pI _, pI _] d_tl_isEar_4 jd_tl_within lk_tl_59 rfl (Nat.le_of_ble_eq_true rfl) rfl ?_
  refine clI_k h ?_
  intro x1 M1 h
  obtain ⟨g2, h⟩ := h
  exact wp_zret d_tl_isEar_7 rfl ⟨Nat.le_of_ble_eq_true rfl, Nat.le_of_ble_eq_true rfl⟩ g2 ⟨_, rfl, rfl, rfl, h⟩
set_option maxHeartbeats 8000000 in
theorem e_tl_isSheet {G : GT} {M : MT} {P : Int → MT → Prop} (v0 : Int)
    (h : ClI G J_tl_within M [pI v0, pI 0, pI 3] (fun x1 M1 => ((x1 = 0 ∨ x1 = 1) ∧ (P x1 M1)))) : ClI G J_tl_isSheet M [pI v0] P := by
  show Wp G J_tl_isSheet 0 0 0 [(0, pI v0)] [] NN RF M _
  refine wp_iload_n d_tl_isSheet_0 rfl 0 rfl ?_
  refine wp_iconst d_tl_isSheet_1 ⟨by decide, by decide⟩ ?_
  refine wp_iconst d_tl_isSheet_2 ⟨by decide, by decide⟩ ?_
  refine wp_callS [pI _, pI _, pI _] d_tl_isSheet_3 jd_tl_within lk_tl_59 rfl (Nat.le_of_ble_eq_true rfl) rfl ?_
  refine clI_k h ?_
  intro x1 M1 h
  obtain ⟨g2, h⟩ := h
  exact wp_zret d_tl_isSheet_6 rfl ⟨Nat.le_of_ble_eq_true rfl, Nat.le_of_ble_eq_true rfl⟩ g2 ⟨_, rfl, rfl, rfl, h⟩
set_option maxHeartbeats 8000000 in
theorem e_tl_isForm {G : GT} {M : MT} {P : Int → MT → Prop} (v0 : Int)
    (h : ClI G J_tl_within M [pI v0, pI 0, pI 2] (fun x1 M1 => ((x1 = 0 ∨ x1 = 1) ∧ (P x1 M1)))) : ClI G J_tl_isForm M [pI v0] P := by
  show Wp G J_tl_isForm 0 0 0 [(0, pI v0)] [] NN RF M _
  refine wp_iload_n d_tl_isForm_0 rfl 0 rfl ?_
  refine wp_iconst d_tl_isForm_1 ⟨by decide, by decide⟩ ?_
  refine wp_iconst d_tl_isForm_2 ⟨by decide, by decide⟩ ?_
  refine wp_callS [pI _, pI _, pI _] d_tl_isForm_3 jd_tl_within lk_tl_59 rfl (Nat.le_of_ble_eq_true rfl) rfl ?_
  refine clI_k h ?_
  intro x1 M1 h
  obtain ⟨g2, h⟩ := h
  exact wp_zret d_tl_isForm_6 rfl ⟨Nat.le_of_ble_eq_true rfl, Nat.le_of_ble_eq_true rfl⟩ g2 ⟨_, rfl, rfl, rfl, h⟩
set_option maxHeartbeats 8000000 in
theorem e_tl_isTune {G : GT} {M : MT} {P : Int → MT → Prop} (v1 : Int)
    (h : ClI G J_tl_within M [pI v1, pI 0, pI (w32 ((M 1 4) - 1))] (fun x1 M1 => ((x1 = 0 ∨ x1 = 1) ∧ (P x1 M1)))) : ClI G J_tl_isTune M [pR 0, pI v1] P := by
  show Wp G J_tl_isTune 0 0 0 [(0, pR 0), (1, pI v1)] [] NN RF M _
  refine wp_iload_n d_tl_isTune_0 rfl 1 rfl ?_
  refine wp_iconst d_tl_isTune_1 ⟨by decide, by decide⟩ ?_
  refine wp_aload_n d_tl_isTune_2 rfl 0 rfl ?_
  refine wp_getr d_tl_isTune_3 0 s_0 rfl (Nat.le_of_ble_eq_true rfl) (Nat.le_of_ble_eq_true rfl) rfl rfl lk_tl_10 ?_
  refine wp_geti d_tl_isTune_6 4 s_1 rfl (Nat.le_of_ble_eq_true rfl) (Nat.le_of_ble_eq_true rfl) rfl lk_tl_225 ?_
  refine wp_iconst d_tl_isTune_9 ⟨by decide, by decide⟩ ?_
  refine wp_isub d_tl_isTune_10 ?_
  refine wp_callS [pI _, pI _, pI _] d_tl_isTune_11 jd_tl_within lk_tl_59 rfl (Nat.le_of_ble_eq_true rfl) rfl ?_
  refine clI_k h ?_
  intro x1 M1 h
  obtain ⟨g2, h⟩ := h
  exact wp_zret d_tl_isTune_14 rfl ⟨Nat.le_of_ble_eq_true rfl, Nat.le_of_ble_eq_true rfl⟩ g2 ⟨_, rfl, rfl, rfl, h⟩
set_option maxHeartbeats 8000000 in
theorem e_tl_isBorrower {G : GT} {M : MT} {P : Int → MT → Prop} (v1 : Int)
    (h : ClI G J_tl_within M [pI v1, pI 0, pI (w32 ((M 1 5) - 1))] (fun x1 M1 => ((x1 = 0 ∨ x1 = 1) ∧ (P x1 M1)))) : ClI G J_tl_isBorrower M [pR 0, pI v1] P := by
  show Wp G J_tl_isBorrower 0 0 0 [(0, pR 0), (1, pI v1)] [] NN RF M _
  refine wp_iload_n d_tl_isBorrower_0 rfl 1 rfl ?_
  refine wp_iconst d_tl_isBorrower_1 ⟨by decide, by decide⟩ ?_
  refine wp_aload_n d_tl_isBorrower_2 rfl 0 rfl ?_
  refine wp_getr d_tl_isBorrower_3 0 s_0 rfl (Nat.le_of_ble_eq_true rfl) (Nat.le_of_ble_eq_true rfl) rfl rfl lk_tl_10 ?_
  refine wp_geti d_tl_isBorrower_6 5 s_1 rfl (Nat.le_of_ble_eq_true rfl) (Nat.le_of_ble_eq_true rfl) rfl lk_tl_284 ?_
  refine wp_iconst d_tl_isBorrower_9 ⟨by decide, by decide⟩ ?_
  refine wp_isub d_tl_isBorrower_10 ?_
  refine wp_callS [pI _, pI _, pI _] d_tl_isBorrower_11 jd_tl_within lk_tl_59 rfl (Nat.le_of_ble_eq_true rfl) rfl ?_
  refine clI_k h ?_
  intro x1 M1 h
  obtain ⟨g2, h⟩ := h
  exact wp_zret d_tl_isBorrower_14 rfl ⟨Nat.le_of_ble_eq_true rfl, Nat.le_of_ble_eq_true rfl⟩ g2 ⟨_, rfl, rfl, rfl, h⟩
set_option maxHeartbeats 8000000 in
theorem e_tl_found {G : GT} {M : MT} {P : Int → MT → Prop} (v1 : Int)
    (h : ∀ M1 : MT, M1 = mu M 0 7 v1 → (P (w32 ((-10) - v1)) M1)) : ClI G J_tl_found M [pR 0, pI v1] P := by
  show Wp G J_tl_found 0 0 0 [(0, pR 0), (1, pI v1)] [] NN RF M _
  refine wp_aload_n d_tl_found_0 rfl 0 rfl ?_
  refine wp_iload_n d_tl_found_1 rfl 1 rfl ?_
  refine wp_puti d_tl_found_2 7 s_0 rfl (Nat.le_of_ble_eq_true rfl) (Nat.le_of_ble_eq_true rfl) (Or.inl rfl) rfl lk_tl_293 ?_
  have h := h _ rfl
  refine wp_bipush d_tl_found_5 ⟨by decide, by decide⟩ (by decide) ?_
  refine wp_iload_n d_tl_found_7 rfl 1 rfl ?_
  refine wp_isub d_tl_found_8 ?_
  exact wp_iret d_tl_found_9 rfl ⟨Nat.le_of_ble_eq_true rfl, Nat.le_of_ble_eq_true rfl⟩ ⟨_, rfl, rfl, rfl, h⟩
set_option maxHeartbeats 8000000 in
theorem e_tl_resized {G : GT} {M : MT} {P : Int → MT → Prop} (v1 : Int) (v2 : Int)
    (h : (v1 = 0 ∨ v1 = 1) ∧ ((v1 = 0 → ∀ M1 : MT, M1 = mu M 6 1 v2 → ((¬ v1 = 0 → ClV G J_bk_readBorrowers M1 [pR 1] (fun M2 => (ClV G J_ye_forget M2 [pR 40] (fun M3 => (P v2 M3))))) ∧ (v1 = 0 → ClV G J_bk_readTunes M1 [pR 1] (fun M2 => (ClV G J_ye_forget M2 [pR 40] (fun M3 => (P v2 M3))))))) ∧ (v1 = 1 → ∀ M1 : MT, M1 = mu M 8 1 v2 → ((¬ v1 = 0 → ClV G J_bk_readBorrowers M1 [pR 1] (fun M2 => (ClV G J_ye_forget M2 [pR 40] (fun M3 => (P v2 M3))))) ∧ (v1 = 0 → ClV G J_bk_readTunes M1 [pR 1] (fun M2 => (ClV G J_ye_forget M2 [pR 40] (fun M3 => (P v2 M3))))))))) : ClI G J_tl_resized M [pR 0, pI v1, pI v2] P := by
  show Wp G J_tl_resized 0 0 0 [(0, pR 0), (1, pI v1), (2, pI v2)] [] NN RF M _
  refine wp_aload_n d_tl_resized_0 rfl 0 rfl ?_
  refine wp_getr d_tl_resized_1 0 s_0 rfl (Nat.le_of_ble_eq_true rfl) (Nat.le_of_ble_eq_true rfl) rfl rfl lk_tl_10 ?_
  refine wp_getr d_tl_resized_4 0 s_1 rfl (Nat.le_of_ble_eq_true rfl) (Nat.le_of_ble_eq_true rfl) rfl rfl lk_tl_63 ?_
  refine wp_iload_n d_tl_resized_7 rfl 1 rfl ?_
  obtain ⟨c1, h⟩ := h
  rcases c1 with c1 | c1
  · have h := h.1 c1
    refine wp_aald (t := 0) d_tl_resized_8 s_2 rfl (Nat.le_of_ble_eq_true rfl) (by omega) (by omega) (r := 6) (by rw [c1]; rfl) ?_
    refine wp_iload_n d_tl_resized_9 rfl 2 rfl ?_
    refine wp_puti d_tl_resized_10 1 s_6 rfl (Nat.le_of_ble_eq_true rfl) (Nat.le_of_ble_eq_true rfl) (Or.inl rfl) rfl lk_tl_67 ?_
    have h := h _ rfl
    refine wp_iload_n d_tl_resized_13 rfl 1 rfl ?_
    refine wp_if_ne 27 d_tl_resized_14 (by decide) (fun c2 => ?_) (fun c2 => ?_)
    · have h := h.1 c2
      refine wp_aload_n d_tl_resized_27 rfl 0 rfl ?_
      refine wp_getr d_tl_resized_28 0 s_0 rfl (Nat.le_of_ble_eq_true rfl) (Nat.le_of_ble_eq_true rfl) rfl rfl lk_tl_10 ?_
      refine wp_callV [] _ d_tl_resized_31 jd_bk_readBorrowers lk_tl_366 rfl s_1 rfl (Nat.le_of_ble_eq_true rfl) (Nat.le_of_ble_eq_true rfl) rfl ?_
      refine clV_k h ?_
      intro M2 h
      refine wp_aload_n d_tl_resized_34 rfl 0 rfl ?_
      refine wp_getr d_tl_resized_35 1 s_0 rfl (Nat.le_of_ble_eq_true rfl) (Nat.le_of_ble_eq_true rfl) rfl rfl lk_tl_19 ?_
      refine wp_callV [] _ d_tl_resized_38 jd_ye_forget lk_tl_138 rfl s_40 rfl (Nat.le_of_ble_eq_true rfl) (Nat.le_of_ble_eq_true rfl) rfl ?_
      refine clV_k h ?_
      intro M3 h
      refine wp_iload_n d_tl_resized_41 rfl 2 rfl ?_
      exact wp_iret d_tl_resized_42 rfl ⟨Nat.le_of_ble_eq_true rfl, Nat.le_of_ble_eq_true rfl⟩ ⟨_, rfl, rfl, rfl, h⟩
    · have h := h.2 c2
      refine wp_aload_n d_tl_resized_17 rfl 0 rfl ?_
      refine wp_getr d_tl_resized_18 0 s_0 rfl (Nat.le_of_ble_eq_true rfl) (Nat.le_of_ble_eq_true rfl) rfl rfl lk_tl_10 ?_
      refine wp_callV [] _ d_tl_resized_21 jd_bk_readTunes lk_tl_363 rfl s_1 rfl (Nat.le_of_ble_eq_true rfl) (Nat.le_of_ble_eq_true rfl) rfl ?_
      refine clV_k h ?_
      intro M2 h
      refine wp_goto 34 d_tl_resized_24 (by decide) ?_
      refine wp_aload_n d_tl_resized_34 rfl 0 rfl ?_
      refine wp_getr d_tl_resized_35 1 s_0 rfl (Nat.le_of_ble_eq_true rfl) (Nat.le_of_ble_eq_true rfl) rfl rfl lk_tl_19 ?_
      refine wp_callV [] _ d_tl_resized_38 jd_ye_forget lk_tl_138 rfl s_40 rfl (Nat.le_of_ble_eq_true rfl) (Nat.le_of_ble_eq_true rfl) rfl ?_
      refine clV_k h ?_
      intro M3 h
      refine wp_iload_n d_tl_resized_41 rfl 2 rfl ?_
      exact wp_iret d_tl_resized_42 rfl ⟨Nat.le_of_ble_eq_true rfl, Nat.le_of_ble_eq_true rfl⟩ ⟨_, rfl, rfl, rfl, h⟩
  · have h := h.2 c1
    refine wp_aald (t := 0) d_tl_resized_8 s_2 rfl (Nat.le_of_ble_eq_true rfl) (by omega) (by omega) (r := 8) (by rw [c1]; rfl) ?_
    refine wp_iload_n d_tl_resized_9 rfl 2 rfl ?_
    refine wp_puti d_tl_resized_10 1 s_8 rfl (Nat.le_of_ble_eq_true rfl) (Nat.le_of_ble_eq_true rfl) (Or.inl rfl) rfl lk_tl_67 ?_
    have h := h _ rfl
    refine wp_iload_n d_tl_resized_13 rfl 1 rfl ?_
    refine wp_if_ne 27 d_tl_resized_14 (by decide) (fun c2 => ?_) (fun c2 => ?_)
    · have h := h.1 c2
      refine wp_aload_n d_tl_resized_27 rfl 0 rfl ?_
      refine wp_getr d_tl_resized_28 0 s_0 rfl (Nat.le_of_ble_eq_true rfl) (Nat.le_of_ble_eq_true rfl) rfl rfl lk_tl_10 ?_
      refine wp_callV [] _ d_tl_resized_31 jd_bk_readBorrowers lk_tl_366 rfl s_1 rfl (Nat.le_of_ble_eq_true rfl) (Nat.le_of_ble_eq_true rfl) rfl ?_
      refine clV_k h ?_
      intro M2 h
      refine wp_aload_n d_tl_resized_34 rfl 0 rfl ?_
      refine wp_getr d_tl_resized_35 1 s_0 rfl (Nat.le_of_ble_eq_true rfl) (Nat.le_of_ble_eq_true rfl) rfl rfl lk_tl_19 ?_
      refine wp_callV [] _ d_tl_resized_38 jd_ye_forget lk_tl_138 rfl s_40 rfl (Nat.le_of_ble_eq_true rfl) (Nat.le_of_ble_eq_true rfl) rfl ?_
      refine clV_k h ?_
      intro M3 h
      refine wp_iload_n d_tl_resized_41 rfl 2 rfl ?_
      exact wp_iret d_tl_resized_42 rfl ⟨Nat.le_of_ble_eq_true rfl, Nat.le_of_ble_eq_true rfl⟩ ⟨_, rfl, rfl, rfl, h⟩
    · have h := h.2 c2
      refine wp_aload_n d_tl_resized_17 rfl 0 rfl ?_
      refine wp_getr d_tl_resized_18 0 s_0 rfl (Nat.le_of_ble_eq_true rfl) (Nat.le_of_ble_eq_true rfl) rfl rfl lk_tl_10 ?_
      refine wp_callV [] _ d_tl_resized_21 jd_bk_readTunes lk_tl_363 rfl s_1 rfl (Nat.le_of_ble_eq_true rfl) (Nat.le_of_ble_eq_true rfl) rfl ?_
      refine clV_k h ?_
      intro M2 h
      refine wp_goto 34 d_tl_resized_24 (by decide) ?_
      refine wp_aload_n d_tl_resized_34 rfl 0 rfl ?_
      refine wp_getr d_tl_resized_35 1 s_0 rfl (Nat.le_of_ble_eq_true rfl) (Nat.le_of_ble_eq_true rfl) rfl rfl lk_tl_19 ?_
      refine wp_callV [] _ d_tl_resized_38 jd_ye_forget lk_tl_138 rfl s_40 rfl (Nat.le_of_ble_eq_true rfl) (Nat.le_of_ble_eq_true rfl) rfl ?_
      refine clV_k h ?_
      intro M3 h
      refine wp_iload_n d_tl_resized_41 rfl 2 rfl ?_
      exact wp_iret d_tl_resized_42 rfl ⟨Nat.le_of_ble_eq_true rfl, Nat.le_of_ble_eq_true rfl⟩ ⟨_, rfl, rfl, rfl, h⟩
set_option maxHeartbeats 8000000 in
theorem e_tl_interestBy {G : GT} {M : MT} {P : Int → MT → Prop} (v1 : Int) (v2 : Int)
    (h : ClV G J_ye_live M [pR 40, pR 1, pI v1, pR 84] (fun M1 => (WpI G J_tl_interestBy 21 [(0, pR 0), (2, pI v2), (3, pI 0), (4, pI 0)] [] M1 P))) : ClI G J_tl_interestBy M [pR 0, pI v1, pI v2] P := by
  show Wp G J_tl_interestBy 0 0 0 [(0, pR 0), (1, pI v1), (2, pI v2)] [] NN RF M _
  refine wp_aload_n d_tl_interestBy_0 rfl 0 rfl ?_
  refine wp_getr d_tl_interestBy_1 1 s_0 rfl (Nat.le_of_ble_eq_true rfl) (Nat.le_of_ble_eq_true rfl) rfl rfl lk_tl_19 ?_
  refine wp_aload_n d_tl_interestBy_4 rfl 0 rfl ?_
  refine wp_getr d_tl_interestBy_5 0 s_0 rfl (Nat.le_of_ble_eq_true rfl) (Nat.le_of_ble_eq_true rfl) rfl rfl lk_tl_10 ?_
  refine wp_iload_n d_tl_interestBy_8 rfl 1 rfl ?_
  refine wp_aload_n d_tl_interestBy_9 rfl 0 rfl ?_
  refine wp_getr d_tl_interestBy_10 3 s_0 rfl (Nat.le_of_ble_eq_true rfl) (Nat.le_of_ble_eq_true rfl) rfl rfl lk_tl_33 ?_
  refine wp_callV [pR _, pI _, pR _] _ d_tl_interestBy_13 jd_ye_live lk_tl_162 rfl s_40 rfl (Nat.le_of_ble_eq_true rfl) (Nat.le_of_ble_eq_true rfl) rfl ?_
  refine clV_k h ?_
  intro M1 h
  refine wp_iconst d_tl_interestBy_16 ⟨by decide, by decide⟩ ?_
  refine wp_istore_n (L2 := [(0, pR 0), (1, pI _), (2, pI _), (3, pI _)]) d_tl_interestBy_17 rfl (Nat.le_of_ble_eq_true rfl) [1, 2, 3, 0] rfl ?_
  refine wp_iconst d_tl_interestBy_18 ⟨by decide, by decide⟩ ?_
  refine wp_istore (L2 := [(0, pR 0), (1, pI _), (2, pI _), (3, pI _), (4, pI _)]) d_tl_interestBy_19 (Nat.le_of_ble_eq_true rfl) [1, 2, 3, 4, 0] rfl ?_
  refine wp_sub (L2 := [(0, pR 0), (2, pI _), (3, pI _), (4, pI _)]) [0, 2, 3, 4] rfl ?_
  exact h
set_option maxHeartbeats 8000000 in
theorem b_tl_interestBy_21 {G : GT} {M : MT} {P : Int → MT → Prop} (v2 : Int) (v3 : Int) (v4 : Int)
    (h : ((M 1 4) ≤ v4 → ClI G J_bk_toldNotes M [pR 1] (fun x2 M1 => (P (w32 (v3 - x2)) M1))) ∧ (v4 < (M 1 4) → ClI G J_ye_sizeOf M [pR 40, pI v2, pI v4] (fun x2 M1 => (WpI G J_tl_interestBy 21 [(0, pR 0), (2, pI v2), (3, pI (w32 (v3 + x2))), (4, pI (w32 (v4 + 1)))] [] M1 P)))) : WpI G J_tl_interestBy 21 [(0, pR 0), (2, pI v2), (3, pI v3), (4, pI v4)] [] M P := by
  show Wp G J_tl_interestBy 0 0 21 [(0, pR 0), (2, pI v2), (3, pI v3), (4, pI v4)] [] NN RF M _
  refine wp_iload d_tl_interestBy_21 3 rfl ?_
  refine wp_aload_n d_tl_interestBy_23 rfl 0 rfl ?_
  refine wp_getr d_tl_interestBy_24 0 s_0 rfl (Nat.le_of_ble_eq_true rfl) (Nat.le_of_ble_eq_true rfl) rfl rfl lk_tl_10 ?_
  refine wp_geti d_tl_interestBy_27 4 s_1 rfl (Nat.le_of_ble_eq_true rfl) (Nat.le_of_ble_eq_true rfl) rfl lk_tl_225 ?_
  refine wp_icmp_ge 52 d_tl_interestBy_30 (by decide) (fun c1 => ?_) (fun c1 => ?_)
  · have h := h.1 c1
    refine wp_iload_n d_tl_interestBy_52 rfl 2 rfl ?_
    refine wp_aload_n d_tl_interestBy_53 rfl 0 rfl ?_
    refine wp_getr d_tl_interestBy_54 0 s_0 rfl (Nat.le_of_ble_eq_true rfl) (Nat.le_of_ble_eq_true rfl) rfl rfl lk_tl_10 ?_
    refine wp_callV [] _ d_tl_interestBy_57 jd_bk_toldNotes lk_tl_290 rfl s_1 rfl (Nat.le_of_ble_eq_true rfl) (Nat.le_of_ble_eq_true rfl) rfl ?_
    refine clI_k h ?_
    intro x2 M1 h
    refine wp_isub d_tl_interestBy_60 ?_
    exact wp_iret d_tl_interestBy_61 rfl ⟨Nat.le_of_ble_eq_true rfl, Nat.le_of_ble_eq_true rfl⟩ ⟨_, rfl, rfl, rfl, h⟩
  · have h := h.2 c1
    refine wp_iload_n d_tl_interestBy_33 rfl 2 rfl ?_
    refine wp_aload_n d_tl_interestBy_34 rfl 0 rfl ?_
    refine wp_getr d_tl_interestBy_35 1 s_0 rfl (Nat.le_of_ble_eq_true rfl) (Nat.le_of_ble_eq_true rfl) rfl rfl lk_tl_19 ?_
    refine wp_iload_n d_tl_interestBy_38 rfl 1 rfl ?_
    refine wp_iload d_tl_interestBy_39 3 rfl ?_
    refine wp_callV [pI _, pI _] _ d_tl_interestBy_41 jd_ye_sizeOf lk_tl_166 rfl s_40 rfl (Nat.le_of_ble_eq_true rfl) (Nat.le_of_ble_eq_true rfl) rfl ?_
    refine clI_k h ?_
    intro x2 M1 h
    refine wp_iadd d_tl_interestBy_44 ?_
    refine wp_istore_n (L2 := [(0, pR 0), (2, pI _), (3, pI _), (4, pI _)]) d_tl_interestBy_45 rfl (Nat.le_of_ble_eq_true rfl) [1, 2, 0, 3] rfl ?_
    refine wp_iinc (L2 := [(0, pR 0), (2, pI _), (3, pI _), (4, pI _)]) d_tl_interestBy_46 3 rfl (Nat.le_of_ble_eq_true rfl) [1, 2, 3, 0] rfl ?_
    refine wp_goto 21 d_tl_interestBy_49 (by decide) ?_
    exact h
set_option maxHeartbeats 8000000 in
theorem e_tl_tellFromAll {G : GT} {M : MT} {P : Int → MT → Prop} (v1 : Int) (v2 : Int)
    (h : WpI G J_tl_tellFromAll 2 [(0, pR 0), (1, pI v1), (2, pI v2), (3, pI 0)] [] M P) : ClI G J_tl_tellFromAll M [pR 0, pI v1, pI v2] P := by
  show Wp G J_tl_tellFromAll 0 0 0 [(0, pR 0), (1, pI v1), (2, pI v2)] [] NN RF M _
  refine wp_iconst d_tl_tellFromAll_0 ⟨by decide, by decide⟩ ?_
  refine wp_istore_n (L2 := [(0, pR 0), (1, pI _), (2, pI _), (3, pI _)]) d_tl_tellFromAll_1 rfl (Nat.le_of_ble_eq_true rfl) [1, 2, 3, 0] rfl ?_
  exact h
set_option maxHeartbeats 8000000 in
theorem b_tl_tellFromAll_2 {G : GT} {M : MT} {P : Int → MT → Prop} (v1 : Int) (v2 : Int) (v3 : Int)
    (h : ((M 1 4) ≤ v3 → P 1 M) ∧ (v3 < (M 1 4) → (v3 = v1 → WpI G J_tl_tellFromAll 2 [(0, pR 0), (1, pI v1), (2, pI v2), (3, pI (w32 (v3 + 1)))] [] M P) ∧ (¬ v3 = v1 → (0 ≤ v1 ∧ v1 < 6) ∧ ((0 ≤ v3 ∧ v3 < 6) ∧ (ClI G J_tl_tellFrom M [pR (10 + 2 * v1.toNat), pR (10 + 2 * v3.toNat), pI v2] (fun x5 M1 => ((¬ x5 = 0 → WpI G J_tl_tellFromAll 2 [(0, pR 0), (1, pI v1), (2, pI v2), (3, pI (w32 (v3 + 1)))] [] M1 P) ∧ (x5 = 0 → P 0 M1)))))))) : WpI G J_tl_tellFromAll 2 [(0, pR 0), (1, pI v1), (2, pI v2), (3, pI v3)] [] M P := by
  show Wp G J_tl_tellFromAll 0 0 2 [(0, pR 0), (1, pI v1), (2, pI v2), (3, pI v3)] [] NN RF M _
  refine wp_iload_n d_tl_tellFromAll_2 rfl 3 rfl ?_
  refine wp_aload_n d_tl_tellFromAll_3 rfl 0 rfl ?_
  refine wp_getr d_tl_tellFromAll_4 0 s_0 rfl (Nat.le_of_ble_eq_true rfl) (Nat.le_of_ble_eq_true rfl) rfl rfl lk_tl_10 ?_
  refine wp_geti d_tl_tellFromAll_7 4 s_1 rfl (Nat.le_of_ble_eq_true rfl) (Nat.le_of_ble_eq_true rfl) rfl lk_tl_225 ?_
  refine wp_icmp_ge 51 d_tl_tellFromAll_10 (by decide) (fun c1 => ?_) (fun c1 => ?_)
  · have h := h.1 c1
    refine wp_iconst d_tl_tellFromAll_51 ⟨by decide, by decide⟩ ?_
    exact wp_zret d_tl_tellFromAll_52 rfl ⟨Nat.le_of_ble_eq_true rfl, Nat.le_of_ble_eq_true rfl⟩ (by decide) ⟨_, rfl, rfl, rfl, h⟩
  · have h := h.2 c1
    refine wp_iload_n d_tl_tellFromAll_13 rfl 3 rfl ?_
    refine wp_iload_n d_tl_tellFromAll_14 rfl 1 rfl ?_
    refine wp_icmp_eq 45 d_tl_tellFromAll_15 (by decide) (fun c2 => ?_) (fun c2 => ?_)
    · have h := h.1 c2
      refine wp_iinc (L2 := [(0, pR 0), (1, pI _), (2, pI _), (3, pI _)]) d_tl_tellFromAll_45 3 rfl (Nat.le_of_ble_eq_true rfl) [1, 2, 3, 0] rfl ?_
      refine wp_goto 2 d_tl_tellFromAll_48 (by decide) ?_
      exact h
    · have h := h.2 c2
      refine wp_aload_n d_tl_tellFromAll_18 rfl 0 rfl ?_
      refine wp_getr d_tl_tellFromAll_19 0 s_0 rfl (Nat.le_of_ble_eq_true rfl) (Nat.le_of_ble_eq_true rfl) rfl rfl lk_tl_10 ?_
      refine wp_getr d_tl_tellFromAll_22 1 s_1 rfl (Nat.le_of_ble_eq_true rfl) (Nat.le_of_ble_eq_true rfl) rfl rfl lk_tl_86 ?_
      refine wp_iload_n d_tl_tellFromAll_25 rfl 1 rfl ?_
      obtain ⟨⟨a3, b3⟩, h⟩ := h
      refine wp_aald (t := 1) d_tl_tellFromAll_26 s_3 rfl (Nat.le_of_ble_eq_true rfl) a3 b3 (k_tunes _ (nat_lt a3 b3)).1 ?_
      refine wp_aload_n d_tl_tellFromAll_27 rfl 0 rfl ?_
      refine wp_getr d_tl_tellFromAll_28 0 s_0 rfl (Nat.le_of_ble_eq_true rfl) (Nat.le_of_ble_eq_true rfl) rfl rfl lk_tl_10 ?_
      refine wp_getr d_tl_tellFromAll_31 1 s_1 rfl (Nat.le_of_ble_eq_true rfl) (Nat.le_of_ble_eq_true rfl) rfl rfl lk_tl_86 ?_
      refine wp_iload_n d_tl_tellFromAll_34 rfl 3 rfl ?_
      obtain ⟨⟨a4, b4⟩, h⟩ := h
      refine wp_aald (t := 1) d_tl_tellFromAll_35 s_3 rfl (Nat.le_of_ble_eq_true rfl) a4 b4 (k_tunes _ (nat_lt a4 b4)).1 ?_
      refine wp_iload_n d_tl_tellFromAll_36 rfl 2 rfl ?_
      refine wp_callS [pR _, pR _, pI _] d_tl_tellFromAll_37 jd_tl_tellFrom lk_tl_369 rfl (Nat.le_of_ble_eq_true rfl) rfl ?_
      refine clI_k h ?_
      intro x5 M1 h
      refine wp_if_ne 45 d_tl_tellFromAll_40 (by decide) (fun c6 => ?_) (fun c6 => ?_)
      · have h := h.1 c6
        refine wp_iinc (L2 := [(0, pR 0), (1, pI _), (2, pI _), (3, pI _)]) d_tl_tellFromAll_45 3 rfl (Nat.le_of_ble_eq_true rfl) [1, 2, 3, 0] rfl ?_
        refine wp_goto 2 d_tl_tellFromAll_48 (by decide) ?_
        exact h
      · have h := h.2 c6
        refine wp_iconst d_tl_tellFromAll_43 ⟨by decide, by decide⟩ ?_
        exact wp_zret d_tl_tellFromAll_44 rfl ⟨Nat.le_of_ble_eq_true rfl, Nat.le_of_ble_eq_true rfl⟩ (by decide) ⟨_, rfl, rfl, rfl, h⟩
set_option maxHeartbeats 8000000 in
theorem e_tl_tellFrom {G : GT} {M : MT} {P : Int → MT → Prop} (o0 : Nat) (f0 : TU o0) (o1 : Nat) (f1 : TU o1) (v2 : Int)
    (h : WpI G J_tl_tellFrom 2 [(0, pR o0), (1, pR o1), (2, pI v2), (3, pI 0)] [] M P) : ClI G J_tl_tellFrom M [pR o0, pR o1, pI v2] P := by
  show Wp G J_tl_tellFrom 0 0 0 [(0, pR o0), (1, pR o1), (2, pI v2)] [] NN RF M _
  refine wp_iconst d_tl_tellFrom_0 ⟨by decide, by decide⟩ ?_
  refine wp_istore_n (L2 := [(0, pR _), (1, pR _), (2, pI _), (3, pI _)]) d_tl_tellFrom_1 rfl (Nat.le_of_ble_eq_true rfl) [1, 2, 3, 0] rfl ?_
  exact h
set_option maxHeartbeats 8000000 in
theorem b_tl_tellFrom_2 {G : GT} {M : MT} {P : Int → MT → Prop} (o0 : Nat) (f0 : TU o0) (o1 : Nat) (f1 : TU o1) (v2 : Int) (v3 : Int)
    (h : (12 ≤ v3 → P 0 M) ∧ (v3 < 12 → (¬ (iand (ishr v2 v3) 1) = 1 → WpI G J_tl_tellFrom 2 [(0, pR o0), (1, pR o1), (2, pI v2), (3, pI (w32 (v3 + 1)))] [] M P) ∧ ((iand (ishr v2 v3) 1) = 1 → ClI G J_tu_at M [pR o0, pI v3] (fun x3 M1 => (ClI G J_tu_at M1 [pR o1, pI v3] (fun x4 M2 => ((x3 = x4 → WpI G J_tl_tellFrom 2 [(0, pR o0), (1, pR o1), (2, pI v2), (3, pI (w32 (v3 + 1)))] [] M2 P) ∧ (¬ x3 = x4 → P 1 M2)))))))) : WpI G J_tl_tellFrom 2 [(0, pR o0), (1, pR o1), (2, pI v2), (3, pI v3)] [] M P := by
  show Wp G J_tl_tellFrom 0 0 2 [(0, pR o0), (1, pR o1), (2, pI v2), (3, pI v3)] [] NN RF M _
  refine wp_iload_n d_tl_tellFrom_2 rfl 3 rfl ?_
  refine wp_bipush d_tl_tellFrom_3 ⟨by decide, by decide⟩ (by decide) ?_
  refine wp_icmp_ge 38 d_tl_tellFrom_5 (by decide) (fun c1 => ?_) (fun c1 => ?_)
  · have h := h.1 c1
    refine wp_iconst d_tl_tellFrom_38 ⟨by decide, by decide⟩ ?_
    exact wp_zret d_tl_tellFrom_39 rfl ⟨Nat.le_of_ble_eq_true rfl, Nat.le_of_ble_eq_true rfl⟩ (by decide) ⟨_, rfl, rfl, rfl, h⟩
  · have h := h.2 c1
    refine wp_iload_n d_tl_tellFrom_8 rfl 2 rfl ?_
    refine wp_iload_n d_tl_tellFrom_9 rfl 3 rfl ?_
    refine wp_ishr d_tl_tellFrom_10 ?_
    refine wp_iconst d_tl_tellFrom_11 ⟨by decide, by decide⟩ ?_
    refine wp_iand d_tl_tellFrom_12 ?_
    refine wp_iconst d_tl_tellFrom_13 ⟨by decide, by decide⟩ ?_
    refine wp_icmp_ne 32 d_tl_tellFrom_14 (by decide) (fun c2 => ?_) (fun c2 => ?_)
    · have h := h.1 c2
      refine wp_iinc (L2 := [(0, pR _), (1, pR _), (2, pI _), (3, pI _)]) d_tl_tellFrom_32 3 rfl (Nat.le_of_ble_eq_true rfl) [1, 2, 3, 0] rfl ?_
      refine wp_goto 2 d_tl_tellFrom_35 (by decide) ?_
      exact h
    · have h := h.2 c2
      refine wp_aload_n d_tl_tellFrom_17 rfl 0 rfl ?_
      refine wp_iload_n d_tl_tellFrom_18 rfl 3 rfl ?_
      refine wp_callV [pI _] _ d_tl_tellFrom_19 jd_tu_at lk_tl_93 rfl f0.1 rfl (Nat.lt_of_succ_lt f0.2.2.2) (Nat.le_of_ble_eq_true rfl) rfl ?_
      refine clI_k h ?_
      intro x3 M1 h
      refine wp_aload_n d_tl_tellFrom_22 rfl 1 rfl ?_
      refine wp_iload_n d_tl_tellFrom_23 rfl 3 rfl ?_
      refine wp_callV [pI _] _ d_tl_tellFrom_24 jd_tu_at lk_tl_93 rfl f1.1 rfl (Nat.lt_of_succ_lt f1.2.2.2) (Nat.le_of_ble_eq_true rfl) rfl ?_
      refine clI_k h ?_
      intro x4 M2 h
      refine wp_icmp_eq 32 d_tl_tellFrom_27 (by decide) (fun c5 => ?_) (fun c5 => ?_)
      · have h := h.1 c5
        refine wp_iinc (L2 := [(0, pR _), (1, pR _), (2, pI _), (3, pI _)]) d_tl_tellFrom_32 3 rfl (Nat.le_of_ble_eq_true rfl) [1, 2, 3, 0] rfl ?_
        refine wp_goto 2 d_tl_tellFrom_35 (by decide) ?_
        exact h
      · have h := h.2 c5
        refine wp_iconst d_tl_tellFrom_30 ⟨by decide, by decide⟩ ?_
        exact wp_zret d_tl_tellFrom_31 rfl ⟨Nat.le_of_ble_eq_true rfl, Nat.le_of_ble_eq_true rfl⟩ (by decide) ⟨_, rfl, rfl, rfl, h⟩
set_option maxHeartbeats 8000000 in
theorem e_tl_refusalOfItem {G : GT} {M : MT} {P : Int → MT → Prop} (v1 : Int) (v2 : Int) (v3 : Int)
    (h : ClI G J_tl_isSheet M [pI v1] (fun x1 M1 => ((x1 = 0 → P (-2) M1) ∧ (¬ x1 = 0 → ClI G J_tl_isForm M1 [pI v2] (fun x3 M2 => ((¬ x3 = 0 → (0 ≤ v1 ∧ v1 < 4) ∧ (ClI G J_sh_isLost M2 [pR (93 + 2 * v1.toNat)] (fun x6 M3 => ((x6 = 0 → ((M3 (93 + 2 * v1.toNat) 1) = v2 → ClI G J_tl_within M3 [pI v3, pI 0, pI (w32 ((M3 (93 + 2 * v1.toNat) 2) - 1))] (fun x9 M4 => ((x9 = 0 → ClI G J_tl_found M4 [pR 0, pI 2] (fun x11 M5 => (P x11 M5))) ∧ (¬ x9 = 0 → P 0 M4)))) ∧ (¬ (M3 (93 + 2 * v1.toNat) 1) = v2 → ClI G J_tl_found M3 [pR 0, pI 3] (fun x9 M4 => (P x9 M4)))) ∧ (¬ x6 = 0 → ClI G J_tl_found M3 [pR 0, pI 1] (fun x8 M4 => (P x8 M4))))))) ∧ (x3 = 0 → P (-2) M2))))))) : ClI G J_tl_refusalOfItem M [pR 0, pI v1, pI v2, pI v3] P := by
  show Wp G J_tl_refusalOfItem 0 0 0 [(0, pR 0), (1, pI v1), (2, pI v2), (3, pI v3)] [] NN RF M _
  refine wp_iload_n d_tl_refusalOfItem_0 rfl 1 rfl ?_
  refine wp_callS [pI _] d_tl_refusalOfItem_1 jd_tl_isSheet lk_tl_141 rfl (Nat.le_of_ble_eq_true rfl) rfl ?_
  refine clI_k h ?_
  intro x1 M1 h
  refine wp_if_eq 14 d_tl_refusalOfItem_4 (by decide) (fun c2 => ?_) (fun c2 => ?_)
  · have h := h.1 c2
    refine wp_bipush d_tl_refusalOfItem_14 ⟨by decide, by decide⟩ (by decide) ?_
    exact wp_iret d_tl_refusalOfItem_16 rfl ⟨Nat.le_of_ble_eq_true rfl, Nat.le_of_ble_eq_true rfl⟩ ⟨_, rfl, rfl, rfl, h⟩
  · have h := h.2 c2
    refine wp_iload_n d_tl_refusalOfItem_7 rfl 2 rfl ?_
    refine wp_callS [pI _] d_tl_refusalOfItem_8 jd_tl_isForm lk_tl_255 rfl (Nat.le_of_ble_eq_true rfl) rfl ?_
    refine clI_k h ?_
    intro x3 M2 h
    refine wp_if_ne 17 d_tl_refusalOfItem_11 (by decide) (fun c4 => ?_) (fun c4 => ?_)
    · have h := h.1 c4
      refine wp_aload_n d_tl_refusalOfItem_17 rfl 0 rfl ?_
      refine wp_getr d_tl_refusalOfItem_18 5 s_0 rfl (Nat.le_of_ble_eq_true rfl) (Nat.le_of_ble_eq_true rfl) rfl rfl lk_tl_46 ?_
      refine wp_iload_n d_tl_refusalOfItem_21 rfl 1 rfl ?_
      obtain ⟨⟨a5, b5⟩, h⟩ := h
      refine wp_aald (t := 4) d_tl_refusalOfItem_22 s_92 rfl (Nat.le_of_ble_eq_true rfl) a5 b5 (k_sheets _ (nat_lt a5 b5)).1 ?_
      refine wp_astore (L2 := [(0, pR 0), (1, pI _), (2, pI _), (3, pI _), (4, pR _)]) d_tl_refusalOfItem_23 (Nat.le_of_ble_eq_true rfl) [1, 2, 3, 4, 0] rfl ?_
      refine wp_aload d_tl_refusalOfItem_25 4 rfl ?_
      refine wp_callV [] _ d_tl_refusalOfItem_27 jd_sh_isLost lk_tl_144 rfl (k_sheets _ (nat_lt a5 b5)).2.1 rfl (Nat.lt_of_succ_lt (k_sheets _ (nat_lt a5 b5)).2.2.2.2) (Nat.le_of_ble_eq_true rfl) rfl ?_
      refine clI_k h ?_
      intro x6 M3 h
      refine wp_if_eq 39 d_tl_refusalOfItem_30 (by decide) (fun c7 => ?_) (fun c7 => ?_)
      · have h := h.1 c7
        refine wp_aload d_tl_refusalOfItem_39 4 rfl ?_
        refine wp_geti d_tl_refusalOfItem_41 1 (k_sheets _ (nat_lt a5 b5)).2.1 rfl (Nat.lt_of_succ_lt (k_sheets _ (nat_lt a5 b5)).2.2.2.2) (Nat.le_of_ble_eq_true rfl) rfl lk_tl_260 ?_
        refine wp_iload_n d_tl_refusalOfItem_44 rfl 2 rfl ?_
        refine wp_icmp_eq 54 d_tl_refusalOfItem_45 (by decide) (fun c8 => ?_) (fun c8 => ?_)
        · have h := h.1 c8
          refine wp_iload_n d_tl_refusalOfItem_54 rfl 3 rfl ?_
          refine wp_iconst d_tl_refusalOfItem_55 ⟨by decide, by decide⟩ ?_
          refine wp_aload d_tl_refusalOfItem_56 4 rfl ?_
          refine wp_geti d_tl_refusalOfItem_58 2 (k_sheets _ (nat_lt a5 b5)).2.1 rfl (Nat.lt_of_succ_lt (k_sheets _ (nat_lt a5 b5)).2.2.2.2) (Nat.le_of_ble_eq_true rfl) rfl lk_tl_151 ?_
          refine wp_iconst d_tl_refusalOfItem_61 ⟨by decide, by decide⟩ ?_
          refine wp_isub d_tl_refusalOfItem_62 ?_
          refine wp_callS [pI _, pI _, pI _] d_tl_refusalOfItem_63 jd_tl_within lk_tl_59 rfl (Nat.le_of_ble_eq_true rfl) rfl ?_
          refine clI_k h ?_
          intro x9 M4 h
          refine wp_if_eq 73 d_tl_refusalOfItem_66 (by decide) (fun c10 => ?_) (fun c10 => ?_)
          · have h := h.1 c10
            refine wp_aload_n d_tl_refusalOfItem_73 rfl 0 rfl ?_
            refine wp_iconst d_tl_refusalOfItem_74 ⟨by decide, by decide⟩ ?_
            refine wp_callV [pI _] _ d_tl_refusalOfItem_75 jd_tl_found lk_tl_148 rfl s_0 rfl (Nat.le_of_ble_eq_true rfl) (Nat.le_of_ble_eq_true rfl) rfl ?_
            refine clI_k h ?_
            intro x11 M5 h
            exact wp_iret d_tl_refusalOfItem_78 rfl ⟨Nat.le_of_ble_eq_true rfl, Nat.le_of_ble_eq_true rfl⟩ ⟨_, rfl, rfl, rfl, h⟩
          · have h := h.2 c10
            refine wp_iconst d_tl_refusalOfItem_69 ⟨by decide, by decide⟩ ?_
            refine wp_goto 78 d_tl_refusalOfItem_70 (by decide) ?_
            exact wp_iret d_tl_refusalOfItem_78 rfl ⟨Nat.le_of_ble_eq_true rfl, Nat.le_of_ble_eq_true rfl⟩ ⟨_, rfl, rfl, rfl, h⟩
        · have h := h.2 c8
          refine wp_aload_n d_tl_refusalOfItem_48 rfl 0 rfl ?_
          refine wp_iconst d_tl_refusalOfItem_49 ⟨by decide, by decide⟩ ?_
          refine wp_callV [pI _] _ d_tl_refusalOfItem_50 jd_tl_found lk_tl_148 rfl s_0 rfl (Nat.le_of_ble_eq_true rfl) (Nat.le_of_ble_eq_true rfl) rfl ?_
          refine clI_k h ?_
          intro x9 M4 h
          exact wp_iret d_tl_refusalOfItem_53 rfl ⟨Nat.le_of_ble_eq_true rfl, Nat.le_of_ble_eq_true rfl⟩ ⟨_, rfl, rfl, rfl, h⟩
      · have h := h.2 c7
        refine wp_aload_n d_tl_refusalOfItem_33 rfl 0 rfl ?_
        refine wp_iconst d_tl_refusalOfItem_34 ⟨by decide, by decide⟩ ?_
        refine wp_callV [pI _] _ d_tl_refusalOfItem_35 jd_tl_found lk_tl_148 rfl s_0 rfl (Nat.le_of_ble_eq_true rfl) (Nat.le_of_ble_eq_true rfl) rfl ?_
        refine clI_k h ?_
        intro x8 M4 h
        exact wp_iret d_tl_refusalOfItem_38 rfl ⟨Nat.le_of_ble_eq_true rfl, Nat.le_of_ble_eq_true rfl⟩ ⟨_, rfl, rfl, rfl, h⟩
    · have h := h.2 c4
      refine wp_bipush d_tl_refusalOfItem_14 ⟨by decide, by decide⟩ (by decide) ?_
      exact wp_iret d_tl_refusalOfItem_16 rfl ⟨Nat.le_of_ble_eq_true rfl, Nat.le_of_ble_eq_true rfl⟩ ⟨_, rfl, rfl, rfl, h⟩
