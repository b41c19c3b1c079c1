set_option maxHeartbeats 8000000 in
theorem e_jl_bitCount {G : GT} {M : MT} {P : Int → MT → Prop} (v0 : Int)
    (h : WpI G J_jl_bitCount 10 [(0, pL (w64 (v0 - (land (lushr v0 1) 6148914691236517205))))] [] M P) : ClI G J_jl_bitCount M [pL v0] P := by
  show Wp G J_jl_bitCount 0 0 0 [(0, pL v0)] [] NN RF M _
  refine wp_lload_n d_jl_bitCount_0 rfl 0 rfl ?_
  refine wp_lload_n d_jl_bitCount_1 rfl 0 rfl ?_
  refine wp_iconst d_jl_bitCount_2 ⟨by decide, by decide⟩ ?_
  refine wp_lushr d_jl_bitCount_3 ?_
  refine wp_ldc2 lk_jl_314 d_jl_bitCount_4 ⟨by decide, by decide⟩ ?_
  refine wp_land d_jl_bitCount_7 ?_
  refine wp_lsub d_jl_bitCount_8 ?_
  refine wp_lstore_n (L2 := [(0, pL _)]) d_jl_bitCount_9 rfl (Nat.le_of_ble_eq_true rfl) [0] rfl ?_
  exact h
set_option maxHeartbeats 8000000 in
theorem b_jl_bitCount_10 {G : GT} {M : MT} {P : Int → MT → Prop} (v0 : Int)
    (h : WpI G J_jl_bitCount 24 [(0, pL (w64 ((land v0 3689348814741910323) + (land (lushr v0 2) 3689348814741910323))))] [] M P) : WpI G J_jl_bitCount 10 [(0, pL v0)] [] M P := by
  show Wp G J_jl_bitCount 0 0 10 [(0, pL v0)] [] NN RF M _
  refine wp_lload_n d_jl_bitCount_10 rfl 0 rfl ?_
  refine wp_ldc2 lk_jl_316 d_jl_bitCount_11 ⟨by decide, by decide⟩ ?_
  refine wp_land d_jl_bitCount_14 ?_
  refine wp_lload_n d_jl_bitCount_15 rfl 0 rfl ?_
  refine wp_iconst d_jl_bitCount_16 ⟨by decide, by decide⟩ ?_
  refine wp_lushr d_jl_bitCount_17 ?_
  refine wp_ldc2 lk_jl_316 d_jl_bitCount_18 ⟨by decide, by decide⟩ ?_
  refine wp_land d_jl_bitCount_21 ?_
  refine wp_ladd d_jl_bitCount_22 ?_
  refine wp_lstore_n (L2 := [(0, pL _)]) d_jl_bitCount_23 rfl (Nat.le_of_ble_eq_true rfl) [0] rfl ?_
  exact h
set_option maxHeartbeats 8000000 in
theorem b_jl_bitCount_24 {G : GT} {M : MT} {P : Int → MT → Prop} (v0 : Int)
    (h : WpI G J_jl_bitCount 34 [(0, pL (land (w64 (v0 + (lushr v0 4))) 1085102592571150095))] [] M P) : WpI G J_jl_bitCount 24 [(0, pL v0)] [] M P := by
  show Wp G J_jl_bitCount 0 0 24 [(0, pL v0)] [] NN RF M _
  refine wp_lload_n d_jl_bitCount_24 rfl 0 rfl ?_
  refine wp_lload_n d_jl_bitCount_25 rfl 0 rfl ?_
  refine wp_iconst d_jl_bitCount_26 ⟨by decide, by decide⟩ ?_
  refine wp_lushr d_jl_bitCount_27 ?_
  refine wp_ladd d_jl_bitCount_28 ?_
  refine wp_ldc2 lk_jl_318 d_jl_bitCount_29 ⟨by decide, by decide⟩ ?_
  refine wp_land d_jl_bitCount_32 ?_
  refine wp_lstore_n (L2 := [(0, pL _)]) d_jl_bitCount_33 rfl (Nat.le_of_ble_eq_true rfl) [0] rfl ?_
  exact h
set_option maxHeartbeats 8000000 in
theorem b_jl_bitCount_34 {G : GT} {M : MT} {P : Int → MT → Prop} (v0 : Int)
    (h : WpI G J_jl_bitCount 41 [(0, pL (w64 (v0 + (lushr v0 8))))] [] M P) : WpI G J_jl_bitCount 34 [(0, pL v0)] [] M P := by
  show Wp G J_jl_bitCount 0 0 34 [(0, pL v0)] [] NN RF M _
  refine wp_lload_n d_jl_bitCount_34 rfl 0 rfl ?_
  refine wp_lload_n d_jl_bitCount_35 rfl 0 rfl ?_
  refine wp_bipush d_jl_bitCount_36 ⟨by decide, by decide⟩ (by decide) ?_
  refine wp_lushr d_jl_bitCount_38 ?_
  refine wp_ladd d_jl_bitCount_39 ?_
  refine wp_lstore_n (L2 := [(0, pL _)]) d_jl_bitCount_40 rfl (Nat.le_of_ble_eq_true rfl) [0] rfl ?_
  exact h
set_option maxHeartbeats 8000000 in
theorem b_jl_bitCount_41 {G : GT} {M : MT} {P : Int → MT → Prop} (v0 : Int)
    (h : WpI G J_jl_bitCount 48 [(0, pL (w64 (v0 + (lushr v0 16))))] [] M P) : WpI G J_jl_bitCount 41 [(0, pL v0)] [] M P := by
  show Wp G J_jl_bitCount 0 0 41 [(0, pL v0)] [] NN RF M _
  refine wp_lload_n d_jl_bitCount_41 rfl 0 rfl ?_
  refine wp_lload_n d_jl_bitCount_42 rfl 0 rfl ?_
  refine wp_bipush d_jl_bitCount_43 ⟨by decide, by decide⟩ (by decide) ?_
  refine wp_lushr d_jl_bitCount_45 ?_
  refine wp_ladd d_jl_bitCount_46 ?_
  refine wp_lstore_n (L2 := [(0, pL _)]) d_jl_bitCount_47 rfl (Nat.le_of_ble_eq_true rfl) [0] rfl ?_
  exact h
set_option maxHeartbeats 8000000 in
theorem b_jl_bitCount_48 {G : GT} {M : MT} {P : Int → MT → Prop} (v0 : Int)
    (h : WpI G J_jl_bitCount 55 [(0, pL (w64 (v0 + (lushr v0 32))))] [] M P) : WpI G J_jl_bitCount 48 [(0, pL v0)] [] M P := by
  show Wp G J_jl_bitCount 0 0 48 [(0, pL v0)] [] NN RF M _
  refine wp_lload_n d_jl_bitCount_48 rfl 0 rfl ?_
  refine wp_lload_n d_jl_bitCount_49 rfl 0 rfl ?_
  refine wp_bipush d_jl_bitCount_50 ⟨by decide, by decide⟩ (by decide) ?_
  refine wp_lushr d_jl_bitCount_52 ?_
  refine wp_ladd d_jl_bitCount_53 ?_
  refine wp_lstore_n (L2 := [(0, pL _)]) d_jl_bitCount_54 rfl (Nat.le_of_ble_eq_true rfl) [0] rfl ?_
  exact h
set_option maxHeartbeats 8000000 in
theorem b_jl_bitCount_55 {G : GT} {M : MT} {P : Int → MT → Prop} (v0 : Int)
    (h : P (iand (w32 v0) 127) M) : WpI G J_jl_bitCount 55 [(0, pL v0)] [] M P := by
  show Wp G J_jl_bitCount 0 0 55 [(0, pL v0)] [] NN RF M _
  refine wp_lload_n d_jl_bitCount_55 rfl 0 rfl ?_
  refine wp_l2i d_jl_bitCount_56 ?_
  refine wp_bipush d_jl_bitCount_57 ⟨by decide, by decide⟩ (by decide) ?_
  refine wp_iand d_jl_bitCount_59 ?_
  exact wp_iret d_jl_bitCount_60 rfl ⟨Nat.le_of_ble_eq_true rfl, Nat.le_of_ble_eq_true rfl⟩ ⟨_, rfl, rfl, rfl, h⟩
