set_option maxHeartbeats 8000000 in
theorem e_ji_bitCount {G : GT} {M : MT} {P : Int → MT → Prop} (v0 : Int)
    (h : WpI G J_ji_bitCount 10 [(0, pI (w32 (v0 - (iand (iushr v0 1) 1431655765))))] [] M P) : ClI G J_ji_bitCount M [pI v0] P := by
  show Wp G J_ji_bitCount 0 0 0 [(0, pI v0)] [] NN RF M _
  refine wp_iload_n d_ji_bitCount_0 rfl 0 rfl ?_
  refine wp_iload_n d_ji_bitCount_1 rfl 0 rfl ?_
  refine wp_iconst d_ji_bitCount_2 ⟨by decide, by decide⟩ ?_
  refine wp_iushr d_ji_bitCount_3 ?_
  refine wp_ldcw lk_ji_265 d_ji_bitCount_4 ⟨by decide, by decide⟩ ?_
  refine wp_iand d_ji_bitCount_7 ?_
  refine wp_isub d_ji_bitCount_8 ?_
  refine wp_istore_n (L2 := [(0, pI _)]) d_ji_bitCount_9 rfl (Nat.le_of_ble_eq_true rfl) [0] rfl ?_
  exact h
set_option maxHeartbeats 8000000 in
theorem b_ji_bitCount_10 {G : GT} {M : MT} {P : Int → MT → Prop} (v0 : Int)
    (h : WpI G J_ji_bitCount 24 [(0, pI (w32 ((iand v0 858993459) + (iand (iushr v0 2) 858993459))))] [] M P) : WpI G J_ji_bitCount 10 [(0, pI v0)] [] M P := by
  show Wp G J_ji_bitCount 0 0 10 [(0, pI v0)] [] NN RF M _
  refine wp_iload_n d_ji_bitCount_10 rfl 0 rfl ?_
  refine wp_ldcw lk_ji_266 d_ji_bitCount_11 ⟨by decide, by decide⟩ ?_
  refine wp_iand d_ji_bitCount_14 ?_
  refine wp_iload_n d_ji_bitCount_15 rfl 0 rfl ?_
  refine wp_iconst d_ji_bitCount_16 ⟨by decide, by decide⟩ ?_
  refine wp_iushr d_ji_bitCount_17 ?_
  refine wp_ldcw lk_ji_266 d_ji_bitCount_18 ⟨by decide, by decide⟩ ?_
  refine wp_iand d_ji_bitCount_21 ?_
  refine wp_iadd d_ji_bitCount_22 ?_
  refine wp_istore_n (L2 := [(0, pI _)]) d_ji_bitCount_23 rfl (Nat.le_of_ble_eq_true rfl) [0] rfl ?_
  exact h
set_option maxHeartbeats 8000000 in
theorem b_ji_bitCount_24 {G : GT} {M : MT} {P : Int → MT → Prop} (v0 : Int)
    (h : WpI G J_ji_bitCount 34 [(0, pI (iand (w32 (v0 + (iushr v0 4))) 252645135))] [] M P) : WpI G J_ji_bitCount 24 [(0, pI v0)] [] M P := by
  show Wp G J_ji_bitCount 0 0 24 [(0, pI v0)] [] NN RF M _
  refine wp_iload_n d_ji_bitCount_24 rfl 0 rfl ?_
  refine wp_iload_n d_ji_bitCount_25 rfl 0 rfl ?_
  refine wp_iconst d_ji_bitCount_26 ⟨by decide, by decide⟩ ?_
  refine wp_iushr d_ji_bitCount_27 ?_
  refine wp_iadd d_ji_bitCount_28 ?_
  refine wp_ldcw lk_ji_267 d_ji_bitCount_29 ⟨by decide, by decide⟩ ?_
  refine wp_iand d_ji_bitCount_32 ?_
  refine wp_istore_n (L2 := [(0, pI _)]) d_ji_bitCount_33 rfl (Nat.le_of_ble_eq_true rfl) [0] rfl ?_
  exact h
set_option maxHeartbeats 8000000 in
theorem b_ji_bitCount_34 {G : GT} {M : MT} {P : Int → MT → Prop} (v0 : Int)
    (h : WpI G J_ji_bitCount 41 [(0, pI (w32 (v0 + (iushr v0 8))))] [] M P) : WpI G J_ji_bitCount 34 [(0, pI v0)] [] M P := by
  show Wp G J_ji_bitCount 0 0 34 [(0, pI v0)] [] NN RF M _
  refine wp_iload_n d_ji_bitCount_34 rfl 0 rfl ?_
  refine wp_iload_n d_ji_bitCount_35 rfl 0 rfl ?_
  refine wp_bipush d_ji_bitCount_36 ⟨by decide, by decide⟩ (by decide) ?_
  refine wp_iushr d_ji_bitCount_38 ?_
  refine wp_iadd d_ji_bitCount_39 ?_
  refine wp_istore_n (L2 := [(0, pI _)]) d_ji_bitCount_40 rfl (Nat.le_of_ble_eq_true rfl) [0] rfl ?_
  exact h
set_option maxHeartbeats 8000000 in
theorem b_ji_bitCount_41 {G : GT} {M : MT} {P : Int → MT → Prop} (v0 : Int)
    (h : WpI G J_ji_bitCount 48 [(0, pI (w32 (v0 + (iushr v0 16))))] [] M P) : WpI G J_ji_bitCount 41 [(0, pI v0)] [] M P := by
  show Wp G J_ji_bitCount 0 0 41 [(0, pI v0)] [] NN RF M _
  refine wp_iload_n d_ji_bitCount_41 rfl 0 rfl ?_
  refine wp_iload_n d_ji_bitCount_42 rfl 0 rfl ?_
  refine wp_bipush d_ji_bitCount_43 ⟨by decide, by decide⟩ (by decide) ?_
  refine wp_iushr d_ji_bitCount_45 ?_
  refine wp_iadd d_ji_bitCount_46 ?_
  refine wp_istore_n (L2 := [(0, pI _)]) d_ji_bitCount_47 rfl (Nat.le_of_ble_eq_true rfl) [0] rfl ?_
  exact h
set_option maxHeartbeats 8000000 in
theorem b_ji_bitCount_48 {G : GT} {M : MT} {P : Int → MT → Prop} (v0 : Int)
    (h : P (iand v0 63) M) : WpI G J_ji_bitCount 48 [(0, pI v0)] [] M P := by
  show Wp G J_ji_bitCount 0 0 48 [(0, pI v0)] [] NN RF M _
  refine wp_iload_n d_ji_bitCount_48 rfl 0 rfl ?_
  refine wp_bipush d_ji_bitCount_49 ⟨by decide, by decide⟩ (by decide) ?_
  refine wp_iand d_ji_bitCount_51 ?_
  exact wp_iret d_ji_bitCount_52 rfl ⟨Nat.le_of_ble_eq_true rfl, Nat.le_of_ble_eq_true rfl⟩ ⟨_, rfl, rfl, rfl, h⟩
