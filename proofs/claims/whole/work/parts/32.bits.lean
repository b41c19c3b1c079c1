/-! bits of longs -/
def bt (x : Int) (t : Nat) : Bool := (Int64.ofInt x).toBitVec.getLsbD t
theorem bt_lor (x y : Int) (t : Nat) : bt (lor x y) t = (bt x t || bt y t) := by
  unfold bt lor
  rw [o64, Int64.toBitVec_or, BitVec.getLsbD_or]
theorem bt_land (x y : Int) (t : Nat) : bt (land x y) t = (bt x t && bt y t) := by
  unfold bt land
  rw [o64, Int64.toBitVec_and, BitVec.getLsbD_and]
theorem bt_m1 : ∀ t, t < 64 → bt (-1) t = true := by decide +kernel
theorem bt_0 (t : Nat) : bt 0 t = false := by
  unfold bt
  rw [show (Int64.ofInt 0).toBitVec = 0#64 from rfl, BitVec.getLsbD_zero]
theorem bt_not (x : Int) {t : Nat} (h : t < 64) : bt (lxor x (-1)) t = !bt x t := by
  have h1 := bt_m1 t h
  unfold bt at h1
  unfold bt lxor
  rw [o64, Int64.toBitVec_xor, BitVec.getLsbD_xor, h1]
  simp
theorem bt_shl : ∀ i, i < 41 → ∀ t, t < 64 → bt (lshl 1 (i : Nat)) t = decide (t = i) := by decide +kernel
theorem bt_mask : ∀ i, i < 41 → ∀ t, t < 64 → bt (w64 (lshl 1 (i : Nat) - 1)) t = decide (t < i) := by decide +kernel
theorem tb_add (x y : Int) : (Int64.ofInt (w64 (x + y))).toBitVec = (Int64.ofInt x).toBitVec + (Int64.ofInt y).toBitVec := by
  rw [← la_add, Int64.toBitVec_add]
theorem tb_sub (x y : Int) : (Int64.ofInt (w64 (x - y))).toBitVec = (Int64.ofInt x).toBitVec - (Int64.ofInt y).toBitVec := by
  rw [← la_sub, Int64.toBitVec_sub]
def cy (x y : Int) (t : Nat) : Bool := BitVec.carry t (Int64.ofInt x).toBitVec (Int64.ofInt y).toBitVec false
theorem bt_add (x y : Int) {t : Nat} (h : t < 64) : bt (w64 (x + y)) t = (bt x t ^^ (bt y t ^^ cy x y t)) := by
  unfold bt cy
  rw [tb_add, BitVec.getLsbD_add h]
theorem cy_0 (x y : Int) : cy x y 0 = false := by
  unfold cy
  rw [BitVec.carry_zero]
theorem cy_s (x y : Int) (t : Nat) : cy x y (t + 1) = Bool.atLeastTwo (bt x t) (bt y t) (cy x y t) := by
  unfold cy bt
  rw [BitVec.carry_succ]
theorem bv_subm (x m : BitVec 64) : x - (x &&& m) = x &&& ~~~m := by
  have h0 : (x &&& m) &&& (x &&& ~~~m) = 0#64 := by
    ext i hi
    simp
    intro h1 h2 _
    exact h2
  have h1 : (x &&& m) + (x &&& ~~~m) = x := by
    rw [BitVec.add_eq_or_of_and_eq_zero _ _ h0]
    ext i hi
    simp
    cases x[i] <;> cases m[i] <;> rfl
  apply BitVec.eq_of_toNat_eq
  have h2 := congrArg BitVec.toNat h1
  rw [BitVec.toNat_add] at h2
  rw [BitVec.toNat_sub]
  have a1 := (x &&& m).isLt
  have a2 := (x &&& ~~~m).isLt
  have a3 := x.isLt
  omega
theorem bt_subm (x m : Int) {t : Nat} (h : t < 64) : bt (w64 (x - land x m)) t = (bt x t && !bt m t) := by
  have e : (Int64.ofInt (land x m)).toBitVec = (Int64.ofInt x).toBitVec &&& (Int64.ofInt m).toBitVec := by
    unfold land
    rw [o64, Int64.toBitVec_and]
  unfold bt
  rw [tb_sub, e, bv_subm, BitVec.getLsbD_and, BitVec.getLsbD_not]
  simp [h]
