section PS
variable {G : GT} {J : MD} {k z pc : Nat} {L : LT} {st : List PV} {n : Nat} {R : RT} {M : MT} {Q : QT}

theorem ia_add (x y : Int) : Int32.ofInt x + Int32.ofInt y = Int32.ofInt (w32 (x + y)) := by rw [o32_w]; exact (Int32.ofInt_add x y).symm
theorem ia_sub (x y : Int) : Int32.ofInt x - Int32.ofInt y = Int32.ofInt (w32 (x - y)) := by
  rw [o32_w]
  apply Int32.toInt_inj.mp
  rw [Int32.toInt_sub, Int32.toInt_ofInt, Int32.toInt_ofInt, Int32.toInt_ofInt]
  show ((x.bmod 4294967296) - (y.bmod 4294967296)).bmod 4294967296 = (x - y).bmod 4294967296
  rw [Int.bmod_sub_bmod, Int.sub_bmod_bmod]
theorem ia_mul (x y : Int) : Int32.ofInt x * Int32.ofInt y = Int32.ofInt (w32 (x * y)) := by rw [o32_w]; exact (Int32.ofInt_mul x y).symm
theorem la_add (x y : Int) : Int64.ofInt x + Int64.ofInt y = Int64.ofInt (w64 (x + y)) := by rw [o64_w]; exact (Int64.ofInt_add x y).symm
theorem la_mul (x y : Int) : Int64.ofInt x * Int64.ofInt y = Int64.ofInt (w64 (x * y)) := by rw [o64_w]; exact (Int64.ofInt_mul x y).symm
theorem la_sub (x y : Int) : Int64.ofInt x - Int64.ofInt y = Int64.ofInt (w64 (x - y)) := by
  rw [o64_w]
  apply Int64.toInt_inj.mp
  rw [Int64.toInt_sub, Int64.toInt_ofInt, Int64.toInt_ofInt, Int64.toInt_ofInt]
  show ((x.bmod 18446744073709551616) - (y.bmod 18446744073709551616)).bmod 18446744073709551616 = (x - y).bmod 18446744073709551616
  rw [Int.bmod_sub_bmod, Int.sub_bmod_bmod]
theorem ia_div {x y : Int} (hx : R32 x) (hy : R32 y) : Int32.ofInt x / Int32.ofInt y = Int32.ofInt (w32 (x.tdiv y)) := by
  rw [o32_w]
  apply Int32.toInt_inj.mp
  rw [Int32.toInt_div, t32 hx, t32 hy, Int32.toInt_ofInt]
theorem la_div {x y : Int} (hx : R64 x) (hy : R64 y) : Int64.ofInt x / Int64.ofInt y = Int64.ofInt (w64 (x.tdiv y)) := by
  rw [o64_w]
  apply Int64.toInt_inj.mp
  rw [Int64.toInt_div, t64 hx, t64 hy, Int64.toInt_ofInt]
theorem ia_rem {x y : Int} (hx : R32 x) (hy : R32 y) : Int32.ofInt x - Int32.ofInt x / Int32.ofInt y * Int32.ofInt y = Int32.ofInt (w32 (x.tmod y)) := by
  rw [ia_div hx hy, ia_mul, ia_sub, o32_w, o32_w, Int.tmod_def]
  apply Int32.toInt_inj.mp
  rw [Int32.toInt_ofInt, Int32.toInt_ofInt]
  unfold w32
  rw [Int32.toInt_ofInt, Int32.toInt_ofInt, Int.sub_bmod_bmod]
  show (x - (x.tdiv y).bmod 4294967296 * y).bmod 4294967296 = (x - y * x.tdiv y).bmod 4294967296
  calc (x - (x.tdiv y).bmod 4294967296 * y).bmod 4294967296 = (x - ((x.tdiv y).bmod 4294967296 * y).bmod 4294967296).bmod 4294967296 := (Int.sub_bmod_bmod).symm
    _ = (x - (x.tdiv y * y).bmod 4294967296).bmod 4294967296 := by rw [Int.bmod_mul_bmod]
    _ = (x - x.tdiv y * y).bmod 4294967296 := Int.sub_bmod_bmod
    _ = (x - y * x.tdiv y).bmod 4294967296 := by rw [Int.mul_comm]
theorem la_rem {x y : Int} (hx : R64 x) (hy : R64 y) : Int64.ofInt x - Int64.ofInt x / Int64.ofInt y * Int64.ofInt y = Int64.ofInt (w64 (x.tmod y)) := by
  rw [la_div hx hy, la_mul, la_sub, o64_w, o64_w, Int.tmod_def]
  apply Int64.toInt_inj.mp
  rw [Int64.toInt_ofInt, Int64.toInt_ofInt]
  unfold w64
  rw [Int64.toInt_ofInt, Int64.toInt_ofInt, Int.sub_bmod_bmod]
  show (x - (x.tdiv y).bmod 18446744073709551616 * y).bmod 18446744073709551616 = (x - y * x.tdiv y).bmod 18446744073709551616
  calc (x - (x.tdiv y).bmod 18446744073709551616 * y).bmod 18446744073709551616 = (x - ((x.tdiv y).bmod 18446744073709551616 * y).bmod 18446744073709551616).bmod 18446744073709551616 := (Int.sub_bmod_bmod).symm
    _ = (x - (x.tdiv y * y).bmod 18446744073709551616).bmod 18446744073709551616 := by rw [Int.bmod_mul_bmod]
    _ = (x - x.tdiv y * y).bmod 18446744073709551616 := Int.sub_bmod_bmod
    _ = (x - y * x.tdiv y).bmod 18446744073709551616 := by rw [Int.mul_comm]
def iand (x y : Int) : Int := (Int32.ofInt x &&& Int32.ofInt y).toInt
def ior (x y : Int) : Int := (Int32.ofInt x ||| Int32.ofInt y).toInt
def ixor (x y : Int) : Int := (Int32.ofInt x ^^^ Int32.ofInt y).toInt
def ishl (x y : Int) : Int := (Int32.ofInt x <<< (Int32.ofInt y &&& 31)).toInt
def ishr (x y : Int) : Int := (Int32.ofInt x >>> (Int32.ofInt y &&& 31)).toInt
def iushr (x y : Int) : Int := ((Int32.ofInt x).toUInt32 >>> ((Int32.ofInt y).toUInt32 &&& Int32.toUInt32 31)).toInt32.toInt
def land (x y : Int) : Int := (Int64.ofInt x &&& Int64.ofInt y).toInt
def lor (x y : Int) : Int := (Int64.ofInt x ||| Int64.ofInt y).toInt
def lxor (x y : Int) : Int := (Int64.ofInt x ^^^ Int64.ofInt y).toInt
def lshl (x y : Int) : Int := (Int64.ofInt x <<< ((Int32.ofInt y).toInt64 &&& 63)).toInt
def lushr (x y : Int) : Int := ((Int64.ofInt x).toUInt64 >>> ((Int32.ofInt y).toInt64.toUInt64 &&& Int64.toUInt64 63)).toInt64.toInt
def i2b (x : Int) : Int := (Int32.ofInt x).toInt8.toInt32.toInt
def i2s (x : Int) : Int := (Int32.ofInt x).toInt16.toInt32.toInt
def i2c (x : Int) : Int := ((Int32.ofInt x).toUInt32 % 65536).toInt32.toInt
def lcm (x y : Int) : Int := if x > y then 1 else if x = y then 0 else -1
theorem lcm_ge (x y : Int) : 0 ≤ lcm x y ↔ y ≤ x := by unfold lcm; split <;> (try split) <;> omega
theorem lcm_gt (x y : Int) : 0 < lcm x y ↔ y < x := by unfold lcm; split <;> (try split) <;> omega
theorem lcm_le (x y : Int) : lcm x y ≤ 0 ↔ x ≤ y := by unfold lcm; split <;> (try split) <;> omega
theorem lcm_lt (x y : Int) : lcm x y < 0 ↔ x < y := by unfold lcm; split <;> (try split) <;> omega
theorem lcm_eq (x y : Int) : lcm x y = 0 ↔ x = y := by unfold lcm; split <;> (try split) <;> omega

theorem wp_iconst {v : Int} (hd : decode J.2.1 pc = .ok (.iconst v, 1)) (hr : R32 v) (kk : Wp G J k z (pc + 1) L (pI v :: st) n R M Q) : Wp G J k z pc L st n R M Q := by
  intro p e s m args below meth c C ad0 n0 ad H locs ls X hl ok
  exact lv_iconst C.1 C.2.1 hd rfl (kk p e s m args below meth c C ad0 n0 ad H locs ls X hl (okS_push ok hr))
theorem wp_bipush {v : Int} (hd : decode J.2.1 pc = .ok (.bipush v, 2)) (hr : R32 v) (hv : (Int8.ofInt v).toInt32 = Int32.ofInt v) (kk : Wp G J k z (pc + 2) L (pI v :: st) n R M Q) : Wp G J k z pc L st n R M Q := by
  intro p e s m args below meth c C ad0 n0 ad H locs ls X hl ok
  exact lv_bipush C.1 C.2.1 hd hv (kk p e s m args below meth c C ad0 n0 ad H locs ls X hl (okS_push ok hr))
theorem wp_sipush {v : Int} (hd : decode J.2.1 pc = .ok (.sipush v, 3)) (hr : R32 v) (hv : (Int16.ofInt v).toInt32 = Int32.ofInt v) (kk : Wp G J k z (pc + 3) L (pI v :: st) n R M Q) : Wp G J k z pc L st n R M Q := by
  intro p e s m args below meth c C ad0 n0 ad H locs ls X hl ok
  exact lv_sipush C.1 C.2.1 hd hv (kk p e s m args below meth c C ad0 n0 ad H locs ls X hl (okS_push ok hr))
theorem wp_lconst {f : Fin 2} {v : Int} (hd : decode J.2.1 pc = .ok (.lconst f, 1)) (hv : ((f : Nat) : Int) = v) (kk : Wp G J k z (pc + 1) L (pL v :: st) n R M Q) : Wp G J k z pc L st n R M Q := by
  subst hv
  intro p e s m args below meth c C ad0 n0 ad H locs ls X hl ok
  exact lv_lconst C.1 C.2.1 hd (by rcases f with ⟨_ | _ | _, h⟩ <;> first | rfl | omega) (kk p e s m args below meth c C ad0 n0 ad H locs ls X hl (okS_push ok (show R64 _ by unfold R64; omega)))
theorem wp_ldc {i : Nat} {v : Int} (hw : Cond.constant J.1.cls i (Int32.ofInt v) ∈ TB) (hd : decode J.2.1 pc = .ok (.ldc i, 2)) (hr : R32 v) (kk : Wp G J k z (pc + 2) L (pI v :: st) n R M Q) : Wp G J k z pc L st n R M Q := by
  intro p e s m args below meth c C ad0 n0 ad H locs ls X hl ok
  exact lv_ldc C.1 C.2.1 C.2.2.2.2.1 (C.2.2.2.2.2.2.2.1 _ hw) hd (kk p e s m args below meth c C ad0 n0 ad H locs ls X hl (okS_push ok hr))
theorem wp_ldcw {i : Nat} {v : Int} (hw : Cond.constant J.1.cls i (Int32.ofInt v) ∈ TB) (hd : decode J.2.1 pc = .ok (.ldc_w i, 3)) (hr : R32 v) (kk : Wp G J k z (pc + 3) L (pI v :: st) n R M Q) : Wp G J k z pc L st n R M Q := by
  intro p e s m args below meth c C ad0 n0 ad H locs ls X hl ok
  exact lv_ldcw C.1 C.2.1 C.2.2.2.2.1 (C.2.2.2.2.2.2.2.1 _ hw) hd (kk p e s m args below meth c C ad0 n0 ad H locs ls X hl (okS_push ok hr))
theorem wp_ldc2 {i : Nat} {v : Int} (hw : Cond.constantLong J.1.cls i (Int64.ofInt v) ∈ TB) (hd : decode J.2.1 pc = .ok (.ldc2_w i, 3)) (hr : R64 v) (kk : Wp G J k z (pc + 3) L (pL v :: st) n R M Q) : Wp G J k z pc L st n R M Q := by
  intro p e s m args below meth c C ad0 n0 ad H locs ls X hl ok
  exact lv_ldc2 C.1 C.2.1 C.2.2.2.2.1 (C.2.2.2.2.2.2.2.1 _ hw) hd (kk p e s m args below meth c C ad0 n0 ad H locs ls X hl (okS_push ok hr))
theorem wp_null (hd : decode J.2.1 pc = .ok (.aconst_null, 1)) (kk : Wp G J k z (pc + 1) L (pN :: st) n R M Q) : Wp G J k z pc L st n R M Q := by
  intro p e s m args below meth c C ad0 n0 ad H locs ls X hl ok
  exact lv_null C.1 C.2.1 hd (kk p e s m args below meth c C ad0 n0 ad H locs ls X hl (okS_push ok trivial))
theorem wp_iload_n {f : Fin 4} {i : Nat} {x : Int} (hd : decode J.2.1 pc = .ok (.iload_n f, 1)) (hi : (f : Nat) = i) (k0 : Nat) (hk : L[k0]? = some (i, pI x)) (kk : Wp G J k z (pc + 1) L (pI x :: st) n R M Q) : Wp G J k z pc L st n R M Q := by
  intro p e s m args below meth c C ad0 n0 ad H locs ls X hl ok
  exact lv_iload_n C.1 C.2.1 hd hi (lv_at hl k0 (lmap_get hk)) (kk p e s m args below meth c C ad0 n0 ad H locs ls X hl (okS_push ok (ok.1 _ (List.mem_of_getElem? hk))))
theorem wp_iload {i : Nat} {x : Int} (hd : decode J.2.1 pc = .ok (.iload i, 2)) (k0 : Nat) (hk : L[k0]? = some (i, pI x)) (kk : Wp G J k z (pc + 2) L (pI x :: st) n R M Q) : Wp G J k z pc L st n R M Q := by
  intro p e s m args below meth c C ad0 n0 ad H locs ls X hl ok
  exact lv_iload C.1 C.2.1 hd (lv_at hl k0 (lmap_get hk)) (kk p e s m args below meth c C ad0 n0 ad H locs ls X hl (okS_push ok (ok.1 _ (List.mem_of_getElem? hk))))
theorem wp_lload_n {f : Fin 4} {i : Nat} {x : Int} (hd : decode J.2.1 pc = .ok (.lload_n f, 1)) (hi : (f : Nat) = i) (k0 : Nat) (hk : L[k0]? = some (i, pL x)) (kk : Wp G J k z (pc + 1) L (pL x :: st) n R M Q) : Wp G J k z pc L st n R M Q := by
  intro p e s m args below meth c C ad0 n0 ad H locs ls X hl ok
  exact lv_lload_n C.1 C.2.1 hd hi (lv_at hl k0 (lmap_get hk)) (kk p e s m args below meth c C ad0 n0 ad H locs ls X hl (okS_push ok (ok.1 _ (List.mem_of_getElem? hk))))
theorem wp_lload {i : Nat} {x : Int} (hd : decode J.2.1 pc = .ok (.lload i, 2)) (k0 : Nat) (hk : L[k0]? = some (i, pL x)) (kk : Wp G J k z (pc + 2) L (pL x :: st) n R M Q) : Wp G J k z pc L st n R M Q := by
  intro p e s m args below meth c C ad0 n0 ad H locs ls X hl ok
  exact lv_lload C.1 C.2.1 hd (lv_at hl k0 (lmap_get hk)) (kk p e s m args below meth c C ad0 n0 ad H locs ls X hl (okS_push ok (ok.1 _ (List.mem_of_getElem? hk))))
theorem wp_aload_n {f : Fin 4} {i : Nat} {x : Nat} (hd : decode J.2.1 pc = .ok (.aload_n f, 1)) (hi : (f : Nat) = i) (k0 : Nat) (hk : L[k0]? = some (i, pR x)) (kk : Wp G J k z (pc + 1) L (pR x :: st) n R M Q) : Wp G J k z pc L st n R M Q := by
  intro p e s m args below meth c C ad0 n0 ad H locs ls X hl ok
  exact lv_aload_n C.1 C.2.1 hd hi (lv_at hl k0 (lmap_get hk)) (kk p e s m args below meth c C ad0 n0 ad H locs ls X hl (okS_push ok (ok.1 _ (List.mem_of_getElem? hk))))
theorem wp_aload {i : Nat} {x : Nat} (hd : decode J.2.1 pc = .ok (.aload i, 2)) (k0 : Nat) (hk : L[k0]? = some (i, pR x)) (kk : Wp G J k z (pc + 2) L (pR x :: st) n R M Q) : Wp G J k z pc L st n R M Q := by
  intro p e s m args below meth c C ad0 n0 ad H locs ls X hl ok
  exact lv_aload C.1 C.2.1 hd (lv_at hl k0 (lmap_get hk)) (kk p e s m args below meth c C ad0 n0 ad H locs ls X hl (okS_push ok (ok.1 _ (List.mem_of_getElem? hk))))
theorem wp_aloadN {i : Nat} (hd : decode J.2.1 pc = .ok (.aload i, 2)) (k0 : Nat) (hk : L[k0]? = some (i, pN)) (kk : Wp G J k z (pc + 2) L (pN :: st) n R M Q) : Wp G J k z pc L st n R M Q := by
  intro p e s m args below meth c C ad0 n0 ad H locs ls X hl ok
  exact lv_aloadN C.1 C.2.1 hd (lv_at hl k0 (lmap_get hk)) (kk p e s m args below meth c C ad0 n0 ad H locs ls X hl (okS_push ok trivial))
theorem wp_istore_n {f : Fin 4} {i : Nat} {x : Int} {L2 : LT} (hd : decode J.2.1 pc = .ok (.istore_n f, 1)) (hi : (f : Nat) = i) (hn : i < J.2.2.1) (ks : List Nat) (hp : pk (st1 L i (pI x)) ks = L2) (kk : Wp G J k z (pc + 1) L2 st n R M Q) : Wp G J k z pc L ((pI x) :: st) n R M Q := by
  intro p e s m args below meth c C ad0 n0 ad H locs ls X hl ok
  exact lv_istore_n C.1 C.2.1 hd hi hl hn (lmap_st1 ad L i (pI x)) (fun ls2 hl2 => kk p e s m args below meth c C ad0 n0 ad H locs ls2 X (pk_has hl2 hp) (ok_st1 ok hp))
theorem wp_istore {i : Nat} {x : Int} {L2 : LT} (hd : decode J.2.1 pc = .ok (.istore i, 2)) (hn : i < J.2.2.1) (ks : List Nat) (hp : pk (st1 L i (pI x)) ks = L2) (kk : Wp G J k z (pc + 2) L2 st n R M Q) : Wp G J k z pc L ((pI x) :: st) n R M Q := by
  intro p e s m args below meth c C ad0 n0 ad H locs ls X hl ok
  exact lv_istore C.1 C.2.1 hd hl hn (lmap_st1 ad L i (pI x)) (fun ls2 hl2 => kk p e s m args below meth c C ad0 n0 ad H locs ls2 X (pk_has hl2 hp) (ok_st1 ok hp))
theorem wp_lstore_n {f : Fin 4} {i : Nat} {x : Int} {L2 : LT} (hd : decode J.2.1 pc = .ok (.lstore_n f, 1)) (hi : (f : Nat) = i) (hn : i + 1 < J.2.2.1) (ks : List Nat) (hp : pk (st2 L i (pL x)) ks = L2) (kk : Wp G J k z (pc + 1) L2 st n R M Q) : Wp G J k z pc L ((pL x) :: st) n R M Q := by
  intro p e s m args below meth c C ad0 n0 ad H locs ls X hl ok
  exact lv_lstore_n C.1 C.2.1 hd hi hl hn (lmap_st2 ad L i (pL x)) (fun ls2 hl2 => kk p e s m args below meth c C ad0 n0 ad H locs ls2 X (pk_has hl2 hp) (ok_st2 ok hp))
theorem wp_lstore {i : Nat} {x : Int} {L2 : LT} (hd : decode J.2.1 pc = .ok (.lstore i, 2)) (hn : i + 1 < J.2.2.1) (ks : List Nat) (hp : pk (st2 L i (pL x)) ks = L2) (kk : Wp G J k z (pc + 2) L2 st n R M Q) : Wp G J k z pc L ((pL x) :: st) n R M Q := by
  intro p e s m args below meth c C ad0 n0 ad H locs ls X hl ok
  exact lv_lstore C.1 C.2.1 hd hl hn (lmap_st2 ad L i (pL x)) (fun ls2 hl2 => kk p e s m args below meth c C ad0 n0 ad H locs ls2 X (pk_has hl2 hp) (ok_st2 ok hp))
theorem wp_astore_n {f : Fin 4} {i : Nat} {x : Nat} {L2 : LT} (hd : decode J.2.1 pc = .ok (.astore_n f, 1)) (hi : (f : Nat) = i) (hn : i < J.2.2.1) (ks : List Nat) (hp : pk (st1 L i (pR x)) ks = L2) (kk : Wp G J k z (pc + 1) L2 st n R M Q) : Wp G J k z pc L ((pR x) :: st) n R M Q := by
  intro p e s m args below meth c C ad0 n0 ad H locs ls X hl ok
  exact lv_astore_n C.1 C.2.1 hd hi hl hn (lmap_st1 ad L i (pR x)) (fun ls2 hl2 => kk p e s m args below meth c C ad0 n0 ad H locs ls2 X (pk_has hl2 hp) (ok_st1 ok hp))
theorem wp_astore {i : Nat} {x : Nat} {L2 : LT} (hd : decode J.2.1 pc = .ok (.astore i, 2)) (hn : i < J.2.2.1) (ks : List Nat) (hp : pk (st1 L i (pR x)) ks = L2) (kk : Wp G J k z (pc + 2) L2 st n R M Q) : Wp G J k z pc L ((pR x) :: st) n R M Q := by
  intro p e s m args below meth c C ad0 n0 ad H locs ls X hl ok
  exact lv_astore C.1 C.2.1 hd hl hn (lmap_st1 ad L i (pR x)) (fun ls2 hl2 => kk p e s m args below meth c C ad0 n0 ad H locs ls2 X (pk_has hl2 hp) (ok_st1 ok hp))
theorem wp_astoreN_n {f : Fin 4} {i : Nat} {L2 : LT} (hd : decode J.2.1 pc = .ok (.astore_n f, 1)) (hi : (f : Nat) = i) (hn : i < J.2.2.1) (ks : List Nat) (hp : pk (st1 L i pN) ks = L2) (kk : Wp G J k z (pc + 1) L2 st n R M Q) : Wp G J k z pc L (pN :: st) n R M Q := by
  intro p e s m args below meth c C ad0 n0 ad H locs ls X hl ok
  exact lv_astore_nN C.1 C.2.1 hd hi hl hn (lmap_st1 ad L i pN) (fun ls2 hl2 => kk p e s m args below meth c C ad0 n0 ad H locs ls2 X (pk_has hl2 hp) (ok_st1 ok hp))
theorem wp_astoreN {i : Nat} {L2 : LT} (hd : decode J.2.1 pc = .ok (.astore i, 2)) (hn : i < J.2.2.1) (ks : List Nat) (hp : pk (st1 L i pN) ks = L2) (kk : Wp G J k z (pc + 2) L2 st n R M Q) : Wp G J k z pc L (pN :: st) n R M Q := by
  intro p e s m args below meth c C ad0 n0 ad H locs ls X hl ok
  exact lv_astoreN C.1 C.2.1 hd hl hn (lmap_st1 ad L i pN) (fun ls2 hl2 => kk p e s m args below meth c C ad0 n0 ad H locs ls2 X (pk_has hl2 hp) (ok_st1 ok hp))
theorem wp_iinc {i : Nat} {d x : Int} {L2 : LT} (hd : decode J.2.1 pc = .ok (.iinc i d, 3)) (k0 : Nat) (hk : L[k0]? = some (i, pI x)) (hn : i < J.2.2.1) (ks : List Nat) (hp : pk (st1 L i (pI (w32 (x + d)))) ks = L2) (kk : Wp G J k z (pc + 3) L2 st n R M Q) : Wp G J k z pc L st n R M Q := by
  intro p e s m args below meth c C ad0 n0 ad H locs ls X hl ok
  exact lv_iinc C.1 C.2.1 hd hl (lmap_get hk) (ia_add x d) hn (lmap_st1 ad L i (pI (w32 (x + d)))) (fun ls2 hl2 => kk p e s m args below meth c C ad0 n0 ad H locs ls2 X (pk_has hl2 hp) (ok_st1 (okS_push (v := pI (w32 (x + d))) ok (r32_w _)) hp))
theorem wp_sub {L2 : LT} (ks : List Nat) (hp : pk L ks = L2) (kk : Wp G J k z pc L2 st n R M Q) : Wp G J k z pc L st n R M Q := by
  intro p e s m args below meth c C ad0 n0 ad H locs ls X hl ok
  exact kk p e s m args below meth c C ad0 n0 ad H locs ls X (pk_has hl hp) ⟨fun q hq => ok.1 q (pk_mem (by rw [hp]; exact hq)), ok.2⟩
theorem wp_dup {v : PV} (hd : decode J.2.1 pc = .ok (.dup, 1)) (hc : cat v = 1) (kk : Wp G J k z (pc + 1) L (v :: v :: st) n R M Q) : Wp G J k z pc L (v :: st) n R M Q := by
  intro p e s m args below meth c C ad0 n0 ad H locs ls X hl ok
  exact lv_dup C.1 C.2.1 hd ((cat_cv ad v).trans hc) (kk p e s m args below meth c C ad0 n0 ad H locs ls X hl (okS_push ok (okS_pop ok).1))
theorem wp_dup2 {v u : PV} (hd : decode J.2.1 pc = .ok (.dup2, 1)) (hc : cat v = 1) (hc2 : cat u = 1) (kk : Wp G J k z (pc + 1) L (v :: u :: v :: u :: st) n R M Q) : Wp G J k z pc L (v :: u :: st) n R M Q := by
  intro p e s m args below meth c C ad0 n0 ad H locs ls X hl ok
  exact lv_dup2_11 C.1 C.2.1 hd ((cat_cv ad v).trans hc) ((cat_cv ad u).trans hc2) (kk p e s m args below meth c C ad0 n0 ad H locs ls X hl (okS_push (okS_push ok (okS_pop (okS_pop ok).2).1) (okS_pop ok).1))
theorem wp_pop {v : PV} (hd : decode J.2.1 pc = .ok (.pop, 1)) (hc : cat v = 1) (kk : Wp G J k z (pc + 1) L st n R M Q) : Wp G J k z pc L (v :: st) n R M Q := by
  intro p e s m args below meth c C ad0 n0 ad H locs ls X hl ok
  exact lv_pop C.1 C.2.1 hd ((cat_cv ad v).trans hc) (kk p e s m args below meth c C ad0 n0 ad H locs ls X hl (okS_pop ok).2)
theorem wp_iadd {x y : Int} (hd : decode J.2.1 pc = .ok (.iadd, 1)) (kk : Wp G J k z (pc + 1) L (pI (w32 (x + y)) :: st) n R M Q) : Wp G J k z pc L (pI y :: pI x :: st) n R M Q := by
  intro p e s m args below meth c C ad0 n0 ad H locs ls X hl ok
  obtain ⟨oy, ok1⟩ := okS_pop ok
  obtain ⟨ox, ok2⟩ := okS_pop ok1
  refine lv_iadd C.1 C.2.1 hd ?_
  rw [ia_add]
  exact kk p e s m args below meth c C ad0 n0 ad H locs ls X hl (okS_push ok2 (r32_w _))
theorem wp_isub {x y : Int} (hd : decode J.2.1 pc = .ok (.isub, 1)) (kk : Wp G J k z (pc + 1) L (pI (w32 (x - y)) :: st) n R M Q) : Wp G J k z pc L (pI y :: pI x :: st) n R M Q := by
  intro p e s m args below meth c C ad0 n0 ad H locs ls X hl ok
  obtain ⟨oy, ok1⟩ := okS_pop ok
  obtain ⟨ox, ok2⟩ := okS_pop ok1
  refine lv_isub C.1 C.2.1 hd ?_
  rw [ia_sub]
  exact kk p e s m args below meth c C ad0 n0 ad H locs ls X hl (okS_push ok2 (r32_w _))
theorem wp_imul {x y : Int} (hd : decode J.2.1 pc = .ok (.imul, 1)) (kk : Wp G J k z (pc + 1) L (pI (w32 (x * y)) :: st) n R M Q) : Wp G J k z pc L (pI y :: pI x :: st) n R M Q := by
  intro p e s m args below meth c C ad0 n0 ad H locs ls X hl ok
  obtain ⟨oy, ok1⟩ := okS_pop ok
  obtain ⟨ox, ok2⟩ := okS_pop ok1
  refine lv_imul C.1 C.2.1 hd ?_
  rw [ia_mul]
  exact kk p e s m args below meth c C ad0 n0 ad H locs ls X hl (okS_push ok2 (r32_w _))
theorem wp_ladd {x y : Int} (hd : decode J.2.1 pc = .ok (.ladd, 1)) (kk : Wp G J k z (pc + 1) L (pL (w64 (x + y)) :: st) n R M Q) : Wp G J k z pc L (pL y :: pL x :: st) n R M Q := by
  intro p e s m args below meth c C ad0 n0 ad H locs ls X hl ok
  obtain ⟨oy, ok1⟩ := okS_pop ok
  obtain ⟨ox, ok2⟩ := okS_pop ok1
  refine lv_ladd C.1 C.2.1 hd ?_
  rw [la_add]
  exact kk p e s m args below meth c C ad0 n0 ad H locs ls X hl (okS_push ok2 (r64_w _))
theorem wp_lsub {x y : Int} (hd : decode J.2.1 pc = .ok (.lsub, 1)) (kk : Wp G J k z (pc + 1) L (pL (w64 (x - y)) :: st) n R M Q) : Wp G J k z pc L (pL y :: pL x :: st) n R M Q := by
  intro p e s m args below meth c C ad0 n0 ad H locs ls X hl ok
  obtain ⟨oy, ok1⟩ := okS_pop ok
  obtain ⟨ox, ok2⟩ := okS_pop ok1
  refine lv_lsub C.1 C.2.1 hd ?_
  rw [la_sub]
  exact kk p e s m args below meth c C ad0 n0 ad H locs ls X hl (okS_push ok2 (r64_w _))
theorem wp_lmul {x y : Int} (hd : decode J.2.1 pc = .ok (.lmul, 1)) (kk : Wp G J k z (pc + 1) L (pL (w64 (x * y)) :: st) n R M Q) : Wp G J k z pc L (pL y :: pL x :: st) n R M Q := by
  intro p e s m args below meth c C ad0 n0 ad H locs ls X hl ok
  obtain ⟨oy, ok1⟩ := okS_pop ok
  obtain ⟨ox, ok2⟩ := okS_pop ok1
  refine lv_lmul C.1 C.2.1 hd ?_
  rw [la_mul]
  exact kk p e s m args below meth c C ad0 n0 ad H locs ls X hl (okS_push ok2 (r64_w _))
theorem wp_idiv {x y : Int} (hd : decode J.2.1 pc = .ok (.idiv, 1)) (h0 : ¬ y = 0) (kk : Wp G J k z (pc + 1) L (pI (w32 (x.tdiv y)) :: st) n R M Q) : Wp G J k z pc L (pI y :: pI x :: st) n R M Q := by
  intro p e s m args below meth c C ad0 n0 ad H locs ls X hl ok
  obtain ⟨oy, ok1⟩ := okS_pop ok
  obtain ⟨ox, ok2⟩ := okS_pop ok1
  have hne : ¬ Int32.ofInt y = 0 := fun h => h0 ((e32 oy (show R32 0 by unfold R32; omega)).mp h)
  refine lv_idiv C.1 C.2.1 hd hne ?_
  rw [ia_div ox oy]
  exact kk p e s m args below meth c C ad0 n0 ad H locs ls X hl (okS_push ok2 (r32_w _))
theorem wp_irem {x y : Int} (hd : decode J.2.1 pc = .ok (.irem, 1)) (h0 : ¬ y = 0) (kk : Wp G J k z (pc + 1) L (pI (w32 (x.tmod y)) :: st) n R M Q) : Wp G J k z pc L (pI y :: pI x :: st) n R M Q := by
  intro p e s m args below meth c C ad0 n0 ad H locs ls X hl ok
  obtain ⟨oy, ok1⟩ := okS_pop ok
  obtain ⟨ox, ok2⟩ := okS_pop ok1
  have hne : ¬ Int32.ofInt y = 0 := fun h => h0 ((e32 oy (show R32 0 by unfold R32; omega)).mp h)
  refine lv_irem C.1 C.2.1 hd hne ?_
  rw [ia_rem ox oy]
  exact kk p e s m args below meth c C ad0 n0 ad H locs ls X hl (okS_push ok2 (r32_w _))
theorem wp_ldiv {x y : Int} (hd : decode J.2.1 pc = .ok (.ldiv, 1)) (h0 : ¬ y = 0) (kk : Wp G J k z (pc + 1) L (pL (w64 (x.tdiv y)) :: st) n R M Q) : Wp G J k z pc L (pL y :: pL x :: st) n R M Q := by
  intro p e s m args below meth c C ad0 n0 ad H locs ls X hl ok
  obtain ⟨oy, ok1⟩ := okS_pop ok
  obtain ⟨ox, ok2⟩ := okS_pop ok1
  have hne : ¬ Int64.ofInt y = 0 := fun h => h0 ((e64 oy (show R64 0 by unfold R64; omega)).mp h)
  refine lv_ldiv C.1 C.2.1 hd hne ?_
  rw [la_div ox oy]
  exact kk p e s m args below meth c C ad0 n0 ad H locs ls X hl (okS_push ok2 (r64_w _))
theorem wp_lrem {x y : Int} (hd : decode J.2.1 pc = .ok (.lrem, 1)) (h0 : ¬ y = 0) (kk : Wp G J k z (pc + 1) L (pL (w64 (x.tmod y)) :: st) n R M Q) : Wp G J k z pc L (pL y :: pL x :: st) n R M Q := by
  intro p e s m args below meth c C ad0 n0 ad H locs ls X hl ok
  obtain ⟨oy, ok1⟩ := okS_pop ok
  obtain ⟨ox, ok2⟩ := okS_pop ok1
  have hne : ¬ Int64.ofInt y = 0 := fun h => h0 ((e64 oy (show R64 0 by unfold R64; omega)).mp h)
  refine lv_lrem C.1 C.2.1 hd hne ?_
  rw [la_rem ox oy]
  exact kk p e s m args below meth c C ad0 n0 ad H locs ls X hl (okS_push ok2 (r64_w _))
theorem wp_iand {x y : Int} (hd : decode J.2.1 pc = .ok (.iand, 1)) (kk : Wp G J k z (pc + 1) L (pI (iand x y) :: st) n R M Q) : Wp G J k z pc L (pI y :: pI x :: st) n R M Q := by
  intro p e s m args below meth c C ad0 n0 ad H locs ls X hl ok
  obtain ⟨oy, ok1⟩ := okS_pop ok
  obtain ⟨ox, ok2⟩ := okS_pop ok1
  refine lv_iand C.1 C.2.1 hd ?_
  rw [show Int32.ofInt x &&& Int32.ofInt y = Int32.ofInt (iand x y) from (o32 _).symm]
  exact kk p e s m args below meth c C ad0 n0 ad H locs ls X hl (okS_push ok2 (r32 _))
theorem wp_ior {x y : Int} (hd : decode J.2.1 pc = .ok (.ior, 1)) (kk : Wp G J k z (pc + 1) L (pI (ior x y) :: st) n R M Q) : Wp G J k z pc L (pI y :: pI x :: st) n R M Q := by
  intro p e s m args below meth c C ad0 n0 ad H locs ls X hl ok
  obtain ⟨oy, ok1⟩ := okS_pop ok
  obtain ⟨ox, ok2⟩ := okS_pop ok1
  refine lv_ior C.1 C.2.1 hd ?_
  rw [show Int32.ofInt x ||| Int32.ofInt y = Int32.ofInt (ior x y) from (o32 _).symm]
  exact kk p e s m args below meth c C ad0 n0 ad H locs ls X hl (okS_push ok2 (r32 _))
theorem wp_ixor {x y : Int} (hd : decode J.2.1 pc = .ok (.ixor, 1)) (kk : Wp G J k z (pc + 1) L (pI (ixor x y) :: st) n R M Q) : Wp G J k z pc L (pI y :: pI x :: st) n R M Q := by
  intro p e s m args below meth c C ad0 n0 ad H locs ls X hl ok
  obtain ⟨oy, ok1⟩ := okS_pop ok
  obtain ⟨ox, ok2⟩ := okS_pop ok1
  refine lv_ixor C.1 C.2.1 hd ?_
  rw [show Int32.ofInt x ^^^ Int32.ofInt y = Int32.ofInt (ixor x y) from (o32 _).symm]
  exact kk p e s m args below meth c C ad0 n0 ad H locs ls X hl (okS_push ok2 (r32 _))
theorem wp_ishl {x y : Int} (hd : decode J.2.1 pc = .ok (.ishl, 1)) (kk : Wp G J k z (pc + 1) L (pI (ishl x y) :: st) n R M Q) : Wp G J k z pc L (pI y :: pI x :: st) n R M Q := by
  intro p e s m args below meth c C ad0 n0 ad H locs ls X hl ok
  obtain ⟨oy, ok1⟩ := okS_pop ok
  obtain ⟨ox, ok2⟩ := okS_pop ok1
  refine lv_ishl C.1 C.2.1 hd ?_
  rw [show Int32.ofInt x <<< (Int32.ofInt y &&& 31) = Int32.ofInt (ishl x y) from (o32 _).symm]
  exact kk p e s m args below meth c C ad0 n0 ad H locs ls X hl (okS_push ok2 (r32 _))
theorem wp_ishr {x y : Int} (hd : decode J.2.1 pc = .ok (.ishr, 1)) (kk : Wp G J k z (pc + 1) L (pI (ishr x y) :: st) n R M Q) : Wp G J k z pc L (pI y :: pI x :: st) n R M Q := by
  intro p e s m args below meth c C ad0 n0 ad H locs ls X hl ok
  obtain ⟨oy, ok1⟩ := okS_pop ok
  obtain ⟨ox, ok2⟩ := okS_pop ok1
  refine lv_ishr C.1 C.2.1 hd ?_
  rw [show Int32.ofInt x >>> (Int32.ofInt y &&& 31) = Int32.ofInt (ishr x y) from (o32 _).symm]
  exact kk p e s m args below meth c C ad0 n0 ad H locs ls X hl (okS_push ok2 (r32 _))
theorem wp_iushr {x y : Int} (hd : decode J.2.1 pc = .ok (.iushr, 1)) (kk : Wp G J k z (pc + 1) L (pI (iushr x y) :: st) n R M Q) : Wp G J k z pc L (pI y :: pI x :: st) n R M Q := by
  intro p e s m args below meth c C ad0 n0 ad H locs ls X hl ok
  obtain ⟨oy, ok1⟩ := okS_pop ok
  obtain ⟨ox, ok2⟩ := okS_pop ok1
  refine lv_iushr C.1 C.2.1 hd (o32 _).symm ?_
  exact kk p e s m args below meth c C ad0 n0 ad H locs ls X hl (okS_push ok2 (r32 _))
theorem wp_land {x y : Int} (hd : decode J.2.1 pc = .ok (.land, 1)) (kk : Wp G J k z (pc + 1) L (pL (land x y) :: st) n R M Q) : Wp G J k z pc L (pL y :: pL x :: st) n R M Q := by
  intro p e s m args below meth c C ad0 n0 ad H locs ls X hl ok
  obtain ⟨oy, ok1⟩ := okS_pop ok
  obtain ⟨ox, ok2⟩ := okS_pop ok1
  refine lv_land C.1 C.2.1 hd ?_
  rw [show Int64.ofInt x &&& Int64.ofInt y = Int64.ofInt (land x y) from (o64 _).symm]
  exact kk p e s m args below meth c C ad0 n0 ad H locs ls X hl (okS_push ok2 (r64 _))
theorem wp_lor {x y : Int} (hd : decode J.2.1 pc = .ok (.lor, 1)) (kk : Wp G J k z (pc + 1) L (pL (lor x y) :: st) n R M Q) : Wp G J k z pc L (pL y :: pL x :: st) n R M Q := by
  intro p e s m args below meth c C ad0 n0 ad H locs ls X hl ok
  obtain ⟨oy, ok1⟩ := okS_pop ok
  obtain ⟨ox, ok2⟩ := okS_pop ok1
  refine lv_lor C.1 C.2.1 hd ?_
  rw [show Int64.ofInt x ||| Int64.ofInt y = Int64.ofInt (lor x y) from (o64 _).symm]
  exact kk p e s m args below meth c C ad0 n0 ad H locs ls X hl (okS_push ok2 (r64 _))
theorem wp_lxor {x y : Int} (hd : decode J.2.1 pc = .ok (.lxor, 1)) (kk : Wp G J k z (pc + 1) L (pL (lxor x y) :: st) n R M Q) : Wp G J k z pc L (pL y :: pL x :: st) n R M Q := by
  intro p e s m args below meth c C ad0 n0 ad H locs ls X hl ok
  obtain ⟨oy, ok1⟩ := okS_pop ok
  obtain ⟨ox, ok2⟩ := okS_pop ok1
  refine lv_lxor C.1 C.2.1 hd ?_
  rw [show Int64.ofInt x ^^^ Int64.ofInt y = Int64.ofInt (lxor x y) from (o64 _).symm]
  exact kk p e s m args below meth c C ad0 n0 ad H locs ls X hl (okS_push ok2 (r64 _))
theorem wp_lshl {x y : Int} (hd : decode J.2.1 pc = .ok (.lshl, 1)) (kk : Wp G J k z (pc + 1) L (pL (lshl x y) :: st) n R M Q) : Wp G J k z pc L (pI y :: pL x :: st) n R M Q := by
  intro p e s m args below meth c C ad0 n0 ad H locs ls X hl ok
  obtain ⟨oy, ok1⟩ := okS_pop ok
  obtain ⟨ox, ok2⟩ := okS_pop ok1
  refine lv_lshl C.1 C.2.1 hd (o64 _).symm ?_
  exact kk p e s m args below meth c C ad0 n0 ad H locs ls X hl (okS_push ok2 (r64 _))
theorem wp_lushr {x y : Int} (hd : decode J.2.1 pc = .ok (.lushr, 1)) (kk : Wp G J k z (pc + 1) L (pL (lushr x y) :: st) n R M Q) : Wp G J k z pc L (pI y :: pL x :: st) n R M Q := by
  intro p e s m args below meth c C ad0 n0 ad H locs ls X hl ok
  obtain ⟨oy, ok1⟩ := okS_pop ok
  obtain ⟨ox, ok2⟩ := okS_pop ok1
  refine lv_lushr C.1 C.2.1 hd (o64 _).symm ?_
  exact kk p e s m args below meth c C ad0 n0 ad H locs ls X hl (okS_push ok2 (r64 _))
theorem wp_i2l {x : Int} (hd : decode J.2.1 pc = .ok (.i2l, 1)) (kk : Wp G J k z (pc + 1) L (pL x :: st) n R M Q) : Wp G J k z pc L (pI x :: st) n R M Q := by
  intro p e s m args below meth c C ad0 n0 ad H locs ls X hl ok
  obtain ⟨ox, ok1⟩ := okS_pop ok
  refine lv_i2l C.1 C.2.1 hd ?_ (kk p e s m args below meth c C ad0 n0 ad H locs ls X hl (okS_push ok1 (show R64 x by
    have h : R32 x := ox
    unfold R32 at h
    unfold R64
    omega)))
  apply Int64.toInt_inj.mp
  rw [Int32.toInt_toInt64, t32 ox, t64]
  have h : R32 x := ox
  unfold R32 at h
  unfold R64
  omega
theorem wp_i2b {x : Int} (hd : decode J.2.1 pc = .ok (.i2b, 1)) (kk : Wp G J k z (pc + 1) L (pI (i2b x) :: st) n R M Q) : Wp G J k z pc L (pI x :: st) n R M Q := by
  intro p e s m args below meth c C ad0 n0 ad H locs ls X hl ok
  exact lv_i2b C.1 C.2.1 hd (o32 _).symm (kk p e s m args below meth c C ad0 n0 ad H locs ls X hl (okS_push (okS_pop ok).2 (r32 _)))
theorem wp_i2s {x : Int} (hd : decode J.2.1 pc = .ok (.i2s, 1)) (kk : Wp G J k z (pc + 1) L (pI (i2s x) :: st) n R M Q) : Wp G J k z pc L (pI x :: st) n R M Q := by
  intro p e s m args below meth c C ad0 n0 ad H locs ls X hl ok
  exact lv_i2s C.1 C.2.1 hd (o32 _).symm (kk p e s m args below meth c C ad0 n0 ad H locs ls X hl (okS_push (okS_pop ok).2 (r32 _)))
theorem wp_i2c {x : Int} (hd : decode J.2.1 pc = .ok (.i2c, 1)) (kk : Wp G J k z (pc + 1) L (pI (i2c x) :: st) n R M Q) : Wp G J k z pc L (pI x :: st) n R M Q := by
  intro p e s m args below meth c C ad0 n0 ad H locs ls X hl ok
  exact lv_i2c C.1 C.2.1 hd (o32 _).symm (kk p e s m args below meth c C ad0 n0 ad H locs ls X hl (okS_push (okS_pop ok).2 (r32 _)))
theorem wp_l2i {x : Int} (hd : decode J.2.1 pc = .ok (.l2i, 1)) (kk : Wp G J k z (pc + 1) L (pI (w32 x) :: st) n R M Q) : Wp G J k z pc L (pL x :: st) n R M Q := by
  intro p e s m args below meth c C ad0 n0 ad H locs ls X hl ok
  obtain ⟨ox, ok1⟩ := okS_pop ok
  refine lv_l2i C.1 C.2.1 hd ?_ (kk p e s m args below meth c C ad0 n0 ad H locs ls X hl (okS_push ok1 (r32_w _)))
  rw [o32_w]
  apply Int32.toInt_inj.mp
  rw [Int64.toInt_toInt32, t64 ox, Int32.toInt_ofInt]
theorem lg_of {x y : Int} (hx : R64 x) (hy : R64 y) : lg_cmp (Int64.ofInt x) (Int64.ofInt y) = Int32.ofInt (lcm x y) := by
  unfold lg_cmp lcm
  simp only [gt_iff_lt, l64 hy hx, e64 hx hy]
  split
  · rfl
  · split <;> rfl
theorem wp_lcmp {x y : Int} (hd : decode J.2.1 pc = .ok (.lcmp, 1)) (kk : Wp G J k z (pc + 1) L (pI (lcm x y) :: st) n R M Q) : Wp G J k z pc L (pL y :: pL x :: st) n R M Q := by
  intro p e s m args below meth c C ad0 n0 ad H locs ls X hl ok
  obtain ⟨oy, ok1⟩ := okS_pop ok
  obtain ⟨ox, ok2⟩ := okS_pop ok1
  refine W.lcmp C.1 C.2.1 hd ?_
  rw [lg_of ox oy]
  exact kk p e s m args below meth c C ad0 n0 ad H locs ls X hl (okS_push ok2 (show R32 (lcm x y) by unfold lcm R32; split <;> (try split) <;> omega))
theorem wp_if_eq {x off : Int} (tgt : Nat) (hd : decode J.2.1 pc = .ok (.ifCond .eq off, 3)) (ht : (pc : Int) + off = (tgt : Int)) (kt : x = 0 → Wp G J k z tgt L st n R M Q) (kf : ¬ x = 0 → Wp G J k z (pc + 3) L st n R M Q) : Wp G J k z pc L (pI x :: st) n R M Q := by
  intro p e s m args below meth c C ad0 n0 ad H locs ls X hl ok
  obtain ⟨ox, ok1⟩ := okS_pop ok
  exact lv_if_eq C.1 C.2.1 hd ht (fun hc => kt ((e32 ox z32).mp hc) p e s m args below meth c C ad0 n0 ad H locs ls X hl ok1) (fun hc => have hc : ¬ (x = 0) := fun h => hc ((e32 ox z32).mpr h); kf (hc) p e s m args below meth c C ad0 n0 ad H locs ls X hl ok1)
theorem wp_if_ne {x off : Int} (tgt : Nat) (hd : decode J.2.1 pc = .ok (.ifCond .ne off, 3)) (ht : (pc : Int) + off = (tgt : Int)) (kt : ¬ x = 0 → Wp G J k z tgt L st n R M Q) (kf : x = 0 → Wp G J k z (pc + 3) L st n R M Q) : Wp G J k z pc L (pI x :: st) n R M Q := by
  intro p e s m args below meth c C ad0 n0 ad H locs ls X hl ok
  obtain ⟨ox, ok1⟩ := okS_pop ok
  exact lv_if_ne C.1 C.2.1 hd ht (fun hc => kt ((not_congr (e32 ox z32)).mp hc) p e s m args below meth c C ad0 n0 ad H locs ls X hl ok1) (fun hc => kf ((e32 ox z32).mp hc) p e s m args below meth c C ad0 n0 ad H locs ls X hl ok1)
theorem wp_if_lt {x off : Int} (tgt : Nat) (hd : decode J.2.1 pc = .ok (.ifCond .lt off, 3)) (ht : (pc : Int) + off = (tgt : Int)) (kt : x < 0 → Wp G J k z tgt L st n R M Q) (kf : 0 ≤ x → Wp G J k z (pc + 3) L st n R M Q) : Wp G J k z pc L (pI x :: st) n R M Q := by
  intro p e s m args below meth c C ad0 n0 ad H locs ls X hl ok
  obtain ⟨ox, ok1⟩ := okS_pop ok
  exact lv_if_lt C.1 C.2.1 hd ht (fun hc => kt ((l32 ox z32).mp hc) p e s m args below meth c C ad0 n0 ad H locs ls X hl ok1) (fun hc => have hc : ¬ (x < 0) := fun h => hc ((l32 ox z32).mpr h); kf (Int.not_lt.mp hc) p e s m args below meth c C ad0 n0 ad H locs ls X hl ok1)
theorem wp_if_ge {x off : Int} (tgt : Nat) (hd : decode J.2.1 pc = .ok (.ifCond .ge off, 3)) (ht : (pc : Int) + off = (tgt : Int)) (kt : 0 ≤ x → Wp G J k z tgt L st n R M Q) (kf : x < 0 → Wp G J k z (pc + 3) L st n R M Q) : Wp G J k z pc L (pI x :: st) n R M Q := by
  intro p e s m args below meth c C ad0 n0 ad H locs ls X hl ok
  obtain ⟨ox, ok1⟩ := okS_pop ok
  exact lv_if_ge C.1 C.2.1 hd ht (fun hc => kt ((le32 z32 ox).mp hc) p e s m args below meth c C ad0 n0 ad H locs ls X hl ok1) (fun hc => have hc : ¬ (0 ≤ x) := fun h => hc ((le32 z32 ox).mpr h); kf (Int.not_le.mp hc) p e s m args below meth c C ad0 n0 ad H locs ls X hl ok1)
theorem wp_if_gt {x off : Int} (tgt : Nat) (hd : decode J.2.1 pc = .ok (.ifCond .gt off, 3)) (ht : (pc : Int) + off = (tgt : Int)) (kt : 0 < x → Wp G J k z tgt L st n R M Q) (kf : x ≤ 0 → Wp G J k z (pc + 3) L st n R M Q) : Wp G J k z pc L (pI x :: st) n R M Q := by
  intro p e s m args below meth c C ad0 n0 ad H locs ls X hl ok
  obtain ⟨ox, ok1⟩ := okS_pop ok
  exact lv_if_gt C.1 C.2.1 hd ht (fun hc => kt ((l32 z32 ox).mp hc) p e s m args below meth c C ad0 n0 ad H locs ls X hl ok1) (fun hc => have hc : ¬ (0 < x) := fun h => hc ((l32 z32 ox).mpr h); kf (Int.not_lt.mp hc) p e s m args below meth c C ad0 n0 ad H locs ls X hl ok1)
theorem wp_if_le {x off : Int} (tgt : Nat) (hd : decode J.2.1 pc = .ok (.ifCond .le off, 3)) (ht : (pc : Int) + off = (tgt : Int)) (kt : x ≤ 0 → Wp G J k z tgt L st n R M Q) (kf : 0 < x → Wp G J k z (pc + 3) L st n R M Q) : Wp G J k z pc L (pI x :: st) n R M Q := by
  intro p e s m args below meth c C ad0 n0 ad H locs ls X hl ok
  obtain ⟨ox, ok1⟩ := okS_pop ok
  exact lv_if_le C.1 C.2.1 hd ht (fun hc => kt ((le32 ox z32).mp hc) p e s m args below meth c C ad0 n0 ad H locs ls X hl ok1) (fun hc => have hc : ¬ (x ≤ 0) := fun h => hc ((le32 ox z32).mpr h); kf (Int.not_le.mp hc) p e s m args below meth c C ad0 n0 ad H locs ls X hl ok1)
theorem wp_icmp_eq {x y off : Int} (tgt : Nat) (hd : decode J.2.1 pc = .ok (.if_icmp .eq off, 3)) (ht : (pc : Int) + off = (tgt : Int)) (kt : x = y → Wp G J k z tgt L st n R M Q) (kf : ¬ x = y → Wp G J k z (pc + 3) L st n R M Q) : Wp G J k z pc L (pI y :: pI x :: st) n R M Q := by
  intro p e s m args below meth c C ad0 n0 ad H locs ls X hl ok
  obtain ⟨oy, ok1⟩ := okS_pop ok
  obtain ⟨ox, ok2⟩ := okS_pop ok1
  exact lv_icmp_eq C.1 C.2.1 hd ht (fun hc => kt ((e32 ox oy).mp hc) p e s m args below meth c C ad0 n0 ad H locs ls X hl ok2) (fun hc => have hc : ¬ (x = y) := fun h => hc ((e32 ox oy).mpr h); kf (hc) p e s m args below meth c C ad0 n0 ad H locs ls X hl ok2)
theorem wp_icmp_ne {x y off : Int} (tgt : Nat) (hd : decode J.2.1 pc = .ok (.if_icmp .ne off, 3)) (ht : (pc : Int) + off = (tgt : Int)) (kt : ¬ x = y → Wp G J k z tgt L st n R M Q) (kf : x = y → Wp G J k z (pc + 3) L st n R M Q) : Wp G J k z pc L (pI y :: pI x :: st) n R M Q := by
  intro p e s m args below meth c C ad0 n0 ad H locs ls X hl ok
  obtain ⟨oy, ok1⟩ := okS_pop ok
  obtain ⟨ox, ok2⟩ := okS_pop ok1
  exact lv_icmp_ne C.1 C.2.1 hd ht (fun hc => kt ((not_congr (e32 ox oy)).mp hc) p e s m args below meth c C ad0 n0 ad H locs ls X hl ok2) (fun hc => kf ((e32 ox oy).mp hc) p e s m args below meth c C ad0 n0 ad H locs ls X hl ok2)
theorem wp_icmp_lt {x y off : Int} (tgt : Nat) (hd : decode J.2.1 pc = .ok (.if_icmp .lt off, 3)) (ht : (pc : Int) + off = (tgt : Int)) (kt : x < y → Wp G J k z tgt L st n R M Q) (kf : y ≤ x → Wp G J k z (pc + 3) L st n R M Q) : Wp G J k z pc L (pI y :: pI x :: st) n R M Q := by
  intro p e s m args below meth c C ad0 n0 ad H locs ls X hl ok
  obtain ⟨oy, ok1⟩ := okS_pop ok
  obtain ⟨ox, ok2⟩ := okS_pop ok1
  exact lv_icmp_lt C.1 C.2.1 hd ht (fun hc => kt ((l32 ox oy).mp hc) p e s m args below meth c C ad0 n0 ad H locs ls X hl ok2) (fun hc => have hc : ¬ (x < y) := fun h => hc ((l32 ox oy).mpr h); kf (Int.not_lt.mp hc) p e s m args below meth c C ad0 n0 ad H locs ls X hl ok2)
theorem wp_icmp_ge {x y off : Int} (tgt : Nat) (hd : decode J.2.1 pc = .ok (.if_icmp .ge off, 3)) (ht : (pc : Int) + off = (tgt : Int)) (kt : y ≤ x → Wp G J k z tgt L st n R M Q) (kf : x < y → Wp G J k z (pc + 3) L st n R M Q) : Wp G J k z pc L (pI y :: pI x :: st) n R M Q := by
  intro p e s m args below meth c C ad0 n0 ad H locs ls X hl ok
  obtain ⟨oy, ok1⟩ := okS_pop ok
  obtain ⟨ox, ok2⟩ := okS_pop ok1
  exact lv_icmp_ge C.1 C.2.1 hd ht (fun hc => kt ((le32 oy ox).mp hc) p e s m args below meth c C ad0 n0 ad H locs ls X hl ok2) (fun hc => have hc : ¬ (y ≤ x) := fun h => hc ((le32 oy ox).mpr h); kf (Int.not_le.mp hc) p e s m args below meth c C ad0 n0 ad H locs ls X hl ok2)
theorem wp_icmp_gt {x y off : Int} (tgt : Nat) (hd : decode J.2.1 pc = .ok (.if_icmp .gt off, 3)) (ht : (pc : Int) + off = (tgt : Int)) (kt : y < x → Wp G J k z tgt L st n R M Q) (kf : x ≤ y → Wp G J k z (pc + 3) L st n R M Q) : Wp G J k z pc L (pI y :: pI x :: st) n R M Q := by
  intro p e s m args below meth c C ad0 n0 ad H locs ls X hl ok
  obtain ⟨oy, ok1⟩ := okS_pop ok
  obtain ⟨ox, ok2⟩ := okS_pop ok1
  exact lv_icmp_gt C.1 C.2.1 hd ht (fun hc => kt ((l32 oy ox).mp hc) p e s m args below meth c C ad0 n0 ad H locs ls X hl ok2) (fun hc => have hc : ¬ (y < x) := fun h => hc ((l32 oy ox).mpr h); kf (Int.not_lt.mp hc) p e s m args below meth c C ad0 n0 ad H locs ls X hl ok2)
theorem wp_icmp_le {x y off : Int} (tgt : Nat) (hd : decode J.2.1 pc = .ok (.if_icmp .le off, 3)) (ht : (pc : Int) + off = (tgt : Int)) (kt : x ≤ y → Wp G J k z tgt L st n R M Q) (kf : y < x → Wp G J k z (pc + 3) L st n R M Q) : Wp G J k z pc L (pI y :: pI x :: st) n R M Q := by
  intro p e s m args below meth c C ad0 n0 ad H locs ls X hl ok
  obtain ⟨oy, ok1⟩ := okS_pop ok
  obtain ⟨ox, ok2⟩ := okS_pop ok1
  exact lv_icmp_le C.1 C.2.1 hd ht (fun hc => kt ((le32 ox oy).mp hc) p e s m args below meth c C ad0 n0 ad H locs ls X hl ok2) (fun hc => have hc : ¬ (x ≤ y) := fun h => hc ((le32 ox oy).mpr h); kf (Int.not_le.mp hc) p e s m args below meth c C ad0 n0 ad H locs ls X hl ok2)
theorem wp_goto {off : Int} (tgt : Nat) (hd : decode J.2.1 pc = .ok (.goto off, 3)) (ht : (pc : Int) + off = (tgt : Int)) (kk : Wp G J k z tgt L st n R M Q) : Wp G J k z pc L st n R M Q := by
  intro p e s m args below meth c C ad0 n0 ad H locs ls X hl ok
  exact lv_goto C.1 C.2.1 hd ht (kk p e s m args below meth c C ad0 n0 ad H locs ls X hl ok)
theorem wp_ifnull {x : Nat} {off : Int} (hd : decode J.2.1 pc = .ok (.ifnull off, 3)) (kk : Wp G J k z (pc + 3) L st n R M Q) : Wp G J k z pc L (pR x :: st) n R M Q := by
  intro p e s m args below meth c C ad0 n0 ad H locs ls X hl ok
  exact lv_ifnull C.1 C.2.1 hd (kk p e s m args below meth c C ad0 n0 ad H locs ls X hl (okS_pop ok).2)
theorem wp_ifnullN {off : Int} (tgt : Nat) (hd : decode J.2.1 pc = .ok (.ifnull off, 3)) (ht : (pc : Int) + off = (tgt : Int)) (kk : Wp G J k z tgt L st n R M Q) : Wp G J k z pc L (pN :: st) n R M Q := by
  intro p e s m args below meth c C ad0 n0 ad H locs ls X hl ok
  exact lv_ifnullN C.1 C.2.1 hd ht (kk p e s m args below meth c C ad0 n0 ad H locs ls X hl (okS_pop ok).2)
theorem wp_tabOut {dflt lo hi : Int} {offs : Array Int} {len : Nat} {x : Int} (tgt : Nat) (hd : decode J.2.1 pc = .ok (.tableswitch dflt lo hi offs, len)) (h : x < lo ∨ hi < x) (ht : (pc : Int) + dflt = (tgt : Int)) (kk : Wp G J k z tgt L st n R M Q) : Wp G J k z pc L (pI x :: st) n R M Q := by
  intro p e s m args below meth c C ad0 n0 ad H locs ls X hl ok
  exact lv_tableOut C.1 C.2.1 hd (by rw [t32 (okS_pop ok).1]; exact h) ht (kk p e s m args below meth c C ad0 n0 ad H locs ls X hl (okS_pop ok).2)
theorem wp_tabIn {dflt lo hi : Int} {offs : Array Int} {len : Nat} {x off : Int} (tgt : Nat) (hd : decode J.2.1 pc = .ok (.tableswitch dflt lo hi offs, len)) (h1 : lo ≤ x) (h2 : x ≤ hi) (ho : offs[(x - lo).toNat]? = some off) (ht : (pc : Int) + off = (tgt : Int)) (kk : Wp G J k z tgt L st n R M Q) : Wp G J k z pc L (pI x :: st) n R M Q := by
  intro p e s m args below meth c C ad0 n0 ad H locs ls X hl ok
  have e9 := t32 (show R32 x from (okS_pop ok).1)
  exact lv_tableIn C.1 C.2.1 hd (by rw [e9]; exact Int.not_lt.mpr h1) (by rw [e9]; exact Int.not_lt.mpr h2) (by rw [e9]; exact ho) ht (kk p e s m args below meth c C ad0 n0 ad H locs ls X hl (okS_pop ok).2)
end PS
