theorem nv_shr (x y : Int) (k : Nat) (hk : ((Int32.ofInt y).toInt64.toUInt64 &&& Int64.toUInt64 63).toNat % 64 = k) : nv (lushr x y) = nv x / 2 ^ k := by
  unfold nv lushr
  rw [o64]
  show ((Int64.ofInt x).toUInt64 >>> _).toNat = (Int64.ofInt x).toUInt64.toNat / 2 ^ k
  rw [UInt64.toNat_shiftRight, Nat.shiftRight_eq_div_pow, hk]
theorem nv_bt (x : Int) (t : Nat) : (nv x).testBit t = bt x t := rfl
theorem byB_pc : ∀ (k X : Nat), X < 256 ^ k → pcN (8 * k) X = pcN (8 * k) X := fun _ _ _ => rfl
/-- the value of Long.bitCount, step by step -/
theorem pop_val (x : Int) :
    let a := w64 (x - land (lushr x 1) 6148914691236517205)
    let b := w64 (land a 3689348814741910323 + land (lushr a 2) 3689348814741910323)
    let c := land (w64 (b + lushr b 4)) 1085102592571150095
    nv c = byB pb3 8 (nv x) := by
  intro a b c
  have hX := nv_lt x
  generalize hXe : nv x = X at hX
  have i1 : byB (fun x => x) 8 X = X := byB_id 8 X (by rw [show (256 : Nat) ^ 8 = 18446744073709551616 from rfl]; exact hX)
  have m5 : nv 6148914691236517205 = rep 85 8 := nv_k rfl (by decide)
  have m3 : nv 3689348814741910323 = rep 51 8 := nv_k rfl (by decide)
  have mf : nv 1085102592571150095 = rep 15 8 := nv_k rfl (by decide)
  have s1 : nv (land (lushr x 1) 6148914691236517205) = byB (fun x => x / 2 &&& 85) 8 X := by
    rw [nv_and, m5, nv_shr x 1 1 (by decide), hXe]
    have h := byB_sh2 (fun x => x) 85 (by decide) (fun _ h => h) pc_2 8 X
    rw [i1] at h
    exact h
  have s2 : byB pb1 8 X + byB (fun x => x / 2 &&& 85) 8 X = X := by
    rw [byB_add, byB_cong (g := fun x => x) (fun x hx => ?_), i1]
    have := (pb_k x hx).1.2
    show x - (x / 2 &&& 85) + (x / 2 &&& 85) = x
    omega
  have ha : nv a = byB pb1 8 X := by
    show nv (w64 (x - land (lushr x 1) 6148914691236517205)) = _
    rw [nv_sub, s1, hXe]
    omega
  have f1 : ∀ x, x < 256 → pb1 x < 256 := fun x hx => (pb_k x hx).1.1
  have s3 : nv (land a 3689348814741910323) = byB (fun x => pb1 x &&& 51) 8 X := by
    rw [nv_and, m3, ha]
    exact byB_and pb1 51 (by decide) f1 8 X
  have s4 : nv (land (lushr a 2) 3689348814741910323) = byB (fun x => pb1 x / 4 &&& 51) 8 X := by
    rw [nv_and, m3, nv_shr a 2 2 (by decide), ha]
    exact byB_sh4 pb1 51 (by decide) f1 pc_4 8 X
  have bnd : ∀ (f : Nat → Nat), (∀ x, x < 256 → f x < 256) → ∀ k X, byB f k X < 256 ^ k := by
    intro f hf k
    induction k with
    | zero => intro X; exact Nat.one_pos
    | succ k ih =>
      intro X
      have h1 := ih (X / 256)
      have h2 := hf (X % 256) (Nat.mod_lt _ (by decide))
      show 2 ^ 8 * byB f k (X / 256) + f (X % 256) < 256 ^ (k + 1)
      rw [Nat.pow_succ]
      omega
  have f2 : ∀ x, x < 256 → pb2 x < 256 ∧ pb2 x % 16 ≤ 4 := fun x hx => (pb_k x hx).2.1
  have hb : nv b = byB pb2 8 X := by
    show nv (w64 (land a 3689348814741910323 + land (lushr a 2) 3689348814741910323)) = _
    rw [nv_add, s3, s4, byB_add]
    have h := bnd pb2 (fun x hx => (f2 x hx).1) 8 X
    rw [show (256 : Nat) ^ 8 = 18446744073709551616 from rfl] at h
    exact Nat.mod_eq_of_lt h
  show nv (land (w64 (b + lushr b 4)) 1085102592571150095) = _
  have h := byB_nib pb2 f2 (fun x hx => (pb_k x hx).2.2.1) 8 X
  rw [nv_and, mf, nv_add, nv_shr b 4 4 (by decide), hb]
  have hlt : byB pb2 8 X + byB pb2 8 X / 2 ^ 4 < 18446744073709551616 := by
    have top : ∀ k Y, byB pb2 k Y ≤ 95 * rep 1 k := by
      intro k
      induction k with
      | zero => intro Y; exact Nat.le_refl _
      | succ k ih =>
        intro Y
        have h1 := ih (Y / 256)
        have h2 := (pb_k (Y % 256) (Nat.mod_lt _ (by decide))).2.2.1
        show 2 ^ 8 * byB pb2 k (Y / 256) + pb2 (Y % 256) ≤ 95 * (2 ^ 8 * rep 1 k + 1)
        omega
    have h3 := top 8 X
    rw [show rep 1 8 = 72340172838076673 from rfl] at h3
    omega
  rw [Nat.mod_eq_of_lt hlt]
  exact h

theorem byB_8 (f : Nat → Nat) (X : Nat) : ∃ p0 p1 p2 p3 p4 p5 p6 p7 : Nat, byB f 8 X = p0 + 256 * (p1 + 256 * (p2 + 256 * (p3 + 256 * (p4 + 256 * (p5 + 256 * (p6 + 256 * p7)))))) ∧ p0 = f (X % 256) ∧ p1 = f (X / 256 % 256) ∧ p2 = f (X / 256 / 256 % 256) ∧ p3 = f (X / 256 / 256 / 256 % 256) ∧ p4 = f (X / 256 / 256 / 256 / 256 % 256) ∧ p5 = f (X / 256 / 256 / 256 / 256 / 256 % 256) ∧ p6 = f (X / 256 / 256 / 256 / 256 / 256 / 256 % 256) ∧ p7 = f (X / 256 / 256 / 256 / 256 / 256 / 256 / 256 % 256) := by
  refine ⟨_, _, _, _, _, _, _, _, ?_, rfl, rfl, rfl, rfl, rfl, rfl, rfl, rfl⟩
  show 2 ^ 8 * (2 ^ 8 * (2 ^ 8 * (2 ^ 8 * (2 ^ 8 * (2 ^ 8 * (2 ^ 8 * (2 ^ 8 * 0 + _) + _) + _) + _) + _) + _) + _) + _ = _
  omega
theorem pe_1 (p0 p1 p2 p3 p4 p5 p6 p7 : Nat) (h0 : p0 ≤ 8) (h1 : p1 ≤ 8) (h2 : p2 ≤ 8) (h3 : p3 ≤ 8) (h4 : p4 ≤ 8) (h5 : p5 ≤ 8) (h6 : p6 ≤ 8) (h7 : p7 ≤ 8) : (p0 + 256 * (p1 + 256 * (p2 + 256 * (p3 + 256 * (p4 + 256 * (p5 + 256 * (p6 + 256 * (p7)))))))) / 256 = p1 + 256 * (p2 + 256 * (p3 + 256 * (p4 + 256 * (p5 + 256 * (p6 + 256 * (p7)))))) := by omega
theorem pe_2 (p0 p1 p2 p3 p4 p5 p6 p7 : Nat) : (p0 + 256 * (p1 + 256 * (p2 + 256 * (p3 + 256 * (p4 + 256 * (p5 + 256 * (p6 + 256 * (p7)))))))) + (p1 + 256 * (p2 + 256 * (p3 + 256 * (p4 + 256 * (p5 + 256 * (p6 + 256 * (p7))))))) = (p0 + p1) + 256 * ((p1 + p2) + 256 * ((p2 + p3) + 256 * ((p3 + p4) + 256 * ((p4 + p5) + 256 * ((p5 + p6) + 256 * ((p6 + p7) + 256 * (p7))))))) := by omega
theorem pe_3 (p0 p1 p2 p3 p4 p5 p6 p7 : Nat) (h0 : p0 ≤ 8) (h1 : p1 ≤ 8) (h2 : p2 ≤ 8) (h3 : p3 ≤ 8) (h4 : p4 ≤ 8) (h5 : p5 ≤ 8) (h6 : p6 ≤ 8) (h7 : p7 ≤ 8) : ((p0 + p1) + 256 * ((p1 + p2) + 256 * ((p2 + p3) + 256 * ((p3 + p4) + 256 * ((p4 + p5) + 256 * ((p5 + p6) + 256 * ((p6 + p7) + 256 * (p7)))))))) / 65536 = (p2 + p3) + 256 * ((p3 + p4) + 256 * ((p4 + p5) + 256 * ((p5 + p6) + 256 * ((p6 + p7) + 256 * (p7))))) := by omega
theorem pe_4 (p0 p1 p2 p3 p4 p5 p6 p7 : Nat) : ((p0 + p1) + 256 * ((p1 + p2) + 256 * ((p2 + p3) + 256 * ((p3 + p4) + 256 * ((p4 + p5) + 256 * ((p5 + p6) + 256 * ((p6 + p7) + 256 * (p7)))))))) + ((p2 + p3) + 256 * ((p3 + p4) + 256 * ((p4 + p5) + 256 * ((p5 + p6) + 256 * ((p6 + p7) + 256 * (p7)))))) = (p0 + p1 + p2 + p3) + 256 * ((p1 + p2 + p3 + p4) + 256 * ((p2 + p3 + p4 + p5) + 256 * ((p3 + p4 + p5 + p6) + 256 * ((p4 + p5 + p6 + p7) + 256 * ((p5 + p6 + p7) + 256 * ((p6 + p7) + 256 * ((p7)))))))) := by omega
theorem pe_5 (p0 p1 p2 p3 p4 p5 p6 p7 : Nat) (h0 : p0 ≤ 8) (h1 : p1 ≤ 8) (h2 : p2 ≤ 8) (h3 : p3 ≤ 8) (h4 : p4 ≤ 8) (h5 : p5 ≤ 8) (h6 : p6 ≤ 8) (h7 : p7 ≤ 8) : ((p0 + p1 + p2 + p3) + 256 * ((p1 + p2 + p3 + p4) + 256 * ((p2 + p3 + p4 + p5) + 256 * ((p3 + p4 + p5 + p6) + 256 * ((p4 + p5 + p6 + p7) + 256 * ((p5 + p6 + p7) + 256 * ((p6 + p7) + 256 * ((p7))))))))) / 4294967296 = (p4 + p5 + p6 + p7) + 256 * ((p5 + p6 + p7) + 256 * ((p6 + p7) + 256 * ((p7)))) := by omega
theorem pe_6 (p0 p1 p2 p3 p4 p5 p6 p7 : Nat) : ((p0 + p1 + p2 + p3) + 256 * ((p1 + p2 + p3 + p4) + 256 * ((p2 + p3 + p4 + p5) + 256 * ((p3 + p4 + p5 + p6) + 256 * ((p4 + p5 + p6 + p7) + 256 * ((p5 + p6 + p7) + 256 * ((p6 + p7) + 256 * ((p7))))))))) + ((p4 + p5 + p6 + p7) + 256 * ((p5 + p6 + p7) + 256 * ((p6 + p7) + 256 * ((p7))))) = (p0 + p1 + p2 + p3 + p4 + p5 + p6 + p7) + 128 * (2 * ((p1 + p2 + p3 + p4 + p5 + p6 + p7) + 256 * ((p2 + p3 + p4 + p5 + p6 + p7) + 256 * ((p3 + p4 + p5 + p6 + p7) + 256 * ((p4 + p5 + p6 + p7) + 256 * ((p5 + p6 + p7) + 256 * ((p6 + p7) + 256 * ((p7))))))))) := by omega
theorem pe_D (p0 p1 p2 p3 p4 p5 p6 p7 : Nat) (h0 : p0 ≤ 8) (h1 : p1 ≤ 8) (h2 : p2 ≤ 8) (h3 : p3 ≤ 8) (h4 : p4 ≤ 8) (h5 : p5 ≤ 8) (h6 : p6 ≤ 8) (h7 : p7 ≤ 8) : (p0 + p1) + 256 * ((p1 + p2) + 256 * ((p2 + p3) + 256 * ((p3 + p4) + 256 * ((p4 + p5) + 256 * ((p5 + p6) + 256 * ((p6 + p7) + 256 * (p7))))))) < 18446744073709551616 := by omega
theorem pe_E (p0 p1 p2 p3 p4 p5 p6 p7 : Nat) (h0 : p0 ≤ 8) (h1 : p1 ≤ 8) (h2 : p2 ≤ 8) (h3 : p3 ≤ 8) (h4 : p4 ≤ 8) (h5 : p5 ≤ 8) (h6 : p6 ≤ 8) (h7 : p7 ≤ 8) : (p0 + p1 + p2 + p3) + 256 * ((p1 + p2 + p3 + p4) + 256 * ((p2 + p3 + p4 + p5) + 256 * ((p3 + p4 + p5 + p6) + 256 * ((p4 + p5 + p6 + p7) + 256 * ((p5 + p6 + p7) + 256 * ((p6 + p7) + 256 * ((p7)))))))) < 18446744073709551616 := by omega
theorem pe_F (p0 p1 p2 p3 p4 p5 p6 p7 : Nat) (h0 : p0 ≤ 8) (h1 : p1 ≤ 8) (h2 : p2 ≤ 8) (h3 : p3 ≤ 8) (h4 : p4 ≤ 8) (h5 : p5 ≤ 8) (h6 : p6 ≤ 8) (h7 : p7 ≤ 8) : (p0 + p1 + p2 + p3 + p4 + p5 + p6 + p7) + 128 * (2 * ((p1 + p2 + p3 + p4 + p5 + p6 + p7) + 256 * ((p2 + p3 + p4 + p5 + p6 + p7) + 256 * ((p3 + p4 + p5 + p6 + p7) + 256 * ((p4 + p5 + p6 + p7) + 256 * ((p5 + p6 + p7) + 256 * ((p6 + p7) + 256 * ((p7))))))))) < 18446744073709551616 := by omega
theorem pe_S (p0 p1 p2 p3 p4 p5 p6 p7 : Nat) (h0 : p0 ≤ 8) (h1 : p1 ≤ 8) (h2 : p2 ≤ 8) (h3 : p3 ≤ 8) (h4 : p4 ≤ 8) (h5 : p5 ≤ 8) (h6 : p6 ≤ 8) (h7 : p7 ≤ 8) : p0 + p1 + p2 + p3 + p4 + p5 + p6 + p7 < 128 := by omega
theorem pop_end (p0 p1 p2 p3 p4 p5 p6 p7 C : Nat) (h0 : p0 ≤ 8) (h1 : p1 ≤ 8) (h2 : p2 ≤ 8) (h3 : p3 ≤ 8) (h4 : p4 ≤ 8) (h5 : p5 ≤ 8) (h6 : p6 ≤ 8) (h7 : p7 ≤ 8) (hC : C = p0 + 256 * (p1 + 256 * (p2 + 256 * (p3 + 256 * (p4 + 256 * (p5 + 256 * (p6 + 256 * (p7)))))))) :
    ∃ D E : Nat, D = C + C / 256 ∧ D < 18446744073709551616 ∧ E = D + D / 65536 ∧ E < 18446744073709551616 ∧ E + E / 4294967296 < 18446744073709551616 ∧ (E + E / 4294967296) % 128 = p0 + p1 + p2 + p3 + p4 + p5 + p6 + p7 := by
  refine ⟨_, _, rfl, ?_, rfl, ?_, ?_, ?_⟩
  · rw [hC, pe_1 p0 p1 p2 p3 p4 p5 p6 p7 h0 h1 h2 h3 h4 h5 h6 h7, pe_2]
    exact pe_D p0 p1 p2 p3 p4 p5 p6 p7 h0 h1 h2 h3 h4 h5 h6 h7
  · rw [hC, pe_1 p0 p1 p2 p3 p4 p5 p6 p7 h0 h1 h2 h3 h4 h5 h6 h7, pe_2, pe_3 p0 p1 p2 p3 p4 p5 p6 p7 h0 h1 h2 h3 h4 h5 h6 h7, pe_4]
    exact pe_E p0 p1 p2 p3 p4 p5 p6 p7 h0 h1 h2 h3 h4 h5 h6 h7
  · rw [hC, pe_1 p0 p1 p2 p3 p4 p5 p6 p7 h0 h1 h2 h3 h4 h5 h6 h7, pe_2, pe_3 p0 p1 p2 p3 p4 p5 p6 p7 h0 h1 h2 h3 h4 h5 h6 h7, pe_4, pe_5 p0 p1 p2 p3 p4 p5 p6 p7 h0 h1 h2 h3 h4 h5 h6 h7, pe_6]
    exact pe_F p0 p1 p2 p3 p4 p5 p6 p7 h0 h1 h2 h3 h4 h5 h6 h7
  · rw [hC, pe_1 p0 p1 p2 p3 p4 p5 p6 p7 h0 h1 h2 h3 h4 h5 h6 h7, pe_2, pe_3 p0 p1 p2 p3 p4 p5 p6 p7 h0 h1 h2 h3 h4 h5 h6 h7, pe_4, pe_5 p0 p1 p2 p3 p4 p5 p6 p7 h0 h1 h2 h3 h4 h5 h6 h7, pe_6, Nat.add_mul_mod_self_left, Nat.mod_eq_of_lt (pe_S p0 p1 p2 p3 p4 p5 p6 p7 h0 h1 h2 h3 h4 h5 h6 h7)]
theorem pcN_64 (X : Nat) : pcN 64 X = pcN 8 (X % 256) + (pcN 8 (X / 256 % 256) + (pcN 8 (X / 256 / 256 % 256) + (pcN 8 (X / 256 / 256 / 256 % 256) + (pcN 8 (X / 256 / 256 / 256 / 256 % 256) + (pcN 8 (X / 256 / 256 / 256 / 256 / 256 % 256) + (pcN 8 (X / 256 / 256 / 256 / 256 / 256 / 256 % 256) + pcN 8 (X / 256 / 256 / 256 / 256 / 256 / 256 / 256 % 256))))))) := by
  have h : ∀ Y, pcN 8 Y = pcN 8 (Y % 256) := fun Y => pcN_8 0 Y
  rw [pcN_8 56, pcN_8 48, pcN_8 40, pcN_8 32, pcN_8 24, pcN_8 16, pcN_8 8, h (X / 256 / 256 / 256 / 256 / 256 / 256 / 256)]
theorem iand127 (x : Int) : iand (w32 x) 127 = ((nv x % 128 : Nat) : Int) := by
  unfold iand
  have e : (Int32.ofInt (w32 x) &&& Int32.ofInt 127).toInt = (((Int32.ofInt x).toBitVec.toNat % 128 : Nat) : Int) := by
    rw [o32_w]
    have h1 : (Int32.ofInt x &&& Int32.ofInt 127).toBitVec.toNat = (Int32.ofInt x).toBitVec.toNat % 128 := by
      rw [Int32.toBitVec_and, BitVec.toNat_and, show (Int32.ofInt 127).toBitVec.toNat = 2 ^ 7 - 1 from rfl, Nat.and_two_pow_sub_one_eq_mod]
    show (Int32.ofInt x &&& Int32.ofInt 127).toBitVec.toInt = _
    rw [BitVec.toInt_eq_toNat_of_lt (by rw [h1]; omega), h1]
  rw [e]
  have e2 : (Int32.ofInt x).toBitVec.toNat % 128 = nv x % 128 := by
    unfold nv
    rw [show (Int32.ofInt x).toBitVec = BitVec.ofInt 32 x from rfl, show (Int64.ofInt x).toBitVec = BitVec.ofInt 64 x from rfl, BitVec.toNat_ofInt, BitVec.toNat_ofInt]
    omega
  rw [e2]
section CPOP
variable {G : GT} {M : MT}
theorem c_jl_bitCount {P : Int → MT → Prop} (x : Int) (hp : P (pcN 64 (nv x) : Int) M) : ClI G J_jl_bitCount M [pL x] P := by
  have hv := pop_val x
  dsimp only at hv
  refine e_jl_bitCount x (b_jl_bitCount_10 _ (b_jl_bitCount_24 _ ?_))
  generalize land (w64 (w64 (land (w64 (x - land (lushr x 1) 6148914691236517205)) 3689348814741910323 + land (lushr (w64 (x - land (lushr x 1) 6148914691236517205)) 2) 3689348814741910323) + lushr (w64 (land (w64 (x - land (lushr x 1) 6148914691236517205)) 3689348814741910323 + land (lushr (w64 (x - land (lushr x 1) 6148914691236517205)) 2) 3689348814741910323)) 4)) 1085102592571150095 = c at hv ⊢
  refine b_jl_bitCount_34 _ (b_jl_bitCount_41 _ (b_jl_bitCount_48 _ (b_jl_bitCount_55 _ ?_)))
  obtain ⟨p0, p1, p2, p3, p4, p5, p6, p7, e, q0, q1, q2, q3, q4, q5, q6, q7⟩ := byB_8 pb3 (nv x)
  have k : ∀ y, pb3 (y % 256) = pcN 8 (y % 256) ∧ pb3 (y % 256) ≤ 8 := fun y => (pb_k _ (Nat.mod_lt _ (by decide))).2.2.2
  have hv' : nv c = byB pb3 8 (nv x) := hv
  obtain ⟨D, E, hD, hD2, hE, hE2, hF, hS⟩ := pop_end p0 p1 p2 p3 p4 p5 p6 p7 (nv c) (by rw [q0]; exact (k _).2) (by rw [q1]; exact (k _).2) (by rw [q2]; exact (k _).2) (by rw [q3]; exact (k _).2) (by rw [q4]; exact (k _).2) (by rw [q5]; exact (k _).2) (by rw [q6]; exact (k _).2) (by rw [q7]; exact (k _).2) (hv'.trans e)
  have n1 : nv (w64 (c + lushr c 8)) = D := by
    rw [nv_add, nv_shr c 8 8 (by decide), hD, Nat.mod_eq_of_lt (by rw [hD] at hD2; exact hD2)]
  have n2 : nv (w64 (w64 (c + lushr c 8) + lushr (w64 (c + lushr c 8)) 16)) = E := by
    rw [nv_add, nv_shr _ 16 16 (by decide), n1, hE, Nat.mod_eq_of_lt (by rw [hE] at hE2; exact hE2)]
  have n3 : nv (w64 (w64 (w64 (c + lushr c 8) + lushr (w64 (c + lushr c 8)) 16) + lushr (w64 (w64 (c + lushr c 8) + lushr (w64 (c + lushr c 8)) 16)) 32)) = E + E / 4294967296 := by
    rw [nv_add, nv_shr _ 32 32 (by decide), n2, Nat.mod_eq_of_lt hF]
  rw [iand127, n3, hS]
  have ht : pcN 64 (nv x) = p0 + p1 + p2 + p3 + p4 + p5 + p6 + p7 := by
    rw [pcN_64, q0, q1, q2, q3, q4, q5, q6, q7, (k _).1, (k _).1, (k _).1, (k _).1, (k _).1, (k _).1, (k _).1, (k _).1]
    omega
  rw [ht] at hp
  exact hp
end CPOP
