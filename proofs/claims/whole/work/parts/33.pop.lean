/-! how many bits a long has: Long.bitCount, Integer.bitCount -/
def nv (x : Int) : Nat := (Int64.ofInt x).toBitVec.toNat
theorem nv_lt (x : Int) : nv x < 18446744073709551616 := (Int64.ofInt x).toBitVec.isLt
theorem nv_add (x y : Int) : nv (w64 (x + y)) = (nv x + nv y) % 18446744073709551616 := by
  unfold nv
  rw [tb_add, BitVec.toNat_add]
theorem nv_sub (x y : Int) : nv (w64 (x - y)) = (18446744073709551616 - nv y + nv x) % 18446744073709551616 := by
  unfold nv
  rw [tb_sub, BitVec.toNat_sub]
theorem nv_and (x y : Int) : nv (land x y) = nv x &&& nv y := by
  unfold nv land
  rw [o64, Int64.toBitVec_and, BitVec.toNat_and]
theorem nv_k {x : Int} {n : Nat} (h : (x : Int) = (n : Int)) (hn : n < 18446744073709551616) : nv x = n := by
  subst h
  unfold nv
  rw [show (Int64.ofInt (n : Int)).toBitVec = BitVec.ofInt 64 (n : Int) from rfl, BitVec.toNat_ofInt]
  omega
/-- the places of 8 bytes, each apart -/
def byB (f : Nat → Nat) : Nat → Nat → Nat
  | 0, _ => 0
  | k + 1, X => 2 ^ 8 * byB f k (X / 256) + f (X % 256)
theorem and_split {a b : Nat} (A B : Nat) (ha : a < 2 ^ 8) (hb : b < 2 ^ 8) : (2 ^ 8 * A + a) &&& (2 ^ 8 * B + b) = 2 ^ 8 * (A &&& B) + (a &&& b) := by
  have hab : a &&& b < 2 ^ 8 := Nat.lt_of_le_of_lt Nat.and_le_left ha
  apply Nat.eq_of_testBit_eq
  intro i
  rw [Nat.testBit_and, Nat.testBit_two_pow_mul_add _ ha, Nat.testBit_two_pow_mul_add _ hb, Nat.testBit_two_pow_mul_add _ hab]
  by_cases h : i < 8
  · simp [h, Nat.testBit_and]
  · simp [h, Nat.testBit_and]
def rep (b : Nat) : Nat → Nat
  | 0 => 0
  | k + 1 => 2 ^ 8 * rep b k + b
theorem byB_id : ∀ (k X : Nat), X < 256 ^ k → byB (fun x => x) k X = X
  | 0, X, h => by
    rw [Nat.pow_zero] at h
    show 0 = X
    omega
  | k + 1, X, h => by
    have h1 : X / 256 < 256 ^ k := by
      rw [Nat.pow_succ] at h
      omega
    show 2 ^ 8 * byB (fun x => x) k (X / 256) + X % 256 = X
    rw [byB_id k _ h1]
    omega
theorem byB_add (f g : Nat → Nat) : ∀ (k X : Nat), byB f k X + byB g k X = byB (fun x => f x + g x) k X
  | 0, _ => rfl
  | k + 1, X => by
    show 2 ^ 8 * byB f k (X / 256) + f (X % 256) + (2 ^ 8 * byB g k (X / 256) + g (X % 256)) = 2 ^ 8 * byB (fun x => f x + g x) k (X / 256) + (f (X % 256) + g (X % 256))
    rw [← byB_add f g k]
    omega
theorem byB_cong {f g : Nat → Nat} (h : ∀ x, x < 256 → f x = g x) : ∀ (k X : Nat), byB f k X = byB g k X
  | 0, _ => rfl
  | k + 1, X => by
    show 2 ^ 8 * byB f k (X / 256) + f (X % 256) = 2 ^ 8 * byB g k (X / 256) + g (X % 256)
    rw [byB_cong h k, h _ (Nat.mod_lt _ (by decide))]
/-- what a mask of equal bytes leaves of what lies byte by byte -/
theorem byB_and (f : Nat → Nat) (m : Nat) (hm : m < 256) (hf : ∀ x, x < 256 → f x < 256) : ∀ (k X : Nat), byB f k X &&& rep m k = byB (fun x => f x &&& m) k X
  | 0, _ => Nat.and_zero 0
  | k + 1, X => by
    show (2 ^ 8 * byB f k (X / 256) + f (X % 256)) &&& (2 ^ 8 * rep m k + m) = 2 ^ 8 * byB (fun x => f x &&& m) k (X / 256) + (f (X % 256) &&& m)
    rw [and_split _ _ (hf _ (Nat.mod_lt _ (by decide))) hm, byB_and f m hm hf k]
theorem byB_sh2 (f : Nat → Nat) (m : Nat) (hm : m < 256) (hf : ∀ x, x < 256 → f x < 256) (hc : ∀ x, x < 256 → ∀ c, c < 2 → (x / 2 + 128 * c) &&& m = (x / 2) &&& m) : ∀ (k X : Nat), byB f k X / 2 &&& rep m k = byB (fun x => f x / 2 &&& m) k X
  | 0, _ => Nat.and_zero _
  | k + 1, X => by
    have h1 := hf (X % 256) (Nat.mod_lt _ (by decide))
    have ih := byB_sh2 f m hm hf hc k (X / 256)
    show (2 ^ 8 * byB f k (X / 256) + f (X % 256)) / 2 &&& (2 ^ 8 * rep m k + m) = 2 ^ 8 * byB (fun x => f x / 2 &&& m) k (X / 256) + (f (X % 256) / 2 &&& m)
    rw [← ih]
    generalize byB f k (X / 256) = Y
    generalize f (X % 256) = v at h1
    have e1 : (2 ^ 8 * Y + v) / 2 = 2 ^ 8 * (Y / 2) + (v / 2 + 128 * (Y % 2)) := by omega
    rw [e1, and_split _ _ (by omega) hm, hc v h1 (Y % 2) (Nat.mod_lt _ (by decide))]
theorem byB_sh4 (f : Nat → Nat) (m : Nat) (hm : m < 256) (hf : ∀ x, x < 256 → f x < 256) (hc : ∀ x, x < 256 → ∀ c, c < 4 → (x / 4 + 64 * c) &&& m = (x / 4) &&& m) : ∀ (k X : Nat), byB f k X / 4 &&& rep m k = byB (fun x => f x / 4 &&& m) k X
  | 0, _ => Nat.and_zero _
  | k + 1, X => by
    have h1 := hf (X % 256) (Nat.mod_lt _ (by decide))
    have ih := byB_sh4 f m hm hf hc k (X / 256)
    show (2 ^ 8 * byB f k (X / 256) + f (X % 256)) / 4 &&& (2 ^ 8 * rep m k + m) = 2 ^ 8 * byB (fun x => f x / 4 &&& m) k (X / 256) + (f (X % 256) / 4 &&& m)
    rw [← ih]
    generalize byB f k (X / 256) = Y
    generalize f (X % 256) = v at h1
    have e1 : (2 ^ 8 * Y + v) / 4 = 2 ^ 8 * (Y / 4) + (v / 4 + 64 * (Y % 4)) := by omega
    rw [e1, and_split _ _ (by omega) hm, hc v h1 (Y % 4) (Nat.mod_lt _ (by decide))]
theorem byB_mod (f : Nat → Nat) (hf : ∀ x, x < 256 → f x < 256 ∧ f x % 16 ≤ 4) : ∀ (k X : Nat), byB f k X % 16 ≤ 4
  | 0, _ => Nat.zero_le _
  | k + 1, X => by
    have h1 := (hf (X % 256) (Nat.mod_lt _ (by decide))).2
    show (2 ^ 8 * byB f k (X / 256) + f (X % 256)) % 16 ≤ 4
    omega
theorem byB_nib (f : Nat → Nat) (hf : ∀ x, x < 256 → f x < 256 ∧ f x % 16 ≤ 4) (hg : ∀ x, x < 256 → f x + f x / 16 ≤ 100) : ∀ (k X : Nat), (byB f k X + byB f k X / 16) &&& rep 15 k = byB (fun x => (f x + f x / 16) % 16) k X
  | 0, _ => Nat.and_zero _
  | k + 1, X => by
    have h1 := hg (X % 256) (Nat.mod_lt _ (by decide))
    have ih := byB_nib f hf hg k (X / 256)
    have h2 := byB_mod f hf k (X / 256)
    show ((2 ^ 8 * byB f k (X / 256) + f (X % 256)) + (2 ^ 8 * byB f k (X / 256) + f (X % 256)) / 16) &&& (2 ^ 8 * rep 15 k + 15) = 2 ^ 8 * byB (fun x => (f x + f x / 16) % 16) k (X / 256) + (f (X % 256) + f (X % 256) / 16) % 16
    rw [← ih]
    generalize byB f k (X / 256) = Y at h2
    generalize f (X % 256) = v at h1
    have e1 : (2 ^ 8 * Y + v) + (2 ^ 8 * Y + v) / 16 = 2 ^ 8 * (Y + Y / 16) + (v + v / 16 + 16 * (Y % 16)) := by omega
    have e2 : (v + v / 16 + 16 * (Y % 16)) &&& 15 = (v + v / 16) % 16 := by
      rw [show (15 : Nat) = 2 ^ 4 - 1 from rfl, Nat.and_two_pow_sub_one_eq_mod]
      omega
    rw [e1, and_split _ _ (by omega) (by decide), e2]
/-- how many ones among the lowest k bits -/
def pcN : Nat → Nat → Nat
  | 0, _ => 0
  | k + 1, X => X % 2 + pcN k (X / 2)
theorem pcN_8 (k X : Nat) : pcN (k + 8) X = pcN 8 (X % 256) + pcN k (X / 256) := by
  have e : pcN (k + 8) X = X % 2 + (X / 2 % 2 + (X / 2 / 2 % 2 + (X / 2 / 2 / 2 % 2 + (X / 2 / 2 / 2 / 2 % 2 + (X / 2 / 2 / 2 / 2 / 2 % 2 + (X / 2 / 2 / 2 / 2 / 2 / 2 % 2 + (X / 2 / 2 / 2 / 2 / 2 / 2 / 2 % 2 + pcN k (X / 2 / 2 / 2 / 2 / 2 / 2 / 2 / 2)))))))) := rfl
  have e2 : pcN 8 (X % 256) = X % 256 % 2 + (X % 256 / 2 % 2 + (X % 256 / 2 / 2 % 2 + (X % 256 / 2 / 2 / 2 % 2 + (X % 256 / 2 / 2 / 2 / 2 % 2 + (X % 256 / 2 / 2 / 2 / 2 / 2 % 2 + (X % 256 / 2 / 2 / 2 / 2 / 2 / 2 % 2 + (X % 256 / 2 / 2 / 2 / 2 / 2 / 2 / 2 % 2 + 0))))))) := rfl
  have e3 : X / 2 / 2 / 2 / 2 / 2 / 2 / 2 / 2 = X / 256 := by omega
  rw [e, e2, e3]
  omega
def cn (f : Nat → Bool) : Nat → Nat
  | 0 => 0
  | k + 1 => (f 0).toNat + cn (fun t => f (t + 1)) k
theorem pcN_cn : ∀ (k X : Nat), pcN k X = cn (fun t => X.testBit t) k
  | 0, _ => rfl
  | k + 1, X => by
    show X % 2 + pcN k (X / 2) = (X.testBit 0).toNat + cn (fun t => X.testBit (t + 1)) k
    rw [pcN_cn k]
    have e1 : (fun t => X.testBit (t + 1)) = fun t => (X / 2).testBit t := by
      funext t
      rw [Nat.testBit_succ]
    rw [e1, Nat.testBit_zero]
    have h : X % 2 = 0 ∨ X % 2 = 1 := by omega
    rcases h with h | h <;> simp [h]
theorem cn_tel : ∀ (k n : Nat) (g : Nat → Nat) (f : Nat → Bool), n ≤ k → (∀ t, t < n → f t = decide (g (t + 1) = g t + 1)) → (∀ t, n ≤ t → t < k → f t = false) → (∀ t, t < n → g t ≤ g (t + 1) ∧ g (t + 1) ≤ g t + 1) → cn f k + g 0 = g n
  | 0, n, g, f, h, _, _, _ => by
    rw [show n = 0 by omega]
    show 0 + g 0 = g 0
    omega
  | k + 1, 0, g, f, _, h1, h2, h3 => by
    have h := cn_tel k 0 (fun _ => 0) (fun t => f (t + 1)) (Nat.zero_le _) (fun t ht => absurd ht (Nat.not_lt_zero t)) (fun t _ ht => h2 (t + 1) (Nat.zero_le _) (by omega)) (fun t ht => absurd ht (Nat.not_lt_zero t))
    show (f 0).toNat + cn (fun t => f (t + 1)) k + g 0 = g 0
    rw [h2 0 (Nat.le_refl _) (by omega)]
    have h' : cn (fun t => f (t + 1)) k = 0 := by simpa using h
    rw [h']
    simp
  | k + 1, n + 1, g, f, hn, h1, h2, h3 => by
    have h := cn_tel k n (fun t => g (t + 1)) (fun t => f (t + 1)) (by omega) (fun t ht => h1 (t + 1) (by omega)) (fun t a b => h2 (t + 1) (by omega) (by omega)) (fun t ht => h3 (t + 1) (by omega))
    have h0 := h1 0 (by omega)
    have h4 := h3 0 (by omega)
    show (f 0).toNat + cn (fun t => f (t + 1)) k + g 0 = g (n + 1)
    rw [h0]
    have h' : cn (fun t => f (t + 1)) k + g 1 = g (n + 1) := h
    by_cases hc : g (0 + 1) = g 0 + 1
    · rw [decide_eq_true hc]
      show 1 + _ + g 0 = _
      have : g 1 = g 0 + 1 := hc
      omega
    · rw [decide_eq_false hc]
      show 0 + _ + g 0 = _
      have h5 : g 1 ≤ g 0 + 1 := h4.2
      have h6 : g 0 ≤ g 1 := h4.1
      have h7 : ¬ g 1 = g 0 + 1 := hc
      omega
def pb1 (x : Nat) : Nat := x - (x / 2 &&& 85)
def pb2 (x : Nat) : Nat := (pb1 x &&& 51) + (pb1 x / 4 &&& 51)
def pb3 (x : Nat) : Nat := (pb2 x + pb2 x / 16) % 16
theorem pb_k : ∀ x, x < 256 → (pb1 x < 256 ∧ (x / 2 &&& 85) ≤ x) ∧ (pb2 x < 256 ∧ pb2 x % 16 ≤ 4) ∧ pb2 x + pb2 x / 16 ≤ 100 ∧ pb3 x = pcN 8 x ∧ pb3 x ≤ 8 := by decide +kernel
theorem pc_2 : ∀ x, x < 256 → ∀ c, c < 2 → (x / 2 + 128 * c) &&& 85 = (x / 2) &&& 85 := by decide +kernel
theorem pc_4 : ∀ x, x < 256 → ∀ c, c < 4 → (x / 4 + 64 * c) &&& 51 = (x / 4) &&& 51 := by decide +kernel
