/-! humming by chance, exactly -/
def bin : Nat → Nat → Nat
  | _, 0 => 1
  | 0, _ + 1 => 0
  | y + 1, k + 1 => bin y k + bin y (k + 1)
theorem bin_0 (y : Nat) : bin y 0 = 1 := by cases y <;> rfl
theorem bin_z : ∀ y k : Nat, y < k → bin y k = 0
  | 0, 0, h => absurd h (by omega)
  | 0, _ + 1, _ => rfl
  | _ + 1, 0, h => absurd h (by omega)
  | y + 1, k + 1, h => by
    show bin y k + bin y (k + 1) = 0
    rw [bin_z y k (by omega), bin_z y (k + 1) (by omega)]
theorem bin_le : ∀ y, y < 10 → ∀ k, k < 11 → bin y k ≤ 126 := by decide +kernel
theorem bin_ch : ∀ y, y < 10 → ∀ k, k < 10 → bin y k * (y - k) / (k + 1) = bin y (k + 1) := by decide +kernel
def W16 (c y k : Nat) : Nat := bin y k * (c ^ k * (16 - c) ^ (y - k))
theorem W16_z (c y k : Nat) (h : y < k) : W16 c y k = 0 := by
  unfold W16
  rw [bin_z y k h, Nat.zero_mul]
theorem W16_0 (c y : Nat) : W16 c (y + 1) 0 = W16 c y 0 * (16 - c) := by
  unfold W16
  rw [bin_0, bin_0, Nat.one_mul, Nat.one_mul, Nat.pow_zero, Nat.one_mul, Nat.one_mul, Nat.sub_zero, Nat.sub_zero, Nat.pow_succ]
theorem W16_s (c y k : Nat) : W16 c (y + 1) (k + 1) = W16 c y (k + 1) * (16 - c) + W16 c y k * c := by
  have e0 : bin (y + 1) (k + 1) = bin y k + bin y (k + 1) := rfl
  unfold W16
  rw [e0, show y + 1 - (k + 1) = y - k by omega, Nat.pow_succ c k]
  generalize bin y k = u
  rcases Nat.lt_or_ge k y with h | h
  · rw [show y - k = (y - (k + 1)) + 1 by omega, Nat.pow_succ (16 - c) (y - (k + 1))]
    generalize bin y (k + 1) = v
    generalize c ^ k = p
    generalize (16 - c) ^ (y - (k + 1)) = q
    generalize 16 - c = d
    rw [Nat.add_mul, Nat.add_comm]
    congr 1
    · rw [Nat.mul_assoc v, Nat.mul_assoc (p * c)]
    · rw [Nat.mul_assoc u, Nat.mul_assoc p c, Nat.mul_assoc p, Nat.mul_comm c]
  · rw [bin_z y (k + 1) (by omega), Nat.add_zero, Nat.zero_mul, Nat.zero_mul, Nat.zero_add]
    generalize c ^ k = p
    generalize (16 - c) ^ (y - k) = q
    rw [Nat.mul_assoc u, Nat.mul_assoc p, Nat.mul_assoc p, Nat.mul_comm c]
theorem pw16 {c k : Nat} (h : c ≤ 16) : c ^ k ≤ 16 ^ k := Nat.pow_le_pow_left h k
theorem W16_le {c y k : Nat} (hc : c ≤ 16) (hy : y < 10) (hk : k < 11) : W16 c y k ≤ 126 * 16 ^ 9 := by
  rcases Nat.lt_or_ge y k with h | h
  · rw [W16_z c y k h]
    exact Nat.zero_le _
  · unfold W16
    have h1 := bin_le y hy k hk
    have h2 : c ^ k * (16 - c) ^ (y - k) ≤ 16 ^ k * 16 ^ (y - k) := Nat.mul_le_mul (pw16 hc) (pw16 (by omega))
    rw [← Nat.pow_add, show k + (y - k) = y by omega] at h2
    have h3 : 16 ^ y ≤ 16 ^ 9 := Nat.pow_le_pow_right (by omega) (by omega)
    exact Nat.mul_le_mul h1 (Nat.le_trans h2 h3)
def hkN (D : DT) (t b k : Nat) : List Int := itr (fun _ l => humB (dB D) b l) k (dT D t)
def abvS (D : DT) (c t b y n k a : Nat) : Nat := a + if n ≤ (hkN D t b k).length then W16 c y k else 0
def abvN (D : DT) (c t b y n : Nat) : Nat := itr (abvS D c t b y n) (y + 1) 0
def humsN (D : DT) (c t b y n : Nat) (w : Int) : Int := if w = 0 then ((abvN D c t b y n / Nat.gcd (abvN D c t b y n) (16 ^ y) : Nat) : Int) else ((16 ^ y / Nat.gcd (abvN D c t b y n) (16 ^ y) : Nat) : Int)
abbrev humsC (D : DT) (c t b y n w : Int) : Prop := (0 ≤ c ∧ c ≤ 16) ∧ (0 ≤ t ∧ t < (dn D : Int)) ∧ (0 ≤ b ∧ b < (db D : Int)) ∧ (1 ≤ y ∧ y ≤ 9) ∧ (1 ≤ n ∧ n ≤ 40) ∧ (0 ≤ w ∧ w ≤ 1)
def humsA (D : DT) (c t b y n w : Int) : Int := if humsC D c t b y n w then humsN D c.toNat t.toNat b.toNat y.toNat n.toNat w else -9223372036854775806
theorem hkN_ok {D : DT} (ok : okD D) {t b : Nat} (ht : t < dn D) (hb : b < db D) : ∀ k, okN (hkN D t b k)
  | 0 => (ok.2.1 t ht).2
  | k + 1 => okN_humB ok hb (hkN_ok ok ht hb k)
theorem abv_leB (D : DT) {c t b y n : Nat} (B : Nat) (hB : ∀ k, k < 11 → W16 c y k ≤ B) : ∀ k, k ≤ 11 → itr (abvS D c t b y n) k 0 ≤ k * B
  | 0, _ => by simp [itr]
  | k + 1, h => by
    have h1 := abv_leB D (t := t) (b := b) (n := n) B hB k (by omega)
    have h2 := hB k (by omega)
    have e : itr (abvS D c t b y n) (k + 1) 0 = itr (abvS D c t b y n) k 0 + if n ≤ (hkN D t b k).length then W16 c y k else 0 := rfl
    rw [e, Nat.add_mul, Nat.one_mul]
    split
    · omega
    · omega
theorem abv_le (D : DT) {c t b y n : Nat} (hc : c ≤ 16) (hy : y < 10) (k : Nat) (hk : k ≤ 11) : itr (abvS D c t b y n) k 0 ≤ k * (126 * 16 ^ 9) := abv_leB D (126 * 16 ^ 9) (fun _ hk => W16_le hc hy hk) k hk
theorem wl {i : Nat} (h : i < 4611686018427387904) : w64 (i : Int) = (i : Int) := w64_of ⟨by omega, by omega⟩
theorem shl16 : ∀ y, y < 10 → lshl 1 ((4 * y : Nat) : Int) = ((16 ^ y : Nat) : Int) := by decide +kernel
theorem red2 (a b : Nat) (h : 0 < b) : (2 * a) / Nat.gcd (2 * a) (2 * b) = a / Nat.gcd a b ∧ (2 * b) / Nat.gcd (2 * a) (2 * b) = b / Nat.gcd a b := by
  rw [Nat.gcd_mul_left, Nat.mul_div_mul_left _ _ (by omega), Nat.mul_div_mul_left _ _ (by omega)]
  exact ⟨rfl, rfl⟩
theorem odd_gcd (a m : Nat) (h : a % 2 = 1) : Nat.gcd a (2 ^ m) = 1 := by
  have h1 : Nat.Coprime a 2 := by
    show Nat.gcd a 2 = 1
    rw [Nat.gcd_comm, Nat.gcd_rec, h]
    exact Nat.gcd_one_left 2
  exact Nat.Coprime.pow_right m h1
section CHU
variable {G : GT} {M : MT} {D : DT}
theorem c_ch_weigh {P : MT → Prop} (c y : Nat) (hc : c ≤ 16) (hy : y < 10) (hp : ∀ M', Fr [91] M M' → (∀ k, k < 10 → M' 91 k = ((W16 c y k : Nat) : Int)) → P M') : ClV G J_ch_weigh M [pR 86, pI (c : Int), pI (y : Int)] P := by
  have years : ∀ (d i : Nat) (M1 : MT), i + d = y → Fr [91] M M1 → (∀ k, k < 10 → M1 91 k = ((W16 c i k : Nat) : Int)) → WpV G J_ch_weigh 31 [(0, pR 86), (1, pI (c : Int)), (2, pI (y : Int)), (3, pI (i : Int))] [] M1 P := by
    intro d
    induction d with
    | zero =>
      intro i M1 hi hf hw
      have hie : i = y := by omega
      subst hie
      exact b_ch_weigh_31 _ _ _ ⟨fun _ => hp M1 hf hw, fun c => absurd c (by omega)⟩
    | succ d ih =>
      intro i M1 hi hf hw
      refine b_ch_weigh_31 _ _ _ ⟨fun c => absurd c (by omega), fun _ => ?_⟩
      have e16 : w32 (16 - (c : Int)) = ((16 - c : Nat) : Int) := by
        rw [w32_s (by omega) (by omega)]
        omega
      have inner : ∀ (k : Nat) (M2 : MT), k ≤ 9 → Fr [91] M1 M2 → (∀ j, j < 10 → M2 91 j = if k < j then ((W16 c (i + 1) j : Nat) : Int) else ((W16 c i j : Nat) : Int)) → WpV G J_ch_weigh 40 [(0, pR 86), (1, pI (c : Int)), (2, pI (y : Int)), (3, pI (i : Int)), (4, pI (k : Int))] [] M2 P := by
        intro k
        induction k with
        | zero =>
          intro M2 hk hf2 hw2
          refine b_ch_weigh_40 _ _ _ _ ⟨fun _ => ?_, fun c => absurd c (by omega)⟩
          rintro M3 rfl
          have b0 := W16_le (c := c) (y := i + 1) (k := 0) hc (by omega) (by omega)
          have e0 := hw2 0 (by omega)
          rw [if_neg (by omega)] at e0
          rw [e0, e16, wi (by omega), ← Int.natCast_mul, ← W16_0, wl (by omega)]
          refine ih (i + 1) _ (by omega) (hf.tr (hf2.tr (Fr.mu1 (by simp)))) (fun j hj => ?_)
          by_cases ej : j = 0
          · rw [ej, mu_eq]
          · rw [mu_k ej, hw2 j hj, if_pos (by omega)]
        | succ k ihk =>
          intro M2 hk hf2 hw2
          have b1 := W16_le (c := c) (y := i + 1) (k := k + 1) hc (by omega) (by omega)
          have e1 := hw2 (k + 1) (by omega)
          rw [if_neg (by omega)] at e1
          have e2 := hw2 k (by omega)
          rw [if_neg (by omega)] at e2
          have es := W16_s c i k
          have nn1 : W16 c i (k + 1) * (16 - c) ≤ W16 c (i + 1) (k + 1) := by omega
          have nn2 : W16 c i k * c ≤ W16 c (i + 1) (k + 1) := by omega
          refine b_ch_weigh_40 _ _ _ _ ⟨fun c => absurd c (by omega), fun _ => ?_⟩
          rw [show ((k + 1 : Nat) : Int) - 1 = (k : Int) by omega, show ((k + 1 : Nat) : Int) + (-1) = (k : Int) by omega, wn (by omega), tN, tN, e1, e2, e16, ← Int.natCast_mul, ← Int.natCast_mul, wl (by omega), wl (by omega), ← Int.natCast_add, wl (by omega), ← es]
          refine ⟨⟨by omega, by omega⟩, ⟨by omega, by omega⟩, ⟨by omega, by omega⟩, ?_⟩
          rintro M3 rfl
          refine ihk _ (by omega) (hf2.tr (Fr.mu1 (by simp))) (fun j hj => ?_)
          by_cases ej : j = k + 1
          · rw [ej, mu_eq, if_pos (by omega)]
          · rw [mu_k ej, hw2 j hj]
            by_cases e3 : k + 1 < j
            · rw [if_pos e3, if_pos (by omega)]
            · rw [if_neg e3, if_neg (by omega)]
      exact inner 9 M1 (by omega) Fr.rf (fun j hj => by rw [if_neg (by omega)]; exact hw j hj)
  have init : ∀ (d i : Nat) (M1 : MT), i + d = 10 → Fr [91] M M1 → (∀ k, k < i → M1 91 k = ((W16 c 0 k : Nat) : Int)) → WpV G J_ch_weigh 2 [(0, pR 86), (1, pI (c : Int)), (2, pI (y : Int)), (3, pI (i : Int))] [] M1 P := by
    intro d
    induction d with
    | zero =>
      intro i M1 hi hf hw
      exact b_ch_weigh_2 _ _ _ ⟨fun _ => years y 0 M1 (by omega) hf (fun k hk => hw k (by omega)), fun c => absurd c (by omega)⟩
    | succ d ih =>
      intro i M1 hi hf hw
      refine b_ch_weigh_2 _ _ _ ⟨fun c => absurd c (by omega), fun _ => ⟨fun c0 => ⟨⟨by omega, by omega⟩, ?_⟩, fun c0 => ⟨⟨by omega, by omega⟩, ?_⟩⟩⟩
      · rintro M2 rfl
        rw [tN, wi (by omega)]
        refine ih (i + 1) _ (by omega) (hf.tr (Fr.mu1 (by simp))) (fun k hk => ?_)
        by_cases ek : k = i
        · rw [ek, mu_eq, W16_z c 0 i (by omega)]
          rfl
        · rw [mu_k ek]
          exact hw k (by omega)
      · rintro M2 rfl
        rw [tN, wi (by omega)]
        refine ih (i + 1) _ (by omega) (hf.tr (Fr.mu1 (by simp))) (fun k hk => ?_)
        by_cases ek : k = i
        · rw [ek, mu_eq, show i = 0 by omega]
          rfl
        · rw [mu_k ek]
          exact hw k (by omega)
  exact e_ch_weigh _ _ (init 10 0 M (by omega) Fr.rf (fun k hk => absurd hk (Nat.not_lt_zero k)))
theorem c_ch_weightOf {P : Int → MT → Prop} (ok : okD D) (h : CD D M) (c t b y n : Nat) (hc : c ≤ 16) (ht : t < dn D) (hb : b < db D) (hy : y < 10) (hw : ∀ k, k < 10 → M 91 k = ((W16 c y k : Nat) : Int)) (hp : ∀ M', Fr [87, 88, 89, 90] M M' → P ((abvN D c t b y n : Nat) : Int) M') : ClL G J_ch_weightOf M [pR 86, pR (10 + 2 * t), pR (22 + b), pI (y : Int), pI (n : Int)] P := by
  have o1 := ok.1
  have o2 := ok.2.2.1
  have bo := (k_borrowers b (by omega)).2
  have hcb := h.2.2.1.2 b hb
  have lp : ∀ (d k : Nat) (M1 : MT), k + d = y + 1 → Fr [87, 88, 89, 90] M M1 → Tn M1 87 (hkN D t b k) → WpL G J_ch_weightOf 14 [(0, pR 86), (2, pR (22 + b)), (3, pI (y : Int)), (4, pI (n : Int)), (5, pL ((itr (abvS D c t b y n) k 0 : Nat) : Int)), (7, pI (k : Int))] [] M1 P := by
    intro d
    induction d with
    | zero =>
      intro k M1 hk hf htn
      have hke : k = y + 1 := by omega
      subst hke
      exact b_ch_weightOf_14 _ bo _ _ _ _ ⟨fun _ => hp M1 hf, fun c => absurd c (by omega)⟩
    | succ d ih =>
      intro k M1 hk hf htn
      have hlk := hkN_ok ok ht hb k
      have ba := abv_le D (t := t) (b := b) (n := n) hc hy (k + 1) (by omega)
      have es : itr (abvS D c t b y n) (k + 1) 0 = itr (abvS D c t b y n) k 0 + if n ≤ (hkN D t b k).length then W16 c y k else 0 := rfl
      have q0 : M1 (22 + b) 0 = (dB D b).1 := (hf _ (by simp; omega) 0).trans hcb.1
      have q1 : M1 (22 + b) 1 = (dB D b).2.1 := (hf _ (by simp; omega) 1).trans hcb.2.1
      have q2 : M1 (22 + b) 2 = (dB D b).2.2 := (hf _ (by simp; omega) 2).trans hcb.2.2
      have ew : M1 91 k = ((W16 c y k : Nat) : Int) := (hf 91 (by simp) k).trans (hw k (by omega))
      refine b_ch_weightOf_14 _ bo _ _ _ _ ⟨fun c => absurd c (by omega), fun _ => ⟨fun c => absurd c (by omega), fun _ => ?_⟩⟩
      rw [htn.1, wi (by omega)]
      refine ⟨fun c1 => ?_, fun c1 => ⟨⟨by omega, by omega⟩, ?_⟩⟩
      · refine c_ch_hum b (by omega) _ _ _ _ hlk.1 htn q0 q1 q2 (ok.bw b hb) (fun M2 f2 t2 => ?_)
        have nx := ih (k + 1) M2 (by omega) (hf.tr f2) t2
        rw [es, if_neg (by omega), Nat.add_zero] at nx
        exact nx
      · rw [tN, ew, ← Int.natCast_add]
        refine c_ch_hum b (by omega) _ _ _ _ hlk.1 htn q0 q1 q2 (ok.bw b hb) (fun M2 f2 t2 => ?_)
        have nx := ih (k + 1) M2 (by omega) (hf.tr f2) t2
        rw [es, if_pos (by omega)] at nx ba
        rw [wl (by omega)]
        exact nx
  refine e_ch_weightOf _ (k_tunes t (by omega)).2 _ bo _ _ (c_tu_become 87 tu_chnow (10 + 2 * t) (k_tunes t (by omega)).2 _ (h.2.1 t ht) (ok.2.1 t ht).2.1 (by omega) (by omega) (fun M1 f1 t1 => ?_))
  exact lp (y + 1) 0 M1 (by omega) (f1.up (by simp)) t1
theorem c_tl_hums {P : Int → MT → Prop} (ok : okD D) (h : CD D M) (c t b y n w : Int) (hp : ∀ M', FQ M M' → P (humsA D c t b y n w) M') : ClL G J_tl_hums M [pR 0, pI c, pI t, pI b, pI y, pI n, pI w] P := by
  have o1 := ok.1
  have o2 := ok.2.2.1
  unfold humsA at hp
  have no : ¬ humsC D c t b y n w → P (-9223372036854775806) M := fun z => by
    have := hp M FQ.rf
    rw [if_neg z] at this
    exact this
  refine e_tl_hums _ _ _ _ _ _ (c_tl_within _ _ _ ⟨fun c1 => no (fun z => b01_0.mp c1 z.1), fun c1 => c_tl_isTune (dn D) o1 h.1 _ ⟨fun c2 => no (fun z => b01_0.mp c2 z.2.1), fun c2 => c_tl_isBorrower (db D) o2 h.2.2.1.1 _ ⟨fun c3 => no (fun z => b01_0.mp c3 z.2.2.1), fun c3 => c_tl_within _ _ _ ⟨fun c4 => no (fun z => b01_0.mp c4 z.2.2.2.1), fun c4 => c_tl_within _ _ _ ⟨fun c5 => no (fun z => b01_0.mp c5 z.2.2.2.2.1), fun c5 => c_tl_within _ _ _ ⟨fun c6 => ?_, fun c6 => no (fun z => b01_0.mp c6 z.2.2.2.2.2)⟩⟩⟩⟩⟩⟩)
  have z1 := b01_n.mp c1
  have z2 := b01_n.mp c2
  have z3 := b01_n.mp c3
  have z4 := b01_n.mp c4
  have z5 := b01_n.mp c5
  have z6 := b01_n.mp c6
  rw [if_pos ⟨z1, z2, z3, z4, z5, z6⟩] at hp
  obtain ⟨c', rfl⟩ : ∃ x : Nat, c = (x : Int) := ⟨c.toNat, by omega⟩
  obtain ⟨t', rfl⟩ : ∃ x : Nat, t = (x : Int) := ⟨t.toNat, by omega⟩
  obtain ⟨b', rfl⟩ : ∃ x : Nat, b = (x : Int) := ⟨b.toNat, by omega⟩
  obtain ⟨y', rfl⟩ : ∃ x : Nat, y = (x : Int) := ⟨y.toNat, by omega⟩
  obtain ⟨n', rfl⟩ : ∃ x : Nat, n = (x : Int) := ⟨n.toNat, by omega⟩
  rw [tN, tN, tN, tN, tN] at hp
  refine c_ch_weigh c' y' (by omega) (by omega) (fun M1 f1 w1 => ⟨⟨by omega, by omega⟩, ⟨by omega, by omega⟩, ?_⟩)
  rw [tN, tN]
  have q1 : FQ M M1 := FQ.fr f1 (by intro q hq; simp at hq; omega)
  refine c_ch_weightOf ok (h.fc ok q1.fc) c' t' b' y' n' (by omega) (by omega) (by omega) (by omega) w1 (fun M2 f2 => ?_)
  have q2 : FQ M M2 := q1.tr (FQ.fr f2 (by intro q hq; simp at hq; omega))
  have hp2 := hp M2 q2
  unfold humsN at hp2
  have hA := abv_le D (c := c') (t := t') (b := b') (y := y') (n := n') (by omega) (by omega) (y' + 1) (by omega)
  have hA2 : abvN D c' t' b' y' n' < 4611686018427387904 := by
    have e : abvN D c' t' b' y' n' = itr (abvS D c' t' b' y' n') (y' + 1) 0 := rfl
    rw [e]
    have : (y' + 1) * (126 * 16 ^ 9) ≤ 10 * (126 * 16 ^ 9) := Nat.mul_le_mul_right _ (by omega)
    omega
  generalize abvN D c' t' b' y' n' = A at *
  rw [w32_s (x := 4 * (y' : Int)) (by omega) (by omega), show 4 * (y' : Int) = ((4 * y' : Nat) : Int) by omega, shl16 y' (by omega)]
  have h16 : 16 ^ y' = 2 ^ (4 * y') := by rw [Nat.pow_mul]
  have lp : ∀ (d k a : Nat), k + d = 4 * y' → a < 4611686018427387904 → A / Nat.gcd A (16 ^ y') = a / Nat.gcd a (2 ^ d) → 16 ^ y' / Nat.gcd A (16 ^ y') = 2 ^ d / Nat.gcd a (2 ^ d) → WpL G J_tl_hums 118 [(6, pI w), (7, pL (a : Int)), (9, pI ((4 * y' : Nat) : Int)), (10, pL ((2 ^ d : Nat) : Int)), (12, pI (k : Int))] [] M2 P := by
    intro d
    induction d with
    | zero =>
      intro k a hk ha e1 e2
      rw [Nat.pow_zero, Nat.gcd_one_right, Nat.div_one] at e1 e2
      rw [e1, e2] at hp2
      refine b_tl_hums_118 _ _ _ _ _ ⟨fun _ => ⟨fun c7 => ?_, fun c7 => ?_⟩, fun c => absurd c (by omega)⟩
      · rw [if_neg c7] at hp2
        exact hp2
      · rw [if_pos c7] at hp2
        exact hp2
    | succ d ih =>
      intro k a hk ha e1 e2
      have hm : w64 (Int.tmod (a : Int) 2) = ((a % 2 : Nat) : Int) := by
        rw [show (2 : Int) = ((2 : Nat) : Int) from rfl, tm, wl (by omega)]
      have hp9 : 2 ^ (d + 1) ≤ 2 ^ 36 := Nat.pow_le_pow_right (by omega) (by omega)
      refine b_tl_hums_118 _ _ _ _ _ ⟨fun c => absurd c (by omega), fun _ => ⟨fun c7 => ?_, fun c7 => ?_⟩⟩
      · rw [hm] at c7
        rw [odd_gcd a _ (by omega), Nat.div_one] at e1 e2
        rw [e1, e2] at hp2
        refine ⟨fun c8 => ?_, fun c8 => ?_⟩
        · rw [if_neg c8] at hp2
          exact hp2
        · rw [if_pos c8] at hp2
          exact hp2
      · rw [hm] at c7
        have ea : a = 2 * (a / 2) := by omega
        have eb : 2 ^ (d + 1) = 2 * 2 ^ d := by rw [Nat.pow_succ, Nat.mul_comm]
        have r := red2 (a / 2) (2 ^ d) (Nat.pow_pos (by omega))
        rw [← ea, ← eb] at r
        rw [r.1] at e1
        rw [r.2] at e2
        have t1 : Int.tdiv (a : Int) 2 = ((a / 2 : Nat) : Int) := td a 2
        have t2 : Int.tdiv ((2 ^ (d + 1) : Nat) : Int) 2 = ((2 ^ (d + 1) / 2 : Nat) : Int) := td (2 ^ (d + 1)) 2
        rw [t1, t2, show 2 ^ (d + 1) / 2 = 2 ^ d by omega, wl (by omega), wl (by omega), wi (by omega)]
        exact ih (k + 1) (a / 2) (by omega) (by omega) e1 e2
  have := lp (4 * y') 0 A (by omega) hA2 (by rw [h16]) (by rw [h16])
  rw [← h16] at this
  exact this
end CHU
