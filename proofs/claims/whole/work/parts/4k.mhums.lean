/-! humming by chance, exactly: the model's way; FAIR -/
theorem abv_lt (D : DT) {c t b y n : Nat} (hc : c ≤ 16) (hy : y < 10) : abvN D c t b y n < 4611686018427387904 := by
  have hA := abv_le D (t := t) (b := b) (n := n) hc hy (y + 1) (by omega)
  have e : abvN D c t b y n = itr (abvS D c t b y n) (y + 1) 0 := rfl
  rw [e]
  have : (y + 1) * (126 * 16 ^ 9) ≤ 10 * (126 * 16 ^ 9) := Nat.mul_le_mul_right _ (by omega)
  omega
def wpr (c k : Nat) : Nat → Nat
  | 0 => 1
  | i + 1 => wpr c k i * (if i < k then c else 16 - c)
theorem wpr_lo (c k : Nat) : ∀ i, i ≤ k → wpr c k i = c ^ i
  | 0, _ => rfl
  | i + 1, h => by
    show wpr c k i * (if i < k then c else 16 - c) = _
    rw [if_pos (by omega), wpr_lo c k i (by omega), Nat.pow_succ]
theorem wpr_hi (c k : Nat) : ∀ d, wpr c k (k + d) = c ^ k * (16 - c) ^ d
  | 0 => by rw [Nat.add_zero, wpr_lo c k k (Nat.le_refl _), Nat.pow_zero, Nat.mul_one]
  | d + 1 => by
    show wpr c k (k + d) * (if k + d < k then c else 16 - c) = _
    rw [if_neg (by omega), wpr_hi c k d, Nat.pow_succ, Nat.mul_assoc]
theorem wpr_le {c : Nat} (hc : c ≤ 16) (k : Nat) : ∀ i, wpr c k i ≤ 16 ^ i
  | 0 => Nat.le_refl _
  | i + 1 => by
    show wpr c k i * (if i < k then c else 16 - c) ≤ 16 ^ (i + 1)
    rw [Nat.pow_succ]
    refine Nat.mul_le_mul (wpr_le hc k i) ?_
    split <;> omega
section CMHU
variable {G : GT} {M : MT} {D : DT}
theorem c_mo_part {P : Int → MT → Prop} (a b : Nat) (w : Int) (ha : a < 4611686018427387904) (hb : b < 4611686018427387904) (hb0 : 0 < b) (hp : P (if w = 0 then ((a / Nat.gcd a b : Nat) : Int) else ((b / Nat.gcd a b : Nat) : Int)) M) : ClL G J_mo_part M [pL (a : Int), pL (b : Int), pI w] P := by
  have hg : 0 < Nat.gcd a b := Nat.gcd_pos_of_pos_right a hb0
  have lp : ∀ (n x z : Nat), z ≤ n → x < 4611686018427387904 → z < 4611686018427387904 → Nat.gcd x z = Nat.gcd a b → WpL G J_mo_part 6 [(0, pL (a : Int)), (2, pL (b : Int)), (4, pI w), (5, pL (x : Int)), (7, pL (z : Int))] [] M P := by
    have fin : ∀ x : Nat, x < 4611686018427387904 → Nat.gcd x 0 = Nat.gcd a b → (¬ w = 0 → ¬ (x : Int) = 0 ∧ P (w64 (Int.tdiv (b : Int) (x : Int))) M) ∧ (w = 0 → ¬ (x : Int) = 0 ∧ P (w64 (Int.tdiv (a : Int) (x : Int))) M) := by
      intro x hx he
      rw [Nat.gcd_zero_right] at he
      rw [← he] at hp hg
      have l1 := Nat.div_le_self a x
      have l2 := Nat.div_le_self b x
      rw [td, td, wl (by omega), wl (by omega)]
      refine ⟨fun c => ⟨by omega, ?_⟩, fun c => ⟨by omega, ?_⟩⟩
      · rw [if_neg c] at hp
        exact hp
      · rw [if_pos c] at hp
        exact hp
    intro n
    induction n with
    | zero =>
      intro x z hz hx hz2 he
      have hz0 : z = 0 := by omega
      subst hz0
      exact b_mo_part_6 _ _ _ _ _ ⟨fun _ => fin x hx he, fun c => absurd rfl c⟩
    | succ n ih =>
      intro x z hz hx hz2 he
      refine b_mo_part_6 _ _ _ _ _ ⟨fun c => ?_, fun c => ⟨c, ?_⟩⟩
      · have hz0 : z = 0 := by omega
        subst hz0
        exact fin x hx he
      · have hm := Nat.mod_lt x (show 0 < z by omega)
        rw [tm, wl (by omega)]
        refine ih z (x % z) (by omega) hz2 (by omega) ?_
        rw [← he, Nat.gcd_comm x z, Nat.gcd_rec z x, Nat.gcd_comm]
  exact e_mo_part _ _ _ (lp b a b (Nat.le_refl _) ha hb rfl)
theorem c_mo_humsOf {P : Int → MT → Prop} (ok : okD D) (h : MW D M) (c t b y n : Nat) (w : Int) (hc : c ≤ 16) (ht : t < dn D) (hb : b < db D) (hy : y < 10) (hp : ∀ M', FM M M' → P (humsN D c t b y n w) M') : ClL G J_mo_humsOf M [pR 101, pI (c : Int), pI (t : Int), pI (b : Int), pI (y : Int), pI (n : Int), pI w] P := by
  have o1 := ok.1
  have o2 := ok.2.2.1
  unfold humsN at hp
  have lt16 : ∀ i, i < 10 → 16 ^ i ≤ 16 ^ 9 := fun i hi => Nat.pow_le_pow_right (by omega) (by omega)
  have ks : ∀ (d k : Nat) (M1 : MT), k + d = y + 1 → FM M M1 → NW M1 6 (hkN D t b k) → WpL G J_mo_humsOf 43 [(0, pR 101), (1, pI (c : Int)), (3, pI (b : Int)), (4, pI (y : Int)), (5, pI (n : Int)), (6, pI w), (7, pL ((itr (abvS D c t b y n) k 0 : Nat) : Int)), (9, pL ((16 ^ y : Nat) : Int)), (11, pL ((bin y k : Nat) : Int)), (13, pI (k : Int))] [] M1 P := by
    intro d
    induction d with
    | zero =>
      intro k M1 hk hf hn
      have hke : k = y + 1 := by omega
      subst hke
      refine b_mo_humsOf_43 _ _ _ _ _ _ _ _ _ ⟨fun _ => ?_, fun c => absurd c (by omega)⟩
      have l := lt16 y hy
      refine c_mo_part _ _ w (abv_lt D hc hy) (by omega) (Nat.pow_pos (by omega)) (hp M1 hf)
    | succ d ih =>
      intro k M1 hk hf hn
      have hlk := hkN_ok ok ht hb k
      have hc1 := h.fm hf
      have ba := abv_le D (t := t) (b := b) (n := n) hc hy (k + 1) (by omega)
      have es : itr (abvS D c t b y n) (k + 1) 0 = itr (abvS D c t b y n) k 0 + if n ≤ (hkN D t b k).length then W16 c y k else 0 := rfl
      have bb := hc1.2.2.2.1 b hb
      refine b_mo_humsOf_43 _ _ _ _ _ _ _ _ _ ⟨fun c => absurd c (by omega), fun _ => ?_⟩
      have inner : ∀ (d2 i : Nat), i + d2 = y → WpL G J_mo_humsOf 57 [(0, pR 101), (1, pI (c : Int)), (3, pI (b : Int)), (4, pI (y : Int)), (5, pI (n : Int)), (6, pI w), (7, pL ((itr (abvS D c t b y n) k 0 : Nat) : Int)), (9, pL ((16 ^ y : Nat) : Int)), (11, pL ((bin y k : Nat) : Int)), (13, pI (k : Int)), (14, pL ((bin y k * wpr c k i : Nat) : Int)), (16, pI (i : Int))] [] M1 P := by
        intro d2
        have bk := bin_le y hy k (by omega)
        induction d2 with
        | zero =>
          intro i hi
          have hie : i = y := by omega
          subst hie
          have ew : bin i k * wpr c k i = W16 c i k := by
            unfold W16
            have := wpr_hi c k (i - k)
            rw [show k + (i - k) = i by omega] at this
            rw [this]
          have e1 : w32 ((i : Int) - (k : Int)) = ((i - k : Nat) : Int) := by
            rw [w32_s (by omega) (by omega)]
            omega
          have bl : bin i k * (i - k) ≤ 126 * 10 := Nat.mul_le_mul bk (by omega)
          have bl2 := Nat.div_le_self (bin i k * (i - k)) (k + 1)
          refine b_mo_humsOf_57 _ _ _ _ _ _ _ _ _ _ _ ⟨fun _ => ?_, fun c => absurd c (by omega)⟩
          rw [hn.1, e1, wi (by omega), ← Int.natCast_mul, wl (by omega), td, wl (by omega), bin_ch i hy k (by omega), ew]
          refine ⟨fun c1 => ⟨by omega, c_mo_hummed 6 b (by omega) (by omega) _ hlk.1 _ _ _ hn bb.1 bb.2.1 bb.2.2 (ok.bw b hb) (fun M2 f2 n2 => ?_)⟩, fun c1 => ⟨by omega, c_mo_hummed 6 b (by omega) (by omega) _ hlk.1 _ _ _ hn bb.1 bb.2.1 bb.2.2 (ok.bw b hb) (fun M2 f2 n2 => ?_)⟩⟩
          · have nx := ih (k + 1) M2 (by omega) (hf.tr (FM.fn f2)) n2
            rw [es, if_neg (by omega), Nat.add_zero] at nx ba
            rw [Int.add_zero, wl (by omega)]
            exact nx
          · have nx := ih (k + 1) M2 (by omega) (hf.tr (FM.fn f2)) n2
            rw [es, if_pos (by omega)] at nx ba
            rw [← Int.natCast_add, wl (by omega)]
            exact nx
        | succ d2 ih2 =>
          intro i hi
          have l1 := wpr_le hc k (i + 1)
          have l2 := lt16 (i + 1) (by omega)
          have l3 : bin y k * wpr c k (i + 1) ≤ 126 * 16 ^ 9 := Nat.mul_le_mul bk (Nat.le_trans l1 l2)
          have st : wpr c k (i + 1) = wpr c k i * (if i < k then c else 16 - c) := rfl
          have nx := ih2 (i + 1) (by omega)
          refine b_mo_humsOf_57 _ _ _ _ _ _ _ _ _ _ _ ⟨fun c => absurd c (by omega), fun _ => ⟨fun c1 => ?_, fun c1 => ?_⟩⟩
          · rw [st, if_neg (by omega), ← Nat.mul_assoc] at nx l3
            rw [w32_s (x := 16 - (c : Int)) (by omega) (by omega), show 16 - (c : Int) = ((16 - c : Nat) : Int) by omega, ← Int.natCast_mul, wl (by omega), wi (by omega)]
            exact nx
          · rw [st, if_pos (by omega), ← Nat.mul_assoc] at nx l3
            rw [← Int.natCast_mul, wl (by omega), wi (by omega)]
            exact nx
      have := inner y 0 (by omega)
      rw [show wpr c k 0 = 1 from rfl, Nat.mul_one] at this
      exact this
  have pows : ∀ (d i : Nat), i + d = y → WpL G J_mo_humsOf 9 [(0, pR 101), (1, pI (c : Int)), (2, pI (t : Int)), (3, pI (b : Int)), (4, pI (y : Int)), (5, pI (n : Int)), (6, pI w), (7, pL 0), (9, pL ((16 ^ i : Nat) : Int)), (11, pI (i : Int))] [] M P := by
    intro d
    induction d with
    | zero =>
      intro i hi
      have hie : i = y := by omega
      subst hie
      refine b_mo_humsOf_9 _ _ _ _ _ _ _ _ _ ⟨fun _ => c_mo_begins t 6 (by omega) (by omega) _ (ok.2.1 t ht).2.1 (h.2.1 t ht) (fun M1 f1 n1 => ?_), fun c => absurd c (by omega)⟩
      have := ks (i + 1) 0 M1 (by omega) (FM.fn f1) n1
      rw [bin_0] at this
      exact this
    | succ d ih =>
      intro i hi
      have l2 := lt16 (i + 1) (by omega)
      refine b_mo_humsOf_9 _ _ _ _ _ _ _ _ _ ⟨fun c => absurd c (by omega), fun _ => ?_⟩
      have e : ((16 ^ i : Nat) : Int) * 16 = ((16 ^ (i + 1) : Nat) : Int) := by
        rw [Nat.pow_succ, Int.natCast_mul]
        rfl
      rw [e, wl (by omega), wi (by omega)]
      exact ih (i + 1) (by omega)
  exact e_mo_humsOf _ _ _ _ _ _ (pows y 0 (by omega))
theorem c_mo_hums {P : Int → MT → Prop} (ok : okD D) (rd : Rd G D M) (c t b y n w : Int) (hp : ∀ M', FA M M' → MW D M' → P (humsA D c t b y n w) M') : ClL G J_mo_hums M [pR 101, pI c, pI t, pI b, pI y, pI n, pI w] P := by
  have o1 := ok.1
  have o2 := ok.2.2.1
  unfold humsA at hp
  refine e_mo_hums _ _ _ _ _ _ (rd _ (fun M1 f1 h1 => ?_))
  have no : ¬ humsC D c t b y n w → ClL G J_mo_no M1 [pI (-2)] (fun x3 M3 => P x3 M3) := fun z => by
    have := hp M1 f1 h1
    rw [if_neg z] at this
    refine e_mo_no _ ?_
    rw [show w64 (-9223372036854775808 - -2) = -9223372036854775806 by decide]
    exact this
  refine c_mo_in _ _ _ ⟨fun c1 => no (fun z => b01_0.mp c1 z.1), fun c1 => c_mo_isTune (dn D) o1 h1.1 _ ⟨fun c2 => no (fun z => b01_0.mp c2 z.2.1), fun c2 => c_mo_isBorrower (db D) o2 h1.2.2.1 _ ⟨fun c3 => no (fun z => b01_0.mp c3 z.2.2.1), fun c3 => c_mo_in _ _ _ ⟨fun c4 => no (fun z => b01_0.mp c4 z.2.2.2.1), fun c4 => c_mo_in _ _ _ ⟨fun c5 => no (fun z => b01_0.mp c5 z.2.2.2.2.1), fun c5 => c_mo_isTwo _ ⟨fun c6 => no (fun z => b01_0.mp c6 z.2.2.2.2.2), fun c6 => ?_⟩⟩⟩⟩⟩⟩
  have z1 := b01_n.mp c1
  have z2 := b01_n.mp c2
  have z3 := b01_n.mp c3
  have z4 := b01_n.mp c4
  have z5 := b01_n.mp c5
  have z6 := b01_n.mp c6
  rw [if_pos ⟨z1, z2, z3, z4, z5, z6⟩] at hp
  obtain ⟨c', rfl⟩ : ∃ x : Nat, c = (x : Int) := ⟨c.toNat, by omega⟩
  obtain ⟨t', rfl⟩ : ∃ x : Nat, t = (x : Int) := ⟨t.toNat, by omega⟩
  obtain ⟨b', rfl⟩ : ∃ x : Nat, b = (x : Int) := ⟨b.toNat, by omega⟩
  obtain ⟨y', rfl⟩ : ∃ x : Nat, y = (x : Int) := ⟨y.toNat, by omega⟩
  obtain ⟨n', rfl⟩ : ∃ x : Nat, n = (x : Int) := ⟨n.toNat, by omega⟩
  rw [tN, tN, tN, tN, tN] at hp
  exact c_mo_humsOf ok h1 c' t' b' y' n' w (by omega) (by omega) (by omega) (by omega) (fun M2 f2 => hp M2 (f1.tr f2.fa) (h1.fm f2))
def fairN (D : DT) (s : Int) (y t : Nat) : Int := if db D = 0 then ((dT D t).length : Int) else ((fairL (dn D) (db D) t (dB D) y s (dT D t)).length : Int)
def fairA (D : DT) (s y t : Int) : Int := if (1 ≤ y ∧ y ≤ 40) ∧ (0 ≤ t ∧ t < (dn D : Int)) then fairN D s y.toNat t.toNat else -2
theorem c_tl_fair {P : Int → MT → Prop} (ok : okD D) (h : CD D M) (s y t : Int) (hp : ∀ M', FQ M M' → P (fairA D s y t) M') : ClI G J_tl_fair M [pR 0, pI s, pI y, pI t] P := by
  have o1 := ok.1
  have o2 := ok.2.2.1
  unfold fairA at hp
  have no : ¬ ((1 ≤ y ∧ y ≤ 40) ∧ (0 ≤ t ∧ t < (dn D : Int))) → P (-2) M := fun z => by
    have := hp M FQ.rf
    rw [if_neg z] at this
    exact this
  refine e_tl_fair _ _ _ (c_tl_within _ _ _ ⟨fun c => no (fun z => b01_0.mp c z.1), fun c => c_tl_isTune (dn D) o1 h.1 _ ⟨fun c2 => no (fun z => b01_0.mp c2 z.2), fun c2 => ?_⟩⟩)
  have z1 := b01_n.mp c
  have z2 := b01_n.mp c2
  obtain ⟨y', rfl⟩ : ∃ x : Nat, y = (x : Int) := ⟨y.toNat, by omega⟩
  obtain ⟨t', rfl⟩ : ∃ x : Nat, t = (x : Int) := ⟨t.toNat, by omega⟩
  rw [if_pos ⟨z1, z2⟩, tN, tN] at hp
  exact c_ch_fairSize s y' t' (dn D) (db D) (dB D) (dT D t') (by omega) o1 (by omega) h.1 o2 h.2.2.1 ok.bw (ok.2.1 t' (by omega)).2.1 (h.2.1 t' (by omega)) (fun M1 f1 => hp M1 (FQ.fr f1 (by intro q hq; simp at hq; omega)))
theorem lcg_w (s : Int) : w32 (w32 (1103515245 * s) + 12345) = lcg s := rfl
theorem c_mo_fairOf {P : Int → MT → Prop} (ok : okD D) (h : MW D M) (s : Int) (y t : Nat) (hy : y ≤ 40) (ht : t < dn D) (hp : ∀ M', FM M M' → P (fairN D s y t) M') : ClI G J_mo_fairOf M [pR 101, pI s, pI (y : Int), pI (t : Int)] P := by
  have o1 := ok.1
  have o2 := ok.2.2.1
  unfold fairN at hp
  refine e_mo_fairOf _ _ _ (c_mo_startsAll ok h (fun M1 f1 y1 => ?_))
  have lp : ∀ (d i : Nat) (M2 : MT) (z : Int) (T : Nat → List Int), i + d = y → FM M M2 → (∀ u, u < dn D → NW M2 u (T u) ∧ (T u).length ≤ 40) → (db D = 0 → T t = dT D t) → fairL (dn D) (db D) t (dB D) d z (T t) = fairL (dn D) (db D) t (dB D) y s (dT D t) → WpI G J_mo_fairOf 10 [(0, pR 101), (2, pI (y : Int)), (3, pI (t : Int)), (4, pI z), (5, pI (i : Int))] [] M2 P := by
    intro d
    induction d with
    | zero =>
      intro i M2 z T hi hf hT h0 hF
      have hc := h.fm hf
      refine b_mo_fairOf_10 _ _ _ _ ⟨fun _ => ⟨⟨by omega, by omega⟩, ?_⟩, fun c => absurd c (by omega)⟩
      have hv := hp M2 hf
      have hF' : T t = fairL (dn D) (db D) t (dB D) y s (dT D t) := hF
      rw [tN, (hT t ht).1.1]
      by_cases c : db D = 0
      · rw [if_pos c] at hv
        rw [h0 c]
        exact hv
      · rw [if_neg c, ← hF'] at hv
        exact hv
    | succ d ih =>
      intro i M2 z T hi hf hT h0 hF
      have hc := h.fm hf
      refine b_mo_fairOf_10 _ _ _ _ ⟨fun c => absurd c (by omega), fun _ => ⟨fun c => ⟨⟨by omega, by omega⟩, ?_⟩, fun c => ?_⟩⟩
      · rw [hc.2.2.1] at c
        have hv := hp M2 hf
        rw [if_pos (by omega)] at hv
        rw [tN, (hT t ht).1.1, h0 (by omega)]
        exact hv
      · rw [hc.2.2.1] at c
        rw [hc.1, hc.2.2.1, lcg_w, lcg_w]
        have hF' : fairL (dn D) (db D) t (dB D) d (lcg (lcg z)) (if lotN (lcg z) (dn D) = (t : Int) then humB (dB D) (lotN (lcg (lcg z)) (db D)).toNat (T t) else T t) = fairL (dn D) (db D) t (dB D) y s (dT D t) := hF
        have n1 := lotN_in (lcg z) (show 0 < dn D by omega) o1
        have n2 := lotN_in (lcg (lcg z)) (show 0 < db D by omega) o2
        have e1 : w32 (Int.tmod (iushr (lcg z) 16) (dn D : Int)) = lotN (lcg z) (dn D) := rfl
        have e2 : w32 (Int.tmod (iushr (lcg (lcg z)) 16) (db D : Int)) = lotN (lcg (lcg z)) (db D) := rfl
        rw [e1, e2]
        obtain ⟨u, hu⟩ : ∃ u : Nat, lotN (lcg z) (dn D) = (u : Int) := ⟨(lotN (lcg z) (dn D)).toNat, by omega⟩
        obtain ⟨v, hv⟩ : ∃ v : Nat, lotN (lcg (lcg z)) (db D) = (v : Int) := ⟨(lotN (lcg (lcg z)) (db D)).toNat, by omega⟩
        rw [hu, hv, tN] at hF'
        rw [hu, hv]
        have bb := hc.2.2.2.1 v (by omega)
        refine ⟨by omega, by omega, c_mo_hummed u v (by omega) (by omega) (T u) (hT u (by omega)).2 _ _ _ (hT u (by omega)).1 bb.1 bb.2.1 bb.2.2 (ok.bw v (by omega)) (fun M3 f3 n3 => ?_)⟩
        rw [wi (by omega)]
        refine ih (i + 1) M3 _ (fu T u (humB (dB D) v (T u))) (by omega) (hf.tr (FM.fn f3)) (fun x hx => ?_) (fun z => by omega) ?_
        · by_cases ex : x = u
          · rw [ex, fu_eq]
            exact ⟨n3, humL_le _ _ _ _⟩
          · rw [fu_ne ex]
            exact ⟨(hT x hx).1.fn (hT x hx).2 f3 ex, (hT x hx).2⟩
        · by_cases et : u = t
          · rw [if_pos (by omega)] at hF'
            rw [← et, fu_eq]
            rw [← et] at hF'
            exact hF'
          · rw [if_neg (by omega)] at hF'
            rw [fu_ne (fun z => et z.symm)]
            exact hF'
  exact lp y 0 M1 s (dT D) (by omega) f1 (fun u hu => ⟨y1.1 u hu, (ok.2.1 u hu).2.1⟩) (fun _ => rfl) rfl
theorem c_mo_fair {P : Int → MT → Prop} (ok : okD D) (rd : Rd G D M) (s y t : Int) (hp : ∀ M', FA M M' → P (fairA D s y t) M') : ClI G J_mo_fair M [pR 101, pI s, pI y, pI t] P := by
  unfold fairA at hp
  refine e_mo_fair _ _ _ (rd _ (fun M1 f1 h1 => ?_))
  have no : ¬ ((1 ≤ y ∧ y ≤ 40) ∧ (0 ≤ t ∧ t < (dn D : Int))) → P (-2) M1 := fun z => by
    have := hp M1 f1
    rw [if_neg z] at this
    exact this
  refine c_mo_in _ _ _ ⟨fun c => no (fun z => b01_0.mp c z.1), fun c => c_mo_isTune (dn D) ok.1 h1.1 _ ⟨fun c2 => no (fun z => b01_0.mp c2 z.2), fun c2 => ?_⟩⟩
  have z1 := b01_n.mp c
  have z2 := b01_n.mp c2
  obtain ⟨y', rfl⟩ : ∃ x : Nat, y = (x : Int) := ⟨y.toNat, by omega⟩
  obtain ⟨t', rfl⟩ : ∃ x : Nat, t = (x : Int) := ⟨t.toNat, by omega⟩
  rw [if_pos ⟨z1, z2⟩, tN, tN] at hp
  exact c_mo_fairOf ok h1 s y' t' (by omega) (by omega) (fun M2 f2 => hp M2 (f1.tr f2.fa))
end CMHU
