/-! COMMON: the table's rows -/
def lcR (b : Nat → Int) (x : Int) (prev : Nat → Nat) : Nat → Nat
  | 0 => 0
  | j + 1 => if x = b j then prev j + 1 else max (prev (j + 1)) (lcR b x prev j)
def lcp (a b : Nat → Int) : Nat → Nat → Nat
  | 0 => fun _ => 0
  | i + 1 => lcR b (a i) (lcp a b i)
theorem lcp_0 (a b : Nat → Int) (i : Nat) : lcp a b i 0 = 0 := by cases i <;> rfl
theorem lcp_z (a b : Nat → Int) (j : Nat) : lcp a b 0 j = 0 := rfl
theorem lcp_s (a b : Nat → Int) (i j : Nat) : lcp a b (i + 1) (j + 1) = if a i = b j then lcp a b i j + 1 else max (lcp a b i (j + 1)) (lcp a b (i + 1) j) := rfl
/-- neighbours differ by one at most -/
theorem lcp_nb (a b : Nat → Int) : ∀ s i j, i + j ≤ s → (lcp a b i j ≤ lcp a b (i + 1) j ∧ lcp a b (i + 1) j ≤ lcp a b i j + 1) ∧ (lcp a b i j ≤ lcp a b i (j + 1) ∧ lcp a b i (j + 1) ≤ lcp a b i j + 1) := by
  intro s
  induction s with
  | zero =>
    intro i j h
    obtain ⟨rfl, rfl⟩ : i = 0 ∧ j = 0 := by omega
    rw [lcp_0, lcp_0, lcp_z]
    omega
  | succ s ih =>
    intro i j h
    refine ⟨?_, ?_⟩
    · cases j with
      | zero => rw [lcp_0, lcp_0]; omega
      | succ j =>
        rw [lcp_s]
        have h1 := (ih i j (by omega)).1
        have h2 := (ih i j (by omega)).2
        split
        · omega
        · have e1 := Nat.le_max_left (lcp a b i (j + 1)) (lcp a b (i + 1) j)
          have e2 : max (lcp a b i (j + 1)) (lcp a b (i + 1) j) ≤ lcp a b i (j + 1) + 1 := Nat.max_le.mpr ⟨by omega, by omega⟩
          omega
    · cases i with
      | zero => rw [lcp_z, lcp_z]; omega
      | succ i =>
        rw [lcp_s]
        have h1 := (ih i j (by omega)).1
        have h2 := (ih i j (by omega)).2
        split
        · omega
        · have e1 := Nat.le_max_right (lcp a b i (j + 1)) (lcp a b (i + 1) j)
          have e2 : max (lcp a b i (j + 1)) (lcp a b (i + 1) j) ≤ lcp a b (i + 1) j + 1 := Nat.max_le.mpr ⟨by omega, by omega⟩
          omega
theorem lcp_up (a b : Nat → Int) (i j : Nat) : lcp a b i j ≤ lcp a b (i + 1) j ∧ lcp a b (i + 1) j ≤ lcp a b i j + 1 := (lcp_nb a b (i + j) i j (Nat.le_refl _)).1
theorem lcp_rt (a b : Nat → Int) (i j : Nat) : lcp a b i j ≤ lcp a b i (j + 1) ∧ lcp a b i (j + 1) ≤ lcp a b i j + 1 := (lcp_nb a b (i + j) i j (Nat.le_refl _)).2
theorem lcp_le (a b : Nat → Int) : ∀ i j, lcp a b i j ≤ i
  | 0, _ => Nat.le_refl _
  | i + 1, j => by
    have h1 := lcp_le a b i j
    have h2 := lcp_up a b i j
    omega
theorem lcp_sym (a b : Nat → Int) : ∀ i j, lcp a b i j = lcp b a j i := by
  intro i
  induction i with
  | zero => intro j; rw [lcp_z, lcp_0]
  | succ i ih =>
    intro j
    induction j with
    | zero => rw [lcp_0, lcp_z]
    | succ j jh =>
      rw [lcp_s, lcp_s, ih j, ih (j + 1), jh, Nat.max_comm]
      by_cases h : a i = b j
      · rw [if_pos h, if_pos h.symm]
      · rw [if_neg h, if_neg (fun e => h e.symm)]
def gl (l : List Int) : Nat → Int := fun i => l.getD i 0
def lcs (l l' : List Int) : Nat := lcp (gl l) (gl l') l.length l'.length
theorem lcs_sym (l l' : List Int) : lcs l l' = lcs l' l := lcp_sym _ _ _ _
theorem lcs_le (l l' : List Int) : lcs l l' ≤ l.length := lcp_le _ _ _ _
section CLCS
variable {G : GT}
theorem c_mo_greater {M : MT} {P : Int → MT → Prop} (a b : Nat) (hp : P ((max a b : Nat) : Int) M) : ClI G J_mo_greater M [pI (a : Int), pI (b : Int)] P := by
  refine e_mo_greater _ _ ⟨fun c => ?_, fun c => ?_⟩
  · rw [Nat.max_eq_right (by omega)] at hp
    exact hp
  · rw [Nat.max_eq_left (by omega)] at hp
    exact hp
theorem c_mo_lesser {M : MT} {P : Int → MT → Prop} (a b : Int) (hp : P (if a < b then a else b) M) : ClI G J_mo_lesser M [pI a, pI b] P := by
  refine e_mo_lesser _ _ ⟨fun c => ?_, fun c => ?_⟩
  · rw [if_neg (by omega)] at hp
    exact hp
  · rw [if_pos c] at hp
    exact hp
theorem lp_c39 {M0 : MT} {P : Int → MT → Prop} (o1 n1 : Nat) (f1 : AR o1 n1) (o4 n4 : Nat) (f4 : AR o4 n4) (k1 k4 : Nat) (la lb : List Int) (h1 : SL M0 o1 k1 la) (h4 : SL M0 o4 k4 lb) (g1 : la.length ≤ 40) (g4 : lb.length ≤ 40) (r1 : k1 + la.length ≤ n1) (r4 : k4 + lb.length ≤ n4) (z1 : n1 ≤ 1000) (z4 : n4 ≤ 1000) (q1 : o1 ≠ 122) (q4 : o4 ≠ 122) (i : Nat) (hi : i < la.length)
    (K : ∀ M', Fr [122] M0 M' → (∀ t, t ≤ lb.length → M' 122 t = (lcp (gl la) (gl lb) (i + 1) t : Int)) → WpI G J_mo_commonOf 27 [(0, pR 101), (1, pR o1), (2, pI (k1 : Int)), (3, pI (la.length : Int)), (4, pR o4), (5, pI (k4 : Int)), (6, pI (lb.length : Int)), (7, pI ((i + 1 : Nat) : Int))] [] M' P) :
    ∀ (d j : Nat) (M : MT), j + d = lb.length → Fr [122] M0 M → (∀ t, t ≤ j → M 122 t = (lcp (gl la) (gl lb) (i + 1) t : Int)) → (∀ t, j < t → t ≤ lb.length → M 122 t = (lcp (gl la) (gl lb) i t : Int)) →
      WpI G J_mo_commonOf 39 [(0, pR 101), (1, pR o1), (2, pI (k1 : Int)), (3, pI (la.length : Int)), (4, pR o4), (5, pI (k4 : Int)), (6, pI (lb.length : Int)), (7, pI (i : Int)), (8, pI (lcp (gl la) (gl lb) i j : Int)), (9, pI ((j + 1 : Nat) : Int))] [] M P := by
  intro d
  induction d with
  | zero =>
    intro j M hj hf a1 a2
    refine b_mo_commonOf_39 o1 n1 f1 _ _ o4 n4 f4 _ _ _ _ _ ⟨fun _ => ?_, fun c => ?_⟩
    · rw [wi (by omega)]
      exact K M hf (fun t ht => a1 t (by omega))
    · omega
  | succ d ih =>
    intro j M hj hf a1 a2
    have e1 : (w32 ((k1 : Int) + (i : Int))).toNat = k1 + i := by rw [w32_s (by omega) (by omega)]; omega
    have e2 : w32 (w32 ((k4 : Int) + ((j + 1 : Nat) : Int)) - 1) = ((k4 + j : Nat) : Int) := by
      rw [w32_s (x := (k4 : Int) + ((j + 1 : Nat) : Int)) (by omega) (by omega), w32_s (by omega) (by omega)]
      omega
    have e3 : ((j + 1 : Nat) : Int).toNat = j + 1 := by omega
    have e4 : w32 (((j + 1 : Nat) : Int) - 1) = (j : Int) := by
      rw [w32_s (by omega) (by omega)]
      omega
    have e5 : ((k4 + j : Nat) : Int).toNat = k4 + j := by omega
    have e6 : ((j : Nat) : Int).toNat = j := by omega
    have va : M o1 (k1 + i) = gl la i := (hf o1 (by simp [q1]) _).trans (h1 i hi)
    have vb : M o4 (k4 + j) = gl lb j := (hf o4 (by simp [q4]) _).trans (h4 j (by omega))
    have w1 := a2 (j + 1) (by omega) (by omega)
    have w2 := a1 j (Nat.le_refl _)
    have b1 := lcp_le (gl la) (gl lb) i j
    have nx : ∀ M', Fr [122] M M' → (∀ t, t ≠ j + 1 → M' 122 t = M 122 t) → M' 122 (j + 1) = (lcp (gl la) (gl lb) (i + 1) (j + 1) : Int) → WpI G J_mo_commonOf 39 [(0, pR 101), (1, pR o1), (2, pI (k1 : Int)), (3, pI (la.length : Int)), (4, pR o4), (5, pI (k4 : Int)), (6, pI (lb.length : Int)), (7, pI (i : Int)), (8, pI (M 122 (j + 1))), (9, pI (w32 (((j + 1 : Nat) : Int) + 1)))] [] M' P := by
      intro M' hf' s1 s2
      rw [wi (by omega), w1]
      refine ih (j + 1) M' (by omega) (hf.tr hf') (fun t ht => ?_) (fun t ht ht2 => ?_)
      · by_cases hc : t = j + 1
        · rw [hc]; exact s2
        · rw [s1 t hc]
          exact a1 t (by omega)
      · rw [s1 t (by omega)]
        exact a2 t (by omega) ht2
    refine b_mo_commonOf_39 o1 n1 f1 _ _ o4 n4 f4 _ _ _ _ _ ⟨fun c => ?_, fun c => ⟨⟨by omega, by omega⟩, ⟨?_, ?_⟩, ⟨?_, ?_⟩, fun c2 => ?_, fun c2 => ?_⟩⟩
    · omega
    · rw [w32_s (by omega) (by omega)]; omega
    · rw [w32_s (by omega) (by omega)]; omega
    · rw [e2]; omega
    · rw [e2]; omega
    · rw [e1, e2, e5, va, vb] at c2
      refine ⟨⟨by omega, by omega⟩, ⟨by rw [e4]; omega, by rw [e4]; omega⟩, ?_⟩
      rw [e3, e4, e6, w1, w2]
      refine c_mo_greater _ _ ⟨⟨by omega, by omega⟩, ?_⟩
      rintro M2 rfl
      rw [← w1]
      refine nx _ (Fr.mu1 (by simp)) (fun t ht => mu_k ht) ?_
      rw [mu_eq, lcp_s, if_neg c2]
    · rw [e1, e2, e5, va, vb] at c2
      refine ⟨⟨by omega, by omega⟩, ?_⟩
      rintro M2 rfl
      rw [e3]
      refine nx _ (Fr.mu1 (by simp)) (fun t ht => mu_k ht) ?_
      rw [mu_eq, lcp_s, if_pos c2, w32_s (by omega) (by omega)]
      omega
theorem c_mo_commonOf {M : MT} {P : Int → MT → Prop} (o1 n1 : Nat) (f1 : AR o1 n1) (o4 n4 : Nat) (f4 : AR o4 n4) (k1 k4 : Nat) (la lb : List Int) (h1 : SL M o1 k1 la) (h4 : SL M o4 k4 lb) (g1 : la.length ≤ 40) (g4 : lb.length ≤ 40) (r1 : k1 + la.length ≤ n1) (r4 : k4 + lb.length ≤ n4) (z1 : n1 ≤ 1000) (z4 : n4 ≤ 1000) (q1 : o1 ≠ 122) (q4 : o4 ≠ 122)
    (hp : ∀ M', Fr [122] M M' → P (lcs la lb : Int) M') : ClI G J_mo_commonOf M [pR 101, pR o1, pI (k1 : Int), pI (la.length : Int), pR o4, pI (k4 : Int), pI (lb.length : Int)] P := by
  refine e_mo_commonOf o1 n1 f1 _ _ o4 n4 f4 _ _ ?_
  have rows : ∀ (d i : Nat) (M' : MT), i + d = la.length → Fr [122] M M' → (∀ t, t ≤ lb.length → M' 122 t = (lcp (gl la) (gl lb) i t : Int)) → WpI G J_mo_commonOf 27 [(0, pR 101), (1, pR o1), (2, pI (k1 : Int)), (3, pI (la.length : Int)), (4, pR o4), (5, pI (k4 : Int)), (6, pI (lb.length : Int)), (7, pI (i : Int))] [] M' P := by
    intro d
    induction d with
    | zero =>
      intro i M' hi hf ha
      refine b_mo_commonOf_27 o1 n1 f1 _ _ o4 n4 f4 _ _ _ ⟨fun _ => ⟨⟨by omega, by omega⟩, ?_⟩, fun c => ?_⟩
      · have e : ((lb.length : Nat) : Int).toNat = lb.length := by omega
        rw [e, ha _ (Nat.le_refl _), show i = la.length by omega]
        exact hp M' hf
      · omega
    | succ d ih =>
      intro i M' hi hf ha
      refine b_mo_commonOf_27 o1 n1 f1 _ _ o4 n4 f4 _ _ _ ⟨fun c => ?_, fun _ => ?_⟩
      · omega
      · have h := lp_c39 (G := G) (M0 := M) (P := P) o1 n1 f1 o4 n4 f4 k1 k4 la lb h1 h4 g1 g4 r1 r4 z1 z4 q1 q4 i (by omega) (fun M2 hf2 ha2 => ih (i + 1) M2 (by omega) hf2 ha2) lb.length 0 M' (by omega) hf (fun t ht => by rw [show t = 0 by omega, ha 0 (Nat.zero_le _), lcp_0, lcp_0]) (fun t _ ht => ha t ht)
        rw [lcp_0] at h
        exact h
  have zero : ∀ (d j : Nat) (M' : MT), j + d = lb.length + 1 → Fr [122] M M' → (∀ t, t < j → M' 122 t = 0) → WpI G J_mo_commonOf 3 [(0, pR 101), (1, pR o1), (2, pI (k1 : Int)), (3, pI (la.length : Int)), (4, pR o4), (5, pI (k4 : Int)), (6, pI (lb.length : Int)), (7, pI (j : Int))] [] M' P := by
    intro d
    induction d with
    | zero =>
      intro j M' hj hf ha
      refine b_mo_commonOf_3 o1 n1 f1 _ _ o4 n4 f4 _ _ _ ⟨fun _ => ?_, fun c => ?_⟩
      · exact rows la.length 0 M' (by omega) hf (fun t ht => by rw [ha t (by omega), lcp_z]; rfl)
      · omega
    | succ d ih =>
      intro j M' hj hf ha
      refine b_mo_commonOf_3 o1 n1 f1 _ _ o4 n4 f4 _ _ _ ⟨fun c => ?_, fun _ => ⟨⟨by omega, by omega⟩, ?_⟩⟩
      · omega
      · rintro M2 rfl
        rw [wi (by omega), show ((j : Nat) : Int).toNat = j by omega]
        refine ih (j + 1) _ (by omega) (hf.tr (Fr.mu1 (by simp))) (fun t ht => ?_)
        by_cases hc : t = j
        · rw [hc, mu_eq]
        · rw [mu_k hc]
          exact ha t (by omega)
  exact zero (lb.length + 1) 0 M (by omega) Fr.rf (fun t ht => absurd ht (Nat.not_lt_zero t))
end CLCS
