/-! sheets: the model's way -/
section CMSH
variable {G : GT} {M : MT} {S : ST} {P : Int → MT → Prop}
theorem RM.setF (h : RM S M) (f : Int) : RM (setF S f) (mu M 101 4 f) := by
  have g : ∀ q k, ¬ (q = 101 ∧ k = 4) → mu M 101 4 f q k = M q k := fun q k b => by
    unfold mu
    rw [if_neg b]
  exact ⟨⟨(g _ _ (by omega)).trans h.1.1, fun k hk => (g _ _ (by omega)).trans (h.1.2 k hk)⟩, ⟨(g _ _ (by omega)).trans h.2.1.1, fun k hk => (g _ _ (by omega)).trans (h.2.1.2 k hk)⟩, ⟨(g _ _ (by omega)).trans h.2.2.1.1, fun l hl k hk => (g _ _ (by omega)).trans (h.2.2.1.2 l hl k hk)⟩, ⟨(g _ _ (by omega)).trans h.2.2.2.1.1, mu_eq _ _ _ _⟩, fun s hs => ⟨(g _ _ (by omega)).trans (h.2.2.2.2 s hs).1, (g _ _ (by omega)).trans (h.2.2.2.2 s hs).2.1, fun i hi => (g _ _ (by omega)).trans ((h.2.2.2.2 s hs).2.2 i hi)⟩⟩
def RMs (S : ST) (M : MT) : Prop := ∀ s, s < 4 → M 102 s = sFm S s ∧ M 103 s = (sSz S s : Int) ∧ ∀ i, i < sSz S s → M 104 (60 * s + i) = sIt S s i
theorem RM.setH {M' : MT} (h : RM S M) (x : SHT) (g : ∀ q k, q ≠ 102 → q ≠ 103 → q ≠ 104 → q ≠ 105 → M' q k = M q k) (hs : RMs (setH S x) M') : RM (setH S x) M' :=
  ⟨⟨(g _ _ (by omega) (by omega) (by omega) (by omega)).trans h.1.1, fun k hk => (g _ _ (by omega) (by omega) (by omega) (by omega)).trans (h.1.2 k hk)⟩, ⟨(g _ _ (by omega) (by omega) (by omega) (by omega)).trans h.2.1.1, fun k hk => (g _ _ (by omega) (by omega) (by omega) (by omega)).trans (h.2.1.2 k hk)⟩, ⟨(g _ _ (by omega) (by omega) (by omega) (by omega)).trans h.2.2.1.1, fun l hl k hk => (g _ _ (by omega) (by omega) (by omega) (by omega)).trans (h.2.2.1.2 l hl k hk)⟩, ⟨(g _ _ (by omega) (by omega) (by omega) (by omega)).trans h.2.2.2.1.1, (g _ _ (by omega) (by omega) (by omega) (by omega)).trans h.2.2.2.1.2⟩, hs⟩
theorem c_mo_fnd (h : RM S M) (f : Int) (h0 : 0 ≤ f) (h1 : f ≤ 100) (hp : ∀ M', FO M M' → RM (setF S f) M' → P (-10 - f) M') : ClI G J_mo_finds M [pR 101, pI f] P :=
  c_mo_finds f h0 h1 (hp _ (FO.m1 (by omega)) (h.setF f))
theorem c_mo_sheet (ok : okST S) (h : RM S M) (s f n : Int) (hp : ∀ M', FO M M' → RM (sheetR S s f n).2 M' → P (sheetR S s f n).1 M') : ClI G J_mo_sheet M [pR 101, pI s, pI f, pI n] P := by
  unfold sheetR at hp
  have no : ¬ ((0 ≤ s ∧ s ≤ 3) ∧ (0 ≤ f ∧ f ≤ 2) ∧ n ≤ 60) → P (-2) M := fun c => by
    rw [if_neg c] at hp
    exact hp M FO.rf h
  refine e_mo_sheet _ _ _ (c_mo_isSheet _ ⟨fun c => no (fun z => b01_0.mp c z.1), fun c => c_mo_in _ _ _ ⟨fun c2 => no (fun z => b01_0.mp c2 z.2.1), fun c2 => ⟨fun c3 => ?_, fun c3 => no (fun z => by omega)⟩⟩⟩)
  have z1 := b01_n.mp c
  have z2 := b01_n.mp c2
  rw [if_pos ⟨z1, z2, c3⟩] at hp
  refine ⟨fun c4 => ?_, fun c4 => ?_⟩
  · rw [if_neg (by omega)] at hp
    obtain ⟨u, rfl⟩ : ∃ u : Nat, s = (u : Int) := ⟨s.toNat, by omega⟩
    obtain ⟨m, rfl⟩ : ∃ m : Nat, n = (m : Int) := ⟨n.toNat, by omega⟩
    rw [tN, tN] at hp
    rw [tN]
    refine ⟨⟨by omega, by omega⟩, ?_⟩
    rintro M3 rfl
    refine ⟨⟨by omega, by omega⟩, ?_⟩
    rintro M4 rfl
    have lp : ∀ (d i : Nat) (M1 : MT), i + d = m → (∀ q k, ¬ (q = 104 ∧ 60 * u ≤ k ∧ k < 60 * u + 60) → M1 q k = mu (mu M 102 u f) 103 u (m : Int) q k) → (∀ k, k < i → M1 104 (60 * u + k) = 0) → WpI G J_mo_sheet 55 [(0, pR 101), (1, pI (u : Int)), (3, pI (m : Int)), (4, pI (i : Int))] [] M1 P := by
      intro d
      induction d with
      | zero =>
        intro i M1 hi g0 gz
        have g : ∀ q k, q ≠ 102 → q ≠ 103 → q ≠ 104 → M1 q k = M q k := fun q k a b c => by rw [g0 q k (by omega), mu_o b, mu_o a]
        refine b_mo_sheet_55 _ _ _ ⟨fun _ => hp M1 (fun q k a => g q k (by omega) (by omega) (by omega)) (h.setH _ (fun q k a b c _ => g q k a b c) (fun x hx => ?_)), fun c => absurd c (by omega)⟩
        have hx2 := h.2.2.2.2 x hx
        have ox := (ok.2.2.2.2 x hx).2
        show M1 102 x = fu (sFm S) u f x ∧ M1 103 x = ((fu (sSz S) u m x : Nat) : Int) ∧ ∀ i, i < fu (sSz S) u m x → M1 104 (60 * x + i) = fu (sIt S) u (fun _ => 0) x i
        rw [g0 102 x (by omega), g0 103 x (by omega), mu_o (by decide)]
        by_cases ex : x = u
        · rw [ex, fu_eq, fu_eq, fu_eq, mu_eq, mu_eq]
          exact ⟨rfl, rfl, fun k hk => gz k (by omega)⟩
        · rw [fu_ne ex, fu_ne ex, fu_ne ex, mu_k ex, mu_k ex, mu_o (by decide)]
          refine ⟨hx2.1, hx2.2.1, fun k hk => ?_⟩
          rw [g0 104 _ (by omega), mu_o (by decide), mu_o (by decide)]
          exact hx2.2.2 k hk
      | succ d ih =>
        intro i M1 hi g0 gz
        refine b_mo_sheet_55 _ _ _ ⟨fun c => absurd c (by omega), fun _ => ?_⟩
        rw [ix60 (by omega) (by omega), tN, wi (by omega)]
        refine ⟨by omega, ?_⟩
        rintro M2 rfl
        refine ih (i + 1) _ (by omega) (fun q k a => ?_) (fun k hk => ?_)
        · rw [← g0 q k a]
          by_cases e : q = 104
          · rw [e, mu_k (by omega)]
          · rw [mu_o e]
        · by_cases ek : k = i
          · rw [ek, mu_eq]
          · rw [mu_k (by omega)]
            exact gz k (by omega)
    exact lp m 0 _ (by omega) (fun _ _ _ => rfl) (fun k hk => absurd hk (Nat.not_lt_zero k))
  · rw [if_pos c4] at hp
    exact c_mo_fnd h 5 (by decide) (by decide) hp
theorem c_mo_lose (ok : okST S) (h : RM S M) (s : Int) (hp : ∀ M', FO M M' → RM (loseR S s).2 M' → P (loseR S s).1 M') : ClI G J_mo_lose M [pR 101, pI s] P := by
  unfold loseR at hp
  refine e_mo_lose _ (c_mo_isSheet _ ⟨fun c => ?_, fun c => ?_⟩)
  · have z1 := b01_n.mp c
    rw [if_pos z1] at hp
    obtain ⟨u, rfl⟩ : ∃ u : Nat, s = (u : Int) := ⟨s.toNat, by omega⟩
    rw [tN] at hp ⊢
    have hh := h.2.2.2.2 u (by omega)
    have ou := (ok.2.2.2.2 u (by omega)).1
    rw [hh.1]
    refine ⟨⟨by omega, by omega⟩, fun c2 => ⟨⟨by omega, by omega⟩, ?_⟩, fun c2 => ?_⟩
    · rw [if_neg (by omega)] at hp
      rintro M2 rfl
      rw [mu_o (by decide), hh.2.1]
      refine ⟨⟨by omega, by omega⟩, hp _ (FO.m1 (by omega)) (h.setH _ (fun q k a b c d => mu_o a) (fun x hx => ?_))⟩
      have hx2 := h.2.2.2.2 x hx
      show mu M 102 u (-1) 102 x = fu (sFm S) u (-1) x ∧ mu M 102 u (-1) 103 x = ((sSz S x : Nat) : Int) ∧ ∀ i, i < sSz S x → mu M 102 u (-1) 104 (60 * x + i) = sIt S x i
      refine ⟨?_, (mu_o (by decide)).trans hx2.2.1, fun i hi => (mu_o (by decide)).trans (hx2.2.2 i hi)⟩
      by_cases ex : x = u
      · rw [ex, fu_eq, mu_eq]
      · rw [fu_ne ex, mu_k ex]
        exact hx2.1
    · rw [if_pos (by omega)] at hp
      exact c_mo_fnd h 1 (by decide) (by decide) hp
  · rw [if_neg (b01_0.mp c)] at hp
    exact hp M FO.rf h
theorem c_mo_lacks (ok : okST S) (h : RM S M) (u : Nat) (hu : u < 4) (f i : Int) (hf : 0 ≤ f ∧ f ≤ 2) (hp : ∀ M', FO M M' → RM (refR S (u : Int) f i).2 M' → P (refR S (u : Int) f i).1 M') : ClI G J_mo_lacks M [pR 101, pI (u : Int), pI f, pI i] P := by
  unfold refR at hp
  rw [if_pos ⟨⟨by omega, by omega⟩, hf⟩, tN] at hp
  have hh := h.2.2.2.2 u hu
  have hz := ok.2.2.2.2 u hu
  refine e_mo_lacks _ _ _ ⟨⟨by omega, by omega⟩, ?_⟩
  rw [tN, hh.1, hh.2.1, w32_s (by omega) (by omega)]
  refine ⟨fun c3 => ⟨⟨by omega, by omega⟩, fun c4 => ⟨⟨by omega, by omega⟩, c_mo_in _ _ _ ⟨fun c5 => ?_, fun c5 => ?_⟩⟩, fun c4 => ?_⟩, fun c3 => ?_⟩
  · rw [if_neg (by omega), if_pos c4, if_neg (fun z => b01_0.mp c5 (by omega))] at hp
    exact c_mo_fnd h 2 (by decide) (by decide) hp
  · have z5 := b01_n.mp c5
    rw [if_neg (by omega), if_pos c4, if_pos (by omega)] at hp
    exact hp M FO.rf h
  · rw [if_neg (by omega), if_neg c4] at hp
    exact c_mo_fnd h 3 (by decide) (by decide) hp
  · rw [if_pos (by omega)] at hp
    exact c_mo_fnd h 1 (by decide) (by decide) hp
theorem ref_bad {s f i : Int} (h : ¬ ((0 ≤ s ∧ s ≤ 3) ∧ (0 ≤ f ∧ f ≤ 2))) : refR S s f i = (-2, S) := by
  unfold refR
  rw [if_neg h]
theorem c_mo_lay (ok : okST S) (h : RM S M) (s f i v : Int) (hp : ∀ M', FO M M' → RM (layR S s f i v).2 M' → P (layR S s f i v).1 M') : ClI G J_mo_lay M [pR 101, pI s, pI f, pI i, pI v] P := by
  unfold layR at hp
  have no : ¬ ((0 ≤ s ∧ s ≤ 3) ∧ (0 ≤ f ∧ f ≤ 2)) → P (-2) M := fun c => by
    rw [ref_bad c, if_neg (show ¬ (-2 : Int) = 0 by decide)] at hp
    exact hp M FO.rf h
  refine e_mo_lay _ _ _ _ (c_mo_isSheet _ ⟨fun c => no (fun z => b01_0.mp c z.1), fun c => c_mo_in _ _ _ ⟨fun c2 => ?_, fun c2 => no (fun z => b01_0.mp c2 z.2)⟩⟩)
  have z1 := b01_n.mp c
  have z2 := b01_n.mp c2
  obtain ⟨u, rfl⟩ : ∃ u : Nat, s = (u : Int) := ⟨s.toNat, by omega⟩
  refine c_mo_lacks ok h u (by omega) f i z2 (fun M1 f1 r1 => ⟨fun c3 => ?_, fun c3 => ?_⟩)
  · obtain ⟨e1, y1, y2, y3, y4⟩ := ref_0 c3
    rw [e1] at r1
    rw [if_pos c3] at hp
    obtain ⟨j, rfl⟩ : ∃ j : Nat, i = (j : Int) := ⟨i.toNat, by omega⟩
    rw [tN] at y3 y4
    rw [tN, tN] at hp
    have hz := ok.2.2.2.2 u (by omega)
    have hh := r1.2.2.2.2 u (by omega)
    refine c_mo_cut _ _ ?_
    rw [ix60 (by omega) (by omega), tN]
    refine ⟨by omega, ?_⟩
    rintro M5 rfl
    refine hp _ (f1.tr (FO.m1 (by omega))) (r1.setH _ (fun q k a b c d => mu_o c) (fun x hx => ?_))
    have hx2 := r1.2.2.2.2 x hx
    have ox := (ok.2.2.2.2 x hx).2
    show mu M1 104 (60 * u + j) (cutN f v) 102 x = sFm S x ∧ mu M1 104 (60 * u + j) (cutN f v) 103 x = ((sSz S x : Nat) : Int) ∧ ∀ i, i < sSz S x → mu M1 104 (60 * u + j) (cutN f v) 104 (60 * x + i) = fu (sIt S) u (fu (sIt S u) j (cutN f v)) x i
    refine ⟨(mu_o (by decide)).trans hx2.1, (mu_o (by decide)).trans hx2.2.1, fun i hi => ?_⟩
    by_cases ex : x = u
    · rw [ex, fu_eq]
      by_cases ei : i = j
      · rw [ei, fu_eq, mu_eq]
      · rw [fu_ne ei, mu_k (by omega)]
        rw [ex] at hx2 hi
        exact hx2.2.2 i hi
    · rw [fu_ne ex, mu_k (by omega)]
      exact hx2.2.2 i hi
  · rw [if_neg c3] at hp
    exact hp M1 f1 r1
theorem c_mo_get (ok : okST S) (h : RM S M) (s f i : Int) (hp : ∀ M', FO M M' → RM (getR S s f i).2 M' → P (getR S s f i).1 M') : ClI G J_mo_get M [pR 101, pI s, pI f, pI i] P := by
  unfold getR at hp
  have no : ¬ ((0 ≤ s ∧ s ≤ 3) ∧ (0 ≤ f ∧ f ≤ 2)) → P (-2147483648) M := fun c => by
    rw [ref_bad c, if_neg (show ¬ (-2 : Int) = 0 by decide)] at hp
    exact hp M FO.rf h
  refine e_mo_get _ _ _ (c_mo_isSheet _ ⟨fun c => no (fun z => b01_0.mp c z.1), fun c => c_mo_in _ _ _ ⟨fun c2 => no (fun z => b01_0.mp c2 z.2), fun c2 => ?_⟩⟩)
  have z1 := b01_n.mp c
  have z2 := b01_n.mp c2
  obtain ⟨u, rfl⟩ : ∃ u : Nat, s = (u : Int) := ⟨s.toNat, by omega⟩
  refine c_mo_lacks ok h u (by omega) f i z2 (fun M1 f1 r1 => ⟨fun c3 => ?_, fun c3 => ?_⟩)
  · obtain ⟨e1, y1, y2, y3, y4⟩ := ref_0 c3
    rw [e1] at r1
    rw [if_pos c3] at hp
    obtain ⟨j, rfl⟩ : ∃ j : Nat, i = (j : Int) := ⟨i.toNat, by omega⟩
    rw [tN] at y3 y4
    rw [tN, tN] at hp
    have hz := ok.2.2.2.2 u (by omega)
    have hh := r1.2.2.2.2 u (by omega)
    rw [ix60 (by omega) (by omega), tN, hh.2.2 j (by omega)]
    exact ⟨by omega, hp M1 f1 r1⟩
  · rw [if_neg c3] at hp
    exact hp M1 f1 r1
theorem ix60b {a i j : Nat} (ha : a < 1000) (hi : i < 1000) (hj : j < 1000) : w32 (w32 (w32 (60 * (a : Int)) + (i : Int)) + (j : Int)) = ((60 * a + i + j : Nat) : Int) := by
  rw [ix60 ha hi, w32_s (by omega) (by omega)]
  omega
theorem c_mo_copy (ok : okST S) (h : RM S M) (s i t j n : Int) (hn64 : R32 i ∧ R32 j ∧ R32 n) (hp : ∀ M', FO M M' → RM (copyR S s i t j n).2 M' → P (copyR S s i t j n).1 M') : ClI G J_mo_copy M [pR 101, pI s, pI i, pI t, pI j, pI n] P := by
  unfold copyR at hp
  have no : ¬ ((0 ≤ s ∧ s ≤ 3) ∧ (0 ≤ t ∧ t ≤ 3)) → P (-2) M := fun c => by
    rw [if_neg c] at hp
    exact hp M FO.rf h
  refine e_mo_copy _ _ _ _ _ (c_mo_isSheet _ ⟨fun c => no (fun z => b01_0.mp c z.1), fun c => c_mo_isSheet _ ⟨fun c2 => ?_, fun c2 => no (fun z => b01_0.mp c2 z.2)⟩⟩)
  have z1 := b01_n.mp c
  have z2 := b01_n.mp c2
  rw [if_pos ⟨z1, z2⟩] at hp
  obtain ⟨u, rfl⟩ : ∃ u : Nat, s = (u : Int) := ⟨s.toNat, by omega⟩
  obtain ⟨w, rfl⟩ : ∃ w : Nat, t = (w : Int) := ⟨t.toNat, by omega⟩
  rw [tN, tN] at hp
  rw [tN, tN]
  have hu := h.2.2.2.2 u (by omega)
  have hw := h.2.2.2.2 w (by omega)
  have ou := ok.2.2.2.2 u (by omega)
  have ow := ok.2.2.2.2 w (by omega)
  have r1 := hn64.1
  have r2 := hn64.2.1
  have r3 := hn64.2.2
  unfold R32 at r1 r2 r3
  have w1 : w64 (i + n) = i + n := w64_of ⟨by omega, by omega⟩
  have w2 : w64 (j + n) = j + n := w64_of ⟨by omega, by omega⟩
  rw [hu.1, hw.1, hu.2.1, hw.2.1, w1, w2]
  have f1 : (sFm S u = -1 ∨ sFm S w = -1) → ClI G J_mo_finds M [pR 101, pI 1] (fun x M3 => P x M3) := fun c => by
    rw [if_pos c] at hp
    exact c_mo_fnd h 1 (by decide) (by decide) hp
  have f2 : ¬ (sFm S u = -1 ∨ sFm S w = -1) → sFm S u = sFm S w → ¬ ((0 ≤ i ∧ 0 ≤ n ∧ i + n ≤ (sSz S u : Int)) ∧ (0 ≤ j ∧ 0 ≤ n ∧ j + n ≤ (sSz S w : Int))) → ClI G J_mo_finds M [pR 101, pI 2] (fun x M3 => P x M3) := fun c d e => by
    rw [if_neg c, if_pos d, if_neg e] at hp
    exact c_mo_fnd h 2 (by decide) (by decide) hp
  refine ⟨⟨by omega, by omega⟩, fun c3 => f1 (Or.inl (by omega)), fun c3 => ⟨⟨by omega, by omega⟩, fun c4 => ⟨⟨by omega, by omega⟩, ⟨by omega, by omega⟩, fun c5 => ⟨fun c6 => f2 (by omega) c5 (by omega), fun c6 => ⟨fun c7 => f2 (by omega) c5 (by omega), fun c7 => ⟨fun c8 => f2 (by omega) c5 (by omega), fun c8 => ⟨⟨by omega, by omega⟩, fun c9 => f2 (by omega) c5 (by omega), fun c9 => ⟨⟨by omega, by omega⟩, fun c10 => ?_, fun c10 => f2 (by omega) c5 (by omega)⟩⟩⟩⟩⟩, fun c5 => ?_⟩, fun c4 => f1 (Or.inr (by omega))⟩⟩
  · rw [if_neg (by omega), if_pos c5, if_pos ⟨by omega, by omega⟩] at hp
    obtain ⟨i', rfl⟩ : ∃ x : Nat, i = (x : Int) := ⟨i.toNat, by omega⟩
    obtain ⟨j', rfl⟩ : ∃ x : Nat, j = (x : Int) := ⟨j.toNat, by omega⟩
    obtain ⟨n', rfl⟩ : ∃ x : Nat, n = (x : Int) := ⟨n.toNat, by omega⟩
    rw [tN, tN, tN] at hp
    have lp2 : ∀ (M1 : MT), (∀ q k, q ≠ 105 → M1 q k = M q k) → (∀ k, k < n' → M1 105 k = sIt S u (i' + k)) → ∀ (d k : Nat) (M2 : MT), k + d = n' → (∀ q x, ¬ (q = 104 ∧ 60 * w + j' ≤ x ∧ x < 60 * w + j' + k) → M2 q x = M1 q x) → (∀ x, x < k → M2 104 (60 * w + j' + x) = sIt S u (i' + x)) → WpI G J_mo_copy 157 [(0, pR 101), (3, pI (w : Int)), (4, pI (j' : Int)), (5, pI (n' : Int)), (6, pI (k : Int))] [] M2 P := by
      intro M1 g1 g2 d
      induction d with
      | zero =>
        intro k M2 hk q1 q2
        have hke : k = n' := by omega
        subst hke
        refine b_mo_copy_157 _ _ _ _ ⟨fun _ => hp M2 (fun q x a => (q1 q x (by omega)).trans (g1 q x (by omega))) (h.setH _ (fun q x a b c d => (q1 q x (by omega)).trans (g1 q x d)) (fun x hx => ?_)), fun c => absurd c (by omega)⟩
        have hx2 := h.2.2.2.2 x hx
        have ox := (ok.2.2.2.2 x hx).2
        show M2 102 x = sFm S x ∧ M2 103 x = ((sSz S x : Nat) : Int) ∧ ∀ y, y < sSz S x → M2 104 (60 * x + y) = fu (sIt S) w (cpN (sIt S u) (sIt S w) i' j' k) x y
        refine ⟨((q1 _ _ (by omega)).trans (g1 _ _ (by omega))).trans hx2.1, ((q1 _ _ (by omega)).trans (g1 _ _ (by omega))).trans hx2.2.1, fun y hy => ?_⟩
        by_cases ex : x = w
        · rw [ex, fu_eq]
          unfold cpN
          by_cases cy : j' ≤ y ∧ y < j' + k
          · rw [if_pos cy, show 60 * w + y = 60 * w + j' + (y - j') by omega]
            exact q2 _ (by omega)
          · rw [if_neg cy, q1 _ _ (by omega), g1 _ _ (by omega)]
            rw [ex] at hx2 hy
            exact hx2.2.2 y hy
        · rw [fu_ne ex, q1 _ _ (by omega), g1 _ _ (by omega)]
          exact hx2.2.2 y hy
      | succ d ih =>
        intro k M2 hk q1 q2
        refine b_mo_copy_157 _ _ _ _ ⟨fun c => absurd c (by omega), fun _ => ?_⟩
        rw [ix60b (by omega) (by omega) (by omega), tN, tN, q1 105 k (by omega), g2 k (by omega), wi (by omega)]
        refine ⟨⟨by omega, by omega⟩, by omega, ?_⟩
        rintro M3 rfl
        refine ih (k + 1) _ (by omega) (fun q x a => ?_) (fun x hx => ?_)
        · rw [← q1 q x (by omega)]
          by_cases e : q = 104
          · rw [e, mu_k (by omega)]
          · rw [mu_o e]
        · by_cases ex : x = k
          · rw [ex, mu_eq]
          · rw [mu_k (by omega)]
            exact q2 x (by omega)
    have lp1 : ∀ (d k : Nat) (M1 : MT), k + d = n' → (∀ q x, q ≠ 105 → M1 q x = M q x) → (∀ x, x < k → M1 105 x = sIt S u (i' + x)) → WpI G J_mo_copy 120 [(0, pR 101), (1, pI (u : Int)), (2, pI (i' : Int)), (3, pI (w : Int)), (4, pI (j' : Int)), (5, pI (n' : Int)), (6, pI (k : Int))] [] M1 P := by
      intro d
      induction d with
      | zero =>
        intro k M1 hk g1 g2
        exact b_mo_copy_120 _ _ _ _ _ _ ⟨fun _ => lp2 M1 g1 (fun x hx => g2 x (by omega)) n' 0 M1 (by omega) (fun _ _ _ => rfl) (fun x hx => absurd hx (Nat.not_lt_zero x)), fun c => absurd c (by omega)⟩
      | succ d ih =>
        intro k M1 hk g1 g2
        refine b_mo_copy_120 _ _ _ _ _ _ ⟨fun c => absurd c (by omega), fun _ => ?_⟩
        have e1 : M1 104 (60 * u + i' + k) = sIt S u (i' + k) := by
          rw [g1 _ _ (by decide), Nat.add_assoc]
          exact hu.2.2 (i' + k) (by omega)
        rw [ix60b (by omega) (by omega) (by omega), tN, tN, e1, wi (by omega)]
        refine ⟨by omega, ⟨by omega, by omega⟩, ?_⟩
        rintro M3 rfl
        refine ih (k + 1) _ (by omega) (fun q x a => (mu_o a).trans (g1 q x a)) (fun x hx => ?_)
        by_cases ex : x = k
        · rw [ex, mu_eq]
        · rw [mu_k ex]
          exact g2 x (by omega)
    exact lp1 n' 0 M (by omega) (fun _ _ _ => rfl) (fun x hx => absurd hx (Nat.not_lt_zero x))
  · rw [if_neg (by omega), if_neg c5] at hp
    exact c_mo_fnd h 4 (by decide) (by decide) hp
theorem c_mo_read (ok : okST S) (h : RM S M) (s : Int) (hp : ∀ M', FO M M' → RM (readR S s).2 M' → P (readR S s).1 M') : ClI G J_mo_read M [pR 101, pI s] P := by
  unfold readR at hp
  refine e_mo_read _ (c_mo_isSheet _ ⟨fun c => ?_, fun c => ?_⟩)
  · have z1 := b01_n.mp c
    rw [if_pos z1] at hp
    obtain ⟨u, rfl⟩ : ∃ u : Nat, s = (u : Int) := ⟨s.toNat, by omega⟩
    rw [tN] at hp ⊢
    have hh := h.2.2.2.2 u (by omega)
    have hz := ok.2.2.2.2 u (by omega)
    rw [hh.1]
    refine ⟨⟨by omega, by omega⟩, fun c2 => ?_, fun c2 => ?_⟩
    · rw [if_neg (by omega)] at hp
      have lp : ∀ (d k : Nat) (M1 : MT) (S1 : ST), k + d = sSz S u / 4 → okST S1 → RM S1 M1 → FO M M1 → sSz S1 = sSz S → (∀ M', FO M M' → RM (readF u d k S1).2 M' → P (readF u d k S1).1 M') → WpI G J_mo_read 29 [(0, pR 101), (1, pI (u : Int)), (2, pI (k : Int)), (3, pI 1)] [] M1 P := by
        intro d
        induction d with
        | zero =>
          intro k M1 S1 hk ok1 r1 f1 hs hq
          have hh1 := r1.2.2.2.2 u (by omega)
          rw [hs] at hh1
          refine b_mo_read_29 _ _ _ ⟨fun c => absurd c (by decide), fun _ => ⟨⟨by omega, by omega⟩, ?_⟩⟩
          rw [tN, hh1.2.1, ix4 (by omega), w32_s (by omega) (by omega)]
          exact ⟨fun _ => hq M1 f1 r1, fun c => absurd c (by omega)⟩
        | succ d ih =>
          intro k M1 S1 hk ok1 r1 f1 hs hq
          have hh1 := r1.2.2.2.2 u (by omega)
          rw [hs] at hh1
          unfold readF at hq
          refine b_mo_read_29 _ _ _ ⟨fun c => absurd c (by decide), fun _ => ⟨⟨by omega, by omega⟩, ?_⟩⟩
          rw [tN, hh1.2.1, ix4 (by omega), w32_s (x := ((4 * k : Nat) : Int) + 4) (by omega) (by omega), ix60 (by omega) (by omega), wi (by omega), w2 (by omega), w3 (by omega), tN, tN, tN, tN]
          have i0 := hh1.2.2 (4 * k) (by omega)
          have i1 := hh1.2.2 (4 * k + 1) (by omega)
          have i2 := hh1.2.2 (4 * k + 2) (by omega)
          have i3 := hh1.2.2 (4 * k + 3) (by omega)
          rw [← Nat.add_assoc] at i1 i2 i3
          rw [i0, i1, i2, i3]
          refine ⟨fun c => absurd c (by omega), fun _ => ⟨by omega, by omega, by omega, by omega, c_mo_loan ok1 r1 _ _ _ _ (fun M2 f2 _ r2 => ⟨fun c => ?_, fun c => ?_⟩)⟩⟩
          · rw [if_pos c] at hq
            rw [Int.add_zero, wn (by omega)]
            refine b_mo_read_29 _ _ _ ⟨fun _ => hq M2 (f1.tr f2) r2, fun c => absurd rfl c⟩
          · rw [if_neg (by omega)] at hq
            rw [wi (by omega)]
            exact ih (k + 1) M2 _ (by omega) (ok_loan ok1 _ _ _ _) r2 (f1.tr f2) ((loan_sh S1 _ _ _ _).2.1.trans hs) hq
      exact lp (sSz S u / 4) 0 M S (by omega) ok h FO.rf rfl hp
    · rw [if_pos (by omega)] at hp
      exact c_mo_fnd h 1 (by decide) (by decide) hp
  · rw [if_neg (b01_0.mp c)] at hp
    exact hp M FO.rf h
end CMSH
