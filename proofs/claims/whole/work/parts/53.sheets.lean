/-! sheets: what is done, class and model -/
def sheetR (S : ST) (s f n : Int) : Int × ST := if (0 ≤ s ∧ s ≤ 3) ∧ (0 ≤ f ∧ f ≤ 2) ∧ n ≤ 60 then (if n < 0 then (-15, setF S 5) else (n, setH S (fu (sFm S) s.toNat f, fu (sSz S) s.toNat n.toNat, fu (sIt S) s.toNat (fun _ => 0)))) else (-2, S)
def loseR (S : ST) (s : Int) : Int × ST := if 0 ≤ s ∧ s ≤ 3 then (if sFm S s.toNat = -1 then (-11, setF S 1) else ((sSz S s.toNat : Int), setH S (fu (sFm S) s.toNat (-1), sSz S, sIt S))) else (-2, S)
def refR (S : ST) (s f i : Int) : Int × ST := if (0 ≤ s ∧ s ≤ 3) ∧ (0 ≤ f ∧ f ≤ 2) then (if sFm S s.toNat = -1 then (-11, setF S 1) else if sFm S s.toNat = f then (if 0 ≤ i ∧ i < (sSz S s.toNat : Int) then (0, S) else (-12, setF S 2)) else (-13, setF S 3)) else (-2, S)
def layR (S : ST) (s f i v : Int) : Int × ST := if (refR S s f i).1 = 0 then (1, setH S (sFm S, sSz S, fu (sIt S) s.toNat (fu (sIt S s.toNat) i.toNat (cutN f v)))) else refR S s f i
def getR (S : ST) (s f i : Int) : Int × ST := if (refR S s f i).1 = 0 then (sIt S s.toNat i.toNat, S) else (-2147483648, (refR S s f i).2)
def cpN (a b : Nat → Int) (i j n : Nat) (k : Nat) : Int := if j ≤ k ∧ k < j + n then a (i + (k - j)) else b k
def copyR (S : ST) (s i t j n : Int) : Int × ST := if (0 ≤ s ∧ s ≤ 3) ∧ (0 ≤ t ∧ t ≤ 3) then (if sFm S s.toNat = -1 ∨ sFm S t.toNat = -1 then (-11, setF S 1) else if sFm S s.toNat = sFm S t.toNat then (if (0 ≤ i ∧ 0 ≤ n ∧ i + n ≤ (sSz S s.toNat : Int)) ∧ (0 ≤ j ∧ 0 ≤ n ∧ j + n ≤ (sSz S t.toNat : Int)) then (1, setH S (sFm S, sSz S, fu (sIt S) t.toNat (cpN (sIt S s.toNat) (sIt S t.toNat) i.toNat j.toNat n.toNat))) else (-12, setF S 2)) else (-14, setF S 4)) else (-2, S)
def readF (s : Nat) : Nat → Nat → ST → Int × ST
  | 0, k, S => ((k : Int), S)
  | d + 1, k, S => if (loanR S (sIt S s (4 * k)) (sIt S s (4 * k + 1)) (sIt S s (4 * k + 2)) (sIt S s (4 * k + 3))).1 < 0 then ((k : Int), (loanR S (sIt S s (4 * k)) (sIt S s (4 * k + 1)) (sIt S s (4 * k + 2)) (sIt S s (4 * k + 3))).2) else readF s d (k + 1) (loanR S (sIt S s (4 * k)) (sIt S s (4 * k + 1)) (sIt S s (4 * k + 2)) (sIt S s (4 * k + 3))).2
def readR (S : ST) (s : Int) : Int × ST := if 0 ≤ s ∧ s ≤ 3 then (if sFm S s.toNat = -1 then (-11, setF S 1) else readF s.toNat (sSz S s.toNat / 4) 0 S) else (-2, S)
theorem ok_F {S : ST} (ok : okST S) (f : Int) : okST (setF S f) := ok
theorem loan_sh (S : ST) (y t b n : Int) : sFm (loanR S y t b n).2 = sFm S ∧ sSz (loanR S y t b n).2 = sSz S ∧ sIt (loanR S y t b n).2 = sIt S := by
  unfold loanR
  split
  · split <;> exact ⟨rfl, rfl, rfl⟩
  · exact ⟨rfl, rfl, rfl⟩
theorem ok_sheet {S : ST} (ok : okST S) (s f n : Int) : okST (sheetR S s f n).2 := by
  unfold sheetR
  split
  · rename_i c
    split
    · exact ok
    · refine ⟨ok.1, ok.2.1, ok.2.2.1, ok.2.2.2.1, fun u hu => ?_⟩
      show (-1 ≤ fu (sFm S) s.toNat f u ∧ fu (sFm S) s.toNat f u ≤ 2) ∧ fu (sSz S) s.toNat n.toNat u ≤ 60
      by_cases eu : u = s.toNat
      · rw [eu, fu_eq, fu_eq]
        omega
      · rw [fu_ne eu, fu_ne eu]
        exact ok.2.2.2.2 u hu
  · exact ok
theorem ok_lose {S : ST} (ok : okST S) (s : Int) : okST (loseR S s).2 := by
  unfold loseR
  split
  · split
    · exact ok
    · refine ⟨ok.1, ok.2.1, ok.2.2.1, ok.2.2.2.1, fun u hu => ?_⟩
      show (-1 ≤ fu (sFm S) s.toNat (-1) u ∧ fu (sFm S) s.toNat (-1) u ≤ 2) ∧ sSz S u ≤ 60
      by_cases eu : u = s.toNat
      · rw [eu, fu_eq]
        exact ⟨by omega, (ok.2.2.2.2 _ (eu ▸ hu)).2⟩
      · rw [fu_ne eu]
        exact ok.2.2.2.2 u hu
  · exact ok
theorem ok_ref {S : ST} (ok : okST S) (s f i : Int) : okST (refR S s f i).2 := by
  unfold refR
  split
  · split
    · exact ok
    · split
      · split
        · exact ok
        · exact ok
      · exact ok
  · exact ok
theorem ok_lay {S : ST} (ok : okST S) (s f i v : Int) : okST (layR S s f i v).2 := by
  unfold layR
  split
  · exact ok
  · exact ok_ref ok s f i
theorem ok_get {S : ST} (ok : okST S) (s f i : Int) : okST (getR S s f i).2 := by
  unfold getR
  split
  · exact ok
  · exact ok_ref ok s f i
theorem ok_copy {S : ST} (ok : okST S) (s i t j n : Int) : okST (copyR S s i t j n).2 := by
  unfold copyR
  split
  · split
    · exact ok
    · split
      · split
        · exact ok
        · exact ok
      · exact ok
  · exact ok
theorem ok_readF (s : Nat) : ∀ (d k : Nat) (S : ST), okST S → okST (readF s d k S).2
  | 0, _, _, ok => ok
  | d + 1, k, S, ok => by
    unfold readF
    split
    · exact ok_loan ok _ _ _ _
    · exact ok_readF s d (k + 1) _ (ok_loan ok _ _ _ _)
theorem ok_read {S : ST} (ok : okST S) (s : Int) : okST (readR S s).2 := by
  unfold readR
  split
  · split
    · exact ok
    · exact ok_readF _ _ _ _ ok
  · exact ok
theorem RC.setF {S : ST} (ok : okST S) {M : MT} (h : RC S M) (f : Int) : RC (setF S f) (mu M 0 7 f) :=
  ⟨h.1.fr ok.n.1 (fun q k a => mu_o (by omega)), h.2.1.fr ok.n.2.1 (fun q k a => mu_o (by omega)), h.2.2.1.fr ok.n.2.2 (fun q k a => mu_o (by omega)), ⟨(mu_k (by decide)).trans h.2.2.2.1.1, mu_eq _ _ _ _⟩, RCs.fr (S := S) h.2.2.2.2.1 (fun q k a => mu_o (by omega)), h.2.2.2.2.2.fr ok.d (fun q k a => mu_o (by omega))⟩
theorem RC.setH {S : ST} (ok : okST S) {M M' : MT} (h : RC S M) (x : SHT) (f : ∀ q k, ¬ (93 ≤ q ∧ q ≤ 100) → M' q k = M q k) (hs : RCs (setH S x) M') : RC (setH S x) M' :=
  ⟨h.1.fr ok.n.1 (fun q k a => f q k (by omega)), h.2.1.fr ok.n.2.1 (fun q k a => f q k (by omega)), h.2.2.1.fr ok.n.2.2 (fun q k a => f q k (by omega)), ⟨(f _ _ (by omega)).trans h.2.2.2.1.1, (f _ _ (by omega)).trans h.2.2.2.1.2⟩, hs, h.2.2.2.2.2.fr ok.d (fun q k a => f q k (by omega))⟩
section CSHE
variable {G : GT} {M : MT} {S : ST} {P : Int → MT → Prop}
theorem c_tl_fnd (ok : okST S) (h : RC S M) (f : Int) (h0 : 0 ≤ f) (h1 : f ≤ 100) (hp : ∀ M', FX M M' → RC (setF S f) M' → P (-10 - f) M') : ClI G J_tl_found M [pR 0, pI f] P :=
  c_tl_found f h0 h1 (hp _ (fun q k a => mu_o (by omega)) (h.setF ok f))
theorem c_tl_sheet (ok : okST S) (h : RC S M) (s f n : Int) (hp : ∀ M', FX M M' → RC (sheetR S s f n).2 M' → P (sheetR S s f n).1 M') : ClI G J_tl_sheet M [pR 0, pI s, pI f, pI n] P := by
  unfold sheetR at hp
  have no : ¬ ((0 ≤ s ∧ s ≤ 3) ∧ (0 ≤ f ∧ f ≤ 2) ∧ n ≤ 60) → P (-2) M := fun c => by
    rw [if_neg c] at hp
    exact hp M FX.rf h
  refine e_tl_sheet _ _ _ (c_tl_isSheet _ ⟨fun c => no (fun z => b01_0.mp c z.1), fun c => c_tl_isForm _ ⟨fun c2 => no (fun z => b01_0.mp c2 z.2.1), fun c2 => ⟨fun c3 => ?_, fun c3 => no (fun z => by omega)⟩⟩⟩)
  have z1 := b01_n.mp c
  have z2 := b01_n.mp c2
  rw [if_pos ⟨z1, z2, c3⟩] at hp
  refine ⟨fun c4 => ?_, fun c4 => ?_⟩
  · rw [if_neg (by omega)] at hp
    obtain ⟨u, rfl⟩ : ∃ u : Nat, s = (u : Int) := ⟨s.toNat, by omega⟩
    obtain ⟨m, rfl⟩ : ∃ m : Nat, n = (m : Int) := ⟨n.toNat, by omega⟩
    rw [tN, tN] at hp
    rw [tN]
    refine ⟨⟨by omega, by omega⟩, c_sh_begin _ (k_sheets u (by omega)).2 _ _ (fun M1 f1 q1 q2 q3 => ?_)⟩
    refine hp M1 (fun q k a => f1 q (nm2 (by omega) (by omega)) k) (h.setH ok _ (fun q k a => f1 q (nm2 (by omega) (by omega)) k) (fun x hx => ?_))
    show M1 (93 + 2 * x) 1 = fu (sFm S) u f x ∧ M1 (93 + 2 * x) 2 = ((fu (sSz S) u m x : Nat) : Int) ∧ ∀ i, i < fu (sSz S) u m x → M1 (93 + 2 * x + 1) i = fu (sIt S) u (fun _ => 0) x i
    by_cases ex : x = u
    · rw [ex, fu_eq, fu_eq, fu_eq]
      exact ⟨q1, q2, fun i hi => q3 i (by omega)⟩
    · rw [fu_ne ex, fu_ne ex, fu_ne ex]
      have hh := h.2.2.2.2.1 x hx
      exact ⟨(f1 _ (nm2 (by omega) (by omega)) _).trans hh.1, (f1 _ (nm2 (by omega) (by omega)) _).trans hh.2.1, fun i hi => (f1 _ (nm2 (by omega) (by omega)) _).trans (hh.2.2 i hi)⟩
  · rw [if_pos c4] at hp
    exact c_tl_fnd ok h 5 (by decide) (by decide) hp
theorem c_tl_lose (ok : okST S) (h : RC S M) (s : Int) (hp : ∀ M', FX M M' → RC (loseR S s).2 M' → P (loseR S s).1 M') : ClI G J_tl_lose M [pR 0, pI s] P := by
  unfold loseR at hp
  refine e_tl_lose _ (c_tl_isSheet _ ⟨fun c => ?_, fun c => ?_⟩)
  · have z1 := b01_n.mp c
    rw [if_pos z1] at hp
    obtain ⟨u, rfl⟩ : ∃ u : Nat, s = (u : Int) := ⟨s.toNat, by omega⟩
    rw [tN] at hp ⊢
    have hh := h.2.2.2.2.1 u (by omega)
    refine ⟨⟨by omega, by omega⟩, c_sh_isLost _ (k_sheets u (by omega)).2 ⟨fun c2 => ?_, fun c2 => ?_⟩⟩
    · have z2 := b01_0.mp c2
      rw [hh.1] at z2
      rw [if_neg z2] at hp
      rintro M3 rfl
      rw [mu_k (by decide), hh.2.1]
      refine hp _ (fun q k a => mu_o (by omega)) (h.setH ok _ (fun q k a => mu_o (by omega)) (fun x hx => ?_))
      have hx2 := h.2.2.2.2.1 x hx
      show mu M (93 + 2 * u) 1 (-1) (93 + 2 * x) 1 = fu (sFm S) u (-1) x ∧ mu M (93 + 2 * u) 1 (-1) (93 + 2 * x) 2 = ((sSz S x : Nat) : Int) ∧ ∀ i, i < sSz S x → mu M (93 + 2 * u) 1 (-1) (93 + 2 * x + 1) i = sIt S x i
      refine ⟨?_, (mu_k (by decide)).trans hx2.2.1, fun i hi => (mu_o (by omega)).trans (hx2.2.2 i hi)⟩
      by_cases ex : x = u
      · rw [ex, fu_eq, mu_eq]
      · rw [fu_ne ex, mu_o (by omega)]
        exact hx2.1
    · have z2 := b01_n.mp c2
      rw [hh.1] at z2
      rw [if_pos z2] at hp
      exact c_tl_fnd ok h 1 (by decide) (by decide) hp
  · rw [if_neg (b01_0.mp c)] at hp
    exact hp M FX.rf h
theorem c_tl_refusalOfItem (ok : okST S) (h : RC S M) (s f i : Int) (hp : ∀ M', FX M M' → RC (refR S s f i).2 M' → P (refR S s f i).1 M') : ClI G J_tl_refusalOfItem M [pR 0, pI s, pI f, pI i] P := by
  unfold refR at hp
  have no : ¬ ((0 ≤ s ∧ s ≤ 3) ∧ (0 ≤ f ∧ f ≤ 2)) → P (-2) M := fun c => by
    rw [if_neg c] at hp
    exact hp M FX.rf h
  refine e_tl_refusalOfItem _ _ _ (c_tl_isSheet _ ⟨fun c => no (fun z => b01_0.mp c z.1), fun c => c_tl_isForm _ ⟨fun c2 => ?_, fun c2 => no (fun z => b01_0.mp c2 z.2)⟩⟩)
  have z1 := b01_n.mp c
  have z2 := b01_n.mp c2
  rw [if_pos ⟨z1, z2⟩] at hp
  obtain ⟨u, rfl⟩ : ∃ u : Nat, s = (u : Int) := ⟨s.toNat, by omega⟩
  rw [tN] at hp ⊢
  have hh := h.2.2.2.2.1 u (by omega)
  have hz := ok.2.2.2.2 u (by omega)
  refine ⟨⟨by omega, by omega⟩, c_sh_isLost _ (k_sheets u (by omega)).2 ⟨fun c3 => ?_, fun c3 => ?_⟩⟩
  · have z3 := b01_0.mp c3
    rw [hh.1] at z3
    rw [if_neg z3] at hp
    rw [hh.1, hh.2.1, w32_s (by omega) (by omega)]
    refine ⟨fun c4 => ?_, fun c4 => ?_⟩
    · rw [if_pos c4] at hp
      refine c_tl_within _ _ _ ⟨fun c5 => ?_, fun c5 => ?_⟩
      · rw [if_neg (fun z => b01_0.mp c5 (by omega))] at hp
        exact c_tl_fnd ok h 2 (by decide) (by decide) hp
      · have z5 := b01_n.mp c5
        rw [if_pos (by omega)] at hp
        exact hp M FX.rf h
    · rw [if_neg c4] at hp
      exact c_tl_fnd ok h 3 (by decide) (by decide) hp
  · have z3 := b01_n.mp c3
    rw [hh.1] at z3
    rw [if_pos z3] at hp
    exact c_tl_fnd ok h 1 (by decide) (by decide) hp
theorem ref_0 {s f i : Int} (h : (refR S s f i).1 = 0) : (refR S s f i).2 = S ∧ (0 ≤ s ∧ s ≤ 3) ∧ (0 ≤ f ∧ f ≤ 2) ∧ sFm S s.toNat = f ∧ (0 ≤ i ∧ i < (sSz S s.toNat : Int)) := by
  unfold refR at h ⊢
  split at h
  · rename_i c
    split at h
    · exact absurd (show (-11 : Int) = 0 from h) (by decide)
    · rename_i c2
      split at h
      · rename_i c3
        split at h
        · rename_i c4
          rw [if_pos c, if_neg c2, if_pos c3, if_pos c4]
          exact ⟨rfl, c.1, c.2, c3, c4⟩
        · exact absurd (show (-12 : Int) = 0 from h) (by decide)
      · exact absurd (show (-13 : Int) = 0 from h) (by decide)
  · exact absurd (show (-2 : Int) = 0 from h) (by decide)
theorem c_tl_lay (ok : okST S) (h : RC S M) (s f i v : Int) (hp : ∀ M', FX M M' → RC (layR S s f i v).2 M' → P (layR S s f i v).1 M') : ClI G J_tl_lay M [pR 0, pI s, pI f, pI i, pI v] P := by
  unfold layR at hp
  refine e_tl_lay _ _ _ _ (c_tl_refusalOfItem ok h s f i (fun M1 f1 r1 => ⟨fun c => ?_, fun c => ?_⟩))
  · obtain ⟨e1, z1, z2, z3, z4⟩ := ref_0 c
    rw [e1] at r1
    rw [if_pos c] at hp
    obtain ⟨u, rfl⟩ : ∃ u : Nat, s = (u : Int) := ⟨s.toNat, by omega⟩
    obtain ⟨j, rfl⟩ : ∃ j : Nat, i = (j : Int) := ⟨i.toNat, by omega⟩
    rw [tN] at z3 z4
    rw [tN, tN] at hp
    rw [tN]
    have hz := ok.2.2.2.2 u (by omega)
    have hh := r1.2.2.2.2.1 u (by omega)
    refine ⟨⟨by omega, by omega⟩, c_sh_put _ (k_sheets u (by omega)).2 j (by omega) v ?_⟩
    rw [hh.1, z3]
    refine hp _ (f1.tr (fun q k a => mu_o (by omega))) (r1.setH ok _ (fun q k a => mu_o (by omega)) (fun x hx => ?_))
    have hx2 := r1.2.2.2.2.1 x hx
    show mu M1 (93 + 2 * u + 1) j (cutN f v) (93 + 2 * x) 1 = sFm S x ∧ mu M1 (93 + 2 * u + 1) j (cutN f v) (93 + 2 * x) 2 = ((sSz S x : Nat) : Int) ∧ ∀ i, i < sSz S x → mu M1 (93 + 2 * u + 1) j (cutN f v) (93 + 2 * x + 1) i = fu (sIt S) u (fu (sIt S u) j (cutN f v)) x i
    refine ⟨(mu_o (by omega)).trans hx2.1, (mu_o (by omega)).trans hx2.2.1, fun i hi => ?_⟩
    by_cases ex : x = u
    · rw [ex, fu_eq]
      by_cases ei : i = j
      · rw [ei, fu_eq, mu_eq]
      · rw [fu_ne ei, mu_k ei]
        rw [ex] at hx2 hi
        exact hx2.2.2 i hi
    · rw [fu_ne ex, mu_o (by omega)]
      exact hx2.2.2 i hi
  · rw [if_neg c] at hp
    exact hp M1 f1 r1
theorem c_tl_get (ok : okST S) (h : RC S M) (s f i : Int) (hp : ∀ M', FX M M' → RC (getR S s f i).2 M' → P (getR S s f i).1 M') : ClI G J_tl_get M [pR 0, pI s, pI f, pI i] P := by
  unfold getR at hp
  refine e_tl_get _ _ _ (c_tl_refusalOfItem ok h s f i (fun M1 f1 r1 => ⟨fun c => ?_, fun c => ?_⟩))
  · obtain ⟨e1, z1, z2, z3, z4⟩ := ref_0 c
    rw [e1] at r1
    rw [if_pos c] at hp
    obtain ⟨u, rfl⟩ : ∃ u : Nat, s = (u : Int) := ⟨s.toNat, by omega⟩
    obtain ⟨j, rfl⟩ : ∃ j : Nat, i = (j : Int) := ⟨i.toNat, by omega⟩
    rw [tN] at z3 z4
    rw [tN, tN] at hp
    rw [tN, tN]
    have hz := ok.2.2.2.2 u (by omega)
    have hh := r1.2.2.2.2.1 u (by omega)
    rw [hh.2.2 j (by omega)]
    exact ⟨⟨by omega, by omega⟩, ⟨by omega, by omega⟩, hp M1 f1 r1⟩
  · rw [if_neg c] at hp
    exact hp M1 f1 r1
theorem c_tl_copy (ok : okST S) (h : RC S M) (s i t j n : Int) (hp : ∀ M', FX M M' → RC (copyR S s i t j n).2 M' → P (copyR S s i t j n).1 M') : ClI G J_tl_copy M [pR 0, pI s, pI i, pI t, pI j, pI n] P := by
  unfold copyR at hp
  have no : ¬ ((0 ≤ s ∧ s ≤ 3) ∧ (0 ≤ t ∧ t ≤ 3)) → P (-2) M := fun c => by
    rw [if_neg c] at hp
    exact hp M FX.rf h
  refine e_tl_copy _ _ _ _ _ (c_tl_isSheet _ ⟨fun c => no (fun z => b01_0.mp c z.1), fun c => c_tl_isSheet _ ⟨fun c2 => ?_, fun c2 => no (fun z => b01_0.mp c2 z.2)⟩⟩)
  have z1 := b01_n.mp c
  have z2 := b01_n.mp c2
  rw [if_pos ⟨z1, z2⟩] at hp
  obtain ⟨u, rfl⟩ : ∃ u : Nat, s = (u : Int) := ⟨s.toNat, by omega⟩
  obtain ⟨w, rfl⟩ : ∃ w : Nat, t = (w : Int) := ⟨t.toNat, by omega⟩
  rw [tN, tN] at hp
  rw [tN, tN]
  have hu := h.2.2.2.2.1 u (by omega)
  have hw := h.2.2.2.2.1 w (by omega)
  have ou := ok.2.2.2.2 u (by omega)
  have ow := ok.2.2.2.2 w (by omega)
  refine ⟨⟨by omega, by omega⟩, ⟨by omega, by omega⟩, c_sh_isLost _ (k_sheets u (by omega)).2 ⟨fun c3 => ?_, fun c3 => c_sh_isLost _ (k_sheets w (by omega)).2 ⟨fun c4 => ?_, fun c4 => ?_⟩⟩⟩
  · have z3 := b01_n.mp c3
    rw [hu.1] at z3
    rw [if_pos (Or.inl z3)] at hp
    exact c_tl_fnd ok h 1 (by decide) (by decide) hp
  · have z3 := b01_0.mp c3
    have z4 := b01_0.mp c4
    rw [hu.1] at z3
    rw [hw.1] at z4
    rw [if_neg (fun z => z.elim z3 z4)] at hp
    rw [hu.1, hw.1]
    refine ⟨fun c5 => ?_, fun c5 => ?_⟩
    · rw [if_pos c5] at hp
      refine c_sh_hasSpan _ (k_sheets u (by omega)).2 _ _ _ hu.2.1 ou.2 ⟨fun c6 => ?_, fun c6 => c_sh_hasSpan _ (k_sheets w (by omega)).2 _ _ _ hw.2.1 ow.2 ⟨fun c7 => ?_, fun c7 => ?_⟩⟩
      · rw [if_neg (fun z => b01_0.mp c6 z.1)] at hp
        exact c_tl_fnd ok h 2 (by decide) (by decide) hp
      · have z6 := b01_n.mp c6
        have z7 := b01_n.mp c7
        rw [if_pos ⟨z6, z7⟩] at hp
        refine ⟨⟨⟨by omega, by omega, by omega⟩, by omega, by omega⟩, ?_⟩
        rintro M7 rfl
        obtain ⟨i', rfl⟩ : ∃ x : Nat, i = (x : Int) := ⟨i.toNat, by omega⟩
        obtain ⟨j', rfl⟩ : ∃ x : Nat, j = (x : Int) := ⟨j.toNat, by omega⟩
        obtain ⟨n', rfl⟩ : ∃ x : Nat, n = (x : Int) := ⟨n.toNat, by omega⟩
        rw [tN, tN, tN] at hp
        have fr : ∀ q k, ¬ q = 93 + 2 * w + 1 → mcp M (93 + 2 * u + 1) (93 + 2 * w + 1) (i' : Int) (j' : Int) (n' : Int) q k = M q k := fun q k a => by
          unfold mcp
          rw [if_neg (fun z => a z.1)]
        refine hp _ (fun q k a => fr q k (by omega)) (h.setH ok _ (fun q k a => fr q k (by omega)) (fun x hx => ?_))
        have hx2 := h.2.2.2.2.1 x hx
        show mcp M (93 + 2 * u + 1) (93 + 2 * w + 1) (i' : Int) (j' : Int) (n' : Int) (93 + 2 * x) 1 = sFm S x ∧ mcp M (93 + 2 * u + 1) (93 + 2 * w + 1) (i' : Int) (j' : Int) (n' : Int) (93 + 2 * x) 2 = ((sSz S x : Nat) : Int) ∧ ∀ k, k < sSz S x → mcp M (93 + 2 * u + 1) (93 + 2 * w + 1) (i' : Int) (j' : Int) (n' : Int) (93 + 2 * x + 1) k = fu (sIt S) w (cpN (sIt S u) (sIt S w) i' j' n') x k
        refine ⟨(fr _ _ (by omega)).trans hx2.1, (fr _ _ (by omega)).trans hx2.2.1, fun k hk => ?_⟩
        by_cases ex : x = w
        · rw [ex, fu_eq]
          unfold mcp cpN
          rw [tN, tN, tN]
          rw [ex] at hx2 hk
          by_cases ck : j' ≤ k ∧ k < j' + n'
          · rw [if_pos ⟨rfl, ck⟩, if_pos ck]
            exact hu.2.2 _ (by omega)
          · rw [if_neg (fun z => ck z.2), if_neg ck]
            exact hx2.2.2 k hk
        · rw [fu_ne ex, fr _ _ (by omega)]
          exact hx2.2.2 k hk
      · rw [if_neg (fun z => b01_0.mp c7 z.2)] at hp
        exact c_tl_fnd ok h 2 (by decide) (by decide) hp
    · rw [if_neg c5] at hp
      exact c_tl_fnd ok h 4 (by decide) (by decide) hp
  · have z4 := b01_n.mp c4
    rw [hw.1] at z4
    rw [if_pos (Or.inr z4)] at hp
    exact c_tl_fnd ok h 1 (by decide) (by decide) hp
theorem c_tl_read (ok : okST S) (h : RC S M) (s : Int) (hp : ∀ M', FX M M' → RC (readR S s).2 M' → P (readR S s).1 M') : ClI G J_tl_read M [pR 0, pI s] P := by
  unfold readR at hp
  refine e_tl_read _ (c_tl_isSheet _ ⟨fun c => ?_, fun c => ?_⟩)
  · have z1 := b01_n.mp c
    rw [if_pos z1] at hp
    obtain ⟨u, rfl⟩ : ∃ u : Nat, s = (u : Int) := ⟨s.toNat, by omega⟩
    rw [tN] at hp ⊢
    have hh := h.2.2.2.2.1 u (by omega)
    have hz := ok.2.2.2.2 u (by omega)
    refine ⟨⟨by omega, by omega⟩, c_sh_isLost _ (k_sheets u (by omega)).2 ⟨fun c2 => ?_, fun c2 => ?_⟩⟩
    · have z2 := b01_0.mp c2
      rw [hh.1] at z2
      rw [if_neg z2] at hp
      have td4 : Int.tdiv ((sSz S u : Nat) : Int) 4 = ((sSz S u / 4 : Nat) : Int) := td (sSz S u) 4
      rw [hh.2.1, td4, wn (by omega)]
      have lp : ∀ (d k : Nat) (M1 : MT) (S1 : ST), k + d = sSz S u / 4 → okST S1 → RC S1 M1 → FX M M1 → sSz S1 = sSz S → (∀ M', FX M M' → RC (readF u d k S1).2 M' → P (readF u d k S1).1 M') → WpI G J_tl_read 40 [(0, pR 0), (2, pR (93 + 2 * u)), (3, pI ((sSz S u / 4 : Nat) : Int)), (4, pI (k : Int))] [] M1 P := by
        intro d
        induction d with
        | zero =>
          intro k M1 S1 hk ok1 r1 f1 hs hq
          refine b_tl_read_40 _ (k_sheets u (by omega)).2 _ _ ⟨fun _ => ?_, fun c => absurd c (by omega)⟩
          have := hq M1 f1 r1
          rw [show sSz S u / 4 = k by omega]
          exact this
        | succ d ih =>
          intro k M1 S1 hk ok1 r1 f1 hs hq
          have hh1 := r1.2.2.2.2.1 u (by omega)
          rw [hs] at hh1
          unfold readF at hq
          refine b_tl_read_40 _ (k_sheets u (by omega)).2 _ _ ⟨fun c => absurd c (by omega), fun _ => ?_⟩
          rw [ix4 (by omega), wi (by omega), w2 (by omega), w3 (by omega), tN, tN, tN, tN, hh1.2.2 (4 * k) (by omega), hh1.2.2 (4 * k + 1) (by omega), hh1.2.2 (4 * k + 2) (by omega), hh1.2.2 (4 * k + 3) (by omega), wi (by omega)]
          refine ⟨⟨by omega, by omega⟩, ⟨by omega, by omega⟩, ⟨by omega, by omega⟩, ⟨by omega, by omega⟩, c_tl_loan ok1 r1 _ _ _ _ (fun M2 f2 _ r2 => ⟨fun c => ?_, fun c => ?_⟩)⟩
          · rw [if_neg (by omega)] at hq
            exact ih (k + 1) M2 _ (by omega) (ok_loan ok1 _ _ _ _) r2 (f1.tr f2) ((loan_sh S1 _ _ _ _).2.1.trans hs) hq
          · rw [if_pos c] at hq
            exact hq M2 (f1.tr f2) r2
      exact lp (sSz S u / 4) 0 M S (by omega) ok h FX.rf rfl hp
    · have z2 := b01_n.mp c2
      rw [hh.1] at z2
      rw [if_pos z2] at hp
      exact c_tl_fnd ok h 1 (by decide) (by decide) hp
  · rw [if_neg (b01_0.mp c)] at hp
    exact hp M FX.rf h
end CSHE
