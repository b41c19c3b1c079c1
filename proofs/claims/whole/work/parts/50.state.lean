/-! what was told: two texts, loans, ear and latest finding, sheets; how class and model hold it -/
abbrev TXT : Type := (Nat → Int) × Nat
abbrev SHT : Type := (Nat → Int) × (Nat → Nat) × (Nat → Nat → Int)
abbrev ST : Type := TXT × TXT × (Nat × (Nat → Nat → Int)) × (Int × Int) × SHT
def pT (x : TXT) : Int × Nat × (Nat → List Int) := tF x.1 x.2 0 0 (fun _ => [])
def pB (x : TXT) : Int := bF x.1 x.2 0
def nBx (x : TXT) : Nat := if pB x = -1 then (x.2 + 1) / 4 else 0
def bwx (x : TXT) (i : Nat) : Int × Int × Int := (goV (4 * i) (x.1 (4 * i)), goV (4 * i + 1) (x.1 (4 * i + 1)), goV (4 * i + 2) (x.1 (4 * i + 2)))
def sT (S : ST) : TXT := S.1
def sB (S : ST) : TXT := S.2.1
def sL (S : ST) : Nat × (Nat → Nat → Int) := S.2.2.1
def sE (S : ST) : Int := S.2.2.2.1.1
def sF (S : ST) : Int := S.2.2.2.1.2
def sFm (S : ST) : Nat → Int := S.2.2.2.2.1
def sSz (S : ST) : Nat → Nat := S.2.2.2.2.2.1
def sIt (S : ST) : Nat → Nat → Int := S.2.2.2.2.2.2
def DS (S : ST) : DT := (((pT (sT S)).2.1, (pT (sT S)).2.2), (nBx (sB S), bwx (sB S)), sL S)
def okX (x : TXT) (m : Nat) : Prop := x.2 ≤ m ∧ ∀ k, k < x.2 → 0 ≤ x.1 k ∧ x.1 k < 256
def okL (x : Nat × (Nat → Nat → Int)) : Prop := x.1 ≤ 12 ∧ ∀ l, l < x.1 → (0 ≤ x.2 l 0 ∧ x.2 l 0 < 40) ∧ (0 ≤ x.2 l 1 ∧ x.2 l 1 < 6) ∧ (0 ≤ x.2 l 2 ∧ x.2 l 2 < 6) ∧ (1 ≤ x.2 l 3 ∧ x.2 l 3 ≤ 9)
def okH (S : ST) : Prop := ∀ s, s < 4 → (-1 ≤ sFm S s ∧ sFm S s ≤ 2) ∧ sSz S s ≤ 60
def okST (S : ST) : Prop := okX (sT S) 59 ∧ okX (sB S) 23 ∧ okL (sL S) ∧ (0 ≤ sE S ∧ sE S ≤ 12) ∧ okH S
theorem tF_ok (b : Nat → Int) : ∀ (d p t : Nat) (T : Nat → List Int), tI t T → (∀ j, j < t → 0 < (T j).length) → (∀ j, ∀ v ∈ T j, 0 ≤ v ∧ v < 7) → (tF b d p t T).2.1 ≤ 6 ∧ ∀ j, j < (tF b d p t T).2.1 → (((tF b d p t T).2.2 j).length ≤ 12 ∧ 0 < ((tF b d p t T).2.2 j).length) ∧ ∀ v ∈ (tF b d p t T).2.2 j, 0 ≤ v ∧ v < 7
  | 0, p, t, T, hi, hl, hv => by
    unfold tF
    split
    · split
      · exact ⟨Nat.zero_le _, fun j hj => absurd hj (Nat.not_lt_zero j)⟩
      · exact ⟨Nat.zero_le _, fun j hj => absurd hj (Nat.not_lt_zero j)⟩
    · rename_i h0
      have ht6 : t < 6 := by
        rcases Nat.lt_or_ge t 6 with h | h
        · exact h
        · have h6 : t = 6 := by have := hi.1; omega
          rw [h6, hi.2.2.1 h6] at h0
          exact absurd rfl h0
      refine ⟨by show t + 1 ≤ 6; omega, fun j hj => ⟨⟨hi.2.2.2 j, ?_⟩, hv j⟩⟩
      have hj' : j < t + 1 := hj
      show 0 < (T j).length
      by_cases ej : j = t
      · rw [ej]
        omega
      · exact hl j (by omega)
  | d + 1, p, t, T, hi, hl, hv => by
    unfold tF
    split
    · rename_i c
      refine tF_ok b d (p + 1) t _ ⟨hi.1, fun j hj => by rw [fu_ne (by omega)]; exact hi.2.1 j hj, fun h => by omega, fun j => ?_⟩ (fun j hj => by rw [fu_ne (by omega)]; exact hl j hj) (fun j v hjv => ?_)
      · by_cases ej : j = t
        · rw [ej, fu_eq, List.length_append, List.length_singleton]
          omega
        · rw [fu_ne ej]
          exact hi.2.2.2 j
      · by_cases ej : j = t
        · rw [ej, fu_eq] at hjv
          rcases List.mem_append.mp hjv with h | h
          · exact hv t v h
          · rw [List.mem_singleton] at h
            omega
        · rw [fu_ne ej] at hjv
          exact hv j v hjv
    · split
      · rename_i c
        have ht6 : t < 6 := by
          rcases Nat.lt_or_ge t 6 with h | h
          · exact h
          · have h6 : t = 6 := by have := hi.1; omega
            rw [h6, hi.2.2.1 h6] at c
            exact absurd c.2 (by decide)
        refine tF_ok b d (p + 1) (t + 1) T ⟨by omega, fun j hj => hi.2.1 j (by omega), fun _ => hi.2.1 6 (by omega), hi.2.2.2⟩ (fun j hj => ?_) hv
        by_cases ej : j = t
        · rw [ej]
          exact c.2
        · exact hl j (by omega)
      · exact ⟨Nat.zero_le _, fun j hj => absurd hj (Nat.not_lt_zero j)⟩
theorem bF_ok (b : Nat → Int) : ∀ (d p : Nat), bF b d p = -1 → (∀ j, p ≤ j → j < p + d → ¬ goV j (b j) = -1) ∧ (0 < p + d → (p + d) % 4 = 3)
  | 0, p, h => by
    unfold bF at h
    split at h
    · omega
    · exact ⟨fun j h1 h2 => absurd h2 (by omega), fun h0 => by omega⟩
  | d + 1, p, h => by
    unfold bF at h
    split at h
    · omega
    · rename_i c
      have ih := bF_ok b d (p + 1) h
      refine ⟨fun j h1 h2 => ?_, fun h0 => ?_⟩
      · by_cases ej : j = p
        · rw [ej]
          exact c
        · exact ih.1 j (by omega) (by omega)
      · have := ih.2 (by omega)
        rw [show p + (d + 1) = p + 1 + d by omega]
        exact this
theorem noteN_in {v : Int} (h : ¬ noteN v = -1) : 0 ≤ noteN v ∧ noteN v < 7 := by
  unfold noteN at h ⊢
  split
  · omega
  · rename_i c
    rw [if_neg c] at h
    exact absurd rfl h
theorem howN_in {v : Int} (h : ¬ howN v = -1) : howN v = 0 ∨ howN v = 1 ∨ howN v = 2 := by
  unfold howN at h ⊢
  split
  · exact Or.inl rfl
  · split
    · exact Or.inr (Or.inl rfl)
    · split
      · exact Or.inr (Or.inr rfl)
      · rename_i c1 c2 c3
        rw [if_neg c1, if_neg c2, if_neg c3] at h
        exact absurd rfl h
theorem okST.d {S : ST} (ok : okST S) : okD (DS S) := by
  obtain ⟨⟨x1, x2⟩, ⟨y1, y2⟩, ⟨l1, l2⟩, he, hh⟩ := ok
  have ht := tF_ok (sT S).1 (sT S).2 0 0 (fun _ => []) ⟨by omega, fun _ _ => rfl, fun _ => rfl, fun _ => Nat.zero_le _⟩ (fun j hj => absurd hj (Nat.not_lt_zero j)) (fun j v hv => absurd hv (by simp))
  refine ⟨ht.1, fun j hj => ⟨(ht.2 j hj).1, Nat.le_trans (ht.2 j hj).1.1 (by decide), (ht.2 j hj).2⟩, ?_, fun i hi => ?_, l1, l2⟩
  · show nBx (sB S) ≤ 6
    unfold nBx
    split <;> omega
  · have hi' : i < nBx (sB S) := hi
    unfold nBx at hi'
    split at hi'
    · rename_i c
      have hb := bF_ok (sB S).1 (sB S).2 0 c
      have h4 := hb.2 (by omega)
      have g0 := hb.1 (4 * i) (by omega) (by omega)
      have g1 := hb.1 (4 * i + 1) (by omega) (by omega)
      have g2 := hb.1 (4 * i + 2) (by omega) (by omega)
      show (0 ≤ goV (4 * i) ((sB S).1 (4 * i)) ∧ goV (4 * i) ((sB S).1 (4 * i)) < 7) ∧ (goV (4 * i + 1) ((sB S).1 (4 * i + 1)) = 0 ∨ goV (4 * i + 1) ((sB S).1 (4 * i + 1)) = 1 ∨ goV (4 * i + 1) ((sB S).1 (4 * i + 1)) = 2) ∧ (0 ≤ goV (4 * i + 2) ((sB S).1 (4 * i + 2)) ∧ goV (4 * i + 2) ((sB S).1 (4 * i + 2)) < 7)
      unfold goV at g0 g1 g2 ⊢
      rw [if_neg (by omega), if_neg (by omega)] at g0
      rw [if_neg (by omega), if_pos (by omega)] at g1
      rw [if_neg (by omega), if_neg (by omega)] at g2
      rw [if_neg (by omega), if_neg (by omega), if_neg (by omega), if_pos (by omega), if_neg (by omega), if_neg (by omega)]
      exact ⟨noteN_in g0, howN_in g1, noteN_in g2⟩
    · omega
def RCt (x : TXT) (M : MT) : Prop := M 6 1 = (x.2 : Int) ∧ (∀ k, k < x.2 → M 7 k = x.1 k) ∧ M 6 2 = (pT x).1 ∧ M 1 4 = ((pT x).2.1 : Int) ∧ ∀ j, j < (pT x).2.1 → Tn M (10 + 2 * j) ((pT x).2.2 j)
def RCb (x : TXT) (M : MT) : Prop := M 8 1 = (x.2 : Int) ∧ (∀ k, k < x.2 → M 9 k = x.1 k) ∧ M 8 2 = pB x ∧ CB M (nBx x) (bwx x)
def RCl (x : Nat × (Nat → Nat → Int)) (M : MT) : Prop := M 1 6 = (x.1 : Int) ∧ ∀ l, l < x.1 → ∀ k, k < 4 → M (28 + l) k = x.2 l k
def RCs (S : ST) (M : MT) : Prop := ∀ s, s < 4 → M (93 + 2 * s) 1 = sFm S s ∧ M (93 + 2 * s) 2 = (sSz S s : Int) ∧ ∀ i, i < sSz S s → M (93 + 2 * s + 1) i = sIt S s i
def RC (S : ST) (M : MT) : Prop := RCt (sT S) M ∧ RCb (sB S) M ∧ RCl (sL S) M ∧ (M 0 6 = sE S ∧ M 0 7 = sF S) ∧ RCs S M ∧ KC (DS S) M
theorem RC.cd {S : ST} {M : MT} (h : RC S M) : CD (DS S) M := ⟨h.1.2.2.2.1, h.1.2.2.2.2, h.2.1.2.2.2, h.2.2.1.1, h.2.2.1.2⟩
theorem RC.qc {S : ST} {M : MT} (h : RC S M) : QC (DS S) (sE S) M := ⟨h.cd, h.2.2.2.2.2, h.2.2.2.1.1⟩
theorem RCt.fr {x : TXT} {M M' : MT} (hx : (pT x).2.1 ≤ 6) (h : RCt x M) (f : ∀ q k, q = 6 ∨ q = 7 ∨ (10 ≤ q ∧ q ≤ 21) ∨ (q = 1 ∧ k = 4) → M' q k = M q k) : RCt x M' :=
  ⟨(f _ _ (by omega)).trans h.1, fun k hk => (f _ _ (by omega)).trans (h.2.1 k hk), (f _ _ (by omega)).trans h.2.2.1, (f _ _ (by omega)).trans h.2.2.2.1, fun j hj => ⟨(f _ _ (by omega)).trans (h.2.2.2.2 j hj).1, fun i hi => (f _ _ (by omega)).trans ((h.2.2.2.2 j hj).2 i hi)⟩⟩
theorem RCb.fr {x : TXT} {M M' : MT} (hx : nBx x ≤ 6) (h : RCb x M) (f : ∀ q k, q = 8 ∨ q = 9 ∨ (22 ≤ q ∧ q ≤ 27) ∨ (q = 1 ∧ k = 5) → M' q k = M q k) : RCb x M' :=
  ⟨(f _ _ (by omega)).trans h.1, fun k hk => (f _ _ (by omega)).trans (h.2.1 k hk), (f _ _ (by omega)).trans h.2.2.1, (f _ _ (by omega)).trans h.2.2.2.1, fun i hi => ⟨(f _ _ (by omega)).trans (h.2.2.2.2 i hi).1, (f _ _ (by omega)).trans (h.2.2.2.2 i hi).2.1, (f _ _ (by omega)).trans (h.2.2.2.2 i hi).2.2⟩⟩
theorem RCl.fr {x : Nat × (Nat → Nat → Int)} {M M' : MT} (hx : x.1 ≤ 12) (h : RCl x M) (f : ∀ q k, (28 ≤ q ∧ q ≤ 39 ∧ k < 4) ∨ (q = 1 ∧ k = 6) → M' q k = M q k) : RCl x M' :=
  ⟨(f _ _ (by omega)).trans h.1, fun l hl k hk => (f _ _ (by omega)).trans (h.2 l hl k hk)⟩
theorem RCs.fr {S : ST} {M M' : MT} (h : RCs S M) (f : ∀ q k, 93 ≤ q ∧ q ≤ 100 → M' q k = M q k) : RCs S M' := fun s hs =>
  ⟨(f _ _ (by omega)).trans (h s hs).1, (f _ _ (by omega)).trans (h s hs).2.1, fun i hi => (f _ _ (by omega)).trans ((h s hs).2.2 i hi)⟩
theorem KC.fr {D : DT} (ok : okD D) {M M' : MT} (h : KC D M) (f : ∀ q k, (28 ≤ q ∧ q ≤ 39) ∨ q = 40 ∨ (46 ≤ q ∧ q ≤ 48) → M' q k = M q k) : KC D M' := by
  unfold KC
  rw [f 40 7 (by omega)]
  rcases h with h | ⟨e, h0, h1, h2⟩
  · exact Or.inl h
  · exact Or.inr ⟨e, h0, h1, h2.fr ok (fun q k hq => f q k (by omega))⟩
/-- a call of the class leaves the model's cells; a call of the model leaves the class's -/
def FX (M M' : MT) : Prop := ∀ q k, 101 ≤ q → M' q k = M q k
def FO (M M' : MT) : Prop := ∀ q k, q < 101 → M' q k = M q k
theorem FX.tr {M M' M'' : MT} (h : FX M M') (h' : FX M' M'') : FX M M'' := fun q k a => (h' q k a).trans (h q k a)
theorem FO.tr {M M' M'' : MT} (h : FO M M') (h' : FO M' M'') : FO M M'' := fun q k a => (h' q k a).trans (h q k a)
theorem FC.fx {M M' : MT} (h : FC M M') : FX M M' := fun q k a => h q k (by omega) (by omega)
theorem FA.fo {M M' : MT} (h : FA M M') : FO M M' := fun q k a => h q k (by omega) (by omega) (by omega) (by omega) (by omega) (by omega)
theorem okST.n {S : ST} (ok : okST S) : (pT (sT S)).2.1 ≤ 6 ∧ nBx (sB S) ≤ 6 ∧ (sL S).1 ≤ 12 := ⟨ok.d.1, ok.d.2.2.1, ok.d.2.2.2.2.1⟩
theorem RC.fc {S : ST} (ok : okST S) {M M' : MT} (h : RC S M) (f : FC M M') (k : KC (DS S) M') : RC S M' :=
  ⟨h.1.fr ok.n.1 (fun q k a => f q k (by omega) (by omega)), h.2.1.fr ok.n.2.1 (fun q k a => f q k (by omega) (by omega)), h.2.2.1.fr ok.n.2.2 (fun q k a => f q k (by omega) (by omega)), ⟨(f _ _ (by omega) (by omega)).trans h.2.2.2.1.1, (f _ _ (by omega) (by omega)).trans h.2.2.2.1.2⟩, h.2.2.2.2.1.fr (fun q k a => f q k (by omega) (by omega)), k⟩
theorem RC.fo {S : ST} (ok : okST S) {M M' : MT} (h : RC S M) (f : FO M M') : RC S M' :=
  ⟨h.1.fr ok.n.1 (fun q k a => f q k (by omega)), h.2.1.fr ok.n.2.1 (fun q k a => f q k (by omega)), h.2.2.1.fr ok.n.2.2 (fun q k a => f q k (by omega)), ⟨(f _ _ (by omega)).trans h.2.2.2.1.1, (f _ _ (by omega)).trans h.2.2.2.1.2⟩, h.2.2.2.2.1.fr (fun q k a => f q k (by omega)), h.2.2.2.2.2.fr ok.d (fun q k a => f q k (by omega))⟩
def RM (S : ST) (M : MT) : Prop := (M 107 0 = ((sT S).2 : Int) ∧ ∀ k, k < (sT S).2 → M 106 k = (sT S).1 k) ∧ (M 107 1 = ((sB S).2 : Int) ∧ ∀ k, k < (sB S).2 → M 106 (60 + k) = (sB S).1 k) ∧ (M 101 12 = ((sL S).1 : Int) ∧ ∀ l, l < (sL S).1 → ∀ k, k < 4 → M 111 (4 * l + k) = (sL S).2 l k) ∧ (M 101 14 = sE S ∧ M 101 4 = sF S) ∧ ∀ s, s < 4 → M 102 s = sFm S s ∧ M 103 s = (sSz S s : Int) ∧ ∀ i, i < sSz S s → M 104 (60 * s + i) = sIt S s i
theorem RM.fr {S : ST} {M M' : MT} (h : RM S M) (f : ∀ q k, (q = 102 ∨ q = 103 ∨ q = 104 ∨ q = 106 ∨ q = 107 ∨ q = 111) ∨ (q = 101 ∧ (k = 4 ∨ k = 12 ∨ k = 14)) → M' q k = M q k) : RM S M' :=
  ⟨⟨(f _ _ (by omega)).trans h.1.1, fun k hk => (f _ _ (by omega)).trans (h.1.2 k hk)⟩, ⟨(f _ _ (by omega)).trans h.2.1.1, fun k hk => (f _ _ (by omega)).trans (h.2.1.2 k hk)⟩, ⟨(f _ _ (by omega)).trans h.2.2.1.1, fun l hl k hk => (f _ _ (by omega)).trans (h.2.2.1.2 l hl k hk)⟩, ⟨(f _ _ (by omega)).trans h.2.2.2.1.1, (f _ _ (by omega)).trans h.2.2.2.1.2⟩, fun s hs => ⟨(f _ _ (by omega)).trans (h.2.2.2.2 s hs).1, (f _ _ (by omega)).trans (h.2.2.2.2 s hs).2.1, fun i hi => (f _ _ (by omega)).trans ((h.2.2.2.2 s hs).2.2 i hi)⟩⟩
theorem RM.fa {S : ST} {M M' : MT} (h : RM S M) (f : FA M M') : RM S M' := h.fr (fun q k a => f q k (by omega) (by omega) (by omega) (by omega) (by omega) (by omega))
theorem RM.fx {S : ST} {M M' : MT} (h : RM S M) (f : FX M M') : RM S M' := h.fr (fun q k a => f q k (by omega))
theorem FMT.fa {M M' : MT} (h : FMT M M') : FA M M' := fun q k _ _ a b _ d => h q k a b (by omega)
theorem FMB.fa {M M' : MT} (h : FMB M M') : FA M M' := fun q k _ _ _ _ c d => h q k c (by omega)
theorem c_mo_readsTunesS {G : GT} {S : ST} (ok : okST S) {M : MT} (h : RM S M) {P : Int → MT → Prop} (hp : ∀ M', FMT M M' → M' 101 7 = (dn (DS S) : Int) → (∀ j, j < dn (DS S) → TD M' j (dT (DS S) j)) → P (pT (sT S)).1 M') : ClI G J_mo_readsTunes M [pR 101] P :=
  c_mo_readsTunes (sT S).1 (sT S).2 ok.1.1 h.1.1 (fun k hk => ⟨h.1.2 k hk, ok.1.2 k hk⟩) (fun M1 f1 n1 t1 => hp M1 f1 n1 (fun j hj => (t1 j hj).2))
theorem c_mo_readsBorrowersS {G : GT} {S : ST} (ok : okST S) {M : MT} (h : RM S M) {P : Int → MT → Prop} (hp : ∀ M', FMB M M' → M' 101 10 = (db (DS S) : Int) → (∀ i, i < db (DS S) → M' 110 (3 * i) = (dB (DS S) i).1 ∧ M' 110 (3 * i + 1) = (dB (DS S) i).2.1 ∧ M' 110 (3 * i + 2) = (dB (DS S) i).2.2) → P (pB (sB S)) M') : ClI G J_mo_readsBorrowers M [pR 101] P := by
  refine c_mo_readsBorrowers (sB S).1 (sB S).2 ok.2.1.1 h.2.1.1 (fun k hk => ⟨h.2.1.2 k hk, ok.2.1.2 k hk⟩) (fun M1 f1 n1 t1 => hp M1 f1 ?_ (fun i hi => ?_))
  · rw [n1]
    show _ = ((nBx (sB S) : Nat) : Int)
    unfold nBx pB
    split <;> rfl
  · have hi' : i < nBx (sB S) := hi
    unfold nBx pB at hi'
    split at hi'
    · rename_i c
      have h4 := (bF_ok (sB S).1 (sB S).2 0 c).2 (by omega)
      have g := t1 c
      have g0 := g (4 * i) (by omega) (by omega)
      have g1 := g (4 * i + 1) (by omega) (by omega)
      have g2 := g (4 * i + 2) (by omega) (by omega)
      rw [show 3 * (4 * i / 4) + 4 * i % 4 = 3 * i by omega] at g0
      rw [show 3 * ((4 * i + 1) / 4) + (4 * i + 1) % 4 = 3 * i + 1 by omega] at g1
      rw [show 3 * ((4 * i + 2) / 4) + (4 * i + 2) % 4 = 3 * i + 2 by omega] at g2
      exact ⟨g0, g1, g2⟩
    · omega
theorem RM.rd {G : GT} {S : ST} (ok : okST S) {M : MT} (h : RM S M) : Rd G (DS S) M := fun P hp => by
  refine e_mo_reads (c_mo_readsTunesS ok h (fun M1 f1 n1 t1 => c_mo_readsBorrowersS ok (h.fa f1.fa) (fun M2 f2 n2 t2 => ?_)))
  have h2 := (h.fa f1.fa).fa f2.fa
  exact hp M2 (f1.fa.tr f2.fa) ⟨(f2 101 7 (by omega) (by omega)).trans n1, fun j hj => ⟨(f2 109 j (by omega) (by omega)).trans (t1 j hj).1, fun i hi => (f2 108 _ (by omega) (by omega)).trans ((t1 j hj).2 i hi)⟩, n2, t2, h2.2.2.1.1, h2.2.2.1.2⟩
