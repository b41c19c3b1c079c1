/-! type, wipe, undo, fault, tune, borrower, loan, back, ear: what they do, class and model -/
def setT (S : ST) (x : TXT) : ST := (x, S.2)
def setB (S : ST) (x : TXT) : ST := (S.1, x, S.2.2)
def setL (S : ST) (x : Nat × (Nat → Nat → Int)) : ST := (S.1, S.2.1, x, S.2.2.2)
def setE (S : ST) (e : Int) : ST := (S.1, S.2.1, S.2.2.1, (e, S.2.2.2.1.2), S.2.2.2.2)
def setF (S : ST) (f : Int) : ST := (S.1, S.2.1, S.2.2.1, (S.2.2.2.1.1, f), S.2.2.2.2)
def setH (S : ST) (h : SHT) : ST := (S.1, S.2.1, S.2.2.1, S.2.2.2.1, h)
def typeR (S : ST) (t b : Int) : Int × ST := if (0 ≤ t ∧ t ≤ 1) ∧ (0 ≤ b ∧ b ≤ 255) then (if t = 0 then (if 59 ≤ (sT S).2 then (-4, S) else ((((sT S).2 + 1 : Nat) : Int), setT S (fu (sT S).1 (sT S).2 b, (sT S).2 + 1))) else (if 23 ≤ (sB S).2 then (-4, S) else ((((sB S).2 + 1 : Nat) : Int), setB S (fu (sB S).1 (sB S).2 b, (sB S).2 + 1)))) else (-2, S)
def wipeR (S : ST) (t : Int) : Int × ST := if 0 ≤ t ∧ t ≤ 1 then (if t = 0 then (((sT S).2 : Int), setT S ((sT S).1, 0)) else (((sB S).2 : Int), setB S ((sB S).1, 0))) else (-2, S)
def undoR (S : ST) (t : Int) : Int × ST := if 0 ≤ t ∧ t ≤ 1 then (if t = 0 then (if (sT S).2 = 0 then (-3, S) else ((((sT S).2 - 1 : Nat) : Int), setT S ((sT S).1, (sT S).2 - 1))) else (if (sB S).2 = 0 then (-3, S) else ((((sB S).2 - 1 : Nat) : Int), setB S ((sB S).1, (sB S).2 - 1)))) else (-2, S)
def faultA (S : ST) (t : Int) : Int := if 0 ≤ t ∧ t ≤ 1 then (if t = 0 then (pT (sT S)).1 else pB (sB S)) else -2
def tuneA (D : DT) (t i : Int) : Int := if (0 ≤ t ∧ t < (dn D : Int)) ∧ (-1 ≤ i ∧ i ≤ 11) then (if i = -1 then ((dT D t.toNat).length : Int) else if i < ((dT D t.toNat).length : Int) then (dT D t.toNat).getD i.toNat 0 else -1) else -2
def borA (D : DT) (b w : Int) : Int := if (0 ≤ b ∧ b < (db D : Int)) ∧ (0 ≤ w ∧ w ≤ 2) then (if w = 0 then (dB D b.toNat).1 else if w = 1 then (dB D b.toNat).2.1 else (dB D b.toNat).2.2) else -2
def lrow (y t b n : Int) (k : Nat) : Int := if k = 0 then y else if k = 1 then t else if k = 2 then b else n
abbrev loanC (y t b n : Int) : Prop := (0 ≤ y ∧ y ≤ 39) ∧ (0 ≤ t ∧ t ≤ 5) ∧ (0 ≤ b ∧ b ≤ 5) ∧ (1 ≤ n ∧ n ≤ 9)
def loanR (S : ST) (y t b n : Int) : Int × ST := if loanC y t b n then (if 12 ≤ (sL S).1 then (-4, S) else ((((sL S).1 + 1 : Nat) : Int), setL S ((sL S).1 + 1, fu (sL S).2 (sL S).1 (lrow y t b n)))) else (-2, S)
def backR (S : ST) : Int × ST := if (sL S).1 = 0 then (-3, S) else ((((sL S).1 - 1 : Nat) : Int), setL S ((sL S).1 - 1, (sL S).2))
def earR (S : ST) (v : Int) : Int × ST := if 0 ≤ v ∧ v ≤ 12 then (sE S, setE S v) else (-2, S)
theorem ok_type {S : ST} (ok : okST S) (t b : Int) : okST (typeR S t b).2 := by
  unfold typeR
  split
  · rename_i c
    split
    · split
      · exact ok
      · refine ⟨⟨by show (sT S).2 + 1 ≤ 59; omega, fun k hk => ?_⟩, ok.2.1, ok.2.2.1, ok.2.2.2.1, ok.2.2.2.2⟩
        have hk' : k < (sT S).2 + 1 := hk
        show 0 ≤ fu (sT S).1 (sT S).2 b k ∧ fu (sT S).1 (sT S).2 b k < 256
        by_cases ek : k = (sT S).2
        · rw [ek, fu_eq]
          omega
        · rw [fu_ne ek]
          exact ok.1.2 k (by omega)
    · split
      · exact ok
      · refine ⟨ok.1, ⟨by show (sB S).2 + 1 ≤ 23; omega, fun k hk => ?_⟩, ok.2.2.1, ok.2.2.2.1, ok.2.2.2.2⟩
        have hk' : k < (sB S).2 + 1 := hk
        show 0 ≤ fu (sB S).1 (sB S).2 b k ∧ fu (sB S).1 (sB S).2 b k < 256
        by_cases ek : k = (sB S).2
        · rw [ek, fu_eq]
          omega
        · rw [fu_ne ek]
          exact ok.2.1.2 k (by omega)
  · exact ok
theorem ok_T {S : ST} (ok : okST S) {n : Nat} (h : n ≤ (sT S).2) : okST (setT S ((sT S).1, n)) := by
  have := ok.1.1
  exact ⟨⟨by show n ≤ 59; omega, fun k hk => ok.1.2 k (Nat.lt_of_lt_of_le hk h)⟩, ok.2⟩
theorem ok_B {S : ST} (ok : okST S) {n : Nat} (h : n ≤ (sB S).2) : okST (setB S ((sB S).1, n)) := by
  have := ok.2.1.1
  exact ⟨ok.1, ⟨by show n ≤ 23; omega, fun k hk => ok.2.1.2 k (Nat.lt_of_lt_of_le hk h)⟩, ok.2.2⟩
theorem ok_wipe {S : ST} (ok : okST S) (t : Int) : okST (wipeR S t).2 := by
  unfold wipeR
  split
  · split
    · exact ok_T ok (Nat.zero_le _)
    · exact ok_B ok (Nat.zero_le _)
  · exact ok
theorem ok_undo {S : ST} (ok : okST S) (t : Int) : okST (undoR S t).2 := by
  unfold undoR
  split
  · split
    · split
      · exact ok
      · exact ok_T ok (Nat.sub_le _ _)
    · split
      · exact ok
      · exact ok_B ok (Nat.sub_le _ _)
  · exact ok
theorem ok_loan {S : ST} (ok : okST S) (y t b n : Int) : okST (loanR S y t b n).2 := by
  unfold loanR
  split
  · rename_i c
    obtain ⟨c1, c2, c3, c4⟩ := c
    split
    · exact ok
    · refine ⟨ok.1, ok.2.1, ⟨by show (sL S).1 + 1 ≤ 12; omega, fun l hl => ?_⟩, ok.2.2.2⟩
      have hl' : l < (sL S).1 + 1 := hl
      show (0 ≤ fu (sL S).2 (sL S).1 (lrow y t b n) l 0 ∧ fu (sL S).2 (sL S).1 (lrow y t b n) l 0 < 40) ∧ (0 ≤ fu (sL S).2 (sL S).1 (lrow y t b n) l 1 ∧ fu (sL S).2 (sL S).1 (lrow y t b n) l 1 < 6) ∧ (0 ≤ fu (sL S).2 (sL S).1 (lrow y t b n) l 2 ∧ fu (sL S).2 (sL S).1 (lrow y t b n) l 2 < 6) ∧ (1 ≤ fu (sL S).2 (sL S).1 (lrow y t b n) l 3 ∧ fu (sL S).2 (sL S).1 (lrow y t b n) l 3 ≤ 9)
      by_cases el : l = (sL S).1
      · rw [el, fu_eq]
        show (0 ≤ y ∧ y < 40) ∧ (0 ≤ t ∧ t < 6) ∧ (0 ≤ b ∧ b < 6) ∧ (1 ≤ n ∧ n ≤ 9)
        omega
      · rw [fu_ne el]
        exact ok.2.2.1.2 l (by omega)
  · exact ok
theorem ok_back {S : ST} (ok : okST S) : okST (backR S).2 := by
  unfold backR
  have := ok.2.2.1.1
  split
  · exact ok
  · exact ⟨ok.1, ok.2.1, ⟨by show (sL S).1 - 1 ≤ 12; omega, fun l hl => ok.2.2.1.2 l (by have hl' : l < (sL S).1 - 1 := hl; omega)⟩, ok.2.2.2⟩
theorem ok_ear {S : ST} (ok : okST S) (v : Int) : okST (earR S v).2 := by
  unfold earR
  split
  · rename_i c
    exact ⟨ok.1, ok.2.1, ok.2.2.1, c, ok.2.2.2.2⟩
  · exact ok
theorem FX.rf {M : MT} : FX M M := fun _ _ _ => rfl
theorem FO.rf {M : MT} : FO M M := fun _ _ _ => rfl
section CTO
variable {G : GT} {M : MT} {S : ST} {P : Int → MT → Prop}
theorem c_tl_resizedT (ok : okST S) (x : TXT) (hx : okX x 59) (hb : ∀ k, k < x.2 → M 7 k = x.1 k) (h1 : RCb (sB S) M) (h2 : RCl (sL S) M) (h3 : M 0 6 = sE S ∧ M 0 7 = sF S) (h4 : RCs S M) (hp : ∀ M', FX M M' → RC (setT S x) M' → P (x.2 : Int) M') : ClI G J_tl_resized M [pR 0, pI 0, pI (x.2 : Int)] P := by
  refine e_tl_resized _ _ ⟨Or.inl rfl, fun _ => ?_, fun c => absurd c (by decide)⟩
  rintro M1 rfl
  refine ⟨fun c => absurd rfl c, fun _ => c_bk_readTunes x.1 x.2 hx.1 (mu_eq _ _ _ _) (fun k hk => ⟨by rw [mu_o (by decide)]; exact hb k hk, hx.2 k hk⟩) (fun M2 f2 q1 q2 q3 => e_ye_forget ?_)⟩
  rintro M3 rfl
  have f : ∀ q k, ¬ (10 ≤ q ∧ q ≤ 21) → ¬ q = 6 → ¬ (q = 1 ∧ k = 4) → ¬ q = 40 → mu M2 40 7 (-1) q k = M q k := fun q k a b c d => by
    rw [mu_o d, f2 q k a (fun z => b z.1) c, mu_o b]
  refine hp _ (fun q k a => f q k (by omega) (by omega) (by omega) (by omega)) ⟨⟨?_, fun k hk => ?_, ?_, ?_, fun j hj => ?_⟩, h1.fr ok.n.2.1 (fun q k a => f q k (by omega) (by omega) (by omega) (by omega)), h2.fr ok.n.2.2 (fun q k a => f q k (by omega) (by omega) (by omega) (by omega)), ⟨(f 0 6 (by omega) (by omega) (by omega) (by omega)).trans h3.1, (f 0 7 (by omega) (by omega) (by omega) (by omega)).trans h3.2⟩, h4.fr (fun q k a => f q k (by omega) (by omega) (by omega) (by omega)), Or.inl (mu_eq _ _ _ _)⟩
  · rw [mu_o (by decide), f2 6 1 (by omega) (by omega) (by omega), mu_eq]
    rfl
  · rw [f 7 k (by omega) (by omega) (by omega) (by omega)]
    exact hb k hk
  · rw [mu_o (by decide)]
    exact q1
  · rw [mu_o (by decide)]
    exact q2
  · obtain ⟨a, b, c⟩ := q3 j hj
    exact ⟨by rw [mu_o (by omega)]; exact b, fun i hi => by rw [mu_o (by omega)]; exact c i hi⟩
theorem c_tl_resizedB (ok : okST S) (x : TXT) (hx : okX x 23) (hb : ∀ k, k < x.2 → M 9 k = x.1 k) (h1 : RCt (sT S) M) (h2 : RCl (sL S) M) (h3 : M 0 6 = sE S ∧ M 0 7 = sF S) (h4 : RCs S M) (hp : ∀ M', FX M M' → RC (setB S x) M' → P (x.2 : Int) M') : ClI G J_tl_resized M [pR 0, pI 1, pI (x.2 : Int)] P := by
  refine e_tl_resized _ _ ⟨Or.inr rfl, fun c => absurd c (by decide), fun _ => ?_⟩
  rintro M1 rfl
  refine ⟨fun _ => c_bk_readBorrowers x.1 x.2 hx.1 (mu_eq _ _ _ _) (fun k hk => ⟨by rw [mu_o (by decide)]; exact hb k hk, hx.2 k hk⟩) (fun M2 f2 q1 q2 q3 => e_ye_forget ?_), fun c => absurd c (by decide)⟩
  rintro M3 rfl
  have f : ∀ q k, ¬ (22 ≤ q ∧ q ≤ 27) → ¬ q = 8 → ¬ (q = 1 ∧ k = 5) → ¬ q = 40 → mu M2 40 7 (-1) q k = M q k := fun q k a b c d => by
    rw [mu_o d, f2 q k (by simp; omega) (fun z => b z.1) c, mu_o b]
  refine hp _ (fun q k a => f q k (by omega) (by omega) (by omega) (by omega)) ⟨h1.fr ok.n.1 (fun q k a => f q k (by omega) (by omega) (by omega) (by omega)), ⟨?_, fun k hk => ?_, ?_, ?_, fun i hi => ?_⟩, h2.fr ok.n.2.2 (fun q k a => f q k (by omega) (by omega) (by omega) (by omega)), ⟨(f 0 6 (by omega) (by omega) (by omega) (by omega)).trans h3.1, (f 0 7 (by omega) (by omega) (by omega) (by omega)).trans h3.2⟩, h4.fr (fun q k a => f q k (by omega) (by omega) (by omega) (by omega)), Or.inl (mu_eq _ _ _ _)⟩
  · rw [mu_o (by decide), f2 8 1 (by decide) (by omega) (by omega), mu_eq]
    rfl
  · rw [f 9 k (by omega) (by omega) (by omega) (by omega)]
    exact hb k hk
  · rw [mu_o (by decide)]
    exact q1
  · rw [mu_o (by decide), q2]
    show _ = ((nBx x : Nat) : Int)
    unfold nBx pB
    split <;> rfl
  · have hi' : i < nBx x := hi
    have hx1 := hx.1
    unfold nBx pB at hi'
    split at hi'
    · rename_i c
      have h4 := (bF_ok x.1 x.2 0 c).2 (by omega)
      have g := q3 c
      have g0 := g (4 * i) (by omega) (by omega)
      have g1 := g (4 * i + 1) (by omega) (by omega)
      have g2 := g (4 * i + 2) (by omega) (by omega)
      rw [show 4 * i / 4 = i by omega, show 4 * i % 4 = 0 by omega] at g0
      rw [show (4 * i + 1) / 4 = i by omega, show (4 * i + 1) % 4 = 1 by omega] at g1
      rw [show (4 * i + 2) / 4 = i by omega, show (4 * i + 2) % 4 = 2 by omega] at g2
      rw [mu_o (by omega), mu_o (by omega), mu_o (by omega)]
      exact ⟨g0, g1, g2⟩
    · omega
theorem c_tl_type (ok : okST S) (h : RC S M) (t b : Int) (hp : ∀ M', FX M M' → RC (typeR S t b).2 M' → P (typeR S t b).1 M') : ClI G J_tl_type M [pR 0, pI t, pI b] P := by
  have hok := ok_type ok t b
  unfold typeR at hp hok
  have no : ¬ ((0 ≤ t ∧ t ≤ 1) ∧ (0 ≤ b ∧ b ≤ 255)) → P (-2) M := fun c => by
    rw [if_neg c] at hp
    exact hp M FX.rf h
  refine e_tl_type _ _ (c_tl_isText _ ⟨fun c => no (fun z => b01_0.mp c z.1), fun c => c_tl_within _ _ _ ⟨fun c2 => ⟨?_, ?_, ?_⟩, fun c2 => no (fun z => b01_0.mp c2 z.2)⟩⟩)
  · have := b01_n.mp c
    omega
  · intro e
    rw [if_pos ⟨b01_n.mp c, b01_n.mp c2⟩, if_pos e] at hp hok
    rw [h.1.1, tN]
    refine ⟨fun c3 => ⟨⟨by omega, by omega⟩, ?_⟩, fun c3 => ?_⟩
    · rintro M3 rfl
      rw [if_neg (by omega)] at hp hok
      rw [mu_o (by decide), h.1.1, wi (by have := ok.1.1; omega), e]
      have f : ∀ q k, ¬ q = 7 → mu M 7 (sT S).2 b q k = M q k := fun q k a => mu_o a
      refine c_tl_resizedT ok (fu (sT S).1 (sT S).2 b, (sT S).2 + 1) hok.1 (fun k hk => ?_) (h.2.1.fr ok.n.2.1 (fun q k a => f q k (by omega))) (h.2.2.1.fr ok.n.2.2 (fun q k a => f q k (by omega))) ⟨(f _ _ (by omega)).trans h.2.2.2.1.1, (f _ _ (by omega)).trans h.2.2.2.1.2⟩ (h.2.2.2.2.1.fr (fun q k a => f q k (by omega))) (fun M4 f4 r4 => hp M4 (fun q k a => (f4 q k a).trans (f q k (by omega))) r4)
      have hk' : k < (sT S).2 + 1 := hk
      show _ = fu (sT S).1 (sT S).2 b k
      by_cases ek : k = (sT S).2
      · rw [ek, mu_eq, fu_eq]
      · rw [mu_k ek, fu_ne ek]
        exact h.1.2.1 k (by omega)
    · rw [if_pos (by omega)] at hp
      exact hp M FX.rf h
  · intro e
    rw [if_pos ⟨b01_n.mp c, b01_n.mp c2⟩, if_neg (by omega)] at hp hok
    rw [h.2.1.1, tN]
    refine ⟨fun c3 => ⟨⟨by omega, by omega⟩, ?_⟩, fun c3 => ?_⟩
    · rintro M3 rfl
      rw [if_neg (by omega)] at hp hok
      rw [mu_o (by decide), h.2.1.1, wi (by have := ok.2.1.1; omega), e]
      have f : ∀ q k, ¬ q = 9 → mu M 9 (sB S).2 b q k = M q k := fun q k a => mu_o a
      refine c_tl_resizedB ok (fu (sB S).1 (sB S).2 b, (sB S).2 + 1) hok.2.1 (fun k hk => ?_) (h.1.fr ok.n.1 (fun q k a => f q k (by omega))) (h.2.2.1.fr ok.n.2.2 (fun q k a => f q k (by omega))) ⟨(f _ _ (by omega)).trans h.2.2.2.1.1, (f _ _ (by omega)).trans h.2.2.2.1.2⟩ (h.2.2.2.2.1.fr (fun q k a => f q k (by omega))) (fun M4 f4 r4 => hp M4 (fun q k a => (f4 q k a).trans (f q k (by omega))) r4)
      have hk' : k < (sB S).2 + 1 := hk
      show _ = fu (sB S).1 (sB S).2 b k
      by_cases ek : k = (sB S).2
      · rw [ek, mu_eq, fu_eq]
      · rw [mu_k ek, fu_ne ek]
        exact h.2.1.2.1 k (by omega)
    · rw [if_pos (by omega)] at hp
      exact hp M FX.rf h
theorem c_tl_wipe (ok : okST S) (h : RC S M) (t : Int) (hp : ∀ M', FX M M' → RC (wipeR S t).2 M' → P (wipeR S t).1 M') : ClI G J_tl_wipe M [pR 0, pI t] P := by
  unfold wipeR at hp
  refine e_tl_wipe _ (c_tl_isText _ ⟨fun c => ⟨?_, fun e => ?_, fun e => ?_⟩, fun c => ?_⟩)
  · have := b01_n.mp c
    omega
  · rw [if_pos (b01_n.mp c), if_pos e] at hp
    rw [h.1.1, e]
    exact c_tl_resizedT ok ((sT S).1, 0) (ok_T ok (Nat.zero_le _)).1 (fun k hk => absurd hk (Nat.not_lt_zero k)) h.2.1 h.2.2.1 h.2.2.2.1 h.2.2.2.2.1 hp
  · rw [if_pos (b01_n.mp c), if_neg (by omega)] at hp
    rw [h.2.1.1, e]
    exact c_tl_resizedB ok ((sB S).1, 0) (ok_B ok (Nat.zero_le _)).2.1 (fun k hk => absurd hk (Nat.not_lt_zero k)) h.1 h.2.2.1 h.2.2.2.1 h.2.2.2.2.1 hp
  · rw [if_neg (b01_0.mp c)] at hp
    exact hp M FX.rf h
theorem c_tl_undo (ok : okST S) (h : RC S M) (t : Int) (hp : ∀ M', FX M M' → RC (undoR S t).2 M' → P (undoR S t).1 M') : ClI G J_tl_undo M [pR 0, pI t] P := by
  unfold undoR at hp
  refine e_tl_undo _ (c_tl_isText _ ⟨fun c => ⟨?_, fun e => ?_, fun e => ?_⟩, fun c => ?_⟩)
  · have := b01_n.mp c
    omega
  · rw [if_pos (b01_n.mp c), if_pos e] at hp
    rw [h.1.1]
    refine ⟨fun c2 => ?_, fun c2 => ?_⟩
    · rw [if_neg (by omega)] at hp
      have := ok.1.1
      rw [w32_s (by omega) (by omega), show ((sT S).2 : Int) - 1 = (((sT S).2 - 1 : Nat) : Int) by omega, e]
      exact c_tl_resizedT ok ((sT S).1, (sT S).2 - 1) (ok_T ok (Nat.sub_le _ _)).1 (fun k hk => h.1.2.1 k (Nat.lt_of_lt_of_le hk (Nat.sub_le _ _))) h.2.1 h.2.2.1 h.2.2.2.1 h.2.2.2.2.1 hp
    · rw [if_pos (by omega)] at hp
      exact hp M FX.rf h
  · rw [if_pos (b01_n.mp c), if_neg (by omega)] at hp
    rw [h.2.1.1]
    refine ⟨fun c2 => ?_, fun c2 => ?_⟩
    · rw [if_neg (by omega)] at hp
      have := ok.2.1.1
      rw [w32_s (by omega) (by omega), show ((sB S).2 : Int) - 1 = (((sB S).2 - 1 : Nat) : Int) by omega, e]
      exact c_tl_resizedB ok ((sB S).1, (sB S).2 - 1) (ok_B ok (Nat.sub_le _ _)).2.1 (fun k hk => h.2.1.2.1 k (Nat.lt_of_lt_of_le hk (Nat.sub_le _ _))) h.1 h.2.2.1 h.2.2.2.1 h.2.2.2.2.1 hp
    · rw [if_pos (by omega)] at hp
      exact hp M FX.rf h
  · rw [if_neg (b01_0.mp c)] at hp
    exact hp M FX.rf h
theorem c_tl_fault (h : RC S M) (t : Int) (hp : P (faultA S t) M) : ClI G J_tl_fault M [pR 0, pI t] P := by
  unfold faultA at hp
  refine e_tl_fault _ (c_tl_isText _ ⟨fun c => ?_, fun c => ⟨?_, fun e => ?_, fun e => ?_⟩⟩)
  · rw [if_neg (b01_0.mp c)] at hp
    exact hp
  · have := b01_n.mp c
    omega
  · rw [if_pos (b01_n.mp c), if_pos e] at hp
    rw [h.1.2.2.1]
    exact hp
  · rw [if_pos (b01_n.mp c), if_neg (by omega)] at hp
    rw [h.2.1.2.2.1]
    exact hp
theorem c_tl_tune {D : DT} (ok : okD D) (h : CD D M) (t i : Int) (hp : P (tuneA D t i) M) : ClI G J_tl_tune M [pR 0, pI t, pI i] P := by
  unfold tuneA at hp
  have o1 := ok.1
  refine e_tl_tune _ _ (c_tl_isTune (dn D) ok.1 h.1 _ ⟨fun c => ?_, fun c => c_tl_within _ _ _ ⟨fun c2 => ?_, fun c2 => ?_⟩⟩)
  · rw [if_neg (fun z => b01_0.mp c z.1)] at hp
    exact hp
  · have z1 := b01_n.mp c
    have z2 := b01_n.mp c2
    rw [if_pos ⟨z1, z2⟩] at hp
    obtain ⟨u, rfl⟩ : ∃ u : Nat, t = (u : Int) := ⟨t.toNat, by omega⟩
    rw [tN] at hp ⊢
    have tn := h.2.1 u (by omega)
    refine ⟨⟨by omega, by omega⟩, fun c3 => ?_, fun c3 => ?_⟩
    · rw [if_neg c3] at hp
      refine c_tu_at _ (k_tunes u (by omega)).2 _ _ tn (ok.2.1 u (by omega)).2.1 ?_
      by_cases c4 : i < ((dT D u).length : Int)
      · rw [if_pos c4] at hp
        rw [if_pos (by omega)]
        exact hp
      · rw [if_neg c4] at hp
        rw [if_neg (by omega)]
        exact hp
    · rw [if_pos c3] at hp
      rw [tn.1]
      exact hp
  · rw [if_neg (fun z => b01_0.mp c2 z.2)] at hp
    exact hp
theorem c_tl_borrower {D : DT} (ok : okD D) (h : CD D M) (b w : Int) (hp : P (borA D b w) M) : ClI G J_tl_borrower M [pR 0, pI b, pI w] P := by
  unfold borA at hp
  have o2 := ok.2.2.1
  refine e_tl_borrower _ _ (c_tl_isBorrower (db D) o2 h.2.2.1.1 _ ⟨fun c => ?_, fun c => c_tl_within _ _ _ ⟨fun c2 => ?_, fun c2 => ?_⟩⟩)
  · rw [if_neg (fun z => b01_0.mp c z.1)] at hp
    exact hp
  · have z1 := b01_n.mp c
    have z2 := b01_n.mp c2
    rw [if_pos ⟨z1, z2⟩] at hp
    obtain ⟨u, rfl⟩ : ∃ u : Nat, b = (u : Int) := ⟨b.toNat, by omega⟩
    rw [tN] at hp ⊢
    have bb := h.2.2.1.2 u (by omega)
    rw [bb.1, bb.2.1, bb.2.2]
    refine ⟨⟨by omega, by omega⟩, fun c3 => ⟨fun c4 => ?_, fun c4 => ?_⟩, fun c3 => ?_⟩
    · rw [if_neg c3, if_neg c4] at hp
      exact hp
    · rw [if_neg c3, if_pos c4] at hp
      exact hp
    · rw [if_pos c3] at hp
      exact hp
  · rw [if_neg (fun z => b01_0.mp c2 z.2)] at hp
    exact hp
theorem c_tl_loan (ok : okST S) (h : RC S M) (y t b n : Int) (hp : ∀ M', FX M M' → (∀ q k, 41 ≤ q → M' q k = M q k) → RC (loanR S y t b n).2 M' → P (loanR S y t b n).1 M') : ClI G J_tl_loan M [pR 0, pI y, pI t, pI b, pI n] P := by
  unfold loanR at hp
  have o3 := ok.2.2.1.1
  have no : ¬ loanC y t b n → P (-2) M := fun c => by
    rw [if_neg c] at hp
    exact hp M FX.rf (fun _ _ _ => rfl) h
  refine e_tl_loan _ _ _ _ (c_tl_isYear _ ⟨fun c => no (fun z => b01_0.mp c z.1), fun c => c_tl_within _ _ _ ⟨fun c2 => no (fun z => b01_0.mp c2 z.2.1), fun c2 => c_tl_within _ _ _ ⟨fun c3 => no (fun z => b01_0.mp c3 z.2.2.1), fun c3 => c_tl_within _ _ _ ⟨fun c4 => ?_, fun c4 => no (fun z => b01_0.mp c4 z.2.2.2)⟩⟩⟩⟩)
  rw [if_pos ⟨b01_n.mp c, b01_n.mp c2, b01_n.mp c3, b01_n.mp c4⟩] at hp
  rw [h.2.2.1.1, tN]
  refine ⟨fun c5 => ⟨⟨by omega, by omega⟩, ?_⟩, fun c5 => ?_⟩
  · rw [if_neg (by omega)] at hp
    generalize hn : (sL S).1 = m at *
    rintro M5 rfl M6 rfl M7 rfl M8 rfl M9 rfl
    refine e_ye_forget ?_
    rintro M10 rfl
    have f0 : ∀ q k, ¬ q = 28 + m → mu (mu (mu (mu M (28 + m) 0 y) (28 + m) 1 t) (28 + m) 2 b) (28 + m) 3 n q k = M q k := fun q k a => by rw [mu_o a, mu_o a, mu_o a, mu_o a]
    have e16 : mu (mu (mu (mu M (28 + m) 0 y) (28 + m) 1 t) (28 + m) 2 b) (28 + m) 3 n 1 6 = (m : Int) := by
      rw [f0 1 6 (by omega)]
      exact h.2.2.1.1.trans (by rw [hn])
    have el : ∀ k, k < 4 → mu (mu (mu (mu M (28 + m) 0 y) (28 + m) 1 t) (28 + m) 2 b) (28 + m) 3 n (28 + m) k = lrow y t b n k := fun k hk => by
      have : k = 0 ∨ k = 1 ∨ k = 2 ∨ k = 3 := by omega
      rcases this with e | e | e | e <;> subst e <;> simp [mu, lrow]
    generalize mu (mu (mu (mu M (28 + m) 0 y) (28 + m) 1 t) (28 + m) 2 b) (28 + m) 3 n = N at *
    rw [e16, wi (by omega), mu_o (by decide), mu_eq]
    have f : ∀ q k, ¬ q = 28 + m → ¬ (q = 1 ∧ k = 6) → ¬ q = 40 → mu (mu N 1 6 ((m + 1 : Nat) : Int)) 40 7 (-1) q k = M q k := fun q k a b c => by
      rw [mu_o c]
      by_cases e : q = 1
      · rw [e, mu_k (fun z => b ⟨e, z⟩), f0 1 k (by omega)]
      · rw [mu_o e, f0 q k a]
    refine hp _ (fun q k a => f q k (by omega) (by omega) (by omega)) (fun q k a => f q k (by omega) (by omega) (by omega)) ⟨h.1.fr ok.n.1 (fun q k a => f q k (by omega) (by omega) (by omega)), h.2.1.fr ok.n.2.1 (fun q k a => f q k (by omega) (by omega) (by omega)), ⟨?_, fun l hl k hk => ?_⟩, ⟨(f _ _ (by omega) (by omega) (by omega)).trans h.2.2.2.1.1, (f _ _ (by omega) (by omega) (by omega)).trans h.2.2.2.1.2⟩, h.2.2.2.2.1.fr (fun q k a => f q k (by omega) (by omega) (by omega)), Or.inl (mu_eq _ _ _ _)⟩
    · rw [mu_o (by decide), mu_eq]
      rfl
    · have hl' : l < m + 1 := hl
      show _ = fu (sL S).2 m (lrow y t b n) l k
      by_cases e : l = m
      · rw [e, fu_eq, mu_o (by omega), mu_o (by omega)]
        exact el k hk
      · rw [fu_ne e, f _ _ (by omega) (by omega) (by omega)]
        exact h.2.2.1.2 l (by omega) k hk
  · rw [if_pos (by omega)] at hp
    exact hp M FX.rf (fun _ _ _ => rfl) h
theorem c_tl_back (ok : okST S) (h : RC S M) (hp : ∀ M', FX M M' → RC (backR S).2 M' → P (backR S).1 M') : ClI G J_tl_back M [pR 0] P := by
  unfold backR at hp
  have o3 := ok.2.2.1.1
  refine e_tl_back ⟨?_, ?_⟩
  · rw [h.2.2.1.1]
    intro c
    rw [if_neg (by omega)] at hp
    rintro M1 rfl
    refine e_ye_forget ?_
    rintro M2 rfl
    rw [w32_s (by omega) (by omega), mu_o (by decide), mu_eq, show ((sL S).1 : Int) - 1 = (((sL S).1 - 1 : Nat) : Int) by omega]
    have f : ∀ q k, ¬ (q = 1 ∧ k = 6) → ¬ q = 40 → mu (mu M 1 6 (((sL S).1 - 1 : Nat) : Int)) 40 7 (-1) q k = M q k := fun q k b c => by
      rw [mu_o c]
      unfold mu
      rw [if_neg b]
    exact hp _ (fun q k a => f q k (by omega) (by omega)) ⟨h.1.fr ok.n.1 (fun q k a => f q k (by omega) (by omega)), h.2.1.fr ok.n.2.1 (fun q k a => f q k (by omega) (by omega)), ⟨by rw [mu_o (by decide), mu_eq]; rfl, fun l hl k hk => (f _ _ (by omega) (by have hl' : l < (sL S).1 - 1 := hl; omega)).trans (h.2.2.1.2 l (Nat.lt_of_lt_of_le hl (Nat.sub_le _ _)) k hk)⟩, ⟨(f _ _ (by omega) (by omega)).trans h.2.2.2.1.1, (f _ _ (by omega) (by omega)).trans h.2.2.2.1.2⟩, h.2.2.2.2.1.fr (fun q k a => f q k (by omega) (by omega)), Or.inl (mu_eq _ _ _ _)⟩
  · rw [h.2.2.1.1]
    intro c
    rw [if_pos (by omega)] at hp
    exact hp M FX.rf h
theorem c_tl_ear (ok : okST S) (h : RC S M) (v : Int) (hp : ∀ M', FX M M' → RC (earR S v).2 M' → P (earR S v).1 M') : ClI G J_tl_ear M [pR 0, pI v] P := by
  unfold earR at hp
  refine e_tl_ear _ (c_tl_isEar _ ⟨fun c => ?_, fun c => ?_⟩)
  · rw [if_pos (b01_n.mp c)] at hp
    rintro M2 rfl
    rw [h.2.2.2.1.1]
    have f : ∀ q k, ¬ q = 0 → mu M 0 6 v q k = M q k := fun q k a => mu_o a
    exact hp _ (fun q k a => f q k (by omega)) ⟨h.1.fr ok.n.1 (fun q k a => f q k (by omega)), h.2.1.fr ok.n.2.1 (fun q k a => f q k (by omega)), h.2.2.1.fr ok.n.2.2 (fun q k a => f q k (by omega)), ⟨mu_eq _ _ _ _, (mu_k (by decide)).trans h.2.2.2.1.2⟩, h.2.2.2.2.1.fr (fun q k a => f q k (by omega)), h.2.2.2.2.2.fr ok.d (fun q k a => f q k (by omega))⟩
  · rw [if_neg (b01_0.mp c)] at hp
    exact hp M FX.rf h
end CTO
