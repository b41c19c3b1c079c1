/-! type, wipe, undo, fault, tune, borrower, loan, back, ear: the model's way -/
theorem ix60 {a i : Nat} (ha : a < 1000) (hi : i < 1000) : w32 (w32 (60 * (a : Int)) + (i : Int)) = ((60 * a + i : Nat) : Int) := by
  rw [w32_s (x := 60 * (a : Int)) (by omega) (by omega), w32_s (by omega) (by omega)]
  omega
section CMTO
variable {G : GT} {M : MT} {S : ST} {P : Int → MT → Prop}
theorem c_mo_type (ok : okST S) (h : RM S M) (t b : Int) (hp : ∀ M', FO M M' → RM (typeR S t b).2 M' → P (typeR S t b).1 M') : ClI G J_mo_type M [pR 101, pI t, pI b] P := by
  unfold typeR at hp
  have x1 := ok.1.1
  have x2 := ok.2.1.1
  have no : ¬ ((0 ≤ t ∧ t ≤ 1) ∧ (0 ≤ b ∧ b ≤ 255)) → P (-2) M := fun c => by
    rw [if_neg c] at hp
    exact hp M FO.rf h
  refine e_mo_type _ _ (c_mo_isTwo _ ⟨fun c => no (fun z => b01_0.mp c z.1), fun c => c_mo_in _ _ _ ⟨fun c2 => ?_, fun c2 => no (fun z => b01_0.mp c2 z.2)⟩⟩)
  have z1 := b01_n.mp c
  rw [if_pos ⟨z1, b01_n.mp c2⟩] at hp
  refine ⟨⟨by omega, by omega⟩, fun e => ?_, fun e => ?_⟩
  · have e1 : t = ((1 : Nat) : Int) := by omega
    subst e1
    rw [if_neg e] at hp
    rw [tN, h.2.1.1, ix60 (by omega) (by omega), tN]
    refine ⟨fun c3 => ⟨⟨by omega, by omega⟩, ⟨by omega, by omega⟩, ?_⟩, fun c3 => ?_⟩
    · rw [if_neg (by omega)] at hp
      rintro M3 rfl
      refine ⟨⟨by omega, by omega⟩, ⟨by omega, by omega⟩, ?_⟩
      rintro M4 rfl
      rw [mu_eq, mu_o (by decide), h.2.1.1, wi (by omega)]
      refine ⟨⟨by omega, by omega⟩, hp _ (fun q k a => by rw [mu_o (by omega), mu_o (by omega)]) ⟨⟨?_, fun k hk => ?_⟩, ⟨mu_eq _ _ _ _, fun k hk => ?_⟩, ⟨?_, fun l hl k hk => ?_⟩, ⟨?_, ?_⟩, fun s hs => ⟨?_, ?_, fun i hi => ?_⟩⟩⟩
      · rw [mu_k (by decide), mu_o (by decide)]
        exact h.1.1
      · have hk' : k < (sT S).2 := hk
        rw [mu_o (by decide), mu_k (by omega)]
        exact h.1.2 k hk
      · have hk' : k < (sB S).2 + 1 := hk
        rw [mu_o (by decide)]
        show _ = fu (sB S).1 (sB S).2 b k
        by_cases ek : k = (sB S).2
        · rw [ek, fu_eq, show 60 + (sB S).2 = 60 * 1 + (sB S).2 by omega, mu_eq]
        · rw [mu_k (by omega), fu_ne ek]
          exact h.2.1.2 k (by omega)
      · rw [mu_o (by decide), mu_o (by decide)]
        exact h.2.2.1.1
      · rw [mu_o (by decide), mu_o (by decide)]
        exact h.2.2.1.2 l hl k hk
      · rw [mu_o (by decide), mu_o (by decide)]
        exact h.2.2.2.1.1
      · rw [mu_o (by decide), mu_o (by decide)]
        exact h.2.2.2.1.2
      · rw [mu_o (by decide), mu_o (by decide)]
        exact (h.2.2.2.2 s hs).1
      · rw [mu_o (by decide), mu_o (by decide)]
        exact (h.2.2.2.2 s hs).2.1
      · rw [mu_o (by decide), mu_o (by decide)]
        exact (h.2.2.2.2 s hs).2.2 i hi
    · rw [if_pos (by omega)] at hp
      exact hp M FO.rf h
  · have e1 : t = ((0 : Nat) : Int) := by omega
    subst e1
    rw [if_pos e] at hp
    rw [tN, h.1.1, ix60 (by omega) (by omega), tN]
    refine ⟨fun c3 => ⟨⟨by omega, by omega⟩, ⟨by omega, by omega⟩, ?_⟩, fun c3 => ?_⟩
    · rw [if_neg (by omega)] at hp
      rintro M3 rfl
      refine ⟨⟨by omega, by omega⟩, ⟨by omega, by omega⟩, ?_⟩
      rintro M4 rfl
      rw [mu_eq, mu_o (by decide), h.1.1, wi (by omega)]
      refine ⟨⟨by omega, by omega⟩, hp _ (fun q k a => by rw [mu_o (by omega), mu_o (by omega)]) ⟨⟨mu_eq _ _ _ _, fun k hk => ?_⟩, ⟨?_, fun k hk => ?_⟩, ⟨?_, fun l hl k hk => ?_⟩, ⟨?_, ?_⟩, fun s hs => ⟨?_, ?_, fun i hi => ?_⟩⟩⟩
      · have hk' : k < (sT S).2 + 1 := hk
        rw [mu_o (by decide)]
        show _ = fu (sT S).1 (sT S).2 b k
        by_cases ek : k = (sT S).2
        · rw [ek, fu_eq, show 60 * 0 + (sT S).2 = (sT S).2 by omega, mu_eq]
        · rw [mu_k (by omega), fu_ne ek]
          exact h.1.2 k (by omega)
      · rw [mu_k (by decide), mu_o (by decide)]
        exact h.2.1.1
      · have hk' : k < (sB S).2 := hk
        rw [mu_o (by decide), mu_k (by omega)]
        exact h.2.1.2 k hk
      · rw [mu_o (by decide), mu_o (by decide)]
        exact h.2.2.1.1
      · rw [mu_o (by decide), mu_o (by decide)]
        exact h.2.2.1.2 l hl k hk
      · rw [mu_o (by decide), mu_o (by decide)]
        exact h.2.2.2.1.1
      · rw [mu_o (by decide), mu_o (by decide)]
        exact h.2.2.2.1.2
      · rw [mu_o (by decide), mu_o (by decide)]
        exact (h.2.2.2.2 s hs).1
      · rw [mu_o (by decide), mu_o (by decide)]
        exact (h.2.2.2.2 s hs).2.1
      · rw [mu_o (by decide), mu_o (by decide)]
        exact (h.2.2.2.2 s hs).2.2 i hi
    · rw [if_pos (by omega)] at hp
      exact hp M FO.rf h
theorem RM.cutT (h : RM S M) (n : Nat) (hn : n ≤ (sT S).2) : RM (setT S ((sT S).1, n)) (mu M 107 0 (n : Int)) :=
  ⟨⟨mu_eq _ _ _ _, fun k hk => (mu_o (by decide)).trans (h.1.2 k (Nat.lt_of_lt_of_le hk hn))⟩, ⟨(mu_k (by decide)).trans h.2.1.1, fun k hk => (mu_o (by decide)).trans (h.2.1.2 k hk)⟩, ⟨(mu_o (by decide)).trans h.2.2.1.1, fun l hl k hk => (mu_o (by decide)).trans (h.2.2.1.2 l hl k hk)⟩, ⟨(mu_o (by decide)).trans h.2.2.2.1.1, (mu_o (by decide)).trans h.2.2.2.1.2⟩, fun s hs => ⟨(mu_o (by decide)).trans (h.2.2.2.2 s hs).1, (mu_o (by decide)).trans (h.2.2.2.2 s hs).2.1, fun i hi => (mu_o (by decide)).trans ((h.2.2.2.2 s hs).2.2 i hi)⟩⟩
theorem RM.cutB (h : RM S M) (n : Nat) (hn : n ≤ (sB S).2) : RM (setB S ((sB S).1, n)) (mu M 107 1 (n : Int)) :=
  ⟨⟨(mu_k (by decide)).trans h.1.1, fun k hk => (mu_o (by decide)).trans (h.1.2 k hk)⟩, ⟨mu_eq _ _ _ _, fun k hk => (mu_o (by decide)).trans (h.2.1.2 k (Nat.lt_of_lt_of_le hk hn))⟩, ⟨(mu_o (by decide)).trans h.2.2.1.1, fun l hl k hk => (mu_o (by decide)).trans (h.2.2.1.2 l hl k hk)⟩, ⟨(mu_o (by decide)).trans h.2.2.2.1.1, (mu_o (by decide)).trans h.2.2.2.1.2⟩, fun s hs => ⟨(mu_o (by decide)).trans (h.2.2.2.2 s hs).1, (mu_o (by decide)).trans (h.2.2.2.2 s hs).2.1, fun i hi => (mu_o (by decide)).trans ((h.2.2.2.2 s hs).2.2 i hi)⟩⟩
theorem FO.m1 {o k : Nat} {v : Int} (h : 101 ≤ o) : FO M (mu M o k v) := fun q j a => mu_o (by omega)
theorem c_mo_wipe (ok : okST S) (h : RM S M) (t : Int) (hp : ∀ M', FO M M' → RM (wipeR S t).2 M' → P (wipeR S t).1 M') : ClI G J_mo_wipe M [pR 101, pI t] P := by
  unfold wipeR at hp
  refine e_mo_wipe _ (c_mo_isTwo _ ⟨fun c => ?_, fun c => ?_⟩)
  · have z1 := b01_n.mp c
    rw [if_pos z1] at hp
    refine ⟨⟨by omega, by omega⟩, ⟨by omega, by omega⟩, ?_⟩
    rintro M2 rfl
    by_cases e : t = 0
    · have e1 : t = ((0 : Nat) : Int) := by omega
      rw [if_pos e] at hp
      rw [e1, tN, h.1.1]
      exact hp _ (FO.m1 (by omega)) (h.cutT 0 (Nat.zero_le _))
    · have e1 : t = ((1 : Nat) : Int) := by omega
      rw [if_neg e] at hp
      rw [e1, tN, h.2.1.1]
      exact hp _ (FO.m1 (by omega)) (h.cutB 0 (Nat.zero_le _))
  · rw [if_neg (b01_0.mp c)] at hp
    exact hp M FO.rf h
theorem c_mo_undo (ok : okST S) (h : RM S M) (t : Int) (hp : ∀ M', FO M M' → RM (undoR S t).2 M' → P (undoR S t).1 M') : ClI G J_mo_undo M [pR 101, pI t] P := by
  unfold undoR at hp
  have x1 := ok.1.1
  have x2 := ok.2.1.1
  refine e_mo_undo _ (c_mo_isTwo _ ⟨fun c => ?_, fun c => ?_⟩)
  · have z1 := b01_n.mp c
    rw [if_pos z1] at hp
    refine ⟨⟨by omega, by omega⟩, ?_⟩
    by_cases e : t = 0
    · have e1 : t = ((0 : Nat) : Int) := by omega
      rw [if_pos e] at hp
      rw [e1, tN, h.1.1]
      refine ⟨fun c2 => ⟨⟨by omega, by omega⟩, ⟨by omega, by omega⟩, ?_⟩, fun c2 => ?_⟩
      · rw [if_neg (by omega)] at hp
        rintro M2 rfl
        rw [mu_eq, w32_s (by omega) (by omega), show ((sT S).2 : Int) - 1 = (((sT S).2 - 1 : Nat) : Int) by omega]
        exact ⟨⟨by omega, by omega⟩, hp _ (FO.m1 (by omega)) (h.cutT _ (Nat.sub_le _ _))⟩
      · rw [if_pos (by omega)] at hp
        exact hp M FO.rf h
    · have e1 : t = ((1 : Nat) : Int) := by omega
      rw [if_neg e] at hp
      rw [e1, tN, h.2.1.1]
      refine ⟨fun c2 => ⟨⟨by omega, by omega⟩, ⟨by omega, by omega⟩, ?_⟩, fun c2 => ?_⟩
      · rw [if_neg (by omega)] at hp
        rintro M2 rfl
        rw [mu_eq, w32_s (by omega) (by omega), show ((sB S).2 : Int) - 1 = (((sB S).2 - 1 : Nat) : Int) by omega]
        exact ⟨⟨by omega, by omega⟩, hp _ (FO.m1 (by omega)) (h.cutB _ (Nat.sub_le _ _))⟩
      · rw [if_pos (by omega)] at hp
        exact hp M FO.rf h
  · rw [if_neg (b01_0.mp c)] at hp
    exact hp M FO.rf h
theorem c_mo_fault (ok : okST S) (h : RM S M) (t : Int) (hp : ∀ M', FA M M' → P (faultA S t) M') : ClI G J_mo_fault M [pR 101, pI t] P := by
  unfold faultA at hp
  refine e_mo_fault _ (c_mo_isTwo _ ⟨fun c => ⟨fun e => ?_, fun e => ?_⟩, fun c => ?_⟩)
  · rw [if_pos (b01_n.mp c), if_neg e] at hp
    exact c_mo_readsBorrowersS ok h (fun M1 f1 _ _ => hp M1 f1.fa)
  · rw [if_pos (b01_n.mp c), if_pos e] at hp
    exact c_mo_readsTunesS ok h (fun M1 f1 _ _ => hp M1 f1.fa)
  · rw [if_neg (b01_0.mp c)] at hp
    exact hp M FA.rf
theorem c_mo_tune {D : DT} (ok : okD D) (rd : Rd G D M) (t i : Int) (hp : ∀ M', FA M M' → P (tuneA D t i) M') : ClI G J_mo_tune M [pR 101, pI t, pI i] P := by
  unfold tuneA at hp
  have o1 := ok.1
  refine e_mo_tune _ _ (rd _ (fun M1 f1 h1 => c_mo_isTune (dn D) ok.1 h1.1 _ ⟨fun c => ?_, fun c => c_mo_in _ _ _ ⟨fun c2 => ?_, fun c2 => ?_⟩⟩))
  · have := hp M1 f1
    rw [if_neg (fun z => b01_0.mp c z.1)] at this
    exact this
  · have z1 := b01_n.mp c
    have z2 := b01_n.mp c2
    have hp := hp M1 f1
    rw [if_pos ⟨z1, z2⟩] at hp
    obtain ⟨u, rfl⟩ : ∃ u : Nat, t = (u : Int) := ⟨t.toNat, by omega⟩
    rw [tN] at hp ⊢
    have tn := h1.2.1 u (by omega)
    have ln := (ok.2.1 u (by omega)).1
    rw [tn.1]
    refine ⟨fun c3 => ⟨⟨by omega, by omega⟩, fun c4 => ?_, fun c4 => ?_⟩, fun c3 => ⟨⟨by omega, by omega⟩, ?_⟩⟩
    · rw [if_neg c3, if_neg (by omega)] at hp
      exact hp
    · rw [if_neg c3, if_pos c4] at hp
      obtain ⟨j, rfl⟩ : ∃ j : Nat, i = (j : Int) := ⟨i.toNat, by omega⟩
      rw [tN] at hp
      rw [ix40 (by omega) (by omega), tN, tn.2 j (by omega)]
      exact ⟨by omega, hp⟩
    · rw [if_pos c3] at hp
      exact hp
  · have := hp M1 f1
    rw [if_neg (fun z => b01_0.mp c2 z.2)] at this
    exact this
theorem c_mo_borrower {D : DT} (ok : okD D) (rd : Rd G D M) (b w : Int) (hp : ∀ M', FA M M' → P (borA D b w) M') : ClI G J_mo_borrower M [pR 101, pI b, pI w] P := by
  unfold borA at hp
  have o2 := ok.2.2.1
  refine e_mo_borrower _ _ (rd _ (fun M1 f1 h1 => c_mo_isBorrower (db D) o2 h1.2.2.1 _ ⟨fun c => ?_, fun c => c_mo_in _ _ _ ⟨fun c2 => ?_, fun c2 => ?_⟩⟩))
  · have := hp M1 f1
    rw [if_neg (fun z => b01_0.mp c z.1)] at this
    exact this
  · have := hp M1 f1
    rw [if_neg (fun z => b01_0.mp c2 z.2)] at this
    exact this
  · have z1 := b01_n.mp c
    have z2 := b01_n.mp c2
    have hp := hp M1 f1
    rw [if_pos ⟨z1, z2⟩] at hp
    obtain ⟨u, rfl⟩ : ∃ u : Nat, b = (u : Int) := ⟨b.toNat, by omega⟩
    obtain ⟨v, rfl⟩ : ∃ v : Nat, w = (v : Int) := ⟨w.toNat, by omega⟩
    have bb := h1.2.2.2.1 u (by omega)
    rw [tN] at hp
    rw [ix3 (by omega), w32_s (by omega) (by omega), show ((3 * u : Nat) : Int) + (v : Int) = ((3 * u + v : Nat) : Int) by omega, tN]
    refine ⟨by omega, ?_⟩
    have : v = 0 ∨ v = 1 ∨ v = 2 := by omega
    rcases this with e | e | e
    · subst e
      rw [if_pos (by decide)] at hp
      rw [Nat.add_zero, bb.1]
      exact hp
    · subst e
      rw [if_neg (by decide), if_pos (by decide)] at hp
      rw [bb.2.1]
      exact hp
    · subst e
      rw [if_neg (by decide), if_neg (by decide)] at hp
      rw [bb.2.2]
      exact hp
theorem c_mo_loan (ok : okST S) (h : RM S M) (y t b n : Int) (hp : ∀ M', FO M M' → (∀ q k, 102 ≤ q → q ≠ 111 → M' q k = M q k) → RM (loanR S y t b n).2 M' → P (loanR S y t b n).1 M') : ClI G J_mo_loan M [pR 101, pI y, pI t, pI b, pI n] P := by
  unfold loanR at hp
  have o3 := ok.2.2.1.1
  have no : ¬ loanC y t b n → P (-2) M := fun c => by
    rw [if_neg c] at hp
    exact hp M FO.rf (fun _ _ _ _ => rfl) h
  refine e_mo_loan _ _ _ _ (c_mo_isYear _ ⟨fun c => no (fun z => b01_0.mp c z.1), fun c => c_mo_in _ _ _ ⟨fun c2 => no (fun z => b01_0.mp c2 z.2.1), fun c2 => c_mo_in _ _ _ ⟨fun c3 => no (fun z => b01_0.mp c3 z.2.2.1), fun c3 => c_mo_in _ _ _ ⟨fun c4 => ?_, fun c4 => no (fun z => b01_0.mp c4 z.2.2.2)⟩⟩⟩⟩)
  rw [if_pos ⟨b01_n.mp c, b01_n.mp c2, b01_n.mp c3, b01_n.mp c4⟩] at hp
  rw [h.2.2.1.1]
  refine ⟨fun c5 => ?_, fun c5 => ?_⟩
  · rw [if_neg (by omega)] at hp
    have e12 := h.2.2.1.1
    have old := h.2.2.1.2
    generalize hn : (sL S).1 = m at *
    rw [ix4 (by omega), tN]
    refine ⟨⟨by omega, by omega⟩, ?_⟩
    rintro M5 rfl
    rw [mu_o (by decide), e12, ix4 (by omega), wi (by omega), tN]
    refine ⟨⟨by omega, by omega⟩, ?_⟩
    rintro M6 rfl
    rw [mu_o (by decide), mu_o (by decide), e12, ix4 (by omega), w2 (by omega), tN]
    refine ⟨⟨by omega, by omega⟩, ?_⟩
    rintro M7 rfl
    rw [mu_o (by decide), mu_o (by decide), mu_o (by decide), e12, ix4 (by omega), w3 (by omega), tN]
    refine ⟨⟨by omega, by omega⟩, ?_⟩
    rintro M8 rfl M9 rfl
    have f0 : ∀ q k, ¬ (q = 111 ∧ 4 * m ≤ k ∧ k < 4 * m + 4) → mu (mu (mu (mu M 111 (4 * m) y) 111 (4 * m + 1) t) 111 (4 * m + 2) b) 111 (4 * m + 3) n q k = M q k := fun q k a => by
      by_cases e : q = 111
      · rw [e, mu_k (by omega), mu_k (by omega), mu_k (by omega), mu_k (by omega)]
      · rw [mu_o e, mu_o e, mu_o e, mu_o e]
    have el : ∀ k, k < 4 → mu (mu (mu (mu M 111 (4 * m) y) 111 (4 * m + 1) t) 111 (4 * m + 2) b) 111 (4 * m + 3) n 111 (4 * m + k) = lrow y t b n k := fun k hk => by
      have : k = 0 ∨ k = 1 ∨ k = 2 ∨ k = 3 := by omega
      rcases this with e | e | e | e <;> subst e <;> simp [mu, lrow]
    generalize mu (mu (mu (mu M 111 (4 * m) y) 111 (4 * m + 1) t) 111 (4 * m + 2) b) 111 (4 * m + 3) n = N at *
    rw [f0 101 12 (by omega), e12, wi (by omega), mu_eq]
    have f : ∀ q k, ¬ (q = 111 ∧ 4 * m ≤ k ∧ k < 4 * m + 4) → ¬ (q = 101 ∧ k = 12) → mu N 101 12 ((m + 1 : Nat) : Int) q k = M q k := fun q k a b => by
      rw [← f0 q k a]
      unfold mu
      rw [if_neg b]
    refine hp _ (fun q k a => f q k (by omega) (by omega)) (fun q k a b => f q k (by omega) (by omega)) ⟨⟨(f _ _ (by omega) (by omega)).trans h.1.1, fun k hk => (f _ _ (by omega) (by omega)).trans (h.1.2 k hk)⟩, ⟨(f _ _ (by omega) (by omega)).trans h.2.1.1, fun k hk => (f _ _ (by omega) (by omega)).trans (h.2.1.2 k hk)⟩, ⟨mu_eq _ _ _ _, fun l hl k hk => ?_⟩, ⟨(f _ _ (by omega) (by omega)).trans h.2.2.2.1.1, (f _ _ (by omega) (by omega)).trans h.2.2.2.1.2⟩, fun s hs => ⟨(f _ _ (by omega) (by omega)).trans (h.2.2.2.2 s hs).1, (f _ _ (by omega) (by omega)).trans (h.2.2.2.2 s hs).2.1, fun i hi => (f _ _ (by omega) (by omega)).trans ((h.2.2.2.2 s hs).2.2 i hi)⟩⟩
    have hl' : l < m + 1 := hl
    show _ = fu (sL S).2 m (lrow y t b n) l k
    by_cases e : l = m
    · rw [e, fu_eq, mu_o (by omega)]
      exact el k hk
    · rw [fu_ne e, f _ _ (by omega) (by omega)]
      exact old l (by omega) k hk
  · rw [if_pos (by omega)] at hp
    exact hp M FO.rf (fun _ _ _ _ => rfl) h
theorem c_mo_back (ok : okST S) (h : RM S M) (hp : ∀ M', FO M M' → RM (backR S).2 M' → P (backR S).1 M') : ClI G J_mo_back M [pR 101] P := by
  unfold backR at hp
  have o3 := ok.2.2.1.1
  refine e_mo_back ⟨?_, ?_⟩
  · rw [h.2.2.1.1]
    intro c
    rw [if_neg (by omega)] at hp
    rintro M1 rfl
    rw [w32_s (by omega) (by omega), mu_eq, show ((sL S).1 : Int) - 1 = (((sL S).1 - 1 : Nat) : Int) by omega]
    have f : ∀ q k, ¬ (q = 101 ∧ k = 12) → mu M 101 12 (((sL S).1 - 1 : Nat) : Int) q k = M q k := fun q k b => by
      unfold mu
      rw [if_neg b]
    exact hp _ (FO.m1 (by omega)) ⟨⟨(f _ _ (by omega)).trans h.1.1, fun k hk => (f _ _ (by omega)).trans (h.1.2 k hk)⟩, ⟨(f _ _ (by omega)).trans h.2.1.1, fun k hk => (f _ _ (by omega)).trans (h.2.1.2 k hk)⟩, ⟨mu_eq _ _ _ _, fun l hl k hk => (f _ _ (by omega)).trans (h.2.2.1.2 l (Nat.lt_of_lt_of_le hl (Nat.sub_le _ _)) k hk)⟩, ⟨(f _ _ (by omega)).trans h.2.2.2.1.1, (f _ _ (by omega)).trans h.2.2.2.1.2⟩, fun s hs => ⟨(f _ _ (by omega)).trans (h.2.2.2.2 s hs).1, (f _ _ (by omega)).trans (h.2.2.2.2 s hs).2.1, fun i hi => (f _ _ (by omega)).trans ((h.2.2.2.2 s hs).2.2 i hi)⟩⟩
  · rw [h.2.2.1.1]
    intro c
    rw [if_pos (by omega)] at hp
    exact hp M FO.rf h
theorem c_mo_ear (ok : okST S) (h : RM S M) (v : Int) (hp : ∀ M', FO M M' → RM (earR S v).2 M' → P (earR S v).1 M') : ClI G J_mo_ear M [pR 101, pI v] P := by
  unfold earR at hp
  refine e_mo_ear _ (c_mo_in _ _ _ ⟨fun c => ?_, fun c => ?_⟩)
  · rw [if_pos (b01_n.mp c)] at hp
    rintro M2 rfl
    rw [h.2.2.2.1.1]
    have f : ∀ q k, ¬ (q = 101 ∧ k = 14) → mu M 101 14 v q k = M q k := fun q k b => by
      unfold mu
      rw [if_neg b]
    exact hp _ (FO.m1 (by omega)) ⟨⟨(f _ _ (by omega)).trans h.1.1, fun k hk => (f _ _ (by omega)).trans (h.1.2 k hk)⟩, ⟨(f _ _ (by omega)).trans h.2.1.1, fun k hk => (f _ _ (by omega)).trans (h.2.1.2 k hk)⟩, ⟨(f _ _ (by omega)).trans h.2.2.1.1, fun l hl k hk => (f _ _ (by omega)).trans (h.2.2.1.2 l hl k hk)⟩, ⟨mu_eq _ _ _ _, (f _ _ (by omega)).trans h.2.2.2.1.2⟩, fun s hs => ⟨(f _ _ (by omega)).trans (h.2.2.2.2 s hs).1, (f _ _ (by omega)).trans (h.2.2.2.2 s hs).2.1, fun i hi => (f _ _ (by omega)).trans ((h.2.2.2.2 s hs).2.2 i hi)⟩⟩
  · rw [if_neg (b01_0.mp c)] at hp
    exact hp M FO.rf h
end CMTO
