/-! the borrowers' text -/
def bF (b : Nat → Int) : Nat → Nat → Int
  | 0, p => if 0 < p ∧ ¬ p % 4 = 3 then (p : Int) else -1
  | d + 1, p => if goV p (b p) = -1 then (p : Int) else bF b d (p + 1)
def FB (M M' : MT) : Prop := ∀ q k, q ∉ [22, 23, 24, 25, 26, 27] → ¬ (q = 8 ∧ k = 2) → ¬ (q = 1 ∧ k = 5) → M' q k = M q k
theorem FB.rf {M : MT} : FB M M := fun _ _ _ _ _ => rfl
theorem FB.tr {M M' M'' : MT} (h : FB M M') (h' : FB M' M'') : FB M M'' := fun q k a b c => (h' q k a b c).trans (h q k a b c)
theorem FB.b {M : MT} {i k : Nat} {v : Int} (hi : i < 6) : FB M (mu M (22 + i) k v) := fun q j a _ _ => mu_o (fun e => a (by
  have : i = 0 ∨ i = 1 ∨ i = 2 ∨ i = 3 ∨ i = 4 ∨ i = 5 := by omega
  rcases this with h | h | h | h | h | h <;> subst h <;> simp [e]))
theorem FB.f {M : MT} {v : Int} : FB M (mu M 8 2 v) := fun q j _ b _ => by
  unfold mu
  rw [if_neg b]
theorem FB.n {M : MT} {v : Int} : FB M (mu M 1 5 v) := fun q j _ _ c => by
  unfold mu
  rw [if_neg c]
section CRB
variable {G : GT} {M : MT}
theorem c_bk_readBorrowers {P : MT → Prop} (b : Nat → Int) (n : Nat) (hn : n ≤ 23) (hs : M 8 1 = (n : Int)) (hb : ∀ k, k < n → M 9 k = b k ∧ 0 ≤ b k ∧ b k < 256)
    (hp : ∀ M', FB M M' → M' 8 2 = bF b n 0 → M' 1 5 = (if bF b n 0 = -1 then (((n + 1) / 4 : Nat) : Int) else 0) → (bF b n 0 = -1 → ∀ j, j < n → ¬ j % 4 = 3 → M' (22 + j / 4) (j % 4) = goV j (b j)) → P M') : ClV G J_bk_readBorrowers M [pR 1] P := by
  have fin : ∀ (M1 : MT) (w : Int), FB M M1 → w = bF b n 0 → (w = -1 → ∀ j, j < n → ¬ j % 4 = 3 → M1 (22 + j / 4) (j % 4) = goV j (b j)) → WpV G J_bk_readBorrowers 72 [(0, pR 1), (1, pR 8), (2, pI w)] [] M1 P := by
    intro M1 w hf hw hv
    refine b_bk_readBorrowers_72 _ ?_
    rintro M2 rfl
    have e1 : mu M1 8 2 w 8 1 = (n : Int) := by
      rw [mu_k (by decide), hf 8 1 (by decide) (by decide) (by decide)]
      exact hs
    refine ⟨fun c => ?_, fun c => ?_⟩
    · rintro M3 rfl
      refine hp _ ((hf.tr FB.f).tr FB.n) ?_ ?_ (fun e => absurd (hw.trans e) c)
      · rw [mu_o (by decide), mu_eq, hw]
      · rw [mu_eq, if_neg (fun e => c (hw.trans e))]
    · rintro M3 rfl
      refine hp _ ((hf.tr FB.f).tr FB.n) ?_ ?_ (fun _ j hj h3 => ?_)
      · rw [mu_o (by decide), mu_eq, hw]
      · rw [mu_eq, if_pos (hw.symm.trans c), e1, wi (by omega), Int.tdiv_eq_ediv_of_nonneg (by omega), w32_s (by omega) (by omega)]
        omega
      · rw [mu_o (by omega), mu_o (by omega)]
        exact hv c j hj h3
  have stop : ∀ (M1 : MT) (p : Nat), FB M M1 → ((p : Int) = bF b n 0) → WpV G J_bk_readBorrowers 45 [(0, pR 1), (1, pR 8), (2, pI (p : Int))] [] M1 P := by
    intro M1 p hf hw
    exact b_bk_readBorrowers_45 _ ⟨fun _ => fin M1 _ hf hw (fun e => absurd e (by omega)), fun c => absurd c (by omega)⟩
  have lp : ∀ (d p : Nat) (M1 : MT), p + d = n → FB M M1 → (∀ j, j < p → ¬ j % 4 = 3 → M1 (22 + j / 4) (j % 4) = goV j (b j)) → bF b d p = bF b n 0 → WpV G J_bk_readBorrowers 11 [(0, pR 1), (1, pR 8), (2, pI (-1)), (3, pI (p : Int))] [] M1 P := by
    intro d
    induction d with
    | zero =>
      intro p M1 hpd hf hv hB
      have e1 : M1 8 1 = (n : Int) := (hf 8 1 (by decide) (by decide) (by decide)).trans hs
      have hpn : p = n := by omega
      subst hpn
      refine b_bk_readBorrowers_11 _ _ ⟨fun _ => ?_, fun c => ?_⟩
      · have hB' : (if 0 < p ∧ ¬ p % 4 = 3 then (p : Int) else -1) = bF b p 0 := hB
        have e2 : w32 (Int.tmod (p : Int) 4) = ((p % 4 : Nat) : Int) := by
          rw [Int.tmod_eq_emod_of_nonneg (by omega), w32_s (by omega) (by omega)]
          omega
        refine b_bk_readBorrowers_45 _ ⟨fun c => absurd rfl c, fun _ => ⟨fun c => ?_, fun c => ⟨fun c2 => ?_, fun c2 => ?_⟩⟩⟩
        · rw [e1] at c
          rw [if_neg (by omega)] at hB'
          exact fin M1 _ hf hB' (fun _ => hv)
        · rw [e1, e2] at c2
          rw [if_neg (by omega)] at hB'
          exact fin M1 _ hf hB' (fun _ => hv)
        · rw [e1, e2] at c2
          rw [e1] at c ⊢
          rw [if_pos (by omega)] at hB'
          exact fin M1 _ hf hB' (fun e => absurd e (by omega))
      · rw [e1] at c
        omega
    | succ d ih =>
      intro p M1 hpd hf hv hB
      have e1 : M1 8 1 = (n : Int) := (hf 8 1 (by decide) (by decide) (by decide)).trans hs
      have hbp := hb p (by omega)
      have e3 : ((b p).toNat : Int) = b p := by omega
      have e4 : M1 9 p = ((b p).toNat : Int) := by
        rw [e3, hf 9 p (by decide) (fun e => absurd e.1 (by decide)) (fun e => absurd e.1 (by decide))]
        exact hbp.1
      have hB' : (if goV p (b p) = -1 then (p : Int) else bF b d (p + 1)) = bF b n 0 := hB
      refine b_bk_readBorrowers_11 _ _ ⟨fun c => ?_, fun _ => ⟨fun c => absurd rfl c, fun _ => ?_⟩⟩
      · rw [e1] at c
        omega
      · refine c_bk_goesOn p (by omega) (b p).toNat (by omega) e4 ?_
        rw [e3]
        have hf2 : FB M (if p % 4 = 3 then M1 else mu M1 (22 + p / 4) (p % 4) (goV p (b p))) := by
          split
          · exact hf
          · exact hf.tr (FB.b (by omega))
        refine ⟨fun c => ?_, fun c => ?_⟩
        · have h1 : goV p (b p) = -1 := by
            have := b01_0.mp c
            omega
          rw [if_pos h1] at hB'
          refine b_bk_readBorrowers_11 _ _ ⟨fun _ => stop _ p hf2 hB', fun _ => ⟨fun _ => stop _ p hf2 hB', fun c => absurd c (by omega)⟩⟩
        · have h1 : ¬ goV p (b p) = -1 := by
            by_cases h : ¬ goV p (b p) = -1
            · exact h
            · exact absurd (b01_0.mpr h) c
          rw [if_neg h1] at hB'
          rw [wi (by omega)]
          refine ih (p + 1) _ (by omega) hf2 (fun j hj h3 => ?_) hB'
          by_cases hj2 : j = p
          · subst hj2
            rw [if_neg h3, mu_eq]
          · have h9 := hv j (by omega) h3
            split
            · exact h9
            · by_cases h5 : 22 + j / 4 = 22 + p / 4
              · rw [h5, mu_k (by omega)]
                rw [h5] at h9
                exact h9
              · rw [mu_o h5]
                exact h9
  exact e_bk_readBorrowers (lp n 0 M (by omega) FB.rf (fun j hj => absurd hj (Nat.not_lt_zero j)) rfl)
end CRB
