/-! the tunes' text, as the model reads it -/
def FMT (M M' : MT) : Prop := ∀ q k, q ≠ 108 → q ≠ 109 → ¬ (q = 101 ∧ k = 7) → M' q k = M q k
theorem FMT.rf {M : MT} : FMT M M := fun _ _ _ _ _ => rfl
theorem FMT.tr {M M' M'' : MT} (h : FMT M M') (h' : FMT M' M'') : FMT M M'' := fun q k a b c => (h' q k a b c).trans (h q k a b c)
theorem FMT.t {M : MT} {k : Nat} {v : Int} : FMT M (mu M 108 k v) := fun q j a _ _ => mu_o a
theorem FMT.l {M : MT} {k : Nat} {v : Int} : FMT M (mu M 109 k v) := fun q j _ a _ => mu_o a
theorem FMT.n {M : MT} {v : Int} : FMT M (mu M 101 7 v) := fun q j _ _ b => by
  unfold mu
  rw [if_neg b]
section CMRT
variable {G : GT} {M : MT}
theorem c_mo_readsTunes {P : Int → MT → Prop} (b : Nat → Int) (n : Nat) (hn : n ≤ 59) (hs : M 107 0 = (n : Int)) (hb : ∀ k, k < n → M 106 k = b k ∧ 0 ≤ b k ∧ b k < 256)
    (hp : ∀ M', FMT M M' → M' 101 7 = ((tF b n 0 0 (fun _ => [])).2.1 : Int) → (∀ j, j < (tF b n 0 0 (fun _ => [])).2.1 → j < 6 ∧ TD M' j ((tF b n 0 0 (fun _ => [])).2.2 j)) → P (tF b n 0 0 (fun _ => [])).1 M') : ClI G J_mo_readsTunes M [pR 101] P := by
  generalize hR : tF b n 0 0 (fun _ => []) = R at hp
  have tf : ∀ (M1 : MT) (p : Nat), FMT M M1 → R = ((p : Int), 0, R.2.2) → P (p : Int) (mu M1 101 7 0) := by
    intro M1 p hf hr
    have r1 : R.1 = (p : Int) := by rw [hr]
    have r2 : R.2.1 = 0 := by rw [hr]
    have h := hp (mu M1 101 7 0) (hf.tr FMT.n) (by rw [mu_eq, r2]; rfl) (fun j hj => absurd hj (by rw [r2]; omega))
    rw [r1] at h
    exact h
  have lp : ∀ (d p t : Nat) (T : Nat → List Int) (M1 : MT), p + d = n → t ≤ p → FMT M M1 → tI t T → M1 101 7 = (t : Int) → (∀ j, j < 6 → SL M1 108 (40 * j) (T j)) → (∀ j, j < t → M1 109 j = ((T j).length : Int)) → tF b d p t T = R → WpI G J_mo_readsTunes 9 [(0, pR 101), (1, pI ((T t).length : Int)), (2, pI (p : Int))] [] M1 P := by
    intro d
    induction d with
    | zero =>
      intro p t T M1 hpd htp hf hi ht hS hL hF
      have e1 : M1 107 0 = (n : Int) := (hf 107 0 (by decide) (by decide) (by decide)).trans hs
      have hF' : (if (T t).length = 0 then (if p = 0 then (-1, 0, T) else ((p : Int), 0, T)) else (-1, t + 1, T)) = R := hF
      refine b_mo_readsTunes_9 _ _ ⟨fun _ => ⟨fun c => ?_, fun c => ⟨fun c2 => ?_, fun c2 => ?_⟩⟩, fun c => by rw [e1] at c; omega⟩
      · rw [if_neg (by omega)] at hF'
        subst hF'
        have ht6 : t < 6 := by
          rcases Nat.lt_or_ge t 6 with h | h
          · exact h
          · have h6 : t = 6 := by have := hi.1; omega
            rw [h6, hi.2.2.1 h6] at c
            exact absurd rfl c
        rw [ht, tN]
        refine ⟨⟨by omega, by omega⟩, ?_⟩
        rintro M2 rfl M3 rfl
        refine hp _ ((hf.tr FMT.l).tr FMT.n) ?_ (fun j hj => ?_)
        · rw [mu_eq, mu_o (by decide), ht, wi (by omega)]
        · have hj' : j < t + 1 := hj
          refine ⟨by omega, ?_, fun k hk => ?_⟩
          · rw [mu_o (by decide)]
            by_cases hjt : j = t
            · rw [hjt, mu_eq]
            · rw [mu_k hjt]
              exact hL j (by omega)
          · rw [mu_o (by decide), mu_o (by decide)]
            exact hS j (by omega) k hk
      · rw [if_pos (by omega)] at hF'
        rw [e1] at c2 ⊢
        rw [if_neg (by omega), show p = n by omega] at hF'
        refine e_mo_tunesFault _ ?_
        rintro M2 rfl
        exact tf M1 n hf (by rw [← hF'])
      · rw [if_pos (by omega)] at hF'
        rw [e1] at c2
        rw [if_pos (by omega)] at hF'
        subst hF'
        exact hp M1 hf (by rw [ht, show t = 0 by omega]) (fun j hj => absurd hj (Nat.not_lt_zero j))
    | succ d ih =>
      intro p t T M1 hpd htp hf hi ht hS hL hF
      have e1 : M1 107 0 = (n : Int) := (hf 107 0 (by decide) (by decide) (by decide)).trans hs
      have hbp := hb p (by omega)
      have e4 : M1 106 p = b p := (hf 106 p (by decide) (by decide) (fun e => absurd e.1 (by decide))).trans hbp.1
      have hle := hi.2.2.2 t
      have hF' : (if (97 ≤ b p ∧ b p ≤ 103) ∧ t < 6 ∧ (T t).length < 12 then tF b d (p + 1) t (fu T t (T t ++ [b p - 97])) else if b p = 59 ∧ 0 < (T t).length then tF b d (p + 1) (t + 1) T else ((p : Int), 0, T)) = R := hF
      have bad : ¬ ((97 ≤ b p ∧ b p ≤ 103) ∧ t < 6 ∧ (T t).length < 12) → ¬ (b p = 59 ∧ 0 < (T t).length) → ClI G J_mo_tunesFault M1 [pR 101, pI (p : Int)] (fun x M2 => P x M2) := by
        intro h1 h2
        rw [if_neg h1, if_neg h2] at hF'
        refine e_mo_tunesFault _ ?_
        rintro M2 rfl
        exact tf M1 p hf (by rw [← hF'])
      refine b_mo_readsTunes_9 _ _ ⟨fun c => by rw [e1] at c; omega, fun _ => ⟨⟨by omega, by omega⟩, ?_⟩⟩
      rw [tN, e4]
      refine ⟨fun c => c_mo_in _ _ _ ⟨fun c2 => ?_, fun c2 => ⟨fun c3 => ?_, fun c3 => ⟨fun c4 => ?_, fun c4 => ?_⟩⟩⟩, fun c => ⟨fun c2 => ?_, fun c2 => ?_⟩⟩
      · have h := b01_0.mp c2
        exact bad (fun z => h z.1) (fun z => c z.1)
      · exact bad (fun z => by omega) (fun z => c z.1)
      · have hnote : 97 ≤ b p ∧ b p ≤ 103 := by
          by_cases h : 97 ≤ b p ∧ b p ≤ 103
          · exact h
          · exact absurd (b01_0.mpr h) c2
        rw [ht] at c4 ⊢
        have ht6 : t < 6 := by have := hi.1; omega
        rw [if_pos ⟨hnote, ht6, by omega⟩] at hF'
        have e6 : ((T t).length : Int) + 1 = ((T t ++ [b p - 97]).length : Int) := by simp
        refine ⟨⟨by rw [ix40 (by omega) (by omega)]; omega, by rw [ix40 (by omega) (by omega)]; omega⟩, ?_⟩
        rintro M2 rfl
        rw [ix40 (by omega) (by omega), tN, w32_s (x := b p - 97) (by omega) (by omega), w32_s (x := ((T t).length : Int) + 1) (by omega) (by omega), e6, wi (by omega)]
        have hnext := ih (p + 1) t (fu T t (T t ++ [b p - 97])) (mu M1 108 (40 * t + (T t).length) (b p - 97)) (by omega) (by omega) (hf.tr FMT.t) ⟨hi.1, fun j hj => by rw [fu_ne (by omega)]; exact hi.2.1 j hj, fun h => by omega, fun j => ?_⟩ (by rw [mu_o (by decide)]; exact ht) (fun j hj => ?_) (fun j hj => ?_) hF'
        · rw [fu_eq] at hnext
          exact hnext
        · by_cases hjt : j = t
          · rw [hjt, fu_eq, List.length_append, List.length_singleton]
            omega
          · rw [fu_ne hjt]
            exact hi.2.2.2 j
        · by_cases hjt : j = t
          · rw [hjt, fu_eq]
            exact (hS t ht6).push
          · rw [fu_ne hjt]
            intro k hk
            have := hi.2.2.2 j
            rw [mu_k (by omega)]
            exact hS j hj k hk
        · rw [mu_o (by decide), fu_ne (by omega)]
          exact hL j hj
      · rw [ht] at c4
        exact bad (fun z => by omega) (fun z => c z.1)
      · have ht6 : t < 6 := by
          rcases Nat.lt_or_ge t 6 with h | h
          · exact h
          · have h6 : t = 6 := by have := hi.1; omega
            rw [h6, hi.2.2.1 h6] at c2
            exact absurd rfl c2
        rw [if_neg (by omega), if_pos ⟨c, by omega⟩] at hF'
        rw [ht, tN]
        refine ⟨⟨by omega, by omega⟩, ?_⟩
        rintro M2 rfl M3 rfl
        rw [wi (by omega), mu_o (by decide), ht, wi (by omega)]
        have hnext := ih (p + 1) (t + 1) T (mu (mu M1 109 t ((T t).length : Int)) 101 7 ((t + 1 : Nat) : Int)) (by omega) (by omega) ((hf.tr FMT.l).tr FMT.n) ⟨by omega, fun j hj => hi.2.1 j (by omega), fun _ => hi.2.1 6 (by omega), hi.2.2.2⟩ (mu_eq _ _ _ _) (fun j hj k hk => by rw [mu_o (by decide), mu_o (by decide)]; exact hS j hj k hk) (fun j hj => ?_) hF'
        · rw [hi.2.1 (t + 1) (by omega)] at hnext
          exact hnext
        · rw [mu_o (by decide)]
          by_cases hjt : j = t
          · rw [hjt, mu_eq]
          · rw [mu_k hjt]
            exact hL j (by omega)
      · exact bad (fun z => by omega) (fun z => by omega)
  refine e_mo_readsTunes ?_
  rintro M1 rfl
  exact lp n 0 0 _ _ (by omega) (Nat.le_refl _) FMT.n ⟨by omega, fun _ _ => rfl, fun _ => rfl, fun _ => Nat.zero_le _⟩ (mu_eq _ _ _ _) (fun j _ i hi => absurd hi (Nat.not_lt_zero i)) (fun j hj => absurd hj (Nat.not_lt_zero j)) hR
end CMRT
