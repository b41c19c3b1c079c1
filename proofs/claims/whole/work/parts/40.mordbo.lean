/-! the borrowers' text, as the model reads it -/
def FMB (M M' : MT) : Prop := ∀ q k, q ≠ 110 → ¬ (q = 101 ∧ k = 10) → M' q k = M q k
theorem FMB.rf {M : MT} : FMB M M := fun _ _ _ _ => rfl
theorem FMB.tr {M M' M'' : MT} (h : FMB M M') (h' : FMB M' M'') : FMB M M'' := fun q k a b => (h' q k a b).trans (h q k a b)
theorem FMB.h {M : MT} {k : Nat} {v : Int} : FMB M (mu M 110 k v) := fun q j a _ => mu_o a
theorem FMB.n {M : MT} {v : Int} : FMB M (mu M 101 10 v) := fun q j _ b => by
  unfold mu
  rw [if_neg b]
section CMRB
variable {G : GT} {M : MT}
theorem c_mo_readsBorrowers {P : Int → MT → Prop} (b : Nat → Int) (n : Nat) (hn : n ≤ 23) (hs : M 107 1 = (n : Int)) (hb : ∀ k, k < n → M 106 (60 + k) = b k ∧ 0 ≤ b k ∧ b k < 256)
    (hp : ∀ M', FMB M M' → M' 101 10 = (if bF b n 0 = -1 then (((n + 1) / 4 : Nat) : Int) else 0) → (bF b n 0 = -1 → ∀ j, j < n → ¬ j % 4 = 3 → M' 110 (3 * (j / 4) + j % 4) = goV j (b j)) → P (bF b n 0) M') : ClI G J_mo_readsBorrowers M [pR 101] P := by
  have lp : ∀ (d p : Nat) (M1 : MT), p + d = n → FMB M M1 → M1 101 10 = (((p + 1) / 4 : Nat) : Int) → (∀ j, j < p → ¬ j % 4 = 3 → M1 110 (3 * (j / 4) + j % 4) = goV j (b j)) → bF b d p = bF b n 0 → WpI G J_mo_readsBorrowers 14 [(0, pR 101), (1, pI (n : Int)), (2, pI (p : Int))] [] M1 P := by
    intro d
    induction d with
    | zero =>
      intro p M1 hpd hf hc hv hB
      have hpn : p = n := by omega
      subst hpn
      have e2 : w32 (Int.tmod (p : Int) 4) = ((p % 4 : Nat) : Int) := by
        rw [Int.tmod_eq_emod_of_nonneg (by omega), w32_s (by omega) (by omega)]
        omega
      have hB' : (if 0 < p ∧ ¬ p % 4 = 3 then (p : Int) else -1) = bF b p 0 := hB
      refine b_mo_readsBorrowers_14 _ _ ⟨fun _ => b_mo_readsBorrowers_157 _ ⟨fun c => ?_, fun c => ⟨fun c2 => ?_, fun c2 => ?_⟩⟩, fun c => absurd c (by omega)⟩
      · rw [e2] at c
        rw [if_neg (by omega)] at hB'
        have h := hp M1 hf (by rw [if_pos hB'.symm]; exact hc) (fun _ => hv)
        rw [← hB'] at h
        exact h
      · rw [if_neg (by omega)] at hB'
        have h := hp M1 hf (by rw [if_pos hB'.symm]; exact hc) (fun _ => hv)
        rw [← hB'] at h
        exact h
      · rw [e2] at c
        rw [if_pos (by omega)] at hB'
        rintro M2 rfl
        have h := hp (mu M1 101 10 0) (hf.tr FMB.n) (by rw [mu_eq, if_neg (by omega)]) (fun e => absurd e (by omega))
        rw [← hB'] at h
        exact h
    | succ d ih =>
      intro p M1 hpd hf hc hv hB
      have hbp := hb p (by omega)
      have e2 : w32 (Int.tmod (p : Int) 4) = ((p % 4 : Nat) : Int) := by
        rw [Int.tmod_eq_emod_of_nonneg (by omega), w32_s (by omega) (by omega)]
        omega
      have e1 : w32 (Int.tdiv (p : Int) 4) = ((p / 4 : Nat) : Int) := by
        rw [Int.tdiv_eq_ediv_of_nonneg (by omega), w32_s (by omega) (by omega)]
        omega
      have e3 : w32 (60 + (p : Int)) = ((60 + p : Nat) : Int) := by
        rw [w32_s (by omega) (by omega)]
        omega
      have e4 : M1 106 (60 + p) = b p := (hf 106 _ (by decide) (fun e => absurd e.1 (by decide))).trans hbp.1
      have e5 : w32 (w32 (3 * ((p / 4 : Nat) : Int)) + ((p % 4 : Nat) : Int)) = ((3 * (p / 4) + p % 4 : Nat) : Int) := by
        rw [ix3 (by omega), w32_s (by omega) (by omega)]
        omega
      have hB' : (if goV p (b p) = -1 then (p : Int) else bF b d (p + 1)) = bF b n 0 := hB
      have key : WpI G J_mo_readsBorrowers 91 [(0, pR 101), (1, pI (n : Int)), (2, pI (p : Int)), (4, pI ((p % 4 : Nat) : Int)), (5, pI (goV p (b p)))] [] M1 P := by
        refine b_mo_readsBorrowers_91 _ _ _ _ ⟨fun c => ?_, fun c => ⟨fun _ => ⟨fun c3 => ⟨fun c2 => ?_, fun c2 => absurd c2 (by omega)⟩, fun c3 => ⟨?_, ?_⟩⟩, fun c2 => absurd c2 (by omega)⟩⟩
        · rw [if_pos c] at hB'
          rintro M2 rfl
          have h := hp (mu M1 101 10 0) (hf.tr FMB.n) (by rw [mu_eq, if_neg (by omega)]) (fun e => absurd e (by omega))
          rw [← hB'] at h
          exact h
        · rw [if_neg c] at hB'
          rintro M2 rfl
          rw [wi (by omega)]
          refine ih (p + 1) _ (by omega) (hf.tr FMB.n) ?_ (fun j hj h3 => ?_) hB'
          · rw [mu_eq, hc, w32_s (by omega) (by omega)]
            omega
          · rw [mu_o (by decide)]
            exact hv j (by omega) h3
        · rw [e1, e5]
          omega
        · rw [if_neg c] at hB'
          rintro M2 rfl
          rw [e1, e5, tN]
          have hv2 : ∀ j, j < p + 1 → ¬ j % 4 = 3 → mu M1 110 (3 * (p / 4) + p % 4) (goV p (b p)) 110 (3 * (j / 4) + j % 4) = goV j (b j) := by
            intro j hj h3
            by_cases hj2 : j = p
            · rw [hj2, mu_eq]
            · rw [mu_k (by omega)]
              exact hv j (by omega) h3
          refine ⟨fun c2 => ?_, fun c2 => ?_⟩
          · rintro M3 rfl
            rw [wi (by omega)]
            refine ih (p + 1) _ (by omega) ((hf.tr FMB.h).tr FMB.n) ?_ (fun j hj h3 => ?_) hB'
            · rw [mu_eq, mu_o (by decide), hc, w32_s (by omega) (by omega)]
              omega
            · rw [mu_o (by decide)]
              exact hv2 j hj h3
          · rintro M3 rfl
            rw [wi (by omega)]
            refine ih (p + 1) _ (by omega) ((hf.tr FMB.h).tr FMB.n) ?_ (fun j hj h3 => ?_) hB'
            · rw [mu_eq, mu_o (by decide), hc, wi (by omega)]
              omega
            · rw [mu_o (by decide)]
              exact hv2 j hj h3
      refine b_mo_readsBorrowers_14 _ _ ⟨fun c => absurd c (by omega), fun _ => ⟨by rw [e3]; omega, ?_⟩⟩
      rw [e2, e3, tN, e4]
      unfold goV at key
      refine ⟨fun c => ⟨fun c2 => ?_, fun c2 => ?_⟩, fun c => ⟨fun c2 => ?_, fun c2 => ?_⟩⟩
      · rw [if_neg (by omega), if_neg (by omega)] at key
        unfold noteN at key
        refine c_mo_in _ _ _ ⟨fun c3 => ?_, fun c3 => ?_⟩
        · rw [if_neg (b01_0.mp c3)] at key
          exact key
        · have h : 97 ≤ b p ∧ b p ≤ 103 := by
            by_cases h : 97 ≤ b p ∧ b p ≤ 103
            · exact h
            · exact absurd (b01_0.mpr h) c3
          rw [if_pos h] at key
          rw [w32_s (by omega) (by omega)]
          exact key
      · rw [if_neg (by omega), if_pos (by omega)] at key
        exact c_mo_howOf _ key
      · rw [if_pos (by omega), if_neg c2] at key
        exact key
      · rw [if_pos (by omega), if_pos c2] at key
        exact key
  refine e_mo_readsBorrowers ?_
  rintro M1 rfl
  rw [mu_o (by decide), hs]
  exact lp n 0 _ (by omega) FMB.n (mu_eq _ _ _ _) (fun j hj => absurd hj (Nat.not_lt_zero j)) rfl
end CMRB
