/-! a sheet of the class -/
def cutN (f v : Int) : Int := if f = 0 then i2b v else if f = 1 then i2s v else v
section CSH
variable {G : GT} {M : MT}
theorem c_sh_isLost {P : Int → MT → Prop} (o : Nat) (f : SE o) (hp : P (b01 (M o 1 = -1)) M) : ClI G J_sh_isLost M [pR o] P := by
  refine e_sh_isLost o f ⟨fun c => ?_, fun c => ?_⟩
  · rw [b01_f c] at hp
    exact hp
  · rw [b01_t c] at hp
    exact hp
theorem c_mo_cut {P : Int → MT → Prop} (f v : Int) (hp : P (cutN f v) M) : ClI G J_mo_cut M [pI f, pI v] P := by
  unfold cutN at hp
  refine e_mo_cut f v ⟨fun c => ⟨fun c2 => ?_, fun c2 => ?_⟩, fun c => ?_⟩
  · rw [if_neg c, if_neg c2] at hp
    exact hp
  · rw [if_neg c, if_pos c2] at hp
    exact hp
  · rw [if_pos c] at hp
    exact hp
theorem c_sh_put {P : MT → Prop} (o : Nat) (f : SE o) (i : Nat) (hi : i < 60) (v : Int) (hp : P (mu M (o + 1) i (cutN (M o 1) v))) : ClV G J_sh_put M [pR o, pI (i : Int), pI v] P := by
  unfold cutN at hp
  refine e_sh_put o f _ _ ⟨fun c => ⟨fun c2 => ⟨⟨by omega, by omega⟩, ?_⟩, fun c2 => ⟨⟨by omega, by omega⟩, ?_⟩⟩, fun c => ⟨⟨by omega, by omega⟩, ?_⟩⟩
  · rintro M1 rfl
    rw [if_neg c, if_neg c2] at hp
    rw [tN]
    exact hp
  · rintro M1 rfl
    rw [if_neg c, if_pos c2] at hp
    rw [tN]
    exact hp
  · rintro M1 rfl
    rw [if_pos c] at hp
    rw [tN]
    exact hp
theorem c_sh_begin {P : MT → Prop} (o : Nat) (f : SE o) (fm n : Int) (hp : ∀ M', Fr [o, o + 1] M M' → M' o 1 = fm → M' o 2 = n → (∀ k, k < 60 → M' (o + 1) k = 0) → P M') : ClV G J_sh_begin M [pR o, pI fm, pI n] P := by
  have lp : ∀ (d i : Nat) (M1 : MT), i + d = 60 → Fr [o, o + 1] M M1 → M1 o 1 = fm → M1 o 2 = n → (∀ k, k < i → M1 (o + 1) k = 0) → WpV G J_sh_begin 12 [(0, pR o), (3, pI (i : Int))] [] M1 P := by
    intro d
    induction d with
    | zero =>
      intro i M1 hi hf h1 h2 hz
      exact b_sh_begin_12 o f _ ⟨fun _ => hp M1 hf h1 h2 (fun k hk => hz k (by omega)), fun c => absurd c (by omega)⟩
    | succ d ih =>
      intro i M1 hi hf h1 h2 hz
      refine b_sh_begin_12 o f _ ⟨fun c => absurd c (by omega), fun _ => ⟨⟨by omega, by omega⟩, ?_⟩⟩
      rintro M2 rfl
      rw [tN, wi (by omega)]
      refine ih (i + 1) _ (by omega) (hf.tr (Fr.mu1 (by simp))) (by rw [mu_o (by omega)]; exact h1) (by rw [mu_o (by omega)]; exact h2) (fun k hk => ?_)
      by_cases hc : k = i
      · rw [hc, mu_eq]
      · rw [mu_k hc]
        exact hz k (by omega)
  refine e_sh_begin o f _ _ ?_
  rintro M1 rfl M2 rfl
  exact lp 60 0 _ (by omega) ((Fr.mu1 (by simp)).tr (Fr.mu1 (by simp))) (by rw [mu_k (by decide), mu_eq]) (mu_eq _ _ _ _) (fun k hk => absurd hk (Nat.not_lt_zero k))
theorem c_sh_hasSpan {P : Int → MT → Prop} (o : Nat) (f : SE o) (i n : Int) (sz : Nat) (hs : M o 2 = (sz : Int)) (hz : sz ≤ 60) (hp : P (b01 (0 ≤ i ∧ 0 ≤ n ∧ i + n ≤ (sz : Int))) M) : ClI G J_sh_hasSpan M [pR o, pI i, pI n] P := by
  refine e_sh_hasSpan o f _ _ ⟨fun c => ?_, fun c => ⟨fun c2 => ?_, fun c2 => ?_⟩⟩
  · rw [b01_f (by omega)] at hp
    exact hp
  · rw [b01_f (by omega)] at hp
    exact hp
  · rw [hs]
    refine ⟨fun c3 => ?_, fun c3 => ⟨fun c4 => ?_, fun c4 => ?_⟩⟩
    · rw [b01_f (by omega)] at hp
      exact hp
    · rw [w32_s (by omega) (by omega)] at c4
      rw [b01_f (by omega)] at hp
      exact hp
    · rw [w32_s (by omega) (by omega)] at c4
      rw [b01_t (by omega)] at hp
      exact hp
end CSH
