/-! tests of ranges -/
def b01 (c : Prop) [Decidable c] : Int := if c then 1 else 0
theorem b01_t {c : Prop} [Decidable c] (h : c) : b01 c = 1 := if_pos h
theorem b01_f {c : Prop} [Decidable c] (h : ¬ c) : b01 c = 0 := if_neg h
theorem b01_01 (c : Prop) [Decidable c] : b01 c = 0 ∨ b01 c = 1 := by
  unfold b01
  split
  · exact Or.inr rfl
  · exact Or.inl rfl
theorem b01_0 {c : Prop} [Decidable c] : b01 c = 0 ↔ ¬ c := by
  unfold b01
  split
  · rename_i h
    exact ⟨fun e => absurd e (by decide), fun e => absurd h e⟩
  · rename_i h
    exact ⟨fun _ => h, fun _ => rfl⟩
section CTST
variable {G : GT} {M : MT} {P : Int → MT → Prop}
theorem c_tl_within (a b c : Int) (hp : P (b01 (b ≤ a ∧ a ≤ c)) M) : ClI G J_tl_within M [pI a, pI b, pI c] P := by
  refine e_tl_within _ _ _ ⟨fun h => ?_, fun h => ⟨fun h2 => ?_, fun h2 => ?_⟩⟩
  · rw [b01_f (by omega)] at hp
    exact hp
  · rw [b01_f (by omega)] at hp
    exact hp
  · rw [b01_t ⟨h, h2⟩] at hp
    exact hp
theorem c_mo_in (a b c : Int) (hp : P (b01 (b ≤ a ∧ a ≤ c)) M) : ClI G J_mo_in M [pL a, pL b, pL c] P := by
  refine e_mo_in _ _ _ ⟨fun h => ?_, fun h => ⟨fun h2 => ?_, fun h2 => ?_⟩⟩
  · rw [b01_f (by omega)] at hp
    exact hp
  · rw [b01_f (by omega)] at hp
    exact hp
  · rw [b01_t ⟨h, h2⟩] at hp
    exact hp
theorem c_tl_isText (a : Int) (hp : P (b01 (0 ≤ a ∧ a ≤ 1)) M) : ClI G J_tl_isText M [pI a] P := e_tl_isText a (c_tl_within _ _ _ ⟨b01_01 _, hp⟩)
theorem c_tl_isYear (a : Int) (hp : P (b01 (0 ≤ a ∧ a ≤ 39)) M) : ClI G J_tl_isYear M [pI a] P := e_tl_isYear a (c_tl_within _ _ _ ⟨b01_01 _, hp⟩)
theorem c_tl_isEar (a : Int) (hp : P (b01 (0 ≤ a ∧ a ≤ 12)) M) : ClI G J_tl_isEar M [pI a] P := e_tl_isEar a (c_tl_within _ _ _ ⟨b01_01 _, hp⟩)
theorem c_tl_isSheet (a : Int) (hp : P (b01 (0 ≤ a ∧ a ≤ 3)) M) : ClI G J_tl_isSheet M [pI a] P := e_tl_isSheet a (c_tl_within _ _ _ ⟨b01_01 _, hp⟩)
theorem c_tl_isForm (a : Int) (hp : P (b01 (0 ≤ a ∧ a ≤ 2)) M) : ClI G J_tl_isForm M [pI a] P := e_tl_isForm a (c_tl_within _ _ _ ⟨b01_01 _, hp⟩)
theorem c_mo_isTwo (a : Int) (hp : P (b01 (0 ≤ a ∧ a ≤ 1)) M) : ClI G J_mo_isTwo M [pI a] P := e_mo_isTwo a (c_mo_in _ _ _ ⟨b01_01 _, hp⟩)
theorem c_mo_isYear (a : Int) (hp : P (b01 (0 ≤ a ∧ a ≤ 39)) M) : ClI G J_mo_isYear M [pI a] P := e_mo_isYear a (c_mo_in _ _ _ ⟨b01_01 _, hp⟩)
theorem c_mo_isSheet (a : Int) (hp : P (b01 (0 ≤ a ∧ a ≤ 3)) M) : ClI G J_mo_isSheet M [pI a] P := e_mo_isSheet a (c_mo_in _ _ _ ⟨b01_01 _, hp⟩)
theorem c_tl_isTune (n : Nat) (hn : n ≤ 6) (hm : M 1 4 = (n : Int)) (a : Int) (hp : P (b01 (0 ≤ a ∧ a < (n : Int))) M) : ClI G J_tl_isTune M [pR 0, pI a] P := by
  refine e_tl_isTune a ?_
  rw [hm, w32_s (by omega) (by omega)]
  have e : b01 (0 ≤ a ∧ a ≤ (n : Int) - 1) = b01 (0 ≤ a ∧ a < (n : Int)) := by
    by_cases h : 0 ≤ a ∧ a < (n : Int)
    · rw [b01_t h, b01_t (by omega)]
    · rw [b01_f h, b01_f (by omega)]
  refine c_tl_within _ _ _ ⟨b01_01 _, ?_⟩
  rw [e]
  exact hp
theorem c_tl_isBorrower (n : Nat) (hn : n ≤ 6) (hm : M 1 5 = (n : Int)) (a : Int) (hp : P (b01 (0 ≤ a ∧ a < (n : Int))) M) : ClI G J_tl_isBorrower M [pR 0, pI a] P := by
  refine e_tl_isBorrower a ?_
  rw [hm, w32_s (by omega) (by omega)]
  have e : b01 (0 ≤ a ∧ a ≤ (n : Int) - 1) = b01 (0 ≤ a ∧ a < (n : Int)) := by
    by_cases h : 0 ≤ a ∧ a < (n : Int)
    · rw [b01_t h, b01_t (by omega)]
    · rw [b01_f h, b01_f (by omega)]
  refine c_tl_within _ _ _ ⟨b01_01 _, ?_⟩
  rw [e]
  exact hp
theorem c_mo_isTune (n : Nat) (hn : n ≤ 6) (hm : M 101 7 = (n : Int)) (a : Int) (hp : P (b01 (0 ≤ a ∧ a < (n : Int))) M) : ClI G J_mo_isTune M [pR 101, pI a] P := by
  refine e_mo_isTune a ?_
  rw [hm, w32_s (by omega) (by omega)]
  have e : b01 (0 ≤ a ∧ a ≤ (n : Int) - 1) = b01 (0 ≤ a ∧ a < (n : Int)) := by
    by_cases h : 0 ≤ a ∧ a < (n : Int)
    · rw [b01_t h, b01_t (by omega)]
    · rw [b01_f h, b01_f (by omega)]
  refine c_mo_in _ _ _ ⟨b01_01 _, ?_⟩
  rw [e]
  exact hp
theorem c_mo_isBorrower (n : Nat) (hn : n ≤ 6) (hm : M 101 10 = (n : Int)) (a : Int) (hp : P (b01 (0 ≤ a ∧ a < (n : Int))) M) : ClI G J_mo_isBorrower M [pR 101, pI a] P := by
  refine e_mo_isBorrower a ?_
  rw [hm, w32_s (by omega) (by omega)]
  have e : b01 (0 ≤ a ∧ a ≤ (n : Int) - 1) = b01 (0 ≤ a ∧ a < (n : Int)) := by
    by_cases h : 0 ≤ a ∧ a < (n : Int)
    · rw [b01_t h, b01_t (by omega)]
    · rw [b01_f h, b01_f (by omega)]
  refine c_mo_in _ _ _ ⟨b01_01 _, ?_⟩
  rw [e]
  exact hp
theorem c_tl_found (v : Int) (h0 : 0 ≤ v) (h1 : v ≤ 100) (hp : P (-10 - v) (mu M 0 7 v)) : ClI G J_tl_found M [pR 0, pI v] P := by
  refine e_tl_found v ?_
  rintro M1 rfl
  rw [w32_s (by omega) (by omega)]
  exact hp
theorem c_mo_finds (v : Int) (h0 : 0 ≤ v) (h1 : v ≤ 100) (hp : P (-10 - v) (mu M 101 4 v)) : ClI G J_mo_finds M [pR 101, pI v] P := by
  refine e_mo_finds v ?_
  rintro M1 rfl
  rw [w32_s (by omega) (by omega)]
  exact hp
end CTST
