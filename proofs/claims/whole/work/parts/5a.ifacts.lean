/-! facts of the cells of the constructors -/
theorem BU.skip {S : List Nat} {pd : Nat → Nat} {E : MT} {a n : Nat} {R0 R : RT} {M0 M : MT} (h : BU S pd E a n R0 M0 R M) (o f : Nat) (ho : o ∈ S) (hf : pd o = f) (hr : RF o f = none) : BU S (fu pd o (f + 1)) E a n R0 M0 R M := by
  refine ⟨h.1, h.2.1, fun q hq => ⟨(h.2.2 q hq).1, fun k => ⟨?_, ((h.2.2 q hq).2 k).2⟩⟩⟩
  by_cases e : q = o
  · rw [e, fu_eq, ((h.2.2 o ho).2 k).1, hf]
    by_cases e2 : k = f
    · rw [e2, if_neg (by omega), if_pos (by omega), hr]
    · by_cases e3 : k < f
      · rw [if_pos e3, if_pos (by omega)]
      · rw [if_neg e3, if_neg (by omega)]
  · rw [fu_ne e]
    exact ((h.2.2 q hq).2 k).1
theorem mi_sh93 (k : Nat) : MI 93 k = if k = 1 then -1 else 0 := by
  unfold MI
  rw [if_neg (by omega), if_neg (by omega)]
  by_cases e : k = 1
  · rw [if_pos (by omega), if_pos e]
  · rw [if_neg (by omega), if_neg (by omega), if_neg (by omega), if_neg (by omega), if_neg e]
theorem mi_sh95 (k : Nat) : MI 95 k = if k = 1 then -1 else 0 := by
  unfold MI
  rw [if_neg (by omega), if_neg (by omega)]
  by_cases e : k = 1
  · rw [if_pos (by omega), if_pos e]
  · rw [if_neg (by omega), if_neg (by omega), if_neg (by omega), if_neg (by omega), if_neg e]
theorem mi_sh97 (k : Nat) : MI 97 k = if k = 1 then -1 else 0 := by
  unfold MI
  rw [if_neg (by omega), if_neg (by omega)]
  by_cases e : k = 1
  · rw [if_pos (by omega), if_pos e]
  · rw [if_neg (by omega), if_neg (by omega), if_neg (by omega), if_neg (by omega), if_neg e]
theorem mi_sh99 (k : Nat) : MI 99 k = if k = 1 then -1 else 0 := by
  unfold MI
  rw [if_neg (by omega), if_neg (by omega)]
  by_cases e : k = 1
  · rw [if_pos (by omega), if_pos e]
  · rw [if_neg (by omega), if_neg (by omega), if_neg (by omega), if_neg (by omega), if_neg e]
theorem mi_tx6 (k : Nat) : MI 6 k = if k = 2 then -1 else 0 := by
  unfold MI
  by_cases e : k = 2
  · rw [if_pos (by omega), if_pos e]
  · rw [if_neg (by omega), if_neg (by omega), if_neg (by omega), if_neg (by omega), if_neg (by omega), if_neg (by omega), if_neg e]
theorem mi_tx8 (k : Nat) : MI 8 k = if k = 2 then -1 else 0 := by
  unfold MI
  by_cases e : k = 2
  · rw [if_pos (by omega), if_pos e]
  · rw [if_neg (by omega), if_neg (by omega), if_neg (by omega), if_neg (by omega), if_neg (by omega), if_neg (by omega), if_neg e]
theorem rf_hi0 : ∀ k, 6 ≤ k → RF 0 k = none := by
  intro k h
  obtain ⟨j, rfl⟩ : ∃ j, k = 6 + j := ⟨k - 6, by omega⟩
  rw [Nat.add_comm]
  rfl
theorem rf_hi1 : ∀ k, 4 ≤ k → RF 1 k = none := by
  intro k h
  obtain ⟨j, rfl⟩ : ∃ j, k = 4 + j := ⟨k - 4, by omega⟩
  rw [Nat.add_comm]
  rfl
theorem rf_hi2 : ∀ k, 2 ≤ k → RF 2 k = none := by
  intro k h
  show (if k < 2 then _ else none) = none
  exact if_neg (by omega)
theorem rf_hi3 : ∀ k, 6 ≤ k → RF 3 k = none := by
  intro k h
  show (if k < 6 then _ else none) = none
  exact if_neg (by omega)
theorem rf_hi4 : ∀ k, 6 ≤ k → RF 4 k = none := by
  intro k h
  show (if k < 6 then _ else none) = none
  exact if_neg (by omega)
theorem rf_hi5 : ∀ k, 12 ≤ k → RF 5 k = none := by
  intro k h
  show (if k < 12 then _ else none) = none
  exact if_neg (by omega)
theorem rf_hi40 : ∀ k, 7 ≤ k → RF 40 k = none := by
  intro k h
  obtain ⟨j, rfl⟩ : ∃ j, k = 7 + j := ⟨k - 7, by omega⟩
  rw [Nat.add_comm]
  rfl
theorem rf_hi41 : ∀ k, 6 ≤ k → RF 41 k = none := by
  intro k h
  show (if k < 6 then _ else none) = none
  exact if_neg (by omega)
theorem rf_hi42 : ∀ k, 6 ≤ k → RF 42 k = none := by
  intro k h
  show (if k < 6 then _ else none) = none
  exact if_neg (by omega)
theorem rf_hi73 : ∀ k, 2 ≤ k → RF 73 k = none := by
  intro k h
  obtain ⟨j, rfl⟩ : ∃ j, k = 2 + j := ⟨k - 2, by omega⟩
  rw [Nat.add_comm]
  rfl
theorem rf_hi74 : ∀ k, 4 ≤ k → RF 74 k = none := by
  intro k h
  show (if k < 4 then _ else none) = none
  exact if_neg (by omega)
theorem rf_hi84 : ∀ k, 1 ≤ k → RF 84 k = none := by
  intro k h
  obtain ⟨j, rfl⟩ : ∃ j, k = 1 + j := ⟨k - 1, by omega⟩
  rw [Nat.add_comm]
  rfl
theorem rf_hi86 : ∀ k, 3 ≤ k → RF 86 k = none := by
  intro k h
  obtain ⟨j, rfl⟩ : ∃ j, k = 3 + j := ⟨k - 3, by omega⟩
  rw [Nat.add_comm]
  rfl
theorem rf_hi92 : ∀ k, 4 ≤ k → RF 92 k = none := by
  intro k h
  show (if k < 4 then _ else none) = none
  exact if_neg (by omega)
theorem rf_hi101 : ∀ k, 26 ≤ k → RF 101 k = none := by
  intro k h
  obtain ⟨j, rfl⟩ : ∃ j, k = 26 + j := ⟨k - 26, by omega⟩
  rw [Nat.add_comm]
  rfl
theorem rf_hi102 : ∀ k, 0 ≤ k → RF 102 k = none := by
  intro k h
  obtain ⟨j, rfl⟩ : ∃ j, k = 0 + j := ⟨k - 0, by omega⟩
  rw [Nat.add_comm]
  rfl
