/-! the law's cases: what all need -/
theorem rm_kz {J J' : MD} {k z K Z : Nat} {st : List PV} (h : rmOk J J' 0 0 st = true) (hk : k ≤ K) (hz : z ≤ Z) (e1 : J'.2.2.2.2.2.1 = 0 := by rfl) (e2 : J'.2.2.2.2.2.2.1 = 0 := by rfl) (e3 : J.2.2.2.2.2.1 = K := by rfl) (e4 : J.2.2.2.2.2.2.1 = Z := by rfl) : rmOk J J' k z st = true := by
  simp only [rmOk, Bool.and_eq_true, Nat.ble_eq] at h ⊢
  obtain ⟨⟨⟨⟨h1, h2⟩, h3⟩, h4⟩, h5⟩ := h
  exact ⟨⟨⟨⟨h1, h2⟩, by omega⟩, by omega⟩, h5⟩
def xa (G : GT) (i j : Nat) : Int := (G.2.2.2.2.2.2 (i + j)).toInt
theorem wij {i : Nat} (j : Nat) (h : i < 1000) (hj : j < 7) : w32 ((i : Int) + (j : Int)) = ((i + j : Nat) : Int) := by
  rw [w32_s (by omega) (by omega)]
  omega
theorem lw_arg {G : GT} {k z pc : Nat} {a b : PV} {i : Nat} {st : List PV} {n : Nat} {R : RT} {M : MT} {Q : QT} (j : Nat) (hj : j < 7) (d0 : decode code pc = .ok (.aload_n 0, 1)) (d1 : decode code (pc + 1) = .ok (.iload_n 3, 1)) (d2 : decode code (pc + 2) = .ok (.iconst (j : Int), 1)) (d3 : decode code (pc + 3) = .ok (.iadd, 1)) (d4 : decode code (pc + 4) = .ok (.iaload, 1)) (hi : i + 7 ≤ G.2.2.2.2.2.1) (hL : G.2.2.2.2.2.1 ≤ 448)
    (kk : Wp G J_lw_law k z (pc + 5) [(0, pR 1001), (1, a), (2, b), (3, pI (i : Int))] (pI (xa G i j) :: st) n R M Q) : Wp G J_lw_law k z pc [(0, pR 1001), (1, a), (2, b), (3, pI (i : Int))] st n R M Q := by
  refine wp_aload_n d0 rfl 0 rfl ?_
  refine wp_iload_n d1 rfl 3 rfl ?_
  refine wp_iconst d2 ⟨by omega, by omega⟩ ?_
  refine wp_iadd d3 ?_
  rw [wij j (by omega) hj]
  exact wp_sld d4 (by omega) (by omega) kk
theorem lw_argb {G : GT} {k z pc : Nat} {a b : PV} {i : Nat} {st : List PV} {n : Nat} {R : RT} {M : MT} {Q : QT} (j : Nat) (hj : j < 7) (d0 : decode code pc = .ok (.aload_n 0, 1)) (d1 : decode code (pc + 1) = .ok (.iload_n 3, 1)) (d2 : decode code (pc + 2) = .ok (.bipush (j : Int), 2)) (d3 : decode code (pc + 4) = .ok (.iadd, 1)) (d4 : decode code (pc + 5) = .ok (.iaload, 1)) (hi : i + 7 ≤ G.2.2.2.2.2.1) (hL : G.2.2.2.2.2.1 ≤ 448)
    (kk : Wp G J_lw_law k z (pc + 6) [(0, pR 1001), (1, a), (2, b), (3, pI (i : Int))] (pI (xa G i j) :: st) n R M Q) : Wp G J_lw_law k z pc [(0, pR 1001), (1, a), (2, b), (3, pI (i : Int))] st n R M Q := by
  refine wp_aload_n d0 rfl 0 rfl ?_
  refine wp_iload_n d1 rfl 3 rfl ?_
  refine wp_bipush d2 ⟨by omega, by omega⟩ (by
    have : j = 0 ∨ j = 1 ∨ j = 2 ∨ j = 3 ∨ j = 4 ∨ j = 5 ∨ j = 6 := by omega
    rcases this with e | e | e | e | e | e | e <;> subst e <;> decide) ?_
  refine wp_iadd d3 ?_
  rw [wij j (by omega) hj]
  exact wp_sld d4 (by omega) (by omega) kk
