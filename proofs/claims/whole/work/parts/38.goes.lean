/-! a byte of the borrowers -/
def howN (v : Int) : Int := if v = 43 then 0 else if v = 45 then 1 else if v = 47 then 2 else -1
def noteN (v : Int) : Int := if 97 ≤ v ∧ v ≤ 103 then v - 97 else -1
theorem i2b_k : ∀ n, n < 256 → i2b (n : Nat) = if n < 128 then (n : Int) else (n : Int) - 256 := by decide +kernel
theorem i2c_k : ∀ n, n < 256 → i2c (n : Nat) = (n : Int) := by decide +kernel
theorem ishr_3 : ishr 3 0 = 3 := by decide +kernel
section CGOES
variable {G : GT} {M : MT} {P : Int → MT → Prop}
theorem c_j1_char (n : Nat) (hn : n < 256) (hp : P (howN (n : Int)) M) : ClI G J_j1_indexOfChar M [pR 1002, pI (n : Int), pI 0, pI 3] P := by
  refine e_j1_indexOfChar _ _ _ ?_
  have hb := i2b_k n hn
  have e : ∀ k : Int, k = 43 ∨ k = 45 ∨ k = 47 → (k = i2b (n : Int) ↔ (n : Int) = k) := by
    intro k hk
    rw [hb]
    split <;> omega
  refine b_j1_indexOfChar_7 _ _ _ ⟨fun c => absurd c (by decide), fun _ => ⟨⟨by decide, by decide⟩, fun c => ?_, fun c => ?_⟩⟩
  · have c' : ¬ (n : Int) = 43 := fun h => c ((e 43 (Or.inl rfl)).mpr h)
    rw [show w32 (0 + 1) = 1 by decide]
    refine b_j1_indexOfChar_7 _ _ _ ⟨fun c => absurd c (by decide), fun _ => ⟨⟨by decide, by decide⟩, fun c2 => ?_, fun c2 => ?_⟩⟩
    · have c2' : ¬ (n : Int) = 45 := fun h => c2 ((e 45 (Or.inr (Or.inl rfl))).mpr h)
      rw [show w32 (1 + 1) = 2 by decide]
      refine b_j1_indexOfChar_7 _ _ _ ⟨fun c => absurd c (by decide), fun _ => ⟨⟨by decide, by decide⟩, fun c3 => ?_, fun c3 => ?_⟩⟩
      · have c3' : ¬ (n : Int) = 47 := fun h => c3 ((e 47 (Or.inr (Or.inr rfl))).mpr h)
        rw [show w32 (2 + 1) = 3 by decide]
        refine b_j1_indexOfChar_7 _ _ _ ⟨fun _ => ?_, fun c => absurd c (by decide)⟩
        unfold howN at hp
        rw [if_neg c', if_neg c2', if_neg c3'] at hp
        exact hp
      · have c3' := (e 47 (Or.inr (Or.inr rfl))).mp c3
        unfold howN at hp
        rw [if_neg c', if_neg c2', if_pos c3'] at hp
        exact hp
    · have c2' := (e 45 (Or.inr (Or.inl rfl))).mp c2
      unfold howN at hp
      rw [if_neg c', if_pos c2'] at hp
      exact hp
  · have c' := (e 43 (Or.inl rfl)).mp c
    unfold howN at hp
    rw [if_pos c'] at hp
    exact hp
theorem c_js_indexOf (n : Nat) (hn : n < 256) (hp : P (howN (n : Int)) M) : ClI G J_js_indexOf1 M [pR 1000, pI (n : Int)] P := by
  refine e_js_indexOf1 _ (e_js_indexOf2 _ _ (e_js_isLatin1 ⟨fun c => absurd c (by decide), fun _ => e_js_length (e_js_coder ?_)⟩))
  rw [ishr_3]
  refine e_j1_indexOf3 _ _ _ (e_j1_canEncode _ ⟨fun c => absurd c (by omega), fun _ => ⟨fun c => absurd c (by omega), fun _ => ⟨fun _ => ⟨fun _ => c_j1_char n hn hp, fun c => absurd c (by decide)⟩, fun c => absurd c (by decide)⟩⟩⟩)
theorem c_mo_howOf (v : Int) (hp : P (howN v) M) : ClI G J_mo_howOf M [pI v] P := by
  unfold howN at hp
  refine e_mo_howOf v ⟨fun c => ⟨fun c2 => ⟨fun c3 => ?_, fun c3 => ?_⟩, fun c2 => ?_⟩, fun c => ?_⟩
  · rw [if_neg c, if_neg c2, if_neg c3] at hp
    exact hp
  · rw [if_neg c, if_neg c2, if_pos c3] at hp
    exact hp
  · rw [if_neg c, if_pos c2] at hp
    exact hp
  · rw [if_pos c] at hp
    exact hp
theorem c_tx_noteAt (o n : Nat) (f : TX o n) (i : Nat) (hi : i < n) (v : Int) (hv : M (o + 1) i = v) (hp : P (noteN v) M) : ClI G J_tx_noteAt M [pR o, pI (i : Int)] P := by
  refine e_tx_noteAt o n f _ ⟨⟨by omega, by omega⟩, ?_⟩
  rw [tN, hv]
  refine c_tl_within _ _ _ ⟨fun c => ?_, fun c => ⟨⟨by omega, by omega⟩, ?_⟩⟩
  · have h := b01_0.mp c
    unfold noteN at hp
    rw [if_neg h] at hp
    exact hp
  · have h : 97 ≤ v ∧ v ≤ 103 := by
      by_cases h : 97 ≤ v ∧ v ≤ 103
      · exact h
      · exact absurd (b01_0.mpr h) c
    unfold noteN at hp
    rw [if_pos h] at hp
    rw [hv, w32_s (by omega) (by omega)]
    exact hp
/-- what the p-th byte tells of a borrower: X, how, Y, or nothing (the ; between); -1: it can't be so -/
def goV (p : Nat) (v : Int) : Int := if p % 4 = 3 then (if v = 59 then 0 else -1) else if p % 4 = 1 then howN v else noteN v
theorem c_bk_goesOn (p : Nat) (hp0 : p < 23) (n : Nat) (hn : n < 256) (hv : M 9 p = (n : Int)) (hp : P (b01 (¬ goV p (n : Int) = -1)) (if p % 4 = 3 then M else mu M (22 + p / 4) (p % 4) (goV p (n : Int)))) : ClI G J_bk_goesOn M [pR 1, pR 8, pI (p : Int)] P := by
  have e1 : w32 (Int.tdiv (p : Int) 4) = ((p / 4 : Nat) : Int) := by
    rw [Int.tdiv_eq_ediv_of_nonneg (by omega), w32_s (by omega) (by omega)]
    omega
  have e2 : w32 (Int.tmod (p : Int) 4) = ((p % 4 : Nat) : Int) := by
    rw [Int.tmod_eq_emod_of_nonneg (by omega), w32_s (by omega) (by omega)]
    omega
  have fin : ∀ (o k : Nat) (w : Int), w = goV p (n : Int) → (if p % 4 = 3 then M else mu M (22 + p / 4) (p % 4) (goV p (n : Int))) = mu M o k w → ((mu M o k w o k) = (-1) → P 0 (mu M o k w)) ∧ (¬ (mu M o k w o k) = (-1) → P 1 (mu M o k w)) := by
    intro o k w hw hM
    rw [hM, ← hw] at hp
    rw [mu_eq]
    refine ⟨fun c => ?_, fun c => ?_⟩
    · rw [b01_f (fun h => h c)] at hp
      exact hp
    · rw [b01_t c] at hp
      exact hp
  refine e_bk_goesOn _ ⟨fun _ => ⟨?_, fun c => ?_, fun c => ?_, fun c => ?_, fun c => ?_⟩, fun c => ?_⟩
  · rw [e1]
    omega
  · rw [e2] at c
    have h4 : p % 4 = 0 := by omega
    refine c_tx_noteAt 8 23 k_text1.2 p hp0 _ hv ?_
    rintro M2 rfl
    rw [e1, tN]
    refine fin _ _ _ ?_ ?_
    · unfold goV
      rw [if_neg (by omega), if_neg (by omega)]
    · rw [if_neg (by omega), h4]
      unfold goV
      rw [if_neg (by omega), if_neg (by omega)]
  · rw [e2] at c
    have h4 : p % 4 = 1 := by omega
    refine ⟨⟨by omega, by omega⟩, ?_⟩
    rw [tN, hv, i2c_k n hn]
    refine c_js_indexOf n hn ?_
    rintro M2 rfl
    rw [e1, tN]
    refine fin _ _ _ ?_ ?_
    · unfold goV
      rw [if_neg (by omega), if_pos h4]
    · rw [if_neg (by omega), h4]
      unfold goV
      rw [if_neg (by omega), if_pos h4]
  · rw [e2] at c
    have h4 : p % 4 = 2 := by omega
    refine c_tx_noteAt 8 23 k_text1.2 p hp0 _ hv ?_
    rintro M2 rfl
    rw [e1, tN]
    refine fin _ _ _ ?_ ?_
    · unfold goV
      rw [if_neg (by omega), if_neg (by omega)]
    · rw [if_neg (by omega), h4]
      unfold goV
      rw [if_neg (by omega), if_neg (by omega)]
  · rw [e2] at c
    have h4 : p % 4 = 3 := by omega
    refine ⟨⟨by omega, by omega⟩, ?_⟩
    rw [tN, hv]
    rw [if_pos h4] at hp
    unfold goV at hp
    rw [if_pos h4] at hp
    refine ⟨fun c2 => ?_, fun c2 => ?_⟩
    · rw [if_neg c2, b01_f (fun h => h rfl)] at hp
      exact hp
    · rw [if_pos c2, b01_t (by decide)] at hp
      exact hp
  · rw [e1] at c
    omega
end CGOES
