/-! the tunes' text -/
def fu {α : Type} (f : Nat → α) (k : Nat) (v : α) : Nat → α := fun j => if j = k then v else f j
theorem fu_eq {α : Type} (f : Nat → α) (k : Nat) (v : α) : fu f k v k = v := if_pos rfl
theorem fu_ne {α : Type} {f : Nat → α} {k j : Nat} {v : α} (h : j ≠ k) : fu f k v j = f j := if_neg h
/-- d bytes are left from the p-th on; t tunes are through, T has their notes and those of the one under way: FAULT, how many tunes, their notes -/
def tF (b : Nat → Int) : Nat → Nat → Nat → (Nat → List Int) → Int × Nat × (Nat → List Int)
  | 0, p, t, T => if (T t).length = 0 then (if p = 0 then (-1, 0, T) else ((p : Int), 0, T)) else (-1, t + 1, T)
  | d + 1, p, t, T => if (97 ≤ b p ∧ b p ≤ 103) ∧ t < 6 ∧ (T t).length < 12 then tF b d (p + 1) t (fu T t (T t ++ [b p - 97])) else if b p = 59 ∧ 0 < (T t).length then tF b d (p + 1) (t + 1) T else ((p : Int), 0, T)
def tI (t : Nat) (T : Nat → List Int) : Prop := t ≤ 6 ∧ (∀ j, t < j → T j = []) ∧ (t = 6 → T 6 = []) ∧ ∀ j, (T j).length ≤ 12
def FT (M M' : MT) : Prop := ∀ q k, ¬ (10 ≤ q ∧ q ≤ 21) → ¬ (q = 6 ∧ k = 2) → ¬ (q = 1 ∧ k = 4) → M' q k = M q k
theorem FT.rf {M : MT} : FT M M := fun _ _ _ _ _ => rfl
theorem FT.tr {M M' M'' : MT} (h : FT M M') (h' : FT M' M'') : FT M M'' := fun q k a b c => (h' q k a b c).trans (h q k a b c)
theorem FT.t {M M' : MT} {i : Nat} (hi : i < 6) (h : Fr [10 + 2 * i, 10 + 2 * i + 1] M M') : FT M M' := fun q k a _ _ => h q (by
  simp only [List.mem_cons, List.not_mem_nil, or_false, not_or]
  omega) k
theorem FT.f {M : MT} {v : Int} : FT M (mu M 6 2 v) := fun q j _ b _ => by
  unfold mu
  rw [if_neg b]
theorem FT.n {M : MT} {v : Int} : FT M (mu M 1 4 v) := fun q j _ _ c => by
  unfold mu
  rw [if_neg c]
section CRT
variable {G : GT} {M : MT}
theorem c_bk_readTunes {P : MT → Prop} (b : Nat → Int) (n : Nat) (hn : n ≤ 59) (hs : M 6 1 = (n : Int)) (hb : ∀ k, k < n → M 7 k = b k ∧ 0 ≤ b k ∧ b k < 256)
    (hp : ∀ M', FT M M' → M' 6 2 = (tF b n 0 0 (fun _ => [])).1 → M' 1 4 = ((tF b n 0 0 (fun _ => [])).2.1 : Int) → (∀ j, j < (tF b n 0 0 (fun _ => [])).2.1 → j < 6 ∧ Tn M' (10 + 2 * j) ((tF b n 0 0 (fun _ => [])).2.2 j)) → P M') : ClV G J_bk_readTunes M [pR 1] P := by
  generalize hR : tF b n 0 0 (fun _ => []) = R at hp
  have fin : ∀ (M1 : MT) (v2 v3 v4 : Int), FT M M1 → R.1 = v3 → (v3 = -1 → ¬ v4 = 0 → w32 (v2 + 1) = (R.2.1 : Int)) → ((¬ v3 = -1 ∨ v4 = 0) → R.2.1 = 0) → (∀ j, j < R.2.1 → j < 6 ∧ Tn M1 (10 + 2 * j) (R.2.2 j)) → WpV G J_bk_readTunes 193 [(0, pR 1), (1, pR 6), (2, pI v2), (3, pI v3), (4, pI v4)] [] M1 P := by
    intro M1 v2 v3 v4 hf h1 h2 h3 h4
    have keep : ∀ (x y : Int) (j : Nat), j < R.2.1 → j < 6 ∧ Tn (mu (mu M1 6 2 x) 1 4 y) (10 + 2 * j) (R.2.2 j) := fun x y j hj => by
      obtain ⟨a, t1, t2⟩ := h4 j hj
      exact ⟨a, by rw [mu_o (by omega), mu_o (by omega)]; exact t1, fun i hi => by rw [mu_o (by omega), mu_o (by omega)]; exact t2 i hi⟩
    refine b_bk_readTunes_193 _ _ _ ?_
    rintro M2 rfl
    refine ⟨fun c => ?_, fun c => ⟨fun c2 => ?_, fun c2 => ?_⟩⟩
    · rintro M3 rfl
      exact hp _ ((hf.tr FT.f).tr FT.n) (by rw [mu_o (by decide), mu_eq, h1]) (by rw [mu_eq, h3 (Or.inl c)]; rfl) (keep _ _)
    · rintro M3 rfl
      exact hp _ ((hf.tr FT.f).tr FT.n) (by rw [mu_o (by decide), mu_eq, h1]) (by rw [mu_eq, h3 (Or.inr c2)]; rfl) (keep _ _)
    · rintro M3 rfl
      exact hp _ ((hf.tr FT.f).tr FT.n) (by rw [mu_o (by decide), mu_eq, h1]) (by rw [mu_eq, h2 c c2]) (keep _ _)
  have stop : ∀ (M1 : MT) (t p : Nat), t ≤ 6 → FT M M1 → R = ((p : Int), 0, R.2.2) → WpV G J_bk_readTunes 146 [(0, pR 1), (1, pR 6), (2, pI (t : Int)), (3, pI (p : Int))] [] M1 P := by
    intro M1 t p ht hf hr
    have r1 : R.1 = (p : Int) := by rw [hr]
    have r2 : R.2.1 = 0 := by rw [hr]
    have go : ∀ v4 : Int, WpV G J_bk_readTunes 171 [(0, pR 1), (1, pR 6), (2, pI (t : Int)), (3, pI (p : Int)), (4, pI v4)] [] M1 P := fun v4 =>
      b_bk_readTunes_171 _ _ _ ⟨fun _ => fin M1 _ _ _ hf r1 (fun e => absurd e (by omega)) (fun _ => r2) (fun j hj => absurd hj (by rw [r2]; omega)), fun c => absurd c (by omega)⟩
    exact b_bk_readTunes_146 _ _ ⟨fun _ => go 0, fun c => ⟨⟨by omega, by omega⟩, fun _ => go 0, fun _ => go 1⟩⟩
  have lp : ∀ (d p t : Nat) (T : Nat → List Int) (M1 : MT), p + d = n → FT M M1 → tI t T → (∀ j, j < 6 → Tn M1 (10 + 2 * j) (T j)) → tF b d p t T = R → WpV G J_bk_readTunes 38 [(0, pR 1), (1, pR 6), (2, pI (t : Int)), (3, pI (-1)), (4, pI (p : Int))] [] M1 P := by
    intro d
    induction d with
    | zero =>
      intro p t T M1 hpd hf hi hT hF
      have e1 : M1 6 1 = (n : Int) := (hf 6 1 (by omega) (by omega) (by omega)).trans hs
      have hF' : (if (T t).length = 0 then (if p = 0 then (-1, 0, T) else ((p : Int), 0, T)) else (-1, t + 1, T)) = R := hF
      refine b_bk_readTunes_38 _ _ _ ⟨fun _ => ?_, fun c => by rw [e1] at c; omega⟩
      have z0 : (T t).length = 0 → WpV G J_bk_readTunes 171 [(0, pR 1), (1, pR 6), (2, pI (t : Int)), (3, pI (-1)), (4, pI 0)] [] M1 P := by
        intro h0
        rw [if_pos h0] at hF'
        refine b_bk_readTunes_171 _ _ _ ⟨fun c => absurd rfl c, fun _ => ⟨fun c => ?_, fun c => ⟨fun c2 => absurd rfl c2, fun _ => ?_⟩⟩⟩
        · rw [e1] at c
          rw [if_pos (by omega)] at hF'
          subst hF'
          exact fin M1 _ _ _ hf rfl (fun _ e => absurd rfl e) (fun _ => rfl) (fun j hj => absurd hj (Nat.not_lt_zero j))
        · rw [e1] at c ⊢
          rw [if_neg (by omega), show p = n by omega] at hF'
          subst hF'
          exact fin M1 _ _ _ hf rfl (fun e => absurd e (by omega)) (fun _ => rfl) (fun j hj => absurd hj (Nat.not_lt_zero j))
      refine b_bk_readTunes_146 _ _ ⟨fun c => z0 (by rw [show t = 6 by have := hi.1; omega, hi.2.2.1 (by have := hi.1; omega)]; rfl), fun c => ⟨⟨by omega, by omega⟩, fun c2 => ?_, fun c2 => ?_⟩⟩
      · rw [tN, (hT t (by omega)).1] at c2
        exact z0 (by omega)
      · rw [tN, (hT t (by omega)).1] at c2
        rw [if_neg (by omega)] at hF'
        subst hF'
        refine b_bk_readTunes_171 _ _ _ ⟨fun c => absurd rfl c, fun _ => ⟨fun c => ?_, fun _ => ⟨fun _ => ?_, fun c => absurd c (by decide)⟩⟩⟩
        · exact fin M1 _ _ _ hf rfl (fun _ _ => wi (by omega)) (fun e => absurd e (by omega)) (fun j hj => by
            have hj' : j < t + 1 := hj
            exact ⟨by omega, hT j (by omega)⟩)
        · exact fin M1 _ _ _ hf rfl (fun _ _ => wi (by omega)) (fun e => absurd e (by omega)) (fun j hj => by
            have hj' : j < t + 1 := hj
            exact ⟨by omega, hT j (by omega)⟩)
    | succ d ih =>
      intro p t T M1 hpd hf hi hT hF
      have e1 : M1 6 1 = (n : Int) := (hf 6 1 (by omega) (by omega) (by omega)).trans hs
      have hbp := hb p (by omega)
      have e4 : M1 7 p = b p := (hf 7 p (by omega) (by omega) (by omega)).trans hbp.1
      have hF' : (if (97 ≤ b p ∧ b p ≤ 103) ∧ t < 6 ∧ (T t).length < 12 then tF b d (p + 1) t (fu T t (T t ++ [b p - 97])) else if b p = 59 ∧ 0 < (T t).length then tF b d (p + 1) (t + 1) T else ((p : Int), 0, T)) = R := hF
      have no : ¬ ((97 ≤ b p ∧ b p ≤ 103) ∧ t < 6 ∧ (T t).length < 12) → WpV G J_bk_readTunes 114 [(0, pR 1), (1, pR 6), (2, pI (t : Int)), (3, pI (-1)), (4, pI (p : Int)), (5, pI ((T t).length : Int))] [] M1 P := by
        intro hno
        rw [if_neg hno] at hF'
        have bad : ¬ (b p = 59 ∧ 0 < (T t).length) → WpV G J_bk_readTunes 140 [(0, pR 1), (1, pR 6), (2, pI (t : Int)), (3, pI (p : Int)), (4, pI (p : Int))] [] M1 P := by
          intro h
          rw [if_neg h] at hF'
          have hr : R = ((p : Int), 0, R.2.2) := by rw [← hF']
          exact b_bk_readTunes_140 _ _ _ (b_bk_readTunes_38 _ _ _ ⟨fun _ => stop M1 t p hi.1 hf hr, fun _ => ⟨fun _ => stop M1 t p hi.1 hf hr, fun c => absurd c (by omega)⟩⟩)
        refine b_bk_readTunes_114 _ _ _ _ ⟨⟨by omega, by omega⟩, ?_⟩
        rw [tN, e4]
        refine ⟨fun c => bad (fun h => c h.1), fun c => ⟨fun c2 => bad (fun h => by omega), fun c2 => ?_⟩⟩
        rw [if_pos ⟨c, by omega⟩] at hF'
        have ht6 : t < 6 := by
          rcases Nat.lt_or_ge t 6 with h | h
          · exact h
          · have : T t = [] := by
              have h6 : t = 6 := by have := hi.1; omega
              rw [h6]
              exact hi.2.2.1 h6
            rw [this] at c2
            exact absurd c2 (by decide)
        rw [wi (by omega)]
        refine b_bk_readTunes_140 _ _ _ ?_
        rw [wi (by omega)]
        exact ih (p + 1) (t + 1) T M1 (by omega) hf ⟨by omega, fun j hj => hi.2.1 j (by omega), fun h => hi.2.1 6 (by omega), hi.2.2.2⟩ hT hF'
      have at73 : WpV G J_bk_readTunes 73 [(0, pR 1), (1, pR 6), (2, pI (t : Int)), (3, pI (-1)), (4, pI (p : Int)), (5, pI ((T t).length : Int))] [] M1 P := by
        refine b_bk_readTunes_73 _ _ _ _ (c_tx_noteAt 6 59 k_text0.2 p (by omega) (b p) e4 ⟨fun c => no (fun h => ?_), fun c => ⟨fun c2 => no (fun h => by omega), fun c2 => ⟨fun c3 => no (fun h => by omega), fun c3 => ⟨⟨by omega, by omega⟩, ?_⟩⟩⟩⟩)
        · unfold noteN at c
          rw [if_pos h.1] at c
          omega
        · have hnote : 97 ≤ b p ∧ b p ≤ 103 := by
            by_cases h : 97 ≤ b p ∧ b p ≤ 103
            · exact h
            · unfold noteN at c
              rw [if_neg h] at c
              exact absurd rfl c
          rw [if_pos ⟨hnote, by omega, by omega⟩] at hF'
          have e5 : noteN (b p) = b p - 97 := by
            unfold noteN
            rw [if_pos hnote]
          rw [e5, tN]
          refine c_tu_add _ (k_tunes t (by omega)).2 _ _ (hT t (by omega)) (by have := hi.2.2.2 t; omega) (fun M2 hf2 ht2 => ?_)
          refine b_bk_readTunes_140 _ _ _ ?_
          rw [wi (by omega)]
          unfold addL at ht2
          rw [if_pos (by omega)] at ht2
          refine ih (p + 1) t _ M2 (by omega) (hf.tr (FT.t (by omega) hf2)) ⟨hi.1, fun j hj => ?_, fun h => by omega, fun j => ?_⟩ (fun j hj => ?_) hF'
          · rw [fu_ne (by omega)]
            exact hi.2.1 j hj
          · by_cases hjt : j = t
            · rw [hjt, fu_eq, List.length_append, List.length_singleton]
              omega
            · rw [fu_ne hjt]
              exact hi.2.2.2 j
          · by_cases hjt : j = t
            · rw [hjt, fu_eq]
              exact ht2
            · rw [fu_ne hjt]
              exact (hT j hj).fr hf2 (by simp; omega) (by simp; omega)
      refine b_bk_readTunes_38 _ _ _ ⟨fun c => by rw [e1] at c; omega, fun _ => ⟨fun c => absurd rfl c, fun _ => ⟨fun c => ?_, fun c => ⟨⟨by omega, by omega⟩, ?_⟩⟩⟩⟩
      · have h6 : t = 6 := by have := hi.1; omega
        have h0 : (T t).length = 0 := by rw [h6, hi.2.2.1 h6]; rfl
        rw [h0] at at73
        exact at73
      · rw [tN, (hT t (by omega)).1]
        exact at73
  have zero : ∀ (d j : Nat) (M1 : MT), j + d = 6 → FT M M1 → (∀ i, i < j → M1 (10 + 2 * i) 1 = 0) → WpV G J_bk_readTunes 9 [(0, pR 1), (1, pR 6), (2, pI (j : Int))] [] M1 P := by
    intro d
    induction d with
    | zero =>
      intro j M1 hj hf hz
      refine b_bk_readTunes_9 _ ⟨fun _ => ?_, fun c => absurd c (by omega)⟩
      exact lp n 0 0 _ M1 (by omega) hf ⟨by omega, fun _ _ => rfl, fun _ => rfl, fun _ => Nat.zero_le _⟩ (fun i hi => ⟨hz i (by omega), fun k hk => absurd hk (Nat.not_lt_zero k)⟩) hR
    | succ d ih =>
      intro j M1 hj hf hz
      refine b_bk_readTunes_9 _ ⟨fun c => absurd c (by omega), fun _ => ⟨⟨by omega, by omega⟩, ?_⟩⟩
      rintro M2 rfl
      rw [wi (by omega), tN]
      refine ih (j + 1) _ (by omega) (hf.tr (FT.t (i := j) (by omega) (Fr.mu1 (by simp)))) (fun i hi => ?_)
      by_cases hij : i = j
      · rw [hij, mu_eq]
      · rw [mu_o (by omega)]
        exact hz i (by omega)
  exact e_bk_readTunes (zero 6 0 M (by omega) FT.rf (fun i hi => absurd hi (Nat.not_lt_zero i)))
end CRT
