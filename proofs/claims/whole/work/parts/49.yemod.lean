/-! the model's YEARS -/
def MW (D : DT) (M : MT) : Prop := M 101 7 = (dn D : Int) ∧ (∀ j, j < dn D → TD M j (dT D j)) ∧ M 101 10 = (db D : Int) ∧ (∀ i, i < db D → M 110 (3 * i) = (dB D i).1 ∧ M 110 (3 * i + 1) = (dB D i).2.1 ∧ M 110 (3 * i + 2) = (dB D i).2.2) ∧ M 101 12 = (dl D : Int) ∧ ∀ l, l < dl D → ∀ k, k < 4 → M 111 (4 * l + k) = dL D l k
def FM (M M' : MT) : Prop := ∀ q, q < 112 → q ≠ 105 → ∀ k, M' q k = M q k
theorem FM.rf {M : MT} : FM M M := fun _ _ _ _ => rfl
theorem FM.tr {M M' M'' : MT} (h : FM M M') (h' : FM M' M'') : FM M M'' := fun q a b k => (h' q a b k).trans (h q a b k)
theorem FM.m1 {M : MT} {o k : Nat} {v : Int} (h : 112 ≤ o) : FM M (mu M o k v) := fun q a _ j => mu_o (by omega)
theorem FM.fr {S : List Nat} {M M' : MT} (h : Fr S M M') (hs : ∀ q ∈ S, 112 ≤ q) : FM M M' := fun q a _ k => h q (fun hq => by
  have := hs q hq
  omega) k
theorem FM.fn {as : Nat} {M M' : MT} (h : FN as M M') : FM M M' := fun q a _ k => h q k (by omega) (by omega) (by omega)
theorem TD.fm {M M' : MT} {t : Nat} {l : List Int} (h : TD M t l) (f : FM M M') : TD M' t l := ⟨(f _ (by omega) (by omega) _).trans h.1, fun i hi => (f _ (by omega) (by omega) _).trans (h.2 i hi)⟩
theorem MW.fm {D : DT} {M M' : MT} (h : MW D M) (f : FM M M') : MW D M' := by
  refine ⟨(f _ (by omega) (by omega) _).trans h.1, fun j hj => (h.2.1 j hj).fm f, (f _ (by omega) (by omega) _).trans h.2.2.1, fun i hi => ?_, (f _ (by omega) (by omega) _).trans h.2.2.2.2.1, fun l hl k hk => (f _ (by omega) (by omega) _).trans (h.2.2.2.2.2 l hl k hk)⟩
  have hb := h.2.2.2.1 i hi
  exact ⟨(f _ (by omega) (by omega) _).trans hb.1, (f _ (by omega) (by omega) _).trans hb.2.1, (f _ (by omega) (by omega) _).trans hb.2.2⟩
theorem NW.fn {as u : Nat} {M M' : MT} {l : List Int} (h : NW M u l) (hl : l.length ≤ 40) (f : FN as M M') (hu : u ≠ as) : NW M' u l := ⟨(f 113 u (by omega) (by omega) (by omega)).trans h.1, fun i hi => (f 112 _ (by omega) (by omega) (by omega)).trans (h.2 i hi)⟩
def YPM (D : DT) (M : MT) (y : YT) : Prop := (∀ t, t < dn D → NW M t (yN y t)) ∧ (∀ t, t < dn D → M 116 t = holdY D y t) ∧ (∀ t, t < dn D → ¬ yH y t = -1 → M 117 t = yH y t ∧ M 115 t = ((yE y t).length : Int) ∧ SL M 114 (40 * t) (yE y t)) ∧ ∀ l, l < dl D → M 118 l = yC y l ∧ M 119 l = yB y l ∧ M 120 l = yM y l
theorem ix4 {a : Nat} (ha : a < 1000) : w32 (4 * (a : Int)) = ((4 * a : Nat) : Int) := by
  rw [w32_s (by omega) (by omega)]
  omega
theorem w2 {i : Nat} (h : i < 1000000) : w32 ((i : Int) + 2) = ((i + 2 : Nat) : Int) := by
  rw [w32_s (by omega) (by omega)]
  omega
theorem w3 {i : Nat} (h : i < 1000000) : w32 ((i : Int) + 3) = ((i + 3 : Nat) : Int) := by
  rw [w32_s (by omega) (by omega)]
  omega
theorem b01_n {c : Prop} [Decidable c] : ¬ b01 c = 0 ↔ c := by
  rw [b01_0]
  exact ⟨fun h => Classical.byContradiction h, fun h z => z h⟩
section CYM
variable {G : GT} {M : MT} {P : MT → Prop} {D : DT}
theorem c_mo_startsAll (ok : okD D) (h1 : MW D M) (hp : ∀ M', FM M M' → YPM D M' (startY D) → P M') : ClV G J_mo_startsAll M [pR 101] P := by
  have o1 := ok.1
  have o3 := ok.2.2.2.2.1
  have lp2 : ∀ (d i : Nat) (M1 : MT), i + d = 12 → FM M M1 → (∀ t, t < dn D → NW M1 t (dT D t) ∧ M1 116 t = -1) → (∀ l, l < i → M1 118 l = 0 ∧ M1 119 l = 0 ∧ M1 120 l = 0) → WpV G J_mo_startsAll 31 [(0, pR 101), (1, pI (i : Int))] [] M1 P := by
    intro d
    induction d with
    | zero =>
      intro i M1 hi hf hn hl
      exact b_mo_startsAll_31 _ ⟨fun _ => hp M1 hf ⟨fun t ht => (hn t ht).1, fun t ht => (hn t ht).2, fun t ht h => absurd rfl h, fun l hl2 => hl l (by omega)⟩, fun c => absurd c (by omega)⟩
    | succ d ih =>
      intro i M1 hi hf hn hl
      refine b_mo_startsAll_31 _ ⟨fun c => absurd c (by omega), fun _ => ⟨⟨by omega, by omega⟩, ?_⟩⟩
      rw [tN, wi (by omega)]
      rintro M2 rfl
      refine ⟨⟨by omega, by omega⟩, ?_⟩
      rintro M3 rfl
      refine ⟨⟨by omega, by omega⟩, ?_⟩
      rintro M4 rfl
      have f : ∀ q k, q ≠ 118 → q ≠ 119 → q ≠ 120 → mu (mu (mu M1 118 i 0) 119 i 0) 120 i 0 q k = M1 q k := fun q k a b c => by rw [mu_o c, mu_o b, mu_o a]
      refine ih (i + 1) _ (by omega) (FM.tr (FM.tr (FM.tr hf (FM.m1 (by omega))) (FM.m1 (by omega))) (FM.m1 (by omega))) (fun t ht => ?_) (fun l hl2 => ?_)
      · obtain ⟨a, b⟩ := hn t ht
        exact ⟨⟨(f 113 t (by omega) (by omega) (by omega)).trans a.1, fun k hk => (f 112 _ (by omega) (by omega) (by omega)).trans (a.2 k hk)⟩, (f 116 t (by omega) (by omega) (by omega)).trans b⟩
      · have e1 : mu (mu (mu M1 118 i 0) 119 i 0) 120 i 0 118 l = mu M1 118 i 0 118 l := by rw [mu_o (by decide), mu_o (by decide)]
        have e2 : mu (mu (mu M1 118 i 0) 119 i 0) 120 i 0 119 l = mu M1 119 i 0 119 l := by simp [mu]
        have e3 : mu (mu (mu M1 118 i 0) 119 i 0) 120 i 0 120 l = mu M1 120 i 0 120 l := by simp [mu]
        rw [e1, e2, e3]
        by_cases el : l = i
        · rw [el, mu_eq, mu_eq, mu_eq]
          exact ⟨rfl, rfl, rfl⟩
        · rw [mu_k el, mu_k el, mu_k el]
          exact hl l (by omega)
  have lp : ∀ (d i : Nat) (M1 : MT), i + d = dn D → FM M M1 → (∀ t, t < i → NW M1 t (dT D t) ∧ M1 116 t = -1) → WpV G J_mo_startsAll 2 [(0, pR 101), (1, pI (i : Int))] [] M1 P := by
    intro d
    induction d with
    | zero =>
      intro i M1 hi hf hn
      have hc := h1.fm hf
      exact b_mo_startsAll_2 _ ⟨fun _ => lp2 12 0 M1 (by omega) hf (fun t ht => hn t (by omega)) (fun l hl => absurd hl (Nat.not_lt_zero l)), fun c => by rw [hc.1] at c; omega⟩
    | succ d ih =>
      intro i M1 hi hf hn
      have hc := h1.fm hf
      refine b_mo_startsAll_2 _ ⟨fun c => by rw [hc.1] at c; omega, fun _ => ?_⟩
      rw [tN, wi (by omega)]
      refine c_mo_begins i i (by omega) (by omega) (dT D i) (ok.2.1 i (by omega)).2.1 (hc.2.1 i (by omega)) (fun M2 hf2 ht2 => ⟨⟨by omega, by omega⟩, ?_⟩)
      rintro M3 rfl
      refine ih (i + 1) _ (by omega) (FM.tr (FM.tr hf (FM.fn hf2)) (FM.m1 (by omega))) (fun t ht => ?_)
      have nk : ∀ u l, NW M2 u l → NW (mu M2 116 i (-1)) u l := fun u l h => ⟨by rw [mu_o (by decide)]; exact h.1, fun k hk => by rw [mu_o (by decide)]; exact h.2 k hk⟩
      by_cases et : t = i
      · rw [et]
        exact ⟨nk _ _ ht2, mu_eq _ _ _ _⟩
      · obtain ⟨a, b⟩ := hn t (by omega)
        exact ⟨nk _ _ (a.fn (ok.2.1 t (by omega)).2.1 hf2 et), by rw [mu_k et, hf2 116 t (by omega) (by omega) (by omega)]; exact b⟩
  exact e_mo_startsAll (lp (dn D) 0 M (by omega) FM.rf (fun t ht => absurd ht (Nat.not_lt_zero t)))
theorem c_mo_lends (ok : okD D) (yr k : Nat) (hk : k < dl D) (y : YT) (h1 : MW D M) (h2 : YPM D M y) (h3 : YI D (yr + 1) yr y) (hyr : dL D k 0 = (yr : Int)) (hp : ∀ M', FM M M' → YPM D M' (lendY D yr k y) → P M') : ClV G J_mo_lends M [pR 101, pI (k : Int)] P := by
  have o1 := ok.1
  have o2 := ok.2.2.1
  have o3 := ok.2.2.2.2.1
  have ov := ok.2.2.2.2.2 k hk
  obtain ⟨t, ht⟩ : ∃ t : Nat, dL D k 1 = (t : Int) := ⟨(dL D k 1).toNat, by omega⟩
  have skip : ¬ ((dL D k 0 = (yr : Int) ∧ dL D k 1 < (dn D : Int) ∧ dL D k 2 < (db D : Int)) ∧ yH y t = -1) → P M := fun c => hp M FM.rf (by rw [yt_lend_n ht c]; exact h2)
  have e1 := h1.2.2.2.2.2 k hk 1 (by omega)
  have e2 := h1.2.2.2.2.2 k hk 2 (by omega)
  have lp : t < dn D → ∀ (d i : Nat) (M1 : MT), i + d = (yN y t).length → FM M M1 → NW M1 t (yN y t) → SL M1 114 (40 * t) ((yN y t).take i) → (∀ M2, FM M1 M2 → (∀ q j, q ≠ 115 → ¬ (q = 114 ∧ 40 * t ≤ j ∧ j < 40 * t + 40) → M2 q j = M1 q j) → (∀ j, M2 115 j = if j = t then ((yN y t).length : Int) else M1 115 j) → SL M2 114 (40 * t) (yN y t) → P M2) → WpV G J_mo_lends 79 [(0, pR 101), (2, pI (t : Int)), (3, pI (i : Int))] [] M1 P := by
    intro htn d
    have hle := (h3.1 t htn).1.1
    induction d with
    | zero =>
      intro i M1 hi hf hn hs hq
      refine b_mo_lends_79 _ _ ⟨⟨by omega, by omega⟩, fun _ => ⟨⟨by omega, by omega⟩, ⟨by omega, by omega⟩, ?_⟩, fun c => ?_⟩
      · rintro M2 rfl
        rw [tN, hn.1]
        rw [List.take_of_length_le (by omega)] at hs
        refine hq _ (FM.m1 (by omega)) (fun q j a _ => mu_o a) (fun j => ?_) (fun j hj => by rw [mu_o (by decide)]; exact hs j hj)
        by_cases ej : j = t
        · rw [ej, mu_eq, if_pos rfl]
        · rw [mu_k ej, if_neg ej]
      · rw [tN, hn.1] at c
        omega
    | succ d ih =>
      intro i M1 hi hf hn hs hq
      refine b_mo_lends_79 _ _ ⟨⟨by omega, by omega⟩, fun c => ?_, fun _ => ?_⟩
      · rw [tN, hn.1] at c
        omega
      · rw [ix40 (by omega) (by omega), tN, wi (by omega), hn.2 i (by omega)]
        refine ⟨by omega, by omega, ?_⟩
        rintro M2 rfl
        refine ih (i + 1) _ (by omega) (FM.tr hf (FM.m1 (by omega))) ⟨by rw [mu_o (by decide)]; exact hn.1, fun j hj => by rw [mu_o (by decide)]; exact hn.2 j hj⟩ ?_ (fun M3 f3 g3 g4 g5 => hq M3 (FM.tr (FM.m1 (by omega)) f3) (fun q j a b => (g3 q j a b).trans ?_) (fun j => (g4 j).trans (by rw [mu_o (by decide)])) g5)
        · rw [take_s (by omega)]
          have h := hs.push (v := (yN y t).getD i 0)
          rw [List.length_take, Nat.min_eq_left (by omega)] at h
          exact h
        · by_cases eq : q = 114
          · rw [eq, mu_k (by omega)]
          · rw [mu_o eq]
  refine e_mo_lends _ ?_
  rw [ix4 (by omega), wi (by omega), w2 (by omega), tN (4 * k + 1), tN (4 * k + 2), tN k, e1]
  refine ⟨⟨by omega, by omega⟩, ?_⟩
  refine c_mo_isTune (dn D) o1 h1.1 _ ⟨fun c => skip ?_, fun c => ⟨⟨by omega, by omega⟩, ?_⟩⟩
  · have := b01_0.mp c
    omega
  · have ct := b01_n.mp c
    rw [e2, ht, tN]
    refine c_mo_isBorrower (db D) o2 h1.2.2.1 _ ⟨fun c2 => skip ?_, fun c2 => ⟨⟨by omega, by omega⟩, ?_⟩⟩
    · have := b01_0.mp c2
      omega
    · have cb := b01_n.mp c2
      have htn : t < dn D := by omega
      have hn0 := holdY_n ok h3 htn
      rw [h2.2.1 t htn]
      refine ⟨fun c3 => ⟨⟨by omega, by omega⟩, ?_⟩, fun c3 => skip (fun z => c3 (hn0.mpr z.2))⟩
      have hh := hn0.mp c3
      rintro M3 rfl
      refine ⟨⟨by omega, by omega⟩, ⟨by omega, by omega⟩, ?_⟩
      rintro M4 rfl
      rw [mu_o (by decide), e2]
      refine ⟨⟨by omega, by omega⟩, ?_⟩
      rintro M5 rfl
      have f5 : ∀ q j, q ≠ 118 → q ≠ 116 → q ≠ 117 → mu (mu (mu M 118 k 1) 116 t (dL D k 2)) 117 t (k : Int) q j = M q j := fun q j a b c => by rw [mu_o c, mu_o b, mu_o a]
      refine lp htn (yN y t).length 0 _ (by omega) (FM.tr (FM.tr (FM.m1 (by omega)) (FM.m1 (by omega))) (FM.m1 (by omega))) ?_ (fun j hj => absurd hj (Nat.not_lt_zero j)) (fun M6 f6 g1 g2 g3 => ?_)
      · have := h2.1 t htn
        exact ⟨(f5 113 t (by decide) (by decide) (by decide)).trans this.1, fun j hj => (f5 112 _ (by decide) (by decide) (by decide)).trans (this.2 j hj)⟩
      · refine hp M6 (FM.tr (FM.tr (FM.tr (FM.m1 (by omega)) (FM.m1 (by omega))) (FM.m1 (by omega))) f6) ?_
        rw [yt_lend ht ⟨⟨hyr, by omega, cb.2⟩, hh⟩]
        have k6 : ∀ q j, q ≠ 118 → q ≠ 116 → q ≠ 117 → q ≠ 115 → ¬ (q = 114 ∧ 40 * t ≤ j ∧ j < 40 * t + 40) → M6 q j = M q j := fun q j a b c d e => (g1 q j d e).trans (f5 q j a b c)
        have e16 : ∀ u, M6 116 u = if u = t then dL D k 2 else M 116 u := fun u => by
          rw [g1 116 u (by decide) (by omega), mu_o (by decide)]
          by_cases eu : u = t
          · rw [if_pos eu, eu, mu_eq]
          · rw [if_neg eu, mu_k eu, mu_o (by decide)]
        have e17 : ∀ u, M6 117 u = if u = t then (k : Int) else M 117 u := fun u => by
          rw [g1 117 u (by decide) (by omega)]
          by_cases eu : u = t
          · rw [if_pos eu, eu, mu_eq]
          · rw [if_neg eu, mu_k eu, mu_o (by decide), mu_o (by decide)]
        have e18 : ∀ l, M6 118 l = if l = k then 1 else M 118 l := fun l => by
          rw [g1 118 l (by decide) (by omega), mu_o (by decide), mu_o (by decide)]
          by_cases el : l = k
          · rw [if_pos el, el, mu_eq]
          · rw [if_neg el, mu_k el]
        refine ⟨fun u hu => ?_, fun u hu => ?_, fun u hu hh2 => ?_, fun l hl => ?_⟩
        · have := h2.1 u hu
          exact ⟨(k6 113 u (by decide) (by decide) (by decide) (by decide) (by omega)).trans this.1, fun j hj => (k6 112 _ (by decide) (by decide) (by decide) (by decide) (by omega)).trans (this.2 j hj)⟩
        · rw [e16]
          show _ = if fu (yH y) t (k : Int) u = -1 then -1 else dL D (fu (yH y) t (k : Int) u).toNat 2
          by_cases eu : u = t
          · rw [if_pos eu, eu, fu_eq, if_neg (by omega), tN]
          · rw [if_neg eu, fu_ne eu]
            exact h2.2.1 u hu
        · have hh' : ¬ fu (yH y) t (k : Int) u = -1 := hh2
          show M6 117 u = fu (yH y) t (k : Int) u ∧ M6 115 u = ((fu (yE y) t (yN y t) u).length : Int) ∧ SL M6 114 (40 * u) (fu (yE y) t (yN y t) u)
          rw [e17, g2]
          by_cases eu : u = t
          · rw [if_pos eu, if_pos eu, eu, fu_eq, fu_eq]
            exact ⟨rfl, rfl, g3⟩
          · rw [fu_ne eu] at hh'
            rw [if_neg eu, if_neg eu, fu_ne eu, fu_ne eu, f5 115 u (by decide) (by decide) (by decide)]
            obtain ⟨a, b, c⟩ := h2.2.2.1 u hu hh'
            have := ((h3.1 u hu).2 hh').1
            exact ⟨a, b, fun j hj => (k6 114 _ (by decide) (by decide) (by decide) (by decide) (by omega)).trans (c j hj)⟩
        · obtain ⟨a, b, c⟩ := h2.2.2.2 l hl
          rw [e18, k6 119 l (by decide) (by decide) (by decide) (by decide) (by omega), k6 120 l (by decide) (by decide) (by decide) (by decide) (by omega)]
          refine ⟨?_, b, c⟩
          show _ = fu (yC y) k 1 l
          by_cases el : l = k
          · rw [if_pos el, el, fu_eq]
          · rw [if_neg el, fu_ne el]
            exact a
end CYM
