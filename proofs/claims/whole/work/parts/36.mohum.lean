/-! the model's tunes: as told, as they are now -/
def NW (M : MT) (as : Nat) (l : List Int) : Prop := M 113 as = (l.length : Int) ∧ SL M 112 (40 * as) l
def TD (M : MT) (t : Nat) (l : List Int) : Prop := M 109 t = (l.length : Int) ∧ SL M 108 (40 * t) l
/-- nothing but the tune as .. now, and the row 'changed' -/
def FN (as : Nat) (M M' : MT) : Prop := ∀ q k, ¬ (q = 112 ∧ 40 * as ≤ k ∧ k < 40 * as + 40) → ¬ (q = 113 ∧ k = as) → q ≠ 121 → M' q k = M q k
theorem FN.rf {as : Nat} {M : MT} : FN as M M := fun _ _ _ _ _ => rfl
theorem FN.tr {as : Nat} {M M' M'' : MT} (h : FN as M M') (h' : FN as M' M'') : FN as M M'' := fun q k a b c => (h' q k a b c).trans (h q k a b c)
theorem FN.n2 {as k : Nat} {M : MT} {v : Int} (h1 : 40 * as ≤ k) (h2 : k < 40 * as + 40) : FN as M (mu M 112 k v) := fun q j a _ _ => by
  by_cases hq : q = 112
  · subst hq
    by_cases hk : j = k
    · exact absurd ⟨rfl, by omega, by omega⟩ a
    · exact mu_k hk
  · exact mu_o hq
theorem FN.n3 {as : Nat} {M : MT} {v : Int} : FN as M (mu M 113 as v) := fun q j _ b _ => by
  by_cases hq : q = 113
  · subst hq
    exact mu_k (fun e => b ⟨rfl, e⟩)
  · exact mu_o hq
theorem FN.n1 {as k : Nat} {M : MT} {v : Int} : FN as M (mu M 121 k v) := fun q j _ _ c => mu_o c
theorem ix40 {a i : Nat} (ha : a < 1000) (hi : i < 1000) : w32 (w32 (40 * (a : Int)) + (i : Int)) = ((40 * a + i : Nat) : Int) := by
  rw [w32_s (x := 40 * (a : Int)) (by omega) (by omega), w32_s (by omega) (by omega)]
  omega
theorem ix3 {a : Nat} (ha : a < 1000) : w32 (3 * (a : Int)) = ((3 * a : Nat) : Int) := by
  rw [w32_s (by omega) (by omega)]
  omega
theorem tN (n : Nat) : ((n : Nat) : Int).toNat = n := by omega
theorem take_s {l : List Int} {i : Nat} (h : i < l.length) : l.take (i + 1) = l.take i ++ [l.getD i 0] := by
  rw [List.take_succ, List.getD_eq_getElem?_getD, List.getElem?_eq_getElem h]
  rfl
section CMOH
variable {G : GT}
theorem c_mo_begins {M : MT} {P : MT → Prop} (t as : Nat) (ht : t < 6) (has : as < 7) (l : List Int) (hl : l.length ≤ 40) (hd : TD M t l) (hp : ∀ M', FN as M M' → NW M' as l → P M') : ClV G J_mo_begins M [pR 101, pI (t : Int), pI (as : Int)] P := by
  have lp : ∀ (d i : Nat) (M1 : MT), i + d = l.length → FN as M M1 → SL M1 112 (40 * as) (l.take i) → WpV G J_mo_begins 2 [(0, pR 101), (1, pI (t : Int)), (2, pI (as : Int)), (3, pI (i : Int))] [] M1 P := by
    intro d
    induction d with
    | zero =>
      intro i M1 hi hf hs
      have e1 : M1 109 t = (l.length : Int) := (hf 109 t (by omega) (by omega) (by decide)).trans hd.1
      refine b_mo_begins_2 _ _ _ ⟨⟨by omega, by omega⟩, fun _ => ⟨⟨by omega, by omega⟩, ⟨by omega, by omega⟩, ?_⟩, fun c => ?_⟩
      · rintro M2 rfl
        rw [tN, tN, e1]
        refine hp _ (hf.tr FN.n3) ⟨mu_eq _ _ _ _, fun k hk => ?_⟩
        rw [mu_o (by decide)]
        rw [List.take_of_length_le (by omega)] at hs
        exact hs k hk
      · rw [tN, e1] at c
        omega
    | succ d ih =>
      intro i M1 hi hf hs
      have e1 : M1 109 t = (l.length : Int) := (hf 109 t (by omega) (by omega) (by decide)).trans hd.1
      have e2 : M1 108 (40 * t + i) = l.getD i 0 := (hf 108 _ (by omega) (by omega) (by decide)).trans (hd.2 i (by omega))
      refine b_mo_begins_2 _ _ _ ⟨⟨by omega, by omega⟩, fun c => ?_, fun _ => ⟨?_, ?_, ?_⟩⟩
      · rw [tN, e1] at c
        omega
      · rw [ix40 (by omega) (by omega)]; omega
      · rw [ix40 (by omega) (by omega)]; omega
      · rintro M2 rfl
        rw [ix40 (by omega) (by omega), ix40 (by omega) (by omega), tN, tN, e2, wi (by omega)]
        refine ih (i + 1) _ (by omega) (hf.tr (FN.n2 (by omega) (by omega))) ?_
        rw [take_s (by omega)]
        have h := hs.push (v := l.getD i 0)
        rw [List.length_take, Nat.min_eq_left (by omega)] at h
        exact h
  exact e_mo_begins _ _ (lp l.length 0 M (by omega) FN.rf (fun k hk => absurd hk (Nat.not_lt_zero k)))
theorem c_mo_hummed {M : MT} {P : MT → Prop} (as b : Nat) (has : as < 7) (hb : b < 6) (l : List Int) (hl : l.length ≤ 40) (x h y : Int) (hn : NW M as l) (b1 : M 110 (3 * b) = x) (b2 : M 110 (3 * b + 1) = h) (b3 : M 110 (3 * b + 2) = y) (hh : h = 0 ∨ h = 1 ∨ h = 2) (hp : ∀ M', FN as M M' → NW M' as (humL x h y l) → P M') : ClV G J_mo_hummed M [pR 101, pI (as : Int), pI (b : Int)] P := by
  have back : ∀ (d i : Nat) (M1 : MT), i + d = (humL x h y l).length → FN as M M1 → M1 113 as = ((humL x h y l).length : Int) → SL M1 121 0 (humL x h y l) → SL M1 112 (40 * as) ((humL x h y l).take i) → WpV G J_mo_hummed 158 [(0, pR 101), (1, pI (as : Int)), (7, pI (i : Int))] [] M1 P := by
    have hle := humL_le x h y l
    generalize humL x h y l = r at *
    intro d
    induction d with
    | zero =>
      intro i M1 hi hf e1 hc hs
      refine b_mo_hummed_158 _ _ ⟨⟨by omega, by omega⟩, fun _ => ?_, fun c => ?_⟩
      · rw [List.take_of_length_le (by omega)] at hs
        exact hp M1 hf ⟨e1, hs⟩
      · rw [tN, e1] at c
        omega
    | succ d ih =>
      intro i M1 hi hf e1 hc hs
      have e2 : M1 121 i = r.getD i 0 := by
        have h1 := hc i (by omega)
        rwa [Nat.zero_add] at h1
      refine b_mo_hummed_158 _ _ ⟨⟨by omega, by omega⟩, fun c => ?_, fun _ => ⟨⟨by omega, by omega⟩, ?_, ?_⟩⟩
      · rw [tN, e1] at c
        omega
      · rw [ix40 (by omega) (by omega)]; omega
      · rintro M2 rfl
        rw [ix40 (by omega) (by omega), tN, tN, e2, wi (by omega)]
        refine ih (i + 1) _ (by omega) (hf.tr (FN.n2 (by omega) (by omega))) (by rw [mu_o (by decide)]; exact e1) (fun k hk => by rw [mu_o (by decide)]; exact hc k hk) ?_
        rw [take_s (by omega)]
        have h := hs.push (v := r.getD i 0)
        rw [List.length_take, Nat.min_eq_left (by omega)] at h
        exact h
  have lp : ∀ (d i : Nat) (M1 : MT) (r : List Int), i + d = l.length → r = (l.take i).foldl (rawS x h y) [] → FN as M M1 → NW M1 as l → SL M1 121 0 r → WpV G J_mo_hummed 39 [(0, pR 101), (1, pI (as : Int)), (3, pI (r.length : Int)), (4, pI x), (5, pI h), (6, pI y), (7, pI (i : Int))] [] M1 P := by
    intro d
    induction d with
    | zero =>
      intro i M1 r hi hr hf hn hc
      refine b_mo_hummed_39 _ _ _ _ _ _ ⟨⟨by omega, by omega⟩, fun _ => ?_, fun c => ?_⟩
      · refine c_mo_lesser _ _ ⟨⟨by omega, by omega⟩, ?_⟩
        rintro M2 rfl
        rw [List.take_of_length_le (by omega)] at hr
        have e3 : humL x h y l = r.take 40 := by rw [hr, humL_raw]
        have e4 : (if (r.length : Int) < 40 then (r.length : Int) else 40) = ((humL x h y l).length : Int) := by
          rw [e3, List.length_take]
          split <;> omega
        rw [tN, e4]
        refine back (humL x h y l).length 0 _ (by omega) (hf.tr FN.n3) (mu_eq _ _ _ _) (fun k hk => ?_) (fun k hk => absurd hk (Nat.not_lt_zero k))
        rw [mu_o (by decide)]
        have hk2 : k < r.length ∧ k < 40 := by
          rw [e3, List.length_take] at hk
          omega
        rw [hc k hk2.1, e3, List.getD_eq_getElem?_getD, List.getD_eq_getElem?_getD, List.getElem?_take_of_lt hk2.2]
      · rw [tN, hn.1] at c
        omega
    | succ d ih =>
      intro i M1 r hi hr hf hn hc
      have e2 : M1 112 (40 * as + i) = l.getD i 0 := hn.2 i (by omega)
      have hrl : r.length ≤ 2 * i := by
        have h1 := raw_le x h y (l.take i) []
        rw [← hr, List.length_take] at h1
        simp at h1
        omega
      have hst := fold_take (rawS x h y) l [] (show i < l.length by omega)
      have next : ∀ (M2 : MT) (r2 : List Int), r2 = rawS x h y r (l.getD i 0) → FN as M1 M2 → (∀ q k, q ≠ 121 → M2 q k = M1 q k) → SL M2 121 0 r2 → WpV G J_mo_hummed 39 [(0, pR 101), (1, pI (as : Int)), (3, pI (r2.length : Int)), (4, pI x), (5, pI h), (6, pI y), (7, pI (w32 ((i : Int) + 1)))] [] M2 P := by
        intro M2 r2 hr2 hf2 hq hc2
        rw [wi (by omega)]
        exact ih (i + 1) M2 r2 (by omega) (by rw [hst, ← hr, hr2]) (hf.tr hf2) ⟨(hq 113 as (by decide)).trans hn.1, fun k hk => (hq 112 _ (by decide)).trans (hn.2 k hk)⟩ hc2
      have hpush : ∀ v, SL (mu M1 121 r.length v) 121 0 (r ++ [v]) := fun v => by
        have h1 := hc.push (v := v)
        rwa [Nat.zero_add] at h1
      have one : ∀ v, w32 ((r.length : Int) + 1) = ((r ++ [v]).length : Int) := fun v => by
        rw [wi (by omega), List.length_append, List.length_singleton]
      refine b_mo_hummed_39 _ _ _ _ _ _ ⟨⟨by omega, by omega⟩, fun c => ?_, fun _ => ⟨?_, fun c1 => ⟨⟨by omega, by omega⟩, ?_⟩, fun c1 => ⟨fun c2 => ⟨fun c3 => ?_, fun c3 => absurd c3 (by omega)⟩, fun c2 => ⟨fun c3 => ⟨⟨by omega, by omega⟩, ?_⟩, fun c3 => ⟨⟨by omega, by omega⟩, ?_⟩⟩⟩⟩⟩
      · rw [tN, hn.1] at c
        omega
      · rw [ix40 (by omega) (by omega)]; omega
      · rintro M2 rfl
        rw [ix40 (by omega) (by omega), tN, e2] at c1
        rw [ix40 (by omega) (by omega), tN, tN, e2, one (l.getD i 0)]
        refine next _ _ ?_ FN.n1 (fun q k hq => mu_o hq) (hpush _)
        unfold rawS
        rw [if_neg c1]
      · rw [ix40 (by omega) (by omega), tN, e2] at c1
        refine next M1 r ?_ FN.rf (fun _ _ _ => rfl) hc
        unfold rawS
        rw [if_pos c1, if_neg c3, if_pos c2, List.append_nil]
      · rintro M2 rfl
        rw [ix40 (by omega) (by omega), tN, e2] at c1
        rw [ix40 (by omega) (by omega), tN (40 * as + i), e2]
        have h0 : h = 0 := by omega
        refine ⟨fun c4 => absurd h0 c4, fun _ => ⟨by rw [wi (by omega)]; omega, ?_⟩⟩
        rintro M3 rfl
        rw [tN r.length, one (l.getD i 0), tN, wi (by simp; omega)]
        have h2 := (hpush (l.getD i 0)).push (v := y)
        rw [Nat.zero_add] at h2
        have e5 : (((r ++ [l.getD i 0]).length + 1 : Nat) : Int) = ((r ++ [l.getD i 0] ++ [y]).length : Int) := by simp; omega
        rw [e5]
        refine next _ _ ?_ (FN.n1.tr FN.n1) (fun q k hq => (mu_o hq).trans (mu_o hq)) h2
        unfold rawS
        rw [if_pos c1, if_pos h0, List.append_assoc]
        rfl
      · rintro M2 rfl
        rw [ix40 (by omega) (by omega), tN, e2] at c1
        refine ⟨fun c4 => ?_, fun c4 => absurd c4 (by omega)⟩
        rw [tN, one y]
        refine next _ _ ?_ FN.n1 (fun q k hq => mu_o hq) (hpush _)
        unfold rawS
        rw [if_pos c1, if_neg c4, if_neg c2]
  refine e_mo_hummed _ _ ⟨?_, ?_, ?_, ?_⟩
  · rw [ix3 (by omega)]; omega
  · rw [ix3 (by omega), wi (by omega)]; omega
  · rw [ix3 (by omega), w32_s (by omega) (by omega)]; omega
  · have i1 : (w32 (w32 (3 * (b : Int)) + 1)).toNat = 3 * b + 1 := by rw [ix3 (by omega), wi (by omega), tN]
    have i2 : (w32 (w32 (3 * (b : Int)) + 2)).toNat = 3 * b + 2 := by rw [ix3 (by omega), w32_s (by omega) (by omega)]; omega
    rw [i1, i2, ix3 (by omega), tN, b1, b2, b3]
    exact lp l.length 0 M [] (by omega) rfl FN.rf hn (fun k hk => absurd hk (Nat.not_lt_zero k))
end CMOH
