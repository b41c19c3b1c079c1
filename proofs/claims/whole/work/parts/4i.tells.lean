/-! which places tell a tune from all others -/
theorem bc_k (p : Nat) (hp : p < 4096) : bcOk p = true := by
  have h0 : 64 * (p % 1024 / 64) + p % 1024 % 64 = p % 1024 := by omega
  rcases Nat.lt_or_ge p 1024 with h | h
  · have := bc_k0 (p % 1024 / 64) (by omega) (p % 1024 % 64) (by omega)
    rwa [h0, show p % 1024 = p by omega] at this
  · rcases Nat.lt_or_ge p 2048 with h2 | h2
    · have := bc_k1 (p % 1024 / 64) (by omega) (p % 1024 % 64) (by omega)
      rwa [h0, show 1024 + p % 1024 = p by omega] at this
    · rcases Nat.lt_or_ge p 3072 with h3 | h3
      · have := bc_k2 (p % 1024 / 64) (by omega) (p % 1024 % 64) (by omega)
        rwa [h0, show 2048 + p % 1024 = p by omega] at this
      · have := bc_k3 (p % 1024 / 64) (by omega) (p % 1024 % 64) (by omega)
        rwa [h0, show 3072 + p % 1024 = p by omega] at this
theorem bc_in (p : Nat) (hp : p < 4096) : 0 ≤ bcI (p : Int) ∧ bcI (p : Int) ≤ 12 := by
  have h := bc_k p hp
  unfold bcOk at h
  simp only [Bool.and_eq_true, decide_eq_true_eq] at h
  exact ⟨h.1, h.2.1⟩
theorem bc_s (p : Nat) (hp : p < 4096) (h0 : p ≠ 0) : 0 ≤ iand (p : Int) (w32 ((p : Int) - 1)) ∧ iand (p : Int) (w32 ((p : Int) - 1)) < (p : Int) ∧ bcI (p : Int) = bcI (iand (p : Int) (w32 ((p : Int) - 1))) + 1 := by
  have h := bc_k p hp
  unfold bcOk at h
  simp only [Bool.and_eq_true, Bool.or_eq_true, decide_eq_true_eq] at h
  rcases h.2.2 with h1 | h1
  · exact absurd h1 h0
  · exact h1
def ntA (D : DT) (t i : Nat) : Int := if i < (dT D t).length then (dT D t).getD i 0 else -1
abbrev telNo (D : DT) (t u p : Nat) : Prop := ∀ i : Nat, i < 12 → iand (ishr (p : Int) (i : Int)) 1 = 1 → ntA D t i = ntA D u i
abbrev telAll (D : DT) (t p : Nat) : Prop := ∀ u : Nat, u < dn D → u ≠ t → ¬ telNo D t u p
def telS (D : DT) (t p : Nat) (s : Int) : Int := if (s = -1 ∨ bcI (p : Int) < bcI s) ∧ telAll D t p then (p : Int) else s
def telN (D : DT) (t : Nat) : Int := itr (telS D t) 4096 (-1)
def telV (s w : Int) : Int := if s = -1 then s else if w = 1 then s else bcI s
def telA (D : DT) (t w : Int) : Int := if (0 ≤ t ∧ t < (dn D : Int)) ∧ (0 ≤ w ∧ w ≤ 1) then telV (telN D t.toNat) w else -2
theorem tel_in (D : DT) (t : Nat) : ∀ m : Nat, itr (telS D t) m (-1) = -1 ∨ ∃ j : Nat, j < m ∧ itr (telS D t) m (-1) = (j : Int)
  | 0 => Or.inl rfl
  | m + 1 => by
    have e : itr (telS D t) (m + 1) (-1) = telS D t m (itr (telS D t) m (-1)) := rfl
    rw [e]
    unfold telS
    split
    · exact Or.inr ⟨m, by omega, rfl⟩
    · rcases tel_in D t m with h | ⟨j, h1, h2⟩
      · exact Or.inl h
      · exact Or.inr ⟨j, by omega, h2⟩
section CTE
variable {G : GT} {M : MT} {D : DT} {P : Int → MT → Prop}
theorem c_ji_bitCount (x : Int) (hp : P (bcI x) M) : ClI G J_ji_bitCount M [pI x] P :=
  e_ji_bitCount _ (b_ji_bitCount_10 _ (b_ji_bitCount_24 _ (b_ji_bitCount_34 _ (b_ji_bitCount_41 _ (b_ji_bitCount_48 _ hp)))))
theorem c_mo_ones (p : Nat) (h : p < 4096) (hp : P (bcI (p : Int)) M) : ClI G J_mo_ones M [pI (p : Int)] P := by
  have b0 := bc_in p h
  have lp : ∀ (n q : Nat) (a : Int), q ≤ n → q < 4096 → 0 ≤ a → a + bcI (q : Int) = bcI (p : Int) → WpI G J_mo_ones 4 [(1, pI a), (2, pI (q : Int))] [] M P := by
    intro n
    induction n with
    | zero =>
      intro q a hq hq2 ha he
      have hq0 : q = 0 := by omega
      subst hq0
      refine b_mo_ones_4 _ _ ⟨fun _ => ?_, fun c => absurd rfl c⟩
      have z : bcI ((0 : Nat) : Int) = 0 := by decide +kernel
      rw [show a = bcI (p : Int) by omega]
      exact hp
    | succ n ih =>
      intro q a hq hq2 ha he
      have bq := bc_in q hq2
      refine b_mo_ones_4 _ _ ⟨fun c => ?_, fun c => ?_⟩
      · have hq0 : q = 0 := by omega
        subst hq0
        have z : bcI ((0 : Nat) : Int) = 0 := by decide +kernel
        rw [show a = bcI (p : Int) by omega]
        exact hp
      · obtain ⟨s1, s2, s3⟩ := bc_s q hq2 (by omega)
        obtain ⟨r, hr⟩ : ∃ r : Nat, iand (q : Int) (w32 ((q : Int) - 1)) = (r : Int) := ⟨(iand (q : Int) (w32 ((q : Int) - 1))).toNat, by omega⟩
        rw [hr] at s1 s2 s3 ⊢
        rw [w32_s (by omega) (by omega)]
        exact ih r (a + 1) (by omega) (by omega) (by omega) (by omega)
  exact e_mo_ones _ (lp p p 0 (Nat.le_refl _) h (Int.le_refl _) (by omega))
theorem c_tl_tellFrom (ok : okD D) (h : CD D M) (t u p : Nat) (ht : t < dn D) (hu : u < dn D) (hp : P (b01 (¬ telNo D t u p)) M) : ClI G J_tl_tellFrom M [pR (10 + 2 * t), pR (10 + 2 * u), pI (p : Int)] P := by
  have o1 := ok.1
  have ft := (k_tunes t (by omega)).2
  have fu := (k_tunes u (by omega)).2
  have at' : ∀ v i, v < dn D → i < 12 → ∀ P : Int → MT → Prop, P (ntA D v i) M → ClI G J_tu_at M [pR (10 + 2 * v), pI (i : Int)] P := fun v i hv hi P hP => by
    refine c_tu_at _ (k_tunes v (by omega)).2 _ _ (h.2.1 v hv) (ok.2.1 v hv).2.1 ?_
    unfold ntA at hP
    by_cases c : i < (dT D v).length
    · rw [if_pos ⟨by omega, by omega⟩, tN]
      rw [if_pos c] at hP
      exact hP
    · rw [if_neg (by omega)]
      rw [if_neg c] at hP
      exact hP
  have lp : ∀ (d i : Nat), i + d = 12 → (∀ j, j < i → iand (ishr (p : Int) (j : Int)) 1 = 1 → ntA D t j = ntA D u j) → WpI G J_tl_tellFrom 2 [(0, pR (10 + 2 * t)), (1, pR (10 + 2 * u)), (2, pI (p : Int)), (3, pI (i : Int))] [] M P := by
    intro d
    induction d with
    | zero =>
      intro i hi ha
      refine b_tl_tellFrom_2 _ ft _ fu _ _ ⟨fun _ => ?_, fun c => absurd c (by omega)⟩
      rw [b01_f (fun z => z (fun j hj => ha j (by omega)))] at hp
      exact hp
    | succ d ih =>
      intro i hi ha
      refine b_tl_tellFrom_2 _ ft _ fu _ _ ⟨fun c => absurd c (by omega), fun _ => ⟨fun c => ?_, fun c => at' t i ht (by omega) _ (at' u i hu (by omega) _ ⟨fun c2 => ?_, fun c2 => ?_⟩)⟩⟩
      · rw [wi (by omega)]
        refine ih (i + 1) (by omega) (fun j hj hb => ?_)
        by_cases ej : j = i
        · rw [ej] at hb
          exact absurd hb c
        · exact ha j (by omega) hb
      · rw [wi (by omega)]
        refine ih (i + 1) (by omega) (fun j hj hb => ?_)
        by_cases ej : j = i
        · rw [ej]
          exact c2
        · exact ha j (by omega) hb
      · rw [b01_t (c := ¬ telNo D t u p) (fun z => c2 (z i (by omega) c))] at hp
        exact hp
  exact e_tl_tellFrom _ ft _ fu _ (lp 12 0 (by omega) (fun j hj => absurd hj (Nat.not_lt_zero j)))
theorem c_tl_tellFromAll (ok : okD D) (h : CD D M) (t p : Nat) (ht : t < dn D) (hp : P (b01 (telAll D t p)) M) : ClI G J_tl_tellFromAll M [pR 0, pI (t : Int), pI (p : Int)] P := by
  have o1 := ok.1
  have lp : ∀ (d i : Nat), i + d = dn D → (∀ u, u < i → u ≠ t → ¬ telNo D t u p) → WpI G J_tl_tellFromAll 2 [(0, pR 0), (1, pI (t : Int)), (2, pI (p : Int)), (3, pI (i : Int))] [] M P := by
    intro d
    induction d with
    | zero =>
      intro i hi ha
      refine b_tl_tellFromAll_2 _ _ _ ⟨fun _ => ?_, fun c => by rw [h.1] at c; omega⟩
      rw [b01_t (fun u hu hut => ha u (by omega) hut)] at hp
      exact hp
    | succ d ih =>
      intro i hi ha
      refine b_tl_tellFromAll_2 _ _ _ ⟨fun c => by rw [h.1] at c; omega, fun _ => ⟨fun c => ?_, fun c => ⟨⟨by omega, by omega⟩, ⟨by omega, by omega⟩, ?_⟩⟩⟩
      · rw [wi (by omega)]
        exact ih (i + 1) (by omega) (fun u hu hut => ha u (by omega) hut)
      · rw [tN, tN]
        refine c_tl_tellFrom ok h t i p ht (by omega) ⟨fun c2 => ?_, fun c2 => ?_⟩
        · rw [wi (by omega)]
          refine ih (i + 1) (by omega) (fun u hu hut => ?_)
          by_cases eu : u = i
          · rw [eu]
            exact b01_n.mp c2
          · exact ha u (by omega) hut
        · have z := b01_0.mp c2
          rw [b01_f (fun y => z (y i (by omega) (by omega)))] at hp
          exact hp
  exact e_tl_tellFromAll _ _ (lp (dn D) 0 (by omega) (fun j hj => absurd hj (Nat.not_lt_zero j)))
theorem c_tl_tells (ok : okD D) (h : CD D M) (t w : Int) (hp : P (telA D t w) M) : ClI G J_tl_tells M [pR 0, pI t, pI w] P := by
  unfold telA at hp
  have o1 := ok.1
  have no : ¬ ((0 ≤ t ∧ t < (dn D : Int)) ∧ (0 ≤ w ∧ w ≤ 1)) → P (-2) M := fun c => by
    rw [if_neg c] at hp
    exact hp
  refine e_tl_tells _ _ (c_tl_isTune (dn D) ok.1 h.1 _ ⟨fun c => no (fun z => b01_0.mp c z.1), fun c => c_tl_within _ _ _ ⟨fun c2 => ?_, fun c2 => no (fun z => b01_0.mp c2 z.2)⟩⟩)
  have z1 := b01_n.mp c
  have z2 := b01_n.mp c2
  obtain ⟨u, rfl⟩ : ∃ u : Nat, t = (u : Int) := ⟨t.toNat, by omega⟩
  rw [if_pos ⟨z1, z2⟩, tN] at hp
  unfold telN telV at hp
  have lp : ∀ (d i : Nat) (v : Int), i + d = 4096 → v = (if itr (telS D u) i (-1) = -1 then 13 else bcI (itr (telS D u) i (-1))) → WpI G J_tl_tells 29 [(0, pR 0), (1, pI (u : Int)), (2, pI w), (3, pI v), (4, pI (itr (telS D u) i (-1))), (5, pI (i : Int))] [] M P := by
    intro d
    induction d with
    | zero =>
      intro i v hi hv
      have hie : i = 4096 := by omega
      subst hie
      refine b_tl_tells_29 _ _ _ _ _ ⟨fun _ => ⟨fun c3 => ?_, fun c3 => ⟨fun c4 => ?_, fun c4 => ?_⟩⟩, fun c => absurd c (by omega)⟩
      · rw [if_pos c3] at hp
        exact hp
      · rw [if_neg c3, if_neg c4] at hp
        rw [if_neg c3] at hv
        rw [hv]
        exact hp
      · rw [if_neg c3, if_pos c4] at hp
        exact hp
    | succ d ih =>
      intro i v hi hv
      have es : itr (telS D u) (i + 1) (-1) = telS D u i (itr (telS D u) i (-1)) := rfl
      have ih' := fun v => ih (i + 1) v (by omega)
      rw [es] at ih'
      generalize itr (telS D u) i (-1) = s at *
      have bi := bc_in i (by omega)
      have cnd : bcI (i : Int) < v ↔ (s = -1 ∨ bcI (i : Int) < bcI s) := by
        rw [hv]
        by_cases hs : s = -1
        · rw [if_pos hs]
          exact ⟨fun _ => Or.inl hs, fun _ => by omega⟩
        · rw [if_neg hs]
          exact ⟨fun z => Or.inr z, fun z => z.resolve_left hs⟩
      have stay : ¬ ((s = -1 ∨ bcI (i : Int) < bcI s) ∧ telAll D u i) → WpI G J_tl_tells 29 [(0, pR 0), (1, pI (u : Int)), (2, pI w), (3, pI v), (4, pI s), (5, pI (w32 ((i : Int) + 1)))] [] M P := fun c => by
        have e : telS D u i s = s := by
          unfold telS
          rw [if_neg c]
        have nx := ih' v
        rw [e] at nx
        rw [wi (by omega)]
        exact nx hv
      refine b_tl_tells_29 _ _ _ _ _ ⟨fun c => absurd c (by omega), fun _ => c_ji_bitCount _ ⟨fun c => stay (fun z => by have := cnd.mpr z.1; omega), fun c => c_tl_tellFromAll ok h u i (by omega) ⟨fun c2 => stay (fun z => b01_0.mp c2 z.2), fun c2 => ?_⟩⟩⟩
      have e : telS D u i s = (i : Int) := by
        unfold telS
        rw [if_pos ⟨cnd.mp c, b01_n.mp c2⟩]
      have nx := ih' (bcI (i : Int))
      rw [e] at nx
      rw [wi (by omega)]
      exact nx (by rw [if_neg (by omega)])
  exact lp 4096 0 13 (by omega) rfl
theorem c_mo_noteAt (ok : okD D) (h : MW D M) (t i : Nat) (ht : t < dn D) (hi : i < 12) (hp : P (ntA D t i) M) : ClI G J_mo_noteAt M [pR 101, pI (t : Int), pI (i : Int)] P := by
  have o1 := ok.1
  have td' := h.2.1 t ht
  unfold ntA at hp
  refine e_mo_noteAt _ _ ⟨⟨by omega, by omega⟩, ?_⟩
  rw [tN, td'.1, ix40 (by omega) (by omega), tN]
  refine ⟨fun c => ?_, fun c => ⟨⟨by omega, by omega⟩, ?_⟩⟩
  · rw [if_neg (by omega)] at hp
    exact hp
  · rw [if_pos (by omega)] at hp
    rw [td'.2 i (by omega)]
    exact hp
theorem c_mo_isIn (a b : Int) (hp : P (b01 (iand (ishr a b) 1 = 1)) M) : ClI G J_mo_isIn M [pI a, pI b] P := by
  refine e_mo_isIn _ _ ⟨fun c => ?_, fun c => ?_⟩
  · rw [b01_f c] at hp
    exact hp
  · rw [b01_t c] at hp
    exact hp
theorem c_mo_tellsOf (ok : okD D) (h : MW D M) (t : Nat) (ht : t < dn D) (hp : P (telN D t) M) : ClI G J_mo_tellsOf M [pR 101, pI (t : Int)] P := by
  have o1 := ok.1
  unfold telN at hp
  have lp : ∀ (d i : Nat), i + d = 4096 → WpI G J_mo_tellsOf 4 [(0, pR 101), (1, pI (t : Int)), (2, pI (itr (telS D t) i (-1))), (3, pI (i : Int))] [] M P := by
    intro d
    induction d with
    | zero =>
      intro i hi
      have hie : i = 4096 := by omega
      subst hie
      exact b_mo_tellsOf_4 _ _ _ ⟨fun _ => hp, fun c => absurd c (by omega)⟩
    | succ d ih =>
      intro i hi
      have es : itr (telS D t) (i + 1) (-1) = telS D t i (itr (telS D t) i (-1)) := rfl
      have ih' := ih (i + 1) (by omega)
      rw [es] at ih'
      have hin := tel_in D t i
      generalize itr (telS D t) i (-1) = s at *
      unfold telS at ih'
      have body : (s = -1 ∨ bcI (i : Int) < bcI s) → WpI G J_mo_tellsOf 33 [(0, pR 101), (1, pI (t : Int)), (2, pI s), (3, pI (i : Int)), (4, pI 1), (5, pI 0)] [] M P := by
        intro hc
        have us : ∀ (d2 u : Nat) (b : Prop) [Decidable b], u + d2 = dn D → (b ↔ ∀ x, x < u → x ≠ t → ¬ telNo D t x i) → WpI G J_mo_tellsOf 33 [(0, pR 101), (1, pI (t : Int)), (2, pI s), (3, pI (i : Int)), (4, pI (b01 b)), (5, pI (u : Int))] [] M P := by
          intro d2
          induction d2 with
          | zero =>
            intro u b _ hu hb
            have hue : u = dn D := by omega
            subst hue
            refine b_mo_tellsOf_33 _ _ _ _ _ ⟨fun _ => ⟨fun c => ?_, fun c => ?_⟩, fun c => by rw [h.1] at c; omega⟩
            · rw [if_neg (fun z => b01_0.mp c (hb.mpr z.2))] at ih'
              rw [wi (by omega)]
              exact ih'
            · rw [if_pos ⟨hc, hb.mp (b01_n.mp c)⟩] at ih'
              rw [wi (by omega)]
              exact ih'
          | succ d2 ih2 =>
            intro u b _ hu hb
            refine b_mo_tellsOf_33 _ _ _ _ _ ⟨fun c => by rw [h.1] at c; omega, fun _ => ⟨fun c => ⟨fun _ => ?_, fun c2 => absurd c c2⟩, fun c => ?_⟩⟩
            · rw [if_neg (fun z => b01_0.mp c (hb.mpr (fun x hx hxt => z.2 x (by omega) hxt)))] at ih'
              rw [wi (by omega)]
              exact ih'
            · have hb2 := hb.mp (b01_n.mp c)
              have close : ∀ (o : Prop) [Decidable o], (o ↔ (u = t ∨ ¬ telNo D t u i)) → WpI G J_mo_tellsOf 33 [(0, pR 101), (1, pI (t : Int)), (2, pI s), (3, pI (i : Int)), (4, pI (b01 o)), (5, pI (w32 ((u : Int) + 1)))] [] M P := fun o _ ho => by
                rw [wi (by omega)]
                refine ih2 (u + 1) o (by omega) ⟨fun z x hx hxt => ?_, fun z => ?_⟩
                · by_cases ex : x = u
                  · rcases ho.mp z with y | y
                    · exact absurd (ex.trans y) hxt
                    · rw [ex]
                      exact y
                  · exact hb2 x (by omega) hxt
                · by_cases eu : u = t
                  · exact ho.mpr (Or.inl eu)
                  · exact ho.mpr (Or.inr (z u (by omega) eu))
              have is : ∀ (d3 j : Nat) (o : Prop) [Decidable o], j + d3 = 12 → (o ↔ (u = t ∨ ¬ ∀ x, x < j → iand (ishr (i : Int) (x : Int)) 1 = 1 → ntA D t x = ntA D u x)) → WpI G J_mo_tellsOf 63 [(0, pR 101), (1, pI (t : Int)), (2, pI s), (3, pI (i : Int)), (5, pI (u : Int)), (6, pI (b01 o)), (7, pI (j : Int))] [] M P := by
                intro d3
                induction d3 with
                | zero =>
                  intro j o _ hj ho
                  have hje : j = 12 := by omega
                  subst hje
                  exact b_mo_tellsOf_63 _ _ _ _ _ _ ⟨fun _ => close o ho, fun c => absurd c (by omega)⟩
                | succ d3 ih3 =>
                  intro j o _ hj ho
                  refine b_mo_tellsOf_63 _ _ _ _ _ _ ⟨fun c => absurd c (by omega), fun _ => ⟨fun c3 => ?_, fun c3 => c_mo_isIn _ _ ⟨fun c4 => ?_, fun c4 => ?_⟩⟩⟩
                  · refine close o ⟨fun z => ?_, fun z => b01_n.mp c3⟩
                    rcases ho.mp z with y | y
                    · exact Or.inl y
                    · exact Or.inr (fun w => y (fun x hx hb => w x (by omega) hb))
                  · have hno : ¬ o := b01_0.mp c3
                    have nx := ih3 (j + 1) False (by omega) ⟨fun z => z.elim, fun z => hno (ho.mpr (z.imp id (fun y w => y (fun x hx hb => by
                      by_cases ex : x = j
                      · rw [ex] at hb
                        exact absurd hb (b01_0.mp c4)
                      · exact w x (by omega) hb))))⟩
                    rw [wi (by omega)]
                    exact nx
                  · have hno : ¬ o := b01_0.mp c3
                    have hut : ¬ u = t := fun z => hno (ho.mpr (Or.inl z))
                    refine c_mo_noteAt ok h u j (by omega) (by omega) (c_mo_noteAt ok h t j ht (by omega) ⟨fun c5 => ?_, fun c5 => ?_⟩)
                    · have nx := ih3 (j + 1) False (by omega) ⟨fun z => z.elim, fun z => hno (ho.mpr (z.imp id (fun y w => y (fun x hx hb => by
                        by_cases ex : x = j
                        · rw [ex]
                          exact c5.symm
                        · exact w x (by omega) hb))))⟩
                      rw [wi (by omega)]
                      exact nx
                    · have nx := ih3 (j + 1) True (by omega) ⟨fun _ => Or.inr (fun w => c5 (w j (by omega) (b01_n.mp c4)).symm), fun _ => trivial⟩
                      rw [wi (by omega)]
                      exact nx
              refine ⟨fun c2 => ?_, fun c2 => ?_⟩
              · exact is 12 0 False (by omega) ⟨fun z => z.elim, fun z => z.elim (fun y => c2 (by omega)) (fun y => y (fun x hx => absurd hx (Nat.not_lt_zero x)))⟩
              · exact is 12 0 True (by omega) ⟨fun _ => Or.inl (by omega), fun _ => trivial⟩
        exact us (dn D) 0 True (by omega) ⟨fun _ x hx => absurd hx (Nat.not_lt_zero x), fun _ => trivial⟩
      refine b_mo_tellsOf_4 _ _ _ ⟨fun c => absurd c (by omega), fun _ => ⟨fun c => body (Or.inl c), fun c => ?_⟩⟩
      rcases hin with h0 | ⟨j, hj, rfl⟩
      · exact absurd h0 c
      · refine c_mo_ones i (by omega) (c_mo_ones j (by omega) ⟨fun c2 => ?_, fun c2 => body (Or.inr c2)⟩)
        rw [if_neg (fun z => by
          rcases z.1 with z | z
          · exact c z
          · omega)] at ih'
        rw [wi (by omega)]
        exact ih'
  exact e_mo_tellsOf _ (lp 4096 0 (by omega))
theorem c_mo_tellsBits (s w : Int) (hs : s = -1 ∨ ∃ j : Nat, j < 4096 ∧ s = (j : Int)) (hp : P (telV s w) M) : ClI G J_mo_tellsBits M [pI s, pI w] P := by
  unfold telV at hp
  refine e_mo_tellsBits _ _ ⟨fun c => ?_, fun c => ⟨fun c2 => ?_, fun c2 => ?_⟩⟩
  · rw [if_pos c] at hp
    exact hp
  · rw [if_neg c, if_neg c2] at hp
    rcases hs with hs | ⟨j, hj, rfl⟩
    · exact absurd hs c
    · exact c_mo_ones j hj hp
  · rw [if_neg c, if_pos c2] at hp
    exact hp
theorem c_mo_tells (ok : okD D) (rd : Rd G D M) (t w : Int) (hp : ∀ M', FA M M' → P (telA D t w) M') : ClI G J_mo_tells M [pR 101, pI t, pI w] P := by
  unfold telA at hp
  refine e_mo_tells _ _ (rd _ (fun M1 f1 h1 => ?_))
  have no : ¬ ((0 ≤ t ∧ t < (dn D : Int)) ∧ (0 ≤ w ∧ w ≤ 1)) → P (-2) M1 := fun c => by
    have := hp M1 f1
    rw [if_neg c] at this
    exact this
  refine c_mo_isTune (dn D) ok.1 h1.1 _ ⟨fun c => no (fun z => b01_0.mp c z.1), fun c => c_mo_isTwo _ ⟨fun c2 => no (fun z => b01_0.mp c2 z.2), fun c2 => ?_⟩⟩
  have z1 := b01_n.mp c
  have z2 := b01_n.mp c2
  obtain ⟨u, rfl⟩ : ∃ u : Nat, t = (u : Int) := ⟨t.toNat, by omega⟩
  rw [if_pos ⟨z1, z2⟩, tN] at hp
  exact c_mo_tellsOf ok h1 u (by omega) (c_mo_tellsBits _ _ (tel_in D u 4096) (hp M1 f1))
end CTE
