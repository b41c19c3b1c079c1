/-! what the model answers of the YEARS -/
section CYMA
variable {G : GT} {M : MT} {D : DT} {e : Int}
theorem NW.at {M : MT} {t : Nat} {l : List Int} (h : NW M t l) {j : Nat} (hj : j < l.length) : M 112 (40 * t + j) = l.getD j 0 := h.2 j hj
theorem c_mo_notesOf {P : Int → MT → Prop} (ok : okD D) (h : MW D M) (he : M 101 14 = e) (yr t : Nat) (hy : yr < 40) (ht : t < dn D) (i : Int) (hi : -1 ≤ i ∧ i ≤ 39) (hp : ∀ M', FM M M' → P (notesN D e yr t i) M') : ClI G J_mo_notesOf M [pR 101, pI (yr : Int), pI (t : Int), pI i] P := by
  have o1 := ok.1
  refine e_mo_notesOf _ _ _ ?_
  rw [he]
  refine c_mo_lives ok yr hy e h (fun M1 f1 y1 => ?_)
  have hp1 := hp M1 f1
  unfold notesN at hp1
  have nw := y1.1 t ht
  have hl := ((YI.yrs ok e (yr + 1)).1 t ht).1.1
  rw [tN, nw.1]
  refine ⟨fun c => ⟨⟨by omega, by omega⟩, fun c2 => ?_, fun c2 => ?_⟩, fun c => ⟨⟨by omega, by omega⟩, ?_⟩⟩
  · rw [if_neg c, if_neg (by omega)] at hp1
    exact hp1
  · obtain ⟨j, rfl⟩ : ∃ j : Nat, i = (j : Int) := ⟨i.toNat, by omega⟩
    rw [if_neg c, if_pos (by omega), tN] at hp1
    rw [ix40 (by omega) (by omega), tN, nw.at (by omega)]
    exact ⟨by omega, hp1⟩
  · rw [if_pos c] at hp1
    exact hp1
theorem c_mo_notes {P : Int → MT → Prop} (ok : okD D) (rd : Rd G D M) (he : M 101 14 = e) (yr t i : Int) (hp : ∀ M', FA M M' → P (notesA D e yr t i) M') : ClI G J_mo_notes M [pR 101, pI yr, pI t, pI i] P := by
  unfold notesA at hp
  refine e_mo_notes _ _ _ (rd _ (fun M1 f1 h1 => ?_))
  have he1 : M1 101 14 = e := (f1 101 14 (by omega) (by omega) (by omega) (by omega) (by omega) (by omega)).trans he
  have no : ¬ ((0 ≤ yr ∧ yr ≤ 39) ∧ (0 ≤ t ∧ t < (dn D : Int)) ∧ (-1 ≤ i ∧ i ≤ 39)) → P (-2) M1 := fun c => by
    have := hp M1 f1
    rw [if_neg c] at this
    exact this
  refine c_mo_isYear _ ⟨fun c => no (fun z => b01_0.mp c z.1), fun c => ?_⟩
  refine c_mo_isTune (dn D) ok.1 h1.1 _ ⟨fun c2 => no (fun z => b01_0.mp c2 z.2.1), fun c2 => c_mo_in _ _ _ ⟨fun c3 => no (fun z => b01_0.mp c3 z.2.2), fun c3 => ?_⟩⟩
  have z1 := b01_n.mp c
  have z2 := b01_n.mp c2
  have z3 := b01_n.mp c3
  obtain ⟨y, rfl⟩ : ∃ y : Nat, yr = (y : Int) := ⟨yr.toNat, by omega⟩
  obtain ⟨u, rfl⟩ : ∃ u : Nat, t = (u : Int) := ⟨t.toNat, by omega⟩
  rw [if_pos ⟨z1, z2, z3⟩, tN, tN] at hp
  exact c_mo_notesOf ok h1 he1 y u (by omega) (by omega) i z3 (fun M2 f2 => hp M2 (f1.tr f2.fa))
theorem c_mo_hasOf {P : Int → MT → Prop} (ok : okD D) (h : MW D M) (he : M 101 14 = e) (yr t : Nat) (hy : yr < 40) (ht : t < dn D) (hp : ∀ M', FM M M' → P (hasN D e yr t) M') : ClI G J_mo_hasOf M [pR 101, pI (yr : Int), pI (t : Int)] P := by
  have o1 := ok.1
  refine e_mo_hasOf _ _ ?_
  rw [he]
  refine c_mo_lives ok yr hy e h (fun M1 f1 y1 => ⟨⟨by omega, by omega⟩, ?_⟩)
  rw [tN, y1.2.1 t ht]
  exact hp M1 f1
theorem c_mo_has {P : Int → MT → Prop} (ok : okD D) (rd : Rd G D M) (he : M 101 14 = e) (yr t : Int) (hp : ∀ M', FA M M' → P (hasA D e yr t) M') : ClI G J_mo_has M [pR 101, pI yr, pI t] P := by
  unfold hasA at hp
  refine e_mo_has _ _ (rd _ (fun M1 f1 h1 => ?_))
  have he1 : M1 101 14 = e := (f1 101 14 (by omega) (by omega) (by omega) (by omega) (by omega) (by omega)).trans he
  have no : ¬ ((0 ≤ yr ∧ yr ≤ 39) ∧ (0 ≤ t ∧ t < (dn D : Int))) → P (-2) M1 := fun c => by
    have := hp M1 f1
    rw [if_neg c] at this
    exact this
  refine c_mo_isYear _ ⟨fun c => no (fun z => b01_0.mp c z.1), fun c => ?_⟩
  refine c_mo_isTune (dn D) ok.1 h1.1 _ ⟨fun c2 => no (fun z => b01_0.mp c2 z.2), fun c2 => ?_⟩
  have z1 := b01_n.mp c
  have z2 := b01_n.mp c2
  obtain ⟨y, rfl⟩ : ∃ y : Nat, yr = (y : Int) := ⟨yr.toNat, by omega⟩
  obtain ⟨u, rfl⟩ : ∃ u : Nat, t = (u : Int) := ⟨t.toNat, by omega⟩
  rw [if_pos ⟨z1, z2⟩, tN, tN] at hp
  exact c_mo_hasOf ok h1 he1 y u (by omega) (by omega) (fun M2 f2 => hp M2 (f1.tr f2.fa))
theorem c_mo_cameOf {P : Int → MT → Prop} (ok : okD D) (h : MW D M) (he : M 101 14 = e) (l : Nat) (hl : l < dl D) (w : Int) (hp : ∀ M', FM M M' → P (cameN D e l w) M') : ClI G J_mo_cameOf M [pR 101, pI (l : Int), pI w] P := by
  have o3 := ok.2.2.2.2.1
  refine e_mo_cameOf _ _ ?_
  rw [he]
  refine c_mo_lives ok 39 (by omega) e h (fun M1 f1 y1 => ?_)
  have hp1 := hp M1 f1
  unfold cameN at hp1
  obtain ⟨a1, a2, a3⟩ := y1.2.2.2 l hl
  rw [tN, a1, a2, a3]
  refine ⟨fun c => ⟨fun c2 => ⟨⟨by omega, by omega⟩, ?_⟩, fun c2 => ⟨⟨by omega, by omega⟩, ?_⟩⟩, fun c => ⟨⟨by omega, by omega⟩, ?_⟩⟩
  · rw [if_neg c, if_neg c2] at hp1
    exact hp1
  · rw [if_neg c, if_pos c2] at hp1
    exact hp1
  · rw [if_pos c] at hp1
    exact hp1
theorem c_mo_came {P : Int → MT → Prop} (ok : okD D) (rd : Rd G D M) (he : M 101 14 = e) (l w : Int) (hp : ∀ M', FA M M' → P (cameA D e l w) M') : ClI G J_mo_came M [pR 101, pI l, pI w] P := by
  unfold cameA at hp
  have o3 := ok.2.2.2.2.1
  refine e_mo_came _ _ (rd _ (fun M1 f1 h1 => ?_))
  have he1 : M1 101 14 = e := (f1 101 14 (by omega) (by omega) (by omega) (by omega) (by omega) (by omega)).trans he
  have no : ¬ ((0 ≤ l ∧ l < (dl D : Int)) ∧ (0 ≤ w ∧ w ≤ 2)) → P (-1002) M1 := fun c => by
    have := hp M1 f1
    rw [if_neg c] at this
    exact this
  rw [h1.2.2.2.2.1, w32_s (by omega) (by omega)]
  refine c_mo_in _ _ _ ⟨fun c => no (fun z => b01_0.mp c ⟨z.1.1, by omega⟩), fun c => c_mo_in _ _ _ ⟨fun c2 => no (fun z => b01_0.mp c2 z.2), fun c2 => ?_⟩⟩
  have z1 := b01_n.mp c
  have z2 := b01_n.mp c2
  obtain ⟨u, rfl⟩ : ∃ u : Nat, l = (u : Int) := ⟨l.toNat, by omega⟩
  rw [if_pos ⟨⟨z1.1, by omega⟩, z2⟩, tN] at hp
  exact c_mo_cameOf ok h1 he1 u (by omega) w (fun M2 f2 => hp M2 (f1.tr f2.fa))
theorem c_mo_interestBy {P : Int → MT → Prop} (ok : okD D) (h : MW D M) (v : Int) (yr : Nat) (hy : yr < 40) (hp : ∀ M', FM M M' → P (intN D v yr) M') : ClI G J_mo_interestBy M [pR 101, pI (yr : Int), pI v] P := by
  have o1 := ok.1
  refine e_mo_interestBy _ _ (c_mo_lives ok yr hy v h (fun M1 f1 y1 => ?_))
  have hc := h.fm f1
  have hb : ∀ j, j < dn D → -40 ≤ sizeY (yrs D v (yr + 1)) j - sizeT D j ∧ sizeY (yrs D v (yr + 1)) j - sizeT D j ≤ 40 := fun j hj => by
    have b1 := sizeY_in ok v (yr + 1) j hj
    have b2 := sizeT_in ok j hj
    omega
  have lp : ∀ (d i : Nat), i + d = dn D → WpI G J_mo_interestBy 11 [(0, pR 101), (3, pI (sumI (fun j => sizeY (yrs D v (yr + 1)) j - sizeT D j) i)), (4, pI (i : Int))] [] M1 P := by
    intro d
    induction d with
    | zero =>
      intro i hi
      have hie : i = dn D := by omega
      subst hie
      refine b_mo_interestBy_11 _ _ ⟨fun _ => ?_, fun c => by rw [hc.1] at c; omega⟩
      rw [sumI_sub]
      exact hp M1 f1
    | succ d ih =>
      intro i hi
      refine b_mo_interestBy_11 _ _ ⟨fun c => by rw [hc.1] at c; omega, fun _ => ⟨⟨by omega, by omega⟩, ⟨by omega, by omega⟩, ?_⟩⟩
      have b1 := sumI_in (f := fun j => sizeY (yrs D v (yr + 1)) j - sizeT D j) i (fun j hj => hb j (by omega))
      have b2 := hb i (by omega)
      have e1 : M1 113 i = sizeY (yrs D v (yr + 1)) i := (y1.1 i (by omega)).1
      have e2 : M1 109 i = sizeT D i := (hc.2.1 i (by omega)).1
      rw [tN, wi (by omega), e1, e2, w32_s (x := sizeY (yrs D v (yr + 1)) i - sizeT D i) (by omega) (by omega), w32_s (by omega) (by omega)]
      exact ih (i + 1) (by omega)
  exact lp (dn D) 0 (by omega)
theorem c_mo_interest {P : Int → MT → Prop} (ok : okD D) (rd : Rd G D M) (he : M 101 14 = e) (yr : Int) (hp : ∀ M', FA M M' → P (intA D e yr) M') : ClI G J_mo_interest M [pR 101, pI yr] P := by
  unfold intA at hp
  refine e_mo_interest _ (rd _ (fun M1 f1 h1 => ?_))
  have he1 : M1 101 14 = e := (f1 101 14 (by omega) (by omega) (by omega) (by omega) (by omega) (by omega)).trans he
  refine c_mo_isYear _ ⟨fun c => ?_, fun c => ?_⟩
  · have := hp M1 f1
    rw [if_neg (b01_0.mp c)] at this
    exact this
  · have z1 := b01_n.mp c
    obtain ⟨y, rfl⟩ : ∃ y : Nat, yr = (y : Int) := ⟨yr.toNat, by omega⟩
    rw [if_pos z1, tN] at hp
    rw [he1]
    exact c_mo_interestBy ok h1 e y (by omega) (fun M2 f2 => hp M2 (f1.tr f2.fa))
theorem c_mo_homeOf {P : Int → MT → Prop} (ok : okD D) (h : MW D M) (he : M 101 14 = e) (yr : Nat) (hy : yr < 40) (hp : ∀ M', FM M M' → P (homeN D e yr) M') : ClI G J_mo_homeOf M [pR 101, pI (yr : Int)] P := by
  have o1 := ok.1
  refine e_mo_homeOf _ (c_mo_startsAll ok h (fun M1 f1 y1 => ?_))
  have lp : ∀ (d y : Nat) (M2 : MT), y + d = 40 → FM M M2 → YPM D M2 (yrs D e y) → (y ≤ yr ∨ homeF D e (40 - y) y = homeN D e yr) → WpI G J_mo_homeOf 6 [(0, pR 101), (1, pI (yr : Int)), (2, pI (y : Int))] [] M2 P := by
    intro d
    induction d with
    | zero =>
      intro y M2 hd hf hy2 hR
      have hye : y = 40 := by omega
      subst hye
      refine b_mo_homeOf_6 _ _ ⟨fun _ => ?_, fun c => absurd c (by omega)⟩
      rcases hR with hR | hR
      · omega
      · have := hp M2 hf
        rw [← hR] at this
        exact this
    | succ d ih =>
      intro y M2 hd hf hy2 hR
      have he2 : M2 101 14 = e := (hf 101 (by omega) (by omega) 14).trans he
      refine b_mo_homeOf_6 _ _ ⟨fun c => absurd c (by omega), fun _ => ?_⟩
      rw [he2]
      refine c_mo_goesOn ok y (by omega) e _ (h.fm hf) hy2 (YI.yrs ok e y) (fun M3 f3 y3 => ?_)
      have y3' : YPM D M3 (yrs D e (y + 1)) := y3
      have hI := YI.yrs ok e (y + 1)
      have hc := (h.fm hf).fm f3
      have hR2 : yr ≤ y → (if homeP D e y then (y : Int) else homeF D e (40 - (y + 1)) (y + 1)) = homeN D e yr := fun hyy => by
        have key : homeF D e (40 - y) y = homeN D e yr := by
          rcases hR with hR | hR
          · have : y = yr := by omega
            rw [this]
            rfl
          · exact hR
        rw [← key, show 40 - y = (40 - (y + 1)) + 1 by omega]
        rfl
      have inner : ∀ (d2 t : Nat) (b : Prop) [Decidable b], t + d2 = dn D → (b ↔ (yr ≤ y ∧ ∀ u, u < t → yH (yrs D e (y + 1)) u = -1)) → WpI G J_mo_homeOf 35 [(0, pR 101), (1, pI (yr : Int)), (2, pI (y : Int)), (3, pI (b01 b)), (4, pI (t : Int))] [] M3 P := by
        intro d2
        induction d2 with
        | zero =>
          intro t b _ ht hb
          have hte : t = dn D := by omega
          subst hte
          refine b_mo_homeOf_35 _ _ _ _ ⟨fun _ => ⟨fun c => ?_, fun c => ?_⟩, fun c => by rw [hc.1] at c; omega⟩
          · rw [wi (by omega)]
            refine ih (y + 1) M3 (by omega) (hf.tr f3) y3' ?_
            by_cases hyy : yr ≤ y
            · have := hR2 hyy
              rw [if_neg (fun z => b01_0.mp c (hb.mpr ⟨hyy, z⟩))] at this
              exact Or.inr this
            · exact Or.inl (by omega)
          · have hbb := hb.mp (b01_n.mp c)
            have := hR2 hbb.1
            rw [if_pos hbb.2] at this
            rw [this]
            exact hp M3 (hf.tr f3)
        | succ d2 ih2 =>
          intro t b _ ht hb
          have htn : t < dn D := by omega
          have hn := holdY_n ok hI htn
          refine b_mo_homeOf_35 _ _ _ _ ⟨fun c => by rw [hc.1] at c; omega, fun _ => ⟨fun c => ?_, fun c => ⟨⟨by omega, by omega⟩, ?_⟩⟩⟩
          · rw [wi (by omega)]
            exact ih2 (t + 1) False (by omega) ⟨fun z => z.elim, fun z => b01_0.mp c (hb.mpr ⟨z.1, fun u hu => z.2 u (by omega)⟩)⟩
          · have hbb := hb.mp (b01_n.mp c)
            rw [tN, y3'.2.1 t htn, wi (by omega)]
            refine ⟨fun c2 => ?_, fun c2 => ?_⟩
            · exact ih2 (t + 1) False (by omega) ⟨fun z => z.elim, fun z => c2 (hn.mpr (z.2 t (by omega)))⟩
            · exact ih2 (t + 1) True (by omega) ⟨fun _ => ⟨hbb.1, fun u hu => by
                by_cases eu : u = t
                · rw [eu]
                  exact hn.mp c2
                · exact hbb.2 u (by omega)⟩, fun _ => trivial⟩
      refine ⟨fun c => ?_, fun c => ?_⟩
      · exact inner (dn D) 0 False (by omega) ⟨fun z => z.elim, fun z => absurd z.1 (by omega)⟩
      · exact inner (dn D) 0 True (by omega) ⟨fun _ => ⟨by omega, fun u hu => absurd hu (Nat.not_lt_zero u)⟩, fun _ => trivial⟩
  exact lp 40 0 M1 (by omega) f1 y1 (Or.inl (Nat.zero_le _))
theorem c_mo_home {P : Int → MT → Prop} (ok : okD D) (rd : Rd G D M) (he : M 101 14 = e) (yr : Int) (hp : ∀ M', FA M M' → P (homeA D e yr) M') : ClI G J_mo_home M [pR 101, pI yr] P := by
  unfold homeA at hp
  refine e_mo_home _ (rd _ (fun M1 f1 h1 => ?_))
  have he1 : M1 101 14 = e := (f1 101 14 (by omega) (by omega) (by omega) (by omega) (by omega) (by omega)).trans he
  refine c_mo_isYear _ ⟨fun c => ?_, fun c => ?_⟩
  · have := hp M1 f1
    rw [if_neg (b01_0.mp c)] at this
    exact this
  · have z1 := b01_n.mp c
    obtain ⟨y, rfl⟩ : ∃ y : Nat, yr = (y : Int) := ⟨yr.toNat, by omega⟩
    rw [if_pos z1, tN] at hp
    exact c_mo_homeOf ok h1 he1 y (by omega) (fun M2 f2 => hp M2 (f1.tr f2.fa))
theorem c_mo_losesOf {P : Int → MT → Prop} (ok : okD D) (h : MW D M) (v : Int) (hp : ∀ M', FM M M' → P (losesN D v) M') : ClI G J_mo_losesOf M [pR 101, pI v] P := by
  refine e_mo_losesOf _ (c_mo_interestBy ok h 0 39 (by omega) (fun M1 f1 => c_mo_interestBy ok (h.fm f1) v 39 (by omega) (fun M2 f2 => ?_)))
  have b1 := intN_in ok 0 39
  have b2 := intN_in ok v 39
  rw [w32_s (by omega) (by omega)]
  exact hp M2 (f1.tr f2)
theorem c_mo_loses {P : Int → MT → Prop} (ok : okD D) (rd : Rd G D M) (v : Int) (hp : ∀ M', FA M M' → P (losesA D v) M') : ClI G J_mo_loses M [pR 101, pI v] P := by
  unfold losesA at hp
  refine e_mo_loses _ (rd _ (fun M1 f1 h1 => c_mo_in _ _ _ ⟨fun c => ?_, fun c => ?_⟩))
  · have := hp M1 f1
    rw [if_neg (b01_0.mp c)] at this
    exact this
  · rw [if_pos (b01_n.mp c)] at hp
    exact c_mo_losesOf ok h1 v (fun M2 f2 => hp M2 (f1.tr f2.fa))
theorem c_mo_bestOf {P : Int → MT → Prop} (ok : okD D) (h : MW D M) (v : Int) (hp : ∀ M', FM M M' → P (bestF D v 13) M') : ClI G J_mo_bestOf M [pR 101, pI v] P := by
  have lp : ∀ (k : Nat) (M1 : MT), k ≤ 13 → FM M M1 → (∀ M', FM M M' → P (bestF D v k) M') → WpI G J_mo_bestOf 3 [(0, pR 101), (1, pI v), (2, pI ((k : Int) - 1))] [] M1 P := by
    intro k
    induction k with
    | zero =>
      intro M1 hk hf hq
      exact b_mo_bestOf_3 _ _ ⟨fun _ => hq M1 hf, fun c => absurd c (by omega)⟩
    | succ k ih =>
      intro M1 hk hf hq
      rw [show ((k + 1 : Nat) : Int) - 1 = (k : Int) by omega]
      refine b_mo_bestOf_3 _ _ ⟨fun c => absurd c (by omega), fun _ => ?_⟩
      refine c_mo_interestBy ok (h.fm hf) k 39 (by omega) (fun M2 f2 => ⟨fun c => ?_, fun c => ?_⟩)
      · rw [w32_s (by omega) (by omega)]
        refine ih M2 (by omega) (hf.tr f2) (fun M' a => ?_)
        have hq' : P (if v ≤ intN D (k : Int) 39 then (k : Int) else bestF D v k) M' := hq M' a
        rw [if_neg (by omega)] at hq'
        exact hq'
      · have hq' : P (if v ≤ intN D (k : Int) 39 then (k : Int) else bestF D v k) M2 := hq M2 (hf.tr f2)
        rw [if_pos c] at hq'
        exact hq'
  exact e_mo_bestOf _ (lp 13 M (by omega) FM.rf hp)
theorem c_mo_best {P : Int → MT → Prop} (ok : okD D) (rd : Rd G D M) (v : Int) (hp : ∀ M', FA M M' → P (bestA D v) M') : ClI G J_mo_best M [pR 101, pI v] P := by
  unfold bestA at hp
  refine e_mo_best _ (rd _ (fun M1 f1 h1 => c_mo_in _ _ _ ⟨fun c => ?_, fun c => ?_⟩))
  · have := hp M1 f1
    rw [if_neg (b01_0.mp c)] at this
    exact this
  · rw [if_pos (b01_n.mp c)] at hp
    exact c_mo_bestOf ok h1 v (fun M2 f2 => hp M2 (f1.tr f2.fa))
end CYMA
