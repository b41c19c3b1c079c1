/-! tunes together: common, far, nearest, mothers; class and model -/
def comN (D : DT) (a b : Nat) : Int := (lcs (dT D a) (dT D b) : Int)
def comA (D : DT) (a b : Int) : Int := if (0 ≤ a ∧ a < (dn D : Int)) ∧ (0 ≤ b ∧ b < (dn D : Int)) then comN D a.toNat b.toNat else -2
def farN (D : DT) (a b : Nat) : Int := ((dT D a).length : Int) + ((dT D b).length : Int) - 2 * comN D a b
def farA (D : DT) (a b : Int) : Int := if (0 ≤ a ∧ a < (dn D : Int)) ∧ (0 ≤ b ∧ b < (dn D : Int)) then farN D a.toNat b.toNat else -2
def nearS (D : DT) (t u : Nat) (s : Int) : Int := if ¬ u = t ∧ (s = -1 ∨ farN D t u < farN D t s.toNat) then (u : Int) else s
def nearN (D : DT) (t : Nat) : Int := itr (nearS D t) (dn D) (-1)
def nearA (D : DT) (t : Int) : Int := if 0 ≤ t ∧ t < (dn D : Int) then nearN D t.toNat else -2
def motS (D : DT) (t u : Nat) (s : Int) : Int := if ¬ u = t ∧ comN D u t = ((dT D u).length : Int) then ior s (ishl 1 (u : Int)) else s
def motN (D : DT) (t : Nat) : Int := itr (motS D t) (dn D) 0
def motA (D : DT) (t : Int) : Int := if 0 ≤ t ∧ t < (dn D : Int) then motN D t.toNat else -2
theorem comN_in {D : DT} (ok : okD D) {a b : Nat} (ha : a < dn D) : 0 ≤ comN D a b ∧ comN D a b ≤ 12 := by
  have := lcs_le (dT D a) (dT D b)
  have := (ok.2.1 a ha).1
  unfold comN
  omega
theorem near_in (D : DT) (t : Nat) : ∀ m : Nat, itr (nearS D t) m (-1) = -1 ∨ ∃ j : Nat, j < m ∧ itr (nearS D t) m (-1) = (j : Int)
  | 0 => Or.inl rfl
  | m + 1 => by
    have e : itr (nearS D t) (m + 1) (-1) = nearS D t m (itr (nearS D t) m (-1)) := rfl
    rw [e]
    unfold nearS
    split
    · exact Or.inr ⟨m, by omega, rfl⟩
    · rcases near_in D t m with h | ⟨j, h1, h2⟩
      · exact Or.inl h
      · exact Or.inr ⟨j, by omega, h2⟩
theorem ior_0 {x : Int} (h : R32 x) : ior x 0 = x := by
  unfold ior
  have e : (Int32.ofInt x ||| Int32.ofInt 0) = Int32.ofInt x := by
    rw [← Int32.toBitVec_inj, Int32.toBitVec_or]
    show (Int32.ofInt x).toBitVec ||| 0#32 = _
    rw [BitVec.or_zero]
  rw [e, t32 h]
theorem mot_r (D : DT) (t : Nat) : ∀ m : Nat, R32 (itr (motS D t) m 0)
  | 0 => z32
  | m + 1 => by
    have e : itr (motS D t) (m + 1) 0 = motS D t m (itr (motS D t) m 0) := rfl
    rw [e]
    unfold motS
    split
    · exact r32 _
    · exact mot_r D t m
section CTG
variable {G : GT} {M : MT} {D : DT} {P : Int → MT → Prop}
theorem c_li_tt (ok : okD D) (h : CD D M) (a b : Nat) (ha : a < dn D) (hb : b < dn D) (hp : ∀ M', FQ M M' → P (comN D a b) M') : ClI G J_li_of M [pR 84, pR (10 + 2 * a), pR (10 + 2 * b)] P := by
  have o1 := ok.1
  have oa := (ok.2.1 a ha).2
  have ob := (ok.2.1 b hb).2
  exact c_li_of (10 + 2 * a) (k_tunes a (by omega)).2 (10 + 2 * b) (k_tunes b (by omega)).2 _ _ (h.2.1 a ha) (h.2.1 b hb) oa.1 ob.1 oa.nt ob.nt (by simp; omega) (by simp; omega) (by simp; omega) (by simp; omega) (fun M1 f1 => hp M1 (FQ.fr f1 (by intro q hq; simp at hq; omega)))
theorem c_tl_common (ok : okD D) (h : CD D M) (a b : Int) (hp : ∀ M', FQ M M' → P (comA D a b) M') : ClI G J_tl_common M [pR 0, pI a, pI b] P := by
  unfold comA at hp
  have o1 := ok.1
  have no : ¬ ((0 ≤ a ∧ a < (dn D : Int)) ∧ (0 ≤ b ∧ b < (dn D : Int))) → P (-2) M := fun c => by
    have := hp M FQ.rf
    rw [if_neg c] at this
    exact this
  refine e_tl_common _ _ (c_tl_isTune (dn D) ok.1 h.1 _ ⟨fun c => no (fun z => b01_0.mp c z.1), fun c => c_tl_isTune (dn D) ok.1 h.1 _ ⟨fun c2 => no (fun z => b01_0.mp c2 z.2), fun c2 => ?_⟩⟩)
  have z1 := b01_n.mp c
  have z2 := b01_n.mp c2
  obtain ⟨u, rfl⟩ : ∃ u : Nat, a = (u : Int) := ⟨a.toNat, by omega⟩
  obtain ⟨x, rfl⟩ : ∃ x : Nat, b = (x : Int) := ⟨b.toNat, by omega⟩
  rw [if_pos ⟨z1, z2⟩, tN, tN] at hp
  rw [tN, tN]
  exact ⟨⟨by omega, by omega⟩, ⟨by omega, by omega⟩, c_li_tt ok h u x (by omega) (by omega) hp⟩
theorem c_tl_farN (ok : okD D) (h : CD D M) (u x : Nat) (hu : u < dn D) (hx : x < dn D) (hp : ∀ M', FQ M M' → P (farN D u x) M') : ClI G J_tl_far M [pR 0, pI (u : Int), pI (x : Int)] P := by
  have o1 := ok.1
  refine e_tl_far _ _ (c_tl_isTune (dn D) ok.1 h.1 _ ⟨fun c => absurd (b01_0.mp c) (by omega), fun c => c_tl_isTune (dn D) ok.1 h.1 _ ⟨fun c2 => ?_, fun c2 => absurd (b01_0.mp c2) (by omega)⟩⟩)
  rw [tN, tN]
  refine ⟨⟨by omega, by omega⟩, ⟨by omega, by omega⟩, ⟨by omega, by omega⟩, ⟨by omega, by omega⟩, c_li_tt ok h u x hu hx (fun M1 f1 => ?_)⟩
  have c1 := comN_in ok (b := x) hu
  have l1 := (ok.2.1 u hu).1
  have l2 := (ok.2.1 x hx).1
  rw [(h.2.1 u hu).1, (h.2.1 x hx).1, w32_s (x := ((dT D u).length : Int) + ((dT D x).length : Int)) (by omega) (by omega), w32_s (x := 2 * comN D u x) (by omega) (by omega), w32_s (by omega) (by omega)]
  exact hp M1 f1
theorem c_tl_far (ok : okD D) (h : CD D M) (a b : Int) (hp : ∀ M', FQ M M' → P (farA D a b) M') : ClI G J_tl_far M [pR 0, pI a, pI b] P := by
  unfold farA at hp
  by_cases hc : (0 ≤ a ∧ a < (dn D : Int)) ∧ (0 ≤ b ∧ b < (dn D : Int))
  · obtain ⟨u, rfl⟩ : ∃ u : Nat, a = (u : Int) := ⟨a.toNat, by omega⟩
    obtain ⟨x, rfl⟩ : ∃ x : Nat, b = (x : Int) := ⟨b.toNat, by omega⟩
    rw [if_pos hc, tN, tN] at hp
    exact c_tl_farN ok h u x (by omega) (by omega) hp
  · have no := hp M FQ.rf
    rw [if_neg hc] at no
    refine e_tl_far _ _ (c_tl_isTune (dn D) ok.1 h.1 _ ⟨fun c => no, fun c => c_tl_isTune (dn D) ok.1 h.1 _ ⟨fun c2 => absurd ⟨b01_n.mp c, b01_n.mp c2⟩ hc, fun c2 => no⟩⟩)
theorem c_tl_nearest (ok : okD D) (h : CD D M) (t : Int) (hp : ∀ M', FQ M M' → P (nearA D t) M') : ClI G J_tl_nearest M [pR 0, pI t] P := by
  unfold nearA at hp
  have o1 := ok.1
  refine e_tl_nearest _ (c_tl_isTune (dn D) ok.1 h.1 _ ⟨fun c => ?_, fun c => ?_⟩)
  · have z1 := b01_n.mp c
    obtain ⟨u, rfl⟩ : ∃ u : Nat, t = (u : Int) := ⟨t.toNat, by omega⟩
    rw [if_pos z1, tN] at hp
    have lp : ∀ (d i : Nat) (M1 : MT) (v : Int), i + d = dn D → FQ M M1 → (¬ itr (nearS D u) i (-1) = -1 → v = farN D u (itr (nearS D u) i (-1)).toNat) → WpI G J_tl_nearest 18 [(0, pR 0), (1, pI (u : Int)), (2, pI (itr (nearS D u) i (-1))), (3, pI v), (4, pI (i : Int))] [] M1 P := by
      intro d
      induction d with
      | zero =>
        intro i M1 v hi hf hv
        have hc := h.fc ok hf.fc
        have hie : i = dn D := by omega
        subst hie
        exact b_tl_nearest_18 _ _ _ _ ⟨fun _ => hp M1 hf, fun c => by rw [hc.1] at c; omega⟩
      | succ d ih =>
        intro i M1 v hi hf hv
        have hc := h.fc ok hf.fc
        have es : itr (nearS D u) (i + 1) (-1) = nearS D u i (itr (nearS D u) i (-1)) := rfl
        have ih' := fun M2 v a => ih (i + 1) M2 v (by omega) a
        rw [es] at ih'
        generalize itr (nearS D u) i (-1) = s at *
        refine b_tl_nearest_18 _ _ _ _ ⟨fun c => by rw [hc.1] at c; omega, fun _ => ⟨fun c2 => ?_, fun c2 => c_tl_farN ok hc u i (by omega) (by omega) (fun M2 f2 => ?_)⟩⟩
        · have e : nearS D u i s = s := by
            unfold nearS
            rw [if_neg (fun z => z.1 (by omega))]
          have nx := ih' M1 v hf
          rw [e] at nx
          rw [wi (by omega)]
          exact nx hv
        · have take : (s = -1 ∨ farN D u i < farN D u s.toNat) → WpI G J_tl_nearest 18 [(0, pR 0), (1, pI (u : Int)), (2, pI (i : Int)), (3, pI (farN D u i)), (4, pI (w32 ((i : Int) + 1)))] [] M2 P := fun c3 => by
            have e : nearS D u i s = (i : Int) := by
              unfold nearS
              rw [if_pos ⟨fun z => c2 (by omega), c3⟩]
            have nx := ih' M2 (farN D u i) (hf.tr f2)
            rw [e, tN] at nx
            rw [wi (by omega)]
            exact nx (fun _ => rfl)
          refine ⟨fun c3 => take (Or.inl c3), fun c3 => ⟨fun c4 => ?_, fun c4 => ?_⟩⟩
          · have hv' := hv c3
            have e : nearS D u i s = s := by
              unfold nearS
              rw [if_neg (fun z => by
                rcases z.2 with z | z
                · exact c3 z
                · omega)]
            have nx := ih' M2 v (hf.tr f2)
            rw [e] at nx
            rw [wi (by omega)]
            exact nx hv
          · have hv' := hv c3
            exact take (Or.inr (by omega))
    exact lp (dn D) 0 M 0 (by omega) FQ.rf (fun z => absurd rfl z)
  · have := hp M FQ.rf
    rw [if_neg (b01_0.mp c)] at this
    exact this
theorem c_tl_mothers (ok : okD D) (h : CD D M) (t : Int) (hp : ∀ M', FQ M M' → P (motA D t) M') : ClI G J_tl_mothers M [pR 0, pI t] P := by
  unfold motA at hp
  have o1 := ok.1
  refine e_tl_mothers _ (c_tl_isTune (dn D) ok.1 h.1 _ ⟨fun c => ?_, fun c => ?_⟩)
  · have z1 := b01_n.mp c
    obtain ⟨u, rfl⟩ : ∃ u : Nat, t = (u : Int) := ⟨t.toNat, by omega⟩
    rw [if_pos z1, tN] at hp
    have lp : ∀ (d i : Nat) (M1 : MT), i + d = dn D → FQ M M1 → WpI G J_tl_mothers 15 [(0, pR 0), (1, pI (u : Int)), (2, pI (itr (motS D u) i 0)), (3, pI (i : Int))] [] M1 P := by
      intro d
      induction d with
      | zero =>
        intro i M1 hi hf
        have hc := h.fc ok hf.fc
        have hie : i = dn D := by omega
        subst hie
        exact b_tl_mothers_15 _ _ _ ⟨fun _ => hp M1 hf, fun c => by rw [hc.1] at c; omega⟩
      | succ d ih =>
        intro i M1 hi hf
        have hc := h.fc ok hf.fc
        have es : itr (motS D u) (i + 1) 0 = motS D u i (itr (motS D u) i 0) := rfl
        have ih' := fun M2 a => ih (i + 1) M2 (by omega) a
        rw [es] at ih'
        generalize itr (motS D u) i 0 = s at *
        unfold motS at ih'
        refine b_tl_mothers_15 _ _ _ ⟨fun c => by rw [hc.1] at c; omega, fun _ => ⟨⟨by omega, by omega⟩, fun c2 => ?_, fun c2 => ⟨⟨by omega, by omega⟩, ?_⟩⟩⟩
        · have nx := ih' M1 hf
          rw [if_neg (fun z => z.1 (by omega))] at nx
          rw [wi (by omega)]
          exact nx
        · rw [tN, tN]
          refine c_li_tt ok hc i u (by omega) (by omega) (fun M2 f2 => ?_)
          have hc2 := hc.fc ok f2.fc
          have nx := ih' M2 (hf.tr f2)
          rw [(hc2.2.1 i (by omega)).1, wi (by omega)]
          refine ⟨fun c3 => ?_, fun c3 => ?_⟩
          · rw [if_neg (fun z => c3 z.2)] at nx
            exact nx
          · rw [if_pos ⟨fun z => c2 (by omega), c3⟩] at nx
            exact nx
    exact lp (dn D) 0 M (by omega) FQ.rf
  · have := hp M FQ.rf
    rw [if_neg (b01_0.mp c)] at this
    exact this
theorem c_mo_commonBoth (ok : okD D) (h : MW D M) (a b : Nat) (ha : a < dn D) (hb : b < dn D) (hp : ∀ M', FM M M' → P (comN D a b) M') : ClI G J_mo_commonBoth M [pR 101, pI (a : Int), pI (b : Int)] P := by
  have o1 := ok.1
  have ta := h.2.1 a ha
  have tb := h.2.1 b hb
  have la := (ok.2.1 a ha).1
  have lb := (ok.2.1 b hb).1
  refine e_mo_commonBoth _ _ ⟨⟨by omega, by omega⟩, ⟨by omega, by omega⟩, ?_⟩
  rw [tN, tN, ta.1, tb.1, w32_s (x := 40 * (a : Int)) (by omega) (by omega), w32_s (x := 40 * (b : Int)) (by omega) (by omega), show 40 * (a : Int) = ((40 * a : Nat) : Int) by omega, show 40 * (b : Int) = ((40 * b : Nat) : Int) by omega]
  exact c_mo_commonOf 108 240 ar_108 108 240 ar_108 (40 * a) (40 * b) _ _ ta.2 tb.2 (by omega) (by omega) (by omega) (by omega) (by omega) (by omega) (by omega) (by omega) (fun M1 f1 => hp M1 (FM.fr f1 (by intro q hq; simp at hq; omega)))
theorem c_mo_common (ok : okD D) (rd : Rd G D M) (a b : Int) (hp : ∀ M', FA M M' → P (comA D a b) M') : ClI G J_mo_common M [pR 101, pI a, pI b] P := by
  unfold comA at hp
  refine e_mo_common _ _ (rd _ (fun M1 f1 h1 => ?_))
  have no : ¬ ((0 ≤ a ∧ a < (dn D : Int)) ∧ (0 ≤ b ∧ b < (dn D : Int))) → P (-2) M1 := fun c => by
    have := hp M1 f1
    rw [if_neg c] at this
    exact this
  refine c_mo_isTune (dn D) ok.1 h1.1 _ ⟨fun c => no (fun z => b01_0.mp c z.1), fun c => c_mo_isTune (dn D) ok.1 h1.1 _ ⟨fun c2 => no (fun z => b01_0.mp c2 z.2), fun c2 => ?_⟩⟩
  have z1 := b01_n.mp c
  have z2 := b01_n.mp c2
  obtain ⟨u, rfl⟩ : ∃ u : Nat, a = (u : Int) := ⟨a.toNat, by omega⟩
  obtain ⟨x, rfl⟩ : ∃ x : Nat, b = (x : Int) := ⟨b.toNat, by omega⟩
  rw [if_pos ⟨z1, z2⟩, tN, tN] at hp
  exact c_mo_commonBoth ok h1 u x (by omega) (by omega) (fun M2 f2 => hp M2 (f1.tr f2.fa))
theorem c_mo_farOf (ok : okD D) (h : MW D M) (a b : Nat) (ha : a < dn D) (hb : b < dn D) (hp : ∀ M', FM M M' → P (farN D a b) M') : ClI G J_mo_farOf M [pR 101, pI (a : Int), pI (b : Int)] P := by
  have o1 := ok.1
  refine e_mo_farOf _ _ ⟨⟨by omega, by omega⟩, ⟨by omega, by omega⟩, c_mo_commonBoth ok h a b ha hb (fun M1 f1 => ?_)⟩
  have c1 := comN_in ok (b := b) ha
  have l1 := (ok.2.1 a ha).1
  have l2 := (ok.2.1 b hb).1
  rw [tN, tN, (h.2.1 a ha).1, (h.2.1 b hb).1, w32_s (x := ((dT D a).length : Int) + ((dT D b).length : Int)) (by omega) (by omega), w32_s (x := 2 * comN D a b) (by omega) (by omega), w32_s (by omega) (by omega)]
  exact hp M1 f1
theorem c_mo_far (ok : okD D) (rd : Rd G D M) (a b : Int) (hp : ∀ M', FA M M' → P (farA D a b) M') : ClI G J_mo_far M [pR 101, pI a, pI b] P := by
  unfold farA at hp
  refine e_mo_far _ _ (rd _ (fun M1 f1 h1 => ?_))
  have no : ¬ ((0 ≤ a ∧ a < (dn D : Int)) ∧ (0 ≤ b ∧ b < (dn D : Int))) → P (-2) M1 := fun c => by
    have := hp M1 f1
    rw [if_neg c] at this
    exact this
  refine c_mo_isTune (dn D) ok.1 h1.1 _ ⟨fun c => no (fun z => b01_0.mp c z.1), fun c => c_mo_isTune (dn D) ok.1 h1.1 _ ⟨fun c2 => no (fun z => b01_0.mp c2 z.2), fun c2 => ?_⟩⟩
  have z1 := b01_n.mp c
  have z2 := b01_n.mp c2
  obtain ⟨u, rfl⟩ : ∃ u : Nat, a = (u : Int) := ⟨a.toNat, by omega⟩
  obtain ⟨x, rfl⟩ : ∃ x : Nat, b = (x : Int) := ⟨b.toNat, by omega⟩
  rw [if_pos ⟨z1, z2⟩, tN, tN] at hp
  exact c_mo_farOf ok h1 u x (by omega) (by omega) (fun M2 f2 => hp M2 (f1.tr f2.fa))
theorem c_mo_nearestOf (ok : okD D) (h : MW D M) (u : Nat) (hu : u < dn D) (hp : ∀ M', FM M M' → P (nearN D u) M') : ClI G J_mo_nearestOf M [pR 101, pI (u : Int)] P := by
  have o1 := ok.1
  have lp : ∀ (d i : Nat) (M1 : MT), i + d = dn D → FM M M1 → WpI G J_mo_nearestOf 4 [(0, pR 101), (1, pI (u : Int)), (2, pI (itr (nearS D u) i (-1))), (3, pI (i : Int))] [] M1 P := by
    intro d
    induction d with
    | zero =>
      intro i M1 hi hf
      have hc := h.fm hf
      have hie : i = dn D := by omega
      subst hie
      exact b_mo_nearestOf_4 _ _ _ ⟨fun _ => hp M1 hf, fun c => by rw [hc.1] at c; omega⟩
    | succ d ih =>
      intro i M1 hi hf
      have hc := h.fm hf
      have es : itr (nearS D u) (i + 1) (-1) = nearS D u i (itr (nearS D u) i (-1)) := rfl
      have ih' := fun M2 a => ih (i + 1) M2 (by omega) a
      have hin := near_in D u i
      rw [es] at ih'
      generalize itr (nearS D u) i (-1) = s at *
      unfold nearS at ih'
      refine b_mo_nearestOf_4 _ _ _ ⟨fun c => by rw [hc.1] at c; omega, fun _ => ⟨fun c2 => ?_, fun c2 => ⟨fun c3 => ?_, fun c3 => ?_⟩⟩⟩
      · have nx := ih' M1 hf
        rw [if_neg (fun z => z.1 (by omega))] at nx
        rw [wi (by omega)]
        exact nx
      · have nx := ih' M1 hf
        rw [if_pos ⟨fun z => c2 (by omega), Or.inl c3⟩] at nx
        rw [wi (by omega)]
        exact nx
      · rcases hin with h0 | ⟨j, hj, rfl⟩
        · exact absurd h0 c3
        · refine c_mo_farOf ok hc u i hu (by omega) (fun M2 f2 => c_mo_farOf ok (hc.fm f2) u j hu (by omega) (fun M3 f3 => ?_))
          have nx := ih' M3 ((hf.tr f2).tr f3)
          rw [tN] at nx
          rw [wi (by omega)]
          refine ⟨fun c4 => ?_, fun c4 => ?_⟩
          · rw [if_neg (fun z => by
              rcases z.2 with z | z
              · exact c3 z
              · omega)] at nx
            exact nx
          · rw [if_pos ⟨fun z => c2 (by omega), Or.inr c4⟩] at nx
            exact nx
  exact e_mo_nearestOf _ (lp (dn D) 0 M (by omega) FM.rf)
theorem c_mo_nearest (ok : okD D) (rd : Rd G D M) (t : Int) (hp : ∀ M', FA M M' → P (nearA D t) M') : ClI G J_mo_nearest M [pR 101, pI t] P := by
  unfold nearA at hp
  refine e_mo_nearest _ (rd _ (fun M1 f1 h1 => c_mo_isTune (dn D) ok.1 h1.1 _ ⟨fun c => ?_, fun c => ?_⟩))
  · have := hp M1 f1
    rw [if_neg (b01_0.mp c)] at this
    exact this
  · have z1 := b01_n.mp c
    obtain ⟨u, rfl⟩ : ∃ u : Nat, t = (u : Int) := ⟨t.toNat, by omega⟩
    rw [if_pos z1, tN] at hp
    exact c_mo_nearestOf ok h1 u (by omega) (fun M2 f2 => hp M2 (f1.tr f2.fa))
theorem c_mo_mothersOf (ok : okD D) (h : MW D M) (u : Nat) (hu : u < dn D) (hp : ∀ M', FM M M' → P (motN D u) M') : ClI G J_mo_mothersOf M [pR 101, pI (u : Int)] P := by
  have o1 := ok.1
  have lp : ∀ (d i : Nat) (M1 : MT), i + d = dn D → FM M M1 → WpI G J_mo_mothersOf 4 [(0, pR 101), (1, pI (u : Int)), (2, pI (itr (motS D u) i 0)), (3, pI (i : Int))] [] M1 P := by
    intro d
    induction d with
    | zero =>
      intro i M1 hi hf
      have hc := h.fm hf
      have hie : i = dn D := by omega
      subst hie
      exact b_mo_mothersOf_4 _ _ _ ⟨fun _ => hp M1 hf, fun c => by rw [hc.1] at c; omega⟩
    | succ d ih =>
      intro i M1 hi hf
      have hc := h.fm hf
      have es : itr (motS D u) (i + 1) 0 = motS D u i (itr (motS D u) i 0) := rfl
      have ih' := fun M2 a => ih (i + 1) M2 (by omega) a
      have hr := mot_r D u i
      rw [es] at ih'
      generalize itr (motS D u) i 0 = s at *
      unfold motS at ih'
      refine b_mo_mothersOf_4 _ _ _ ⟨fun c => by rw [hc.1] at c; omega, fun _ => ⟨fun c2 => ?_, fun c2 => c_mo_commonBoth ok hc i u (by omega) hu (fun M2 f2 => ⟨⟨by omega, by omega⟩, ?_⟩)⟩⟩
      · have nx := ih' M1 hf
        rw [if_neg (fun z => z.1 (by omega))] at nx
        rw [wi (by omega), ior_0 hr]
        exact nx
      · have hc2 := hc.fm f2
        have nx := ih' M2 (hf.tr f2)
        rw [tN, (hc2.2.1 i (by omega)).1, wi (by omega), ior_0 hr]
        refine ⟨fun c3 => ?_, fun c3 => ?_⟩
        · rw [if_neg (fun z => c3 z.2)] at nx
          exact nx
        · rw [if_pos ⟨fun z => c2 (by omega), c3⟩] at nx
          exact nx
  exact e_mo_mothersOf _ (lp (dn D) 0 M (by omega) FM.rf)
theorem c_mo_mothers (ok : okD D) (rd : Rd G D M) (t : Int) (hp : ∀ M', FA M M' → P (motA D t) M') : ClI G J_mo_mothers M [pR 101, pI t] P := by
  unfold motA at hp
  refine e_mo_mothers _ (rd _ (fun M1 f1 h1 => c_mo_isTune (dn D) ok.1 h1.1 _ ⟨fun c => ?_, fun c => ?_⟩))
  · have := hp M1 f1
    rw [if_neg (b01_0.mp c)] at this
    exact this
  · have z1 := b01_n.mp c
    obtain ⟨u, rfl⟩ : ∃ u : Nat, t = (u : Int) := ⟨t.toNat, by omega⟩
    rw [if_pos z1, tN] at hp
    exact c_mo_mothersOf ok h1 u (by omega) (fun M2 f2 => hp M2 (f1.tr f2.fa))
end CTG
