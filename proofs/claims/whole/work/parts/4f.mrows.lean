/-! lend, longest, who: the model's way -/
theorem hit_bits (s b : Int) (hs : 0 ≤ s ∧ s ≤ 127) : iand s (ixor b (-1)) = 0 ↔ iand b s = s := by
  unfold iand ixor
  rw [o32]
  have hr : R32 s := ⟨by omega, by omega⟩
  have e1 : (Int32.ofInt b &&& Int32.ofInt s).toInt = s ↔ Int32.ofInt b &&& Int32.ofInt s = Int32.ofInt s := by
    constructor
    · intro h
      have h2 : (Int32.ofInt b &&& Int32.ofInt s).toInt = (Int32.ofInt s).toInt := by rw [t32 hr]; exact h
      exact Int32.toInt_inj.mp h2
    · intro h
      rw [h, t32 hr]
  have e2 : (Int32.ofInt s &&& (Int32.ofInt b ^^^ Int32.ofInt (-1))).toInt = 0 ↔ Int32.ofInt s &&& (Int32.ofInt b ^^^ Int32.ofInt (-1)) = 0 := by
    constructor
    · intro h
      have h2 : (Int32.ofInt s &&& (Int32.ofInt b ^^^ Int32.ofInt (-1))).toInt = (0 : Int32).toInt := h
      exact Int32.toInt_inj.mp h2
    · intro h
      rw [h]
      rfl
  rw [e1, e2]
  generalize Int32.ofInt s = S
  generalize Int32.ofInt b = B
  have m1 : (Int32.ofInt (-1)).toBitVec = BitVec.allOnes 32 := by decide
  rw [← Int32.toBitVec_inj, ← Int32.toBitVec_inj, Int32.toBitVec_and, Int32.toBitVec_and, Int32.toBitVec_xor, m1]
  have z : (0 : Int32).toBitVec = 0#32 := rfl
  rw [z]
  have ao : ∀ i (hi : i < 32), (4294967295#32)[i] = true := by decide
  generalize S.toBitVec = X
  generalize B.toBitVec = Y
  constructor
  · intro h
    apply BitVec.eq_of_getLsbD_eq
    intro i hi
    have h2 := congrArg (fun v => BitVec.getLsbD v i) h
    simp [hi] at h2 ⊢
    intro h3
    exact (h2 h3).trans (ao i hi)
  · intro h
    apply BitVec.eq_of_getLsbD_eq
    intro i hi
    have h2 := congrArg (fun v => BitVec.getLsbD v i) h
    simp [hi] at h2 ⊢
    intro h3
    exact (h2 h3).trans (ao i hi).symm
section CMRW
variable {G : GT} {M : MT} {D : DT}
theorem c_mo_codes {P : Int → MT → Prop} (ok : okD D) (h : MW D M) (n : Nat) (hn : n ≤ 3) (hp : P (((db D) ^ n : Nat) : Int) M) : ClI G J_mo_codes M [pR 101, pI (n : Int)] P := by
  have o2 := ok.2.2.1
  have lp : ∀ (d i : Nat), i + d = n → WpI G J_mo_codes 4 [(0, pR 101), (1, pI (n : Int)), (2, pI (((db D) ^ i : Nat) : Int)), (3, pI (i : Int))] [] M P := by
    intro d
    induction d with
    | zero =>
      intro i hi
      have hie : i = n := by omega
      subst hie
      exact b_mo_codes_4 _ _ _ ⟨fun _ => hp, fun c => absurd c (by omega)⟩
    | succ d ih =>
      intro i hi
      refine b_mo_codes_4 _ _ _ ⟨fun c => absurd c (by omega), fun _ => ?_⟩
      have h1 := pw_le (b := db D) (n := i + 1) o2 (by omega)
      have h2 : (db D) ^ (i + 1) = (db D) ^ i * db D := rfl
      rw [wi (by omega), h.2.2.1, ← Int.natCast_mul, ← h2, w32_s (by omega) (by omega)]
      exact ih (i + 1) (by omega)
  exact e_mo_codes _ (lp n 0 (by omega))
theorem c_mo_figureOf {P : Int → MT → Prop} (ok : okD D) (h : MW D M) (r n k : Nat) (hn : n ≤ 3) (hk : k < n) (hr : r < 1000) (hb : 0 < db D) (hp : P (fig D n r k : Int) M) : ClI G J_mo_figureOf M [pR 101, pI (r : Int), pI (n : Int), pI (k : Int)] P := by
  have o2 := ok.2.2.1
  refine e_mo_figureOf _ _ _ ?_
  rw [w32_s (by omega) (by omega), show (n : Int) - 1 = ((n - 1 : Nat) : Int) by omega]
  have lp : ∀ (d j : Nat), j = k + d → j < n → ∀ q : Nat, q < 1000 → q = r / (db D) ^ (n - 1 - j) → WpI G J_mo_figureOf 8 [(0, pR 101), (3, pI (k : Int)), (4, pI (q : Int)), (5, pI (j : Int))] [] M P := by
    intro d
    induction d with
    | zero =>
      intro j hj hjn q hq1 hq
      have hje : j = k := by omega
      subst hje
      refine b_mo_figureOf_8 _ _ _ ⟨fun _ => ?_, fun c => absurd c (by omega)⟩
      have hm := Nat.mod_lt q hb
      rw [h.2.2.1, tm, wn (by omega), hq]
      exact ⟨by omega, hp⟩
    | succ d ih =>
      intro j hj hjn q hq1 hq
      refine b_mo_figureOf_8 _ _ _ ⟨fun c => absurd c (by omega), fun _ => ?_⟩
      have hd := Nat.div_le_self q (db D)
      rw [h.2.2.1, td, wn (by omega), w32_s (by omega) (by omega), show (j : Int) + (-1) = ((j - 1 : Nat) : Int) by omega]
      refine ⟨by omega, ih (j - 1) (by omega) (by omega) _ (by omega) ?_⟩
      rw [hq, Nat.div_div_eq_div_mul, show n - 1 - (j - 1) = (n - 1 - j) + 1 by omega, Nat.pow_succ]
  exact lp (n - 1 - k) (n - 1) (by omega) (by omega) r hr (by rw [Nat.sub_self, Nat.pow_zero, Nat.div_one])
theorem c_mo_turns {P : MT → Prop} (ok : okD D) (h : MW D M) (t r n : Nat) (ht : t < dn D) (hn : n ≤ 3) (hr : r < (db D) ^ n) (hp : ∀ M', FM M M' → NW M' 6 (hw D (dT D t) (fig D n r) n) → P M') : ClV G J_mo_turns M [pR 101, pI (t : Int), pI (r : Int), pI (n : Int)] P := by
  have o1 := ok.1
  have o2 := ok.2.2.1
  have hp2 := pw_le (b := db D) (n := n) o2 hn
  have lp : ∀ (d i : Nat) (M1 : MT), i + d = n → FM M M1 → NW M1 6 (hw D (dT D t) (fig D n r) i) → WpV G J_mo_turns 10 [(0, pR 101), (2, pI (r : Int)), (3, pI (n : Int)), (4, pI (i : Int))] [] M1 P := by
    intro d
    induction d with
    | zero =>
      intro i M1 hi hf hn6
      have hie : i = n := by omega
      subst hie
      exact b_mo_turns_10 _ _ _ ⟨fun _ => hp M1 hf hn6, fun c => absurd c (by omega)⟩
    | succ d ih =>
      intro i M1 hi hf hn6
      have hc := h.fm hf
      have hb : 0 < db D := pw_nz hr (by omega)
      have hfl := fig_lt hb n r i
      have bb := hc.2.2.2.1 _ hfl
      have hl := hw_ok ok (ok.2.1 t ht).2 (w := fig D n r) i (fun j _ => fig_lt hb n r j)
      refine b_mo_turns_10 _ _ _ ⟨fun c => absurd c (by omega), fun _ => c_mo_figureOf ok hc r n i hn (by omega) (by omega) hb ?_⟩
      refine c_mo_hummed 6 (fig D n r i) (by omega) (by omega) _ hl.1 _ _ _ hn6 bb.1 bb.2.1 bb.2.2 (ok.bw _ hfl) (fun M2 f2 n2 => ?_)
      rw [wi (by omega)]
      exact ih (i + 1) M2 (by omega) (hf.tr (FM.fn f2)) n2
  exact e_mo_turns _ _ _ (c_mo_begins t 6 (by omega) (by omega) _ (ok.2.1 t ht).2.1 (h.2.1 t ht) (fun M1 f1 n1 => lp n 0 M1 (by omega) (FM.fn f1) n1))
theorem ix240 {i : Nat} (hi : i < 1000) : w32 (240 + (i : Int)) = ((40 * 6 + i : Nat) : Int) := by
  rw [w32_s (by omega) (by omega)]
  omega
theorem c_mo_notesNow {P : Int → MT → Prop} (l : List Int) (hl : l.length ≤ 40) (hn : NW M 6 l) (hp : P (bitsL l) M) : ClI G J_mo_notesNow M [pR 101] P := by
  have lp : ∀ (d i : Nat), i + d = l.length → WpI G J_mo_notesNow 4 [(0, pR 101), (1, pI ((l.take i).foldl (fun b v => ior b (ishl 1 v)) 0)), (2, pI (i : Int))] [] M P := by
    intro d
    induction d with
    | zero =>
      intro i hi
      refine b_mo_notesNow_4 _ _ ⟨fun _ => ?_, fun c => by rw [hn.1] at c; omega⟩
      rw [List.take_of_length_le (by omega)]
      exact hp
    | succ d ih =>
      intro i hi
      refine b_mo_notesNow_4 _ _ ⟨fun c => by rw [hn.1] at c; omega, fun _ => ?_⟩
      have h1 := ih (i + 1) (by omega)
      rw [fold_take (fun b v => ior b (ishl 1 v)) l 0 (by omega)] at h1
      rw [ix240 (by omega), tN, hn.at (by omega), wi (by omega)]
      exact ⟨by omega, h1⟩
  exact e_mo_notesNow (lp l.length 0 (by omega))
theorem c_mo_lendOf {P : Int → MT → Prop} (ok : okD D) (h : MW D M) (t : Nat) (ht : t < dn D) (s i : Int) (hs : 0 ≤ s ∧ s ≤ 127) (hi : -1 ≤ i ∧ i ≤ 2) (hp : ∀ M', FM M M' → P (lendN D t s i) M') : ClI G J_mo_lendOf M [pR 101, pI (t : Int), pI s, pI i] P := by
  have o2 := ok.2.2.1
  have hlo := (ok.2.1 t ht).2
  have outer : ∀ (d n : Nat) (M2 : MT), n + d = 4 → FM M M2 → (∀ M', FM M M' → P (lendG D (dT D t) s i d n) M') → WpI G J_mo_lendOf 3 [(0, pR 101), (1, pI (t : Int)), (2, pI s), (3, pI i), (4, pI (n : Int))] [] M2 P := by
    intro d
    induction d with
    | zero =>
      intro n M2 hn hf hq
      exact b_mo_lendOf_3 _ _ _ _ ⟨fun _ => hq M2 hf, fun c => absurd c (by omega)⟩
    | succ d ih =>
      intro n M2 hn hf hq
      have hp2 := pw_le (b := db D) (n := n) o2 (by omega)
      have inner : ∀ (d2 r : Nat) (M3 : MT), r + d2 = (db D) ^ n → FM M M3 → (∀ M', FM M M' → P ((lendR D (dT D t) s i n d2 r).getD (lendG D (dT D t) s i d (n + 1))) M') → WpI G J_mo_lendOf 12 [(0, pR 101), (1, pI (t : Int)), (2, pI s), (3, pI i), (4, pI (n : Int)), (5, pI (r : Int))] [] M3 P := by
        intro d2
        induction d2 with
        | zero =>
          intro r M3 hr hf3 hq3
          refine b_mo_lendOf_12 _ _ _ _ _ (c_mo_codes ok (h.fm hf3) n (by omega) ⟨fun _ => ?_, fun c => absurd c (by omega)⟩)
          rw [wi (by omega)]
          exact ih (n + 1) M3 (by omega) hf3 hq3
        | succ d2 ih2 =>
          intro r M3 hr hf3 hq3
          have hq3' : ∀ M', FM M M' → P ((if hitL D (dT D t) s n r then some (lendV D i n r) else lendR D (dT D t) s i n d2 (r + 1)).getD (lendG D (dT D t) s i d (n + 1))) M' := hq3
          have hc3 := h.fm hf3
          refine b_mo_lendOf_12 _ _ _ _ _ (c_mo_codes ok hc3 n (by omega) ⟨fun c => absurd c (by omega), fun _ => c_mo_turns ok hc3 t r n ht (by omega) (by omega) (fun M4 f4 n4 => ?_)⟩)
          have hl4 := hw_ok ok hlo (w := fig D n r) n (fun j hj => fig_lt (pw_nz (show r < (db D) ^ n by omega) (by omega)) n r j)
          refine c_mo_notesNow _ hl4.1 n4 ⟨fun c => ?_, fun c => ?_⟩
          · rw [if_neg (fun z => c ((hit_bits s _ hs).mpr z))] at hq3'
            rw [wi (by omega)]
            exact ih2 (r + 1) M4 (by omega) (hf3.tr f4) hq3'
          · rw [if_pos ((hit_bits s _ hs).mp c)] at hq3'
            have hv : P (lendV D i n r) M4 := hq3' M4 (hf3.tr f4)
            unfold lendV at hv
            refine ⟨fun c5 => ⟨fun c6 => ?_, fun c6 => ?_⟩, fun c5 => ?_⟩
            · rw [if_neg c5, if_neg (by omega)] at hv
              exact hv
            · rw [if_neg c5, if_pos c6] at hv
              obtain ⟨j, rfl⟩ : ∃ j : Nat, i = (j : Int) := ⟨i.toNat, by omega⟩
              rw [tN] at hv
              exact c_mo_figureOf ok (hc3.fm f4) r n j (by omega) (by omega) (by omega) (pw_nz (show r < (db D) ^ n by omega) (by omega)) hv
            · rw [if_pos c5] at hv
              exact hv
      exact b_mo_lendOf_3 _ _ _ _ ⟨fun c => absurd c (by omega), fun _ => inner ((db D) ^ n) 0 M2 (by omega) hf hq⟩
  exact e_mo_lendOf _ _ _ (outer 4 0 M (by omega) FM.rf hp)
theorem c_mo_lend {P : Int → MT → Prop} (ok : okD D) (rd : Rd G D M) (t s i : Int) (hp : ∀ M', FA M M' → P (lendA D t s i) M') : ClI G J_mo_lend M [pR 101, pI t, pI s, pI i] P := by
  unfold lendA at hp
  have o1 := ok.1
  refine e_mo_lend _ _ _ (rd _ (fun M1 f1 h1 => ?_))
  have no : ¬ ((0 ≤ t ∧ t < (dn D : Int)) ∧ (0 ≤ s ∧ s ≤ 127) ∧ (-1 ≤ i ∧ i ≤ 2)) → P (-2) M1 := fun c => by
    have := hp M1 f1
    rw [if_neg c] at this
    exact this
  refine c_mo_isTune (dn D) ok.1 h1.1 _ ⟨fun c => no (fun z => b01_0.mp c z.1), fun c => c_mo_in _ _ _ ⟨fun c2 => no (fun z => b01_0.mp c2 z.2.1), fun c2 => c_mo_in _ _ _ ⟨fun c3 => no (fun z => b01_0.mp c3 z.2.2), fun c3 => ?_⟩⟩⟩
  have z1 := b01_n.mp c
  have z2 := b01_n.mp c2
  have z3 := b01_n.mp c3
  obtain ⟨u, rfl⟩ : ∃ u : Nat, t = (u : Int) := ⟨t.toNat, by omega⟩
  rw [if_pos ⟨z1, z2, z3⟩, tN] at hp
  exact c_mo_lendOf ok h1 u (by omega) s i z2 z3 (fun M2 f2 => hp M2 (f1.tr f2.fa))
theorem c_mo_longestOf {P : Int → MT → Prop} (ok : okD D) (h : MW D M) (t m : Nat) (ht : t < dn D) (hm : 1 ≤ m ∧ m ≤ 3) (i : Int) (hi : -1 ≤ i ∧ i ≤ (m : Int) - 1) (hp : ∀ M', FM M M' → P (lonN D t m i) M') : ClI G J_mo_longestOf M [pR 101, pI (t : Int), pI (m : Int), pI i] P := by
  have o2 := ok.2.2.1
  have hlo := (ok.2.1 t ht).2
  have hp2 := pw_le (b := db D) (n := m) o2 (by omega)
  have lp : ∀ (d r : Nat) (M2 : MT), r + d = (db D) ^ m → FM M M2 → WpI G J_mo_longestOf 9 [(0, pR 101), (1, pI (t : Int)), (2, pI (m : Int)), (3, pI i), (4, pI (itr (lonS D (dT D t) m) r (-1, -1)).2), (5, pI (itr (lonS D (dT D t) m) r (-1, -1)).1), (6, pI (r : Int))] [] M2 P := by
    intro d
    induction d with
    | zero =>
      intro r M2 hr hf
      have hre : r = (db D) ^ m := by omega
      subst hre
      have hv := hp M2 hf
      unfold lonN lonV at hv
      have hin := lon_inv D (dT D t) m ((db D) ^ m)
      refine b_mo_longestOf_9 _ _ _ _ _ _ (c_mo_codes ok (h.fm hf) m (by omega) ⟨fun _ => ⟨fun c => ⟨fun c2 => ?_, fun c2 => ?_⟩, fun c => ?_⟩, fun c => absurd c (by omega)⟩)
      · rw [if_neg c2, if_neg c] at hv
        rcases hin.1 with h0 | ⟨r, hr1, hr2⟩
        · exact absurd h0 c
        · rw [hr2, tN] at hv
          rw [hr2]
          obtain ⟨j, rfl⟩ : ∃ j : Nat, i = (j : Int) := ⟨i.toNat, by omega⟩
          rw [tN] at hv
          exact c_mo_figureOf ok (h.fm hf) r m j (by omega) (by omega) (by omega) (pw_nz hr1 (by omega)) hv
      · rw [if_pos c2] at hv
        exact hv
      · rw [hin.2.1 c, if_pos c] at hv
        have e : (if i = -1 then (-1 : Int) else -1) = -1 := by split <;> rfl
        rw [e] at hv
        exact hv
    | succ d ih =>
      intro r M2 hr hf
      have es : itr (lonS D (dT D t) m) (r + 1) (-1, -1) = lonS D (dT D t) m r (itr (lonS D (dT D t) m) r (-1, -1)) := rfl
      have hin := lon_inv D (dT D t) m r
      refine b_mo_longestOf_9 _ _ _ _ _ _ (c_mo_codes ok (h.fm hf) m (by omega) ⟨fun c => absurd c (by omega), fun _ => c_mo_turns ok (h.fm hf) t r m ht (by omega) (by omega) (fun M4 f4 n4 => ?_)⟩)
      have nx := ih (r + 1) M4 (by omega) (hf.tr f4)
      rw [es] at nx
      generalize itr (lonS D (dT D t) m) r (-1, -1) = st at *
      unfold lonS at nx
      rw [n4.1, wi (by omega)]
      refine ⟨fun c => ?_, fun c => ?_⟩
      · rw [if_neg (by omega)] at nx
        refine e_mo_greater _ _ ⟨fun _ => nx, fun c2 => absurd c2 (by omega)⟩
      · rw [if_pos (by omega)] at nx
        refine e_mo_greater _ _ ⟨fun c2 => absurd c2 (by omega), fun _ => nx⟩
  exact e_mo_longestOf _ _ _ (lp ((db D) ^ m) 0 M (by omega) FM.rf)
theorem c_mo_longest {P : Int → MT → Prop} (ok : okD D) (rd : Rd G D M) (t n i : Int) (hp : ∀ M', FA M M' → P (lonA D t n i) M') : ClI G J_mo_longest M [pR 101, pI t, pI n, pI i] P := by
  unfold lonA at hp
  have o1 := ok.1
  refine e_mo_longest _ _ _ (rd _ (fun M1 f1 h1 => ?_))
  have no : ¬ ((0 ≤ t ∧ t < (dn D : Int)) ∧ (1 ≤ n ∧ n ≤ 3) ∧ (-1 ≤ i ∧ i ≤ n - 1)) → P (-2) M1 := fun c => by
    have := hp M1 f1
    rw [if_neg c] at this
    exact this
  refine c_mo_isTune (dn D) ok.1 h1.1 _ ⟨fun c => no (fun z => b01_0.mp c z.1), fun c => c_mo_in _ _ _ ⟨fun c2 => no (fun z => b01_0.mp c2 z.2.1), fun c2 => ?_⟩⟩
  have z1 := b01_n.mp c
  have z2 := b01_n.mp c2
  rw [w32_s (x := n - 1) (by omega) (by omega)]
  refine c_mo_in _ _ _ ⟨fun c3 => no (fun z => b01_0.mp c3 z.2.2), fun c3 => ?_⟩
  have z3 := b01_n.mp c3
  obtain ⟨u, rfl⟩ : ∃ u : Nat, t = (u : Int) := ⟨t.toNat, by omega⟩
  obtain ⟨m, rfl⟩ : ∃ m : Nat, n = (m : Int) := ⟨n.toNat, by omega⟩
  rw [if_pos ⟨z1, z2, z3⟩, tN, tN] at hp
  exact c_mo_longestOf ok h1 u m (by omega) (by omega) i z3 (fun M2 f2 => hp M2 (f1.tr f2.fa))
theorem c_mo_isNow {P : Int → MT → Prop} (ok : okD D) (h : MW D M) (t : Nat) (ht : t < dn D) (l : List Int) (hl : l.length ≤ 40) (hn : NW M 6 l) (hp : P (b01 (l = dT D t)) M) : ClI G J_mo_isNow M [pR 101, pI (t : Int)] P := by
  have o1 := ok.1
  have td' := h.2.1 t ht
  have hx := (ok.2.1 t ht).1
  have lp : ∀ (d i : Nat) (b : Prop) [Decidable b], i + d = (dT D t).length → (b ↔ (l.length = (dT D t).length ∧ ∀ j, j < i → l.getD j 0 = (dT D t).getD j 0)) → WpI G J_mo_isNow 24 [(0, pR 101), (1, pI (t : Int)), (2, pI (b01 b)), (3, pI (i : Int))] [] M P := by
    intro d
    induction d with
    | zero =>
      intro i b _ hi hb
      have key : b01 b = b01 (l = dT D t) := by
        by_cases hbb : b
        · have hb2 := hb.mp hbb
          have e : l = dT D t := by
            apply List.ext_getElem hb2.1
            intro j h1 h2
            have h3 := hb2.2 j (by omega)
            rw [List.getD_eq_getElem?_getD, List.getD_eq_getElem?_getD, List.getElem?_eq_getElem h1, List.getElem?_eq_getElem h2] at h3
            exact h3
          rw [b01_t hbb, b01_t e]
        · rw [b01_f hbb, b01_f (fun z => hbb (hb.mpr (by rw [z]; exact ⟨rfl, fun _ _ => rfl⟩)))]
      refine b_mo_isNow_24 _ _ _ ⟨⟨by omega, by omega⟩, fun _ => ⟨b01_01 _, ?_⟩, fun c => by rw [tN, td'.1] at c; omega⟩
      rw [key]
      exact hp
    | succ d ih =>
      intro i b _ hi hb
      refine b_mo_isNow_24 _ _ _ ⟨⟨by omega, by omega⟩, fun c => by rw [tN, td'.1] at c; omega, fun _ => ⟨fun c => ⟨b01_01 _, ?_⟩, fun c => ?_⟩⟩
      · have hbb := b01_0.mp c
        rw [b01_f (fun z => hbb (hb.mpr (by rw [z]; exact ⟨rfl, fun _ _ => rfl⟩)))] at hp
        rw [c]
        exact hp
      · have hb2 := hb.mp (b01_n.mp c)
        rw [ix240 (by omega), ix40 (by omega) (by omega), tN, tN, hn.at (by omega), td'.2 i (by omega), wi (by omega)]
        refine ⟨by omega, by omega, fun c2 => ?_, fun c2 => ?_⟩
        · exact ih (i + 1) False (by omega) ⟨fun z => z.elim, fun z => c2 (z.2 i (by omega))⟩
        · exact ih (i + 1) True (by omega) ⟨fun _ => ⟨hb2.1, fun j hj => by
            by_cases ej : j = i
            · rw [ej]
              exact c2
            · exact hb2.2 j (by omega)⟩, fun _ => trivial⟩
  refine e_mo_isNow _ ⟨⟨by omega, by omega⟩, ?_⟩
  rw [tN, hn.1, td'.1]
  refine ⟨fun c => ?_, fun c => ?_⟩
  · exact lp (dT D t).length 0 False (by omega) ⟨fun z => z.elim, fun z => c (by rw [z.1])⟩
  · exact lp (dT D t).length 0 True (by omega) ⟨fun _ => ⟨by omega, fun j hj => absurd hj (Nat.not_lt_zero j)⟩, fun _ => trivial⟩
theorem c_mo_rowOf {P : Int → MT → Prop} (ok : okD D) (h : MW D M) (r n : Nat) (hn : n ≤ 3) (hr : r < (db D) ^ n) (hp : P (rowN D n r n) M) : ClI G J_mo_rowOf M [pR 101, pI (r : Int), pI (n : Int)] P := by
  have hp2 := pw_le (b := db D) (n := n) ok.2.2.1 (by omega)
  have lp : ∀ (d k : Nat), k + d = n → WpI G J_mo_rowOf 5 [(0, pR 101), (1, pI (r : Int)), (2, pI (n : Int)), (3, pI (rowN D n r k)), (4, pI (k : Int))] [] M P := by
    intro d
    induction d with
    | zero =>
      intro k hk
      have hke : k = n := by omega
      subst hke
      exact b_mo_rowOf_5 _ _ _ _ ⟨fun _ => hp, fun c => absurd c (by omega)⟩
    | succ d ih =>
      intro k hk
      have hb : 0 < db D := pw_nz hr (by omega)
      have hf := fig_lt hb n r k
      have ho := ok.2.2.1
      have hi := rowN_in ok hb n r k (by omega)
      refine b_mo_rowOf_5 _ _ _ _ ⟨fun c => absurd c (by omega), fun _ => c_mo_figureOf ok h r n k hn (by omega) (by omega) hb ?_⟩
      rw [wi (by omega), w32_s (x := 7 * rowN D n r k) (by omega) (by omega), w32_s (x := 7 * rowN D n r k + (fig D n r k : Int)) (by omega) (by omega), w32_s (by omega) (by omega), Int.mul_comm 7]
      exact ih (k + 1) (by omega)
  exact e_mo_rowOf _ _ (lp n 0 (by omega))
theorem c_mo_whoOf {P : Int → MT → Prop} (ok : okD D) (h : MW D M) (t x : Nat) (ht : t < dn D) (hx : x < dn D) (v : Int) (hp : ∀ M', FM M M' → P (whoN D t x v) M') : ClI G J_mo_whoOf M [pR 101, pI (t : Int), pI (x : Int), pI v] P := by
  have hlo := (ok.2.1 t ht).2
  unfold whoN at hp
  have outer : ∀ (d n : Nat) (M2 : MT), n + d = 4 → FM M M2 → WpI G J_mo_whoOf 9 [(0, pR 101), (1, pI (t : Int)), (2, pI (x : Int)), (3, pI v), (4, pI (itr (whoR D (dT D t) (dT D x)) n (0, -1)).1), (5, pI (itr (whoR D (dT D t) (dT D x)) n (0, -1)).2), (6, pI (n : Int))] [] M2 P := by
    intro d
    induction d with
    | zero =>
      intro n M2 hn hf
      have hne : n = 4 := by omega
      subst hne
      have hv := hp M2 hf
      refine b_mo_whoOf_9 _ _ _ _ _ _ ⟨fun _ => ⟨fun c => ?_, fun c => ?_⟩, fun c => absurd c (by omega)⟩
      · rw [if_neg c] at hv
        exact hv
      · rw [if_pos c] at hv
        exact hv
    | succ d ih =>
      intro n M2 hn hf
      have ro := whoR_in ok (dT D t) (dT D x) n (by omega)
      have ih' := fun M3 a => ih (n + 1) M3 (by omega) a
      have es : itr (whoR D (dT D t) (dT D x)) (n + 1) (0, -1) = itr (whoS D (dT D t) (dT D x) n) ((db D) ^ n) (itr (whoR D (dT D t) (dT D x)) n (0, -1)) := rfl
      rw [es] at ih'
      generalize itr (whoR D (dT D t) (dT D x)) n (0, -1) = st0 at *
      have hp2 := pw_le (b := db D) (n := n) ok.2.2.1 (by omega)
      have inner : ∀ (d2 r : Nat) (M3 : MT), r + d2 = (db D) ^ n → FM M M3 → WpI G J_mo_whoOf 18 [(0, pR 101), (1, pI (t : Int)), (2, pI (x : Int)), (3, pI v), (4, pI (itr (whoS D (dT D t) (dT D x) n) r st0).1), (5, pI (itr (whoS D (dT D t) (dT D x) n) r st0).2), (6, pI (n : Int)), (7, pI (r : Int))] [] M3 P := by
        intro d2
        induction d2 with
        | zero =>
          intro r M3 hr hf3
          have hre : r = (db D) ^ n := by omega
          subst hre
          refine b_mo_whoOf_18 _ _ _ _ _ _ _ (c_mo_codes ok (h.fm hf3) n (by omega) ⟨fun _ => ?_, fun c => absurd c (by omega)⟩)
          rw [wi (by omega)]
          exact ih' M3 hf3
        | succ d2 ih2 =>
          intro r M3 hr hf3
          have hc3 := h.fm hf3
          have bi := whoI_in D (dT D t) (dT D x) n st0 ro r
          refine b_mo_whoOf_18 _ _ _ _ _ _ _ (c_mo_codes ok hc3 n (by omega) ⟨fun c => absurd c (by omega), fun _ => c_mo_turns ok hc3 t r n ht (by omega) (by omega) (fun M4 f4 n4 => ?_)⟩)
          have hl4 := hw_ok ok hlo (w := fig D n r) n (fun j hj => fig_lt (pw_nz (show r < (db D) ^ n by omega) (by omega)) n r j)
          have hc4 := hc3.fm f4
          have nx := ih2 (r + 1) M4 (by omega) (hf3.tr f4)
          have es2 : itr (whoS D (dT D t) (dT D x) n) (r + 1) st0 = whoS D (dT D t) (dT D x) n r (itr (whoS D (dT D t) (dT D x) n) r st0) := rfl
          rw [es2] at nx
          generalize itr (whoS D (dT D t) (dT D x) n) r st0 = st at *
          unfold whoS at nx
          refine c_mo_isNow ok hc4 x hx _ hl4.1 n4 ⟨fun c => ?_, fun c => ⟨fun c5 => ?_, fun c5 => ?_⟩⟩
          · rw [if_neg (b01_0.mp c)] at nx
            rw [wi (by omega)]
            exact nx
          · rw [if_pos (b01_n.mp c), if_neg c5] at nx
            rw [wi (by omega), w32_s (by omega) (by omega)]
            exact nx
          · rw [if_pos (b01_n.mp c), if_pos c5] at nx
            refine c_mo_rowOf ok hc4 r n (by omega) (by omega) ?_
            rw [wi (by omega), w32_s (by omega) (by omega)]
            exact nx
      exact b_mo_whoOf_9 _ _ _ _ _ _ ⟨fun c => absurd c (by omega), fun _ => inner ((db D) ^ n) 0 M2 (by omega) hf⟩
  exact e_mo_whoOf _ _ _ (outer 4 0 M (by omega) FM.rf)
theorem c_mo_who {P : Int → MT → Prop} (ok : okD D) (rd : Rd G D M) (t o v : Int) (hp : ∀ M', FA M M' → P (whoA D t o v) M') : ClI G J_mo_who M [pR 101, pI t, pI o, pI v] P := by
  unfold whoA at hp
  have o1 := ok.1
  refine e_mo_who _ _ _ (rd _ (fun M1 f1 h1 => ?_))
  have no : ¬ ((0 ≤ t ∧ t < (dn D : Int)) ∧ (0 ≤ o ∧ o < (dn D : Int)) ∧ (0 ≤ v ∧ v ≤ 1)) → P (-2) M1 := fun c => by
    have := hp M1 f1
    rw [if_neg c] at this
    exact this
  refine c_mo_isTune (dn D) ok.1 h1.1 _ ⟨fun c => no (fun z => b01_0.mp c z.1), fun c => c_mo_isTune (dn D) ok.1 h1.1 _ ⟨fun c2 => no (fun z => b01_0.mp c2 z.2.1), fun c2 => c_mo_isTwo _ ⟨fun c3 => no (fun z => b01_0.mp c3 z.2.2), fun c3 => ?_⟩⟩⟩
  have z1 := b01_n.mp c
  have z2 := b01_n.mp c2
  have z3 := b01_n.mp c3
  obtain ⟨u, rfl⟩ : ∃ u : Nat, t = (u : Int) := ⟨t.toNat, by omega⟩
  obtain ⟨x, rfl⟩ : ∃ x : Nat, o = (x : Int) := ⟨o.toNat, by omega⟩
  rw [if_pos ⟨z1, z2, z3⟩, tN, tN] at hp
  exact c_mo_whoOf ok h1 u x (by omega) (by omega) v (fun M2 f2 => hp M2 (f1.tr f2.fa))
end CMRW
