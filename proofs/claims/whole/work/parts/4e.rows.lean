/-! lend, longest, who: what they answer, and the class's way -/
abbrev hitL (D : DT) (l : List Int) (s : Int) (n r : Nat) : Prop := iand (bitsL (hw D l (fig D n r) n)) s = s
def lendV (D : DT) (i : Int) (n r : Nat) : Int := if i = -1 then (n : Int) else if i < (n : Int) then (fig D n r i.toNat : Int) else -1
def lendR (D : DT) (l : List Int) (s i : Int) (n : Nat) : Nat → Nat → Option Int
  | 0, _ => none
  | d + 1, r => if hitL D l s n r then some (lendV D i n r) else lendR D l s i n d (r + 1)
def lendG (D : DT) (l : List Int) (s i : Int) : Nat → Nat → Int
  | 0, _ => -1
  | d + 1, n => (lendR D l s i n ((db D) ^ n) 0).getD (lendG D l s i d (n + 1))
def lendN (D : DT) (t : Nat) (s i : Int) : Int := lendG D (dT D t) s i 4 0
def lendA (D : DT) (t s i : Int) : Int := if (0 ≤ t ∧ t < (dn D : Int)) ∧ (0 ≤ s ∧ s ≤ 127) ∧ (-1 ≤ i ∧ i ≤ 2) then lendN D t.toNat s i else -2
def lonS (D : DT) (l : List Int) (n r : Nat) (st : Int × Int) : Int × Int := if st.1 < ((hw D l (fig D n r) n).length : Int) then (((hw D l (fig D n r) n).length : Int), (r : Int)) else st
def lonV (D : DT) (n : Nat) (i : Int) (st : Int × Int) : Int := if i = -1 then st.1 else if st.2 = -1 then -1 else (fig D n st.2.toNat i.toNat : Int)
def lonN (D : DT) (t n : Nat) (i : Int) : Int := lonV D n i (itr (lonS D (dT D t) n) ((db D) ^ n) (-1, -1))
def lonA (D : DT) (t n i : Int) : Int := if (0 ≤ t ∧ t < (dn D : Int)) ∧ (1 ≤ n ∧ n ≤ 3) ∧ (-1 ≤ i ∧ i ≤ n - 1) then lonN D t.toNat n.toNat i else -2
def rowN (D : DT) (n r k : Nat) : Int := itr (fun k v => v * 7 + (fig D n r k : Int) + 1) k 0
def whoS (D : DT) (l other : List Int) (n r : Nat) (st : Int × Int) : Int × Int := if hw D l (fig D n r) n = other then (st.1 + 1, if st.1 = 0 then rowN D n r n else st.2) else st
def whoR (D : DT) (l other : List Int) (n : Nat) (st : Int × Int) : Int × Int := itr (whoS D l other n) ((db D) ^ n) st
def whoN (D : DT) (t o : Nat) (w : Int) : Int := if w = 0 then (itr (whoR D (dT D t) (dT D o)) 4 (0, -1)).1 else (itr (whoR D (dT D t) (dT D o)) 4 (0, -1)).2
def whoA (D : DT) (t o w : Int) : Int := if (0 ≤ t ∧ t < (dn D : Int)) ∧ (0 ≤ o ∧ o < (dn D : Int)) ∧ (0 ≤ w ∧ w ≤ 1) then whoN D t.toNat o.toNat w else -2
theorem lon_inv (D : DT) (l : List Int) (n m : Nat) : ((itr (lonS D l n) m (-1, -1)).2 = -1 ∨ ∃ r : Nat, r < m ∧ (itr (lonS D l n) m (-1, -1)).2 = (r : Int)) ∧ ((itr (lonS D l n) m (-1, -1)).2 = -1 → (itr (lonS D l n) m (-1, -1)).1 = -1) ∧ -1 ≤ (itr (lonS D l n) m (-1, -1)).1 := by
  induction m with
  | zero => exact ⟨Or.inl rfl, fun _ => rfl, Int.le_refl _⟩
  | succ m ih =>
    have e : itr (lonS D l n) (m + 1) (-1, -1) = lonS D l n m (itr (lonS D l n) m (-1, -1)) := rfl
    rw [e]
    unfold lonS
    split
    · exact ⟨Or.inr ⟨m, by omega, rfl⟩, fun h => absurd (show (m : Int) = -1 from h) (by omega), by show (-1 : Int) ≤ ((hw D l (fig D n m) n).length : Int); omega⟩
    · refine ⟨?_, ih.2.1, ih.2.2⟩
      rcases ih.1 with h | ⟨r, h1, h2⟩
      · exact Or.inl h
      · exact Or.inr ⟨r, by omega, h2⟩
theorem rowN_in {D : DT} (ok : okD D) (h : 0 < db D) (n r : Nat) : ∀ k, k ≤ 3 → 0 ≤ rowN D n r k ∧ rowN D n r k ≤ 342 := by
  intro k hk
  have o2 := ok.2.2.1
  have f0 := fig_lt h n r 0
  have f1 := fig_lt h n r 1
  have f2 := fig_lt h n r 2
  have r0 : rowN D n r 0 = 0 := rfl
  have r1 : rowN D n r 1 = rowN D n r 0 * 7 + (fig D n r 0 : Int) + 1 := rfl
  have r2 : rowN D n r 2 = rowN D n r 1 * 7 + (fig D n r 1 : Int) + 1 := rfl
  have r3 : rowN D n r 3 = rowN D n r 2 * 7 + (fig D n r 2 : Int) + 1 := rfl
  have : k = 0 ∨ k = 1 ∨ k = 2 ∨ k = 3 := by omega
  rcases this with e | e | e | e <;> subst e <;> omega
theorem whoS_in (D : DT) (l other : List Int) (n r : Nat) (st : Int × Int) {m : Int} (h : 0 ≤ st.1 ∧ st.1 ≤ m) : 0 ≤ (whoS D l other n r st).1 ∧ (whoS D l other n r st).1 ≤ m + 1 := by
  unfold whoS
  split
  · show 0 ≤ st.1 + 1 ∧ st.1 + 1 ≤ m + 1
    omega
  · omega
theorem whoI_in (D : DT) (l other : List Int) (n : Nat) (st : Int × Int) {m : Int} (h : 0 ≤ st.1 ∧ st.1 ≤ m) : ∀ k : Nat, 0 ≤ (itr (whoS D l other n) k st).1 ∧ (itr (whoS D l other n) k st).1 ≤ m + (k : Int)
  | 0 => by simpa [itr] using h
  | k + 1 => by
    have := whoS_in D l other n k _ (whoI_in D l other n st h k)
    have e : itr (whoS D l other n) (k + 1) st = whoS D l other n k (itr (whoS D l other n) k st) := rfl
    rw [e]
    omega
theorem whoR_in {D : DT} (ok : okD D) (l other : List Int) : ∀ n : Nat, n ≤ 4 → 0 ≤ (itr (whoR D l other) n (0, -1)).1 ∧ (itr (whoR D l other) n (0, -1)).1 ≤ 300 * (n : Int)
  | 0, _ => ⟨Int.le_refl _, Int.le_refl _⟩
  | n + 1, h => by
    have h1 := whoI_in D l other n _ (whoR_in ok l other n (by omega)) ((db D) ^ n)
    have h2 := pw_le (b := db D) (n := n) ok.2.2.1 (by omega)
    have e : itr (whoR D l other) (n + 1) (0, -1) = itr (whoS D l other n) ((db D) ^ n) (itr (whoR D l other) n (0, -1)) := rfl
    rw [e]
    omega
section CRW
variable {G : GT} {M : MT} {D : DT} {P : Int → MT → Prop}
theorem c_tl_lend (ok : okD D) (h : CD D M) (t s i : Int) (hp : ∀ M', FQ M M' → P (lendA D t s i) M') : ClI G J_tl_lend M [pR 0, pI t, pI s, pI i] P := by
  unfold lendA at hp
  have o1 := ok.1
  have no : ¬ ((0 ≤ t ∧ t < (dn D : Int)) ∧ (0 ≤ s ∧ s ≤ 127) ∧ (-1 ≤ i ∧ i ≤ 2)) → P (-2) M := fun c => by
    have := hp M FQ.rf
    rw [if_neg c] at this
    exact this
  refine e_tl_lend _ _ _ (c_tl_isTune (dn D) ok.1 h.1 _ ⟨fun c => no (fun z => b01_0.mp c z.1), fun c => c_tl_within _ _ _ ⟨fun c2 => no (fun z => b01_0.mp c2 z.2.1), fun c2 => c_tl_within _ _ _ ⟨fun c3 => ?_, fun c3 => no (fun z => b01_0.mp c3 z.2.2)⟩⟩⟩)
  have z1 := b01_n.mp c
  have z2 := b01_n.mp c2
  have z3 := b01_n.mp c3
  obtain ⟨u, rfl⟩ : ∃ u : Nat, t = (u : Int) := ⟨t.toNat, by omega⟩
  rw [if_pos ⟨z1, z2, z3⟩, tN] at hp
  rw [tN]
  have hlo := (ok.2.1 u (by omega)).2
  refine ⟨⟨by omega, by omega⟩, c_tr_begin ok h u (by omega) (fun M1 w1 f1 t1 => ?_)⟩
  have outer : ∀ (d n : Nat) (M2 : MT) (K : Nat) (w : Nat → Nat), n + d = 4 → FQ M M2 → TRI D (dT D u) M2 K w → (∀ M', FQ M M' → P (lendG D (dT D u) s i d n) M') → WpI G J_tl_lend 49 [(0, pR 0), (2, pI s), (3, pI i), (4, pI (n : Int))] [] M2 P := by
    intro d
    induction d with
    | zero =>
      intro n M2 K w hn hf ht hq
      exact b_tl_lend_49 _ _ _ ⟨fun _ => hq M2 hf, fun c => absurd c (by omega)⟩
    | succ d ih =>
      intro n M2 K w hn hf ht hq
      have hq' : ∀ M', FQ M M' → P ((lendR D (dT D u) s i n ((db D) ^ n) 0).getD (lendG D (dT D u) s i d (n + 1))) M' := hq
      refine b_tl_lend_49 _ _ _ ⟨fun c => absurd c (by omega), fun _ => c_tr_rowsOf ok (h.fc ok hf.fc) _ (by omega) ?_⟩
      rw [tN]
      have inner : ∀ (d2 r : Nat) (M3 : MT) (K : Nat) (w : Nat → Nat), r + d2 = (db D) ^ n → FQ M M3 → TRI D (dT D u) M3 K w → (∀ M', FQ M M' → P ((lendR D (dT D u) s i n d2 r).getD (lendG D (dT D u) s i d (n + 1))) M') → WpI G J_tl_lend 73 [(0, pR 0), (2, pI s), (3, pI i), (4, pI (n : Int)), (5, pI (((db D) ^ n : Nat) : Int)), (6, pI (r : Int))] [] M3 P := by
        intro d2
        induction d2 with
        | zero =>
          intro r M3 K w hr hf3 ht3 hq3
          refine b_tl_lend_73 _ _ _ _ _ ⟨fun _ => ?_, fun c => absurd c (by omega)⟩
          rw [wi (by omega)]
          exact ih (n + 1) M3 K w (by omega) hf3 ht3 hq3
        | succ d2 ih2 =>
          intro r M3 K w hr hf3 ht3 hq3
          have hq3' : ∀ M', FQ M M' → P ((if hitL D (dT D u) s n r then some (lendV D i n r) else lendR D (dT D u) s i n d2 (r + 1)).getD (lendG D (dT D u) s i d (n + 1))) M' := hq3
          have hp2 := pw_le (b := db D) (n := n) ok.2.2.1 (by omega)
          have hc3 := h.fc ok hf3.fc
          refine b_tl_lend_73 _ _ _ _ _ ⟨fun c => absurd c (by omega), fun _ => c_tr_after ok hc3 (dT D u) hlo n r (by omega) (by omega) K w ht3 (fun M4 K4 w4 f4 t4 n4 => ⟨(k_hummed n (by omega)).2, ?_⟩)⟩
          have hl4 := hw_ok ok hlo (w := fig D n r) n (fun j hj => fig_lt (pw_nz (show r < (db D) ^ n by omega) (by omega)) n r j)
          refine c_tu_bits _ (k_hummed n (by omega)).2 _ hl4.1 n4 ⟨fun c => ?_, fun c => ⟨fun c5 => ?_, fun c5 => ?_⟩⟩
          · rw [if_neg c] at hq3'
            rw [wi (by omega)]
            exact ih2 (r + 1) M4 K4 w4 (by omega) (hf3.tr f4) t4 hq3'
          · rw [if_pos c] at hq3'
            have := hq3' M4 (hf3.tr f4)
            obtain ⟨j, hj⟩ : ∃ j : Nat, i = (j : Int) := ⟨i.toNat, by omega⟩
            rw [hj]
            refine c_tr_turnOf ok (hc3.fc ok f4.fc) n r j (by omega) (by omega) (by omega) ?_
            have e : lendV D i n r = (if j < n ∧ 0 < db D then (fig D n r j : Int) else -1) := by
              unfold lendV
              rw [if_neg c5, hj, tN]
              by_cases hjn : j < n
              · rw [if_pos (by omega), if_pos ⟨hjn, pw_nz (show r < (db D) ^ n by omega) (by omega)⟩]
              · rw [if_neg (by omega), if_neg (by omega)]
            rw [← e]
            exact this
          · rw [if_pos c] at hq3'
            have := hq3' M4 (hf3.tr f4)
            have e : lendV D i n r = (n : Int) := by
              unfold lendV
              rw [if_pos c5]
            rw [← e]
            exact this
      exact inner ((db D) ^ n) 0 M2 K w (by omega) hf ht hq'
  exact outer 4 0 M1 0 w1 (by omega) f1 t1 hp
theorem c_tl_longest (ok : okD D) (h : CD D M) (t n i : Int) (hp : ∀ M', FQ M M' → P (lonA D t n i) M') : ClI G J_tl_longest M [pR 0, pI t, pI n, pI i] P := by
  unfold lonA at hp
  have o1 := ok.1
  have no : ¬ ((0 ≤ t ∧ t < (dn D : Int)) ∧ (1 ≤ n ∧ n ≤ 3) ∧ (-1 ≤ i ∧ i ≤ n - 1)) → P (-2) M := fun c => by
    have := hp M FQ.rf
    rw [if_neg c] at this
    exact this
  refine e_tl_longest _ _ _ (c_tl_isTune (dn D) ok.1 h.1 _ ⟨fun c => no (fun z => b01_0.mp c z.1), fun c => c_tl_within _ _ _ ⟨fun c2 => no (fun z => b01_0.mp c2 z.2.1), fun c2 => ?_⟩⟩)
  have z1 := b01_n.mp c
  have z2 := b01_n.mp c2
  rw [w32_s (x := n - 1) (by omega) (by omega)]
  refine c_tl_within _ _ _ ⟨fun c3 => ?_, fun c3 => no (fun z => b01_0.mp c3 z.2.2)⟩
  have z3 := b01_n.mp c3
  obtain ⟨u, rfl⟩ : ∃ u : Nat, t = (u : Int) := ⟨t.toNat, by omega⟩
  obtain ⟨m, rfl⟩ : ∃ m : Nat, n = (m : Int) := ⟨n.toNat, by omega⟩
  rw [if_pos ⟨z1, z2, z3⟩, tN, tN] at hp
  rw [tN]
  have hlo := (ok.2.1 u (by omega)).2
  refine ⟨⟨by omega, by omega⟩, c_tr_begin ok h u (by omega) (fun M1 w1 f1 t1 => c_tr_rowsOf ok (h.fc ok f1.fc) _ (by omega) ?_)⟩
  rw [tN]
  have hp2 := pw_le (b := db D) (n := m) ok.2.2.1 (by omega)
  have lp : ∀ (d r : Nat) (M2 : MT) (K : Nat) (w : Nat → Nat), r + d = (db D) ^ m → FQ M M2 → TRI D (dT D u) M2 K w → WpI G J_tl_longest 70 [(0, pR 0), (2, pI (m : Int)), (3, pI i), (4, pI (((db D) ^ m : Nat) : Int)), (5, pI (itr (lonS D (dT D u) m) r (-1, -1)).1), (6, pI (itr (lonS D (dT D u) m) r (-1, -1)).2), (7, pI (r : Int))] [] M2 P := by
    intro d
    induction d with
    | zero =>
      intro r M2 K w hr hf ht
      have hre : r = (db D) ^ m := by omega
      subst hre
      have hv := hp M2 hf
      unfold lonN lonV at hv
      have hin := lon_inv D (dT D u) m ((db D) ^ m)
      refine b_tl_longest_70 _ _ _ _ _ _ ⟨fun _ => ⟨fun c => ?_, fun c => ⟨fun c2 => ?_, fun c2 => ?_⟩⟩, fun c => absurd c (by omega)⟩
      · rw [if_pos c] at hv
        exact hv
      · rw [if_neg c, if_neg c2] at hv
        rcases hin.1 with h0 | ⟨r, hr1, hr2⟩
        · exact absurd h0 c2
        · rw [hr2, tN] at hv
          rw [hr2]
          obtain ⟨j, rfl⟩ : ∃ j : Nat, i = (j : Int) := ⟨i.toNat, by omega⟩
          rw [tN] at hv
          refine c_tr_turnOf ok (h.fc ok hf.fc) m r j (by omega) (by omega) (by omega) ?_
          rw [if_pos ⟨by omega, pw_nz hr1 (by omega)⟩]
          exact hv
      · rw [if_neg c, if_pos c2] at hv
        rw [hin.2.1 c2]
        exact hv
    | succ d ih =>
      intro r M2 K w hr hf ht
      have es : itr (lonS D (dT D u) m) (r + 1) (-1, -1) = lonS D (dT D u) m r (itr (lonS D (dT D u) m) r (-1, -1)) := rfl
      refine b_tl_longest_70 _ _ _ _ _ _ ⟨fun c => absurd c (by omega), fun _ => c_tr_after ok (h.fc ok hf.fc) (dT D u) hlo m r (by omega) (by omega) K w ht (fun M4 K4 w4 f4 t4 n4 => ⟨(k_hummed m (by omega)).2, ?_⟩)⟩
      have nx := ih (r + 1) M4 K4 w4 (by omega) (hf.tr f4) t4
      rw [es] at nx
      unfold lonS at nx
      rw [n4.1, wi (by omega)]
      refine ⟨fun c => ?_, fun c => ?_⟩
      · rw [if_neg (by unfold lonS at c; omega)] at nx
        exact nx
      · rw [if_pos (by unfold lonS at c; omega)] at nx
        exact nx
  exact lp ((db D) ^ m) 0 M1 0 w1 (by omega) f1 t1
theorem c_tr_figures (ok : okD D) (h : CD D M) (n r : Nat) (hn : n ≤ 3) (hr : r < (db D) ^ n) (hp : P (rowN D n r n) M) : ClI G J_tr_figures M [pR 73, pR 1, pI (n : Int), pI (r : Int)] P := by
  have hp2 := pw_le (b := db D) (n := n) ok.2.2.1 (by omega)
  have lp : ∀ (d k : Nat), k + d = n → WpI G J_tr_figures 6 [(0, pR 73), (1, pR 1), (2, pI (n : Int)), (3, pI (r : Int)), (4, pI (rowN D n r k)), (5, pI (k : Int))] [] M P := by
    intro d
    induction d with
    | zero =>
      intro k hk
      have hke : k = n := by omega
      subst hke
      exact b_tr_figures_6 _ _ _ _ ⟨fun _ => hp, fun c => absurd c (by omega)⟩
    | succ d ih =>
      intro k hk
      have hb : 0 < db D := pw_nz hr (by omega)
      have hf := fig_lt hb n r k
      have ho := ok.2.2.1
      have hi := rowN_in ok hb n r k (by omega)
      refine b_tr_figures_6 _ _ _ _ ⟨fun c => absurd c (by omega), fun _ => c_tr_turnOf ok h n r k hn (by omega) (by omega) ?_⟩
      rw [if_pos ⟨by omega, hb⟩, wi (by omega), w32_s (x := rowN D n r k * 7) (by omega) (by omega), w32_s (x := rowN D n r k * 7 + (fig D n r k : Int)) (by omega) (by omega), w32_s (by omega) (by omega)]
      exact ih (k + 1) (by omega)
  exact e_tr_figures _ _ (lp n 0 (by omega))
theorem c_tl_who (ok : okD D) (h : CD D M) (t o v : Int) (hp : ∀ M', FQ M M' → P (whoA D t o v) M') : ClI G J_tl_who M [pR 0, pI t, pI o, pI v] P := by
  unfold whoA at hp
  have o1 := ok.1
  have no : ¬ ((0 ≤ t ∧ t < (dn D : Int)) ∧ (0 ≤ o ∧ o < (dn D : Int)) ∧ (0 ≤ v ∧ v ≤ 1)) → P (-2) M := fun c => by
    have := hp M FQ.rf
    rw [if_neg c] at this
    exact this
  refine e_tl_who _ _ _ (c_tl_isTune (dn D) ok.1 h.1 _ ⟨fun c => no (fun z => b01_0.mp c z.1), fun c => c_tl_isTune (dn D) ok.1 h.1 _ ⟨fun c2 => no (fun z => b01_0.mp c2 z.2.1), fun c2 => c_tl_within _ _ _ ⟨fun c3 => ?_, fun c3 => no (fun z => b01_0.mp c3 z.2.2)⟩⟩⟩)
  have z1 := b01_n.mp c
  have z2 := b01_n.mp c2
  have z3 := b01_n.mp c3
  obtain ⟨u, rfl⟩ : ∃ u : Nat, t = (u : Int) := ⟨t.toNat, by omega⟩
  obtain ⟨x, rfl⟩ : ∃ x : Nat, o = (x : Int) := ⟨o.toNat, by omega⟩
  rw [if_pos ⟨z1, z2, z3⟩, tN, tN] at hp
  rw [tN, tN]
  have hlo := (ok.2.1 u (by omega)).2
  have hlx := (ok.2.1 x (by omega)).2
  have tux := (k_tunes x (by omega)).2
  refine ⟨⟨by omega, by omega⟩, c_tr_begin ok h u (by omega) (fun M1 w1 f1 t1 => ⟨⟨by omega, by omega⟩, ?_⟩)⟩
  unfold whoN at hp
  have outer : ∀ (d n : Nat) (M2 : MT) (K : Nat) (w : Nat → Nat), n + d = 4 → FQ M M2 → TRI D (dT D u) M2 K w → WpI G J_tl_who 64 [(0, pR 0), (3, pI v), (4, pR (10 + 2 * x)), (5, pI (itr (whoR D (dT D u) (dT D x)) n (0, -1)).1), (6, pI (itr (whoR D (dT D u) (dT D x)) n (0, -1)).2), (7, pI (n : Int))] [] M2 P := by
    intro d
    induction d with
    | zero =>
      intro n M2 K w hn hf ht
      have hne : n = 4 := by omega
      subst hne
      have hv := hp M2 hf
      refine b_tl_who_64 _ _ tux _ _ _ ⟨fun _ => ⟨fun c => ?_, fun c => ?_⟩, fun c => absurd c (by omega)⟩
      · rw [if_neg c] at hv
        exact hv
      · rw [if_pos c] at hv
        exact hv
    | succ d ih =>
      intro n M2 K w hn hf ht
      have ro := whoR_in ok (dT D u) (dT D x) n (by omega)
      have ih' := fun M3 K w a b => ih (n + 1) M3 K w (by omega) a b
      have es : itr (whoR D (dT D u) (dT D x)) (n + 1) (0, -1) = itr (whoS D (dT D u) (dT D x) n) ((db D) ^ n) (itr (whoR D (dT D u) (dT D x)) n (0, -1)) := rfl
      rw [es] at ih'
      generalize itr (whoR D (dT D u) (dT D x)) n (0, -1) = st0 at *
      have hp2 := pw_le (b := db D) (n := n) ok.2.2.1 (by omega)
      refine b_tl_who_64 _ _ tux _ _ _ ⟨fun c => absurd c (by omega), fun _ => c_tr_rowsOf ok (h.fc ok hf.fc) _ (by omega) ?_⟩
      rw [tN]
      have inner : ∀ (d2 r : Nat) (M3 : MT) (K : Nat) (w : Nat → Nat), r + d2 = (db D) ^ n → FQ M M3 → TRI D (dT D u) M3 K w → WpI G J_tl_who 88 [(0, pR 0), (3, pI v), (4, pR (10 + 2 * x)), (5, pI (itr (whoS D (dT D u) (dT D x) n) r st0).1), (6, pI (itr (whoS D (dT D u) (dT D x) n) r st0).2), (7, pI (n : Int)), (8, pI (((db D) ^ n : Nat) : Int)), (9, pI (r : Int))] [] M3 P := by
        intro d2
        induction d2 with
        | zero =>
          intro r M3 K w hr hf3 ht3
          have hre : r = (db D) ^ n := by omega
          subst hre
          refine b_tl_who_88 _ _ tux _ _ _ _ _ ⟨fun _ => ?_, fun c => absurd c (by omega)⟩
          rw [wi (by omega)]
          exact ih' M3 K w hf3 ht3
        | succ d2 ih2 =>
          intro r M3 K w hr hf3 ht3
          have hc3 := h.fc ok hf3.fc
          have bi := whoI_in D (dT D u) (dT D x) n st0 ro r
          refine b_tl_who_88 _ _ tux _ _ _ _ _ ⟨fun c => absurd c (by omega), fun _ => c_tr_after ok hc3 (dT D u) hlo n r (by omega) (by omega) K w ht3 (fun M4 K4 w4 f4 t4 n4 => ⟨(k_hummed n (by omega)).2, ?_⟩)⟩
          have hl4 := hw_ok ok hlo (w := fig D n r) n (fun j hj => fig_lt (pw_nz (show r < (db D) ^ n by omega) (by omega)) n r j)
          have hc4 := hc3.fc ok f4.fc
          have nx := ih2 (r + 1) M4 K4 w4 (by omega) (hf3.tr f4) t4
          have es2 : itr (whoS D (dT D u) (dT D x) n) (r + 1) st0 = whoS D (dT D u) (dT D x) n r (itr (whoS D (dT D u) (dT D x) n) r st0) := rfl
          rw [es2] at nx
          generalize itr (whoS D (dT D u) (dT D x) n) r st0 = st at *
          unfold whoS at nx
          refine c_tu_isLike _ (k_hummed n (by omega)).2 _ tux _ (dT D x) hl4.1 n4 (hc4.2.1 x (by omega)) ⟨fun c => ?_, fun c => ⟨fun c5 => ?_, fun c5 => ?_⟩⟩
          · rw [if_neg (by intro z; rw [if_pos z] at c; exact absurd c (by decide))] at nx
            rw [wi (by omega)]
            exact nx
          · rw [if_pos (by by_cases z : hw D (dT D u) (fig D n r) n = dT D x; exact z; rw [if_neg z] at c; exact absurd rfl c), if_neg c5] at nx
            rw [wi (by omega), w32_s (by omega) (by omega)]
            exact nx
          · rw [if_pos (by by_cases z : hw D (dT D u) (fig D n r) n = dT D x; exact z; rw [if_neg z] at c; exact absurd rfl c), if_pos c5] at nx
            refine c_tr_figures ok hc4 n r (by omega) (by omega) ?_
            rw [wi (by omega), w32_s (by omega) (by omega)]
            exact nx
      exact inner ((db D) ^ n) 0 M2 K w (by omega) hf ht
  exact outer 4 0 M1 0 w1 (by omega) f1 t1
end CRW
