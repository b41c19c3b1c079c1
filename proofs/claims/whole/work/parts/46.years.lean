/-! what was told, as the queries see it: tunes, borrowers, loans (how many, and what); the YEARS of it -/
abbrev DT : Type := (Nat × (Nat → List Int)) × (Nat × (Nat → Int × Int × Int)) × (Nat × (Nat → Nat → Int))
def dn (D : DT) : Nat := D.1.1
def dT (D : DT) : Nat → List Int := D.1.2
def db (D : DT) : Nat := D.2.1.1
def dB (D : DT) : Nat → Int × Int × Int := D.2.1.2
def dl (D : DT) : Nat := D.2.2.1
def dL (D : DT) : Nat → Nat → Int := D.2.2.2
def okN (l : List Int) : Prop := l.length ≤ 40 ∧ ∀ v ∈ l, 0 ≤ v ∧ v < 7
def okD (D : DT) : Prop := dn D ≤ 6 ∧ (∀ j, j < dn D → ((dT D j).length ≤ 12 ∧ 0 < (dT D j).length) ∧ okN (dT D j)) ∧ db D ≤ 6 ∧ (∀ i, i < db D → (0 ≤ (dB D i).1 ∧ (dB D i).1 < 7) ∧ ((dB D i).2.1 = 0 ∨ (dB D i).2.1 = 1 ∨ (dB D i).2.1 = 2) ∧ (0 ≤ (dB D i).2.2 ∧ (dB D i).2.2 < 7)) ∧ dl D ≤ 12 ∧ ∀ l, l < dl D → (0 ≤ dL D l 0 ∧ dL D l 0 < 40) ∧ (0 ≤ dL D l 1 ∧ dL D l 1 < 6) ∧ (0 ≤ dL D l 2 ∧ dL D l 2 < 6) ∧ (1 ≤ dL D l 3 ∧ dL D l 3 ≤ 9)
theorem okN.nt {l : List Int} (h : okN l) : ∀ i, i < l.length → 0 ≤ gl l i ∧ gl l i < 7 := fun i hi => by
  unfold gl
  rw [List.getD_eq_getElem?_getD, List.getElem?_eq_getElem hi]
  exact h.2 _ (List.getElem_mem hi)
theorem addL_mem {a : List Int} {v w : Int} (h : w ∈ addL a v) : w ∈ a ∨ w = v := by
  unfold addL at h
  split at h
  · rcases List.mem_append.mp h with h | h
    · exact Or.inl h
    · exact Or.inr (List.mem_singleton.mp h)
  · exact Or.inl h
theorem hum_in {x h y : Int} (hy : 0 ≤ y ∧ y < 7) : ∀ (l a : List Int), (∀ v ∈ a, 0 ≤ v ∧ v < 7) → (∀ v ∈ l, 0 ≤ v ∧ v < 7) → ∀ v ∈ l.foldl (humS x h y) a, 0 ≤ v ∧ v < 7
  | [], _, ha, _ => ha
  | w :: l, a, ha, hl => by
    have hw := hl w List.mem_cons_self
    refine hum_in hy l (humS x h y a w) (fun v hv => ?_) (fun v hv => hl v (List.mem_cons_of_mem _ hv))
    unfold humS at hv
    have one : ∀ (b : List Int) (u : Int), (∀ v ∈ b, 0 ≤ v ∧ v < 7) → (0 ≤ u ∧ u < 7) → ∀ v ∈ addL b u, 0 ≤ v ∧ v < 7 := fun b u hb hu v hv => by
      rcases addL_mem hv with h1 | h1
      · exact hb v h1
      · rw [h1]; exact hu
    split at hv
    · split at hv
      · exact one _ _ (one _ _ ha hw) hy v hv
      · split at hv
        · exact ha v hv
        · exact one _ _ ha hy v hv
    · exact one _ _ ha hw v hv
theorem okN_hum {x h y : Int} {l : List Int} (hl : okN l) (hy : 0 ≤ y ∧ y < 7) : okN (humL x h y l) := ⟨humL_le x h y l, hum_in hy l [] (fun v hv => absurd hv (by simp)) hl.2⟩
theorem okN_humB {D : DT} (ok : okD D) {i : Nat} (hi : i < db D) {l : List Int} (hl : okN l) : okN (humB (dB D) i l) := okN_hum hl (ok.2.2.2.1 i hi).2.2
theorem okD.bw {D : DT} (ok : okD D) : bwOk (db D) (dB D) := fun i hi => (ok.2.2.2.1 i hi).2.1
theorem nm2 {q a : Nat} (h1 : q ≠ a) (h2 : q ≠ a + 1) : q ∉ [a, a + 1] := by simp [h1, h2]
/-- tunes now, which loan each is out on (-1: none), as they were lent, which loans counted, which came back bad, with how many notes more -/
abbrev YT : Type := (Nat → List Int) × (Nat → Int) × (Nat → List Int) × (Nat → Int) × (Nat → Int) × (Nat → Int)
def yN (y : YT) : Nat → List Int := y.1
def yH (y : YT) : Nat → Int := y.2.1
def yE (y : YT) : Nat → List Int := y.2.2.1
def yC (y : YT) : Nat → Int := y.2.2.2.1
def yB (y : YT) : Nat → Int := y.2.2.2.2.1
def yM (y : YT) : Nat → Int := y.2.2.2.2.2
def itr {α : Type} (f : Nat → α → α) : Nat → α → α
  | 0, a => a
  | n + 1, a => f n (itr f n a)
theorem itr_inv {α : Type} {f : Nat → α → α} {I : α → Prop} : ∀ (n : Nat) (a : α), I a → (∀ i, i < n → ∀ b, I b → I (f i b)) → I (itr f n a)
  | 0, _, ha, _ => ha
  | n + 1, a, ha, hf => hf n (by omega) _ (itr_inv n a ha (fun i hi => hf i (by omega)))
def startY (D : DT) : YT := (dT D, fun _ => -1, fun _ => [], fun _ => 0, fun _ => 0, fun _ => 0)
def lendY (D : DT) (yr : Nat) (l : Nat) (y : YT) : YT := if (dL D l 0 = (yr : Int) ∧ dL D l 1 < (dn D : Int) ∧ dL D l 2 < (db D : Int)) ∧ yH y (dL D l 1).toNat = -1 then (yN y, fu (yH y) (dL D l 1).toNat (l : Int), fu (yE y) (dL D l 1).toNat (yN y (dL D l 1).toNat), fu (yC y) l 1, yB y, yM y) else y
def humY (D : DT) (t : Nat) (y : YT) : YT := if yH y t = -1 then y else (fu (yN y) t (humB (dB D) (dL D (yH y t).toNat 2).toNat (yN y t)), yH y, yE y, yC y, yB y, yM y)
abbrev badY (e : Int) (y : YT) (t : Nat) : Prop := (lcs (yE y t) (yN y t) : Int) < e ∧ lcs (yE y t) (yN y t) < (yE y t).length
def backY (D : DT) (e : Int) (yr : Nat) (t : Nat) (y : YT) : YT := if ¬ yH y t = -1 ∧ dL D (yH y t).toNat 0 + dL D (yH y t).toNat 3 - 1 = (yr : Int) then (if badY e y t then fu (yN y) t (yE y t) else yN y, fu (yH y) t (-1), yE y, yC y, fu (yB y) (yH y t).toNat (if badY e y t then 1 else 0), fu (yM y) (yH y t).toNat (((yN y t).length : Int) - ((yE y t).length : Int))) else y
def yearY (D : DT) (e : Int) (yr : Nat) (y : YT) : YT := itr (backY D e yr) (dn D) (itr (humY D) (dn D) (itr (lendY D yr) (dl D) y))
def yrs (D : DT) (e : Int) (n : Nat) : YT := itr (yearY D e) n (startY D)
def holdY (D : DT) (y : YT) (t : Nat) : Int := if yH y t = -1 then -1 else dL D (yH y t).toNat 2
/-- what holds of the years: all loans out began before the year b, all that came back bad before the year c -/
def YI (D : DT) (b c : Int) (y : YT) : Prop := (∀ t, t < dn D → okN (yN y t) ∧ (¬ yH y t = -1 → okN (yE y t))) ∧ (∀ t, t < dn D → ¬ yH y t = -1 → ∃ h : Nat, yH y t = (h : Int) ∧ h < dl D ∧ dL D h 1 = (t : Int) ∧ dL D h 2 < (db D : Int) ∧ dL D h 0 < b ∧ yB y h = 0) ∧ ∀ l, l < dl D → ¬ yB y l = 0 → dL D l 0 < c
theorem YI.up {D : DT} {b c b' c' : Int} {y : YT} (h : YI D b c y) (h1 : b ≤ b') (h2 : c ≤ c') : YI D b' c' y := ⟨h.1, fun t ht hh => by
  obtain ⟨k, a1, a2, a3, a4, a5, a6⟩ := h.2.1 t ht hh
  exact ⟨k, a1, a2, a3, a4, by omega, a6⟩, fun l hl hb => by
  have := h.2.2 l hl hb
  omega⟩
theorem YI.start {D : DT} (ok : okD D) (b c : Int) : YI D b c (startY D) := ⟨fun t ht => ⟨(ok.2.1 t ht).2, fun h => absurd rfl h⟩, fun t _ h => absurd rfl h, fun l _ h => absurd rfl h⟩
theorem YI.lend {D : DT} (ok : okD D) {yr l : Nat} {y : YT} (hl : l < dl D) (h : YI D (yr + 1) yr y) : YI D (yr + 1) yr (lendY D yr l y) := by
  unfold lendY
  split
  · rename_i c
    have o := ok.2.2.2.2.2 l hl
    refine ⟨fun t ht => ⟨(h.1 t ht).1, fun hh => ?_⟩, fun t ht hh => ?_, h.2.2⟩
    · by_cases e : t = (dL D l 1).toNat
      · show okN (fu (yE y) (dL D l 1).toNat (yN y (dL D l 1).toNat) t)
        rw [e, fu_eq]
        exact (h.1 _ (e ▸ ht)).1
      · have hh' : ¬ fu (yH y) (dL D l 1).toNat (l : Int) t = -1 := hh
        rw [fu_ne e] at hh'
        show okN (fu (yE y) (dL D l 1).toNat (yN y (dL D l 1).toNat) t)
        rw [fu_ne e]
        exact (h.1 t ht).2 hh'
    · by_cases e : t = (dL D l 1).toNat
      · refine ⟨l, ?_, hl, by omega, by omega, by omega, ?_⟩
        · show fu (yH y) (dL D l 1).toNat (l : Int) t = _
          rw [e, fu_eq]
        · show yB y l = 0
          by_cases hb : yB y l = 0
          · exact hb
          · have := h.2.2 l hl hb
            omega
      · have hh' : ¬ fu (yH y) (dL D l 1).toNat (l : Int) t = -1 := hh
        rw [fu_ne e] at hh'
        obtain ⟨k, a1, a2⟩ := h.2.1 t ht hh'
        exact ⟨k, by show fu (yH y) (dL D l 1).toNat (l : Int) t = _; rw [fu_ne e]; exact a1, a2⟩
  · exact h
theorem YI.hum {D : DT} (ok : okD D) {b c : Int} {t : Nat} {y : YT} (ht : t < dn D) (h : YI D b c y) : YI D b c (humY D t y) := by
  unfold humY
  split
  · exact h
  · rename_i hh
    obtain ⟨k, a1, a2, a3, a4, a5, a6⟩ := h.2.1 t ht hh
    have o := ok.2.2.2.2.2 k a2
    refine ⟨fun u hu => ⟨?_, (h.1 u hu).2⟩, h.2.1, h.2.2⟩
    by_cases e : u = t
    · show okN (fu (yN y) t _ u)
      rw [e, fu_eq]
      refine okN_humB ok ?_ (h.1 t ht).1
      rw [a1]
      show (dL D k 2).toNat < _
      omega
    · show okN (fu (yN y) t _ u)
      rw [fu_ne e]
      exact (h.1 u hu).1
theorem YI.back {D : DT} (ok : okD D) {e : Int} {yr t : Nat} {y : YT} (ht : t < dn D) (h : YI D (yr + 1) (yr + 1) y) : YI D (yr + 1) (yr + 1) (backY D e yr t y) := by
  unfold backY
  split
  · rename_i c
    obtain ⟨k, a1, a2, a3, a4, a5, a6⟩ := h.2.1 t ht c.1
    refine ⟨fun u hu => ⟨?_, fun hh => ?_⟩, fun u hu hh => ?_, fun l hl hb => ?_⟩
    · show okN ((if badY e y t then fu (yN y) t (yE y t) else yN y) u)
      split
      · by_cases eu : u = t
        · rw [eu, fu_eq]
          exact (h.1 t ht).2 c.1
        · rw [fu_ne eu]
          exact (h.1 u hu).1
      · exact (h.1 u hu).1
    · have hh' : ¬ fu (yH y) t (-1) u = -1 := hh
      by_cases eu : u = t
      · rw [eu, fu_eq] at hh'
        exact absurd rfl hh'
      · rw [fu_ne eu] at hh'
        exact (h.1 u hu).2 hh'
    · have hh' : ¬ fu (yH y) t (-1) u = -1 := hh
      by_cases eu : u = t
      · rw [eu, fu_eq] at hh'
        exact absurd rfl hh'
      · rw [fu_ne eu] at hh'
        obtain ⟨k2, b1, b2, b3, b4, b5, b6⟩ := h.2.1 u hu hh'
        refine ⟨k2, ?_, b2, b3, b4, b5, ?_⟩
        · show fu (yH y) t (-1) u = _
          rw [fu_ne eu]
          exact b1
        · show fu (yB y) (yH y t).toNat _ k2 = 0
          have : k2 ≠ (yH y t).toNat := by
            intro ek
            rw [a1, tN] at ek
            rw [ek, a3] at b3
            omega
          rw [fu_ne this]
          exact b6
    · have hb' : ¬ fu (yB y) (yH y t).toNat (if badY e y t then 1 else 0) l = 0 := hb
      by_cases el : l = (yH y t).toNat
      · rw [a1, tN] at el
        rw [el]
        exact a5
      · rw [fu_ne el] at hb'
        exact h.2.2 l hl hb'
  · exact h
theorem YI.lendsAll {D : DT} (ok : okD D) {yr : Nat} {y : YT} (h : YI D (yr + 1) yr y) (n : Nat) (hn : n ≤ dl D) : YI D (yr + 1) yr (itr (lendY D yr) n y) := itr_inv (I := YI D (yr + 1) yr) n y h (fun _ hi _ hb => YI.lend ok (by omega) hb)
theorem YI.humAll {D : DT} (ok : okD D) {b c : Int} {y : YT} (h : YI D b c y) (n : Nat) (hn : n ≤ dn D) : YI D b c (itr (humY D) n y) := itr_inv (I := YI D b c) n y h (fun _ hi _ hb => YI.hum ok (by omega) hb)
theorem YI.backAll {D : DT} (ok : okD D) {e : Int} {yr : Nat} {y : YT} (h : YI D (yr + 1) (yr + 1) y) (n : Nat) (hn : n ≤ dn D) : YI D (yr + 1) (yr + 1) (itr (backY D e yr) n y) := itr_inv (I := YI D (yr + 1) (yr + 1)) n y h (fun _ hi _ hb => YI.back ok (by omega) hb)
theorem YI.year {D : DT} (ok : okD D) {e : Int} {yr : Nat} {y : YT} (h : YI D yr yr y) : YI D ((yr + 1 : Nat) : Int) ((yr + 1 : Nat) : Int) (yearY D e yr y) := YI.backAll ok ((YI.humAll ok (YI.lendsAll ok (h.up (by omega) (by omega)) _ (Nat.le_refl _)) _ (Nat.le_refl _)).up (by omega) (by omega)) _ (Nat.le_refl _)
theorem YI.yrs {D : DT} (ok : okD D) (e : Int) : ∀ n : Nat, YI D n n (yrs D e n)
  | 0 => YI.start ok _ _
  | n + 1 => YI.year ok (YI.yrs ok e n)
theorem holdY_n {D : DT} (ok : okD D) {b c : Int} {y : YT} (h : YI D b c y) {t : Nat} (ht : t < dn D) : holdY D y t = -1 ↔ yH y t = -1 := by
  unfold holdY
  split
  · rename_i e
    exact ⟨fun _ => e, fun _ => rfl⟩
  · rename_i e
    obtain ⟨k, a1, a2, -⟩ := h.2.1 t ht e
    rw [a1, tN]
    have := ok.2.2.2.2.2 k a2
    exact ⟨fun z => by omega, fun z => by omega⟩
