/-! what is answered of the YEARS -/
def QC (D : DT) (e : Int) (M : MT) : Prop := CD D M ∧ KC D M ∧ M 0 6 = e
theorem QC.to {D : DT} (ok : okD D) {e : Int} {M M' : MT} (h : QC D e M) (f : FC M M') (k : KC D M') : QC D e M' := ⟨h.1.fc ok f, k, (f 0 6 (by omega) (by omega)).trans h.2.2⟩
/-- what a query of the model may change -/
def FA (M M' : MT) : Prop := ∀ q k, q < 112 → q ≠ 105 → q ≠ 108 → q ≠ 109 → q ≠ 110 → ¬ (q = 101 ∧ (k = 7 ∨ k = 10)) → M' q k = M q k
theorem FA.rf {M : MT} : FA M M := fun _ _ _ _ _ _ _ _ => rfl
theorem FA.tr {M M' M'' : MT} (h : FA M M') (h' : FA M' M'') : FA M M'' := fun q k a b c d e f => (h' q k a b c d e f).trans (h q k a b c d e f)
theorem FM.fa {M M' : MT} (h : FM M M') : FA M M' := fun q k a b _ _ _ _ => h q a b k
def Rd (G : GT) (D : DT) (M : MT) : Prop := ∀ P : MT → Prop, (∀ M', FA M M' → MW D M' → P M') → ClV G J_mo_reads M [pR 101] P
def notesN (D : DT) (e : Int) (yr t : Nat) (i : Int) : Int := if i = -1 then ((yN (yrs D e (yr + 1)) t).length : Int) else if 0 ≤ i ∧ i < ((yN (yrs D e (yr + 1)) t).length : Int) then (yN (yrs D e (yr + 1)) t).getD i.toNat 0 else -1
def notesA (D : DT) (e yr t i : Int) : Int := if (0 ≤ yr ∧ yr ≤ 39) ∧ (0 ≤ t ∧ t < (dn D : Int)) ∧ (-1 ≤ i ∧ i ≤ 39) then notesN D e yr.toNat t.toNat i else -2
def hasN (D : DT) (e : Int) (yr t : Nat) : Int := holdY D (yrs D e (yr + 1)) t
def hasA (D : DT) (e yr t : Int) : Int := if (0 ≤ yr ∧ yr ≤ 39) ∧ (0 ≤ t ∧ t < (dn D : Int)) then hasN D e yr.toNat t.toNat else -2
def cameN (D : DT) (e : Int) (l : Nat) (w : Int) : Int := if w = 0 then yC (yrs D e 40) l else if w = 1 then yB (yrs D e 40) l else yM (yrs D e 40) l
def cameA (D : DT) (e l w : Int) : Int := if (0 ≤ l ∧ l < (dl D : Int)) ∧ (0 ≤ w ∧ w ≤ 2) then cameN D e l.toNat w else -1002
def sumI (f : Nat → Int) : Nat → Int
  | 0 => 0
  | n + 1 => sumI f n + f n
theorem sumI_in {f : Nat → Int} {a b : Int} : ∀ (n : Nat), (∀ i, i < n → a ≤ f i ∧ f i ≤ b) → (n : Int) * a ≤ sumI f n ∧ sumI f n ≤ (n : Int) * b
  | 0, _ => by simp [sumI]
  | n + 1, h => by
    have h1 := sumI_in n (fun i hi => h i (by omega))
    have h2 := h n (by omega)
    have e1 : ((n + 1 : Nat) : Int) * a = (n : Int) * a + a := by rw [Int.natCast_add, Int.add_mul]; simp
    have e2 : ((n + 1 : Nat) : Int) * b = (n : Int) * b + b := by rw [Int.natCast_add, Int.add_mul]; simp
    have e3 : sumI f (n + 1) = sumI f n + f n := rfl
    omega
theorem sumI_sub (f g : Nat → Int) : ∀ n, sumI (fun i => f i - g i) n = sumI f n - sumI g n
  | 0 => rfl
  | n + 1 => by
    show sumI (fun i => f i - g i) n + (f n - g n) = sumI f n + f n - (sumI g n + g n)
    rw [sumI_sub f g n]
    omega
def sizeY (y : YT) (t : Nat) : Int := ((yN y t).length : Int)
def sizeT (D : DT) (t : Nat) : Int := ((dT D t).length : Int)
def intN (D : DT) (e : Int) (yr : Nat) : Int := sumI (sizeY (yrs D e (yr + 1))) (dn D) - sumI (sizeT D) (dn D)
def intA (D : DT) (e yr : Int) : Int := if 0 ≤ yr ∧ yr ≤ 39 then intN D e yr.toNat else -1002
theorem sizeY_in {D : DT} (ok : okD D) (e : Int) (n i : Nat) (hi : i < dn D) : 0 ≤ sizeY (yrs D e n) i ∧ sizeY (yrs D e n) i ≤ 40 := by
  have := ((YI.yrs ok e n).1 i hi).1.1
  unfold sizeY
  omega
theorem sizeT_in {D : DT} (ok : okD D) (i : Nat) (hi : i < dn D) : 0 ≤ sizeT D i ∧ sizeT D i ≤ 12 := by
  have := (ok.2.1 i hi).1
  unfold sizeT
  omega
theorem intN_in {D : DT} (ok : okD D) (e : Int) (n : Nat) : -1000 ≤ intN D e n ∧ intN D e n ≤ 1000 := by
  have h1 := sumI_in (dn D) (sizeY_in ok e (n + 1))
  have h2 := sumI_in (dn D) (sizeT_in ok)
  have := ok.1
  unfold intN
  omega
abbrev homeP (D : DT) (e : Int) (y : Nat) : Prop := ∀ t, t < dn D → yH (yrs D e (y + 1)) t = -1
def homeF (D : DT) (e : Int) : Nat → Nat → Int
  | 0, _ => -1
  | d + 1, y => if homeP D e y then (y : Int) else homeF D e d (y + 1)
def homeN (D : DT) (e : Int) (yr : Nat) : Int := homeF D e (40 - yr) yr
def homeA (D : DT) (e yr : Int) : Int := if 0 ≤ yr ∧ yr ≤ 39 then homeN D e yr.toNat else -2
def losesN (D : DT) (v : Int) : Int := intN D 0 39 - intN D v 39
def losesA (D : DT) (v : Int) : Int := if 0 ≤ v ∧ v ≤ 12 then losesN D v else -1002
def bestF (D : DT) (v : Int) : Nat → Int
  | 0 => -1
  | k + 1 => if v ≤ intN D (k : Int) 39 then (k : Int) else bestF D v k
def bestA (D : DT) (v : Int) : Int := if 0 ≤ v ∧ v ≤ 240 then bestF D v 13 else -2
theorem yCB01 (D : DT) (e : Int) (n : Nat) (l : Nat) : (yC (yrs D e n) l = 0 ∨ yC (yrs D e n) l = 1) ∧ (yB (yrs D e n) l = 0 ∨ yB (yrs D e n) l = 1) := by
  have key : ∀ n, ∀ l, (yC (yrs D e n) l = 0 ∨ yC (yrs D e n) l = 1) ∧ (yB (yrs D e n) l = 0 ∨ yB (yrs D e n) l = 1) := by
    intro n
    refine itr_inv (I := fun y => ∀ l, (yC y l = 0 ∨ yC y l = 1) ∧ (yB y l = 0 ∨ yB y l = 1)) n _ (fun l => ⟨Or.inl rfl, Or.inl rfl⟩) (fun i _ y hy => ?_)
    refine itr_inv (I := fun y => ∀ l, (yC y l = 0 ∨ yC y l = 1) ∧ (yB y l = 0 ∨ yB y l = 1)) _ _ ?_ (fun t _ y hy l => ?_)
    · refine itr_inv (I := fun y => ∀ l, (yC y l = 0 ∨ yC y l = 1) ∧ (yB y l = 0 ∨ yB y l = 1)) _ _ ?_ (fun t _ y hy l => ?_)
      · refine itr_inv (I := fun y => ∀ l, (yC y l = 0 ∨ yC y l = 1) ∧ (yB y l = 0 ∨ yB y l = 1)) _ _ hy (fun k _ y hy l => ?_)
        unfold lendY
        split
        · refine ⟨?_, (hy l).2⟩
          show fu (yC y) k 1 l = 0 ∨ fu (yC y) k 1 l = 1
          unfold fu
          split
          · exact Or.inr rfl
          · exact (hy l).1
        · exact hy l
      · unfold humY
        split
        · exact hy l
        · exact hy l
    · unfold backY
      split
      · refine ⟨(hy l).1, ?_⟩
        show fu (yB y) (yH y t).toNat (if badY e y t then 1 else 0) l = 0 ∨ fu (yB y) (yH y t).toNat (if badY e y t then 1 else 0) l = 1
        unfold fu
        split
        · split
          · exact Or.inr rfl
          · exact Or.inl rfl
        · exact (hy l).2
      · exact hy l
  exact key n l
section CYA
variable {G : GT} {M : MT} {D : DT} {e : Int}
theorem c_ye_sizeOf {P : Int → MT → Prop} (yr t : Nat) (hy : yr < 40) (ht : t < dn D) (ok : okD D) (k : KP D e M) (hp : P ((yN (yrs D e (yr + 1)) t).length : Int) M) : ClI G J_ye_sizeOf M [pR 40, pI (yr : Int), pI (t : Int)] P := by
  have := ok.1
  refine e_ye_sizeOf _ _ ?_
  rw [ix6 (by omega) (by omega), tN, (k.1 yr hy t ht).1]
  exact ⟨by omega, hp⟩
theorem c_ye_holderOf {P : Int → MT → Prop} (yr t : Nat) (hy : yr < 40) (ht : t < dn D) (ok : okD D) (k : KP D e M) (hp : P (holdY D (yrs D e (yr + 1)) t) M) : ClI G J_ye_holderOf M [pR 40, pI (yr : Int), pI (t : Int)] P := by
  have := ok.1
  refine e_ye_holderOf _ _ ?_
  rw [ix6 (by omega) (by omega), tN, (k.1 yr hy t ht).2.1]
  exact ⟨by omega, hp⟩
theorem c_ye_noteOf {P : Int → MT → Prop} (yr t : Nat) (hy : yr < 40) (ht : t < dn D) (ok : okD D) (i : Int) (k : KP D e M) (hp : P (if 0 ≤ i ∧ i < ((yN (yrs D e (yr + 1)) t).length : Int) then (yN (yrs D e (yr + 1)) t).getD i.toNat 0 else -1) M) : ClI G J_ye_noteOf M [pR 40, pI (yr : Int), pI (t : Int), pI i] P := by
  have := ok.1
  have hl := ((YI.yrs ok e (yr + 1)).1 t ht).1.1
  have hk := k.1 yr hy t ht
  refine e_ye_noteOf _ _ _ ?_
  rw [ix6 (by omega) (by omega), tN, hk.1]
  refine ⟨fun c => ?_, fun c => ⟨by omega, fun c2 => ?_, fun c2 => ?_⟩⟩
  · rw [if_neg (by omega)] at hp
    exact hp
  · rw [if_neg (by omega)] at hp
    exact hp
  · rw [if_pos ⟨c, c2⟩] at hp
    obtain ⟨j, rfl⟩ : ∃ j : Nat, i = (j : Int) := ⟨i.toNat, by omega⟩
    rw [tN] at hp
    rw [ixk (by omega), show ((40 * (6 * yr + t) : Nat) : Int) + (j : Int) = ((40 * (6 * yr + t) + j : Nat) : Int) by omega, w32_s (by omega) (by omega), tN, hk.2.2 j (by omega)]
    exact ⟨by omega, hp⟩
theorem c_bk_toldNotes {P : Int → MT → Prop} (ok : okD D) (h : CD D M) (hp : P (sumI (sizeT D) (dn D)) M) : ClI G J_bk_toldNotes M [pR 1] P := by
  have o1 := ok.1
  have lp : ∀ (d i : Nat), i + d = dn D → WpI G J_bk_toldNotes 4 [(0, pR 1), (1, pI (sumI (sizeT D) i)), (2, pI (i : Int))] [] M P := by
    intro d
    induction d with
    | zero =>
      intro i hi
      have hie : i = dn D := by omega
      subst hie
      exact b_bk_toldNotes_4 _ _ ⟨fun _ => hp, fun c => by rw [h.1] at c; omega⟩
    | succ d ih =>
      intro i hi
      refine b_bk_toldNotes_4 _ _ ⟨fun c => by rw [h.1] at c; omega, fun _ => ⟨⟨by omega, by omega⟩, ?_⟩⟩
      have b1 := sumI_in i (fun j hj => sizeT_in ok j (by omega))
      have b2 := sizeT_in ok i (by omega)
      have e1 : (M (10 + 2 * i) 1) = sizeT D i := (h.2.1 i (by omega)).1
      rw [tN, wi (by omega), e1, w32_s (by omega) (by omega)]
      exact ih (i + 1) (by omega)
  exact e_bk_toldNotes (lp (dn D) 0 (by omega))
theorem c_bk_countingLoans {P : Int → MT → Prop} (ok : okD D) (h : CD D M) (k : KP D e M) (hp : P (sumI (yC (yrs D e 40)) (dl D)) M) : ClI G J_bk_countingLoans M [pR 1] P := by
  have o3 := ok.2.2.2.2.1
  have lp : ∀ (d i : Nat), i + d = dl D → WpI G J_bk_countingLoans 4 [(0, pR 1), (1, pI (sumI (yC (yrs D e 40)) i)), (2, pI (i : Int))] [] M P := by
    intro d
    induction d with
    | zero =>
      intro i hi
      have hie : i = dl D := by omega
      subst hie
      exact b_bk_countingLoans_4 _ _ ⟨fun _ => hp, fun c => by rw [h.2.2.2.1] at c; omega⟩
    | succ d ih =>
      intro i hi
      have b1 := sumI_in (f := yC (yrs D e 40)) (a := 0) (b := 1) i (fun j hj => by have := (yCB01 D e 40 j).1; omega)
      have e1 := (k.2 i (by omega)).1
      have b2 := (yCB01 D e 40 i).1
      have st : sumI (yC (yrs D e 40)) (i + 1) = sumI (yC (yrs D e 40)) i + yC (yrs D e 40) i := rfl
      have nx := ih (i + 1) (by omega)
      rw [st] at nx
      refine b_bk_countingLoans_4 _ _ ⟨fun c => by rw [h.2.2.2.1] at c; omega, fun _ => ⟨⟨by omega, by omega⟩, fun c => ?_, fun c => ?_⟩⟩
      · rw [tN, e1] at c
        rw [c] at nx
        rw [wi (by omega), w32_s (by omega) (by omega)]
        exact nx
      · rw [tN, e1] at c
        rw [show yC (yrs D e 40) i = 1 by omega] at nx
        rw [wi (by omega), w32_s (by omega) (by omega)]
        exact nx
  exact e_bk_countingLoans (lp (dl D) 0 (by omega))
theorem c_ye_allAtBank {P : Int → MT → Prop} (ok : okD D) (yr : Nat) (hy : yr < 40) (h : CD D M) (k : KP D e M) (hp : P (b01 (homeP D e yr)) M) : ClI G J_ye_allAtBank M [pR 40, pR 1, pI (yr : Int)] P := by
  have o1 := ok.1
  have hI := YI.yrs ok e (yr + 1)
  have lp : ∀ (d i : Nat), i + d = dn D → (∀ t, t < i → yH (yrs D e (yr + 1)) t = -1) → WpI G J_ye_allAtBank 2 [(0, pR 40), (1, pR 1), (2, pI (yr : Int)), (3, pI (i : Int))] [] M P := by
    intro d
    induction d with
    | zero =>
      intro i hi ha
      refine b_ye_allAtBank_2 _ _ ⟨fun _ => ?_, fun c => by rw [h.1] at c; omega⟩
      rw [b01_t (fun t ht => ha t (by omega))] at hp
      exact hp
    | succ d ih =>
      intro i hi ha
      refine b_ye_allAtBank_2 _ _ ⟨fun c => by rw [h.1] at c; omega, fun _ => c_ye_holderOf yr i hy (by omega) ok k ⟨fun c => ?_, fun c => ?_⟩⟩
      · rw [wi (by omega)]
        refine ih (i + 1) (by omega) (fun t ht => ?_)
        by_cases et : t = i
        · rw [et]
          exact (holdY_n ok hI (by omega)).mp c
        · exact ha t (by omega)
      · rw [b01_f (fun z => c ((holdY_n ok hI (by omega)).mpr (z i (by omega))))] at hp
        exact hp
  exact e_ye_allAtBank _ (lp (dn D) 0 (by omega) (fun t ht => absurd ht (Nat.not_lt_zero t)))
theorem c_tl_notes {P : Int → MT → Prop} (ok : okD D) (he : 0 ≤ e) (q : QC D e M) (yr t i : Int) (hp : ∀ M', FC M M' → KC D M' → P (notesA D e yr t i) M') : ClI G J_tl_notes M [pR 0, pI yr, pI t, pI i] P := by
  unfold notesA at hp
  have no : ¬ ((0 ≤ yr ∧ yr ≤ 39) ∧ (0 ≤ t ∧ t < (dn D : Int)) ∧ (-1 ≤ i ∧ i ≤ 39)) → P (-2) M := fun c => by
    have := hp M FC.rf q.2.1
    rw [if_neg c] at this
    exact this
  refine e_tl_notes _ _ _ (c_tl_isYear _ ⟨fun c => no (fun z => b01_0.mp c z.1), fun c => ?_⟩)
  refine c_tl_isTune (dn D) ok.1 q.1.1 _ ⟨fun c2 => no (fun z => b01_0.mp c2 z.2.1), fun c2 => c_tl_within _ _ _ ⟨fun c3 => ?_, fun c3 => no (fun z => b01_0.mp c3 z.2.2)⟩⟩
  have h1 := b01_n.mp c
  have h2 := b01_n.mp c2
  have h3 := b01_n.mp c3
  obtain ⟨y, rfl⟩ : ∃ y : Nat, yr = (y : Int) := ⟨yr.toNat, by omega⟩
  obtain ⟨u, rfl⟩ : ∃ u : Nat, t = (u : Int) := ⟨t.toNat, by omega⟩
  rw [if_pos ⟨h1, h2, h3⟩, tN, tN] at hp
  unfold notesN at hp
  rw [q.2.2]
  refine c_ye_live ok e he q.1 q.2.1 (fun M1 f1 g1 k1 => ⟨fun c4 => ?_, fun c4 => ?_⟩)
  · have := hp M1 f1 (Or.inr ⟨e, he, g1, k1⟩)
    rw [if_neg c4] at this
    exact c_ye_noteOf y u (by omega) (by omega) ok i k1 this
  · have := hp M1 f1 (Or.inr ⟨e, he, g1, k1⟩)
    rw [if_pos c4] at this
    exact c_ye_sizeOf y u (by omega) (by omega) ok k1 this
theorem c_tl_has {P : Int → MT → Prop} (ok : okD D) (he : 0 ≤ e) (q : QC D e M) (yr t : Int) (hp : ∀ M', FC M M' → KC D M' → P (hasA D e yr t) M') : ClI G J_tl_has M [pR 0, pI yr, pI t] P := by
  unfold hasA at hp
  have no : ¬ ((0 ≤ yr ∧ yr ≤ 39) ∧ (0 ≤ t ∧ t < (dn D : Int))) → P (-2) M := fun c => by
    have := hp M FC.rf q.2.1
    rw [if_neg c] at this
    exact this
  refine e_tl_has _ _ (c_tl_isYear _ ⟨fun c => no (fun z => b01_0.mp c z.1), fun c => ?_⟩)
  refine c_tl_isTune (dn D) ok.1 q.1.1 _ ⟨fun c2 => ?_, fun c2 => no (fun z => b01_0.mp c2 z.2)⟩
  have h1 := b01_n.mp c
  have h2 := b01_n.mp c2
  obtain ⟨y, rfl⟩ : ∃ y : Nat, yr = (y : Int) := ⟨yr.toNat, by omega⟩
  obtain ⟨u, rfl⟩ : ∃ u : Nat, t = (u : Int) := ⟨t.toNat, by omega⟩
  rw [if_pos ⟨h1, h2⟩, tN, tN] at hp
  rw [q.2.2]
  exact c_ye_live ok e he q.1 q.2.1 (fun M1 f1 g1 k1 => c_ye_holderOf y u (by omega) (by omega) ok k1 (hp M1 f1 (Or.inr ⟨e, he, g1, k1⟩)))
theorem c_tl_came {P : Int → MT → Prop} (ok : okD D) (he : 0 ≤ e) (q : QC D e M) (l w : Int) (hp : ∀ M', FC M M' → KC D M' → P (cameA D e l w) M') : ClI G J_tl_came M [pR 0, pI l, pI w] P := by
  unfold cameA at hp
  have o3 := ok.2.2.2.2.1
  have no : ¬ ((0 ≤ l ∧ l < (dl D : Int)) ∧ (0 ≤ w ∧ w ≤ 2)) → P (-1002) M := fun c => by
    have := hp M FC.rf q.2.1
    rw [if_neg c] at this
    exact this
  refine e_tl_came _ _ ?_
  rw [q.1.2.2.2.1, w32_s (by omega) (by omega)]
  refine c_tl_within _ _ _ ⟨fun c => no (fun z => b01_0.mp c ⟨z.1.1, by omega⟩), fun c => c_tl_within _ _ _ ⟨fun c2 => ?_, fun c2 => no (fun z => b01_0.mp c2 z.2)⟩⟩
  have h1 := b01_n.mp c
  have h2 := b01_n.mp c2
  rw [if_pos ⟨⟨h1.1, by omega⟩, h2⟩] at hp
  obtain ⟨u, rfl⟩ : ∃ u : Nat, l = (u : Int) := ⟨l.toNat, by omega⟩
  rw [tN] at hp
  unfold cameN at hp
  rw [q.2.2]
  refine c_ye_live ok e he q.1 q.2.1 (fun M1 f1 g1 k1 => ⟨⟨by omega, by omega⟩, ?_⟩)
  have hp1 := hp M1 f1 (Or.inr ⟨e, he, g1, k1⟩)
  obtain ⟨a1, a2, a3⟩ := k1.2 u (by omega)
  obtain ⟨z1, z2⟩ := yCB01 D e 40 u
  rw [tN, a1, a2, a3]
  refine ⟨fun c3 => ⟨fun c4 => ?_, fun c4 => ?_⟩, fun c3 => ?_⟩
  · rw [if_neg c4, if_pos (by omega)] at hp1
    refine ⟨fun c5 => ?_, fun c5 => ?_⟩
    · rw [c5] at hp1
      exact hp1
    · rw [show yB (yrs D e 40) u = 1 by omega] at hp1
      exact hp1
  · rw [if_pos c4] at hp1
    refine ⟨fun c5 => ?_, fun c5 => ?_⟩
    · rw [c5] at hp1
      exact hp1
    · rw [show yC (yrs D e 40) u = 1 by omega] at hp1
      exact hp1
  · rw [if_neg (by omega), if_neg (by omega)] at hp1
    exact hp1
theorem c_tl_interestBy {P : Int → MT → Prop} (ok : okD D) (v : Int) (hv : 0 ≤ v) (h : CD D M) (k : KC D M) (yr : Nat) (hy : yr < 40) (hp : ∀ M', FC M M' → KC D M' → P (intN D v yr) M') : ClI G J_tl_interestBy M [pR 0, pI v, pI (yr : Int)] P := by
  have o1 := ok.1
  refine e_tl_interestBy _ _ (c_ye_live ok v hv h k (fun M1 f1 g1 k1 => ?_))
  have hc := h.fc ok f1
  have lp : ∀ (d i : Nat), i + d = dn D → WpI G J_tl_interestBy 21 [(0, pR 0), (2, pI (yr : Int)), (3, pI (sumI (sizeY (yrs D v (yr + 1))) i)), (4, pI (i : Int))] [] M1 P := by
    intro d
    induction d with
    | zero =>
      intro i hi
      have hie : i = dn D := by omega
      subst hie
      refine b_tl_interestBy_21 _ _ _ ⟨fun _ => c_bk_toldNotes ok hc ?_, fun c => by rw [hc.1] at c; omega⟩
      have b1 := sumI_in (dn D) (sizeY_in ok v (yr + 1))
      have b2 := sumI_in (dn D) (sizeT_in ok)
      rw [w32_s (by omega) (by omega)]
      exact hp M1 f1 (Or.inr ⟨v, hv, g1, k1⟩)
    | succ d ih =>
      intro i hi
      refine b_tl_interestBy_21 _ _ _ ⟨fun c => by rw [hc.1] at c; omega, fun _ => c_ye_sizeOf yr i hy (by omega) ok k1 ?_⟩
      have b1 := sumI_in (f := sizeY (yrs D v (yr + 1))) i (fun j hj => sizeY_in ok v (yr + 1) j (by omega))
      have b2 := sizeY_in ok v (yr + 1) i (by omega)
      have e1 : ((yN (yrs D v (yr + 1)) i).length : Int) = sizeY (yrs D v (yr + 1)) i := rfl
      rw [wi (by omega), e1, w32_s (by omega) (by omega)]
      exact ih (i + 1) (by omega)
  exact lp (dn D) 0 (by omega)
theorem c_tl_interest {P : Int → MT → Prop} (ok : okD D) (he : 0 ≤ e) (q : QC D e M) (yr : Int) (hp : ∀ M', FC M M' → KC D M' → P (intA D e yr) M') : ClI G J_tl_interest M [pR 0, pI yr] P := by
  unfold intA at hp
  refine e_tl_interest _ (c_tl_isYear _ ⟨fun c => ?_, fun c => ?_⟩)
  · have := hp M FC.rf q.2.1
    rw [if_neg (b01_0.mp c)] at this
    exact this
  · have h1 := b01_n.mp c
    obtain ⟨y, rfl⟩ : ∃ y : Nat, yr = (y : Int) := ⟨yr.toNat, by omega⟩
    rw [if_pos h1, tN] at hp
    rw [q.2.2]
    exact c_tl_interestBy ok e he q.1 q.2.1 y (by omega) hp
theorem c_tl_home {P : Int → MT → Prop} (ok : okD D) (he : 0 ≤ e) (q : QC D e M) (yr : Int) (hp : ∀ M', FC M M' → KC D M' → P (homeA D e yr) M') : ClI G J_tl_home M [pR 0, pI yr] P := by
  unfold homeA at hp
  refine e_tl_home _ (c_tl_isYear _ ⟨fun c => ?_, fun c => ?_⟩)
  · have h1 := b01_n.mp c
    obtain ⟨y, rfl⟩ : ∃ y : Nat, yr = (y : Int) := ⟨yr.toNat, by omega⟩
    rw [if_pos h1, tN] at hp
    rw [q.2.2]
    refine c_ye_live ok e he q.1 q.2.1 (fun M1 f1 g1 k1 => ?_)
    have hp1 := hp M1 f1 (Or.inr ⟨e, he, g1, k1⟩)
    have hc := q.1.fc ok f1
    have lp : ∀ (d i : Nat), i + d = 40 → P (homeF D e d i) M1 → WpI G J_tl_home 31 [(0, pR 0), (2, pI (i : Int))] [] M1 P := by
      intro d
      induction d with
      | zero =>
        intro i hi hq
        exact b_tl_home_31 _ ⟨fun _ => hq, fun c => absurd c (by omega)⟩
      | succ d ih =>
        intro i hi hq
        have hq' : P (if homeP D e i then (i : Int) else homeF D e d (i + 1)) M1 := hq
        refine b_tl_home_31 _ ⟨fun c => absurd c (by omega), fun _ => c_ye_allAtBank ok i (by omega) hc k1 ⟨fun c => ?_, fun c => ?_⟩⟩
        · rw [if_neg (b01_0.mp c)] at hq'
          rw [wi (by omega)]
          exact ih (i + 1) (by omega) hq'
        · rw [if_pos (b01_n.mp c)] at hq'
          exact hq'
    exact lp (40 - y) y (by omega) hp1
  · have := hp M FC.rf q.2.1
    rw [if_neg (b01_0.mp c)] at this
    exact this
theorem c_tl_loses {P : Int → MT → Prop} (ok : okD D) (q : QC D e M) (v : Int) (hp : ∀ M', FC M M' → KC D M' → P (losesA D v) M') : ClI G J_tl_loses M [pR 0, pI v] P := by
  unfold losesA at hp
  refine e_tl_loses _ (c_tl_isEar _ ⟨fun c => ?_, fun c => ?_⟩)
  · have := hp M FC.rf q.2.1
    rw [if_neg (b01_0.mp c)] at this
    exact this
  · have h1 := b01_n.mp c
    rw [if_pos h1] at hp
    refine c_tl_interestBy ok 0 (by omega) q.1 q.2.1 39 (by omega) (fun M1 f1 k1 => ?_)
    refine c_tl_interestBy ok v h1.1 (q.1.fc ok f1) k1 39 (by omega) (fun M2 f2 k2 => ?_)
    have b1 := intN_in ok 0 39
    have b2 := intN_in ok v 39
    rw [w32_s (by omega) (by omega)]
    exact hp M2 (f1.tr f2) k2
theorem c_tl_best {P : Int → MT → Prop} (ok : okD D) (q : QC D e M) (v : Int) (hp : ∀ M', FC M M' → KC D M' → P (bestA D v) M') : ClI G J_tl_best M [pR 0, pI v] P := by
  unfold bestA at hp
  refine e_tl_best _ (c_tl_within _ _ _ ⟨fun c => ?_, fun c => ?_⟩)
  · rw [if_pos (b01_n.mp c)] at hp
    have lp : ∀ (k : Nat) (M1 : MT), k ≤ 13 → FC M M1 → KC D M1 → (∀ M', FC M M' → KC D M' → P (bestF D v k) M') → WpI G J_tl_best 17 [(0, pR 0), (1, pI v), (2, pI ((k : Int) - 1))] [] M1 P := by
      intro k
      induction k with
      | zero =>
        intro M1 hk hf kc hq
        exact b_tl_best_17 _ _ ⟨fun _ => hq M1 hf kc, fun c => absurd c (by omega)⟩
      | succ k ih =>
        intro M1 hk hf kc hq
        rw [show ((k + 1 : Nat) : Int) - 1 = (k : Int) by omega]
        refine b_tl_best_17 _ _ ⟨fun c => absurd c (by omega), fun _ => ?_⟩
        refine c_tl_interestBy ok k (by omega) (q.1.fc ok hf) kc 39 (by omega) (fun M2 f2 k2 => ⟨fun c => ?_, fun c => ?_⟩)
        · rw [w32_s (by omega) (by omega)]
          refine ih M2 (by omega) (hf.tr f2) k2 (fun M' a b => ?_)
          have hq' : P (if v ≤ intN D (k : Int) 39 then (k : Int) else bestF D v k) M' := hq M' a b
          rw [if_neg (by omega)] at hq'
          exact hq'
        · have hq' : P (if v ≤ intN D (k : Int) 39 then (k : Int) else bestF D v k) M2 := hq M2 (hf.tr f2) k2
          rw [if_pos c] at hq'
          exact hq'
    exact lp 13 M (by omega) FC.rf q.2.1 hp
  · have := hp M FC.rf q.2.1
    rw [if_neg (b01_0.mp c)] at this
    exact this
end CYA
