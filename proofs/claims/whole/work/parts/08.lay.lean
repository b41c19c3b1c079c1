/-! the cells' references, once the constructors are through -/
def RF (o k : Nat) : Option Nat :=
  if SH o = (3, 2) ∨ SH o = (10, 3) ∨ SH o = (2, 3) then (if k = 0 then some (o + 1) else none)
  else if o = 0 then (match k with | 0 => some 1 | 1 => some 40 | 2 => some 73 | 3 => some 84 | 4 => some 86 | 5 => some 92 | _ => none)
  else if o = 1 then (match k with | 0 => some 2 | 1 => some 3 | 2 => some 4 | 3 => some 5 | _ => none)
  else if o = 2 then (if k < 2 then some (6 + 2 * k) else none)
  else if o = 3 then (if k < 6 then some (10 + 2 * k) else none)
  else if o = 4 then (if k < 6 then some (22 + k) else none)
  else if o = 5 then (if k < 12 then some (28 + k) else none)
  else if o = 40 then (match k with | 0 => some 41 | 1 => some 42 | 2 => some 43 | 3 => some 44 | 4 => some 46 | 5 => some 47 | 6 => some 48 | _ => none)
  else if o = 41 then (if k < 6 then some (49 + 4 * k) else none)
  else if o = 42 then (if k < 6 then some (51 + 4 * k) else none)
  else if o = 73 then (match k with | 0 => some 74 | 1 => some 75 | _ => none)
  else if o = 74 then (if k < 4 then some (76 + 2 * k) else none)
  else if o = 84 then (if k = 0 then some 85 else none)
  else if o = 86 then (match k with | 0 => some 87 | 1 => some 89 | 2 => some 91 | _ => none)
  else if o = 92 then (if k < 4 then some (93 + 2 * k) else none)
  else if o = 101 then (match k with | 0 => some 102 | 1 => some 103 | 2 => some 104 | 3 => some 105 | 5 => some 106 | 6 => some 107 | 8 => some 108 | 9 => some 109 | 11 => some 110 | 13 => some 111 | 15 => some 112 | 16 => some 113 | 17 => some 114 | 18 => some 115 | 19 => some 116 | 20 => some 117 | 21 => some 118 | 22 => some 119 | 23 => some 120 | 24 => some 121 | 25 => some 122 | _ => none)
  else none
def TU (o : Nat) : Prop := SH o = (3, 2) ∧ SH (o + 1) = (20, 40) ∧ RF o 0 = some (o + 1) ∧ o + 1 < NN
def SE (o : Nat) : Prop := SH o = (10, 3) ∧ SH (o + 1) = (20, 60) ∧ RF o 0 = some (o + 1) ∧ o + 1 < NN
def TX (o N : Nat) : Prop := SH o = (2, 3) ∧ SH (o + 1) = (20, N) ∧ RF o 0 = some (o + 1) ∧ o + 1 < NN
def BO (o : Nat) : Prop := SH o = (4, 3) ∧ o < NN
def LO (o : Nat) : Prop := SH o = (5, 7) ∧ o < NN
def AR (o N : Nat) : Prop := SH o = (20, N) ∧ o < NN
theorem k_tunes : ∀ i, i < 6 → RF 3 i = some (10 + 2 * i) ∧ TU (10 + 2 * i) := by
  intro i h
  match i, h with
  | 0, _ => exact ⟨rfl, ⟨rfl, rfl, rfl, by decide⟩⟩
  | 1, _ => exact ⟨rfl, ⟨rfl, rfl, rfl, by decide⟩⟩
  | 2, _ => exact ⟨rfl, ⟨rfl, rfl, rfl, by decide⟩⟩
  | 3, _ => exact ⟨rfl, ⟨rfl, rfl, rfl, by decide⟩⟩
  | 4, _ => exact ⟨rfl, ⟨rfl, rfl, rfl, by decide⟩⟩
  | 5, _ => exact ⟨rfl, ⟨rfl, rfl, rfl, by decide⟩⟩
theorem k_now : ∀ i, i < 6 → RF 41 i = some (49 + 4 * i) ∧ TU (49 + 4 * i) := by
  intro i h
  match i, h with
  | 0, _ => exact ⟨rfl, ⟨rfl, rfl, rfl, by decide⟩⟩
  | 1, _ => exact ⟨rfl, ⟨rfl, rfl, rfl, by decide⟩⟩
  | 2, _ => exact ⟨rfl, ⟨rfl, rfl, rfl, by decide⟩⟩
  | 3, _ => exact ⟨rfl, ⟨rfl, rfl, rfl, by decide⟩⟩
  | 4, _ => exact ⟨rfl, ⟨rfl, rfl, rfl, by decide⟩⟩
  | 5, _ => exact ⟨rfl, ⟨rfl, rfl, rfl, by decide⟩⟩
theorem k_lent : ∀ i, i < 6 → RF 42 i = some (51 + 4 * i) ∧ TU (51 + 4 * i) := by
  intro i h
  match i, h with
  | 0, _ => exact ⟨rfl, ⟨rfl, rfl, rfl, by decide⟩⟩
  | 1, _ => exact ⟨rfl, ⟨rfl, rfl, rfl, by decide⟩⟩
  | 2, _ => exact ⟨rfl, ⟨rfl, rfl, rfl, by decide⟩⟩
  | 3, _ => exact ⟨rfl, ⟨rfl, rfl, rfl, by decide⟩⟩
  | 4, _ => exact ⟨rfl, ⟨rfl, rfl, rfl, by decide⟩⟩
  | 5, _ => exact ⟨rfl, ⟨rfl, rfl, rfl, by decide⟩⟩
theorem k_hummed : ∀ i, i < 4 → RF 74 i = some (76 + 2 * i) ∧ TU (76 + 2 * i) := by
  intro i h
  match i, h with
  | 0, _ => exact ⟨rfl, ⟨rfl, rfl, rfl, by decide⟩⟩
  | 1, _ => exact ⟨rfl, ⟨rfl, rfl, rfl, by decide⟩⟩
  | 2, _ => exact ⟨rfl, ⟨rfl, rfl, rfl, by decide⟩⟩
  | 3, _ => exact ⟨rfl, ⟨rfl, rfl, rfl, by decide⟩⟩
theorem k_sheets : ∀ i, i < 4 → RF 92 i = some (93 + 2 * i) ∧ SE (93 + 2 * i) := by
  intro i h
  match i, h with
  | 0, _ => exact ⟨rfl, ⟨rfl, rfl, rfl, by decide⟩⟩
  | 1, _ => exact ⟨rfl, ⟨rfl, rfl, rfl, by decide⟩⟩
  | 2, _ => exact ⟨rfl, ⟨rfl, rfl, rfl, by decide⟩⟩
  | 3, _ => exact ⟨rfl, ⟨rfl, rfl, rfl, by decide⟩⟩
theorem k_borrowers : ∀ i, i < 6 → RF 4 i = some (22 + i) ∧ BO (22 + i) := by
  intro i h
  match i, h with
  | 0, _ => exact ⟨rfl, rfl, by decide⟩
  | 1, _ => exact ⟨rfl, rfl, by decide⟩
  | 2, _ => exact ⟨rfl, rfl, by decide⟩
  | 3, _ => exact ⟨rfl, rfl, by decide⟩
  | 4, _ => exact ⟨rfl, rfl, by decide⟩
  | 5, _ => exact ⟨rfl, rfl, by decide⟩
theorem k_loans : ∀ i, i < 12 → RF 5 i = some (28 + i) ∧ LO (28 + i) := by
  intro i h
  match i, h with
  | 0, _ => exact ⟨rfl, rfl, by decide⟩
  | 1, _ => exact ⟨rfl, rfl, by decide⟩
  | 2, _ => exact ⟨rfl, rfl, by decide⟩
  | 3, _ => exact ⟨rfl, rfl, by decide⟩
  | 4, _ => exact ⟨rfl, rfl, by decide⟩
  | 5, _ => exact ⟨rfl, rfl, by decide⟩
  | 6, _ => exact ⟨rfl, rfl, by decide⟩
  | 7, _ => exact ⟨rfl, rfl, by decide⟩
  | 8, _ => exact ⟨rfl, rfl, by decide⟩
  | 9, _ => exact ⟨rfl, rfl, by decide⟩
  | 10, _ => exact ⟨rfl, rfl, by decide⟩
  | 11, _ => exact ⟨rfl, rfl, by decide⟩
theorem k_text0 : RF 2 0 = some 6 ∧ TX 6 59 := ⟨rfl, rfl, rfl, rfl, by decide⟩
theorem k_text1 : RF 2 1 = some 8 ∧ TX 8 23 := ⟨rfl, rfl, rfl, rfl, by decide⟩
theorem tu_spare : TU 44 := ⟨rfl, rfl, rfl, by decide⟩
theorem tu_chnow : TU 87 := ⟨rfl, rfl, rfl, by decide⟩
theorem tu_chspare : TU 89 := ⟨rfl, rfl, rfl, by decide⟩
theorem nat_lt {i : Int} {N : Nat} (h0 : 0 ≤ i) (h1 : i < (N : Int)) : i.toNat < N := by omega
section PW
variable (G : GT) (J : MD) (pc : Nat) (L : LT) (st : List PV) (M : MT)
/-- at a place in a method that makes no cell: it comes to an answer, with this -/
def WpI (P : Int → MT → Prop) : Prop := Wp G J 0 0 pc L st NN RF M (fun r n R M' => ∃ x : Int, r = some (pI x) ∧ n = NN ∧ R = RF ∧ P x M')
def WpL (P : Int → MT → Prop) : Prop := Wp G J 0 0 pc L st NN RF M (fun r n R M' => ∃ x : Int, r = some (pL x) ∧ n = NN ∧ R = RF ∧ P x M')
def WpR (P : Nat → MT → Prop) : Prop := Wp G J 0 0 pc L st NN RF M (fun r n R M' => ∃ x : Nat, r = some (pR x) ∧ n = NN ∧ R = RF ∧ P x M')
def WpV (P : MT → Prop) : Prop := Wp G J 0 0 pc L st NN RF M (fun r n R M' => r = none ∧ n = NN ∧ R = RF ∧ P M')
variable (as : List PV)
/-- a call of it -/
def ClI (P : Int → MT → Prop) : Prop := WpI G J 0 (entL 0 as) [] M P
def ClL (P : Int → MT → Prop) : Prop := WpL G J 0 (entL 0 as) [] M P
def ClR (P : Nat → MT → Prop) : Prop := WpR G J 0 (entL 0 as) [] M P
def ClV (P : MT → Prop) : Prop := WpV G J 0 (entL 0 as) [] M P
end PW
section PW2
variable {G : GT} {J : MD} {pc : Nat} {L : LT} {st : List PV} {M : MT} {as : List PV}
theorem WpI.mono {P P' : Int → MT → Prop} (h : WpI G J pc L st M P) (hp : ∀ x M', P x M' → P' x M') : WpI G J pc L st M P' := Wp_mono h (fun r n R M' ⟨x, a, b, c, d⟩ => ⟨x, a, b, c, hp x M' d⟩)
theorem WpL.mono {P P' : Int → MT → Prop} (h : WpL G J pc L st M P) (hp : ∀ x M', P x M' → P' x M') : WpL G J pc L st M P' := Wp_mono h (fun r n R M' ⟨x, a, b, c, d⟩ => ⟨x, a, b, c, hp x M' d⟩)
theorem WpR.mono {P P' : Nat → MT → Prop} (h : WpR G J pc L st M P) (hp : ∀ x M', P x M' → P' x M') : WpR G J pc L st M P' := Wp_mono h (fun r n R M' ⟨x, a, b, c, d⟩ => ⟨x, a, b, c, hp x M' d⟩)
theorem WpV.mono {P P' : MT → Prop} (h : WpV G J pc L st M P) (hp : ∀ M', P M' → P' M') : WpV G J pc L st M P' := Wp_mono h (fun r n R M' ⟨a, b, c, d⟩ => ⟨a, b, c, hp M' d⟩)
theorem ClI.mono {P P' : Int → MT → Prop} (h : ClI G J M as P) (hp : ∀ x M', P x M' → P' x M') : ClI G J M as P' := WpI.mono h hp
theorem ClL.mono {P P' : Int → MT → Prop} (h : ClL G J M as P) (hp : ∀ x M', P x M' → P' x M') : ClL G J M as P' := WpL.mono h hp
theorem ClR.mono {P P' : Nat → MT → Prop} (h : ClR G J M as P) (hp : ∀ x M', P x M' → P' x M') : ClR G J M as P' := WpR.mono h hp
theorem ClV.mono {P P' : MT → Prop} (h : ClV G J M as P) (hp : ∀ M', P M' → P' M') : ClV G J M as P' := WpV.mono h hp
theorem clI_k {Q : QT} {P : Int → MT → Prop} (h : ClI G J M as P) (hq : ∀ x M', P x M' → Q (some (pI x)) NN RF M') : Cl G J as NN RF M Q := Wp_mono h (fun r n R M' ⟨x, a, b, c, d⟩ => by subst a; subst b; subst c; exact hq x M' d)
theorem clL_k {Q : QT} {P : Int → MT → Prop} (h : ClL G J M as P) (hq : ∀ x M', P x M' → Q (some (pL x)) NN RF M') : Cl G J as NN RF M Q := Wp_mono h (fun r n R M' ⟨x, a, b, c, d⟩ => by subst a; subst b; subst c; exact hq x M' d)
theorem clR_k {Q : QT} {P : Nat → MT → Prop} (h : ClR G J M as P) (hq : ∀ x M', P x M' → Q (some (pR x)) NN RF M') : Cl G J as NN RF M Q := Wp_mono h (fun r n R M' ⟨x, a, b, c, d⟩ => by subst a; subst b; subst c; exact hq x M' d)
theorem clV_k {Q : QT} {P : MT → Prop} (h : ClV G J M as P) (hq : ∀ M', P M' → Q none NN RF M') : Cl G J as NN RF M Q := Wp_mono h (fun r n R M' ⟨a, b, c, d⟩ => by subst a; subst b; subst c; exact hq M' d)
end PW2
