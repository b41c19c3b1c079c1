/-! a plain machine: values are whole numbers and offsets, memory is a table of numbers and a table of offsets; each law here turns a step of it into a step of the real machine -/
abbrev PV : Type := Int ⊕ Int ⊕ Option Nat
abbrev pI (x : Int) : PV := .inl x
abbrev pL (x : Int) : PV := .inr (.inl x)
abbrev pR (o : Nat) : PV := .inr (.inr (some o))
abbrev pN : PV := .inr (.inr none)
abbrev RT : Type := Nat → Nat → Option Nat
abbrev MT : Type := Nat → Nat → Int
abbrev LT : Type := List (Nat × PV)
/-- offsets from here on are not the program's own cells -/
def XO : Nat := 1000
def cv (ad : Nat → Nat) (v : PV) : Value := match v with
  | .inl x => .int (Int32.ofInt x)
  | .inr (.inl x) => .long (Int64.ofInt x)
  | .inr (.inr r) => va_rf (r.map ad)
def cat (v : PV) : Nat := match v with
  | .inr (.inl _) => 2
  | _ => 1
theorem cat_cv (ad : Nat → Nat) (v : PV) : (cv ad v).category = cat v := by
  rcases v with x | x | _ | o <;> rfl
def R32 (x : Int) : Prop := -2147483648 ≤ x ∧ x < 2147483648
def R64 (x : Int) : Prop := -9223372036854775808 ≤ x ∧ x < 9223372036854775808
def okV (n : Nat) (v : PV) : Prop := match v with
  | .inl x => R32 x
  | .inr (.inl x) => R64 x
  | .inr (.inr none) => True
  | .inr (.inr (some o)) => o < n ∨ XO ≤ o
theorem okV_mono {n n' : Nat} (h : n ≤ n') {v : PV} (hv : okV n v) : okV n' v := by
  rcases v with x | x | _ | o
  · exact hv
  · exact hv
  · exact hv
  · rcases hv with h1 | h1
    · exact Or.inl (by omega)
    · exact Or.inr h1
theorem cv_ag {n : Nat} {ad ad' : Nat → Nat} (h : ∀ o, o < n ∨ XO ≤ o → ad' o = ad o) {v : PV} (hv : okV n v) : cv ad' v = cv ad v := by
  rcases v with x | x | _ | o
  · rfl
  · rfl
  · rfl
  · show va_rf (some (ad' o)) = va_rf (some (ad o))
    rw [h o hv]
/-- the kind of a cell by its offset: a class' number and how many fields it has, or 20 ints, 21 longs, 22 to 26 references of a class, and how many places -/
def mu (M : MT) (o k : Nat) (v : Int) : MT := fun o' k' => if o' = o ∧ k' = k then v else M o' k'
def ru (R : RT) (o k : Nat) (v : Option Nat) : RT := fun o' k' => if o' = o ∧ k' = k then v else R o' k'
def mz (M : MT) (n : Nat) : MT := fun o k => if o = n then 0 else M o k
def rz (R : RT) (n : Nat) : RT := fun o k => if o = n then none else R o k
def w32 (x : Int) : Int := (Int32.ofInt x).toInt
def w64 (x : Int) : Int := (Int64.ofInt x).toInt
theorem r32 (x : Int32) : R32 x.toInt := by
  have h1 := Int32.le_toInt x
  have h2 := Int32.toInt_lt x
  unfold R32
  omega
theorem r64 (x : Int64) : R64 x.toInt := by
  have h1 := Int64.le_toInt x
  have h2 := Int64.toInt_lt x
  unfold R64
  omega
theorem w32_of {x : Int} (h : R32 x) : w32 x = x := by
  unfold w32
  unfold R32 at h
  rw [Int32.toInt_ofInt]
  exact (show Int.bmod x 4294967296 = x from Int.bmod_eq_of_le (by omega) (by omega))
theorem w64_of {x : Int} (h : R64 x) : w64 x = x := by
  unfold w64
  unfold R64 at h
  rw [Int64.toInt_ofInt]
  exact (show Int.bmod x 18446744073709551616 = x from Int.bmod_eq_of_le (by omega) (by omega))
theorem r32_w (x : Int) : R32 (w32 x) := r32 _
theorem r64_w (x : Int) : R64 (w64 x) := r64 _
theorem o32 (x : Int32) : Int32.ofInt x.toInt = x := Int32.ofInt_toInt x
theorem o64 (x : Int64) : Int64.ofInt x.toInt = x := Int64.ofInt_toInt x
theorem t32 {x : Int} (h : R32 x) : (Int32.ofInt x).toInt = x := w32_of h
theorem t64 {x : Int} (h : R64 x) : (Int64.ofInt x).toInt = x := w64_of h
theorem o32_w (x : Int) : Int32.ofInt (w32 x) = Int32.ofInt x := o32 _
theorem o64_w (x : Int) : Int64.ofInt (w64 x) = Int64.ofInt x := o64 _
theorem e32 {x y : Int} (hx : R32 x) (hy : R32 y) : Int32.ofInt x = Int32.ofInt y ↔ x = y := ⟨fun h => by rw [← t32 hx, ← t32 hy, h], fun h => by rw [h]⟩
theorem l32 {x y : Int} (hx : R32 x) (hy : R32 y) : Int32.ofInt x < Int32.ofInt y ↔ x < y := by rw [Int32.lt_iff_toInt_lt, t32 hx, t32 hy]
theorem le32 {x y : Int} (hx : R32 x) (hy : R32 y) : Int32.ofInt x ≤ Int32.ofInt y ↔ x ≤ y := by rw [Int32.le_iff_toInt_le, t32 hx, t32 hy]
theorem l64 {x y : Int} (hx : R64 x) (hy : R64 y) : Int64.ofInt x < Int64.ofInt y ↔ x < y := by rw [Int64.lt_iff_toInt_lt, t64 hx, t64 hy]
theorem e64 {x y : Int} (hx : R64 x) (hy : R64 y) : Int64.ofInt x = Int64.ofInt y ↔ x = y := ⟨fun h => by rw [← t64 hx, ← t64 hy, h], fun h => by rw [h]⟩
theorem z32 : R32 0 := by unfold R32; omega
/-- what the program stands on: the launch, its classes' numbers, its arrays' classes, addresses that are not its own, the first of its own, the script -/
abbrev GT : Type := Launch × va_G × (Nat → ClassId) × (Nat → Nat) × Nat × Nat × (Nat → Int32)
def AB (G : GT) : Nat → Prop := fun q => G.2.2.2.2.1 ≤ q
def TYS (G : GT) : List (ClassId × FieldType) := [(G.2.2.1 0, .int), (G.2.2.1 1, .long), (G.2.2.1 2, .object "TuneLoans$Text"), (G.2.2.1 3, .object "TuneLoans$Tune"), (G.2.2.1 4, .object "TuneLoans$Borrower"), (G.2.2.1 5, .object "TuneLoans$Loan"), (G.2.2.1 6, .object "TuneLoans$Sheet")]

def SH (o : Nat) : Nat × Nat := if o < 61 then if o < 30 then if o < 15 then if o < 7 then if o < 3 then if o < 1 then (0, 8) else if o < 2 then (1, 7) else (22, 2) else if o < 5 then if o < 4 then (23, 6) else (24, 6) else if o < 6 then (25, 12) else (2, 3) else if o < 11 then if o < 9 then if o < 8 then (20, 59) else (2, 3) else if o < 10 then (20, 23) else (3, 2) else if o < 13 then if o < 12 then (20, 40) else (3, 2) else if o < 14 then (20, 40) else (3, 2) else if o < 22 then if o < 18 then if o < 16 then (20, 40) else if o < 17 then (3, 2) else (20, 40) else if o < 20 then if o < 19 then (3, 2) else (20, 40) else if o < 21 then (3, 2) else (20, 40) else if o < 26 then (4, 3) else if o < 28 then (4, 3) else (5, 7) else if o < 45 then if o < 37 then (5, 7) else if o < 41 then if o < 39 then (5, 7) else if o < 40 then (5, 7) else (6, 8) else if o < 43 then (23, 6) else if o < 44 then (20, 6) else (3, 2) else if o < 53 then if o < 49 then if o < 47 then if o < 46 then (20, 40) else (20, 9600) else (20, 240) else if o < 51 then if o < 50 then (3, 2) else (20, 40) else if o < 52 then (3, 2) else (20, 40) else if o < 57 then if o < 55 then if o < 54 then (3, 2) else (20, 40) else if o < 56 then (3, 2) else (20, 40) else if o < 59 then if o < 58 then (3, 2) else (20, 40) else if o < 60 then (3, 2) else (20, 40) else if o < 92 then if o < 76 then if o < 68 then if o < 64 then if o < 62 then (3, 2) else if o < 63 then (20, 40) else (3, 2) else if o < 66 then if o < 65 then (20, 40) else (3, 2) else if o < 67 then (20, 40) else (3, 2) else if o < 72 then if o < 70 then if o < 69 then (20, 40) else (3, 2) else if o < 71 then (20, 40) else (3, 2) else if o < 74 then if o < 73 then (20, 40) else (7, 3) else if o < 75 then (23, 4) else (20, 3) else if o < 84 then if o < 80 then if o < 78 then if o < 77 then (3, 2) else (20, 40) else if o < 79 then (3, 2) else (20, 40) else if o < 82 then if o < 81 then (3, 2) else (20, 40) else if o < 83 then (3, 2) else (20, 40) else if o < 88 then if o < 86 then if o < 85 then (8, 1) else (21, 7) else if o < 87 then (9, 4) else (3, 2) else if o < 90 then if o < 89 then (20, 40) else (3, 2) else if o < 91 then (20, 40) else (21, 10) else if o < 107 then if o < 99 then if o < 95 then if o < 93 then (26, 4) else if o < 94 then (10, 3) else (20, 60) else if o < 97 then if o < 96 then (10, 3) else (20, 60) else if o < 98 then (10, 3) else (20, 60) else if o < 103 then if o < 101 then if o < 100 then (10, 3) else (20, 60) else if o < 102 then (11, 26) else (20, 4) else if o < 105 then if o < 104 then (20, 4) else (20, 240) else if o < 106 then (20, 60) else (20, 120) else if o < 115 then if o < 111 then if o < 109 then if o < 108 then (20, 2) else (20, 240) else if o < 110 then (20, 6) else (20, 18) else if o < 113 then if o < 112 then (20, 48) else (20, 280) else if o < 114 then (20, 7) else (20, 240) else if o < 119 then if o < 117 then (20, 6) else if o < 118 then (20, 6) else (20, 12) else if o < 121 then (20, 12) else if o < 122 then (20, 80) else (20, 41)
def NN : Nat := 123
/-- is the k-th field of a class a reference -/
def isRf (ci k : Nat) : Bool := match fyc ci k with
  | .int => false
  | .boolean => false
  | _ => true
def fldv (ad : Nat → Nat) (R : RT) (M : MT) (ci o k : Nat) : Value := if isRf ci k = true then va_rf ((R o k).map ad) else .int (Int32.ofInt (M o k))
def cont (G : GT) (ad : Nat → Nat) (R : RT) (M : MT) (o : Nat) : va_E :=
  if (SH o).1 < 20 then .inr ((SH o).1, (List.range (SH o).2).map (fldv ad R M (SH o).1 o))
  else if (SH o).1 = 20 then .inl (G.2.2.1 0, (SH o).2, .inl (fun k => Int32.ofInt (M o k)))
  else if (SH o).1 = 21 then .inl (G.2.2.1 1, (SH o).2, .inr (.inl (fun k => Int64.ofInt (M o k))))
  else .inl (G.2.2.1 ((SH o).1 - 20), (SH o).2, .inr (.inr (.inr (.inr (fun k => (R o k).map ad)))))
def wsOf (G : GT) (ad : Nat → Nat) (n : Nat) (R : RT) (M : MT) : va_W := (List.range n).map fun o => (ad o, cont G ad R M o)
def okM (n : Nat) (R : RT) (M : MT) : Prop := (∀ o, o < n → ∀ k, ((SH o).1 = 21 → R64 (M o k)) ∧ ((SH o).1 ≠ 21 → R32 (M o k))) ∧ ∀ o, o < n → ∀ k r, R o k = some r → r < n
def ExtS (G : GT) (U : State) : Prop := vk_S 1 [3] [[43, 45, 47]] (fun _ => G.2.2.2.1 0) (fun _ => G.2.2.2.1 2) (AB G) U U.heap ∧ va_Z "java/lang/String" "COMPACT_STRINGS" "Z" (.int 1) (AB G) U U.heap
theorem ExtS_kept {G : GT} {u U : State} (hvm : u.vm.Alike U.vm) (hq : ∀ q : Nat, q < G.2.2.2.2.1 → U.heap[q]? = u.heap[q]?) (h : ExtS G u) : ExtS G U :=
  ⟨(h.1.moved hvm).kept (fun a _ ha => hq a (Nat.not_le.mp ha)), (h.2.moved hvm).kept (fun a _ ha => hq a (Nat.not_le.mp ha))⟩
/-- what lies outside of the program's cells and doesn't change: the script, what the tables say that isn't kept by itself -/
def Ext (G : GT) (U : State) : Prop :=
  (va_X (G.2.2.2.1 1) G.2.2.2.2.2.1 G.2.2.2.2.2.2 U U.heap ∧ G.2.2.2.1 1 < G.2.2.2.2.1) ∧ (va_AO "TuneLoans$Text" U ∧ va_AO "TuneLoans$Tune" U ∧ va_AO "TuneLoans$Borrower" U ∧ va_AO "TuneLoans$Loan" U ∧ va_AO "TuneLoans$Sheet" U) ∧ (∀ q ∈ NWL, va_Nw (.methodLinkNest q.1 q.2.1 q.2.2.1 q.2.2.2) U) ∧ ExtS G U ∧ vk_R "TuneLoans$Book" 73 "+-/" (G.2.2.2.1 0) U
theorem Ext_warm {G : GT} {u U : State} (hW : u.WarmedH U.vm) (hq : ∀ q : Nat, q < G.2.2.2.2.1 → U.heap[q]? = u.heap[q]?) (h : Ext G u) : Ext G U := by
  obtain ⟨⟨h1, h2⟩, ⟨a1, a2, a3, a4, a5⟩, h3, h4, h5⟩ := h
  have hvm := hW.alike
  exact ⟨⟨(h1.moved hvm).kept (hq _ h2), h2⟩, ⟨a1.moved hvm, a2.moved hvm, a3.moved hvm, a4.moved hvm, a5.moved hvm⟩, fun q hq => va_Nw.warmM hW (h3 q hq), ExtS_kept hvm hq h4, h5.warm hW⟩
theorem Ext_same {G : GT} {u U : State} (hv : u.vm = U.vm) (hq : U.heap = u.heap) (h : Ext G u) : Ext G U := by
  obtain ⟨⟨h1, h2⟩, ⟨a1, a2, a3, a4, a5⟩, h3, h4, h5⟩ := h
  have hvm : u.vm.Alike U.vm := by rw [hv]; exact Vm.Alike.refl _
  have hq2 : ∀ q : Nat, q < G.2.2.2.2.1 → U.heap[q]? = u.heap[q]? := fun q _ => by rw [hq]
  exact ⟨⟨(h1.moved hvm).kept (hq2 _ h2), h2⟩, ⟨a1.moved hvm, a2.moved hvm, a3.moved hvm, a4.moved hvm, a5.moved hvm⟩, fun q hq => (h3 q hq).same rfl hv, ExtS_kept hvm hq2 h4, h5.same hv.symm⟩
def rmOf (J : MD) : Room := { frames := J.2.2.2.2.1, cells := J.2.2.2.2.2.1, slots := J.2.2.2.2.2.2.1, locals := J.2.2.2.2.2.2.2 }
abbrev QT : Type := Option PV → Nat → RT → MT → Prop
/-- what a method leaves -/
def QP (G : GT) (ad0 : Nat → Nat) (n0 : Nat) (Q : QT) : Array Value → State → Outcome → State → Prop := fun _ st oc t =>
  (∃ (r : Option PV) (ad : Nat → Nat) (n : Nat) (R : RT) (M : MT), oc = .returned (r.map (cv ad)) ∧ Q r n R M ∧ (∀ v, r = some v → okV n v) ∧ n0 ≤ n ∧ n ≤ XO ∧ (∀ o, o < n0 ∨ XO ≤ o → ad o = ad0 o) ∧ okM n R M ∧ va_P G.2.1 CL (wsOf G ad n R M) t.heap ∧ va_D (AB G) (wsOf G ad n R M)) ∧ va_F (AB G) st t
def Cx (G : GT) (J : MD) (p : Program) (s : State) (m : MethodId) (args : Array Value) (meth : Method) (c : Code) : Prop :=
  p.tables.exec = Jvm.exec ∧ c.code = J.2.1 ∧ meth.sig.returnType = J.2.2.2.1 ∧ c.maxLocals = J.2.2.1 ∧ s.vm.findClass J.1.cls = some m.cls ∧ meth.locks = false ∧ meth.name = J.1.name ∧ (∀ w ∈ TB, w.before args s = true) ∧ va_K G.2.1 CL (TYS G) s ∧ Ext G s ∧ G.2.2.2.2.1 ≤ s.heap.size
def Mx (G : GT) (n0 : Nat) (ad0 ad : Nat → Nat) (n : Nat) (R : RT) (M : MT) (s : State) (H : Heap) (locs : List Loc) : Prop :=
  n0 ≤ n ∧ n ≤ XO ∧ (∀ o, o < n0 ∨ XO ≤ o → ad o = ad0 o) ∧ (∀ i, ad (XO + i) = G.2.2.2.1 i) ∧ okM n R M ∧ va_P G.2.1 CL (wsOf G ad n R M) H ∧ va_D (AB G) (wsOf G ad n R M) ∧ va_S (AB G) s.heap H locs
def lmap (ad : Nat → Nat) (L : LT) : List (Nat × Value) := L.map (fun q => (q.1, cv ad q.2))
def okS (n : Nat) (L : LT) (st : List PV) : Prop := (∀ q ∈ L, okV n q.2) ∧ ∀ v ∈ st, okV n v
def Wp (G : GT) (J : MD) (k z pc : Nat) (L : LT) (st : List PV) (n : Nat) (R : RT) (M : MT) (Q : QT) : Prop :=
  ∀ (p : Program) (e : Env) (s : State) (m : MethodId) (args : Array Value) (below : List Frame) (meth : Method) (c : Code), Cx G J p s m args meth c →
    ∀ (ad0 : Nat → Nat) (n0 : Nat) (ad : Nat → Nat) (H : Heap) (locs : List Loc) (ls : Array Slot), Mx G n0 ad0 ad n R M s H locs → lv_has ls J.2.2.1 (lmap ad L) → okS n L st →
      W p G.1 e (rmOf J) s m args below meth c H locs k z (MQ below (QP G ad0 n0 Q) args s J.2.2.2.2.2.1 J.2.2.2.2.2.2.1 (AB G)) (F0 m pc ls (st.map (cv ad)))
/-- a call of a method: its body from its entry, with these arguments -/
def entL : Nat → List PV → LT
  | _, [] => []
  | i, v :: vs => (i, v) :: entL (if cat v = 2 then i + 2 else i + 1) vs
def Cl (G : GT) (J : MD) (as : List PV) (n : Nat) (R : RT) (M : MT) (Q : QT) : Prop := Wp G J 0 0 0 (entL 0 as) [] n R M Q
theorem Wp_mono {G : GT} {J : MD} {k z pc : Nat} {L : LT} {st : List PV} {n : Nat} {R : RT} {M : MT} {Q Q' : QT} (h : Wp G J k z pc L st n R M Q) (hq : ∀ r n R M, Q r n R M → Q' r n R M) : Wp G J k z pc L st n R M Q' := by
  intro p e s m args below meth c C ad0 n0 ad H locs ls X hl ok T hT Y
  obtain ⟨t, a, b⟩ := h p e s m args below meth c C ad0 n0 ad H locs ls X hl ok T hT Y
  refine ⟨t, a, ?_⟩
  obtain ⟨o, b1, b2, b3, b4⟩ := b
  refine ⟨o, b1, b2, ?_, b4⟩
  obtain ⟨⟨r, ad', n', R', M', c1, c2, c3⟩, c4⟩ := b3
  exact ⟨⟨r, ad', n', R', M', c1, hq _ _ _ _ c2, c3⟩, c4⟩
theorem okS_push {n : Nat} {L : LT} {st : List PV} {v : PV} (h : okS n L st) (hv : okV n v) : okS n L (v :: st) := ⟨h.1, fun x hx => by
  rcases List.mem_cons.mp hx with rfl | hx
  · exact hv
  · exact h.2 x hx⟩
theorem okS_pop {n : Nat} {L : LT} {st : List PV} {v : PV} (h : okS n L (v :: st)) : okV n v ∧ okS n L st := ⟨h.2 v List.mem_cons_self, h.1, fun x hx => h.2 x (List.mem_cons_of_mem _ hx)⟩
/-- locals: chosen ones, by their places -/
def pk (L : LT) (ks : List Nat) : LT := ks.filterMap (fun k => L[k]?)
theorem lmap_get {ad : Nat → Nat} {L : LT} {k i : Nat} {v : PV} (h : L[k]? = some (i, v)) : (lmap ad L)[k]? = some (i, cv ad v) := by
  unfold lmap
  rw [List.getElem?_map, h]
  rfl
theorem pk_mem {L : LT} {ks : List Nat} {q : Nat × PV} (h : q ∈ pk L ks) : q ∈ L := by
  obtain ⟨k, -, hk⟩ := List.mem_filterMap.mp h
  exact List.mem_of_getElem? hk
theorem pk_has {ad : Nat → Nat} {ls : Array Slot} {N : Nat} {L L' : LT} {ks : List Nat} (h : lv_has ls N (lmap ad L)) (hl : pk L ks = L') : lv_has ls N (lmap ad L') := by
  refine ⟨h.1, h.2.1, fun q hq => ?_⟩
  obtain ⟨x, hx, rfl⟩ := List.mem_map.mp hq
  rw [← hl] at hx
  exact h.2.2 _ (List.mem_map.mpr ⟨x, pk_mem hx, rfl⟩)
def st1 (L : LT) (i : Nat) (v : PV) : LT := (i, v) :: L.filter (fun q => !(q.1 == i) && !(q.1 + 1 == i && cat q.2 == 2))
def st2 (L : LT) (i : Nat) (v : PV) : LT := (i, v) :: L.filter (fun q => !(q.1 == i) && (!(q.1 == i + 1) && !(q.1 + 1 == i && cat q.2 == 2)))
theorem lmap_st1 (ad : Nat → Nat) (L : LT) (i : Nat) (v : PV) : (i, cv ad v) :: (lmap ad L).filter (fun q => !(q.1 == i) && !(q.1 + 1 == i && q.2.category == 2)) = lmap ad (st1 L i v) := by
  unfold st1 lmap
  rw [List.map_cons, List.filter_map]
  congr 2
  refine congrArg (fun f => List.filter f L) (funext fun q => ?_)
  show _ = _
  simp only [Function.comp, cat_cv]
theorem lmap_st2 (ad : Nat → Nat) (L : LT) (i : Nat) (v : PV) : (i, cv ad v) :: (lmap ad L).filter (fun q => !(q.1 == i) && (!(q.1 == i + 1) && !(q.1 + 1 == i && q.2.category == 2))) = lmap ad (st2 L i v) := by
  unfold st2 lmap
  rw [List.map_cons, List.filter_map]
  congr 2
  refine congrArg (fun f => List.filter f L) (funext fun q => ?_)
  show _ = _
  simp only [Function.comp, cat_cv]
theorem ok_st1 {n : Nat} {L L' : LT} {st : List PV} {i : Nat} {v : PV} {ks : List Nat} (h : okS n L (v :: st)) (hl : pk (st1 L i v) ks = L') : okS n L' st := by
  obtain ⟨h1, h2⟩ := okS_pop h
  refine ⟨fun q hq => ?_, h2.2⟩
  rw [← hl] at hq
  rcases List.mem_cons.mp (pk_mem hq) with rfl | hq
  · exact h1
  · exact h.1 q (List.mem_filter.mp hq).1
theorem ok_st2 {n : Nat} {L L' : LT} {st : List PV} {i : Nat} {v : PV} {ks : List Nat} (h : okS n L (v :: st)) (hl : pk (st2 L i v) ks = L') : okS n L' st := by
  obtain ⟨h1, h2⟩ := okS_pop h
  refine ⟨fun q hq => ?_, h2.2⟩
  rw [← hl] at hq
  rcases List.mem_cons.mp (pk_mem hq) with rfl | hq
  · exact h1
  · exact h.1 q (List.mem_filter.mp hq).1

