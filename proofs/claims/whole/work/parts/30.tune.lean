/-! rows of notes, and a tune of the class -/
theorem mu_eq (M : MT) (o k : Nat) (v : Int) : mu M o k v o k = v := by simp [mu]
theorem mu_o {M : MT} {o k o' k' : Nat} {v : Int} (h : o' ≠ o) : mu M o k v o' k' = M o' k' := by simp [mu, h]
theorem mu_k {M : MT} {o k o' k' : Nat} {v : Int} (h : k' ≠ k) : mu M o k v o' k' = M o' k' := by simp [mu, h]
/-- nothing but these cells has changed -/
def Fr (S : List Nat) (M M' : MT) : Prop := ∀ q, q ∉ S → ∀ k, M' q k = M q k
theorem Fr.rf {S : List Nat} {M : MT} : Fr S M M := fun _ _ _ => rfl
theorem Fr.tr {S : List Nat} {M M' M'' : MT} (h : Fr S M M') (h' : Fr S M' M'') : Fr S M M'' := fun q hq k => (h' q hq k).trans (h q hq k)
theorem Fr.up {S S' : List Nat} {M M' : MT} (h : Fr S M M') (hs : ∀ q ∈ S, q ∈ S') : Fr S' M M' := fun q hq k => h q (fun z => hq (hs q z)) k
theorem Fr.mu1 {S : List Nat} {M : MT} {o k : Nat} {v : Int} (h : o ∈ S) : Fr S M (mu M o k v) := fun q hq j => mu_o (fun e => hq (e ▸ h))
theorem Fr.cp1 {S : List Nat} {M : MT} {o o2 : Nat} {a b c : Int} (h : o2 ∈ S) : Fr S M (mcp M o o2 a b c) := fun q hq j => by
  unfold mcp
  rw [if_neg]
  intro z
  exact hq (z.1 ▸ h)
theorem w32_s {x : Int} (h1 : -2147483648 ≤ x) (h2 : x < 2147483648) : w32 x = x := w32_of ⟨h1, h2⟩
/-- a row of numbers lies in a cell, from a place on -/
def SL (M : MT) (o k : Nat) (l : List Int) : Prop := ∀ i, i < l.length → M o (k + i) = l.getD i 0
theorem SL.fr {S : List Nat} {M M' : MT} {o k : Nat} {l : List Int} (h : SL M o k l) (f : Fr S M M') (hq : o ∉ S) : SL M' o k l := fun i hi => (f o hq _).trans (h i hi)
theorem getD_l {l : List Int} {v : Int} {i : Nat} (h : i < l.length) : (l ++ [v]).getD i 0 = l.getD i 0 := by
  rw [List.getD_eq_getElem?_getD, List.getD_eq_getElem?_getD, List.getElem?_append_left h]
theorem getD_r (l : List Int) (v : Int) : (l ++ [v]).getD l.length 0 = v := by
  rw [List.getD_eq_getElem?_getD, List.getElem?_append_right (Nat.le_refl _), Nat.sub_self]
  rfl
theorem SL.push {M : MT} {o k : Nat} {l : List Int} {v : Int} (h : SL M o k l) : SL (mu M o (k + l.length) v) o k (l ++ [v]) := by
  intro i hi
  rw [List.length_append, List.length_singleton] at hi
  by_cases hc : i < l.length
  · rw [mu_k (by omega), getD_l hc, h i hc]
  · rw [show i = l.length by omega, mu_eq, getD_r]
theorem SL.ext {M : MT} {o k : Nat} {l l' : List Int} (h : SL M o k l) (h' : SL M o k l') (e : l.length = l'.length) : l = l' := by
  apply List.ext_getElem e
  intro i h1 h2
  have a := h i h1
  have b := h' i h2
  rw [a] at b
  rw [List.getD_eq_getElem?_getD, List.getD_eq_getElem?_getD, List.getElem?_eq_getElem h1, List.getElem?_eq_getElem h2] at b
  exact b
/-- a tune of the class with these notes -/
def Tn (M : MT) (o : Nat) (l : List Int) : Prop := M o 1 = (l.length : Int) ∧ SL M (o + 1) 0 l
theorem Tn.fr {S : List Nat} {M M' : MT} {o : Nat} {l : List Int} (h : Tn M o l) (f : Fr S M M') (h1 : o ∉ S) (h2 : o + 1 ∉ S) : Tn M' o l := ⟨(f o h1 1).trans h.1, h.2.fr f h2⟩
def addL (a : List Int) (v : Int) : List Int := if a.length < 40 then a ++ [v] else a
def humS (x h y : Int) (a : List Int) (v : Int) : List Int := if v = x then (if h = 0 then addL (addL a v) y else if h = 1 then a else addL a y) else addL a v
def humL (x h y : Int) (l : List Int) : List Int := l.foldl (humS x h y) []
theorem addL_le {a : List Int} (h : a.length ≤ 40) (v : Int) : (addL a v).length ≤ 40 := by
  unfold addL
  split
  · simp; omega
  · exact h
theorem humS_le {x h y : Int} {a : List Int} (ha : a.length ≤ 40) (v : Int) : (humS x h y a v).length ≤ 40 := by
  unfold humS
  split
  · split
    · exact addL_le (addL_le ha _) _
    · split
      · exact ha
      · exact addL_le ha _
  · exact addL_le ha _
theorem hum_le (x h y : Int) : ∀ (l a : List Int), a.length ≤ 40 → (l.foldl (humS x h y) a).length ≤ 40
  | [], _, ha => ha
  | v :: l, a, ha => hum_le x h y l _ (humS_le ha v)
theorem humL_le (x h y : Int) (l : List Int) : (humL x h y l).length ≤ 40 := hum_le x h y l [] (by decide)
def rawS (x h y : Int) (a : List Int) (v : Int) : List Int := a ++ (if v = x then (if h = 0 then [v, y] else if h = 1 then [] else [y]) else [v])
theorem addL_take (a : List Int) (v : Int) : addL (a.take 40) v = (a ++ [v]).take 40 := by
  unfold addL
  by_cases h : a.length < 40
  · rw [List.take_of_length_le (by omega), if_pos h, List.take_of_length_le (by simp; omega)]
  · rw [if_neg (by rw [List.length_take]; omega), List.take_append_of_le_length (by omega)]
theorem humS_take (x h y : Int) (a : List Int) (v : Int) : humS x h y (a.take 40) v = (rawS x h y a v).take 40 := by
  unfold humS rawS
  split
  · split
    · rw [addL_take, addL_take, List.append_assoc]
      rfl
    · split
      · rw [List.append_nil]
      · rw [addL_take]
  · rw [addL_take]
theorem hum_raw (x h y : Int) : ∀ (l a : List Int), l.foldl (humS x h y) (a.take 40) = (l.foldl (rawS x h y) a).take 40
  | [], _ => rfl
  | v :: l, a => by
    rw [List.foldl_cons, List.foldl_cons, humS_take, hum_raw x h y l]
theorem humL_raw (x h y : Int) (l : List Int) : humL x h y l = (l.foldl (rawS x h y) []).take 40 := hum_raw x h y l []
theorem raw_le (x h y : Int) : ∀ (l a : List Int), (l.foldl (rawS x h y) a).length ≤ a.length + 2 * l.length
  | [], _ => by simp
  | v :: l, a => by
    rw [List.foldl_cons]
    have h1 := raw_le x h y l (rawS x h y a v)
    have h2 : (rawS x h y a v).length ≤ a.length + 2 := by
      unfold rawS
      rw [List.length_append]
      split
      · split
        · simp
        · split <;> simp
      · simp
    rw [List.length_cons]
    omega
theorem fold_take {α : Type} (f : α → Int → α) (l : List Int) (a : α) {i : Nat} (h : i < l.length) : (l.take (i + 1)).foldl f a = f ((l.take i).foldl f a) (l.getD i 0) := by
  rw [List.take_succ, List.foldl_append, List.getD_eq_getElem?_getD, List.getElem?_eq_getElem h]
  rfl
section CTUNE
variable {G : GT} {M : MT}
theorem c_tu_add {P : MT → Prop} (o : Nat) (f : TU o) (v : Int) (l : List Int) (ht : Tn M o l) (hl : l.length ≤ 40) (hp : ∀ M', Fr [o, o + 1] M M' → Tn M' o (addL l v) → P M') : ClV G J_tu_add M [pR o, pI v] P := by
  have e0 : (l.length : Int).toNat = l.length := by omega
  refine e_tu_add o f v ⟨fun c => ?_, fun c => ⟨?_, ?_⟩⟩
  · rw [ht.1] at c
    refine hp M Fr.rf ?_
    unfold addL
    rw [if_neg (by omega)]
    exact ht
  · rw [ht.1] at c ⊢
    omega
  · rintro M1 rfl M2 rfl
    rw [ht.1] at c ⊢
    refine hp _ (Fr.tr (Fr.mu1 (by simp)) (Fr.mu1 (by simp))) ?_
    unfold addL
    rw [if_pos (by omega), mu_o (by omega), ht.1, e0, w32_s (by omega) (by omega)]
    refine ⟨?_, ?_⟩
    · rw [mu_eq, List.length_append, List.length_singleton]
      omega
    · have h1 := ht.2.push (v := v)
      rw [Nat.zero_add] at h1
      intro i hi
      rw [mu_o (by omega)]
      exact h1 i hi
theorem c_tu_at {P : Int → MT → Prop} (o : Nat) (f : TU o) (i : Int) (l : List Int) (ht : Tn M o l) (hl : l.length ≤ 40) (hp : P (if 0 ≤ i ∧ i < (l.length : Int) then l.getD i.toNat 0 else -1) M) : ClI G J_tu_at M [pR o, pI i] P := by
  refine e_tu_at o f i ⟨fun c => ?_, fun c => ⟨fun c2 => ?_, fun c2 => ?_⟩⟩
  · rw [if_neg (by omega)] at hp
    exact hp
  · rw [ht.1] at c2
    rw [if_neg (by omega)] at hp
    exact hp
  · rw [ht.1] at c2
    rw [if_pos ⟨c, c2⟩] at hp
    refine ⟨⟨c, by omega⟩, ?_⟩
    have h1 := ht.2 i.toNat (by omega)
    rw [Nat.zero_add] at h1
    rw [h1]
    exact hp
theorem wi {i : Nat} (h : i < 1000000) : w32 ((i : Int) + 1) = ((i + 1 : Nat) : Int) := by
  rw [w32_s (by omega) (by omega)]
  omega
theorem SL.cp {M : MT} {o o2 : Nat} {l : List Int} (h : SL M o 0 l) : SL (mcp M o o2 0 0 (l.length : Int)) o2 0 l := by
  intro i hi
  unfold mcp
  rw [if_pos ⟨rfl, by omega, by omega⟩]
  have h1 := h i hi
  rw [← h1]
  congr 1
  omega
theorem c_tu_become {P : MT → Prop} (o : Nat) (f : TU o) (o1 : Nat) (f1 : TU o1) (l : List Int) (ht : Tn M o1 l) (hl : l.length ≤ 40) (d1 : o1 ≠ o) (d2 : o1 ≠ o + 1) (hp : ∀ M', Fr [o, o + 1] M M' → Tn M' o l → P M') : ClV G J_tu_become M [pR o, pR o1] P := by
  refine e_tu_become o f o1 f1 ⟨⟨⟨by omega, by omega, ?_⟩, ?_, ?_⟩, ?_⟩
  · rw [ht.1]; omega
  · rw [ht.1]; omega
  · rw [ht.1]; omega
  · rintro M1 rfl M2 rfl
    have e1 : mcp M (o1 + 1) (o + 1) 0 0 (M o1 1) o1 1 = M o1 1 := Fr.cp1 (S := [o + 1]) (by simp) o1 (by simpa using d2) 1
    rw [e1, ht.1]
    refine hp _ (Fr.tr (Fr.cp1 (by simp)) (Fr.mu1 (by simp))) ⟨mu_eq _ _ _ _, fun i hi => ?_⟩
    rw [mu_o (by omega)]
    exact ht.2.cp i hi
/-- o1, o2 are other cells than the tune at o -/
def Ap (o o1 : Nat) : Prop := o1 ≠ o ∧ o1 ≠ o + 1 ∧ o1 + 1 ≠ o
theorem Ap.n1 {o o1 : Nat} (h : Ap o o1) : o1 ∉ [o, o + 1] := by simp [h.1, h.2.1]
theorem Ap.n2 {o o1 : Nat} (h : Ap o o1) : o1 + 1 ∉ [o, o + 1] := by
  have h1 := h.1
  have h2 := h.2.2
  simp only [List.mem_cons, List.not_mem_nil, or_false, not_or]
  omega
theorem lp_hum {M0 : MT} {P : MT → Prop} (o : Nat) (f : TU o) (o1 : Nat) (f1 : TU o1) (o2 : Nat) (f2 : BO o2) (l : List Int) (x h y : Int) (hl : l.length ≤ 40) (d1 : Ap o o1) (d2 : o2 ∉ [o, o + 1]) (t1 : Tn M0 o1 l) (b1 : M0 o2 0 = x) (b2 : M0 o2 1 = h) (b3 : M0 o2 2 = y) (hh : h = 0 ∨ h = 1 ∨ h = 2)
    (hp : ∀ M', Fr [o, o + 1] M0 M' → Tn M' o (humL x h y l) → P M') : ∀ (d i : Nat) (M : MT), i + d = l.length → Fr [o, o + 1] M0 M → Tn M o ((l.take i).foldl (humS x h y) []) → WpV G J_tu_becomeHummed 7 [(0, pR o), (1, pR o1), (2, pR o2), (3, pI (i : Int))] [] M P := by
  intro d
  induction d with
  | zero =>
    intro i M hi hf ht
    have t2 := t1.fr hf d1.n1 d1.n2
    refine b_tu_becomeHummed_7 o f o1 f1 o2 f2 (i : Int) ⟨fun _ => hp M hf ?_, fun c => ?_⟩
    · rw [List.take_of_length_le (by omega)] at ht
      exact ht
    · rw [t2.1] at c
      omega
  | succ d ih =>
    intro i M hi hf ht
    have t2 := t1.fr hf d1.n1 d1.n2
    have hil : i < l.length := by omega
    have e0 : (i : Int).toNat = i := by omega
    have ev : M (o1 + 1) i = l.getD i 0 := by
      have h1 := t2.2 i hil
      rwa [Nat.zero_add] at h1
    have hst := fold_take (humS x h y) l [] hil
    have hle : ((l.take i).foldl (humS x h y) []).length ≤ 40 := hum_le x h y _ _ (by decide)
    have c0 : M o2 0 = x := (hf o2 d2 0).trans b1
    have c1 : M o2 1 = h := (hf o2 d2 1).trans b2
    have c2 : M o2 2 = y := (hf o2 d2 2).trans b3
    have next : ∀ M', Fr [o, o + 1] M M' → Tn M' o (humS x h y ((l.take i).foldl (humS x h y) []) (l.getD i 0)) → WpV G J_tu_becomeHummed 7 [(0, pR o), (1, pR o1), (2, pR o2), (3, pI (w32 ((i : Int) + 1)))] [] M' P := by
      intro M' hf' ht'
      rw [wi (by omega)]
      exact ih (i + 1) M' (by omega) (hf.tr hf') (by rw [hst]; exact ht')
    refine b_tu_becomeHummed_7 o f o1 f1 o2 f2 (i : Int) ⟨fun c => ?_, fun c => ⟨⟨by omega, by omega⟩, ?_⟩⟩
    · rw [t2.1] at c
      omega
    · rw [e0, ev, c0, c1, c2]
      refine ⟨fun h1 => ?_, fun h1 => ⟨fun h2 => ⟨fun h3 => ?_, fun h3 => ?_⟩, fun h2 => ?_⟩⟩
      · refine c_tu_add o f _ _ ht hle (fun M' hf' ht' => next M' hf' ?_)
        unfold humS
        rw [if_neg h1]
        exact ht'
      · refine next M Fr.rf ?_
        unfold humS
        rw [if_pos h1, if_neg h2, if_pos h3]
        exact ht
      · refine c_tu_add o f _ _ ht hle (fun M' hf' ht' => next M' hf' ?_)
        unfold humS
        rw [if_pos h1, if_neg h2, if_neg h3]
        exact ht'
      · refine c_tu_add o f _ _ ht hle (fun M' hf' ht' => ⟨fun h3 => ?_, fun h3 => ?_⟩)
        · rw [hf' o2 d2 1, c1] at h3
          omega
        · rw [hf' o2 d2 2, c2]
          refine c_tu_add o f _ _ ht' (addL_le hle _) (fun M2 hf2 ht2 => next M2 (hf'.tr hf2) ?_)
          unfold humS
          rw [if_pos h1, if_pos h2, ← h1]
          rw [← h1] at ht2
          exact ht2
theorem c_tu_becomeHummed {P : MT → Prop} (o : Nat) (f : TU o) (o1 : Nat) (f1 : TU o1) (o2 : Nat) (f2 : BO o2) (l : List Int) (x h y : Int) (hl : l.length ≤ 40) (d1 : Ap o o1) (d2 : o2 ∉ [o, o + 1]) (t1 : Tn M o1 l) (b1 : M o2 0 = x) (b2 : M o2 1 = h) (b3 : M o2 2 = y) (hh : h = 0 ∨ h = 1 ∨ h = 2)
    (hp : ∀ M', Fr [o, o + 1] M M' → Tn M' o (humL x h y l) → P M') : ClV G J_tu_becomeHummed M [pR o, pR o1, pR o2] P := by
  refine e_tu_becomeHummed o f o1 f1 o2 f2 ?_
  rintro M1 rfl
  refine lp_hum (M0 := M) o f o1 f1 o2 f2 l x h y hl d1 d2 t1 b1 b2 b3 hh hp l.length 0 _ (by omega) (Fr.mu1 (by simp)) ⟨mu_eq _ _ _ _, fun i hi => ?_⟩
  exact absurd hi (Nat.not_lt_zero i)
def bitsL (l : List Int) : Int := l.foldl (fun b v => ior b (ishl 1 v)) 0
theorem lp_bits {P : Int → MT → Prop} (o : Nat) (f : TU o) (l : List Int) (hl : l.length ≤ 40) (ht : Tn M o l) (hp : P (bitsL l) M) : ∀ (d i : Nat), i + d = l.length → WpI G J_tu_bits 4 [(0, pR o), (1, pI ((l.take i).foldl (fun b v => ior b (ishl 1 v)) 0)), (2, pI (i : Int))] [] M P := by
  intro d
  induction d with
  | zero =>
    intro i hi
    refine b_tu_bits_4 o f _ (i : Int) ⟨fun _ => ?_, fun c => ?_⟩
    · rw [List.take_of_length_le (by omega)]
      exact hp
    · rw [ht.1] at c
      omega
  | succ d ih =>
    intro i hi
    have e0 : (i : Int).toNat = i := by omega
    have hil : i < l.length := by omega
    have ev : M (o + 1) i = l.getD i 0 := by
      have h1 := ht.2 i hil
      rwa [Nat.zero_add] at h1
    refine b_tu_bits_4 o f _ (i : Int) ⟨fun c => ?_, fun c => ⟨⟨by omega, by omega⟩, ?_⟩⟩
    · rw [ht.1] at c
      omega
    · have h1 := ih (i + 1) (by omega)
      rw [fold_take (fun b v => ior b (ishl 1 v)) l 0 hil] at h1
      rw [e0, ev, wi (by omega)]
      exact h1
theorem c_tu_bits {P : Int → MT → Prop} (o : Nat) (f : TU o) (l : List Int) (hl : l.length ≤ 40) (ht : Tn M o l) (hp : P (bitsL l) M) : ClI G J_tu_bits M [pR o] P :=
  e_tu_bits o f (lp_bits o f l hl ht hp l.length 0 (by omega))
theorem lp_like {P : Int → MT → Prop} (o : Nat) (f : TU o) (o1 : Nat) (f1 : TU o1) (l l1 : List Int) (hl : l.length ≤ 40) (he : l.length = l1.length) (ht : Tn M o l) (ht1 : Tn M o1 l1) (hp : P (if l = l1 then 1 else 0) M) : ∀ (d i : Nat), i + d = l.length → (∀ j, j < i → l.getD j 0 = l1.getD j 0) → WpI G J_tu_isLike 15 [(0, pR o), (1, pR o1), (2, pI (i : Int))] [] M P := by
  intro d
  induction d with
  | zero =>
    intro i hi hs
    have e : l = l1 := by
      apply List.ext_getElem he
      intro j h1 h2
      have h3 := hs j (by omega)
      rw [List.getD_eq_getElem?_getD, List.getD_eq_getElem?_getD, List.getElem?_eq_getElem h1, List.getElem?_eq_getElem h2] at h3
      exact h3
    refine b_tu_isLike_15 o f o1 f1 (i : Int) ⟨fun _ => ?_, fun c => ?_⟩
    · rw [if_pos e] at hp
      exact hp
    · rw [ht.1] at c
      omega
  | succ d ih =>
    intro i hi hs
    have e0 : (i : Int).toNat = i := by omega
    have hil : i < l.length := by omega
    have ev : M (o + 1) i = l.getD i 0 := by
      have h1 := ht.2 i hil
      rwa [Nat.zero_add] at h1
    have ev1 : M (o1 + 1) i = l1.getD i 0 := by
      have h1 := ht1.2 i (by omega)
      rwa [Nat.zero_add] at h1
    refine b_tu_isLike_15 o f o1 f1 (i : Int) ⟨fun c => ?_, fun c => ⟨⟨by omega, by omega⟩, ⟨by omega, by omega⟩, ?_⟩⟩
    · rw [ht.1] at c
      omega
    · rw [e0, ev, ev1, wi (by omega)]
      refine ⟨fun h1 => ih (i + 1) (by omega) (fun j hj => ?_), fun h1 => ?_⟩
      · by_cases hji : j = i
        · rw [hji]; exact h1
        · exact hs j (by omega)
      · rw [if_neg (fun e => h1 (by rw [e]))] at hp
        exact hp
theorem c_tu_isLike {P : Int → MT → Prop} (o : Nat) (f : TU o) (o1 : Nat) (f1 : TU o1) (l l1 : List Int) (hl : l.length ≤ 40) (ht : Tn M o l) (ht1 : Tn M o1 l1) (hp : P (if l = l1 then 1 else 0) M) : ClI G J_tu_isLike M [pR o, pR o1] P := by
  refine e_tu_isLike o f o1 f1 ⟨fun c => ?_, fun c => ?_⟩
  · rw [ht.1, ht1.1] at c
    exact lp_like o f o1 f1 l l1 hl (by omega) ht ht1 hp l.length 0 (by omega) (fun j hj => absurd hj (Nat.not_lt_zero j))
  · rw [ht.1, ht1.1] at c
    rw [if_neg (fun e => c (by rw [e]))] at hp
    exact hp
end CTUNE
