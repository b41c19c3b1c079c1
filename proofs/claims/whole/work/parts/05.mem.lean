theorem cl_lt {ci : Nat} {q : vw_C} (h : CL[ci]? = some q) : ci < 12 := by
  have h1 := (List.getElem?_eq_some_iff.mp h).1
  simpa [CL] using h1
theorem ws_get {G : GT} {ad : Nat → Nat} {n : Nat} {R : RT} {M : MT} {o : Nat} (h : o < n) : (wsOf G ad n R M)[o]? = some (ad o, cont G ad R M o) := by
  unfold wsOf
  rw [List.getElem?_map, List.getElem?_range h]
  rfl
theorem cont_ob {G : GT} {ad : Nat → Nat} {R : RT} {M : MT} {o ci N : Nat} (hs : SH o = (ci, N)) (h : ci < 12) : cont G ad R M o = .inr (ci, (List.range N).map (fldv ad R M ci o)) := by
  unfold cont
  rw [if_pos (by rw [hs]; exact (by omega : ci < 20)), hs]
theorem cont_i {G : GT} {ad : Nat → Nat} {R : RT} {M : MT} {o N : Nat} (hs : SH o = (20, N)) : cont G ad R M o = .inl (G.2.2.1 0, N, .inl (fun k => Int32.ofInt (M o k))) := by
  unfold cont
  rw [if_neg (by rw [hs]; exact (by decide : ¬ (20 : Nat) < 20)), if_pos (by rw [hs]), hs]
theorem cont_l {G : GT} {ad : Nat → Nat} {R : RT} {M : MT} {o N : Nat} (hs : SH o = (21, N)) : cont G ad R M o = .inl (G.2.2.1 1, N, .inr (.inl (fun k => Int64.ofInt (M o k)))) := by
  unfold cont
  rw [if_neg (by rw [hs]; exact (by decide : ¬ (21 : Nat) < 20)), if_neg (by rw [hs]; exact (by decide : ¬ (21 : Nat) = 20)), if_pos (by rw [hs]), hs]
theorem cont_r {G : GT} {ad : Nat → Nat} {R : RT} {M : MT} {o N t : Nat} (hs : SH o = (22 + t, N)) : cont G ad R M o = .inl (G.2.2.1 (2 + t), N, .inr (.inr (.inr (.inr (fun k => (R o k).map ad))))) := by
  unfold cont
  rw [if_neg (by rw [hs]; show ¬ 22 + t < 20; omega), if_neg (by rw [hs]; show ¬ 22 + t = 20; omega), if_neg (by rw [hs]; show ¬ 22 + t = 21; omega), hs]
  show (Sum.inl (G.2.2.1 (22 + t - 20), _) : va_E) = _
  rw [show 22 + t - 20 = 2 + t by omega]
theorem fld_get (ad : Nat → Nat) (R : RT) (M : MT) (ci o : Nat) {N f : Nat} (hf : f < N) : ((List.range N).map (fldv ad R M ci o))[f]? = some (fldv ad R M ci o f) := by
  rw [List.getElem?_map, List.getElem?_range hf]
  rfl
theorem cont_eq {G : GT} {ad ad' : Nat → Nat} {R R' : RT} {M M' : MT} {o : Nat} (h1 : ∀ k, (R' o k).map ad' = (R o k).map ad) (h2 : ∀ k, M' o k = M o k) : cont G ad' R' M' o = cont G ad R M o := by
  unfold cont
  have e1 : fldv ad' R' M' (SH o).1 o = fldv ad R M (SH o).1 o := by
    funext k
    unfold fldv
    rw [h1, h2]
  rw [e1]
  simp only [h1, h2]
theorem ws_set {G : GT} {ad : Nat → Nat} {n : Nat} {R R' : RT} {M M' : MT} {o : Nat} {E : va_E} (ho : o < n) (h1 : ∀ o' k, o' ≠ o → R' o' k = R o' k) (h2 : ∀ o' k, o' ≠ o → M' o' k = M o' k) (hE : cont G ad R' M' o = E) : (wsOf G ad n R M).set o (ad o, E) = wsOf G ad n R' M' := by
  apply List.ext_getElem?
  intro j
  by_cases hj : j = o
  · subst hj
    rw [List.getElem?_set_self (by unfold wsOf; simpa using ho), ws_get ho, hE]
  · rw [List.getElem?_set_ne (Ne.symm hj)]
    by_cases hn : j < n
    · rw [ws_get hn, ws_get hn, cont_eq (fun k => by rw [h1 j k hj]) (fun k => h2 j k hj)]
    · have e1 : (wsOf G ad n R M).length ≤ j := by unfold wsOf; simpa using hn
      have e2 : (wsOf G ad n R' M').length ≤ j := by unfold wsOf; simpa using hn
      rw [List.getElem?_eq_none e1, List.getElem?_eq_none e2]
theorem ws_push {G : GT} {ad ad' : Nat → Nat} {n : Nat} {R R' : RT} {M M' : MT} {E : va_E} {q : Nat} (hok : okM n R M) (ha : ∀ o, o < n → ad' o = ad o) (hq : ad' n = q) (h1 : ∀ o' k, o' < n → R' o' k = R o' k) (h2 : ∀ o' k, o' < n → M' o' k = M o' k) (hE : cont G ad' R' M' n = E) : wsOf G ad n R M ++ [(q, E)] = wsOf G ad' (n + 1) R' M' := by
  unfold wsOf
  rw [List.range_succ, List.map_append, List.map_singleton, hq, hE]
  congr 1
  apply List.map_congr_left
  intro o ho
  have ho := List.mem_range.mp ho
  rw [ha o ho, cont_eq (G := G) (ad := ad) (R := R) (M := M) (fun k => ?_) (fun k => h2 o k ho)]
  rw [h1 o k ho]
  cases hr : R o k with
  | none => rfl
  | some r => simp [ha r (hok.2 o ho k r hr)]
theorem vin {x : Int} {N : Nat} (hx : R32 x) (h0 : 0 ≤ x) (h1 : x < (N : Int)) : vp_in (Int32.ofInt x) N ∧ (Int32.ofInt x).toNatClampNeg = x.toNat := by
  have e : (Int32.ofInt x).toNatClampNeg = x.toNat := by
    show (Int32.ofInt x).toInt.toNat = x.toNat
    rw [t32 hx]
  refine ⟨fun h => ?_, e⟩
  rcases h with h | h
  · have : x < 0 := (l32 hx z32).mp h
    omega
  · rw [e] at h
    omega
theorem lmap_ag {n : Nat} {ad ad' : Nat → Nat} (h : ∀ o, o < n ∨ XO ≤ o → ad' o = ad o) {L : LT} (hL : ∀ q ∈ L, okV n q.2) : lmap ad' L = lmap ad L := by
  unfold lmap
  apply List.map_congr_left
  intro q hq
  rw [cv_ag h (hL q hq)]
theorem smap_ag {n : Nat} {ad ad' : Nat → Nat} (h : ∀ o, o < n ∨ XO ≤ o → ad' o = ad o) {st : List PV} (hL : ∀ q ∈ st, okV n q) : st.map (cv ad') = st.map (cv ad) := by
  apply List.map_congr_left
  intro q hq
  rw [cv_ag h (hL q hq)]
theorem scat (ad : Nat → Nat) (st : List PV) : ((st.map (cv ad)).map fun v => v.category).sum = (st.map cat).sum := by
  rw [List.map_map]
  congr 1
  apply List.map_congr_left
  intro v _
  exact cat_cv ad v
theorem okM_mu {n : Nat} {R : RT} {M : MT} {o k : Nat} {v : Int} (h : okM n R M) (h1 : (SH o).1 = 21 → R64 v) (h2 : (SH o).1 ≠ 21 → R32 v) : okM n R (mu M o k v) := by
  refine ⟨fun o' ho' k' => ?_, h.2⟩
  unfold mu
  by_cases hc : o' = o ∧ k' = k
  · rw [if_pos hc, hc.1]
    exact ⟨h1, h2⟩
  · rw [if_neg hc]
    exact h.1 o' ho' k'
section PMEM
variable {G : GT} {J : MD} {k z pc : Nat} {L : LT} {st : List PV} {n : Nat} {R : RT} {M : MT} {Q : QT}
theorem wp_geti {o ci N i : Nat} {C : String} {T : u_T} (hd : decode J.2.1 pc = .ok (.getfield i, 3)) (f : Nat) (hs : SH o = (ci, N)) (hc : CL[ci]? = some (C, T, N)) (ho : o < n) (hf : f < N) (hr : isRf ci f = false) (hk : Cond.fieldLink J.1.cls i (T f).1 (T f).2.1 (T f).2.2.1 ∈ TB)
    (kk : Wp G J k z (pc + 3) L (pI (M o f) :: st) n R M Q) : Wp G J k z pc L (pR o :: st) n R M Q := by

  intro p e s m args below meth c cx ad0 n0 ad H locs ls X hl ok
  obtain ⟨x1, x2, x3, x4, x5, x6, x7, x8⟩ := id X
  have he := ws_get (G := G) (ad := ad) (R := R) (M := M) ho
  rw [cont_ob hs (cl_lt hc)] at he
  refine va_get cx.1 cx.2.1 cx.2.2.2.2.2.2.2.1 (cl_ok ci _ _ _ hc).1 cx.2.2.2.2.1 cx.2.2.2.2.2.2.2.2.1 x6 o he hc f hf (cx.2.2.2.2.2.2.2.1 _ hk) (fun _ h => h) (v := .int (Int32.ofInt (M o f))) ?_ hd (kk p e s m args below meth c cx ad0 n0 ad H locs ls X hl (okS_push (okS_pop ok).2 ((x5.1 o ho f).2 (by rw [hs]; have := cl_lt hc; show ci ≠ 21; omega))))
  rw [fld_get ad R M ci o hf]
  simp [fldv, hr]
theorem wp_getr {o ci N i : Nat} {C : String} {T : u_T} (hd : decode J.2.1 pc = .ok (.getfield i, 3)) (f : Nat) (hs : SH o = (ci, N)) (hc : CL[ci]? = some (C, T, N)) (ho : o < n) (hf : f < N) (hr : isRf ci f = true) {r : Nat} (hv : R o f = some r) (hk : Cond.fieldLink J.1.cls i (T f).1 (T f).2.1 (T f).2.2.1 ∈ TB)
    (kk : Wp G J k z (pc + 3) L (pR r :: st) n R M Q) : Wp G J k z pc L (pR o :: st) n R M Q := by
  intro p e s m args below meth c cx ad0 n0 ad H locs ls X hl ok
  obtain ⟨x1, x2, x3, x4, x5, x6, x7, x8⟩ := id X
  have he := ws_get (G := G) (ad := ad) (R := R) (M := M) ho
  rw [cont_ob hs (cl_lt hc)] at he
  refine va_get cx.1 cx.2.1 cx.2.2.2.2.2.2.2.1 (cl_ok ci _ _ _ hc).1 cx.2.2.2.2.1 cx.2.2.2.2.2.2.2.2.1 x6 o he hc f hf (cx.2.2.2.2.2.2.2.1 _ hk) (fun _ h => h) (v := .ref (ad r)) ?_ hd (kk p e s m args below meth c cx ad0 n0 ad H locs ls X hl (okS_push (okS_pop ok).2 (Or.inl (x5.2 o ho f r hv))))
  rw [fld_get ad R M ci o hf]
  simp [fldv, hr, hv, va_rf]
/-- behind a write of a number -/
theorem Mx_mu {n0 : Nat} {ad0 ad : Nat → Nat} {s : State} {H H1 : Heap} {locs locs1 : List Loc} {o f : Nat} {v : Int} (X : Mx G n0 ad0 ad n R M s H locs) (h1 : (SH o).1 = 21 → R64 v) (h2 : (SH o).1 ≠ 21 → R32 v) (hP : va_P G.2.1 CL (wsOf G ad n R (mu M o f v)) H1) (hD : va_D (AB G) (wsOf G ad n R (mu M o f v))) (hS : va_S (AB G) s.heap H1 locs1) : Mx G n0 ad0 ad n R (mu M o f v) s H1 locs1 := by
  obtain ⟨x1, x2, x3, x4, x5, x6, x7, x8⟩ := X
  exact ⟨x1, x2, x3, x4, okM_mu x5 h1 h2, hP, hD, hS⟩
theorem wp_puti {o ci N i : Nat} {C : String} {T : u_T} {v : Int} (hd : decode J.2.1 pc = .ok (.putfield i, 3)) (f : Nat) (hs : SH o = (ci, N)) (hc : CL[ci]? = some (C, T, N)) (ho : o < n) (hf : f < N) (hr : fyc ci f = .int ∨ (fyc ci f = .boolean ∧ (v = 0 ∨ v = 1))) (hfin : (T f).2.2.2 = false) (hk : Cond.fieldLink J.1.cls i (T f).1 (T f).2.1 (T f).2.2.1 ∈ TB)
    (kk : Wp G J k z (pc + 3) L st n R (mu M o f v) Q) : Wp G J k z pc L (pI v :: pR o :: st) n R M Q := by
  intro p e s m args below meth c cx ad0 n0 ad H locs ls X hl ok
  obtain ⟨x1, x2, x3, x4, x5, x6, x7, x8⟩ := id X
  have ov : R32 v := (okS_pop ok).1
  have ok2 := (okS_pop (okS_pop ok).2).2
  have he := ws_get (G := G) (ad := ad) (R := R) (M := M) ho
  rw [cont_ob hs (cl_lt hc)] at he
  obtain ⟨c1, c2, c3⟩ := cl_ok ci _ _ _ hc
  have hrf : isRf ci f = false := by
    rcases hr with h | h
    · simp [isRf, h]
    · simp [isRf, h.1]
  have hn : narrow (fyc ci f) (.int (Int32.ofInt v)) = .int (Int32.ofInt v) := by
    rcases hr with h | ⟨h, h2⟩
    · rw [h]; rfl
    · rw [h]
      rcases h2 with rfl | rfl <;> rfl
  have hfit : fits (fyc ci f) (.int (Int32.ofInt v)) = true := by
    rcases hr with h | ⟨h, h2⟩
    · rw [h]; rfl
    · rw [h]
      rcases h2 with rfl | rfl <;> rfl
  have hE : cont G ad R (mu M o f v) o = .inr (ci, ((List.range N).map (fldv ad R M ci o)).set f (.int (Int32.ofInt v))) := by
    rw [cont_ob hs (cl_lt hc)]
    congr 2
    apply List.ext_getElem?
    intro j
    by_cases hj : j = f
    · subst hj
      rw [List.getElem?_set_self (by simpa using hf), fld_get _ _ _ _ _ hf]
      simp [fldv, hrf, mu]
    · rw [List.getElem?_set_ne (Ne.symm hj)]
      by_cases hjN : j < N
      · rw [fld_get _ _ _ _ _ hjN, fld_get _ _ _ _ _ hjN]
        simp [fldv, mu, hj]
      · rw [List.getElem?_eq_none (by simpa using hjN), List.getElem?_eq_none (by simpa using hjN)]
  refine va_put cx.1 cx.2.1 cx.2.2.2.2.2.2.2.1 c1 (fyc ci) c3 c2 cx.2.2.2.2.1 cx.2.2.2.2.2.2.2.2.1 x6 x7 x8 o he hc f hf (cx.2.2.2.2.2.2.2.1 _ hk) (fun _ h => h) hfin (c3 f hf) (v := .int (Int32.ofInt v)) hn hfit (by simpa using hf) hd (fun H1 locs1 hP hD hS => ?_)
  rw [ws_set ho (fun _ _ _ => rfl) (fun o' k' h => by simp [mu, h]) hE] at hP hD
  have n21 : (SH o).1 ≠ 21 := by rw [hs]; have := cl_lt hc; show ci ≠ 21; omega
  exact kk p e s m args below meth c cx ad0 n0 ad H1 locs1 ls (Mx_mu X (fun h => absurd h n21) (fun _ => ov) hP hD hS) hl ok2
theorem wp_putr {o ci N i r : Nat} {C : String} {T : u_T} (hd : decode J.2.1 pc = .ok (.putfield i, 3)) (f : Nat) (hs : SH o = (ci, N)) (hc : CL[ci]? = some (C, T, N)) (ho : o < n) (hrn : r < n) (hf : f < N) (hr : isRf ci f = true) (hft : ∀ a : Nat, narrow (fyc ci f) (.ref a) = .ref a ∧ fits (fyc ci f) (.ref a) = true) (hfin : (T f).2.2.2 = true) (hin : J.1.name = "<init>") (hdc : (T f).1 = J.1.cls) (hk : Cond.fieldLink J.1.cls i (T f).1 (T f).2.1 (T f).2.2.1 ∈ TB)
    (kk : Wp G J k z (pc + 3) L st n (ru R o f (some r)) M Q) : Wp G J k z pc L (pR r :: pR o :: st) n R M Q := by
  intro p e s m args below meth c cx ad0 n0 ad H locs ls X hl ok
  obtain ⟨x1, x2, x3, x4, x5, x6, x7, x8⟩ := id X
  have ok2 := (okS_pop (okS_pop ok).2).2
  have he := ws_get (G := G) (ad := ad) (R := R) (M := M) ho
  rw [cont_ob hs (cl_lt hc)] at he
  obtain ⟨c1, c2, c3⟩ := cl_ok ci _ _ _ hc
  have hE : cont G ad (ru R o f (some r)) M o = .inr (ci, ((List.range N).map (fldv ad R M ci o)).set f (.ref (ad r))) := by
    rw [cont_ob hs (cl_lt hc)]
    congr 2
    apply List.ext_getElem?
    intro j
    by_cases hj : j = f
    · subst hj
      rw [List.getElem?_set_self (by simpa using hf), fld_get _ _ _ _ _ hf]
      simp [fldv, hr, ru, va_rf]
    · rw [List.getElem?_set_ne (Ne.symm hj)]
      by_cases hjN : j < N
      · rw [fld_get _ _ _ _ _ hjN, fld_get _ _ _ _ _ hjN]
        simp [fldv, ru, hj]
      · rw [List.getElem?_eq_none (by simpa using hjN), List.getElem?_eq_none (by simpa using hjN)]
  refine va_putF cx.1 cx.2.1 cx.2.2.2.2.2.2.2.1 c1 (fyc ci) c3 c2 cx.2.2.2.2.1 cx.2.2.2.2.2.2.2.2.1 x6 x7 x8 o he hc f hf (cx.2.2.2.2.2.2.2.1 _ hk) (fun _ h => h) hfin (cx.2.2.2.2.2.2.1.trans hin) hdc (c3 f hf) (v := .ref (ad r)) (hft _).1 (hft _).2 (by simpa using hf) hd (fun H1 locs1 hP hD hS => ?_)
  rw [ws_set ho (fun o' k' h => by simp [ru, h]) (fun _ _ _ => rfl) hE] at hP hD
  refine kk p e s m args below meth c cx ad0 n0 ad H1 locs1 ls ⟨x1, x2, x3, x4, ⟨x5.1, fun o' ho' k' r' h => ?_⟩, hP, hD, hS⟩ hl ok2
  unfold ru at h
  by_cases hc2 : o' = o ∧ k' = f
  · rw [if_pos hc2] at h
    cases h
    exact hrn
  · rw [if_neg hc2] at h
    exact x5.2 o' ho' k' r' h
theorem wp_iald {o N : Nat} {i : Int} (hd : decode J.2.1 pc = .ok (.iaload, 1)) (hs : SH o = (20, N)) (ho : o < n) (h0 : 0 ≤ i) (h1 : i < (N : Int)) (kk : Wp G J k z (pc + 1) L (pI (M o i.toNat) :: st) n R M Q) : Wp G J k z pc L (pI i :: pR o :: st) n R M Q := by
  intro p e s m args below meth c cx ad0 n0 ad H locs ls X hl ok
  obtain ⟨x1, x2, x3, x4, x5, x6, x7, x8⟩ := id X
  have he := ws_get (G := G) (ad := ad) (R := R) (M := M) ho
  rw [cont_i hs] at he
  obtain ⟨g1, g2⟩ := vin (okS_pop ok).1 h0 h1
  refine va_iald cx.1 cx.2.1 cx.2.2.2.2.2.2.2.2.1 x6 o 0 he rfl g1 hd ?_
  rw [g2]
  exact kk p e s m args below meth c cx ad0 n0 ad H locs ls X hl (okS_push (okS_pop (okS_pop ok).2).2 ((x5.1 o ho _).2 (by rw [hs]; exact (by decide : (20 : Nat) ≠ 21))))
theorem wp_lald {o N : Nat} {i : Int} (hd : decode J.2.1 pc = .ok (.laload, 1)) (hs : SH o = (21, N)) (ho : o < n) (h0 : 0 ≤ i) (h1 : i < (N : Int)) (kk : Wp G J k z (pc + 1) L (pL (M o i.toNat) :: st) n R M Q) : Wp G J k z pc L (pI i :: pR o :: st) n R M Q := by
  intro p e s m args below meth c cx ad0 n0 ad H locs ls X hl ok
  obtain ⟨x1, x2, x3, x4, x5, x6, x7, x8⟩ := id X
  have he := ws_get (G := G) (ad := ad) (R := R) (M := M) ho
  rw [cont_l hs] at he
  obtain ⟨g1, g2⟩ := vin (okS_pop ok).1 h0 h1
  refine va_lald cx.1 cx.2.1 cx.2.2.2.2.2.2.2.2.1 x6 o 1 he rfl g1 hd ?_
  rw [g2]
  exact kk p e s m args below meth c cx ad0 n0 ad H locs ls X hl (okS_push (okS_pop (okS_pop ok).2).2 ((x5.1 o ho _).1 (by rw [hs])))
theorem wp_aald {o N t r : Nat} {C : String} {i : Int} (hd : decode J.2.1 pc = .ok (.aaload, 1)) (hs : SH o = (22 + t, N)) (ht : (TYS G)[2 + t]? = some (G.2.2.1 (2 + t), .object C)) (ho : o < n) (h0 : 0 ≤ i) (h1 : i < (N : Int)) (hv : R o i.toNat = some r) (kk : Wp G J k z (pc + 1) L (pR r :: st) n R M Q) : Wp G J k z pc L (pI i :: pR o :: st) n R M Q := by
  intro p e s m args below meth c cx ad0 n0 ad H locs ls X hl ok
  obtain ⟨x1, x2, x3, x4, x5, x6, x7, x8⟩ := id X
  have he := ws_get (G := G) (ad := ad) (R := R) (M := M) ho
  rw [cont_r hs] at he
  obtain ⟨g1, g2⟩ := vin (okS_pop ok).1 h0 h1
  refine va_aldq cx.1 cx.2.1 cx.2.2.2.2.2.2.2.2.1 x6 o (2 + t) he ht g1 hd ?_
  rw [g2, hv]
  exact kk p e s m args below meth c cx ad0 n0 ad H locs ls X hl (okS_push (okS_pop (okS_pop ok).2).2 (Or.inl (x5.2 o ho _ _ hv)))
theorem wp_iast {o N : Nat} {i v : Int} (hd : decode J.2.1 pc = .ok (.iastore, 1)) (hs : SH o = (20, N)) (ho : o < n) (h0 : 0 ≤ i) (h1 : i < (N : Int)) (kk : Wp G J k z (pc + 1) L st n R (mu M o i.toNat v) Q) : Wp G J k z pc L (pI v :: pI i :: pR o :: st) n R M Q := by
  intro p e s m args below meth c cx ad0 n0 ad H locs ls X hl ok
  obtain ⟨x1, x2, x3, x4, x5, x6, x7, x8⟩ := id X
  have he := ws_get (G := G) (ad := ad) (R := R) (M := M) ho
  rw [cont_i hs] at he
  have ov : R32 v := (okS_pop ok).1
  obtain ⟨g1, g2⟩ := vin (okS_pop (okS_pop ok).2).1 h0 h1
  refine va_iast cx.1 cx.2.1 cx.2.2.2.2.2.2.2.2.1 x6 x7 x8 o 0 he rfl g1 hd (fun H1 locs1 hP hD hS => ?_)
  have hE : cont G ad R (mu M o i.toNat v) o = .inl (G.2.2.1 0, N, .inl (upd (fun k => Int32.ofInt (M o k)) (Int32.ofInt i).toNatClampNeg (Int32.ofInt v))) := by
    rw [cont_i hs, g2]
    congr 4
    funext j
    by_cases hj : j = i.toNat <;> simp [mu, upd, hj]
  rw [ws_set ho (fun _ _ _ => rfl) (fun o' k' h => by simp [mu, h]) hE] at hP hD
  exact kk p e s m args below meth c cx ad0 n0 ad H1 locs1 ls (Mx_mu X (fun h => absurd h (by rw [hs]; exact (by decide : ¬ (20 : Nat) = 21))) (fun _ => ov) hP hD hS) hl (okS_pop (okS_pop (okS_pop ok).2).2).2
theorem wp_last {o N : Nat} {i v : Int} (hd : decode J.2.1 pc = .ok (.lastore, 1)) (hs : SH o = (21, N)) (ho : o < n) (h0 : 0 ≤ i) (h1 : i < (N : Int)) (kk : Wp G J k z (pc + 1) L st n R (mu M o i.toNat v) Q) : Wp G J k z pc L (pL v :: pI i :: pR o :: st) n R M Q := by
  intro p e s m args below meth c cx ad0 n0 ad H locs ls X hl ok
  obtain ⟨x1, x2, x3, x4, x5, x6, x7, x8⟩ := id X
  have he := ws_get (G := G) (ad := ad) (R := R) (M := M) ho
  rw [cont_l hs] at he
  have ov : R64 v := (okS_pop ok).1
  obtain ⟨g1, g2⟩ := vin (okS_pop (okS_pop ok).2).1 h0 h1
  refine va_last cx.1 cx.2.1 cx.2.2.2.2.2.2.2.2.1 x6 x7 x8 o 1 he rfl g1 hd (fun H1 locs1 hP hD hS => ?_)
  have hE : cont G ad R (mu M o i.toNat v) o = .inl (G.2.2.1 1, N, .inr (.inl (vp_updL (fun k => Int64.ofInt (M o k)) (Int32.ofInt i).toNatClampNeg (Int64.ofInt v)))) := by
    rw [cont_l hs, g2]
    congr 5
    funext j
    by_cases hj : j = i.toNat <;> simp [mu, vp_updL, hj]
  rw [ws_set ho (fun _ _ _ => rfl) (fun o' k' h => by simp [mu, h]) hE] at hP hD
  exact kk p e s m args below meth c cx ad0 n0 ad H1 locs1 ls (Mx_mu X (fun _ => ov) (fun h => absurd (by rw [hs]) h) hP hD hS) hl (okS_pop (okS_pop (okS_pop ok).2).2).2
theorem wp_aast {o N t r ci Nr : Nat} {C : String} {T : u_T} {i : Int} (hd : decode J.2.1 pc = .ok (.aastore, 1)) (hs : SH o = (22 + t, N)) (ht : (TYS G)[2 + t]? = some (G.2.2.1 (2 + t), .object C)) (hrs : SH r = (ci, Nr)) (hc : CL[ci]? = some (C, T, Nr)) (ho : o < n) (hrn : r < n) (h0 : 0 ≤ i) (h1 : i < (N : Int)) (kk : Wp G J k z (pc + 1) L st n (ru R o i.toNat (some r)) M Q) : Wp G J k z pc L (pR r :: pI i :: pR o :: st) n R M Q := by
  intro p e s m args below meth c cx ad0 n0 ad H locs ls X hl ok
  obtain ⟨x1, x2, x3, x4, x5, x6, x7, x8⟩ := id X
  have he := ws_get (G := G) (ad := ad) (R := R) (M := M) ho
  rw [cont_r hs] at he
  have hv := ws_get (G := G) (ad := ad) (R := R) (M := M) hrn
  rw [cont_ob hrs (cl_lt hc)] at hv
  obtain ⟨g1, g2⟩ := vin (okS_pop (okS_pop ok).2).1 h0 h1
  refine va_astq cx.1 cx.2.1 cx.2.2.2.2.2.2.2.2.1 x6 x7 x8 o (2 + t) r ci he (r := (C, T, Nr)) ht hv hc g1 hd (fun H1 locs1 hP hD hS => ?_)
  have hE : cont G ad (ru R o i.toNat (some r)) M o = .inl (G.2.2.1 (2 + t), N, .inr (.inr (.inr (.inr (va_up (fun k => (R o k).map ad) (Int32.ofInt i).toNatClampNeg (some (ad r))))))) := by
    rw [cont_r hs, g2]
    congr 7
    funext j
    by_cases hj : j = i.toNat <;> simp [ru, va_up, hj]
  rw [ws_set ho (fun o' k' h => by simp [ru, h]) (fun _ _ _ => rfl) hE] at hP hD
  refine kk p e s m args below meth c cx ad0 n0 ad H1 locs1 ls ⟨x1, x2, x3, x4, ⟨x5.1, fun o' ho' k' r' h => ?_⟩, hP, hD, hS⟩ hl (okS_pop (okS_pop (okS_pop ok).2).2).2
  unfold ru at h
  by_cases hc2 : o' = o ∧ k' = i.toNat
  · rw [if_pos hc2] at h
    cases h
    exact hrn
  · rw [if_neg hc2] at h
    exact x5.2 o' ho' k' r' h
theorem wp_alen {o N : Nat} (hd : decode J.2.1 pc = .ok (.arraylength, 1)) (hs : SH o = (20, N)) (ho : o < n) (hN : R32 (N : Int)) (kk : Wp G J k z (pc + 1) L (pI (N : Int) :: st) n R M Q) : Wp G J k z pc L (pR o :: st) n R M Q := by
  intro p e s m args below meth c cx ad0 n0 ad H locs ls X hl ok
  obtain ⟨x1, x2, x3, x4, x5, x6, x7, x8⟩ := id X
  have he := ws_get (G := G) (ad := ad) (R := R) (M := M) ho
  rw [cont_i hs] at he
  exact va_alen cx.1 cx.2.1 cx.2.2.2.2.2.2.2.2.1 x6 o 0 he rfl rfl hd (kk p e s m args below meth c cx ad0 n0 ad H locs ls X hl (okS_push (okS_pop ok).2 hN))
theorem wp_sld {i : Int} (hd : decode J.2.1 pc = .ok (.iaload, 1)) (h0 : 0 ≤ i) (h1 : i < (G.2.2.2.2.2.1 : Int)) (kk : Wp G J k z (pc + 1) L (pI (G.2.2.2.2.2.2 i.toNat).toInt :: st) n R M Q) : Wp G J k z pc L (pI i :: pR (XO + 1) :: st) n R M Q := by
  intro p e s m args below meth c cx ad0 n0 ad H locs ls X hl ok
  obtain ⟨x1, x2, x3, x4, x5, x6, x7, x8⟩ := id X
  obtain ⟨g1, g2⟩ := vin (okS_pop ok).1 h0 h1
  obtain ⟨⟨e1, e2⟩, -⟩ := cx.2.2.2.2.2.2.2.2.2.1
  show W p G.1 e (rmOf J) s m args below meth c H locs k z _ (F0 m pc ls (.int (Int32.ofInt i) :: .ref (ad (XO + 1)) :: st.map (cv ad)))
  rw [x4 1]
  refine va_sld cx.1 cx.2.1 e1 (Nat.lt_of_lt_of_le e2 cx.2.2.2.2.2.2.2.2.2.2) (Nat.not_le.mpr e2) x8 g1 hd ?_
  rw [g2, ← o32 (G.2.2.2.2.2.2 i.toNat)]
  exact kk p e s m args below meth c cx ad0 n0 ad H locs ls X hl (okS_push (okS_pop (okS_pop ok).2).2 (r32 _))
theorem wp_slen (hd : decode J.2.1 pc = .ok (.arraylength, 1)) (hL : R32 (G.2.2.2.2.2.1 : Int)) (kk : Wp G J k z (pc + 1) L (pI (G.2.2.2.2.2.1 : Int) :: st) n R M Q) : Wp G J k z pc L (pR (XO + 1) :: st) n R M Q := by
  intro p e s m args below meth c cx ad0 n0 ad H locs ls X hl ok
  obtain ⟨x1, x2, x3, x4, x5, x6, x7, x8⟩ := id X
  obtain ⟨⟨e1, e2⟩, -⟩ := cx.2.2.2.2.2.2.2.2.2.1
  show W p G.1 e (rmOf J) s m args below meth c H locs k z _ (F0 m pc ls (.ref (ad (XO + 1)) :: st.map (cv ad)))
  rw [x4 1]
  exact va_slen cx.1 cx.2.1 e1 (Nat.lt_of_lt_of_le e2 cx.2.2.2.2.2.2.2.2.2.2) (Nat.not_le.mpr e2) x8 hd (kk p e s m args below meth c cx ad0 n0 ad H locs ls X hl (okS_push (okS_pop ok).2 hL))

end PMEM
