/-! THE CLAIM OUT OF ONE WALK OF THE LAW'S BODY. Your part is whole_start (and what it stands on); all else here is the same for every law, but numbers. -/
def R_law : String := "TuneLoansLaw"
def lw_P (b : Addr) (xs : List Int32) (args : Array Value) (s : State) : Prop := args = #[.ref b] ∧ s.IntsAt b xs ∧ xs.length ≤ 448 ∧ (Jvm.Cond.and given_1 narrow_1).before args s = true
def lw_Q (_ : Array Value) (s : State) (o : Outcome) (t : State) : Prop := o = .returned (some (.int 1)) ∧ Framed s o t [] 600000 7302250
def lw_Z (below : List Frame) (a : Array Value) (s : State) : State → Prop := fun t => ∃ o, t.status = .running ∧ Ended t below o ∧ lw_Q a s o t
/-- what holds at the law's entry: the machine, the code, the tables' words (any of lw_tbl by 'hts w (by decide +kernel)'), the script of L ints xs at the cell b, what the Statement gives of the start (any of its parts by flat_of_before) -/
def lw_At (p : Program) (s : State) (m : MethodId) (meth : Method) (c : Code) (b L : Nat) (xs : Nat → Int32) : Prop :=
  p.tables.exec = Jvm.exec ∧ c.code = code ∧ meth.sig.returnType = ret ∧ c.maxLocals = 4 ∧ s.vm.findClass R_law = some m.cls ∧ (∀ w ∈ lw_tbl, w.before #[Value.ref b] s = true) ∧ va_X b L xs s s.heap ∧ b < s.heap.size ∧ meth.locks = false ∧ (Jvm.Cond.and given_1 narrow_1).before #[Value.ref b] s = true ∧ meth.name = "law"
theorem lw_drop {s s' : State} {J : List Loc} {k n : Nat} (h : s.sameButNew s' J k n) (hJ : ∀ x ∈ J, s.heap.size ≤ x.base) : s.sameButNew s' [] k n := by
  obtain ⟨h1, h2, h3, h4, h5, h6⟩ := h
  refine ⟨h1, h2, h3, h4, h5, fun a c hc => ?_⟩
  obtain ⟨c', hc', hce, hsz, hout⟩ := h6 a c hc
  refine ⟨c', hc', hce, hsz, fun i _ => hout i (fun hmem => ?_)⟩
  have hb : s.heap.size ≤ a := hJ _ hmem
  exact absurd (Array.getElem?_eq_some_iff.mp hc).1 (Nat.not_lt.mpr hb)
/-- the law's calls with the nest's check, as the tables have them -/
def nwOf (w : Cond) : Option (String × Nat × MethodName × String) := match w with
  | .methodLinkNest a b c d => some (a, b, c, d)
  | _ => none
theorem nw_sub : ∀ q ∈ NWL, q ∈ lw_tbl.filterMap nwOf := by decide +kernel
theorem nw_mem : ∀ q ∈ NWL, Cond.methodLinkNest q.1 q.2.1 q.2.2.1 q.2.2.2 ∈ lw_tbl := by
  intro q hq
  obtain ⟨w, hw, he⟩ := List.mem_filterMap.mp (nw_sub q hq)
  unfold nwOf at he
  split at he
  · cases he
    exact hw
  · cases he
theorem lw_cls {args : Array Value} {s : State} (hts : ∀ w ∈ TB, w.before args s = true) : ∀ k : Nat, ∃ z : ClassId × (Nat → Nat), ∀ q : vw_C, CL[k]? = some q → u_Kn s q.1 q.2.1 q.2.2 z.1 z.2 := by
  intro k
  match k with
  | 0 =>
    obtain ⟨a, b, h⟩ := u_known hts cw_tl (hts _ wx_tl)
    exact ⟨(a, b), fun q hq => by cases hq; exact h⟩
  | 1 =>
    obtain ⟨a, b, h⟩ := u_known hts cw_bk (hts _ wx_bk)
    exact ⟨(a, b), fun q hq => by cases hq; exact h⟩
  | 2 =>
    obtain ⟨a, b, h⟩ := u_known hts cw_tx (hts _ wx_tx)
    exact ⟨(a, b), fun q hq => by cases hq; exact h⟩
  | 3 =>
    obtain ⟨a, b, h⟩ := u_known hts cw_tu (hts _ wx_tu)
    exact ⟨(a, b), fun q hq => by cases hq; exact h⟩
  | 4 =>
    obtain ⟨a, b, h⟩ := u_known hts cw_bo (hts _ wx_bo)
    exact ⟨(a, b), fun q hq => by cases hq; exact h⟩
  | 5 =>
    obtain ⟨a, b, h⟩ := u_known hts cw_lo (hts _ wx_lo)
    exact ⟨(a, b), fun q hq => by cases hq; exact h⟩
  | 6 =>
    obtain ⟨a, b, h⟩ := u_known hts cw_ye (hts _ wx_ye)
    exact ⟨(a, b), fun q hq => by cases hq; exact h⟩
  | 7 =>
    obtain ⟨a, b, h⟩ := u_known hts cw_tr (hts _ wx_tr)
    exact ⟨(a, b), fun q hq => by cases hq; exact h⟩
  | 8 =>
    obtain ⟨a, b, h⟩ := u_known hts cw_li (hts _ wx_li)
    exact ⟨(a, b), fun q hq => by cases hq; exact h⟩
  | 9 =>
    obtain ⟨a, b, h⟩ := u_known hts cw_ch (hts _ wx_ch)
    exact ⟨(a, b), fun q hq => by cases hq; exact h⟩
  | 10 =>
    obtain ⟨a, b, h⟩ := u_known hts cw_sh (hts _ wx_sh)
    exact ⟨(a, b), fun q hq => by cases hq; exact h⟩
  | 11 =>
    obtain ⟨a, b, h⟩ := u_known hts cw_mo (hts _ wx_mo)
    exact ⟨(a, b), fun q hq => by cases hq; exact h⟩
  | k + 12 => exact ⟨(0, fun _ => 0), fun q hq => by simp [CL] at hq⟩
def lw_ty : List FieldType := [.int, .long, .object "TuneLoans$Text", .object "TuneLoans$Tune", .object "TuneLoans$Borrower", .object "TuneLoans$Loan", .object "TuneLoans$Sheet"]
theorem lw_arO {args : Array Value} {s : State} {C : String} (h : (Cond.arrayOver (.object C)).before args s = true) : ∃ c : ClassId, ∀ ty : FieldType, some (FieldType.object C) = some ty → ArrOfT s c ty ∧ va_RA s c ty := by
  obtain ⟨comp, c, k, f1, f2, f3, f4, f5⟩ := Cond.arrayOver_spec (args := args) (first := s) (o := none) (s := s) (idx := []) h
  refine ⟨c, fun ty e => ?_⟩
  cases e
  exact ⟨fun N z => ⟨(fun k h => by cases h), k, f3, comp, f4⟩, k, comp, f3, f4, f1, f5⟩
theorem lw_ao0 : Cond.arrayOver (.object "TuneLoans$Text") ∈ lw_tbl := List.mem_of_getElem? (i := 95) (by decide +kernel)
theorem lw_ao1 : Cond.arrayOver (.object "TuneLoans$Tune") ∈ lw_tbl := List.mem_of_getElem? (i := 97) (by decide +kernel)
theorem lw_ao2 : Cond.arrayOver (.object "TuneLoans$Borrower") ∈ lw_tbl := List.mem_of_getElem? (i := 99) (by decide +kernel)
theorem lw_ao3 : Cond.arrayOver (.object "TuneLoans$Loan") ∈ lw_tbl := List.mem_of_getElem? (i := 101) (by decide +kernel)
theorem lw_ao4 : Cond.arrayOver (.object "TuneLoans$Sheet") ∈ lw_tbl := List.mem_of_getElem? (i := 323) (by decide +kernel)
theorem lw_arrs {args : Array Value} {s : State} (hts : ∀ w ∈ lw_tbl, w.before args s = true) (htb : ∀ w ∈ TB, w.before args s = true) : ∀ k : Nat, ∃ c : ClassId, ∀ ty : FieldType, lw_ty[k]? = some ty → ArrOfT s c ty ∧ va_RA s c ty := by
  intro k
  match k with
  | 0 =>
    obtain ⟨c, k, comp, f1, f2, f3⟩ := Cond.arrayClass_spec (args := args) (first := s) (o := none) (s := s) (idx := []) (htb _ w_arr_int)
    exact ⟨c, fun ty e => by cases e; exact ⟨fun N z => ⟨(fun k h => by cases h), k, f2, comp, f3⟩, f1⟩⟩
  | 1 =>
    obtain ⟨c, k, comp, f1, f2, f3⟩ := Cond.arrayClass_spec (args := args) (first := s) (o := none) (s := s) (idx := []) (htb _ w_arr_long)
    exact ⟨c, fun ty e => by cases e; exact ⟨fun N z => ⟨(fun k h => by cases h), k, f2, comp, f3⟩, f1⟩⟩
  | 2 => exact lw_arO (hts _ lw_ao0)
  | 3 => exact lw_arO (hts _ lw_ao1)
  | 4 => exact lw_arO (hts _ lw_ao2)
  | 5 => exact lw_arO (hts _ lw_ao3)
  | 6 => exact lw_arO (hts _ lw_ao4)
  | k + 7 => exact ⟨0, fun ty e => by simp [lw_ty] at e⟩
def lw_ext (a b c : Nat) : Nat → Nat := fun i => match i with
  | 0 => a
  | 1 => b
  | _ => c
theorem lw_wstr : Cond.stringRef "TuneLoans$Book" 73 "+-/" ∈ lw_tbl := List.mem_of_getElem? (i := 402) (by decide +kernel)
theorem lw_wcmp : Cond.laysStatic "java/lang/String" "COMPACT_STRINGS" "Z" ∈ lw_tbl := List.mem_of_getElem? (i := 416) (by decide +kernel)
theorem lw_str {args : Array Value} {s : State} (hgv : (Jvm.Cond.and given_1 narrow_1).before args s = true) : ∃ (a c : Nat), vk_S 1 [3] [[43, 45, 47]] (fun _ => a) (fun _ => c) (fun q => s.heap.size ≤ q) s s.heap ∧ (Term.string "TuneLoans$Book" 73).eval args s none [] s = some (.ref a) := by
  have hs := flat_of_before _ hgv
  have q1 : (Cond.exactly (Term.string "TuneLoans$Book" 73) "java/lang/String").before args s = true := hs _ (by decide +kernel)
  have q2 : (Cond.eq (.field (Term.string "TuneLoans$Book" 73) "java/lang/String" "coder" "B") (.int 0)).before args s = true := hs _ (by decide +kernel)
  have q3 : (Cond.arrayOf (.field (Term.string "TuneLoans$Book" 73) "java/lang/String" "value" "[B") .byte).before args s = true := hs _ (by decide +kernel)
  have q4 : (Cond.eq (.length (.field (Term.string "TuneLoans$Book" 73) "java/lang/String" "value" "[B")) (.int 3)).before args s = true := hs _ (by decide +kernel)
  have e0 : (Cond.eq (.elem (.field (Term.string "TuneLoans$Book" 73) "java/lang/String" "value" "[B") (.int 0)) (.int 43)).before args s = true := hs _ (by decide +kernel)
  have e1 : (Cond.eq (.elem (.field (Term.string "TuneLoans$Book" 73) "java/lang/String" "value" "[B") (.int 1)) (.int 45)).before args s = true := hs _ (by decide +kernel)
  have e2 : (Cond.eq (.elem (.field (Term.string "TuneLoans$Book" 73) "java/lang/String" "value" "[B") (.int 2)) (.int 47)).before args s = true := hs _ (by decide +kernel)
  obtain ⟨adK, adV, hS, hev⟩ := vk_Sof (args := args) (s := s) (N := 1) (tm := fun _ => Term.string "TuneLoans$Book" 73) (len := [3]) (byt := [[43, 45, 47]]) (A := fun q => s.heap.size ≤ q)
    (fun i hi => by match i, hi with | 0, _ => exact Nat.lt_of_lt_of_le (by decide : 3 < 4) (by decide))
    (fun i hi => q1) (fun i hi => q2) (fun i hi => q3)
    (fun i hi => by match i, hi with | 0, _ => exact q4)
    (fun i hi j hj => by
      match i, hi with
      | 0, _ =>
        match j, hj with
        | 0, _ => exact e0
        | 1, _ => exact e1
        | 2, _ => exact e2)
    (fun i j hi hj hij => absurd (show i = j by omega) hij) (fun a ha h => absurd ha (Nat.not_lt.mpr h))
  refine ⟨adK 0, adV 0, ⟨fun i hi => ?_, fun i j hi hj _ => by omega⟩, hev 0 (by decide)⟩
  match i, hi with
  | 0, _ => exact hS.1 0 (by decide)
theorem lw_cmp {args : Array Value} {s : State} (hts : ∀ w ∈ lw_tbl, w.before args s = true) (htb : ∀ w ∈ TB, w.before args s = true) (hgv : (Jvm.Cond.and given_1 narrow_1).before args s = true) : va_Z "java/lang/String" "COMPACT_STRINGS" "Z" (.int 1) (fun q => s.heap.size ≤ q) s s.heap := by
  have hs := flat_of_before _ hgv
  have q1 : (Cond.eq (.static "java/lang/String" "COMPACT_STRINGS" "Z") (.int 1)).before args s = true := hs _ (by decide +kernel)
  exact va_Zof (hts _ lw_wcmp) (htb _ wi_js) (va_eqt q1) (fun a ha h => absurd ha (Nat.not_lt.mpr h))
/-- from the entry, for every script of at most 448 ints, the law comes to its end with true -/
theorem whole_start {p : Program} {e : Env} {s : State} {m : MethodId} {below : List Frame} {meth : Method} {c : Code} (l : Launch) (hflags : l.flags = flags0) {b L : Nat} {xs : Nat → Int32} (hL : L ≤ 448) (C0 : lw_At p s m meth c b L xs) : W p l e room_1 s m #[Value.ref b] below meth c s.heap [] 0 0 (lw_Z below #[Value.ref b] s) (entryFrame m ([Value.ref b] : List Value).toArray 4) := by
  obtain ⟨hx, hcode, hret, hml, hown, hts, hX, hbl, hlocks, hgv, hname⟩ := C0
  have htb : ∀ w ∈ TB, w.before #[Value.ref b] s = true := fun w hw => hts w (List.mem_filter.mp hw).1
  obtain ⟨z, hz⟩ := Classical.axiomOfChoice (lw_cls htb)
  obtain ⟨ac, hac⟩ := Classical.axiomOfChoice (lw_arrs hts htb)
  obtain ⟨sa, sv, hS, hev⟩ := lw_str hgv
  have hZ := lw_cmp hts htb hgv
  have key := @lw_body (l, (fun k => (z k).1, fun k => (z k).2), ac, lw_ext sa b sv, s.heap.size, L, xs) hL (fun r _ _ _ => r = some (pI 1)) (fun _ => rfl)
  have hK : va_K (fun k => (z k).1, fun k => (z k).2) CL (TYS (l, (fun k => (z k).1, fun k => (z k).2), ac, lw_ext sa b sv, s.heap.size, L, xs)) s := by
    refine ⟨fun k q hq => hz k q hq, fun k q hq => ?_⟩
    match k, hq with
    | 0, hq => cases hq; exact hac 0 _ rfl
    | 1, hq => cases hq; exact hac 1 _ rfl
    | 2, hq => cases hq; exact hac 2 _ rfl
    | 3, hq => cases hq; exact hac 3 _ rfl
    | 4, hq => cases hq; exact hac 4 _ rfl
    | 5, hq => cases hq; exact hac 5 _ rfl
    | 6, hq => cases hq; exact hac 6 _ rfl
    | k + 7, hq => simp [TYS] at hq
  have hE : Ext (l, (fun k => (z k).1, fun k => (z k).2), ac, lw_ext sa b sv, s.heap.size, L, xs) s :=
    ⟨⟨hX, hbl⟩, ⟨va_AO.of (hts _ lw_ao0), va_AO.of (hts _ lw_ao1), va_AO.of (hts _ lw_ao2), va_AO.of (hts _ lw_ao3), va_AO.of (hts _ lw_ao4)⟩, fun q hq => va_Nw.of rfl (hts _ (nw_mem q hq)), ⟨hS, hZ⟩, vk_R.of (hts _ lw_wstr) hev⟩
  have hl := lv_entry (([pR 1001] : List PV).map (cv (fun o => lw_ext sa b sv (o - XO)))) (n := 4) (by rw [sl_len]; decide)
  have hcv : ([pR 1001] : List PV).map (cv (fun o => lw_ext sa b sv (o - XO))) = [Value.ref b] := rfl
  rw [hcv] at hl
  rw [lg_entry_eq]
  generalize (lg_sl [Value.ref b] ++ List.replicate (4 - (lg_sl [Value.ref b]).length) Slot.unset).toArray = ls at hl ⊢
  have hW := key p e s m #[Value.ref b] below meth c ⟨hx, hcode, hret, hml, hown, hlocks, hname, htb, hK, hE, Nat.le_refl _⟩
    (fun o => lw_ext sa b sv (o - XO)) 0 (fun o => lw_ext sa b sv (o - XO)) s.heap [] ls
    ⟨Nat.le_refl _, Nat.zero_le _, fun _ _ => rfl, fun i => by simp [XO], ⟨fun o ho => absurd ho (Nat.not_lt_zero o), fun o ho => absurd ho (Nat.not_lt_zero o)⟩, fun k q h => (by cases h), ⟨fun i j p q h => (by cases h), fun k q h => (by cases h)⟩, va_S.rf⟩
    hl ⟨fun q hq => by
      rcases List.mem_cons.mp hq with rfl | hq
      · exact Or.inr (by decide)
      · exact absurd hq List.not_mem_nil, fun v hv => absurd hv List.not_mem_nil⟩
  intro T hT X
  obtain ⟨t, ht, o, b1, b2, ⟨⟨r, ad', n', R', M', c1, c2, -⟩, -⟩, Lc, ⟨f1, f2, f3⟩, hb⟩ := hW T hT X
  refine ⟨t, ht, o, b1, b2, ?_, f1, f2, lw_drop f3 hb⟩
  rw [c1, c2]
  rfl
set_option maxHeartbeats 4000000 in
theorem lw_walk (l : Launch) (hflags : l.flags = flags0) (b : Addr) (xs : List Int32) : MetFree l x (headSpec (Jvm.Cond.code x code maxLocals ret :: tables_1) room_1) (lw_P b xs) (fun _ _ _ _ _ => True) lw_Q := by
  refine MetFree.of_bodyS (code := code) (maxLocals := maxLocals) (ret := ret) (by decide) ?_ ?_
  · intro args s m h hn
    obtain ⟨meth, c, h1, h2, h3, h4, h5, h6, -, -⟩ := Cond.code_spec hn (atoms_spec (ws := Jvm.Cond.code x code maxLocals ret :: tables_1) h _ List.mem_cons_self)
    exact ⟨meth, c, h1, h2, h3, h4, h5, h6⟩
  · intro p e s m args below meth c s₁ B hml0 hP _
    obtain ⟨rfl, hx, hbd, hgv⟩ := hP
    obtain ⟨scr, harrAt, hlist, hof, hsmall⟩ := hx
    obtain ⟨hcb, hkn, -, -⟩ := State.arrayAt?_spec harrAt
    have hown : s.vm.findClass R_law = some m.cls := findClass_of_methodNamed B.named
    have hts0 : ∀ c ∈ (Jvm.Cond.code x code maxLocals ret :: tables_1), c.before #[Value.ref b] s = true := atoms_spec (ws := Jvm.Cond.code x code maxLocals ret :: tables_1) B.pre
    have hts : ∀ w ∈ lw_tbl, w.before #[Value.ref b] s = true := k2_hts_sels lw_privs (fun w hw => hts0 w (List.mem_cons_of_mem _ hw)) lw_privs_ok
    have hml : c.maxLocals = 4 := B.maxLocals_eq (hts0 _ List.mem_cons_self)
    have X₀ : Stand p l e room_1 s m #[Value.ref b] below meth c s₁ [] 0 0 := Stand.of_body B
    have hh0 : s₁.heap = s.heap := by rw [B.state]; rfl
    have hsz : scr.slots.size = xs.length := by rw [← Array.length_toList, hlist, List.length_map]
    have hval : ∀ j : Nat, j < xs.length → scr.slots[j]? = some (.int (xs.getD j 0)) := fun j hj => by
      rw [← Array.getElem?_toList, hlist]
      simp [hj]
    have hbl : b < s.heap.size := (Array.getElem?_eq_some_iff.mp hcb).1
    have hX : va_X b xs.length (fun j => xs.getD j 0) s s.heap := ⟨scr, hcb, hof, hkn, hsz, hval⟩
    have K : W p l e room_1 s m #[Value.ref b] below meth c s₁.heap [] 0 0 (lw_Z below #[Value.ref b] s) (entryFrame m ([Value.ref b] : List Value).toArray 4) := by
      rw [hh0]
      exact whole_start l hflags hbd ⟨B.exec, B.bytes, B.returns, hml, hown, hts, hX, hbl, B.notSynchronized, hgv, (name_of_methodNamed B.named B.method).1⟩
    obtain ⟨t, a1, o, b1, b2, b3⟩ := K s₁ rfl X₀
    exact ⟨t, o, a1, b1, b2, b3⟩
theorem lw_pre_spec {args : Array Value} {s : State} (h : (Jvm.Cond.and given_1 narrow_1).before args s = true) (hr : rest_1_c.before args s = true) : ∃ (b : Addr) (xs : List Int32), lw_P b xs args s := by
  have hs := flat_of_before _ h
  have hq := flat_of_before _ hr
  have hc : (Cond.count 1).before args s = true := hs _ (by decide +kernel)
  have harr : (Cond.arrayOf (.arg 0) .int).before args s = true := hs _ (by decide +kernel)
  have hle : (Cond.le (.length (.arg 0)) (.int 448)).before args s = true := hs _ (by decide +kernel)
  have hlen : (Cond.isInt (.length (.arg 0))).before args s = true := hq _ (by decide +kernel)
  have hall : (Cond.all (.arg 0) (.isInt (.elem (.arg 0) (.index 0)))).before args s = true := hq _ (by decide +kernel)
  obtain ⟨b, xs, hb, hx⟩ := State.ints_of_pre rfl harr hlen hall
  have hsm : xs.length < 2 ^ 31 := hx.choose_spec.2.2.2
  have hev : (Term.length (.arg 0)).eval args s none [] s = some (.int xs.length.toInt32) := hx.length_eval hb
  have hv := Cond.le_ints hev (show (Term.int 448).eval args s none [] s = some (.int 448) from rfl)
  have hd : xs.length.toInt32 ≤ 448 := by
    simpa [Cond.before, Cond.holds, hv] using hle
  have hN : xs.length ≤ 448 := (Int32.ofNat_le_ofNat hsm (by decide)).mp (show Int32.ofNat xs.length ≤ Int32.ofNat 448 from hd)
  exact ⟨b, xs, Cond.one_arg hc (show args[0]? = some (.ref b) from hb), hx, hN, h⟩
theorem lw_comes (l : Launch) (hflags : l.flags = flags0) : Comes l x (Jvm.Cond.code x code maxLocals ret :: tables_1) room_1 (fun tb e args s => Calls_1 tb e args s ∧ rest_1 tb e args s ∧ Pre_1 tb e args s)
    (fun _ _ args s o t => lw_Q args s o t) := by
  intro p e ha hc hk s m args below hf hfit hheap happ hpre
  obtain ⟨b, xs, hP⟩ := lw_pre_spec hpre.2.2 hpre.2.1
  obtain ⟨k, o, h1, h2, h3, hQ⟩ := lw_walk l hflags b xs p e ha hc hk s m args below hf ((Spec.applies_iff_loose hf).mp happ).1 hP trivial
  exact ⟨k, o, h1, h2, h3, hQ⟩
theorem lw_frame {s t : State} {o : Outcome} {args : Array Value} (h : Framed s o t [] 600000 7302250) :
    Framed s o t (fieldLocs frame_1_writes args s ++ arrayLocs frame_1_arrays args s ++ staticLocs frame_1_statics s) 600000 7302250 := h
theorem lw_limb (L : Cond) (hL : ∀ (args : Array Value) (s t : State), L.after args s (.returned (some (.int 1))) t = true) :
    ArmFor flags0 classFile x code maxLocals ret World_1 tables_1 room_1 Calls_1 rest_1 Pre_1
      (fun tb e a s o t => postC L tb e a s o t ∧ Framed s o t (fieldLocs frame_1_writes a s ++ arrayLocs frame_1_arrays a s ++ staticLocs frame_1_statics s) 600000 7302250) := by
  intro l hflags _ _ p e ha hc hk s m args below hf hfit hheap happ hpre
  obtain ⟨k, o, h1, h2, h3, rfl, hF⟩ := lw_comes l hflags p e ha hc hk s m args below hf hfit hheap happ hpre
  exact ⟨k, _, h1, h2, h3, hL args s _, lw_frame hF⟩
theorem i_vc : Claimed_1_1 ∧ Claimed_1_2 := ⟨lw_limb limb_1_1 (fun args s t => by simp [limb_1_1, Cond.after, Cond.holds, Cond.value]), lw_limb limb_1_2 (fun args s t => Cond.after_iff.mpr (by
  first | (rw [show limb_1_2 = Cond.eq .result (.int 1) from rfl, Cond.eq_ints (x := 1) (y := 1) rfl rfl]; simp; done) | (simp [limb_1_2, Cond.value, Term.eval]; done)))⟩
