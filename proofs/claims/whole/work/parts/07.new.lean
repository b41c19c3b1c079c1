theorem cd_tl : ∀ k, k < 8 → defaultValue (fyc 0 k) = (if isRf 0 k = true then .null else .int 0) := by
  intro k hk
  match k, hk with
  | 0, _ => rfl
  | 1, _ => rfl
  | 2, _ => rfl
  | 3, _ => rfl
  | 4, _ => rfl
  | 5, _ => rfl
  | 6, _ => rfl
  | 7, _ => rfl
theorem cd_bk : ∀ k, k < 7 → defaultValue (fyc 1 k) = (if isRf 1 k = true then .null else .int 0) := by
  intro k hk
  match k, hk with
  | 0, _ => rfl
  | 1, _ => rfl
  | 2, _ => rfl
  | 3, _ => rfl
  | 4, _ => rfl
  | 5, _ => rfl
  | 6, _ => rfl
theorem cd_tx : ∀ k, k < 3 → defaultValue (fyc 2 k) = (if isRf 2 k = true then .null else .int 0) := by
  intro k hk
  match k, hk with
  | 0, _ => rfl
  | 1, _ => rfl
  | 2, _ => rfl
theorem cd_tu : ∀ k, k < 2 → defaultValue (fyc 3 k) = (if isRf 3 k = true then .null else .int 0) := by
  intro k hk
  match k, hk with
  | 0, _ => rfl
  | 1, _ => rfl
theorem cd_bo : ∀ k, k < 3 → defaultValue (fyc 4 k) = (if isRf 4 k = true then .null else .int 0) := by
  intro k hk
  match k, hk with
  | 0, _ => rfl
  | 1, _ => rfl
  | 2, _ => rfl
theorem cd_lo : ∀ k, k < 7 → defaultValue (fyc 5 k) = (if isRf 5 k = true then .null else .int 0) := by
  intro k hk
  match k, hk with
  | 0, _ => rfl
  | 1, _ => rfl
  | 2, _ => rfl
  | 3, _ => rfl
  | 4, _ => rfl
  | 5, _ => rfl
  | 6, _ => rfl
theorem cd_ye : ∀ k, k < 8 → defaultValue (fyc 6 k) = (if isRf 6 k = true then .null else .int 0) := by
  intro k hk
  match k, hk with
  | 0, _ => rfl
  | 1, _ => rfl
  | 2, _ => rfl
  | 3, _ => rfl
  | 4, _ => rfl
  | 5, _ => rfl
  | 6, _ => rfl
  | 7, _ => rfl
theorem cd_tr : ∀ k, k < 3 → defaultValue (fyc 7 k) = (if isRf 7 k = true then .null else .int 0) := by
  intro k hk
  match k, hk with
  | 0, _ => rfl
  | 1, _ => rfl
  | 2, _ => rfl
theorem cd_li : ∀ k, k < 1 → defaultValue (fyc 8 k) = (if isRf 8 k = true then .null else .int 0) := by
  intro k hk
  match k, hk with
  | 0, _ => rfl
theorem cd_ch : ∀ k, k < 4 → defaultValue (fyc 9 k) = (if isRf 9 k = true then .null else .int 0) := by
  intro k hk
  match k, hk with
  | 0, _ => rfl
  | 1, _ => rfl
  | 2, _ => rfl
  | 3, _ => rfl
theorem cd_sh : ∀ k, k < 3 → defaultValue (fyc 10 k) = (if isRf 10 k = true then .null else .int 0) := by
  intro k hk
  match k, hk with
  | 0, _ => rfl
  | 1, _ => rfl
  | 2, _ => rfl
theorem cd_mo : ∀ k, k < 26 → defaultValue (fyc 11 k) = (if isRf 11 k = true then .null else .int 0) := by
  intro k hk
  match k, hk with
  | 0, _ => rfl
  | 1, _ => rfl
  | 2, _ => rfl
  | 3, _ => rfl
  | 4, _ => rfl
  | 5, _ => rfl
  | 6, _ => rfl
  | 7, _ => rfl
  | 8, _ => rfl
  | 9, _ => rfl
  | 10, _ => rfl
  | 11, _ => rfl
  | 12, _ => rfl
  | 13, _ => rfl
  | 14, _ => rfl
  | 15, _ => rfl
  | 16, _ => rfl
  | 17, _ => rfl
  | 18, _ => rfl
  | 19, _ => rfl
  | 20, _ => rfl
  | 21, _ => rfl
  | 22, _ => rfl
  | 23, _ => rfl
  | 24, _ => rfl
  | 25, _ => rfl
  | k + 26, hk => exact absurd hk (by omega)
theorem cl_def : ∀ (ci : Nat) (C : String) (T : u_T) (N : Nat), CL[ci]? = some (C, T, N) → ∀ k, k < N → defaultValue (fyc ci k) = (if isRf ci k = true then .null else .int 0) := by
  intro ci C T N h
  match ci, h with
  | 0, h => cases h; exact cd_tl
  | 1, h => cases h; exact cd_bk
  | 2, h => cases h; exact cd_tx
  | 3, h => cases h; exact cd_tu
  | 4, h => cases h; exact cd_bo
  | 5, h => cases h; exact cd_lo
  | 6, h => cases h; exact cd_ye
  | 7, h => cases h; exact cd_tr
  | 8, h => cases h; exact cd_li
  | 9, h => cases h; exact cd_ch
  | 10, h => cases h; exact cd_sh
  | 11, h => cases h; exact cd_mo
  | ci + 12, h => simp [CL] at h
section PNEW
variable {G : GT} {J : MD} {k z pc : Nat} {L : LT} {st : List PV} {n : Nat} {R : RT} {M : MT} {Q : QT}
theorem okM_z {n : Nat} {R : RT} {M : MT} (h : okM n R M) : okM (n + 1) (rz R n) (mz M n) := by
  refine ⟨fun o ho k => ?_, fun o ho k r hr => ?_⟩
  · unfold mz
    by_cases hc : o = n
    · rw [if_pos hc]
      exact ⟨fun _ => by unfold R64; omega, fun _ => z32⟩
    · rw [if_neg hc]
      exact h.1 o (by omega) k
  · unfold rz at hr
    by_cases hc : o = n
    · rw [if_pos hc] at hr
      cases hr
    · rw [if_neg hc] at hr
      have := h.2 o (by omega) k r hr
      omega
/-- behind a new cell -/
theorem wp_grown {p : Program} {e : Env} {s : State} {m : MethodId} {args : Array Value} {below : List Frame} {meth : Method} {c : Code} (cx : Cx G J p s m args meth c) {ad0 : Nat → Nat} {n0 : Nat} {ad : Nat → Nat} {H H1 : Heap} {locs : List Loc} {ls : Array Slot} (X : Mx G n0 ad0 ad n R M s H locs) (hl : lv_has ls J.2.2.1 (lmap ad L)) (ok : okS n L st) {q k' z' pc' : Nat} {E : va_E} (hx : n + 1 ≤ XO)
    (hE : cont G (fun o => if o = n then q else ad o) (rz R n) (mz M n) n = E) (hP : va_P G.2.1 CL (wsOf G ad n R M ++ [(q, E)]) H1) (hD : va_D (AB G) (wsOf G ad n R M ++ [(q, E)])) (hS : va_S (AB G) s.heap H1 locs) (kk : Wp G J k' z' pc' L (pR n :: st) (n + 1) (rz R n) (mz M n) Q) :
    W p G.1 e (rmOf J) s m args below meth c H1 locs k' z' (MQ below (QP G ad0 n0 Q) args s J.2.2.2.2.2.1 J.2.2.2.2.2.2.1 (AB G)) (F0 m pc' ls (.ref q :: st.map (cv ad))) := by
  obtain ⟨x1, x2, x3, x4, x5, x6, x7, x8⟩ := X
  have hxo : XO = 1000 := rfl
  rw [ws_push x5 (ad' := fun o => if o = n then q else ad o) (R' := rz R n) (M' := mz M n) (fun o ho => by simp [Nat.ne_of_lt ho]) (by simp) (fun o' k ho => by simp [rz, Nat.ne_of_lt ho]) (fun o' k ho => by simp [mz, Nat.ne_of_lt ho]) hE] at hP hD
  have ag : ∀ o, o < n ∨ XO ≤ o → (fun o => if o = n then q else ad o) o = ad o := fun o ho => by
    show (if o = n then q else ad o) = ad o
    rw [if_neg (by omega)]
  have h1 := kk p e s m args below meth c cx ad0 n0 (fun o => if o = n then q else ad o) H1 locs ls ⟨by omega, hx, fun o ho => (ag o (by omega)).trans (x3 o ho), fun i => (ag _ (Or.inr (by omega))).trans (x4 i), okM_z x5, hP, hD, hS⟩ (by rw [lmap_ag ag ok.1]; exact hl) (okS_push ⟨fun q hq => okV_mono (Nat.le_succ n) (ok.1 q hq), fun q hq => okV_mono (Nat.le_succ n) (ok.2 q hq)⟩ (Or.inl (Nat.lt_succ_self n)))
  have e1 : (pR n :: st).map (cv (fun o => if o = n then q else ad o)) = .ref q :: st.map (cv ad) := by
    rw [List.map_cons, smap_ag ag ok.2]
    simp [cv, va_rf]
  rw [e1] at h1
  exact h1
theorem hA_of {p : Program} {s : State} {m : MethodId} {args : Array Value} {meth : Method} {c : Code} (cx : Cx G J p s m args meth c) : ∀ q : Nat, s.heap.size ≤ q → AB G q := fun q h => Nat.le_trans cx.2.2.2.2.2.2.2.2.2.2 h
theorem wp_new {i ci N : Nat} {C : String} {T : u_T} (hd : decode J.2.1 pc = .ok (.new i, 3)) (hs : SH n = (ci, N)) (hc : CL[ci]? = some (C, T, N)) (hx : n + 1 ≤ XO) (hk : Cond.classLink J.1.cls i C ∈ TB) (h1 : Cond.instantiable C N ∈ TB) (h2 : Cond.initialized C ∈ TB) (hr : k + 1 ≤ J.2.2.2.2.2.1 ∧ z + N ≤ J.2.2.2.2.2.2.1)
    (kk : Wp G J (k + 1) (z + N) (pc + 3) L (pR n :: st) (n + 1) (rz R n) (mz M n) Q) : Wp G J k z pc L st n R M Q := by
  intro p e s m args below meth c cx ad0 n0 ad H locs ls X hl ok
  obtain ⟨x1, x2, x3, x4, x5, x6, x7, x8⟩ := id X
  obtain ⟨c1, c2, c3⟩ := cl_ok ci _ _ _ hc
  have ts := cx.2.2.2.2.2.2.2.1
  refine va_new (ci := ci) (fs := (List.range N).map (fldv ad (rz R n) (mz M n) ci n)) cx.1 cx.2.1 ts c1 (fyc ci) c3 cx.2.2.2.2.1 (ts _ hk) (ts _ h1) (ts _ h2) cx.2.2.2.2.2.2.2.2.1 x6 x7 x8 (hA_of cx) hc (fun j hj => ?_) hr.1 hr.2 hd (fun q H1 hP hD hS => ?_)
  · rw [cl_def ci _ _ _ hc j hj]
    unfold vp_V
    rw [List.getD_eq_getElem?_getD, fld_get _ _ _ _ _ hj]
    cases hb : isRf ci j <;> simp [fldv, hb, rz, mz, va_rf]
  · refine wp_grown cx X hl ok hx ?_ hP hD hS kk
    rw [cont_ob hs (cl_lt hc)]
    congr 2
    apply List.map_congr_left
    intro j hj
    cases hb : isRf ci j <;> simp [fldv, hb, rz, mz]
theorem wp_newai {N : Nat} {len : Int} (hd : decode J.2.1 pc = .ok (.newarray .int, 2)) (hs : SH n = (20, N)) (hlen : len = (N : Int)) (hN : N ≤ 100000) (hx : n + 1 ≤ XO) (hk : Cond.arrayClass .int ∈ TB) (hr : k + 1 ≤ J.2.2.2.2.2.1 ∧ z + N ≤ J.2.2.2.2.2.2.1)
    (kk : Wp G J (k + 1) (z + N) (pc + 2) L (pR n :: st) (n + 1) (rz R n) (mz M n) Q) : Wp G J k z pc L (pI len :: st) n R M Q := by
  subst hlen
  intro p e s m args below meth c cx ad0 n0 ad H locs ls X hl ok
  obtain ⟨x1, x2, x3, x4, x5, x6, x7, x8⟩ := id X
  have ts := cx.2.2.2.2.2.2.2.1
  have hK := cx.2.2.2.2.2.2.2.2.1
  have oN : R32 (N : Int) := (okS_pop ok).1
  refine va_newa (atype := .int) (ty := .int) (a0 := (N, .inl (fun _ => 0))) (N' := N) cx.1 cx.2.1 (ts _ hk) rfl hK x6 x7 x8 (hA_of cx) (fun cA => rfl) (fun h => ?_) ?_ (by show N * 4 ≤ 536870912; omega) hr.1 hr.2 hd (fun q cA H1 hK1 hP hD hS => ?_)
  · have := (l32 oN z32).mp h
    omega
  · show (Int32.ofInt (N : Int)).toInt.toNat = N
    rw [t32 oN]
    rfl
  · have e1 : va_RA s cA .int := (hK1.2 7 (cA, .int) rfl).2
    have e2 : va_RA s (G.2.2.1 0) .int := (hK.2 0 (G.2.2.1 0, .int) rfl).2
    have e3 : cA = G.2.2.1 0 := Option.some.inj (e1.symm.trans e2)
    subst e3
    refine wp_grown cx X hl (okS_pop ok).2 hx ?_ hP hD hS kk
    rw [cont_i hs]
    congr 4
    funext j
    simp [mz]
theorem wp_newal {N : Nat} {len : Int} (hd : decode J.2.1 pc = .ok (.newarray .long, 2)) (hs : SH n = (21, N)) (hlen : len = (N : Int)) (hN : N ≤ 100000) (hx : n + 1 ≤ XO) (hk : Cond.arrayClass .long ∈ TB) (hr : k + 1 ≤ J.2.2.2.2.2.1 ∧ z + N ≤ J.2.2.2.2.2.2.1)
    (kk : Wp G J (k + 1) (z + N) (pc + 2) L (pR n :: st) (n + 1) (rz R n) (mz M n) Q) : Wp G J k z pc L (pI len :: st) n R M Q := by
  subst hlen
  intro p e s m args below meth c cx ad0 n0 ad H locs ls X hl ok
  obtain ⟨x1, x2, x3, x4, x5, x6, x7, x8⟩ := id X
  have ts := cx.2.2.2.2.2.2.2.1
  have hK := cx.2.2.2.2.2.2.2.2.1
  have oN : R32 (N : Int) := (okS_pop ok).1
  refine va_newa (atype := .long) (ty := .long) (a0 := (N, .inr (.inl (fun _ => 0)))) (N' := N) cx.1 cx.2.1 (ts _ hk) rfl hK x6 x7 x8 (hA_of cx) (fun cA => rfl) (fun h => ?_) ?_ (by show N * 8 ≤ 536870912; omega) hr.1 hr.2 hd (fun q cA H1 hK1 hP hD hS => ?_)
  · have := (l32 oN z32).mp h
    omega
  · show (Int32.ofInt (N : Int)).toInt.toNat = N
    rw [t32 oN]
    rfl
  · have e1 : va_RA s cA .long := (hK1.2 7 (cA, .long) rfl).2
    have e2 : va_RA s (G.2.2.1 1) .long := (hK.2 1 (G.2.2.1 1, .long) rfl).2
    have e3 : cA = G.2.2.1 1 := Option.some.inj (e1.symm.trans e2)
    subst e3
    refine wp_grown cx X hl (okS_pop ok).2 hx ?_ hP hD hS kk
    rw [cont_l hs]
    congr 5
    funext j
    simp [mz]
theorem wp_newq {N t i : Nat} {C : String} {len : Int} (hd : decode J.2.1 pc = .ok (.anewarray i, 3)) (hs : SH n = (22 + t, N)) (ht : (TYS G)[2 + t]? = some (G.2.2.1 (2 + t), .object C)) (hlen : len = (N : Int)) (hN : N ≤ 100000) (hx : n + 1 ≤ XO) (hk : Cond.classLink J.1.cls i C ∈ TB) (hAO : ∀ U, Ext G U → va_AO C U) (hr : k + 1 ≤ J.2.2.2.2.2.1 ∧ z + N ≤ J.2.2.2.2.2.2.1)
    (kk : Wp G J (k + 1) (z + N) (pc + 3) L (pR n :: st) (n + 1) (rz R n) (mz M n) Q) : Wp G J k z pc L (pI len :: st) n R M Q := by
  subst hlen
  intro p e s m args below meth c cx ad0 n0 ad H locs ls X hl ok
  obtain ⟨x1, x2, x3, x4, x5, x6, x7, x8⟩ := id X
  have ts := cx.2.2.2.2.2.2.2.1
  have hK := cx.2.2.2.2.2.2.2.2.1
  have oN : R32 (N : Int) := (okS_pop ok).1
  refine va_newq (N' := N) cx.1 cx.2.1 cx.2.2.2.2.1 (ts _ hk) (hAO s cx.2.2.2.2.2.2.2.2.2.1) hK x6 x7 x8 (hA_of cx) (fun h => ?_) ?_ (by omega) hr.1 hr.2 hd (fun q cA H1 hK1 hP hD hS => ?_)
  · have := (l32 oN z32).mp h
    omega
  · show (Int32.ofInt (N : Int)).toInt.toNat = N
    rw [t32 oN]
    rfl
  · obtain ⟨_, _, _, _, _, e1⟩ := (hK1.2 7 (cA, .object C) rfl).2
    obtain ⟨_, _, _, _, _, e2⟩ := (hK.2 (2 + t) _ ht).2
    have e3 : cA = G.2.2.1 (2 + t) := Option.some.inj (e1.symm.trans e2)
    subst e3
    refine wp_grown cx X hl (okS_pop ok).2 hx ?_ hP hD hS kk
    rw [cont_r hs]
    congr 7
    funext j
    simp [rz]
/-- a stretch of ints, copied -/
def mcp (M : MT) (o o2 : Nat) (sp dp len : Int) : MT := fun o' k' => if o' = o2 ∧ dp.toNat ≤ k' ∧ k' < dp.toNat + len.toNat then M o (sp.toNat + (k' - dp.toNat)) else M o' k'
theorem wp_copy {i o o2 N N2 : Nat} {sp dp len : Int} (hd : decode J.2.1 pc = .ok (.invokestatic i, 3)) (hlk : Cond.methodLink J.1.cls i arraycopyName ∈ TB) (hna : Cond.native arraycopyName ∈ TB) (hst : Cond.static arraycopyName ∈ TB) (hin : Cond.initialized "java/lang/System" ∈ TB) (hs : SH o = (20, N)) (hs2 : SH o2 = (20, N2)) (ho : o < n) (ho2 : o2 < n) (h1 : 0 ≤ sp) (h2 : 0 ≤ dp) (h3 : 0 ≤ len) (h4 : sp + len ≤ (N : Int)) (h5 : dp + len ≤ (N2 : Int)) (hf : 1 ≤ J.2.2.2.2.1) (hlo : (st.map cat).sum + (nativeFrameWords "java/lang/System" "arraycopy" 5 + 11) ≤ J.2.2.2.2.2.2.2)
    (kk : Wp G J k z (pc + 3) L st n R (mcp M o o2 sp dp len) Q) : Wp G J k z pc L (pI len :: pI dp :: pR o2 :: pI sp :: pR o :: st) n R M Q := by
  intro p e s m args below meth c cx ad0 n0 ad H locs ls X hl ok
  obtain ⟨x1, x2, x3, x4, x5, x6, x7, x8⟩ := id X
  have ts := cx.2.2.2.2.2.2.2.1
  have he := ws_get (G := G) (ad := ad) (R := R) (M := M) ho
  rw [cont_i hs] at he
  have he2 := ws_get (G := G) (ad := ad) (R := R) (M := M) ho2
  rw [cont_i hs2] at he2
  obtain ⟨o1, ok1⟩ := okS_pop ok
  obtain ⟨o3, ok2⟩ := okS_pop ok1
  obtain ⟨-, ok3⟩ := okS_pop ok2
  obtain ⟨o4, ok4⟩ := okS_pop ok3
  obtain ⟨-, ok5⟩ := okS_pop ok4
  have nn : ∀ x : Int, R32 x → 0 ≤ x → ¬ Int32.ofInt x < 0 ∧ (Int32.ofInt x).toNatClampNeg = x.toNat := fun x hx h => by
    refine ⟨fun q => ?_, ?_⟩
    · have := (l32 hx z32).mp q
      omega
    · show (Int32.ofInt x).toInt.toNat = x.toNat
      rw [t32 hx]
  obtain ⟨a1, b1⟩ := nn len o1 h3
  obtain ⟨a2, b2⟩ := nn dp o3 h2
  obtain ⟨a3, b3⟩ := nn sp o4 h1
  refine va_copyi cx.1 cx.2.1 (cx.2.2.2.1.trans hl.1.symm) cx.2.2.2.2.1 (ts _ hlk) (ts _ hna) (ts _ hst) (ts _ hin) cx.2.2.2.2.2.2.2.2.1 x6 x7 x8 o o2 0 0 he he2 rfl rfl rfl a3 a2 a1 (by rw [b3, b1]; omega) (by rw [b2, b1]; omega) (fun _ _ => rfl) hf (by rw [scat]; exact hlo) hd (fun H1 locs1 hP hD hS => ?_)
  have hE : cont G ad R (mcp M o o2 sp dp len) o2 = .inl (G.2.2.1 0, N2, .inl (va_cpy (fun k => Int32.ofInt (M o k)) (fun k => Int32.ofInt (M o2 k)) (Int32.ofInt sp).toNatClampNeg (Int32.ofInt dp).toNatClampNeg (Int32.ofInt len).toNatClampNeg)) := by
    rw [cont_i hs2, b1, b2, b3]
    congr 4
    funext j
    unfold mcp va_cpy
    by_cases hj : dp.toNat ≤ j ∧ j < dp.toNat + len.toNat
    · rw [if_pos ⟨rfl, hj⟩, if_pos hj]
    · rw [if_neg (fun h => hj h.2), if_neg hj]
  rw [ws_set ho2 (fun _ _ _ => rfl) (fun o' k' h => by simp [mcp, h]) hE] at hP hD
  refine kk p e s m args below meth c cx ad0 n0 ad H1 locs1 ls ⟨x1, x2, x3, x4, ⟨fun o' ho' k' => ?_, x5.2⟩, hP, hD, hS⟩ hl ok5
  unfold mcp
  by_cases hc : o' = o2 ∧ dp.toNat ≤ k' ∧ k' < dp.toNat + len.toNat
  · rw [if_pos hc]
    have h6 := (x5.1 o ho (sp.toNat + (k' - dp.toNat))).2 (by rw [hs]; exact (by decide : (20 : Nat) ≠ 21))
    rw [hc.1, hs2]
    exact ⟨fun h => absurd h (by exact (by decide : ¬ (20 : Nat) = 21)), fun _ => h6⟩
  · rw [if_neg hc]
    exact x5.1 o' ho' k'
theorem QP_of {s : State} {args : Array Value} {n0 : Nat} {ad0 ad : Nat → Nat} {H : Heap} {locs : List Loc} (X : Mx G n0 ad0 ad n R M s H locs) {r : Option PV} (hq : Q r n R M) (hr : ∀ v, r = some v → okV n v) {t : State} (ht : t.heap = H) : QP G ad0 n0 Q args s (.returned (r.map (cv ad))) t := by
  obtain ⟨x1, x2, x3, x4, x5, x6, x7, x8⟩ := X
  exact ⟨⟨r, ad, n, R, M, rfl, hq, hr, x1, x2, x3, x5, by rw [ht]; exact x6, x7⟩, x8.F ht⟩
theorem wp_iret {x : Int} (hd : decode J.2.1 pc = .ok (.ireturn, 1)) (hr : J.2.2.2.1 = some .int) (hm : k ≤ J.2.2.2.2.2.1 ∧ z ≤ J.2.2.2.2.2.2.1) (hq : Q (some (pI x)) n R M) : Wp G J k z pc L [pI x] n R M Q := by
  intro p e s m args below meth c cx ad0 n0 ad H locs ls X hl ok
  refine W.widen hm.1 hm.2 ?_
  exact W.iret (hlocks := cx.2.2.2.2.2.1) cx.1 cx.2.1 (cx.2.2.1.trans hr) (fun t ht hW => QP_of X hq (fun v hv => by cases hv; exact (okS_pop ok).1) ht) X.2.2.2.2.2.2.2.2.2 hd
theorem wp_zret {x : Int} (hd : decode J.2.1 pc = .ok (.ireturn, 1)) (hr : J.2.2.2.1 = some .boolean) (hm : k ≤ J.2.2.2.2.2.1 ∧ z ≤ J.2.2.2.2.2.2.1) (hx : x = 0 ∨ x = 1) (hq : Q (some (pI x)) n R M) : Wp G J k z pc L [pI x] n R M Q := by
  intro p e s m args below meth c cx ad0 n0 ad H locs ls X hl ok
  refine W.widen hm.1 hm.2 ?_
  exact W.zret (ty := .boolean) (hlocks := cx.2.2.2.2.2.1) cx.1 cx.2.1 (cx.2.2.1.trans hr) (by rcases hx with rfl | rfl <;> rfl) (fun t ht hW => QP_of X hq (fun v hv => by cases hv; exact (okS_pop ok).1) ht) X.2.2.2.2.2.2.2.2.2 hd
theorem wp_lret {x : Int} (hd : decode J.2.1 pc = .ok (.lreturn, 1)) (hr : J.2.2.2.1 = some .long) (hm : k ≤ J.2.2.2.2.2.1 ∧ z ≤ J.2.2.2.2.2.2.1) (hq : Q (some (pL x)) n R M) : Wp G J k z pc L [pL x] n R M Q := by
  intro p e s m args below meth c cx ad0 n0 ad H locs ls X hl ok
  refine W.widen hm.1 hm.2 ?_
  exact W.lret (hlocks := cx.2.2.2.2.2.1) cx.1 cx.2.1 (cx.2.2.1.trans hr) (fun t ht hW => QP_of X hq (fun v hv => by cases hv; exact (okS_pop ok).1) ht) X.2.2.2.2.2.2.2.2.2 hd
theorem wp_aret {o : Nat} {nm : String} (hd : decode J.2.1 pc = .ok (.areturn, 1)) (hr : J.2.2.2.1 = some (.object nm)) (hm : k ≤ J.2.2.2.2.2.1 ∧ z ≤ J.2.2.2.2.2.2.1) (hq : Q (some (pR o)) n R M) : Wp G J k z pc L [pR o] n R M Q := by
  intro p e s m args below meth c cx ad0 n0 ad H locs ls X hl ok
  refine W.widen hm.1 hm.2 ?_
  exact W.aret (v := .ref (ad o)) (hlocks := cx.2.2.2.2.2.1) cx.1 cx.2.1 (cx.2.2.1.trans hr) (Or.inl ⟨nm, rfl⟩) (Or.inr ⟨_, rfl⟩) (fun t ht hW => QP_of X hq (fun v hv => by cases hv; exact (okS_pop ok).1) ht) X.2.2.2.2.2.2.2.2.2 hd
theorem wp_vret (hd : decode J.2.1 pc = .ok (.return_, 1)) (hr : J.2.2.2.1 = none) (hm : k ≤ J.2.2.2.2.2.1 ∧ z ≤ J.2.2.2.2.2.2.1) (hq : Q none n R M) : Wp G J k z pc L [] n R M Q := by
  intro p e s m args below meth c cx ad0 n0 ad H locs ls X hl ok
  refine W.widen hm.1 hm.2 ?_
  exact W.vret (hlocks := cx.2.2.2.2.2.1) cx.1 cx.2.1 (cx.2.2.1.trans hr) (fun t ht hW => QP_of X hq (fun v hv => by cases hv) ht) X.2.2.2.2.2.2.2.2.2 hd
def sbyt (j : Nat) : Int := if j = 0 then 43 else if j = 1 then 45 else 47
theorem wp_ldcS (hd : decode J.2.1 pc = .ok (.ldc 73, 2)) (hJ : J.1.cls = "TuneLoans$Book") (kk : Wp G J k z (pc + 2) L (pR 1000 :: st) n R M Q) : Wp G J k z pc L st n R M Q := by
  intro p e s m args below meth c cx ad0 n0 ad H locs ls X hl ok
  obtain ⟨x1, x2, x3, x4, x5, x6, x7, x8⟩ := id X
  have h0 := kk p e s m args below meth c cx ad0 n0 ad H locs ls X hl (okS_push ok (Or.inr (Nat.le_refl _)))
  have ha : ad 1000 = G.2.2.2.1 0 := x4 0
  have h1 : (pR 1000 :: st).map (cv ad) = .ref (G.2.2.2.1 0) :: st.map (cv ad) := by rw [← ha]; rfl
  rw [h1] at h0
  exact va_ldcS cx.1 cx.2.1 (by rw [← hJ]; exact cx.2.2.2.2.1) cx.2.2.2.2.2.2.2.2.2.1.2.2.2.2 hd h0
theorem wp_getcoder {i : Nat} (hd : decode J.2.1 pc = .ok (.getfield i, 3)) (hk : Cond.fieldLink J.1.cls i "java/lang/String" "coder" "B" ∈ TB) (kk : Wp G J k z (pc + 3) L (pI 0 :: st) n R M Q) : Wp G J k z pc L (pR 1000 :: st) n R M Q := by
  intro p e s m args below meth c cx ad0 n0 ad H locs ls X hl ok
  obtain ⟨x1, x2, x3, x4, x5, x6, x7, x8⟩ := id X
  have ha : ad 1000 = G.2.2.2.1 0 := x4 0
  have h1 : (pR 1000 :: st).map (cv ad) = .ref (G.2.2.2.1 0) :: st.map (cv ad) := by rw [← ha]; rfl
  rw [h1]
  exact vk_getf cx.1 cx.2.1 (cx.2.2.2.2.2.2.2.2.2.1.2.2.2.1.1.1 0 (by decide)).2.1 x8 cx.2.2.2.2.1 (cx.2.2.2.2.2.2.2.1 _ hk) (fun _ h => h) hd (kk p e s m args below meth c cx ad0 n0 ad H locs ls X hl (okS_push (okS_pop ok).2 z32))
theorem wp_getvalue {i : Nat} (hd : decode J.2.1 pc = .ok (.getfield i, 3)) (hk : Cond.fieldLink J.1.cls i "java/lang/String" "value" "[B" ∈ TB) (kk : Wp G J k z (pc + 3) L (pR 1002 :: st) n R M Q) : Wp G J k z pc L (pR 1000 :: st) n R M Q := by
  intro p e s m args below meth c cx ad0 n0 ad H locs ls X hl ok
  obtain ⟨x1, x2, x3, x4, x5, x6, x7, x8⟩ := id X
  have ha : ad 1000 = G.2.2.2.1 0 := x4 0
  have hb : ad 1002 = G.2.2.2.1 2 := x4 2
  have h1 : (pR 1000 :: st).map (cv ad) = .ref (G.2.2.2.1 0) :: st.map (cv ad) := by rw [← ha]; rfl
  rw [h1]
  have h0 := kk p e s m args below meth c cx ad0 n0 ad H locs ls X hl (okS_push (okS_pop ok).2 (Or.inr (by decide)))
  have h2 : (pR 1002 :: st).map (cv ad) = .ref (G.2.2.2.1 2) :: st.map (cv ad) := by rw [← hb]; rfl
  rw [h2] at h0
  exact vk_getf cx.1 cx.2.1 (cx.2.2.2.2.2.2.2.2.2.1.2.2.2.1.1.1 0 (by decide)).2.2.1 x8 cx.2.2.2.2.1 (cx.2.2.2.2.2.2.2.1 _ hk) (fun _ h => h) hd h0
theorem wp_tb {i : Int} (hd : decode J.2.1 pc = .ok (.baload, 1)) (h0 : 0 ≤ i) (h1 : i < 3) (kk : Wp G J k z (pc + 1) L (pI (sbyt i.toNat) :: st) n R M Q) : Wp G J k z pc L (pI i :: pR 1002 :: st) n R M Q := by
  intro p e s m args below meth c cx ad0 n0 ad H locs ls X hl ok
  obtain ⟨x1, x2, x3, x4, x5, x6, x7, x8⟩ := id X
  have hb : ad 1002 = G.2.2.2.1 2 := x4 2
  have e1 : (pI i :: pR 1002 :: st).map (cv ad) = .int (Int32.ofInt i) :: .ref (G.2.2.2.1 2) :: st.map (cv ad) := by rw [← hb]; rfl
  rw [e1]
  obtain ⟨g1, g2⟩ := vin (N := 3) (okS_pop ok).1 h0 h1
  refine va_tb cx.1 cx.2.1 (cx.2.2.2.2.2.2.2.2.2.1.2.2.2.1.1.1 0 (by decide)).2.2.2 x8 g1 (v := .int (Int32.ofInt (sbyt i.toNat))) ?_ hd (kk p e s m args below meth c cx ad0 n0 ad H locs ls X hl (okS_push (okS_pop (okS_pop ok).2).2 (by show R32 (sbyt i.toNat); unfold sbyt R32; split <;> (try split) <;> omega)))
  rw [g2]
  have h3 : i.toNat = 0 ∨ i.toNat = 1 ∨ i.toNat = 2 := by omega
  rcases h3 with h | h | h <;> rw [h] <;> rfl
theorem wp_tlen (hd : decode J.2.1 pc = .ok (.arraylength, 1)) (kk : Wp G J k z (pc + 1) L (pI 3 :: st) n R M Q) : Wp G J k z pc L (pR 1002 :: st) n R M Q := by
  intro p e s m args below meth c cx ad0 n0 ad H locs ls X hl ok
  obtain ⟨x1, x2, x3, x4, x5, x6, x7, x8⟩ := id X
  have hb : ad 1002 = G.2.2.2.1 2 := x4 2
  have e1 : (pR 1002 :: st).map (cv ad) = .ref (G.2.2.2.1 2) :: st.map (cv ad) := by rw [← hb]; rfl
  rw [e1]
  exact va_tlen cx.1 cx.2.1 (cx.2.2.2.2.2.2.2.2.2.1.2.2.2.1.1.1 0 (by decide)).2.2.2 x8 rfl hd (kk p e s m args below meth c cx ad0 n0 ad H locs ls X hl (okS_push (okS_pop ok).2 ⟨by decide, by decide⟩))
theorem wp_getsCS {i : Nat} (hd : decode J.2.1 pc = .ok (.getstatic i, 3)) (hk : Cond.fieldLink J.1.cls i "java/lang/String" "COMPACT_STRINGS" "Z" ∈ TB) (kk : Wp G J k z (pc + 3) L (pI 1 :: st) n R M Q) : Wp G J k z pc L st n R M Q := by
  intro p e s m args below meth c cx ad0 n0 ad H locs ls X hl ok
  obtain ⟨x1, x2, x3, x4, x5, x6, x7, x8⟩ := id X
  exact va_gets cx.1 cx.2.1 cx.2.2.2.2.2.2.2.2.2.1.2.2.2.1.2 x8 cx.2.2.2.2.1 (cx.2.2.2.2.2.2.2.1 _ hk) (fun _ h => h) hd (kk p e s m args below meth c cx ad0 n0 ad H locs ls X hl (okS_push ok ⟨by decide, by decide⟩))
theorem wp_mmax {i : Nat} {x y : Int} (hd : decode J.2.1 pc = .ok (.invokestatic i, 3)) (hlk : Cond.methodLink J.1.cls i Lib.Math.max.name ∈ TB) (h1 : Cond.static Lib.Math.max.name ∈ TB) (h2 : Cond.initialized "java/lang/Math" ∈ TB) (h3 : Cond.code Lib.Math.max.name Lib.Math.max.code 2 (some .int) ∈ TB) (hm : k ≤ J.2.2.2.2.2.1 ∧ z ≤ J.2.2.2.2.2.2.1) (hf : 1 ≤ J.2.2.2.2.1) (hlo : (st.map cat).sum + 13 ≤ J.2.2.2.2.2.2.2) (kk : Wp G J k z (pc + 3) L (pI (if x < y then y else x) :: st) n R M Q) : Wp G J k z pc L (pI y :: pI x :: st) n R M Q := by
  intro p e s m args below meth c cx ad0 n0 ad H locs ls X hl ok
  have ts := cx.2.2.2.2.2.2.2.1
  obtain ⟨oy, ok1⟩ := okS_pop ok
  obtain ⟨ox, ok2⟩ := okS_pop ok1
  refine va_mmax cx.1 cx.2.1 (cx.2.2.2.1.trans hl.1.symm) cx.2.2.2.2.1 (ts _ hlk) (ts _ h1) (ts _ h2) (ts _ h3) hf (by rw [scat]; exact hlo) hm.1 hm.2 hd ?_
  have e1 : (if Int32.ofInt x < Int32.ofInt y then Int32.ofInt y else Int32.ofInt x) = Int32.ofInt (if x < y then y else x) := by
    by_cases h : x < y
    · rw [if_pos h, if_pos ((l32 ox oy).mpr h)]
    · rw [if_neg h, if_neg (fun q => h ((l32 ox oy).mp q))]
  rw [e1]
  exact kk p e s m args below meth c cx ad0 n0 ad H locs ls X hl (okS_push ok2 (by show R32 _; split; exact oy; exact ox))
theorem wp_mmin {i : Nat} {x y : Int} (hd : decode J.2.1 pc = .ok (.invokestatic i, 3)) (hlk : Cond.methodLink J.1.cls i Lib.Math.min.name ∈ TB) (h1 : Cond.static Lib.Math.min.name ∈ TB) (h2 : Cond.initialized "java/lang/Math" ∈ TB) (h3 : Cond.code Lib.Math.min.name Lib.Math.min.code 2 (some .int) ∈ TB) (hm : k ≤ J.2.2.2.2.2.1 ∧ z ≤ J.2.2.2.2.2.2.1) (hf : 1 ≤ J.2.2.2.2.1) (hlo : (st.map cat).sum + 13 ≤ J.2.2.2.2.2.2.2) (kk : Wp G J k z (pc + 3) L (pI (if y < x then y else x) :: st) n R M Q) : Wp G J k z pc L (pI y :: pI x :: st) n R M Q := by
  intro p e s m args below meth c cx ad0 n0 ad H locs ls X hl ok
  have ts := cx.2.2.2.2.2.2.2.1
  obtain ⟨oy, ok1⟩ := okS_pop ok
  obtain ⟨ox, ok2⟩ := okS_pop ok1
  refine va_mmin cx.1 cx.2.1 (cx.2.2.2.1.trans hl.1.symm) cx.2.2.2.2.1 (ts _ hlk) (ts _ h1) (ts _ h2) (ts _ h3) hf (by rw [scat]; exact hlo) hm.1 hm.2 hd ?_
  have e1 : (if Int32.ofInt y < Int32.ofInt x then Int32.ofInt y else Int32.ofInt x) = Int32.ofInt (if y < x then y else x) := by
    by_cases h : y < x
    · rw [if_pos h, if_pos ((l32 oy ox).mpr h)]
    · rw [if_neg h, if_neg (fun q => h ((l32 oy ox).mp q))]
  rw [e1]
  exact kk p e s m args below meth c cx ad0 n0 ad H locs ls X hl (okS_push ok2 (by show R32 _; split; exact oy; exact ox))
theorem wp_bret0 (hd : decode J.2.1 pc = .ok (.ireturn, 1)) (hr : J.2.2.2.1 = some .byte) (hm : k ≤ J.2.2.2.2.2.1 ∧ z ≤ J.2.2.2.2.2.2.1) (hq : Q (some (pI 0)) n R M) : Wp G J k z pc L [pI 0] n R M Q := by
  intro p e s m args below meth c cx ad0 n0 ad H locs ls X hl ok
  refine W.widen hm.1 hm.2 ?_
  exact W.zret (ty := .byte) (hlocks := cx.2.2.2.2.2.1) cx.1 cx.2.1 (cx.2.2.1.trans hr) rfl (fun t ht hW => QP_of X hq (fun v hv => by cases hv; exact (okS_pop ok).1) ht) X.2.2.2.2.2.2.2.2.2 hd
end PNEW

