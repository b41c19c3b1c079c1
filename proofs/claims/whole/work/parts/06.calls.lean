theorem lmap_ent (ad : Nat → Nat) : ∀ (vs : List PV) (i : Nat), lmap ad (entL i vs) = lv_args i (vs.map (cv ad))
  | [], _ => rfl
  | v :: vs, i => by
    show (i, cv ad v) :: lmap ad (entL _ vs) = (i, cv ad v) :: lv_args _ _
    rw [lmap_ent ad vs, cat_cv]
theorem ent_ok {n : Nat} : ∀ (vs : List PV) (i : Nat), (∀ v ∈ vs, okV n v) → ∀ q ∈ entL i vs, okV n q.2
  | [], _, _, q, h => absurd h List.not_mem_nil
  | v :: vs, i, h, q, hq => by
    rcases List.mem_cons.mp hq with rfl | hq
    · exact h v List.mem_cons_self
    · exact ent_ok vs _ (fun x hx => h x (List.mem_cons_of_mem _ hx)) q hq
theorem sl_len (ad : Nat → Nat) : ∀ (vs : List PV), (lg_sl (vs.map (cv ad))).length = (vs.map cat).sum
  | [] => rfl
  | v :: vs => by
    have ih := sl_len ad vs
    unfold lg_sl at ih ⊢
    rw [List.map_cons, List.flatMap_cons, List.length_append, ih, List.map_cons, List.sum_cons]
    congr 1
    rw [cat_cv]
    rcases v with x | x | _ | o <;> rfl
/-- what is known of a method that is called -/
def JB (J : MD) (na : Nat) : Prop := plainName J.1.cls = true ∧ (J.1.cls ≠ "java/lang/invoke/MethodHandle" ∧ J.1.cls ≠ "java/lang/invoke/VarHandle" ∧ (parseMethodDescriptor J.1.desc).map (fun d => d.parameters.length) = some na) ∧ Cond.code J.1 J.2.1 J.2.2.1 J.2.2.2.1 ∈ TB ∧ Cond.initialized J.1.cls ∈ TB
def JV (J : MD) (na : Nat) : Prop := JB J na ∧ Cond.instanceMethod J.1 ∈ TB ∧ Cond.selects J.1.cls J.1 J.1 ∈ TB
def JS (J : MD) (na : Nat) : Prop := JB J na ∧ Cond.static J.1 ∈ TB
def JI (J : MD) (na : Nat) : Prop := JB J na ∧ Cond.instanceMethod J.1 ∈ TB ∧ J.1.name = "<init>"
/-- the state that a call finds -/
def PreW (G : GT) (ad : Nat → Nat) (n : Nat) (R : RT) (M : MT) (U : State) : Prop := va_P G.2.1 CL (wsOf G ad n R M) U.heap ∧ va_D (AB G) (wsOf G ad n R M) ∧ va_K G.2.1 CL (TYS G) U ∧ Ext G U ∧ G.2.2.2.2.1 ≤ U.heap.size
theorem PreW_blind {G : GT} {ad : Nat → Nat} {n : Nat} {R : RT} {M : MT} (as : List Value) : FrameBlind (va_Pc as (PreW G ad n R M)) := by
  intro a U g mk q
  obtain ⟨q0, q1, q2, q3, q4, q5⟩ := q
  exact ⟨q0, q1, q2, va_K.moved (u := U) (U := U.calling g mk a) (Vm.Alike.refl U.vm) q3, Ext_same (u := U) (U := U.calling g mk a) rfl rfl q4, q5⟩
theorem Met_of {G : GT} {J : MD} {na : Nat} (hJ : JB J na) {as : List PV} {n : Nat} {R : RT} {M : MT} {Q : QT} {ad : Nat → Nat} (hlen : (as.map cat).sum ≤ J.2.2.1) (h : Cl G J as n R M Q) (hn : n ≤ XO) (hx : ∀ i, ad (XO + i) = G.2.2.2.1 i) (hok : okM n R M) (ha : ∀ v ∈ as, okV n v) :
    Met G.1 J.1 (Cond.code J.1 J.2.1 J.2.2.1 J.2.2.2.1 :: TB) (rmOf J) (va_Pc (as.map (cv ad)) (PreW G ad n R M)) (QP G ad n Q) J.2.2.2.2.2.1 J.2.2.2.2.2.2.1 (AB G) := by
  refine Met.ofW (cc := J.2.1) (maxL := J.2.2.1) (ret := J.2.2.2.1) hJ.1 rfl ?_
  intro p e s m args below meth c s₁ B hml hv
  obtain ⟨rfl, hP, hD, hK, hE, hsz⟩ := hv
  have hts := atoms_spec (ws := Cond.code J.1 J.2.1 J.2.2.1 J.2.2.2.1 :: TB) B.pre
  have hl := lv_entry (as.map (cv ad)) (n := J.2.2.1) (by rw [sl_len]; exact hlen)
  rw [lg_entry_eq]
  generalize (lg_sl (as.map (cv ad)) ++ List.replicate (J.2.2.1 - (lg_sl (as.map (cv ad))).length) Slot.unset).toArray = ls at hl ⊢
  rw [← lmap_ent] at hl
  exact h p e s m _ below meth c ⟨B.exec, B.bytes, B.returns, hml, findClass_of_methodNamed B.named, B.notSynchronized, (name_of_methodNamed B.named B.method).1, fun w hw => hts w (List.mem_cons_of_mem _ hw), hK, hE, hsz⟩ ad n ad s.heap [] ls ⟨Nat.le_refl _, hn, fun _ _ => rfl, hx, hok, hP, hD, va_S.rf⟩ hl ⟨ent_ok as 0 ha, fun v hv => absurd hv List.not_mem_nil⟩
section PCALL
variable {G : GT} {J : MD} {k z pc : Nat} {L : LT} {st : List PV} {n : Nat} {R : RT} {M : MT} {Q : QT}
/-- the room of a call -/
def rmOk (J J' : MD) (k z : Nat) (st : List PV) : Bool := Nat.ble (J'.2.2.2.2.1 + 1) J.2.2.2.2.1 && Nat.ble (8 + (J'.2.2.1 + 11) + J'.2.2.2.2.2.2.2) J.2.2.2.2.2.2.2 && Nat.ble (k + J'.2.2.2.2.2.1) J.2.2.2.2.2.1 && Nat.ble (z + J'.2.2.2.2.2.2.1) J.2.2.2.2.2.2.1 && Nat.ble (st.map cat).sum 8
theorem rmOk_of {J J' : MD} {k z : Nat} {st : List PV} (h : rmOk J J' k z st = true) : ((rmOf J').frames + 1 ≤ (rmOf J).frames ∧ 8 + (J'.2.2.1 + 11) + (rmOf J').locals ≤ (rmOf J).locals) ∧ (k + J'.2.2.2.2.2.1 ≤ (rmOf J).cells ∧ z + J'.2.2.2.2.2.2.1 ≤ (rmOf J).slots) ∧ (st.map cat).sum ≤ 8 := by
  simp only [rmOk, Bool.and_eq_true, Nat.ble_eq] at h
  obtain ⟨⟨⟨⟨h1, h2⟩, h3⟩, h4⟩, h5⟩ := h
  exact ⟨⟨h1, h2⟩, ⟨h3, h4⟩, h5⟩
theorem wp_back {J' : MD} {as : List PV} {p : Program} {e : Env} {s : State} {m : MethodId} {args : Array Value} {below : List Frame} {meth : Method} {c : Code} (cx : Cx G J p s m args meth c) {ad0 : Nat → Nat} {n0 : Nat} {ad : Nat → Nat} {H : Heap} {locs : List Loc} {ls : Array Slot} (X : Mx G n0 ad0 ad n R M s H locs) (hl : lv_has ls J.2.2.1 (lmap ad L)) (ok : okS n L st) {stk : List Value} {a : Array Value} {mc ms : Nat}
    (hr : va_Run p G.1 e (rmOf J) s m args below meth c H locs k z mc ms (F0 m pc ls stk) (st.map (cv ad)) (QP G ad n (fun r n' R' M' => Wp G J (k + mc) (z + ms) (pc + 3) L (r.toList ++ st) n' R' M' Q) a) (AB G)) :
    W p G.1 e (rmOf J) s m args below meth c H locs k z (MQ below (QP G ad0 n0 Q) args s J.2.2.2.2.2.1 J.2.2.2.2.2.2.1 (AB G)) (F0 m pc ls stk) := by
  obtain ⟨x1, x2, x3, x4, x5, x6, x7, x8⟩ := id X
  intro T hT Y
  obtain ⟨v, st₀, t, T', Lc, h0, Y', hLc, e1, e2, ⟨⟨r, ad', n', R', M', c1, c2, c3, c4, c5, c6, c7, c8, c9⟩, hF1, hF2⟩, go⟩ := hr T hT Y
  cases c1
  have ag : ∀ o, o < n ∨ XO ≤ o → ad' o = ad o := c6
  have hS : va_S (AB G) s.heap T'.heap (locs ++ Lc) := by
    rw [h0] at hF1 hF2
    refine ⟨Nat.le_trans x8.1 (by rw [e1]; exact hF1), fun q h1 h2 => ?_, fun q hq => ?_⟩
    · rw [e1, hF2 q (Nat.lt_of_lt_of_le h1 x8.1) h2]
      exact x8.2.1 q h1 h2
    · rcases List.mem_append.mp hq with h | h
      · exact x8.2.2 q h
      · exact hLc q h
  have hl' : lv_has ls J.2.2.1 (lmap ad' L) := by rw [lmap_ag ag ok.1]; exact hl
  have g1 : ∀ o, o < n0 ∨ XO ≤ o → ad' o = ad0 o := fun o ho => by
    rw [← x3 o ho]
    apply ag
    rcases ho with h | h
    · exact Or.inl (by omega)
    · exact Or.inr h
  have g2 : okS n' L (r.toList ++ st) := by
    refine ⟨fun q hq => okV_mono c4 (ok.1 q hq), fun v hv => ?_⟩
    rcases List.mem_append.mp hv with h | h
    · cases r with
      | none => exact absurd h List.not_mem_nil
      | some r0 =>
        have e3 : v = r0 := by simpa using h
        rw [e3]
        exact c3 r0 rfl
    · exact okV_mono c4 (ok.2 v h)
  have hlast := c2 p e s m args below meth c cx ad0 n0 ad' T'.heap (locs ++ Lc) ls ⟨Nat.le_trans x1 c4, c5, g1, fun i => (ag _ (Or.inr (by omega))).trans (x4 i), c7, by rw [e1]; exact c8, c9, hS⟩ hl' g2 T' rfl Y'
  obtain ⟨t2, a1, b1⟩ := hlast
  refine ⟨t2, go t2 ?_, b1⟩
  have hfe : (r.toList ++ st).map (cv ad') = (r.map (cv ad')).toList ++ st.map (cv ad) := by
    rw [List.map_append, smap_ag ag ok.2]
    cases r <;> rfl
  rw [hfe] at a1
  exact a1
theorem PreW_at {p : Program} {s : State} {m : MethodId} {args : Array Value} {meth : Method} {c : Code} (cx : Cx G J p s m args meth c) {ad0 : Nat → Nat} {n0 : Nat} {ad : Nat → Nat} {H : Heap} {locs : List Loc} (X : Mx G n0 ad0 ad n R M s H locs) (U : State) (hU : U.heap = H) (hW : s.WarmedH U.vm) : PreW G ad n R M U := by
  obtain ⟨x1, x2, x3, x4, x5, x6, x7, x8⟩ := X
  have hsz := cx.2.2.2.2.2.2.2.2.2.2
  refine ⟨by rw [hU]; exact x6, x7, va_K.moved hW.alike cx.2.2.2.2.2.2.2.2.1, Ext_warm hW (fun q hq => ?_) cx.2.2.2.2.2.2.2.2.2.1, by rw [hU]; exact Nat.le_trans hsz x8.1⟩
  rw [hU]
  exact x8.2.1 q (Nat.lt_of_lt_of_le hq hsz) (Nat.not_le.mpr hq)
theorem recv_at {s : State} {H : Heap} {ad : Nat → Nat} {o ci N : Nat} {C : String} {T : u_T} (hK : va_K G.2.1 CL (TYS G) s) (hP : va_P G.2.1 CL (wsOf G ad n R M) H) (hs : SH o = (ci, N)) (hc : CL[ci]? = some (C, T, N)) (ho : o < n) : ∃ cell : Cell, H[ad o]? = some cell ∧ cell.vm.isStatics = false ∧ s.vm.findClass C = some cell.cls := by
  have he := ws_get (G := G) (ad := ad) (R := R) (M := M) ho
  rw [cont_ob hs (cl_lt hc)] at he
  exact va_recv hK hP hc he
theorem gin {J' : MD} {na : Nat} (h : JB J' na) : GoodIn TB (Cond.code J'.1 J'.2.1 J'.2.2.1 J'.2.2.2.1 :: TB) := fun w hw => by
  rcases List.mem_cons.mp hw with rfl | hw
  · exact tb_goodIn _ h.2.2.1
  · exact tb_goodIn w hw
theorem wp_callV {J' : MD} {stk : List PV} (as : List PV) (o : Nat) {i ci N : Nat} {T : u_T} (hd : decode J.2.1 pc = .ok (.invokevirtual i, 3)) (hJ : JV J' as.length) (hlk : Cond.methodLink J.1.cls i J'.1 ∈ TB) (hst : stk = as.reverse ++ pR o :: st) (hs : SH o = (ci, N)) (hc : CL[ci]? = some (J'.1.cls, T, N)) (ho : o < n) (hlen : ((pR o :: as).map cat).sum ≤ J'.2.2.1) (hrm : rmOk J J' k z st = true)
    (kk : Cl G J' (pR o :: as) n R M (fun r n' R' M' => Wp G J (k + J'.2.2.2.2.2.1) (z + J'.2.2.2.2.2.2.1) (pc + 3) L (r.toList ++ st) n' R' M' Q)) : Wp G J k z pc L stk n R M Q := by
  subst hst
  intro p e s m args below meth c cx ad0 n0 ad H locs ls X hl ok
  obtain ⟨x1, x2, x3, x4, x5, x6, x7, x8⟩ := id X
  obtain ⟨r1, r2, r3⟩ := rmOk_of hrm
  have ok1 : ∀ v ∈ pR o :: as, okV n v := fun v hv => ok.2 v (by
    rcases List.mem_cons.mp hv with rfl | hv
    · exact List.mem_append_right _ List.mem_cons_self
    · exact List.mem_append_left _ (List.mem_reverse.mpr hv))
  have ok2 : okS n L st := ⟨ok.1, fun v hv => ok.2 v (List.mem_append_right _ (List.mem_cons_of_mem _ hv))⟩
  have hM := Met_of (ad := ad) hJ.1 hlen kk x2 x4 x5 ok1
  have ts := cx.2.2.2.2.2.2.2.1
  refine wp_back (J' := J') (as := as) cx X hl ok2 (va_runV (As := as.map (cv ad)) (rest := st.map (cv ad)) (b := ad o) ⟨cx.1, cx.2.1, cx.2.2.2.1, cx.2.2.2.2.1, ts⟩ hM ⟨callB_of as.length ts (gin hJ.1) rfl rfl rfl (ts _ hJ.1.2.2.2) (ts _ hlk) hJ.1.2.1 r1, ts _ hJ.2.1, ts _ hJ.2.2⟩ ⟨PreW_blind _, recv_at cx.2.2.2.2.2.2.2.2.1 x6 hs hc ho, fun U hU hW => ⟨rfl, PreW_at cx X U hU hW⟩⟩ rfl (by simp) hl.1 ?_ (lv_room (by rw [scat]; exact r3)) hd r2)
  simp [cv, va_rf]
theorem wp_callVS {J' : MD} {stk : List PV} (as : List PV) {i : Nat} (hd : decode J.2.1 pc = .ok (.invokevirtual i, 3)) (hJ : JV J' as.length) (hcl : J'.1.cls = "java/lang/String") (hlk : Cond.methodLink J.1.cls i J'.1 ∈ TB) (hst : stk = as.reverse ++ pR 1000 :: st) (hlen : ((pR 1000 :: as).map cat).sum ≤ J'.2.2.1) (hrm : rmOk J J' k z st = true)
    (kk : Cl G J' (pR 1000 :: as) n R M (fun r n' R' M' => Wp G J (k + J'.2.2.2.2.2.1) (z + J'.2.2.2.2.2.2.1) (pc + 3) L (r.toList ++ st) n' R' M' Q)) : Wp G J k z pc L stk n R M Q := by
  subst hst
  intro p e s m args below meth c cx ad0 n0 ad H locs ls X hl ok
  obtain ⟨x1, x2, x3, x4, x5, x6, x7, x8⟩ := id X
  obtain ⟨r1, r2, r3⟩ := rmOk_of hrm
  have ok1 : ∀ v ∈ pR 1000 :: as, okV n v := fun v hv => ok.2 v (by
    rcases List.mem_cons.mp hv with rfl | hv
    · exact List.mem_append_right _ List.mem_cons_self
    · exact List.mem_append_left _ (List.mem_reverse.mpr hv))
  have ok2 : okS n L st := ⟨ok.1, fun v hv => ok.2 v (List.mem_append_right _ (List.mem_cons_of_mem _ hv))⟩
  have hM := Met_of (ad := ad) hJ.1 hlen kk x2 x4 x5 ok1
  have ts := cx.2.2.2.2.2.2.2.1
  have ha : ad 1000 = G.2.2.2.1 0 := x4 0
  have hrc := vk_recv (i := 0) cx.2.2.2.2.2.2.2.2.2.1.2.2.2.1.1 (by decide) x8
  refine wp_back (J' := J') (as := as) cx X hl ok2 (va_runV (As := as.map (cv ad)) (rest := st.map (cv ad)) (b := ad 1000) ⟨cx.1, cx.2.1, cx.2.2.2.1, cx.2.2.2.2.1, ts⟩ hM ⟨callB_of as.length ts (gin hJ.1) rfl rfl rfl (ts _ hJ.1.2.2.2) (ts _ hlk) hJ.1.2.1 r1, ts _ hJ.2.1, ts _ hJ.2.2⟩ ⟨PreW_blind _, by rw [ha, hcl]; exact hrc, fun U hU hW => ⟨rfl, PreW_at cx X U hU hW⟩⟩ rfl (by simp) hl.1 ?_ (lv_room (by rw [scat]; exact r3)) hd r2)
  simp [cv, va_rf]
theorem wp_callS {J' : MD} {stk : List PV} (as : List PV) {i : Nat} (hd : decode J.2.1 pc = .ok (.invokestatic i, 3)) (hJ : JS J' as.length) (hlk : Cond.methodLink J.1.cls i J'.1 ∈ TB) (hst : stk = as.reverse ++ st) (hlen : (as.map cat).sum ≤ J'.2.2.1) (hrm : rmOk J J' k z st = true)
    (kk : Cl G J' as n R M (fun r n' R' M' => Wp G J (k + J'.2.2.2.2.2.1) (z + J'.2.2.2.2.2.2.1) (pc + 3) L (r.toList ++ st) n' R' M' Q)) : Wp G J k z pc L stk n R M Q := by
  subst hst
  intro p e s m args below meth c cx ad0 n0 ad H locs ls X hl ok
  obtain ⟨x1, x2, x3, x4, x5, x6, x7, x8⟩ := id X
  obtain ⟨r1, r2, r3⟩ := rmOk_of hrm
  have ok1 : ∀ v ∈ as, okV n v := fun v hv => ok.2 v (List.mem_append_left _ (List.mem_reverse.mpr hv))
  have ok2 : okS n L st := ⟨ok.1, fun v hv => ok.2 v (List.mem_append_right _ hv)⟩
  have hM := Met_of (ad := ad) hJ.1 hlen kk x2 x4 x5 ok1
  have ts := cx.2.2.2.2.2.2.2.1
  refine wp_back (J' := J') (as := as) cx X hl ok2 (va_runS (As := as.map (cv ad)) (rest := st.map (cv ad)) ⟨cx.1, cx.2.1, cx.2.2.2.1, cx.2.2.2.2.1, ts⟩ hM ⟨callB_of as.length ts (gin hJ.1) rfl rfl rfl (ts _ hJ.1.2.2.2) (ts _ hlk) hJ.1.2.1 r1, ts _ hJ.2⟩ ⟨PreW_blind _, fun U hU hW => ⟨rfl, PreW_at cx X U hU hW⟩⟩ rfl (by simp) hl.1 ?_ (lv_room (by rw [scat]; exact r3)) hd r2)
  simp
theorem wp_callI {J' : MD} {stk : List PV} (as : List PV) (o : Nat) {i : Nat} (hd : decode J.2.1 pc = .ok (.invokespecial i, 3)) (hJ : JI J' as.length) (hret : J'.2.2.2.1 = none) (hlk : Cond.methodLink J.1.cls i J'.1 ∈ TB) (hst : stk = as.reverse ++ pR o :: st) (hlen : ((pR o :: as).map cat).sum ≤ J'.2.2.1) (hrm : rmOk J J' k z st = true)
    (kk : Cl G J' (pR o :: as) n R M (fun r n' R' M' => Wp G J (k + J'.2.2.2.2.2.1) (z + J'.2.2.2.2.2.2.1) (pc + 3) L (r.toList ++ st) n' R' M' Q)) : Wp G J k z pc L stk n R M Q := by
  subst hst
  intro p e s m args below meth c cx ad0 n0 ad H locs ls X hl ok
  obtain ⟨x1, x2, x3, x4, x5, x6, x7, x8⟩ := id X
  obtain ⟨r1, r2, r3⟩ := rmOk_of hrm
  have ok1 : ∀ v ∈ pR o :: as, okV n v := fun v hv => ok.2 v (by
    rcases List.mem_cons.mp hv with rfl | hv
    · exact List.mem_append_right _ List.mem_cons_self
    · exact List.mem_append_left _ (List.mem_reverse.mpr hv))
  have ok2 : okS n L st := ⟨ok.1, fun v hv => ok.2 v (List.mem_append_right _ (List.mem_cons_of_mem _ hv))⟩
  have hM := Met_of (ad := ad) hJ.1 hlen kk x2 x4 x5 ok1
  have ts := cx.2.2.2.2.2.2.2.1
  have hg := gin hJ.1
  rw [hret] at hM hg
  refine wp_back (J' := J') (as := as) cx X hl ok2 (va_runI (As := as.map (cv ad)) (rest := st.map (cv ad)) (b := ad o) ⟨cx.1, cx.2.1, cx.2.2.2.1, cx.2.2.2.2.1, ts⟩ hM (cwI as.length ts hg rfl rfl rfl (ts _ hJ.1.2.2.2) (ts _ hlk) (ts _ hJ.2.1) hJ.2.2 hJ.1.2.1 r1) ⟨PreW_blind _, fun U hU hW => ⟨rfl, PreW_at cx X U hU hW⟩⟩ rfl (by simp) hl.1 ?_ (lv_room (by rw [scat]; exact r3)) hd r2)
  simp [cv, va_rf]
theorem wp_callIN {J' : MD} {stk : List PV} (as : List PV) (o : Nat) {i : Nat} {host : String} (hd : decode J.2.1 pc = .ok (.invokespecial i, 3)) (hJ : JI J' as.length) (hret : J'.2.2.2.1 = none) (hlk : (J.1.cls, i, J'.1, host) ∈ NWL) (hst : stk = as.reverse ++ pR o :: st) (hlen : ((pR o :: as).map cat).sum ≤ J'.2.2.1) (hrm : rmOk J J' k z st = true)
    (kk : Cl G J' (pR o :: as) n R M (fun r n' R' M' => Wp G J (k + J'.2.2.2.2.2.1) (z + J'.2.2.2.2.2.2.1) (pc + 3) L (r.toList ++ st) n' R' M' Q)) : Wp G J k z pc L stk n R M Q := by
  subst hst
  intro p e s m args below meth c cx ad0 n0 ad H locs ls X hl ok
  obtain ⟨x1, x2, x3, x4, x5, x6, x7, x8⟩ := id X
  obtain ⟨r1, r2, r3⟩ := rmOk_of hrm
  have ok1 : ∀ v ∈ pR o :: as, okV n v := fun v hv => ok.2 v (by
    rcases List.mem_cons.mp hv with rfl | hv
    · exact List.mem_append_right _ List.mem_cons_self
    · exact List.mem_append_left _ (List.mem_reverse.mpr hv))
  have ok2 : okS n L st := ⟨ok.1, fun v hv => ok.2 v (List.mem_append_right _ (List.mem_cons_of_mem _ hv))⟩
  have hM := Met_of (ad := ad) hJ.1 hlen kk x2 x4 x5 ok1
  have ts := cx.2.2.2.2.2.2.2.1
  have hg := gin hJ.1
  rw [hret] at hM hg
  refine wp_back (J' := J') (as := as) cx X hl ok2 (va_runIN (As := as.map (cv ad)) (rest := st.map (cv ad)) (b := ad o) ⟨cx.1, cx.2.1, cx.2.2.2.1, cx.2.2.2.2.1, ts⟩ hM ⟨va_cnB as.length ts hg rfl rfl rfl (cx.2.2.2.2.2.2.2.2.2.1.2.2.1 _ hlk) (ts _ hJ.1.2.2.2) hJ.1.2.1 r1, hJ.2.2, ts _ hJ.2.1⟩ ⟨PreW_blind _, fun U hU hW => ⟨rfl, PreW_at cx X U hU hW⟩⟩ rfl (by simp) hl.1 ?_ (lv_room (by rw [scat]; exact r3)) hd r2)
  simp [cv, va_rf]
theorem wp_callSN {J' : MD} {stk : List PV} (as : List PV) {i : Nat} {host : String} (hd : decode J.2.1 pc = .ok (.invokestatic i, 3)) (hJ : JS J' as.length) (hlk : (J.1.cls, i, J'.1, host) ∈ NWL) (hst : stk = as.reverse ++ st) (hlen : (as.map cat).sum ≤ J'.2.2.1) (hrm : rmOk J J' k z st = true)
    (kk : Cl G J' as n R M (fun r n' R' M' => Wp G J (k + J'.2.2.2.2.2.1) (z + J'.2.2.2.2.2.2.1) (pc + 3) L (r.toList ++ st) n' R' M' Q)) : Wp G J k z pc L stk n R M Q := by
  subst hst
  intro p e s m args below meth c cx ad0 n0 ad H locs ls X hl ok
  obtain ⟨x1, x2, x3, x4, x5, x6, x7, x8⟩ := id X
  obtain ⟨r1, r2, r3⟩ := rmOk_of hrm
  have ok1 : ∀ v ∈ as, okV n v := fun v hv => ok.2 v (List.mem_append_left _ (List.mem_reverse.mpr hv))
  have ok2 : okS n L st := ⟨ok.1, fun v hv => ok.2 v (List.mem_append_right _ hv)⟩
  have hM := Met_of (ad := ad) hJ.1 hlen kk x2 x4 x5 ok1
  have ts := cx.2.2.2.2.2.2.2.1
  refine wp_back (J' := J') (as := as) cx X hl ok2 (va_runSN (As := as.map (cv ad)) (rest := st.map (cv ad)) ⟨cx.1, cx.2.1, cx.2.2.2.1, cx.2.2.2.2.1, ts⟩ hM ⟨va_cnB as.length ts (gin hJ.1) rfl rfl rfl (cx.2.2.2.2.2.2.2.2.2.1.2.2.1 _ hlk) (ts _ hJ.1.2.2.2) hJ.1.2.1 r1, ts _ hJ.2, trivial⟩ ⟨PreW_blind _, fun U hU hW => ⟨rfl, PreW_at cx X U hU hW⟩⟩ rfl (by simp) hl.1 ?_ (lv_room (by rw [scat]; exact r3)) hd r2)
  simp
theorem wp_objInit {i : Nat} {o : Nat} (hd : decode J.2.1 pc = .ok (.invokespecial i, 3)) (hlk : Cond.methodLink J.1.cls i objectInit ∈ TB) (h1 : 1 ≤ J.2.2.2.2.1) (h2 : (st.map cat).sum + 12 ≤ J.2.2.2.2.2.2.2) (hin : Cond.instanceMethod objectInit ∈ TB) (hco : Cond.code objectInit ⟨#[0xb1]⟩ 1 none ∈ TB) (kk : Wp G J k z (pc + 3) L st n R M Q) : Wp G J k z pc L (pR o :: st) n R M Q := by
  intro p e s m args below meth c cx ad0 n0 ad H locs ls X hl ok
  have ts := cx.2.2.2.2.2.2.2.1
  refine W.objInit cx.1 cx.2.1 cx.2.2.2.2.1 (ts _ hlk) (ts _ hin) (ts _ hco) rfl (hl.1.trans cx.2.2.2.1.symm) (rest := st.map (cv ad)) rfl hd h1 (by
    rw [scat]
    show 2 * 0 + _ + 12 ≤ _
    rw [Nat.mul_zero, Nat.zero_add]
    exact h2) ?_
  exact kk p e s m args below meth c cx ad0 n0 ad H locs ls X hl (okS_pop ok).2
end PCALL

