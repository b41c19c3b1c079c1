/-! the class's YEARS -/
def CD (D : DT) (M : MT) : Prop := M 1 4 = (dn D : Int) ∧ (∀ j, j < dn D → Tn M (10 + 2 * j) (dT D j)) ∧ CB M (db D) (dB D) ∧ M 1 6 = (dl D : Int) ∧ ∀ l, l < dl D → ∀ k, k < 4 → M (28 + l) k = dL D l k
/-- what a query of the class may change -/
def FC (M M' : MT) : Prop := ∀ q k, ¬ (40 ≤ q ∧ q ≤ 91) → ¬ (28 ≤ q ∧ q ≤ 39 ∧ 4 ≤ k) → M' q k = M q k
def FY (M M' : MT) : Prop := ∀ q k, ¬ (41 ≤ q ∧ q ≤ 45) → ¬ (49 ≤ q ∧ q ≤ 72) → q ≠ 85 → ¬ (28 ≤ q ∧ q ≤ 39 ∧ 4 ≤ k) → M' q k = M q k
theorem FC.rf {M : MT} : FC M M := fun _ _ _ _ => rfl
theorem FC.tr {M M' M'' : MT} (h : FC M M') (h' : FC M' M'') : FC M M'' := fun q k a b => (h' q k a b).trans (h q k a b)
theorem FY.rf {M : MT} : FY M M := fun _ _ _ _ _ _ => rfl
theorem FY.tr {M M' M'' : MT} (h : FY M M') (h' : FY M' M'') : FY M M'' := fun q k a b c d => (h' q k a b c d).trans (h q k a b c d)
theorem FY.fc {M M' : MT} (h : FY M M') : FC M M' := fun q k a b => h q k (by omega) (by omega) (by omega) b
theorem FY.fr {S : List Nat} {M M' : MT} (h : Fr S M M') (hs : ∀ q ∈ S, (41 ≤ q ∧ q ≤ 45) ∨ (49 ≤ q ∧ q ≤ 72) ∨ q = 85) : FY M M' := fun q k a b c _ => h q (fun hq => by
  have := hs q hq
  omega) k
theorem FY.m1 {M : MT} {o k : Nat} {v : Int} (h : (41 ≤ o ∧ o ≤ 45) ∨ (49 ≤ o ∧ o ≤ 72) ∨ o = 85) : FY M (mu M o k v) := fun q j a b c _ => mu_o (by omega)
theorem FY.lo {M : MT} {i k : Nat} {v : Int} (hi : i < 12) (hk : 4 ≤ k) : FY M (mu M (28 + i) k v) := fun q j _ _ _ d => by
  unfold mu
  rw [if_neg (by omega)]
theorem FC.fr {S : List Nat} {M M' : MT} (h : Fr S M M') (hs : ∀ q ∈ S, 40 ≤ q ∧ q ≤ 91) : FC M M' := fun q k a _ => h q (fun hq => a (hs q hq)) k
theorem Tn.fc {M M' : MT} {o : Nat} {l : List Int} (h : Tn M o l) (f : FC M M') (ho : o + 1 < 28) : Tn M' o l := ⟨(f o 1 (by omega) (by omega)).trans h.1, fun i hi => (f _ _ (by omega) (by omega)).trans (h.2 i hi)⟩
theorem CD.fc {D : DT} (ok : okD D) {M M' : MT} (h : CD D M) (f : FC M M') : CD D M' := by
  have o1 := ok.1
  have o2 := ok.2.2.1
  have o3 := ok.2.2.2.2.1
  refine ⟨(f _ _ (by omega) (by omega)).trans h.1, fun j hj => (h.2.1 j hj).fc f (by omega), ⟨(f _ _ (by omega) (by omega)).trans h.2.2.1.1, fun i hi => ?_⟩, (f _ _ (by omega) (by omega)).trans h.2.2.2.1, fun l hl k hk => (f _ _ (by omega) (by omega)).trans (h.2.2.2.2 l hl k hk)⟩
  have hb := h.2.2.1.2 i hi
  exact ⟨(f _ _ (by omega) (by omega)).trans hb.1, (f _ _ (by omega) (by omega)).trans hb.2.1, (f _ _ (by omega) (by omega)).trans hb.2.2⟩
def YPC (D : DT) (M : MT) (y : YT) : Prop := (∀ t, t < dn D → Tn M (49 + 4 * t) (yN y t)) ∧ (∀ t, t < dn D → M 43 t = yH y t) ∧ (∀ t, t < dn D → ¬ yH y t = -1 → Tn M (51 + 4 * t) (yE y t)) ∧ ∀ l, l < dl D → M (28 + l) 4 = yC y l ∧ M (28 + l) 5 = yB y l ∧ M (28 + l) 6 = yM y l
theorem yt_lend {D : DT} {yr l t : Nat} {y : YT} (ht : dL D l 1 = (t : Int)) (c : (dL D l 0 = (yr : Int) ∧ dL D l 1 < (dn D : Int) ∧ dL D l 2 < (db D : Int)) ∧ yH y t = -1) : lendY D yr l y = (yN y, fu (yH y) t (l : Int), fu (yE y) t (yN y t), fu (yC y) l 1, yB y, yM y) := by
  unfold lendY
  rw [ht, tN, ← ht, if_pos c]
theorem yt_lend_n {D : DT} {yr l t : Nat} {y : YT} (ht : dL D l 1 = (t : Int)) (c : ¬ ((dL D l 0 = (yr : Int) ∧ dL D l 1 < (dn D : Int) ∧ dL D l 2 < (db D : Int)) ∧ yH y t = -1)) : lendY D yr l y = y := by
  unfold lendY
  rw [ht, tN, ← ht, if_neg c]
section CYE
variable {G : GT} {M : MT} {P : MT → Prop} {D : DT}
theorem c_ye_lendOut (ok : okD D) (yr : Nat) (y : YT) (h1 : CD D M) (h2 : YPC D M y) (h3 : YI D (yr + 1) yr y) (hp : ∀ M', FY M M' → YPC D M' (itr (lendY D yr) (dl D) y) → P M') : ClV G J_ye_lendOut M [pR 40, pR 1, pI (yr : Int)] P := by
  have o1 := ok.1
  have o3 := ok.2.2.2.2.1
  have lp : ∀ (d i : Nat) (M1 : MT), i + d = dl D → FY M M1 → YPC D M1 (itr (lendY D yr) i y) → WpV G J_ye_lendOut 2 [(0, pR 40), (1, pR 1), (2, pI (yr : Int)), (3, pI (i : Int))] [] M1 P := by
    intro d
    induction d with
    | zero =>
      intro i M1 hi hf hy
      have hc := h1.fc ok hf.fc
      have hie : i = dl D := by omega
      subst hie
      exact b_ye_lendOut_2 _ _ ⟨fun _ => hp M1 hf hy, fun c => by rw [hc.2.2.2.1] at c; omega⟩
    | succ d ih =>
      intro i M1 hi hf hy
      have hc := h1.fc ok hf.fc
      have hI := YI.lendsAll ok h3 i (by omega)
      have ih' := fun M2 (hf2 : FY M1 M2) (hy2 : YPC D M2 (itr (lendY D yr) (i + 1) y)) => ih (i + 1) M2 (by omega) (hf.tr hf2) hy2
      have il : i < dl D := by omega
      have e : itr (lendY D yr) (i + 1) y = lendY D yr i (itr (lendY D yr) i y) := rfl
      rw [e] at ih'
      generalize itr (lendY D yr) i y = yi at *
      have ov := ok.2.2.2.2.2 i il
      have a0 := hc.2.2.2.2 i il 0 (by omega)
      have a1 := hc.2.2.2.2 i il 1 (by omega)
      have a2 := hc.2.2.2.2 i il 2 (by omega)
      obtain ⟨t, ht⟩ : ∃ t : Nat, dL D i 1 = (t : Int) := ⟨(dL D i 1).toNat, by omega⟩
      have skip : ¬ ((dL D i 0 = (yr : Int) ∧ dL D i 1 < (dn D : Int) ∧ dL D i 2 < (db D : Int)) ∧ yH yi t = -1) → WpV G J_ye_lendOut 2 [(0, pR 40), (1, pR 1), (2, pI (yr : Int)), (3, pI (w32 ((i : Int) + 1)))] [] M1 P := by
        intro c
        rw [wi (by omega)]
        exact ih' M1 FY.rf (by rw [yt_lend_n ht c]; exact hy)
      refine b_ye_lendOut_2 _ _ ⟨fun c => by rw [hc.2.2.2.1] at c; omega, fun _ => ⟨⟨by omega, by omega⟩, ?_⟩⟩
      rw [tN, a0, a1, a2, hc.1, hc.2.2.1.1]
      refine ⟨fun c => ⟨fun _ => skip (by omega), fun _ => skip (by omega)⟩, fun c => ⟨fun c2 => ⟨fun _ => skip (by omega), fun _ => skip (by omega)⟩, fun c2 => ⟨fun c3 => skip (by omega), fun c3 => ⟨⟨by omega, by omega⟩, ?_⟩⟩⟩⟩
      have htn : t < dn D := by omega
      rw [ht, tN, hy.2.1 t htn]
      refine ⟨fun c4 => skip (by omega), fun c4 => ?_⟩
      rintro M2 rfl
      rw [mu_k (by decide), a1, ht, tN]
      refine ⟨⟨by omega, by omega⟩, ?_⟩
      rintro M3 rfl
      rw [mu_o (by omega), mu_k (by decide), a1, ht, tN]
      refine ⟨⟨by omega, by omega⟩, ⟨by omega, by omega⟩, ?_⟩
      have tn1 : Tn (mu (mu M1 (28 + i) 4 1) 43 t (i : Int)) (49 + 4 * t) (yN yi t) := by
        have := hy.1 t htn
        exact ⟨by rw [mu_o (by omega), mu_o (by omega)]; exact this.1, fun k hk => by rw [mu_o (by omega), mu_o (by omega)]; exact this.2 k hk⟩
      refine c_tu_become (51 + 4 * t) (k_lent t (by omega)).2 (49 + 4 * t) (k_now t (by omega)).2 _ tn1 (hI.1 t htn).1.1 (by omega) (by omega) (fun M4 hf4 ht4 => ?_)
      rw [wi (by omega)]
      refine ih' M4 (FY.tr (FY.tr (FY.lo (by omega) (by omega)) (FY.m1 (by omega))) (FY.fr hf4 (by intro q hq; simp at hq; omega))) ?_
      rw [yt_lend ht ⟨⟨c3, c, c2⟩, c4⟩]
      refine ⟨fun u hu => ?_, fun u hu => ?_, fun u hu hh => ?_, fun l hl => ?_⟩
      · have := hy.1 u hu
        refine Tn.fr ?_ hf4 (nm2 (by omega) (by omega)) (nm2 (by omega) (by omega))
        exact ⟨by rw [mu_o (by omega), mu_o (by omega)]; exact this.1, fun k hk => by rw [mu_o (by omega), mu_o (by omega)]; exact this.2 k hk⟩
      · rw [hf4 43 (nm2 (by omega) (by omega))]
        show _ = fu (yH yi) t (i : Int) u
        by_cases eu : u = t
        · rw [eu, mu_eq, fu_eq]
        · rw [mu_k eu, mu_o (by omega), fu_ne eu]
          exact hy.2.1 u hu
      · have hh' : ¬ fu (yH yi) t (i : Int) u = -1 := hh
        show Tn M4 (51 + 4 * u) (fu (yE yi) t (yN yi t) u)
        by_cases eu : u = t
        · rw [eu, fu_eq]
          exact ht4
        · rw [fu_ne eu] at hh' ⊢
          have := hy.2.2.1 u hu hh'
          refine Tn.fr ?_ hf4 (nm2 (by omega) (by omega)) (nm2 (by omega) (by omega))
          exact ⟨by rw [mu_o (by omega), mu_o (by omega)]; exact this.1, fun k hk => by rw [mu_o (by omega), mu_o (by omega)]; exact this.2 k hk⟩
      · have b := hy.2.2.2 l hl
        have f : ∀ k, M4 (28 + l) k = mu M1 (28 + i) 4 1 (28 + l) k := fun k => (hf4 (28 + l) (nm2 (by omega) (by omega)) k).trans (mu_o (by omega))
        rw [f, f, f, mu_k (k' := 5) (show 5 ≠ 4 by decide), mu_k (k' := 6) (show 6 ≠ 4 by decide)]
        refine ⟨?_, b.2.1, b.2.2⟩
        show _ = fu (yC yi) i 1 l
        by_cases el : l = i
        · rw [el, mu_eq, fu_eq]
        · rw [mu_o (by omega), fu_ne el]
          exact b.1
  refine e_ye_lendOut _ (lp (dl D) 0 M (by omega) FY.rf h2)
theorem c_ye_humLent (ok : okD D) (b c : Int) (y : YT) (h1 : CD D M) (h2 : YPC D M y) (h3 : YI D b c y) (hp : ∀ M', FY M M' → YPC D M' (itr (humY D) (dn D) y) → P M') : ClV G J_ye_humLent M [pR 40, pR 1] P := by
  have o1 := ok.1
  have o2 := ok.2.2.1
  have o3 := ok.2.2.2.2.1
  have lp : ∀ (d i : Nat) (M1 : MT), i + d = dn D → FY M M1 → YPC D M1 (itr (humY D) i y) → WpV G J_ye_humLent 2 [(0, pR 40), (1, pR 1), (2, pI (i : Int))] [] M1 P := by
    intro d
    induction d with
    | zero =>
      intro i M1 hi hf hy
      have hc := h1.fc ok hf.fc
      have hie : i = dn D := by omega
      subst hie
      exact b_ye_humLent_2 _ ⟨fun _ => hp M1 hf hy, fun c => by rw [hc.1] at c; omega⟩
    | succ d ih =>
      intro i M1 hi hf hy
      have hc := h1.fc ok hf.fc
      have hI := YI.humAll ok h3 i (by omega)
      have ih' := fun M2 (hf2 : FY M1 M2) (hy2 : YPC D M2 (itr (humY D) (i + 1) y)) => ih (i + 1) M2 (by omega) (hf.tr hf2) hy2
      have il : i < dn D := by omega
      have e : itr (humY D) (i + 1) y = humY D i (itr (humY D) i y) := rfl
      rw [e] at ih'
      generalize itr (humY D) i y = yi at *
      refine b_ye_humLent_2 _ ⟨fun c => by rw [hc.1] at c; omega, fun _ => ⟨⟨by omega, by omega⟩, ?_⟩⟩
      rw [tN, hy.2.1 i il]
      refine ⟨fun c2 => ?_, fun c2 => ⟨⟨by omega, by omega⟩, ⟨by omega, by omega⟩, ?_⟩⟩
      · rw [wi (by omega)]
        refine ih' M1 FY.rf ?_
        unfold humY
        rw [if_pos c2]
        exact hy
      · obtain ⟨h, b1, b2, b3, b4, b5, b6⟩ := hI.2.1 i il c2
        have ov := ok.2.2.2.2.2 h b2
        have e2 : humY D i yi = (fu (yN yi) i (humB (dB D) (dL D h 2).toNat (yN yi i)), yH yi, yE yi, yC yi, yB yi, yM yi) := by
          unfold humY
          rw [if_neg c2, b1, tN]
        rw [e2] at ih'
        rw [b1, tN, hc.2.2.2.2 h b2 2 (by omega)]
        obtain ⟨w, hw⟩ : ∃ w : Nat, dL D h 2 = (w : Int) := ⟨(dL D h 2).toNat, by omega⟩
        rw [hw, tN] at ih' ⊢
        refine ⟨⟨by omega, by omega⟩, ⟨by omega, by omega⟩, ?_⟩
        have bb := hc.2.2.1.2 w (by omega)
        refine c_tu_becomeHummed 44 tu_spare (49 + 4 * i) (k_now i (by omega)).2 (22 + w) (k_borrowers w (by omega)).2 (yN yi i) _ _ _ (hI.1 i il).1.1 ⟨by omega, by omega, by omega⟩ (nm2 (by omega) (by omega)) (hy.1 i il) bb.1 bb.2.1 bb.2.2 (ok.bw w (by omega)) (fun M2 hf2 ht2 => ⟨⟨by omega, by omega⟩, ?_⟩)
        refine c_tu_become (49 + 4 * i) (k_now i (by omega)).2 44 tu_spare _ ht2 (humL_le _ _ _ _) (by omega) (by omega) (fun M3 hf3 ht3 => ?_)
        rw [wi (by omega)]
        refine ih' M3 (FY.tr (FY.fr hf2 (by intro q hq; simp at hq; omega)) (FY.fr hf3 (by intro q hq; simp at hq; omega))) ?_
        refine ⟨fun u hu => ?_, fun u hu => ?_, fun u hu hh => ?_, fun l hl => ?_⟩
        · show Tn M3 (49 + 4 * u) (fu (yN yi) i _ u)
          by_cases eu : u = i
          · rw [eu, fu_eq]
            exact ht3
          · rw [fu_ne eu]
            exact ((hy.1 u hu).fr hf2 (nm2 (by omega) (by omega)) (nm2 (by omega) (by omega))).fr hf3 (nm2 (by omega) (by omega)) (nm2 (by omega) (by omega))
        · rw [hf3 43 (nm2 (by omega) (by omega)), hf2 43 (nm2 (by omega) (by omega))]
          exact hy.2.1 u hu
        · exact ((hy.2.2.1 u hu hh).fr hf2 (nm2 (by omega) (by omega)) (nm2 (by omega) (by omega))).fr hf3 (nm2 (by omega) (by omega)) (nm2 (by omega) (by omega))
        · have f : ∀ k, M3 (28 + l) k = M1 (28 + l) k := fun k => (hf3 _ (nm2 (by omega) (by omega)) k).trans (hf2 _ (nm2 (by omega) (by omega)) k)
          rw [f, f, f]
          exact hy.2.2.2 l hl
  exact e_ye_humLent (lp (dn D) 0 M (by omega) FY.rf h2)
theorem c_ye_comeBack (ok : okD D) (yr : Nat) (hyr : yr < 40) (e : Int) (y : YT) (h1 : CD D M) (h2 : YPC D M y) (h3 : YI D (yr + 1) (yr + 1) y) (hp : ∀ M', FY M M' → YPC D M' (itr (backY D e yr) (dn D) y) → P M') : ClV G J_ye_comeBack M [pR 40, pR 1, pI (yr : Int), pI e, pR 84] P := by
  have o1 := ok.1
  have o3 := ok.2.2.2.2.1
  have lp : ∀ (d i : Nat) (M1 : MT), i + d = dn D → FY M M1 → YPC D M1 (itr (backY D e yr) i y) → WpV G J_ye_comeBack 3 [(0, pR 40), (1, pR 1), (2, pI (yr : Int)), (3, pI e), (4, pR 84), (5, pI (i : Int))] [] M1 P := by
    intro d
    induction d with
    | zero =>
      intro i M1 hi hf hy
      have hc := h1.fc ok hf.fc
      have hie : i = dn D := by omega
      subst hie
      exact b_ye_comeBack_3 _ _ _ ⟨fun _ => hp M1 hf hy, fun c => by rw [hc.1] at c; omega⟩
    | succ d ih =>
      intro i M1 hi hf hy
      have hc := h1.fc ok hf.fc
      have hI := YI.backAll ok (e := e) h3 i (by omega)
      have ih' := fun M2 (hf2 : FY M1 M2) (hy2 : YPC D M2 (itr (backY D e yr) (i + 1) y)) => ih (i + 1) M2 (by omega) (hf.tr hf2) hy2
      have il : i < dn D := by omega
      have es : itr (backY D e yr) (i + 1) y = backY D e yr i (itr (backY D e yr) i y) := rfl
      rw [es] at ih'
      generalize itr (backY D e yr) i y = yi at *
      refine b_ye_comeBack_3 _ _ _ ⟨fun c => by rw [hc.1] at c; omega, fun _ => ⟨⟨by omega, by omega⟩, ?_⟩⟩
      rw [tN, hy.2.1 i il]
      refine ⟨fun c2 => ⟨⟨by omega, by omega⟩, ?_⟩, fun c2 => ?_⟩
      · obtain ⟨h, b1, b2, b3, b4, b5, b6⟩ := hI.2.1 i il c2
        have ov := ok.2.2.2.2.2 h b2
        rw [b1, tN, hc.2.2.2.2 h b2 0 (by omega), hc.2.2.2.2 h b2 3 (by omega), w32_s (x := dL D h 0 + dL D h 3) (by omega) (by omega), w32_s (x := dL D h 0 + dL D h 3 - 1) (by omega) (by omega)]
        refine ⟨⟨by omega, by omega⟩, fun c3 => ?_, fun c3 => ⟨⟨by omega, by omega⟩, ?_⟩⟩
        · rw [wi (by omega)]
          refine ih' M1 FY.rf ?_
          unfold backY
          rw [if_neg (by rw [b1, tN]; omega)]
          exact hy
        · have e2 : backY D e yr i yi = (if badY e yi i then fu (yN yi) i (yE yi i) else yN yi, fu (yH yi) i (-1), yE yi, yC yi, fu (yB yi) h (if badY e yi i then 1 else 0), fu (yM yi) h (((yN yi i).length : Int) - ((yE yi i).length : Int))) := by
            unfold backY
            rw [if_pos (by rw [b1, tN]; exact ⟨by omega, c3⟩), b1, tN]
          rw [e2] at ih'
          have tn0 := hy.1 i il
          have te0 := hy.2.2.1 i il c2
          have ln := (hI.1 i il).1
          have le := (hI.1 i il).2 c2
          rintro M2 rfl
          refine ⟨⟨by omega, by omega⟩, ⟨by omega, by omega⟩, ?_⟩
          rw [mu_o (by omega), mu_o (by omega), tn0.1, te0.1, w32_s (by have := ln.1; have := le.1; omega) (by have := ln.1; have := le.1; omega)]
          rintro M3 rfl
          refine ⟨⟨by omega, by omega⟩, ⟨by omega, by omega⟩, ?_⟩
          have keep : ∀ o l, Tn M1 o l → o ≠ 43 → o + 1 ≠ 43 → ¬ (28 ≤ o + 1 ∧ o ≤ 39) → Tn (mu (mu M1 43 i (-1)) (28 + h) 6 (((yN yi i).length : Int) - ((yE yi i).length : Int))) o l := fun o l ht g1 g2 g3 => ⟨by rw [mu_o (by omega), mu_o (by omega)]; exact ht.1, fun k hk => by rw [mu_o (by omega), mu_o (by omega)]; exact ht.2 k hk⟩
          refine c_li_of (51 + 4 * i) (k_lent i (by omega)).2 (49 + 4 * i) (k_now i (by omega)).2 (yE yi i) (yN yi i) (keep _ _ te0 (by omega) (by omega) (by omega)) (keep _ _ tn0 (by omega) (by omega) (by omega)) le.1 ln.1 le.nt ln.nt (by simp; omega) (by simp; omega) (by simp; omega) (by simp; omega) (fun M4 hf4 => ?_)
          have te4 : ∀ u l, u < 6 → (Tn M1 (49 + 4 * u) l → Tn M4 (49 + 4 * u) l) ∧ (Tn M1 (51 + 4 * u) l → Tn M4 (51 + 4 * u) l) := fun u l hu6 => ⟨fun ht => (keep _ _ ht (by omega) (by omega) (by omega)).fr hf4 (by simp; omega) (by simp; omega), fun ht => (keep _ _ ht (by omega) (by omega) (by omega)).fr hf4 (by simp; omega) (by simp; omega)⟩
          have h43 : ∀ u, u < dn D → M4 43 u = fu (yH yi) i (-1) u := fun u hu => by
            rw [hf4 43 (by simp), mu_o (by omega)]
            by_cases eu : u = i
            · rw [eu, mu_eq, fu_eq]
            · rw [mu_k eu, fu_ne eu]
              exact hy.2.1 u hu
          have hlo : ∀ l k, l < 12 → M4 (28 + l) k = if l = h ∧ k = 6 then (((yN yi i).length : Int) - ((yE yi i).length : Int)) else M1 (28 + l) k := fun l k hl => by
            rw [hf4 (28 + l) (by simp; omega)]
            by_cases g : l = h ∧ k = 6
            · rw [if_pos g, g.1, g.2, mu_eq]
            · rw [if_neg g]
              by_cases g2 : l = h
              · rw [g2, mu_k (by omega), mu_o (by omega)]
              · rw [mu_o (by omega), mu_o (by omega)]
          have hf : FY M1 M4 := FY.tr (FY.tr (FY.m1 (by omega)) (FY.lo (by omega) (by omega))) (FY.fr hf4 (by intro q hq; simp at hq; omega))
          have loans : ∀ (v : Int) (M6 : MT), (if badY e yi i then 1 else 0) = v → (∀ l k, l < 12 → M6 (28 + l) k = mu M4 (28 + h) 5 v (28 + l) k) → ∀ l, l < dl D → M6 (28 + l) 4 = yC yi l ∧ M6 (28 + l) 5 = fu (yB yi) h (if badY e yi i then 1 else 0) l ∧ M6 (28 + l) 6 = fu (yM yi) h (((yN yi i).length : Int) - ((yE yi i).length : Int)) l := fun v M6 hv h6 l hl => by
            have b := hy.2.2.2 l hl
            rw [h6 _ _ (by omega), h6 _ _ (by omega), h6 _ _ (by omega), hv]
            by_cases g : l = h
            · rw [g, mu_k (by decide), mu_eq, mu_k (by decide), fu_eq, fu_eq, hlo _ _ (by omega), hlo _ _ (by omega), if_neg (by omega), if_pos ⟨rfl, rfl⟩, ← g]
              exact ⟨b.1, rfl, rfl⟩
            · rw [mu_o (by omega), mu_o (by omega), mu_o (by omega), fu_ne g, fu_ne g, hlo _ _ (by omega), hlo _ _ (by omega), hlo _ _ (by omega), if_neg (by omega), if_neg (by omega), if_neg (by omega)]
              exact b
          have zero : ¬ badY e yi i → ∀ M5, M5 = mu M4 (28 + h) 5 0 → WpV G J_ye_comeBack 3 [(0, pR 40), (1, pR 1), (2, pI (yr : Int)), (3, pI e), (4, pR 84), (5, pI (w32 ((i : Int) + 1)))] [] M5 P := by
            rintro hb M5 rfl
            rw [wi (by omega)]
            refine ih' _ (hf.tr (FY.lo (by omega) (by omega))) ⟨fun u hu => ?_, fun u hu => ?_, fun u hu hh => ?_, loans 0 _ (if_neg hb) (fun _ _ _ => rfl)⟩
            · show Tn _ _ ((if badY e yi i then fu (yN yi) i (yE yi i) else yN yi) u)
              rw [if_neg hb]
              have := (te4 u _ (by omega)).1 (hy.1 u hu)
              exact ⟨by rw [mu_o (by omega)]; exact this.1, fun k hk => by rw [mu_o (by omega)]; exact this.2 k hk⟩
            · rw [mu_o (by omega)]
              exact h43 u hu
            · have hh' : ¬ fu (yH yi) i (-1) u = -1 := hh
              have eu : u ≠ i := fun z => hh' (by rw [z, fu_eq])
              rw [fu_ne eu] at hh'
              have := (te4 u _ (by omega)).2 (hy.2.2.1 u hu hh')
              exact ⟨by rw [mu_o (by omega)]; exact this.1, fun k hk => by rw [mu_o (by omega)]; exact this.2 k hk⟩
          have te4i := (te4 i _ (by omega)).2 te0
          refine ⟨fun c4 => ?_, fun c4 => ⟨⟨by omega, by omega⟩, ?_, ?_⟩⟩
          · rintro M5 rfl
            refine ⟨fun _ => zero (by omega) _ rfl, fun c5 => absurd (mu_eq _ _ _ _) c5⟩
          · rw [te4i.1]
            intro c5
            rintro M5 rfl
            refine ⟨fun _ => zero (by omega) _ rfl, fun c5 => absurd (mu_eq _ _ _ _) c5⟩
          · rw [te4i.1]
            intro c5
            have hb : badY e yi i := ⟨c4, by omega⟩
            rintro M5 rfl
            refine ⟨fun c6 => absurd c6 (by rw [mu_eq]; decide), fun _ => ⟨⟨by omega, by omega⟩, ⟨by omega, by omega⟩, ?_⟩⟩
            refine c_tu_become (49 + 4 * i) (k_now i (by omega)).2 (51 + 4 * i) (k_lent i (by omega)).2 (yE yi i) ⟨by rw [mu_o (by omega)]; exact te4i.1, fun k hk => by rw [mu_o (by omega)]; exact te4i.2 k hk⟩ le.1 (by omega) (by omega) (fun M6 hf6 ht6 => ?_)
            rw [wi (by omega)]
            refine ih' _ (FY.tr (FY.tr hf (FY.lo (by omega) (by omega))) (FY.fr hf6 (by intro q hq; simp at hq; omega))) ⟨fun u hu => ?_, fun u hu => ?_, fun u hu hh => ?_, loans 1 M6 (if_pos hb) (fun l k hl => hf6 _ (nm2 (by omega) (by omega)) k)⟩
            · show Tn _ _ ((if badY e yi i then fu (yN yi) i (yE yi i) else yN yi) u)
              rw [if_pos hb]
              by_cases eu : u = i
              · rw [eu, fu_eq]
                exact ht6
              · rw [fu_ne eu]
                have := (te4 u _ (by omega)).1 (hy.1 u hu)
                exact Tn.fr ⟨by rw [mu_o (by omega)]; exact this.1, fun k hk => by rw [mu_o (by omega)]; exact this.2 k hk⟩ hf6 (nm2 (by omega) (by omega)) (nm2 (by omega) (by omega))
            · rw [hf6 43 (nm2 (by omega) (by omega)), mu_o (by omega)]
              exact h43 u hu
            · have hh' : ¬ fu (yH yi) i (-1) u = -1 := hh
              have eu : u ≠ i := fun z => hh' (by rw [z, fu_eq])
              rw [fu_ne eu] at hh'
              have := (te4 u _ (by omega)).2 (hy.2.2.1 u hu hh')
              exact Tn.fr ⟨by rw [mu_o (by omega)]; exact this.1, fun k hk => by rw [mu_o (by omega)]; exact this.2 k hk⟩ hf6 (nm2 (by omega) (by omega)) (nm2 (by omega) (by omega))
      · rw [wi (by omega)]
        refine ih' M1 FY.rf ?_
        unfold backY
        rw [if_neg (by omega)]
        exact hy
  exact e_ye_comeBack _ _ (lp (dn D) 0 M (by omega) FY.rf h2)
end CYE
