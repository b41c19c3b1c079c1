/-! the model's YEARS: a loan comes back, a year goes on, years are lived -/
theorem YPM.fr {D : DT} {M M' : MT} {y : YT} (h : YPM D M y) (f : ∀ q, 112 ≤ q → q ≤ 120 → ∀ k, M' q k = M q k) : YPM D M' y := by
  refine ⟨fun t ht => ?_, fun t ht => (f _ (by omega) (by omega) _).trans (h.2.1 t ht), fun t ht hh => ?_, fun l hl => ?_⟩
  · have := h.1 t ht
    exact ⟨(f _ (by omega) (by omega) _).trans this.1, fun i hi => (f _ (by omega) (by omega) _).trans (this.2 i hi)⟩
  · obtain ⟨a, b, c⟩ := h.2.2.1 t ht hh
    exact ⟨(f _ (by omega) (by omega) _).trans a, (f _ (by omega) (by omega) _).trans b, fun i hi => (f _ (by omega) (by omega) _).trans (c i hi)⟩
  · obtain ⟨a, b, c⟩ := h.2.2.2 l hl
    exact ⟨(f _ (by omega) (by omega) _).trans a, (f _ (by omega) (by omega) _).trans b, (f _ (by omega) (by omega) _).trans c⟩
theorem ar_112 : AR 112 280 := ⟨rfl, by decide⟩
theorem ar_114 : AR 114 240 := ⟨rfl, by decide⟩
theorem ar_108 : AR 108 240 := ⟨rfl, by decide⟩
section CYM2
variable {G : GT} {M : MT} {P : MT → Prop} {D : DT}
theorem c_mo_returns (ok : okD D) (yr t : Nat) (htn : t < dn D) (e : Int) (y : YT) (h1 : MW D M) (h2 : YPM D M y) (h3 : YI D (yr + 1) (yr + 1) y) (c1 : ¬ yH y t = -1 ∧ dL D (yH y t).toNat 0 + dL D (yH y t).toNat 3 - 1 = (yr : Int)) (hp : ∀ M', FM M M' → YPM D M' (backY D e yr t y) → P M') : ClV G J_mo_returns M [pR 101, pI (t : Int), pI e] P := by
  have o1 := ok.1
  have o3 := ok.2.2.2.2.1
  obtain ⟨h, b1, b2, b3, b4, b5, b6⟩ := h3.2.1 t htn c1.1
  have ov := ok.2.2.2.2.2 h b2
  have e2 : backY D e yr t y = (if badY e y t then fu (yN y) t (yE y t) else yN y, fu (yH y) t (-1), yE y, yC y, fu (yB y) h (if badY e y t then 1 else 0), fu (yM y) h (((yN y t).length : Int) - ((yE y t).length : Int))) := by
    unfold backY
    rw [if_pos c1, b1, tN]
  rw [e2] at hp
  have tn0 := h2.1 t htn
  obtain ⟨q1, q2, q3⟩ := h2.2.2.1 t htn c1.1
  have ln := (h3.1 t htn).1.1
  have le := ((h3.1 t htn).2 c1.1).1
  refine e_mo_returns _ _ ⟨⟨by omega, by omega⟩, ⟨by omega, by omega⟩, ?_⟩
  rintro M2 rfl
  rw [tN, q1, b1, tN]
  refine ⟨⟨by omega, by omega⟩, ⟨by omega, by omega⟩, ⟨by omega, by omega⟩, ?_⟩
  rw [mu_o (by decide), mu_o (by decide), tn0.1, q2, w32_s (x := ((yN y t).length : Int) - ((yE y t).length : Int)) (by omega) (by omega)]
  rintro M3 rfl
  refine ⟨⟨by omega, by omega⟩, ⟨by omega, by omega⟩, ?_⟩
  have f3 : ∀ q j, q ≠ 116 → q ≠ 120 → mu (mu M 116 t (-1)) 120 h (((yN y t).length : Int) - ((yE y t).length : Int)) q j = M q j := fun q j a b => by rw [mu_o b, mu_o a]
  rw [f3 113 t (by decide) (by decide), f3 115 t (by decide) (by decide), tn0.1, q2, w32_s (x := 40 * (t : Int)) (by omega) (by omega), show 40 * (t : Int) = ((40 * t : Nat) : Int) by omega]
  refine c_mo_commonOf 112 280 ar_112 114 240 ar_114 (40 * t) (40 * t) (yN y t) (yE y t) (fun j hj => (f3 112 _ (by decide) (by decide)).trans (tn0.2 j hj)) (fun j hj => (f3 114 _ (by decide) (by decide)).trans (q3 j hj)) ln le (by omega) (by omega) (by omega) (by omega) (by omega) (by omega) (fun M4 f4 => ⟨⟨by omega, by omega⟩, ?_⟩)
  have k4 : ∀ q j, q ≠ 116 → q ≠ 120 → q ≠ 122 → M4 q j = M q j := fun q j a b c => (f4 q (by simp; omega) j).trans (f3 q j a b)
  have f04 : FM M M4 := FM.tr (FM.tr (FM.m1 (by omega)) (FM.m1 (by omega))) (FM.fr f4 (by intro q hq; simp at hq; omega))
  rw [k4 115 t (by decide) (by decide) (by decide), q2]
  have d16 : ∀ u, u < dn D → M4 116 u = if fu (yH y) t (-1) u = -1 then -1 else dL D (fu (yH y) t (-1) u).toNat 2 := fun u hu => by
    rw [f4 116 (by simp), mu_o (by decide)]
    by_cases eu : u = t
    · rw [eu, mu_eq, fu_eq, if_pos rfl]
    · rw [mu_k eu, fu_ne eu]
      exact h2.2.1 u hu
  have d20 : ∀ l, l < dl D → M4 120 l = fu (yM y) h (((yN y t).length : Int) - ((yE y t).length : Int)) l := fun l hl => by
    rw [f4 120 (by simp)]
    by_cases el : l = h
    · rw [el, mu_eq, fu_eq]
    · rw [mu_k el, mu_o (by decide), fu_ne el]
      exact (h2.2.2.2 l hl).2.2
  have d17 : ∀ u, u < dn D → ¬ fu (yH y) t (-1) u = -1 → M4 117 u = fu (yH y) t (-1) u ∧ M4 115 u = ((yE y u).length : Int) ∧ SL M4 114 (40 * u) (yE y u) := fun u hu hh => by
    have eu : u ≠ t := fun z => hh (by rw [z, fu_eq])
    rw [fu_ne eu] at hh ⊢
    obtain ⟨a, b, c⟩ := h2.2.2.1 u hu hh
    exact ⟨(k4 117 u (by decide) (by decide) (by decide)).trans a, (k4 115 u (by decide) (by decide) (by decide)).trans b, fun j hj => (k4 114 _ (by decide) (by decide) (by decide)).trans (c j hj)⟩
  have nw4 : ∀ u l, NW M u l → NW M4 u l := fun u l hn => ⟨(k4 113 u (by decide) (by decide) (by decide)).trans hn.1, fun j hj => (k4 112 _ (by decide) (by decide) (by decide)).trans (hn.2 j hj)⟩
  have ls := lcs_sym (yN y t) (yE y t)
  refine c_mo_lesser _ _ ⟨fun c => ?_, fun c => ?_⟩
  · have hb : ¬ badY e y t := by
      rintro ⟨z1, z2⟩
      rw [← ls] at z1 z2
      split at c <;> omega
    refine hp M4 f04 ⟨fun u hu => ?_, fun u hu => d16 u hu, fun u hu hh => d17 u hu hh, fun l hl => ?_⟩
    · show NW M4 u ((if badY e y t then fu (yN y) t (yE y t) else yN y) u)
      rw [if_neg hb]
      exact nw4 _ _ (h2.1 u hu)
    · obtain ⟨a, b, c⟩ := h2.2.2.2 l hl
      refine ⟨(k4 118 l (by decide) (by decide) (by decide)).trans a, ?_, d20 l hl⟩
      rw [k4 119 l (by decide) (by decide) (by decide), b]
      show _ = fu (yB y) h (if badY e y t then 1 else 0) l
      by_cases el : l = h
      · rw [el, fu_eq, if_neg hb, b6]
      · rw [fu_ne el]
  · have hb : badY e y t := by
      refine ⟨?_, ?_⟩
      · rw [← ls]
        split at c <;> omega
      · rw [← ls]
        split at c <;> omega
    refine ⟨⟨by omega, by omega⟩, ?_⟩
    rintro M5 rfl
    have lp : ∀ (d i : Nat) (M6 : MT), i + d = (yE y t).length → FM M M6 → (∀ q j, q ≠ 113 → ¬ (q = 112 ∧ 40 * t ≤ j ∧ j < 40 * t + 40) → M6 q j = mu M4 119 h 1 q j) → (∀ u, M6 113 u = M4 113 u) → SL M6 112 (40 * t) ((yE y t).take i) → WpV G J_mo_returns 92 [(0, pR 101), (1, pI (t : Int)), (5, pI (i : Int))] [] M6 P := by
      intro d
      induction d with
      | zero =>
        intro i M6 hi hf g1 g2 hs
        have e6 : M6 115 t = ((yE y t).length : Int) := by
          rw [g1 115 t (by decide) (by omega), mu_o (by decide), k4 115 t (by decide) (by decide) (by decide), q2]
        refine b_mo_returns_92 _ _ ⟨⟨by omega, by omega⟩, fun _ => ⟨⟨by omega, by omega⟩, ⟨by omega, by omega⟩, ?_⟩, fun c => ?_⟩
        · rintro M7 rfl
          rw [tN, e6]
          rw [List.take_of_length_le (by omega)] at hs
          refine hp _ (FM.tr hf (FM.m1 (by omega))) ⟨fun u hu => ?_, fun u hu => ?_, fun u hu hh => ?_, fun l hl => ?_⟩
          · show NW _ u ((if badY e y t then fu (yN y) t (yE y t) else yN y) u)
            rw [if_pos hb]
            by_cases eu : u = t
            · rw [eu, fu_eq]
              exact ⟨mu_eq _ _ _ _, fun j hj => by rw [mu_o (by decide)]; exact hs j hj⟩
            · rw [fu_ne eu]
              have a := nw4 _ _ (h2.1 u hu)
              have al := (h3.1 u hu).1.1
              exact ⟨by rw [mu_k eu, g2]; exact a.1, fun j hj => by rw [mu_o (by decide), g1 112 _ (by decide) (by omega), mu_o (by decide)]; exact a.2 j hj⟩
          · rw [mu_o (by decide), g1 116 u (by decide) (by omega), mu_o (by decide)]
            exact d16 u hu
          · obtain ⟨a, b, c⟩ := d17 u hu hh
            exact ⟨by rw [mu_o (by decide), g1 117 u (by decide) (by omega), mu_o (by decide)]; exact a, by rw [mu_o (by decide), g1 115 u (by decide) (by omega), mu_o (by decide)]; exact b, fun j hj => by rw [mu_o (by decide), g1 114 _ (by decide) (by omega), mu_o (by decide)]; exact c j hj⟩
          · obtain ⟨a, b, c⟩ := h2.2.2.2 l hl
            refine ⟨?_, ?_, ?_⟩
            · rw [mu_o (by decide), g1 118 l (by decide) (by omega), mu_o (by decide), k4 118 l (by decide) (by decide) (by decide)]
              exact a
            · rw [mu_o (by decide), g1 119 l (by decide) (by omega)]
              show _ = fu (yB y) h (if badY e y t then 1 else 0) l
              by_cases el : l = h
              · rw [el, mu_eq, fu_eq, if_pos hb]
              · rw [mu_k el, fu_ne el, k4 119 l (by decide) (by decide) (by decide)]
                exact b
            · rw [mu_o (by decide), g1 120 l (by decide) (by omega), mu_o (by decide)]
              exact d20 l hl
        · rw [tN, e6] at c
          omega
      | succ d ih =>
        intro i M6 hi hf g1 g2 hs
        have e6 : M6 115 t = ((yE y t).length : Int) := by
          rw [g1 115 t (by decide) (by omega), mu_o (by decide), k4 115 t (by decide) (by decide) (by decide), q2]
        have e7 : M6 114 (40 * t + i) = (yE y t).getD i 0 := by
          rw [g1 114 _ (by decide) (by omega), mu_o (by decide), k4 114 _ (by decide) (by decide) (by decide)]
          exact q3 i (by omega)
        refine b_mo_returns_92 _ _ ⟨⟨by omega, by omega⟩, fun c => ?_, fun _ => ?_⟩
        · rw [tN, e6] at c
          omega
        · rw [ix40 (by omega) (by omega), tN, wi (by omega), e7]
          refine ⟨⟨by omega, by omega⟩, ⟨by omega, by omega⟩, ?_⟩
          rintro M7 rfl
          refine ih (i + 1) _ (by omega) (FM.tr hf (FM.m1 (by omega))) (fun q j a b => ?_) (fun u => by rw [mu_o (by decide)]; exact g2 u) ?_
          · have : mu M6 112 (40 * t + i) ((yE y t).getD i 0) q j = M6 q j := by
              by_cases eq : q = 112
              · rw [eq, mu_k (by omega)]
              · rw [mu_o eq]
            rw [this]
            exact g1 q j a b
          · rw [take_s (by omega)]
            have hh := hs.push (v := (yE y t).getD i 0)
            rw [List.length_take, Nat.min_eq_left (by omega)] at hh
            exact hh
    exact lp (yE y t).length 0 _ (by omega) (FM.tr f04 (FM.m1 (by omega))) (fun _ _ _ _ => rfl) (fun u => mu_o (by decide)) (fun j hj => absurd hj (Nat.not_lt_zero j))
theorem c_mo_goesOn (ok : okD D) (yr : Nat) (hyr : yr < 40) (e : Int) (y : YT) (h1 : MW D M) (h2 : YPM D M y) (h3 : YI D yr yr y) (hp : ∀ M', FM M M' → YPM D M' (yearY D e yr y) → P M') : ClV G J_mo_goesOn M [pR 101, pI (yr : Int), pI e] P := by
  have o1 := ok.1
  have o2 := ok.2.2.1
  have o3 := ok.2.2.2.2.1
  have i1 : YI D ((yr : Int) + 1) yr y := h3.up (by omega) (by omega)
  have i2 := YI.humAll ok ((YI.lendsAll ok i1 (dl D) (Nat.le_refl _)).up (Int.le_refl _) (show (yr : Int) ≤ (yr : Int) + 1 by omega))
  have lp3 : ∀ (d i : Nat) (M1 : MT), i + d = dn D → FM M M1 → YPM D M1 (itr (backY D e yr) i (itr (humY D) (dn D) (itr (lendY D yr) (dl D) y))) → WpV G J_mo_goesOn 72 [(0, pR 101), (1, pI (yr : Int)), (2, pI e), (3, pI (i : Int))] [] M1 P := by
    intro d
    induction d with
    | zero =>
      intro i M1 hi hf hy
      have hc := h1.fm hf
      have hie : i = dn D := by omega
      subst hie
      exact b_mo_goesOn_72 _ _ _ ⟨fun _ => hp M1 hf hy, fun c => by rw [hc.1] at c; omega⟩
    | succ d ih =>
      intro i M1 hi hf hy
      have hc := h1.fm hf
      have hI := YI.backAll ok (e := e) (i2 (dn D) (Nat.le_refl _)) i (by omega)
      have ih' := fun M2 (hf2 : FM M1 M2) (hy2 : YPM D M2 (itr (backY D e yr) (i + 1) (itr (humY D) (dn D) (itr (lendY D yr) (dl D) y)))) => ih (i + 1) M2 (by omega) (hf.tr hf2) hy2
      have il : i < dn D := by omega
      have es : itr (backY D e yr) (i + 1) (itr (humY D) (dn D) (itr (lendY D yr) (dl D) y)) = backY D e yr i (itr (backY D e yr) i (itr (humY D) (dn D) (itr (lendY D yr) (dl D) y))) := rfl
      rw [es] at ih'
      generalize itr (backY D e yr) i (itr (humY D) (dn D) (itr (lendY D yr) (dl D) y)) = yi at *
      have hn := holdY_n ok hI il
      have skip : ¬ (¬ yH yi i = -1 ∧ dL D (yH yi i).toNat 0 + dL D (yH yi i).toNat 3 - 1 = (yr : Int)) → WpV G J_mo_goesOn 72 [(0, pR 101), (1, pI (yr : Int)), (2, pI e), (3, pI (w32 ((i : Int) + 1)))] [] M1 P := by
        intro c
        rw [wi (by omega)]
        refine ih' M1 FM.rf ?_
        unfold backY
        rw [if_neg c]
        exact hy
      refine b_mo_goesOn_72 _ _ _ ⟨fun c => by rw [hc.1] at c; omega, fun _ => ⟨⟨by omega, by omega⟩, ⟨by omega, by omega⟩, ?_⟩⟩
      rw [tN, hy.2.1 i il]
      refine ⟨fun c => skip (fun z => z.1 (hn.mp c)), fun c => ?_⟩
      have hh : ¬ yH yi i = -1 := fun z => c (hn.mpr z)
      obtain ⟨h, b1, b2, b3, b4, b5, b6⟩ := hI.2.1 i il hh
      have ov := ok.2.2.2.2.2 h b2
      have a0 : M1 111 (4 * h) = dL D h 0 := hc.2.2.2.2.2 h b2 0 (by omega)
      rw [(hy.2.2.1 i il hh).1, b1, ix4 (by omega), w3 (by omega), tN, tN, a0, hc.2.2.2.2.2 h b2 3 (by omega), w32_s (x := dL D h 0 + dL D h 3) (by omega) (by omega), w32_s (x := dL D h 0 + dL D h 3 - 1) (by omega) (by omega)]
      refine ⟨⟨by omega, by omega⟩, ⟨by omega, by omega⟩, fun c2 => skip ?_, fun c2 => ?_⟩
      · rw [b1, tN]
        omega
      · rw [wi (by omega)]
        exact c_mo_returns ok yr i il e yi hc hy hI ⟨hh, by rw [b1, tN]; omega⟩ (fun M2 f2 y2 => ih' M2 f2 y2)
  have lp2 : ∀ (d i : Nat) (M1 : MT), i + d = dn D → FM M M1 → YPM D M1 (itr (humY D) i (itr (lendY D yr) (dl D) y)) → WpV G J_mo_goesOn 35 [(0, pR 101), (1, pI (yr : Int)), (2, pI e), (3, pI (i : Int))] [] M1 P := by
    intro d
    induction d with
    | zero =>
      intro i M1 hi hf hy
      have hc := h1.fm hf
      have hie : i = dn D := by omega
      subst hie
      exact b_mo_goesOn_35 _ _ _ ⟨fun _ => lp3 (dn D) 0 M1 (by omega) hf hy, fun c => by rw [hc.1] at c; omega⟩
    | succ d ih =>
      intro i M1 hi hf hy
      have hc := h1.fm hf
      have hI := i2 i (by omega)
      have ih' := fun M2 (hf2 : FM M1 M2) (hy2 : YPM D M2 (itr (humY D) (i + 1) (itr (lendY D yr) (dl D) y))) => ih (i + 1) M2 (by omega) (hf.tr hf2) hy2
      have il : i < dn D := by omega
      have es : itr (humY D) (i + 1) (itr (lendY D yr) (dl D) y) = humY D i (itr (humY D) i (itr (lendY D yr) (dl D) y)) := rfl
      rw [es] at ih'
      generalize itr (humY D) i (itr (lendY D yr) (dl D) y) = yi at *
      have hn := holdY_n ok hI il
      refine b_mo_goesOn_35 _ _ _ ⟨fun c => by rw [hc.1] at c; omega, fun _ => ⟨⟨by omega, by omega⟩, ?_⟩⟩
      rw [tN, hy.2.1 i il, wi (by omega)]
      refine ⟨fun c => ?_, fun c => ⟨⟨by omega, by omega⟩, ?_⟩⟩
      · refine ih' M1 FM.rf ?_
        unfold humY
        rw [if_pos (hn.mp c)]
        exact hy
      · have hh : ¬ yH yi i = -1 := fun z => c (hn.mpr z)
        obtain ⟨h, b1, b2, b3, b4, b5, b6⟩ := hI.2.1 i il hh
        have ov := ok.2.2.2.2.2 h b2
        have eh : holdY D yi i = dL D h 2 := by
          unfold holdY
          rw [if_neg hh, b1, tN]
        have e2 : humY D i yi = (fu (yN yi) i (humB (dB D) (dL D h 2).toNat (yN yi i)), yH yi, yE yi, yC yi, yB yi, yM yi) := by
          unfold humY
          rw [if_neg hh, b1, tN]
        rw [e2] at ih'
        rw [eh]
        obtain ⟨w, hw⟩ : ∃ w : Nat, dL D h 2 = (w : Int) := ⟨(dL D h 2).toNat, by omega⟩
        rw [hw] at ih' ⊢
        rw [tN] at ih'
        have bb := hc.2.2.2.1 w (by omega)
        refine c_mo_hummed i w (by omega) (by omega) (yN yi i) (hI.1 i il).1.1 _ _ _ (hy.1 i il) bb.1 bb.2.1 bb.2.2 (ok.bw w (by omega)) (fun M2 f2 n2 => ?_)
        refine ih' M2 (FM.fn f2) ⟨fun u hu => ?_, fun u hu => ?_, fun u hu hh2 => ?_, fun l hl => ?_⟩
        · show NW M2 u (fu (yN yi) i _ u)
          by_cases eu : u = i
          · rw [eu, fu_eq]
            exact n2
          · rw [fu_ne eu]
            exact (hy.1 u hu).fn (hI.1 u hu).1.1 f2 eu
        · exact (f2 116 u (by omega) (by omega) (by omega)).trans (hy.2.1 u hu)
        · obtain ⟨a, b, c⟩ := hy.2.2.1 u hu hh2
          exact ⟨(f2 117 u (by omega) (by omega) (by omega)).trans a, (f2 115 u (by omega) (by omega) (by omega)).trans b, fun j hj => (f2 114 _ (by omega) (by omega) (by omega)).trans (c j hj)⟩
        · obtain ⟨a, b, c⟩ := hy.2.2.2 l hl
          exact ⟨(f2 118 l (by omega) (by omega) (by omega)).trans a, (f2 119 l (by omega) (by omega) (by omega)).trans b, (f2 120 l (by omega) (by omega) (by omega)).trans c⟩
  have lp1 : ∀ (d i : Nat) (M1 : MT), i + d = dl D → FM M M1 → YPM D M1 (itr (lendY D yr) i y) → WpV G J_mo_goesOn 2 [(0, pR 101), (1, pI (yr : Int)), (2, pI e), (3, pI (i : Int))] [] M1 P := by
    intro d
    induction d with
    | zero =>
      intro i M1 hi hf hy
      have hc := h1.fm hf
      have hie : i = dl D := by omega
      subst hie
      exact b_mo_goesOn_2 _ _ _ ⟨fun _ => lp2 (dn D) 0 M1 (by omega) hf hy, fun c => by rw [hc.2.2.2.2.1] at c; omega⟩
    | succ d ih =>
      intro i M1 hi hf hy
      have hc := h1.fm hf
      have hI := YI.lendsAll ok i1 i (by omega)
      have il : i < dl D := by omega
      have a0 : M1 111 (4 * i) = dL D i 0 := hc.2.2.2.2.2 i il 0 (by omega)
      refine b_mo_goesOn_2 _ _ _ ⟨fun c => by rw [hc.2.2.2.2.1] at c; omega, fun _ => ?_⟩
      rw [ix4 (by omega), tN, a0, wi (by omega)]
      refine ⟨⟨by omega, by omega⟩, fun c => ?_, fun c => ?_⟩
      · refine ih (i + 1) M1 (by omega) hf ?_
        show YPM D M1 (lendY D yr i (itr (lendY D yr) i y))
        unfold lendY
        rw [if_neg (fun z => c z.1.1)]
        exact hy
      · exact c_mo_lends ok yr i il _ hc hy hI c (fun M2 f2 y2 => ih (i + 1) M2 (by omega) (hf.tr f2) y2)
  exact e_mo_goesOn _ _ (lp1 (dl D) 0 M (by omega) FM.rf h2)
theorem c_mo_lives (ok : okD D) (last : Nat) (hla : last < 40) (e : Int) (h1 : MW D M) (hp : ∀ M', FM M M' → YPM D M' (yrs D e (last + 1)) → P M') : ClV G J_mo_lives M [pR 101, pI (last : Int), pI e] P := by
  have lp : ∀ (d i : Nat) (M1 : MT), i + d = last + 1 → FM M M1 → YPM D M1 (yrs D e i) → WpV G J_mo_lives 6 [(0, pR 101), (1, pI (last : Int)), (2, pI e), (3, pI (i : Int))] [] M1 P := by
    intro d
    induction d with
    | zero =>
      intro i M1 hi hf hy
      have hie : i = last + 1 := by omega
      subst hie
      exact b_mo_lives_6 _ _ _ ⟨fun _ => hp M1 hf hy, fun c => absurd c (by omega)⟩
    | succ d ih =>
      intro i M1 hi hf hy
      refine b_mo_lives_6 _ _ _ ⟨fun c => absurd c (by omega), fun _ => ?_⟩
      rw [wi (by omega)]
      exact c_mo_goesOn ok i (by omega) e _ (h1.fm hf) hy (YI.yrs ok e i) (fun M2 f2 y2 => ih (i + 1) M2 (by omega) (hf.tr f2) y2)
  exact e_mo_lives _ _ (c_mo_startsAll ok h1 (fun M1 f1 y1 => lp (last + 1) 0 M1 (by omega) f1 y1))
end CYM2
